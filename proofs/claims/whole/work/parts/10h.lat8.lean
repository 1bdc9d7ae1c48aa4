/-! ===== the reference: takes, inSpan, part ===== -/
def tkq (B : LM) (pv : Nat → Nat) (s : Nat → Int64) (i : Nat) : Int64 := s (pv i) / B i (pv i)
def tks (B : LM) (pv : Nat → Nat) (s : Nat → Int64) : Nat → Nat → Int64
  | 0 => s
  | i + 1 => fun j => tks B pv s i j - tkq B pv (tks B pv s i) i * B i j
def zF (s : Nat → Int64) : Nat → Nat
  | 0 => 1
  | k + 1 => if zF s k = 1 ∧ s k = 0 then 1 else 0
theorem zF_01 (s : Nat → Int64) : ∀ k, zF s k = 0 ∨ zF s k = 1
  | 0 => Or.inr rfl
  | k + 1 => by
    unfold zF
    split
    · exact Or.inr rfl
    · exact Or.inl rfl
theorem s_mTakes {V : GV} {d b i p : Nat} {B : LM} {pv : Nat → Nat} {s : Nat → Int64} {X : XT} {FI AI : FT} {AL : LT} (h : MO X b) (hi : i < 7) (hp : AI (b + 32) i = nI (pv i)) (hp7 : pv i < 7) (hne : ¬ B i (pv i) = 0) (hB : ∀ j, j < 7 → AL (b + 31) (7 * i + j) = B i j) (hs : ∀ j, j < 7 → AL (b + 33) j = s j) : G V m_Mod_takes d 0 [some (.ref b), some (.int (nI i)), none, none, none] [] X FI AI AL (fun r X' FI' AI' AL' => r = some (.long (tkq B pv s i)) ∧ X' = X ∧ FI' = FI ∧ AI' = AI ∧ (∀ j, j < 7 → AL' (b + 33) j = s j - tkq B pv s i * B i j) ∧ ∀ c, c ≠ b + 33 → AL' c = AL c) := by
  have L : ∀ j, j ≤ 7 → ∀ AJ : LT, (∀ c, c ≠ b + 33 → AJ c = AL c) → (∀ x, x < 7 → AJ (b + 33) x = if x < j then s x - tkq B pv s i * B i x else s x) → G V m_Mod_takes d 32 [some (.ref b), some (.int (nI i)), some (.long (tkq B pv s i)), none, some (.int (nI j))] [] X FI AI AJ (fun r X' FI' AI' AL' => r = some (.long (tkq B pv s i)) ∧ X' = X ∧ FI' = FI ∧ AI' = AI ∧ (∀ j, j < 7 → AL' (b + 33) j = s j - tkq B pv s i * B i j) ∧ ∀ c, c ≠ b + 33 → AL' c = AL c) := by
    refine upto ?_ ?_
    · intro AJ k1 k2
      refine G_iload4 34 d_Mod_takes_32 rfl ?_
      refine G_bipushN 7 36 d_Mod_takes_34 rfl rfl ?_
      first | refine G_icgeN 69 39 d_Mod_takes_36 rfl rfl (by omega) (by omega) (fun h36 => ?_) (fun h36 => ?_) | refine G_icge 69 39 d_Mod_takes_36 rfl rfl (fun h36 => ?_) (fun h36 => ?_)
      · refine G_lload2 70 d_Mod_takes_69 rfl ?_
        refine G_lret d_Mod_takes_70 rfl ?_
        exact ⟨rfl, rfl, rfl, rfl, fun j hj => by rw [k2 j hj, if_pos hj], k1⟩
      · omega
    · intro j hj ih AJ k1 k2
      have e1 : AJ (b + 33) j = s j := by rw [k2 j hj, if_neg (by omega)]
      have e2 : AJ (b + 31) (7 * i + j) = B i j := by rw [k1 _ (by omega)]; exact hB j hj
      refine G_iload4 34 d_Mod_takes_32 rfl ?_
      refine G_bipushN 7 36 d_Mod_takes_34 rfl rfl ?_
      first | refine G_icgeN 69 39 d_Mod_takes_36 rfl rfl (by omega) (by omega) (fun h36 => ?_) (fun h36 => ?_) | refine G_icge 69 39 d_Mod_takes_36 rfl rfl (fun h36 => ?_) (fun h36 => ?_)
      · omega
      · refine G_aload0 40 d_Mod_takes_39 rfl ?_
        refine G_getR 43 d_Mod_takes_40 rfl f_Mod_109 rfl h.sh h.f47 ?_
        refine G_iload4 45 d_Mod_takes_43 rfl ?_
        refine G_dup2 46 d_Mod_takes_45 rfl rfl rfl ?_
        refine G_laloadv 47 d_Mod_takes_46 rfl h.s47 (ix_nI (by omega) (by omega)) e1 ?_
        refine G_lload2 48 d_Mod_takes_47 rfl ?_
        refine G_aload0 49 d_Mod_takes_48 rfl ?_
        refine G_getR 52 d_Mod_takes_49 rfl f_Mod_103 rfl h.sh h.f44 ?_
        refine G_bipushN 7 54 d_Mod_takes_52 rfl rfl ?_
        refine G_iload1 55 d_Mod_takes_54 rfl ?_
        first | refine G_imulN 56 d_Mod_takes_55 rfl ?_ | refine G_imul 56 d_Mod_takes_55 rfl ?_
        refine G_iload4 58 d_Mod_takes_56 rfl ?_
        first | refine G_iaddN 59 d_Mod_takes_58 rfl ?_ | refine G_iadd 59 d_Mod_takes_58 rfl ?_
        refine G_laloadv 60 d_Mod_takes_59 rfl h.s44 (ix_nI (by omega) (by omega)) e2 ?_
        refine G_lmul 61 d_Mod_takes_60 rfl ?_
        refine G_lsub 62 d_Mod_takes_61 rfl ?_
        refine G_lastore 63 d_Mod_takes_62 rfl h.s47 (ix_nI (by omega) (by omega)) ?_
        first | refine G_iincN4 66 d_Mod_takes_63 rfl (by decide) rfl ?_ | refine G_iinc4 _ 66 d_Mod_takes_63 rfl (by decide) rfl rfl ?_
        refine G_goto 32 d_Mod_takes_66 rfl ?_
        refine ih _ (fun c hc => by rw [u2_off _ _ _ hc]; exact k1 c hc) (fun x hx => ?_)
        by_cases e : x = j
        · subst e; rw [u2_at, if_pos (by omega)]
        · rw [u2_ix _ _ e, k2 x hx]
          by_cases e7 : x < j
          · rw [if_pos e7, if_pos (by omega)]
          · rw [if_neg e7, if_neg (by omega)]
  have e1 := hs _ hp7
  have e2 := hB _ hp7
  refine G_aload0 1 d_Mod_takes_0 rfl ?_
  refine G_getR 4 d_Mod_takes_1 rfl f_Mod_109 rfl h.sh h.f47 ?_
  refine G_aload0 5 d_Mod_takes_4 rfl ?_
  refine G_getR 8 d_Mod_takes_5 rfl f_Mod_106 rfl h.sh h.f45 ?_
  refine G_iload1 9 d_Mod_takes_8 rfl ?_
  refine G_ialoadv 10 d_Mod_takes_9 rfl h.s45 (ix_nI (by omega) (by omega)) hp ?_
  refine G_laloadv 11 d_Mod_takes_10 rfl h.s47 (ix_nI (by omega) (by omega)) e1 ?_
  refine G_aload0 12 d_Mod_takes_11 rfl ?_
  refine G_getR 15 d_Mod_takes_12 rfl f_Mod_103 rfl h.sh h.f44 ?_
  refine G_bipushN 7 17 d_Mod_takes_15 rfl rfl ?_
  refine G_iload1 18 d_Mod_takes_17 rfl ?_
  first | refine G_imulN 19 d_Mod_takes_18 rfl ?_ | refine G_imul 19 d_Mod_takes_18 rfl ?_
  refine G_aload0 20 d_Mod_takes_19 rfl ?_
  refine G_getR 23 d_Mod_takes_20 rfl f_Mod_106 rfl h.sh h.f45 ?_
  refine G_iload1 24 d_Mod_takes_23 rfl ?_
  refine G_ialoadv 25 d_Mod_takes_24 rfl h.s45 (ix_nI (by omega) (by omega)) hp ?_
  first | refine G_iaddN 26 d_Mod_takes_25 rfl ?_ | refine G_iadd 26 d_Mod_takes_25 rfl ?_
  refine G_laloadv 27 d_Mod_takes_26 rfl h.s44 (ix_nI (by omega) (by omega)) e2 ?_
  refine G_ldiv 28 d_Mod_takes_27 rfl hne ?_
  refine G_lstore2 29 d_Mod_takes_28 rfl (by decide) rfl ?_
  refine G_iconstN 0 30 d_Mod_takes_29 rfl rfl ?_
  refine G_istore4 32 d_Mod_takes_30 rfl (by decide) rfl ?_
  exact L 0 (by omega) AL (fun _ _ => rfl) (fun x hx => by rw [if_neg (by omega)]; exact hs x hx)
/-- the same with what layBasis left -/
theorem LAs.tk {V : GV} {d b w i : Nat} {S : ST} {s : Nat → Int64} {X : XT} {FI FI' AI AI' FJ : FT} {AL AL' AJ : LT} (k : LAs S w b FI FI' AI AI' AL AL') (h : MO X b) (hi : i < (laG (tG S) w).1) (hA : ∀ c, c ≠ b + 33 → AJ c = AL' c) (hs : ∀ j, j < 7 → AJ (b + 33) j = tks (laG (tG S) w).2.1 (laG (tG S) w).2.2 s i j) : G V m_Mod_takes d 0 [some (.ref b), some (.int (nI i)), none, none, none] [] X FJ AI' AJ (fun r X2 FI2 AI2 AL2 => r = some (.long (tkq (laG (tG S) w).2.1 (laG (tG S) w).2.2 (tks (laG (tG S) w).2.1 (laG (tG S) w).2.2 s i) i)) ∧ X2 = X ∧ FI2 = FJ ∧ AI2 = AI' ∧ (∀ j, j < 7 → AL2 (b + 33) j = tks (laG (tG S) w).2.1 (laG (tG S) w).2.2 s (i + 1) j) ∧ ∀ c, c ≠ b + 33 → AL2 c = AJ c) := by
  have h7 := k.le
  obtain ⟨p1, p2, p3⟩ := k.pv i hi
  exact s_mTakes (p := 0) h (by omega) p1 p2 p3 (fun j hj => by rw [hA _ (by omega)]; exact k.bs i j hi hj) hs
theorem LAs.m2 {S : ST} {w b : Nat} {FI FI' AI AI' : FT} {AL AL' AJ : LT} (k : LAs S w b FI FI' AI AI' AL AL') (h : MIv S FI AI AL b) (hA : ∀ c, c ≠ b + 33 → AJ c = AL' c) : MIv S FI' AI' AJ b ∧ fM FI FI' AI AI' AL AJ b := by
  obtain ⟨a, c⟩ := k.mi h
  obtain ⟨a2, c2⟩ := a.la (fun _ _ _ => rfl) (fun _ _ => rfl) (fun x _ _ hx => hA x hx)
  exact ⟨a2, c.tr c2⟩
def s3F (x y z : Int32) (j : Nat) : Int64 := if j = 0 then x.toInt64 else if j = 1 then y.toInt64 else if j = 2 then z.toInt64 else 0
def fInSpan (S : ST) (x y z : Int32) : Int32 × ST := if (bB x (-999) 999 && bB y (-999) 999 && bB z (-999) 999) = true then (nI (zF (tks (laG (tG S) 0).2.1 (laG (tG S) 0).2.2 (s3F x y z) (laG (tG S) 0).1) 7), S) else (-1, S)
noncomputable def fPart (S : ST) (x y z : Int32) : Int64 × ST := if (bB x 1 6 && bN y (tRl S (ni x)).length && bN z (laG (tG S) 1).1) = true then (tkq (laG (tG S) 1).2.1 (laG (tG S) 1).2.2 (tks (laG (tG S) 1).2.1 (laG (tG S) 1).2.2 (fun g => (nI (pw ((tRl S (ni x)).getD (ni y) (0, 0)).1 g) - nI (pw ((tRl S (ni x)).getD (ni y) (0, 0)).2 g)).toInt64) (ni z)) (ni z), S) else (NOl, S)
theorem in999 {x : Int32} : ((-999 : Int64).toInt ≤ x.toInt64.toInt ∧ x.toInt64.toInt ≤ (999 : Int64).toInt) ↔ isB x (-999) 999 := by
  rw [toL, show (-999 : Int64).toInt = -999 from rfl, show (999 : Int64).toInt = 999 from rfl]; rfl
theorem m_inSpan {V : GV} {d b : Nat} {S : ST} {x y z : Int32} {X : XT} {FI AI : FT} {AL : LT} (h : MO X b) (hI : MIv S FI AI AL b) (hW : WS S) : G V m_Mod_inSpan (d + 4) 0 [some (.ref b), some (.int x), some (.int y), some (.int z), none, none, none] [] X FI AI AL (fun r X' FI' AI' AL' => r = some (.int (fInSpan S x y z).1) ∧ X' = X ∧ MIv (fInSpan S x y z).2 FI' AI' AL' b ∧ fM FI FI' AI AI' AL AL' b) := by
  refine G_iload1 1 d_Mod_inSpan_0 rfl ?_
  refine G_i2l 2 d_Mod_inSpan_1 rfl ?_
  refine G_ldc2 5 d_Mod_inSpan_2 rfl k_Mod_186 ?_
  refine G_ldc2 8 d_Mod_inSpan_5 rfl k_Mod_188 ?_
  refine G_invS3b 11 d_Mod_inSpan_8 rfl e_Mod_139 M_Mod_in (Nat.le_of_ble_eq_true rfl) (Nat.le_of_ble_eq_true rfl) rfl (s_mIn) (fun h8 => G_ifeq1 14 d_Mod_inSpan_11 42 rfl rfl ?_) (fun h8 => G_ifeq0 14 d_Mod_inSpan_11 42 rfl rfl ?_)
  · have q1 := bB_iff.mpr (in999.mp h8)
    refine G_iload2 15 d_Mod_inSpan_14 rfl ?_
    refine G_i2l 16 d_Mod_inSpan_15 rfl ?_
    refine G_ldc2 19 d_Mod_inSpan_16 rfl k_Mod_186 ?_
    refine G_ldc2 22 d_Mod_inSpan_19 rfl k_Mod_188 ?_
    refine G_invS3b 25 d_Mod_inSpan_22 rfl e_Mod_139 M_Mod_in (Nat.le_of_ble_eq_true rfl) (Nat.le_of_ble_eq_true rfl) rfl (s_mIn) (fun h22 => G_ifeq1 28 d_Mod_inSpan_25 42 rfl rfl ?_) (fun h22 => G_ifeq0 28 d_Mod_inSpan_25 42 rfl rfl ?_)
    · have q2 := bB_iff.mpr (in999.mp h22)
      refine G_iload3 29 d_Mod_inSpan_28 rfl ?_
      refine G_i2l 30 d_Mod_inSpan_29 rfl ?_
      refine G_ldc2 33 d_Mod_inSpan_30 rfl k_Mod_186 ?_
      refine G_ldc2 36 d_Mod_inSpan_33 rfl k_Mod_188 ?_
      refine G_invS3b 39 d_Mod_inSpan_36 rfl e_Mod_139 M_Mod_in (Nat.le_of_ble_eq_true rfl) (Nat.le_of_ble_eq_true rfl) rfl (s_mIn) (fun h36 => G_ifne1 42 d_Mod_inSpan_39 44 rfl rfl ?_) (fun h36 => G_ifne0 42 d_Mod_inSpan_39 44 rfl rfl ?_)
      · have q3 := bB_iff.mpr (in999.mp h36)
        have eF : fInSpan S x y z = (nI (zF (tks (laG (tG S) 0).2.1 (laG (tG S) 0).2.2 (s3F x y z) (laG (tG S) 0).1) 7), S) := by unfold fInSpan; rw [q1, q2, q3]; rfl
        rw [eF]
        have hlb := s_layS (V := V) (d := d) (w := 0) h hI hW (by omega)
        refine G_aload0 45 d_Mod_inSpan_44 rfl ?_
        refine G_iconstN 0 46 d_Mod_inSpan_45 rfl rfl ?_
        refine G_invV1 49 d_Mod_inSpan_46 rfl e_Mod_429 M_Mod_layBasis rfl h.sh (Nat.le_of_ble_eq_true rfl) (Nat.le_of_ble_eq_true rfl) rfl (G.conseq (hlb) (fun r46 X46 FI46 AI46 AL46 h46 => ?_))
        obtain ⟨a1, a2, k⟩ := h46
        replace a2 := a2.symm
        subst a1 a2
        have r46 := k.rk
        have hm7 := k.le
        have L3 : ∀ (AJ : LT), (∀ c, c ≠ b + 33 → AJ c = AL46 c) → (∀ j, j < 7 → AJ (b + 33) j = tks (laG (tG S) 0).2.1 (laG (tG S) 0).2.2 (s3F x y z) (laG (tG S) 0).1 j) → ∀ j, j ≤ 7 → ∀ v6 : Option Value, G V m_Mod_inSpan (d + 4) 137 [some (.ref b), some (.int x), some (.int y), some (.int z), some (.int (nI (zF (tks (laG (tG S) 0).2.1 (laG (tG S) 0).2.2 (s3F x y z) (laG (tG S) 0).1) j))), some (.int (nI j)), v6] [] X FI46 AI46 AJ (fun r X' FI' AI' AL' => r = some (.int (nI (zF (tks (laG (tG S) 0).2.1 (laG (tG S) 0).2.2 (s3F x y z) (laG (tG S) 0).1) 7), S).1) ∧ X' = X ∧ MIv (nI (zF (tks (laG (tG S) 0).2.1 (laG (tG S) 0).2.2 (s3F x y z) (laG (tG S) 0).1) 7), S).2 FI' AI' AL' b ∧ fM FI FI' AI AI' AL AL' b) := by
          intro AJ k1 k2
          obtain ⟨hI2, hF2⟩ := k.m2 hI k1
          refine upto ?_ ?_
          · intro v6
            refine G_iload5 139 d_Mod_inSpan_137 rfl ?_
            refine G_bipushN 7 141 d_Mod_inSpan_139 rfl rfl ?_
            first | refine G_icgeN 174 144 d_Mod_inSpan_141 rfl rfl (by omega) (by omega) (fun h141 => ?_) (fun h141 => ?_) | refine G_icge 174 144 d_Mod_inSpan_141 rfl rfl (fun h141 => ?_) (fun h141 => ?_)
            · rcases zF_01 (tks (laG (tG S) 0).2.1 (laG (tG S) 0).2.2 (s3F x y z) (laG (tG S) 0).1) 7 with e | e
              · rw [e]
                refine G_iload4 176 d_Mod_inSpan_174 rfl ?_
                refine G_ifeq 183 179 d_Mod_inSpan_176 rfl rfl (fun h176 => ?_) (fun h176 => ?_)
                · refine G_iconstN 0 184 d_Mod_inSpan_183 rfl rfl ?_
                  refine G_iret d_Mod_inSpan_184 rfl ?_
                  exact ⟨rfl, rfl, hI2, hF2⟩
                · exact absurd rfl h176
              · rw [e]
                refine G_iload4 176 d_Mod_inSpan_174 rfl ?_
                refine G_ifeq 183 179 d_Mod_inSpan_176 rfl rfl (fun h176 => ?_) (fun h176 => ?_)
                · exact absurd h176 (by decide)
                · refine G_iconstN 1 180 d_Mod_inSpan_179 rfl rfl ?_
                  refine G_goto 184 d_Mod_inSpan_180 rfl ?_
                  refine G_iret d_Mod_inSpan_184 rfl ?_
                  exact ⟨rfl, rfl, hI2, hF2⟩
            · omega
          · intro j hj ih v6
            have ej := k2 j hj
            rw [zF] at ih
            refine G_iload5 139 d_Mod_inSpan_137 rfl ?_
            refine G_bipushN 7 141 d_Mod_inSpan_139 rfl rfl ?_
            first | refine G_icgeN 174 144 d_Mod_inSpan_141 rfl rfl (by omega) (by omega) (fun h141 => ?_) (fun h141 => ?_) | refine G_icge 174 144 d_Mod_inSpan_141 rfl rfl (fun h141 => ?_) (fun h141 => ?_)
            · omega
            · rcases zF_01 (tks (laG (tG S) 0).2.1 (laG (tG S) 0).2.2 (s3F x y z) (laG (tG S) 0).1) j with e | e
              · rw [if_neg (fun q => by omega)] at ih
                rw [e]
                refine G_iload4 146 d_Mod_inSpan_144 rfl ?_
                refine G_ifeq 165 149 d_Mod_inSpan_146 rfl rfl (fun h146 => ?_) (fun h146 => ?_)
                · refine G_iconstN 0 166 d_Mod_inSpan_165 rfl rfl ?_
                  refine G_istore4 168 d_Mod_inSpan_166 rfl (by decide) rfl ?_
                  first | refine G_iincN5 171 d_Mod_inSpan_168 rfl (by decide) rfl ?_ | refine G_iinc5 _ 171 d_Mod_inSpan_168 rfl (by decide) rfl rfl ?_
                  refine G_goto 137 d_Mod_inSpan_171 rfl ?_
                  exact ih _
                · exact absurd rfl h146
              · rw [e]
                refine G_iload4 146 d_Mod_inSpan_144 rfl ?_
                refine G_ifeq 165 149 d_Mod_inSpan_146 rfl rfl (fun h146 => ?_) (fun h146 => ?_)
                · exact absurd h146 (by decide)
                · refine G_aload0 150 d_Mod_inSpan_149 rfl ?_
                  refine G_getR 153 d_Mod_inSpan_150 rfl f_Mod_109 rfl h.sh h.f47 ?_
                  refine G_iload5 155 d_Mod_inSpan_153 rfl ?_
                  refine G_laloadv 156 d_Mod_inSpan_155 rfl h.s47 (ix_nI (by omega) (by omega)) ej ?_
                  refine G_lconst 0 157 d_Mod_inSpan_156 rfl rfl ?_
                  refine G_lcne 165 161 d_Mod_inSpan_157 d_Mod_inSpan_158 rfl rfl (fun h157 => ?_) (fun h157 => ?_)
                  · rw [if_neg (fun q => h157 q.2)] at ih
                    refine G_iconstN 0 166 d_Mod_inSpan_165 rfl rfl ?_
                    refine G_istore4 168 d_Mod_inSpan_166 rfl (by decide) rfl ?_
                    first | refine G_iincN5 171 d_Mod_inSpan_168 rfl (by decide) rfl ?_ | refine G_iinc5 _ 171 d_Mod_inSpan_168 rfl (by decide) rfl rfl ?_
                    refine G_goto 137 d_Mod_inSpan_171 rfl ?_
                    exact ih _
                  · rw [if_pos ⟨e, h157⟩] at ih
                    refine G_iconstN 1 162 d_Mod_inSpan_161 rfl rfl ?_
                    refine G_goto 166 d_Mod_inSpan_162 rfl ?_
                    refine G_istore4 168 d_Mod_inSpan_166 rfl (by decide) rfl ?_
                    first | refine G_iincN5 171 d_Mod_inSpan_168 rfl (by decide) rfl ?_ | refine G_iinc5 _ 171 d_Mod_inSpan_168 rfl (by decide) rfl rfl ?_
                    refine G_goto 137 d_Mod_inSpan_171 rfl ?_
                    exact ih _
        have L2 : ∀ i, i ≤ (laG (tG S) 0).1 → ∀ (v5 v6 : Option Value) (AJ : LT), (∀ c, c ≠ b + 33 → AJ c = AL46 c) → (∀ j, j < 7 → AJ (b + 33) j = tks (laG (tG S) 0).2.1 (laG (tG S) 0).2.2 (s3F x y z) i j) → G V m_Mod_inSpan (d + 4) 108 [some (.ref b), some (.int x), some (.int y), some (.int z), some (.int (nI i)), v5, v6] [] X FI46 AI46 AJ (fun r X' FI' AI' AL' => r = some (.int (nI (zF (tks (laG (tG S) 0).2.1 (laG (tG S) 0).2.2 (s3F x y z) (laG (tG S) 0).1) 7), S).1) ∧ X' = X ∧ MIv (nI (zF (tks (laG (tG S) 0).2.1 (laG (tG S) 0).2.2 (s3F x y z) (laG (tG S) 0).1) 7), S).2 FI' AI' AL' b ∧ fM FI FI' AI AI' AL AL' b) := by
          refine upto ?_ ?_
          · intro v5 v6 AJ k1 k2
            refine G_iload4 110 d_Mod_inSpan_108 rfl ?_
            refine G_aload0 111 d_Mod_inSpan_110 rfl ?_
            refine G_getIv 114 d_Mod_inSpan_111 rfl f_Mod_426 rfl h.sh r46 ?_
            first | refine G_icgeN 131 117 d_Mod_inSpan_114 rfl rfl (by omega) (by omega) (fun h114 => ?_) (fun h114 => ?_) | refine G_icge 131 117 d_Mod_inSpan_114 rfl rfl (fun h114 => ?_) (fun h114 => ?_)
            · refine G_iconstN 1 132 d_Mod_inSpan_131 rfl rfl ?_
              refine G_istore4 134 d_Mod_inSpan_132 rfl (by decide) rfl ?_
              refine G_iconstN 0 135 d_Mod_inSpan_134 rfl rfl ?_
              refine G_istore5 137 d_Mod_inSpan_135 rfl (by decide) rfl ?_
              exact L3 AJ k1 k2 0 (by omega) _
            · omega
          · intro i hi ih v5 v6 AJ k1 k2
            have htk := k.tk (V := V) (d := d + 3) (FJ := FI46) (s := s3F x y z) h hi k1 k2
            refine G_iload4 110 d_Mod_inSpan_108 rfl ?_
            refine G_aload0 111 d_Mod_inSpan_110 rfl ?_
            refine G_getIv 114 d_Mod_inSpan_111 rfl f_Mod_426 rfl h.sh r46 ?_
            first | refine G_icgeN 131 117 d_Mod_inSpan_114 rfl rfl (by omega) (by omega) (fun h114 => ?_) (fun h114 => ?_) | refine G_icge 131 117 d_Mod_inSpan_114 rfl rfl (fun h114 => ?_) (fun h114 => ?_)
            · omega
            · refine G_aload0 118 d_Mod_inSpan_117 rfl ?_
              refine G_iload4 120 d_Mod_inSpan_118 rfl ?_
              refine G_invV1 123 d_Mod_inSpan_120 rfl e_Mod_432 M_Mod_takes rfl h.sh (Nat.le_of_ble_eq_true rfl) (Nat.le_of_ble_eq_true rfl) rfl (G.conseq (htk) (fun r120 X120 FI120 AI120 AL120 h120 => ?_))
              obtain ⟨c1, c2, c3, c4, c5, c6⟩ := h120
              replace c2 := c2.symm
              replace c3 := c3.symm
              replace c4 := c4.symm
              subst c1 c2 c3 c4
              refine G_lstore5 125 d_Mod_inSpan_123 rfl (by decide) rfl ?_
              first | refine G_iincN4 128 d_Mod_inSpan_125 rfl (by decide) rfl ?_ | refine G_iinc4 _ 128 d_Mod_inSpan_125 rfl (by decide) rfl rfl ?_
              refine G_goto 108 d_Mod_inSpan_128 rfl ?_
              exact ih _ _ _ (fun c hc => by rw [c6 c hc]; exact k1 c hc) c5
        have L1 : ∀ j, j ≤ 7 → ∀ (AJ : LT), (∀ c, c ≠ b + 33 → AJ c = AL46 c) → (∀ q, q < j → AJ (b + 33) q = s3F x y z q) → G V m_Mod_inSpan (d + 4) 52 [some (.ref b), some (.int x), some (.int y), some (.int z), some (.int (nI j)), none, none] [] X FI46 AI46 AJ (fun r X' FI' AI' AL' => r = some (.int (nI (zF (tks (laG (tG S) 0).2.1 (laG (tG S) 0).2.2 (s3F x y z) (laG (tG S) 0).1) 7), S).1) ∧ X' = X ∧ MIv (nI (zF (tks (laG (tG S) 0).2.1 (laG (tG S) 0).2.2 (s3F x y z) (laG (tG S) 0).1) 7), S).2 FI' AI' AL' b ∧ fM FI FI' AI AI' AL AL' b) := by
          refine upto ?_ ?_
          · intro AJ k1 k2
            refine G_iload4 54 d_Mod_inSpan_52 rfl ?_
            refine G_bipushN 7 56 d_Mod_inSpan_54 rfl rfl ?_
            first | refine G_icgeN 105 59 d_Mod_inSpan_56 rfl rfl (by omega) (by omega) (fun h56 => ?_) (fun h56 => ?_) | refine G_icge 105 59 d_Mod_inSpan_56 rfl rfl (fun h56 => ?_) (fun h56 => ?_)
            · refine G_iconstN 0 106 d_Mod_inSpan_105 rfl rfl ?_
              refine G_istore4 108 d_Mod_inSpan_106 rfl (by decide) rfl ?_
              exact L2 0 (by omega) _ _ AJ k1 k2
            · omega
          · intro j hj ih AJ k1 k2
            have fin : ∀ v : Int64, v = s3F x y z j → G V m_Mod_inSpan (d + 4) 52 [some (.ref b), some (.int x), some (.int y), some (.int z), some (.int (nI (j + 1))), none, none] [] X FI46 AI46 (u2 AJ (b + 33) j v) (fun r X' FI' AI' AL' => r = some (.int (nI (zF (tks (laG (tG S) 0).2.1 (laG (tG S) 0).2.2 (s3F x y z) (laG (tG S) 0).1) 7), S).1) ∧ X' = X ∧ MIv (nI (zF (tks (laG (tG S) 0).2.1 (laG (tG S) 0).2.2 (s3F x y z) (laG (tG S) 0).1) 7), S).2 FI' AI' AL' b ∧ fM FI FI' AI AI' AL AL' b) := by
              intro v ev
              refine ih _ (fun c hc => by rw [u2_off _ _ _ hc]; exact k1 c hc) (fun q hq => ?_)
              by_cases e : q = j
              · subst e; rw [u2_at]; exact ev
              · rw [u2_ix _ _ e]; exact k2 q (by omega)
            refine G_iload4 54 d_Mod_inSpan_52 rfl ?_
            refine G_bipushN 7 56 d_Mod_inSpan_54 rfl rfl ?_
            first | refine G_icgeN 105 59 d_Mod_inSpan_56 rfl rfl (by omega) (by omega) (fun h56 => ?_) (fun h56 => ?_) | refine G_icge 105 59 d_Mod_inSpan_56 rfl rfl (fun h56 => ?_) (fun h56 => ?_)
            · omega
            · have hj4 : j = 0 ∨ j = 1 ∨ j = 2 ∨ 3 ≤ j := by omega
              rcases hj4 with rfl | rfl | rfl | hj3
              · refine G_aload0 60 d_Mod_inSpan_59 rfl ?_
                refine G_getR 63 d_Mod_inSpan_60 rfl f_Mod_109 rfl h.sh h.f47 ?_
                refine G_iload4 65 d_Mod_inSpan_63 rfl ?_
                refine G_iload4 67 d_Mod_inSpan_65 rfl ?_
                refine G_ifne 75 70 d_Mod_inSpan_67 rfl rfl (fun h67 => ?_) (fun h67 => ?_)
                · exact absurd rfl h67
                · refine G_iload1 71 d_Mod_inSpan_70 rfl ?_
                  refine G_i2l 72 d_Mod_inSpan_71 rfl ?_
                  refine G_goto 98 d_Mod_inSpan_72 rfl ?_
                  refine G_lastore 99 d_Mod_inSpan_98 rfl h.s47 (ix_nI (by omega) (by omega)) ?_
                  first | refine G_iincN4 102 d_Mod_inSpan_99 rfl (by decide) rfl ?_ | refine G_iinc4 _ 102 d_Mod_inSpan_99 rfl (by decide) rfl rfl ?_
                  refine G_goto 52 d_Mod_inSpan_102 rfl ?_
                  exact fin _ rfl
              · refine G_aload0 60 d_Mod_inSpan_59 rfl ?_
                refine G_getR 63 d_Mod_inSpan_60 rfl f_Mod_109 rfl h.sh h.f47 ?_
                refine G_iload4 65 d_Mod_inSpan_63 rfl ?_
                refine G_iload4 67 d_Mod_inSpan_65 rfl ?_
                refine G_ifne 75 70 d_Mod_inSpan_67 rfl rfl (fun h67 => ?_) (fun h67 => ?_)
                · refine G_iload4 77 d_Mod_inSpan_75 rfl ?_
                  refine G_iconstN 1 78 d_Mod_inSpan_77 rfl rfl ?_
                  first | refine G_icneN 86 81 d_Mod_inSpan_78 rfl rfl (by omega) (by omega) (fun h78 => ?_) (fun h78 => ?_) | refine G_icne 86 81 d_Mod_inSpan_78 rfl rfl (fun h78 => ?_) (fun h78 => ?_)
                  · exact absurd rfl h78
                  · refine G_iload2 82 d_Mod_inSpan_81 rfl ?_
                    refine G_i2l 83 d_Mod_inSpan_82 rfl ?_
                    refine G_goto 98 d_Mod_inSpan_83 rfl ?_
                    refine G_lastore 99 d_Mod_inSpan_98 rfl h.s47 (ix_nI (by omega) (by omega)) ?_
                    first | refine G_iincN4 102 d_Mod_inSpan_99 rfl (by decide) rfl ?_ | refine G_iinc4 _ 102 d_Mod_inSpan_99 rfl (by decide) rfl rfl ?_
                    refine G_goto 52 d_Mod_inSpan_102 rfl ?_
                    exact fin _ rfl
                · exact absurd h67 (by decide)
              · refine G_aload0 60 d_Mod_inSpan_59 rfl ?_
                refine G_getR 63 d_Mod_inSpan_60 rfl f_Mod_109 rfl h.sh h.f47 ?_
                refine G_iload4 65 d_Mod_inSpan_63 rfl ?_
                refine G_iload4 67 d_Mod_inSpan_65 rfl ?_
                refine G_ifne 75 70 d_Mod_inSpan_67 rfl rfl (fun h67 => ?_) (fun h67 => ?_)
                · refine G_iload4 77 d_Mod_inSpan_75 rfl ?_
                  refine G_iconstN 1 78 d_Mod_inSpan_77 rfl rfl ?_
                  first | refine G_icneN 86 81 d_Mod_inSpan_78 rfl rfl (by omega) (by omega) (fun h78 => ?_) (fun h78 => ?_) | refine G_icne 86 81 d_Mod_inSpan_78 rfl rfl (fun h78 => ?_) (fun h78 => ?_)
                  · refine G_iload4 88 d_Mod_inSpan_86 rfl ?_
                    refine G_iconstN 2 89 d_Mod_inSpan_88 rfl rfl ?_
                    first | refine G_icneN 97 92 d_Mod_inSpan_89 rfl rfl (by omega) (by omega) (fun h89 => ?_) (fun h89 => ?_) | refine G_icne 97 92 d_Mod_inSpan_89 rfl rfl (fun h89 => ?_) (fun h89 => ?_)
                    · exact absurd rfl h89
                    · refine G_iload3 93 d_Mod_inSpan_92 rfl ?_
                      refine G_i2l 94 d_Mod_inSpan_93 rfl ?_
                      refine G_goto 98 d_Mod_inSpan_94 rfl ?_
                      refine G_lastore 99 d_Mod_inSpan_98 rfl h.s47 (ix_nI (by omega) (by omega)) ?_
                      first | refine G_iincN4 102 d_Mod_inSpan_99 rfl (by decide) rfl ?_ | refine G_iinc4 _ 102 d_Mod_inSpan_99 rfl (by decide) rfl rfl ?_
                      refine G_goto 52 d_Mod_inSpan_102 rfl ?_
                      exact fin _ rfl
                  · omega
                · exact absurd h67 (by decide)
              · refine G_aload0 60 d_Mod_inSpan_59 rfl ?_
                refine G_getR 63 d_Mod_inSpan_60 rfl f_Mod_109 rfl h.sh h.f47 ?_
                refine G_iload4 65 d_Mod_inSpan_63 rfl ?_
                refine G_iload4 67 d_Mod_inSpan_65 rfl ?_
                refine G_ifne 75 70 d_Mod_inSpan_67 rfl rfl (fun h67 => ?_) (fun h67 => ?_)
                · refine G_iload4 77 d_Mod_inSpan_75 rfl ?_
                  refine G_iconstN 1 78 d_Mod_inSpan_77 rfl rfl ?_
                  first | refine G_icneN 86 81 d_Mod_inSpan_78 rfl rfl (by omega) (by omega) (fun h78 => ?_) (fun h78 => ?_) | refine G_icne 86 81 d_Mod_inSpan_78 rfl rfl (fun h78 => ?_) (fun h78 => ?_)
                  · refine G_iload4 88 d_Mod_inSpan_86 rfl ?_
                    refine G_iconstN 2 89 d_Mod_inSpan_88 rfl rfl ?_
                    first | refine G_icneN 97 92 d_Mod_inSpan_89 rfl rfl (by omega) (by omega) (fun h89 => ?_) (fun h89 => ?_) | refine G_icne 97 92 d_Mod_inSpan_89 rfl rfl (fun h89 => ?_) (fun h89 => ?_)
                    · refine G_lconst 0 98 d_Mod_inSpan_97 rfl rfl ?_
                      refine G_lastore 99 d_Mod_inSpan_98 rfl h.s47 (ix_nI (by omega) (by omega)) ?_
                      first | refine G_iincN4 102 d_Mod_inSpan_99 rfl (by decide) rfl ?_ | refine G_iinc4 _ 102 d_Mod_inSpan_99 rfl (by decide) rfl rfl ?_
                      refine G_goto 52 d_Mod_inSpan_102 rfl ?_
                      exact fin _ (by unfold s3F; rw [if_neg (by omega), if_neg (by omega), if_neg (by omega)])
                    · omega
                  · omega
                · exact absurd h67 (nI_ne0 (by omega) (by omega))
        refine G_iconstN 0 50 d_Mod_inSpan_49 rfl rfl ?_
        refine G_istore4 52 d_Mod_inSpan_50 rfl (by decide) rfl ?_
        exact L1 0 (by omega) AL46 (fun _ _ => rfl) (fun q hq => by omega)
      · have q3 := bB_f (fun e => h36 (in999.mpr e))
        have eF : fInSpan S x y z = (-1, S) := by unfold fInSpan; rw [q3, Bool.and_false]; rfl
        rw [eF]
        refine G_iconst (-1) 43 d_Mod_inSpan_42 rfl rfl ?_
        refine G_iret d_Mod_inSpan_43 rfl ?_
        exact ⟨rfl, rfl, hI, fM.rf⟩
    · have q2 := bB_f (fun e => h22 (in999.mpr e))
      have eF : fInSpan S x y z = (-1, S) := by unfold fInSpan; rw [q2, Bool.and_false, Bool.false_and]; rfl
      rw [eF]
      refine G_iconst (-1) 43 d_Mod_inSpan_42 rfl rfl ?_
      refine G_iret d_Mod_inSpan_43 rfl ?_
      exact ⟨rfl, rfl, hI, fM.rf⟩
  · have q1 := bB_f (fun e => h8 (in999.mpr e))
    have eF : fInSpan S x y z = (-1, S) := by unfold fInSpan; rw [q1, Bool.false_and, Bool.false_and]; rfl
    rw [eF]
    refine G_iconst (-1) 43 d_Mod_inSpan_42 rfl rfl ?_
    refine G_iret d_Mod_inSpan_43 rfl ?_
    exact ⟨rfl, rfl, hI, fM.rf⟩
def tkl (B : LM) (pv : Nat → Nat) (s : Nat → Int64) : Nat → Int64
  | 0 => 0
  | k + 1 => tkq B pv (tks B pv s k) k
theorem m_part {V : GV} {d b : Nat} {S : ST} {x y z : Int32} {X : XT} {FI AI : FT} {AL : LT} (h : MO X b) (hI : MIv S FI AI AL b) (hW : WS S) : G V m_Mod_part (d + 7) 0 [some (.ref b), some (.int x), some (.int y), some (.int z), none, none, none] [] X FI AI AL (fun r X' FI' AI' AL' => r = some (.long (fPart S x y z).1) ∧ X' = X ∧ MIv (fPart S x y z).2 FI' AI' AL' b ∧ fM FI FI' AI AI' AL AL' b) := by
  obtain ⟨hG, hO, hSl, -⟩ := id hI
  have hT := hG.1
  have hn9 := hG.2.1
  have ho := hG.2.2.1
  have hrk := hG.2.2.2.1
  have hn7 := hW.2.1.1
  have hgl := hG.gl hW.2.1
  have hinj := hW.2.1.2.2
  have hl2 : ∀ i, i < gN (tG S) → gL (tG S) i < 84 ∧ 1 ≤ eD (gL (tG S) i) := fun i hi => (hgl i hi).2
  have hlen : ∀ t, t < 84 → (RN (leadL (gL (tG S)) (gN (tG S))) t).length ≤ 120 := fun t ht => by rw [RN, List.length_map]; exact RT_128 hn7 hl2 hinj ht
  have no : fPart S x y z = (NOl, S) → G V m_Mod_part (d + 7) 16 [some (.ref b), some (.int x), some (.int y), some (.int z), none, none, none] [] X FI AI AL (fun r X' FI' AI' AL' => r = some (.long (fPart S x y z).1) ∧ X' = X ∧ MIv (fPart S x y z).2 FI' AI' AL' b ∧ fM FI FI' AI AI' AL AL' b) := by
    intro e
    rw [e]
    refine G_ldc2 19 d_Mod_part_16 rfl k_Mod_235 ?_
    refine G_lret d_Mod_part_19 rfl ?_
    exact ⟨rfl, rfl, hI, fM.rf⟩
  refine G_iload1 1 d_Mod_part_0 rfl ?_
  refine G_invS1b 4 d_Mod_part_1 rfl e_Mod_385 M_Mod_isBound (Nat.le_of_ble_eq_true rfl) (Nat.le_of_ble_eq_true rfl) rfl (s_mIsBound) (fun h1 => G_ifeq1 7 d_Mod_part_4 16 rfl rfl ?_) (fun h1 => G_ifeq0 7 d_Mod_part_4 16 rfl rfl ?_)
  · obtain ⟨e, e1, e6, e31, rfl⟩ := isB_n (lo := 1) (hi := 6) h1
    have q0 : bB (nI e) 1 6 = true := bB_iff.mpr h1
    have z0 := ni_nI e31
    have hir := s_mIsRelation (V := V) (d0 := d) (d := e) (x := y) (FI := FI) (AL := AL) h hT ho hrk e6 hn9 hn7 hgl hinj
    have hLn := rlD_len (o := tO S) (d := e) (Ls := leadL (gL (tG S)) (gN (tG S))) ho hlen 84 (Nat.le_refl _)
    have eR : tRl S e = rlD (tO S) (leadL (gL (tG S)) (gN (tG S))) e 84 := rfl
    rw [← eR] at hir hLn
    refine G_aload0 8 d_Mod_part_7 rfl ?_
    refine G_iload1 9 d_Mod_part_8 rfl ?_
    refine G_iload2 10 d_Mod_part_9 rfl ?_
    refine G_invV2 13 d_Mod_part_10 rfl e_Mod_388 M_Mod_isRelation rfl h.sh (Nat.le_of_ble_eq_true rfl) (Nat.le_of_ble_eq_true rfl) rfl (G.conseq (hir) (fun r10 X10 FI10 AI10 AL10 h10 => ?_))
    obtain ⟨u1, u2', u3, u4⟩ := h10
    replace u1 := u1.symm
    replace u2' := u2'.symm
    subst u1 u2'
    have hI1 := hI.nr u3
    rcases u4 with ⟨i, q, rfl, i31, hq, rfl, w0, w1⟩ | ⟨rfl, hno⟩
    · have hil := (List.getElem?_eq_some_iff.mp hq).1
      have q4 := bN_t hil (show (tRl S e).length < 2 ^ 31 by omega)
      have z4 := ni_nI i31
      have gd : (tRl S e).getD i (0, 0) = q := by rw [List.getD_eq_getElem?_getD, hq]; rfl
      have hlb := s_layS (V := V) (d := d + 3) (w := 1) h hI1 hW (by omega)
      refine G_ifne 20 16 d_Mod_part_13 rfl rfl (fun h13 => ?_) (fun h13 => ?_)
      · refine G_aload0 21 d_Mod_part_20 rfl ?_
        refine G_iconstN 1 22 d_Mod_part_21 rfl rfl ?_
        refine G_invV1 25 d_Mod_part_22 rfl e_Mod_429 M_Mod_layBasis rfl h.sh (Nat.le_of_ble_eq_true rfl) (Nat.le_of_ble_eq_true rfl) rfl (G.conseq (hlb) (fun r22 X22 FI22 AI22 AL22 h22 => ?_))
        obtain ⟨a1, a2, k⟩ := h22
        replace a2 := a2.symm
        subst a1 a2
        have r46 := k.rk
        have hm7 := k.le
        have hf0 := u3.fm (AL := AL)
        refine G_iload3 26 d_Mod_part_25 rfl ?_
        refine G_i2l 27 d_Mod_part_26 rfl ?_
        refine G_lconst 0 28 d_Mod_part_27 rfl rfl ?_
        refine G_aload0 29 d_Mod_part_28 rfl ?_
        refine G_getIv 32 d_Mod_part_29 rfl f_Mod_426 rfl h.sh r46 ?_
        refine G_iconstN 1 33 d_Mod_part_32 rfl rfl ?_
        first | refine G_isubN 34 d_Mod_part_33 rfl (by omega) ?_ | refine G_isub 34 d_Mod_part_33 rfl ?_
        refine G_i2l 35 d_Mod_part_34 rfl ?_
        refine G_invS3b 38 d_Mod_part_35 rfl e_Mod_139 M_Mod_in (Nat.le_of_ble_eq_true rfl) (Nat.le_of_ble_eq_true rfl) rfl (s_mIn) (fun h35 => G_ifne1 41 d_Mod_part_38 45 rfl rfl ?_) (fun h35 => G_ifne0 41 d_Mod_part_38 45 rfl rfl ?_)
        · obtain ⟨l, hl, rfl⟩ := (inR hm7).mp h35
          have q5 := bN_t hl (show (laG (tG S) 1).1 < 2 ^ 31 by omega)
          have z5 := ni_nI (show l < 2 ^ 31 by omega)
          have eF : fPart S (nI e) (nI i) (nI l) = (tkq (laG (tG S) 1).2.1 (laG (tG S) 1).2.2 (tks (laG (tG S) 1).2.1 (laG (tG S) 1).2.2 (fun g => (nI (pw q.1 g) - nI (pw q.2 g)).toInt64) l) l, S) := by unfold fPart; rw [z0, z4, z5, q0, q4, q5, gd]; rfl
          rw [eF]
          have L2 : ∀ i', i' ≤ l + 1 → ∀ (AJ : LT), (∀ c, c ≠ b + 33 → AJ c = AL22 c) → (∀ j, j < 7 → AJ (b + 33) j = tks (laG (tG S) 1).2.1 (laG (tG S) 1).2.2 (fun g => (nI (pw q.1 g) - nI (pw q.2 g)).toInt64) i' j) → G V m_Mod_part (d + 7) 95 [some (.ref b), some (.int (nI e)), some (.int (nI i)), some (.int (nI l)), some (.long (tkl (laG (tG S) 1).2.1 (laG (tG S) 1).2.2 (fun g => (nI (pw q.1 g) - nI (pw q.2 g)).toInt64) i')), none, some (.int (nI i'))] [] X FI22 AI22 AJ (fun r X' FI' AI' AL' => r = some (.long (tkq (laG (tG S) 1).2.1 (laG (tG S) 1).2.2 (tks (laG (tG S) 1).2.1 (laG (tG S) 1).2.2 (fun g => (nI (pw q.1 g) - nI (pw q.2 g)).toInt64) l) l)) ∧ X' = X ∧ MIv S FI' AI' AL' b ∧ fM FI FI' AI AI' AL AL' b) := by
            refine upto ?_ ?_
            · intro AJ k1 k2
              obtain ⟨hI2, hF2⟩ := k.m2 hI1 k1
              refine G_iload6 97 d_Mod_part_95 rfl ?_
              refine G_iload3 98 d_Mod_part_97 rfl ?_
              first | refine G_icgtN 115 101 d_Mod_part_98 rfl rfl (by omega) (by omega) (fun h98 => ?_) (fun h98 => ?_) | refine G_icgt 115 101 d_Mod_part_98 rfl rfl (fun h98 => ?_) (fun h98 => ?_)
              · refine G_lload4 117 d_Mod_part_115 rfl ?_
                refine G_lret d_Mod_part_117 rfl ?_
                exact ⟨rfl, rfl, hI2, hf0.tr hF2⟩
              · omega
            · intro i' hi ih AJ k1 k2
              have htk := k.tk (V := V) (d := d + 6) (FJ := FI22) (s := fun g => (nI (pw q.1 g) - nI (pw q.2 g)).toInt64) h (show i' < (laG (tG S) 1).1 by omega) k1 k2
              refine G_iload6 97 d_Mod_part_95 rfl ?_
              refine G_iload3 98 d_Mod_part_97 rfl ?_
              first | refine G_icgtN 115 101 d_Mod_part_98 rfl rfl (by omega) (by omega) (fun h98 => ?_) (fun h98 => ?_) | refine G_icgt 115 101 d_Mod_part_98 rfl rfl (fun h98 => ?_) (fun h98 => ?_)
              · omega
              · refine G_aload0 102 d_Mod_part_101 rfl ?_
                refine G_iload6 104 d_Mod_part_102 rfl ?_
                refine G_invV1 107 d_Mod_part_104 rfl e_Mod_432 M_Mod_takes rfl h.sh (Nat.le_of_ble_eq_true rfl) (Nat.le_of_ble_eq_true rfl) rfl (G.conseq (htk) (fun r104 X104 FI104 AI104 AL104 h104 => ?_))
                obtain ⟨c1, c2, c3, c4, c5, c6⟩ := h104
                replace c2 := c2.symm
                replace c3 := c3.symm
                replace c4 := c4.symm
                subst c1 c2 c3 c4
                refine G_lstore4 109 d_Mod_part_107 rfl (by decide) rfl ?_
                first | refine G_iincN6 112 d_Mod_part_109 rfl (by decide) rfl ?_ | refine G_iinc6 _ 112 d_Mod_part_109 rfl (by decide) rfl rfl ?_
                refine G_goto 95 d_Mod_part_112 rfl ?_
                exact ih _ (fun c hc => by rw [c6 c hc]; exact k1 c hc) c5
          have L1 : ∀ j, j ≤ 7 → ∀ (v5 v6 : Option Value) (AJ : LT), (∀ c, c ≠ b + 33 → AJ c = AL22 c) → (∀ x, x < j → AJ (b + 33) x = (nI (pw q.1 x) - nI (pw q.2 x)).toInt64) → G V m_Mod_part (d + 7) 48 [some (.ref b), some (.int (nI e)), some (.int (nI i)), some (.int (nI l)), some (.int (nI j)), v5, v6] [] X FI22 AI22 AJ (fun r X' FI' AI' AL' => r = some (.long (tkq (laG (tG S) 1).2.1 (laG (tG S) 1).2.2 (tks (laG (tG S) 1).2.1 (laG (tG S) 1).2.2 (fun g => (nI (pw q.1 g) - nI (pw q.2 g)).toInt64) l) l)) ∧ X' = X ∧ MIv S FI' AI' AL' b ∧ fM FI FI' AI AI' AL AL' b) := by
            refine upto ?_ ?_
            · intro v5 v6 AJ k1 k2
              refine G_iload4 50 d_Mod_part_48 rfl ?_
              refine G_bipushN 7 52 d_Mod_part_50 rfl rfl ?_
              first | refine G_icgeN 89 55 d_Mod_part_52 rfl rfl (by omega) (by omega) (fun h52 => ?_) (fun h52 => ?_) | refine G_icge 89 55 d_Mod_part_52 rfl rfl (fun h52 => ?_) (fun h52 => ?_)
              · refine G_lconst 0 90 d_Mod_part_89 rfl rfl ?_
                refine G_lstore4 92 d_Mod_part_90 rfl (by decide) rfl ?_
                refine G_iconstN 0 93 d_Mod_part_92 rfl rfl ?_
                refine G_istore6 95 d_Mod_part_93 rfl (by decide) rfl ?_
                exact L2 0 (by omega) AJ k1 k2
              · omega
            · intro j hj ih v5 v6 AJ k1 k2
              have e1 : AI22 (b + 27) (0 + j) = nI (pw q.1 j) := by rw [k.ai _ (by omega)]; exact w0 j hj
              have e2 : AI22 (b + 27) (7 + j) = nI (pw q.2 j) := by rw [k.ai _ (by omega)]; exact w1 j hj
              refine G_iload4 50 d_Mod_part_48 rfl ?_
              refine G_bipushN 7 52 d_Mod_part_50 rfl rfl ?_
              first | refine G_icgeN 89 55 d_Mod_part_52 rfl rfl (by omega) (by omega) (fun h52 => ?_) (fun h52 => ?_) | refine G_icge 89 55 d_Mod_part_52 rfl rfl (fun h52 => ?_) (fun h52 => ?_)
              · omega
              · refine G_aload0 56 d_Mod_part_55 rfl ?_
                refine G_getR 59 d_Mod_part_56 rfl f_Mod_109 rfl h.sh h.f47 ?_
                refine G_iload4 61 d_Mod_part_59 rfl ?_
                refine G_aload0 62 d_Mod_part_61 rfl ?_
                refine G_getR 65 d_Mod_part_62 rfl f_Mod_91 rfl h.sh h.f36 ?_
                refine G_iconstN 0 66 d_Mod_part_65 rfl rfl ?_
                refine G_iload4 68 d_Mod_part_66 rfl ?_
                first | refine G_iaddN 69 d_Mod_part_68 rfl ?_ | refine G_iadd 69 d_Mod_part_68 rfl ?_
                refine G_ialoadv 70 d_Mod_part_69 rfl h.s36 (ix_nI (by omega) (by omega)) e1 ?_
                refine G_aload0 71 d_Mod_part_70 rfl ?_
                refine G_getR 74 d_Mod_part_71 rfl f_Mod_91 rfl h.sh h.f36 ?_
                refine G_bipushN 7 76 d_Mod_part_74 rfl rfl ?_
                refine G_iload4 78 d_Mod_part_76 rfl ?_
                first | refine G_iaddN 79 d_Mod_part_78 rfl ?_ | refine G_iadd 79 d_Mod_part_78 rfl ?_
                refine G_ialoadv 80 d_Mod_part_79 rfl h.s36 (ix_nI (by omega) (by omega)) e2 ?_
                refine G_isub 81 d_Mod_part_80 rfl ?_
                refine G_i2l 82 d_Mod_part_81 rfl ?_
                refine G_lastore 83 d_Mod_part_82 rfl h.s47 (ix_nI (by omega) (by omega)) ?_
                first | refine G_iincN4 86 d_Mod_part_83 rfl (by decide) rfl ?_ | refine G_iinc4 _ 86 d_Mod_part_83 rfl (by decide) rfl rfl ?_
                refine G_goto 48 d_Mod_part_86 rfl ?_
                refine ih _ _ _ (fun c hc => by rw [u2_off _ _ _ hc]; exact k1 c hc) (fun x hx => ?_)
                by_cases e : x = j
                · subst e; rw [u2_at]
                · rw [u2_ix _ _ e]; exact k2 x (by omega)
          refine G_iconstN 0 46 d_Mod_part_45 rfl rfl ?_
          refine G_istore4 48 d_Mod_part_46 rfl (by decide) rfl ?_
          exact L1 0 (by omega) _ _ AL22 (fun _ _ => rfl) (fun q hq => by omega)
        · have q5 := bN_f (fun e => h35 ((inR hm7).mpr e)) (show (laG (tG S) 1).1 < 2 ^ 31 by omega)
          have eF : fPart S (nI e) (nI i) z = (NOl, S) := by unfold fPart; rw [q5, Bool.and_false]; rfl
          obtain ⟨hI2, hF2⟩ := k.mi hI1
          rw [eF]
          refine G_ldc2 44 d_Mod_part_41 rfl k_Mod_235 ?_
          refine G_lret d_Mod_part_44 rfl ?_
          exact ⟨rfl, rfl, hI2, hf0.tr hF2⟩
      · exact absurd h13 (by decide)
    · have hny : bN y (tRl S e).length = false := bN_f (fun ⟨j, hj, ej⟩ => by
        have := hno j (by omega) ej
        rw [List.getElem?_eq_none_iff] at this
        omega) (by omega)
      have eF : fPart S (nI e) y z = (NOl, S) := by unfold fPart; rw [z0, hny, Bool.and_false, Bool.false_and]; rfl
      rw [eF]
      refine G_ifne 20 16 d_Mod_part_13 rfl rfl (fun h13 => ?_) (fun h13 => ?_)
      · exact absurd rfl h13
      · refine G_ldc2 19 d_Mod_part_16 rfl k_Mod_235 ?_
        refine G_lret d_Mod_part_19 rfl ?_
        exact ⟨rfl, rfl, hI1, u3.fm⟩
  · have q0 := bB_f h1
    exact no (by unfold fPart; rw [q0, Bool.false_and, Bool.false_and]; rfl)
