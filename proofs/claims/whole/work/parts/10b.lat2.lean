/-! ===== the reference: clears ===== -/
/-- the row with the least number at j among q rows from i on (0: none; else one more than its place); how many have a number there -/
def lsF (R : LM) (i j : Nat) : Nat → Nat
  | 0 => 0
  | q + 1 => if ¬ R (i + q) j = 0 ∧ (lsF R i j q = 0 ∨ labs (R (i + q) j) < labs (R (lsF R i j q - 1) j)) then i + q + 1 else lsF R i j q
def smF (R : LM) (i j : Nat) : Nat → Nat
  | 0 => 0
  | q + 1 => smF R i j q + (if R (i + q) j = 0 then 0 else 1)
def rdQ (R : LM) (i j k : Nat) : LM := fun q => if i < q ∧ q < k then (fun c => R q c - R q j / R i j * R i c) else R q
def clF (i j n : Nat) : Nat → LM → Option (Bool × LM)
  | 0, _ => none
  | f + 1, R => if lsF R i j (n - i) = 0 then some (false, R) else
      if 1 < smF R i j (n - i) then clF i j n f (rdQ (swR R i (lsF R i j (n - i) - 1)) i j n)
      else some (true, if rdQ (swR R i (lsF R i j (n - i) - 1)) i j n i j < 0 then leR (rdQ (swR R i (lsF R i j (n - i) - 1)) i j n) i i 2 else rdQ (swR R i (lsF R i j (n - i) - 1)) i j n)
theorem lsF_b {R : LM} {i j : Nat} : ∀ q m, lsF R i j q = m + 1 → i ≤ m ∧ m < i + q ∧ ¬ R m j = 0
  | 0, m, e => by unfold lsF at e; omega
  | q + 1, m, e => by
    unfold lsF at e
    split at e
    · rename_i k
      have e2 : m = i + q := by omega
      subst e2
      exact ⟨by omega, by omega, k.1⟩
    · obtain ⟨a, c, d⟩ := lsF_b q m e
      exact ⟨a, by omega, d⟩
theorem smF_le {R : LM} {i j : Nat} : ∀ q, smF R i j q ≤ q
  | 0 => Nat.le_refl _
  | q + 1 => by
    have := smF_le (R := R) (i := i) (j := j) q
    unfold smF
    split <;> omega
def QC (X : XT) (FI AI : FT) (AL : LT) (b n : Nat) (t : Bool) (R : LM) : PT := fun r X' FI' AI' AL' => r = some (.int (nI (if t = true then 1 else 0))) ∧ X' = X ∧ FI' = FI ∧ AI' = AI ∧ LMt AL' b n R ∧ ∀ c, c ≠ b + 30 → AL' c = AL c
theorem s_clearsE {V : GV} {d b n i j : Nat} {R : LM} {X : XT} {FI AI : FT} {AL AL0 : LT} (v4 v5 v6 v7 : Option Value) (h : MO X b) (hi : i < n) (hn : n ≤ 7) (hj : j < 10) (hL : LMt AL b n R) (hf : ∀ c, c ≠ b + 30 → AL c = AL0 c) : G V m_Mod_clears (d + 1) 2 [some (.ref b), some (.int (nI i)), some (.int (nI j)), some (.int (nI 0)), v4, v5, v6, v7] [] X FI AI AL (QC X FI AI AL0 b n true (if R i j < 0 then leR R i i 2 else R)) := by
  have he := s_mEntry (V := V) (d := d) (FI := FI) (AI := AI) h hL hi hn hj
  have hls := s_mLess (V := V) (d := d) (FI := FI) (AI := AI) (t := 2) h hL hi hi hn
  refine G_iload3 3 d_Mod_clears_2 rfl ?_
  refine G_ifeq 184 6 d_Mod_clears_3 rfl rfl (fun h3 => ?_) (fun h3 => ?_)
  · refine G_aload0 185 d_Mod_clears_184 rfl ?_
    refine G_iload1 186 d_Mod_clears_185 rfl ?_
    refine G_iload2 187 d_Mod_clears_186 rfl ?_
    refine G_invV2d 190 d_Mod_clears_187 rfl e_Mod_407 M_Mod_entry rfl h.sh (Nat.le_of_ble_eq_true rfl) (Nat.le_of_ble_eq_true rfl) rfl (he) ?_
    refine G_lconst 0 191 d_Mod_clears_190 rfl rfl ?_
    refine G_lcge 204 195 d_Mod_clears_191 d_Mod_clears_192 rfl rfl (fun h191 => ?_) (fun h191 => ?_)
    · rw [if_neg h191]
      refine G_iconstN 1 205 d_Mod_clears_204 rfl rfl ?_
      refine G_zret d_Mod_clears_205 rfl ?_ ?_
      · exact Or.inr rfl
      · exact ⟨rfl, rfl, rfl, rfl, hL, hf⟩
    · rw [if_pos h191]
      refine G_aload0 196 d_Mod_clears_195 rfl ?_
      refine G_iload1 197 d_Mod_clears_196 rfl ?_
      refine G_iload1 198 d_Mod_clears_197 rfl ?_
      refine G_ldc2 201 d_Mod_clears_198 rfl k_Mod_180 ?_
      refine G_invV3 204 d_Mod_clears_201 rfl e_Mod_414 M_Mod_less rfl h.sh (Nat.le_of_ble_eq_true rfl) (Nat.le_of_ble_eq_true rfl) rfl (G.conseq (hls) (fun r201 X201 FI201 AI201 AL201 h201 => ?_))
      obtain ⟨a1, a2, a3, a4, a5, a6⟩ := h201
      replace a2 := a2.symm
      replace a3 := a3.symm
      replace a4 := a4.symm
      subst a1 a2 a3 a4
      refine G_iconstN 1 205 d_Mod_clears_204 rfl rfl ?_
      refine G_zret d_Mod_clears_205 rfl ?_ ?_
      · exact Or.inr rfl
      · exact ⟨rfl, rfl, rfl, rfl, a5, fun c hc => by rw [a6 c hc]; exact hf c hc⟩
  · exact absurd rfl h3
theorem s_clearsL {V : GV} {d b n i j : Nat} {X : XT} {FI AI : FT} {AL0 : LT} {t : Bool} {R2 : LM} (h : MO X b) (h9 : FI b 9 = nI n) (hi : i < n) (hn : n ≤ 7) (hj : j < 10) : ∀ (f : Nat) (R : LM) (AL : LT) (v4 v5 v6 v7 : Option Value), clF i j n f R = some (t, R2) → LMt AL b n R → (∀ c, c ≠ b + 30 → AL c = AL0 c) → G V m_Mod_clears (d + 1) 2 [some (.ref b), some (.int (nI i)), some (.int (nI j)), some (.int (nI 1)), v4, v5, v6, v7] [] X FI AI AL (QC X FI AI AL0 b n t R2)
  | 0, R, AL, v4, v5, v6, v7, e, _, _ => by unfold clF at e; exact absurd e (by simp)
  | f + 1, R, AL, v4, v5, v6, v7, e, hL, hf => by
    have S : ∀ q, q ≤ n - i → ∀ v7 : Option Value, G V m_Mod_clears (d + 1) 15 [some (.ref b), some (.int (nI i)), some (.int (nI j)), some (.int (nI 1)), some (.int (dI (lsF R i j q))), some (.int (nI (smF R i j q))), some (.int (nI (i + q))), v7] [] X FI AI AL (QC X FI AI AL0 b n t R2) := by
      refine upto ?_ ?_
      · intro v7
        have e15 : i + (n - i) = n := by omega
        rw [e15]
        refine G_iload6 17 d_Mod_clears_15 rfl ?_
        refine G_aload0 18 d_Mod_clears_17 rfl ?_
        refine G_getIv 21 d_Mod_clears_18 rfl f_Mod_133 rfl h.sh h9 ?_
        first | refine G_icgeN 114 24 d_Mod_clears_21 rfl rfl (by omega) (by omega) (fun h21 => ?_) (fun h21 => ?_) | refine G_icge 114 24 d_Mod_clears_21 rfl rfl (fun h21 => ?_) (fun h21 => ?_)
        · have hs7 := smF_le (R := R) (i := i) (j := j) (n - i)
          unfold clF at e
          cases hl : lsF R i j (n - i) with
          | zero =>
            rw [if_pos hl] at e
            cases e
            refine G_iload4 116 d_Mod_clears_114 rfl ?_
            refine G_ifge 121 119 d_Mod_clears_116 rfl rfl (fun h116 => ?_) (fun h116 => ?_)
            · exact absurd h116 (by rw [dI_0]; decide)
            · refine G_iconstN 0 120 d_Mod_clears_119 rfl rfl ?_
              refine G_zret d_Mod_clears_120 rfl ?_ ?_
              · exact Or.inl rfl
              · exact ⟨rfl, rfl, rfl, rfl, hL, hf⟩
          | succ m =>
            obtain ⟨m1, m2, m3⟩ := lsF_b _ _ hl
            rw [if_neg (by omega), hl, show m + 1 - 1 = m by omega] at e
            rw [dI_s]
            have hsw := s_mSwap (V := V) (d := d) (FI := FI) (AI := AI) h hL hi (show m < n by omega) hn
            have hne : ¬ swR R i m i j = 0 := by unfold swR; rw [if_pos rfl]; exact m3
            refine G_iload4 116 d_Mod_clears_114 rfl ?_
            refine G_ifge 121 119 d_Mod_clears_116 rfl rfl (fun h116 => ?_) (fun h116 => ?_)
            · refine G_aload0 122 d_Mod_clears_121 rfl ?_
              refine G_iload1 123 d_Mod_clears_122 rfl ?_
              refine G_iload4 125 d_Mod_clears_123 rfl ?_
              refine G_invV2 128 d_Mod_clears_125 rfl e_Mod_411 M_Mod_swap rfl h.sh (Nat.le_of_ble_eq_true rfl) (Nat.le_of_ble_eq_true rfl) rfl (G.conseq (hsw) (fun r125 X125 FI125 AI125 AL125 h125 => ?_))
              obtain ⟨a1, a2, a3, a4, a5, a6⟩ := h125
              replace a2 := a2.symm
              replace a3 := a3.symm
              replace a4 := a4.symm
              subst a1 a2 a3 a4
              have L2 : ∀ k, k ≤ n → ∀ AJ : LT, i < k → LMt AJ b n (rdQ (swR R i m) i j k) → (∀ c, c ≠ b + 30 → AJ c = AL0 c) → G V m_Mod_clears (d + 1) 133 [some (.ref b), some (.int (nI i)), some (.int (nI j)), some (.int (nI 1)), some (.int (nI m)), some (.int (nI (smF R i j (n - i)))), some (.int (nI k)), v7] [] X FI AI AJ (QC X FI AI AL0 b n t R2) := by
                refine upto ?_ ?_
                · intro AJ ik k1 k2
                  refine G_iload6 135 d_Mod_clears_133 rfl ?_
                  refine G_aload0 136 d_Mod_clears_135 rfl ?_
                  refine G_getIv 139 d_Mod_clears_136 rfl f_Mod_133 rfl h.sh h9 ?_
                  first | refine G_icgeN 169 142 d_Mod_clears_139 rfl rfl (by omega) (by omega) (fun h139 => ?_) (fun h139 => ?_) | refine G_icge 169 142 d_Mod_clears_139 rfl rfl (fun h139 => ?_) (fun h139 => ?_)
                  · refine G_iload5 171 d_Mod_clears_169 rfl ?_
                    refine G_iconstN 1 172 d_Mod_clears_171 rfl rfl ?_
                    first | refine G_icleN 179 175 d_Mod_clears_172 rfl rfl (by omega) (by omega) (fun h172 => ?_) (fun h172 => ?_) | refine G_icle 179 175 d_Mod_clears_172 rfl rfl (fun h172 => ?_) (fun h172 => ?_)
                    · rw [if_neg (by omega)] at e
                      cases e
                      refine G_iconstN 0 180 d_Mod_clears_179 rfl rfl ?_
                      refine G_istore3 181 d_Mod_clears_180 rfl (by decide) rfl ?_
                      refine G_goto 2 d_Mod_clears_181 rfl ?_
                      exact s_clearsE _ _ _ _ h hi hn hj k1 k2
                    · rw [if_pos h172] at e
                      refine G_iconstN 1 176 d_Mod_clears_175 rfl rfl ?_
                      refine G_goto 180 d_Mod_clears_176 rfl ?_
                      refine G_istore3 181 d_Mod_clears_180 rfl (by decide) rfl ?_
                      refine G_goto 2 d_Mod_clears_181 rfl ?_
                      exact s_clearsL h h9 hi hn hj f _ _ _ _ _ _ e k1 k2
                  · omega
                · intro k hk ih AJ ik k1 k2
                  have x1 := s_mEntry (V := V) (d := d) (FI := FI) (AI := AI) h k1 hk hn hj
                  have x2 := s_mEntry (V := V) (d := d) (FI := FI) (AI := AI) h k1 hi hn hj
                  have y1 : rdQ (swR R i m) i j k k = swR R i m k := if_neg (by omega)
                  have y2 : rdQ (swR R i m) i j k i = swR R i m i := if_neg (by omega)
                  rw [y1] at x1
                  rw [y2] at x2
                  have x3 := s_mLess (V := V) (d := d) (FI := FI) (AI := AI) (t := swR R i m k j / swR R i m i j) h k1 hk hi hn
                  refine G_iload6 135 d_Mod_clears_133 rfl ?_
                  refine G_aload0 136 d_Mod_clears_135 rfl ?_
                  refine G_getIv 139 d_Mod_clears_136 rfl f_Mod_133 rfl h.sh h9 ?_
                  first | refine G_icgeN 169 142 d_Mod_clears_139 rfl rfl (by omega) (by omega) (fun h139 => ?_) (fun h139 => ?_) | refine G_icge 169 142 d_Mod_clears_139 rfl rfl (fun h139 => ?_) (fun h139 => ?_)
                  · omega
                  · refine G_aload0 143 d_Mod_clears_142 rfl ?_
                    refine G_iload6 145 d_Mod_clears_143 rfl ?_
                    refine G_iload1 146 d_Mod_clears_145 rfl ?_
                    refine G_aload0 147 d_Mod_clears_146 rfl ?_
                    refine G_iload6 149 d_Mod_clears_147 rfl ?_
                    refine G_iload2 150 d_Mod_clears_149 rfl ?_
                    refine G_invV2d 153 d_Mod_clears_150 rfl e_Mod_407 M_Mod_entry rfl h.sh (Nat.le_of_ble_eq_true rfl) (Nat.le_of_ble_eq_true rfl) rfl (x1) ?_
                    refine G_aload0 154 d_Mod_clears_153 rfl ?_
                    refine G_iload1 155 d_Mod_clears_154 rfl ?_
                    refine G_iload2 156 d_Mod_clears_155 rfl ?_
                    refine G_invV2d 159 d_Mod_clears_156 rfl e_Mod_407 M_Mod_entry rfl h.sh (Nat.le_of_ble_eq_true rfl) (Nat.le_of_ble_eq_true rfl) rfl (x2) ?_
                    refine G_ldiv 160 d_Mod_clears_159 rfl hne ?_
                    refine G_invV3 163 d_Mod_clears_160 rfl e_Mod_414 M_Mod_less rfl h.sh (Nat.le_of_ble_eq_true rfl) (Nat.le_of_ble_eq_true rfl) rfl (G.conseq (x3) (fun r160 X160 FI160 AI160 AL160 h160 => ?_))
                    obtain ⟨b1, b2, b3, b4, b5, b6⟩ := h160
                    replace b2 := b2.symm
                    replace b3 := b3.symm
                    replace b4 := b4.symm
                    subst b1 b2 b3 b4
                    first | refine G_iincN6 166 d_Mod_clears_163 rfl (by decide) rfl ?_ | refine G_iinc6 _ 166 d_Mod_clears_163 rfl (by decide) rfl rfl ?_
                    refine G_goto 133 d_Mod_clears_166 rfl ?_
                    refine ih _ (by omega) (fun q c hq hc => ?_) (fun c hc => by rw [b6 c hc]; exact k2 c hc)
                    rw [b5 q c hq hc]
                    unfold leR
                    by_cases e1 : q = k
                    · subst e1
                      rw [upn_at, y1, y2]
                      unfold rdQ
                      rw [if_pos ⟨ik, by omega⟩]
                    · rw [upn_ne _ _ e1]
                      unfold rdQ
                      by_cases e2 : i < q ∧ q < k
                      · rw [if_pos e2, if_pos ⟨e2.1, by omega⟩]
                      · rw [if_neg e2, if_neg (by omega)]
              refine G_iload1 129 d_Mod_clears_128 rfl ?_
              refine G_iconstN 1 130 d_Mod_clears_129 rfl rfl ?_
              first | refine G_iaddN 131 d_Mod_clears_130 rfl ?_ | refine G_iadd 131 d_Mod_clears_130 rfl ?_
              refine G_istore6 133 d_Mod_clears_131 rfl (by decide) rfl ?_
              exact L2 (i + 1) (by omega) _ (by omega) (fun q c hq hc => by rw [a5 q c hq hc]; unfold rdQ; rw [if_neg (by omega)]) (fun c hc => by rw [a6 c hc]; exact hf c hc)
            · exact absurd (by rw [Int32.le_iff_toInt_le, nI_toInt (by omega)]; show (0 : Int) ≤ _; omega) h116
        · omega
      · intro q hq ih v7
        have hk : i + q < n := by omega
        have x1 := s_mEntry (V := V) (d := d) (FI := FI) (AI := AI) h hL hk hn hj
        have ih2 := ih
        refine G_iload6 17 d_Mod_clears_15 rfl ?_
        refine G_aload0 18 d_Mod_clears_17 rfl ?_
        refine G_getIv 21 d_Mod_clears_18 rfl f_Mod_133 rfl h.sh h9 ?_
        first | refine G_icgeN 114 24 d_Mod_clears_21 rfl rfl (by omega) (by omega) (fun h21 => ?_) (fun h21 => ?_) | refine G_icge 114 24 d_Mod_clears_21 rfl rfl (fun h21 => ?_) (fun h21 => ?_)
        · omega
        · by_cases e0 : R (i + q) j = 0
          · rw [lsF, smF, if_neg (fun k => k.1 e0), if_pos e0] at ih2
            refine G_iload5 26 d_Mod_clears_24 rfl ?_
            refine G_aload0 27 d_Mod_clears_26 rfl ?_
            refine G_iload6 29 d_Mod_clears_27 rfl ?_
            refine G_iload2 30 d_Mod_clears_29 rfl ?_
            refine G_invV2d 33 d_Mod_clears_30 rfl e_Mod_407 M_Mod_entry rfl h.sh (Nat.le_of_ble_eq_true rfl) (Nat.le_of_ble_eq_true rfl) rfl (x1) ?_
            refine G_lconst 0 34 d_Mod_clears_33 rfl rfl ?_
            refine G_lceq 42 38 d_Mod_clears_34 d_Mod_clears_35 rfl rfl (fun h34 => ?_) (fun h34 => ?_)
            · refine G_iconstN 0 43 d_Mod_clears_42 rfl rfl ?_
              first | refine G_iaddN 44 d_Mod_clears_43 rfl ?_ | refine G_iadd 44 d_Mod_clears_43 rfl ?_
              refine G_istore5 46 d_Mod_clears_44 rfl (by decide) rfl ?_
              refine G_aload0 47 d_Mod_clears_46 rfl ?_
              refine G_iload6 49 d_Mod_clears_47 rfl ?_
              refine G_iload2 50 d_Mod_clears_49 rfl ?_
              refine G_invV2d 53 d_Mod_clears_50 rfl e_Mod_407 M_Mod_entry rfl h.sh (Nat.le_of_ble_eq_true rfl) (Nat.le_of_ble_eq_true rfl) rfl (x1) ?_
              refine G_lconst 0 54 d_Mod_clears_53 rfl rfl ?_
              refine G_lceq 91 58 d_Mod_clears_54 d_Mod_clears_55 rfl rfl (fun h54 => ?_) (fun h54 => ?_)
              · refine G_iconstN 0 92 d_Mod_clears_91 rfl rfl ?_
                refine G_istore7 94 d_Mod_clears_92 rfl (by decide) rfl ?_
                refine G_iload7 96 d_Mod_clears_94 rfl ?_
                refine G_ifeq 104 99 d_Mod_clears_96 rfl rfl (fun h96 => ?_) (fun h96 => ?_)
                · refine G_iload4 106 d_Mod_clears_104 rfl ?_
                  refine G_istore4 108 d_Mod_clears_106 rfl (by decide) rfl ?_
                  first | refine G_iincN6 111 d_Mod_clears_108 rfl (by decide) rfl ?_ | refine G_iinc6 _ 111 d_Mod_clears_108 rfl (by decide) rfl rfl ?_
                  refine G_goto 15 d_Mod_clears_111 rfl ?_
                  exact ih2 _
                · exact absurd rfl h96
              · exact absurd e0 h54
            · exact absurd e0 h34
          · cases hl : lsF R i j q with
            | zero =>
              rw [lsF, smF, if_pos ⟨e0, Or.inl hl⟩, if_neg e0, dI_s] at ih2
              refine G_iload5 26 d_Mod_clears_24 rfl ?_
              refine G_aload0 27 d_Mod_clears_26 rfl ?_
              refine G_iload6 29 d_Mod_clears_27 rfl ?_
              refine G_iload2 30 d_Mod_clears_29 rfl ?_
              refine G_invV2d 33 d_Mod_clears_30 rfl e_Mod_407 M_Mod_entry rfl h.sh (Nat.le_of_ble_eq_true rfl) (Nat.le_of_ble_eq_true rfl) rfl (x1) ?_
              refine G_lconst 0 34 d_Mod_clears_33 rfl rfl ?_
              refine G_lceq 42 38 d_Mod_clears_34 d_Mod_clears_35 rfl rfl (fun h34 => ?_) (fun h34 => ?_)
              · exact absurd h34 e0
              · refine G_iconstN 1 39 d_Mod_clears_38 rfl rfl ?_
                refine G_goto 43 d_Mod_clears_39 rfl ?_
                first | refine G_iaddN 44 d_Mod_clears_43 rfl ?_ | refine G_iadd 44 d_Mod_clears_43 rfl ?_
                refine G_istore5 46 d_Mod_clears_44 rfl (by decide) rfl ?_
                refine G_aload0 47 d_Mod_clears_46 rfl ?_
                refine G_iload6 49 d_Mod_clears_47 rfl ?_
                refine G_iload2 50 d_Mod_clears_49 rfl ?_
                refine G_invV2d 53 d_Mod_clears_50 rfl e_Mod_407 M_Mod_entry rfl h.sh (Nat.le_of_ble_eq_true rfl) (Nat.le_of_ble_eq_true rfl) rfl (x1) ?_
                refine G_lconst 0 54 d_Mod_clears_53 rfl rfl ?_
                refine G_lceq 91 58 d_Mod_clears_54 d_Mod_clears_55 rfl rfl (fun h54 => ?_) (fun h54 => ?_)
                · exact absurd h54 e0
                · refine G_iload4 60 d_Mod_clears_58 rfl ?_
                  first | refine G_ifltD 87 63 d_Mod_clears_60 rfl rfl (by omega) (fun h60 => ?_) (fun j h60 => ?_) | refine G_iflt 87 63 d_Mod_clears_60 rfl rfl (fun h60 => ?_) (fun h60 => ?_)
                  · refine G_iconstN 1 88 d_Mod_clears_87 rfl rfl ?_
                    refine G_goto 92 d_Mod_clears_88 rfl ?_
                    refine G_istore7 94 d_Mod_clears_92 rfl (by decide) rfl ?_
                    refine G_iload7 96 d_Mod_clears_94 rfl ?_
                    refine G_ifeq 104 99 d_Mod_clears_96 rfl rfl (fun h96 => ?_) (fun h96 => ?_)
                    · exact absurd h96 (by decide)
                    · refine G_iload6 101 d_Mod_clears_99 rfl ?_
                      refine G_goto 106 d_Mod_clears_101 rfl ?_
                      refine G_istore4 108 d_Mod_clears_106 rfl (by decide) rfl ?_
                      first | refine G_iincN6 111 d_Mod_clears_108 rfl (by decide) rfl ?_ | refine G_iinc6 _ 111 d_Mod_clears_108 rfl (by decide) rfl rfl ?_
                      refine G_goto 15 d_Mod_clears_111 rfl ?_
                      exact ih2 _
                  · omega
            | succ m =>
              obtain ⟨m1, m2, m3⟩ := lsF_b _ _ hl
              have x2 := s_mEntry (V := V) (d := d) (FI := FI) (AI := AI) h hL (show m < n by omega) hn hj
              rw [dI_s]
              by_cases e2 : labs (R (i + q) j) < labs (R m j)
              · rw [lsF, smF, if_pos ⟨e0, Or.inr (by rw [hl]; exact e2)⟩, if_neg e0, dI_s] at ih2
                refine G_iload5 26 d_Mod_clears_24 rfl ?_
                refine G_aload0 27 d_Mod_clears_26 rfl ?_
                refine G_iload6 29 d_Mod_clears_27 rfl ?_
                refine G_iload2 30 d_Mod_clears_29 rfl ?_
                refine G_invV2d 33 d_Mod_clears_30 rfl e_Mod_407 M_Mod_entry rfl h.sh (Nat.le_of_ble_eq_true rfl) (Nat.le_of_ble_eq_true rfl) rfl (x1) ?_
                refine G_lconst 0 34 d_Mod_clears_33 rfl rfl ?_
                refine G_lceq 42 38 d_Mod_clears_34 d_Mod_clears_35 rfl rfl (fun h34 => ?_) (fun h34 => ?_)
                · exact absurd h34 e0
                · refine G_iconstN 1 39 d_Mod_clears_38 rfl rfl ?_
                  refine G_goto 43 d_Mod_clears_39 rfl ?_
                  first | refine G_iaddN 44 d_Mod_clears_43 rfl ?_ | refine G_iadd 44 d_Mod_clears_43 rfl ?_
                  refine G_istore5 46 d_Mod_clears_44 rfl (by decide) rfl ?_
                  refine G_aload0 47 d_Mod_clears_46 rfl ?_
                  refine G_iload6 49 d_Mod_clears_47 rfl ?_
                  refine G_iload2 50 d_Mod_clears_49 rfl ?_
                  refine G_invV2d 53 d_Mod_clears_50 rfl e_Mod_407 M_Mod_entry rfl h.sh (Nat.le_of_ble_eq_true rfl) (Nat.le_of_ble_eq_true rfl) rfl (x1) ?_
                  refine G_lconst 0 54 d_Mod_clears_53 rfl rfl ?_
                  refine G_lceq 91 58 d_Mod_clears_54 d_Mod_clears_55 rfl rfl (fun h54 => ?_) (fun h54 => ?_)
                  · exact absurd h54 e0
                  · refine G_iload4 60 d_Mod_clears_58 rfl ?_
                    first | refine G_ifltD 87 63 d_Mod_clears_60 rfl rfl (by omega) (fun h60 => ?_) (fun j h60 => ?_) | refine G_iflt 87 63 d_Mod_clears_60 rfl rfl (fun h60 => ?_) (fun h60 => ?_)
                    · exact absurd h60 (nI_pos (by omega))
                    · refine G_aload0 64 d_Mod_clears_63 rfl ?_
                      refine G_iload6 66 d_Mod_clears_64 rfl ?_
                      refine G_iload2 67 d_Mod_clears_66 rfl ?_
                      refine G_invV2d 70 d_Mod_clears_67 rfl e_Mod_407 M_Mod_entry rfl h.sh (Nat.le_of_ble_eq_true rfl) (Nat.le_of_ble_eq_true rfl) rfl (x1) ?_
                      refine G_invS1d 73 d_Mod_clears_70 rfl e_Mod_158 M_Mod_size (Nat.le_of_ble_eq_true rfl) (Nat.le_of_ble_eq_true rfl) rfl (s_mSize) ?_
                      refine G_aload0 74 d_Mod_clears_73 rfl ?_
                      refine G_iload4 76 d_Mod_clears_74 rfl ?_
                      refine G_iload2 77 d_Mod_clears_76 rfl ?_
                      refine G_invV2d 80 d_Mod_clears_77 rfl e_Mod_407 M_Mod_entry rfl h.sh (Nat.le_of_ble_eq_true rfl) (Nat.le_of_ble_eq_true rfl) rfl (x2) ?_
                      refine G_invS1d 83 d_Mod_clears_80 rfl e_Mod_158 M_Mod_size (Nat.le_of_ble_eq_true rfl) (Nat.le_of_ble_eq_true rfl) rfl (s_mSize) ?_
                      refine G_lcge 91 87 d_Mod_clears_83 d_Mod_clears_84 rfl rfl (fun h83 => ?_) (fun h83 => ?_)
                      · exact absurd e2 h83
                      · refine G_iconstN 1 88 d_Mod_clears_87 rfl rfl ?_
                        refine G_goto 92 d_Mod_clears_88 rfl ?_
                        refine G_istore7 94 d_Mod_clears_92 rfl (by decide) rfl ?_
                        refine G_iload7 96 d_Mod_clears_94 rfl ?_
                        refine G_ifeq 104 99 d_Mod_clears_96 rfl rfl (fun h96 => ?_) (fun h96 => ?_)
                        · exact absurd h96 (by decide)
                        · refine G_iload6 101 d_Mod_clears_99 rfl ?_
                          refine G_goto 106 d_Mod_clears_101 rfl ?_
                          refine G_istore4 108 d_Mod_clears_106 rfl (by decide) rfl ?_
                          first | refine G_iincN6 111 d_Mod_clears_108 rfl (by decide) rfl ?_ | refine G_iinc6 _ 111 d_Mod_clears_108 rfl (by decide) rfl rfl ?_
                          refine G_goto 15 d_Mod_clears_111 rfl ?_
                          exact ih2 _
              · rw [lsF, smF, if_neg (fun k => k.2.elim (fun k2 => by omega) (fun k2 => e2 (by rw [hl] at k2; exact k2))), if_neg e0, hl, dI_s] at ih2
                refine G_iload5 26 d_Mod_clears_24 rfl ?_
                refine G_aload0 27 d_Mod_clears_26 rfl ?_
                refine G_iload6 29 d_Mod_clears_27 rfl ?_
                refine G_iload2 30 d_Mod_clears_29 rfl ?_
                refine G_invV2d 33 d_Mod_clears_30 rfl e_Mod_407 M_Mod_entry rfl h.sh (Nat.le_of_ble_eq_true rfl) (Nat.le_of_ble_eq_true rfl) rfl (x1) ?_
                refine G_lconst 0 34 d_Mod_clears_33 rfl rfl ?_
                refine G_lceq 42 38 d_Mod_clears_34 d_Mod_clears_35 rfl rfl (fun h34 => ?_) (fun h34 => ?_)
                · exact absurd h34 e0
                · refine G_iconstN 1 39 d_Mod_clears_38 rfl rfl ?_
                  refine G_goto 43 d_Mod_clears_39 rfl ?_
                  first | refine G_iaddN 44 d_Mod_clears_43 rfl ?_ | refine G_iadd 44 d_Mod_clears_43 rfl ?_
                  refine G_istore5 46 d_Mod_clears_44 rfl (by decide) rfl ?_
                  refine G_aload0 47 d_Mod_clears_46 rfl ?_
                  refine G_iload6 49 d_Mod_clears_47 rfl ?_
                  refine G_iload2 50 d_Mod_clears_49 rfl ?_
                  refine G_invV2d 53 d_Mod_clears_50 rfl e_Mod_407 M_Mod_entry rfl h.sh (Nat.le_of_ble_eq_true rfl) (Nat.le_of_ble_eq_true rfl) rfl (x1) ?_
                  refine G_lconst 0 54 d_Mod_clears_53 rfl rfl ?_
                  refine G_lceq 91 58 d_Mod_clears_54 d_Mod_clears_55 rfl rfl (fun h54 => ?_) (fun h54 => ?_)
                  · exact absurd h54 e0
                  · refine G_iload4 60 d_Mod_clears_58 rfl ?_
                    first | refine G_ifltD 87 63 d_Mod_clears_60 rfl rfl (by omega) (fun h60 => ?_) (fun j h60 => ?_) | refine G_iflt 87 63 d_Mod_clears_60 rfl rfl (fun h60 => ?_) (fun h60 => ?_)
                    · exact absurd h60 (nI_pos (by omega))
                    · refine G_aload0 64 d_Mod_clears_63 rfl ?_
                      refine G_iload6 66 d_Mod_clears_64 rfl ?_
                      refine G_iload2 67 d_Mod_clears_66 rfl ?_
                      refine G_invV2d 70 d_Mod_clears_67 rfl e_Mod_407 M_Mod_entry rfl h.sh (Nat.le_of_ble_eq_true rfl) (Nat.le_of_ble_eq_true rfl) rfl (x1) ?_
                      refine G_invS1d 73 d_Mod_clears_70 rfl e_Mod_158 M_Mod_size (Nat.le_of_ble_eq_true rfl) (Nat.le_of_ble_eq_true rfl) rfl (s_mSize) ?_
                      refine G_aload0 74 d_Mod_clears_73 rfl ?_
                      refine G_iload4 76 d_Mod_clears_74 rfl ?_
                      refine G_iload2 77 d_Mod_clears_76 rfl ?_
                      refine G_invV2d 80 d_Mod_clears_77 rfl e_Mod_407 M_Mod_entry rfl h.sh (Nat.le_of_ble_eq_true rfl) (Nat.le_of_ble_eq_true rfl) rfl (x2) ?_
                      refine G_invS1d 83 d_Mod_clears_80 rfl e_Mod_158 M_Mod_size (Nat.le_of_ble_eq_true rfl) (Nat.le_of_ble_eq_true rfl) rfl (s_mSize) ?_
                      refine G_lcge 91 87 d_Mod_clears_83 d_Mod_clears_84 rfl rfl (fun h83 => ?_) (fun h83 => ?_)
                      · refine G_iconstN 0 92 d_Mod_clears_91 rfl rfl ?_
                        refine G_istore7 94 d_Mod_clears_92 rfl (by decide) rfl ?_
                        refine G_iload7 96 d_Mod_clears_94 rfl ?_
                        refine G_ifeq 104 99 d_Mod_clears_96 rfl rfl (fun h96 => ?_) (fun h96 => ?_)
                        · refine G_iload4 106 d_Mod_clears_104 rfl ?_
                          refine G_istore4 108 d_Mod_clears_106 rfl (by decide) rfl ?_
                          first | refine G_iincN6 111 d_Mod_clears_108 rfl (by decide) rfl ?_ | refine G_iinc6 _ 111 d_Mod_clears_108 rfl (by decide) rfl rfl ?_
                          refine G_goto 15 d_Mod_clears_111 rfl ?_
                          exact ih2 _
                        · exact absurd rfl h96
                      · exact absurd h83 e2
    refine G_iload3 3 d_Mod_clears_2 rfl ?_
    refine G_ifeq 184 6 d_Mod_clears_3 rfl rfl (fun h3 => ?_) (fun h3 => ?_)
    · exact absurd h3 (by decide)
    · refine G_iconst (-1) 7 d_Mod_clears_6 rfl rfl ?_
      refine G_istore4 9 d_Mod_clears_7 rfl (by decide) rfl ?_
      refine G_iconstN 0 10 d_Mod_clears_9 rfl rfl ?_
      refine G_istore5 12 d_Mod_clears_10 rfl (by decide) rfl ?_
      refine G_iload1 13 d_Mod_clears_12 rfl ?_
      refine G_istore6 15 d_Mod_clears_13 rfl (by decide) rfl ?_
      exact S 0 (by omega) _
theorem s_mClears {V : GV} {d b n i j f : Nat} {R R2 : LM} {t : Bool} {X : XT} {FI AI : FT} {AL : LT} (h : MO X b) (h9 : FI b 9 = nI n) (hL : LMt AL b n R) (hi : i < n) (hn : n ≤ 7) (hj : j < 10) (e : clF i j n f R = some (t, R2)) : G V m_Mod_clears (d + 1) 0 [some (.ref b), some (.int (nI i)), some (.int (nI j)), none, none, none, none, none] [] X FI AI AL (QC X FI AI AL b n t R2) := by
  refine G_iconstN 1 1 d_Mod_clears_0 rfl rfl ?_
  refine G_istore3 2 d_Mod_clears_1 rfl (by decide) rfl ?_
  exact s_clearsL h h9 hi hn hj f R AL _ _ _ _ e hL (fun _ _ => rfl)
