/-! ===== the reference: THE CHAIN ===== -/
def kLink (x n : Int32) : Bool := match ni x with
  | 0 => bN n 6
  | 1 => bB n (-999) 999
  | 2 => bN n 6
  | 3 => bN n 6
  | 5 => bN n 6
  | _ => true
def bLink (x n : Int32) : Bool := bN x 7 && kLink x n
/-- what a LINK makes of a POLYNOMIAL: 0, or why not -/
def goT (f : Nat → Int64) (n : Int32) : Int32 × (Nat → Int64) := if prodA (labs n.toInt64) (norm f) < 0 then (-5, f) else (0, fun j => f j * n.toInt64)
def goA (f g : Nat → Int64) : Int32 × (Nat → Int64) := if sumA (norm f) (norm g) < 0 then (-5, f) else (0, addP f g 1)
def goM (f g : Nat → Int64) : Int32 × (Nat → Int64) := if 0 < deg1 f ∧ 0 < deg1 g ∧ 8 < deg1 f + deg1 g then (-6, f) else if prodA (norm f) (norm g) < 0 then (-5, f) else (0, mulP f g)
def goS (S : ST) (f : Nat → Int64) : Int32 × (Nat → Int64) := match aptS S f with
  | none => (-5, f)
  | some q => (0, q.1)
def goL (S : ST) (l : Nat) (f : Nat → Int64) : Int32 × (Nat → Int64) := match (tL S).2.1 l with
  | 0 => (0, trn f (ni ((tL S).2.2.1 l)))
  | 1 => goT f ((tL S).2.2.1 l)
  | 2 => goA f ((tL S).2.2.2 l)
  | 3 => goA f (tS S (ni ((tL S).2.2.1 l)))
  | 4 => goS S f
  | 5 => goM f ((tL S).2.2.2 l)
  | _ => goT f (-1)
/-- through LINKS k .. of all n, one way or the other -/
def goR (S : ST) (w n : Nat) : Nat → (Nat → Int64) → Int32 × (Nat → Int64)
  | 0, f => (0, f)
  | m + 1, f => match goL S (if w = 0 then n - (m + 1) else m) f with
    | (r, g) => if r = 0 then goR S w n m g else (r, g)
def fRun (S : ST) (s w : Int32) : Int32 × ST := if (bN s 6 && bN w 2) = true then (match goR S (ni w) (tL S).1 (tL S).1 (tS S (ni s)) with
    | (r, g) => if r = 0 then (nI (cnt g), set1 S (ni s) g) else (r, S)) else (-1, S)
def fLink (S : ST) (x n : Int32) : Int32 × ST := if bLink x n = true then (if (tL S).1 = 8 then (-4, S) else (nI ((tL S).1 + 1), stL S ((tL S).1 + 1, upn (tL S).2.1 (tL S).1 (ni x), upn (tL S).2.2.1 (tL S).1 n, upn (tL S).2.2.2 (tL S).1 (if ni x = 2 ∨ ni x = 5 then tS S (ni n) else fun _ => 0)))) else (-1, S)
/-- the scratch of THE CHAIN -/
def wkF (AL AL' : LT) (b : Nat) : Prop := (∀ c, c ≠ b + 1 → AL' c = AL c) ∧ ∀ p, p < 13 → mp AL' b p = mp AL b p
theorem wkF.sp {AL : LT} {b p : Nat} {f : Nat → Int64} (h : 13 ≤ p) : wkF AL (sp AL b p f) b := ⟨fun c hc => sp_off hc, fun q hq => mp_spn (by omega)⟩
theorem wkF.rf {AL : LT} {b : Nat} : wkF AL AL b := ⟨fun _ _ => rfl, fun _ _ => rfl⟩
theorem wkF.tr {AL AL1 AL2 : LT} {b : Nat} (h : wkF AL AL1 b) (k : wkF AL1 AL2 b) : wkF AL AL2 b := ⟨fun c hc => (k.1 c hc).trans (h.1 c hc), fun p hp => (k.2 p hp).trans (h.2 p hp)⟩
theorem s_mTakeLink {V : GV} {d b l : Nat} {g : Nat → Int64} {X : XT} {FI AI : FT} {AL : LT} (h : MO X b) (hl : l < 8) (hg : ∀ t, t < 84 → AL (b + 36) (84 * l + t) = g t) : G V m_Mod_takeLink d 0 [some (.ref b), some (.int (nI l)), none] [] X FI AI AL (Pd none X FI AI (sp AL b 16 g)) := by
  have L : ∀ k, k ≤ 84 → G V m_Mod_takeLink d 2 [some (.ref b), some (.int (nI l)), some (.int (nI k))] [] X FI AI (sp AL b 16 (fun j => if j < k then g j else mp AL b 16 j)) (Pd none X FI AI (sp AL b 16 g)) := by
    refine upto ?_ ?_
    · rw [sp_congr (f := fun j => if j < 84 then g j else mp AL b 16 j) (g := g) (fun j hj => if_pos hj)]
      refine G_iload2 3 d_Mod_takeLink_2 rfl ?_
      refine G_bipushN 84 5 d_Mod_takeLink_3 rfl rfl ?_
      first | refine G_icgeN 35 8 d_Mod_takeLink_5 rfl rfl (by omega) (by omega) (fun h5 => ?_) (fun h5 => ?_) | refine G_icge 35 8 d_Mod_takeLink_5 rfl rfl (fun h5 => ?_) (fun h5 => ?_)
      · refine G_vret d_Mod_takeLink_35 rfl ?_
        exact Pd.rf
      · omega
    · intro k hk ih
      have e0 : sp AL b 16 (fun j => if j < k then g j else mp AL b 16 j) (b + 36) (84 * l + k) = g k := by rw [sp_off (by omega)]; exact hg k hk
      have e : u2 (sp AL b 16 (fun j => if j < k then g j else mp AL b 16 j)) (b + 1) (1344 + k) (g k) = sp AL b 16 (fun j => if j < k + 1 then g j else mp AL b 16 j) := by
        have := sp_u2 (AL := AL) (b := b) (p := 16) (f := fun j => if j < k then g j else mp AL b 16 j) (x := g k) hk
        rw [show 84 * 16 + k = 1344 + k by omega] at this
        rw [this]
        refine sp_congr (fun j _ => ?_)
        by_cases c : j = k
        · rw [if_pos c, if_pos (by omega), c]
        · rw [if_neg c]
          by_cases c2 : j < k
          · rw [if_pos c2, if_pos (by omega)]
          · rw [if_neg c2, if_neg (by omega)]
      refine G_iload2 3 d_Mod_takeLink_2 rfl ?_
      refine G_bipushN 84 5 d_Mod_takeLink_3 rfl rfl ?_
      first | refine G_icgeN 35 8 d_Mod_takeLink_5 rfl rfl (by omega) (by omega) (fun h5 => ?_) (fun h5 => ?_) | refine G_icge 35 8 d_Mod_takeLink_5 rfl rfl (fun h5 => ?_) (fun h5 => ?_)
      · omega
      · refine G_aload0 9 d_Mod_takeLink_8 rfl ?_
        refine G_getR 12 d_Mod_takeLink_9 rfl f_Mod_9 rfl h.sh h.f0 ?_
        refine G_sipushN 1344 15 d_Mod_takeLink_12 rfl rfl ?_
        refine G_iload2 16 d_Mod_takeLink_15 rfl ?_
        first | refine G_iaddN 17 d_Mod_takeLink_16 rfl ?_ | refine G_iadd 17 d_Mod_takeLink_16 rfl ?_
        refine G_aload0 18 d_Mod_takeLink_17 rfl ?_
        refine G_getR 21 d_Mod_takeLink_18 rfl f_Mod_118 rfl h.sh h.f51 ?_
        refine G_bipushN 84 23 d_Mod_takeLink_21 rfl rfl ?_
        refine G_iload1 24 d_Mod_takeLink_23 rfl ?_
        first | refine G_imulN 25 d_Mod_takeLink_24 rfl ?_ | refine G_imul 25 d_Mod_takeLink_24 rfl ?_
        refine G_iload2 26 d_Mod_takeLink_25 rfl ?_
        first | refine G_iaddN 27 d_Mod_takeLink_26 rfl ?_ | refine G_iadd 27 d_Mod_takeLink_26 rfl ?_
        refine G_laloadv 28 d_Mod_takeLink_27 rfl h.s51 (ix_nI (by omega) (by omega)) e0 ?_
        refine G_lastore 29 d_Mod_takeLink_28 rfl h.s0 (ix_nI (by omega) (by omega)) ?_
        first | refine G_iincN2 32 d_Mod_takeLink_29 rfl (by decide) rfl ?_ | refine G_iinc2 _ 32 d_Mod_takeLink_29 rfl (by decide) rfl rfl ?_
        refine G_goto 2 d_Mod_takeLink_32 rfl ?_
        rw [e]
        exact ih
  refine G_iconstN 0 1 d_Mod_takeLink_0 rfl rfl ?_
  refine G_istore2 2 d_Mod_takeLink_1 rfl (by decide) rfl ?_
  have := L 0 (by omega)
  rw [sp_congr (f := fun j => if j < 0 then g j else mp AL b 16 j) (g := mp AL b 16) (fun j hj => if_neg (by omega)), sp_self] at this
  exact this
def goP (X : XT) (FI AI : FT) (AL : LT) (b : Nat) (z : Int32 × (Nat → Int64)) : PT := fun r X' FI' AI' AL' => r = some (.int z.1) ∧ X' = X ∧ FI' = FI ∧ AI' = AI ∧ wkF AL AL' b ∧ (z.1 = 0 → mp AL' b 17 = z.2)
theorem s_mGoTimes {V : GV} {d b : Nat} {n : Int32} {X : XT} {FI AI : FT} {AL : LT} (h : MO X b) : G V m_Mod_goTimes (d + 2) 0 [some (.ref b), some (.int n), none] [] X FI AI AL (goP X FI AI AL b (goT (mp AL b 17) n)) := by
  refine G_iload1 1 d_Mod_goTimes_0 rfl ?_
  refine G_i2l 2 d_Mod_goTimes_1 rfl ?_
  refine G_invS1d 5 d_Mod_goTimes_2 rfl e_Mod_158 M_Mod_size (Nat.le_of_ble_eq_true rfl) (Nat.le_of_ble_eq_true rfl) rfl (s_mSize) ?_
  refine G_aload0 6 d_Mod_goTimes_5 rfl ?_
  refine G_bipushN 17 8 d_Mod_goTimes_6 rfl rfl ?_
  refine G_invV1d 11 d_Mod_goTimes_8 rfl e_Mod_194 M_Mod_normOf rfl h.sh (Nat.le_of_ble_eq_true rfl) (Nat.le_of_ble_eq_true rfl) rfl (s_mNorm (by assumption) (by omega)) ?_
  refine G_invS2d 14 d_Mod_goTimes_11 rfl e_Mod_205 M_Mod_timesUp (Nat.le_of_ble_eq_true rfl) (Nat.le_of_ble_eq_true rfl) rfl (s_mTimesUp) ?_
  refine G_lconst 0 15 d_Mod_goTimes_14 rfl rfl ?_
  refine G_lcge 22 19 d_Mod_goTimes_15 d_Mod_goTimes_16 rfl rfl (fun h15 => ?_) (fun h15 => ?_)
  · have hlt : ¬ prodA (labs n.toInt64) (norm (mp AL b 17)) < 0 := h15
    simp only [goT, if_neg hlt]
    have L : ∀ k, k ≤ 84 → G V m_Mod_goTimes (d + 2) 24 [some (.ref b), some (.int n), some (.int (nI k))] [] X FI AI (sp AL b 17 (fun j => if j < k then mp AL b 17 j * n.toInt64 else mp AL b 17 j)) (goP X FI AI AL b (0, fun j => mp AL b 17 j * n.toInt64)) := by
      refine upto ?_ ?_
      · rw [sp_congr (f := fun j => if j < 84 then mp AL b 17 j * n.toInt64 else mp AL b 17 j) (g := fun j => mp AL b 17 j * n.toInt64) (fun j hj => if_pos hj)]
        refine G_iload2 25 d_Mod_goTimes_24 rfl ?_
        refine G_bipushN 84 27 d_Mod_goTimes_25 rfl rfl ?_
        first | refine G_icgeN 51 30 d_Mod_goTimes_27 rfl rfl (by omega) (by omega) (fun h27 => ?_) (fun h27 => ?_) | refine G_icge 51 30 d_Mod_goTimes_27 rfl rfl (fun h27 => ?_) (fun h27 => ?_)
        · refine G_iconstN 0 52 d_Mod_goTimes_51 rfl rfl ?_
          refine G_iret d_Mod_goTimes_52 rfl ?_
          exact ⟨rfl, rfl, rfl, rfl, wkF.sp (by omega), fun _ => by rw [mp_sp]; funext j; show (if j < 84 then mp AL b 17 j * n.toInt64 else 0) = mp AL b 17 j * n.toInt64; by_cases c : j < 84 <;> first | rw [if_pos c] | (rw [if_neg c]; unfold mp; rw [if_neg c, Int64.zero_mul])⟩
        · omega
      · intro k hk ih
        have e1 : sp AL b 17 (fun j => if j < k then mp AL b 17 j * n.toInt64 else mp AL b 17 j) (b + 1) (1428 + k) = mp AL b 17 k := by
          have := sp_rd (AL := AL) (b := b) (p := 17) (f := fun j => if j < k then mp AL b 17 j * n.toInt64 else mp AL b 17 j) hk
          rw [show 84 * 17 + k = 1428 + k by omega] at this
          rw [this, if_neg (Nat.lt_irrefl _)]
        have e : u2 (sp AL b 17 (fun j => if j < k then mp AL b 17 j * n.toInt64 else mp AL b 17 j)) (b + 1) (1428 + k) (mp AL b 17 k * n.toInt64) = sp AL b 17 (fun j => if j < k + 1 then mp AL b 17 j * n.toInt64 else mp AL b 17 j) := by
          have := sp_u2 (AL := AL) (b := b) (p := 17) (f := fun j => if j < k then mp AL b 17 j * n.toInt64 else mp AL b 17 j) (x := mp AL b 17 k * n.toInt64) hk
          rw [show 84 * 17 + k = 1428 + k by omega] at this
          rw [this]
          refine sp_congr (fun j _ => ?_)
          by_cases c : j = k
          · rw [if_pos c, if_pos (by omega), c]
          · rw [if_neg c]
            by_cases c2 : j < k
            · rw [if_pos c2, if_pos (by omega)]
            · rw [if_neg c2, if_neg (by omega)]
        refine G_iload2 25 d_Mod_goTimes_24 rfl ?_
        refine G_bipushN 84 27 d_Mod_goTimes_25 rfl rfl ?_
        first | refine G_icgeN 51 30 d_Mod_goTimes_27 rfl rfl (by omega) (by omega) (fun h27 => ?_) (fun h27 => ?_) | refine G_icge 51 30 d_Mod_goTimes_27 rfl rfl (fun h27 => ?_) (fun h27 => ?_)
        · omega
        · refine G_aload0 31 d_Mod_goTimes_30 rfl ?_
          refine G_getR 34 d_Mod_goTimes_31 rfl f_Mod_9 rfl h.sh h.f0 ?_
          refine G_sipushN 1428 37 d_Mod_goTimes_34 rfl rfl ?_
          refine G_iload2 38 d_Mod_goTimes_37 rfl ?_
          first | refine G_iaddN 39 d_Mod_goTimes_38 rfl ?_ | refine G_iadd 39 d_Mod_goTimes_38 rfl ?_
          refine G_dup2 40 d_Mod_goTimes_39 rfl rfl rfl ?_
          refine G_laloadv 41 d_Mod_goTimes_40 rfl h.s0 (ix_nI (by omega) (by omega)) e1 ?_
          refine G_iload1 42 d_Mod_goTimes_41 rfl ?_
          refine G_i2l 43 d_Mod_goTimes_42 rfl ?_
          refine G_lmul 44 d_Mod_goTimes_43 rfl ?_
          refine G_lastore 45 d_Mod_goTimes_44 rfl h.s0 (ix_nI (by omega) (by omega)) ?_
          first | refine G_iincN2 48 d_Mod_goTimes_45 rfl (by decide) rfl ?_ | refine G_iinc2 _ 48 d_Mod_goTimes_45 rfl (by decide) rfl rfl ?_
          refine G_goto 24 d_Mod_goTimes_48 rfl ?_
          rw [e]
          exact ih
    refine G_iconstN 0 23 d_Mod_goTimes_22 rfl rfl ?_
    refine G_istore2 24 d_Mod_goTimes_23 rfl (by decide) rfl ?_
    have := L 0 (by omega)
    rw [sp_congr (f := fun j => if j < 0 then mp AL b 17 j * n.toInt64 else mp AL b 17 j) (g := mp AL b 17) (fun j hj => if_neg (by omega)), sp_self] at this
    exact this
  · have hlt : prodA (labs n.toInt64) (norm (mp AL b 17)) < 0 := h15
    simp only [goT, if_pos hlt]
    refine G_bipush (-5) 21 d_Mod_goTimes_19 rfl rfl ?_
    refine G_iret d_Mod_goTimes_21 rfl ?_
    exact ⟨rfl, rfl, rfl, rfl, wkF.rf, fun e => absurd (show (-5 : Int32) = 0 from e) (by decide)⟩
theorem s_mGoPlus {V : GV} {d b : Nat} {X : XT} {FI AI : FT} {AL : LT} (h : MO X b) : G V m_Mod_goPlus (d + 2) 0 [some (.ref b)] [] X FI AI AL (goP X FI AI AL b (goA (mp AL b 17) (mp AL b 16))) := by
  refine G_aload0 1 d_Mod_goPlus_0 rfl ?_
  refine G_bipushN 17 3 d_Mod_goPlus_1 rfl rfl ?_
  refine G_invV1d 6 d_Mod_goPlus_3 rfl e_Mod_194 M_Mod_normOf rfl h.sh (Nat.le_of_ble_eq_true rfl) (Nat.le_of_ble_eq_true rfl) rfl (s_mNorm (by assumption) (by omega)) ?_
  refine G_aload0 7 d_Mod_goPlus_6 rfl ?_
  refine G_bipushN 16 9 d_Mod_goPlus_7 rfl rfl ?_
  refine G_invV1d 12 d_Mod_goPlus_9 rfl e_Mod_194 M_Mod_normOf rfl h.sh (Nat.le_of_ble_eq_true rfl) (Nat.le_of_ble_eq_true rfl) rfl (s_mNorm (by assumption) (by omega)) ?_
  refine G_invS2d 15 d_Mod_goPlus_12 rfl e_Mod_198 M_Mod_plusUp (Nat.le_of_ble_eq_true rfl) (Nat.le_of_ble_eq_true rfl) rfl (s_mPlusUp) ?_
  refine G_lconst 0 16 d_Mod_goPlus_15 rfl rfl ?_
  refine G_lcge 23 20 d_Mod_goPlus_16 d_Mod_goPlus_17 rfl rfl (fun h16 => ?_) (fun h16 => ?_)
  · have hlt : ¬ sumA (norm (mp AL b 17)) (norm (mp AL b 16)) < 0 := h16
    simp only [goA, if_neg hlt]
    have := cu_addP (mp AL b 17) (mp AL b 16) 1
    rw [mp_cu, mp_cu] at this
    refine G_aload0 24 d_Mod_goPlus_23 rfl ?_
    refine G_bipushN 17 26 d_Mod_goPlus_24 rfl rfl ?_
    refine G_bipushN 16 28 d_Mod_goPlus_26 rfl rfl ?_
    refine G_lconst 1 29 d_Mod_goPlus_28 rfl rfl ?_
    refine G_invV3v 32 d_Mod_goPlus_29 rfl e_Mod_212 M_Mod_addTo rfl h.sh (Nat.le_of_ble_eq_true rfl) (Nat.le_of_ble_eq_true rfl) rfl (s_mAdd (by assumption) (by omega) (by omega)) ?_
    refine G_iconstN 0 33 d_Mod_goPlus_32 rfl rfl ?_
    refine G_iret d_Mod_goPlus_33 rfl ?_
    exact ⟨rfl, rfl, rfl, rfl, wkF.sp (by omega), fun _ => by rw [mp_sp]; exact this⟩
  · have hlt : sumA (norm (mp AL b 17)) (norm (mp AL b 16)) < 0 := h16
    simp only [goA, if_pos hlt]
    refine G_bipush (-5) 22 d_Mod_goPlus_20 rfl rfl ?_
    refine G_iret d_Mod_goPlus_22 rfl ?_
    exact ⟨rfl, rfl, rfl, rfl, wkF.rf, fun e => absurd (show (-5 : Int32) = 0 from e) (by decide)⟩
theorem s_mGoProduct {V : GV} {d b : Nat} {X : XT} {FI AI : FT} {AL : LT} (h : MO X b) (hT : MTb AI b) : G V m_Mod_goProduct (d + 3) 0 [some (.ref b)] [] X FI AI AL (goP X FI AI AL b (goM (mp AL b 17) (mp AL b 16))) := by
  have dk := pdeg_le (mp AL b 17) 84 (by omega)
  have dl' := pdeg_le (mp AL b 16) 84 (by omega)
  have rest : ¬ (0 < deg1 (mp AL b 17) ∧ 0 < deg1 (mp AL b 16) ∧ 8 < deg1 (mp AL b 17) + deg1 (mp AL b 16)) → G V m_Mod_goProduct (d + 3) 39 [some (.ref b)] [] X FI AI AL (goP X FI AI AL b (if prodA (norm (mp AL b 17)) (norm (mp AL b 16)) < 0 then (-5, mp AL b 17) else (0, mulP (mp AL b 17) (mp AL b 16)))) := by
    intro hdg
    have hmul : ∀ t u, t < 84 → u < 84 → mp AL b 17 t ≠ 0 → mp AL b 16 u ≠ 0 → eD t + eD u ≤ 6 := fun t u ht hu a1 a2 => by
      have b1 := deg1_lt 84 t (Nat.le_refl _) ht a1
      have b2 := deg1_lt 84 u (Nat.le_refl _) hu a2
      unfold deg1 at hdg
      omega
    have hm := s_mMultiply (V := V) (d := d) (p := 17) (q := 16) (r := 13) (FI := FI) (AL := AL) h hT (by omega) (by omega) (by omega) (by omega) (by omega) hmul
    refine G_aload0 40 d_Mod_goProduct_39 rfl ?_
    refine G_bipushN 17 42 d_Mod_goProduct_40 rfl rfl ?_
    refine G_invV1d 45 d_Mod_goProduct_42 rfl e_Mod_194 M_Mod_normOf rfl h.sh (Nat.le_of_ble_eq_true rfl) (Nat.le_of_ble_eq_true rfl) rfl (s_mNorm (by assumption) (by omega)) ?_
    refine G_aload0 46 d_Mod_goProduct_45 rfl ?_
    refine G_bipushN 16 48 d_Mod_goProduct_46 rfl rfl ?_
    refine G_invV1d 51 d_Mod_goProduct_48 rfl e_Mod_194 M_Mod_normOf rfl h.sh (Nat.le_of_ble_eq_true rfl) (Nat.le_of_ble_eq_true rfl) rfl (s_mNorm (by assumption) (by omega)) ?_
    refine G_invS2d 54 d_Mod_goProduct_51 rfl e_Mod_205 M_Mod_timesUp (Nat.le_of_ble_eq_true rfl) (Nat.le_of_ble_eq_true rfl) rfl (s_mTimesUp) ?_
    refine G_lconst 0 55 d_Mod_goProduct_54 rfl rfl ?_
    refine G_lcge 62 59 d_Mod_goProduct_55 d_Mod_goProduct_56 rfl rfl (fun h55 => ?_) (fun h55 => ?_)
    · have hlt : ¬ prodA (norm (mp AL b 17)) (norm (mp AL b 16)) < 0 := h55
      simp only [if_neg hlt]
      refine G_aload0 63 d_Mod_goProduct_62 rfl ?_
      refine G_bipushN 17 65 d_Mod_goProduct_63 rfl rfl ?_
      refine G_bipushN 16 67 d_Mod_goProduct_65 rfl rfl ?_
      refine G_bipushN 13 69 d_Mod_goProduct_67 rfl rfl ?_
      refine G_invV3v 72 d_Mod_goProduct_69 rfl e_Mod_216 M_Mod_multiply rfl h.sh (Nat.le_of_ble_eq_true rfl) (Nat.le_of_ble_eq_true rfl) rfl (hm) ?_
      refine G_aload0 73 d_Mod_goProduct_72 rfl ?_
      refine G_bipushN 13 75 d_Mod_goProduct_73 rfl rfl ?_
      refine G_bipushN 17 77 d_Mod_goProduct_75 rfl rfl ?_
      refine G_invV2v 80 d_Mod_goProduct_77 rfl e_Mod_208 M_Mod_copyTo rfl h.sh (Nat.le_of_ble_eq_true rfl) (Nat.le_of_ble_eq_true rfl) rfl (s_mCopy (by assumption) (by omega) (by omega)) ?_
      refine G_iconstN 0 81 d_Mod_goProduct_80 rfl rfl ?_
      refine G_iret d_Mod_goProduct_81 rfl ?_
      exact ⟨rfl, rfl, rfl, rfl, (wkF.sp (by omega)).tr (wkF.sp (by omega)), fun _ => by rw [mp_sp, mp_cu, mp_sp, cu_mulP]⟩
    · have hlt : prodA (norm (mp AL b 17)) (norm (mp AL b 16)) < 0 := h55
      simp only [if_pos hlt]
      refine G_bipush (-5) 61 d_Mod_goProduct_59 rfl rfl ?_
      refine G_iret d_Mod_goProduct_61 rfl ?_
      exact ⟨rfl, rfl, rfl, rfl, wkF.rf, fun e => absurd (show (-5 : Int32) = 0 from e) (by decide)⟩
  unfold goM
  refine G_aload0 1 d_Mod_goProduct_0 rfl ?_
  refine G_bipushN 17 3 d_Mod_goProduct_1 rfl rfl ?_
  refine G_invV1d 6 d_Mod_goProduct_3 rfl e_Mod_166 M_Mod_degreeAt rfl h.sh (Nat.le_of_ble_eq_true rfl) (Nat.le_of_ble_eq_true rfl) rfl (s_mDegree (by assumption) (by assumption) (by omega)) ?_
  rcases Nat.eq_zero_or_pos (deg1 (mp AL b 17)) with c1 | c1
  · have hno : ¬ (0 < deg1 (mp AL b 17) ∧ 0 < deg1 (mp AL b 16) ∧ 8 < deg1 (mp AL b 17) + deg1 (mp AL b 16)) := by omega
    simp only [if_neg hno]
    rw [c1, dI_0]
    first | refine G_ifltD 39 9 d_Mod_goProduct_6 rfl rfl (by omega) (fun h6 => ?_) (fun j h6 => ?_) | refine G_iflt 39 9 d_Mod_goProduct_6 rfl rfl (fun h6 => ?_) (fun h6 => ?_)
    · exact rest hno
    · exact absurd (by decide) h6
  · obtain ⟨i, hi⟩ : ∃ i, deg1 (mp AL b 17) = i + 1 := ⟨deg1 (mp AL b 17) - 1, by omega⟩
    have hi7 : i + 1 ≤ 7 := by rw [← hi]; exact dk
    rw [hi, dI_s]
    first | refine G_ifltD 39 9 d_Mod_goProduct_6 rfl rfl (by omega) (fun h6 => ?_) (fun j h6 => ?_) | refine G_iflt 39 9 d_Mod_goProduct_6 rfl rfl (fun h6 => ?_) (fun h6 => ?_)
    · exact absurd h6 (nI_pos (by omega))
    · refine G_aload0 10 d_Mod_goProduct_9 rfl ?_
      refine G_bipushN 16 12 d_Mod_goProduct_10 rfl rfl ?_
      refine G_invV1d 15 d_Mod_goProduct_12 rfl e_Mod_166 M_Mod_degreeAt rfl h.sh (Nat.le_of_ble_eq_true rfl) (Nat.le_of_ble_eq_true rfl) rfl (s_mDegree (by assumption) (by assumption) (by omega)) ?_
      rcases Nat.eq_zero_or_pos (deg1 (mp AL b 16)) with c2 | c2
      · have hno : ¬ (0 < i + 1 ∧ 0 < deg1 (mp AL b 16) ∧ 8 < i + 1 + deg1 (mp AL b 16)) := by omega
        simp only [if_neg hno]
        rw [c2, dI_0]
        first | refine G_ifltD 39 18 d_Mod_goProduct_15 rfl rfl (by omega) (fun h15 => ?_) (fun j h15 => ?_) | refine G_iflt 39 18 d_Mod_goProduct_15 rfl rfl (fun h15 => ?_) (fun h15 => ?_)
        · exact rest (by omega)
        · exact absurd (by decide) h15
      · obtain ⟨j, hj⟩ : ∃ j, deg1 (mp AL b 16) = j + 1 := ⟨deg1 (mp AL b 16) - 1, by omega⟩
        have hj7 : j + 1 ≤ 7 := by rw [← hj]; exact dl'
        rw [hj, dI_s]
        first | refine G_ifltD 39 18 d_Mod_goProduct_15 rfl rfl (by omega) (fun h15 => ?_) (fun j h15 => ?_) | refine G_iflt 39 18 d_Mod_goProduct_15 rfl rfl (fun h15 => ?_) (fun h15 => ?_)
        · exact absurd h15 (nI_pos (by omega))
        · refine G_aload0 19 d_Mod_goProduct_18 rfl ?_
          refine G_bipushN 17 21 d_Mod_goProduct_19 rfl rfl ?_
          refine G_invV1d 24 d_Mod_goProduct_21 rfl e_Mod_166 M_Mod_degreeAt rfl h.sh (Nat.le_of_ble_eq_true rfl) (Nat.le_of_ble_eq_true rfl) rfl (s_mDegree (by assumption) (by assumption) (by omega)) ?_
          rw [hi, dI_s]
          refine G_aload0 25 d_Mod_goProduct_24 rfl ?_
          refine G_bipushN 16 27 d_Mod_goProduct_25 rfl rfl ?_
          refine G_invV1d 30 d_Mod_goProduct_27 rfl e_Mod_166 M_Mod_degreeAt rfl h.sh (Nat.le_of_ble_eq_true rfl) (Nat.le_of_ble_eq_true rfl) rfl (s_mDegree (by assumption) (by assumption) (by omega)) ?_
          rw [hj, dI_s]
          first | refine G_iaddN 31 d_Mod_goProduct_30 rfl ?_ | refine G_iadd 31 d_Mod_goProduct_30 rfl ?_
          refine G_bipushN 6 33 d_Mod_goProduct_31 rfl rfl ?_
          first | refine G_icleN 39 36 d_Mod_goProduct_33 rfl rfl (by omega) (by omega) (fun h33 => ?_) (fun h33 => ?_) | refine G_icle 39 36 d_Mod_goProduct_33 rfl rfl (fun h33 => ?_) (fun h33 => ?_)
          · have hno : ¬ (0 < i + 1 ∧ 0 < j + 1 ∧ 8 < i + 1 + (j + 1)) := by omega
            simp only [if_neg hno]
            exact rest (by omega)
          · have hyes : 0 < i + 1 ∧ 0 < j + 1 ∧ 8 < i + 1 + (j + 1) := by omega
            simp only [if_pos hyes]
            refine G_bipush (-6) 38 d_Mod_goProduct_36 rfl rfl ?_
            refine G_iret d_Mod_goProduct_38 rfl ?_
            exact ⟨rfl, rfl, rfl, rfl, wkF.rf, fun e => absurd (show (-6 : Int32) = 0 from e) (by decide)⟩
def goQ (S : ST) (X : XT) (FI AI : FT) (AL : LT) (b : Nat) (z : Int32 × (Nat → Int64)) : PT := fun r X' FI' AI' AL' => r = some (.int z.1) ∧ X' = X ∧ MIv S FI' AI' AL' b ∧ fM FI FI' AI AI' AL AL' b ∧ (z.1 = 0 → mp AL' b 17 = z.2)
theorem goP.q {S : ST} {X : XT} {FI AI : FT} {AL : LT} {b : Nat} {z : Int32 × (Nat → Int64)} (hI : MIv S FI AI AL b) (hW : WS S) : ∀ r X' FI' AI' AL', goP X FI AI AL b z r X' FI' AI' AL' → goQ S X FI AI AL b z r X' FI' AI' AL' := by
  rintro r X' FI' AI' AL' ⟨a1, a2, rfl, rfl, a5, a6⟩
  exact ⟨a1, a2, hI.wk hW a5.1 a5.2, fM.al a5.1, a6⟩
theorem goQ.up {S : ST} {X : XT} {FI AI : FT} {AL AL1 : LT} {b : Nat} {z : Int32 × (Nat → Int64)} (hk : wkF AL AL1 b) : ∀ r X' FI' AI' AL', goQ S X FI AI AL1 b z r X' FI' AI' AL' → goQ S X FI AI AL b z r X' FI' AI' AL' := by
  rintro r X' FI' AI' AL' ⟨a1, a2, a3, a4, a5⟩
  exact ⟨a1, a2, a3, (fM.al hk.1).tr a4, a5⟩
theorem s_mGoApart {V : GV} {d b : Nat} {S : ST} {X : XT} {FI AI : FT} {AL : LT} (h : MO X b) (hI : MIv S FI AI AL b) (hW : WS S) : G V m_Mod_goApart (d + 6) 0 [some (.ref b)] [] X FI AI AL (goQ S X FI AI AL b (goS S (mp AL b 17))) := by
  have hk1 : dfF AL (sp AL b 18 (mp AL b 17)) b := ⟨fun c hc => sp_off hc, fun p a1 a2 a3 a4 a5 => mp_spn a5⟩
  have m18 : mp (sp AL b 18 (mp AL b 17)) b 18 = mp AL b 17 := by rw [mp_sp, mp_cu]
  have hI1 := hI.df hW hk1
  have hap := s_mTakeApart (V := V) (d := d) h (hI1.1.gn hW.2.1)
  rw [m18] at hap
  refine G_aload0 1 d_Mod_goApart_0 rfl ?_
  refine G_bipushN 17 3 d_Mod_goApart_1 rfl rfl ?_
  refine G_bipushN 18 5 d_Mod_goApart_3 rfl rfl ?_
  refine G_invV2v 8 d_Mod_goApart_5 rfl e_Mod_208 M_Mod_copyTo rfl h.sh (Nat.le_of_ble_eq_true rfl) (Nat.le_of_ble_eq_true rfl) rfl (s_mCopy (by assumption) (by omega) (by omega)) ?_
  refine G_aload0 9 d_Mod_goApart_8 rfl ?_
  refine G_invV0 12 d_Mod_goApart_9 rfl e_Mod_344 M_Mod_takeApart rfl h.sh (Nat.le_of_ble_eq_true rfl) (Nat.le_of_ble_eq_true rfl) rfl (G.conseq (hap) (fun r9 X9 FI9 AI9 AL9 h9 => ?_))
  obtain ⟨y1, y2, y3⟩ := h9
  replace y1 := y1.symm
  subst y1
  have hI2 := hI1.ap hW y2
  have hf2 := (hk1.fm (FI := FI) (AI := AI)).tr y2.fm
  unfold goS aptS
  cases ha : apt (tO S) (gN (tG S)) (leadL (gL (tG S)) (gN (tG S))) (gP (tG S)) 84 (mp AL b 17) [] with
  | none =>
    rw [ha] at y3
    subst y3
    refine G_ifne 18 15 d_Mod_goApart_12 rfl rfl (fun h12 => ?_) (fun h12 => ?_)
    · exact absurd rfl h12
    · refine G_bipush (-5) 17 d_Mod_goApart_15 rfl rfl ?_
      refine G_iret d_Mod_goApart_17 rfl ?_
      exact ⟨rfl, rfl, hI2, hf2, fun e => absurd (show (-5 : Int32) = 0 from e) (by decide)⟩
  | some w =>
    rw [ha] at y3
    obtain ⟨rfl, s20, sts, w18, wl⟩ := y3
    dsimp only
    have hk3 : wkF AL9 (sp AL9 b 17 (mp AL9 b 18)) b := wkF.sp (by omega)
    refine G_ifne 18 15 d_Mod_goApart_12 rfl rfl (fun h12 => ?_) (fun h12 => ?_)
    · refine G_aload0 19 d_Mod_goApart_18 rfl ?_
      refine G_bipushN 18 21 d_Mod_goApart_19 rfl rfl ?_
      refine G_bipushN 17 23 d_Mod_goApart_21 rfl rfl ?_
      refine G_invV2v 26 d_Mod_goApart_23 rfl e_Mod_208 M_Mod_copyTo rfl h.sh (Nat.le_of_ble_eq_true rfl) (Nat.le_of_ble_eq_true rfl) rfl (s_mCopy (by assumption) (by omega) (by omega)) ?_
      refine G_iconstN 0 27 d_Mod_goApart_26 rfl rfl ?_
      refine G_iret d_Mod_goApart_27 rfl ?_
      exact ⟨rfl, rfl, hI2.wk hW hk3.1 hk3.2, hf2.tr (fM.al hk3.1), fun _ => by rw [mp_sp, mp_cu, w18]⟩
    · exact absurd h12 (by decide)
theorem s_mGoThrough {V : GV} {d b l : Nat} {S : ST} {X : XT} {FI AI : FT} {AL : LT} (h : MO X b) (hI : MIv S FI AI AL b) (hW : WS S) (hl : l < (tL S).1) : G V m_Mod_goThrough (d + 7) 0 [some (.ref b), some (.int (nI l))] [] X FI AI AL (goQ S X FI AI AL b (goL S l (mp AL b 17))) := by
  obtain ⟨g, a1, a2, a3, a4, a5, a6⟩ := hI.de
  have hl8 := hW.2.2.2.2.2.1.1
  obtain ⟨k7, w0, w1, w3, wc⟩ := hW.2.2.2.2.2.1.2 l hl
  obtain ⟨c1, c2, c3⟩ := a5.2 l hl
  have hT := g.1
  unfold goL
  have kk : (tL S).2.1 l = 0 ∨ (tL S).2.1 l = 1 ∨ (tL S).2.1 l = 2 ∨ (tL S).2.1 l = 3 ∨ (tL S).2.1 l = 4 ∨ (tL S).2.1 l = 5 ∨ (tL S).2.1 l = 6 := by omega
  refine G_aload0 1 d_Mod_goThrough_0 rfl ?_
  refine G_getR 4 d_Mod_goThrough_1 rfl f_Mod_112 rfl h.sh h.f49 ?_
  refine G_iload1 5 d_Mod_goThrough_4 rfl ?_
  refine G_ialoadv 6 d_Mod_goThrough_5 rfl h.s49 (ix_nI (by omega) (by omega)) c1 ?_
  rcases kk with e | e | e | e | e | e | e
  · rw [e]
    obtain ⟨t, ht, hw⟩ := w0 e
    rw [hw] at c2
    simp only [hw, ni_nI (show t < 2 ^ 31 by omega)]
    refine G_tableIn 44 d_Mod_goThrough_6 (by decide) (by decide) rfl rfl ?_
    have hk : wkF AL (sp (sp AL b 13 (trn (mp AL b 17) t)) b 17 (mp (sp AL b 13 (trn (mp AL b 17) t)) b 13)) b := (wkF.sp (by omega)).tr (wkF.sp (by omega))
    refine G_aload0 45 d_Mod_goThrough_44 rfl ?_
    refine G_bipushN 17 47 d_Mod_goThrough_45 rfl rfl ?_
    refine G_aload0 48 d_Mod_goThrough_47 rfl ?_
    refine G_getR 51 d_Mod_goThrough_48 rfl f_Mod_115 rfl h.sh h.f50 ?_
    refine G_iload1 52 d_Mod_goThrough_51 rfl ?_
    refine G_ialoadv 53 d_Mod_goThrough_52 rfl h.s50 (ix_nI (by omega) (by omega)) c2 ?_
    refine G_bipushN 13 55 d_Mod_goThrough_53 rfl rfl ?_
    refine G_invV3v 58 d_Mod_goThrough_55 rfl e_Mod_229 M_Mod_turnTo rfl h.sh (Nat.le_of_ble_eq_true rfl) (Nat.le_of_ble_eq_true rfl) rfl (s_mTurnTo (by assumption) (by assumption) (by omega) (by omega) (by omega) (by omega)) ?_
    refine G_aload0 59 d_Mod_goThrough_58 rfl ?_
    refine G_bipushN 13 61 d_Mod_goThrough_59 rfl rfl ?_
    refine G_bipushN 17 63 d_Mod_goThrough_61 rfl rfl ?_
    refine G_invV2v 66 d_Mod_goThrough_63 rfl e_Mod_208 M_Mod_copyTo rfl h.sh (Nat.le_of_ble_eq_true rfl) (Nat.le_of_ble_eq_true rfl) rfl (s_mCopy (by assumption) (by omega) (by omega)) ?_
    refine G_iconstN 0 67 d_Mod_goThrough_66 rfl rfl ?_
    refine G_iret d_Mod_goThrough_67 rfl ?_
    exact ⟨rfl, rfl, hI.wk hW hk.1 hk.2, fM.al hk.1, fun _ => by rw [mp_sp, mp_cu, mp_sp, cu_trn]⟩
  · rw [e]
    refine G_tableIn 68 d_Mod_goThrough_6 (by decide) (by decide) rfl rfl ?_
    have hg := (s_mGoTimes (V := V) (d := d + 4) (n := (tL S).2.2.1 l) (FI := FI) (AI := AI) (AL := AL) h).conseq (goP.q hI hW)
    refine G_aload0 69 d_Mod_goThrough_68 rfl ?_
    refine G_aload0 70 d_Mod_goThrough_69 rfl ?_
    refine G_getR 73 d_Mod_goThrough_70 rfl f_Mod_115 rfl h.sh h.f50 ?_
    refine G_iload1 74 d_Mod_goThrough_73 rfl ?_
    refine G_ialoadv 75 d_Mod_goThrough_74 rfl h.s50 (ix_nI (by omega) (by omega)) c2 ?_
    refine G_invV1 78 d_Mod_goThrough_75 rfl e_Mod_441 M_Mod_goTimes rfl h.sh (Nat.le_of_ble_eq_true rfl) (Nat.le_of_ble_eq_true rfl) rfl (G.conseq (hg) (fun r75 X75 FI75 AI75 AL75 h75 => ?_))
    obtain ⟨r1, r2⟩ := h75
    subst r1
    refine G_iret d_Mod_goThrough_78 rfl ?_
    exact ⟨rfl, r2⟩
  · rw [e]
    refine G_tableIn 79 d_Mod_goThrough_6 (by decide) (by decide) rfl rfl ?_
    have tl := s_mTakeLink (V := V) (d := d + 6) (FI := FI) (AI := AI) (AL := AL) h (show l < 8 by omega) (c3 (Or.inl e))
    have hk : wkF AL (sp AL b 16 ((tL S).2.2.2 l)) b := wkF.sp (by omega)
    have hg := ((s_mGoPlus (V := V) (d := d + 4) (FI := FI) (AI := AI) (AL := sp AL b 16 ((tL S).2.2.2 l)) h).conseq (goP.q (hI.wk hW hk.1 hk.2) hW)).conseq (goQ.up hk)
    rw [mp_sp, mp_spn (by omega), wc] at hg
    refine G_aload0 80 d_Mod_goThrough_79 rfl ?_
    refine G_iload1 81 d_Mod_goThrough_80 rfl ?_
    refine G_invV1v 84 d_Mod_goThrough_81 rfl e_Mod_444 M_Mod_takeLink rfl h.sh (Nat.le_of_ble_eq_true rfl) (Nat.le_of_ble_eq_true rfl) rfl (tl) ?_
    refine G_aload0 85 d_Mod_goThrough_84 rfl ?_
    refine G_invV0 88 d_Mod_goThrough_85 rfl e_Mod_447 M_Mod_goPlus rfl h.sh (Nat.le_of_ble_eq_true rfl) (Nat.le_of_ble_eq_true rfl) rfl (G.conseq (hg) (fun r85 X85 FI85 AI85 AL85 h85 => ?_))
    obtain ⟨r1, r2⟩ := h85
    subst r1
    refine G_iret d_Mod_goThrough_88 rfl ?_
    exact ⟨rfl, r2⟩
  · rw [e]
    obtain ⟨t, ht, hw⟩ := w3 e
    rw [hw] at c2
    simp only [hw, ni_nI (show t < 2 ^ 31 by omega)]
    refine G_tableIn 89 d_Mod_goThrough_6 (by decide) (by decide) rfl rfl ?_
    have hk : wkF AL (sp AL b 16 (mp AL b t)) b := wkF.sp (by omega)
    have hg := ((s_mGoPlus (V := V) (d := d + 4) (FI := FI) (AI := AI) (AL := sp AL b 16 (mp AL b t)) h).conseq (goP.q (hI.wk hW hk.1 hk.2) hW)).conseq (goQ.up hk)
    rw [mp_sp, mp_spn (by omega), mp_cu, a2 t ht] at hg
    refine G_aload0 90 d_Mod_goThrough_89 rfl ?_
    refine G_aload0 91 d_Mod_goThrough_90 rfl ?_
    refine G_getR 94 d_Mod_goThrough_91 rfl f_Mod_115 rfl h.sh h.f50 ?_
    refine G_iload1 95 d_Mod_goThrough_94 rfl ?_
    refine G_ialoadv 96 d_Mod_goThrough_95 rfl h.s50 (ix_nI (by omega) (by omega)) c2 ?_
    refine G_bipushN 16 98 d_Mod_goThrough_96 rfl rfl ?_
    refine G_invV2v 101 d_Mod_goThrough_98 rfl e_Mod_208 M_Mod_copyTo rfl h.sh (Nat.le_of_ble_eq_true rfl) (Nat.le_of_ble_eq_true rfl) rfl (s_mCopy (by assumption) (by omega) (by omega)) ?_
    rw [a2 t ht]
    refine G_aload0 102 d_Mod_goThrough_101 rfl ?_
    refine G_invV0 105 d_Mod_goThrough_102 rfl e_Mod_447 M_Mod_goPlus rfl h.sh (Nat.le_of_ble_eq_true rfl) (Nat.le_of_ble_eq_true rfl) rfl (G.conseq (hg) (fun r102 X102 FI102 AI102 AL102 h102 => ?_))
    obtain ⟨r1, r2⟩ := h102
    subst r1
    refine G_iret d_Mod_goThrough_105 rfl ?_
    exact ⟨rfl, r2⟩
  · rw [e]
    refine G_tableIn 106 d_Mod_goThrough_6 (by decide) (by decide) rfl rfl ?_
    have hg := s_mGoApart (V := V) (d := d) h hI hW
    refine G_aload0 107 d_Mod_goThrough_106 rfl ?_
    refine G_invV0 110 d_Mod_goThrough_107 rfl e_Mod_450 M_Mod_goApart rfl h.sh (Nat.le_of_ble_eq_true rfl) (Nat.le_of_ble_eq_true rfl) rfl (G.conseq (hg) (fun r107 X107 FI107 AI107 AL107 h107 => ?_))
    obtain ⟨r1, r2⟩ := h107
    subst r1
    refine G_iret d_Mod_goThrough_110 rfl ?_
    exact ⟨rfl, r2⟩
  · rw [e]
    refine G_tableIn 111 d_Mod_goThrough_6 (by decide) (by decide) rfl rfl ?_
    have tl := s_mTakeLink (V := V) (d := d + 6) (FI := FI) (AI := AI) (AL := AL) h (show l < 8 by omega) (c3 (Or.inr e))
    have hk : wkF AL (sp AL b 16 ((tL S).2.2.2 l)) b := wkF.sp (by omega)
    have hg := ((s_mGoProduct (V := V) (d := d + 3) (FI := FI) (AI := AI) (AL := sp AL b 16 ((tL S).2.2.2 l)) h hT).conseq (goP.q (hI.wk hW hk.1 hk.2) hW)).conseq (goQ.up hk)
    rw [mp_sp, mp_spn (by omega), wc] at hg
    refine G_aload0 112 d_Mod_goThrough_111 rfl ?_
    refine G_iload1 113 d_Mod_goThrough_112 rfl ?_
    refine G_invV1v 116 d_Mod_goThrough_113 rfl e_Mod_444 M_Mod_takeLink rfl h.sh (Nat.le_of_ble_eq_true rfl) (Nat.le_of_ble_eq_true rfl) rfl (tl) ?_
    refine G_aload0 117 d_Mod_goThrough_116 rfl ?_
    refine G_invV0 120 d_Mod_goThrough_117 rfl e_Mod_453 M_Mod_goProduct rfl h.sh (Nat.le_of_ble_eq_true rfl) (Nat.le_of_ble_eq_true rfl) rfl (G.conseq (hg) (fun r117 X117 FI117 AI117 AL117 h117 => ?_))
    obtain ⟨r1, r2⟩ := h117
    subst r1
    refine G_iret d_Mod_goThrough_120 rfl ?_
    exact ⟨rfl, r2⟩
  · rw [e]
    refine G_tableOut 121 d_Mod_goThrough_6 (Or.inr (by decide)) rfl ?_
    have hg := (s_mGoTimes (V := V) (d := d + 4) (n := -1) (FI := FI) (AI := AI) (AL := AL) h).conseq (goP.q hI hW)
    refine G_aload0 122 d_Mod_goThrough_121 rfl ?_
    refine G_iconst (-1) 123 d_Mod_goThrough_122 rfl rfl ?_
    refine G_invV1 126 d_Mod_goThrough_123 rfl e_Mod_441 M_Mod_goTimes rfl h.sh (Nat.le_of_ble_eq_true rfl) (Nat.le_of_ble_eq_true rfl) rfl (G.conseq (hg) (fun r123 X123 FI123 AI123 AL123 h123 => ?_))
    obtain ⟨r1, r2⟩ := h123
    subst r1
    refine G_iret d_Mod_goThrough_126 rfl ?_
    exact ⟨rfl, r2⟩
theorem m_run {V : GV} {d b : Nat} {S : ST} {s w : Int32} {X : XT} {FI AI : FT} {AL : LT} (h : MO X b) (hI : MIv S FI AI AL b) (hW : WS S) : G V m_Mod_run (d + 8) 0 [some (.ref b), some (.int s), some (.int w), none, none] [] X FI AI AL (fun r X' FI' AI' AL' => r = some (.int (fRun S s w).1) ∧ X' = X ∧ MIv (fRun S s w).2 FI' AI' AL' b ∧ fM FI FI' AI AI' AL AL' b) := by
  obtain ⟨hG, hO, hSl, -⟩ := id hI
  have hT := hG.1
  have hn9 := hG.2.1
  have ho := hG.2.2.1
  have hrk := hG.2.2.2.1
  have hn7 := hW.2.1.1
  have kw : ((0 : Int64).toInt ≤ w.toInt64.toInt ∧ w.toInt64.toInt ≤ (1 : Int64).toInt) ↔ isN w 2 := by
    rw [toL, isN_iff (by omega), show (0 : Int64).toInt = 0 from rfl, show (1 : Int64).toInt = 1 from rfl]; omega
  refine G_iload1 1 d_Mod_run_0 rfl ?_
  refine G_invS1b 4 d_Mod_run_1 rfl e_Mod_182 M_Mod_isSlot (Nat.le_of_ble_eq_true rfl) (Nat.le_of_ble_eq_true rfl) rfl (s_mIsSlot) (fun h1 => G_ifeq1 7 d_Mod_run_4 17 rfl rfl ?_) (fun h1 => G_ifeq0 7 d_Mod_run_4 17 rfl rfl ?_)
  · obtain ⟨k, hk, rfl⟩ := h1
    have q1 := bN_t hk (show 6 < 2 ^ 31 by omega)
    have z1 := ni_nI (show k < 2 ^ 31 by omega)
    refine G_iload2 8 d_Mod_run_7 rfl ?_
    refine G_i2l 9 d_Mod_run_8 rfl ?_
    refine G_lconst 0 10 d_Mod_run_9 rfl rfl ?_
    refine G_lconst 1 11 d_Mod_run_10 rfl rfl ?_
    refine G_invS3b 14 d_Mod_run_11 rfl e_Mod_139 M_Mod_in (Nat.le_of_ble_eq_true rfl) (Nat.le_of_ble_eq_true rfl) rfl (s_mIn) (fun h11 => G_ifne1 17 d_Mod_run_14 19 rfl rfl ?_) (fun h11 => G_ifne0 17 d_Mod_run_14 19 rfl rfl ?_)
    · obtain ⟨l, hl, rfl⟩ := kw.mp h11
      have q2 := bN_t hl (show 2 < 2 ^ 31 by omega)
      have z2 := ni_nI (show l < 2 ^ 31 by omega)
      simp only [fRun, q1, q2, z1, z2, Bool.and_self, if_true, ← hSl k hk]
      have hl8 := hW.2.2.2.2.2.1.1
      have L : ∀ m, m ≤ (tL S).1 → ∀ (f : Nat → Int64) (FJ AJ : FT) (BJ : LT) (l4 : Option Value), MIv S FJ AJ BJ b → fM FI FJ AI AJ AL BJ b → mp BJ b 17 = f → G V m_Mod_run (d + 8) 28 [some (.ref b), some (.int (nI k)), some (.int (nI l)), some (.int (nI ((tL S).1 - m))), l4] [] X FJ AJ BJ (fun r X' FI' AI' AL' => r = some (.int (match goR S l (tL S).1 m f with | (r, g) => if r = 0 then (nI (cnt g), set1 S k g) else (r, S)).1) ∧ X' = X ∧ MIv (match goR S l (tL S).1 m f with | (r, g) => if r = 0 then (nI (cnt g), set1 S k g) else (r, S)).2 FI' AI' AL' b ∧ fM FI FI' AI AI' AL AL' b) := by
        refine downto ?_ ?_
        · intro _ f FJ AJ BJ l4 hIJ hF h17
          have f48 := (MIv.de hIJ).2.2.2.2.2.1.1
          simp only [goR, if_true]
          refine G_iload3 29 d_Mod_run_28 rfl ?_
          refine G_aload0 30 d_Mod_run_29 rfl ?_
          refine G_getIv 33 d_Mod_run_30 rfl f_Mod_438 rfl h.sh f48 ?_
          first | refine G_icgeN 72 36 d_Mod_run_33 rfl rfl (by omega) (by omega) (fun h33 => ?_) (fun h33 => ?_) | refine G_icge 72 36 d_Mod_run_33 rfl rfl (fun h33 => ?_) (fun h33 => ?_)
          · refine G_aload0 73 d_Mod_run_72 rfl ?_
            refine G_bipushN 17 75 d_Mod_run_73 rfl rfl ?_
            refine G_iload1 76 d_Mod_run_75 rfl ?_
            refine G_invV2v 79 d_Mod_run_76 rfl e_Mod_208 M_Mod_copyTo rfl h.sh (Nat.le_of_ble_eq_true rfl) (Nat.le_of_ble_eq_true rfl) rfl (s_mCopy (by assumption) (by omega) (by omega)) ?_
            refine G_aload0 80 d_Mod_run_79 rfl ?_
            refine G_iload1 81 d_Mod_run_80 rfl ?_
            refine G_invV1d 84 d_Mod_run_81 rfl e_Mod_202 M_Mod_termsIn rfl h.sh (Nat.le_of_ble_eq_true rfl) (Nat.le_of_ble_eq_true rfl) rfl (s_mTerms (by assumption) (by omega)) ?_
            refine G_iret d_Mod_run_84 rfl ?_
            have e1 : mp (sp BJ b k (mp BJ b 17)) b k = f := by rw [mp_sp, mp_cu, h17]
            exact ⟨by rw [e1], rfl, hIJ.s1 hW hk (fun c hc => sp_off hc) e1 (fun p _ hp => mp_spn hp), hF.tr (fM.al (fun c hc => sp_off hc))⟩
          · omega
        · intro m ih hm f FJ AJ BJ l4 hIJ hF h17
          have f48 := (MIv.de hIJ).2.2.2.2.2.1.1
          have e9 : (tL S).1 - 1 - ((tL S).1 - (m + 1)) = m := by omega
          have hgt := s_mGoThrough (V := V) (d := d) (l := if l = 0 then (tL S).1 - (m + 1) else m) h hIJ hW (by split <;> omega)
          rw [h17] at hgt
          rw [goR]
          have cont : ∀ (z : Int32 × (Nat → Int64)) (FK AK : FT) (BK : LT) (l4' : Option Value), MIv S FK AK BK b → fM FI FK AI AK AL BK b → (z.1 = 0 → mp BK b 17 = z.2) → G V m_Mod_run (d + 8) 56 [some (.ref b), some (.int (nI k)), some (.int (nI l)), some (.int (nI ((tL S).1 - (m + 1)))), l4'] [.int z.1] X FK AK BK (fun r X' FI' AI' AL' => r = some (.int (match (match z with | (r, g) => if r = 0 then goR S l (tL S).1 m g else (r, g)) with | (r, g) => if r = 0 then (nI (cnt g), set1 S k g) else (r, S)).1) ∧ X' = X ∧ MIv (match (match z with | (r, g) => if r = 0 then goR S l (tL S).1 m g else (r, g)) with | (r, g) => if r = 0 then (nI (cnt g), set1 S k g) else (r, S)).2 FI' AI' AL' b ∧ fM FI FI' AI AI' AL AL' b) := by
            intro z FK AK BK l4' i1 i2 i3
            obtain ⟨r, g'⟩ := z
            dsimp only at i3 ⊢
            by_cases hr : r = 0
            · simp only [if_pos hr]
              refine G_istore4 58 d_Mod_run_56 rfl (by decide) rfl ?_
              refine G_iload4 60 d_Mod_run_58 rfl ?_
              refine G_ifeq 66 63 d_Mod_run_60 rfl rfl (fun h60 => ?_) (fun h60 => ?_)
              · first | refine G_iincN3 69 d_Mod_run_66 rfl (by decide) rfl ?_ | refine G_iinc3 _ 69 d_Mod_run_66 rfl (by decide) rfl rfl ?_
                refine G_goto 28 d_Mod_run_69 rfl ?_
                rw [show (tL S).1 - (m + 1) + 1 = (tL S).1 - m by omega]
                exact ih (by omega) g' FK AK BK _ i1 i2 (i3 hr)
              · exact absurd hr h60
            · simp only [if_neg hr]
              refine G_istore4 58 d_Mod_run_56 rfl (by decide) rfl ?_
              refine G_iload4 60 d_Mod_run_58 rfl ?_
              refine G_ifeq 66 63 d_Mod_run_60 rfl rfl (fun h60 => ?_) (fun h60 => ?_)
              · exact absurd h60 hr
              · refine G_iload4 65 d_Mod_run_63 rfl ?_
                refine G_iret d_Mod_run_65 rfl ?_
                exact ⟨rfl, rfl, i1, i2⟩
          by_cases hl0 : l = 0
          · subst hl0
            simp only [if_true] at hgt ⊢
            refine G_iload3 29 d_Mod_run_28 rfl ?_
            refine G_aload0 30 d_Mod_run_29 rfl ?_
            refine G_getIv 33 d_Mod_run_30 rfl f_Mod_438 rfl h.sh f48 ?_
            first | refine G_icgeN 72 36 d_Mod_run_33 rfl rfl (by omega) (by omega) (fun h33 => ?_) (fun h33 => ?_) | refine G_icge 72 36 d_Mod_run_33 rfl rfl (fun h33 => ?_) (fun h33 => ?_)
            · omega
            · refine G_aload0 37 d_Mod_run_36 rfl ?_
              refine G_iload2 38 d_Mod_run_37 rfl ?_
              refine G_ifne 45 41 d_Mod_run_38 rfl rfl (fun h38 => ?_) (fun h38 => ?_)
              · exact absurd rfl h38
              · refine G_iload3 42 d_Mod_run_41 rfl ?_
                refine G_goto 53 d_Mod_run_42 rfl ?_
                refine G_invV1 56 d_Mod_run_53 rfl e_Mod_456 M_Mod_goThrough rfl h.sh (Nat.le_of_ble_eq_true rfl) (Nat.le_of_ble_eq_true rfl) rfl (G.conseq (hgt) (fun r53 X53 FI53 AI53 AL53 h53 => ?_))
                obtain ⟨r1, r2, r3, r4, r5⟩ := h53
                replace r2 := r2.symm
                subst r1 r2
                exact cont _ _ _ _ _ r3 (hF.tr r4) r5
          · simp only [if_neg hl0] at hgt ⊢
            refine G_iload3 29 d_Mod_run_28 rfl ?_
            refine G_aload0 30 d_Mod_run_29 rfl ?_
            refine G_getIv 33 d_Mod_run_30 rfl f_Mod_438 rfl h.sh f48 ?_
            first | refine G_icgeN 72 36 d_Mod_run_33 rfl rfl (by omega) (by omega) (fun h33 => ?_) (fun h33 => ?_) | refine G_icge 72 36 d_Mod_run_33 rfl rfl (fun h33 => ?_) (fun h33 => ?_)
            · omega
            · refine G_aload0 37 d_Mod_run_36 rfl ?_
              refine G_iload2 38 d_Mod_run_37 rfl ?_
              refine G_ifne 45 41 d_Mod_run_38 rfl rfl (fun h38 => ?_) (fun h38 => ?_)
              · refine G_aload0 46 d_Mod_run_45 rfl ?_
                refine G_getIv 49 d_Mod_run_46 rfl f_Mod_438 rfl h.sh f48 ?_
                refine G_iconstN 1 50 d_Mod_run_49 rfl rfl ?_
                first | refine G_isubN 51 d_Mod_run_50 rfl (by omega) ?_ | refine G_isub 51 d_Mod_run_50 rfl ?_
                refine G_iload3 52 d_Mod_run_51 rfl ?_
                first | refine G_isubN 53 d_Mod_run_52 rfl (by omega) ?_ | refine G_isub 53 d_Mod_run_52 rfl ?_
                rw [e9]
                refine G_invV1 56 d_Mod_run_53 rfl e_Mod_456 M_Mod_goThrough rfl h.sh (Nat.le_of_ble_eq_true rfl) (Nat.le_of_ble_eq_true rfl) rfl (G.conseq (hgt) (fun r53 X53 FI53 AI53 AL53 h53 => ?_))
                obtain ⟨r1, r2, r3, r4, r5⟩ := h53
                replace r2 := r2.symm
                subst r1 r2
                exact cont _ _ _ _ _ r3 (hF.tr r4) r5
              · exact absurd h38 (nI_ne0 (by omega) (by omega))
      have hk0 : wkF AL (sp AL b 17 (mp AL b k)) b := wkF.sp (by omega)
      refine G_aload0 20 d_Mod_run_19 rfl ?_
      refine G_iload1 21 d_Mod_run_20 rfl ?_
      refine G_bipushN 17 23 d_Mod_run_21 rfl rfl ?_
      refine G_invV2v 26 d_Mod_run_23 rfl e_Mod_208 M_Mod_copyTo rfl h.sh (Nat.le_of_ble_eq_true rfl) (Nat.le_of_ble_eq_true rfl) rfl (s_mCopy (by assumption) (by omega) (by omega)) ?_
      refine G_iconstN 0 27 d_Mod_run_26 rfl rfl ?_
      refine G_istore3 28 d_Mod_run_27 rfl (by decide) rfl ?_
      have := L (tL S).1 (Nat.le_refl _) (mp AL b k) FI AI _ none (hI.wk hW hk0.1 hk0.2) (fM.al hk0.1) (by rw [mp_sp, mp_cu])
      rw [Nat.sub_self] at this
      exact this
    · have q2 := bN_f (fun e => h11 (kw.mpr e)) (show 2 < 2 ^ 31 by omega)
      simp only [fRun, q2, Bool.and_false, Bool.false_eq_true, if_false]
      refine G_iconst (-1) 18 d_Mod_run_17 rfl rfl ?_
      refine G_iret d_Mod_run_18 rfl ?_
      exact ⟨rfl, rfl, hI, fM.rf⟩
  · have q1 := bN_f h1 (show 6 < 2 ^ 31 by omega)
    simp only [fRun, q1, Bool.false_and, Bool.false_eq_true, if_false]
    refine G_iconst (-1) 18 d_Mod_run_17 rfl rfl ?_
    refine G_iret d_Mod_run_18 rfl ?_
    exact ⟨rfl, rfl, hI, fM.rf⟩
