/-! ===== the reference: family ===== -/
def lyP (f : Nat → Int64) (c : Int64) (w : Nat) : Nat → Int64 := fun j => if j = w then f j + c else f j
def ly1 (sl : Nat → Nat → Int64) (p : Nat) (c : Int32) (x y z : Nat) : Nat → Nat → Int64 := upn sl p (lyP (sl p) c.toInt64 (pl x y z))
def fmLay (sl : Nat → Nat → Int64) : List (Nat × Int32 × Nat × Nat × Nat) → Nat → Nat → Int64
  | [] => sl
  | q :: L => fmLay (ly1 sl q.1 q.2.1 q.2.2.1 q.2.2.2.1 q.2.2.2.2) L
def clS (sl : Nat → Nat → Int64) : Nat → Nat → Nat → Int64
  | 0 => sl
  | i + 1 => upn (clS sl i) i (fun _ => 0)
def pwL (p e : Nat) : List (Nat × Int32 × Nat × Nat × Nat) := [(p, nI 1, e, 0, 0), (p, nI 1, 0, e, 0), (p, nI 1, 0, 0, e)]
def famL : Nat → List (Nat × Int32 × Nat × Nat × Nat)
  | 0 => [(0, nI 1, 1, 0, 0), (0, nI 1, 0, 1, 0), (1, nI 1, 1, 1, 0), (2, nI 1, 1, 2, 0)]
  | 1 => pwL 0 1 ++ [(1, nI 1, 1, 1, 0), (1, nI 1, 1, 0, 1), (1, nI 1, 0, 1, 1), (2, nI 1, 1, 1, 1)]
  | 2 => pwL 0 1 ++ pwL 1 2 ++ pwL 2 3
  | 3 => pwL 0 1 ++ [(1, nI 1, 1, 1, 0), (1, nI 1, 1, 0, 1), (1, nI 1, 0, 1, 1), (2, nI 1, 1, 1, 1), (3, nI 1, 2, 1, 0), (3, nI 1, 0, 2, 1), (3, nI 1, 1, 0, 2)]
  | 4 => [(0, nI 1, 2, 0, 0), (1, nI 1, 1, 1, 0), (2, nI 1, 0, 2, 0), (3, nI 1, 0, 0, 1)]
  | _ => [(0, nI 1, 2, 0, 0), (0, nI 1, 1, 0, 0), (1, nI 1, 3, 0, 0), (1, -2, 0, 0, 0), (2, nI 1, 0, 1, 1), (2, nI 1, 1, 0, 0)]
def fmN (k : Nat) : Nat := if k = 3 ∨ k = 4 then 4 else 3
def fFamily (S : ST) (x : Int32) : Int32 × ST := if bN x 6 = true then (nI (fmN (ni x)), stS S (fmLay (clS (tS S) (fmN (ni x))) (famL (ni x)))) else (-1, S)
/-- these slots, and nothing else is other -/
def Rp (sl : Nat → Nat → Int64) (AL AJ : LT) (b : Nat) : Prop := (∀ c, c ≠ b + 1 → AJ c = AL c) ∧ (∀ p, p < 6 → mp AJ b p = sl p) ∧ ∀ p, 6 ≤ p → p < 13 → mp AJ b p = mp AL b p
theorem Rp.cl {sl : Nat → Nat → Int64} {AL AJ : LT} {b p : Nat} (h : Rp sl AL AJ b) (hp : p < 6) : Rp (upn sl p (fun _ => 0)) AL (sp AJ b p (fun _ => 0)) b := by
  refine ⟨fun c hc => by rw [sp_off hc]; exact h.1 c hc, fun q hq => ?_, fun q h6 hq => by rw [mp_spn (by omega)]; exact h.2.2 q h6 hq⟩
  by_cases e : q = p
  · rw [e, upn_at, mp_sp]; funext t; unfold cu; split <;> rfl
  · rw [upn_ne _ _ e, mp_spn e]; exact h.2.1 q hq
theorem s_mLayC {V : GV} {d b p x y z : Nat} {c : Int32} {sl : Nat → Nat → Int64} {X : XT} {FI AI : FT} {A0 AL : LT} (h : MO X b) (hR : Rp sl A0 AL b) (hT : MTb AI b) (hs : x + y + z ≤ 6) (hp : p < 6) : G V m_Mod_lay (d + 1) 0 [some (.ref b), some (.int (nI p)), some (.int c), some (.int (nI x)), some (.int (nI y)), some (.int (nI z))] [] X FI AI AL (fun r X' FI' AI' AL' => r = none ∧ X' = X ∧ FI' = FI ∧ AI' = AI ∧ Rp (ly1 sl p c x y z) A0 AL' b) := by
  have hw := pl_lt hs
  refine G_aload0 1 d_Mod_lay_0 rfl ?_
  refine G_getR 4 d_Mod_lay_1 rfl f_Mod_9 rfl h.sh h.f0 ?_
  refine G_bipushN 84 6 d_Mod_lay_4 rfl rfl ?_
  refine G_iload1 7 d_Mod_lay_6 rfl ?_
  first | refine G_imulN 8 d_Mod_lay_7 rfl ?_ | refine G_imul 8 d_Mod_lay_7 rfl ?_
  refine G_aload0 9 d_Mod_lay_8 rfl ?_
  refine G_iload3 10 d_Mod_lay_9 rfl ?_
  refine G_iload4 12 d_Mod_lay_10 rfl ?_
  refine G_iload5 14 d_Mod_lay_12 rfl ?_
  refine G_invV3d 17 d_Mod_lay_14 rfl e_Mod_176 M_Mod_termOf rfl h.sh (Nat.le_of_ble_eq_true rfl) (Nat.le_of_ble_eq_true rfl) rfl (s_mTermOf (by assumption) (by assumption) (by omega)) ?_
  first | refine G_iaddN 18 d_Mod_lay_17 rfl ?_ | refine G_iadd 18 d_Mod_lay_17 rfl ?_
  refine G_dup2 19 d_Mod_lay_18 rfl rfl rfl ?_
  refine G_laload 20 d_Mod_lay_19 rfl h.s0 (ix_nI (by omega) (by omega)) ?_
  refine G_iload2 21 d_Mod_lay_20 rfl ?_
  refine G_i2l 22 d_Mod_lay_21 rfl ?_
  refine G_ladd 23 d_Mod_lay_22 rfl ?_
  refine G_lastore 24 d_Mod_lay_23 rfl h.s0 (ix_nI (by omega) (by omega)) ?_
  refine G_vret d_Mod_lay_24 rfl ?_
  have hm : ∀ q t v, mp (u2 AL (b + 1) (84 * p + pl x y z) v) b q t = if t < 84 then (if q = p ∧ t = pl x y z then v else AL (b + 1) (84 * q + t)) else 0 := by
    intro q t v
    unfold mp
    by_cases e : t < 84
    · rw [if_pos e, if_pos e]
      by_cases e2 : q = p ∧ t = pl x y z
      · rw [if_pos e2, e2.1, e2.2, u2_at]
      · rw [if_neg e2, u2_ix _ _ (by omega)]
    · rw [if_neg e, if_neg e]
  refine ⟨rfl, rfl, rfl, rfl, fun q hc => by rw [u2_off _ _ _ hc]; exact hR.1 q hc, fun q hq => ?_, fun q h6 hq => ?_⟩
  · by_cases e : q = p
    · subst e
      rw [ly1, upn_at, ← hR.2.1 q hq]
      funext t
      rw [hm]
      show _ = if t = pl x y z then mp AL b q t + c.toInt64 else mp AL b q t
      by_cases e : t < 84
      · rw [if_pos e]
        by_cases e2 : t = pl x y z
        · rw [if_pos ⟨rfl, e2⟩, if_pos e2, mp_at e, e2]
        · rw [if_neg (fun k => e2 k.2), if_neg e2, mp_at e]
      · rw [if_neg e, if_neg (by omega)]; exact (if_neg e).symm
    · rw [ly1, upn_ne _ _ e, ← hR.2.1 q hq]
      funext t
      rw [hm]
      unfold mp
      by_cases e2 : t < 84
      · rw [if_pos e2, if_neg (fun k => e k.1), if_pos e2]
      · rw [if_neg e2, if_neg e2]
  · rw [← hR.2.2 q h6 hq]
    funext t
    rw [hm]
    unfold mp
    by_cases e2 : t < 84
    · rw [if_pos e2, if_neg (fun k => by omega), if_pos e2]
    · rw [if_neg e2, if_neg e2]
theorem s_mPowers {V : GV} {d b p e : Nat} {sl : Nat → Nat → Int64} {X : XT} {FI AI : FT} {A0 AL : LT} (h : MO X b) (hR : Rp sl A0 AL b) (hT : MTb AI b) (hp : p < 6) (he : e ≤ 6) : G V m_Mod_powers (d + 2) 0 [some (.ref b), some (.int (nI p)), some (.int (nI e))] [] X FI AI AL (fun r X' FI' AI' AL' => r = none ∧ X' = X ∧ FI' = FI ∧ AI' = AI ∧ Rp (fmLay sl (pwL p e)) A0 AL' b) := by
  refine G_aload0 1 d_Mod_powers_0 rfl ?_
  refine G_iload1 2 d_Mod_powers_1 rfl ?_
  refine G_iconstN 1 3 d_Mod_powers_2 rfl rfl ?_
  refine G_iload2 4 d_Mod_powers_3 rfl ?_
  refine G_iconstN 0 5 d_Mod_powers_4 rfl rfl ?_
  refine G_iconstN 0 6 d_Mod_powers_5 rfl rfl ?_
  refine G_invV5 9 d_Mod_powers_6 rfl e_Mod_274 M_Mod_lay rfl h.sh (Nat.le_of_ble_eq_true rfl) (Nat.le_of_ble_eq_true rfl) rfl (G.conseq ((s_mLayC (p := p) (c := nI 1) (x := e) (y := 0) (z := 0) h hR hT (by omega) (by omega))) (fun r6 X6 FI6 AI6 AL6 h6 => ?_))
  obtain ⟨e1, e2, e3, e4, R6⟩ := h6
  replace e2 := e2.symm
  replace e3 := e3.symm
  replace e4 := e4.symm
  subst e1 e2 e3 e4
  refine G_aload0 10 d_Mod_powers_9 rfl ?_
  refine G_iload1 11 d_Mod_powers_10 rfl ?_
  refine G_iconstN 1 12 d_Mod_powers_11 rfl rfl ?_
  refine G_iconstN 0 13 d_Mod_powers_12 rfl rfl ?_
  refine G_iload2 14 d_Mod_powers_13 rfl ?_
  refine G_iconstN 0 15 d_Mod_powers_14 rfl rfl ?_
  refine G_invV5 18 d_Mod_powers_15 rfl e_Mod_274 M_Mod_lay rfl h.sh (Nat.le_of_ble_eq_true rfl) (Nat.le_of_ble_eq_true rfl) rfl (G.conseq ((s_mLayC (p := p) (c := nI 1) (x := 0) (y := e) (z := 0) h R6 hT (by omega) (by omega))) (fun r15 X15 FI15 AI15 AL15 h15 => ?_))
  obtain ⟨e1, e2, e3, e4, R15⟩ := h15
  replace e2 := e2.symm
  replace e3 := e3.symm
  replace e4 := e4.symm
  subst e1 e2 e3 e4
  refine G_aload0 19 d_Mod_powers_18 rfl ?_
  refine G_iload1 20 d_Mod_powers_19 rfl ?_
  refine G_iconstN 1 21 d_Mod_powers_20 rfl rfl ?_
  refine G_iconstN 0 22 d_Mod_powers_21 rfl rfl ?_
  refine G_iconstN 0 23 d_Mod_powers_22 rfl rfl ?_
  refine G_iload2 24 d_Mod_powers_23 rfl ?_
  refine G_invV5 27 d_Mod_powers_24 rfl e_Mod_274 M_Mod_lay rfl h.sh (Nat.le_of_ble_eq_true rfl) (Nat.le_of_ble_eq_true rfl) rfl (G.conseq ((s_mLayC (p := p) (c := nI 1) (x := 0) (y := 0) (z := e) h R15 hT (by omega) (by omega))) (fun r24 X24 FI24 AI24 AL24 h24 => ?_))
  obtain ⟨e1, e2, e3, e4, R24⟩ := h24
  replace e2 := e2.symm
  replace e3 := e3.symm
  replace e4 := e4.symm
  subst e1 e2 e3 e4
  refine G_vret d_Mod_powers_27 rfl ?_
  exact ⟨rfl, rfl, rfl, rfl, R24⟩
theorem s_mLayFifth {V : GV} {d b : Nat} {sl : Nat → Nat → Int64} {X : XT} {FI AI : FT} {A0 AL : LT} (h : MO X b) (hR : Rp sl A0 AL b) (hT : MTb AI b) : G V m_Mod_layFifth (d + 2) 0 [some (.ref b)] [] X FI AI AL (fun r X' FI' AI' AL' => r = none ∧ X' = X ∧ FI' = FI ∧ AI' = AI ∧ Rp (fmLay sl (famL 5)) A0 AL' b) := by
  refine G_aload0 1 d_Mod_layFifth_0 rfl ?_
  refine G_iconstN 0 2 d_Mod_layFifth_1 rfl rfl ?_
  refine G_iconstN 1 3 d_Mod_layFifth_2 rfl rfl ?_
  refine G_iconstN 2 4 d_Mod_layFifth_3 rfl rfl ?_
  refine G_iconstN 0 5 d_Mod_layFifth_4 rfl rfl ?_
  refine G_iconstN 0 6 d_Mod_layFifth_5 rfl rfl ?_
  refine G_invV5 9 d_Mod_layFifth_6 rfl e_Mod_274 M_Mod_lay rfl h.sh (Nat.le_of_ble_eq_true rfl) (Nat.le_of_ble_eq_true rfl) rfl (G.conseq ((s_mLayC (p := 0) (c := nI 1) (x := 2) (y := 0) (z := 0) h hR hT (by omega) (by omega))) (fun r6 X6 FI6 AI6 AL6 h6 => ?_))
  obtain ⟨e1, e2, e3, e4, R6⟩ := h6
  replace e2 := e2.symm
  replace e3 := e3.symm
  replace e4 := e4.symm
  subst e1 e2 e3 e4
  refine G_aload0 10 d_Mod_layFifth_9 rfl ?_
  refine G_iconstN 0 11 d_Mod_layFifth_10 rfl rfl ?_
  refine G_iconstN 1 12 d_Mod_layFifth_11 rfl rfl ?_
  refine G_iconstN 1 13 d_Mod_layFifth_12 rfl rfl ?_
  refine G_iconstN 0 14 d_Mod_layFifth_13 rfl rfl ?_
  refine G_iconstN 0 15 d_Mod_layFifth_14 rfl rfl ?_
  refine G_invV5 18 d_Mod_layFifth_15 rfl e_Mod_274 M_Mod_lay rfl h.sh (Nat.le_of_ble_eq_true rfl) (Nat.le_of_ble_eq_true rfl) rfl (G.conseq ((s_mLayC (p := 0) (c := nI 1) (x := 1) (y := 0) (z := 0) h R6 hT (by omega) (by omega))) (fun r15 X15 FI15 AI15 AL15 h15 => ?_))
  obtain ⟨e1, e2, e3, e4, R15⟩ := h15
  replace e2 := e2.symm
  replace e3 := e3.symm
  replace e4 := e4.symm
  subst e1 e2 e3 e4
  refine G_aload0 19 d_Mod_layFifth_18 rfl ?_
  refine G_iconstN 1 20 d_Mod_layFifth_19 rfl rfl ?_
  refine G_iconstN 1 21 d_Mod_layFifth_20 rfl rfl ?_
  refine G_iconstN 3 22 d_Mod_layFifth_21 rfl rfl ?_
  refine G_iconstN 0 23 d_Mod_layFifth_22 rfl rfl ?_
  refine G_iconstN 0 24 d_Mod_layFifth_23 rfl rfl ?_
  refine G_invV5 27 d_Mod_layFifth_24 rfl e_Mod_274 M_Mod_lay rfl h.sh (Nat.le_of_ble_eq_true rfl) (Nat.le_of_ble_eq_true rfl) rfl (G.conseq ((s_mLayC (p := 1) (c := nI 1) (x := 3) (y := 0) (z := 0) h R15 hT (by omega) (by omega))) (fun r24 X24 FI24 AI24 AL24 h24 => ?_))
  obtain ⟨e1, e2, e3, e4, R24⟩ := h24
  replace e2 := e2.symm
  replace e3 := e3.symm
  replace e4 := e4.symm
  subst e1 e2 e3 e4
  refine G_aload0 28 d_Mod_layFifth_27 rfl ?_
  refine G_iconstN 1 29 d_Mod_layFifth_28 rfl rfl ?_
  refine G_bipush (-2) 31 d_Mod_layFifth_29 rfl rfl ?_
  refine G_iconstN 0 32 d_Mod_layFifth_31 rfl rfl ?_
  refine G_iconstN 0 33 d_Mod_layFifth_32 rfl rfl ?_
  refine G_iconstN 0 34 d_Mod_layFifth_33 rfl rfl ?_
  refine G_invV5 37 d_Mod_layFifth_34 rfl e_Mod_274 M_Mod_lay rfl h.sh (Nat.le_of_ble_eq_true rfl) (Nat.le_of_ble_eq_true rfl) rfl (G.conseq ((s_mLayC (p := 1) (c := -2) (x := 0) (y := 0) (z := 0) h R24 hT (by omega) (by omega))) (fun r34 X34 FI34 AI34 AL34 h34 => ?_))
  obtain ⟨e1, e2, e3, e4, R34⟩ := h34
  replace e2 := e2.symm
  replace e3 := e3.symm
  replace e4 := e4.symm
  subst e1 e2 e3 e4
  refine G_aload0 38 d_Mod_layFifth_37 rfl ?_
  refine G_iconstN 2 39 d_Mod_layFifth_38 rfl rfl ?_
  refine G_iconstN 1 40 d_Mod_layFifth_39 rfl rfl ?_
  refine G_iconstN 0 41 d_Mod_layFifth_40 rfl rfl ?_
  refine G_iconstN 1 42 d_Mod_layFifth_41 rfl rfl ?_
  refine G_iconstN 1 43 d_Mod_layFifth_42 rfl rfl ?_
  refine G_invV5 46 d_Mod_layFifth_43 rfl e_Mod_274 M_Mod_lay rfl h.sh (Nat.le_of_ble_eq_true rfl) (Nat.le_of_ble_eq_true rfl) rfl (G.conseq ((s_mLayC (p := 2) (c := nI 1) (x := 0) (y := 1) (z := 1) h R34 hT (by omega) (by omega))) (fun r43 X43 FI43 AI43 AL43 h43 => ?_))
  obtain ⟨e1, e2, e3, e4, R43⟩ := h43
  replace e2 := e2.symm
  replace e3 := e3.symm
  replace e4 := e4.symm
  subst e1 e2 e3 e4
  refine G_aload0 47 d_Mod_layFifth_46 rfl ?_
  refine G_iconstN 2 48 d_Mod_layFifth_47 rfl rfl ?_
  refine G_iconstN 1 49 d_Mod_layFifth_48 rfl rfl ?_
  refine G_iconstN 1 50 d_Mod_layFifth_49 rfl rfl ?_
  refine G_iconstN 0 51 d_Mod_layFifth_50 rfl rfl ?_
  refine G_iconstN 0 52 d_Mod_layFifth_51 rfl rfl ?_
  refine G_invV5 55 d_Mod_layFifth_52 rfl e_Mod_274 M_Mod_lay rfl h.sh (Nat.le_of_ble_eq_true rfl) (Nat.le_of_ble_eq_true rfl) rfl (G.conseq ((s_mLayC (p := 2) (c := nI 1) (x := 1) (y := 0) (z := 0) h R43 hT (by omega) (by omega))) (fun r52 X52 FI52 AI52 AL52 h52 => ?_))
  obtain ⟨e1, e2, e3, e4, R52⟩ := h52
  replace e2 := e2.symm
  replace e3 := e3.symm
  replace e4 := e4.symm
  subst e1 e2 e3 e4
  refine G_vret d_Mod_layFifth_55 rfl ?_
  exact ⟨rfl, rfl, rfl, rfl, R52⟩
theorem s_mLayEven1 {V : GV} {d b : Nat} {sl : Nat → Nat → Int64} {X : XT} {FI AI : FT} {A0 AL : LT} (h : MO X b) (hR : Rp sl A0 AL b) (hT : MTb AI b) : G V m_Mod_layEven (d + 3) 0 [some (.ref b), some (.int (nI 1))] [] X FI AI AL (fun r X' FI' AI' AL' => r = none ∧ X' = X ∧ FI' = FI ∧ AI' = AI ∧ Rp (fmLay sl (famL 1)) A0 AL' b) := by
  refine G_aload0 1 d_Mod_layEven_0 rfl ?_
  refine G_iconstN 0 2 d_Mod_layEven_1 rfl rfl ?_
  refine G_iconstN 1 3 d_Mod_layEven_2 rfl rfl ?_
  refine G_invV2 6 d_Mod_layEven_3 rfl e_Mod_284 M_Mod_powers rfl h.sh (Nat.le_of_ble_eq_true rfl) (Nat.le_of_ble_eq_true rfl) rfl (G.conseq ((s_mPowers (p := 0) (e := 1) h hR hT (by omega) (by omega))) (fun r3 X3 FI3 AI3 AL3 h3 => ?_))
  obtain ⟨e1, e2, e3, e4, R3⟩ := h3
  replace e2 := e2.symm
  replace e3 := e3.symm
  replace e4 := e4.symm
  subst e1 e2 e3 e4
  refine G_iload1 7 d_Mod_layEven_6 rfl ?_
  refine G_iconstN 2 8 d_Mod_layEven_7 rfl rfl ?_
  first | refine G_icneN 24 11 d_Mod_layEven_8 rfl rfl (by omega) (by omega) (fun h8 => ?_) (fun h8 => ?_) | refine G_icne 24 11 d_Mod_layEven_8 rfl rfl (fun h8 => ?_) (fun h8 => ?_)
  · skip
    refine G_aload0 25 d_Mod_layEven_24 rfl ?_
    refine G_iconstN 1 26 d_Mod_layEven_25 rfl rfl ?_
    refine G_iconstN 1 27 d_Mod_layEven_26 rfl rfl ?_
    refine G_iconstN 1 28 d_Mod_layEven_27 rfl rfl ?_
    refine G_iconstN 1 29 d_Mod_layEven_28 rfl rfl ?_
    refine G_iconstN 0 30 d_Mod_layEven_29 rfl rfl ?_
    refine G_invV5 33 d_Mod_layEven_30 rfl e_Mod_274 M_Mod_lay rfl h.sh (Nat.le_of_ble_eq_true rfl) (Nat.le_of_ble_eq_true rfl) rfl (G.conseq ((s_mLayC (p := 1) (c := nI 1) (x := 1) (y := 1) (z := 0) h R3 hT (by omega) (by omega))) (fun r30 X30 FI30 AI30 AL30 h30 => ?_))
    obtain ⟨e1, e2, e3, e4, R30⟩ := h30
    replace e2 := e2.symm
    replace e3 := e3.symm
    replace e4 := e4.symm
    subst e1 e2 e3 e4
    refine G_aload0 34 d_Mod_layEven_33 rfl ?_
    refine G_iconstN 1 35 d_Mod_layEven_34 rfl rfl ?_
    refine G_iconstN 1 36 d_Mod_layEven_35 rfl rfl ?_
    refine G_iconstN 1 37 d_Mod_layEven_36 rfl rfl ?_
    refine G_iconstN 0 38 d_Mod_layEven_37 rfl rfl ?_
    refine G_iconstN 1 39 d_Mod_layEven_38 rfl rfl ?_
    refine G_invV5 42 d_Mod_layEven_39 rfl e_Mod_274 M_Mod_lay rfl h.sh (Nat.le_of_ble_eq_true rfl) (Nat.le_of_ble_eq_true rfl) rfl (G.conseq ((s_mLayC (p := 1) (c := nI 1) (x := 1) (y := 0) (z := 1) h R30 hT (by omega) (by omega))) (fun r39 X39 FI39 AI39 AL39 h39 => ?_))
    obtain ⟨e1, e2, e3, e4, R39⟩ := h39
    replace e2 := e2.symm
    replace e3 := e3.symm
    replace e4 := e4.symm
    subst e1 e2 e3 e4
    refine G_aload0 43 d_Mod_layEven_42 rfl ?_
    refine G_iconstN 1 44 d_Mod_layEven_43 rfl rfl ?_
    refine G_iconstN 1 45 d_Mod_layEven_44 rfl rfl ?_
    refine G_iconstN 0 46 d_Mod_layEven_45 rfl rfl ?_
    refine G_iconstN 1 47 d_Mod_layEven_46 rfl rfl ?_
    refine G_iconstN 1 48 d_Mod_layEven_47 rfl rfl ?_
    refine G_invV5 51 d_Mod_layEven_48 rfl e_Mod_274 M_Mod_lay rfl h.sh (Nat.le_of_ble_eq_true rfl) (Nat.le_of_ble_eq_true rfl) rfl (G.conseq ((s_mLayC (p := 1) (c := nI 1) (x := 0) (y := 1) (z := 1) h R39 hT (by omega) (by omega))) (fun r48 X48 FI48 AI48 AL48 h48 => ?_))
    obtain ⟨e1, e2, e3, e4, R48⟩ := h48
    replace e2 := e2.symm
    replace e3 := e3.symm
    replace e4 := e4.symm
    subst e1 e2 e3 e4
    refine G_aload0 52 d_Mod_layEven_51 rfl ?_
    refine G_iconstN 2 53 d_Mod_layEven_52 rfl rfl ?_
    refine G_iconstN 1 54 d_Mod_layEven_53 rfl rfl ?_
    refine G_iconstN 1 55 d_Mod_layEven_54 rfl rfl ?_
    refine G_iconstN 1 56 d_Mod_layEven_55 rfl rfl ?_
    refine G_iconstN 1 57 d_Mod_layEven_56 rfl rfl ?_
    refine G_invV5 60 d_Mod_layEven_57 rfl e_Mod_274 M_Mod_lay rfl h.sh (Nat.le_of_ble_eq_true rfl) (Nat.le_of_ble_eq_true rfl) rfl (G.conseq ((s_mLayC (p := 2) (c := nI 1) (x := 1) (y := 1) (z := 1) h R48 hT (by omega) (by omega))) (fun r57 X57 FI57 AI57 AL57 h57 => ?_))
    obtain ⟨e1, e2, e3, e4, R57⟩ := h57
    replace e2 := e2.symm
    replace e3 := e3.symm
    replace e4 := e4.symm
    subst e1 e2 e3 e4
    refine G_iload1 61 d_Mod_layEven_60 rfl ?_
    refine G_iconstN 3 62 d_Mod_layEven_61 rfl rfl ?_
    first | refine G_icneN 92 65 d_Mod_layEven_62 rfl rfl (by omega) (by omega) (fun h62 => ?_) (fun h62 => ?_) | refine G_icne 92 65 d_Mod_layEven_62 rfl rfl (fun h62 => ?_) (fun h62 => ?_)
    · refine G_vret d_Mod_layEven_92 rfl ?_
      exact ⟨rfl, rfl, rfl, rfl, R57⟩
    · omega
  · omega
theorem s_mLayEven2 {V : GV} {d b : Nat} {sl : Nat → Nat → Int64} {X : XT} {FI AI : FT} {A0 AL : LT} (h : MO X b) (hR : Rp sl A0 AL b) (hT : MTb AI b) : G V m_Mod_layEven (d + 3) 0 [some (.ref b), some (.int (nI 2))] [] X FI AI AL (fun r X' FI' AI' AL' => r = none ∧ X' = X ∧ FI' = FI ∧ AI' = AI ∧ Rp (fmLay sl (famL 2)) A0 AL' b) := by
  refine G_aload0 1 d_Mod_layEven_0 rfl ?_
  refine G_iconstN 0 2 d_Mod_layEven_1 rfl rfl ?_
  refine G_iconstN 1 3 d_Mod_layEven_2 rfl rfl ?_
  refine G_invV2 6 d_Mod_layEven_3 rfl e_Mod_284 M_Mod_powers rfl h.sh (Nat.le_of_ble_eq_true rfl) (Nat.le_of_ble_eq_true rfl) rfl (G.conseq ((s_mPowers (p := 0) (e := 1) h hR hT (by omega) (by omega))) (fun r3 X3 FI3 AI3 AL3 h3 => ?_))
  obtain ⟨e1, e2, e3, e4, R3⟩ := h3
  replace e2 := e2.symm
  replace e3 := e3.symm
  replace e4 := e4.symm
  subst e1 e2 e3 e4
  refine G_iload1 7 d_Mod_layEven_6 rfl ?_
  refine G_iconstN 2 8 d_Mod_layEven_7 rfl rfl ?_
  first | refine G_icneN 24 11 d_Mod_layEven_8 rfl rfl (by omega) (by omega) (fun h8 => ?_) (fun h8 => ?_) | refine G_icne 24 11 d_Mod_layEven_8 rfl rfl (fun h8 => ?_) (fun h8 => ?_)
  · omega
  · skip
    refine G_aload0 12 d_Mod_layEven_11 rfl ?_
    refine G_iconstN 1 13 d_Mod_layEven_12 rfl rfl ?_
    refine G_iconstN 2 14 d_Mod_layEven_13 rfl rfl ?_
    refine G_invV2 17 d_Mod_layEven_14 rfl e_Mod_284 M_Mod_powers rfl h.sh (Nat.le_of_ble_eq_true rfl) (Nat.le_of_ble_eq_true rfl) rfl (G.conseq ((s_mPowers (p := 1) (e := 2) h R3 hT (by omega) (by omega))) (fun r14 X14 FI14 AI14 AL14 h14 => ?_))
    obtain ⟨e1, e2, e3, e4, R14⟩ := h14
    replace e2 := e2.symm
    replace e3 := e3.symm
    replace e4 := e4.symm
    subst e1 e2 e3 e4
    refine G_aload0 18 d_Mod_layEven_17 rfl ?_
    refine G_iconstN 2 19 d_Mod_layEven_18 rfl rfl ?_
    refine G_iconstN 3 20 d_Mod_layEven_19 rfl rfl ?_
    refine G_invV2 23 d_Mod_layEven_20 rfl e_Mod_284 M_Mod_powers rfl h.sh (Nat.le_of_ble_eq_true rfl) (Nat.le_of_ble_eq_true rfl) rfl (G.conseq ((s_mPowers (p := 2) (e := 3) h R14 hT (by omega) (by omega))) (fun r20 X20 FI20 AI20 AL20 h20 => ?_))
    obtain ⟨e1, e2, e3, e4, R20⟩ := h20
    replace e2 := e2.symm
    replace e3 := e3.symm
    replace e4 := e4.symm
    subst e1 e2 e3 e4
    refine G_vret d_Mod_layEven_23 rfl ?_
    exact ⟨rfl, rfl, rfl, rfl, R20⟩
theorem s_mLayEven3 {V : GV} {d b : Nat} {sl : Nat → Nat → Int64} {X : XT} {FI AI : FT} {A0 AL : LT} (h : MO X b) (hR : Rp sl A0 AL b) (hT : MTb AI b) : G V m_Mod_layEven (d + 3) 0 [some (.ref b), some (.int (nI 3))] [] X FI AI AL (fun r X' FI' AI' AL' => r = none ∧ X' = X ∧ FI' = FI ∧ AI' = AI ∧ Rp (fmLay sl (famL 3)) A0 AL' b) := by
  refine G_aload0 1 d_Mod_layEven_0 rfl ?_
  refine G_iconstN 0 2 d_Mod_layEven_1 rfl rfl ?_
  refine G_iconstN 1 3 d_Mod_layEven_2 rfl rfl ?_
  refine G_invV2 6 d_Mod_layEven_3 rfl e_Mod_284 M_Mod_powers rfl h.sh (Nat.le_of_ble_eq_true rfl) (Nat.le_of_ble_eq_true rfl) rfl (G.conseq ((s_mPowers (p := 0) (e := 1) h hR hT (by omega) (by omega))) (fun r3 X3 FI3 AI3 AL3 h3 => ?_))
  obtain ⟨e1, e2, e3, e4, R3⟩ := h3
  replace e2 := e2.symm
  replace e3 := e3.symm
  replace e4 := e4.symm
  subst e1 e2 e3 e4
  refine G_iload1 7 d_Mod_layEven_6 rfl ?_
  refine G_iconstN 2 8 d_Mod_layEven_7 rfl rfl ?_
  first | refine G_icneN 24 11 d_Mod_layEven_8 rfl rfl (by omega) (by omega) (fun h8 => ?_) (fun h8 => ?_) | refine G_icne 24 11 d_Mod_layEven_8 rfl rfl (fun h8 => ?_) (fun h8 => ?_)
  · skip
    refine G_aload0 25 d_Mod_layEven_24 rfl ?_
    refine G_iconstN 1 26 d_Mod_layEven_25 rfl rfl ?_
    refine G_iconstN 1 27 d_Mod_layEven_26 rfl rfl ?_
    refine G_iconstN 1 28 d_Mod_layEven_27 rfl rfl ?_
    refine G_iconstN 1 29 d_Mod_layEven_28 rfl rfl ?_
    refine G_iconstN 0 30 d_Mod_layEven_29 rfl rfl ?_
    refine G_invV5 33 d_Mod_layEven_30 rfl e_Mod_274 M_Mod_lay rfl h.sh (Nat.le_of_ble_eq_true rfl) (Nat.le_of_ble_eq_true rfl) rfl (G.conseq ((s_mLayC (p := 1) (c := nI 1) (x := 1) (y := 1) (z := 0) h R3 hT (by omega) (by omega))) (fun r30 X30 FI30 AI30 AL30 h30 => ?_))
    obtain ⟨e1, e2, e3, e4, R30⟩ := h30
    replace e2 := e2.symm
    replace e3 := e3.symm
    replace e4 := e4.symm
    subst e1 e2 e3 e4
    refine G_aload0 34 d_Mod_layEven_33 rfl ?_
    refine G_iconstN 1 35 d_Mod_layEven_34 rfl rfl ?_
    refine G_iconstN 1 36 d_Mod_layEven_35 rfl rfl ?_
    refine G_iconstN 1 37 d_Mod_layEven_36 rfl rfl ?_
    refine G_iconstN 0 38 d_Mod_layEven_37 rfl rfl ?_
    refine G_iconstN 1 39 d_Mod_layEven_38 rfl rfl ?_
    refine G_invV5 42 d_Mod_layEven_39 rfl e_Mod_274 M_Mod_lay rfl h.sh (Nat.le_of_ble_eq_true rfl) (Nat.le_of_ble_eq_true rfl) rfl (G.conseq ((s_mLayC (p := 1) (c := nI 1) (x := 1) (y := 0) (z := 1) h R30 hT (by omega) (by omega))) (fun r39 X39 FI39 AI39 AL39 h39 => ?_))
    obtain ⟨e1, e2, e3, e4, R39⟩ := h39
    replace e2 := e2.symm
    replace e3 := e3.symm
    replace e4 := e4.symm
    subst e1 e2 e3 e4
    refine G_aload0 43 d_Mod_layEven_42 rfl ?_
    refine G_iconstN 1 44 d_Mod_layEven_43 rfl rfl ?_
    refine G_iconstN 1 45 d_Mod_layEven_44 rfl rfl ?_
    refine G_iconstN 0 46 d_Mod_layEven_45 rfl rfl ?_
    refine G_iconstN 1 47 d_Mod_layEven_46 rfl rfl ?_
    refine G_iconstN 1 48 d_Mod_layEven_47 rfl rfl ?_
    refine G_invV5 51 d_Mod_layEven_48 rfl e_Mod_274 M_Mod_lay rfl h.sh (Nat.le_of_ble_eq_true rfl) (Nat.le_of_ble_eq_true rfl) rfl (G.conseq ((s_mLayC (p := 1) (c := nI 1) (x := 0) (y := 1) (z := 1) h R39 hT (by omega) (by omega))) (fun r48 X48 FI48 AI48 AL48 h48 => ?_))
    obtain ⟨e1, e2, e3, e4, R48⟩ := h48
    replace e2 := e2.symm
    replace e3 := e3.symm
    replace e4 := e4.symm
    subst e1 e2 e3 e4
    refine G_aload0 52 d_Mod_layEven_51 rfl ?_
    refine G_iconstN 2 53 d_Mod_layEven_52 rfl rfl ?_
    refine G_iconstN 1 54 d_Mod_layEven_53 rfl rfl ?_
    refine G_iconstN 1 55 d_Mod_layEven_54 rfl rfl ?_
    refine G_iconstN 1 56 d_Mod_layEven_55 rfl rfl ?_
    refine G_iconstN 1 57 d_Mod_layEven_56 rfl rfl ?_
    refine G_invV5 60 d_Mod_layEven_57 rfl e_Mod_274 M_Mod_lay rfl h.sh (Nat.le_of_ble_eq_true rfl) (Nat.le_of_ble_eq_true rfl) rfl (G.conseq ((s_mLayC (p := 2) (c := nI 1) (x := 1) (y := 1) (z := 1) h R48 hT (by omega) (by omega))) (fun r57 X57 FI57 AI57 AL57 h57 => ?_))
    obtain ⟨e1, e2, e3, e4, R57⟩ := h57
    replace e2 := e2.symm
    replace e3 := e3.symm
    replace e4 := e4.symm
    subst e1 e2 e3 e4
    refine G_iload1 61 d_Mod_layEven_60 rfl ?_
    refine G_iconstN 3 62 d_Mod_layEven_61 rfl rfl ?_
    first | refine G_icneN 92 65 d_Mod_layEven_62 rfl rfl (by omega) (by omega) (fun h62 => ?_) (fun h62 => ?_) | refine G_icne 92 65 d_Mod_layEven_62 rfl rfl (fun h62 => ?_) (fun h62 => ?_)
    · omega
    · skip
      refine G_aload0 66 d_Mod_layEven_65 rfl ?_
      refine G_iconstN 3 67 d_Mod_layEven_66 rfl rfl ?_
      refine G_iconstN 1 68 d_Mod_layEven_67 rfl rfl ?_
      refine G_iconstN 2 69 d_Mod_layEven_68 rfl rfl ?_
      refine G_iconstN 1 70 d_Mod_layEven_69 rfl rfl ?_
      refine G_iconstN 0 71 d_Mod_layEven_70 rfl rfl ?_
      refine G_invV5 74 d_Mod_layEven_71 rfl e_Mod_274 M_Mod_lay rfl h.sh (Nat.le_of_ble_eq_true rfl) (Nat.le_of_ble_eq_true rfl) rfl (G.conseq ((s_mLayC (p := 3) (c := nI 1) (x := 2) (y := 1) (z := 0) h R57 hT (by omega) (by omega))) (fun r71 X71 FI71 AI71 AL71 h71 => ?_))
      obtain ⟨e1, e2, e3, e4, R71⟩ := h71
      replace e2 := e2.symm
      replace e3 := e3.symm
      replace e4 := e4.symm
      subst e1 e2 e3 e4
      refine G_aload0 75 d_Mod_layEven_74 rfl ?_
      refine G_iconstN 3 76 d_Mod_layEven_75 rfl rfl ?_
      refine G_iconstN 1 77 d_Mod_layEven_76 rfl rfl ?_
      refine G_iconstN 0 78 d_Mod_layEven_77 rfl rfl ?_
      refine G_iconstN 2 79 d_Mod_layEven_78 rfl rfl ?_
      refine G_iconstN 1 80 d_Mod_layEven_79 rfl rfl ?_
      refine G_invV5 83 d_Mod_layEven_80 rfl e_Mod_274 M_Mod_lay rfl h.sh (Nat.le_of_ble_eq_true rfl) (Nat.le_of_ble_eq_true rfl) rfl (G.conseq ((s_mLayC (p := 3) (c := nI 1) (x := 0) (y := 2) (z := 1) h R71 hT (by omega) (by omega))) (fun r80 X80 FI80 AI80 AL80 h80 => ?_))
      obtain ⟨e1, e2, e3, e4, R80⟩ := h80
      replace e2 := e2.symm
      replace e3 := e3.symm
      replace e4 := e4.symm
      subst e1 e2 e3 e4
      refine G_aload0 84 d_Mod_layEven_83 rfl ?_
      refine G_iconstN 3 85 d_Mod_layEven_84 rfl rfl ?_
      refine G_iconstN 1 86 d_Mod_layEven_85 rfl rfl ?_
      refine G_iconstN 1 87 d_Mod_layEven_86 rfl rfl ?_
      refine G_iconstN 0 88 d_Mod_layEven_87 rfl rfl ?_
      refine G_iconstN 2 89 d_Mod_layEven_88 rfl rfl ?_
      refine G_invV5 92 d_Mod_layEven_89 rfl e_Mod_274 M_Mod_lay rfl h.sh (Nat.le_of_ble_eq_true rfl) (Nat.le_of_ble_eq_true rfl) rfl (G.conseq ((s_mLayC (p := 3) (c := nI 1) (x := 1) (y := 0) (z := 2) h R80 hT (by omega) (by omega))) (fun r89 X89 FI89 AI89 AL89 h89 => ?_))
      obtain ⟨e1, e2, e3, e4, R89⟩ := h89
      replace e2 := e2.symm
      replace e3 := e3.symm
      replace e4 := e4.symm
      subst e1 e2 e3 e4
      refine G_vret d_Mod_layEven_92 rfl ?_
      exact ⟨rfl, rfl, rfl, rfl, R89⟩
  · omega
theorem m_family {V : GV} {d b : Nat} {S : ST} {x : Int32} {X : XT} {FI AI : FT} {AL : LT} (h : MO X b) (hI : MIv S FI AI AL b) (hW : WS S) : G V m_Mod_family (d + 4) 0 [some (.ref b), some (.int x), none, none] [] X FI AI AL (fun r X' FI' AI' AL' => r = some (.int (fFamily S x).1) ∧ X' = X ∧ MIv (fFamily S x).2 FI' AI' AL' b ∧ fM FI FI' AI AI' AL AL' b) := by
  obtain ⟨hG, hO, hSl, -⟩ := id hI
  have hT := hG.1
  have hn9 := hG.2.1
  have ho := hG.2.2.1
  have hrk := hG.2.2.2.1
  have hn7 := hW.2.1.1
  have kx : ((0 : Int64).toInt ≤ x.toInt64.toInt ∧ x.toInt64.toInt ≤ (5 : Int64).toInt) ↔ isN x 6 := by
    rw [toL, isN_iff (by omega), show (0 : Int64).toInt = 0 from rfl, show (5 : Int64).toInt = 5 from rfl]; omega
  refine G_iload1 1 d_Mod_family_0 rfl ?_
  refine G_i2l 2 d_Mod_family_1 rfl ?_
  refine G_lconst 0 3 d_Mod_family_2 rfl rfl ?_
  refine G_ldc2 6 d_Mod_family_3 rfl k_Mod_227 ?_
  refine G_invS3b 9 d_Mod_family_6 rfl e_Mod_139 M_Mod_in (Nat.le_of_ble_eq_true rfl) (Nat.le_of_ble_eq_true rfl) rfl (s_mIn) (fun h6 => G_ifne1 12 d_Mod_family_9 14 rfl rfl ?_) (fun h6 => G_ifne0 12 d_Mod_family_9 14 rfl rfl ?_)
  · obtain ⟨k, hk, rfl⟩ := kx.mp h6
    have q1 := bN_t hk (show 6 < 2 ^ 31 by omega)
    have z1 := ni_nI (show k < 2 ^ 31 by omega)
    simp only [fFamily, q1, z1, if_true]
    have R0 : Rp (tS S) AL AL b := ⟨fun _ _ => rfl, hSl, fun _ _ _ => rfl⟩
    have CL : ∀ n, n ≤ 4 → (∀ AJ : LT, Rp (clS (tS S) n) AL AJ b → G V m_Mod_family (d + 4) 48 [some (.ref b), some (.int (nI k)), some (.int (nI n)), some (.int (nI n))] [] X FI AI AJ (fun r X' FI' AI' AL' => r = some (.int (nI (fmN k))) ∧ X' = X ∧ MIv (stS S (fmLay (clS (tS S) (fmN k)) (famL k))) FI' AI' AL' b ∧ fM FI FI' AI AI' AL AL' b)) → G V m_Mod_family (d + 4) 32 [some (.ref b), some (.int (nI k)), some (.int (nI n)), some (.int (nI 0))] [] X FI AI AL (fun r X' FI' AI' AL' => r = some (.int (nI (fmN k))) ∧ X' = X ∧ MIv (stS S (fmLay (clS (tS S) (fmN k)) (famL k))) FI' AI' AL' b ∧ fM FI FI' AI AI' AL AL' b) := by
      intro n hn nx
      have L : ∀ i, i ≤ n → ∀ AJ : LT, Rp (clS (tS S) i) AL AJ b → G V m_Mod_family (d + 4) 32 [some (.ref b), some (.int (nI k)), some (.int (nI n)), some (.int (nI i))] [] X FI AI AJ (fun r X' FI' AI' AL' => r = some (.int (nI (fmN k))) ∧ X' = X ∧ MIv (stS S (fmLay (clS (tS S) (fmN k)) (famL k))) FI' AI' AL' b ∧ fM FI FI' AI AI' AL AL' b) := by
        refine upto ?_ ?_
        · intro AJ hR
          refine G_iload3 33 d_Mod_family_32 rfl ?_
          refine G_iload2 34 d_Mod_family_33 rfl ?_
          first | refine G_icgeN 48 37 d_Mod_family_34 rfl rfl (by omega) (by omega) (fun h34 => ?_) (fun h34 => ?_) | refine G_icge 48 37 d_Mod_family_34 rfl rfl (fun h34 => ?_) (fun h34 => ?_)
          · exact nx AJ hR
          · omega
        · intro i hi ih AJ hR
          refine G_iload3 33 d_Mod_family_32 rfl ?_
          refine G_iload2 34 d_Mod_family_33 rfl ?_
          first | refine G_icgeN 48 37 d_Mod_family_34 rfl rfl (by omega) (by omega) (fun h34 => ?_) (fun h34 => ?_) | refine G_icge 48 37 d_Mod_family_34 rfl rfl (fun h34 => ?_) (fun h34 => ?_)
          · omega
          · refine G_aload0 38 d_Mod_family_37 rfl ?_
            refine G_iload3 39 d_Mod_family_38 rfl ?_
            refine G_invV1v 42 d_Mod_family_39 rfl e_Mod_162 M_Mod_clearAt rfl h.sh (Nat.le_of_ble_eq_true rfl) (Nat.le_of_ble_eq_true rfl) rfl (s_mClear (by assumption) (by omega)) ?_
            first | refine G_iincN3 45 d_Mod_family_42 rfl (by decide) rfl ?_ | refine G_iinc3 _ 45 d_Mod_family_42 rfl (by decide) rfl rfl ?_
            refine G_goto 32 d_Mod_family_45 rfl ?_
            exact ih _ (hR.cl (by omega))
      exact L 0 (by omega) AL R0
    have hk6 : k = 0 ∨ k = 1 ∨ k = 2 ∨ k = 3 ∨ k = 4 ∨ k = 5 := by omega
    rcases hk6 with rfl | rfl | rfl | rfl | rfl | rfl
    · refine G_iload1 15 d_Mod_family_14 rfl ?_
      refine G_iconstN 3 16 d_Mod_family_15 rfl rfl ?_
      first | refine G_iceqN 24 19 d_Mod_family_16 rfl rfl (by omega) (by omega) (fun h16 => ?_) (fun h16 => ?_) | refine G_iceq 24 19 d_Mod_family_16 rfl rfl (fun h16 => ?_) (fun h16 => ?_)
      · omega
      · refine G_iload1 20 d_Mod_family_19 rfl ?_
        refine G_iconstN 4 21 d_Mod_family_20 rfl rfl ?_
        first | refine G_icneN 28 24 d_Mod_family_21 rfl rfl (by omega) (by omega) (fun h21 => ?_) (fun h21 => ?_) | refine G_icne 28 24 d_Mod_family_21 rfl rfl (fun h21 => ?_) (fun h21 => ?_)
        · refine G_iconstN 3 29 d_Mod_family_28 rfl rfl ?_
          refine G_istore2 30 d_Mod_family_29 rfl (by decide) rfl ?_
          refine G_iconstN 0 31 d_Mod_family_30 rfl rfl ?_
          refine G_istore3 32 d_Mod_family_31 rfl (by decide) rfl ?_
          refine CL 3 (by omega) (fun AJ hR => ?_)
          refine G_iload1 49 d_Mod_family_48 rfl ?_
          refine G_ifne 91 52 d_Mod_family_49 rfl rfl (fun h49 => ?_) (fun h49 => ?_)
          · exact absurd rfl h49
          · skip
            refine G_aload0 53 d_Mod_family_52 rfl ?_
            refine G_iconstN 0 54 d_Mod_family_53 rfl rfl ?_
            refine G_iconstN 1 55 d_Mod_family_54 rfl rfl ?_
            refine G_iconstN 1 56 d_Mod_family_55 rfl rfl ?_
            refine G_iconstN 0 57 d_Mod_family_56 rfl rfl ?_
            refine G_iconstN 0 58 d_Mod_family_57 rfl rfl ?_
            refine G_invV5 61 d_Mod_family_58 rfl e_Mod_274 M_Mod_lay rfl h.sh (Nat.le_of_ble_eq_true rfl) (Nat.le_of_ble_eq_true rfl) rfl (G.conseq ((s_mLayC (p := 0) (c := nI 1) (x := 1) (y := 0) (z := 0) h hR hT (by omega) (by omega))) (fun r58 X58 FI58 AI58 AL58 h58 => ?_))
            obtain ⟨e1, e2, e3, e4, R58⟩ := h58
            replace e2 := e2.symm
            replace e3 := e3.symm
            replace e4 := e4.symm
            subst e1 e2 e3 e4
            refine G_aload0 62 d_Mod_family_61 rfl ?_
            refine G_iconstN 0 63 d_Mod_family_62 rfl rfl ?_
            refine G_iconstN 1 64 d_Mod_family_63 rfl rfl ?_
            refine G_iconstN 0 65 d_Mod_family_64 rfl rfl ?_
            refine G_iconstN 1 66 d_Mod_family_65 rfl rfl ?_
            refine G_iconstN 0 67 d_Mod_family_66 rfl rfl ?_
            refine G_invV5 70 d_Mod_family_67 rfl e_Mod_274 M_Mod_lay rfl h.sh (Nat.le_of_ble_eq_true rfl) (Nat.le_of_ble_eq_true rfl) rfl (G.conseq ((s_mLayC (p := 0) (c := nI 1) (x := 0) (y := 1) (z := 0) h R58 hT (by omega) (by omega))) (fun r67 X67 FI67 AI67 AL67 h67 => ?_))
            obtain ⟨e1, e2, e3, e4, R67⟩ := h67
            replace e2 := e2.symm
            replace e3 := e3.symm
            replace e4 := e4.symm
            subst e1 e2 e3 e4
            refine G_aload0 71 d_Mod_family_70 rfl ?_
            refine G_iconstN 1 72 d_Mod_family_71 rfl rfl ?_
            refine G_iconstN 1 73 d_Mod_family_72 rfl rfl ?_
            refine G_iconstN 1 74 d_Mod_family_73 rfl rfl ?_
            refine G_iconstN 1 75 d_Mod_family_74 rfl rfl ?_
            refine G_iconstN 0 76 d_Mod_family_75 rfl rfl ?_
            refine G_invV5 79 d_Mod_family_76 rfl e_Mod_274 M_Mod_lay rfl h.sh (Nat.le_of_ble_eq_true rfl) (Nat.le_of_ble_eq_true rfl) rfl (G.conseq ((s_mLayC (p := 1) (c := nI 1) (x := 1) (y := 1) (z := 0) h R67 hT (by omega) (by omega))) (fun r76 X76 FI76 AI76 AL76 h76 => ?_))
            obtain ⟨e1, e2, e3, e4, R76⟩ := h76
            replace e2 := e2.symm
            replace e3 := e3.symm
            replace e4 := e4.symm
            subst e1 e2 e3 e4
            refine G_aload0 80 d_Mod_family_79 rfl ?_
            refine G_iconstN 2 81 d_Mod_family_80 rfl rfl ?_
            refine G_iconstN 1 82 d_Mod_family_81 rfl rfl ?_
            refine G_iconstN 1 83 d_Mod_family_82 rfl rfl ?_
            refine G_iconstN 2 84 d_Mod_family_83 rfl rfl ?_
            refine G_iconstN 0 85 d_Mod_family_84 rfl rfl ?_
            refine G_invV5 88 d_Mod_family_85 rfl e_Mod_274 M_Mod_lay rfl h.sh (Nat.le_of_ble_eq_true rfl) (Nat.le_of_ble_eq_true rfl) rfl (G.conseq ((s_mLayC (p := 2) (c := nI 1) (x := 1) (y := 2) (z := 0) h R76 hT (by omega) (by omega))) (fun r85 X85 FI85 AI85 AL85 h85 => ?_))
            obtain ⟨e1, e2, e3, e4, R85⟩ := h85
            replace e2 := e2.symm
            replace e3 := e3.symm
            replace e4 := e4.symm
            subst e1 e2 e3 e4
            refine G_goto 152 d_Mod_family_88 rfl ?_
            refine G_iload2 153 d_Mod_family_152 rfl ?_
            refine G_iret d_Mod_family_153 rfl ?_
            exact ⟨rfl, rfl, hI.sl hW _ R85.1 R85.2.1 R85.2.2, fM.al R85.1⟩
        · omega
    · refine G_iload1 15 d_Mod_family_14 rfl ?_
      refine G_iconstN 3 16 d_Mod_family_15 rfl rfl ?_
      first | refine G_iceqN 24 19 d_Mod_family_16 rfl rfl (by omega) (by omega) (fun h16 => ?_) (fun h16 => ?_) | refine G_iceq 24 19 d_Mod_family_16 rfl rfl (fun h16 => ?_) (fun h16 => ?_)
      · omega
      · refine G_iload1 20 d_Mod_family_19 rfl ?_
        refine G_iconstN 4 21 d_Mod_family_20 rfl rfl ?_
        first | refine G_icneN 28 24 d_Mod_family_21 rfl rfl (by omega) (by omega) (fun h21 => ?_) (fun h21 => ?_) | refine G_icne 28 24 d_Mod_family_21 rfl rfl (fun h21 => ?_) (fun h21 => ?_)
        · refine G_iconstN 3 29 d_Mod_family_28 rfl rfl ?_
          refine G_istore2 30 d_Mod_family_29 rfl (by decide) rfl ?_
          refine G_iconstN 0 31 d_Mod_family_30 rfl rfl ?_
          refine G_istore3 32 d_Mod_family_31 rfl (by decide) rfl ?_
          refine CL 3 (by omega) (fun AJ hR => ?_)
          refine G_iload1 49 d_Mod_family_48 rfl ?_
          refine G_ifne 91 52 d_Mod_family_49 rfl rfl (fun h49 => ?_) (fun h49 => ?_)
          · refine G_iload1 92 d_Mod_family_91 rfl ?_
            refine G_iconstN 4 93 d_Mod_family_92 rfl rfl ?_
            first | refine G_icneN 135 96 d_Mod_family_93 rfl rfl (by omega) (by omega) (fun h93 => ?_) (fun h93 => ?_) | refine G_icne 135 96 d_Mod_family_93 rfl rfl (fun h93 => ?_) (fun h93 => ?_)
            · refine G_iload1 136 d_Mod_family_135 rfl ?_
              refine G_iconstN 5 137 d_Mod_family_136 rfl rfl ?_
              first | refine G_icneN 147 140 d_Mod_family_137 rfl rfl (by omega) (by omega) (fun h137 => ?_) (fun h137 => ?_) | refine G_icne 147 140 d_Mod_family_137 rfl rfl (fun h137 => ?_) (fun h137 => ?_)
              · skip
                refine G_aload0 148 d_Mod_family_147 rfl ?_
                refine G_iload1 149 d_Mod_family_148 rfl ?_
                refine G_invV1 152 d_Mod_family_149 rfl e_Mod_281 M_Mod_layEven rfl h.sh (Nat.le_of_ble_eq_true rfl) (Nat.le_of_ble_eq_true rfl) rfl (G.conseq ((s_mLayEven1 h hR hT)) (fun r149 X149 FI149 AI149 AL149 h149 => ?_))
                obtain ⟨e1, e2, e3, e4, R149⟩ := h149
                replace e2 := e2.symm
                replace e3 := e3.symm
                replace e4 := e4.symm
                subst e1 e2 e3 e4
                refine G_iload2 153 d_Mod_family_152 rfl ?_
                refine G_iret d_Mod_family_153 rfl ?_
                exact ⟨rfl, rfl, hI.sl hW _ R149.1 R149.2.1 R149.2.2, fM.al R149.1⟩
              · omega
            · omega
          · exact absurd h49 (by decide)
        · omega
    · refine G_iload1 15 d_Mod_family_14 rfl ?_
      refine G_iconstN 3 16 d_Mod_family_15 rfl rfl ?_
      first | refine G_iceqN 24 19 d_Mod_family_16 rfl rfl (by omega) (by omega) (fun h16 => ?_) (fun h16 => ?_) | refine G_iceq 24 19 d_Mod_family_16 rfl rfl (fun h16 => ?_) (fun h16 => ?_)
      · omega
      · refine G_iload1 20 d_Mod_family_19 rfl ?_
        refine G_iconstN 4 21 d_Mod_family_20 rfl rfl ?_
        first | refine G_icneN 28 24 d_Mod_family_21 rfl rfl (by omega) (by omega) (fun h21 => ?_) (fun h21 => ?_) | refine G_icne 28 24 d_Mod_family_21 rfl rfl (fun h21 => ?_) (fun h21 => ?_)
        · refine G_iconstN 3 29 d_Mod_family_28 rfl rfl ?_
          refine G_istore2 30 d_Mod_family_29 rfl (by decide) rfl ?_
          refine G_iconstN 0 31 d_Mod_family_30 rfl rfl ?_
          refine G_istore3 32 d_Mod_family_31 rfl (by decide) rfl ?_
          refine CL 3 (by omega) (fun AJ hR => ?_)
          refine G_iload1 49 d_Mod_family_48 rfl ?_
          refine G_ifne 91 52 d_Mod_family_49 rfl rfl (fun h49 => ?_) (fun h49 => ?_)
          · refine G_iload1 92 d_Mod_family_91 rfl ?_
            refine G_iconstN 4 93 d_Mod_family_92 rfl rfl ?_
            first | refine G_icneN 135 96 d_Mod_family_93 rfl rfl (by omega) (by omega) (fun h93 => ?_) (fun h93 => ?_) | refine G_icne 135 96 d_Mod_family_93 rfl rfl (fun h93 => ?_) (fun h93 => ?_)
            · refine G_iload1 136 d_Mod_family_135 rfl ?_
              refine G_iconstN 5 137 d_Mod_family_136 rfl rfl ?_
              first | refine G_icneN 147 140 d_Mod_family_137 rfl rfl (by omega) (by omega) (fun h137 => ?_) (fun h137 => ?_) | refine G_icne 147 140 d_Mod_family_137 rfl rfl (fun h137 => ?_) (fun h137 => ?_)
              · skip
                refine G_aload0 148 d_Mod_family_147 rfl ?_
                refine G_iload1 149 d_Mod_family_148 rfl ?_
                refine G_invV1 152 d_Mod_family_149 rfl e_Mod_281 M_Mod_layEven rfl h.sh (Nat.le_of_ble_eq_true rfl) (Nat.le_of_ble_eq_true rfl) rfl (G.conseq ((s_mLayEven2 h hR hT)) (fun r149 X149 FI149 AI149 AL149 h149 => ?_))
                obtain ⟨e1, e2, e3, e4, R149⟩ := h149
                replace e2 := e2.symm
                replace e3 := e3.symm
                replace e4 := e4.symm
                subst e1 e2 e3 e4
                refine G_iload2 153 d_Mod_family_152 rfl ?_
                refine G_iret d_Mod_family_153 rfl ?_
                exact ⟨rfl, rfl, hI.sl hW _ R149.1 R149.2.1 R149.2.2, fM.al R149.1⟩
              · omega
            · omega
          · exact absurd h49 (by decide)
        · omega
    · refine G_iload1 15 d_Mod_family_14 rfl ?_
      refine G_iconstN 3 16 d_Mod_family_15 rfl rfl ?_
      first | refine G_iceqN 24 19 d_Mod_family_16 rfl rfl (by omega) (by omega) (fun h16 => ?_) (fun h16 => ?_) | refine G_iceq 24 19 d_Mod_family_16 rfl rfl (fun h16 => ?_) (fun h16 => ?_)
      · refine G_iconstN 4 25 d_Mod_family_24 rfl rfl ?_
        refine G_goto 29 d_Mod_family_25 rfl ?_
        refine G_istore2 30 d_Mod_family_29 rfl (by decide) rfl ?_
        refine G_iconstN 0 31 d_Mod_family_30 rfl rfl ?_
        refine G_istore3 32 d_Mod_family_31 rfl (by decide) rfl ?_
        refine CL 4 (by omega) (fun AJ hR => ?_)
        refine G_iload1 49 d_Mod_family_48 rfl ?_
        refine G_ifne 91 52 d_Mod_family_49 rfl rfl (fun h49 => ?_) (fun h49 => ?_)
        · refine G_iload1 92 d_Mod_family_91 rfl ?_
          refine G_iconstN 4 93 d_Mod_family_92 rfl rfl ?_
          first | refine G_icneN 135 96 d_Mod_family_93 rfl rfl (by omega) (by omega) (fun h93 => ?_) (fun h93 => ?_) | refine G_icne 135 96 d_Mod_family_93 rfl rfl (fun h93 => ?_) (fun h93 => ?_)
          · refine G_iload1 136 d_Mod_family_135 rfl ?_
            refine G_iconstN 5 137 d_Mod_family_136 rfl rfl ?_
            first | refine G_icneN 147 140 d_Mod_family_137 rfl rfl (by omega) (by omega) (fun h137 => ?_) (fun h137 => ?_) | refine G_icne 147 140 d_Mod_family_137 rfl rfl (fun h137 => ?_) (fun h137 => ?_)
            · skip
              refine G_aload0 148 d_Mod_family_147 rfl ?_
              refine G_iload1 149 d_Mod_family_148 rfl ?_
              refine G_invV1 152 d_Mod_family_149 rfl e_Mod_281 M_Mod_layEven rfl h.sh (Nat.le_of_ble_eq_true rfl) (Nat.le_of_ble_eq_true rfl) rfl (G.conseq ((s_mLayEven3 h hR hT)) (fun r149 X149 FI149 AI149 AL149 h149 => ?_))
              obtain ⟨e1, e2, e3, e4, R149⟩ := h149
              replace e2 := e2.symm
              replace e3 := e3.symm
              replace e4 := e4.symm
              subst e1 e2 e3 e4
              refine G_iload2 153 d_Mod_family_152 rfl ?_
              refine G_iret d_Mod_family_153 rfl ?_
              exact ⟨rfl, rfl, hI.sl hW _ R149.1 R149.2.1 R149.2.2, fM.al R149.1⟩
            · omega
          · omega
        · exact absurd h49 (by decide)
      · omega
    · refine G_iload1 15 d_Mod_family_14 rfl ?_
      refine G_iconstN 3 16 d_Mod_family_15 rfl rfl ?_
      first | refine G_iceqN 24 19 d_Mod_family_16 rfl rfl (by omega) (by omega) (fun h16 => ?_) (fun h16 => ?_) | refine G_iceq 24 19 d_Mod_family_16 rfl rfl (fun h16 => ?_) (fun h16 => ?_)
      · omega
      · refine G_iload1 20 d_Mod_family_19 rfl ?_
        refine G_iconstN 4 21 d_Mod_family_20 rfl rfl ?_
        first | refine G_icneN 28 24 d_Mod_family_21 rfl rfl (by omega) (by omega) (fun h21 => ?_) (fun h21 => ?_) | refine G_icne 28 24 d_Mod_family_21 rfl rfl (fun h21 => ?_) (fun h21 => ?_)
        · omega
        · refine G_iconstN 4 25 d_Mod_family_24 rfl rfl ?_
          refine G_goto 29 d_Mod_family_25 rfl ?_
          refine G_istore2 30 d_Mod_family_29 rfl (by decide) rfl ?_
          refine G_iconstN 0 31 d_Mod_family_30 rfl rfl ?_
          refine G_istore3 32 d_Mod_family_31 rfl (by decide) rfl ?_
          refine CL 4 (by omega) (fun AJ hR => ?_)
          refine G_iload1 49 d_Mod_family_48 rfl ?_
          refine G_ifne 91 52 d_Mod_family_49 rfl rfl (fun h49 => ?_) (fun h49 => ?_)
          · refine G_iload1 92 d_Mod_family_91 rfl ?_
            refine G_iconstN 4 93 d_Mod_family_92 rfl rfl ?_
            first | refine G_icneN 135 96 d_Mod_family_93 rfl rfl (by omega) (by omega) (fun h93 => ?_) (fun h93 => ?_) | refine G_icne 135 96 d_Mod_family_93 rfl rfl (fun h93 => ?_) (fun h93 => ?_)
            · omega
            · skip
              refine G_aload0 97 d_Mod_family_96 rfl ?_
              refine G_iconstN 0 98 d_Mod_family_97 rfl rfl ?_
              refine G_iconstN 1 99 d_Mod_family_98 rfl rfl ?_
              refine G_iconstN 2 100 d_Mod_family_99 rfl rfl ?_
              refine G_iconstN 0 101 d_Mod_family_100 rfl rfl ?_
              refine G_iconstN 0 102 d_Mod_family_101 rfl rfl ?_
              refine G_invV5 105 d_Mod_family_102 rfl e_Mod_274 M_Mod_lay rfl h.sh (Nat.le_of_ble_eq_true rfl) (Nat.le_of_ble_eq_true rfl) rfl (G.conseq ((s_mLayC (p := 0) (c := nI 1) (x := 2) (y := 0) (z := 0) h hR hT (by omega) (by omega))) (fun r102 X102 FI102 AI102 AL102 h102 => ?_))
              obtain ⟨e1, e2, e3, e4, R102⟩ := h102
              replace e2 := e2.symm
              replace e3 := e3.symm
              replace e4 := e4.symm
              subst e1 e2 e3 e4
              refine G_aload0 106 d_Mod_family_105 rfl ?_
              refine G_iconstN 1 107 d_Mod_family_106 rfl rfl ?_
              refine G_iconstN 1 108 d_Mod_family_107 rfl rfl ?_
              refine G_iconstN 1 109 d_Mod_family_108 rfl rfl ?_
              refine G_iconstN 1 110 d_Mod_family_109 rfl rfl ?_
              refine G_iconstN 0 111 d_Mod_family_110 rfl rfl ?_
              refine G_invV5 114 d_Mod_family_111 rfl e_Mod_274 M_Mod_lay rfl h.sh (Nat.le_of_ble_eq_true rfl) (Nat.le_of_ble_eq_true rfl) rfl (G.conseq ((s_mLayC (p := 1) (c := nI 1) (x := 1) (y := 1) (z := 0) h R102 hT (by omega) (by omega))) (fun r111 X111 FI111 AI111 AL111 h111 => ?_))
              obtain ⟨e1, e2, e3, e4, R111⟩ := h111
              replace e2 := e2.symm
              replace e3 := e3.symm
              replace e4 := e4.symm
              subst e1 e2 e3 e4
              refine G_aload0 115 d_Mod_family_114 rfl ?_
              refine G_iconstN 2 116 d_Mod_family_115 rfl rfl ?_
              refine G_iconstN 1 117 d_Mod_family_116 rfl rfl ?_
              refine G_iconstN 0 118 d_Mod_family_117 rfl rfl ?_
              refine G_iconstN 2 119 d_Mod_family_118 rfl rfl ?_
              refine G_iconstN 0 120 d_Mod_family_119 rfl rfl ?_
              refine G_invV5 123 d_Mod_family_120 rfl e_Mod_274 M_Mod_lay rfl h.sh (Nat.le_of_ble_eq_true rfl) (Nat.le_of_ble_eq_true rfl) rfl (G.conseq ((s_mLayC (p := 2) (c := nI 1) (x := 0) (y := 2) (z := 0) h R111 hT (by omega) (by omega))) (fun r120 X120 FI120 AI120 AL120 h120 => ?_))
              obtain ⟨e1, e2, e3, e4, R120⟩ := h120
              replace e2 := e2.symm
              replace e3 := e3.symm
              replace e4 := e4.symm
              subst e1 e2 e3 e4
              refine G_aload0 124 d_Mod_family_123 rfl ?_
              refine G_iconstN 3 125 d_Mod_family_124 rfl rfl ?_
              refine G_iconstN 1 126 d_Mod_family_125 rfl rfl ?_
              refine G_iconstN 0 127 d_Mod_family_126 rfl rfl ?_
              refine G_iconstN 0 128 d_Mod_family_127 rfl rfl ?_
              refine G_iconstN 1 129 d_Mod_family_128 rfl rfl ?_
              refine G_invV5 132 d_Mod_family_129 rfl e_Mod_274 M_Mod_lay rfl h.sh (Nat.le_of_ble_eq_true rfl) (Nat.le_of_ble_eq_true rfl) rfl (G.conseq ((s_mLayC (p := 3) (c := nI 1) (x := 0) (y := 0) (z := 1) h R120 hT (by omega) (by omega))) (fun r129 X129 FI129 AI129 AL129 h129 => ?_))
              obtain ⟨e1, e2, e3, e4, R129⟩ := h129
              replace e2 := e2.symm
              replace e3 := e3.symm
              replace e4 := e4.symm
              subst e1 e2 e3 e4
              refine G_goto 152 d_Mod_family_132 rfl ?_
              refine G_iload2 153 d_Mod_family_152 rfl ?_
              refine G_iret d_Mod_family_153 rfl ?_
              exact ⟨rfl, rfl, hI.sl hW _ R129.1 R129.2.1 R129.2.2, fM.al R129.1⟩
          · exact absurd h49 (by decide)
    · refine G_iload1 15 d_Mod_family_14 rfl ?_
      refine G_iconstN 3 16 d_Mod_family_15 rfl rfl ?_
      first | refine G_iceqN 24 19 d_Mod_family_16 rfl rfl (by omega) (by omega) (fun h16 => ?_) (fun h16 => ?_) | refine G_iceq 24 19 d_Mod_family_16 rfl rfl (fun h16 => ?_) (fun h16 => ?_)
      · omega
      · refine G_iload1 20 d_Mod_family_19 rfl ?_
        refine G_iconstN 4 21 d_Mod_family_20 rfl rfl ?_
        first | refine G_icneN 28 24 d_Mod_family_21 rfl rfl (by omega) (by omega) (fun h21 => ?_) (fun h21 => ?_) | refine G_icne 28 24 d_Mod_family_21 rfl rfl (fun h21 => ?_) (fun h21 => ?_)
        · refine G_iconstN 3 29 d_Mod_family_28 rfl rfl ?_
          refine G_istore2 30 d_Mod_family_29 rfl (by decide) rfl ?_
          refine G_iconstN 0 31 d_Mod_family_30 rfl rfl ?_
          refine G_istore3 32 d_Mod_family_31 rfl (by decide) rfl ?_
          refine CL 3 (by omega) (fun AJ hR => ?_)
          refine G_iload1 49 d_Mod_family_48 rfl ?_
          refine G_ifne 91 52 d_Mod_family_49 rfl rfl (fun h49 => ?_) (fun h49 => ?_)
          · refine G_iload1 92 d_Mod_family_91 rfl ?_
            refine G_iconstN 4 93 d_Mod_family_92 rfl rfl ?_
            first | refine G_icneN 135 96 d_Mod_family_93 rfl rfl (by omega) (by omega) (fun h93 => ?_) (fun h93 => ?_) | refine G_icne 135 96 d_Mod_family_93 rfl rfl (fun h93 => ?_) (fun h93 => ?_)
            · refine G_iload1 136 d_Mod_family_135 rfl ?_
              refine G_iconstN 5 137 d_Mod_family_136 rfl rfl ?_
              first | refine G_icneN 147 140 d_Mod_family_137 rfl rfl (by omega) (by omega) (fun h137 => ?_) (fun h137 => ?_) | refine G_icne 147 140 d_Mod_family_137 rfl rfl (fun h137 => ?_) (fun h137 => ?_)
              · omega
              · skip
                refine G_aload0 141 d_Mod_family_140 rfl ?_
                refine G_invV0 144 d_Mod_family_141 rfl e_Mod_278 M_Mod_layFifth rfl h.sh (Nat.le_of_ble_eq_true rfl) (Nat.le_of_ble_eq_true rfl) rfl (G.conseq ((s_mLayFifth h hR hT)) (fun r141 X141 FI141 AI141 AL141 h141 => ?_))
                obtain ⟨e1, e2, e3, e4, R141⟩ := h141
                replace e2 := e2.symm
                replace e3 := e3.symm
                replace e4 := e4.symm
                subst e1 e2 e3 e4
                refine G_goto 152 d_Mod_family_144 rfl ?_
                refine G_iload2 153 d_Mod_family_152 rfl ?_
                refine G_iret d_Mod_family_153 rfl ?_
                exact ⟨rfl, rfl, hI.sl hW _ R141.1 R141.2.1 R141.2.2, fM.al R141.1⟩
            · omega
          · exact absurd h49 (by decide)
        · omega
  · have q1 := bN_f (fun e => h6 (kx.mpr e)) (show 6 < 2 ^ 31 by omega)
    simp only [fFamily, q1, Bool.false_eq_true, if_false]
    refine G_iconst (-1) 13 d_Mod_family_12 rfl rfl ?_
    refine G_iret d_Mod_family_13 rfl ?_
    exact ⟨rfl, rfl, hI, fM.rf⟩
