/-! ===== what a POLYNOMIAL is worth, modulo m ===== -/
theorem lrem_mod (x y : Int64) : x - x / y * y = x % y := by
  apply Int64.toInt_inj.mp
  have h1 := Int64.le_toInt (x % y)
  have h2 := Int64.toInt_lt (x % y)
  rw [Int64.toInt_sub, Int64.toInt_mul, Int64.toInt_div, Int.bmod_mul_bmod, Int.sub_bmod_bmod, Int.mul_comm (x.toInt.tdiv y.toInt), ← Int.tmod_def, ← Int64.toInt_mod]
  exact Int.bmod_eq_of_le_mul_two (by omega) (by omega)
/-- a number modulo m -/
def md (c : Int64) (m : Nat) : Nat := (c.toInt % (m : Int)).toNat
theorem md_lt (c : Int64) {m : Nat} (hm : 0 < m) : md c m < m := by
  unfold md
  have h1 := Int.emod_lt_of_pos c.toInt (show (0 : Int) < m by omega)
  have h2 := Int.emod_nonneg c.toInt (show (m : Int) ≠ 0 by omega)
  omega
theorem lN_ti {n : Nat} (h : n < 2 ^ 63) : (lN n).toInt = (n : Int) := pk_lT h
theorem lN_ne0 {n : Nat} (h0 : 0 < n) (h : n < 2 ^ 63) : ¬ lN n = 0 := fun e => by
  have := (pk_lEQ (b := 0) h (by omega)).mp e
  omega
theorem xor_neg {x y : Int64} (hy : 0 ≤ y.toInt) : x ^^^ y < 0 ↔ x.toInt < 0 := by
  have h1 : (x ^^^ y).toInt < 0 ↔ (x.toBitVec.msb ^^ y.toBitVec.msb) = true := by
    have : (x ^^^ y).toBitVec.msb = (x.toBitVec.msb ^^ y.toBitVec.msb) := by rw [Int64.toBitVec_xor, BitVec.msb_xor]
    rw [← this, BitVec.msb_eq_toInt]
    exact (decide_eq_true_iff).symm
  have hyb : y.toBitVec.msb = false := by
    rw [BitVec.msb_eq_toInt]
    exact decide_eq_false (by show ¬ y.toInt < 0; omega)
  rw [Int64.lt_iff_toInt_lt, show (0 : Int64).toInt = 0 from rfl, h1, hyb, Bool.xor_false, BitVec.msb_eq_toInt]
  exact decide_eq_true_iff
theorem lfm_md (x : Int64) {m : Nat} (h0 : 0 < m) (hm : m < 2 ^ 31) : lfm x (lN m) = lN (md x m) := by
  have hmi : (lN m).toInt = (m : Int) := lN_ti (by omega)
  have hr : (x - x / lN m * lN m).toInt = x.toInt.tmod m := by rw [lrem_mod, Int64.toInt_mod, hmi]
  have hmd := md_lt x h0
  apply Int64.toInt_inj.mp
  rw [lN_ti (by omega)]
  have hd := Int.tmod_def x.toInt (m : Int)
  have hb := tmod_bounds (a := x.toInt) (show (0 : Int) < m by omega)
  have hem : ((md x m : Nat) : Int) = x.toInt % (m : Int) := by
    unfold md
    have h2 := Int.emod_nonneg x.toInt (show (m : Int) ≠ 0 by omega)
    omega
  rw [hem]
  have hxe : x.toInt % (m : Int) = x.toInt.tmod m % (m : Int) := by
    rw [hd, Int.sub_eq_add_neg, ← Int.mul_neg, Int.add_mul_emod_self_left]
  unfold lfm
  by_cases hx : x.toInt < 0
  · have hxn := (xor_neg (x := x) (y := lN m) (by omega)).mpr hx
    by_cases hz : x - x / lN m * lN m = 0
    · simp only [hz, not_true, and_false, if_false]
      rw [hz] at hr
      rw [hxe, ← hr]; rfl
    · simp only [hz, hxn, not_false_eq_true, and_self, if_true]
      have hne : x.toInt.tmod m ≠ 0 := fun e => hz (Int64.toInt_inj.mp (by rw [hr, e]; rfl))
      have hle : x.toInt.tmod m ≤ 0 := by
        have := Int.tmod_nonneg (a := -x.toInt) (m : Int) (by omega)
        rw [Int.neg_tmod] at this
        omega
      rw [Int64.toInt_add, hr, hmi, Int.bmod_eq_of_le_mul_two (by omega) (by omega), hxe, ← Int.add_emod_right, Int.emod_eq_of_lt (by omega) (by omega)]
  · have hxn : ¬ (x ^^^ lN m < 0) := fun h => hx ((xor_neg (by omega)).mp h)
    simp only [hxn, false_and, if_false]
    rw [hr, Int.tmod_eq_emod_of_nonneg (by omega)]
/-- a times b to the e, modulo m, as the class counts it -/
def tp (a b : Nat) : Nat → Nat → Nat
  | 0, _ => a
  | e + 1, m => tp a b e m * b % m
theorem tp_lt {a b m : Nat} (hm : 0 < m) (ha : a < m) : ∀ e, tp a b e m < m
  | 0 => ha
  | e + 1 => Nat.mod_lt _ hm
theorem s_timesPower {V : GV} {d a e m : Nat} {w : Int64} {X : XT} {FI AI : FT} {AL : LT} (h0 : 0 < m) (hm : m ≤ 1000000) (ha : a < m) (he : e < 2 ^ 31) : G V m_Poly_timesPower (d + 1) 0 [some (.long (lN a)), none, some (.long w), none, some (.int (nI e)), some (.int (nI m)), none, none, none, none, none] [] X FI AI AL (Pd (some (.long (lN (tp a (md w m) e m)))) X FI AI AL) := by
  have hb := md_lt w h0
  have hml : (nI m).toInt64 = lN m := nI_l (by omega)
  have hm0 : ¬ lN m = 0 := lN_ne0 h0 (by omega)
  have L : ∀ i, i ≤ e → G V m_Poly_timesPower (d + 1) 15 [some (.long (lN a)), none, some (.long w), none, some (.int (nI e)), some (.int (nI m)), some (.long (lN (md w m))), none, some (.long (lN (tp a (md w m) i m))), none, some (.int (nI i))] [] X FI AI AL (Pd (some (.long (lN (tp a (md w m) e m)))) X FI AI AL) := by
    refine upto ?_ ?_
    · refine G_iload10 17 d_Poly_timesPower_15 rfl ?_
      refine G_iload4 19 d_Poly_timesPower_17 rfl ?_
      first | refine G_icgeN 39 22 d_Poly_timesPower_19 rfl rfl (by omega) (by omega) (fun h19 => ?_) (fun h19 => ?_) | refine G_icge 39 22 d_Poly_timesPower_19 rfl rfl (fun h19 => ?_) (fun h19 => ?_)
      · refine G_lload8 41 d_Poly_timesPower_39 rfl ?_
        refine G_lret d_Poly_timesPower_41 rfl ?_
        exact Pd.rf
      · omega
    · intro i hi ih
      have ht := tp_lt (b := md w m) h0 ha i
      refine G_iload10 17 d_Poly_timesPower_15 rfl ?_
      refine G_iload4 19 d_Poly_timesPower_17 rfl ?_
      first | refine G_icgeN 39 22 d_Poly_timesPower_19 rfl rfl (by omega) (by omega) (fun h19 => ?_) (fun h19 => ?_) | refine G_icge 39 22 d_Poly_timesPower_19 rfl rfl (fun h19 => ?_) (fun h19 => ?_)
      · omega
      · refine G_lload8 24 d_Poly_timesPower_22 rfl ?_
        refine G_lload6 26 d_Poly_timesPower_24 rfl ?_
        refine G_lmul 27 d_Poly_timesPower_26 rfl ?_
        refine G_iload5 29 d_Poly_timesPower_27 rfl ?_
        refine G_i2l 30 d_Poly_timesPower_29 rfl ?_
        rw [hml]
        refine G_lrem 31 d_Poly_timesPower_30 rfl (by assumption) ?_
        have hlt : tp a (md w m) i m * md w m < 1000000 * 1000000 := Nat.mul_lt_mul_of_lt_of_le (by omega) (by omega) (by omega)
        rw [lN_mul, pk_lRem (by omega) h0 (by omega)]
        refine G_lstore8 33 d_Poly_timesPower_31 rfl (by decide) rfl ?_
        first | refine G_iincN10 36 d_Poly_timesPower_33 rfl (by decide) rfl ?_ | refine G_iinc10 _ 36 d_Poly_timesPower_33 rfl (by decide) rfl rfl ?_
        refine G_goto 15 d_Poly_timesPower_36 rfl ?_
        exact ih
  refine G_lload2 1 d_Poly_timesPower_0 rfl ?_
  refine G_iload5 3 d_Poly_timesPower_1 rfl ?_
  refine G_i2l 4 d_Poly_timesPower_3 rfl ?_
  rw [hml]
  refine G_invS2d 7 d_Poly_timesPower_4 rfl e_Poly_57 M_Math_floorMod (Nat.le_of_ble_eq_true rfl) (Nat.le_of_ble_eq_true rfl) rfl (s_floorMod (by assumption)) ?_
  rw [lfm_md w h0 (by omega)]
  refine G_lstore6 9 d_Poly_timesPower_7 rfl (by decide) rfl ?_
  refine G_lload0 10 d_Poly_timesPower_9 rfl ?_
  refine G_lstore8 12 d_Poly_timesPower_10 rfl (by decide) rfl ?_
  refine G_iconstN 0 13 d_Poly_timesPower_12 rfl rfl ?_
  refine G_istore10 15 d_Poly_timesPower_13 rfl (by decide) rfl ?_
  exact L 0 (by omega)
/-- WORTH: the TERMS below k -/
def cw (f : Nat → Int64) (bx by_ bz m : Nat) : Nat → Nat
  | 0 => 0
  | k + 1 => (cw f bx by_ bz m k + tp (tp (tp (md (f k) m) bx (eX k) m) by_ (eY k) m) bz (eZ k) m) % m
theorem cw_lt {f : Nat → Int64} {bx by_ bz m : Nat} (h0 : 0 < m) : ∀ k, cw f bx by_ bz m k < m
  | 0 => h0
  | k + 1 => Nat.mod_lt _ h0
theorem tp_0 {b m : Nat} : ∀ e, tp 0 b e m = 0
  | 0 => rfl
  | e + 1 => by rw [tp, tp_0 e, Nat.zero_mul, Nat.zero_mod]
theorem md_0 (m : Nat) : md 0 m = 0 := by simp [md]
theorem s_worth {V : GV} {d p q m : Nat} {x y z : Int32} {X : XT} {FI AI : FT} {AL : LT} (h : PO X p q) (h0 : 0 < m) (hm : m ≤ 1000000) : G V m_Poly_worth (d + 2) 0 [some (.ref p), some (.int x), some (.int y), some (.int z), some (.int (nI m)), none, none, none, none, none] [] X FI AI AL (Pd (some (.long (lN (cw (AL q) (md x.toInt64 m) (md y.toInt64 m) (md z.toInt64 m) m 84)))) X FI AI AL) := by
  obtain ⟨h1, h2, h3⟩ := h
  have hml : (nI m).toInt64 = lN m := nI_l (by omega)
  have hm0 : ¬ lN m = 0 := lN_ne0 h0 (by omega)
  have L : ∀ k, k ≤ 84 → ∀ l8 l9 : Option Value, G V m_Poly_worth (d + 2) 6 [some (.ref p), some (.int x), some (.int y), some (.int z), some (.int (nI m)), some (.long (lN (cw (AL q) (md x.toInt64 m) (md y.toInt64 m) (md z.toInt64 m) m k))), none, some (.int (nI k)), l8, l9] [] X FI AI AL (Pd (some (.long (lN (cw (AL q) (md x.toInt64 m) (md y.toInt64 m) (md z.toInt64 m) m 84)))) X FI AI AL) := by
    refine upto ?_ ?_
    · intro l8 l9
      refine G_iload7 8 d_Poly_worth_6 rfl ?_
      refine G_bipushN 84 10 d_Poly_worth_8 rfl rfl ?_
      first | refine G_icgeN 108 13 d_Poly_worth_10 rfl rfl (by omega) (by omega) (fun h10 => ?_) (fun h10 => ?_) | refine G_icge 108 13 d_Poly_worth_10 rfl rfl (fun h10 => ?_) (fun h10 => ?_)
      · refine G_lload5 110 d_Poly_worth_108 rfl ?_
        refine G_lret d_Poly_worth_110 rfl ?_
        exact Pd.rf
      · omega
    · intro k hk ih l8 l9
      have ek := e_le hk
      have hc := cw_lt (f := AL q) (bx := md x.toInt64 m) (by_ := md y.toInt64 m) (bz := md z.toInt64 m) h0 k
      have hd := md_lt (AL q k) h0
      have t1 := tp_lt (b := md x.toInt64 m) h0 hd (eX k)
      have t2 := tp_lt (b := md y.toInt64 m) h0 t1 (eY k)
      have t3 := tp_lt (b := md z.toInt64 m) h0 t2 (eZ k)
      refine G_iload7 8 d_Poly_worth_6 rfl ?_
      refine G_bipushN 84 10 d_Poly_worth_8 rfl rfl ?_
      first | refine G_icgeN 108 13 d_Poly_worth_10 rfl rfl (by omega) (by omega) (fun h10 => ?_) (fun h10 => ?_) | refine G_icge 108 13 d_Poly_worth_10 rfl rfl (fun h10 => ?_) (fun h10 => ?_)
      · omega
      · refine G_aload0 14 d_Poly_worth_13 rfl ?_
        refine G_getR 17 d_Poly_worth_14 rfl f_Poly_9 rfl (by assumption) (by assumption) ?_
        refine G_iload7 19 d_Poly_worth_17 rfl ?_
        refine G_laload 20 d_Poly_worth_19 rfl (by assumption) (ix_nI (by omega) (by omega)) ?_
        refine G_lconst 0 21 d_Poly_worth_20 rfl rfl ?_
        refine G_lceq 102 25 d_Poly_worth_21 d_Poly_worth_22 rfl rfl (fun h21 => ?_) (fun h21 => ?_)
        · first | refine G_iincN7 105 d_Poly_worth_102 rfl (by decide) rfl ?_ | refine G_iinc7 _ 105 d_Poly_worth_102 rfl (by decide) rfl rfl ?_
          refine G_goto 6 d_Poly_worth_105 rfl ?_
          have e : cw (AL q) (md x.toInt64 m) (md y.toInt64 m) (md z.toInt64 m) m (k + 1) = cw (AL q) (md x.toInt64 m) (md y.toInt64 m) (md z.toInt64 m) m k := by
            rw [cw, h21, md_0, tp_0, tp_0, tp_0, Nat.add_zero, Nat.mod_eq_of_lt hc]
          rw [e] at ih
          exact ih l8 l9
        · refine G_aload0 26 d_Poly_worth_25 rfl ?_
          refine G_getR 29 d_Poly_worth_26 rfl f_Poly_9 rfl (by assumption) (by assumption) ?_
          refine G_iload7 31 d_Poly_worth_29 rfl ?_
          refine G_laload 32 d_Poly_worth_31 rfl (by assumption) (ix_nI (by omega) (by omega)) ?_
          refine G_iload4 34 d_Poly_worth_32 rfl ?_
          refine G_i2l 35 d_Poly_worth_34 rfl ?_
          rw [hml]
          refine G_invS2d 38 d_Poly_worth_35 rfl e_Poly_57 M_Math_floorMod (Nat.le_of_ble_eq_true rfl) (Nat.le_of_ble_eq_true rfl) rfl (s_floorMod (by assumption)) ?_
          rw [lfm_md _ h0 (by omega)]
          refine G_lstore8 40 d_Poly_worth_38 rfl (by decide) rfl ?_
          refine G_lload8 42 d_Poly_worth_40 rfl ?_
          refine G_iload1 43 d_Poly_worth_42 rfl ?_
          refine G_i2l 44 d_Poly_worth_43 rfl ?_
          refine G_gets 3 47 d_Poly_worth_44 rfl rfl s_Poly_61 ?_
          refine G_iload7 49 d_Poly_worth_47 rfl ?_
          refine G_st3 50 d_Poly_worth_49 rfl (ix_nI (by omega) (by omega)) ?_
          refine G_iload4 52 d_Poly_worth_50 rfl ?_
          refine G_invS4d 55 d_Poly_worth_52 rfl e_Poly_64 M_Poly_timesPower (Nat.le_of_ble_eq_true rfl) (Nat.le_of_ble_eq_true rfl) rfl (s_timesPower h0 hm hd (by omega)) ?_
          refine G_lstore8 57 d_Poly_worth_55 rfl (by decide) rfl ?_
          refine G_lload8 59 d_Poly_worth_57 rfl ?_
          refine G_iload2 60 d_Poly_worth_59 rfl ?_
          refine G_i2l 61 d_Poly_worth_60 rfl ?_
          refine G_gets 4 64 d_Poly_worth_61 rfl rfl s_Poly_51 ?_
          refine G_iload7 66 d_Poly_worth_64 rfl ?_
          refine G_st4 67 d_Poly_worth_66 rfl (ix_nI (by omega) (by omega)) ?_
          refine G_iload4 69 d_Poly_worth_67 rfl ?_
          refine G_invS4d 72 d_Poly_worth_69 rfl e_Poly_64 M_Poly_timesPower (Nat.le_of_ble_eq_true rfl) (Nat.le_of_ble_eq_true rfl) rfl (s_timesPower h0 hm t1 (by omega)) ?_
          refine G_lstore8 74 d_Poly_worth_72 rfl (by decide) rfl ?_
          refine G_lload8 76 d_Poly_worth_74 rfl ?_
          refine G_iload3 77 d_Poly_worth_76 rfl ?_
          refine G_i2l 78 d_Poly_worth_77 rfl ?_
          refine G_gets 5 81 d_Poly_worth_78 rfl rfl s_Poly_48 ?_
          refine G_iload7 83 d_Poly_worth_81 rfl ?_
          refine G_st5 84 d_Poly_worth_83 rfl (ix_nI (by omega) (by omega)) ?_
          refine G_iload4 86 d_Poly_worth_84 rfl ?_
          refine G_invS4d 89 d_Poly_worth_86 rfl e_Poly_64 M_Poly_timesPower (Nat.le_of_ble_eq_true rfl) (Nat.le_of_ble_eq_true rfl) rfl (s_timesPower h0 hm t2 (by omega)) ?_
          refine G_lstore8 91 d_Poly_worth_89 rfl (by decide) rfl ?_
          refine G_lload5 93 d_Poly_worth_91 rfl ?_
          refine G_lload8 95 d_Poly_worth_93 rfl ?_
          refine G_ladd 96 d_Poly_worth_95 rfl ?_
          refine G_iload4 98 d_Poly_worth_96 rfl ?_
          refine G_i2l 99 d_Poly_worth_98 rfl ?_
          rw [hml]
          refine G_lrem 100 d_Poly_worth_99 rfl (by assumption) ?_
          rw [lN_add, pk_lRem (by omega) h0 (by omega)]
          refine G_lstore5 102 d_Poly_worth_100 rfl (by decide) rfl ?_
          first | refine G_iincN7 105 d_Poly_worth_102 rfl (by decide) rfl ?_ | refine G_iinc7 _ 105 d_Poly_worth_102 rfl (by decide) rfl rfl ?_
          refine G_goto 6 d_Poly_worth_105 rfl ?_
          exact ih _ _
  refine G_lconst 0 1 d_Poly_worth_0 rfl rfl ?_
  refine G_lstore5 3 d_Poly_worth_1 rfl (by decide) rfl ?_
  refine G_iconstN 0 4 d_Poly_worth_3 rfl rfl ?_
  refine G_istore7 6 d_Poly_worth_4 rfl (by decide) rfl ?_
  exact L 0 (by omega) none none
