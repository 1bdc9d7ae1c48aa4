/-! ===== the reference: ORDER and small conditions ===== -/
theorem toL {x : Int32} : x.toInt64.toInt = x.toInt := Int32.toInt_toInt64 x
theorem s_mIsTerm {V : GV} {d : Nat} {x y z : Int32} {X : XT} {FI AI : FT} {AL : LT} : G V m_Mod_isTerm (d + 1) 0 [some (.int x), some (.int y), some (.int z)] [] X FI AI AL (P01 (isT x y z) X FI AI AL) := by
  have key : ∀ {x : Int32}, ((0 : Int64).toInt ≤ x.toInt64.toInt ∧ x.toInt64.toInt ≤ (6 : Int64).toInt) ↔ isE x := fun {x} => by rw [toL]; exact Iff.rfl
  have no1 : ¬ isE x → ¬ isT x y z := fun hn ⟨a, b, c, h, e, _, _⟩ => hn (isE_of.mpr ⟨a, by omega, e⟩)
  have no2 : ¬ isE y → ¬ isT x y z := fun hn ⟨a, b, c, h, _, e, _⟩ => hn (isE_of.mpr ⟨b, by omega, e⟩)
  have no3 : ¬ isE z → ¬ isT x y z := fun hn ⟨a, b, c, h, _, _, e⟩ => hn (isE_of.mpr ⟨c, by omega, e⟩)
  refine G_iload0 1 d_Mod_isTerm_0 rfl ?_
  refine G_i2l 2 d_Mod_isTerm_1 rfl ?_
  refine G_lconst 0 3 d_Mod_isTerm_2 rfl rfl ?_
  refine G_ldc2 6 d_Mod_isTerm_3 rfl k_Mod_137 ?_
  refine G_invS3b 9 d_Mod_isTerm_6 rfl e_Mod_139 M_Mod_in (Nat.le_of_ble_eq_true rfl) (Nat.le_of_ble_eq_true rfl) rfl (s_mIn) (fun h6 => G_ifeq1 12 d_Mod_isTerm_9 50 rfl rfl ?_) (fun h6 => G_ifeq0 12 d_Mod_isTerm_9 50 rfl rfl ?_)
  · rw [key] at h6
    refine G_iload1 13 d_Mod_isTerm_12 rfl ?_
    refine G_i2l 14 d_Mod_isTerm_13 rfl ?_
    refine G_lconst 0 15 d_Mod_isTerm_14 rfl rfl ?_
    refine G_ldc2 18 d_Mod_isTerm_15 rfl k_Mod_137 ?_
    refine G_invS3b 21 d_Mod_isTerm_18 rfl e_Mod_139 M_Mod_in (Nat.le_of_ble_eq_true rfl) (Nat.le_of_ble_eq_true rfl) rfl (s_mIn) (fun h18 => G_ifeq1 24 d_Mod_isTerm_21 50 rfl rfl ?_) (fun h18 => G_ifeq0 24 d_Mod_isTerm_21 50 rfl rfl ?_)
    · rw [key] at h18
      refine G_iload2 25 d_Mod_isTerm_24 rfl ?_
      refine G_i2l 26 d_Mod_isTerm_25 rfl ?_
      refine G_lconst 0 27 d_Mod_isTerm_26 rfl rfl ?_
      refine G_ldc2 30 d_Mod_isTerm_27 rfl k_Mod_137 ?_
      refine G_invS3b 33 d_Mod_isTerm_30 rfl e_Mod_139 M_Mod_in (Nat.le_of_ble_eq_true rfl) (Nat.le_of_ble_eq_true rfl) rfl (s_mIn) (fun h30 => G_ifeq1 36 d_Mod_isTerm_33 50 rfl rfl ?_) (fun h30 => G_ifeq0 36 d_Mod_isTerm_33 50 rfl rfl ?_)
      · rw [key] at h30
        obtain ⟨a, a1, rfl⟩ := isE_of.mp h6
        obtain ⟨b, b1, rfl⟩ := isE_of.mp h18
        obtain ⟨c, c1, rfl⟩ := isE_of.mp h30
        refine G_iload0 37 d_Mod_isTerm_36 rfl ?_
        refine G_iload1 38 d_Mod_isTerm_37 rfl ?_
        first | refine G_iaddN 39 d_Mod_isTerm_38 rfl ?_ | refine G_iadd 39 d_Mod_isTerm_38 rfl ?_
        refine G_iload2 40 d_Mod_isTerm_39 rfl ?_
        first | refine G_iaddN 41 d_Mod_isTerm_40 rfl ?_ | refine G_iadd 41 d_Mod_isTerm_40 rfl ?_
        refine G_bipushN 6 43 d_Mod_isTerm_41 rfl rfl ?_
        first | refine G_icgtN 50 46 d_Mod_isTerm_43 rfl rfl (by omega) (by omega) (fun h43 => ?_) (fun h43 => ?_) | refine G_icgt 50 46 d_Mod_isTerm_43 rfl rfl (fun h43 => ?_) (fun h43 => ?_)
        · refine G_iconstN 0 51 d_Mod_isTerm_50 rfl rfl ?_
          refine G_zret d_Mod_isTerm_51 rfl ?_ ?_
          · first | exact Or.inl rfl | exact Or.inr rfl
          · first | exact P01.t ⟨a, b, c, by omega, rfl, rfl, rfl⟩ | exact P01.f (fun ⟨a', b', c', h', e1, e2, e3⟩ => by have := (nI_eq (by omega) (by omega)).mp e1; have := (nI_eq (by omega) (by omega)).mp e2; have := (nI_eq (by omega) (by omega)).mp e3; omega)
        · refine G_iconstN 1 47 d_Mod_isTerm_46 rfl rfl ?_
          refine G_goto 51 d_Mod_isTerm_47 rfl ?_
          refine G_zret d_Mod_isTerm_51 rfl ?_ ?_
          · first | exact Or.inl rfl | exact Or.inr rfl
          · first | exact P01.t ⟨a, b, c, by omega, rfl, rfl, rfl⟩ | exact P01.f (fun ⟨a', b', c', h', e1, e2, e3⟩ => by have := (nI_eq (by omega) (by omega)).mp e1; have := (nI_eq (by omega) (by omega)).mp e2; have := (nI_eq (by omega) (by omega)).mp e3; omega)
      · rw [key] at h30
        refine G_iconstN 0 51 d_Mod_isTerm_50 rfl rfl ?_
        refine G_zret d_Mod_isTerm_51 rfl ?_ ?_
        · first | exact Or.inl rfl | exact Or.inr rfl
        · exact P01.f (no3 h30)
    · rw [key] at h18
      refine G_iconstN 0 51 d_Mod_isTerm_50 rfl rfl ?_
      refine G_zret d_Mod_isTerm_51 rfl ?_ ?_
      · first | exact Or.inl rfl | exact Or.inr rfl
      · exact P01.f (no2 h18)
  · rw [key] at h6
    refine G_iconstN 0 51 d_Mod_isTerm_50 rfl rfl ?_
    refine G_zret d_Mod_isTerm_51 rfl ?_ ?_
    · first | exact Or.inl rfl | exact Or.inr rfl
    · exact P01.f (no1 h6)
theorem s_mIsBound {V : GV} {d : Nat} {x : Int32} {X : XT} {FI AI : FT} {AL : LT} : G V m_Mod_isBound (d + 1) 0 [some (.int x)] [] X FI AI AL (P01 (isB x 1 6) X FI AI AL) := by
  refine G_iload0 1 d_Mod_isBound_0 rfl ?_
  refine G_i2l 2 d_Mod_isBound_1 rfl ?_
  refine G_lconst 1 3 d_Mod_isBound_2 rfl rfl ?_
  refine G_ldc2 6 d_Mod_isBound_3 rfl k_Mod_137 ?_
  refine G_invS3b 9 d_Mod_isBound_6 rfl e_Mod_139 M_Mod_in (Nat.le_of_ble_eq_true rfl) (Nat.le_of_ble_eq_true rfl) rfl (s_mIn) (fun h6 => ?_) (fun h6 => ?_)
  · rw [toL] at h6
    refine G_zret d_Mod_isBound_9 rfl ?_ ?_
    · first | exact Or.inl rfl | exact Or.inr rfl
    · exact P01.t h6
  · rw [toL] at h6
    refine G_zret d_Mod_isBound_9 rfl ?_ ?_
    · first | exact Or.inl rfl | exact Or.inr rfl
    · exact P01.f h6
theorem s_mOfTerm {V : GV} {d b t w : Nat} {X : XT} {FI AI : FT} {AL : LT} (h : MO X b) (hT : MTb AI b) (ht : t < 84) (hw : w ≤ 3) : G V m_Mod_ofTerm (d + 1) 0 [some (.ref b), some (.int (nI t)), some (.int (nI w))] [] X FI AI AL (Pd (some (.int (nI (if w = 3 then eD t else ex t w)))) X FI AI AL) := by
  have T := hT.1 t ht
  have hw4 : w = 0 ∨ w = 1 ∨ w = 2 ∨ w = 3 := by omega
  rcases hw4 with rfl | rfl | rfl | rfl
  · refine G_iload2 1 d_Mod_ofTerm_0 rfl ?_
    refine G_ifne 13 4 d_Mod_ofTerm_1 rfl rfl (fun h1 => ?_) (fun h1 => ?_)
    · exact absurd rfl h1
    · refine G_aload0 5 d_Mod_ofTerm_4 rfl ?_
      refine G_getR 8 d_Mod_ofTerm_5 rfl f_Mod_18 rfl h.sh h.f2 ?_
      refine G_iload1 9 d_Mod_ofTerm_8 rfl ?_
      refine G_ialoadv 10 d_Mod_ofTerm_9 rfl h.s2 (ix_nI (by omega) (by omega)) T.1 ?_
      refine G_goto 46 d_Mod_ofTerm_10 rfl ?_
      refine G_iret d_Mod_ofTerm_46 rfl ?_
      exact Pd.rf
  · refine G_iload2 1 d_Mod_ofTerm_0 rfl ?_
    refine G_ifne 13 4 d_Mod_ofTerm_1 rfl rfl (fun h1 => ?_) (fun h1 => ?_)
    · refine G_iload2 14 d_Mod_ofTerm_13 rfl ?_
      refine G_iconstN 1 15 d_Mod_ofTerm_14 rfl rfl ?_
      first | refine G_icneN 27 18 d_Mod_ofTerm_15 rfl rfl (by omega) (by omega) (fun h15 => ?_) (fun h15 => ?_) | refine G_icne 27 18 d_Mod_ofTerm_15 rfl rfl (fun h15 => ?_) (fun h15 => ?_)
      · exact absurd rfl h15
      · refine G_aload0 19 d_Mod_ofTerm_18 rfl ?_
        refine G_getR 22 d_Mod_ofTerm_19 rfl f_Mod_22 rfl h.sh h.f3 ?_
        refine G_iload1 23 d_Mod_ofTerm_22 rfl ?_
        refine G_ialoadv 24 d_Mod_ofTerm_23 rfl h.s3 (ix_nI (by omega) (by omega)) T.2.1 ?_
        refine G_goto 46 d_Mod_ofTerm_24 rfl ?_
        refine G_iret d_Mod_ofTerm_46 rfl ?_
        exact Pd.rf
    · exact absurd h1 (by decide)
  · refine G_iload2 1 d_Mod_ofTerm_0 rfl ?_
    refine G_ifne 13 4 d_Mod_ofTerm_1 rfl rfl (fun h1 => ?_) (fun h1 => ?_)
    · refine G_iload2 14 d_Mod_ofTerm_13 rfl ?_
      refine G_iconstN 1 15 d_Mod_ofTerm_14 rfl rfl ?_
      first | refine G_icneN 27 18 d_Mod_ofTerm_15 rfl rfl (by omega) (by omega) (fun h15 => ?_) (fun h15 => ?_) | refine G_icne 27 18 d_Mod_ofTerm_15 rfl rfl (fun h15 => ?_) (fun h15 => ?_)
      · refine G_iload2 28 d_Mod_ofTerm_27 rfl ?_
        refine G_iconstN 2 29 d_Mod_ofTerm_28 rfl rfl ?_
        first | refine G_icneN 41 32 d_Mod_ofTerm_29 rfl rfl (by omega) (by omega) (fun h29 => ?_) (fun h29 => ?_) | refine G_icne 41 32 d_Mod_ofTerm_29 rfl rfl (fun h29 => ?_) (fun h29 => ?_)
        · exact absurd rfl h29
        · refine G_aload0 33 d_Mod_ofTerm_32 rfl ?_
          refine G_getR 36 d_Mod_ofTerm_33 rfl f_Mod_25 rfl h.sh h.f4 ?_
          refine G_iload1 37 d_Mod_ofTerm_36 rfl ?_
          refine G_ialoadv 38 d_Mod_ofTerm_37 rfl h.s4 (ix_nI (by omega) (by omega)) T.2.2 ?_
          refine G_goto 46 d_Mod_ofTerm_38 rfl ?_
          refine G_iret d_Mod_ofTerm_46 rfl ?_
          exact Pd.rf
      · exact absurd h15 (by decide)
    · exact absurd h1 (by decide)
  · refine G_iload2 1 d_Mod_ofTerm_0 rfl ?_
    refine G_ifne 13 4 d_Mod_ofTerm_1 rfl rfl (fun h1 => ?_) (fun h1 => ?_)
    · refine G_iload2 14 d_Mod_ofTerm_13 rfl ?_
      refine G_iconstN 1 15 d_Mod_ofTerm_14 rfl rfl ?_
      first | refine G_icneN 27 18 d_Mod_ofTerm_15 rfl rfl (by omega) (by omega) (fun h15 => ?_) (fun h15 => ?_) | refine G_icne 27 18 d_Mod_ofTerm_15 rfl rfl (fun h15 => ?_) (fun h15 => ?_)
      · refine G_iload2 28 d_Mod_ofTerm_27 rfl ?_
        refine G_iconstN 2 29 d_Mod_ofTerm_28 rfl rfl ?_
        first | refine G_icneN 41 32 d_Mod_ofTerm_29 rfl rfl (by omega) (by omega) (fun h29 => ?_) (fun h29 => ?_) | refine G_icne 41 32 d_Mod_ofTerm_29 rfl rfl (fun h29 => ?_) (fun h29 => ?_)
        · refine G_aload0 42 d_Mod_ofTerm_41 rfl ?_
          refine G_iload1 43 d_Mod_ofTerm_42 rfl ?_
          refine G_invV1d 46 d_Mod_ofTerm_43 rfl e_Mod_147 M_Mod_degreeOf rfl h.sh (Nat.le_of_ble_eq_true rfl) (Nat.le_of_ble_eq_true rfl) rfl (s_mDegreeOf (by assumption) (by assumption) (by omega)) ?_
          refine G_iret d_Mod_ofTerm_46 rfl ?_
          exact Pd.rf
        · exact absurd h29 (by decide)
      · exact absurd h15 (by decide)
    · exact absurd h1 (by decide)
theorem s_mLowest {V : GV} {d b s : Nat} {v : Int64} {X : XT} {FI AI : FT} {AL : LT} (h : MO X b) (hs : s < 4) : G V m_Mod_lowest d 0 [some (.ref b), some (.int (nI s)), some (.long v), none] [] X FI AI AL (Pd (some (.int (low (AI (b + 37) s) v))) X FI AI AL) := by
  refine G_aload0 1 d_Mod_lowest_0 rfl ?_
  refine G_getR 4 d_Mod_lowest_1 rfl f_Mod_121 rfl h.sh h.f52 ?_
  refine G_iload1 5 d_Mod_lowest_4 rfl ?_
  refine G_iaload 6 d_Mod_lowest_5 rfl h.s52 (ix_nI (by omega) (by omega)) ?_
  refine G_ifne 15 9 d_Mod_lowest_6 rfl rfl (fun h6 => ?_) (fun h6 => ?_)
  · refine G_lload2 16 d_Mod_lowest_15 rfl ?_
    refine G_l2i 17 d_Mod_lowest_16 rfl ?_
    refine G_iret d_Mod_lowest_17 rfl ?_
    exact ⟨by unfold low; simp [h6], rfl, rfl, rfl, rfl⟩
  · refine G_lload2 10 d_Mod_lowest_9 rfl ?_
    refine G_l2i 11 d_Mod_lowest_10 rfl ?_
    refine G_i2b 12 d_Mod_lowest_11 rfl ?_
    refine G_goto 17 d_Mod_lowest_12 rfl ?_
    refine G_iret d_Mod_lowest_17 rfl ?_
    exact ⟨by unfold low; simp [h6], rfl, rfl, rfl, rfl⟩
theorem s_mIsNothing {V : GV} {d b p o : Nat} {X : XT} {FI AI : FT} {AL : LT} (h : MO X b) (hp : p < 20) (ho : o < 3) (hf : ∀ k, k < 84 → AI (b + 7) k = nI (rk o k)) : G V m_Mod_isNothing (d + 1) 0 [some (.ref b), some (.int (nI p))] [] X FI AI AL (P01 (lead1 (mp AL b p) o = 0) X FI AI AL) := by
  have hl := pld_le (mp AL b p) ho 84 (by omega)
  have key : ¬ lead1 (mp AL b p) o = 0 → 0 ≤ dI (lead1 (mp AL b p) o) := fun hn => by
    obtain ⟨j, hj⟩ : ∃ j, lead1 (mp AL b p) o = j + 1 := ⟨lead1 (mp AL b p) o - 1, by omega⟩
    rw [hj, dI_s]
    exact Int32.not_lt.mp (nI_pos (by unfold lead1 at hj; omega))
  refine G_aload0 1 d_Mod_isNothing_0 rfl ?_
  refine G_iload1 2 d_Mod_isNothing_1 rfl ?_
  refine G_invV1d 5 d_Mod_isNothing_2 rfl e_Mod_239 M_Mod_leading rfl h.sh (Nat.le_of_ble_eq_true rfl) (Nat.le_of_ble_eq_true rfl) rfl (s_mLeading (by assumption) (by omega) (by assumption) (by assumption)) ?_
  refine G_ifge 12 8 d_Mod_isNothing_5 rfl rfl (fun h5 => ?_) (fun h5 => ?_)
  · refine G_iconstN 0 13 d_Mod_isNothing_12 rfl rfl ?_
    refine G_zret d_Mod_isNothing_13 rfl ?_ ?_
    · first | exact Or.inl rfl | exact Or.inr rfl
    · first | exact P01.t (Classical.byContradiction (fun e => h5 (key e))) | exact P01.f (fun e => by rw [e] at h5; exact absurd h5 (by decide))
  · refine G_iconstN 1 9 d_Mod_isNothing_8 rfl rfl ?_
    refine G_goto 13 d_Mod_isNothing_9 rfl ?_
    refine G_zret d_Mod_isNothing_13 rfl ?_ ?_
    · first | exact Or.inl rfl | exact Or.inr rfl
    · first | exact P01.t (Classical.byContradiction (fun e => h5 (key e))) | exact P01.f (fun e => by rw [e] at h5; exact absurd h5 (by decide))
/-- one TERM is greater than another, by ORDER -/
def grC (o x y z a b c : Nat) : Prop := a + b + c < x + y + z ∨ (x + y + z = a + b + c ∧ ((o = 0 ∧ (a < x ∨ (x = a ∧ b < y))) ∨ (o = 1 ∧ (z < c ∨ (z = c ∧ y < b))) ∨ (o = 2 ∧ (c < z ∨ (z = c ∧ b < y)))))
def grB (o x y z a b c : Nat) : Bool := decide (a + b + c < x + y + z) || (decide (x + y + z = a + b + c) && ((decide (o = 0) && (decide (a < x) || (decide (x = a) && decide (b < y)))) || (decide (o = 1) && (decide (z < c) || (decide (z = c) && decide (y < b)))) || (decide (o = 2) && (decide (c < z) || (decide (z = c) && decide (b < y))))))
theorem grB_iff {o x y z a b c : Nat} : grB o x y z a b c = true ↔ grC o x y z a b c := by
  simp only [grB, grC, Bool.or_eq_true, Bool.and_eq_true, decide_eq_true_eq, or_assoc]
def trm : List (Nat × Nat × Nat) := [(0, 0, 0), (1, 0, 0), (0, 1, 0), (0, 0, 1), (2, 0, 0), (1, 1, 0), (1, 0, 1), (0, 2, 0), (0, 1, 1), (0, 0, 2), (3, 0, 0), (2, 1, 0), (2, 0, 1), (1, 2, 0), (1, 1, 1), (1, 0, 2), (0, 3, 0), (0, 2, 1), (0, 1, 2), (0, 0, 3), (4, 0, 0), (3, 1, 0), (3, 0, 1), (2, 2, 0), (2, 1, 1), (2, 0, 2), (1, 3, 0), (1, 2, 1), (1, 1, 2), (1, 0, 3), (0, 4, 0), (0, 3, 1), (0, 2, 2), (0, 1, 3), (0, 0, 4), (5, 0, 0), (4, 1, 0), (4, 0, 1), (3, 2, 0), (3, 1, 1), (3, 0, 2), (2, 3, 0), (2, 2, 1), (2, 1, 2), (2, 0, 3), (1, 4, 0), (1, 3, 1), (1, 2, 2), (1, 1, 3), (1, 0, 4), (0, 5, 0), (0, 4, 1), (0, 3, 2), (0, 2, 3), (0, 1, 4), (0, 0, 5), (6, 0, 0), (5, 1, 0), (5, 0, 1), (4, 2, 0), (4, 1, 1), (4, 0, 2), (3, 3, 0), (3, 2, 1), (3, 1, 2), (3, 0, 3), (2, 4, 0), (2, 3, 1), (2, 2, 2), (2, 1, 3), (2, 0, 4), (1, 5, 0), (1, 4, 1), (1, 3, 2), (1, 2, 3), (1, 1, 4), (1, 0, 5), (0, 6, 0), (0, 5, 1), (0, 4, 2), (0, 3, 3), (0, 2, 4), (0, 1, 5), (0, 0, 6)]
theorem trm_ok : (List.range 84).map (fun u => (eX u, eY u, eZ u)) = trm := by decide +kernel
def gr (o t u : Nat) : Prop := grC o (eX t) (eY t) (eZ t) (eX u) (eY u) (eZ u)
def cgl (o : Nat) (q : Nat × Nat × Nat) : List (Nat × Nat × Nat) → Nat
  | [] => 0
  | a :: l => (if grB o q.1 q.2.1 q.2.2 a.1 a.2.1 a.2.2 = true then 1 else 0) + cgl o q l
def pcg (o t : Nat) : Nat → Nat
  | 0 => 0
  | n + 1 => pcg o t n + if grB o (eX t) (eY t) (eZ t) (eX n) (eY n) (eZ n) = true then 1 else 0
theorem cgl_app (o : Nat) (q : Nat × Nat × Nat) : ∀ (l l' : List (Nat × Nat × Nat)), cgl o q (l ++ l') = cgl o q l + cgl o q l'
  | [], l' => by rw [List.nil_append, cgl, Nat.zero_add]
  | a :: l, l' => by rw [List.cons_append, cgl, cgl, cgl_app o q l l', Nat.add_assoc]
theorem pcg_l (o t : Nat) : ∀ n, pcg o t n = cgl o (eX t, eY t, eZ t) ((List.range n).map (fun u => (eX u, eY u, eZ u)))
  | 0 => rfl
  | n + 1 => by rw [pcg, pcg_l o t n, List.range_succ, List.map_append, cgl_app]; rfl
theorem cg_all : ∀ o, o < 3 → trm.map (fun q => cgl o q trm) = (List.range 84).map (rnk o) := by decide +kernel
theorem pcg_rnk {o t : Nat} (ho : o < 3) (ht : t < 84) : pcg o t 84 = rnk o t := by
  have h := cg_all o ho
  rw [pcg_l, trm_ok]
  have h1 := congrArg (fun l => l[t]?) h
  have h2 := congrArg (fun l => l[t]?) trm_ok
  simp only [List.getElem?_map, List.getElem?_range ht, Option.map_some] at h1 h2
  rw [← h2, Option.map_some] at h1
  exact Option.some.inj h1
theorem pcg_le (o t : Nat) : ∀ n, pcg o t n ≤ n
  | 0 => Nat.le_refl _
  | n + 1 => by
    have := pcg_le o t n
    rw [pcg]
    split <;> omega
theorem sb0 : ∀ a, a < 7 → ∀ b, b < 7 → (nI a - nI b = 0 ↔ a = b) := by decide +kernel
theorem sbl : ∀ a, a < 7 → ∀ b, b < 7 → (nI a - nI b ≤ 0 ↔ a ≤ b) := by decide +kernel
theorem s_mIsGreater {V : GV} {d b t u o : Nat} {X : XT} {FI AI : FT} {AL : LT} (h : MO X b) (hT : MTb AI b) (ht : t < 84) (hu : u < 84) (ho : FI b 8 = nI o) (ho3 : o < 3) : G V m_Mod_isGreater (d + 1) 0 [some (.ref b), some (.int (nI t)), some (.int (nI u)), none, none, none] [] X FI AI AL (P01 (gr o t u) X FI AI AL) := by
  have T := hT.1 t ht
  have U := hT.1 u hu
  have et := e_le ht
  have eu := e_le hu
  have o3 : o = 0 ∨ o = 1 ∨ o = 2 := by omega
  rcases o3 with rfl | rfl | rfl
  · refine G_aload0 1 d_Mod_isGreater_0 rfl ?_
    refine G_iload1 2 d_Mod_isGreater_1 rfl ?_
    refine G_invV1d 5 d_Mod_isGreater_2 rfl e_Mod_147 M_Mod_degreeOf rfl h.sh (Nat.le_of_ble_eq_true rfl) (Nat.le_of_ble_eq_true rfl) rfl (s_mDegreeOf (by assumption) (by assumption) (by omega)) ?_
    refine G_aload0 6 d_Mod_isGreater_5 rfl ?_
    refine G_iload2 7 d_Mod_isGreater_6 rfl ?_
    refine G_invV1d 10 d_Mod_isGreater_7 rfl e_Mod_147 M_Mod_degreeOf rfl h.sh (Nat.le_of_ble_eq_true rfl) (Nat.le_of_ble_eq_true rfl) rfl (s_mDegreeOf (by assumption) (by assumption) (by omega)) ?_
    first | refine G_isubN 11 d_Mod_isGreater_10 rfl (by omega) ?_ | refine G_isub 11 d_Mod_isGreater_10 rfl ?_
    refine G_istore3 12 d_Mod_isGreater_11 rfl (by decide) rfl ?_
    refine G_iconstN 0 13 d_Mod_isGreater_12 rfl rfl ?_
    refine G_istore4 15 d_Mod_isGreater_13 rfl (by decide) rfl ?_
    refine G_iconstN 0 16 d_Mod_isGreater_15 rfl rfl ?_
    refine G_istore5 18 d_Mod_isGreater_16 rfl (by decide) rfl ?_
    refine G_aload0 19 d_Mod_isGreater_18 rfl ?_
    refine G_getIv 22 d_Mod_isGreater_19 rfl f_Mod_151 rfl h.sh ho ?_
    refine G_ifne 58 25 d_Mod_isGreater_22 rfl rfl (fun h22 => ?_) (fun h22 => ?_)
    · exact absurd rfl h22
    · refine G_aload0 26 d_Mod_isGreater_25 rfl ?_
      refine G_getR 29 d_Mod_isGreater_26 rfl f_Mod_18 rfl h.sh h.f2 ?_
      refine G_iload1 30 d_Mod_isGreater_29 rfl ?_
      refine G_ialoadv 31 d_Mod_isGreater_30 rfl h.s2 (ix_nI (by omega) (by omega)) T.1 ?_
      refine G_aload0 32 d_Mod_isGreater_31 rfl ?_
      refine G_getR 35 d_Mod_isGreater_32 rfl f_Mod_18 rfl h.sh h.f2 ?_
      refine G_iload2 36 d_Mod_isGreater_35 rfl ?_
      refine G_ialoadv 37 d_Mod_isGreater_36 rfl h.s2 (ix_nI (by omega) (by omega)) U.1 ?_
      first | refine G_isubN 38 d_Mod_isGreater_37 rfl (by omega) ?_ | refine G_isub 38 d_Mod_isGreater_37 rfl ?_
      refine G_istore4 40 d_Mod_isGreater_38 rfl (by decide) rfl ?_
      refine G_aload0 41 d_Mod_isGreater_40 rfl ?_
      refine G_getR 44 d_Mod_isGreater_41 rfl f_Mod_22 rfl h.sh h.f3 ?_
      refine G_iload1 45 d_Mod_isGreater_44 rfl ?_
      refine G_ialoadv 46 d_Mod_isGreater_45 rfl h.s3 (ix_nI (by omega) (by omega)) T.2.1 ?_
      refine G_aload0 47 d_Mod_isGreater_46 rfl ?_
      refine G_getR 50 d_Mod_isGreater_47 rfl f_Mod_22 rfl h.sh h.f3 ?_
      refine G_iload2 51 d_Mod_isGreater_50 rfl ?_
      refine G_ialoadv 52 d_Mod_isGreater_51 rfl h.s3 (ix_nI (by omega) (by omega)) U.2.1 ?_
      first | refine G_isubN 53 d_Mod_isGreater_52 rfl (by omega) ?_ | refine G_isub 53 d_Mod_isGreater_52 rfl ?_
      refine G_istore5 55 d_Mod_isGreater_53 rfl (by decide) rfl ?_
      refine G_goto 129 d_Mod_isGreater_55 rfl ?_
      refine G_iload3 130 d_Mod_isGreater_129 rfl ?_
      refine G_ifeq 145 133 d_Mod_isGreater_130 rfl rfl (fun h130 => ?_) (fun h130 => ?_)
      · rw [sb0 _ (by omega) _ (by omega)] at h130
        refine G_iload4 147 d_Mod_isGreater_145 rfl ?_
        refine G_ifeq 163 150 d_Mod_isGreater_147 rfl rfl (fun h147 => ?_) (fun h147 => ?_)
        · rw [sb0 _ (by omega) _ (by omega)] at h147
          refine G_iload5 165 d_Mod_isGreater_163 rfl ?_
          refine G_ifle 172 168 d_Mod_isGreater_165 rfl rfl (fun h165 => ?_) (fun h165 => ?_)
          · rw [sbl _ (by omega) _ (by omega)] at h165
            refine G_iconstN 0 173 d_Mod_isGreater_172 rfl rfl ?_
            refine G_zret d_Mod_isGreater_173 rfl ?_ ?_
            · first | exact Or.inl rfl | exact Or.inr rfl
            · first | exact P01.t (by unfold gr grC; omega) | exact P01.f (by unfold gr grC; omega)
          · rw [sbl _ (by omega) _ (by omega)] at h165
            refine G_iconstN 1 169 d_Mod_isGreater_168 rfl rfl ?_
            refine G_goto 173 d_Mod_isGreater_169 rfl ?_
            refine G_zret d_Mod_isGreater_173 rfl ?_ ?_
            · first | exact Or.inl rfl | exact Or.inr rfl
            · first | exact P01.t (by unfold gr grC; omega) | exact P01.f (by unfold gr grC; omega)
        · rw [sb0 _ (by omega) _ (by omega)] at h147
          refine G_iload4 152 d_Mod_isGreater_150 rfl ?_
          refine G_ifle 159 155 d_Mod_isGreater_152 rfl rfl (fun h152 => ?_) (fun h152 => ?_)
          · rw [sbl _ (by omega) _ (by omega)] at h152
            refine G_iconstN 0 160 d_Mod_isGreater_159 rfl rfl ?_
            refine G_goto 173 d_Mod_isGreater_160 rfl ?_
            refine G_zret d_Mod_isGreater_173 rfl ?_ ?_
            · first | exact Or.inl rfl | exact Or.inr rfl
            · first | exact P01.t (by unfold gr grC; omega) | exact P01.f (by unfold gr grC; omega)
          · rw [sbl _ (by omega) _ (by omega)] at h152
            refine G_iconstN 1 156 d_Mod_isGreater_155 rfl rfl ?_
            refine G_goto 173 d_Mod_isGreater_156 rfl ?_
            refine G_zret d_Mod_isGreater_173 rfl ?_ ?_
            · first | exact Or.inl rfl | exact Or.inr rfl
            · first | exact P01.t (by unfold gr grC; omega) | exact P01.f (by unfold gr grC; omega)
      · rw [sb0 _ (by omega) _ (by omega)] at h130
        refine G_iload3 134 d_Mod_isGreater_133 rfl ?_
        refine G_ifle 141 137 d_Mod_isGreater_134 rfl rfl (fun h134 => ?_) (fun h134 => ?_)
        · rw [sbl _ (by omega) _ (by omega)] at h134
          refine G_iconstN 0 142 d_Mod_isGreater_141 rfl rfl ?_
          refine G_goto 173 d_Mod_isGreater_142 rfl ?_
          refine G_zret d_Mod_isGreater_173 rfl ?_ ?_
          · first | exact Or.inl rfl | exact Or.inr rfl
          · first | exact P01.t (by unfold gr grC; omega) | exact P01.f (by unfold gr grC; omega)
        · rw [sbl _ (by omega) _ (by omega)] at h134
          refine G_iconstN 1 138 d_Mod_isGreater_137 rfl rfl ?_
          refine G_goto 173 d_Mod_isGreater_138 rfl ?_
          refine G_zret d_Mod_isGreater_173 rfl ?_ ?_
          · first | exact Or.inl rfl | exact Or.inr rfl
          · first | exact P01.t (by unfold gr grC; omega) | exact P01.f (by unfold gr grC; omega)
  · refine G_aload0 1 d_Mod_isGreater_0 rfl ?_
    refine G_iload1 2 d_Mod_isGreater_1 rfl ?_
    refine G_invV1d 5 d_Mod_isGreater_2 rfl e_Mod_147 M_Mod_degreeOf rfl h.sh (Nat.le_of_ble_eq_true rfl) (Nat.le_of_ble_eq_true rfl) rfl (s_mDegreeOf (by assumption) (by assumption) (by omega)) ?_
    refine G_aload0 6 d_Mod_isGreater_5 rfl ?_
    refine G_iload2 7 d_Mod_isGreater_6 rfl ?_
    refine G_invV1d 10 d_Mod_isGreater_7 rfl e_Mod_147 M_Mod_degreeOf rfl h.sh (Nat.le_of_ble_eq_true rfl) (Nat.le_of_ble_eq_true rfl) rfl (s_mDegreeOf (by assumption) (by assumption) (by omega)) ?_
    first | refine G_isubN 11 d_Mod_isGreater_10 rfl (by omega) ?_ | refine G_isub 11 d_Mod_isGreater_10 rfl ?_
    refine G_istore3 12 d_Mod_isGreater_11 rfl (by decide) rfl ?_
    refine G_iconstN 0 13 d_Mod_isGreater_12 rfl rfl ?_
    refine G_istore4 15 d_Mod_isGreater_13 rfl (by decide) rfl ?_
    refine G_iconstN 0 16 d_Mod_isGreater_15 rfl rfl ?_
    refine G_istore5 18 d_Mod_isGreater_16 rfl (by decide) rfl ?_
    refine G_aload0 19 d_Mod_isGreater_18 rfl ?_
    refine G_getIv 22 d_Mod_isGreater_19 rfl f_Mod_151 rfl h.sh ho ?_
    refine G_ifne 58 25 d_Mod_isGreater_22 rfl rfl (fun h22 => ?_) (fun h22 => ?_)
    · refine G_aload0 59 d_Mod_isGreater_58 rfl ?_
      refine G_getIv 62 d_Mod_isGreater_59 rfl f_Mod_151 rfl h.sh ho ?_
      refine G_iconstN 1 63 d_Mod_isGreater_62 rfl rfl ?_
      first | refine G_icneN 99 66 d_Mod_isGreater_63 rfl rfl (by omega) (by omega) (fun h63 => ?_) (fun h63 => ?_) | refine G_icne 99 66 d_Mod_isGreater_63 rfl rfl (fun h63 => ?_) (fun h63 => ?_)
      · exact absurd rfl h63
      · refine G_aload0 67 d_Mod_isGreater_66 rfl ?_
        refine G_getR 70 d_Mod_isGreater_67 rfl f_Mod_25 rfl h.sh h.f4 ?_
        refine G_iload2 71 d_Mod_isGreater_70 rfl ?_
        refine G_ialoadv 72 d_Mod_isGreater_71 rfl h.s4 (ix_nI (by omega) (by omega)) U.2.2 ?_
        refine G_aload0 73 d_Mod_isGreater_72 rfl ?_
        refine G_getR 76 d_Mod_isGreater_73 rfl f_Mod_25 rfl h.sh h.f4 ?_
        refine G_iload1 77 d_Mod_isGreater_76 rfl ?_
        refine G_ialoadv 78 d_Mod_isGreater_77 rfl h.s4 (ix_nI (by omega) (by omega)) T.2.2 ?_
        first | refine G_isubN 79 d_Mod_isGreater_78 rfl (by omega) ?_ | refine G_isub 79 d_Mod_isGreater_78 rfl ?_
        refine G_istore4 81 d_Mod_isGreater_79 rfl (by decide) rfl ?_
        refine G_aload0 82 d_Mod_isGreater_81 rfl ?_
        refine G_getR 85 d_Mod_isGreater_82 rfl f_Mod_22 rfl h.sh h.f3 ?_
        refine G_iload2 86 d_Mod_isGreater_85 rfl ?_
        refine G_ialoadv 87 d_Mod_isGreater_86 rfl h.s3 (ix_nI (by omega) (by omega)) U.2.1 ?_
        refine G_aload0 88 d_Mod_isGreater_87 rfl ?_
        refine G_getR 91 d_Mod_isGreater_88 rfl f_Mod_22 rfl h.sh h.f3 ?_
        refine G_iload1 92 d_Mod_isGreater_91 rfl ?_
        refine G_ialoadv 93 d_Mod_isGreater_92 rfl h.s3 (ix_nI (by omega) (by omega)) T.2.1 ?_
        first | refine G_isubN 94 d_Mod_isGreater_93 rfl (by omega) ?_ | refine G_isub 94 d_Mod_isGreater_93 rfl ?_
        refine G_istore5 96 d_Mod_isGreater_94 rfl (by decide) rfl ?_
        refine G_goto 129 d_Mod_isGreater_96 rfl ?_
        refine G_iload3 130 d_Mod_isGreater_129 rfl ?_
        refine G_ifeq 145 133 d_Mod_isGreater_130 rfl rfl (fun h130 => ?_) (fun h130 => ?_)
        · rw [sb0 _ (by omega) _ (by omega)] at h130
          refine G_iload4 147 d_Mod_isGreater_145 rfl ?_
          refine G_ifeq 163 150 d_Mod_isGreater_147 rfl rfl (fun h147 => ?_) (fun h147 => ?_)
          · rw [sb0 _ (by omega) _ (by omega)] at h147
            refine G_iload5 165 d_Mod_isGreater_163 rfl ?_
            refine G_ifle 172 168 d_Mod_isGreater_165 rfl rfl (fun h165 => ?_) (fun h165 => ?_)
            · rw [sbl _ (by omega) _ (by omega)] at h165
              refine G_iconstN 0 173 d_Mod_isGreater_172 rfl rfl ?_
              refine G_zret d_Mod_isGreater_173 rfl ?_ ?_
              · first | exact Or.inl rfl | exact Or.inr rfl
              · first | exact P01.t (by unfold gr grC; omega) | exact P01.f (by unfold gr grC; omega)
            · rw [sbl _ (by omega) _ (by omega)] at h165
              refine G_iconstN 1 169 d_Mod_isGreater_168 rfl rfl ?_
              refine G_goto 173 d_Mod_isGreater_169 rfl ?_
              refine G_zret d_Mod_isGreater_173 rfl ?_ ?_
              · first | exact Or.inl rfl | exact Or.inr rfl
              · first | exact P01.t (by unfold gr grC; omega) | exact P01.f (by unfold gr grC; omega)
          · rw [sb0 _ (by omega) _ (by omega)] at h147
            refine G_iload4 152 d_Mod_isGreater_150 rfl ?_
            refine G_ifle 159 155 d_Mod_isGreater_152 rfl rfl (fun h152 => ?_) (fun h152 => ?_)
            · rw [sbl _ (by omega) _ (by omega)] at h152
              refine G_iconstN 0 160 d_Mod_isGreater_159 rfl rfl ?_
              refine G_goto 173 d_Mod_isGreater_160 rfl ?_
              refine G_zret d_Mod_isGreater_173 rfl ?_ ?_
              · first | exact Or.inl rfl | exact Or.inr rfl
              · first | exact P01.t (by unfold gr grC; omega) | exact P01.f (by unfold gr grC; omega)
            · rw [sbl _ (by omega) _ (by omega)] at h152
              refine G_iconstN 1 156 d_Mod_isGreater_155 rfl rfl ?_
              refine G_goto 173 d_Mod_isGreater_156 rfl ?_
              refine G_zret d_Mod_isGreater_173 rfl ?_ ?_
              · first | exact Or.inl rfl | exact Or.inr rfl
              · first | exact P01.t (by unfold gr grC; omega) | exact P01.f (by unfold gr grC; omega)
        · rw [sb0 _ (by omega) _ (by omega)] at h130
          refine G_iload3 134 d_Mod_isGreater_133 rfl ?_
          refine G_ifle 141 137 d_Mod_isGreater_134 rfl rfl (fun h134 => ?_) (fun h134 => ?_)
          · rw [sbl _ (by omega) _ (by omega)] at h134
            refine G_iconstN 0 142 d_Mod_isGreater_141 rfl rfl ?_
            refine G_goto 173 d_Mod_isGreater_142 rfl ?_
            refine G_zret d_Mod_isGreater_173 rfl ?_ ?_
            · first | exact Or.inl rfl | exact Or.inr rfl
            · first | exact P01.t (by unfold gr grC; omega) | exact P01.f (by unfold gr grC; omega)
          · rw [sbl _ (by omega) _ (by omega)] at h134
            refine G_iconstN 1 138 d_Mod_isGreater_137 rfl rfl ?_
            refine G_goto 173 d_Mod_isGreater_138 rfl ?_
            refine G_zret d_Mod_isGreater_173 rfl ?_ ?_
            · first | exact Or.inl rfl | exact Or.inr rfl
            · first | exact P01.t (by unfold gr grC; omega) | exact P01.f (by unfold gr grC; omega)
    · exact absurd h22 (by decide)
  · refine G_aload0 1 d_Mod_isGreater_0 rfl ?_
    refine G_iload1 2 d_Mod_isGreater_1 rfl ?_
    refine G_invV1d 5 d_Mod_isGreater_2 rfl e_Mod_147 M_Mod_degreeOf rfl h.sh (Nat.le_of_ble_eq_true rfl) (Nat.le_of_ble_eq_true rfl) rfl (s_mDegreeOf (by assumption) (by assumption) (by omega)) ?_
    refine G_aload0 6 d_Mod_isGreater_5 rfl ?_
    refine G_iload2 7 d_Mod_isGreater_6 rfl ?_
    refine G_invV1d 10 d_Mod_isGreater_7 rfl e_Mod_147 M_Mod_degreeOf rfl h.sh (Nat.le_of_ble_eq_true rfl) (Nat.le_of_ble_eq_true rfl) rfl (s_mDegreeOf (by assumption) (by assumption) (by omega)) ?_
    first | refine G_isubN 11 d_Mod_isGreater_10 rfl (by omega) ?_ | refine G_isub 11 d_Mod_isGreater_10 rfl ?_
    refine G_istore3 12 d_Mod_isGreater_11 rfl (by decide) rfl ?_
    refine G_iconstN 0 13 d_Mod_isGreater_12 rfl rfl ?_
    refine G_istore4 15 d_Mod_isGreater_13 rfl (by decide) rfl ?_
    refine G_iconstN 0 16 d_Mod_isGreater_15 rfl rfl ?_
    refine G_istore5 18 d_Mod_isGreater_16 rfl (by decide) rfl ?_
    refine G_aload0 19 d_Mod_isGreater_18 rfl ?_
    refine G_getIv 22 d_Mod_isGreater_19 rfl f_Mod_151 rfl h.sh ho ?_
    refine G_ifne 58 25 d_Mod_isGreater_22 rfl rfl (fun h22 => ?_) (fun h22 => ?_)
    · refine G_aload0 59 d_Mod_isGreater_58 rfl ?_
      refine G_getIv 62 d_Mod_isGreater_59 rfl f_Mod_151 rfl h.sh ho ?_
      refine G_iconstN 1 63 d_Mod_isGreater_62 rfl rfl ?_
      first | refine G_icneN 99 66 d_Mod_isGreater_63 rfl rfl (by omega) (by omega) (fun h63 => ?_) (fun h63 => ?_) | refine G_icne 99 66 d_Mod_isGreater_63 rfl rfl (fun h63 => ?_) (fun h63 => ?_)
      · refine G_aload0 100 d_Mod_isGreater_99 rfl ?_
        refine G_getR 103 d_Mod_isGreater_100 rfl f_Mod_25 rfl h.sh h.f4 ?_
        refine G_iload1 104 d_Mod_isGreater_103 rfl ?_
        refine G_ialoadv 105 d_Mod_isGreater_104 rfl h.s4 (ix_nI (by omega) (by omega)) T.2.2 ?_
        refine G_aload0 106 d_Mod_isGreater_105 rfl ?_
        refine G_getR 109 d_Mod_isGreater_106 rfl f_Mod_25 rfl h.sh h.f4 ?_
        refine G_iload2 110 d_Mod_isGreater_109 rfl ?_
        refine G_ialoadv 111 d_Mod_isGreater_110 rfl h.s4 (ix_nI (by omega) (by omega)) U.2.2 ?_
        first | refine G_isubN 112 d_Mod_isGreater_111 rfl (by omega) ?_ | refine G_isub 112 d_Mod_isGreater_111 rfl ?_
        refine G_istore4 114 d_Mod_isGreater_112 rfl (by decide) rfl ?_
        refine G_aload0 115 d_Mod_isGreater_114 rfl ?_
        refine G_getR 118 d_Mod_isGreater_115 rfl f_Mod_22 rfl h.sh h.f3 ?_
        refine G_iload1 119 d_Mod_isGreater_118 rfl ?_
        refine G_ialoadv 120 d_Mod_isGreater_119 rfl h.s3 (ix_nI (by omega) (by omega)) T.2.1 ?_
        refine G_aload0 121 d_Mod_isGreater_120 rfl ?_
        refine G_getR 124 d_Mod_isGreater_121 rfl f_Mod_22 rfl h.sh h.f3 ?_
        refine G_iload2 125 d_Mod_isGreater_124 rfl ?_
        refine G_ialoadv 126 d_Mod_isGreater_125 rfl h.s3 (ix_nI (by omega) (by omega)) U.2.1 ?_
        first | refine G_isubN 127 d_Mod_isGreater_126 rfl (by omega) ?_ | refine G_isub 127 d_Mod_isGreater_126 rfl ?_
        refine G_istore5 129 d_Mod_isGreater_127 rfl (by decide) rfl ?_
        refine G_iload3 130 d_Mod_isGreater_129 rfl ?_
        refine G_ifeq 145 133 d_Mod_isGreater_130 rfl rfl (fun h130 => ?_) (fun h130 => ?_)
        · rw [sb0 _ (by omega) _ (by omega)] at h130
          refine G_iload4 147 d_Mod_isGreater_145 rfl ?_
          refine G_ifeq 163 150 d_Mod_isGreater_147 rfl rfl (fun h147 => ?_) (fun h147 => ?_)
          · rw [sb0 _ (by omega) _ (by omega)] at h147
            refine G_iload5 165 d_Mod_isGreater_163 rfl ?_
            refine G_ifle 172 168 d_Mod_isGreater_165 rfl rfl (fun h165 => ?_) (fun h165 => ?_)
            · rw [sbl _ (by omega) _ (by omega)] at h165
              refine G_iconstN 0 173 d_Mod_isGreater_172 rfl rfl ?_
              refine G_zret d_Mod_isGreater_173 rfl ?_ ?_
              · first | exact Or.inl rfl | exact Or.inr rfl
              · first | exact P01.t (by unfold gr grC; omega) | exact P01.f (by unfold gr grC; omega)
            · rw [sbl _ (by omega) _ (by omega)] at h165
              refine G_iconstN 1 169 d_Mod_isGreater_168 rfl rfl ?_
              refine G_goto 173 d_Mod_isGreater_169 rfl ?_
              refine G_zret d_Mod_isGreater_173 rfl ?_ ?_
              · first | exact Or.inl rfl | exact Or.inr rfl
              · first | exact P01.t (by unfold gr grC; omega) | exact P01.f (by unfold gr grC; omega)
          · rw [sb0 _ (by omega) _ (by omega)] at h147
            refine G_iload4 152 d_Mod_isGreater_150 rfl ?_
            refine G_ifle 159 155 d_Mod_isGreater_152 rfl rfl (fun h152 => ?_) (fun h152 => ?_)
            · rw [sbl _ (by omega) _ (by omega)] at h152
              refine G_iconstN 0 160 d_Mod_isGreater_159 rfl rfl ?_
              refine G_goto 173 d_Mod_isGreater_160 rfl ?_
              refine G_zret d_Mod_isGreater_173 rfl ?_ ?_
              · first | exact Or.inl rfl | exact Or.inr rfl
              · first | exact P01.t (by unfold gr grC; omega) | exact P01.f (by unfold gr grC; omega)
            · rw [sbl _ (by omega) _ (by omega)] at h152
              refine G_iconstN 1 156 d_Mod_isGreater_155 rfl rfl ?_
              refine G_goto 173 d_Mod_isGreater_156 rfl ?_
              refine G_zret d_Mod_isGreater_173 rfl ?_ ?_
              · first | exact Or.inl rfl | exact Or.inr rfl
              · first | exact P01.t (by unfold gr grC; omega) | exact P01.f (by unfold gr grC; omega)
        · rw [sb0 _ (by omega) _ (by omega)] at h130
          refine G_iload3 134 d_Mod_isGreater_133 rfl ?_
          refine G_ifle 141 137 d_Mod_isGreater_134 rfl rfl (fun h134 => ?_) (fun h134 => ?_)
          · rw [sbl _ (by omega) _ (by omega)] at h134
            refine G_iconstN 0 142 d_Mod_isGreater_141 rfl rfl ?_
            refine G_goto 173 d_Mod_isGreater_142 rfl ?_
            refine G_zret d_Mod_isGreater_173 rfl ?_ ?_
            · first | exact Or.inl rfl | exact Or.inr rfl
            · first | exact P01.t (by unfold gr grC; omega) | exact P01.f (by unfold gr grC; omega)
          · rw [sbl _ (by omega) _ (by omega)] at h134
            refine G_iconstN 1 138 d_Mod_isGreater_137 rfl rfl ?_
            refine G_goto 173 d_Mod_isGreater_138 rfl ?_
            refine G_zret d_Mod_isGreater_173 rfl ?_ ?_
            · first | exact Or.inl rfl | exact Or.inr rfl
            · first | exact P01.t (by unfold gr grC; omega) | exact P01.f (by unfold gr grC; omega)
      · exact absurd h63 (by decide)
    · exact absurd h22 (by decide)
theorem s_mRanks {V : GV} {d b o : Nat} {X : XT} {FI AI : FT} {AL : LT} (h : MO X b) (hT : MTb AI b) (ho : FI b 8 = nI o) (ho3 : o < 3) : G V m_Mod_ranks (d + 2) 0 [some (.ref b), none, none, none] [] X FI AI AL (fun r X' FI' AI' AL' => r = none ∧ X' = X ∧ FI' = FI ∧ AL' = AL ∧ (∀ c, c ≠ b + 7 → c ≠ b + 8 → AI' c = AI c) ∧ ∀ k, k < 84 → AI' (b + 7) k = nI (rk o k)) := by
  have L : ∀ t, t ≤ 84 → ∀ (AJ : FT) (l2 l3 : Option Value), (∀ c, c ≠ b + 7 → c ≠ b + 8 → AJ c = AI c) → (∀ s, s < t → AJ (b + 7) (rnk o s) = nI s) → G V m_Mod_ranks (d + 2) 2 [some (.ref b), some (.int (nI t)), l2, l3] [] X FI AJ AL (fun r X' FI' AI' AL' => r = none ∧ X' = X ∧ FI' = FI ∧ AL' = AL ∧ (∀ c, c ≠ b + 7 → c ≠ b + 8 → AI' c = AI c) ∧ ∀ k, k < 84 → AI' (b + 7) k = nI (rk o k)) := by
    refine upto ?_ ?_
    · intro AJ l2 l3 h1 h2
      refine G_iload1 3 d_Mod_ranks_2 rfl ?_
      refine G_bipushN 84 5 d_Mod_ranks_3 rfl rfl ?_
      first | refine G_icgeN 61 8 d_Mod_ranks_5 rfl rfl (by omega) (by omega) (fun h5 => ?_) (fun h5 => ?_) | refine G_icge 61 8 d_Mod_ranks_5 rfl rfl (fun h5 => ?_) (fun h5 => ?_)
      · refine G_vret d_Mod_ranks_61 rfl ?_
        exact ⟨rfl, rfl, rfl, rfl, h1, fun k hk => by have := rk_ok o ho3 k hk; rw [← h2 (rk o k) this.2.2.1, this.2.2.2]⟩
      · omega
    · intro t ht ih AJ l2 l3 h1 h2
      have hT1 : MTb AJ b := ⟨fun s hs => by rw [h1 _ (by omega) (by omega), h1 _ (by omega) (by omega), h1 _ (by omega) (by omega)]; exact hT.1 s hs, fun x y z hs => by rw [h1 _ (by omega) (by omega)]; exact hT.2 x y z hs⟩
      have hr := rk_ok o ho3 t ht
      have I : ∀ u, u ≤ 84 → G V m_Mod_ranks (d + 2) 12 [some (.ref b), some (.int (nI t)), some (.int (nI (pcg o t u))), some (.int (nI u))] [] X FI AJ AL (fun r X' FI' AI' AL' => r = none ∧ X' = X ∧ FI' = FI ∧ AL' = AL ∧ (∀ c, c ≠ b + 7 → c ≠ b + 8 → AI' c = AI c) ∧ ∀ k, k < 84 → AI' (b + 7) k = nI (rk o k)) := by
        refine upto ?_ ?_
        · rw [pcg_rnk ho3 ht]
          refine G_iload3 13 d_Mod_ranks_12 rfl ?_
          refine G_bipushN 84 15 d_Mod_ranks_13 rfl rfl ?_
          first | refine G_icgeN 41 18 d_Mod_ranks_15 rfl rfl (by omega) (by omega) (fun h15 => ?_) (fun h15 => ?_) | refine G_icge 41 18 d_Mod_ranks_15 rfl rfl (fun h15 => ?_) (fun h15 => ?_)
          · refine G_aload0 42 d_Mod_ranks_41 rfl ?_
            refine G_getR 45 d_Mod_ranks_42 rfl f_Mod_31 rfl h.sh h.f6 ?_
            refine G_iload2 46 d_Mod_ranks_45 rfl ?_
            refine G_iload1 47 d_Mod_ranks_46 rfl ?_
            refine G_iastore 48 d_Mod_ranks_47 rfl h.s6 (ix_nI (by omega) (by omega)) ?_
            refine G_aload0 49 d_Mod_ranks_48 rfl ?_
            refine G_getR 52 d_Mod_ranks_49 rfl f_Mod_34 rfl h.sh h.f7 ?_
            refine G_iload1 53 d_Mod_ranks_52 rfl ?_
            refine G_iload2 54 d_Mod_ranks_53 rfl ?_
            refine G_iastore 55 d_Mod_ranks_54 rfl h.s7 (ix_nI (by omega) (by omega)) ?_
            first | refine G_iincN1 58 d_Mod_ranks_55 rfl (by decide) rfl ?_ | refine G_iinc1 _ 58 d_Mod_ranks_55 rfl (by decide) rfl rfl ?_
            refine G_goto 2 d_Mod_ranks_58 rfl ?_
            refine ih _ _ _ (fun c c7 c8 => by rw [u2_off _ _ _ c8, u2_off _ _ _ c7]; exact h1 c c7 c8) (fun s hs => ?_)
            rw [u2_ne _ _ _ _ (by omega)]
            by_cases e : s = t
            · subst e; rw [u2_at]
            · rw [u2_ix _ _ (fun e2 => e (by have := (rk_ok o ho3 s (by omega)).2.1; rw [e2, hr.2.1] at this; exact this.symm))]
              exact h2 s (by omega)
          · omega
        · intro u hu iu
          have := pcg_le o t u
          rw [pcg] at iu
          refine G_iload3 13 d_Mod_ranks_12 rfl ?_
          refine G_bipushN 84 15 d_Mod_ranks_13 rfl rfl ?_
          first | refine G_icgeN 41 18 d_Mod_ranks_15 rfl rfl (by omega) (by omega) (fun h15 => ?_) (fun h15 => ?_) | refine G_icge 41 18 d_Mod_ranks_15 rfl rfl (fun h15 => ?_) (fun h15 => ?_)
          · omega
          · refine G_iload2 19 d_Mod_ranks_18 rfl ?_
            refine G_aload0 20 d_Mod_ranks_19 rfl ?_
            refine G_iload1 21 d_Mod_ranks_20 rfl ?_
            refine G_iload3 22 d_Mod_ranks_21 rfl ?_
            refine G_invV2b 25 d_Mod_ranks_22 rfl e_Mod_154 M_Mod_isGreater rfl h.sh (Nat.le_of_ble_eq_true rfl) (Nat.le_of_ble_eq_true rfl) rfl (s_mIsGreater (by assumption) (by assumption) (by omega) (by omega) (by assumption) (by assumption)) (fun h22 => G_ifeq1 28 d_Mod_ranks_25 32 rfl rfl ?_) (fun h22 => G_ifeq0 28 d_Mod_ranks_25 32 rfl rfl ?_)
            · rw [if_pos (grB_iff.mpr h22)] at iu
              refine G_iconstN 1 29 d_Mod_ranks_28 rfl rfl ?_
              refine G_goto 33 d_Mod_ranks_29 rfl ?_
              first | refine G_iaddN 34 d_Mod_ranks_33 rfl ?_ | refine G_iadd 34 d_Mod_ranks_33 rfl ?_
              refine G_istore2 35 d_Mod_ranks_34 rfl (by decide) rfl ?_
              first | refine G_iincN3 38 d_Mod_ranks_35 rfl (by decide) rfl ?_ | refine G_iinc3 _ 38 d_Mod_ranks_35 rfl (by decide) rfl rfl ?_
              refine G_goto 12 d_Mod_ranks_38 rfl ?_
              exact iu
            · rw [if_neg (fun e => h22 (grB_iff.mp e))] at iu
              refine G_iconstN 0 33 d_Mod_ranks_32 rfl rfl ?_
              first | refine G_iaddN 34 d_Mod_ranks_33 rfl ?_ | refine G_iadd 34 d_Mod_ranks_33 rfl ?_
              refine G_istore2 35 d_Mod_ranks_34 rfl (by decide) rfl ?_
              first | refine G_iincN3 38 d_Mod_ranks_35 rfl (by decide) rfl ?_ | refine G_iinc3 _ 38 d_Mod_ranks_35 rfl (by decide) rfl rfl ?_
              refine G_goto 12 d_Mod_ranks_38 rfl ?_
              exact iu
      refine G_iload1 3 d_Mod_ranks_2 rfl ?_
      refine G_bipushN 84 5 d_Mod_ranks_3 rfl rfl ?_
      first | refine G_icgeN 61 8 d_Mod_ranks_5 rfl rfl (by omega) (by omega) (fun h5 => ?_) (fun h5 => ?_) | refine G_icge 61 8 d_Mod_ranks_5 rfl rfl (fun h5 => ?_) (fun h5 => ?_)
      · omega
      · refine G_iconstN 0 9 d_Mod_ranks_8 rfl rfl ?_
        refine G_istore2 10 d_Mod_ranks_9 rfl (by decide) rfl ?_
        refine G_iconstN 0 11 d_Mod_ranks_10 rfl rfl ?_
        refine G_istore3 12 d_Mod_ranks_11 rfl (by decide) rfl ?_
        exact I 0 (by omega)
  refine G_iconstN 0 1 d_Mod_ranks_0 rfl rfl ?_
  refine G_istore1 2 d_Mod_ranks_1 rfl (by decide) rfl ?_
  exact L 0 (by omega) AI none none (fun _ _ _ => rfl) (fun s hs => by omega)
