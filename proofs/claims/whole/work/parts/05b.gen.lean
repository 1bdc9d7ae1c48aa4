/-! ===== GENERATORS of the class: ROWS as numbers ===== -/
theorem shl_amt : ∀ k, k < 32 → ((nI k &&& 31).toBitVec.smod 32).toNat = k := by decide +kernel
theorem pow3 : ∀ g, g < 7 → 2 ^ (3 * (6 - g)) ≤ 262144 ∧ 3 * (6 - g) < 32 := by decide +kernel
/-- the number of a ROW of GENERATOR g once, and the POWER of GENERATOR g in a ROW's number -/
def un (g : Nat) : Nat := 2 ^ (3 * (6 - g))
def pw (r g : Nat) : Nat := r / un g % 8
theorem s_unit {V : GV} {d g : Nat} {X : XT} {FI AI : FT} {AL : LT} (hg : g < 7) : G V m_Gen_unit d 0 [some (.int (nI g))] [] X FI AI AL (Pd (some (.int (nI (un g)))) X FI AI AL) := by
  have hp := pow3 g hg
  refine G_iconstN 1 1 d_Gen_unit_0 rfl rfl ?_
  refine G_iconstN 3 2 d_Gen_unit_1 rfl rfl ?_
  refine G_bipushN 6 4 d_Gen_unit_2 rfl rfl ?_
  refine G_iload0 5 d_Gen_unit_4 rfl ?_
  first | refine G_isubN 6 d_Gen_unit_5 rfl (by omega) ?_ | refine G_isub 6 d_Gen_unit_5 rfl ?_
  first | refine G_imulN 7 d_Gen_unit_6 rfl ?_ | refine G_imul 7 d_Gen_unit_6 rfl ?_
  refine G_ishl 8 d_Gen_unit_7 rfl ?_
  refine G_iret d_Gen_unit_8 rfl ?_
  exact ⟨by rw [pk_shlN (n := 1) _ (3 * (6 - g)) (shl_amt _ hp.2) (by omega), Nat.one_mul]; rfl, rfl, rfl, rfl, rfl⟩
theorem s_power {V : GV} {d r g : Nat} {X : XT} {FI AI : FT} {AL : LT} (hr : r < 2 ^ 31) (hg : g < 7) : G V m_Gen_power d 0 [some (.int (nI r)), some (.int (nI g))] [] X FI AI AL (Pd (some (.int (nI (pw r g)))) X FI AI AL) := by
  have hp := pow3 g hg
  refine G_iload0 1 d_Gen_power_0 rfl ?_
  refine G_iconstN 3 2 d_Gen_power_1 rfl rfl ?_
  refine G_bipushN 6 4 d_Gen_power_2 rfl rfl ?_
  refine G_iload1 5 d_Gen_power_4 rfl ?_
  first | refine G_isubN 6 d_Gen_power_5 rfl (by omega) ?_ | refine G_isub 6 d_Gen_power_5 rfl ?_
  first | refine G_imulN 7 d_Gen_power_6 rfl ?_ | refine G_imul 7 d_Gen_power_6 rfl ?_
  refine G_ishr 8 d_Gen_power_7 rfl ?_
  refine G_bipushN 7 10 d_Gen_power_8 rfl rfl ?_
  refine G_iand 11 d_Gen_power_10 rfl ?_
  refine G_iret d_Gen_power_11 rfl ?_
  refine ⟨?_, rfl, rfl, rfl, rfl⟩
  rw [pk_shrN hr _ (3 * (6 - g)) (shl_amt _ hp.2), pk_andN (by have := Nat.div_le_self r (2 ^ (3 * (6 - g))); omega) 3 (by decide)]
  rfl
theorem pw_lt (r g : Nat) : pw r g < 8 := Nat.mod_lt _ (by omega)
theorem nI_or (a b : Nat) : nI a ||| nI b = nI (a ||| b) := by
  apply Int32.toBitVec_inj.mp
  show (BitVec.ofNat 32 a ||| BitVec.ofNat 32 b) = BitVec.ofNat 32 (a ||| b)
  apply BitVec.eq_of_toNat_eq
  simp [Nat.or_mod_two_pow]
/-- the GENERATORS below k with a POWER above 0, as bits -/
def psup (r : Nat) : Nat → Nat
  | 0 => 0
  | k + 1 => if 0 < pw r k then psup r k ||| 2 ^ k else psup r k
def sup (r : Nat) : Nat := psup r 7
theorem s_support {V : GV} {d r : Nat} {X : XT} {FI AI : FT} {AL : LT} (hr : r < 2 ^ 31) : G V m_Gen_support (d + 1) 0 [some (.int (nI r)), none, none] [] X FI AI AL (Pd (some (.int (nI (sup r)))) X FI AI AL) := by
  have L : ∀ k, k ≤ 7 → G V m_Gen_support (d + 1) 4 [some (.int (nI r)), some (.int (nI (psup r k))), some (.int (nI k))] [] X FI AI AL (Pd (some (.int (nI (sup r)))) X FI AI AL) := by
    refine upto ?_ ?_
    · refine G_iload2 5 d_Gen_support_4 rfl ?_
      refine G_bipushN 7 7 d_Gen_support_5 rfl rfl ?_
      first | refine G_icgeN 30 10 d_Gen_support_7 rfl rfl (by omega) (by omega) (fun h7 => ?_) (fun h7 => ?_) | refine G_icge 30 10 d_Gen_support_7 rfl rfl (fun h7 => ?_) (fun h7 => ?_)
      · refine G_iload1 31 d_Gen_support_30 rfl ?_
        refine G_iret d_Gen_support_31 rfl ?_
        exact Pd.rf
      · omega
    · intro k hk ih
      have hp := pw_lt r k
      refine G_iload2 5 d_Gen_support_4 rfl ?_
      refine G_bipushN 7 7 d_Gen_support_5 rfl rfl ?_
      first | refine G_icgeN 30 10 d_Gen_support_7 rfl rfl (by omega) (by omega) (fun h7 => ?_) (fun h7 => ?_) | refine G_icge 30 10 d_Gen_support_7 rfl rfl (fun h7 => ?_) (fun h7 => ?_)
      · omega
      · refine G_iload0 11 d_Gen_support_10 rfl ?_
        refine G_iload2 12 d_Gen_support_11 rfl ?_
        refine G_invS2d 15 d_Gen_support_12 rfl e_Gen_45 M_Gen_power (Nat.le_of_ble_eq_true rfl) (Nat.le_of_ble_eq_true rfl) rfl (s_power (by omega) (by omega)) ?_
        refine G_ifle 24 18 d_Gen_support_15 rfl rfl (fun h15 => ?_) (fun h15 => ?_)
        · first | refine G_iincN2 27 d_Gen_support_24 rfl (by decide) rfl ?_ | refine G_iinc2 _ 27 d_Gen_support_24 rfl (by decide) rfl rfl ?_
          refine G_goto 4 d_Gen_support_27 rfl ?_
          have e : ¬ 0 < pw r k := fun e => nI_nle e (by omega) h15
          simp only [psup, e, if_false] at ih
          exact ih
        · refine G_iload1 19 d_Gen_support_18 rfl ?_
          refine G_iconstN 1 20 d_Gen_support_19 rfl rfl ?_
          refine G_iload2 21 d_Gen_support_20 rfl ?_
          refine G_ishl 22 d_Gen_support_21 rfl ?_
          have e : 0 < pw r k := by
            rcases Nat.eq_zero_or_pos (pw r k) with e | e
            · exact absurd (by rw [e]; decide) h15
            · exact e
          simp only [psup, e, if_true] at ih
          rw [pk_shlN (n := 1) _ k (shl_amt _ (by omega)) (by have : 2 ^ k ≤ 2 ^ 7 := Nat.pow_le_pow_right (by omega) (by omega); omega), Nat.one_mul]
          refine G_ior 23 d_Gen_support_22 rfl ?_
          rw [nI_or]
          refine G_istore1 24 d_Gen_support_23 rfl (by decide) rfl ?_
          first | refine G_iincN2 27 d_Gen_support_24 rfl (by decide) rfl ?_ | refine G_iinc2 _ 27 d_Gen_support_24 rfl (by decide) rfl rfl ?_
          refine G_goto 4 d_Gen_support_27 rfl ?_
          exact ih
  refine G_iconstN 0 1 d_Gen_support_0 rfl rfl ?_
  refine G_istore1 2 d_Gen_support_1 rfl (by decide) rfl ?_
  refine G_iconstN 0 3 d_Gen_support_2 rfl rfl ?_
  refine G_istore2 4 d_Gen_support_3 rfl (by decide) rfl ?_
  exact L 0 (by omega)
theorem s_partPlace {V : GV} {d g i : Nat} {X : XT} {FI AI : FT} {AL : LT} : G V m_Gen_partPlace d 0 [some (.int (nI g)), some (.int (nI i))] [] X FI AI AL (Pd (some (.int (nI (g * 86 + i)))) X FI AI AL) := by
  refine G_iload0 1 d_Gen_partPlace_0 rfl ?_
  refine G_bipushN 86 3 d_Gen_partPlace_1 rfl rfl ?_
  first | refine G_imulN 4 d_Gen_partPlace_3 rfl ?_ | refine G_imul 4 d_Gen_partPlace_3 rfl ?_
  refine G_iload1 5 d_Gen_partPlace_4 rfl ?_
  first | refine G_iaddN 6 d_Gen_partPlace_5 rfl ?_ | refine G_iadd 6 d_Gen_partPlace_5 rfl ?_
  refine G_iret d_Gen_partPlace_6 rfl ?_
  exact Pd.rf
/-- an object of GENERATORS: ga k is the row of its field k; po i, qo i: its POLYNOMIALS -/
def GO (X : XT) (g : Nat) (ga po qo : Nat → Nat) : Prop :=
  x_sh X g = some (10, 9) ∧ x_FR X g 1 = some (ga 1) ∧ x_FR X g 2 = some (ga 2) ∧ x_FR X g 3 = some (ga 3) ∧ x_FR X g 4 = some (ga 4) ∧ x_FR X g 5 = some (ga 5) ∧ x_FR X g 6 = some (ga 6) ∧ x_FR X g 7 = some (ga 7) ∧ x_FR X g 8 = some (ga 8) ∧
  x_sh X (ga 1) = some (3, 7) ∧ x_sh X (ga 2) = some (0, 7) ∧ x_sh X (ga 3) = some (1, 7) ∧ x_sh X (ga 4) = some (0, 7) ∧ x_sh X (ga 5) = some (0, 7) ∧ x_sh X (ga 6) = some (1, 602) ∧ x_sh X (ga 7) = some (0, 602) ∧ x_sh X (ga 8) = some (1, 7) ∧
  (∀ i, i < 7 → x_AR X (ga 1) i = some (po i) ∧ PO X (po i) (qo i)) ∧ (∀ i j, i < 7 → j < 7 → qo i = qo j → i = j) ∧ (∀ i, i < 7 → qo i ≠ ga 3 ∧ qo i ≠ ga 6 ∧ qo i ≠ ga 8) ∧ (ga 3 ≠ ga 6 ∧ ga 3 ≠ ga 8 ∧ ga 6 ≠ ga 8) ∧ (ga 2 ≠ ga 4 ∧ ga 2 ≠ ga 5 ∧ ga 2 ≠ ga 7 ∧ ga 4 ≠ ga 5 ∧ ga 4 ≠ ga 7 ∧ ga 5 ≠ ga 7)
theorem s_isGrown {V : GV} {d g i n : Nat} {ga po qo : Nat → Nat} {X : XT} {FI AI : FT} {AL : LT} (h : GO X g ga po qo) (hi : i < 7) (hn : AI (ga 5) i = nI n) (hn2 : n < 2 ^ 31) : G V m_Gen_isGrown d 0 [some (.ref g), some (.int (nI i))] [] X FI AI AL (P01 (0 < n) X FI AI AL) := by
  obtain ⟨h1, f1, f2, f3, f4, f5, f6, f7, f8, s1, s2, s3, s4, s5, s6, s7, s8, hp, -⟩ := h
  refine G_aload0 1 d_Gen_isGrown_0 rfl ?_
  refine G_getR 4 d_Gen_isGrown_1 rfl f_Gen_32 rfl (by assumption) (by assumption) ?_
  refine G_iload1 5 d_Gen_isGrown_4 rfl ?_
  refine G_iaload 6 d_Gen_isGrown_5 rfl (by assumption) (ix_nI (by omega) (by omega)) ?_
  rw [hn]
  refine G_ifle 13 9 d_Gen_isGrown_6 rfl rfl (fun h6 => ?_) (fun h6 => ?_)
  · refine G_iconstN 0 14 d_Gen_isGrown_13 rfl rfl ?_
    refine G_zret d_Gen_isGrown_14 rfl ?_ ?_
    · exact Or.inl rfl
    · exact P01.f (fun e => nI_nle e hn2 h6)
  · refine G_iconstN 1 10 d_Gen_isGrown_9 rfl rfl ?_
    refine G_goto 14 d_Gen_isGrown_10 rfl ?_
    refine G_zret d_Gen_isGrown_14 rfl ?_ ?_
    · exact Or.inr rfl
    · refine P01.t ?_
      rcases Nat.eq_zero_or_pos n with e | e
      · exact absurd (by rw [e]; decide) h6
      · exact e
theorem s_hasLead {V : GV} {d g n t : Nat} {ga po qo : Nat → Nat} {gl : Nat → Nat} {X : XT} {FI AI : FT} {AL : LT} (h : GO X g ga po qo) (hn : FI g 0 = nI n) (hn7 : n ≤ 7) (hl : ∀ i, i < n → AI (ga 2) i = nI (gl i) ∧ gl i < 84) (ht : t < 84) : G V m_Gen_hasLead d 0 [some (.ref g), some (.int (nI t)), none] [] X FI AI AL (P01 (∃ i, i < n ∧ gl i = t) X FI AI AL) := by
  obtain ⟨h1, f1, f2, f3, f4, f5, f6, f7, f8, s1, s2, s3, s4, s5, s6, s7, s8, hp, -⟩ := h
  have L : ∀ k, k ≤ n → (∀ i, i < k → gl i ≠ t) → G V m_Gen_hasLead d 2 [some (.ref g), some (.int (nI t)), some (.int (nI k))] [] X FI AI AL (P01 (∃ i, i < n ∧ gl i = t) X FI AI AL) := by
    refine upto ?_ ?_
    · intro hA
      refine G_iload2 3 d_Gen_hasLead_2 rfl ?_
      refine G_aload0 4 d_Gen_hasLead_3 rfl ?_
      refine G_getI 7 d_Gen_hasLead_4 rfl f_Gen_9 rfl (by assumption) ?_
      rw [hn]
      first | refine G_icgeN 28 10 d_Gen_hasLead_7 rfl rfl (by omega) (by omega) (fun h7 => ?_) (fun h7 => ?_) | refine G_icge 28 10 d_Gen_hasLead_7 rfl rfl (fun h7 => ?_) (fun h7 => ?_)
      · refine G_iconstN 0 29 d_Gen_hasLead_28 rfl rfl ?_
        refine G_zret d_Gen_hasLead_29 rfl ?_ ?_
        · exact Or.inl rfl
        · exact P01.f (fun ⟨i, hi, e⟩ => hA i hi e)
      · omega
    · intro k hk ih hA
      have hlk := hl k hk
      refine G_iload2 3 d_Gen_hasLead_2 rfl ?_
      refine G_aload0 4 d_Gen_hasLead_3 rfl ?_
      refine G_getI 7 d_Gen_hasLead_4 rfl f_Gen_9 rfl (by assumption) ?_
      rw [hn]
      first | refine G_icgeN 28 10 d_Gen_hasLead_7 rfl rfl (by omega) (by omega) (fun h7 => ?_) (fun h7 => ?_) | refine G_icge 28 10 d_Gen_hasLead_7 rfl rfl (fun h7 => ?_) (fun h7 => ?_)
      · omega
      · refine G_aload0 11 d_Gen_hasLead_10 rfl ?_
        refine G_getR 14 d_Gen_hasLead_11 rfl f_Gen_21 rfl (by assumption) (by assumption) ?_
        refine G_iload2 15 d_Gen_hasLead_14 rfl ?_
        refine G_iaload 16 d_Gen_hasLead_15 rfl (by assumption) (ix_nI (by omega) (by omega)) ?_
        rw [hlk.1]
        refine G_iload1 17 d_Gen_hasLead_16 rfl ?_
        first | refine G_icneN 22 20 d_Gen_hasLead_17 rfl rfl (by omega) (by omega) (fun h17 => ?_) (fun h17 => ?_) | refine G_icne 22 20 d_Gen_hasLead_17 rfl rfl (fun h17 => ?_) (fun h17 => ?_)
        · first | refine G_iincN2 25 d_Gen_hasLead_22 rfl (by decide) rfl ?_ | refine G_iinc2 _ 25 d_Gen_hasLead_22 rfl (by decide) rfl rfl ?_
          refine G_goto 2 d_Gen_hasLead_25 rfl ?_
          refine ih (fun i hi => ?_)
          by_cases e : i = k
          · subst e; exact h17
          · exact hA i (by omega)
        · refine G_iconstN 1 21 d_Gen_hasLead_20 rfl rfl ?_
          refine G_zret d_Gen_hasLead_21 rfl ?_ ?_
          · exact Or.inr rfl
          · exact P01.t ⟨k, hk, h17⟩
  refine G_iconstN 0 1 d_Gen_hasLead_0 rfl rfl ?_
  refine G_istore2 2 d_Gen_hasLead_1 rfl (by decide) rfl ?_
  exact L 0 (by omega) (fun i hi => absurd hi (by omega))
theorem like_dec (f g : Nat → Int64) : like f g ∨ ¬ like f g := Classical.em _
theorem s_isLike' {V : GV} {d p q p2 q2 : Nat} {X : XT} {FI AI : FT} {AL : LT} (h : PO X p q) (h' : PO X p2 q2) : G V m_Poly_isLike d 0 [some (.ref p), some (.ref p2), none] [] X FI AI AL (P01 (like (AL q) (AL q2)) X FI AI AL) :=
  (s_isLike h h').conseq (fun r X' FI' AI' AL' ⟨b, hb, hi⟩ => by
    cases b
    · exact ⟨0, hb, Or.inr ⟨rfl, fun e => by have := hi.mpr e; cases this⟩⟩
    · exact ⟨1, hb, Or.inl ⟨rfl, hi.mp rfl⟩⟩)
theorem s_has {V : GV} {d g n p q : Nat} {ga po qo : Nat → Nat} {X : XT} {FI AI : FT} {AL : LT} (h : GO X g ga po qo) (hP : PO X p q) (hn : FI g 0 = nI n) (hn7 : n ≤ 7) : G V m_Gen_has (d + 1) 0 [some (.ref g), some (.ref p), none] [] X FI AI AL (P01 (∃ i, i < n ∧ like (AL (qo i)) (AL q)) X FI AI AL) := by
  obtain ⟨h1, f1, f2, f3, f4, f5, f6, f7, f8, s1, s2, s3, s4, s5, s6, s7, s8, hp, -⟩ := h
  have L : ∀ k, k ≤ n → (∀ i, i < k → ¬ like (AL (qo i)) (AL q)) → G V m_Gen_has (d + 1) 2 [some (.ref g), some (.ref p), some (.int (nI k))] [] X FI AI AL (P01 (∃ i, i < n ∧ like (AL (qo i)) (AL q)) X FI AI AL) := by
    refine upto ?_ ?_
    · intro hA
      refine G_iload2 3 d_Gen_has_2 rfl ?_
      refine G_aload0 4 d_Gen_has_3 rfl ?_
      refine G_getI 7 d_Gen_has_4 rfl f_Gen_9 rfl (by assumption) ?_
      rw [hn]
      first | refine G_icgeN 31 10 d_Gen_has_7 rfl rfl (by omega) (by omega) (fun h7 => ?_) (fun h7 => ?_) | refine G_icge 31 10 d_Gen_has_7 rfl rfl (fun h7 => ?_) (fun h7 => ?_)
      · refine G_iconstN 0 32 d_Gen_has_31 rfl rfl ?_
        refine G_zret d_Gen_has_32 rfl ?_ ?_
        · exact Or.inl rfl
        · exact P01.f (fun ⟨i, hi, e⟩ => hA i hi e)
      · omega
    · intro k hk ih hA
      obtain ⟨a1, a2⟩ := hp k (by omega)
      have a3 := a2.1
      refine G_iload2 3 d_Gen_has_2 rfl ?_
      refine G_aload0 4 d_Gen_has_3 rfl ?_
      refine G_getI 7 d_Gen_has_4 rfl f_Gen_9 rfl (by assumption) ?_
      rw [hn]
      first | refine G_icgeN 31 10 d_Gen_has_7 rfl rfl (by omega) (by omega) (fun h7 => ?_) (fun h7 => ?_) | refine G_icge 31 10 d_Gen_has_7 rfl rfl (fun h7 => ?_) (fun h7 => ?_)
      · omega
      · refine G_aload0 11 d_Gen_has_10 rfl ?_
        refine G_getR 14 d_Gen_has_11 rfl f_Gen_17 rfl (by assumption) (by assumption) ?_
        refine G_iload2 15 d_Gen_has_14 rfl ?_
        refine G_aaload 16 d_Gen_has_15 rfl (by assumption) (by decide) (by decide) (ix_nI (by omega) (by omega)) (by assumption) ?_
        refine G_aload1 17 d_Gen_has_16 rfl ?_
        refine G_invV1b 20 d_Gen_has_17 rfl e_Gen_88 M_Poly_isLike rfl (by assumption) (Nat.le_of_ble_eq_true rfl) (Nat.le_of_ble_eq_true rfl) rfl (s_isLike' (by assumption) (by assumption)) (fun h17 => G_ifeq1 23 d_Gen_has_20 25 rfl rfl ?_) (fun h17 => G_ifeq0 23 d_Gen_has_20 25 rfl rfl ?_)
        · refine G_iconstN 1 24 d_Gen_has_23 rfl rfl ?_
          refine G_zret d_Gen_has_24 rfl ?_ ?_
          · exact Or.inr rfl
          · exact P01.t ⟨k, hk, h17⟩
        · first | refine G_iincN2 28 d_Gen_has_25 rfl (by decide) rfl ?_ | refine G_iinc2 _ 28 d_Gen_has_25 rfl (by decide) rfl rfl ?_
          refine G_goto 2 d_Gen_has_28 rfl ?_
          refine ih (fun i hi => ?_)
          by_cases e : i = k
          · subst e; exact h17
          · exact hA i (by omega)
  refine G_iconstN 0 1 d_Gen_has_0 rfl rfl ?_
  refine G_istore2 2 d_Gen_has_1 rfl (by decide) rfl ?_
  exact L 0 (by omega) (fun i hi => absurd hi (by omega))
/-- DEGREE of a ROW's TERM -/
def rdeg (gl : Nat → Nat) (r : Nat) : Nat → Nat
  | 0 => 0
  | k + 1 => rdeg gl r k + pw r k * eD (gl k)
theorem s_degreeOfRow {V : GV} {d g n r : Nat} {ga po qo : Nat → Nat} {gl : Nat → Nat} {X : XT} {FI AI : FT} {AL : LT} (h : GO X g ga po qo) (hn : FI g 0 = nI n) (hn7 : n ≤ 7) (hl : ∀ i, i < n → AI (ga 2) i = nI (gl i) ∧ gl i < 84) (hr : r < 2 ^ 31) : G V m_Gen_degreeOfRow (d + 1) 0 [some (.ref g), some (.int (nI r)), none, none] [] X FI AI AL (Pd (some (.int (nI (rdeg gl r n)))) X FI AI AL) := by
  obtain ⟨h1, f1, f2, f3, f4, f5, f6, f7, f8, s1, s2, s3, s4, s5, s6, s7, s8, hp, -⟩ := h
  have L : ∀ k, k ≤ n → G V m_Gen_degreeOfRow (d + 1) 4 [some (.ref g), some (.int (nI r)), some (.int (nI (rdeg gl r k))), some (.int (nI k))] [] X FI AI AL (Pd (some (.int (nI (rdeg gl r n)))) X FI AI AL) := by
    refine upto ?_ ?_
    · refine G_iload3 5 d_Gen_degreeOfRow_4 rfl ?_
      refine G_aload0 6 d_Gen_degreeOfRow_5 rfl ?_
      refine G_getI 9 d_Gen_degreeOfRow_6 rfl f_Gen_9 rfl (by assumption) ?_
      rw [hn]
      first | refine G_icgeN 37 12 d_Gen_degreeOfRow_9 rfl rfl (by omega) (by omega) (fun h9 => ?_) (fun h9 => ?_) | refine G_icge 37 12 d_Gen_degreeOfRow_9 rfl rfl (fun h9 => ?_) (fun h9 => ?_)
      · refine G_iload2 38 d_Gen_degreeOfRow_37 rfl ?_
        refine G_iret d_Gen_degreeOfRow_38 rfl ?_
        exact Pd.rf
      · omega
    · intro k hk ih
      obtain ⟨e1, e2⟩ := hl k hk
      refine G_iload3 5 d_Gen_degreeOfRow_4 rfl ?_
      refine G_aload0 6 d_Gen_degreeOfRow_5 rfl ?_
      refine G_getI 9 d_Gen_degreeOfRow_6 rfl f_Gen_9 rfl (by assumption) ?_
      rw [hn]
      first | refine G_icgeN 37 12 d_Gen_degreeOfRow_9 rfl rfl (by omega) (by omega) (fun h9 => ?_) (fun h9 => ?_) | refine G_icge 37 12 d_Gen_degreeOfRow_9 rfl rfl (fun h9 => ?_) (fun h9 => ?_)
      · omega
      · refine G_iload2 13 d_Gen_degreeOfRow_12 rfl ?_
        refine G_iload1 14 d_Gen_degreeOfRow_13 rfl ?_
        refine G_iload3 15 d_Gen_degreeOfRow_14 rfl ?_
        refine G_invS2d 18 d_Gen_degreeOfRow_15 rfl e_Gen_45 M_Gen_power (Nat.le_of_ble_eq_true rfl) (Nat.le_of_ble_eq_true rfl) rfl (s_power (by omega) (by omega)) ?_
        refine G_gets 0 21 d_Gen_degreeOfRow_18 rfl rfl s_Gen_100 ?_
        refine G_aload0 22 d_Gen_degreeOfRow_21 rfl ?_
        refine G_getR 25 d_Gen_degreeOfRow_22 rfl f_Gen_21 rfl (by assumption) (by assumption) ?_
        refine G_iload3 26 d_Gen_degreeOfRow_25 rfl ?_
        refine G_iaload 27 d_Gen_degreeOfRow_26 rfl (by assumption) (ix_nI (by omega) (by omega)) ?_
        rw [e1]
        refine G_st0 28 d_Gen_degreeOfRow_27 rfl (ix_nI (by omega) (by omega)) ?_
        first | refine G_imulN 29 d_Gen_degreeOfRow_28 rfl ?_ | refine G_imul 29 d_Gen_degreeOfRow_28 rfl ?_
        first | refine G_iaddN 30 d_Gen_degreeOfRow_29 rfl ?_ | refine G_iadd 30 d_Gen_degreeOfRow_29 rfl ?_
        refine G_istore2 31 d_Gen_degreeOfRow_30 rfl (by decide) rfl ?_
        first | refine G_iincN3 34 d_Gen_degreeOfRow_31 rfl (by decide) rfl ?_ | refine G_iinc3 _ 34 d_Gen_degreeOfRow_31 rfl (by decide) rfl rfl ?_
        refine G_goto 4 d_Gen_degreeOfRow_34 rfl ?_
        exact ih
  refine G_iconstN 0 1 d_Gen_degreeOfRow_0 rfl rfl ?_
  refine G_istore2 2 d_Gen_degreeOfRow_1 rfl (by decide) rfl ?_
  refine G_iconstN 0 3 d_Gen_degreeOfRow_2 rfl rfl ?_
  refine G_istore3 4 d_Gen_degreeOfRow_3 rfl (by decide) rfl ?_
  exact L 0 (by omega)
/-- COST: NORMS each to its POWER, by prodA, as both sides count it -/
def powA (c b : Int64) : Nat → Int64
  | 0 => c
  | k + 1 => prodA (powA c b k) b
def cost (nm : Nat → Int64) (P : Nat → Nat) : Nat → Int64
  | 0 => 1
  | k + 1 => powA (cost nm P k) (nm k) (P k)
theorem s_costOf {V : GV} {d g n r : Nat} {ga po qo : Nat → Nat} {X : XT} {FI AI : FT} {AL : LT} (h : GO X g ga po qo) (hn : FI g 0 = nI n) (hn7 : n ≤ 7) (hr : r < 2 ^ 31) : G V m_Gen_costOf (d + 1) 0 [some (.ref g), some (.int (nI r)), none, none, none, none, none] [] X FI AI AL (Pd (some (.long (cost (AL (ga 3)) (pw r) n))) X FI AI AL) := by
  obtain ⟨h1, f1, f2, f3, f4, f5, f6, f7, f8, s1, s2, s3, s4, s5, s6, s7, s8, hp, -⟩ := h
  have L : ∀ k, k ≤ n → ∀ l5 l6 : Option Value, G V m_Gen_costOf (d + 1) 5 [some (.ref g), some (.int (nI r)), some (.long (cost (AL (ga 3)) (pw r) k)), none, some (.int (nI k)), l5, l6] [] X FI AI AL (Pd (some (.long (cost (AL (ga 3)) (pw r) n))) X FI AI AL) := by
    refine upto ?_ ?_
    · intro l5 l6
      refine G_iload4 7 d_Gen_costOf_5 rfl ?_
      refine G_aload0 8 d_Gen_costOf_7 rfl ?_
      refine G_getI 11 d_Gen_costOf_8 rfl f_Gen_9 rfl (by assumption) ?_
      rw [hn]
      first | refine G_icgeN 56 14 d_Gen_costOf_11 rfl rfl (by omega) (by omega) (fun h11 => ?_) (fun h11 => ?_) | refine G_icge 56 14 d_Gen_costOf_11 rfl rfl (fun h11 => ?_) (fun h11 => ?_)
      · refine G_lload2 57 d_Gen_costOf_56 rfl ?_
        refine G_lret d_Gen_costOf_57 rfl ?_
        exact Pd.rf
      · omega
    · intro k hk ih l5 l6
      have hpl := pw_lt r k
      have L2 : ∀ i, i ≤ pw r k → G V m_Gen_costOf (d + 1) 25 [some (.ref g), some (.int (nI r)), some (.long (powA (cost (AL (ga 3)) (pw r) k) (AL (ga 3) k) i)), none, some (.int (nI k)), some (.int (nI (pw r k))), some (.int (nI i))] [] X FI AI AL (Pd (some (.long (cost (AL (ga 3)) (pw r) n))) X FI AI AL) := by
        refine upto ?_ ?_
        · refine G_iload6 27 d_Gen_costOf_25 rfl ?_
          refine G_iload5 29 d_Gen_costOf_27 rfl ?_
          first | refine G_icgeN 50 32 d_Gen_costOf_29 rfl rfl (by omega) (by omega) (fun h29 => ?_) (fun h29 => ?_) | refine G_icge 50 32 d_Gen_costOf_29 rfl rfl (fun h29 => ?_) (fun h29 => ?_)
          · first | refine G_iincN4 53 d_Gen_costOf_50 rfl (by decide) rfl ?_ | refine G_iinc4 _ 53 d_Gen_costOf_50 rfl (by decide) rfl rfl ?_
            refine G_goto 5 d_Gen_costOf_53 rfl ?_
            exact ih _ _
          · omega
        · intro i hi ih2
          refine G_iload6 27 d_Gen_costOf_25 rfl ?_
          refine G_iload5 29 d_Gen_costOf_27 rfl ?_
          first | refine G_icgeN 50 32 d_Gen_costOf_29 rfl rfl (by omega) (by omega) (fun h29 => ?_) (fun h29 => ?_) | refine G_icge 50 32 d_Gen_costOf_29 rfl rfl (fun h29 => ?_) (fun h29 => ?_)
          · omega
          · refine G_lload2 33 d_Gen_costOf_32 rfl ?_
            refine G_aload0 34 d_Gen_costOf_33 rfl ?_
            refine G_getR 37 d_Gen_costOf_34 rfl f_Gen_25 rfl (by assumption) (by assumption) ?_
            refine G_iload4 39 d_Gen_costOf_37 rfl ?_
            refine G_laload 40 d_Gen_costOf_39 rfl (by assumption) (ix_nI (by omega) (by omega)) ?_
            refine G_invSN2d 43 d_Gen_costOf_40 rfl e_Gen_103 M_Alg_productOrAbove (Nat.le_of_ble_eq_true rfl) (Nat.le_of_ble_eq_true rfl) rfl (s_prodA) ?_
            refine G_lstore2 44 d_Gen_costOf_43 rfl (by decide) rfl ?_
            first | refine G_iincN6 47 d_Gen_costOf_44 rfl (by decide) rfl ?_ | refine G_iinc6 _ 47 d_Gen_costOf_44 rfl (by decide) rfl rfl ?_
            refine G_goto 25 d_Gen_costOf_47 rfl ?_
            exact ih2
      refine G_iload4 7 d_Gen_costOf_5 rfl ?_
      refine G_aload0 8 d_Gen_costOf_7 rfl ?_
      refine G_getI 11 d_Gen_costOf_8 rfl f_Gen_9 rfl (by assumption) ?_
      rw [hn]
      first | refine G_icgeN 56 14 d_Gen_costOf_11 rfl rfl (by omega) (by omega) (fun h11 => ?_) (fun h11 => ?_) | refine G_icge 56 14 d_Gen_costOf_11 rfl rfl (fun h11 => ?_) (fun h11 => ?_)
      · omega
      · refine G_iload1 15 d_Gen_costOf_14 rfl ?_
        refine G_iload4 17 d_Gen_costOf_15 rfl ?_
        refine G_invS2d 20 d_Gen_costOf_17 rfl e_Gen_45 M_Gen_power (Nat.le_of_ble_eq_true rfl) (Nat.le_of_ble_eq_true rfl) rfl (s_power (by omega) (by omega)) ?_
        refine G_istore5 22 d_Gen_costOf_20 rfl (by decide) rfl ?_
        refine G_iconstN 0 23 d_Gen_costOf_22 rfl rfl ?_
        refine G_istore6 25 d_Gen_costOf_23 rfl (by decide) rfl ?_
        exact L2 0 (by omega)
  refine G_lconst 1 1 d_Gen_costOf_0 rfl rfl ?_
  refine G_lstore2 2 d_Gen_costOf_1 rfl (by decide) rfl ?_
  refine G_iconstN 0 3 d_Gen_costOf_2 rfl rfl ?_
  refine G_istore4 5 d_Gen_costOf_3 rfl (by decide) rfl ?_
  exact L 0 (by omega) none none
/-- PRODUCT: the POLYNOMIALS each to its POWER -/
def one : Nat → Int64 := fun j => if j = 0 then 1 else 0
def powP (c b : Nat → Int64) : Nat → Nat → Int64
  | 0 => c
  | k + 1 => mulP (powP c b k) b
def prodP (ps : Nat → Nat → Int64) (P : Nat → Nat) : Nat → Nat → Int64
  | 0 => one
  | k + 1 => powP (prodP ps P k) (ps k) (P k)
theorem s_multiplyOut {V : GV} {d g n r p q : Nat} {ga po qo : Nat → Nat} {X : XT} {FI AI : FT} {AL : LT} (h : GO X g ga po qo) (hP : PO X p q) (hq : ∀ i, i < 7 → qo i ≠ q) (hn : FI g 0 = nI n) (hn7 : n ≤ 7) (hr : r < 2 ^ 31) : G V m_Gen_multiplyOut (d + 2) 0 [some (.ref g), some (.int (nI r)), some (.ref p), none, none, none] [] X FI AI AL (Pd none X FI AI (sr AL q (prodP (fun i => AL (qo i)) (pw r) n))) := by
  obtain ⟨h1, f1, f2, f3, f4, f5, f6, f7, f8, s1, s2, s3, s4, s5, s6, s7, s8, hp, -⟩ := h
  have hP0 := hP
  obtain ⟨g1, g2, g3⟩ := hP
  have L : ∀ k, k ≤ n → ∀ l4 l5 : Option Value, G V m_Gen_multiplyOut (d + 2) 13 [some (.ref g), some (.int (nI r)), some (.ref p), some (.int (nI k)), l4, l5] [] X FI AI (sr AL q (prodP (fun i => AL (qo i)) (pw r) k)) (Pd none X FI AI (sr AL q (prodP (fun i => AL (qo i)) (pw r) n))) := by
    refine upto ?_ ?_
    · intro l4 l5
      refine G_iload3 14 d_Gen_multiplyOut_13 rfl ?_
      refine G_aload0 15 d_Gen_multiplyOut_14 rfl ?_
      refine G_getI 18 d_Gen_multiplyOut_15 rfl f_Gen_9 rfl (by assumption) ?_
      rw [hn]
      first | refine G_icgeN 60 21 d_Gen_multiplyOut_18 rfl rfl (by omega) (by omega) (fun h18 => ?_) (fun h18 => ?_) | refine G_icge 60 21 d_Gen_multiplyOut_18 rfl rfl (fun h18 => ?_) (fun h18 => ?_)
      · refine G_vret d_Gen_multiplyOut_60 rfl ?_
        exact Pd.rf
      · omega
    · intro k hk ih l4 l5
      have hpl := pw_lt r k
      obtain ⟨a1, a2⟩ := hp k (by omega)
      have hqk := hq k (by omega)
      have L2 : ∀ i, i ≤ pw r k → G V m_Gen_multiplyOut (d + 2) 31 [some (.ref g), some (.int (nI r)), some (.ref p), some (.int (nI k)), some (.int (nI (pw r k))), some (.int (nI i))] [] X FI AI (sr AL q (powP (prodP (fun i => AL (qo i)) (pw r) k) (AL (qo k)) i)) (Pd none X FI AI (sr AL q (prodP (fun i => AL (qo i)) (pw r) n))) := by
        refine upto ?_ ?_
        · refine G_iload5 33 d_Gen_multiplyOut_31 rfl ?_
          refine G_iload4 35 d_Gen_multiplyOut_33 rfl ?_
          first | refine G_icgeN 54 38 d_Gen_multiplyOut_35 rfl rfl (by omega) (by omega) (fun h35 => ?_) (fun h35 => ?_) | refine G_icge 54 38 d_Gen_multiplyOut_35 rfl rfl (fun h35 => ?_) (fun h35 => ?_)
          · first | refine G_iincN3 57 d_Gen_multiplyOut_54 rfl (by decide) rfl ?_ | refine G_iinc3 _ 57 d_Gen_multiplyOut_54 rfl (by decide) rfl rfl ?_
            refine G_goto 13 d_Gen_multiplyOut_57 rfl ?_
            exact ih _ _
          · omega
        · intro i hi ih2
          refine G_iload5 33 d_Gen_multiplyOut_31 rfl ?_
          refine G_iload4 35 d_Gen_multiplyOut_33 rfl ?_
          first | refine G_icgeN 54 38 d_Gen_multiplyOut_35 rfl rfl (by omega) (by omega) (fun h35 => ?_) (fun h35 => ?_) | refine G_icge 54 38 d_Gen_multiplyOut_35 rfl rfl (fun h35 => ?_) (fun h35 => ?_)
          · omega
          · refine G_aload2 39 d_Gen_multiplyOut_38 rfl ?_
            refine G_aload0 40 d_Gen_multiplyOut_39 rfl ?_
            refine G_getR 43 d_Gen_multiplyOut_40 rfl f_Gen_17 rfl (by assumption) (by assumption) ?_
            refine G_iload3 44 d_Gen_multiplyOut_43 rfl ?_
            refine G_aaload 45 d_Gen_multiplyOut_44 rfl (by assumption) (by decide) (by decide) (ix_nI (by omega) (by omega)) (by assumption) ?_
            refine G_invV1v 48 d_Gen_multiplyOut_45 rfl e_Gen_114 M_Poly_multiplyBy rfl (by assumption) (Nat.le_of_ble_eq_true rfl) (Nat.le_of_ble_eq_true rfl) rfl (s_multiplyBy (by assumption) (by assumption) (by first | assumption | omega)) ?_
            rw [sr_sr, sr_at, sr_ne _ _ hqk]
            first | refine G_iincN5 51 d_Gen_multiplyOut_48 rfl (by decide) rfl ?_ | refine G_iinc5 _ 51 d_Gen_multiplyOut_48 rfl (by decide) rfl rfl ?_
            refine G_goto 31 d_Gen_multiplyOut_51 rfl ?_
            exact ih2
      refine G_iload3 14 d_Gen_multiplyOut_13 rfl ?_
      refine G_aload0 15 d_Gen_multiplyOut_14 rfl ?_
      refine G_getI 18 d_Gen_multiplyOut_15 rfl f_Gen_9 rfl (by assumption) ?_
      rw [hn]
      first | refine G_icgeN 60 21 d_Gen_multiplyOut_18 rfl rfl (by omega) (by omega) (fun h18 => ?_) (fun h18 => ?_) | refine G_icge 60 21 d_Gen_multiplyOut_18 rfl rfl (fun h18 => ?_) (fun h18 => ?_)
      · omega
      · refine G_iload1 22 d_Gen_multiplyOut_21 rfl ?_
        refine G_iload3 23 d_Gen_multiplyOut_22 rfl ?_
        refine G_invS2d 26 d_Gen_multiplyOut_23 rfl e_Gen_45 M_Gen_power (Nat.le_of_ble_eq_true rfl) (Nat.le_of_ble_eq_true rfl) rfl (s_power (by omega) (by omega)) ?_
        refine G_istore4 28 d_Gen_multiplyOut_26 rfl (by decide) rfl ?_
        refine G_iconstN 0 29 d_Gen_multiplyOut_28 rfl rfl ?_
        refine G_istore5 31 d_Gen_multiplyOut_29 rfl (by decide) rfl ?_
        exact L2 0 (by omega)
  refine G_aload2 1 d_Gen_multiplyOut_0 rfl ?_
  refine G_invV0v 4 d_Gen_multiplyOut_1 rfl e_Gen_108 M_Poly_becomeZero rfl (by assumption) (Nat.le_of_ble_eq_true rfl) (Nat.le_of_ble_eq_true rfl) rfl (s_becomeZero (by assumption)) ?_
  refine G_aload2 5 d_Gen_multiplyOut_4 rfl ?_
  refine G_getR 8 d_Gen_multiplyOut_5 rfl f_Gen_111 rfl (by assumption) (by assumption) ?_
  refine G_iconstN 0 9 d_Gen_multiplyOut_8 rfl rfl ?_
  refine G_lconst 1 10 d_Gen_multiplyOut_9 rfl rfl ?_
  refine G_lastore 11 d_Gen_multiplyOut_10 rfl (by assumption) (ix_nI (by omega) (by omega)) ?_
  refine G_iconstN 0 12 d_Gen_multiplyOut_11 rfl rfl ?_
  refine G_istore3 13 d_Gen_multiplyOut_12 rfl (by decide) rfl ?_
  rw [u2_sr]
  exact L 0 (by omega) none none
