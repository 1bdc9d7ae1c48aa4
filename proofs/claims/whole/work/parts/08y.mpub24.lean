/-! ===== the reference: poly ===== -/
def plF (row : Nat → Int32) (sz : Nat) (a : Int) : Nat → Nat → Nat × (Nat → Int64) × (Nat → Int64) → Int32 × Nat × (Nat → Int64) × (Nat → Int64)
  | 0, _, q => (0, q)
  | m + 1, i, q => if tlB row sz (a + 4 * (i : Int)) = 0 then plF row sz a m (i + 1) (q.1 + (if q.2.2 (tlT row (a + 4 * (i : Int))) = 0 then 1 else 0), upn q.2.1 (tlT row (a + 4 * (i : Int))) (q.2.1 (tlT row (a + 4 * (i : Int))) + (row (a + 4 * (i : Int)).toNat).toInt64), upn q.2.2 (tlT row (a + 4 * (i : Int))) 1) else (tlB row sz (a + 4 * (i : Int)), q)
def plR (S : ST) (k : Nat) (a : Int) (m : Nat) : Int32 × Nat × (Nat → Int64) × (Nat → Int64) := plF ((tH S).2.2 k) ((tH S).2.1 k) a m 0 (0, (fun _ => 0), (fun _ => 0))
def fPo1 (S : ST) (s : Nat) (R : Int32 × Nat × (Nat → Int64) × (Nat → Int64)) : Int32 × ST := if R.1 = 0 then (nI R.2.1, set1 S s R.2.2.1) else (R.1, S)
def fPoly (S : ST) (s x a m : Int32) : Int32 × ST := if (bN s 6 && bN x 4 && bN m 11) = true then
    (if (tH S).1 (ni x) = -1 then (-11, S) else fPo1 S (ni s) (plR S (ni x) a.toInt (ni m))) else (-1, S)
theorem MIv.f27 {S : ST} {FI FJ AI : FT} {AL : LT} {b : Nat} (h : MIv S FI AI AL b) (k : ∀ j, j ≠ 27 → FJ b j = FI b j) : MIv S FJ AI AL b := by
  obtain ⟨g, a1, a2, a3, a4, a5, a6⟩ := h.de
  exact MIv.mk ⟨g.1, by rw [k 9 (by omega)]; exact g.2.1, g.2.2⟩ (by rw [k 8 (by omega)]; exact a1) a2 (a3.tr (k 23 (by omega)) (k 24 (by omega)) rfl rfl) a4 (a5.tr (k 48 (by omega)) rfl rfl rfl) (a6.tr (k 19 (by omega)) (k 17 (by omega)) (k 18 (by omega)) rfl rfl rfl rfl)
theorem posI {a : Int32} {i : Nat} (hi : i ≤ 10) : (a.toInt64 + 4 * (nI i).toInt64).toInt = a.toInt + 4 * (i : Int) := by
  have h1 := Int32.toInt_lt a
  have h2 := Int32.le_toInt a
  rw [Int64.toInt_add, Int64.toInt_mul, toL, toL, nI_toInt (by omega), show (4 : Int64).toInt = 4 from rfl, Int.bmod_eq_of_le_mul_two (x := 4 * (i : Int)) (by omega) (by omega), Int.bmod_eq_of_le_mul_two (by omega) (by omega)]
theorem m_poly {V : GV} {d b : Nat} {S : ST} {s x a m : Int32} {X : XT} {FI AI : FT} {AL : LT} (h : MO X b) (hI : MIv S FI AI AL b) (hW : WS S) : G V m_Mod_poly (d + 3) 0 [some (.ref b), some (.int s), some (.int x), some (.int a), some (.int m), none, none] [] X FI AI AL (fun r X' FI' AI' AL' => r = some (.int (fPoly S s x a m).1) ∧ X' = X ∧ MIv (fPoly S s x a m).2 FI' AI' AL' b ∧ fM FI FI' AI AI' AL AL' b) := by
  obtain ⟨hG, hO, hSl, -⟩ := id hI
  have hT := hG.1
  have hn9 := hG.2.1
  have ho := hG.2.2.1
  have hrk := hG.2.2.2.1
  have hn7 := hW.2.1.1
  obtain ⟨-, -, -, -, a4, -, -⟩ := hI.de
  have kw : ((0 : Int64).toInt ≤ m.toInt64.toInt ∧ m.toInt64.toInt ≤ (10 : Int64).toInt) ↔ isN m 11 := by
    rw [toL, isN_iff (by omega), show (0 : Int64).toInt = 0 from rfl, show (10 : Int64).toInt = 10 from rfl]; omega
  refine G_iload1 1 d_Mod_poly_0 rfl ?_
  refine G_invS1b 4 d_Mod_poly_1 rfl e_Mod_182 M_Mod_isSlot (Nat.le_of_ble_eq_true rfl) (Nat.le_of_ble_eq_true rfl) rfl (s_mIsSlot) (fun h1 => G_ifeq1 7 d_Mod_poly_4 27 rfl rfl ?_) (fun h1 => G_ifeq0 7 d_Mod_poly_4 27 rfl rfl ?_)
  · obtain ⟨s, hs, rfl⟩ := h1
    have q1 := bN_t hs (show 6 < 2 ^ 31 by omega)
    have z1 := ni_nI (show s < 2 ^ 31 by omega)
    refine G_iload2 8 d_Mod_poly_7 rfl ?_
    refine G_invS1b 11 d_Mod_poly_8 rfl e_Mod_261 M_Mod_isSheet (Nat.le_of_ble_eq_true rfl) (Nat.le_of_ble_eq_true rfl) rfl (s_mIsSheet) (fun h8 => G_ifeq1 14 d_Mod_poly_11 27 rfl rfl ?_) (fun h8 => G_ifeq0 14 d_Mod_poly_11 27 rfl rfl ?_)
    · obtain ⟨k, hk, rfl⟩ := h8
      have q2 := bN_t hk (show 4 < 2 ^ 31 by omega)
      have z2 := ni_nI (show k < 2 ^ 31 by omega)
      refine G_iload4 16 d_Mod_poly_14 rfl ?_
      refine G_i2l 17 d_Mod_poly_16 rfl ?_
      refine G_lconst 0 18 d_Mod_poly_17 rfl rfl ?_
      refine G_ldc2 21 d_Mod_poly_18 rfl k_Mod_264 ?_
      refine G_invS3b 24 d_Mod_poly_21 rfl e_Mod_139 M_Mod_in (Nat.le_of_ble_eq_true rfl) (Nat.le_of_ble_eq_true rfl) rfl (s_mIn) (fun h21 => G_ifne1 27 d_Mod_poly_24 29 rfl rfl ?_) (fun h21 => G_ifne0 27 d_Mod_poly_24 29 rfl rfl ?_)
      · obtain ⟨m, hm, rfl⟩ := kw.mp h21
        have q3 := bN_t hm (show 11 < 2 ^ 31 by omega)
        have z3 := ni_nI (show m < 2 ^ 31 by omega)
        clear kw h21
        simp only [fPoly, q1, q2, q3, z1, z2, z3, Bool.and_self, if_true]
        obtain ⟨c1, c2, c3⟩ := a4 k hk
        have hws := hW.2.2.2.2.1 k hk
        have hsz : (tH S).2.1 k ≤ 40 := by
          rcases hws with ⟨-, e⟩ | ⟨-, e⟩ <;> omega
        by_cases hm1 : (tH S).1 k = -1
        · simp only [if_pos hm1]
          have c1' : AI (b + 37) k = -1 := by rw [c1, hm1]
          refine G_aload0 30 d_Mod_poly_29 rfl ?_
          refine G_getR 33 d_Mod_poly_30 rfl f_Mod_121 rfl h.sh h.f52 ?_
          refine G_iload2 34 d_Mod_poly_33 rfl ?_
          refine G_ialoadv 35 d_Mod_poly_34 rfl h.s52 (ix_nI (by omega) (by omega)) c1' ?_
          refine G_ifge 41 38 d_Mod_poly_35 rfl rfl (fun h35 => ?_) (fun h35 => ?_)
          · exact absurd h35 (by decide)
          · refine G_bipush (-11) 40 d_Mod_poly_38 rfl rfl ?_
            refine G_iret d_Mod_poly_40 rfl ?_
            exact ⟨rfl, rfl, hI, fM.rf⟩
        · have pc : 0 ≤ (tH S).1 k := by
            rcases hws with ⟨e, -⟩ | ⟨e | e, -⟩
            · exact absurd e hm1
            · rw [e]; decide
            · rw [e]; decide
          simp only [if_neg hm1]
          have L : ∀ i, i ≤ m → ∀ (q : Nat × (Nat → Int64) × (Nat → Int64)) (FJ : FT) (AJ : LT) (v6 : Option Value), (∀ c, c ≠ b → FJ c = FI c) → (∀ j, j ≠ 27 → FJ b j = FI b j) → FJ b 27 = nI q.1 → (∀ c, c ≠ b + 1 → AJ c = AL c) → mp AJ b 13 = q.2.1 → mp AJ b 14 = q.2.2 → (∀ p, p < 13 → mp AJ b p = mp AL b p) → plF ((tH S).2.2 k) ((tH S).2.1 k) a.toInt (m - i) i q = plR S k a.toInt m → G V m_Mod_poly (d + 3) 61 [some (.ref b), some (.int (nI s)), some (.int (nI k)), some (.int a), some (.int (nI m)), some (.int (nI i)), v6] [] X FJ AI AJ (fun r X' FI' AI' AL' => r = some (.int (fPo1 S s (plR S k a.toInt m)).1) ∧ X' = X ∧ MIv (fPo1 S s (plR S k a.toInt m)).2 FI' AI' AL' b ∧ fM FI FI' AI AI' AL AL' b) := by
            refine upto ?_ ?_
            · intro q FJ AJ v6 k1 k2 k3 k4 k5 k6 k7 k8
              rw [Nat.sub_self, plF] at k8
              rw [← k8]
              have e0 : fPo1 S s (0, q) = (nI q.1, set1 S s q.2.1) := if_pos rfl
              rw [e0]
              refine G_iload5 63 d_Mod_poly_61 rfl ?_
              refine G_iload4 65 d_Mod_poly_63 rfl ?_
              first | refine G_icgeN 101 68 d_Mod_poly_65 rfl rfl (by omega) (by omega) (fun h65 => ?_) (fun h65 => ?_) | refine G_icge 101 68 d_Mod_poly_65 rfl rfl (fun h65 => ?_) (fun h65 => ?_)
              · refine G_aload0 102 d_Mod_poly_101 rfl ?_
                refine G_bipushN 13 104 d_Mod_poly_102 rfl rfl ?_
                refine G_iload1 105 d_Mod_poly_104 rfl ?_
                refine G_invV2v 108 d_Mod_poly_105 rfl e_Mod_208 M_Mod_copyTo rfl h.sh (Nat.le_of_ble_eq_true rfl) (Nat.le_of_ble_eq_true rfl) rfl (s_mCopy (by assumption) (by omega) (by omega)) ?_
                refine G_aload0 109 d_Mod_poly_108 rfl ?_
                refine G_getIv 112 d_Mod_poly_109 rfl f_Mod_258 rfl h.sh k3 ?_
                refine G_iret d_Mod_poly_112 rfl ?_
                refine ⟨rfl, rfl, (hI.f27 k2).s1 hW hs (fun c hc => by rw [sp_off hc]; exact k4 c hc) ?_ (fun p hp hne => by rw [mp_spn hne]; exact k7 p hp), fun c hc => ⟨k1 c (by omega), rfl, by rw [sp_off (by omega)]; exact k4 c (by omega)⟩⟩
                rw [mp_sp, ← k5]
                funext t; unfold cu mp; split <;> rfl
              · omega
            · intro i hi ih q FJ AJ v6 k1 k2 k3 k4 k5 k6 k7 k8
              have ha1 := Int32.toInt_lt a
              have ha2 := Int32.le_toInt a
              have hto := s_mTellOne (V := V) (d := d) (n := q.1) (row := (tH S).2.2 k) (sz := (tH S).2.1 k) (FI := FJ) (AI := AI) (AL := AJ) h hT hk c2 hsz c3 (posI (a := a) (i := i) (by omega)) (by omega) (by omega) k3
              rw [show m - i = (m - (i + 1)) + 1 by omega, plF] at k8
              refine G_iload5 63 d_Mod_poly_61 rfl ?_
              refine G_iload4 65 d_Mod_poly_63 rfl ?_
              first | refine G_icgeN 101 68 d_Mod_poly_65 rfl rfl (by omega) (by omega) (fun h65 => ?_) (fun h65 => ?_) | refine G_icge 101 68 d_Mod_poly_65 rfl rfl (fun h65 => ?_) (fun h65 => ?_)
              · omega
              · refine G_aload0 69 d_Mod_poly_68 rfl ?_
                refine G_bipushN 13 71 d_Mod_poly_69 rfl rfl ?_
                refine G_iload2 72 d_Mod_poly_71 rfl ?_
                refine G_iload3 73 d_Mod_poly_72 rfl ?_
                refine G_i2l 74 d_Mod_poly_73 rfl ?_
                refine G_ldc2 77 d_Mod_poly_74 rfl k_Mod_237 ?_
                refine G_iload5 79 d_Mod_poly_77 rfl ?_
                refine G_i2l 80 d_Mod_poly_79 rfl ?_
                refine G_lmul 81 d_Mod_poly_80 rfl ?_
                refine G_ladd 82 d_Mod_poly_81 rfl ?_
                refine G_invV3 85 d_Mod_poly_82 rfl e_Mod_266 M_Mod_tellOne rfl h.sh (Nat.le_of_ble_eq_true rfl) (Nat.le_of_ble_eq_true rfl) rfl (G.conseq (hto) (fun r82 X82 FI82 AI82 AL82 h82 => ?_))
                obtain ⟨t1, t2, t3, t4, t5⟩ := h82
                replace t1 := t1.symm
                replace t2 := t2.symm
                subst t1 t2 t3
                by_cases hB : tlB ((tH S).2.2 k) ((tH S).2.1 k) (a.toInt + 4 * (i : Int)) = 0
                · obtain ⟨u1, u2', u3, u4, u5, u6⟩ := t5 hB
                  rw [if_pos hB] at k8
                  refine G_istore6 87 d_Mod_poly_85 rfl (by decide) rfl ?_
                  refine G_iload6 89 d_Mod_poly_87 rfl ?_
                  refine G_ifeq 95 92 d_Mod_poly_89 rfl rfl (fun h89 => ?_) (fun h89 => ?_)
                  · first | refine G_iincN5 98 d_Mod_poly_95 rfl (by decide) rfl ?_ | refine G_iinc5 _ 98 d_Mod_poly_95 rfl (by decide) rfl rfl ?_
                    refine G_goto 61 d_Mod_poly_98 rfl ?_
                    refine ih _ _ _ _ (fun c hc => ?_) (fun j hj => ?_) ?_ (fun c hc => by rw [u3 c hc]; exact k4 c hc) ?_ ?_ (fun p hp => by rw [u6 p hp]; exact k7 p hp) k8
                    · rw [u2', u2_off _ _ _ hc]; exact k1 c hc
                    · rw [u2', u2_ix _ _ hj]; exact k2 j hj
                    · rw [u2', u2_at, k6]
                    · rw [u4, k5]
                    · rw [u5, k6]
                  · exact absurd hB h89
                · obtain ⟨u1, u2'⟩ := t4 hB
                  subst u1 u2'
                  rw [if_neg hB] at k8
                  rw [← k8]
                  have e0 : ∀ v : Int32, ¬ v = 0 → fPo1 S s (v, q) = (v, S) := fun v hv => if_neg hv
                  rw [e0 _ hB]
                  refine G_istore6 87 d_Mod_poly_85 rfl (by decide) rfl ?_
                  refine G_iload6 89 d_Mod_poly_87 rfl ?_
                  refine G_ifeq 95 92 d_Mod_poly_89 rfl rfl (fun h89 => ?_) (fun h89 => ?_)
                  · exact absurd h89 hB
                  · refine G_iload6 94 d_Mod_poly_92 rfl ?_
                    refine G_iret d_Mod_poly_94 rfl ?_
                    exact ⟨rfl, rfl, (hI.f27 k2).wk hW k4 k7, fun c hc => ⟨k1 c (by omega), rfl, k4 c (by omega)⟩⟩
          refine G_aload0 30 d_Mod_poly_29 rfl ?_
          refine G_getR 33 d_Mod_poly_30 rfl f_Mod_121 rfl h.sh h.f52 ?_
          refine G_iload2 34 d_Mod_poly_33 rfl ?_
          refine G_ialoadv 35 d_Mod_poly_34 rfl h.s52 (ix_nI (by omega) (by omega)) c1 ?_
          refine G_ifge 41 38 d_Mod_poly_35 rfl rfl (fun h35 => ?_) (fun h35 => ?_)
          · refine G_aload0 42 d_Mod_poly_41 rfl ?_
            refine G_bipushN 13 44 d_Mod_poly_42 rfl rfl ?_
            refine G_invV1v 47 d_Mod_poly_44 rfl e_Mod_162 M_Mod_clearAt rfl h.sh (Nat.le_of_ble_eq_true rfl) (Nat.le_of_ble_eq_true rfl) rfl (s_mClear (by assumption) (by omega)) ?_
            refine G_aload0 48 d_Mod_poly_47 rfl ?_
            refine G_bipushN 14 50 d_Mod_poly_48 rfl rfl ?_
            refine G_invV1v 53 d_Mod_poly_50 rfl e_Mod_162 M_Mod_clearAt rfl h.sh (Nat.le_of_ble_eq_true rfl) (Nat.le_of_ble_eq_true rfl) rfl (s_mClear (by assumption) (by omega)) ?_
            refine G_aload0 54 d_Mod_poly_53 rfl ?_
            refine G_iconstN 0 55 d_Mod_poly_54 rfl rfl ?_
            refine G_putI 58 d_Mod_poly_55 rfl f_Mod_258 rfl (by intro C T N h; cases h; rfl) h.sh rfl rfl ?_
            refine G_iconstN 0 59 d_Mod_poly_58 rfl rfl ?_
            refine G_istore5 61 d_Mod_poly_59 rfl (by decide) rfl ?_
            have cz : cu (fun _ => (0 : Int64)) = fun _ => 0 := by funext t; unfold cu; split <;> rfl
            exact L 0 (by omega) (0, (fun _ => 0), (fun _ => 0)) _ _ _ (fun c hc => u2_off _ _ _ hc) (fun j hj => u2_ix _ _ hj) (u2_at _ _ _ _) (fun c hc => by rw [sp_off hc, sp_off hc]) (by rw [mp_spn (by omega), mp_sp]; exact cz) (by rw [mp_sp]; exact cz) (fun p hp => by rw [mp_spn (by omega), mp_spn (by omega)]) rfl
          · exact absurd pc h35
      · have q3 := bN_f (fun e => h21 (kw.mpr e)) (show 11 < 2 ^ 31 by omega)
        simp only [fPoly, q3, Bool.and_false, Bool.false_eq_true, if_false]
        refine G_iconst (-1) 28 d_Mod_poly_27 rfl rfl ?_
        refine G_iret d_Mod_poly_28 rfl ?_
        exact ⟨rfl, rfl, hI, fM.rf⟩
    · have q2 := bN_f h8 (show 4 < 2 ^ 31 by omega)
      simp only [fPoly, q2, Bool.and_false, Bool.false_and, Bool.false_eq_true, if_false]
      refine G_iconst (-1) 28 d_Mod_poly_27 rfl rfl ?_
      refine G_iret d_Mod_poly_28 rfl ?_
      exact ⟨rfl, rfl, hI, fM.rf⟩
  · have q1 := bN_f h1 (show 6 < 2 ^ 31 by omega)
    simp only [fPoly, q1, Bool.false_and, Bool.false_eq_true, if_false]
    refine G_iconst (-1) 28 d_Mod_poly_27 rfl rfl ?_
    refine G_iret d_Mod_poly_28 rfl ?_
    exact ⟨rfl, rfl, hI, fM.rf⟩
