/-! ===== the reference: products, TURNS, what is worth ===== -/
theorem upTo_ok : ∀ m, m < 8 → (dI m + 1) * (dI m + 2) * (dI m + 3) / 6 = nI (eS m) := by decide +kernel
theorem s_mUpTo {V : GV} {d m : Nat} {X : XT} {FI AI : FT} {AL : LT} (hm : m ≤ 7) : G V m_Mod_upTo d 0 [some (.int (dI m))] [] X FI AI AL (Pd (some (.int (nI (eS m)))) X FI AI AL) := by
  refine G_iload0 1 d_Mod_upTo_0 rfl ?_
  refine G_iconst (1) 2 d_Mod_upTo_1 rfl rfl ?_
  refine G_iadd 3 d_Mod_upTo_2 rfl ?_
  refine G_iload0 4 d_Mod_upTo_3 rfl ?_
  refine G_iconst (2) 5 d_Mod_upTo_4 rfl rfl ?_
  refine G_iadd 6 d_Mod_upTo_5 rfl ?_
  refine G_imul 7 d_Mod_upTo_6 rfl ?_
  refine G_iload0 8 d_Mod_upTo_7 rfl ?_
  refine G_iconst (3) 9 d_Mod_upTo_8 rfl rfl ?_
  refine G_iadd 10 d_Mod_upTo_9 rfl ?_
  refine G_imul 11 d_Mod_upTo_10 rfl ?_
  refine G_bipush (6) 13 d_Mod_upTo_11 rfl rfl ?_
  refine G_idiv 14 d_Mod_upTo_13 rfl (by decide) ?_
  refine G_iret d_Mod_upTo_14 rfl ?_
  exact ⟨by rw [← upTo_ok m (by omega)], rfl, rfl, rfl, rfl⟩
theorem eS_up0 : ((List.range 8).all fun m => (List.range 84).all fun u => decide (eS m ≤ 84 ∧ (u < eS m ↔ eD u < m))) = true := by decide +kernel
theorem eS_up {m u : Nat} (hm : m < 8) (hu : u < 84) : eS m ≤ 84 ∧ (u < eS m ↔ eD u < m) := of_decide_eq_true (all2 eS_up0 hm hu)
theorem deg1_lt {f : Nat → Int64} : ∀ k u, k ≤ 84 → u < k → f u ≠ 0 → eD u < pdeg f k
  | 0, _, _, h, _ => absurd h (by omega)
  | k + 1, u, hk, hu, hf => by
    rw [pdeg]
    split
    · next e =>
      refine deg1_lt k u (by omega) ?_ hf
      rcases Nat.lt_or_ge u k with h | h
      · exact h
      · exact absurd (by rw [show u = k by omega]; exact e) hf
    · have := eD_mono (i := u) (j := k) (by omega) (by omega)
      omega
theorem s_mSpread {V : GV} {d b t q p : Nat} {c : Int64} {X : XT} {FI AI : FT} {AL : LT} (h : MO X b) (hT : MTb AI b) (ht : t < 84) (hq : q < 20) (hp : p < 20) (hpq : q ≠ p) (hd : ∀ u, u < 84 → mp AL b q u ≠ 0 → eD t + eD u ≤ 6) :
    G V m_Mod_spreadOne (d + 1) 0 [some (.ref b), some (.int (nI t)), some (.long c), none, some (.int (nI q)), some (.int (nI p)), some (.int (nI (eS (deg1 (mp AL b q))))), none, none, none, none] [] X FI AI AL (Pd none X FI AI (sp AL b p (fun j => mp AL b p j + if dv t j = true then c * mp AL b q (quo t j) else 0))) := by
  have hm7 := pdeg_le (mp AL b q) 84 (by omega)
  have hE := (eS_up (m := deg1 (mp AL b q)) (u := 0) (by unfold deg1; omega) (by omega)).1
  have L : ∀ u, u ≤ eS (deg1 (mp AL b q)) → ∀ l8 l9 l10 : Option Value, G V m_Mod_spreadOne (d + 1) 3 [some (.ref b), some (.int (nI t)), some (.long c), none, some (.int (nI q)), some (.int (nI p)), some (.int (nI (eS (deg1 (mp AL b q))))), some (.int (nI u)), l8, l9, l10] [] X FI AI (sp AL b p (fun j => mp AL b p j + if dv t j = true ∧ quo t j < u then c * mp AL b q (quo t j) else 0)) (Pd none X FI AI (sp AL b p (fun j => mp AL b p j + if dv t j = true then c * mp AL b q (quo t j) else 0))) := by
    refine upto ?_ ?_
    · intro l8 l9 l10
      rw [sp_congr (f := fun j => mp AL b p j + if dv t j = true ∧ quo t j < eS (deg1 (mp AL b q)) then c * mp AL b q (quo t j) else 0) (g := fun j => mp AL b p j + if dv t j = true then c * mp AL b q (quo t j) else 0) (fun j hj => by
        by_cases c1 : dv t j = true
        · have hqk := (quo_ok ht hj c1).1
          by_cases c2 : quo t j < eS (deg1 (mp AL b q))
          · simp only [c1, c2, and_self]
          · have : mp AL b q (quo t j) = 0 := Classical.byContradiction (fun e => c2 ((eS_up (by unfold deg1; omega) hqk).2.mpr (deg1_lt 84 _ (by omega) hqk e)))
            simp only [c1, c2, and_false, if_false, if_true, this, Int64.mul_zero]
        · simp only [c1, false_and]; rfl)]
      refine G_iload7 5 d_Mod_spreadOne_3 rfl ?_
      refine G_iload6 7 d_Mod_spreadOne_5 rfl ?_
      first | refine G_icgeN 106 10 d_Mod_spreadOne_7 rfl rfl (by omega) (by omega) (fun h7 => ?_) (fun h7 => ?_) | refine G_icge 106 10 d_Mod_spreadOne_7 rfl rfl (fun h7 => ?_) (fun h7 => ?_)
      · refine G_vret d_Mod_spreadOne_106 rfl ?_
        exact Pd.rf
      · omega
    · intro u hu ih l8 l9 l10
      have hu84 : u < 84 := by omega
      have e0 : sp AL b p (fun j => mp AL b p j + if dv t j = true ∧ quo t j < u then c * mp AL b q (quo t j) else 0) (b + 1) (84 * q + u) = mp AL b q u := sp_rdn hu84 hpq
      have T1 := hT.1 t ht
      have T2 := hT.1 u hu84
      by_cases hz : mp AL b q u = 0
      · rw [sp_congr (f := fun j => mp AL b p j + if dv t j = true ∧ quo t j < u then c * mp AL b q (quo t j) else 0) (g := fun j => mp AL b p j + if dv t j = true ∧ quo t j < u + 1 then c * mp AL b q (quo t j) else 0) (fun j hj => by
          by_cases c1 : dv t j = true
          · by_cases c2 : quo t j < u
            · rw [if_pos ⟨c1, c2⟩, if_pos ⟨c1, by omega⟩]
            · rw [if_neg (fun e => c2 e.2)]
              by_cases c3 : quo t j < u + 1
              · rw [if_pos ⟨c1, c3⟩, show quo t j = u by omega, hz, Int64.mul_zero]
              · rw [if_neg (fun e => c3 e.2)]
          · rw [if_neg (fun e => c1 e.1), if_neg (fun e => c1 e.1)])] at e0 ⊢
        refine G_iload7 5 d_Mod_spreadOne_3 rfl ?_
        refine G_iload6 7 d_Mod_spreadOne_5 rfl ?_
        first | refine G_icgeN 106 10 d_Mod_spreadOne_7 rfl rfl (by omega) (by omega) (fun h7 => ?_) (fun h7 => ?_) | refine G_icge 106 10 d_Mod_spreadOne_7 rfl rfl (fun h7 => ?_) (fun h7 => ?_)
        · omega
        · refine G_aload0 11 d_Mod_spreadOne_10 rfl ?_
          refine G_getR 14 d_Mod_spreadOne_11 rfl f_Mod_9 rfl h.sh h.f0 ?_
          refine G_bipushN 84 16 d_Mod_spreadOne_14 rfl rfl ?_
          refine G_iload4 18 d_Mod_spreadOne_16 rfl ?_
          first | refine G_imulN 19 d_Mod_spreadOne_18 rfl ?_ | refine G_imul 19 d_Mod_spreadOne_18 rfl ?_
          refine G_iload7 21 d_Mod_spreadOne_19 rfl ?_
          first | refine G_iaddN 22 d_Mod_spreadOne_21 rfl ?_ | refine G_iadd 22 d_Mod_spreadOne_21 rfl ?_
          refine G_laloadv 23 d_Mod_spreadOne_22 rfl h.s0 (ix_nI (by omega) (by omega)) e0 ?_
          refine G_lstore8 25 d_Mod_spreadOne_23 rfl (by decide) rfl ?_
          refine G_lload8 27 d_Mod_spreadOne_25 rfl ?_
          refine G_lconst 0 28 d_Mod_spreadOne_27 rfl rfl ?_
          refine G_lceq 100 32 d_Mod_spreadOne_28 d_Mod_spreadOne_29 rfl rfl (fun h28 => ?_) (fun h28 => ?_)
          · first | refine G_iincN7 103 d_Mod_spreadOne_100 rfl (by decide) rfl ?_ | refine G_iinc7 _ 103 d_Mod_spreadOne_100 rfl (by decide) rfl rfl ?_
            refine G_goto 3 d_Mod_spreadOne_103 rfl ?_
            exact ih _ _ _
          · exact absurd hz h28
      · have hdg := hd u hu84 hz
        obtain ⟨w1, w2, w3, w4, w5, w6⟩ := mul_ok ht hu84 hdg
        have et := e_le ht
        have eu := e_le hu84
        have e1 : sp AL b p (fun j => mp AL b p j + if dv t j = true ∧ quo t j < u then c * mp AL b q (quo t j) else 0) (b + 1) (84 * p + mulT t u) = mp AL b p (mulT t u) := by
          rw [sp_rd w1, if_neg (fun e => by have := e.2; omega), Int64.add_zero]
        have e2 : u2 (sp AL b p (fun j => mp AL b p j + if dv t j = true ∧ quo t j < u then c * mp AL b q (quo t j) else 0)) (b + 1) (84 * p + mulT t u) (mp AL b p (mulT t u) + c * mp AL b q u) = sp AL b p (fun j => mp AL b p j + if dv t j = true ∧ quo t j < u + 1 then c * mp AL b q (quo t j) else 0) := by
          rw [sp_u2 w1]
          refine sp_congr (fun j hj => ?_)
          by_cases c0 : j = mulT t u
          · rw [if_pos c0, c0, if_pos ⟨w2, by omega⟩, w3]
          · rw [if_neg c0]
            congr 1
            by_cases c1 : dv t j = true
            · have c2 : quo t j ≠ u := fun e => c0 (by rw [← e]; exact (quo_ok ht hj c1).2.2.symm)
              by_cases c3 : quo t j < u
              · rw [if_pos ⟨c1, c3⟩, if_pos ⟨c1, by omega⟩]
              · rw [if_neg (fun e => c3 e.2), if_neg (fun e => by have := e.2; omega)]
            · rw [if_neg (fun e => c1 e.1), if_neg (fun e => c1 e.1)]
        have e3 : pl (eX t + eX u) (eY t + eY u) (eZ t + eZ u) = mulT t u := rfl
        refine G_iload7 5 d_Mod_spreadOne_3 rfl ?_
        refine G_iload6 7 d_Mod_spreadOne_5 rfl ?_
        first | refine G_icgeN 106 10 d_Mod_spreadOne_7 rfl rfl (by omega) (by omega) (fun h7 => ?_) (fun h7 => ?_) | refine G_icge 106 10 d_Mod_spreadOne_7 rfl rfl (fun h7 => ?_) (fun h7 => ?_)
        · omega
        · refine G_aload0 11 d_Mod_spreadOne_10 rfl ?_
          refine G_getR 14 d_Mod_spreadOne_11 rfl f_Mod_9 rfl h.sh h.f0 ?_
          refine G_bipushN 84 16 d_Mod_spreadOne_14 rfl rfl ?_
          refine G_iload4 18 d_Mod_spreadOne_16 rfl ?_
          first | refine G_imulN 19 d_Mod_spreadOne_18 rfl ?_ | refine G_imul 19 d_Mod_spreadOne_18 rfl ?_
          refine G_iload7 21 d_Mod_spreadOne_19 rfl ?_
          first | refine G_iaddN 22 d_Mod_spreadOne_21 rfl ?_ | refine G_iadd 22 d_Mod_spreadOne_21 rfl ?_
          refine G_laloadv 23 d_Mod_spreadOne_22 rfl h.s0 (ix_nI (by omega) (by omega)) e0 ?_
          refine G_lstore8 25 d_Mod_spreadOne_23 rfl (by decide) rfl ?_
          refine G_lload8 27 d_Mod_spreadOne_25 rfl ?_
          refine G_lconst 0 28 d_Mod_spreadOne_27 rfl rfl ?_
          refine G_lceq 100 32 d_Mod_spreadOne_28 d_Mod_spreadOne_29 rfl rfl (fun h28 => ?_) (fun h28 => ?_)
          · exact absurd h28 hz
          · refine G_aload0 33 d_Mod_spreadOne_32 rfl ?_
            refine G_aload0 34 d_Mod_spreadOne_33 rfl ?_
            refine G_getR 37 d_Mod_spreadOne_34 rfl f_Mod_18 rfl h.sh h.f2 ?_
            refine G_iload1 38 d_Mod_spreadOne_37 rfl ?_
            refine G_ialoadv 39 d_Mod_spreadOne_38 rfl h.s2 (ix_nI (by omega) (by omega)) T1.1 ?_
            refine G_aload0 40 d_Mod_spreadOne_39 rfl ?_
            refine G_getR 43 d_Mod_spreadOne_40 rfl f_Mod_18 rfl h.sh h.f2 ?_
            refine G_iload7 45 d_Mod_spreadOne_43 rfl ?_
            refine G_ialoadv 46 d_Mod_spreadOne_45 rfl h.s2 (ix_nI (by omega) (by omega)) T2.1 ?_
            first | refine G_iaddN 47 d_Mod_spreadOne_46 rfl ?_ | refine G_iadd 47 d_Mod_spreadOne_46 rfl ?_
            refine G_aload0 48 d_Mod_spreadOne_47 rfl ?_
            refine G_getR 51 d_Mod_spreadOne_48 rfl f_Mod_22 rfl h.sh h.f3 ?_
            refine G_iload1 52 d_Mod_spreadOne_51 rfl ?_
            refine G_ialoadv 53 d_Mod_spreadOne_52 rfl h.s3 (ix_nI (by omega) (by omega)) T1.2.1 ?_
            refine G_aload0 54 d_Mod_spreadOne_53 rfl ?_
            refine G_getR 57 d_Mod_spreadOne_54 rfl f_Mod_22 rfl h.sh h.f3 ?_
            refine G_iload7 59 d_Mod_spreadOne_57 rfl ?_
            refine G_ialoadv 60 d_Mod_spreadOne_59 rfl h.s3 (ix_nI (by omega) (by omega)) T2.2.1 ?_
            first | refine G_iaddN 61 d_Mod_spreadOne_60 rfl ?_ | refine G_iadd 61 d_Mod_spreadOne_60 rfl ?_
            refine G_aload0 62 d_Mod_spreadOne_61 rfl ?_
            refine G_getR 65 d_Mod_spreadOne_62 rfl f_Mod_25 rfl h.sh h.f4 ?_
            refine G_iload1 66 d_Mod_spreadOne_65 rfl ?_
            refine G_ialoadv 67 d_Mod_spreadOne_66 rfl h.s4 (ix_nI (by omega) (by omega)) T1.2.2 ?_
            refine G_aload0 68 d_Mod_spreadOne_67 rfl ?_
            refine G_getR 71 d_Mod_spreadOne_68 rfl f_Mod_25 rfl h.sh h.f4 ?_
            refine G_iload7 73 d_Mod_spreadOne_71 rfl ?_
            refine G_ialoadv 74 d_Mod_spreadOne_73 rfl h.s4 (ix_nI (by omega) (by omega)) T2.2.2 ?_
            first | refine G_iaddN 75 d_Mod_spreadOne_74 rfl ?_ | refine G_iadd 75 d_Mod_spreadOne_74 rfl ?_
            refine G_invV3d 78 d_Mod_spreadOne_75 rfl e_Mod_176 M_Mod_termOf rfl h.sh (Nat.le_of_ble_eq_true rfl) (Nat.le_of_ble_eq_true rfl) rfl (s_mTermOf (by assumption) (by assumption) (by omega)) ?_
            rw [e3]
            refine G_istore10 80 d_Mod_spreadOne_78 rfl (by decide) rfl ?_
            refine G_aload0 81 d_Mod_spreadOne_80 rfl ?_
            refine G_getR 84 d_Mod_spreadOne_81 rfl f_Mod_9 rfl h.sh h.f0 ?_
            refine G_bipushN 84 86 d_Mod_spreadOne_84 rfl rfl ?_
            refine G_iload5 88 d_Mod_spreadOne_86 rfl ?_
            first | refine G_imulN 89 d_Mod_spreadOne_88 rfl ?_ | refine G_imul 89 d_Mod_spreadOne_88 rfl ?_
            refine G_iload10 91 d_Mod_spreadOne_89 rfl ?_
            first | refine G_iaddN 92 d_Mod_spreadOne_91 rfl ?_ | refine G_iadd 92 d_Mod_spreadOne_91 rfl ?_
            refine G_dup2 93 d_Mod_spreadOne_92 rfl rfl rfl ?_
            refine G_laloadv 94 d_Mod_spreadOne_93 rfl h.s0 (ix_nI (by omega) (by omega)) e1 ?_
            refine G_lload2 95 d_Mod_spreadOne_94 rfl ?_
            refine G_lload8 97 d_Mod_spreadOne_95 rfl ?_
            refine G_lmul 98 d_Mod_spreadOne_97 rfl ?_
            refine G_ladd 99 d_Mod_spreadOne_98 rfl ?_
            refine G_lastore 100 d_Mod_spreadOne_99 rfl h.s0 (ix_nI (by omega) (by omega)) ?_
            first | refine G_iincN7 103 d_Mod_spreadOne_100 rfl (by decide) rfl ?_ | refine G_iinc7 _ 103 d_Mod_spreadOne_100 rfl (by decide) rfl rfl ?_
            refine G_goto 3 d_Mod_spreadOne_103 rfl ?_
            rw [e2]
            exact ih _ _ _
  refine G_iconstN 0 1 d_Mod_spreadOne_0 rfl rfl ?_
  refine G_istore7 3 d_Mod_spreadOne_1 rfl (by decide) rfl ?_
  have := L 0 (by omega) none none none
  rw [sp_congr (f := fun j => mp AL b p j + if dv t j = true ∧ quo t j < 0 then c * mp AL b q (quo t j) else 0) (g := mp AL b p) (fun j hj => by rw [if_neg (fun e => by omega), Int64.add_zero]), sp_self] at this
  exact this
/-- what the TERMS below n bring -/
def asum (f g : Nat → Int64) (j : Nat) : Nat → Int64
  | 0 => 0
  | n + 1 => asum f g j n + tm f g j n
def rsum (w : Nat → Int64) : Nat → Int64
  | 0 => 0
  | n + 1 => rsum w n + w n
theorem rsum_congr {w w' : Nat → Int64} : ∀ {n : Nat}, (∀ i, i < n → w i = w' i) → rsum w n = rsum w' n
  | 0, _ => rfl
  | n + 1, h => by rw [rsum, rsum, h n (by omega), rsum_congr (fun i hi => h i (by omega))]
theorem rsum_hd (w : Nat → Int64) : ∀ n, rsum w (n + 1) = w 0 + rsum (fun i => w (i + 1)) n
  | 0 => by rw [rsum, rsum, rsum, Int64.zero_add, Int64.add_zero]
  | n + 1 => by rw [rsum, rsum_hd w n, rsum, Int64.add_assoc]
theorem rsum_rev (w : Nat → Int64) : ∀ n, rsum w n = rsum (fun i => w (n - 1 - i)) n
  | 0 => rfl
  | n + 1 => by
    rw [rsum, rsum_rev w n, rsum_hd, Int64.add_comm, show n + 1 - 1 - 0 = n by omega]
    congr 1
    exact rsum_congr (fun i hi => by rw [show n + 1 - 1 - (i + 1) = n - 1 - i by omega])
theorem asum_r (f g : Nat → Int64) (j : Nat) : ∀ n, asum f g j n = rsum (tm f g j) n
  | 0 => rfl
  | n + 1 => by rw [asum, rsum, asum_r]
theorem dsum_r (f g : Nat → Int64) (j : Nat) : ∀ n, dsum f g j n = rsum (fun i => tm f g j (83 - i)) n
  | 0 => rfl
  | n + 1 => by rw [dsum, rsum, dsum_r]
theorem asum_d (f g : Nat → Int64) (j : Nat) : asum f g j 84 = dsum f g j 84 := by
  rw [asum_r, dsum_r, rsum_rev]
theorem s_mMultiply {V : GV} {d b p q r : Nat} {X : XT} {FI AI : FT} {AL : LT} (h : MO X b) (hT : MTb AI b) (hp : p < 20) (hq : q < 20) (hr : r < 20) (hpr : p ≠ r) (hqr : q ≠ r) (hd : ∀ t u, t < 84 → u < 84 → mp AL b p t ≠ 0 → mp AL b q u ≠ 0 → eD t + eD u ≤ 6) :
    G V m_Mod_multiply (d + 2) 0 [some (.ref b), some (.int (nI p)), some (.int (nI q)), some (.int (nI r)), none, none, none, none] [] X FI AI AL (Pd none X FI AI (sp AL b r (mulP (mp AL b p) (mp AL b q)))) := by
  have hm7 := pdeg_le (mp AL b q) 84 (by omega)
  have L : ∀ t, t ≤ 84 → ∀ l6 l7 : Option Value, G V m_Mod_multiply (d + 2) 18 [some (.ref b), some (.int (nI p)), some (.int (nI q)), some (.int (nI r)), some (.int (nI (eS (deg1 (mp AL b q))))), some (.int (nI t)), l6, l7] [] X FI AI (sp AL b r (fun j => asum (mp AL b p) (mp AL b q) j t)) (Pd none X FI AI (sp AL b r (mulP (mp AL b p) (mp AL b q)))) := by
    refine upto ?_ ?_
    · intro l6 l7
      rw [sp_congr (f := fun j => asum (mp AL b p) (mp AL b q) j 84) (g := mulP (mp AL b p) (mp AL b q)) (fun j hj => by rw [mulP, if_pos hj, asum_d])]
      refine G_iload5 20 d_Mod_multiply_18 rfl ?_
      refine G_bipushN 84 22 d_Mod_multiply_20 rfl rfl ?_
      first | refine G_icgeN 64 25 d_Mod_multiply_22 rfl rfl (by omega) (by omega) (fun h22 => ?_) (fun h22 => ?_) | refine G_icge 64 25 d_Mod_multiply_22 rfl rfl (fun h22 => ?_) (fun h22 => ?_)
      · refine G_vret d_Mod_multiply_64 rfl ?_
        exact Pd.rf
      · omega
    · intro t ht ih l6 l7
      have e0 : sp AL b r (fun j => asum (mp AL b p) (mp AL b q) j t) (b + 1) (84 * p + t) = mp AL b p t := sp_rdn ht hpr
      have e2 : mp (sp AL b r (fun j => asum (mp AL b p) (mp AL b q) j t)) b q = mp AL b q := mp_spn hqr
      by_cases hz : mp AL b p t = 0
      · have e1 : sp AL b r (fun j => asum (mp AL b p) (mp AL b q) j t) = sp AL b r (fun j => asum (mp AL b p) (mp AL b q) j (t + 1)) := sp_congr (fun j hj => by
          rw [asum, tm, hz, Int64.zero_mul, ite_self, Int64.add_zero])
        rw [e1] at e0 ⊢
        refine G_iload5 20 d_Mod_multiply_18 rfl ?_
        refine G_bipushN 84 22 d_Mod_multiply_20 rfl rfl ?_
        first | refine G_icgeN 64 25 d_Mod_multiply_22 rfl rfl (by omega) (by omega) (fun h22 => ?_) (fun h22 => ?_) | refine G_icge 64 25 d_Mod_multiply_22 rfl rfl (fun h22 => ?_) (fun h22 => ?_)
        · omega
        · refine G_aload0 26 d_Mod_multiply_25 rfl ?_
          refine G_getR 29 d_Mod_multiply_26 rfl f_Mod_9 rfl h.sh h.f0 ?_
          refine G_bipushN 84 31 d_Mod_multiply_29 rfl rfl ?_
          refine G_iload1 32 d_Mod_multiply_31 rfl ?_
          first | refine G_imulN 33 d_Mod_multiply_32 rfl ?_ | refine G_imul 33 d_Mod_multiply_32 rfl ?_
          refine G_iload5 35 d_Mod_multiply_33 rfl ?_
          first | refine G_iaddN 36 d_Mod_multiply_35 rfl ?_ | refine G_iadd 36 d_Mod_multiply_35 rfl ?_
          refine G_laloadv 37 d_Mod_multiply_36 rfl h.s0 (ix_nI (by omega) (by omega)) e0 ?_
          refine G_lstore6 39 d_Mod_multiply_37 rfl (by decide) rfl ?_
          refine G_lload6 41 d_Mod_multiply_39 rfl ?_
          refine G_lconst 0 42 d_Mod_multiply_41 rfl rfl ?_
          refine G_lceq 58 46 d_Mod_multiply_42 d_Mod_multiply_43 rfl rfl (fun h42 => ?_) (fun h42 => ?_)
          · first | refine G_iincN5 61 d_Mod_multiply_58 rfl (by decide) rfl ?_ | refine G_iinc5 _ 61 d_Mod_multiply_58 rfl (by decide) rfl rfl ?_
            refine G_goto 18 d_Mod_multiply_61 rfl ?_
            exact ih _ _
          · exact absurd hz h42
      · have hs := s_mSpread (V := V) (d := d) (c := mp AL b p t) (FI := FI) (AL := sp AL b r (fun j => asum (mp AL b p) (mp AL b q) j t)) h hT ht hq hr hqr (fun u hu hu0 => hd t u ht hu hz (by rw [e2] at hu0; exact hu0))
        rw [e2, mp_sp, sp_sp] at hs
        have e1 : sp AL b r (fun j => cu (fun j => asum (mp AL b p) (mp AL b q) j t) j + if dv t j = true then mp AL b p t * mp AL b q (quo t j) else 0) = sp AL b r (fun j => asum (mp AL b p) (mp AL b q) j (t + 1)) := sp_congr (fun j hj => by
          rw [cu_at hj]; rfl)
        rw [e1] at hs
        refine G_iload5 20 d_Mod_multiply_18 rfl ?_
        refine G_bipushN 84 22 d_Mod_multiply_20 rfl rfl ?_
        first | refine G_icgeN 64 25 d_Mod_multiply_22 rfl rfl (by omega) (by omega) (fun h22 => ?_) (fun h22 => ?_) | refine G_icge 64 25 d_Mod_multiply_22 rfl rfl (fun h22 => ?_) (fun h22 => ?_)
        · omega
        · refine G_aload0 26 d_Mod_multiply_25 rfl ?_
          refine G_getR 29 d_Mod_multiply_26 rfl f_Mod_9 rfl h.sh h.f0 ?_
          refine G_bipushN 84 31 d_Mod_multiply_29 rfl rfl ?_
          refine G_iload1 32 d_Mod_multiply_31 rfl ?_
          first | refine G_imulN 33 d_Mod_multiply_32 rfl ?_ | refine G_imul 33 d_Mod_multiply_32 rfl ?_
          refine G_iload5 35 d_Mod_multiply_33 rfl ?_
          first | refine G_iaddN 36 d_Mod_multiply_35 rfl ?_ | refine G_iadd 36 d_Mod_multiply_35 rfl ?_
          refine G_laloadv 37 d_Mod_multiply_36 rfl h.s0 (ix_nI (by omega) (by omega)) e0 ?_
          refine G_lstore6 39 d_Mod_multiply_37 rfl (by decide) rfl ?_
          refine G_lload6 41 d_Mod_multiply_39 rfl ?_
          refine G_lconst 0 42 d_Mod_multiply_41 rfl rfl ?_
          refine G_lceq 58 46 d_Mod_multiply_42 d_Mod_multiply_43 rfl rfl (fun h42 => ?_) (fun h42 => ?_)
          · exact absurd h42 hz
          · refine G_aload0 47 d_Mod_multiply_46 rfl ?_
            refine G_iload5 49 d_Mod_multiply_47 rfl ?_
            refine G_lload6 51 d_Mod_multiply_49 rfl ?_
            refine G_iload2 52 d_Mod_multiply_51 rfl ?_
            refine G_iload3 53 d_Mod_multiply_52 rfl ?_
            refine G_iload4 55 d_Mod_multiply_53 rfl ?_
            refine G_invV5v 58 d_Mod_multiply_55 rfl e_Mod_172 M_Mod_spreadOne rfl h.sh (Nat.le_of_ble_eq_true rfl) (Nat.le_of_ble_eq_true rfl) rfl (hs) ?_
            first | refine G_iincN5 61 d_Mod_multiply_58 rfl (by decide) rfl ?_ | refine G_iinc5 _ 61 d_Mod_multiply_58 rfl (by decide) rfl rfl ?_
            refine G_goto 18 d_Mod_multiply_61 rfl ?_
            exact ih _ _
  refine G_aload0 1 d_Mod_multiply_0 rfl ?_
  refine G_iload3 2 d_Mod_multiply_1 rfl ?_
  refine G_invV1v 5 d_Mod_multiply_2 rfl e_Mod_162 M_Mod_clearAt rfl h.sh (Nat.le_of_ble_eq_true rfl) (Nat.le_of_ble_eq_true rfl) rfl (s_mClear (by assumption) (by omega)) ?_
  refine G_aload0 6 d_Mod_multiply_5 rfl ?_
  refine G_iload2 7 d_Mod_multiply_6 rfl ?_
  have e2 : mp (sp AL b r (fun _ => 0)) b q = mp AL b q := mp_spn hqr
  refine G_invV1d 10 d_Mod_multiply_7 rfl e_Mod_166 M_Mod_degreeAt rfl h.sh (Nat.le_of_ble_eq_true rfl) (Nat.le_of_ble_eq_true rfl) rfl (s_mDegree (by assumption) (by assumption) (by omega)) ?_
  rw [e2]
  refine G_invS1d 13 d_Mod_multiply_10 rfl e_Mod_169 M_Mod_upTo (Nat.le_of_ble_eq_true rfl) (Nat.le_of_ble_eq_true rfl) rfl (s_mUpTo hm7) ?_
  refine G_istore4 15 d_Mod_multiply_13 rfl (by decide) rfl ?_
  refine G_iconstN 0 16 d_Mod_multiply_15 rfl rfl ?_
  refine G_istore5 18 d_Mod_multiply_16 rfl (by decide) rfl ?_
  exact L 0 (by omega) none none
