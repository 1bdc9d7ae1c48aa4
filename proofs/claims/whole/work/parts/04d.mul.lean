/-! ===== products and turns of POLYNOMIALS ===== -/
theorem all2 {m n : Nat} {c : Nat → Nat → Bool} (h : ((List.range m).all fun x => (List.range n).all fun y => c x y) = true) {x y : Nat} (hx : x < m) (hy : y < n) : c x y = true :=
  List.all_eq_true.mp (List.all_eq_true.mp h x (List.mem_range.mpr hx)) y (List.mem_range.mpr hy)
def dv (t j : Nat) : Bool := decide (eX t ≤ eX j) && decide (eY t ≤ eY j) && decide (eZ t ≤ eZ j)
def quo (t j : Nat) : Nat := pl (eX j - eX t) (eY j - eY t) (eZ j - eZ t)
def mulT (t i : Nat) : Nat := pl (eX t + eX i) (eY t + eY i) (eZ t + eZ i)
theorem dv_iff (t j : Nat) : dv t j = true ↔ eX t ≤ eX j ∧ eY t ≤ eY j ∧ eZ t ≤ eZ j := by
  simp [dv, and_assoc]
theorem mul_ok {t i : Nat} (ht : t < 84) (hi : i < 84) (h : eD t + eD i ≤ 6) : mulT t i < 84 ∧ dv t (mulT t i) = true ∧ quo t (mulT t i) = i ∧ eX (mulT t i) = eX t + eX i ∧ eY (mulT t i) = eY t + eY i ∧ eZ (mulT t i) = eZ t + eZ i := by
  have a := e_le ht
  have b := e_le hi
  obtain ⟨h1, h2, h3, h4, h5⟩ := pl_all (eX t + eX i) (by omega) (eY t + eY i) (by omega) (eZ t + eZ i) (by omega) (by omega)
  refine ⟨h1, (dv_iff _ _).mpr ?_, ?_, h2, h3, h4⟩
  · unfold mulT; rw [h2, h3, h4]; omega
  · unfold quo mulT
    rw [h2, h3, h4, Nat.add_sub_cancel_left, Nat.add_sub_cancel_left, Nat.add_sub_cancel_left]
    exact (e_all i hi).2.2
theorem quo_ok {t j : Nat} (ht : t < 84) (hj : j < 84) (h : dv t j = true) : quo t j < 84 ∧ eD t + eD (quo t j) ≤ 6 ∧ mulT t (quo t j) = j := by
  have a := e_le ht
  have b := e_le hj
  obtain ⟨d1, d2, d3⟩ := (dv_iff _ _).mp h
  obtain ⟨h1, h2, h3, h4, h5⟩ := pl_all (eX j - eX t) (by omega) (eY j - eY t) (by omega) (eZ j - eZ t) (by omega) (by omega)
  refine ⟨h1, by unfold quo; rw [h5]; omega, ?_⟩
  unfold mulT quo
  rw [h2, h3, h4, Nat.add_sub_cancel' d1, Nat.add_sub_cancel' d2, Nat.add_sub_cancel' d3]
  exact (e_all j hj).2.2
theorem dv_up0 : ((List.range 84).all fun t => (List.range 84).all fun j => decide (j < t → dv t j = false)) = true := by decide +kernel
theorem dv_up {t j : Nat} (ht : t < 84) (h : j < t) : dv t j = false := of_decide_eq_true (all2 dv_up0 ht (show j < 84 by omega)) h
theorem st_up0 : ((List.range 84).all fun t => (List.range 84).all fun i => decide (eS (7 - eD t) ≤ 84 ∧ (i < eS (7 - eD t) ↔ eD t + eD i ≤ 6))) = true := by decide +kernel
theorem st_up {t i : Nat} (ht : t < 84) (hi : i < 84) : eS (7 - eD t) ≤ 84 ∧ (i < eS (7 - eD t) ↔ eD t + eD i ≤ 6) := of_decide_eq_true (all2 st_up0 ht hi)
/-- what TERM t of f brings to TERM j of the product -/
def tm (f g : Nat → Int64) (j t : Nat) : Int64 := if dv t j = true then f t * g (quo t j) else 0
/-- what the TERMS from k on bring, of 84 -/
def dsum (f g : Nat → Int64) (j : Nat) : Nat → Int64
  | 0 => 0
  | n + 1 => dsum f g j n + tm f g j (83 - n)
def mulP (f g : Nat → Int64) : Nat → Int64 := fun j => if j < 84 then dsum f g j 84 else 0
theorem dsum_low (f g : Nat → Int64) {j : Nat} : ∀ n, n ≤ 84 → j < 84 - n → dsum f g j n = 0
  | 0, _, _ => rfl
  | n + 1, h, hj => by
    rw [dsum, dsum_low f g n (by omega) (by omega), tm, dv_up (by omega) (by omega)]
    simp
theorem s_multiplyBy {V : GV} {d p q p2 q2 : Nat} {X : XT} {FI AI : FT} {AL : LT} (h : PO X p q) (h' : PO X p2 q2) (hne : q2 ≠ q) : G V m_Poly_multiplyBy d 0 [some (.ref p), some (.ref p2), none, none, none, none, none, none, none, none] [] X FI AI AL (Pd none X FI AI (sr AL q (mulP (AL q) (AL q2)))) := by
  obtain ⟨h1, h2, h3⟩ := h
  obtain ⟨g1, g2, g3⟩ := h'
  have loop2 : ∀ (t : Nat) (c : Int64) (B : Nat → Int64), t < 84 →
      (∀ l7 l8 l9 : Option Value, G V m_Poly_multiplyBy d 146 [some (.ref p), some (.ref p2), some (.int (nI t)), some (.long c), none, some (.int (nI (eD t))), some (.int (nI (eS (7 - eD t)))), l7, l8, l9] [] X FI AI (sr AL q (fun j => B j + if dv t j = true then c * AL q2 (quo t j) else 0)) (Pd none X FI AI (sr AL q (mulP (AL q) (AL q2))))) →
      ∀ i, i ≤ eS (7 - eD t) → ∀ l8 l9 : Option Value, G V m_Poly_multiplyBy d 50 [some (.ref p), some (.ref p2), some (.int (nI t)), some (.long c), none, some (.int (nI (eD t))), some (.int (nI (eS (7 - eD t)))), some (.int (nI i)), l8, l9] [] X FI AI (sr AL q (fun j => B j + if dv t j = true ∧ quo t j < i then c * AL q2 (quo t j) else 0)) (Pd none X FI AI (sr AL q (mulP (AL q) (AL q2)))) := by
    intro t c B ht hend
    have hst := (st_up ht (show 0 < 84 by omega)).1
    refine upto ?_ ?_
    · intro l8 l9
      refine G_iload7 52 d_Poly_multiplyBy_50 rfl ?_
      refine G_iload6 54 d_Poly_multiplyBy_52 rfl ?_
      first | refine G_icgeN 146 57 d_Poly_multiplyBy_54 rfl rfl (by omega) (by omega) (fun h54 => ?_) (fun h54 => ?_) | refine G_icge 146 57 d_Poly_multiplyBy_54 rfl rfl (fun h54 => ?_) (fun h54 => ?_)
      · refine G.row _ h3 (fun j hj => ?_) (hend _ _ _)
        by_cases hd : dv t j = true
        · have := quo_ok ht hj hd
          have := (st_up ht this.1).2.mpr this.2.1
          simp [hd, this]
        · simp [hd]
      · omega
    · intro i hi ih l8 l9
      have hi84 : i < 84 := by omega
      have hdeg := (st_up ht hi84).2.mp hi
      obtain ⟨m1, m2, m3, m4, m5, m6⟩ := mul_ok ht hi84 hdeg
      have et := e_le ht
      have ei := e_le hi84
      have key : ∀ j, j < 84 → dv t j = true → quo t j = i → j = mulT t i := fun j hj hd hq => by rw [← hq]; exact (quo_ok ht hj hd).2.2.symm
      refine G_iload7 52 d_Poly_multiplyBy_50 rfl ?_
      refine G_iload6 54 d_Poly_multiplyBy_52 rfl ?_
      first | refine G_icgeN 146 57 d_Poly_multiplyBy_54 rfl rfl (by omega) (by omega) (fun h54 => ?_) (fun h54 => ?_) | refine G_icge 146 57 d_Poly_multiplyBy_54 rfl rfl (fun h54 => ?_) (fun h54 => ?_)
      · omega
      · refine G_aload1 58 d_Poly_multiplyBy_57 rfl ?_
        refine G_getR 61 d_Poly_multiplyBy_58 rfl f_Poly_9 rfl (by assumption) (by assumption) ?_
        refine G_iload7 63 d_Poly_multiplyBy_61 rfl ?_
        refine G_laload 64 d_Poly_multiplyBy_63 rfl (by assumption) (ix_nI (by omega) (by omega)) ?_
        refine G_lconst 0 65 d_Poly_multiplyBy_64 rfl rfl ?_
        refine G_lceq 140 69 d_Poly_multiplyBy_65 d_Poly_multiplyBy_66 rfl rfl (fun h65 => ?_) (fun h65 => ?_)
        · rw [sr_ne _ _ hne] at h65
          first | refine G_iincN7 143 d_Poly_multiplyBy_140 rfl (by decide) rfl ?_ | refine G_iinc7 _ 143 d_Poly_multiplyBy_140 rfl (by decide) rfl rfl ?_
          refine G_goto 50 d_Poly_multiplyBy_143 rfl ?_
          refine G.row _ h3 (fun j hj => ?_) (ih l8 l9)
          by_cases hd : dv t j = true
          · by_cases e : quo t j = i
            · simp [hd, e, h65]
            · by_cases e2 : quo t j < i
              · simp [hd, e2, Nat.lt_succ_of_lt e2]
              · simp [hd, e2, show ¬ quo t j < i + 1 by omega]
          · simp [hd]
        · refine G_gets 5 72 d_Poly_multiplyBy_69 rfl rfl s_Poly_48 ?_
          refine G_iload2 73 d_Poly_multiplyBy_72 rfl ?_
          refine G_st5 74 d_Poly_multiplyBy_73 rfl (ix_nI (by omega) (by omega)) ?_
          refine G_gets 5 77 d_Poly_multiplyBy_74 rfl rfl s_Poly_48 ?_
          refine G_iload7 79 d_Poly_multiplyBy_77 rfl ?_
          refine G_st5 80 d_Poly_multiplyBy_79 rfl (ix_nI (by omega) (by omega)) ?_
          first | refine G_iaddN 81 d_Poly_multiplyBy_80 rfl ?_ | refine G_iadd 81 d_Poly_multiplyBy_80 rfl ?_
          refine G_istore8 83 d_Poly_multiplyBy_81 rfl (by decide) rfl ?_
          refine G_gets 4 86 d_Poly_multiplyBy_83 rfl rfl s_Poly_51 ?_
          refine G_iload2 87 d_Poly_multiplyBy_86 rfl ?_
          refine G_st4 88 d_Poly_multiplyBy_87 rfl (ix_nI (by omega) (by omega)) ?_
          refine G_gets 4 91 d_Poly_multiplyBy_88 rfl rfl s_Poly_51 ?_
          refine G_iload7 93 d_Poly_multiplyBy_91 rfl ?_
          refine G_st4 94 d_Poly_multiplyBy_93 rfl (ix_nI (by omega) (by omega)) ?_
          first | refine G_iaddN 95 d_Poly_multiplyBy_94 rfl ?_ | refine G_iadd 95 d_Poly_multiplyBy_94 rfl ?_
          refine G_iload8 97 d_Poly_multiplyBy_95 rfl ?_
          first | refine G_iaddN 98 d_Poly_multiplyBy_97 rfl ?_ | refine G_iadd 98 d_Poly_multiplyBy_97 rfl ?_
          refine G_istore9 100 d_Poly_multiplyBy_98 rfl (by decide) rfl ?_
          refine G_aload0 101 d_Poly_multiplyBy_100 rfl ?_
          refine G_getR 104 d_Poly_multiplyBy_101 rfl f_Poly_9 rfl (by assumption) (by assumption) ?_
          refine G_gets 1 107 d_Poly_multiplyBy_104 rfl rfl s_Poly_45 ?_
          refine G_iload5 109 d_Poly_multiplyBy_107 rfl ?_
          refine G_gets 0 112 d_Poly_multiplyBy_109 rfl rfl s_Poly_35 ?_
          refine G_iload7 114 d_Poly_multiplyBy_112 rfl ?_
          refine G_st0 115 d_Poly_multiplyBy_114 rfl (ix_nI (by omega) (by omega)) ?_
          first | refine G_iaddN 116 d_Poly_multiplyBy_115 rfl ?_ | refine G_iadd 116 d_Poly_multiplyBy_115 rfl ?_
          refine G_st1 117 d_Poly_multiplyBy_116 rfl (ix_nI (by omega) (by omega)) ?_
          refine G_gets 2 120 d_Poly_multiplyBy_117 rfl rfl s_Poly_54 ?_
          refine G_iload9 122 d_Poly_multiplyBy_120 rfl ?_
          refine G_st2 123 d_Poly_multiplyBy_122 rfl (ix_nI (by omega) (by omega)) ?_
          first | refine G_iaddN 124 d_Poly_multiplyBy_123 rfl ?_ | refine G_iadd 124 d_Poly_multiplyBy_123 rfl ?_
          refine G_iload8 126 d_Poly_multiplyBy_124 rfl ?_
          first | refine G_iaddN 127 d_Poly_multiplyBy_126 rfl ?_ | refine G_iadd 127 d_Poly_multiplyBy_126 rfl ?_
          have hw : eS (eD t + eD i) + eT (eY t + eY i + (eZ t + eZ i)) + (eZ t + eZ i) = mulT t i := by
            unfold mulT pl
            rw [show eX t + eX i + (eY t + eY i) + (eZ t + eZ i) = eD t + eD i by omega]
          rw [hw]
          refine G_dup2 128 d_Poly_multiplyBy_127 rfl rfl rfl ?_
          refine G_laload 129 d_Poly_multiplyBy_128 rfl (by assumption) (ix_nI (by omega) (by omega)) ?_
          refine G_lload3 130 d_Poly_multiplyBy_129 rfl ?_
          refine G_aload1 131 d_Poly_multiplyBy_130 rfl ?_
          refine G_getR 134 d_Poly_multiplyBy_131 rfl f_Poly_9 rfl (by assumption) (by assumption) ?_
          refine G_iload7 136 d_Poly_multiplyBy_134 rfl ?_
          refine G_laload 137 d_Poly_multiplyBy_136 rfl (by assumption) (ix_nI (by omega) (by omega)) ?_
          refine G_lmul 138 d_Poly_multiplyBy_137 rfl ?_
          refine G_ladd 139 d_Poly_multiplyBy_138 rfl ?_
          refine G_lastore 140 d_Poly_multiplyBy_139 rfl (by assumption) (ix_nI (by omega) (by omega)) ?_
          first | refine G_iincN7 143 d_Poly_multiplyBy_140 rfl (by decide) rfl ?_ | refine G_iinc7 _ 143 d_Poly_multiplyBy_140 rfl (by decide) rfl rfl ?_
          refine G_goto 50 d_Poly_multiplyBy_143 rfl ?_
          rw [u2_sr, sr_at, sr_ne _ _ hne]
          refine G.row _ h3 (fun j hj => ?_) (ih _ _)
          by_cases e : j = mulT t i
          · subst e
            simp [m2, m3]
          · by_cases hd : dv t j = true
            · have e1 : ¬ quo t j = i := fun e1 => e (key j hj hd e1)
              by_cases e2 : quo t j < i
              · simp [e, hd, e2, Nat.lt_succ_of_lt e2]
              · simp [e, hd, e2, show ¬ quo t j < i + 1 by omega]
            · simp [e, hd]
  have L : ∀ k, k ≤ 84 → ∀ l3 l4 l5 l6 l7 l8 l9 : Option Value, G V m_Poly_multiplyBy d 3 [some (.ref p), some (.ref p2), some (.int (dI k)), l3, l4, l5, l6, l7, l8, l9] [] X FI AI (sr AL q (fun j => (if j < k then AL q j else 0) + dsum (AL q) (AL q2) j (84 - k))) (Pd none X FI AI (sr AL q (mulP (AL q) (AL q2)))) := by
    refine downto ?_ ?_
    · intro _ l3 l4 l5 l6 l7 l8 l9
      refine G_iload2 4 d_Poly_multiplyBy_3 rfl ?_
      first | refine G_ifltD 152 7 d_Poly_multiplyBy_4 rfl rfl (by omega) (fun h4 => ?_) (fun j h4 => ?_) | refine G_iflt 152 7 d_Poly_multiplyBy_4 rfl rfl (fun h4 => ?_) (fun h4 => ?_)
      · refine G.row (mulP (AL q) (AL q2)) h3 (fun j hj => by simp [mulP, hj]) ?_
        refine G_vret d_Poly_multiplyBy_152 rfl ?_
        exact Pd.rf
      · omega
    · intro t ih ht l3 l4 l5 l6 l7 l8 l9
      have ht84 : t < 84 := by omega
      have et := e_le ht84
      rw [dI_s]
      refine G_iload2 4 d_Poly_multiplyBy_3 rfl ?_
      first | refine G_ifltD 152 7 d_Poly_multiplyBy_4 rfl rfl (by omega) (fun h4 => ?_) (fun j h4 => ?_) | refine G_iflt 152 7 d_Poly_multiplyBy_4 rfl rfl (fun h4 => ?_) (fun h4 => ?_)
      · exact absurd h4 (nI_pos (by omega))
      · have hc : sr AL q (fun j => (if j < t + 1 then AL q j else 0) + dsum (AL q) (AL q2) j (84 - (t + 1))) q t = AL q t := by
          rw [sr_at, dsum_low _ _ _ (by omega) (by omega)]
          simp
        refine G_aload0 8 d_Poly_multiplyBy_7 rfl ?_
        refine G_getR 11 d_Poly_multiplyBy_8 rfl f_Poly_9 rfl (by assumption) (by assumption) ?_
        refine G_iload2 12 d_Poly_multiplyBy_11 rfl ?_
        refine G_laload 13 d_Poly_multiplyBy_12 rfl (by assumption) (ix_nI (by omega) (by omega)) ?_
        rw [hc]
        have hs : ∀ j, dsum (AL q) (AL q2) j (84 - t) = dsum (AL q) (AL q2) j (84 - (t + 1)) + tm (AL q) (AL q2) j t := fun j => by
          rw [show 84 - t = (84 - (t + 1)) + 1 by omega, dsum, show 83 - (84 - (t + 1)) = t by omega]
        refine G_lstore3 14 d_Poly_multiplyBy_13 rfl (by decide) rfl ?_
        refine G_lload3 15 d_Poly_multiplyBy_14 rfl ?_
        refine G_lconst 0 16 d_Poly_multiplyBy_15 rfl rfl ?_
        refine G_lceq 146 20 d_Poly_multiplyBy_16 d_Poly_multiplyBy_17 rfl rfl (fun h16 => ?_) (fun h16 => ?_)
        · first | refine G_iinc2 _ 149 d_Poly_multiplyBy_146 rfl (by decide) rfl (dI_m1 _) ?_ | refine G_iinc2 _ 149 d_Poly_multiplyBy_146 rfl (by decide) rfl rfl ?_
          refine G_goto 3 d_Poly_multiplyBy_149 rfl ?_
          refine G.row _ h3 (fun j hj => ?_) (ih (by omega) _ _ _ _ _ _ _)
          rw [hs j]
          by_cases e : j = t
          · subst e
            simp [h16, tm]
          · by_cases e2 : j < t
            · simp [e2, Nat.lt_succ_of_lt e2, tm, h16]
            · simp [e2, show ¬ j < t + 1 by omega, tm, h16]
        · refine G_aload0 21 d_Poly_multiplyBy_20 rfl ?_
          refine G_getR 24 d_Poly_multiplyBy_21 rfl f_Poly_9 rfl (by assumption) (by assumption) ?_
          refine G_iload2 25 d_Poly_multiplyBy_24 rfl ?_
          refine G_lconst 0 26 d_Poly_multiplyBy_25 rfl rfl ?_
          refine G_lastore 27 d_Poly_multiplyBy_26 rfl (by assumption) (ix_nI (by omega) (by omega)) ?_
          refine G_gets 0 30 d_Poly_multiplyBy_27 rfl rfl s_Poly_35 ?_
          refine G_iload2 31 d_Poly_multiplyBy_30 rfl ?_
          refine G_st0 32 d_Poly_multiplyBy_31 rfl (ix_nI (by omega) (by omega)) ?_
          refine G_istore5 34 d_Poly_multiplyBy_32 rfl (by decide) rfl ?_
          refine G_gets 1 37 d_Poly_multiplyBy_34 rfl rfl s_Poly_45 ?_
          refine G_bipushN 6 39 d_Poly_multiplyBy_37 rfl rfl ?_
          refine G_iload5 41 d_Poly_multiplyBy_39 rfl ?_
          first | refine G_isubN 42 d_Poly_multiplyBy_41 rfl (by omega) ?_ | refine G_isub 42 d_Poly_multiplyBy_41 rfl ?_
          refine G_iconstN 1 43 d_Poly_multiplyBy_42 rfl rfl ?_
          first | refine G_iaddN 44 d_Poly_multiplyBy_43 rfl ?_ | refine G_iadd 44 d_Poly_multiplyBy_43 rfl ?_
          refine G_st1 45 d_Poly_multiplyBy_44 rfl (ix_nI (by omega) (by omega)) ?_
          refine G_istore6 47 d_Poly_multiplyBy_45 rfl (by decide) rfl ?_
          refine G_iconstN 0 48 d_Poly_multiplyBy_47 rfl rfl ?_
          refine G_istore7 50 d_Poly_multiplyBy_48 rfl (by decide) rfl ?_
          rw [u2_sr, show 6 - eD t + 1 = 7 - eD t by omega]
          have hx := loop2 t (AL q t) (fun j => (if j < t then AL q j else 0) + (if j = t then 0 else dsum (AL q) (AL q2) j (84 - (t + 1)))) ht84 (fun l7 l8 l9 => ?_) 0 (Nat.zero_le _) l8 l9
          · refine G.row _ h3 (fun j hj => ?_) hx
            by_cases e : j = t
            · subst e; simp
            · by_cases e2 : j < t
              · simp [e, e2, Nat.lt_succ_of_lt e2]
              · simp [e, e2, show ¬ j < t + 1 by omega]
          · first | refine G_iinc2 _ 149 d_Poly_multiplyBy_146 rfl (by decide) rfl (dI_m1 _) ?_ | refine G_iinc2 _ 149 d_Poly_multiplyBy_146 rfl (by decide) rfl rfl ?_
            refine G_goto 3 d_Poly_multiplyBy_149 rfl ?_
            refine G.row _ h3 (fun j hj => ?_) (ih (by omega) _ _ _ _ _ _ _)
            rw [hs j]
            by_cases e : j = t
            · subst e
              rw [dsum_low _ _ (84 - (j + 1)) (by omega) (by omega)]
              simp [tm]
            · by_cases e2 : j < t
              · simp [e, e2, tm, Int64.add_assoc]
              · simp [e, e2, tm]
  refine G_bipushN 83 2 d_Poly_multiplyBy_0 rfl rfl ?_
  refine G_istore2 3 d_Poly_multiplyBy_2 rfl (by decide) rfl ?_
  have := L 84 (by omega) none none none none none none none
  rw [dI_s] at this
  refine G.al _ (fun a n ha j hj => ?_) this
  by_cases e : a = q
  · subst e
    rw [h3] at ha
    cases ha
    rw [sr_at]
    simp [hj, dsum]
  · rw [sr_ne _ _ e]
def kinv (k : Nat) : Nat := if k = 3 then 4 else if k = 4 then 3 else k
theorem turn_ok : ∀ k, k < 6 → ∀ t, t < 84 → tpl t k < 84 ∧ tpl (tpl t k) (kinv k) = t ∧ tpl (tpl t (kinv k)) k = t ∧ tpl t (kinv k) < 84 := by decide +kernel
/-- a POLYNOMIAL by a TURN -/
def trn (f : Nat → Int64) (k : Nat) : Nat → Int64 := fun j => if j < 84 then f (tpl j (kinv k)) else 0
theorem s_becomeTurned {V : GV} {d p q p2 q2 k : Nat} {X : XT} {FI AI : FT} {AL : LT} (h : PO X p q) (h' : PO X p2 q2) (hne : q2 ≠ q) (hk : k < 6) : G V m_Poly_becomeTurned (d + 2) 0 [some (.ref p), some (.ref p2), some (.int (nI k)), none] [] X FI AI AL (Pd none X FI AI (sr AL q (trn (AL q2) k))) := by
  obtain ⟨h1, h2, h3⟩ := h
  obtain ⟨g1, g2, g3⟩ := h'
  have L : ∀ t, t ≤ 84 → G V m_Poly_becomeTurned (d + 2) 2 [some (.ref p), some (.ref p2), some (.int (nI k)), some (.int (nI t))] [] X FI AI (sr AL q (fun j => if tpl j (kinv k) < t then AL q2 (tpl j (kinv k)) else AL q j)) (Pd none X FI AI (sr AL q (trn (AL q2) k))) := by
    refine upto ?_ ?_
    · refine G_iload3 3 d_Poly_becomeTurned_2 rfl ?_
      refine G_bipushN 84 5 d_Poly_becomeTurned_3 rfl rfl ?_
      first | refine G_icgeN 30 8 d_Poly_becomeTurned_5 rfl rfl (by omega) (by omega) (fun h5 => ?_) (fun h5 => ?_) | refine G_icge 30 8 d_Poly_becomeTurned_5 rfl rfl (fun h5 => ?_) (fun h5 => ?_)
      · refine G.row (trn (AL q2) k) h3 (fun j hj => by simp [trn, hj, (turn_ok k hk j hj).2.2.2]) ?_
        refine G_vret d_Poly_becomeTurned_30 rfl ?_
        exact Pd.rf
      · omega
    · intro t ht ih
      have hw := (turn_ok k hk t ht).1
      refine G_iload3 3 d_Poly_becomeTurned_2 rfl ?_
      refine G_bipushN 84 5 d_Poly_becomeTurned_3 rfl rfl ?_
      first | refine G_icgeN 30 8 d_Poly_becomeTurned_5 rfl rfl (by omega) (by omega) (fun h5 => ?_) (fun h5 => ?_) | refine G_icge 30 8 d_Poly_becomeTurned_5 rfl rfl (fun h5 => ?_) (fun h5 => ?_)
      · omega
      · refine G_aload0 9 d_Poly_becomeTurned_8 rfl ?_
        refine G_getR 12 d_Poly_becomeTurned_9 rfl f_Poly_9 rfl (by assumption) (by assumption) ?_
        refine G_iload3 13 d_Poly_becomeTurned_12 rfl ?_
        refine G_iload2 14 d_Poly_becomeTurned_13 rfl ?_
        refine G_invS2d 17 d_Poly_becomeTurned_14 rfl e_Poly_27 M_Terms_turnedPlace (Nat.le_of_ble_eq_true rfl) (Nat.le_of_ble_eq_true rfl) rfl (s_turnedPlace (by omega) (by omega)) ?_
        refine G_aload1 18 d_Poly_becomeTurned_17 rfl ?_
        refine G_getR 21 d_Poly_becomeTurned_18 rfl f_Poly_9 rfl (by assumption) (by assumption) ?_
        refine G_iload3 22 d_Poly_becomeTurned_21 rfl ?_
        refine G_laload 23 d_Poly_becomeTurned_22 rfl (by assumption) (ix_nI (by omega) (by omega)) ?_
        refine G_lastore 24 d_Poly_becomeTurned_23 rfl (by assumption) (ix_nI (by omega) (by omega)) ?_
        first | refine G_iincN3 27 d_Poly_becomeTurned_24 rfl (by decide) rfl ?_ | refine G_iinc3 _ 27 d_Poly_becomeTurned_24 rfl (by decide) rfl rfl ?_
        refine G_goto 2 d_Poly_becomeTurned_27 rfl ?_
        rw [u2_sr, sr_ne _ _ hne]
        refine G.row _ h3 (fun j hj => ?_) ih
        have ho := turn_ok k hk j hj
        by_cases e : j = tpl t k
        · subst e
          simp [(turn_ok k hk t ht).2.1]
        · have e1 : ¬ tpl j (kinv k) = t := fun e1 => e (by rw [← e1]; exact ho.2.2.1.symm)
          by_cases e2 : tpl j (kinv k) < t
          · simp [e, e2, Nat.lt_succ_of_lt e2]
          · simp [e, e2, show ¬ tpl j (kinv k) < t + 1 by omega]
  refine G_iconstN 0 1 d_Poly_becomeTurned_0 rfl rfl ?_
  refine G_istore3 2 d_Poly_becomeTurned_1 rfl (by decide) rfl ?_
  have := L 0 (by omega)
  simp only [Nat.not_lt_zero, if_false, sr_self] at this
  exact this
