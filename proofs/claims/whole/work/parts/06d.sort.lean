/-! ===== the class sorts ROWS by TERM ===== -/
def cn (P : Nat → Nat) (t : Nat) : Nat → Nat
  | 0 => 0
  | k + 1 => cn P t k + if P k = t then 1 else 0
theorem cn_le {P : Nat → Nat} {t a b : Nat} (h : a ≤ b) : cn P t a ≤ cn P t b := by
  induction h with
  | refl => exact Nat.le_refl _
  | step h ih => exact Nat.le_trans ih (Nat.le_add_right _ _)
theorem cn_self (P : Nat → Nat) (i : Nat) : cn P (P i) (i + 1) = cn P (P i) i + 1 := by simp [cn]
theorem cn_off {P : Nat → Nat} {t i : Nat} (h : P i ≠ t) : cn P t (i + 1) = cn P t i := by simp [cn, h]
theorem cn_zero {P : Nat → Nat} {t : Nat} : ∀ {k : Nat}, (∀ i, i < k → P i ≠ t) → cn P t k = 0
  | 0, _ => rfl
  | k + 1, h => by rw [cn_off (h k (by omega)), cn_zero (fun i hi => h i (by omega))]
theorem sm_bump {w : Nat → Nat} {j m : Nat} (hj : j < m) : sm (fun u => w u + if j = u then 1 else 0) m = sm w m + 1 := by
  induction m with
  | zero => omega
  | succ m ih =>
    rw [sm, sm]
    by_cases e : j = m
    · subst e
      rw [if_pos rfl, sm_congr (w := fun u => w u + if j = u then 1 else 0) (w' := w) (fun u hu => by rw [if_neg (by omega)]; rfl)]
      omega
    · rw [ih (by omega), if_neg e]
      omega
theorem sm_zero : ∀ (m : Nat), sm (fun _ => 0) m = 0
  | 0 => rfl
  | m + 1 => by rw [sm, sm_zero m]
theorem cn_all {P : Nat → Nat} {m : Nat} : ∀ {k : Nat}, (∀ i, i < k → P i < m) → sm (fun u => cn P u k) m = k
  | 0, _ => sm_zero m
  | k + 1, h => by
    have := sm_bump (w := fun u => cn P u k) (h k (by omega))
    rw [cn_all (fun i hi => h i (by omega))] at this
    exact this
/-- where the i-th goes -/
def spos (P : Nat → Nat) (c i : Nat) : Nat := sm (fun u => cn P u c) (P i) + cn P (P i) i
theorem spos_lt {P : Nat → Nat} {c i m : Nat} (hm : ∀ i, i < c → P i < m) (hi : i < c) : spos P c i < c := by
  have h1 : sm (fun u => cn P u c) (P i + 1) ≤ sm (fun u => cn P u c) m := sm_le (hm i hi)
  rw [cn_all hm, sm] at h1
  have h2 : cn P (P i) (i + 1) ≤ cn P (P i) c := cn_le hi
  rw [cn_self] at h2
  unfold spos
  omega
theorem spos_lt2 {P : Nat → Nat} {c i j : Nat} (hi : i < c) (h : P i < P j) : spos P c i < spos P c j := by
  have h1 : sm (fun u => cn P u c) (P i + 1) ≤ sm (fun u => cn P u c) (P j) := sm_le h
  rw [sm] at h1
  have h2 : cn P (P i) (i + 1) ≤ cn P (P i) c := cn_le hi
  rw [cn_self] at h2
  unfold spos
  omega
theorem spos_ne {P : Nat → Nat} {c i j : Nat} (hij : i < j) (hj : j < c) : spos P c i ≠ spos P c j := by
  rcases Nat.lt_trichotomy (P i) (P j) with h | h | h
  · exact Nat.ne_of_lt (spos_lt2 (by omega) h)
  · have h2 : cn P (P i) (i + 1) ≤ cn P (P i) j := cn_le hij
    rw [cn_self] at h2
    unfold spos
    rw [← h]
    omega
  · exact Nat.ne_of_gt (spos_lt2 hj h)
/-- sorted: rows from i on in their places -/
def ST3 (AI AI1 : FT) (ta P F : Nat → Nat) (c i : Nat) : Prop :=
  (∀ b, b ≠ ta 0 → b ≠ ta 1 → AI1 b = AI b) ∧ (∀ t, t < 85 → AI1 (ta 1) t = nI (sm (fun u => cn P u c) t + cn P t i)) ∧ ∀ j, i ≤ j → j < c → AI1 (ta 0) (spos P c j) = nI (F j)
theorem s_sortByPlace {V : GV} {d t c : Nat} {ta P F : Nat → Nat} {X : XT} {FI AI : FT} {AL : LT} (hT : TO X t ta) (hc : c ≤ 344) (hp : ∀ i, i < c → AI (ta 2) i = nI (F i) ∧ AI (ta 3) i = nI (P i) ∧ P i < 84) :
    G V m_Tab_sortByPlace (d + 1) 0 [some (.ref t), some (.int (nI c)), none, none] [] X FI AI AL (fun r X' FI' AI' AL' => r = none ∧ X' = X ∧ FI' = FI ∧ AL' = AL ∧ ST3 AI AI' ta P F c 0) := by
  obtain ⟨t0, r0, r1, r2, r3, r4, r5, r6, q0, q1, q2, q3, q4, q5, q6, hinj⟩ := hT
  have n01 : ta 0 ≠ ta 1 := fun e => by have := hinj 0 1 (by omega) (by omega) e; omega
  have n20 : ta 2 ≠ ta 0 := fun e => by have := hinj 2 0 (by omega) (by omega) e; omega
  have n21 : ta 2 ≠ ta 1 := fun e => by have := hinj 2 1 (by omega) (by omega) e; omega
  have n30 : ta 3 ≠ ta 0 := fun e => by have := hinj 3 0 (by omega) (by omega) e; omega
  have n31 : ta 3 ≠ ta 1 := fun e => by have := hinj 3 1 (by omega) (by omega) e; omega
  have hm : ∀ i, i < c → P i < 84 := fun i hi => (hp i hi).2.2
  have L3 : ∀ i, i ≤ c → ∀ (AI1 : FT) (l3 : Option Value), ST3 AI AI1 ta P F c i → G V m_Tab_sortByPlace (d + 1) 71 [some (.ref t), some (.int (nI c)), some (.int (dI i)), l3] [] X FI AI1 AL (fun r X' FI' AI' AL' => r = none ∧ X' = X ∧ FI' = FI ∧ AL' = AL ∧ ST3 AI AI' ta P F c 0) := by
    refine downto ?_ ?_
    · intro _ AI1 l3 hS
      refine G_iload2 72 d_Tab_sortByPlace_71 rfl ?_
      first | refine G_ifltD 115 75 d_Tab_sortByPlace_72 rfl rfl (by omega) (fun h72 => ?_) (fun j h72 => ?_) | refine G_iflt 115 75 d_Tab_sortByPlace_72 rfl rfl (fun h72 => ?_) (fun h72 => ?_)
      · refine G_vret d_Tab_sortByPlace_115 rfl ?_
        exact ⟨rfl, rfl, rfl, rfl, hS⟩
      · omega
    · intro i ih hi AI1 l3 hS
      obtain ⟨s1, s2, s3⟩ := hS
      obtain ⟨p1, p2, p3⟩ := hp i (by omega)
      have e3 : AI1 (ta 3) i = nI (P i) := by rw [s1 _ n30 n31]; exact p2
      have e2 : AI1 (ta 2) i = nI (F i) := by rw [s1 _ n20 n21]; exact p1
      have e1 := s2 (P i) (by omega)
      rw [cn_self] at e1
      have hlt := spos_lt hm (show i < c by omega)
      have hpos : sm (fun u => cn P u c) (P i) + (cn P (P i) i + 1) - 1 = spos P c i := by unfold spos; omega
      rw [dI_s]
      refine G_iload2 72 d_Tab_sortByPlace_71 rfl ?_
      first | refine G_ifltD 115 75 d_Tab_sortByPlace_72 rfl rfl (by omega) (fun h72 => ?_) (fun j h72 => ?_) | refine G_iflt 115 75 d_Tab_sortByPlace_72 rfl rfl (fun h72 => ?_) (fun h72 => ?_)
      · exact absurd h72 (nI_pos (by omega))
      · have hS2 : ST3 AI (u2 (u2 AI1 (ta 1) (P i) (nI (spos P c i))) (ta 0) (spos P c i) (nI (F i))) ta P F c i := by
          refine ⟨fun b b0 b1 => by rw [u2_off _ _ _ b0, u2_off _ _ _ b1]; exact s1 b b0 b1, fun t ht => ?_, fun j hj hjc => ?_⟩
          · rw [u2_ne _ _ _ _ n01.symm]
            by_cases e : t = P i
            · subst e
              rw [u2_at]
              rfl
            · rw [u2_ix _ _ e, s2 t ht, cn_off (fun h => e h.symm)]
          · by_cases e : j = i
            · subst e
              rw [u2_at]
            · rw [u2_ix _ _ (fun h => spos_ne (P := P) (c := c) (show i < j by omega) hjc h.symm), u2_ne _ _ _ _ n01]
              exact s3 j (by omega) hjc
        refine G_aload0 76 d_Tab_sortByPlace_75 rfl ?_
        refine G_getR 79 d_Tab_sortByPlace_76 rfl f_Tab_21 rfl (by assumption) (by assumption) ?_
        refine G_iload2 80 d_Tab_sortByPlace_79 rfl ?_
        refine G_ialoadv 81 d_Tab_sortByPlace_80 rfl (by assumption) (ix_nI (by omega) (by omega)) e3 ?_
        refine G_istore3 82 d_Tab_sortByPlace_81 rfl (by decide) rfl ?_
        refine G_aload0 83 d_Tab_sortByPlace_82 rfl ?_
        refine G_getR 86 d_Tab_sortByPlace_83 rfl f_Tab_15 rfl (by assumption) (by assumption) ?_
        refine G_iload3 87 d_Tab_sortByPlace_86 rfl ?_
        refine G_dup2 88 d_Tab_sortByPlace_87 rfl rfl rfl ?_
        refine G_ialoadv 89 d_Tab_sortByPlace_88 rfl (by assumption) (ix_nI (by omega) (by omega)) e1 ?_
        refine G_iconstN 1 90 d_Tab_sortByPlace_89 rfl rfl ?_
        first | refine G_isubN 91 d_Tab_sortByPlace_90 rfl (by omega) ?_ | refine G_isub 91 d_Tab_sortByPlace_90 rfl ?_
        rw [hpos]
        refine G_iastore 92 d_Tab_sortByPlace_91 rfl (by assumption) (ix_nI (by omega) (by omega)) ?_
        refine G_aload0 93 d_Tab_sortByPlace_92 rfl ?_
        refine G_getR 96 d_Tab_sortByPlace_93 rfl f_Tab_9 rfl (by assumption) (by assumption) ?_
        refine G_aload0 97 d_Tab_sortByPlace_96 rfl ?_
        refine G_getR 100 d_Tab_sortByPlace_97 rfl f_Tab_15 rfl (by assumption) (by assumption) ?_
        refine G_iload3 101 d_Tab_sortByPlace_100 rfl ?_
        refine G_ialoadv 102 d_Tab_sortByPlace_101 rfl (by assumption) (ix_nI (by omega) (by omega)) (by rw [u2_at] : _ = nI (spos P c i)) ?_
        refine G_aload0 103 d_Tab_sortByPlace_102 rfl ?_
        refine G_getR 106 d_Tab_sortByPlace_103 rfl f_Tab_18 rfl (by assumption) (by assumption) ?_
        refine G_iload2 107 d_Tab_sortByPlace_106 rfl ?_
        refine G_ialoadv 108 d_Tab_sortByPlace_107 rfl (by assumption) (ix_nI (by omega) (by omega)) (by rw [u2_ne _ _ _ _ n21]; exact e2 : _ = nI (F i)) ?_
        refine G_iastore 109 d_Tab_sortByPlace_108 rfl (by assumption) (ix_nI (by omega) (by omega)) ?_
        first | refine G_iinc2 _ 112 d_Tab_sortByPlace_109 rfl (by decide) rfl (dI_m1 _) ?_ | refine G_iinc2 _ 112 d_Tab_sortByPlace_109 rfl (by decide) rfl rfl ?_
        refine G_goto 71 d_Tab_sortByPlace_112 rfl ?_
        exact ih (by omega) _ _ hS2
  have L2 : ∀ k, k ≤ 85 → ∀ (AI1 : FT), (∀ b, b ≠ ta 1 → AI1 b = AI b) → 1 ≤ k → (∀ t, t < 85 → AI1 (ta 1) t = if t < k then nI (sm (fun u => cn P u c) (t + 1)) else nI (cn P t c)) → G V m_Tab_sortByPlace (d + 1) 38 [some (.ref t), some (.int (nI c)), some (.int (nI k)), none] [] X FI AI1 AL (fun r X' FI' AI' AL' => r = none ∧ X' = X ∧ FI' = FI ∧ AL' = AL ∧ ST3 AI AI' ta P F c 0) := by
    refine upto ?_ ?_
    · intro AI1 h1 _ h2
      refine G_iload2 39 d_Tab_sortByPlace_38 rfl ?_
      refine G_bipushN 84 41 d_Tab_sortByPlace_39 rfl rfl ?_
      first | refine G_icgtN 67 44 d_Tab_sortByPlace_41 rfl rfl (by omega) (by omega) (fun h41 => ?_) (fun h41 => ?_) | refine G_icgt 67 44 d_Tab_sortByPlace_41 rfl rfl (fun h41 => ?_) (fun h41 => ?_)
      · refine G_iload1 68 d_Tab_sortByPlace_67 rfl ?_
        refine G_iconstN 1 69 d_Tab_sortByPlace_68 rfl rfl ?_
        refine G_isub 70 d_Tab_sortByPlace_69 rfl ?_
        rw [show nI c - nI 1 = dI c from rfl]
        refine G_istore2 71 d_Tab_sortByPlace_70 rfl (by decide) rfl ?_
        refine L3 c (Nat.le_refl _) AI1 _ ⟨fun b b0 b1 => h1 b b1, fun t ht => ?_, fun j hj hjc => by omega⟩
        rw [h2 t ht, if_pos ht, sm]
      · omega
    · intro k hk ih AI1 h1 hk1 h2
      have a1 := h2 k hk
      rw [if_neg (by omega)] at a1
      have a2 := h2 (k - 1) (by omega)
      rw [if_pos (by omega), show k - 1 + 1 = k by omega] at a2
      refine G_iload2 39 d_Tab_sortByPlace_38 rfl ?_
      refine G_bipushN 84 41 d_Tab_sortByPlace_39 rfl rfl ?_
      first | refine G_icgtN 67 44 d_Tab_sortByPlace_41 rfl rfl (by omega) (by omega) (fun h41 => ?_) (fun h41 => ?_) | refine G_icgt 67 44 d_Tab_sortByPlace_41 rfl rfl (fun h41 => ?_) (fun h41 => ?_)
      · omega
      · refine G_aload0 45 d_Tab_sortByPlace_44 rfl ?_
        refine G_getR 48 d_Tab_sortByPlace_45 rfl f_Tab_15 rfl (by assumption) (by assumption) ?_
        refine G_iload2 49 d_Tab_sortByPlace_48 rfl ?_
        refine G_dup2 50 d_Tab_sortByPlace_49 rfl rfl rfl ?_
        refine G_ialoadv 51 d_Tab_sortByPlace_50 rfl (by assumption) (ix_nI (by omega) (by omega)) a1 ?_
        refine G_aload0 52 d_Tab_sortByPlace_51 rfl ?_
        refine G_getR 55 d_Tab_sortByPlace_52 rfl f_Tab_15 rfl (by assumption) (by assumption) ?_
        refine G_iload2 56 d_Tab_sortByPlace_55 rfl ?_
        refine G_iconstN 1 57 d_Tab_sortByPlace_56 rfl rfl ?_
        first | refine G_isubN 58 d_Tab_sortByPlace_57 rfl (by omega) ?_ | refine G_isub 58 d_Tab_sortByPlace_57 rfl ?_
        refine G_ialoadv 59 d_Tab_sortByPlace_58 rfl (by assumption) (ix_nI (by omega) (by omega)) a2 ?_
        first | refine G_iaddN 60 d_Tab_sortByPlace_59 rfl ?_ | refine G_iadd 60 d_Tab_sortByPlace_59 rfl ?_
        rw [show cn P k c + sm (fun u => cn P u c) k = sm (fun u => cn P u c) (k + 1) by rw [sm]; omega]
        refine G_iastore 61 d_Tab_sortByPlace_60 rfl (by assumption) (ix_nI (by omega) (by omega)) ?_
        first | refine G_iincN2 64 d_Tab_sortByPlace_61 rfl (by decide) rfl ?_ | refine G_iinc2 _ 64 d_Tab_sortByPlace_61 rfl (by decide) rfl rfl ?_
        refine G_goto 38 d_Tab_sortByPlace_64 rfl ?_
        refine ih _ (fun b hb => by rw [u2_off _ _ _ hb]; exact h1 b hb) (by omega) (fun t ht => ?_)
        by_cases e : t = k
        · subst e
          rw [u2_at, if_pos (by omega)]
        · rw [u2_ix _ _ e, h2 t ht]
          by_cases e2 : t < k
          · rw [if_pos e2, if_pos (by omega)]
          · rw [if_neg e2, if_neg (by omega)]
  have L1 : ∀ k, k ≤ c → ∀ (AI1 : FT), (∀ b, b ≠ ta 1 → AI1 b = AI b) → (∀ t, t < 85 → AI1 (ta 1) t = nI (cn P t k)) → G V m_Tab_sortByPlace (d + 1) 10 [some (.ref t), some (.int (nI c)), some (.int (nI k)), none] [] X FI AI1 AL (fun r X' FI' AI' AL' => r = none ∧ X' = X ∧ FI' = FI ∧ AL' = AL ∧ ST3 AI AI' ta P F c 0) := by
    refine upto ?_ ?_
    · intro AI1 h1 h2
      refine G_iload2 11 d_Tab_sortByPlace_10 rfl ?_
      refine G_iload1 12 d_Tab_sortByPlace_11 rfl ?_
      first | refine G_icgeN 36 15 d_Tab_sortByPlace_12 rfl rfl (by omega) (by omega) (fun h12 => ?_) (fun h12 => ?_) | refine G_icge 36 15 d_Tab_sortByPlace_12 rfl rfl (fun h12 => ?_) (fun h12 => ?_)
      · refine G_iconstN 1 37 d_Tab_sortByPlace_36 rfl rfl ?_
        refine G_istore2 38 d_Tab_sortByPlace_37 rfl (by decide) rfl ?_
        refine L2 1 (by omega) AI1 h1 (Nat.le_refl _) (fun t ht => ?_)
        rw [h2 t ht]
        by_cases e : t < 1
        · rw [if_pos e, show t = 0 by omega, sm, sm, Nat.zero_add]
        · rw [if_neg e]
      · omega
    · intro k hk ih AI1 h1 h2
      obtain ⟨p1, p2, p3⟩ := hp k hk
      have a0 : AI1 (ta 3) k = nI (P k) := by rw [h1 _ n31]; exact p2
      have a1 := h2 (P k) (by omega)
      refine G_iload2 11 d_Tab_sortByPlace_10 rfl ?_
      refine G_iload1 12 d_Tab_sortByPlace_11 rfl ?_
      first | refine G_icgeN 36 15 d_Tab_sortByPlace_12 rfl rfl (by omega) (by omega) (fun h12 => ?_) (fun h12 => ?_) | refine G_icge 36 15 d_Tab_sortByPlace_12 rfl rfl (fun h12 => ?_) (fun h12 => ?_)
      · omega
      · refine G_aload0 16 d_Tab_sortByPlace_15 rfl ?_
        refine G_getR 19 d_Tab_sortByPlace_16 rfl f_Tab_15 rfl (by assumption) (by assumption) ?_
        refine G_aload0 20 d_Tab_sortByPlace_19 rfl ?_
        refine G_getR 23 d_Tab_sortByPlace_20 rfl f_Tab_21 rfl (by assumption) (by assumption) ?_
        refine G_iload2 24 d_Tab_sortByPlace_23 rfl ?_
        refine G_ialoadv 25 d_Tab_sortByPlace_24 rfl (by assumption) (ix_nI (by omega) (by omega)) a0 ?_
        refine G_dup2 26 d_Tab_sortByPlace_25 rfl rfl rfl ?_
        refine G_ialoadv 27 d_Tab_sortByPlace_26 rfl (by assumption) (ix_nI (by omega) (by omega)) a1 ?_
        refine G_iconstN 1 28 d_Tab_sortByPlace_27 rfl rfl ?_
        first | refine G_iaddN 29 d_Tab_sortByPlace_28 rfl ?_ | refine G_iadd 29 d_Tab_sortByPlace_28 rfl ?_
        refine G_iastore 30 d_Tab_sortByPlace_29 rfl (by assumption) (ix_nI (by omega) (by omega)) ?_
        first | refine G_iincN2 33 d_Tab_sortByPlace_30 rfl (by decide) rfl ?_ | refine G_iinc2 _ 33 d_Tab_sortByPlace_30 rfl (by decide) rfl rfl ?_
        refine G_goto 10 d_Tab_sortByPlace_33 rfl ?_
        refine ih _ (fun b hb => by rw [u2_off _ _ _ hb]; exact h1 b hb) (fun t ht => ?_)
        by_cases e : t = P k
        · subst e
          rw [u2_at, cn_self]
        · rw [u2_ix _ _ e, h2 t ht, cn_off (fun h => e h.symm)]
  refine G_aload0 1 d_Tab_sortByPlace_0 rfl ?_
  refine G_getR 4 d_Tab_sortByPlace_1 rfl f_Tab_15 rfl (by assumption) (by assumption) ?_
  refine G_iconstN 0 5 d_Tab_sortByPlace_4 rfl rfl ?_
  refine G_invS2v 8 d_Tab_sortByPlace_5 rfl e_Tab_91 M_Arr_fill_AIIV (Nat.le_of_ble_eq_true rfl) (Nat.le_of_ble_eq_true rfl) rfl (s_fillI (by assumption) (by omega)) ?_
  refine G_iconstN 0 9 d_Tab_sortByPlace_8 rfl rfl ?_
  refine G_istore2 10 d_Tab_sortByPlace_9 rfl (by decide) rfl ?_
  exact L1 0 (Nat.zero_le _) _ (fun b hb => sr_ne _ _ hb) (fun t ht => by rw [sr_at]; rfl)
