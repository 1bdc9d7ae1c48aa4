/-! ===== the class: the list of RELATIONS ===== -/
/-- a ROW of nothing is alone -/
theorem RN_z {gl : Nat → Nat} {n t i r : Nat} (hn : n ≤ 7) (hl : ∀ i, i < n → gl i < 84 ∧ 1 ≤ eD (gl i)) (ht : t < 84) (hr : (RN (leadL gl n) t)[i]? = some r) (hno : ¬ ∃ g, g < 7 ∧ 0 < pw r g) : (RN (leadL gl n) t).length ≤ 1 := by
  obtain ⟨v, hv, hvn⟩ := RN_get hr
  obtain ⟨c1, c2, c3, c4, c5, c6⟩ := RT_ok hn hl hv
  have hz : ∀ p ∈ v, p = 0 := fun p hp => by
    obtain ⟨j, hj⟩ := List.getElem?_of_mem hp
    have hj' := (List.getElem?_eq_some_iff.mp hj).1
    have := c6 j (by omega)
    rw [hvn, List.getD_eq_getElem?_getD, hj] at this
    simp only [Option.getD_some] at this
    rcases Nat.eq_zero_or_pos p with q | q
    · exact q
    · exact absurd ⟨j, by omega, by show 0 < pw r j; omega⟩ hno
  have hd0 := vdeg_zero (leadL gl n) v hz
  have hx := vdeg_xyz (leadL gl n) v (fun l hm => (leadL_all hl l hm).1)
  have ht0 : t = 0 := by
    rw [← c3]; unfold vpl
    rw [show vsum eX (leadL gl n) v = 0 by omega, show vsum eY (leadL gl n) v = 0 by omega, show vsum eZ (leadL gl n) v = 0 by omega]
    decide
  have hone := rowsM_one (leadL gl n) (leadL_all hl)
  have z0 : eX 0 = 0 ∧ eY 0 = 0 ∧ eZ 0 = 0 := by decide
  have hRT := RT_M (leadL_all hl) ht
  rw [ht0, z0.1, z0.2.1, z0.2.2] at hRT
  rw [RN, List.length_map, ht0, hRT]
  exact hone
theorem joF_1 {bits i : Nat} : ∀ L : List (Nat × Nat), (joF bits i L).length ≤ L.length + 1
  | [] => by simp [joF]
  | q :: L => by
    have hs : (joS bits L).1.length ≤ L.length := by
      clear q
      induction L with
      | nil => simp [joS]
      | cons q L ih =>
        rw [joS]
        split
        · rw [List.length_cons]; exact Nat.le_succ_of_le ih
        · simp only [List.length_cons]; omega
    have := joF_1 (bits := bits) (i := i) L
    rw [joF]
    split
    · simp only [List.length_cons]; omega
    · simp only [List.length_cons]; omega
theorem gpF_n (Rs : List Nat) : ∀ n, (gpF Rs n).length ≤ n
  | 0 => Nat.le_refl _
  | n + 1 => by
    have := gpF_n Rs n
    have := joF_1 (bits := sup (Rs.getD n 0)) (i := n) (gpF Rs n)
    rw [gpF]; omega
theorem gp7 {gl : Nat → Nat} {n t : Nat} (hn : n ≤ 7) (hl : ∀ i, i < n → gl i < 84 ∧ 1 ≤ eD (gl i)) (ht : t < 84) (i : Nat) (hi : i ≤ (RN (leadL gl n) t).length) : (gpF (RN (leadL gl n) t) i).length ≤ 7 := by
  by_cases h : ∃ j r : Nat, (RN (leadL gl n) t)[j]? = some r ∧ ¬ ∃ g, g < 7 ∧ 0 < pw r g
  · obtain ⟨j, r, h1, h2⟩ := h
    have := RN_z hn hl ht h1 h2
    have := gpF_n (RN (leadL gl n) t) i
    omega
  · refine GrI_7 hi (GrI_all _ i hi) (fun j hj => ?_)
    have hj' : j < (RN (leadL gl n) t).length := by omega
    have hg : (RN (leadL gl n) t)[j]? = some (RN (leadL gl n) t)[j] := List.getElem?_eq_getElem hj'
    rw [gD hg]
    exact Classical.byContradiction fun hno => h ⟨j, _, hg, hno⟩
theorem s_findGroups {V : GV} {d lo p : Nat} {Gt : GT} {X : XT} {FI AI : FT} {AL : LT} (h : CO X lo) (hT : CTb Gt AI lo) (hn : gN Gt ≤ 7) (hl : ∀ i, i < gN Gt → gL Gt i < 84 ∧ 1 ≤ eD (gL Gt i)) (hp : p < 84) : G V m_Rel_findGroups (d + 3) 0 [some (.ref (lo + 35)), some (.ref (lo + 27)), some (.int (nI p)), none, none, none] [] X FI AI AL (jnP X FI AI AL (lo + 35) (RN (cLs Gt) p) (gpF (RN (cLs Gt) p) (RN (cLs Gt) p).length)) := by
  have eN : (RN (cLs Gt) p).length = (RT (cLs Gt) p).length := by unfold RN; rw [List.length_map]
  have h344 : (RT (cLs Gt) p).length ≤ 344 := by
    obtain ⟨S, hS⟩ := hT
    have := (hS p hp).2.2.1
    omega
  have hg7 : ∀ i, i ≤ (RN (cLs Gt) p).length → (gpF (RN (cLs Gt) p) i).length ≤ 7 := gp7 (gl := gL Gt) (n := gN Gt) hn hl hp
  have L : ∀ i, i ≤ (RN (cLs Gt) p).length → ∀ AJ : FT, (∀ c, c ≠ lo + 39 → c ≠ lo + 40 → AJ c = AI c) → GLt AJ (lo + 35) (RN (cLs Gt) p) (gpF (RN (cLs Gt) p) i) → G V m_Rel_findGroups (d + 3) 12 [some (.ref (lo + 35)), some (.ref (lo + 27)), some (.int (nI p)), some (.int (nI (gpF (RN (cLs Gt) p) i).length)), some (.int (nI (RT (cLs Gt) p).length)), some (.int (nI i))] [] X FI AJ AL (jnP X FI AI AL (lo + 35) (RN (cLs Gt) p) (gpF (RN (cLs Gt) p) (RN (cLs Gt) p).length)) := by
    refine upto ?_ ?_
    · intro AJ k1 k2
      refine G_iload5 14 d_Rel_findGroups_12 rfl ?_
      refine G_iload4 16 d_Rel_findGroups_14 rfl ?_
      first | refine G_icgeN 38 19 d_Rel_findGroups_16 rfl rfl (by omega) (by omega) (fun h16 => ?_) (fun h16 => ?_) | refine G_icge 38 19 d_Rel_findGroups_16 rfl rfl (fun h16 => ?_) (fun h16 => ?_)
      · refine G_iload3 39 d_Rel_findGroups_38 rfl ?_
        refine G_iret d_Rel_findGroups_39 rfl ?_
        exact ⟨rfl, rfl, rfl, rfl, fun c c1 c2 => k1 c (by omega) (by omega), k2⟩
      · omega
    · intro i hi ih AJ k1 k2
      have hi' : i < (RT (cLs Gt) p).length := by omega
      have hv : (RT (cLs Gt) p)[i]? = some (RT (cLs Gt) p)[i] := List.getElem?_eq_getElem hi'
      obtain ⟨o1, o2, o3, o4, o5, o6⟩ := RT_ok hn hl hv
      have hT2 : CTb Gt AJ lo := hT.tr (k1 _ (by omega) (by omega)) (k1 _ (by omega) (by omega))
      have hro := s_rowAt (V := V) (d := d + 2) (FI := FI) (AL := AL) h.to hT2 hp hv
      have egd : (RN (cLs Gt) p).getD i 0 = num (RT (cLs Gt) p)[i] := by
        unfold RN
        rw [List.getD_eq_getElem?_getD, List.getElem?_map, hv]; rfl
      have hG7 := hg7 (i + 1) hi
      have e1 : gpF (RN (cLs Gt) p) (i + 1) = joF (sup (num (RT (cLs Gt) p)[i])) i (gpF (RN (cLs Gt) p) i) := by rw [gpF, egd]
      have hjn := s_join (V := V) (d := d) (n := i) (FI := FI) (AL := AL) h.rl (hg7 i (by omega)) (show num (RT (cLs Gt) p)[i] < 2 ^ 31 by omega) egd (by rw [← e1]; exact hG7) k2 (gpF_lt _ i)
      rw [← e1] at hjn
      have tos := h.s3
      refine G_iload5 14 d_Rel_findGroups_12 rfl ?_
      refine G_iload4 16 d_Rel_findGroups_14 rfl ?_
      first | refine G_icgeN 38 19 d_Rel_findGroups_16 rfl rfl (by omega) (by omega) (fun h16 => ?_) (fun h16 => ?_) | refine G_icge 38 19 d_Rel_findGroups_16 rfl rfl (fun h16 => ?_) (fun h16 => ?_)
      · omega
      · refine G_aload0 20 d_Rel_findGroups_19 rfl ?_
        refine G_aload1 21 d_Rel_findGroups_20 rfl ?_
        refine G_iload2 22 d_Rel_findGroups_21 rfl ?_
        refine G_iload5 24 d_Rel_findGroups_22 rfl ?_
        refine G_invV2d 27 d_Rel_findGroups_24 rfl e_Rel_47 M_Tab_rowAt rfl (by assumption) (Nat.le_of_ble_eq_true rfl) (Nat.le_of_ble_eq_true rfl) rfl (hro) ?_
        refine G_iload3 28 d_Rel_findGroups_27 rfl ?_
        refine G_invV2 31 d_Rel_findGroups_28 rfl e_Rel_51 M_Rel_join rfl h.s4 (Nat.le_of_ble_eq_true rfl) (Nat.le_of_ble_eq_true rfl) rfl (G.conseq (hjn) (fun r28 X28 FI28 AI28 AL28 h28 => ?_))
        obtain ⟨a1, a2, a3, a4, a5, a6⟩ := h28
        replace a2 := a2.symm
        replace a3 := a3.symm
        replace a4 := a4.symm
        subst a1 a2 a3 a4
        refine G_istore3 32 d_Rel_findGroups_31 rfl (by decide) rfl ?_
        first | refine G_iincN5 35 d_Rel_findGroups_32 rfl (by decide) rfl ?_ | refine G_iinc5 _ 35 d_Rel_findGroups_32 rfl (by decide) rfl rfl ?_
        refine G_goto 12 d_Rel_findGroups_35 rfl ?_
        exact ih _ (fun c c1 c2 => by rw [a5 c (by omega) (by omega)]; exact k1 c c1 c2) a6
  have hca := s_countAt (V := V) (d := d + 2) (FI := FI) (AL := AL) h.to hT hp
  have tos := h.s3
  refine G_iconstN 0 1 d_Rel_findGroups_0 rfl rfl ?_
  refine G_istore3 2 d_Rel_findGroups_1 rfl (by decide) rfl ?_
  refine G_aload1 3 d_Rel_findGroups_2 rfl ?_
  refine G_iload2 4 d_Rel_findGroups_3 rfl ?_
  refine G_invV1d 7 d_Rel_findGroups_4 rfl e_Rel_43 M_Tab_countAt rfl (by assumption) (Nat.le_of_ble_eq_true rfl) (Nat.le_of_ble_eq_true rfl) rfl (hca) ?_
  refine G_istore4 9 d_Rel_findGroups_7 rfl (by decide) rfl ?_
  refine G_iconstN 0 10 d_Rel_findGroups_9 rfl rfl ?_
  refine G_istore5 12 d_Rel_findGroups_10 rfl (by decide) rfl ?_
  exact L 0 (Nat.zero_le _) AI (fun _ _ _ => rfl) (fun i q hq => by simp [gpF] at hq)
/-! all TERMS, from the least up -/
noncomputable def PLs (o : Nat) (Ls : List Nat) : Nat → List (Nat × Nat)
  | 0 => []
  | k + 1 => PLs o Ls k ++ prsR (RN Ls (rk o k))
theorem deg_rk : ∀ o, o < 3 → ∀ r, r < 84 → ∀ d, d < 7 → (eD (rk o r) ≤ d ↔ r < eS (d + 1)) := by decide +kernel
theorem eS_84 : ∀ d, d < 7 → eS (d + 1) ≤ 84 := by decide
theorem rlD_hi {o d : Nat} {Ls : List Nat} (ho : o < 3) (hd : d < 7) : ∀ m, m ≤ 84 → eS (d + 1) ≤ 84 - m → rlD o Ls d m = []
  | 0, _, _ => rfl
  | m + 1, hm, he => by
    have := (deg_rk o ho (83 - m) (by omega) d hd)
    rw [rlD, if_neg (by omega), rlD_hi ho hd m (by omega) (by omega)]; rfl
theorem rlD_lo {o d : Nat} {Ls : List Nat} (ho : o < 3) (hd : d < 7) : ∀ k, k ≤ eS (d + 1) → rlD o Ls d 84 = PLs o Ls k ++ rlD o Ls d (84 - k)
  | 0, _ => rfl
  | k + 1, hk => by
    have h84 := eS_84 d hd
    have := (deg_rk o ho k (by omega) d hd)
    rw [rlD_lo ho hd k (by omega), show 84 - k = (84 - (k + 1)) + 1 by omega, rlD, show 83 - (84 - (k + 1)) = k by omega, if_pos (by omega), PLs, List.append_assoc]
theorem rlD_PL {o d : Nat} {Ls : List Nat} (ho : o < 3) (hd : d < 7) : rlD o Ls d 84 = PLs o Ls (eS (d + 1)) := by
  have h84 := eS_84 d hd
  rw [rlD_lo ho hd _ (Nat.le_refl _), rlD_hi ho hd _ (by omega) (by omega), List.append_nil]
theorem rk_perm : ∀ o, o < 3 → ((List.range 84).map (rk o)).Perm (List.range 84) := by decide +kernel
theorem hds_ln (Rs : List Nat) : (prsR Rs).length ≤ Rs.length := Nat.le_trans (hds_len Rs _ _) (Nat.sub_le _ _)
theorem PLs_le {o : Nat} {Ls : List Nat} : ∀ k, (PLs o Ls k).length ≤ ((List.range k).map (fun r => (RT Ls (rk o r)).length)).sum
  | 0 => by simp [PLs]
  | k + 1 => by
    have h1 := PLs_le (o := o) (Ls := Ls) k
    have h2 := hds_ln (RN Ls (rk o k))
    have e : (RN Ls (rk o k)).length = (RT Ls (rk o k)).length := by unfold RN; rw [List.length_map]
    rw [PLs, List.length_append, List.range_succ, List.map_append, List.sum_append]
    simp only [List.map_cons, List.map_nil, List.sum_cons, List.sum_nil]
    omega
theorem PLs_344 {o lo : Nat} {Gt : GT} {AI : FT} (ho : o < 3) (hT : CTb Gt AI lo) (k : Nat) (hk : k ≤ 84) : (PLs o (cLs Gt) k).length ≤ 344 := by
  obtain ⟨S, hS⟩ := hT
  have key : ∀ k, k < 84 → ((List.range k).map (fun t => (RT (cLs Gt) t).length)).sum ≤ S k := by
    intro k
    induction k with
    | zero => intro _; simp
    | succ k ih =>
      intro hk
      have := ih (by omega)
      obtain ⟨-, a2, a3, -⟩ := hS k (by omega)
      obtain ⟨b1, -, b3, -⟩ := hS (k + 1) hk
      rw [a2] at b1
      rw [nI_eq (by omega) (by omega)] at b1
      rw [List.range_succ, List.map_append, List.sum_append]
      simp only [List.map_cons, List.map_nil, List.sum_cons, List.sum_nil]
      omega
  have mono : ∀ j, k + j ≤ 84 → (PLs o (cLs Gt) k).length ≤ (PLs o (cLs Gt) (k + j)).length := by
    intro j
    induction j with
    | zero => intro _; exact Nat.le_refl _
    | succ j ih =>
      intro hj
      have := ih (by omega)
      rw [← Nat.add_assoc, PLs, List.length_append]; omega
  have h1 := mono (84 - k) (by omega)
  rw [show k + (84 - k) = 84 by omega] at h1
  have h2 := PLs_le (o := o) (Ls := cLs Gt) 84
  have h3 : ((List.range 84).map (fun r => (RT (cLs Gt) (rk o r)).length)).sum = ((List.range 84).map (fun t => (RT (cLs Gt) t).length)).sum := by
    have hp := (rk_perm o ho).map (fun t => (RT (cLs Gt) t).length)
    rw [List.map_map] at hp
    exact hp.sum_nat
  have h4 := key 83 (by omega)
  have h5 := (hS 83 (by omega)).2.2.1
  rw [List.range_succ, List.map_append, List.sum_append] at h3
  have h6 : ((List.range 84).map (fun t => (RT (cLs Gt) t).length)).sum = ((List.range 83).map (fun t => (RT (cLs Gt) t).length)).sum + (RT (cLs Gt) 83).length := by
    rw [show (84 : Nat) = 83 + 1 from rfl, List.range_succ, List.map_append, List.sum_append]
    simp
  rw [← List.sum_append, ← List.map_append, ← List.range_succ] at h3
  have h7 : ((List.range 84).map (fun r => (RT (cLs Gt) (rk o r)).length)).sum = ((List.range 84).map (fun t => (RT (cLs Gt) t).length)).sum := h3
  omega
