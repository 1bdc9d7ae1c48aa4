/-! ===== the class builds its table ===== -/
theorem vpl_lt {Ls v : List Nat} (hl : ∀ l ∈ Ls, l < 84) (h : v ∈ rowsD Ls 6) : vpl Ls v < 84 := by
  have h1 := (rowsD_mem _ _ _ h).2
  have h2 := vdeg_xyz Ls v hl
  exact pl_lt (by omega)
theorem leadL_mem {gl : Nat → Nat} {n : Nat} (hl : ∀ i, i < n → gl i < 84) : ∀ l ∈ leadL gl n, l < 84 := fun l hm => by
  simp only [leadL, List.mem_map, List.mem_range] at hm
  obtain ⟨i, hi, rfl⟩ := hm
  exact hl i hi
theorem s_build {V : GV} {d t g n : Nat} {ta ga po qo gl : Nat → Nat} {X : XT} {FI AI : FT} {AL : LT} (hT : TO X t ta) (hG : GO X g ga po qo) (hL : GLd FI AI g ga n gl) (hga : ∀ i, i < 7 → ga 2 ≠ ta i) (hi : ∀ i j, i < n → j < n → gl i = gl j → i = j) :
    G V m_Tab_build (d + 3) 0 [some (.ref t), some (.ref g), none] [] X FI AI AL (fun r X' FI' AI' AL' => r = none ∧ X' = X ∧ FI' = FI ∧ AL' = AL ∧ (∀ b, (∀ i, i < 7 → b ≠ ta i) → AI' b = AI b) ∧ TBL AI' ta (leadL gl n) ∧ ∀ j, j < 84 → AI' (ta 6) j = nI 0) := by
  have hT0 := hT
  obtain ⟨t0, r0, r1, r2, r3, r4, r5, r6, q0, q1, q2, q3, q4, q5, q6, hinj⟩ := hT
  have hE := rows_344 hL.2.1 (fun i hi => (hL.2.2 i hi).2) hi
  have hv : ∀ v, v ∈ rowsD (leadL gl n) 6 → vpl (leadL gl n) v < 84 := fun v h => vpl_lt (leadL_mem (fun i hi => (hL.2.2 i hi).2.1)) h
  have n6 : ∀ i, i < 6 → ta 6 ≠ ta i := fun i hi e => by have := hinj 6 i (by omega) (by omega) e; omega
  have L : ∀ k, k ≤ 84 → ∀ (AJ : FT), (∀ b, b ≠ ta 6 → AJ b = AI b) → (∀ j, j < k → AJ (ta 6) j = nI 0) → G V m_Tab_build (d + 3) 2 [some (.ref t), some (.ref g), some (.int (nI k))] [] X FI AJ AL (fun r X' FI' AI' AL' => r = none ∧ X' = X ∧ FI' = FI ∧ AL' = AL ∧ (∀ b, (∀ i, i < 7 → b ≠ ta i) → AI' b = AI b) ∧ TBL AI' ta (leadL gl n) ∧ ∀ j, j < 84 → AI' (ta 6) j = nI 0) := by
    refine upto ?_ ?_
    · intro AJ h1 h2
      have hL1 : GLd FI AJ g ga n gl := ⟨hL.1, hL.2.1, fun i hi => by rw [h1 _ (hga 6 (by omega))]; exact hL.2.2 i hi⟩
      have hf := s_find (V := V) (d := d) (AL := AL) hT0 hG hL1 hga hE
      refine G_iload2 3 d_Tab_build_2 rfl ?_
      refine G_bipushN 84 5 d_Tab_build_3 rfl rfl ?_
      first | refine G_icgeN 21 8 d_Tab_build_5 rfl rfl (by omega) (by omega) (fun h5 => ?_) (fun h5 => ?_) | refine G_icge 21 8 d_Tab_build_5 rfl rfl (fun h5 => ?_) (fun h5 => ?_)
      · refine G_aload0 22 d_Tab_build_21 rfl ?_
        refine G_aload0 23 d_Tab_build_22 rfl ?_
        refine G_aload1 24 d_Tab_build_23 rfl ?_
        refine G_invV1 27 d_Tab_build_24 rfl e_Tab_48 M_Tab_find rfl (by assumption) (Nat.le_of_ble_eq_true rfl) (Nat.le_of_ble_eq_true rfl) rfl (G.conseq (hf) (fun r X1 FI1 AI1 AL1 h24 => ?_))
        obtain ⟨rfl, rfl, rfl, rfl, hF⟩ := h24
        have hs := s_sortByPlace (V := V) (d := d + 1) (FI := FI1) (AL := AL1) (P := fun i => vpl (leadL gl n) ((rowsD (leadL gl n) 6).getD i [])) (F := fun i => num ((rowsD (leadL gl n) 6).getD i [])) (AI := AI1) hT0 hE (fun i hi => by
          have hg : (rowsD (leadL gl n) 6)[i]? = some ((rowsD (leadL gl n) 6).getD i []) := by simp [List.getD, List.getElem?_eq_getElem hi]
          have := hF.2 i _ hi hg
          exact ⟨this.1, this.2, hv _ (List.mem_of_getElem? hg)⟩)
        refine G_invV1 30 d_Tab_build_27 rfl e_Tab_52 M_Tab_sortByPlace rfl (by assumption) (Nat.le_of_ble_eq_true rfl) (Nat.le_of_ble_eq_true rfl) rfl (G.conseq (hs) (fun r X1 FI1 AI1 AL1 h27 => ?_))
        obtain ⟨rfl, rfl, rfl, rfl, hS⟩ := h27
        refine G_vret d_Tab_build_30 rfl ?_
        refine ⟨rfl, rfl, rfl, rfl, fun b hb => ?_, TBL.of hE hv hS, fun j hj => ?_⟩
        · rw [hS.1 b (hb 0 (by omega)) (hb 1 (by omega)), hF.1 b (hb 2 (by omega)) (hb 3 (by omega)) (hb 4 (by omega)), h1 b (hb 6 (by omega))]
        · rw [hS.1 _ (n6 0 (by omega)) (n6 1 (by omega)), hF.1 _ (n6 2 (by omega)) (n6 3 (by omega)) (n6 4 (by omega))]
          exact h2 j hj
      · omega
    · intro k hk ih AJ h1 h2
      refine G_iload2 3 d_Tab_build_2 rfl ?_
      refine G_bipushN 84 5 d_Tab_build_3 rfl rfl ?_
      first | refine G_icgeN 21 8 d_Tab_build_5 rfl rfl (by omega) (by omega) (fun h5 => ?_) (fun h5 => ?_) | refine G_icge 21 8 d_Tab_build_5 rfl rfl (fun h5 => ?_) (fun h5 => ?_)
      · omega
      · refine G_aload0 9 d_Tab_build_8 rfl ?_
        refine G_getR 12 d_Tab_build_9 rfl f_Tab_35 rfl (by assumption) (by assumption) ?_
        refine G_iload2 13 d_Tab_build_12 rfl ?_
        refine G_iconstN 0 14 d_Tab_build_13 rfl rfl ?_
        refine G_bastore 15 d_Tab_build_14 rfl (by assumption) (ix_nI (by omega) (by omega)) rfl ?_
        first | refine G_iincN2 18 d_Tab_build_15 rfl (by decide) rfl ?_ | refine G_iinc2 _ 18 d_Tab_build_15 rfl (by decide) rfl rfl ?_
        refine G_goto 2 d_Tab_build_18 rfl ?_
        refine ih _ (fun b hb => by rw [u2_off _ _ _ hb]; exact h1 b hb) (fun j hj => ?_)
        by_cases e : j = k
        · subst e
          rw [u2_at]
        · rw [u2_ix _ _ e]
          exact h2 j (by omega)
  refine G_iconstN 0 1 d_Tab_build_0 rfl rfl ?_
  refine G_istore2 2 d_Tab_build_1 rfl (by decide) rfl ?_
  exact L 0 (Nat.zero_le _) AI (fun _ _ => rfl) (fun j hj => by omega)
theorem s_countAt {V : GV} {d t p : Nat} {ta : Nat → Nat} {Ls : List Nat} {X : XT} {FI AI : FT} {AL : LT} (hT : TO X t ta) (hB : TBL AI ta Ls) (hp : p < 84) :
    G V m_Tab_countAt d 0 [some (.ref t), some (.int (nI p))] [] X FI AI AL (Pd (some (.int (nI (RT Ls p).length))) X FI AI AL) := by
  obtain ⟨t0, r0, r1, r2, r3, r4, r5, r6, q0, q1, q2, q3, q4, q5, q6, hinj⟩ := hT
  obtain ⟨S, hS⟩ := hB
  obtain ⟨b1, b2, b3, -⟩ := hS p hp
  refine G_aload0 1 d_Tab_countAt_0 rfl ?_
  refine G_getR 4 d_Tab_countAt_1 rfl f_Tab_15 rfl (by assumption) (by assumption) ?_
  refine G_iload1 5 d_Tab_countAt_4 rfl ?_
  refine G_iconstN 1 6 d_Tab_countAt_5 rfl rfl ?_
  first | refine G_iaddN 7 d_Tab_countAt_6 rfl ?_ | refine G_iadd 7 d_Tab_countAt_6 rfl ?_
  refine G_ialoadv 8 d_Tab_countAt_7 rfl (by assumption) (ix_nI (by omega) (by omega)) b2 ?_
  refine G_aload0 9 d_Tab_countAt_8 rfl ?_
  refine G_getR 12 d_Tab_countAt_9 rfl f_Tab_15 rfl (by assumption) (by assumption) ?_
  refine G_iload1 13 d_Tab_countAt_12 rfl ?_
  refine G_ialoadv 14 d_Tab_countAt_13 rfl (by assumption) (ix_nI (by omega) (by omega)) b1 ?_
  first | refine G_isubN 15 d_Tab_countAt_14 rfl (by omega) ?_ | refine G_isub 15 d_Tab_countAt_14 rfl ?_
  refine G_iret d_Tab_countAt_15 rfl ?_
  rw [show S p + (RT Ls p).length - S p = (RT Ls p).length by omega]
  exact ⟨rfl, rfl, rfl, rfl, rfl⟩
theorem s_rowAt {V : GV} {d t p i : Nat} {v : List Nat} {ta : Nat → Nat} {Ls : List Nat} {X : XT} {FI AI : FT} {AL : LT} (hT : TO X t ta) (hB : TBL AI ta Ls) (hp : p < 84) (hi : (RT Ls p)[i]? = some v) :
    G V m_Tab_rowAt d 0 [some (.ref t), some (.int (nI p)), some (.int (nI i))] [] X FI AI AL (Pd (some (.int (nI (num v)))) X FI AI AL) := by
  obtain ⟨t0, r0, r1, r2, r3, r4, r5, r6, q0, q1, q2, q3, q4, q5, q6, hinj⟩ := hT
  obtain ⟨S, hS⟩ := hB
  obtain ⟨b1, b2, b3, b4⟩ := hS p hp
  have hil := (List.getElem?_eq_some_iff.mp hi).1
  refine G_aload0 1 d_Tab_rowAt_0 rfl ?_
  refine G_getR 4 d_Tab_rowAt_1 rfl f_Tab_9 rfl (by assumption) (by assumption) ?_
  refine G_aload0 5 d_Tab_rowAt_4 rfl ?_
  refine G_getR 8 d_Tab_rowAt_5 rfl f_Tab_15 rfl (by assumption) (by assumption) ?_
  refine G_iload1 9 d_Tab_rowAt_8 rfl ?_
  refine G_ialoadv 10 d_Tab_rowAt_9 rfl (by assumption) (ix_nI (by omega) (by omega)) b1 ?_
  refine G_iload2 11 d_Tab_rowAt_10 rfl ?_
  first | refine G_iaddN 12 d_Tab_rowAt_11 rfl ?_ | refine G_iadd 12 d_Tab_rowAt_11 rfl ?_
  refine G_ialoadv 13 d_Tab_rowAt_12 rfl (by assumption) (ix_nI (by omega) (by omega)) (b4 i v hi) ?_
  refine G_iret d_Tab_rowAt_13 rfl ?_
  exact ⟨rfl, rfl, rfl, rfl, rfl⟩
