/-! ===== how many ROWS there are at most ===== -/
def btab : List (List Nat) := [[1, 1, 1, 1, 1, 1, 1], [1, 1, 2, 2, 3, 3, 4], [1, 1, 3, 3, 6, 6, 10], [1, 1, 4, 4, 10, 10, 20], [1, 1, 5, 5, 15, 15, 35], [1, 1, 6, 6, 21, 21, 56], [1, 1, 7, 7, 28, 28, 84], [1, 1, 8, 8, 36, 36, 120], [1, 2, 3, 4, 5, 6, 7], [1, 2, 4, 6, 9, 12, 16], [1, 2, 5, 8, 14, 20, 30], [1, 2, 6, 10, 20, 30, 50], [1, 2, 7, 12, 27, 42, 77], [1, 2, 8, 14, 35, 56, 112], [1, 2, 9, 16, 44, 72, 156], [0, 0, 0, 0, 0, 0, 0], [1, 3, 6, 10, 15, 21, 28], [1, 3, 7, 13, 22, 34, 50], [1, 3, 8, 16, 30, 50, 80], [1, 3, 9, 19, 39, 69, 119], [1, 3, 10, 22, 49, 91, 168], [1, 3, 11, 25, 60, 116, 228], [0, 0, 0, 0, 0, 0, 0], [0, 0, 0, 0, 0, 0, 0], [1, 4, 10, 20, 35, 56, 84], [1, 4, 11, 24, 46, 80, 130], [1, 4, 12, 28, 58, 108, 188], [1, 4, 13, 32, 71, 140, 259], [1, 4, 14, 36, 85, 176, 344], [0, 0, 0, 0, 0, 0, 0], [0, 0, 0, 0, 0, 0, 0], [0, 0, 0, 0, 0, 0, 0]]
def bnd (a b room : Nat) : Nat := (btab.getD (a * 8 + b) []).getD room 0
def dsm (g : Nat → Nat) : Nat → Nat
  | 0 => g 0
  | m + 1 => g (m + 1) + dsm g m
theorem dsm_le {g h : Nat → Nat} : ∀ {m : Nat}, (∀ p, p ≤ m → g p ≤ h p) → dsm g m ≤ dsm h m
  | 0, H => H 0 (Nat.le_refl _)
  | m + 1, H => Nat.add_le_add (H _ (Nat.le_refl _)) (dsm_le (fun p hp => H p (by omega)))
theorem rowsD_len (l : Nat) (Ls : List Nat) (room : Nat) : (rowsD (l :: Ls) room).length = dsm (fun p => (rowsD Ls (room - p * eD l)).length) (room / eD l) := by
  rw [rowsD]
  generalize room / eD l = m
  induction m with
  | zero => simp [dn, dsm]
  | succ m ih =>
    rw [dn, List.flatMap_cons, List.length_append, ih, List.length_map, dsm]
theorem bnd1 : ∀ a, a < 3 → ∀ b, b < 7 → a + b < 7 → ∀ room, room < 7 → dsm (fun p => bnd a b (room - p * 1)) (room / 1) ≤ bnd (a + 1) b room := by decide +kernel
theorem bnd2 : ∀ a, a < 4 → ∀ b, b < 7 → a + b < 7 → ∀ room, room < 7 → ∀ d, d < 7 → 2 ≤ d → dsm (fun p => bnd a b (room - p * d)) (room / d) ≤ bnd a (b + 1) room := by decide +kernel
theorem bnd3 : ∀ a, a < 4 → ∀ b, b < 8 → a + b < 8 → bnd a b 6 ≤ 344 := by decide +kernel
def on1 : List Nat → Nat
  | [] => 0
  | l :: Ls => on1 Ls + if eD l = 1 then 1 else 0
theorem on1_le : ∀ Ls : List Nat, on1 Ls ≤ Ls.length
  | [] => Nat.le_refl _
  | l :: Ls => by
    have := on1_le Ls
    rw [on1, List.length_cons]
    split <;> omega
theorem rowsD_bnd : ∀ (Ls : List Nat) (room : Nat), room ≤ 6 → (∀ l ∈ Ls, l < 84 ∧ 1 ≤ eD l) → on1 Ls ≤ 3 → Ls.length ≤ 7 → (rowsD Ls room).length ≤ bnd (on1 Ls) (Ls.length - on1 Ls) room
  | [], room, hr, _, _, _ => by
    have : ∀ r, r < 7 → 1 ≤ bnd 0 0 r := by decide
    exact this room (by omega)
  | l :: Ls, room, hr, hl, h1, h7 => by
    rw [List.length_cons] at h7
    have hle := on1_le Ls
    obtain ⟨l1, l2⟩ := hl l List.mem_cons_self
    have l3 := e_le l1
    have hl' : ∀ l ∈ Ls, l < 84 ∧ 1 ≤ eD l := fun x hx => hl x (List.mem_cons_of_mem _ hx)
    rw [rowsD_len, List.length_cons]
    by_cases e : eD l = 1
    · rw [on1, if_pos e] at h1 ⊢
      refine Nat.le_trans (dsm_le (h := fun p => bnd (on1 Ls) (Ls.length - on1 Ls) (room - p * eD l)) (fun p _ => rowsD_bnd Ls _ (by omega) hl' (by omega) (by omega))) ?_
      rw [e, show Ls.length + 1 - (on1 Ls + 1) = Ls.length - on1 Ls by omega]
      exact bnd1 _ (by omega) _ (by omega) (by omega) _ (by omega)
    · rw [on1, if_neg e, Nat.add_zero] at h1 ⊢
      refine Nat.le_trans (dsm_le (h := fun p => bnd (on1 Ls) (Ls.length - on1 Ls) (room - p * eD l)) (fun p _ => rowsD_bnd Ls _ (by omega) hl' (by omega) (by omega))) ?_
      rw [show Ls.length + 1 - on1 Ls = Ls.length - on1 Ls + 1 by omega]
      exact bnd2 _ (by omega) _ (by omega) (by omega) _ (by omega) _ (by omega) (by omega)
theorem eD_one : ∀ t, t < 84 → eD t = 1 → t = pl 1 0 0 ∨ t = pl 0 1 0 ∨ t = pl 0 0 1 := by decide +kernel
theorem on1_app (A : List Nat) (l : Nat) : on1 (A ++ [l]) = on1 A + if eD l = 1 then 1 else 0 := by
  induction A with
  | nil => rfl
  | cons a A ih => rw [List.cons_append, on1, ih, on1]; omega
theorem cn_inj {P : Nat → Nat} {t : Nat} : ∀ {k : Nat}, (∀ i j, i < k → j < k → P i = P j → i = j) → cn P t k ≤ 1 ∧ (cn P t k = 1 → ∃ i, i < k ∧ P i = t)
  | 0, _ => ⟨Nat.zero_le _, fun h => by cases h⟩
  | k + 1, h => by
    obtain ⟨h1, h2⟩ := cn_inj (P := P) (t := t) (k := k) (fun i j hi hj e => h i j (by omega) (by omega) e)
    by_cases e : P k = t
    · have : cn P t k = 0 := by
        rcases Nat.eq_zero_or_pos (cn P t k) with z | z
        · exact z
        · obtain ⟨i, hi, hp⟩ := h2 (by omega)
          have := h i k (by omega) (by omega) (by rw [hp, e])
          omega
      rw [cn, if_pos e, this]
      exact ⟨Nat.le_refl _, fun _ => ⟨k, by omega, e⟩⟩
    · rw [cn_off e]
      exact ⟨h1, fun h9 => by obtain ⟨i, hi, hp⟩ := h2 h9; exact ⟨i, by omega, hp⟩⟩
theorem leadL_succ (gl : Nat → Nat) (n : Nat) : leadL gl (n + 1) = leadL gl n ++ [gl n] := by simp [leadL, List.range_succ]
theorem on1_cn {gl : Nat → Nat} : ∀ {n : Nat}, (∀ i, i < n → gl i < 84) → on1 (leadL gl n) ≤ cn gl (pl 1 0 0) n + cn gl (pl 0 1 0) n + cn gl (pl 0 0 1) n
  | 0, _ => Nat.le_refl _
  | n + 1, h => by
    have ih := on1_cn (gl := gl) (n := n) (fun i hi => h i (by omega))
    rw [leadL_succ, on1_app]
    have := eD_one (gl n) (h n (by omega))
    simp only [cn]
    by_cases e : eD (gl n) = 1
    · rw [if_pos e]
      rcases this e with c | c | c
      · rw [if_pos c]; omega
      · rw [if_pos c]; omega
      · rw [if_pos c]; omega
    · rw [if_neg e]; omega
/-- 344 at most -/
theorem rows_344 {gl : Nat → Nat} {n : Nat} (hn : n ≤ 7) (hl : ∀ i, i < n → gl i < 84 ∧ 1 ≤ eD (gl i)) (hi : ∀ i j, i < n → j < n → gl i = gl j → i = j) : (rowsD (leadL gl n) 6).length ≤ 344 := by
  have h1 := on1_cn (gl := gl) (n := n) (fun i hi => (hl i hi).1)
  have h2 := (cn_inj (t := pl 1 0 0) hi).1
  have h3 := (cn_inj (t := pl 0 1 0) hi).1
  have h4 := (cn_inj (t := pl 0 0 1) hi).1
  have h5 := on1_le (leadL gl n)
  rw [leadL_len] at h5
  refine Nat.le_trans (rowsD_bnd _ 6 (by omega) (fun l hm => ?_) (by omega) (by rw [leadL_len]; exact hn)) (bnd3 _ (by omega) _ (by rw [leadL_len]; omega) (by rw [leadL_len]; omega))
  simp only [leadL, List.mem_map, List.mem_range] at hm
  obtain ⟨i, hi, rfl⟩ := hm
  exact hl i hi
/-! ===== ROWS of a TERM ===== -/
theorem filter_cn {α : Type} (f : α → Nat) (dflt : α) (L : List α) (t : Nat) : ∀ k, k ≤ L.length → ((L.take k).filter (fun v => f v == t)).length = cn (fun i => f (L.getD i dflt)) t k ∧ ∀ j v, ((L.take k).filter (fun v => f v == t))[j]? = some v → ∃ i, i < k ∧ L[i]? = some v ∧ f v = t ∧ cn (fun i => f (L.getD i dflt)) t i = j
  | 0, _ => by simp [cn]
  | k + 1, hk => by
    obtain ⟨h1, h2⟩ := filter_cn f dflt L t k (by omega)
    have hg : L[k]? = some L[k] := List.getElem?_eq_getElem (by omega)
    have hd : L.getD k dflt = L[k] := by simp [List.getD, hg]
    have ht : L.take (k + 1) = L.take k ++ [L[k]] := by rw [List.take_succ, hg]; rfl
    rw [ht, List.filter_append, List.length_append, h1]
    by_cases e : f L[k] = t
    · have e2 : [L[k]].filter (fun v => f v == t) = [L[k]] := by simp [e]
      rw [e2]
      refine ⟨by simp only [cn, hd, if_pos e]; rfl, fun j v hj => ?_⟩
      by_cases c : j < ((L.take k).filter (fun v => f v == t)).length
      · rw [List.getElem?_append_left c] at hj
        obtain ⟨i, a, b⟩ := h2 j v hj
        exact ⟨i, by omega, b⟩
      · rw [List.getElem?_append_right (by omega)] at hj
        have hj0 : j - ((L.take k).filter (fun v => f v == t)).length = 0 := by
          have := (List.getElem?_eq_some_iff.mp hj).1
          simp only [List.length_singleton] at this
          omega
        rw [hj0] at hj
        simp only [List.getElem?_cons_zero, Option.some.injEq] at hj
        exact ⟨k, by omega, by rw [hg, hj], by rw [← hj]; exact e, by omega⟩
    · have e2 : [L[k]].filter (fun v => f v == t) = [] := by simp [e]
      rw [e2]
      refine ⟨by simp only [cn, hd, if_neg e]; rfl, fun j v hj => ?_⟩
      rw [List.append_nil] at hj
      obtain ⟨i, a, b⟩ := h2 j v hj
      exact ⟨i, by omega, b⟩
def RT (Ls : List Nat) (t : Nat) : List (List Nat) := (rowsD Ls 6).filter (fun v => vpl Ls v == t)
/-- the table stands -/
def TBL (AI : FT) (ta : Nat → Nat) (Ls : List Nat) : Prop :=
  ∃ S : Nat → Nat, ∀ t, t < 84 → AI (ta 1) t = nI (S t) ∧ AI (ta 1) (t + 1) = nI (S t + (RT Ls t).length) ∧ S t + (RT Ls t).length ≤ 344 ∧ ∀ i v, (RT Ls t)[i]? = some v → AI (ta 0) (S t + i) = nI (num v)
theorem TBL.of {AI AI1 : FT} {ta : Nat → Nat} {Ls : List Nat} (h4 : (rowsD Ls 6).length ≤ 344) (hv : ∀ v, v ∈ rowsD Ls 6 → vpl Ls v < 84) (h : ST3 AI AI1 ta (fun i => vpl Ls ((rowsD Ls 6).getD i [])) (fun i => num ((rowsD Ls 6).getD i [])) (rowsD Ls 6).length 0) : TBL AI1 ta Ls := by
  obtain ⟨-, h2, h3⟩ := h
  have hP : ∀ i, i < (rowsD Ls 6).length → vpl Ls ((rowsD Ls 6).getD i []) < 84 := fun i hi => hv _ (by
    have : (rowsD Ls 6).getD i [] = (rowsD Ls 6)[i] := by simp [List.getD, List.getElem?_eq_getElem hi]
    rw [this]
    exact List.getElem_mem _)
  refine ⟨fun t => sm (fun u => cn (fun i => vpl Ls ((rowsD Ls 6).getD i [])) u (rowsD Ls 6).length) t, fun t ht => ?_⟩
  obtain ⟨f1, f2⟩ := filter_cn (vpl Ls) [] (rowsD Ls 6) t _ (Nat.le_refl _)
  rw [List.take_length] at f1 f2
  have e1 := h2 t (by omega)
  have e2 := h2 (t + 1) (by omega)
  rw [cn, Nat.add_zero] at e1
  rw [cn, Nat.add_zero, sm] at e2
  have e3 : sm (fun u => cn (fun i => vpl Ls ((rowsD Ls 6).getD i [])) u (rowsD Ls 6).length) (t + 1) ≤ sm (fun u => cn (fun i => vpl Ls ((rowsD Ls 6).getD i [])) u (rowsD Ls 6).length) 84 := sm_le ht
  rw [cn_all hP, sm] at e3
  unfold RT
  rw [f1]
  refine ⟨e1, e2, by omega, fun i v hi => ?_⟩
  obtain ⟨k, k1, k2, k3, k4⟩ := f2 i v hi
  have e4 := h3 k (Nat.zero_le _) k1
  have e5 : (rowsD Ls 6).getD k [] = v := by simp [List.getD, k2]
  unfold spos at e4
  simp only [e5, k3, k4] at e4
  exact e4
theorem vpl_lt {Ls v : List Nat} (hl : ∀ l ∈ Ls, l < 84) (h : v ∈ rowsD Ls 6) : vpl Ls v < 84 := by
  have h1 := (rowsD_mem _ _ _ h).2
  have h2 := vdeg_xyz Ls v hl
  exact pl_lt (by omega)
theorem leadL_mem {gl : Nat → Nat} {n : Nat} (hl : ∀ i, i < n → gl i < 84) : ∀ l ∈ leadL gl n, l < 84 := fun l hm => by
  simp only [leadL, List.mem_map, List.mem_range] at hm
  obtain ⟨i, hi, rfl⟩ := hm
  exact hl i hi
theorem s_build {V : GV} {d t g n : Nat} {ta ga po qo gl : Nat → Nat} {X : XT} {FI AI : FT} {AL : LT} (hT : TO X t ta) (hG : GO X g ga po qo) (hL : GLd FI AI g ga n gl) (hga : ∀ i, i < 7 → ga 2 ≠ ta i) (hi : ∀ i j, i < n → j < n → gl i = gl j → i = j) :
    G V m_Tab_build (d + 3) 0 [some (.ref t), some (.ref g), none] [] X FI AI AL (fun r X' FI' AI' AL' => r = none ∧ X' = X ∧ FI' = FI ∧ AL' = AL ∧ (∀ b, (∀ i, i < 7 → b ≠ ta i) → AI' b = AI b) ∧ TBL AI' ta (leadL gl n) ∧ ∀ j, j < 84 → AI' (ta 6) j = nI 0) := by
  have hT0 := hT
  obtain ⟨t0, r0, r1, r2, r3, r4, r5, r6, q0, q1, q2, q3, q4, q5, q6, hinj⟩ := hT
  have hE := rows_344 hL.2.1 (fun i hi => (hL.2.2 i hi).2) hi
  have hv : ∀ v, v ∈ rowsD (leadL gl n) 6 → vpl (leadL gl n) v < 84 := fun v h => vpl_lt (leadL_mem (fun i hi => (hL.2.2 i hi).2.1)) h
  have n6 : ∀ i, i < 6 → ta 6 ≠ ta i := fun i hi e => by have := hinj 6 i (by omega) (by omega) e; omega
  have L : ∀ k, k ≤ 84 → ∀ (AI1 : FT), (∀ b, b ≠ ta 6 → AI1 b = AI b) → (∀ j, j < k → AI1 (ta 6) j = nI 0) → G V m_Tab_build (d + 3) 2 [some (.ref t), some (.ref g), some (.int (nI k))] [] X FI AI1 AL (fun r X' FI' AI' AL' => r = none ∧ X' = X ∧ FI' = FI ∧ AL' = AL ∧ (∀ b, (∀ i, i < 7 → b ≠ ta i) → AI' b = AI b) ∧ TBL AI' ta (leadL gl n) ∧ ∀ j, j < 84 → AI' (ta 6) j = nI 0) := by
    refine upto ?_ ?_
    · intro AI1 h1 h2
      have hL1 : GLd FI AI1 g ga n gl := ⟨hL.1, hL.2.1, fun i hi => by rw [h1 _ (hga 6 (by omega))]; exact hL.2.2 i hi⟩
      have hf := s_find (V := V) (d := d) (AL := AL) hT0 hG hL1 hga hE
      refine G_iload2 3 d_Tab_build_2 rfl ?_
      refine G_bipushN 84 5 d_Tab_build_3 rfl rfl ?_
      first | refine G_icgeN 21 8 d_Tab_build_5 rfl rfl (by omega) (by omega) (fun h5 => ?_) (fun h5 => ?_) | refine G_icge 21 8 d_Tab_build_5 rfl rfl (fun h5 => ?_) (fun h5 => ?_)
      · refine G_aload0 22 d_Tab_build_21 rfl ?_
        refine G_aload0 23 d_Tab_build_22 rfl ?_
        refine G_aload1 24 d_Tab_build_23 rfl ?_
        refine G_invV1 27 d_Tab_build_24 rfl e_Tab_48 M_Tab_find rfl (by assumption) (Nat.le_of_ble_eq_true rfl) (Nat.le_of_ble_eq_true rfl) rfl (G.conseq (hf) (fun r X1 FI1 AI1 AL1 h24 => ?_))
        obtain ⟨rfl, rfl, rfl, rfl, hF⟩ := h24
        have hs := s_sortByPlace (V := V) (d := d + 1) (FI := FI') (AL := AL') (P := fun i => vpl (leadL gl n) ((rowsD (leadL gl n) 6).getD i [])) (F := fun i => num ((rowsD (leadL gl n) 6).getD i [])) (AI := AI') hT0 hE (fun i hi => by
          have hg : (rowsD (leadL gl n) 6)[i]? = some ((rowsD (leadL gl n) 6).getD i []) := by simp [List.getD, List.getElem?_eq_getElem hi]
          have := hF.2 i _ hi hg
          exact ⟨this.1, this.2, hv _ (List.mem_of_getElem? hg)⟩)
        refine G_invV1 30 d_Tab_build_27 rfl e_Tab_52 M_Tab_sortByPlace rfl (by assumption) (Nat.le_of_ble_eq_true rfl) (Nat.le_of_ble_eq_true rfl) rfl (G.conseq (hs) (fun r X1 FI1 AI1 AL1 h27 => ?_))
        obtain ⟨rfl, rfl, rfl, rfl, hS⟩ := h27
        refine G_vret d_Tab_build_30 rfl ?_
        refine ⟨rfl, rfl, rfl, rfl, fun b hb => ?_, TBL.of hE hv hS, fun j hj => ?_⟩
        · rw [hS.1 b (hb 0 (by omega)) (hb 1 (by omega)), hF.1 b (hb 2 (by omega)) (hb 3 (by omega)) (hb 4 (by omega)), h1 b (hb 6 (by omega))]
        · rw [hS.1 _ (n6 0 (by omega)) (n6 1 (by omega)), hF.1 _ (n6 2 (by omega)) (n6 3 (by omega)) (n6 4 (by omega))]
          exact h2 j hj
      · omega
    · intro k hk ih AI1 h1 h2
      refine G_iload2 3 d_Tab_build_2 rfl ?_
      refine G_bipushN 84 5 d_Tab_build_3 rfl rfl ?_
      first | refine G_icgeN 21 8 d_Tab_build_5 rfl rfl (by omega) (by omega) (fun h5 => ?_) (fun h5 => ?_) | refine G_icge 21 8 d_Tab_build_5 rfl rfl (fun h5 => ?_) (fun h5 => ?_)
      · omega
      · refine G_aload0 9 d_Tab_build_8 rfl ?_
        refine G_getR 12 d_Tab_build_9 rfl f_Tab_35 rfl (by assumption) (by assumption) ?_
        refine G_iload2 13 d_Tab_build_12 rfl ?_
        refine G_iconstN 0 14 d_Tab_build_13 rfl rfl ?_
        refine G_bastore 15 d_Tab_build_14 rfl (by assumption) (ix_nI (by omega) (by omega)) rfl ?_
        first | refine G_iincN2 18 d_Tab_build_15 rfl (by decide) rfl ?_ | refine G_iinc2 _ 18 d_Tab_build_15 rfl (by decide) rfl rfl ?_
        refine G_goto 2 d_Tab_build_18 rfl ?_
        refine ih _ (fun b hb => by rw [u2_off _ _ _ hb]; exact h1 b hb) (fun j hj => ?_)
        by_cases e : j = k
        · subst e
          rw [u2_at]
        · rw [u2_ix _ _ e]
          exact h2 j (by omega)
  refine G_iconstN 0 1 d_Tab_build_0 rfl rfl ?_
  refine G_istore2 2 d_Tab_build_1 rfl (by decide) rfl ?_
  exact L 0 (Nat.zero_le _) AI (fun _ _ => rfl) (fun j hj => by omega)
theorem s_countAt {V : GV} {d t p : Nat} {ta : Nat → Nat} {Ls : List Nat} {X : XT} {FI AI : FT} {AL : LT} (hT : TO X t ta) (hB : TBL AI ta Ls) (hp : p < 84) :
    G V m_Tab_countAt d 0 [some (.ref t), some (.int (nI p))] [] X FI AI AL (Pd (some (.int (nI (RT Ls p).length))) X FI AI AL) := by
  obtain ⟨t0, r0, r1, r2, r3, r4, r5, r6, q0, q1, q2, q3, q4, q5, q6, hinj⟩ := hT
  obtain ⟨S, hS⟩ := hB
  obtain ⟨b1, b2, b3, -⟩ := hS p hp
  refine G_aload0 1 d_Tab_countAt_0 rfl ?_
  refine G_getR 4 d_Tab_countAt_1 rfl f_Tab_15 rfl (by assumption) (by assumption) ?_
  refine G_iload1 5 d_Tab_countAt_4 rfl ?_
  refine G_iconstN 1 6 d_Tab_countAt_5 rfl rfl ?_
  first | refine G_iaddN 7 d_Tab_countAt_6 rfl ?_ | refine G_iadd 7 d_Tab_countAt_6 rfl ?_
  refine G_ialoadv 8 d_Tab_countAt_7 rfl (by assumption) (ix_nI (by omega) (by omega)) b2 ?_
  refine G_aload0 9 d_Tab_countAt_8 rfl ?_
  refine G_getR 12 d_Tab_countAt_9 rfl f_Tab_15 rfl (by assumption) (by assumption) ?_
  refine G_iload1 13 d_Tab_countAt_12 rfl ?_
  refine G_ialoadv 14 d_Tab_countAt_13 rfl (by assumption) (ix_nI (by omega) (by omega)) b1 ?_
  first | refine G_isubN 15 d_Tab_countAt_14 rfl (by omega) ?_ | refine G_isub 15 d_Tab_countAt_14 rfl ?_
  refine G_iret d_Tab_countAt_15 rfl ?_
  rw [show S p + (RT Ls p).length - S p = (RT Ls p).length by omega]
  exact ⟨rfl, rfl, rfl, rfl, rfl⟩
theorem s_rowAt {V : GV} {d t p i : Nat} {v : List Nat} {ta : Nat → Nat} {Ls : List Nat} {X : XT} {FI AI : FT} {AL : LT} (hT : TO X t ta) (hB : TBL AI ta Ls) (hp : p < 84) (hi : (RT Ls p)[i]? = some v) :
    G V m_Tab_rowAt d 0 [some (.ref t), some (.int (nI p)), some (.int (nI i))] [] X FI AI AL (Pd (some (.int (nI (num v)))) X FI AI AL) := by
  obtain ⟨t0, r0, r1, r2, r3, r4, r5, r6, q0, q1, q2, q3, q4, q5, q6, hinj⟩ := hT
  obtain ⟨S, hS⟩ := hB
  obtain ⟨b1, b2, b3, b4⟩ := hS p hp
  have hil := (List.getElem?_eq_some_iff.mp hi).1
  refine G_aload0 1 d_Tab_rowAt_0 rfl ?_
  refine G_getR 4 d_Tab_rowAt_1 rfl f_Tab_9 rfl (by assumption) (by assumption) ?_
  refine G_aload0 5 d_Tab_rowAt_4 rfl ?_
  refine G_getR 8 d_Tab_rowAt_5 rfl f_Tab_15 rfl (by assumption) (by assumption) ?_
  refine G_iload1 9 d_Tab_rowAt_8 rfl ?_
  refine G_ialoadv 10 d_Tab_rowAt_9 rfl (by assumption) (ix_nI (by omega) (by omega)) b1 ?_
  refine G_iload2 11 d_Tab_rowAt_10 rfl ?_
  first | refine G_iaddN 12 d_Tab_rowAt_11 rfl ?_ | refine G_iadd 12 d_Tab_rowAt_11 rfl ?_
  refine G_ialoadv 13 d_Tab_rowAt_12 rfl (by assumption) (ix_nI (by omega) (by omega)) (b4 i v hi) ?_
  refine G_iret d_Tab_rowAt_13 rfl ?_
  exact ⟨rfl, rfl, rfl, rfl, rfl⟩
