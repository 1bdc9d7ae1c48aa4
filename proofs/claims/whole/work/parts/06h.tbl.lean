/-! ===== the table ===== -/
def RT (Ls : List Nat) (t : Nat) : List (List Nat) := (rowsD Ls 6).filter (fun v => vpl Ls v == t)
/-- the table stands -/
def TBL (AI : FT) (ta : Nat → Nat) (Ls : List Nat) : Prop :=
  ∃ S : Nat → Nat, ∀ t, t < 84 → AI (ta 1) t = nI (S t) ∧ AI (ta 1) (t + 1) = nI (S t + (RT Ls t).length) ∧ S t + (RT Ls t).length ≤ 344 ∧ ∀ i v, (RT Ls t)[i]? = some v → AI (ta 0) (S t + i) = nI (num v)
theorem TBL.of {AI AI1 : FT} {ta : Nat → Nat} {Ls : List Nat} (h4 : (rowsD Ls 6).length ≤ 344) (hv : ∀ v, v ∈ rowsD Ls 6 → vpl Ls v < 84) (h : ST3 AI AI1 ta (fun i => vpl Ls ((rowsD Ls 6).getD i [])) (fun i => num ((rowsD Ls 6).getD i [])) (rowsD Ls 6).length 0) : TBL AI1 ta Ls := by
  obtain ⟨-, h2, h3⟩ := h
  have hP : ∀ i, i < (rowsD Ls 6).length → vpl Ls ((rowsD Ls 6).getD i []) < 84 := fun i hi => hv _ (by
    have : (rowsD Ls 6).getD i [] = (rowsD Ls 6)[i] := by simp [List.getD, List.getElem?_eq_getElem hi]
    rw [this]
    exact List.getElem_mem _)
  refine ⟨fun t => sm (fun u => cn (fun i => vpl Ls ((rowsD Ls 6).getD i [])) u (rowsD Ls 6).length) t, fun t ht => ?_⟩
  obtain ⟨f1, f2⟩ := filter_cn (vpl Ls) [] (rowsD Ls 6) t _ (Nat.le_refl _)
  rw [List.take_length] at f1 f2
  have e1 := h2 t (by omega)
  have e2 := h2 (t + 1) (by omega)
  rw [cn, Nat.add_zero] at e1
  rw [cn, Nat.add_zero, sm] at e2
  have e3 : sm (fun u => cn (fun i => vpl Ls ((rowsD Ls 6).getD i [])) u (rowsD Ls 6).length) (t + 1) ≤ sm (fun u => cn (fun i => vpl Ls ((rowsD Ls 6).getD i [])) u (rowsD Ls 6).length) 84 := sm_le ht
  rw [cn_all hP, sm] at e3
  unfold RT
  rw [f1]
  refine ⟨e1, e2, (by show sm _ t + _ ≤ 344; omega), fun i v hi => ?_⟩
  obtain ⟨k, k1, k2, k3, k4⟩ := f2 i v hi
  have e4 := h3 k (Nat.zero_le _) k1
  have e5 : (rowsD Ls 6).getD k [] = v := by simp [List.getD, k2]
  unfold spos at e4
  simp only [e5, k3, k4] at e4
  exact e4
