/-! ===== ROWS of a TERM ===== -/
theorem filter_cn {α : Type} (f : α → Nat) (dflt : α) (L : List α) (t : Nat) : ∀ k, k ≤ L.length → ((L.take k).filter (fun v => f v == t)).length = cn (fun i => f (L.getD i dflt)) t k ∧ ∀ j v, ((L.take k).filter (fun v => f v == t))[j]? = some v → ∃ i, i < k ∧ L[i]? = some v ∧ f v = t ∧ cn (fun i => f (L.getD i dflt)) t i = j
  | 0, _ => by simp [cn]
  | k + 1, hk => by
    obtain ⟨h1, h2⟩ := filter_cn f dflt L t k (by omega)
    have hg : L[k]? = some L[k] := List.getElem?_eq_getElem (by omega)
    have hd : L.getD k dflt = L[k] := by simp [List.getD, hg]
    have ht : L.take (k + 1) = L.take k ++ [L[k]] := by rw [List.take_succ, hg]; rfl
    rw [ht, List.filter_append, List.length_append, h1]
    by_cases e : f L[k] = t
    · have e2 : [L[k]].filter (fun v => f v == t) = [L[k]] := by simp [e]
      rw [e2]
      refine ⟨by simp only [cn, hd, if_pos e]; rfl, fun j v hj => ?_⟩
      by_cases c : j < ((L.take k).filter (fun v => f v == t)).length
      · rw [List.getElem?_append_left c] at hj
        obtain ⟨i, a, b⟩ := h2 j v hj
        exact ⟨i, by omega, b⟩
      · rw [List.getElem?_append_right (by omega)] at hj
        have hj0 : j - ((L.take k).filter (fun v => f v == t)).length = 0 := by
          have := (List.getElem?_eq_some_iff.mp hj).1
          simp only [List.length_singleton] at this
          omega
        rw [hj0] at hj
        simp only [List.getElem?_cons_zero, Option.some.injEq] at hj
        exact ⟨k, by omega, by rw [hg, hj], by rw [← hj]; exact e, by omega⟩
    · have e2 : [L[k]].filter (fun v => f v == t) = [] := by simp [e]
      rw [e2]
      refine ⟨by simp only [cn, hd, if_neg e]; rfl, fun j v hj => ?_⟩
      rw [List.append_nil] at hj
      obtain ⟨i, a, b⟩ := h2 j v hj
      exact ⟨i, by omega, b⟩
