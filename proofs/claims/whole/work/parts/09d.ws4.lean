/-! ===== the state stays as it must be: link, difference ===== -/
theorem ws_link {S : ST} {x n : Int32} (h : WS S) : WS (fLink S x n).2 := by
  unfold fLink
  split
  · next e =>
    unfold bLink at e
    rw [Bool.and_eq_true] at e
    obtain ⟨e1, e2⟩ := e
    have hx := bN_lt e1 (by omega)
    split
    · exact h
    · next z =>
      obtain ⟨a1, a2, a3, a4, a5, a6, a7⟩ := h
      refine ⟨a1, a2, a3, a4, a5, ⟨?_, fun l hl => ?_⟩, a7⟩
      · have := a6.1
        show (tL S).1 + 1 ≤ 8
        omega
      · have hl' : l < (tL S).1 + 1 := hl
        show upn (tL S).2.1 (tL S).1 (ni x) l < 7 ∧ (upn (tL S).2.1 (tL S).1 (ni x) l = 0 → isN (upn (tL S).2.2.1 (tL S).1 n l) 6) ∧ (upn (tL S).2.1 (tL S).1 (ni x) l = 1 → isB (upn (tL S).2.2.1 (tL S).1 n l) (-999) 999) ∧ (upn (tL S).2.1 (tL S).1 (ni x) l = 3 → isN (upn (tL S).2.2.1 (tL S).1 n l) 6) ∧ cu (upn (tL S).2.2.2 (tL S).1 (if ni x = 2 ∨ ni x = 5 then tS S (ni n) else fun _ => 0) l) = upn (tL S).2.2.2 (tL S).1 (if ni x = 2 ∨ ni x = 5 then tS S (ni n) else fun _ => 0) l
        by_cases el : l = (tL S).1
        · rw [el, upn_at, upn_at, upn_at]
          unfold kLink at e2
          refine ⟨hx, fun k => ?_, fun k => ?_, fun k => ?_, ?_⟩
          · rw [k] at e2; exact (bN_iff (by omega)).mp e2
          · rw [k] at e2; exact bB_iff.mp e2
          · rw [k] at e2; exact (bN_iff (by omega)).mp e2
          · by_cases c : ni x = 2 ∨ ni x = 5
            · rw [if_pos c]
              refine a3 _ (bN_lt (n := 6) ?_ (by omega))
              rcases c with c | c <;> (rw [c] at e2; exact e2)
            · rw [if_neg c]; exact cu_zero
        · rw [upn_ne _ _ el, upn_ne _ _ el, upn_ne _ _ el]
          exact a6.2 l (by omega)
  · exact h
theorem difP_cu {n l r : Nat} {gp : Nat → Nat → Int64} {f : Nat → Int64} (h : difP n gp l r = some f) : cu f = f := by
  unfold difP at h
  split at h
  · cases h
  · cases h
    rw [cu_addP, prodP_cu, prodP_cu]
theorem ws_difference {S : ST} {d r s : Int32} (h : WS S) : WS (fDifference S d r s).2 := by
  unfold fDifference
  split
  · split
    · split
      · exact h
      · next f hf => exact h.s1 (difP_cu hf)
    · exact h
  · exact h
