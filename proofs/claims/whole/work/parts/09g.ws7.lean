/-! ===== the state stays as it must be: generator ===== -/
theorem eD_pos : ∀ t, t < 84 → 1 ≤ t → 1 ≤ eD t := by decide +kernel
theorem ws_generator {S : ST} {s : Int32} (h : WS S) : WS (fGenerator S s).2 := by
  unfold fGenerator
  split
  · next e =>
    have hc := h.2.2.1 _ (bN_lt e (by omega))
    unfold fGen1
    split
    · exact h
    · next hno =>
      split
      · exact h
      · next h7 =>
        have ho := h.1
        obtain ⟨w1, w2, w3⟩ := h.2.1
        have n1 : ¬ lead1 (tS S (ni s)) (tO S) ≤ 1 := fun k => hno (Or.inl k)
        have n2 : tS S (ni s) (lead1 (tS S (ni s)) (tO S) - 1) = 1 := Decidable.byContradiction fun k => hno (Or.inr (Or.inl k))
        have n3 : ∀ i, i < gN (tG S) → gL (tG S) i ≠ lead1 (tS S (ni s)) (tO S) - 1 := fun i hi k => hno (Or.inr (Or.inr (by rw [List.any_eq_true]; exact ⟨i, List.mem_range.mpr hi, decide_eq_true k⟩)))
        obtain ⟨t, ht⟩ : ∃ t, lead1 (tS S (ni s)) (tO S) = t + 1 := ⟨lead1 (tS S (ni s)) (tO S) - 1, by omega⟩
        rw [ht, Nat.add_sub_cancel] at n2 n3
        rw [ht, Nat.add_sub_cancel]
        obtain ⟨t84, -, tz⟩ := lead_ok ho ht
        refine ws_gx h ⟨Nat.le_succ _, fun i hi => ?_⟩ ⟨?_, fun i hi => ?_, fun i j hi hj hij => ?_⟩
        · exact ⟨upn_ne _ _ (by omega), upn_ne _ _ (by omega), upn_ne _ _ (by omega), rfl, rfl⟩
        · show gN (tG S) + 1 ≤ 7
          omega
        · have hi' : i < gN (tG S) + 1 := hi
          show upn (gL (tG S)) (gN (tG S)) t i < 84 ∧ 1 ≤ eD (upn (gL (tG S)) (gN (tG S)) t i) ∧ cu (upn (gP (tG S)) (gN (tG S)) (tS S (ni s)) i) = upn (gP (tG S)) (gN (tG S)) (tS S (ni s)) i ∧ mon (tO S) (upn (gP (tG S)) (gN (tG S)) (tS S (ni s)) i) (eX (upn (gL (tG S)) (gN (tG S)) t i)) (eY (upn (gL (tG S)) (gN (tG S)) t i)) (eZ (upn (gL (tG S)) (gN (tG S)) t i)) ∧ upn (gK (tG S)) (gN (tG S)) 0 i ≤ 86 ∧ (∀ j, j < upn (gK (tG S)) (gN (tG S)) 0 i → gR (tG S) i j < 2097152 ∧ ∀ h, i ≤ h → h < 7 → pw (gR (tG S) i j) h = 0) ∧ (0 < upn (gK (tG S)) (gN (tG S)) 0 i → ∃ h, h < i ∧ 0 < pw (gR (tG S) i 0) h)
          by_cases ei : i = gN (tG S)
          · subst ei
            rw [upn_at, upn_at, upn_at]
            exact ⟨t84, eD_pos t t84 (by omega), hc, ⟨by rw [(e_all t t84).2.2]; exact n2, fun u hu hg => tz u hu hg⟩, Nat.zero_le _, fun j hj => absurd hj (Nat.not_lt_zero _), fun k => absurd k (Nat.not_lt_zero _)⟩
          · rw [upn_ne _ _ ei, upn_ne _ _ ei, upn_ne _ _ ei]
            exact w2 i (by omega)
        · have hi' : i < gN (tG S) + 1 := hi
          have hj' : j < gN (tG S) + 1 := hj
          have hij' : upn (gL (tG S)) (gN (tG S)) t i = upn (gL (tG S)) (gN (tG S)) t j := hij
          by_cases ei : i = gN (tG S)
          · by_cases ej : j = gN (tG S)
            · omega
            · rw [ei, upn_at, upn_ne _ _ ej] at hij'
              exact absurd hij'.symm (n3 j (by omega))
          · by_cases ej : j = gN (tG S)
            · rw [ej, upn_at, upn_ne _ _ ei] at hij'
              exact absurd hij' (n3 i (by omega))
            · rw [upn_ne _ _ ei, upn_ne _ _ ej] at hij'
              exact w3 i j (by omega) (by omega) hij'
  · exact h
