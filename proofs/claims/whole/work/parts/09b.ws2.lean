/-! ===== the state stays as it must be, on ===== -/
theorem ws_times {S : ST} {s t : Int32} (h : WS S) : WS (fTimes S s t).2 := by
  unfold fTimes
  split
  · split
    · exact h
    · split
      · exact h
      · exact h.s1 (cu_mulP _ _)
  · exact h
theorem ws_even {S : ST} {s : Int32} (h : WS S) : WS (fEven S s).2 := by
  unfold fEven
  split
  · split
    · exact h
    · exact h.s1 (cu_evP _ _)
  · exact h
theorem ws_cell {S : ST} {s i v : Int32} (h : WS S) : WS (fCell S s i v).2 := by
  unfold fCell
  split
  · split
    · exact h
    · split
      · exact h
      · exact h
  · exact h
theorem ws_witness {S : ST} {s : Int32} (h : WS S) : WS (fWitness S s).2 := by
  unfold fWitness
  split
  · split
    · split
      · exact h
      · exact h.s1 (cu_smP _ _ _ _ cu_zero)
    · exact h
  · exact h
theorem ws_order {S : ST} {o : Int32} (h : WS S) : WS (fOrder S o).2 := by
  unfold fOrder
  split
  · next e =>
    have ho := bN_lt e (by omega)
    split
    · exact h
    · next z =>
      have hz : gN (tG S) = 0 := by omega
      obtain ⟨a1, a2, a3, a4, a5, a6, a7⟩ := h
      exact ⟨ho, ⟨a2.1, (fun i hi => by have : i < gN (tG S) := hi; omega), (fun i j hi _ _ => by have : i < gN (tG S) := hi; omega)⟩, a3, a4, a5, a6, a7⟩
  · exact h
theorem ws_drop {S : ST} (h : WS S) : WS (fDrop S).2 := by
  unfold fDrop
  split
  · exact h
  · next z =>
    obtain ⟨a1, a2, a3, a4, a5, a6, a7⟩ := h
    refine ⟨a1, ⟨?_, fun i hi => ?_, fun i j hi hj => ?_⟩, a3, (fun e => by cases e), a5, a6, a7⟩
    · have := a2.1
      show gN (tG S) - 1 ≤ 7
      omega
    · have hi' : i < gN (tG S) - 1 := hi
      exact a2.2.1 i (by omega)
    · have hi' : i < gN (tG S) - 1 := hi
      have hj' : j < gN (tG S) - 1 := hj
      exact a2.2.2 i j (by omega) (by omega)
