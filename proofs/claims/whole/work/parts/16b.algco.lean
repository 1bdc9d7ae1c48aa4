/-! ===== the class is made: its cells ===== -/
theorem alg_co {X0 X : XT} {lo : Nat} (y : LY algLL X0 X lo 110 mAl akE aaE) : CO X lo := by
  have hP : ∀ p q, q = p + 1 → p < 110 → q < 110 → algLL[p]? = some (14, 1) → algLL[q]? = some (1, 84) → (p, 0, q) ∈ akE → PO X (lo + p) (lo + q) := fun p q _ h1 h2 h3 h4 h5 => ⟨y.shA p rfl h1 h3, y.frA p q rfl rfl h5, y.shA q rfl h2 h4⟩
  refine ⟨⟨y.sh 0 (by omega) rfl, y.fr 0 0 1 (by decide), y.fr 0 1 2 (by decide), y.fr 0 2 4 (by decide), y.fr 0 3 27 (by decide), y.fr 0 4 35 (by decide), y.fr 0 5 41 (by decide), y.fr 0 6 54 (by decide), y.fr 0 7 55 (by decide), y.fr 0 8 56 (by decide), y.fr 0 9 58 (by decide)⟩, ⟨y.sh 1 (by omega) rfl, fun s hs => ⟨?_, ?_⟩⟩, ⟨y.sh 2 (by omega) rfl, y.fr 2 1 3 (by decide), y.sh 3 (by omega) rfl⟩, ?_, ?_, ?_, ?_, ⟨y.sh 54 (by omega) rfl, fun s hs => ⟨?_, ?_, ?_, ?_⟩⟩, ⟨y.sh 55 (by omega) rfl, fun l hl => ⟨?_, ?_, ?_, ?_⟩⟩, hP 56 57 rfl (by omega) (by omega) rfl rfl (by decide), hP 58 59 rfl (by omega) (by omega) rfl rfl (by decide), ⟨y.sh 60 (by omega) rfl, y.fr 60 1 61 (by decide), y.fr 60 2 62 (by decide), y.sh 61 (by omega) rfl, y.sh 62 (by omega) rfl⟩, ⟨y.sh 63 (by omega) rfl, y.fr 63 1 64 (by decide), y.fr 63 2 65 (by decide), y.sh 64 (by omega) rfl, y.sh 65 (by omega) rfl⟩⟩
  · exact y.arA 1 (66 + 2 * s) rfl (by omega) ((show ∀ s, s < 6 → (1, s, 66 + 2 * s) ∈ aaE by decide) s hs)
  · have := hP (66 + 2 * s) (67 + 2 * s) (by omega) (by omega) (by omega) ((show ∀ s, s < 6 → algLL[66 + 2 * s]? = some (14, 1) by decide) s hs) ((show ∀ s, s < 6 → algLL[67 + 2 * s]? = some (1, 84) by decide) s hs) ((show ∀ s, s < 6 → (66 + 2 * s, 0, 67 + 2 * s) ∈ akE by decide) s hs)
    rw [← Nat.add_assoc, ← Nat.add_assoc] at this
    exact this
  · have ff : ∀ j, 1 ≤ j → j < 9 → x_FR X (lo + 4) j = some (lo + 4 + j) := fun j h1 h2 => y.frA 4 (4 + j) rfl (by omega) ((show ∀ j, j < 9 → 1 ≤ j → (4, j, 4 + j) ∈ akE by decide) j h2 h1)
    refine ⟨y.sh 4 (by omega) rfl, ff 1 (by omega) (by omega), ff 2 (by omega) (by omega), ff 3 (by omega) (by omega), ff 4 (by omega) (by omega), ff 5 (by omega) (by omega), ff 6 (by omega) (by omega), ff 7 (by omega) (by omega), ff 8 (by omega) (by omega), y.sh 5 (by omega) rfl, y.sh 6 (by omega) rfl, y.sh 7 (by omega) rfl, y.sh 8 (by omega) rfl, y.sh 9 (by omega) rfl, y.sh 10 (by omega) rfl, y.sh 11 (by omega) rfl, y.sh 12 (by omega) rfl, fun i hi => ⟨?_, ?_⟩, fun i j _ _ e => by unfold cqo at e; omega, fun i _ => by unfold cqo cga; omega, by unfold cga; omega, by unfold cga; omega⟩
    · exact y.arA 5 (13 + 2 * i) rfl (by unfold cpo; omega) ((show ∀ i, i < 7 → (5, i, 13 + 2 * i) ∈ aaE by decide) i hi)
    · have := hP (13 + 2 * i) (14 + 2 * i) (by omega) (by omega) (by omega) ((show ∀ i, i < 7 → algLL[13 + 2 * i]? = some (14, 1) by decide) i hi) ((show ∀ i, i < 7 → algLL[14 + 2 * i]? = some (1, 84) by decide) i hi) ((show ∀ i, i < 7 → (13 + 2 * i, 0, 14 + 2 * i) ∈ akE by decide) i hi)
      rw [← Nat.add_assoc, ← Nat.add_assoc] at this
      exact this
  · have ff : ∀ j, j < 7 → x_FR X (lo + 27) j = some (lo + 28 + j) := fun j h2 => y.frA 27 (28 + j) rfl (by omega) ((show ∀ j, j < 7 → (27, j, 28 + j) ∈ akE by decide) j h2)
    exact ⟨y.sh 27 (by omega) rfl, ff 0 (by omega), ff 1 (by omega), ff 2 (by omega), ff 3 (by omega), ff 4 (by omega), ff 5 (by omega), ff 6 (by omega), y.sh 28 (by omega) rfl, y.sh 29 (by omega) rfl, y.sh 30 (by omega) rfl, y.sh 31 (by omega) rfl, y.sh 32 (by omega) rfl, y.sh 33 (by omega) rfl, y.sh 34 (by omega) rfl, fun i j _ _ e => by unfold cta at e; omega⟩
  · exact ⟨y.sh 35 (by omega) rfl, ⟨y.fr 35 0 36 (by decide), y.fr 35 1 37 (by decide), y.fr 35 2 38 (by decide), y.fr 35 3 39 (by decide), y.fr 35 4 40 (by decide)⟩, y.sh 36 (by omega) rfl, y.sh 37 (by omega) rfl, y.sh 38 (by omega) rfl, y.sh 39 (by omega) rfl, y.sh 40 (by omega) rfl⟩
  · refine ⟨y.sh 41 (by omega) rfl, y.fr 41 0 42 (by decide), y.fr 41 1 53 (by decide), y.sh 42 (by omega) rfl, y.sh 53 (by omega) rfl, fun c hc => ⟨?_, ?_⟩⟩
    · exact y.arA 42 (43 + c) rfl (by omega) ((show ∀ c, c < 10 → (42, c, 43 + c) ∈ aaE by decide) c hc)
    · exact y.shA (43 + c) (by omega) (by omega) ((show ∀ c, c < 10 → algLL[43 + c]? = some (1, 10) by decide) c hc)
  · exact y.arA 54 (78 + 2 * s) rfl (by omega) ((show ∀ s, s < 4 → (54, s, 78 + 2 * s) ∈ aaE by decide) s hs)
  · exact y.shA (78 + 2 * s) (by omega) (by omega) ((show ∀ s, s < 4 → algLL[78 + 2 * s]? = some (18, 3) by decide) s hs)
  · exact y.frA (78 + 2 * s) (79 + 2 * s) (by omega) (by omega) ((show ∀ s, s < 4 → (78 + 2 * s, 2, 79 + 2 * s) ∈ akE by decide) s hs)
  · exact y.shA (79 + 2 * s) (by omega) (by omega) ((show ∀ s, s < 4 → algLL[79 + 2 * s]? = some (0, 40) by decide) s hs)
  · exact y.arA 55 (86 + 3 * l) rfl (by omega) ((show ∀ s, s < 8 → (55, s, 86 + 3 * s) ∈ aaE by decide) l hl)
  · exact y.shA (86 + 3 * l) (by omega) (by omega) ((show ∀ s, s < 8 → algLL[86 + 3 * s]? = some (13, 3) by decide) l hl)
  · exact y.frA (86 + 3 * l) (87 + 3 * l) (by omega) (by omega) ((show ∀ s, s < 8 → (86 + 3 * s, 2, 87 + 3 * s) ∈ akE by decide) l hl)
  · have := hP (87 + 3 * l) (88 + 3 * l) (by omega) (by omega) (by omega) ((show ∀ i, i < 8 → algLL[87 + 3 * i]? = some (14, 1) by decide) l hl) ((show ∀ i, i < 8 → algLL[88 + 3 * i]? = some (1, 84) by decide) l hl) ((show ∀ i, i < 8 → (87 + 3 * i, 0, 88 + 3 * i) ∈ akE by decide) l hl)
    rw [show lo + 86 + 3 * l + 1 = lo + (87 + 3 * l) by omega, show lo + 86 + 3 * l + 2 = lo + (88 + 3 * l) by omega]
    exact this
