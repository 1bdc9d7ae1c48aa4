/-! ===== a row of the class's grid is reduced: how large its numbers are ===== -/
def bnx (T ν η b y : Nat) : Nat := if y ≤ 1 then max b (T * (η + 1)) else b * (T * ν * y) * y + y * (T * (η * y + 1))
def wB : Nat → Nat → Nat → Nat → Bool
  | 0, T, b, _ => decide (216 * b ≤ 2 ^ 61 * T)
  | k + 1, T, b, η => decide (216 * b ≤ 2 ^ 61 * T) && decide ((216 / T) * (η + b * (6 * 2 ^ (5 - (k + 1)))) ≤ 2 ^ 61) && (List.range (216 / T)).all (fun y => wB k (T * (y + 1)) (bnx T (6 * 2 ^ (5 - (k + 1))) η b (y + 1)) (2 * η + 1))
theorem wB_1 {k T b η : Nat} (h : wB k T b η = true) : 216 * b ≤ 2 ^ 61 * T := by
  cases k with
  | zero => exact of_decide_eq_true h
  | succ k =>
    rw [wB, Bool.and_eq_true, Bool.and_eq_true] at h
    exact of_decide_eq_true h.1.1
theorem wB_2 {k T b η : Nat} (h : wB (k + 1) T b η = true) : (216 / T) * (η + b * (6 * 2 ^ (5 - (k + 1)))) ≤ 2 ^ 61 ∧ ∀ y, 1 ≤ y → y ≤ 216 / T → wB k (T * y) (bnx T (6 * 2 ^ (5 - (k + 1))) η b y) (2 * η + 1) = true := by
  rw [wB, Bool.and_eq_true, Bool.and_eq_true, List.all_eq_true] at h
  refine ⟨of_decide_eq_true h.1.2, fun y h1 h2 => ?_⟩
  have := h.2 (y - 1) (List.mem_range.mpr (by omega))
  rwa [show y - 1 + 1 = y by omega] at this
theorem wB_all : (List.range 6).all (fun k => (List.range 216).all (fun T => wB k (T + 1) (T + 1) 1)) = true := by decide +kernel
theorem wB_0 {k T : Nat} (hk : k ≤ 5) (h1 : 1 ≤ T) (h2 : T ≤ 216) : wB k T T 1 = true := by
  have h := wB_all
  rw [List.all_eq_true] at h
  have h3 := h k (List.mem_range.mpr (by omega))
  rw [List.all_eq_true] at h3
  have h4 := h3 (T - 1) (List.mem_range.mpr (by omega))
  rwa [show T - 1 + 1 = T by omega] at h4
