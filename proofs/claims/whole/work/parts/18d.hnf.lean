/-! ===== lattices: a reduced grid is the only one of its lattice ===== -/
def sgZ : Nat → (Nat → Int) → Int
  | 0, _ => 0
  | n + 1, f => sgZ n f + f n
theorem sg_z {f : Nat → Int} : ∀ n, (∀ c, c < n → f c = 0) → sgZ n f = 0
  | 0, _ => rfl
  | n + 1, h => by rw [sgZ, sg_z n (fun c hc => h c (by omega)), h n (by omega)]; rfl
theorem sg_c {f g : Nat → Int} : ∀ n, (∀ c, c < n → f c = g c) → sgZ n f = sgZ n g
  | 0, _ => rfl
  | n + 1, h => by rw [sgZ, sgZ, sg_c n (fun c hc => h c (by omega)), h n (by omega)]
theorem sg_1 {f : Nat → Int} {k : Nat} : ∀ n, k < n → (∀ c, c < n → c ≠ k → f c = 0) → sgZ n f = f k
  | 0, h, _ => by omega
  | n + 1, h, hz => by
    rw [sgZ]
    by_cases e : k = n
    · rw [e, sg_z n (fun c hc => hz c (by omega) (by omega))]; omega
    · rw [sg_1 n (by omega) (fun c hc he => hz c (by omega) he), hz n (by omega) (by omega)]; omega
theorem sg_add {f g : Nat → Int} : ∀ n, sgZ n (fun c => f c + g c) = sgZ n f + sgZ n g
  | 0 => rfl
  | n + 1 => by rw [sgZ, sgZ, sgZ, sg_add n]; omega
theorem sg_mul {f : Nat → Int} (a : Int) : ∀ n, sgZ n (fun c => a * f c) = a * sgZ n f
  | 0 => by rw [sgZ, sgZ, Int.mul_zero]
  | n + 1 => by rw [sgZ, sgZ, sg_mul a n, Int.mul_add]
/-- what a grid spans -/
def spL0 (w : Nat) (B : Nat → Nat → Int) (x : Nat → Int) : Prop := ∃ z : Nat → Int, ∀ j, j < w → x j = sgZ w (fun c => z c * B c j)
theorem spL0.row {w : Nat} {B : Nat → Nat → Int} {k : Nat} (hk : k < w) : spL0 w B (B k) := ⟨fun c => if c = k then 1 else 0, fun j hj => by
  rw [sg_1 (k := k) w hk (fun c _ hc => by simp only [if_neg hc]; omega)]
  simp⟩
theorem spL0.add {w : Nat} {B : Nat → Nat → Int} {x y : Nat → Int} (a : Int) (hx : spL0 w B x) (hy : spL0 w B y) : spL0 w B (fun j => x j + a * y j) := by
  obtain ⟨z, hz⟩ := hx
  obtain ⟨v, hv⟩ := hy
  refine ⟨fun c => z c + a * v c, fun j hj => ?_⟩
  show x j + a * y j = _
  rw [hz j hj, hv j hj, ← sg_mul, ← sg_add]
  refine sg_c w (fun c _ => ?_)
  rw [Int.add_mul, Int.mul_assoc]
theorem spL0.cg {w : Nat} {B : Nat → Nat → Int} {x y : Nat → Int} (hx : spL0 w B x) (h : ∀ j, j < w → x j = y j) : spL0 w B y := by
  obtain ⟨z, hz⟩ := hx
  exact ⟨z, fun j hj => (h j hj).symm.trans (hz j hj)⟩
/-- rows by their pivot's column: nothing left of it, nothing in a row without pivot, reduced above -/
def HN (w : Nat) (B : Nat → Nat → Int) : Prop := (∀ c j, c < w → j < c → B c j = 0) ∧ (∀ c, c < w → 0 ≤ B c c) ∧ (∀ c, c < w → B c c = 0 → ∀ j, j < w → B c j = 0) ∧ ∀ a c, a < c → c < w → 0 < B c c → 0 ≤ B a c ∧ B a c < B c c
/-- the same without being reduced -/
def HT (w : Nat) (B : Nat → Nat → Int) : Prop := (∀ c j, c < w → j < c → B c j = 0) ∧ (∀ c, c < w → 0 ≤ B c c) ∧ ∀ c, c < w → B c c = 0 → ∀ j, j < w → B c j = 0
theorem HN.ht {w : Nat} {B : Nat → Nat → Int} (h : HN w B) : HT w B := ⟨h.1, h.2.1, h.2.2.1⟩
theorem HT.low {w : Nat} {B : Nat → Nat → Int} (h : HT w B) {x z : Nat → Int} (hz : ∀ j, j < w → x j = sgZ w (fun c => z c * B c j)) {k : Nat} (hk : k ≤ w) (h0 : ∀ j, j < k → x j = 0) : ∀ c, c < k → ∀ j, j < w → z c * B c j = 0 := by
  intro c
  induction c using Nat.strongRecOn with
  | ind c ih =>
    intro hc j hj
    have e : x c = z c * B c c := by
      rw [hz c (by omega), sg_1 (k := c) w (by omega) (fun c' h1 h2 => ?_)]
      by_cases h3 : c' < c
      · exact ih c' h3 (by omega) c (by omega)
      · rw [h.1 c' c h1 (by omega), Int.mul_zero]
    rw [h0 c hc] at e
    rcases Int.mul_eq_zero.mp e.symm with e2 | e2
    · rw [e2, Int.zero_mul]
    · rw [h.2.2 c (by omega) e2 j hj, Int.mul_zero]
theorem HT.piv {w : Nat} {B : Nat → Nat → Int} (h : HT w B) {x : Nat → Int} (hx : spL0 w B x) {k : Nat} (hk : k < w) (h0 : ∀ j, j < k → x j = 0) : ∃ q, x k = q * B k k := by
  obtain ⟨z, hz⟩ := hx
  have hl := h.low hz (Nat.le_of_lt hk) h0
  refine ⟨z k, ?_⟩
  rw [hz k hk, sg_1 (k := k) w hk (fun c' h1 h2 => ?_)]
  by_cases h3 : c' < k
  · exact hl c' h3 k hk
  · rw [h.1 c' k h1 (by omega), Int.mul_zero]
theorem HN.uq {w : Nat} {B B' : Nat → Nat → Int} (h : HN w B) (h' : HN w B') (hs : ∀ c, c < w → spL0 w B' (B c)) (hs' : ∀ c, c < w → spL0 w B (B' c)) : ∀ c j, c < w → j < w → B c j = B' c j := by
  have hp : ∀ c, c < w → B c c = B' c c := by
    intro c hc
    obtain ⟨q, e⟩ := h'.ht.piv (hs c hc) hc (fun j hj => h.1 c j hc hj)
    obtain ⟨q', e'⟩ := h.ht.piv (hs' c hc) hc (fun j hj => h'.1 c j hc hj)
    exact Int.dvd_antisymm (h.2.1 c hc) (h'.2.1 c hc) ⟨q', by rw [e', Int.mul_comm]⟩ ⟨q, by rw [e, Int.mul_comm]⟩
  intro c j hc
  have hx : spL0 w B (fun j => B c j + (-1) * B' c j) := (spL0.row hc).add (-1) (hs' c hc)
  have key : ∀ j, j < w → B c j + (-1) * B' c j = 0 := by
    intro j
    induction j using Nat.strongRecOn with
    | ind j ih =>
      intro hj
      by_cases e1 : j < c
      · rw [h.1 c j hc e1, h'.1 c j hc e1]; rfl
      · by_cases e2 : j = c
        · rw [e2, hp c hc]; omega
        · obtain ⟨q, eq⟩ := h.ht.piv hx hj (fun i hi => ih i hi (by omega))
          have eq : B c j + (-1) * B' c j = q * B j j := eq
          by_cases e3 : B j j = 0
          · rw [eq, e3, Int.mul_zero]
          · have p1 := h.2.1 j hj
            have p2 := h.2.2.2 c j (by omega) hj (by omega)
            have p3 := h'.2.2.2 c j (by omega) hj (by rw [← hp j hj]; omega)
            rw [← hp j hj] at p3
            by_cases e4 : q = 0
            · rw [eq, e4, Int.zero_mul]
            · exfalso
              by_cases e5 : 1 ≤ q
              · have : 1 * B j j ≤ q * B j j := Int.mul_le_mul_of_nonneg_right e5 p1
                omega
              · have : q * B j j ≤ (-1) * B j j := Int.mul_le_mul_of_nonneg_right (by omega) p1
                omega
  intro hj
  have := key j hj
  omega
