/-! ===== the grid's two blocks: exponents, relations ===== -/
theorem sg_split (f : Nat → Int) (k : Nat) : ∀ n, sgZ (k + n) f = sgZ k f + sgZ n (fun c => f (k + c))
  | 0 => by show sgZ k f = sgZ k f + 0; omega
  | n + 1 => by
    rw [show k + (n + 1) = (k + n) + 1 by omega, sgZ, sgZ, sg_split f k n]; omega
theorem HN.e3 {B : LZ} (h : HN 10 B) : HN 3 B := ⟨fun c j hc hj => h.1 c j (by omega) hj, fun c hc => h.2.1 c (by omega), fun c hc h0 j hj => h.2.2.1 c (by omega) h0 j (by omega), fun a c h1 h2 h3 => h.2.2.2 a c h1 (by omega) h3⟩
theorem HN.k7 {B : LZ} (h : HN 10 B) : HN 7 (fun c j => B (3 + c) (3 + j)) := ⟨fun c j hc hj => h.1 (3 + c) (3 + j) (by omega) (by omega), fun c hc => h.2.1 (3 + c) (by omega), fun c hc h0 j hj => h.2.2.1 (3 + c) (by omega) h0 (3 + j) (by omega), fun a c h1 h2 h3 => h.2.2.2 (3 + a) (3 + c) (by omega) (by omega) h3⟩
theorem spL0.e3 {B : LZ} (h : HT 10 B) {y : Nat → Int} : spL0 3 B y ↔ ∃ x, spL0 10 B x ∧ ∀ j, j < 3 → y j = x j := by
  constructor
  · rintro ⟨z, hz⟩
    refine ⟨fun j => sgZ 10 (fun c => (if c < 3 then z c else 0) * B c j), ⟨fun c => if c < 3 then z c else 0, fun j _ => rfl⟩, fun j hj => ?_⟩
    show y j = sgZ (3 + 7) (fun c => (if c < 3 then z c else 0) * B c j)
    rw [hz j hj, sg_split, sg_z 7 (fun c _ => by show (if 3 + c < 3 then z (3 + c) else 0) * _ = 0; rw [if_neg (by omega), Int.zero_mul]), sg_c 3 (fun c hc => by show z c * B c j = (if c < 3 then z c else 0) * B c j; rw [if_pos hc])]
    omega
  · rintro ⟨x, ⟨z, hz⟩, hy⟩
    refine ⟨z, fun j hj => ?_⟩
    rw [hy j hj, hz j (by omega)]
    show sgZ (3 + 7) (fun c => z c * B c j) = _
    rw [sg_split, sg_z 7 (fun c hc => by show z (3 + c) * B (3 + c) j = 0; rw [h.1 (3 + c) j (by omega) (by omega), Int.mul_zero])]
    omega
theorem spL0.k7 {B : LZ} (h : HT 10 B) {y : Nat → Int} : spL0 7 (fun c j => B (3 + c) (3 + j)) y ↔ ∃ x, spL0 10 B x ∧ (∀ j, j < 3 → x j = 0) ∧ ∀ j, j < 7 → y j = x (3 + j) := by
  constructor
  · rintro ⟨z, hz⟩
    have e : ∀ j, sgZ 10 (fun c => (if c < 3 then 0 else z (c - 3)) * B c j) = sgZ 7 (fun c => z c * B (3 + c) j) := fun j => by
      show sgZ (3 + 7) (fun c => (if c < 3 then 0 else z (c - 3)) * B c j) = _
      rw [sg_split, sg_z 3 (fun c hc => by show (if c < 3 then 0 else z (c - 3)) * _ = 0; rw [if_pos hc, Int.zero_mul]), sg_c 7 (fun c hc => by show (if 3 + c < 3 then 0 else z (3 + c - 3)) * B (3 + c) j = z c * B (3 + c) j; rw [if_neg (by omega), show 3 + c - 3 = c by omega])]
      omega
    refine ⟨fun j => sgZ 10 (fun c => (if c < 3 then 0 else z (c - 3)) * B c j), ⟨fun c => if c < 3 then 0 else z (c - 3), fun j _ => rfl⟩, fun j hj => ?_, fun j hj => ?_⟩
    · show sgZ 10 _ = 0
      rw [e, sg_z 7 (fun c hc => by show z c * B (3 + c) j = 0; rw [h.1 (3 + c) j (by omega) (by omega), Int.mul_zero])]
    · show y j = sgZ 10 _
      rw [e, hz j hj]
  · rintro ⟨x, ⟨z, hz⟩, h0, hy⟩
    have hl := h.low hz (show 3 ≤ 10 by omega) h0
    refine ⟨fun c => z (3 + c), fun j hj => ?_⟩
    rw [hy j hj, hz (3 + j) (by omega)]
    show sgZ (3 + 7) (fun c => z c * B c (3 + j)) = _
    rw [sg_split, sg_z 3 (fun c hc => hl c hc (3 + j) (by omega)), Int.zero_add]
/-- what the exponents of the rows span; what of their sums has no exponents -/
def spE (Mz : LZ) (n : Nat) (y : Nat → Int) : Prop := ∃ x, spMz Mz n x ∧ ∀ j, j < 3 → y j = x j
def spK (Mz : LZ) (n : Nat) (y : Nat → Int) : Prop := ∃ x, spMz Mz n x ∧ (∀ j, j < 3 → x j = 0) ∧ ∀ j, j < 7 → y j = x (3 + j)
theorem cg_e {Mz : LZ} {n : Nat} (ok : okG Mz n) : HN 3 (cgZ Mz n) ∧ ∀ y, spL0 3 (cgZ Mz n) y ↔ spE Mz n y := by
  have h := cg_hn n ok
  refine ⟨h.e3, fun y => (spL0.e3 h.ht).trans ?_⟩
  constructor
  · rintro ⟨x, hx, hy⟩; exact ⟨x, (cg_sp n ok).mp hx, hy⟩
  · rintro ⟨x, hx, hy⟩; exact ⟨x, (cg_sp n ok).mpr hx, hy⟩
theorem cg_k {Mz : LZ} {n : Nat} (ok : okG Mz n) : HN 7 (fun c j => cgZ Mz n (3 + c) (3 + j)) ∧ ∀ y, spL0 7 (fun c j => cgZ Mz n (3 + c) (3 + j)) y ↔ spK Mz n y := by
  have h := cg_hn n ok
  refine ⟨h.k7, fun y => (spL0.k7 h.ht).trans ?_⟩
  constructor
  · rintro ⟨x, hx, h0, hy⟩; exact ⟨x, (cg_sp n ok).mp hx, h0, hy⟩
  · rintro ⟨x, hx, h0, hy⟩; exact ⟨x, (cg_sp n ok).mpr hx, h0, hy⟩
theorem HN.uqS {w : Nat} {B B' : LZ} {S : (Nat → Int) → Prop} (h : HN w B) (h' : HN w B') (hs : ∀ y, spL0 w B y ↔ S y) (hs' : ∀ y, spL0 w B' y ↔ S y) : ∀ c j, c < w → j < w → B c j = B' c j :=
  h.uq h' (fun c hc => (hs' _).mpr ((hs _).mp (spL0.row hc))) (fun c hc => (hs _).mpr ((hs' _).mp (spL0.row hc)))
/-- a list of rows with rising pivots, as a grid by pivot columns -/
def grP (k : Nat) (pv : Nat → Nat) (R : LZ) : LZ
  | c => match k with
    | 0 => fun _ => 0
    | k + 1 => if pv k = c then R k else grP k pv R c
theorem grP_at {pv : Nat → Nat} {R : LZ} : ∀ k i, i < k → (∀ x y, x < y → y < k → pv x < pv y) → grP k pv R (pv i) = R i
  | 0, i, h, _ => by omega
  | k + 1, i, h, hm => by
    rw [grP]
    by_cases e : i = k
    · rw [e, if_pos rfl]
    · rw [if_neg (by have := hm i k (by omega) (by omega); omega)]
      exact grP_at k i (by omega) (fun x y h1 h2 => hm x y h1 (by omega))
theorem grP_no {pv : Nat → Nat} {R : LZ} {c : Nat} : ∀ k, (∀ i, i < k → pv i ≠ c) → grP k pv R c = fun _ => 0
  | 0, _ => rfl
  | k + 1, h => by
    rw [grP, if_neg (h k (by omega))]
    exact grP_no k (fun i hi => h i (by omega))
