/-! ===== norms as numbers without bound ===== -/
def ab (x : Int64) : Nat := x.toInt.natAbs
def nr (f : Nat → Int64) : Nat := sm (fun j => ab (f j)) 84
def nb (f : Nat → Int64) : Prop := nr f < 2 ^ 63
theorem bm_le (x : Int) : (x.bmod (2 ^ 64)).natAbs ≤ x.natAbs := by
  by_cases h : -(2 ^ 63 : Int) ≤ x ∧ x < 2 ^ 63
  · rw [Int.bmod_eq_of_le_mul_two (by omega) (by omega)]
    exact Nat.le_refl _
  · have h1 := Int.le_bmod (x := x) (m := 2 ^ 64) (by decide)
    have h2 := Int.bmod_lt (x := x) (m := 2 ^ 64) (by decide)
    omega
theorem ab_add (x y : Int64) : ab (x + y) ≤ ab x + ab y := by
  unfold ab
  rw [Int64.toInt_add]
  have := bm_le (x.toInt + y.toInt)
  omega
theorem ab_mul (x y : Int64) : ab (x * y) ≤ ab x * ab y := by
  unfold ab
  rw [Int64.toInt_mul, ← Int.natAbs_mul]
  exact bm_le _
theorem ab_neg (x : Int64) : ab (-x) ≤ ab x := by
  unfold ab
  rw [Int64.toInt_neg]
  have := bm_le (-x.toInt)
  omega
theorem ab_0 : ab 0 = 0 := rfl
theorem labs_ti {x : Int64} (h : ab x < 2 ^ 63) : (labs x).toInt = (ab x : Int) := by
  unfold labs ab at *
  by_cases c : x < 0
  · rw [if_pos c]
    rw [Int64.lt_iff_toInt_lt, show (0 : Int64).toInt = 0 from rfl] at c
    rw [Int64.toInt_neg, Int.bmod_eq_of_le_mul_two (by omega) (by omega)]
    omega
  · rw [if_neg c]
    rw [Int64.lt_iff_toInt_lt, show (0 : Int64).toInt = 0 from rfl] at c
    omega
theorem psum_ti {f : Nat → Int64} : ∀ k, sm (fun j => ab (f j)) k < 2 ^ 63 → (psum f k).toInt = (sm (fun j => ab (f j)) k : Int)
  | 0, _ => rfl
  | k + 1, h => by
    rw [sm] at h ⊢
    rw [psum, Int64.toInt_add, psum_ti k (by omega), labs_ti (by omega), Int.bmod_eq_of_le_mul_two (by omega) (by omega)]
    omega
theorem norm_ti {f : Nat → Int64} (h : nb f) : (norm f).toInt = (nr f : Int) := psum_ti 84 h
theorem sumA_ok {a b : Int64} (h : ¬ sumA a b < 0) : 0 ≤ a.toInt ∧ 0 ≤ b.toInt ∧ (sumA a b).toInt = a.toInt + b.toInt ∧ a.toInt + b.toInt < 2 ^ 63 := by
  unfold sumA at h ⊢
  by_cases c : a < 0 ∨ b < 0 ∨ 9223372036854775807 - b < a
  · rw [if_pos c] at h
    exact absurd (by decide) h
  · rw [if_neg c] at h ⊢
    simp only [not_or, Int64.lt_iff_toInt_lt, show (0 : Int64).toInt = 0 from rfl] at c
    obtain ⟨c1, c2, c3⟩ := c
    have b1 := Int64.toInt_lt b
    have a1 := Int64.toInt_lt a
    rw [Int64.toInt_sub, show (9223372036854775807 : Int64).toInt = 9223372036854775807 by decide, Int.bmod_eq_of_le_mul_two (by omega) (by omega)] at c3
    rw [Int64.toInt_add, Int.bmod_eq_of_le_mul_two (by omega) (by omega)]
    omega
/-- b is 0 or more -/
theorem prodA_ok {a b : Int64} (hb : 0 ≤ b.toInt) : b.toInt = 0 ∧ (prodA a b).toInt = 0 ∨ a.toInt < 0 ∧ (prodA a b).toInt = -1 ∨ 0 ≤ a.toInt ∧ ((prodA a b).toInt = -1 ∧ 2 ^ 63 ≤ a.toInt * b.toInt ∨ (prodA a b).toInt = a.toInt * b.toInt ∧ a.toInt * b.toInt < 2 ^ 63) := by
  unfold prodA
  by_cases z : b = 0
  · subst z
    exact Or.inl ⟨rfl, by rw [if_pos (Or.inr rfl)]; rfl⟩
  · have hb2 : 1 ≤ b.toInt := by
      have : b.toInt ≠ 0 := fun e => z (Int64.toInt_inj.mp e)
      omega
    by_cases y : a = 0
    · subst y
      refine Or.inr (Or.inr ⟨Int.le_refl _, Or.inr ?_⟩)
      rw [if_pos (Or.inl rfl)]
      constructor
      · show (0 : Int) = 0 * _; omega
      · show 0 * _ < _; omega
    · rw [if_neg (by simp [z, y])]
      by_cases c1 : a < 0
      · rw [if_pos (Or.inl c1)]
        rw [Int64.lt_iff_toInt_lt, show (0 : Int64).toInt = 0 from rfl] at c1
        exact Or.inr (Or.inl ⟨c1, by decide⟩)
      · have c1' := c1
        rw [Int64.lt_iff_toInt_lt, show (0 : Int64).toInt = 0 from rfl] at c1
        have hbn : ¬ b < 0 := by rw [Int64.lt_iff_toInt_lt, show (0 : Int64).toInt = 0 from rfl]; omega
        refine Or.inr (Or.inr ⟨by omega, ?_⟩)
        have hq : ((9223372036854775807 : Int64) / b).toInt = 9223372036854775807 / b.toInt := by
          rw [Int64.toInt_div, show (9223372036854775807 : Int64).toInt = 9223372036854775807 by decide, Int.tdiv_eq_ediv_of_nonneg (by omega), Int.bmod_eq_of_le_mul_two]
          · have : 0 ≤ (9223372036854775807 : Int) / b.toInt := Int.ediv_nonneg (by omega) (by omega)
            omega
          · have : (9223372036854775807 : Int) / b.toInt ≤ 9223372036854775807 := Int.ediv_le_self _ (by omega)
            omega
        by_cases c2 : 9223372036854775807 / b < a
        · rw [if_pos (Or.inr (Or.inr c2))]
          rw [Int64.lt_iff_toInt_lt, hq, Int.ediv_lt_iff_lt_mul (by omega)] at c2
          exact Or.inl ⟨by decide, by omega⟩
        · rw [if_neg (by simp [c1', hbn, c2])]
          rw [Int64.lt_iff_toInt_lt, hq, Int.ediv_lt_iff_lt_mul (by omega)] at c2
          have h0 : 0 ≤ a.toInt * b.toInt := Int.mul_nonneg (by omega) (by omega)
          refine Or.inr ⟨?_, by omega⟩
          rw [Int64.toInt_mul, Int.bmod_eq_of_le_mul_two (by omega) (by omega)]
/-! sums -/
theorem sm_one {a : Nat → Nat} {k : Nat} : ∀ m, sm (fun i => if i = k then a i else 0) m = if k < m then a k else 0
  | 0 => by rw [sm, if_neg (by omega)]
  | m + 1 => by
    rw [sm, sm_one m]
    by_cases e : m = k
    · subst e
      rw [if_neg (by omega), if_pos rfl, if_pos (by omega)]; omega
    · rw [if_neg e]
      by_cases e2 : k < m
      · rw [if_pos e2, if_pos (by omega)]; omega
      · rw [if_neg e2, if_neg (by omega)]
theorem sm_c1 {q : Nat → Prop} [DecidablePred q] : ∀ n, (∀ i j, i < n → j < n → q i → q j → i = j) → sm (fun j => if q j then 1 else 0) n ≤ 1
  | 0, _ => by rw [sm]; omega
  | n + 1, h => by
    rw [sm]
    by_cases e : q n
    · rw [if_pos e]
      have : sm (fun j => if q j then 1 else 0) n = sm (fun _ => 0) n := sm_congr (fun j hj => if_neg (fun e2 => by
        have := h j n (by omega) (by omega) e2 e
        omega))
      rw [this, sm_zero]; omega
    · rw [if_neg e]
      have := sm_c1 n (fun i j hi hj => h i j (by omega) (by omega))
      omega
theorem sm_mul (a : Nat → Nat) (c : Nat) : ∀ n, sm (fun j => c * a j) n = c * sm a n
  | 0 => rfl
  | n + 1 => by rw [sm, sm, sm_mul a c n, Nat.mul_add]
theorem sm_inj {p : Nat → Bool} {φ a : Nat → Nat} {n m : Nat} (h1 : ∀ j, j < n → p j = true → φ j < m) (h2 : ∀ i j, i < n → j < n → p i = true → p j = true → φ i = φ j → i = j) : sm (fun j => if p j = true then a (φ j) else 0) n ≤ sm a m := by
  have e : sm (fun j => if p j = true then a (φ j) else 0) n = sm (fun j => sm (fun i => a i * (if p j = true ∧ φ j = i then 1 else 0)) m) n := sm_congr (fun j hj => by
    by_cases c : p j = true
    · rw [if_pos c]
      have : sm (fun i => a i * (if p j = true ∧ φ j = i then 1 else 0)) m = sm (fun i => if i = φ j then a i else 0) m := sm_congr (fun i _ => by
        by_cases c2 : i = φ j
        · rw [if_pos ⟨c, c2.symm⟩, if_pos c2, Nat.mul_one]
        · rw [if_neg (fun q => c2 q.2.symm), if_neg c2, Nat.mul_zero])
      rw [this, sm_one, if_pos (h1 j hj c)]
    · rw [if_neg c]
      have : sm (fun i => a i * (if p j = true ∧ φ j = i then 1 else 0)) m = sm (fun _ => 0) m := sm_congr (fun i _ => by
        rw [if_neg (fun q => c q.1), Nat.mul_zero])
      rw [this, sm_zero])
  rw [e, sm_swap]
  refine sm_leS (fun i _ => ?_)
  rw [sm_mul]
  have := sm_c1 (q := fun j => p j = true ∧ φ j = i) n (fun x y hx hy qx qy => h2 x y hx hy qx.1 qy.1 (qx.2.trans qy.2.symm))
  calc a i * _ ≤ a i * 1 := Nat.mul_le_mul_left _ this
    _ = a i := Nat.mul_one _
theorem nr_add (f g : Nat → Int64) (c : Int64) : nr (addP f g c) ≤ nr f + ab c * nr g := by
  unfold nr
  rw [← sm_mul, ← sm_add]
  refine sm_leS (fun j _ => ?_)
  have h1 := ab_add (f j) (c * g j)
  have h2 := ab_mul c (g j)
  show ab (f j + c * g j) ≤ _
  omega
theorem nr_scale (f : Nat → Int64) (c : Int64) : nr (fun j => f j * c) ≤ ab c * nr f := by
  unfold nr
  rw [← sm_mul]
  refine sm_leS (fun j _ => ?_)
  have := ab_mul (f j) c
  rw [Nat.mul_comm] at this
  exact this
theorem nr_scale2 (f : Nat → Int64) (c : Int64) : nr (fun j => c * f j) ≤ ab c * nr f := by
  unfold nr
  rw [← sm_mul]
  exact sm_leS (fun j _ => ab_mul c (f j))
theorem nr_trn (f : Nat → Int64) {k : Nat} (hk : k < 6) : nr (trn f k) ≤ nr f := by
  have := sm_inj (p := fun _ => true) (φ := fun j => tpl j (kinv k)) (a := fun i => ab (f i)) (n := 84) (m := 84) (fun j hj _ => (turn_ok k hk j hj).2.2.2) (fun i j hi hj _ _ e => by
    have e2 : tpl i (kinv k) = tpl j (kinv k) := e
    rw [← (turn_ok k hk i hi).2.2.1, e2, (turn_ok k hk j hj).2.2.1])
  refine Nat.le_trans (Nat.le_of_eq ?_) this
  unfold nr
  refine sm_congr (fun j hj => ?_)
  rw [if_pos rfl]
  unfold trn
  rw [if_pos hj]
theorem ab_dsum (f g : Nat → Int64) (j : Nat) : ∀ n, ab (dsum f g j n) ≤ sm (fun m => ab (tm f g j (83 - m))) n
  | 0 => Nat.le_refl _
  | n + 1 => by
    rw [dsum, sm]
    have h1 := ab_add (dsum f g j n) (tm f g j (83 - n))
    have h2 := ab_dsum f g j n
    omega
theorem sm_rev (a : Nat → Nat) : ∀ n, n ≤ 84 → sm (fun m => a (83 - m)) n + sm a (84 - n) = sm a 84
  | 0, _ => by rw [sm, Nat.zero_add, Nat.sub_zero]
  | n + 1, h => by
    rw [sm]
    have := sm_rev a n (by omega)
    rw [show 84 - n = (84 - (n + 1)) + 1 by omega, sm, show 84 - (n + 1) = 83 - n by omega] at this
    rw [show 84 - (n + 1) = 83 - n by omega]
    omega
theorem nr_mul (f g : Nat → Int64) : nr (mulP f g) ≤ nr f * nr g := by
  have h1 : nr (mulP f g) ≤ sm (fun j => sm (fun m => ab (tm f g j (83 - m))) 84) 84 := by
    unfold nr
    refine sm_leS (fun j hj => ?_)
    unfold mulP
    rw [if_pos hj]
    exact ab_dsum f g j 84
  rw [sm_swap] at h1
  refine Nat.le_trans h1 ?_
  have h2 : nr f * nr g = sm (fun m => ab (f (83 - m)) * nr g) 84 := by
    have := sm_rev (fun t => ab (f t)) 84 (Nat.le_refl _)
    rw [show 84 - 84 = 0 from rfl, sm, Nat.add_zero] at this
    have e : sm (fun m => ab (f (83 - m)) * nr g) 84 = sm (fun m => nr g * ab (f (83 - m))) 84 := sm_congr (fun _ _ => Nat.mul_comm _ _)
    rw [e, sm_mul, this, Nat.mul_comm]
    rfl
  rw [h2]
  refine sm_leS (fun m hm => ?_)
  have ht : 83 - m < 84 := by omega
  have h3 := sm_inj (p := fun j => dv (83 - m) j) (φ := fun j => quo (83 - m) j) (a := fun i => ab (g i)) (n := 84) (m := 84) (fun j hj hp => (quo_ok ht hj hp).1) (fun i j hi hj pi pj e => by
    have e2 : quo (83 - m) i = quo (83 - m) j := e
    rw [← (quo_ok ht hi pi).2.2, e2, (quo_ok ht hj pj).2.2])
  have h4 : sm (fun j => ab (tm f g j (83 - m))) 84 ≤ sm (fun j => ab (f (83 - m)) * (if dv (83 - m) j = true then ab (g (quo (83 - m) j)) else 0)) 84 := sm_leS (fun j _ => by
    unfold tm
    by_cases c : dv (83 - m) j = true
    · rw [if_pos c, if_pos c]; exact ab_mul _ _
    · rw [if_neg c, if_neg c, Nat.mul_zero]; exact Nat.le_refl _)
  rw [sm_mul] at h4
  exact Nat.le_trans h4 (Nat.mul_le_mul_left _ h3)
