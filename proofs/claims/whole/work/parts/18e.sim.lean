/-! ===== numbers of 64 bits as images of whole numbers: rows, the class's grid ===== -/
def RC (r : Nat → Int64) (x : Nat → Int) : Prop := ∀ j, ∃ k : Int, x j = (r j).toInt + k * 18446744073709551616
theorem sub_t (r q s : Int64) : ∃ t : Int, r.toInt - q.toInt * s.toInt = (r - q * s).toInt + t * 18446744073709551616 := by
  refine ⟨Int.bdiv (r.toInt - q.toInt * s.toInt) (2 ^ 64), ?_⟩
  rw [Int64.toInt_sub, Int64.toInt_mul, Int.sub_bmod_bmod, Int.bmod_eq_self_sub_bdiv_mul]
  show _ = _ - _ * (18446744073709551616 : Int) + _
  omega
theorem neg_t (r : Int64) : ∃ t : Int, - r.toInt = (- r).toInt + t * 18446744073709551616 := by
  refine ⟨Int.bdiv (- r.toInt) (2 ^ 64), ?_⟩
  rw [Int64.toInt_neg, Int.bmod_eq_self_sub_bdiv_mul]
  show _ = _ - _ * (18446744073709551616 : Int) + _
  omega
theorem RC.sub {r s : Nat → Int64} {x y : Nat → Int} (q : Int64) (h : RC r x) (k : RC s y) : RC (fun j => r j - q * s j) (fun j => x j - q.toInt * y j) := by
  intro j
  obtain ⟨k1, e1⟩ := h j
  obtain ⟨k2, e2⟩ := k j
  obtain ⟨t, et⟩ := sub_t (r j) q (s j)
  refine ⟨t + k1 - q.toInt * k2, ?_⟩
  show x j - q.toInt * y j = (r j - q * s j).toInt + (t + k1 - q.toInt * k2) * 18446744073709551616
  rw [e1, e2]
  grind
theorem RC.neg {r : Nat → Int64} {x : Nat → Int} (h : RC r x) : RC (fun j => - r j) (fun j => - x j) := by
  intro j
  obtain ⟨k1, e1⟩ := h j
  obtain ⟨t, et⟩ := neg_t (r j)
  refine ⟨t - k1, ?_⟩
  show - x j = (- r j).toInt + (t - k1) * 18446744073709551616
  rw [e1]
  grind
/-- a number that can be read -/
def rg (x : Int) : Prop := x.natAbs < 9223372036854775808
theorem RC.at {r : Nat → Int64} {x : Nat → Int} (h : RC r x) {c : Nat} (hr : rg (x c)) : (r c).toInt = x c := by
  obtain ⟨k, e⟩ := h c
  have h1 := (r c).le_toInt
  have h2 := (r c).toInt_lt
  unfold rg at hr
  omega
theorem rg.nm {v : Int64} {x : Int} (e : v.toInt = x) (h : rg x) : v ≠ Int64.minValue := by
  intro e2
  rw [e2, show Int64.minValue.toInt = -9223372036854775808 from rfl] at e
  unfold rg at h
  omega
theorem RC.z {r : Nat → Int64} {x : Nat → Int} (h : RC r x) {c : Nat} (hr : rg (x c)) : r c = 0 ↔ x c = 0 := by
  rw [← h.at hr]
  exact ⟨fun e => by rw [e]; rfl, fun e => Int64.toInt_inj.mp e⟩
theorem RC.l {r : Nat → Int64} {x : Nat → Int} (h : RC r x) {c : Nat} (hr : rg (x c)) : r c < 0 ↔ x c < 0 := by
  rw [← h.at hr, Int64.lt_iff_toInt_lt]; rfl
theorem RC.g {r : Nat → Int64} {x : Nat → Int} (h : RC r x) {c : Nat} (hr : rg (x c)) : 0 < r c ↔ 0 < x c := by
  rw [← h.at hr, Int64.lt_iff_toInt_lt]; rfl
theorem RC.of {r : Nat → Int64} {x : Nat → Int} (h : ∀ j, (r j).toInt = x j) : RC r x := fun j => ⟨0, by rw [h j]; omega⟩
theorem RC.eq {r s : Nat → Int64} {x y : Nat → Int} (h : RC r x) (k : RC s y) {i j : Nat} (e : x i = y j) : r i = s j := by
  obtain ⟨k1, e1⟩ := h i
  obtain ⟨k2, e2⟩ := k j
  have h1 := (r i).le_toInt
  have h2 := (r i).toInt_lt
  have h3 := (s j).le_toInt
  have h4 := (s j).toInt_lt
  exact Int64.toInt_inj.mp (by omega)
/-- two rows, Euclid's way -/
def euZ (c : Nat) : Nat → (Nat → Int) → (Nat → Int) → (Nat → Int) × (Nat → Int)
  | 0, P, N => (P, N)
  | f + 1, P, N => if N c = 0 then (P, N) else euZ c f N (fun j => P j - (P c).tdiv (N c) * N j)
theorem tmod_rg {a p : Int} (h : p ≠ 0) (hp : rg p) : rg (a - a.tdiv p * p) := by
  have e : a - a.tdiv p * p = a.tmod p := by
    have := Int.mul_tdiv_add_tmod a p
    rw [Int.mul_comm]; omega
  rw [e]
  have := tmod_lt (a := a) h
  unfold rg at hp ⊢
  omega
theorem eu_sim {c : Nat} : ∀ f (P N : Nat → Int64) (X Y : Nat → Int), RC P X → RC N Y → rg (X c) → rg (Y c) → RC (euF c f P N).1 (euZ c f X Y).1 ∧ RC (euF c f P N).2 (euZ c f X Y).2
  | 0, P, N, X, Y, hP, hN, _, _ => ⟨hP, hN⟩
  | f + 1, P, N, X, Y, hP, hN, rX, rY => by
    rw [euF, euZ]
    by_cases e : Y c = 0
    · rw [if_pos e, if_pos ((hN.z rY).mpr e)]
      exact ⟨hP, hN⟩
    · rw [if_neg e, if_neg (fun q => e ((hN.z rY).mp q))]
      have eq : (P c / N c).toInt = (X c).tdiv (Y c) := by
        rw [Int64.toInt_div_of_ne_left _ _ (rg.nm (hP.at rX) rX), hP.at rX, hN.at rY]
      have h := hP.sub (P c / N c) hN
      rw [eq] at h
      exact eu_sim f N _ Y _ hN h rY (tmod_rg e rY)
def ngZ (P : Nat → Int) (c : Nat) : Nat → Int := if P c < 0 then (fun j => - P j) else P
theorem ng_sim {P : Nat → Int64} {X : Nat → Int} {c : Nat} (h : RC P X) (hr : rg (X c)) : RC (ngF P c) (ngZ X c) := by
  unfold ngF ngZ
  by_cases e : X c < 0
  · rw [if_pos e, if_pos ((h.l hr).mpr e)]; exact h.neg
  · rw [if_neg e, if_neg (fun q => e ((h.l hr).mp q))]; exact h
