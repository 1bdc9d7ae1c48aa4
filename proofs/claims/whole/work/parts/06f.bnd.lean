/-! ===== 344 ROWS at most ===== -/
def btab : List (List Nat) := [[1, 1, 1, 1, 1, 1, 1], [1, 1, 2, 2, 3, 3, 4], [1, 1, 3, 3, 6, 6, 10], [1, 1, 4, 4, 10, 10, 20], [1, 1, 5, 5, 15, 15, 35], [1, 1, 6, 6, 21, 21, 56], [1, 1, 7, 7, 28, 28, 84], [1, 1, 8, 8, 36, 36, 120], [1, 2, 3, 4, 5, 6, 7], [1, 2, 4, 6, 9, 12, 16], [1, 2, 5, 8, 14, 20, 30], [1, 2, 6, 10, 20, 30, 50], [1, 2, 7, 12, 27, 42, 77], [1, 2, 8, 14, 35, 56, 112], [1, 2, 9, 16, 44, 72, 156], [0, 0, 0, 0, 0, 0, 0], [1, 3, 6, 10, 15, 21, 28], [1, 3, 7, 13, 22, 34, 50], [1, 3, 8, 16, 30, 50, 80], [1, 3, 9, 19, 39, 69, 119], [1, 3, 10, 22, 49, 91, 168], [1, 3, 11, 25, 60, 116, 228], [0, 0, 0, 0, 0, 0, 0], [0, 0, 0, 0, 0, 0, 0], [1, 4, 10, 20, 35, 56, 84], [1, 4, 11, 24, 46, 80, 130], [1, 4, 12, 28, 58, 108, 188], [1, 4, 13, 32, 71, 140, 259], [1, 4, 14, 36, 85, 176, 344], [0, 0, 0, 0, 0, 0, 0], [0, 0, 0, 0, 0, 0, 0], [0, 0, 0, 0, 0, 0, 0]]
def bnd (a b room : Nat) : Nat := (btab.getD (a * 8 + b) []).getD room 0
def bnd1c (a b room : Nat) : Bool := decide (a + b < 7 → dsm (fun p => bnd a b (room - p * 1)) (room / 1) ≤ bnd (a + 1) b room)
theorem bnd1a : ((List.range 3).all fun a => (List.range 7).all fun b => (List.range 7).all fun r => bnd1c a b r) = true := by decide +kernel
theorem bnd1 {a b room : Nat} (ha : a < 3) (hb : b < 7) (h : a + b < 7) (hr : room < 7) : dsm (fun p => bnd a b (room - p * 1)) (room / 1) ≤ bnd (a + 1) b room :=
  of_decide_eq_true (List.all_eq_true.mp (List.all_eq_true.mp (List.all_eq_true.mp bnd1a a (List.mem_range.mpr ha)) b (List.mem_range.mpr hb)) room (List.mem_range.mpr hr)) h
def bnd2c (a b room d : Nat) : Bool := decide (a + b < 7 → 2 ≤ d → dsm (fun p => bnd a b (room - p * d)) (room / d) ≤ bnd a (b + 1) room)
theorem bnd2a : ((List.range 4).all fun a => (List.range 7).all fun b => (List.range 7).all fun r => (List.range 7).all fun d => bnd2c a b r d) = true := by decide +kernel
theorem bnd2 {a b room d : Nat} (ha : a < 4) (hb : b < 7) (h : a + b < 7) (hr : room < 7) (hd : d < 7) (h2 : 2 ≤ d) : dsm (fun p => bnd a b (room - p * d)) (room / d) ≤ bnd a (b + 1) room :=
  of_decide_eq_true (List.all_eq_true.mp (List.all_eq_true.mp (List.all_eq_true.mp (List.all_eq_true.mp bnd2a a (List.mem_range.mpr ha)) b (List.mem_range.mpr hb)) room (List.mem_range.mpr hr)) d (List.mem_range.mpr hd)) h h2
theorem bnd3a : ((List.range 4).all fun a => (List.range 8).all fun b => decide (a + b < 8 → bnd a b 6 ≤ 344)) = true := by decide +kernel
theorem bnd3 {a b : Nat} (ha : a < 4) (hb : b < 8) (h : a + b < 8) : bnd a b 6 ≤ 344 :=
  of_decide_eq_true (List.all_eq_true.mp (List.all_eq_true.mp bnd3a a (List.mem_range.mpr ha)) b (List.mem_range.mpr hb)) h
def on1 : List Nat → Nat
  | [] => 0
  | l :: Ls => on1 Ls + if eD l = 1 then 1 else 0
theorem on1_le : ∀ Ls : List Nat, on1 Ls ≤ Ls.length
  | [] => Nat.le_refl _
  | l :: Ls => by
    have := on1_le Ls
    rw [on1, List.length_cons]
    split <;> omega
theorem rowsD_bnd : ∀ (Ls : List Nat) (room : Nat), room ≤ 6 → (∀ l ∈ Ls, l < 84 ∧ 1 ≤ eD l) → on1 Ls ≤ 3 → Ls.length ≤ 7 → (rowsD Ls room).length ≤ bnd (on1 Ls) (Ls.length - on1 Ls) room
  | [], room, hr, _, _, _ => by
    have h9 : (List.range 7).all (fun r => decide (1 ≤ bnd 0 0 r)) = true := by decide +kernel
    have := all_lt h9 room (by omega)
    simpa only [rowsD, on1, List.length_cons, List.length_nil] using this
  | l :: Ls, room, hr, hl, h1, h7 => by
    rw [List.length_cons] at h7
    have hle := on1_le Ls
    obtain ⟨l1, l2⟩ := hl l List.mem_cons_self
    have l3 := e_le l1
    have hl' : ∀ l ∈ Ls, l < 84 ∧ 1 ≤ eD l := fun x hx => hl x (List.mem_cons_of_mem _ hx)
    rw [rowsD_len, List.length_cons]
    by_cases e : eD l = 1
    · rw [on1, if_pos e] at h1 ⊢
      refine Nat.le_trans (dsm_le (h := fun p => bnd (on1 Ls) (Ls.length - on1 Ls) (room - p * eD l)) (fun p _ => rowsD_bnd Ls _ (by omega) hl' (by omega) (by omega))) ?_
      rw [e, show Ls.length + 1 - (on1 Ls + 1) = Ls.length - on1 Ls by omega]
      exact bnd1 (by omega) (by omega) (by omega) (by omega)
    · rw [on1, if_neg e, Nat.add_zero] at h1 ⊢
      refine Nat.le_trans (dsm_le (h := fun p => bnd (on1 Ls) (Ls.length - on1 Ls) (room - p * eD l)) (fun p _ => rowsD_bnd Ls _ (by omega) hl' (by omega) (by omega))) ?_
      rw [show Ls.length + 1 - on1 Ls = Ls.length - on1 Ls + 1 by omega]
      exact bnd2 (by omega) (by omega) (by omega) (by omega) (by omega) (by omega)
theorem eD_one : ∀ t, t < 84 → eD t = 1 → t = pl 1 0 0 ∨ t = pl 0 1 0 ∨ t = pl 0 0 1 := by decide +kernel
theorem on1_app (A : List Nat) (l : Nat) : on1 (A ++ [l]) = on1 A + if eD l = 1 then 1 else 0 := by
  induction A with
  | nil => rfl
  | cons a A ih => rw [List.cons_append, on1, ih, on1]; omega
theorem cn_inj {P : Nat → Nat} {t : Nat} : ∀ {k : Nat}, (∀ i j, i < k → j < k → P i = P j → i = j) → cn P t k ≤ 1 ∧ (cn P t k = 1 → ∃ i, i < k ∧ P i = t)
  | 0, _ => ⟨Nat.zero_le _, fun h => by cases h⟩
  | k + 1, h => by
    obtain ⟨h1, h2⟩ := cn_inj (P := P) (t := t) (k := k) (fun i j hi hj e => h i j (by omega) (by omega) e)
    by_cases e : P k = t
    · have : cn P t k = 0 := by
        rcases Nat.eq_zero_or_pos (cn P t k) with z | z
        · exact z
        · obtain ⟨i, hi, hp⟩ := h2 (by omega)
          have := h i k (by omega) (by omega) (by rw [hp, e])
          omega
      rw [cn, if_pos e, this]
      exact ⟨Nat.le_refl _, fun _ => ⟨k, by omega, e⟩⟩
    · rw [cn_off e]
      exact ⟨h1, fun h9 => by obtain ⟨i, hi, hp⟩ := h2 h9; exact ⟨i, by omega, hp⟩⟩
theorem leadL_succ (gl : Nat → Nat) (n : Nat) : leadL gl (n + 1) = leadL gl n ++ [gl n] := by simp [leadL, List.range_succ]
theorem on1_cn {gl : Nat → Nat} : ∀ {n : Nat}, (∀ i, i < n → gl i < 84) → on1 (leadL gl n) ≤ cn gl (pl 1 0 0) n + cn gl (pl 0 1 0) n + cn gl (pl 0 0 1) n
  | 0, _ => Nat.le_refl _
  | n + 1, h => by
    have ih := on1_cn (gl := gl) (n := n) (fun i hi => h i (by omega))
    rw [leadL_succ, on1_app]
    have := eD_one (gl n) (h n (by omega))
    simp only [cn]
    by_cases e : eD (gl n) = 1
    · rw [if_pos e]
      rcases this e with c | c | c
      · rw [if_pos c]; omega
      · rw [if_pos c]; omega
      · rw [if_pos c]; omega
    · rw [if_neg e]; omega
/-- 344 at most -/
theorem rows_344 {gl : Nat → Nat} {n : Nat} (hn : n ≤ 7) (hl : ∀ i, i < n → gl i < 84 ∧ 1 ≤ eD (gl i)) (hi : ∀ i j, i < n → j < n → gl i = gl j → i = j) : (rowsD (leadL gl n) 6).length ≤ 344 := by
  have h1 := on1_cn (gl := gl) (n := n) (fun i hi => (hl i hi).1)
  have h2 := (cn_inj (t := pl 1 0 0) hi).1
  have h3 := (cn_inj (t := pl 0 1 0) hi).1
  have h4 := (cn_inj (t := pl 0 0 1) hi).1
  have h5 := on1_le (leadL gl n)
  rw [leadL_len] at h5
  refine Nat.le_trans (rowsD_bnd _ 6 (by omega) (fun l hm => ?_) (by omega) (by rw [leadL_len]; exact hn)) (bnd3 (by omega) (by rw [leadL_len]; omega) (by rw [leadL_len]; omega))
  simp only [leadL, List.mem_map, List.mem_range] at hm
  obtain ⟨i, hi, rfl⟩ := hm
  exact hl i hi
