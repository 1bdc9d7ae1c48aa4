/-! ===== ROWS of a TERM as the reference finds them ===== -/
def fit (a e : Nat) : Nat := if e = 0 then 6 else a / e
def mst (l x y z : Nat) : Nat := min (min (fit x (eX l)) (fit y (eY l))) (fit z (eZ l))
def rowsM : List Nat → Nat → Nat → Nat → List (List Nat)
  | [], x, y, z => if x + y + z = 0 then [[]] else []
  | l :: Ls, x, y, z => (dn (mst l x y z)).flatMap (fun p => (rowsM Ls (x - p * eX l) (y - p * eY l) (z - p * eZ l)).map (fun v => p :: v))
theorem fit_le {p a e : Nat} (h6 : p ≤ 6) (ha : a ≤ 6) : p ≤ fit a e ↔ p * e ≤ a := by
  unfold fit
  split
  · next h => rw [h, Nat.mul_zero]; exact ⟨fun _ => Nat.zero_le _, fun _ => h6⟩
  · next h => exact Nat.le_div_iff_mul_le (by omega)
theorem mst_le {p l x y z : Nat} (h6 : p ≤ 6) (hs : x + y + z ≤ 6) : p ≤ mst l x y z ↔ p * eX l ≤ x ∧ p * eY l ≤ y ∧ p * eZ l ≤ z := by
  unfold mst
  rw [Nat.le_min, Nat.le_min, fit_le h6 (by omega), fit_le h6 (by omega), fit_le h6 (by omega), and_assoc]
theorem mst_6 (l x y z : Nat) (hs : x + y + z ≤ 6) : mst l x y z ≤ 6 := by
  have : fit x (eX l) ≤ 6 := by
    unfold fit; split
    · exact Nat.le_refl _
    · exact Nat.le_trans (Nat.div_le_self _ _) (by omega)
  exact Nat.le_trans (Nat.min_le_left _ _) (Nat.le_trans (Nat.min_le_left _ _) this)
theorem dn_cut {β : Type} (f : Nat → List β) (B : Nat) : ∀ A, B ≤ A → (∀ p, B < p → p ≤ A → f p = []) → (dn A).flatMap f = (dn B).flatMap f
  | 0, h, _ => by rw [show B = 0 by omega]
  | A + 1, h, hf => by
    by_cases e : B = A + 1
    · rw [e]
    · rw [dn, List.flatMap_cons, hf (A + 1) (by omega) (Nat.le_refl _), List.nil_append]
      exact dn_cut f B A (by omega) (fun p h1 h2 => hf p h1 (by omega))
def okv (Ls : List Nat) (x y z : Nat) (v : List Nat) : Bool := decide (vsum eX Ls v = x) && decide (vsum eY Ls v = y) && decide (vsum eZ Ls v = z)
theorem okv_iff {Ls v : List Nat} {x y z : Nat} : okv Ls x y z v = true ↔ vsum eX Ls v = x ∧ vsum eY Ls v = y ∧ vsum eZ Ls v = z := by
  unfold okv; simp only [Bool.and_eq_true, decide_eq_true_eq, and_assoc]
theorem vsum_cons (e : Nat → Nat) (l p : Nat) (Ls v : List Nat) : vsum e (l :: Ls) (p :: v) = p * e l + vsum e Ls v := rfl
theorem flatMap_congr' {β γ : Type} {f g : β → List γ} : ∀ {L : List β}, (∀ a, a ∈ L → f a = g a) → L.flatMap f = L.flatMap g
  | [], _ => rfl
  | a :: L, h => by rw [List.flatMap_cons, List.flatMap_cons, h a List.mem_cons_self, flatMap_congr' (fun b hb => h b (List.mem_cons_of_mem _ hb))]
theorem rowsM_D : ∀ (Ls : List Nat) (room x y z : Nat), (∀ l ∈ Ls, l < 84 ∧ 1 ≤ eD l) → x + y + z ≤ room → room ≤ 6 → (rowsD Ls room).filter (okv Ls x y z) = rowsM Ls x y z
  | [], room, x, y, z, _, h, _ => by
    rw [rowsD, rowsM]
    by_cases e : x + y + z = 0
    · rw [if_pos e, List.filter_cons_of_pos (okv_iff.mpr ⟨by show 0 = x; omega, by show 0 = y; omega, by show 0 = z; omega⟩)]; rfl
    · rw [if_neg e, List.filter_cons_of_neg (fun h => by
        obtain ⟨a, b, c⟩ := okv_iff.mp h
        have a' : 0 = x := a
        have b' : 0 = y := b
        have c' : 0 = z := c
        omega)]; rfl
  | l :: Ls, room, x, y, z, hl, h, h6 => by
    obtain ⟨l1, l2⟩ := hl l List.mem_cons_self
    have le := e_le l1
    have hl' : ∀ l ∈ Ls, l < 84 ∧ 1 ≤ eD l := fun a ha => hl a (List.mem_cons_of_mem _ ha)
    have hm : ∀ p, p ≤ 6 → (p ≤ mst l x y z ↔ p * eX l ≤ x ∧ p * eY l ≤ y ∧ p * eZ l ≤ z) := fun p hp => mst_le hp (by omega)
    have hmul : ∀ p, p * eX l + p * eY l + p * eZ l = p * eD l := fun p => by rw [← Nat.mul_add, ← Nat.mul_add, le.2.2.2.2]
    have hB : mst l x y z ≤ room / eD l := by
      rw [Nat.le_div_iff_mul_le (by omega)]
      have := (hm _ (mst_6 l x y z (by omega))).mp (Nat.le_refl _)
      have := hmul (mst l x y z)
      omega
    rw [rowsD_cons, rowsM, List.filter_flatMap]
    rw [dn_cut _ (mst l x y z) _ hB (fun p h1 h2 => by
      rw [List.filter_map, List.map_eq_nil_iff, List.filter_eq_nil_iff]
      intro v hv hk
      have h3 : p ≤ 6 := Nat.le_trans h2 (Nat.le_trans (Nat.div_le_self _ _) h6)
      have hn : ¬ (p * eX l ≤ x ∧ p * eY l ≤ y ∧ p * eZ l ≤ z) := fun e => by have := (hm p h3).mpr e; omega
      obtain ⟨a, b, c⟩ := okv_iff.mp hk
      rw [vsum_cons] at a b c
      exact hn ⟨by omega, by omega, by omega⟩)]
    refine flatMap_congr' (fun p hp => ?_)
    have hp' := (mem_dn _ _).mp hp
    have hp6 : p ≤ 6 := Nat.le_trans hp' (mst_6 l x y z (by omega))
    obtain ⟨a, b, c⟩ := (hm p hp6).mp hp'
    have hpm := hmul p
    rw [List.filter_map, ← rowsM_D Ls (room - p * eD l) (x - p * eX l) (y - p * eY l) (z - p * eZ l) hl' (by omega) (by omega)]
    congr 1
    refine List.filter_congr (fun v _ => ?_)
    rw [Bool.eq_iff_iff]
    show okv (l :: Ls) x y z (p :: v) = true ↔ _
    rw [okv_iff, okv_iff, vsum_cons, vsum_cons, vsum_cons]
    omega
theorem RT_M {Ls : List Nat} {t : Nat} (hl : ∀ l ∈ Ls, l < 84 ∧ 1 ≤ eD l) (ht : t < 84) : RT Ls t = rowsM Ls (eX t) (eY t) (eZ t) := by
  have et := e_le ht
  rw [← rowsM_D Ls 6 _ _ _ hl (by omega) (by omega), RT]
  refine List.filter_congr (fun v hv => ?_)
  have hd := (rowsD_mem _ _ _ hv).2
  have hx := vdeg_xyz Ls v (fun l h => (hl l h).1)
  rw [Bool.eq_iff_iff, okv_iff, beq_iff_eq, vpl]
  obtain ⟨q1, q2, q3, q4, -⟩ := pl_all (vsum eX Ls v) (by omega) (vsum eY Ls v) (by omega) (vsum eZ Ls v) (by omega) (by omega)
  constructor
  · intro e; rw [← e]; exact ⟨q2.symm, q3.symm, q4.symm⟩
  · rintro ⟨a, b, c⟩; rw [a, b, c]; exact (e_all t ht).2.2
