/-! ===== no TERM has more than 128 ROWS ===== -/
theorem sm_leS {w w' : Nat → Nat} : ∀ {k : Nat}, (∀ j, j < k → w j ≤ w' j) → sm w k ≤ sm w' k
  | 0, _ => Nat.le_refl _
  | k + 1, h => Nat.add_le_add (sm_leS (fun j hj => h j (by omega))) (h k (by omega))
theorem sm_add (w w' : Nat → Nat) : ∀ k, sm (fun j => w j + w' j) k = sm w k + sm w' k
  | 0 => rfl
  | k + 1 => by simp only [sm, sm_add w w' k]; omega
theorem sm_swap (w : Nat → Nat → Nat) (m : Nat) : ∀ k, sm (fun i => sm (fun j => w i j) m) k = sm (fun j => sm (fun i => w i j) k) m
  | 0 => by simp only [sm, sm_zero]
  | k + 1 => by simp only [sm, sm_swap w m k, sm_add]
theorem sm_if {c : Prop} [Decidable c] {w : Nat → Nat} : ∀ {k : Nat}, sm (fun j => if c then w j else 0) k = if c then sm w k else 0
  | 0 => by simp [sm]
  | k + 1 => by rw [sm, sm_if]; split <;> rfl
def dsm_sm (f : Nat → Nat) : ∀ m, dsm f m = sm f (m + 1)
  | 0 => by rw [dsm, sm, sm, Nat.zero_add]
  | m + 1 => by rw [dsm, dsm_sm f m, Nat.add_comm]; rfl
def dnlen {β : Type} (f : Nat → List β) : ∀ m, ((dn m).flatMap f).length = sm (fun p => (f p).length) (m + 1)
  | 0 => by simp only [dn, sm, List.flatMap_cons, List.flatMap_nil, List.append_nil, Nat.zero_add]
  | m + 1 => by rw [dn, List.flatMap_cons, List.length_append, dnlen f m, Nat.add_comm]; rfl
/-- how many there are; a flag: of this letter some may be left -/
def cM (fx fy fz : Bool) : List Nat → Nat → Nat → Nat → Nat
  | [], x, y, z => if (fx = true ∨ x = 0) ∧ (fy = true ∨ y = 0) ∧ (fz = true ∨ z = 0) then 1 else 0
  | l :: Ls, x, y, z => sm (fun p => if p * eX l ≤ x ∧ p * eY l ≤ y ∧ p * eZ l ≤ z then cM fx fy fz Ls (x - p * eX l) (y - p * eY l) (z - p * eZ l) else 0) 7
theorem sm_cut {w : Nat → Nat} {a : Nat} : ∀ {k : Nat}, a ≤ k → (∀ j, a ≤ j → j < k → w j = 0) → sm w k = sm w a
  | 0, h, _ => by rw [show a = 0 by omega]
  | k + 1, h, hz => by
    by_cases e : a = k + 1
    · rw [e]
    · rw [sm, hz k (by omega) (by omega), Nat.add_zero]
      exact sm_cut (by omega) (fun j h1 h2 => hz j h1 (by omega))
theorem rowsM_c : ∀ (Ls : List Nat) (x y z : Nat), x + y + z ≤ 6 → (rowsM Ls x y z).length = cM false false false Ls x y z
  | [], x, y, z, _ => by
    rw [rowsM, cM]
    by_cases e : x + y + z = 0
    · rw [if_pos e, if_pos ⟨Or.inr (by omega), Or.inr (by omega), Or.inr (by omega)⟩]; rfl
    · rw [if_neg e, if_neg (by simp only [Bool.false_eq_true, false_or]; omega)]; rfl
  | l :: Ls, x, y, z, h => by
    have h6 := mst_6 l x y z h
    rw [rowsM, cM, dnlen, sm_cut (k := 7) (a := mst l x y z + 1) (by omega) (fun j h1 h2 => if_neg (fun e => by have := (mst_le (by omega) h).mpr e; omega))]
    refine sm_congr (fun p hp => ?_)
    rw [if_pos ((mst_le (by omega) h).mp (by omega)), List.length_map, rowsM_c Ls _ _ _ (by omega)]
theorem cM_x {fy fz : Bool} : ∀ (Ls : List Nat) (x y z : Nat), x + y + z ≤ 6 → sm (fun p => if p ≤ x then cM false fy fz Ls (x - p) y z else 0) 7 ≤ cM true fy fz Ls x y z
  | [], x, y, z, h => by
    rw [sm_cut (k := 7) (a := x + 1) (by omega) (fun j h1 h2 => if_neg (by omega)), sm, if_pos (Nat.le_refl _), Nat.sub_self]
    rw [sm_congr (w' := fun _ => 0) (fun j hj => by
      rw [if_pos (by omega), cM, if_neg (fun e => by have := e.1; simp only [Bool.false_eq_true, false_or] at this; omega)]), sm_zero, Nat.zero_add, cM, cM]
    split
    · next e => rw [if_pos (by simp only [true_or, true_and, and_true] at e ⊢; exact e.2)]; exact Nat.le_refl _
    · exact Nat.zero_le _
  | l :: Ls, x, y, z, h => by
    have e1 : sm (fun p => if p ≤ x then cM false fy fz (l :: Ls) (x - p) y z else 0) 7 = sm (fun q => if q * eX l ≤ x ∧ q * eY l ≤ y ∧ q * eZ l ≤ z then sm (fun p => if p ≤ x - q * eX l then cM false fy fz Ls (x - q * eX l - p) (y - q * eY l) (z - q * eZ l) else 0) 7 else 0) 7 := by
      have e2 : ∀ p q, (if p ≤ x then (if q * eX l ≤ x - p ∧ q * eY l ≤ y ∧ q * eZ l ≤ z then cM false fy fz Ls (x - p - q * eX l) (y - q * eY l) (z - q * eZ l) else 0) else 0) = (if q * eX l ≤ x ∧ q * eY l ≤ y ∧ q * eZ l ≤ z then (if p ≤ x - q * eX l then cM false fy fz Ls (x - q * eX l - p) (y - q * eY l) (z - q * eZ l) else 0) else 0) := by
        intro p q
        generalize q * eX l = a
        generalize q * eY l = b
        generalize q * eZ l = d
        by_cases c1 : p ≤ x
        · rw [if_pos c1]
          by_cases c2 : a ≤ x - p ∧ b ≤ y ∧ d ≤ z
          · rw [if_pos c2, if_pos (by omega), if_pos (by omega), show x - p - a = x - a - p by omega]
          · rw [if_neg c2]
            by_cases c3 : a ≤ x ∧ b ≤ y ∧ d ≤ z
            · rw [if_pos c3, if_neg (by omega)]
            · rw [if_neg c3]
        · rw [if_neg c1]
          by_cases c3 : a ≤ x ∧ b ≤ y ∧ d ≤ z
          · rw [if_pos c3, if_neg (by omega)]
          · rw [if_neg c3]
      have e3 : ∀ p, (if p ≤ x then cM false fy fz (l :: Ls) (x - p) y z else 0) = sm (fun q => if q * eX l ≤ x ∧ q * eY l ≤ y ∧ q * eZ l ≤ z then (if p ≤ x - q * eX l then cM false fy fz Ls (x - q * eX l - p) (y - q * eY l) (z - q * eZ l) else 0) else 0) 7 := by
        intro p
        rw [cM, ← sm_if]
        exact sm_congr (fun q _ => e2 p q)
      rw [sm_congr (fun p _ => e3 p), sm_swap]
      exact sm_congr (fun q _ => sm_if)
    rw [e1, cM]
    refine sm_leS (fun q _ => ?_)
    by_cases c3 : q * eX l ≤ x ∧ q * eY l ≤ y ∧ q * eZ l ≤ z
    · rw [if_pos c3, if_pos c3]
      exact cM_x Ls _ _ _ (by omega)
    · rw [if_neg c3, if_neg c3]; exact Nat.le_refl _
theorem cM_y {fx fz : Bool} : ∀ (Ls : List Nat) (x y z : Nat), x + y + z ≤ 6 → sm (fun p => if p ≤ y then cM fx false fz Ls x (y - p) z else 0) 7 ≤ cM fx true fz Ls x y z
  | [], x, y, z, h => by
    rw [sm_cut (k := 7) (a := y + 1) (by omega) (fun j h1 h2 => if_neg (by omega)), sm, if_pos (Nat.le_refl _), Nat.sub_self]
    rw [sm_congr (w' := fun _ => 0) (fun j hj => by
      rw [if_pos (by omega), cM, if_neg (fun e => by have := e.2.1; simp only [Bool.false_eq_true, false_or] at this; omega)]), sm_zero, Nat.zero_add, cM, cM]
    split
    · next e => rw [if_pos (by simp only [true_or, true_and, and_true] at e ⊢; exact ⟨e.1, e.2.2⟩)]; exact Nat.le_refl _
    · exact Nat.zero_le _
  | l :: Ls, x, y, z, h => by
    have e1 : sm (fun p => if p ≤ y then cM fx false fz (l :: Ls) x (y - p) z else 0) 7 = sm (fun q => if q * eX l ≤ x ∧ q * eY l ≤ y ∧ q * eZ l ≤ z then sm (fun p => if p ≤ y - q * eY l then cM fx false fz Ls (x - q * eX l) (y - q * eY l - p) (z - q * eZ l) else 0) 7 else 0) 7 := by
      have e2 : ∀ p q, (if p ≤ y then (if q * eX l ≤ x ∧ q * eY l ≤ y - p ∧ q * eZ l ≤ z then cM fx false fz Ls (x - q * eX l) (y - p - q * eY l) (z - q * eZ l) else 0) else 0) = (if q * eX l ≤ x ∧ q * eY l ≤ y ∧ q * eZ l ≤ z then (if p ≤ y - q * eY l then cM fx false fz Ls (x - q * eX l) (y - q * eY l - p) (z - q * eZ l) else 0) else 0) := by
        intro p q
        generalize q * eX l = a
        generalize q * eY l = b
        generalize q * eZ l = d
        by_cases c1 : p ≤ y
        · rw [if_pos c1]
          by_cases c2 : a ≤ x ∧ b ≤ y - p ∧ d ≤ z
          · rw [if_pos c2, if_pos (by omega), if_pos (by omega), show y - p - b = y - b - p by omega]
          · rw [if_neg c2]
            by_cases c3 : a ≤ x ∧ b ≤ y ∧ d ≤ z
            · rw [if_pos c3, if_neg (by omega)]
            · rw [if_neg c3]
        · rw [if_neg c1]
          by_cases c3 : a ≤ x ∧ b ≤ y ∧ d ≤ z
          · rw [if_pos c3, if_neg (by omega)]
          · rw [if_neg c3]
      have e3 : ∀ p, (if p ≤ y then cM fx false fz (l :: Ls) x (y - p) z else 0) = sm (fun q => if q * eX l ≤ x ∧ q * eY l ≤ y ∧ q * eZ l ≤ z then (if p ≤ y - q * eY l then cM fx false fz Ls (x - q * eX l) (y - q * eY l - p) (z - q * eZ l) else 0) else 0) 7 := by
        intro p
        rw [cM, ← sm_if]
        exact sm_congr (fun q _ => e2 p q)
      rw [sm_congr (fun p _ => e3 p), sm_swap]
      exact sm_congr (fun q _ => sm_if)
    rw [e1, cM]
    refine sm_leS (fun q _ => ?_)
    by_cases c3 : q * eX l ≤ x ∧ q * eY l ≤ y ∧ q * eZ l ≤ z
    · rw [if_pos c3, if_pos c3]
      exact cM_y Ls _ _ _ (by omega)
    · rw [if_neg c3, if_neg c3]; exact Nat.le_refl _
theorem cM_z {fx fy : Bool} : ∀ (Ls : List Nat) (x y z : Nat), x + y + z ≤ 6 → sm (fun p => if p ≤ z then cM fx fy false Ls x y (z - p) else 0) 7 ≤ cM fx fy true Ls x y z
  | [], x, y, z, h => by
    rw [sm_cut (k := 7) (a := z + 1) (by omega) (fun j h1 h2 => if_neg (by omega)), sm, if_pos (Nat.le_refl _), Nat.sub_self]
    rw [sm_congr (w' := fun _ => 0) (fun j hj => by
      rw [if_pos (by omega), cM, if_neg (fun e => by have := e.2.2; simp only [Bool.false_eq_true, false_or] at this; omega)]), sm_zero, Nat.zero_add, cM, cM]
    split
    · next e => rw [if_pos (by simp only [true_or, true_and, and_true] at e ⊢; exact ⟨e.1, e.2.1⟩)]; exact Nat.le_refl _
    · exact Nat.zero_le _
  | l :: Ls, x, y, z, h => by
    have e1 : sm (fun p => if p ≤ z then cM fx fy false (l :: Ls) x y (z - p) else 0) 7 = sm (fun q => if q * eX l ≤ x ∧ q * eY l ≤ y ∧ q * eZ l ≤ z then sm (fun p => if p ≤ z - q * eZ l then cM fx fy false Ls (x - q * eX l) (y - q * eY l) (z - q * eZ l - p) else 0) 7 else 0) 7 := by
      have e2 : ∀ p q, (if p ≤ z then (if q * eX l ≤ x ∧ q * eY l ≤ y ∧ q * eZ l ≤ z - p then cM fx fy false Ls (x - q * eX l) (y - q * eY l) (z - p - q * eZ l) else 0) else 0) = (if q * eX l ≤ x ∧ q * eY l ≤ y ∧ q * eZ l ≤ z then (if p ≤ z - q * eZ l then cM fx fy false Ls (x - q * eX l) (y - q * eY l) (z - q * eZ l - p) else 0) else 0) := by
        intro p q
        generalize q * eX l = a
        generalize q * eY l = b
        generalize q * eZ l = d
        by_cases c1 : p ≤ z
        · rw [if_pos c1]
          by_cases c2 : a ≤ x ∧ b ≤ y ∧ d ≤ z - p
          · rw [if_pos c2, if_pos (by omega), if_pos (by omega), show z - p - d = z - d - p by omega]
          · rw [if_neg c2]
            by_cases c3 : a ≤ x ∧ b ≤ y ∧ d ≤ z
            · rw [if_pos c3, if_neg (by omega)]
            · rw [if_neg c3]
        · rw [if_neg c1]
          by_cases c3 : a ≤ x ∧ b ≤ y ∧ d ≤ z
          · rw [if_pos c3, if_neg (by omega)]
          · rw [if_neg c3]
      have e3 : ∀ p, (if p ≤ z then cM fx fy false (l :: Ls) x y (z - p) else 0) = sm (fun q => if q * eX l ≤ x ∧ q * eY l ≤ y ∧ q * eZ l ≤ z then (if p ≤ z - q * eZ l then cM fx fy false Ls (x - q * eX l) (y - q * eY l) (z - q * eZ l - p) else 0) else 0) 7 := by
        intro p
        rw [cM, ← sm_if]
        exact sm_congr (fun q _ => e2 p q)
      rw [sm_congr (fun p _ => e3 p), sm_swap]
      exact sm_congr (fun q _ => sm_if)
    rw [e1, cM]
    refine sm_leS (fun q _ => ?_)
    by_cases c3 : q * eX l ≤ x ∧ q * eY l ≤ y ∧ q * eZ l ≤ z
    · rw [if_pos c3, if_pos c3]
      exact cM_z Ls _ _ _ (by omega)
    · rw [if_neg c3, if_neg c3]; exact Nat.le_refl _
def nb2 : List Nat → Nat
  | [] => 0
  | l :: Ls => nb2 Ls + if eD l = 1 then 0 else 1
theorem nb2_le : ∀ Ls : List Nat, nb2 Ls ≤ Ls.length
  | [] => Nat.le_refl _
  | l :: Ls => by
    have := nb2_le Ls
    rw [nb2, List.length_cons]
    split <;> omega
theorem one_x : ∀ l, l < 84 → eD l = 1 → (l = pl 1 0 0 ∧ eX l = 1 ∧ eY l = 0 ∧ eZ l = 0) ∨ (l = pl 0 1 0 ∧ eX l = 0 ∧ eY l = 1 ∧ eZ l = 0) ∨ (l = pl 0 0 1 ∧ eX l = 0 ∧ eY l = 0 ∧ eZ l = 1) := by decide +kernel
theorem bnd0_ok : (List.range 8).all (fun b => (List.range 7).all (fun r => decide (1 ≤ bnd 0 b r ∧ bnd 0 b r ≤ 120))) = true := by decide +kernel
theorem bnd0 {b r : Nat} (hb : b < 8) (hr : r < 7) : 1 ≤ bnd 0 b r ∧ bnd 0 b r ≤ 120 := of_decide_eq_true (all2 bnd0_ok hb hr)
theorem cM_bnd : ∀ (Ls : List Nat) (fx fy fz : Bool) (x y z : Nat), (∀ l ∈ Ls, l < 84 ∧ 1 ≤ eD l) → Ls.Nodup → Ls.length ≤ 7 → (fx = true → pl 1 0 0 ∉ Ls) → (fy = true → pl 0 1 0 ∉ Ls) → (fz = true → pl 0 0 1 ∉ Ls) → x + y + z ≤ 6 → cM fx fy fz Ls x y z ≤ bnd 0 (nb2 Ls) (x + y + z)
  | [], fx, fy, fz, x, y, z, _, _, _, _, _, _, h => by
    have := (bnd0 (b := 0) (r := x + y + z) (by omega) (by omega)).1
    rw [cM, nb2]
    split <;> omega
  | l :: Ls, fx, fy, fz, x, y, z, hl, hn, h7, gx, gy, gz, h => by
    obtain ⟨l1, l2⟩ := hl l List.mem_cons_self
    have hl' : ∀ l ∈ Ls, l < 84 ∧ 1 ≤ eD l := fun a ha => hl a (List.mem_cons_of_mem _ ha)
    obtain ⟨n1, n2⟩ := List.nodup_cons.mp hn
    rw [List.length_cons] at h7
    have hnb := nb2_le Ls
    have gx' : fx = true → pl 1 0 0 ∉ Ls := fun e m => gx e (List.mem_cons_of_mem _ m)
    have gy' : fy = true → pl 0 1 0 ∉ Ls := fun e m => gy e (List.mem_cons_of_mem _ m)
    have gz' : fz = true → pl 0 0 1 ∉ Ls := fun e m => gz e (List.mem_cons_of_mem _ m)
    by_cases e : eD l = 1
    · rw [nb2, if_pos e, Nat.add_zero]
      rcases one_x l l1 e with ⟨q, qx, qy, qz⟩ | ⟨q, qx, qy, qz⟩ | ⟨q, qx, qy, qz⟩
      · have f0 : fx = false := by
          cases fx
          · rfl
          · exact absurd (by rw [q]; exact List.mem_cons_self) (gx rfl)
        subst f0
        refine Nat.le_trans ?_ (cM_bnd Ls true fy fz x y z hl' n2 (by omega) (fun _ => by rw [← q]; exact n1) gy' gz' h)
        refine Nat.le_trans (Nat.le_of_eq ?_) (cM_x Ls x y z h)
        rw [cM, qx, qy, qz]
        exact sm_congr (fun p _ => by simp only [Nat.mul_one, Nat.mul_zero, Nat.zero_le, and_true, Nat.sub_zero])
      · have f0 : fy = false := by
          cases fy
          · rfl
          · exact absurd (by rw [q]; exact List.mem_cons_self) (gy rfl)
        subst f0
        refine Nat.le_trans ?_ (cM_bnd Ls fx true fz x y z hl' n2 (by omega) gx' (fun _ => by rw [← q]; exact n1) gz' h)
        refine Nat.le_trans (Nat.le_of_eq ?_) (cM_y Ls x y z h)
        rw [cM, qx, qy, qz]
        exact sm_congr (fun p _ => by simp only [Nat.mul_one, Nat.mul_zero, Nat.zero_le, and_true, true_and, Nat.sub_zero])
      · have f0 : fz = false := by
          cases fz
          · rfl
          · exact absurd (by rw [q]; exact List.mem_cons_self) (gz rfl)
        subst f0
        refine Nat.le_trans ?_ (cM_bnd Ls fx fy true x y z hl' n2 (by omega) gx' gy' (fun _ => by rw [← q]; exact n1) h)
        refine Nat.le_trans (Nat.le_of_eq ?_) (cM_z Ls x y z h)
        rw [cM, qx, qy, qz]
        exact sm_congr (fun p _ => by simp only [Nat.mul_one, Nat.mul_zero, Nat.zero_le, true_and, Nat.sub_zero])
    · rw [nb2, if_neg e]
      have le := e_le l1
      have hmul : ∀ p, p * eX l + p * eY l + p * eZ l = p * eD l := fun p => by rw [← Nat.mul_add, ← Nat.mul_add, le.2.2.2.2]
      refine Nat.le_trans ?_ (bnd2 (a := 0) (b := nb2 Ls) (room := x + y + z) (d := eD l) (by omega) (by omega) (by omega) (by omega) (by omega) (by omega))
      have hq : (x + y + z) / eD l + 1 ≤ 7 := by
        have := Nat.div_le_self (x + y + z) (eD l)
        omega
      rw [dsm_sm, cM, sm_cut (k := 7) (a := (x + y + z) / eD l + 1) hq (fun j h1 h2 => if_neg (fun c => by
        have := hmul j
        have h3 : (x + y + z) / eD l < j := by omega
        rw [Nat.div_lt_iff_lt_mul (by omega)] at h3
        omega))]
      refine sm_leS (fun p hp => ?_)
      by_cases c : p * eX l ≤ x ∧ p * eY l ≤ y ∧ p * eZ l ≤ z
      · rw [if_pos c]
        refine Nat.le_trans (cM_bnd Ls fx fy fz _ _ _ hl' n2 (by omega) gx' gy' gz' (by omega)) (Nat.le_of_eq ?_)
        have := hmul p
        rw [show x - p * eX l + (y - p * eY l) + (z - p * eZ l) = x + y + z - p * eD l by omega]
      · rw [if_neg c]; exact Nat.zero_le _
theorem RT_128 {gl : Nat → Nat} {n t : Nat} (hn : n ≤ 7) (hl : ∀ i, i < n → gl i < 84 ∧ 1 ≤ eD (gl i)) (hi : ∀ i j, i < n → j < n → gl i = gl j → i = j) (ht : t < 84) : (RT (leadL gl n) t).length ≤ 120 := by
  have hl' : ∀ l ∈ leadL gl n, l < 84 ∧ 1 ≤ eD l := fun l hm => by
    simp only [leadL, List.mem_map, List.mem_range] at hm
    obtain ⟨i, hi, rfl⟩ := hm
    exact hl i hi
  have et := e_le ht
  have h5 := nb2_le (leadL gl n)
  rw [leadL_len] at h5
  have hnd : (leadL gl n).Nodup := by
    unfold leadL
    rw [List.nodup_iff_pairwise_ne, List.pairwise_map]
    refine List.Pairwise.imp_of_mem (fun {a b} ha hb hab e => ?_) (List.nodup_range (n := n))
    exact hab (hi a b (List.mem_range.mp ha) (List.mem_range.mp hb) e)
  rw [RT_M hl' ht, rowsM_c _ _ _ _ (by omega)]
  refine Nat.le_trans (cM_bnd _ false false false _ _ _ hl' hnd (by rw [leadL_len]; exact hn) (fun e => by cases e) (fun e => by cases e) (fun e => by cases e) (by omega)) (bnd0 (by omega) (by omega)).2
