/-! ===== the static tables, as Nats ===== -/
def tnL : List (List Nat) := [[0, 1, 1, 1, 2, 2, 2, 2, 2, 2, 3, 3, 3, 3, 3, 3, 3, 3, 3, 3, 4, 4, 4, 4, 4, 4, 4, 4, 4, 4, 4, 4, 4, 4, 4, 5, 5, 5, 5, 5, 5, 5, 5, 5, 5, 5, 5, 5, 5, 5, 5, 5, 5, 5, 5, 5, 6, 6, 6, 6, 6, 6, 6, 6, 6, 6, 6, 6, 6, 6, 6, 6, 6, 6, 6, 6, 6, 6, 6, 6, 6, 6, 6, 6], [0, 1, 4, 10, 20, 35, 56, 84], [0, 1, 3, 6, 10, 15, 21], [0, 1, 0, 0, 2, 1, 1, 0, 0, 0, 3, 2, 2, 1, 1, 1, 0, 0, 0, 0, 4, 3, 3, 2, 2, 2, 1, 1, 1, 1, 0, 0, 0, 0, 0, 5, 4, 4, 3, 3, 3, 2, 2, 2, 2, 1, 1, 1, 1, 1, 0, 0, 0, 0, 0, 0, 6, 5, 5, 4, 4, 4, 3, 3, 3, 3, 2, 2, 2, 2, 2, 1, 1, 1, 1, 1, 1, 0, 0, 0, 0, 0, 0, 0], [0, 0, 1, 0, 0, 1, 0, 2, 1, 0, 0, 1, 0, 2, 1, 0, 3, 2, 1, 0, 0, 1, 0, 2, 1, 0, 3, 2, 1, 0, 4, 3, 2, 1, 0, 0, 1, 0, 2, 1, 0, 3, 2, 1, 0, 4, 3, 2, 1, 0, 5, 4, 3, 2, 1, 0, 0, 1, 0, 2, 1, 0, 3, 2, 1, 0, 4, 3, 2, 1, 0, 5, 4, 3, 2, 1, 0, 6, 5, 4, 3, 2, 1, 0], [0, 0, 0, 1, 0, 0, 1, 0, 1, 2, 0, 0, 1, 0, 1, 2, 0, 1, 2, 3, 0, 0, 1, 0, 1, 2, 0, 1, 2, 3, 0, 1, 2, 3, 4, 0, 0, 1, 0, 1, 2, 0, 1, 2, 3, 0, 1, 2, 3, 4, 0, 1, 2, 3, 4, 5, 0, 0, 1, 0, 1, 2, 0, 1, 2, 3, 0, 1, 2, 3, 4, 0, 1, 2, 3, 4, 5, 0, 1, 2, 3, 4, 5, 6], [0, 1, 2, 0, 2, 1, 1, 0, 2, 2, 0, 1, 1, 2, 0, 2, 1, 0], [3, 3, 3, 4, 4, 3]]
def tn (j k : Nat) : Nat := (tnL.getD j []).getD k 0
def eD (k : Nat) : Nat := tn 0 k
def eS (k : Nat) : Nat := tn 1 k
def eT (k : Nat) : Nat := tn 2 k
def eX (k : Nat) : Nat := tn 3 k
def eY (k : Nat) : Nat := tn 4 k
def eZ (k : Nat) : Nat := tn 5 k
def eU (k : Nat) : Nat := tn 6 k
theorem tn0 : ∀ k, k < 84 → tab0.getD k 0 = nI (tn 0 k) := by decide +kernel
theorem G_st0 {V : GV} {M : MT} {d pc : Nat} {ls : List (Option Value)} {st : List Value} {X : XT} {FI AI : FT} {AL : LT} {P : PT} {i : Int32} {j0 : Nat} (n : Nat) (hd : dec M pc = .ok (.iaload, 1)) (hn : pc + 1 = n) (hi : ix i 84 j0) (k : G V M d n ls (.int (nI (eD j0)) :: st) X FI AI AL P) : G V M d pc ls (.int i :: .ref (v_ad V 0) :: st) X FI AI AL P := G_sald (l := tab0) 0 n hd hn rfl hi (by rw [tn0 j0 hi.2.1]; exact k)
theorem tn1 : ∀ k, k < 8 → tab1.getD k 0 = nI (tn 1 k) := by decide +kernel
theorem G_st1 {V : GV} {M : MT} {d pc : Nat} {ls : List (Option Value)} {st : List Value} {X : XT} {FI AI : FT} {AL : LT} {P : PT} {i : Int32} {j0 : Nat} (n : Nat) (hd : dec M pc = .ok (.iaload, 1)) (hn : pc + 1 = n) (hi : ix i 8 j0) (k : G V M d n ls (.int (nI (eS j0)) :: st) X FI AI AL P) : G V M d pc ls (.int i :: .ref (v_ad V 1) :: st) X FI AI AL P := G_sald (l := tab1) 1 n hd hn rfl hi (by rw [tn1 j0 hi.2.1]; exact k)
theorem tn2 : ∀ k, k < 7 → tab2.getD k 0 = nI (tn 2 k) := by decide +kernel
theorem G_st2 {V : GV} {M : MT} {d pc : Nat} {ls : List (Option Value)} {st : List Value} {X : XT} {FI AI : FT} {AL : LT} {P : PT} {i : Int32} {j0 : Nat} (n : Nat) (hd : dec M pc = .ok (.iaload, 1)) (hn : pc + 1 = n) (hi : ix i 7 j0) (k : G V M d n ls (.int (nI (eT j0)) :: st) X FI AI AL P) : G V M d pc ls (.int i :: .ref (v_ad V 2) :: st) X FI AI AL P := G_sald (l := tab2) 2 n hd hn rfl hi (by rw [tn2 j0 hi.2.1]; exact k)
theorem tn3 : ∀ k, k < 84 → tab3.getD k 0 = nI (tn 3 k) := by decide +kernel
theorem G_st3 {V : GV} {M : MT} {d pc : Nat} {ls : List (Option Value)} {st : List Value} {X : XT} {FI AI : FT} {AL : LT} {P : PT} {i : Int32} {j0 : Nat} (n : Nat) (hd : dec M pc = .ok (.iaload, 1)) (hn : pc + 1 = n) (hi : ix i 84 j0) (k : G V M d n ls (.int (nI (eX j0)) :: st) X FI AI AL P) : G V M d pc ls (.int i :: .ref (v_ad V 3) :: st) X FI AI AL P := G_sald (l := tab3) 3 n hd hn rfl hi (by rw [tn3 j0 hi.2.1]; exact k)
theorem tn4 : ∀ k, k < 84 → tab4.getD k 0 = nI (tn 4 k) := by decide +kernel
theorem G_st4 {V : GV} {M : MT} {d pc : Nat} {ls : List (Option Value)} {st : List Value} {X : XT} {FI AI : FT} {AL : LT} {P : PT} {i : Int32} {j0 : Nat} (n : Nat) (hd : dec M pc = .ok (.iaload, 1)) (hn : pc + 1 = n) (hi : ix i 84 j0) (k : G V M d n ls (.int (nI (eY j0)) :: st) X FI AI AL P) : G V M d pc ls (.int i :: .ref (v_ad V 4) :: st) X FI AI AL P := G_sald (l := tab4) 4 n hd hn rfl hi (by rw [tn4 j0 hi.2.1]; exact k)
theorem tn5 : ∀ k, k < 84 → tab5.getD k 0 = nI (tn 5 k) := by decide +kernel
theorem G_st5 {V : GV} {M : MT} {d pc : Nat} {ls : List (Option Value)} {st : List Value} {X : XT} {FI AI : FT} {AL : LT} {P : PT} {i : Int32} {j0 : Nat} (n : Nat) (hd : dec M pc = .ok (.iaload, 1)) (hn : pc + 1 = n) (hi : ix i 84 j0) (k : G V M d n ls (.int (nI (eZ j0)) :: st) X FI AI AL P) : G V M d pc ls (.int i :: .ref (v_ad V 5) :: st) X FI AI AL P := G_sald (l := tab5) 5 n hd hn rfl hi (by rw [tn5 j0 hi.2.1]; exact k)
theorem tn6 : ∀ k, k < 18 → tab6.getD k 0 = nI (tn 6 k) := by decide +kernel
theorem G_st6 {V : GV} {M : MT} {d pc : Nat} {ls : List (Option Value)} {st : List Value} {X : XT} {FI AI : FT} {AL : LT} {P : PT} {i : Int32} {j0 : Nat} (n : Nat) (hd : dec M pc = .ok (.iaload, 1)) (hn : pc + 1 = n) (hi : ix i 18 j0) (k : G V M d n ls (.int (nI (eU j0)) :: st) X FI AI AL P) : G V M d pc ls (.int i :: .ref (v_ad V 6) :: st) X FI AI AL P := G_sald (l := tab6) 6 n hd hn rfl hi (by rw [tn6 j0 hi.2.1]; exact k)
theorem tn7 : ∀ k, k < 6 → tab7.getD k 0 = nI (tn 7 k) := by decide +kernel
theorem G_st7 {V : GV} {M : MT} {d pc : Nat} {ls : List (Option Value)} {st : List Value} {X : XT} {FI AI : FT} {AL : LT} {P : PT} {i : Int32} {j0 : Nat} (n : Nat) (hd : dec M pc = .ok (.iaload, 1)) (hn : pc + 1 = n) (hi : ix i 6 j0) (k : G V M d n ls (.int (nI (tn 7 j0)) :: st) X FI AI AL P) : G V M d pc ls (.int i :: .ref (v_ad V 7) :: st) X FI AI AL P := G_sald (l := tab7) 7 n hd hn rfl hi (by rw [tn7 j0 hi.2.1]; exact k)
theorem G_st8 {V : GV} {M : MT} {d pc : Nat} {ls : List (Option Value)} {st : List Value} {X : XT} {FI AI : FT} {AL : LT} {P : PT} {i : Int32} {j0 : Nat} (n : Nat) (hd : dec M pc = .ok (.iaload, 1)) (hn : pc + 1 = n) (hi : ix i 240 j0) (k : G V M d n ls (.int (tab8.getD j0 0) :: st) X FI AI AL P) : G V M d pc ls (.int i :: .ref (v_ad V 8) :: st) X FI AI AL P := G_sald (l := tab8) 8 n hd hn rfl hi k
/-- the place of a TERM -/
def pl (x y z : Nat) : Nat := eS (x + y + z) + eT (y + z) + z
theorem e_all : ∀ k, k < 84 → eX k + eY k + eZ k = eD k ∧ eD k ≤ 6 ∧ pl (eX k) (eY k) (eZ k) = k := by decide +kernel
theorem all_lt {n : Nat} {P : Nat → Prop} [DecidablePred P] (h : (List.range n).all (fun x => decide (P x)) = true) : ∀ x, x < n → P x := fun x hx => of_decide_eq_true (List.all_eq_true.mp h x (List.mem_range.mpr hx))
def plOk (x y z : Nat) : Bool := decide (x + y + z ≤ 6 → pl x y z < 84 ∧ eX (pl x y z) = x ∧ eY (pl x y z) = y ∧ eZ (pl x y z) = z ∧ eD (pl x y z) = x + y + z)
theorem pl_all0 : ((List.range 7).all fun x => (List.range 7).all fun y => (List.range 7).all fun z => plOk x y z) = true := by decide +kernel
theorem pl_all (x : Nat) (hx : x < 7) (y : Nat) (hy : y < 7) (z : Nat) (hz : z < 7) (h : x + y + z ≤ 6) : pl x y z < 84 ∧ eX (pl x y z) = x ∧ eY (pl x y z) = y ∧ eZ (pl x y z) = z ∧ eD (pl x y z) = x + y + z := by
  have h1 := List.all_eq_true.mp (List.all_eq_true.mp (List.all_eq_true.mp pl_all0 x (List.mem_range.mpr hx)) y (List.mem_range.mpr hy)) z (List.mem_range.mpr hz)
  exact of_decide_eq_true h1 h
theorem e_le {k : Nat} (h : k < 84) : eX k ≤ 6 ∧ eY k ≤ 6 ∧ eZ k ≤ 6 ∧ eD k ≤ 6 ∧ eX k + eY k + eZ k = eD k := by
  have := e_all k h
  omega
theorem pl_lt {x y z : Nat} (h : x + y + z ≤ 6) : pl x y z < 84 := (pl_all x (by omega) y (by omega) z (by omega) h).1

