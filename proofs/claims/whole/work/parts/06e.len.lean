/-! ===== how many ROWS there are at most ===== -/
def dsm (g : Nat → Nat) : Nat → Nat
  | 0 => g 0
  | m + 1 => g (m + 1) + dsm g m
theorem dsm_le {g h : Nat → Nat} : ∀ {m : Nat}, (∀ p, p ≤ m → g p ≤ h p) → dsm g m ≤ dsm h m
  | 0, H => H 0 (Nat.le_refl _)
  | m + 1, H => Nat.add_le_add (H _ (Nat.le_refl _)) (dsm_le (fun p hp => H p (by omega)))
theorem rowsD_cons (l : Nat) (Ls : List Nat) (room : Nat) : rowsD (l :: Ls) room = (dn (room / eD l)).flatMap (fun p => (rowsD Ls (room - p * eD l)).map (fun v => p :: v)) := by
  simp only [rowsD]
theorem dsm_flat (f : Nat → List (List Nat)) : ∀ m, ((dn m).flatMap (fun p => (f p).map (fun v => p :: v))).length = dsm (fun p => (f p).length) m
  | 0 => by simp only [dn, dsm, List.flatMap_cons, List.flatMap_nil, List.append_nil, List.length_map]
  | m + 1 => by
    have ih := dsm_flat f m
    simp only [dn, dsm, List.flatMap_cons, List.length_append, List.length_map, ih]
theorem rowsD_len (l : Nat) (Ls : List Nat) (room : Nat) : (rowsD (l :: Ls) room).length = dsm (fun p => (rowsD Ls (room - p * eD l)).length) (room / eD l) :=
  (congrArg List.length (rowsD_cons l Ls room)).trans (dsm_flat (fun p => rowsD Ls (room - p * eD l)) _)
