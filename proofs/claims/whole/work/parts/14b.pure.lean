/-! ===== the law: what leaves the state as it is ===== -/
theorem id_orbit {S : ST} {s : Int32} : (fOrbit S s).2 = S := by
  unfold fOrbit
  repeat' (first | rfl | split)
theorem id_like {S : ST} {s : Int32} : (fLike S s).2 = S := by
  unfold fLike
  repeat' (first | rfl | split)
theorem id_coefficient {S : ST} {s x y z : Int32} : (fCoef S s x y z).2 = S := by
  unfold fCoef
  repeat' (first | rfl | split)
theorem id_lead {S : ST} {s w : Int32} : (fLead S s w).2 = S := by
  unfold fLead
  repeat' (first | rfl | split)
theorem id_norm {S : ST} {s : Int32} : (fNorm S s).2 = S := by
  unfold fNorm
  repeat' (first | rfl | split)
theorem id_at {S : ST} {s x y z m : Int32} : (fAt S s x y z m).2 = S := by
  unfold fAt
  repeat' (first | rfl | split)
theorem id_ofGenerator {S : ST} {x y : Int32} : (fOfGen S x y).2 = S := by
  unfold fOfGen
  repeat' (first | rfl | split)
theorem id_made {S : ST} {g i w : Int32} : (fMade S g i w).2 = S := by
  unfold fMade
  repeat' (first | rfl | split)
theorem id_grown {S : ST} {g x y z w : Int32} : (fGrown S g x y z w).2 = S := by
  unfold fGrown
  repeat' (first | rfl | split)
theorem id_closed {S : ST}  : (fClosed S ).2 = S := by
  unfold fClosed
  repeat' (first | rfl | split)
theorem id_rows {S : ST} {x y z : Int32} : (fRows S x y z).2 = S := by
  unfold fRows
  repeat' (first | rfl | split)
theorem id_row {S : ST} {x y z i g : Int32} : (fRow S x y z i g).2 = S := by
  unfold fRow
  repeat' (first | rfl | split)
theorem id_monoid {S : ST} {x y : Int32} : (fMonoid S x y).2 = S := by
  unfold fMonoid
  repeat' (first | rfl | split)
theorem id_root {S : ST} {x y z : Int32} : (fRoot S x y z).2 = S := by
  unfold fRoot
  repeat' (first | rfl | split)
theorem id_rank {S : ST} {x : Int32} : (fRank S x).2 = S := by
  unfold fRank
  repeat' (first | rfl | split)
theorem id_lattice {S : ST} {x y : Int32} : (fLattice S x y).2 = S := by
  unfold fLattice
  repeat' (first | rfl | split)
theorem id_span {S : ST} {x y : Int32} : (fSpan S x y).2 = S := by
  unfold fSpan
  repeat' (first | rfl | split)
theorem id_inSpan {S : ST} {x y z : Int32} : (fInSpan S x y z).2 = S := by
  unfold fInSpan
  repeat' (first | rfl | split)
theorem id_index {S : ST}  : (fIndex S ).2 = S := by
  unfold fIndex
  repeat' (first | rfl | split)
theorem id_relations {S : ST} {x : Int32} : (fRelations S x).2 = S := by
  unfold fRelations
  repeat' (first | rfl | split)
theorem id_relation {S : ST} {x y w g : Int32} : (fRelation S x y w g).2 = S := by
  unfold fRelation
  repeat' (first | rfl | split)
theorem id_part {S : ST} {x y z : Int32} : (fPart S x y z).2 = S := by
  unfold fPart
  repeat' (first | rfl | split)
theorem id_open {S : ST} {x : Int32} : (fOpen S x).2 = S := by
  unfold fOpen
  repeat' (first | rfl | split)
theorem id_wouldGrow {S : ST} {x w : Int32} : (fWould S x w).2 = S := by
  unfold fWould
  repeat' (first | rfl | split)
theorem id_certified {S : ST} {x : Int32} : (fCertified S x).2 = S := by
  unfold fCertified
  repeat' (first | rfl | split)
theorem id_member {S : ST} {s : Int32} : (fMember S s).2 = S := by
  unfold fMember
  repeat' (first | rfl | split)
theorem id_step {S : ST} {i w : Int32} : (fStep S i w).2 = S := by
  unfold fStep
  repeat' (first | rfl | split)
theorem id_item {S : ST} {s i : Int32} : (fItem S s i).2 = S := by
  unfold fItem
  repeat' (first | rfl | split)
theorem id_count {S : ST} {x : Int32} : (fCount S x).2 = S := by
  unfold fCount
  repeat' (first | rfl | split)
theorem NS.th {S : ST} {w : (Nat → Int32) × (Nat → Nat) × (Nat → Nat → Int32)} (h : NS S) : NS (stH S w) := ⟨h.1, h.2.1, h.2.2.1, h.2.2.2⟩
theorem ns_sheet {S : ST} {s w n : Int32} (h : NS S) : NS (fSheet S s w n).2 := by
  unfold fSheet
  repeat' (first | split | exact h.th)
  all_goals exact h
theorem ns_cell {S : ST} {s i v : Int32} (h : NS S) : NS (fCell S s i v).2 := by
  unfold fCell
  repeat' (first | split | exact h.th)
  all_goals exact h
theorem ns_move {S : ST} {a i c j m : Int32} (h : NS S) : NS (fMove S a i c j m).2 := by
  unfold fMove
  repeat' (first | split | exact h.th)
  all_goals exact h
theorem ns_spread {S : ST} {s x a : Int32} (h : NS S) : NS (fSpread S s x a).2 := by
  unfold fSpread
  repeat' (first | split | exact h.th)
  all_goals exact h
