/-! ===== a row of rows is made: the outer row and its inner rows in one instruction ===== -/
def mwV (h i j : Nat) : Value := if j < i then .ref (h + 1 + j) else .null
def mwG (T : State) (cA cI : ClassId) (N M : Nat) (dv : Value) : Nat → State
  | 0 => T.pushCell (arrV cA N (fun _ => .null))
  | i + 1 => ((mwG T cA cI N M dv i).pushCell (arrV cI M (fun _ => dv))).setCell T.heap.size (arrV cA N (mwV T.heap.size (i + 1)))
theorem mwV_0 (h : Nat) : mwV h 0 = fun _ => .null := by
  funext j; unfold mwV; rw [if_neg (by omega)]
theorem mwV_s (h i : Nat) : updV (mwV h i) i (.ref (h + 1 + i)) = mwV h (i + 1) := by
  funext j
  unfold updV mwV
  by_cases e : j = i
  · subst e; simp
  · by_cases e2 : j < i
    · rw [if_neg e, if_pos e2, if_pos (by omega)]
    · rw [if_neg e, if_neg e2, if_neg (by omega)]
theorem mwG_facts (T : State) (cA cI : ClassId) (N M : Nat) (dv : Value) : ∀ i, (mwG T cA cI N M dv i).heap.size = T.heap.size + 1 + i ∧ (mwG T cA cI N M dv i).heap[T.heap.size]? = some (arrV cA N (mwV T.heap.size i)) ∧ (mwG T cA cI N M dv i).vm = T.vm ∧ (mwG T cA cI N M dv i).slotsUsed = T.slotsUsed + N + i * M
  | 0 => ⟨by simp [mwG], by rw [mwV_0]; simp [mwG], rfl, by simp [mwG, arrV_size]⟩
  | i + 1 => by
    obtain ⟨a, b, d, u⟩ := mwG_facts T cA cI N M dv i
    have hlt : T.heap.size < (mwG T cA cI N M dv i).heap.size := by omega
    have hb' : ((mwG T cA cI N M dv i).pushCell (arrV cI M (fun _ => dv))).heap[T.heap.size]? = some (arrV cA N (mwV T.heap.size i)) := by rw [State.heap_pushCell_of_lt (h := hlt)]; exact b
    refine ⟨?_, State.heap_setCell_self hb', by simp [mwG, d], ?_⟩
    · simp [mwG, State.setCell, a]; omega
    · simp [mwG, u, arrV_size, Nat.succ_mul]; omega
theorem mwG_top (T : State) (f : JFrame) (cA cI : ClassId) (N M : Nat) (dv : Value) : ∀ i, mwG (T.setTop f) cA cI N M dv i = (mwG T cA cI N M dv i).setTop f
  | 0 => rfl
  | i + 1 => by simp only [mwG, mwG_top T f cA cI N M dv i, State.heap_setTop, State.pushCell_setTop, State.setCell_setTop]
theorem mwG_old (T : State) (cA cI : ClassId) (N M : Nat) (dv : Value) {a : Addr} (ha : a < T.heap.size) : ∀ i, (mwG T cA cI N M dv i).heap[a]? = T.heap[a]?
  | 0 => State.heap_pushCell_of_lt _ _ ha
  | i + 1 => by
    have f1 := (mwG_facts T cA cI N M dv i).1
    have hlt : a < (mwG T cA cI N M dv i).heap.size := Nat.lt_of_lt_of_le ha (by rw [f1]; omega)
    show (((mwG T cA cI N M dv i).pushCell (arrV cI M (fun _ => dv))).setCell T.heap.size _).heap[a]? = _
    rw [State.heap_setCell_other (Nat.ne_of_gt ha), State.heap_pushCell_of_lt (h := hlt)]
    exact mwG_old T cA cI N M dv ha i
theorem mwG_in (T : State) (cA cI : ClassId) (N M : Nat) (dv : Value) : ∀ i j, j < i → (mwG T cA cI N M dv i).heap[T.heap.size + 1 + j]? = some (arrV cI M (fun _ => dv))
  | 0, _, h => absurd h (Nat.not_lt_zero _)
  | i + 1, j, h => by
    have f1 := (mwG_facts T cA cI N M dv i).1
    show (((mwG T cA cI N M dv i).pushCell (arrV cI M (fun _ => dv))).setCell T.heap.size _).heap[T.heap.size + 1 + j]? = _
    rw [State.heap_setCell_other (show T.heap.size ≠ T.heap.size + 1 + j by omega)]
    by_cases hj : j < i
    · rw [State.heap_pushCell_of_lt (h := show T.heap.size + 1 + j < (mwG T cA cI N M dv i).heap.size by rw [f1]; omega)]
      exact mwG_in T cA cI N M dv i j hj
    · have e : j = i := by omega
      subst e
      rw [← f1]
      exact State.heap_pushCell_size _ _
theorem mwG_st {p : Program} {l : Launch} {e : Env} {R : Room} {s : State} {m : MethodId} {args : Array Value} {below : List Frame} {meth : Method} {c : Code} {T : State} {locs : List Loc} {cells slots : Nat} (X : Stand p l e R s m args below meth c T locs cells slots) (cA cI : ClassId) (N M : Nat) (dv : Value) :
    ∀ i, Stand p l e R s m args below meth c (mwG T cA cI N M dv i) (locs ++ (List.range i).map fun j => ⟨T.heap.size, j⟩) (cells + 1 + i) (slots + N + i * M)
  | 0 => by
    have h := X.pushed (arrV cA N (fun _ => .null))
    rw [arrV_size] at h
    simpa [mwG] using h
  | i + 1 => by
    have Xi := mwG_st X cA cI N M dv i
    obtain ⟨f1, f2, f3, f4⟩ := mwG_facts T cA cI N M dv i
    have hlt0 : T.heap.size < (mwG T cA cI N M dv i).heap.size := by rw [f1]; omega
    have hcell : ((mwG T cA cI N M dv i).pushCell (arrV cI M (fun _ => dv))).heap[T.heap.size]? = some (arrV cA N (mwV T.heap.size i)) := by rw [State.heap_pushCell_of_lt (h := hlt0)]; exact f2
    have h := (Xi.pushed (arrV cI M (fun _ => dv))).stored hcell i (.ref (T.heap.size + 1 + i))
    rw [arrV_size, arrV_store, mwV_s] at h
    have e2 : (locs ++ (List.range (i + 1)).map fun j => (⟨T.heap.size, j⟩ : Loc)) = (locs ++ (List.range i).map fun j => (⟨T.heap.size, j⟩ : Loc)) ++ [⟨T.heap.size, i⟩] := by simp [List.range_succ, List.append_assoc]
    have e3 : slots + N + (i + 1) * M = slots + N + i * M + M := by rw [Nat.succ_mul]; omega
    rw [e2, e3]
    exact h
theorem mw_new {E : CtlPost} {e : Env} {d : Bool} {acts : List Action} {s : State} {c comp : ClassId} {k : Class} {type : FieldType} {len : Nat} {init : Value} (hk : s.vm.classes[c]? = some k) (hkind : k.kind = .array comp type)
    (hlimit : ¬ len > e.platform.arrayLengthLimit) (hheap : ¬ len * componentBytes type > e.platform.maxHeapBytes) (hfit : fits type init = true) (hdef : init.isDefault = true) {Q : Addr → Pre}
    (h1 : s.heap.size < e.platform.maxCells) (h2 : s.slotsUsed + len ≤ e.platform.maxSlots) (hq : Q s.heap.size d acts (s.pushCell (arrV c len (fun _ => init)))) : wp (Jvm.newArray c len init) Q E e d acts s := by
  rw [← arrV_new] at hq
  have hfits : ∀ i v, (Array.replicate len init)[i]? = some v → s.fitsSlot c .none i v = true := by
    intro i v hv
    rw [Array.getElem?_replicate] at hv
    split at hv
    · cases hv; simp [State.fitsSlot, State.slotType?, hk, hkind, hfit]
    · cases hv
  have hda : allocActs (Array.replicate len init) s.heap.size acts = acts := by
    have hall : ((Array.replicate len init).all (·.isDefault)) = true := by
      rw [Array.all_replicate]; split <;> simp [hdef]
    unfold allocActs; rw [if_pos hall]
  simp only [Jvm.newArray, Jvm.arrayFits, wp_bind', W.ask, W.ite, hlimit, if_false, wp_pure', W.theClass, hk, hkind, hheap, W.alloc, W.stop, Option.some.injEq, exists_eq_left', Array.size_replicate, hda]
  rw [if_neg (by omega)]
  exact ⟨h1, h2, hfits, hq⟩
