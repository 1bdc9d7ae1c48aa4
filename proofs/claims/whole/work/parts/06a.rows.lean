/-! ===== ROWS: the list of all of DEGREE at most 'room', greater POWERS ahead, and how the class goes from one to the next ===== -/
def dn : Nat → List Nat
  | 0 => [0]
  | m + 1 => (m + 1) :: dn m
def rowsD : List Nat → Nat → List (List Nat)
  | [], _ => [[]]
  | l :: Ls, room => (dn (room / eD l)).flatMap (fun p => (rowsD Ls (room - p * eD l)).map (fun v => p :: v))
def fillV : List Nat → Nat → List Nat
  | [], _ => []
  | l :: Ls, room => (room / eD l) :: fillV Ls (room - room / eD l * eD l)
def fillR : List Nat → Nat → Nat
  | [], room => room
  | l :: Ls, room => fillR Ls (room - room / eD l * eD l)
def nxt : List Nat → Nat → List Nat → Option (List Nat)
  | [], _, _ => none
  | _ :: _, _, [] => none
  | l :: Ls, room, p :: v => match nxt Ls (room - p * eD l) v with
    | some v' => some (p :: v')
    | none => match p with
      | 0 => none
      | q + 1 => some (q :: fillV Ls (room - q * eD l))
def Chn {β : Type} (nx : β → Option β) : β → List β → Prop
  | _, [] => False
  | a, [b] => b = a ∧ nx a = none
  | a, b :: c :: t => b = a ∧ nx a = some c ∧ Chn nx c (c :: t)
theorem Chn.ix {β : Type} {nx : β → Option β} : ∀ {L : List β} {a : β}, Chn nx a L → L[0]? = some a ∧ ∀ c v, L[c]? = some v → L[c + 1]? = nx v
  | [], _, h => h.elim
  | [b], a, h => by
    obtain ⟨rfl, h2⟩ := h
    refine ⟨rfl, fun c v hc => ?_⟩
    match c with
    | 0 => simp at hc; subst hc; simp [h2]
    | c + 1 => simp at hc
  | b :: c :: t, a, h => by
    obtain ⟨rfl, h2, h3⟩ := h
    obtain ⟨i1, i2⟩ := Chn.ix h3
    refine ⟨rfl, fun k v hk => ?_⟩
    match k with
    | 0 => simp at hk; subst hk; simp [h2]
    | k + 1 =>
      rw [List.getElem?_cons_succ] at hk
      rw [List.getElem?_cons_succ]
      exact i2 k v hk
theorem Chn.map {α β : Type} {nx : α → Option α} {ny : β → Option β} (f : α → β) (h1 : ∀ v v', nx v = some v' → ny (f v) = some (f v')) {o : Option β} (h2 : ∀ v, nx v = none → ny (f v) = o) {R : List β} (hR : match o with | none => R = [] | some b => Chn ny b R) : ∀ {L : List α} {a : α}, Chn nx a L → Chn ny (f a) (L.map f ++ R)
  | [], _, h => h.elim
  | [b], a, h => by
    obtain ⟨rfl, h3⟩ := h
    have h4 := h2 _ h3
    cases o with
    | none =>
      have hR : R = [] := hR
      subst hR
      exact ⟨rfl, h4⟩
    | some y =>
      have hR : Chn ny y R := hR
      match R, hR with
      | [], hR => exact hR.elim
      | [r], hR => exact ⟨rfl, by rw [h4, hR.1], by rw [hR.1]; exact hR.1 ▸ hR⟩
      | r :: r2 :: R', hR => exact ⟨rfl, by rw [h4, hR.1], by rw [hR.1]; exact hR.1 ▸ hR⟩
  | b :: c :: t, a, h => by
    obtain ⟨rfl, h3, h4⟩ := h
    exact ⟨rfl, h1 _ _ h3, Chn.map f h1 h2 hR h4⟩
theorem rowsD_chn : ∀ (Ls : List Nat) (room : Nat), Chn (nxt Ls room) (fillV Ls room) (rowsD Ls room)
  | [], room => ⟨rfl, rfl⟩
  | l :: Ls, room => by
    have key : ∀ m, Chn (nxt (l :: Ls) room) (m :: fillV Ls (room - m * eD l)) ((dn m).flatMap (fun p => (rowsD Ls (room - p * eD l)).map (fun v => p :: v))) := by
      intro m
      induction m with
      | zero =>
        have := Chn.map (nx := nxt Ls (room - 0 * eD l)) (ny := nxt (l :: Ls) room) (fun v => 0 :: v) (fun v v' h => by simp only [nxt, h]) (o := none) (fun v h => by simp only [nxt, h]) (R := []) rfl (rowsD_chn Ls (room - 0 * eD l))
        simpa [dn] using this
      | succ m ih =>
        have := Chn.map (nx := nxt Ls (room - (m + 1) * eD l)) (ny := nxt (l :: Ls) room) (fun v => (m + 1) :: v) (fun v v' h => by simp only [nxt, h]) (o := some (m :: fillV Ls (room - m * eD l))) (fun v h => by simp only [nxt, h]) ih (rowsD_chn Ls (room - (m + 1) * eD l))
        simpa [dn] using this
    exact key _
/-- what a vector takes of DEGREE -/
def vdeg : List Nat → List Nat → Nat
  | l :: Ls, p :: v => p * eD l + vdeg Ls v
  | _, _ => 0
def vsum (e : Nat → Nat) : List Nat → List Nat → Nat
  | l :: Ls, p :: v => p * e l + vsum e Ls v
  | _, _ => 0
theorem mem_dn : ∀ (m p : Nat), p ∈ dn m ↔ p ≤ m
  | 0, p => by simp [dn]
  | m + 1, p => by rw [dn, List.mem_cons, mem_dn m]; omega
theorem rowsD_mem : ∀ (Ls : List Nat) (room : Nat) (v : List Nat), v ∈ rowsD Ls room → v.length = Ls.length ∧ vdeg Ls v ≤ room
  | [], room, v, h => by
    simp [rowsD] at h; subst h; simp [vdeg]
  | l :: Ls, room, v, h => by
    simp only [rowsD, List.mem_flatMap, List.mem_map] at h
    obtain ⟨p, hp, w, hw, rfl⟩ := h
    obtain ⟨h1, h2⟩ := rowsD_mem Ls _ w hw
    have hp2 := (mem_dn _ _).mp hp
    have h3 : p * eD l ≤ room := Nat.le_trans (Nat.mul_le_mul_right _ hp2) (Nat.div_mul_le_self _ _)
    exact ⟨by simp [h1], by simp only [vdeg]; omega⟩
/-- 'nxt' by the last GENERATOR with a POWER above 0 -/
theorem nxt_none : ∀ (Ls : List Nat) (room : Nat) (v : List Nat), (∀ p ∈ v, p = 0) → nxt Ls room v = none
  | [], _, _, _ => by simp [nxt]
  | _ :: _, _, [], _ => by simp [nxt]
  | l :: Ls, room, p :: v, h => by
    have hp : p = 0 := h p List.mem_cons_self
    subst hp
    simp only [nxt, nxt_none Ls _ v (fun p hp => h p (List.mem_cons_of_mem _ hp))]
theorem nxt_some : ∀ (Ls : List Nat) (room : Nat) (v : List Nat) (g q : Nat), v.length = Ls.length → v[g]? = some (q + 1) → (∀ i p, g < i → v[i]? = some p → p = 0) →
    nxt Ls room v = some (v.take g ++ q :: fillV (Ls.drop (g + 1)) (room - vdeg (Ls.take g) (v.take g) - q * eD (Ls.getD g 0)))
  | [], _, v, g, q, hl, hg, _ => by
    have : v = [] := List.length_eq_zero_iff.mp hl
    subst this
    simp at hg
  | l :: Ls, room, [], g, q, hl, _, _ => by simp at hl
  | l :: Ls, room, p :: v, 0, q, hl, hg, hz => by
    have hp : p = q + 1 := by simpa using hg
    subst hp
    have : nxt Ls (room - (q + 1) * eD l) v = none := nxt_none _ _ _ (fun p hp => by
      obtain ⟨i, hi⟩ := List.getElem?_of_mem hp
      exact hz (i + 1) p (by omega) (by simpa using hi))
    simp [nxt, this, vdeg]
  | l :: Ls, room, p :: v, g + 1, q, hl, hg, hz => by
    have ih := nxt_some Ls (room - p * eD l) v g q (by simpa using hl) (by simpa using hg) (fun i r hi hr => hz (i + 1) r (by omega) (by simpa using hr))
    simp only [nxt, ih, List.take_succ_cons, List.cons_append, List.drop_succ_cons, vdeg, List.getD_cons_succ, Nat.sub_sub]
/-- the number of a ROW -/
def numL : Nat → List Nat → Nat
  | _, [] => 0
  | g, p :: v => p * un g + numL (g + 1) v
def num (v : List Nat) : Nat := numL 0 v
theorem un_s {g : Nat} (h : g < 6) : un g = 8 * un (g + 1) := by
  unfold un
  rw [show 3 * (6 - g) = 3 * (6 - (g + 1)) + 3 by omega, Nat.pow_add]
  omega
theorem numL_lt : ∀ (v : List Nat) (g : Nat), g + v.length ≤ 7 → (∀ p ∈ v, p < 8) → numL g v < 8 * un g
  | [], g, _, _ => by simp [numL, un]; exact Nat.pos_of_ne_zero (by simp)
  | [p], g, hg, hp => by
    have := hp p (by simp)
    have : 0 < un g := Nat.pow_pos (by omega)
    simp only [numL, Nat.add_zero]
    exact Nat.mul_lt_mul_of_pos_right (by omega) (by omega)
  | p :: q :: v, g, hg, hp => by
    simp only [List.length_cons] at hg
    have h1 := numL_lt (q :: v) (g + 1) (by simp only [List.length_cons]; omega) (fun p h => hp p (List.mem_cons_of_mem _ h))
    have h2 := un_s (g := g) (by omega)
    have h3 := hp p (by simp)
    rw [numL]
    have : p * un g ≤ 7 * un g := Nat.mul_le_mul_right _ (by omega)
    omega
theorem pw_numL : ∀ (v : List Nat) (g i : Nat), g + v.length ≤ 7 → (∀ p ∈ v, p < 8) → g ≤ i → i < 7 → pw (numL g v) i = v.getD (i - g) 0
  | [], g, i, _, _, _, _ => by simp [numL, pw]
  | p :: v, g, i, hg, hp, hgi, hi => by
    simp only [List.length_cons] at hg
    have hp0 := hp p (by simp)
    have hpv : ∀ q ∈ v, q < 8 := fun q h => hp q (List.mem_cons_of_mem _ h)
    by_cases e : i = g
    · subst e
      simp only [numL, Nat.sub_self, List.getD_cons_zero, pw]
      have hu : 0 < un i := Nat.pow_pos (by omega)
      by_cases hv : v = []
      · subst hv
        simp only [numL, Nat.add_zero]
        rw [Nat.mul_div_cancel _ hu, Nat.mod_eq_of_lt hp0]
      · have hl : 0 < v.length := List.length_pos_iff.mpr hv
        have h1 := numL_lt v (i + 1) (by omega) hpv
        have h2 := un_s (g := i) (by omega)
        rw [Nat.add_comm, Nat.add_mul_div_right _ _ hu, Nat.div_eq_of_lt (by omega), Nat.zero_add, Nat.mod_eq_of_lt hp0]
    · have ih := pw_numL v (g + 1) i (by omega) hpv (by omega) hi
      have hd : un g = un i * 8 ^ (i - g) := by
        unfold un
        rw [show (8 : Nat) = 2 ^ 3 by rfl, ← Nat.pow_mul, ← Nat.pow_add]
        congr 1
        omega
      have hu : 0 < un i := Nat.pow_pos (by omega)
      rw [show i - g = (i - (g + 1)) + 1 by omega, List.getD_cons_succ, ← ih]
      unfold pw
      rw [numL, hd, show p * (un i * 8 ^ (i - g)) = un i * (p * 8 ^ (i - g)) by rw [← Nat.mul_assoc, Nat.mul_comm p, Nat.mul_assoc], Nat.mul_add_div hu, show i - g = (i - g - 1) + 1 by omega, Nat.pow_succ, ← Nat.mul_assoc, Nat.add_comm, Nat.add_mul_mod_self_right]
