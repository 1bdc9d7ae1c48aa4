/-! ===== the reference's rows as images of whole numbers: whatever is read, what is spanned stays ===== -/
def GR (n : Nat) (R : LM) (Z : LZ) : Prop := ∀ q, q < n → RC (R q) (Z q)
theorem sg_sub {f g : Nat → Int} (n : Nat) : sgZ n (fun c => f c - g c) = sgZ n f - sgZ n g := by
  have := sg_add (f := fun c => f c - g c) (g := g) n
  have e : sgZ n (fun c => f c - g c + g c) = sgZ n f := sg_c n (fun c _ => by omega)
  omega
theorem spMz.ad1 {n i : Nat} {Z : LZ} {s x : Nat → Int} (hi : i < n) (h0 : s i = 0) (hx : spMz Z n x) : spMz (fun q j => Z q j - s q * Z i j) n x := by
  obtain ⟨z, hz⟩ := hx
  refine ⟨upn z i (z i + sgZ n (fun q => z q * s q)), fun j hj => ?_⟩
  rw [hz j hj]
  have e1 := sg_set (f := fun q => upn z i (z i + sgZ n (fun q => z q * s q)) q * (Z q j - s q * Z i j)) (g := fun q => z q * (Z q j - s q * Z i j)) (k := i) n hi (fun q _ hq => by show upn z i _ q * _ = _; rw [upn_ne _ _ hq])
  have e1 : sgZ n (fun q => upn z i (z i + sgZ n (fun q => z q * s q)) q * (Z q j - s q * Z i j)) = sgZ n (fun q => z q * (Z q j - s q * Z i j)) - z i * (Z i j - s i * Z i j) + upn z i (z i + sgZ n (fun q => z q * s q)) i * (Z i j - s i * Z i j) := e1
  have e2 : sgZ n (fun q => z q * (Z q j - s q * Z i j)) = sgZ n (fun q => z q * Z q j) - sgZ n (fun q => Z i j * (z q * s q)) := by
    rw [← sg_sub]
    exact sg_c n (fun q _ => by grind)
  rw [e1, e2, sg_mul, upn_at, h0]
  grind
theorem spMz.ad {n i : Nat} {Z : LZ} {s x : Nat → Int} (hi : i < n) (h0 : s i = 0) : spMz Z n x ↔ spMz (fun q j => Z q j - s q * Z i j) n x := by
  refine ⟨fun h => h.ad1 hi h0, fun h => ?_⟩
  have := h.ad1 (s := fun q => - s q) hi (by show - s i = 0; omega)
  obtain ⟨z, hz⟩ := this
  refine ⟨z, fun j hj => ?_⟩
  rw [hz j hj]
  refine sg_c n (fun q _ => ?_)
  show z q * (Z q j - s q * Z i j - - s q * (Z i j - s i * Z i j)) = z q * Z q j
  rw [h0]
  grind
theorem spMz.cg {n : Nat} {Z Y : LZ} {x : Nat → Int} (h : ∀ q j, q < n → j < 10 → Z q j = Y q j) : spMz Z n x ↔ spMz Y n x := by
  constructor
  · rintro ⟨z, hz⟩
    exact ⟨z, fun j hj => by rw [hz j hj]; exact sg_c n (fun q hq => by show z q * Z q j = _; rw [h q j hq hj])⟩
  · rintro ⟨z, hz⟩
    exact ⟨z, fun j hj => by rw [hz j hj]; exact sg_c n (fun q hq => by show z q * Y q j = _; rw [h q j hq hj])⟩
theorem spMz.sw1 {n i m : Nat} {Z : LZ} {x : Nat → Int} (hi : i < n) (hm : m < n) (hx : spMz Z n x) : spMz (fun q => if q = i then Z m else if q = m then Z i else Z q) n x := by
  obtain ⟨z, hz⟩ := hx
  by_cases e : i = m
  · subst e
    refine ⟨z, fun j hj => ?_⟩
    rw [hz j hj]
    refine sg_c n (fun q _ => ?_)
    show z q * Z q j = z q * (if q = i then Z i else if q = i then Z i else Z q) j
    by_cases h : q = i
    · rw [if_pos h, h]
    · rw [if_neg h, if_neg h]
  · refine ⟨fun q => if q = i then z m else if q = m then z i else z q, fun j hj => ?_⟩
    rw [hz j hj]
    have e1 := sg_set (f := fun q => (if q = i then z m else if q = m then z i else z q) * (if q = i then Z m else if q = m then Z i else Z q) j) (g := fun q => (if q = m then z i * Z i j else z q * Z q j)) (k := i) n hi (fun q _ hq => by
      show (if q = i then z m else if q = m then z i else z q) * (if q = i then Z m else if q = m then Z i else Z q) j = _
      rw [if_neg hq, if_neg hq]
      by_cases h : q = m
      · rw [if_pos h, if_pos h, if_pos h]
      · rw [if_neg h, if_neg h, if_neg h])
    have e2 := sg_set (f := fun q => (if q = m then z i * Z i j else z q * Z q j)) (g := fun q => z q * Z q j) (k := m) n hm (fun q _ hq => by show (if q = m then _ else _) = _; rw [if_neg hq])
    have e1 : sgZ n (fun q => (if q = i then z m else if q = m then z i else z q) * (if q = i then Z m else if q = m then Z i else Z q) j) = sgZ n (fun q => (if q = m then z i * Z i j else z q * Z q j)) - (if i = m then z i * Z i j else z i * Z i j) + (if i = i then z m else if i = m then z i else z i) * (if i = i then Z m else if i = m then Z i else Z i) j := e1
    have e2 : sgZ n (fun q => (if q = m then z i * Z i j else z q * Z q j)) = sgZ n (fun q => z q * Z q j) - z m * Z m j + (if m = m then z i * Z i j else z m * Z m j) := e2
    rw [e1, e2, if_neg e, if_pos rfl, if_pos rfl, if_pos rfl]
    omega
theorem spMz.sw {n i m : Nat} {Z : LZ} {x : Nat → Int} (hi : i < n) (hm : m < n) : spMz Z n x ↔ spMz (fun q => if q = i then Z m else if q = m then Z i else Z q) n x := by
  refine ⟨fun h => h.sw1 hi hm, fun h => ?_⟩
  have := h.sw1 hi hm
  refine (spMz.cg (fun q j _ _ => ?_)).mp this
  by_cases e1 : q = i
  · subst e1
    rw [if_pos rfl]
    by_cases e2 : m = q
    · rw [if_pos e2, e2]
    · rw [if_neg e2, if_pos rfl]
  · rw [if_neg e1]
    by_cases e2 : q = m
    · rw [if_pos e2, if_pos rfl, e2]
    · rw [if_neg e2, if_neg e1, if_neg e2]
/-- rows R are images of rows that span what the rows M span -/
def LF (M : LZ) (n : Nat) (R : LM) (Z : LZ) : Prop := GR n R Z ∧ ∀ x, spMz M n x ↔ spMz Z n x
theorem LF.sw {M : LZ} {n i m : Nat} {R : LM} {Z : LZ} (h : LF M n R Z) (hi : i < n) (hm : m < n) : LF M n (swR R i m) (fun q => if q = i then Z m else if q = m then Z i else Z q) := by
  refine ⟨fun q hq => ?_, fun x => (h.2 x).trans (spMz.sw hi hm)⟩
  unfold swR
  show RC (if q = i then R m else if q = m then R i else R q) (if q = i then Z m else if q = m then Z i else Z q)
  by_cases e1 : q = i
  · rw [if_pos e1, if_pos e1]; exact h.1 m hm
  · rw [if_neg e1, if_neg e1]
    by_cases e2 : q = m
    · rw [if_pos e2, if_pos e2]; exact h.1 i hi
    · rw [if_neg e2, if_neg e2]; exact h.1 q hq
theorem LF.rd {M : LZ} {n i j : Nat} {R : LM} {Z : LZ} (h : LF M n R Z) (hi : i < n) : LF M n (rdQ R i j n) (fun q c => Z q c - (if i < q ∧ q < n then (R q j / R i j).toInt else 0) * Z i c) := by
  refine ⟨fun q hq => ?_, fun x => (h.2 x).trans (spMz.ad (s := fun q => if i < q ∧ q < n then (R q j / R i j).toInt else 0) hi (if_neg (by omega)))⟩
  unfold rdQ
  by_cases e : i < q ∧ q < n
  · simp only [if_pos e]
    exact (h.1 q hq).sub _ (h.1 i hi)
  · simp only [if_neg e]
    have e2 : (fun c => Z q c - 0 * Z i c) = Z q := by funext c; omega
    rw [e2]
    exact h.1 q hq
theorem LF.ab {M : LZ} {n fr i j : Nat} {R : LM} {Z : LZ} (h : LF M n R Z) (hi : i < n) : LF M n (abQ R fr i j i) (fun q c => Z q c - (if fr ≤ q ∧ q < i then (flr (R q j) (R i j)).toInt else 0) * Z i c) := by
  refine ⟨fun q hq => ?_, fun x => (h.2 x).trans (spMz.ad (s := fun q => if fr ≤ q ∧ q < i then (flr (R q j) (R i j)).toInt else 0) hi (if_neg (by omega)))⟩
  unfold abQ
  by_cases e : fr ≤ q ∧ q < i
  · simp only [if_pos e]
    exact (h.1 q hq).sub _ (h.1 i hi)
  · simp only [if_neg e]
    have e2 : (fun c => Z q c - 0 * Z i c) = Z q := by funext c; omega
    rw [e2]
    exact h.1 q hq
theorem LF.ng {M : LZ} {n i : Nat} {R : LM} {Z : LZ} (h : LF M n R Z) (hi : i < n) : LF M n (leR R i i 2) (upn Z i (fun c => - Z i c)) := by
  refine ⟨fun q hq => ?_, fun x => (h.2 x).trans ?_⟩
  · unfold leR
    by_cases e : q = i
    · rw [e, upn_at, upn_at]
      have k := (h.1 i hi).sub 2 (h.1 i hi)
      have e2 : (fun j => Z i j - (2 : Int64).toInt * Z i j) = fun c => - Z i c := by
        funext c
        have : (2 : Int64).toInt = 2 := rfl
        rw [this]; omega
      rw [e2] at k
      exact k
    · rw [upn_ne _ _ e, upn_ne _ _ e]; exact h.1 q hq
  · have one : ∀ Y : LZ, spMz Y n x → spMz (upn Y i (fun c => - Y i c)) n x := by
      rintro Y ⟨z, hz⟩
      refine ⟨upn z i (- z i), fun j hj => ?_⟩
      rw [hz j hj]
      refine sg_c n (fun q _ => ?_)
      by_cases e : q = i
      · rw [e, upn_at, upn_at]; grind
      · rw [upn_ne _ _ e, upn_ne _ _ e]
    refine ⟨one Z, fun k => ?_⟩
    refine (spMz.cg (fun q j _ _ => ?_)).mp (one _ k)
    by_cases e : q = i
    · rw [e, upn_at, upn_at]; omega
    · rw [upn_ne _ _ e, upn_ne _ _ e]
theorem cl_lf {M : LZ} {i j n : Nat} {t : Bool} {R2 : LM} (hi : i < n) : ∀ f R Z, clF i j n f R = some (t, R2) → LF M n R Z → ∃ Z2, LF M n R2 Z2
  | 0, R, Z, e, _ => by simp [clF] at e
  | f + 1, R, Z, e, h => by
    rw [clF] at e
    by_cases e1 : lsF R i j (n - i) = 0
    · rw [if_pos e1] at e
      have : R = R2 := by simpa using (Prod.mk.inj (Option.some.inj e)).2
      exact ⟨Z, this ▸ h⟩
    · rw [if_neg e1] at e
      obtain ⟨m, hm⟩ : ∃ m, lsF R i j (n - i) = m + 1 := ⟨lsF R i j (n - i) - 1, by omega⟩
      obtain ⟨b1, b2, -⟩ := lsF_b _ m hm
      rw [hm, Nat.add_sub_cancel] at e
      have h2 := (h.sw hi (show m < n by omega)).rd (j := j) hi
      by_cases e2 : 1 < smF R i j (n - i)
      · rw [if_pos e2] at e
        exact cl_lf hi f _ _ e h2
      · rw [if_neg e2] at e
        have e3 := (Prod.mk.inj (Option.some.inj e)).2
        rw [← e3]
        split
        · exact ⟨_, h2.ng hi⟩
        · exact ⟨_, h2⟩
theorem rc_lf {M : LZ} {n fr low fu : Nat} {u : RS} : ∀ q j (s : RS), rcF n fr low fu q j s = some u → (∃ Z, LF M n s.1 Z) → ∃ Z, LF M n u.1 Z
  | 0, j, s, e, h => by
    rw [rcF] at e
    cases e
    exact h
  | q + 1, j, s, e, h => by
    rw [rcF] at e
    cases hs : rcS n fr low fu j s with
    | none => rw [hs] at e; cases e
    | some v =>
      rw [hs] at e
      refine rc_lf q (j + 1) v e ?_
      unfold rcS at hs
      by_cases e1 : s.2.1 < n
      · rw [if_pos e1] at hs
        cases hc : clF s.2.1 j n fu s.1 with
        | none => rw [hc] at hs; cases hs
        | some p =>
          rw [hc] at hs
          obtain ⟨Z, hZ⟩ := h
          obtain ⟨Z2, h2⟩ := cl_lf e1 fu s.1 Z (show clF s.2.1 j n fu s.1 = some (p.1, p.2) from hc) hZ
          have hs : (if p.1 = true then (abQ p.2 fr s.2.1 j s.2.1, s.2.1 + 1, upn s.2.2 (s.2.1 - fr) (j - low)) else (p.2, s.2.1, s.2.2)) = v := Option.some.inj hs
          rw [← hs]
          split
          · exact ⟨_, h2.ab e1⟩
          · exact ⟨Z2, h2⟩
      · rw [if_neg e1] at hs
        cases hs
        exact h
