/-! ===== the LATTICE: what every step keeps ===== -/
theorem rdQ_s {R : LM} {i j k : Nat} (h : i < k) : rdQ R i j (k + 1) = leR (rdQ R i j k) k i (R k j / R i j) := by
  funext q
  unfold leR
  by_cases e : q = k
  · subst e
    rw [upn_at]
    have y1 : rdQ R i j q q = R q := if_neg (by omega)
    have y2 : rdQ R i j q i = R i := if_neg (by omega)
    rw [y1, y2]
    exact if_pos ⟨h, by omega⟩
  · rw [upn_ne _ _ e]
    unfold rdQ
    by_cases e2 : i < q ∧ q < k
    · rw [if_pos e2, if_pos ⟨e2.1, by omega⟩]
    · rw [if_neg e2, if_neg (by omega)]
theorem rdQ_0 {R : LM} {i j k : Nat} (h : k ≤ i + 1) : rdQ R i j k = R := by
  funext q
  exact if_neg (by omega)
theorem abQ_s {R : LM} {fr i j k : Nat} (h : fr ≤ k) (h2 : k < i) : abQ R fr i j (k + 1) = leR (abQ R fr i j k) k i (flr (R k j) (R i j)) := by
  funext q
  unfold leR
  by_cases e : q = k
  · subst e
    rw [upn_at]
    have y1 : abQ R fr i j q q = R q := if_neg (by omega)
    have y2 : abQ R fr i j q i = R i := if_neg (by omega)
    rw [y1, y2]
    exact if_pos ⟨h, by omega⟩
  · rw [upn_ne _ _ e]
    unfold abQ
    by_cases e2 : fr ≤ q ∧ q < k
    · rw [if_pos e2, if_pos ⟨e2.1, by omega⟩]
    · rw [if_neg e2, if_neg (by omega)]
theorem abQ_0 {R : LM} {fr i j k : Nat} (h : k ≤ fr) : abQ R fr i j k = R := by
  funext q
  exact if_neg (by omega)
/-- kept by exchanges, by taking a row away from another, by turning a row's sign -/
def LCl (n : Nat) (P : LM → Prop) : Prop := (∀ R i m, i < n → m < n → P R → P (swR R i m)) ∧ (∀ R i k t, i < n → k < n → i ≠ k → P R → P (leR R i k t)) ∧ ∀ R i, i < n → P R → P (leR R i i 2)
theorem LCl.rd {n : Nat} {P : LM → Prop} (h : LCl n P) {R : LM} {i j : Nat} (hi : i < n) (hR : P R) : ∀ k, k ≤ n → P (rdQ R i j k)
  | 0, _ => by rw [rdQ_0 (by omega)]; exact hR
  | k + 1, hk => by
    by_cases e : i < k
    · rw [rdQ_s e]
      exact h.2.1 _ k i _ (by omega) hi (by omega) (h.rd hi hR k (by omega))
    · rw [rdQ_0 (by omega)]; exact hR
theorem LCl.ab {n : Nat} {P : LM → Prop} (h : LCl n P) {R : LM} {fr i j : Nat} (hi : i < n) (hR : P R) : ∀ k, k ≤ i → P (abQ R fr i j k)
  | 0, _ => by rw [abQ_0 (by omega)]; exact hR
  | k + 1, hk => by
    by_cases e : fr ≤ k
    · rw [abQ_s e (by omega)]
      exact h.2.1 _ k i _ (by omega) hi (by omega) (h.ab hi hR k (by omega))
    · rw [abQ_0 (by omega)]; exact hR
theorem LCl.cl {n i j : Nat} {P : LM → Prop} {t : Bool} {R2 : LM} (h : LCl n P) (hi : i < n) : ∀ f R, clF i j n f R = some (t, R2) → P R → P R2
  | 0, R, e, _ => by unfold clF at e; exact absurd e (by simp)
  | f + 1, R, e, hR => by
    unfold clF at e
    cases hl : lsF R i j (n - i) with
    | zero => rw [if_pos hl] at e; cases e; exact hR
    | succ m =>
      obtain ⟨m1, m2, m3⟩ := lsF_b _ _ hl
      rw [if_neg (by omega), hl, show m + 1 - 1 = m by omega] at e
      have h1 : P (rdQ (swR R i m) i j n) := h.rd hi (h.1 R i m hi (by omega) hR) n (Nat.le_refl _)
      split at e
      · exact h.cl hi f _ e h1
      · injection e with e1
        injection e1 with e2 e3
        rw [← e3]
        split
        · exact h.2.2 _ i hi h1
        · exact h1
theorem LCl.rc {n fr low fu : Nat} {P : LM → Prop} {u : RS} (h : LCl n P) : ∀ q j (s : RS), rcF n fr low fu q j s = some u → P s.1 → P u.1
  | 0, j, s, e, hs => by unfold rcF at e; cases e; exact hs
  | q + 1, j, s, e, hs => by
    by_cases hi : s.2.1 < n
    · unfold rcF rcS at e
      rw [if_pos hi] at e
      cases hc : clF s.2.1 j n fu s.1 with
      | none => rw [hc] at e; exact absurd e (by simp)
      | some p =>
        obtain ⟨t, R⟩ := p
        rw [hc] at e
        have h1 := h.cl hi _ _ hc hs
        cases t with
        | false => exact h.rc q (j + 1) (R, s.2.1, s.2.2) e h1
        | true => exact h.rc q (j + 1) (abQ R fr s.2.1 j s.2.1, s.2.1 + 1, upn s.2.2 (s.2.1 - fr) (j - low)) e (h.ab hi h1 _ (Nat.le_refl _))
    · rw [rcF_id hi] at e
      cases e
      exact hs
/-! a column of 0 -/
theorem cl_col (n c : Nat) : LCl n (fun R => ∀ k, k < n → R k c = 0) := by
  refine ⟨fun R i m hi hm h k hk => ?_, fun R i l t hi hl _ h k hk => ?_, fun R i hi h k hk => ?_⟩
  · unfold swR
    split
    · exact h m hm
    · split
      · exact h i hi
      · exact h k hk
  · unfold leR
    by_cases e : k = i
    · rw [e, upn_at, h i hi, h l hl]; grind
    · rw [upn_ne _ _ e]; exact h k hk
  · unfold leR
    by_cases e : k = i
    · rw [e, upn_at, h i hi]; decide
    · rw [upn_ne _ _ e]; exact h k hk
def sm7 (f : Nat → Int64) : Int64 := f 0 + f 1 + f 2 + f 3 + f 4 + f 5 + f 6
theorem sm7_l (x y z : Nat → Int64) (t : Int64) : sm7 (fun g => (x g - t * y g) * z g) = sm7 (fun g => x g * z g) - t * sm7 (fun g => y g * z g) := by
  unfold sm7; grind
theorem sm7_r (x y z : Nat → Int64) (t : Int64) : sm7 (fun g => x g * (y g + t * z g)) = sm7 (fun g => x g * y g) + t * sm7 (fun g => x g * z g) := by
  unfold sm7; grind
/-! the first columns are what the others say -/
def LId (n : Nat) (E : LM) (R : LM) : Prop := ∀ k j, k < n → j < 3 → R k j = sm7 (fun g => R k (3 + g) * E g j)
theorem cl_id (n : Nat) (E : LM) : LCl n (LId n E) := by
  have two : ∀ R i l t, i < n → l < n → LId n E R → ∀ k j, k < n → j < 3 → leR R i l t k j = sm7 (fun g => leR R i l t k (3 + g) * E g j) := fun R i l t hi hl h k j hk hj => by
    unfold leR
    by_cases e : k = i
    · subst e
      simp only [upn_at]
      rw [sm7_l (fun g => R k (3 + g)) (fun g => R l (3 + g)), ← h k j hk hj, ← h l j hl hj]
    · simp only [upn_ne _ _ e]; exact h k j hk hj
  refine ⟨fun R i m hi hm h k j hk hj => ?_, fun R i l t hi hl _ h => two R i l t hi hl h, fun R i hi h => two R i i 2 hi hi h⟩
  unfold swR
  split
  · exact h m j hm hj
  · split
    · exact h i j hi hj
    · exact h k j hk hj
/-! no row comes of the others -/
def LIn (n : Nat) (R : LM) : Prop := ∃ N : LM, ∀ k l, k < n → l < n → sm7 (fun g => R k (3 + g) * N g l) = if k = l then 1 else 0
theorem cl_in (n : Nat) : LCl n (LIn n) := by
  refine ⟨fun R i m hi hm ⟨N, h⟩ => ?_, fun R i l t hi hl hil ⟨N, h⟩ => ?_, fun R i hi ⟨N, h⟩ => ?_⟩
  · refine ⟨fun g l => if l = i then N g m else if l = m then N g i else N g l, fun k l hk hl => ?_⟩
    unfold swR
    by_cases e1 : k = i
    · rw [if_pos e1]
      by_cases e2 : l = i
      · simp only [if_pos e2]; rw [h m m hm hm, if_pos rfl, if_pos (by omega)]
      · by_cases e3 : l = m
        · simp only [if_neg e2, if_pos e3]; rw [h m i hm hi, if_neg (by omega), if_neg (by omega)]
        · simp only [if_neg e2, if_neg e3]; rw [h m l hm hl, if_neg (by omega), if_neg (by omega)]
    · rw [if_neg e1]
      by_cases e4 : k = m
      · rw [if_pos e4]
        by_cases e2 : l = i
        · simp only [if_pos e2]; rw [h i m hi hm, if_neg (by omega), if_neg (by omega)]
        · by_cases e3 : l = m
          · simp only [if_neg e2, if_pos e3]; rw [h i i hi hi, if_pos rfl, if_pos (by omega)]
          · simp only [if_neg e2, if_neg e3]; rw [h i l hi hl, if_neg (by omega), if_neg (by omega)]
      · rw [if_neg e4]
        by_cases e2 : l = i
        · simp only [if_pos e2]; rw [h k m hk hm, if_neg (by omega), if_neg (by omega)]
        · by_cases e3 : l = m
          · simp only [if_neg e2, if_pos e3]; rw [h k i hk hi, if_neg (by omega), if_neg (by omega)]
          · simp only [if_neg e2, if_neg e3]; exact h k l hk hl
  · refine ⟨fun g q => if q = l then N g l + t * N g i else N g q, fun k q hk hq => ?_⟩
    unfold leR
    by_cases e1 : k = i
    · subst e1
      simp only [upn_at]
      by_cases e2 : q = l
      · simp only [if_pos e2]
        rw [sm7_l (fun g => R k (3 + g)) (fun g => R l (3 + g)), sm7_r (fun g => R k (3 + g)), sm7_r (fun g => R l (3 + g)), h k l hk hl, h k k hk hk, h l l hl hl, h l k hl hk, if_neg hil, if_pos rfl, if_pos rfl, if_neg (by omega), if_neg (by omega)]
        grind
      · simp only [if_neg e2]
        rw [sm7_l (fun g => R k (3 + g)) (fun g => R l (3 + g)), h k q hk hq, h l q hl hq, if_neg (show ¬ l = q by omega)]
        grind
    · simp only [upn_ne _ _ e1]
      by_cases e2 : q = l
      · simp only [if_pos e2]
        rw [sm7_r (fun g => R k (3 + g)), h k l hk hl, h k i hk hi, if_neg e1]
        by_cases e3 : k = l
        · rw [if_pos e3, if_pos (by omega)]; grind
        · rw [if_neg e3, if_neg (by omega)]; grind
      · simp only [if_neg e2]; exact h k q hk hq
  · refine ⟨fun g q => if q = i then N g i + (-2) * N g i else N g q, fun k q hk hq => ?_⟩
    unfold leR
    by_cases e1 : k = i
    · subst e1
      simp only [upn_at]
      by_cases e2 : q = k
      · simp only [if_pos e2]
        rw [sm7_l (fun g => R k (3 + g)) (fun g => R k (3 + g)), sm7_r (fun g => R k (3 + g)), h k k hk hk, if_pos rfl, if_pos (by omega)]
        decide
      · simp only [if_neg e2]
        rw [sm7_l (fun g => R k (3 + g)) (fun g => R k (3 + g)), h k q hk hq, if_neg (show ¬ k = q by omega)]
        decide
    · simp only [upn_ne _ _ e1]
      by_cases e2 : q = i
      · simp only [if_pos e2]
        rw [sm7_r (fun g => R k (3 + g)), h k i hk hi, if_neg e1, if_neg (by omega)]
        decide
      · simp only [if_neg e2]; exact h k q hk hq
/-! columns that have been gone through are 0 below -/
theorem clF_false {i j n : Nat} {R2 : LM} : ∀ f R, clF i j n f R = some (false, R2) → ∀ k, i ≤ k → k < n → R2 k j = 0
  | 0, R, e, _, _, _ => by unfold clF at e; exact absurd e (by simp)
  | f + 1, R, e, k, h1, h2 => by
    unfold clF at e
    cases hl : lsF R i j (n - i) with
    | zero =>
      rw [if_pos hl] at e
      cases e
      exact lsF_0 _ hl k h1 (by omega)
    | succ m =>
      rw [if_neg (by omega), hl, show m + 1 - 1 = m by omega] at e
      split at e
      · exact clF_false f _ e k h1 h2
      · exact absurd e (by simp)
def LZe (n low j : Nat) (s : RS) : Prop := ∀ c k, low ≤ c → c < j → s.2.1 ≤ k → k < n → s.1 k c = 0
theorem rc_ze {n fr low fu : Nat} {u : RS} : ∀ q j (s : RS), rcF n fr low fu q j s = some u → low ≤ j → LZe n low j s → LZe n low (j + q) u
  | 0, j, s, e, _, h => by unfold rcF at e; cases e; exact h
  | q + 1, j, s, e, hlj, h => by
    rw [show j + (q + 1) = j + 1 + q by omega]
    by_cases hs : s.2.1 < n
    · unfold rcF rcS at e
      rw [if_pos hs] at e
      cases hc : clF s.2.1 j n fu s.1 with
      | none => rw [hc] at e; exact absurd e (by simp)
      | some p =>
        obtain ⟨t, R⟩ := p
        rw [hc] at e
        obtain ⟨z1, z2⟩ := clF_keep hs _ _ hc
        cases t with
        | false =>
          refine rc_ze q (j + 1) (R, s.2.1, s.2.2) e (by omega) (fun c k a1 a2 a3 a4 => ?_)
          have a3' : s.2.1 ≤ k := a3
          by_cases e1 : c = j
          · rw [e1]; exact clF_false _ _ hc k a3' a4
          · exact z2 c (fun k' bE1 bE2 => h c k' a1 (by omega) bE1 bE2) k a3' a4
        | true =>
          refine rc_ze q (j + 1) (abQ R fr s.2.1 j s.2.1, s.2.1 + 1, upn s.2.2 (s.2.1 - fr) (j - low)) e (by omega) (fun c k a1 a2 a3 a4 => ?_)
          have a3' : s.2.1 + 1 ≤ k := a3
          show abQ R fr s.2.1 j s.2.1 k c = 0
          rw [ab_k (by omega)]
          by_cases e1 : c = j
          · rw [e1]; exact clF_zero hs _ _ hc k (by omega) a4
          · exact z2 c (fun k' bE1 bE2 => h c k' a1 (by omega) bE1 bE2) k (by omega) a4
    · rw [rcF_id hs] at e
      cases e
      exact fun c k _ _ a3 a4 => absurd (Nat.lt_of_le_of_lt a3 a4) hs
/-- with one row left it stays, or its sign turns -/
theorem cl_row1 {i j n : Nat} {t : Bool} {R2 : LM} (hin : i + 1 = n) : ∀ f R, clF i j n f R = some (t, R2) → R2 i = R i ∨ R2 i = fun c => R i c - 2 * R i c
  | 0, R, e => by unfold clF at e; exact absurd e (by simp)
  | f + 1, R, e => by
    unfold clF at e
    have hs := smF_le (R := R) (i := i) (j := j) (n - i)
    cases hl : lsF R i j (n - i) with
    | zero => rw [if_pos hl] at e; cases e; exact Or.inl rfl
    | succ m =>
      obtain ⟨m1, m2, m3⟩ := lsF_b _ _ hl
      rw [if_neg (by omega), hl, show m + 1 - 1 = m by omega, if_neg (by omega)] at e
      have em : m = i := by omega
      have y : rdQ (swR R i m) i j n i = R i := by rw [rd_i, sw_i, em]
      injection e with e1
      injection e1 with e2 e3
      rw [← e3]
      split
      · refine Or.inr ?_
        unfold leR
        rw [upn_at, y]
      · exact Or.inl y
theorem rc_row1 {n low fu i : Nat} {u : RS} (hin : i + 1 = n) : ∀ q j (s : RS), rcF n i low fu q j s = some u → s.2.1 = i → u.1 i = s.1 i ∨ u.1 i = fun c => s.1 i c - 2 * s.1 i c
  | 0, j, s, e, _ => by unfold rcF at e; cases e; exact Or.inl rfl
  | q + 1, j, s, e, h => by
    obtain ⟨R0, i0, pv⟩ := s
    have h' : i0 = i := h
    subst h'
    unfold rcF rcS at e
    rw [if_pos (show i0 < n by omega)] at e
    cases hc : clF i0 j n fu R0 with
    | none =>
      have e' : (match (match clF i0 j n fu R0 with
        | none => none
        | some p => some (if p.1 = true then (abQ p.2 i0 i0 j i0, i0 + 1, upn pv (i0 - i0) (j - low)) else (p.2, i0, pv)) : Option RS) with
        | none => none
        | some u => rcF n i0 low fu q (j + 1) u) = some u := e
      rw [hc] at e'; exact absurd e' (by simp)
    | some p =>
      obtain ⟨t, R⟩ := p
      have e' : (match (match clF i0 j n fu R0 with
        | none => none
        | some p => some (if p.1 = true then (abQ p.2 i0 i0 j i0, i0 + 1, upn pv (i0 - i0) (j - low)) else (p.2, i0, pv)) : Option RS) with
        | none => none
        | some u => rcF n i0 low fu q (j + 1) u) = some u := e
      rw [hc] at e'
      cases t with
      | false =>
        have hR : R = R0 := by
          cases fu with
          | zero => unfold clF at hc; exact absurd hc (by simp)
          | succ f =>
            unfold clF at hc
            have hs := smF_le (R := R0) (i := i0) (j := j) (n - i0)
            split at hc
            · injection hc with hc
              injection hc with _ hc
              exact hc.symm
            · rw [if_neg (by omega)] at hc
              exact absurd hc (by simp)
        subst hR
        exact rc_row1 hin q (j + 1) (R, i0, pv) e' rfl
      | true =>
        have e2 : rcF n i0 low fu q (j + 1) (abQ R i0 i0 j i0, i0 + 1, upn pv (i0 - i0) (j - low)) = some u := e'
        rw [rcF_id (show ¬ i0 + 1 < n by omega)] at e2
        cases e2
        show abQ R i0 i0 j i0 i0 = R0 i0 ∨ abQ R i0 i0 j i0 i0 = fun c => R0 i0 c - 2 * R0 i0 c
        rw [ab_k (Nat.le_refl _)]
        exact cl_row1 hin _ _ hc
theorem sm7_z {f : Nat → Int64} (h : ∀ g, g < 7 → f g = 0) : sm7 f = 0 := by
  unfold sm7
  rw [h 0 (by omega), h 1 (by omega), h 2 (by omega), h 3 (by omega), h 4 (by omega), h 5 (by omega), h 6 (by omega)]
  decide
/-- every row has a PIVOT in the end -/
theorem rc_full {n fr fu : Nat} {u : RS} {s : RS} (e : rcF n fr 3 fu 7 3 s = some u) (hi : LIn n s.1) : n ≤ u.2.1 := by
  apply Classical.byContradiction
  intro hn
  have hz := rc_ze _ _ _ e (Nat.le_refl _) (fun c k a1 a2 _ _ => by omega)
  obtain ⟨N, h⟩ := (cl_in n).rc _ _ _ e hi
  have h1 := h u.2.1 u.2.1 (by omega) (by omega)
  have hr : ∀ g, g < 7 → u.1 u.2.1 (3 + g) = 0 := fun g hg => hz (3 + g) u.2.1 (by omega) (by omega) (Nat.le_refl _) (by omega)
  rw [if_pos rfl] at h1
  rw [sm7_z (fun g hg => by rw [hr g hg]; grind)] at h1
  exact absurd h1 (by decide)
theorem tm_x {x y : Int64} {A B : Nat} (h1 : x.toInt.natAbs ≤ A) (h2 : y.toInt.natAbs ≤ B) (h : A * B < 2 ^ 62) : (x * y).toInt = x.toInt * y.toInt ∧ (x * y).toInt.natAbs ≤ A * B := by
  have h3 := mul_ab h1 h2
  have e : (x * y).toInt = x.toInt * y.toInt := by
    rw [Int64.toInt_mul]
    exact Int.bmod_eq_of_le_mul_two (by omega) (by omega)
  exact ⟨e, by rw [e]; exact h3⟩
theorem ad_x {x y : Int64} {A B : Nat} (h1 : x.toInt.natAbs ≤ A) (h2 : y.toInt.natAbs ≤ B) (h : A + B < 2 ^ 62) : (x + y).toInt = x.toInt + y.toInt ∧ (x + y).toInt.natAbs ≤ A + B := by
  have e : (x + y).toInt = x.toInt + y.toInt := by
    rw [Int64.toInt_add]
    exact Int.bmod_eq_of_le_mul_two (by omega) (by omega)
  exact ⟨e, by rw [e]; omega⟩
def si7 (f : Nat → Int) : Int := f 0 + f 1 + f 2 + f 3 + f 4 + f 5 + f 6
theorem sm7_x {f : Nat → Int64} {A : Nat} (hA : 7 * A < 2 ^ 62) (h : ∀ g, g < 7 → (f g).toInt.natAbs ≤ A) : (sm7 f).toInt = si7 (fun g => (f g).toInt) := by
  have a1 := ad_x (h 0 (by omega)) (h 1 (by omega)) (by omega)
  have a2 := ad_x a1.2 (h 2 (by omega)) (by omega)
  have a3 := ad_x a2.2 (h 3 (by omega)) (by omega)
  have a4 := ad_x a3.2 (h 4 (by omega)) (by omega)
  have a5 := ad_x a4.2 (h 5 (by omega)) (by omega)
  have a6 := ad_x a5.2 (h 6 (by omega)) (by omega)
  unfold sm7 si7
  rw [a6.1, a5.1, a4.1, a3.1, a2.1, a1.1]

theorem sm7_u {k : Nat} (hk : k < 7) (f : Nat → Int64) : sm7 (fun g => (if g = k then 1 else 0) * f g) = f k := by
  have h : k = 0 ∨ k = 1 ∨ k = 2 ∨ k = 3 ∨ k = 4 ∨ k = 5 ∨ k = 6 := by omega
  rcases h with rfl | rfl | rfl | rfl | rfl | rfl | rfl <;> unfold sm7 <;> simp
theorem laM_u (Gt : GT) (k g : Nat) : laM Gt k (3 + g) = if g = k then 1 else 0 := by
  unfold laM
  rw [if_neg (by omega), show 3 + g - 3 = g by omega]
theorem laM_in {Gt : GT} (hn : gN Gt ≤ 7) : LIn (gN Gt) (laM Gt) := by
  refine ⟨fun g l => if g = l then 1 else 0, fun k l hk hl => ?_⟩
  simp only [laM_u]
  rw [sm7_u (by omega)]
theorem laM_id {Gt : GT} (hn : gN Gt ≤ 7) : LId (gN Gt) (laM Gt) (laM Gt) := by
  intro k j hk hj
  simp only [laM_u]
  rw [sm7_u (by omega) (fun g => laM Gt g j)]
theorem si7_add (f g : Nat → Int) : si7 (fun x => f x + g x) = si7 f + si7 g := by unfold si7; dsimp only; omega
theorem si7_neg (f : Nat → Int) : si7 (fun x => - f x) = - si7 f := by unfold si7; dsimp only; omega
theorem si7_c {f g : Nat → Int} (h : ∀ x, x < 7 → f x = g x) : si7 f = si7 g := by
  unfold si7
  rw [h 0 (by omega), h 1 (by omega), h 2 (by omega), h 3 (by omega), h 4 (by omega), h 5 (by omega), h 6 (by omega)]
theorem eX_s (t : Nat) (ht : t < 84) (x : Int) : x * (ex t 0 : Nat) + x * (ex t 1 : Nat) + x * (ex t 2 : Nat) = x * (eD t : Nat) := by
  have e := e_le ht
  have e2 : ex t 0 + ex t 1 + ex t 2 = eD t := e.2.2.2.2
  rw [← e2, ← Int.mul_add, ← Int.mul_add]
  congr 1
/-- the only RELATION row -/
theorem cert_v {Gt : GT} {L : Nat × LM × (Nat → Nat)} (hn : gN Gt ≤ 7) (hg : ∀ g, g < gN Gt → gL Gt g < 84) (e : laF Gt 1 = some L) (h1 : L.1 = 1) : (∀ g, gN Gt ≤ g → g < 7 → L.2.1 0 g = 0) ∧ (∀ g, g < 7 → (L.2.1 0 g).toInt.natAbs ≤ 27648) ∧ si7 (fun g => (L.2.1 0 g).toInt * (eD (gL Gt g) : Nat)) = 0 := by
  have hf : 2 ^ 63 + 1 ≤ fuC := by unfold fuC; omega
  unfold laF at e
  obtain ⟨s, e1, hs⟩ := rc_EF (n := gN Gt) (fr := 0) (low := 0) hf 3 0 (laM Gt, 0, fun _ => 0) (by omega) ⟨Nat.le_refl _, Or.inl ⟨rfl, laM_H hg⟩⟩
  rw [e1] at e
  have e' : (match rcF (gN Gt) s.2.1 3 fuC 7 3 s with
    | none => none
    | some u => some (u.2.1 - s.2.1, (fun i j => u.1 (s.2.1 + i) (3 + j) : LM), u.2.2)) = some L := e
  cases e2 : rcF (gN Gt) s.2.1 3 fuC 7 3 s with
  | none => rw [e2] at e'; exact absurd e' (by simp)
  | some u =>
    rw [e2] at e'
    injection e' with e'
    have hle := rcF_le _ _ _ e1 (Nat.zero_le _)
    have hl2 := rcF_le _ _ _ e2 hle.2.1
    have hfu := rc_full e2 ((cl_in _).rc _ _ _ e1 (laM_in hn))
    rw [← e'] at h1
    have h1' : u.2.1 - s.2.1 = 1 := h1
    have hin : s.2.1 + 1 = gN Gt := by omega
    have hrow := rc_row1 hin _ _ _ e2 rfl
    have hze := rc_ze _ _ _ e1 (Nat.le_refl _) (fun c k a1 a2 _ _ => by omega)
    have hid := (cl_id _ _).rc _ _ _ e1 (laM_id hn)
    -- what is known of the row as it was
    have ha : ∀ g, gN Gt ≤ g → g < 7 → s.1 s.2.1 (3 + g) = 0 := fun g g1 g2 => (cl_col (gN Gt) (3 + g)).rc _ _ _ e1 (fun k hk => by show laM Gt k (3 + g) = 0; rw [laM_u, if_neg (by omega)]) s.2.1 (by omega)
    have hb : ∀ g, g < 7 → (s.1 s.2.1 (3 + g)).toInt.natAbs ≤ 27648 := fun g hg7 => by
      have ec : ¬ 3 + g < 3 := by omega
      rcases hs.2 with ⟨q, h0⟩ | ⟨q, h0⟩ | ⟨q, h0⟩ | ⟨q, h0⟩
      · have := h0.un (k := s.2.1) (c := 3 + g) (by omega) (by omega) (by omega)
        unfold tvL at this
        rw [this]; split <;> decide
      · have := (h0 s.2.1 (3 + g) (by omega) (by omega) (by omega) (by omega)).1
        unfold tvL bE1 at this
        rw [if_neg ec] at this; omega
      · have := h0 s.2.1 (3 + g) (by omega) (by omega) (by omega) (by omega)
        unfold tvL bE2 at this
        rw [if_neg ec] at this; omega
      · have := h0 s.2.1 (3 + g) (by omega) (by omega) (by omega) (by omega)
        unfold tvL bE3 at this
        rw [if_neg ec] at this; omega
    have hj : ∀ j, j < 3 → si7 (fun g => (s.1 s.2.1 (3 + g)).toInt * (ex (gL Gt g) j : Nat)) = 0 := fun j hj => by
      have q1 := hid s.2.1 j (by omega) hj
      rw [hze j s.2.1 (Nat.zero_le _) (by omega) (Nat.le_refl _) (by omega)] at q1
      have q3 : ∀ g, g < 7 → (s.1 s.2.1 (3 + g) * laM Gt g j).toInt = (s.1 s.2.1 (3 + g)).toInt * (ex (gL Gt g) j : Nat) ∧ (s.1 s.2.1 (3 + g) * laM Gt g j).toInt.natAbs ≤ 27648 * 6 := fun g hg7 => by
        by_cases hgn : g < gN Gt
        · obtain ⟨E, E1, E2, E3⟩ := laM_H hg
          have el := e_le (hg g hgn)
          have ex6 : ex (gL Gt g) j ≤ 6 := by
            have : j = 0 ∨ j = 1 ∨ j = 2 := by omega
            rcases this with rfl | rfl | rfl
            · show eX (gL Gt g) ≤ 6; omega
            · show eY (gL Gt g) ≤ 6; omega
            · show eZ (gL Gt g) ≤ 6; omega
          have et : (laM Gt g j).toInt = (ex (gL Gt g) j : Nat) := by
            unfold laM
            rw [if_pos hj, toL, nI_toInt (by omega)]
          obtain ⟨x1, x2⟩ := tm_x (hb g hg7) (show (laM Gt g j).toInt.natAbs ≤ 6 by rw [et]; omega) (by omega)
          exact ⟨by rw [x1, et], x2⟩
        · have z : s.1 s.2.1 (3 + g) * laM Gt g j = 0 := by rw [ha g (by omega) hg7]; grind
          rw [z, ha g (by omega) hg7]
          exact ⟨by show (0 : Int) = 0 * _; rw [Int.zero_mul], by decide⟩
      have q2 := sm7_x (f := fun g => s.1 s.2.1 (3 + g) * laM Gt g j) (A := 27648 * 6) (by omega) (fun g hg7 => (q3 g hg7).2)
      rw [← q1] at q2
      rw [si7_c (fun g hg7 => (q3 g hg7).1)] at q2
      exact q2.symm
    have hsum : si7 (fun g => (s.1 s.2.1 (3 + g)).toInt * (eD (gL Gt g) : Nat)) = 0 := by
      have q := hj 0 (by omega)
      have q1 := hj 1 (by omega)
      have q2 := hj 2 (by omega)
      have c : si7 (fun g => (s.1 s.2.1 (3 + g)).toInt * (ex (gL Gt g) 0 : Nat) + (s.1 s.2.1 (3 + g)).toInt * (ex (gL Gt g) 1 : Nat) + (s.1 s.2.1 (3 + g)).toInt * (ex (gL Gt g) 2 : Nat)) = 0 := by
        rw [si7_add, si7_add, q, q1, q2]; rfl
      rw [← c]
      refine si7_c (fun g hg7 => ?_)
      by_cases hgn : g < gN Gt
      · exact (eX_s _ (hg g hgn) _).symm
      · rw [ha g (by omega) hg7]
        show (0 : Int) * _ = 0 * _ + 0 * _ + 0 * _
        rw [Int.zero_mul, Int.zero_mul, Int.zero_mul, Int.zero_mul]; rfl
    rw [← e']
    show (∀ g, gN Gt ≤ g → g < 7 → u.1 s.2.1 (3 + g) = 0) ∧ (∀ g, g < 7 → (u.1 s.2.1 (3 + g)).toInt.natAbs ≤ 27648) ∧ si7 (fun g => (u.1 s.2.1 (3 + g)).toInt * (eD (gL Gt g) : Nat)) = 0
    rcases hrow with hr | hr
    · rw [hr]; exact ⟨ha, hb, hsum⟩
    · have hneg : ∀ g, g < 7 → (s.1 s.2.1 (3 + g) - 2 * s.1 s.2.1 (3 + g)).toInt = - (s.1 s.2.1 (3 + g)).toInt := fun g hg7 => by
        have := hb g hg7
        rw [show s.1 s.2.1 (3 + g) - 2 * s.1 s.2.1 (3 + g) = - s.1 s.2.1 (3 + g) by grind, Int64.toInt_neg]
        exact Int.bmod_eq_of_le_mul_two (by omega) (by omega)
      rw [hr]
      refine ⟨fun g g1 g2 => by show s.1 s.2.1 (3 + g) - 2 * s.1 s.2.1 (3 + g) = 0; rw [ha g g1 g2]; decide, fun g hg7 => by show (s.1 s.2.1 (3 + g) - 2 * s.1 s.2.1 (3 + g)).toInt.natAbs ≤ _; rw [hneg g hg7, Int.natAbs_neg]; exact hb g hg7, ?_⟩
      rw [si7_c (g := fun g => - ((s.1 s.2.1 (3 + g)).toInt * (eD (gL Gt g) : Nat))) (fun g hg7 => by show (s.1 s.2.1 (3 + g) - 2 * s.1 s.2.1 (3 + g)).toInt * _ = _; rw [hneg g hg7, Int.neg_mul]), si7_neg, hsum]; rfl
