/-! ===== GROUPS as the class finds them ===== -/
theorem psup_bit (r : Nat) : ∀ k g, (psup r k).testBit g = true ↔ g < k ∧ 0 < pw r g
  | 0, g => by simp [psup]
  | k + 1, g => by
    rw [psup]
    split
    · rename_i h
      rw [Nat.testBit_or, Bool.or_eq_true, psup_bit r k g, Nat.testBit_two_pow]
      constructor
      · rintro (⟨a, b⟩ | e)
        · exact ⟨by omega, b⟩
        · have : k = g := by simpa using e
          subst this; exact ⟨by omega, h⟩
      · rintro ⟨a, b⟩
        by_cases e : k = g
        · exact Or.inr (by simpa using e)
        · exact Or.inl ⟨by omega, b⟩
    · rename_i h
      rw [psup_bit r k g]
      constructor
      · rintro ⟨a, b⟩; exact ⟨by omega, b⟩
      · rintro ⟨a, b⟩
        refine ⟨?_, b⟩
        rcases Nat.lt_or_ge g k with c | c
        · exact c
        · have : g = k := by omega
          subst this; exact absurd b h
theorem sup_bit {r g : Nat} : (sup r).testBit g = true ↔ g < 7 ∧ 0 < pw r g := psup_bit r 7 g
/-- two masks have a bit in common -/
theorem and_ne0 {a b : Nat} : a &&& b ≠ 0 ↔ ∃ g, a.testBit g = true ∧ b.testBit g = true := by
  constructor
  · intro h
    obtain ⟨g, hg⟩ := Nat.exists_testBit_of_ne_zero h
    rw [Nat.testBit_and, Bool.and_eq_true] at hg
    exact ⟨g, hg⟩
  · rintro ⟨g, h1, h2⟩ e
    have : (a &&& b).testBit g = true := by rw [Nat.testBit_and, h1, h2]; rfl
    rw [e] at this
    simp at this
/-- behind the first GROUP that joins: those that don't, and the bits of those that do -/
def joS (bits : Nat) : List (Nat × Nat) → List (Nat × Nat) × Nat
  | [] => ([], 0)
  | q :: L => if q.1 &&& bits ≠ 0 then ((joS bits L).1, q.1 ||| (joS bits L).2) else (q :: (joS bits L).1, (joS bits L).2)
def joF (bits i : Nat) : List (Nat × Nat) → List (Nat × Nat)
  | [] => [(bits, i)]
  | q :: L => if q.1 &&& bits ≠ 0 then (q.1 ||| bits ||| (joS bits L).2, q.2) :: (joS bits L).1 else q :: joF bits i L
def gpF (Rs : List Nat) : Nat → List (Nat × Nat)
  | 0 => []
  | i + 1 => joF (sup (Rs.getD i 0)) i (gpF Rs i)
/-- GROUPS of the first n rows: every row has one, told by its head -/
def GrI (Rs : List Nat) (n : Nat) (L : List (Nat × Nat)) : Prop := ∃ lab : Nat → Nat, LabG (Rs.take n) lab ∧ lbk (Rs.take n) lab ∧ (∀ q ∈ L, q.2 < n ∧ lab q.2 = q.2 ∧ ∀ g, q.1.testBit g = true ↔ ∃ j, j < n ∧ lab j = q.2 ∧ g < 7 ∧ 0 < pw (Rs.getD j 0) g) ∧ (∀ j, j < n → ∃ q ∈ L, q.2 = lab j) ∧ L.Pairwise (fun a b => a.2 < b.2)
theorem joS_mem {bits : Nat} : ∀ {L : List (Nat × Nat)} {q : Nat × Nat}, q ∈ (joS bits L).1 ↔ q ∈ L ∧ q.1 &&& bits = 0
  | [], q => by simp [joS]
  | p :: L, q => by
    rw [joS]
    split
    · rename_i h
      rw [joS_mem, List.mem_cons]
      constructor
      · rintro ⟨a, b⟩; exact ⟨Or.inr a, b⟩
      · rintro ⟨a | a, b⟩
        · subst a; exact absurd b h
        · exact ⟨a, b⟩
    · rename_i h
      have h' : p.1 &&& bits = 0 := Classical.byContradiction h
      rw [List.mem_cons, joS_mem, List.mem_cons]
      constructor
      · rintro (a | ⟨a, b⟩)
        · subst a; exact ⟨Or.inl rfl, h'⟩
        · exact ⟨Or.inr a, b⟩
      · rintro ⟨a | a, b⟩
        · exact Or.inl a
        · exact Or.inr ⟨a, b⟩
theorem joS_bit {bits g : Nat} : ∀ {L : List (Nat × Nat)}, (joS bits L).2.testBit g = true ↔ ∃ q ∈ L, q.1 &&& bits ≠ 0 ∧ q.1.testBit g = true
  | [] => by simp [joS]
  | p :: L => by
    rw [joS]
    split
    · rename_i h
      rw [Nat.testBit_or, Bool.or_eq_true, joS_bit]
      constructor
      · rintro (a | ⟨q, a, b, c⟩)
        · exact ⟨p, List.mem_cons_self, h, a⟩
        · exact ⟨q, List.mem_cons_of_mem _ a, b, c⟩
      · rintro ⟨q, a, b, c⟩
        rcases List.mem_cons.mp a with e | e
        · subst e; exact Or.inl c
        · exact Or.inr ⟨q, e, b, c⟩
    · rename_i h
      rw [joS_bit]
      constructor
      · rintro ⟨q, a, b, c⟩; exact ⟨q, List.mem_cons_of_mem _ a, b, c⟩
      · rintro ⟨q, a, b, c⟩
        rcases List.mem_cons.mp a with e | e
        · subst e; exact absurd b h
        · exact ⟨q, e, b, c⟩
theorem joS_pw {bits : Nat} : ∀ {L : List (Nat × Nat)}, L.Pairwise (fun a b => a.2 < b.2) → (joS bits L).1.Pairwise (fun a b => a.2 < b.2)
  | [], _ => by simp [joS]
  | p :: L, h => by
    rw [List.pairwise_cons] at h
    rw [joS]
    split
    · exact joS_pw h.2
    · rw [List.pairwise_cons]
      exact ⟨fun q hq => h.1 q (joS_mem.mp hq).1, joS_pw h.2⟩
/-- one more GROUP, or: some are one -/
theorem joF_cs {bits i : Nat} : ∀ {L : List (Nat × Nat)}, L.Pairwise (fun a b => a.2 < b.2) → ((∀ q ∈ L, q.1 &&& bits = 0) ∧ joF bits i L = L ++ [(bits, i)]) ∨ ∃ p ∈ L, p.1 &&& bits ≠ 0 ∧ (∀ q ∈ L, q.1 &&& bits ≠ 0 → p.2 ≤ q.2) ∧ ∃ u, (∀ g, u.testBit g = true ↔ bits.testBit g = true ∨ ∃ q ∈ L, q.1 &&& bits ≠ 0 ∧ q.1.testBit g = true) ∧ (∀ x, x ∈ joF bits i L ↔ x = (u, p.2) ∨ x ∈ L ∧ x.1 &&& bits = 0) ∧ (joF bits i L).Pairwise (fun a b => a.2 < b.2)
  | [], _ => Or.inl ⟨fun q hq => by simp at hq, rfl⟩
  | r :: L, h => by
    rw [List.pairwise_cons] at h
    rw [joF]
    split
    · rename_i hr
      refine Or.inr ⟨r, List.mem_cons_self, hr, fun q hq _ => ?_, r.1 ||| bits ||| (joS bits L).2, fun g => ?_, fun x => ?_, ?_⟩
      · rcases List.mem_cons.mp hq with e | e
        · rw [e]; exact Nat.le_refl _
        · exact Nat.le_of_lt (h.1 q e)
      · rw [Nat.testBit_or, Nat.testBit_or, Bool.or_eq_true, Bool.or_eq_true, joS_bit]
        constructor
        · rintro ((a | a) | ⟨q, a, b, c⟩)
          · exact Or.inr ⟨r, List.mem_cons_self, hr, a⟩
          · exact Or.inl a
          · exact Or.inr ⟨q, List.mem_cons_of_mem _ a, b, c⟩
        · rintro (a | ⟨q, a, b, c⟩)
          · exact Or.inl (Or.inr a)
          · rcases List.mem_cons.mp a with e | e
            · subst e; exact Or.inl (Or.inl c)
            · exact Or.inr ⟨q, e, b, c⟩
      · rw [List.mem_cons, joS_mem, List.mem_cons]
        constructor
        · rintro (a | ⟨a, b⟩)
          · exact Or.inl a
          · exact Or.inr ⟨Or.inr a, b⟩
        · rintro (a | ⟨a | a, b⟩)
          · exact Or.inl a
          · subst a; exact absurd b hr
          · exact Or.inr ⟨a, b⟩
      · rw [List.pairwise_cons]
        exact ⟨fun q hq => h.1 q (joS_mem.mp hq).1, joS_pw h.2⟩
    · rename_i hr
      have hr' : r.1 &&& bits = 0 := Classical.byContradiction hr
      rcases joF_cs (i := i) h.2 with ⟨a, b⟩ | ⟨p, p1, p2, p3, u, u1, u2, u3⟩
      · refine Or.inl ⟨fun q hq => ?_, by rw [b]; rfl⟩
        rcases List.mem_cons.mp hq with e | e
        · rw [e]; exact hr'
        · exact a q e
      · refine Or.inr ⟨p, List.mem_cons_of_mem _ p1, p2, fun q hq hb => ?_, u, fun g => ?_, fun x => ?_, ?_⟩
        · rcases List.mem_cons.mp hq with e | e
          · subst e; exact absurd hr' hb
          · exact p3 q e hb
        · rw [u1]
          constructor
          · rintro (c | ⟨q, c, d, e⟩)
            · exact Or.inl c
            · exact Or.inr ⟨q, List.mem_cons_of_mem _ c, d, e⟩
          · rintro (c | ⟨q, c, d, e⟩)
            · exact Or.inl c
            · rcases List.mem_cons.mp c with f | f
              · subst f; exact absurd hr' d
              · exact Or.inr ⟨q, f, d, e⟩
        · rw [List.mem_cons, u2, List.mem_cons]
          constructor
          · rintro (c | c | ⟨c, d⟩)
            · subst c; exact Or.inr ⟨Or.inl rfl, hr'⟩
            · exact Or.inl c
            · exact Or.inr ⟨Or.inr c, d⟩
          · rintro (c | ⟨c | c, d⟩)
            · exact Or.inr (Or.inl c)
            · exact Or.inl c
            · exact Or.inr (Or.inr ⟨c, d⟩)
        · rw [List.pairwise_cons]
          refine ⟨fun x hx => ?_, u3⟩
          rcases (u2 x).mp hx with e | e
          · subst e; exact h.1 p p1
          · exact h.1 x e.1
theorem tk_get {Rs : List Nat} {n i a : Nat} : (Rs.take n)[i]? = some a ↔ i < n ∧ Rs[i]? = some a := by
  rw [List.getElem?_take]
  constructor
  · intro h
    split at h
    · rename_i e; exact ⟨e, h⟩
    · cases h
  · rintro ⟨h1, h2⟩
    rw [if_pos h1]; exact h2
theorem gD {Rs : List Nat} {i a : Nat} (h : Rs[i]? = some a) : Rs.getD i 0 = a := by
  rw [List.getD_eq_getElem?_getD, h]; rfl
theorem Conn.up {Rs : List Nat} {n i j : Nat} (h : Conn (Rs.take n) i j) : Conn (Rs.take (n + 1)) i j := fun lab hl => h lab (fun i j r s hi hj hs => by
  rw [tk_get] at hi hj
  exact hl i j r s (tk_get.mpr ⟨by omega, hi.2⟩) (tk_get.mpr ⟨by omega, hj.2⟩) hs)
theorem pw_uniq : ∀ {L : List (Nat × Nat)}, L.Pairwise (fun a b => a.2 < b.2) → ∀ {p q : Nat × Nat}, p ∈ L → q ∈ L → p.2 = q.2 → p = q
  | [], _, p, q, hp, _, _ => by simp at hp
  | r :: L, h, p, q, hp, hq, e => by
    rw [List.pairwise_cons] at h
    rcases List.mem_cons.mp hp with a | a <;> rcases List.mem_cons.mp hq with b | b
    · rw [a, b]
    · have := h.1 q b; rw [a] at e; omega
    · have := h.1 p a; rw [b] at e; omega
    · exact pw_uniq h.2 a b e
theorem GrI_s {Rs : List Nat} {n : Nat} {L : List (Nat × Nat)} (hn : n < Rs.length) (h : GrI Rs n L) : GrI Rs (n + 1) (joF (sup (Rs.getD n 0)) n L) := by
  obtain ⟨lab, h1, h2, h3, h4, h5⟩ := h
  have hl : (Rs.take n).length = n := by rw [List.length_take]; omega
  have hl' : (Rs.take (n + 1)).length = n + 1 := by rw [List.length_take]; omega
  obtain ⟨r, hr⟩ : ∃ r, Rs[n]? = some r := ⟨Rs[n], List.getElem?_eq_getElem hn⟩
  have er := gD hr
  have hr' : (Rs.take (n + 1))[n]? = some r := tk_get.mpr ⟨by omega, hr⟩
  have lj : ∀ j, j < n → lab j ≤ j ∧ Conn (Rs.take (n + 1)) j (lab j) := fun j hj => ⟨(h1 j (by omega)).1, (h1 j (by omega)).2.up⟩
  -- a row that shares with the new one lies in a GROUP that joins
  have shj : ∀ j s, j < n → Rs[j]? = some s → shr r s → ∃ q ∈ L, q.2 = lab j ∧ q.1 &&& sup (Rs.getD n 0) ≠ 0 := by
    rintro j s hj hs ⟨g, g7, g1, g2⟩
    obtain ⟨q, q1, q2⟩ := h4 j hj
    refine ⟨q, q1, q2, and_ne0.mpr ⟨g, ((h3 q q1).2.2 g).mpr ⟨j, hj, q2.symm, g7, by rw [gD hs]; exact g2⟩, sup_bit.mpr ⟨g7, by rw [er]; exact g1⟩⟩⟩
  rcases joF_cs (bits := sup (Rs.getD n 0)) (i := n) h5 with ⟨a1, a2⟩ | ⟨p, p1, p2, p3, u, u1, u2, u3⟩
  · rw [a2]
    refine ⟨fun j => if j = n then n else lab j, fun j hj => ?_, fun i j a b hi hj hs => ?_, fun q hq => ?_, fun j hj => ?_, ?_⟩
    · rw [hl'] at hj
      by_cases e : j = n
      · simp only [if_pos e]; exact ⟨by omega, by rw [e]; exact Conn.rf⟩
      · simp only [if_neg e]; exact lj j (by omega)
    · rw [tk_get] at hi hj
      by_cases e1 : i = n
      · by_cases e2 : j = n
        · rw [e1, e2]
        · exfalso
          rw [e1, hr] at hi
          have ea : r = a := by injection hi.2
          rw [← ea] at hs
          obtain ⟨q, q1, -, q3⟩ := shj j b (by omega) hj.2 hs
          exact q3 (a1 q q1)
      · by_cases e2 : j = n
        · exfalso
          rw [e2, hr] at hj
          have eb : r = b := by injection hj.2
          rw [← eb] at hs
          obtain ⟨q, q1, -, q3⟩ := shj i a (by omega) hi.2 (shr_symm hs)
          exact q3 (a1 q q1)
        · simp only [if_neg e1, if_neg e2]
          exact h2 i j a b (tk_get.mpr ⟨by omega, hi.2⟩) (tk_get.mpr ⟨by omega, hj.2⟩) hs
    · rcases List.mem_append.mp hq with b | b
      · obtain ⟨c1, c2, c3⟩ := h3 q b
        have e : q.2 ≠ n := by omega
        refine ⟨by omega, by simp only [if_neg e]; exact c2, fun g => ?_⟩
        rw [c3]
        constructor
        · rintro ⟨j, d1, d2, d3⟩
          exact ⟨j, by omega, by simp only [if_neg (show j ≠ n by omega)]; exact d2, d3⟩
        · rintro ⟨j, d1, d2, d3⟩
          by_cases e2 : j = n
          · simp only [if_pos e2] at d2; omega
          · simp only [if_neg e2] at d2; exact ⟨j, by omega, d2, d3⟩
      · have e : q = (sup (Rs.getD n 0), n) := by simpa using b
        subst e
        refine ⟨by omega, by simp, fun g => ?_⟩
        rw [sup_bit]
        constructor
        · rintro ⟨d1, d2⟩
          exact ⟨n, by omega, by simp, d1, d2⟩
        · rintro ⟨j, d1, d2, d3, d4⟩
          by_cases e2 : j = n
          · rw [e2] at d4; exact ⟨d3, d4⟩
          · simp only [if_neg e2] at d2
            have := (lj j (by omega)).1
            omega
    · by_cases e : j = n
      · exact ⟨_, List.mem_append_right _ (List.mem_singleton.mpr rfl), by simp [e]⟩
      · obtain ⟨q, q1, q2⟩ := h4 j (by omega)
        exact ⟨q, List.mem_append_left _ q1, by simp only [if_neg e]; exact q2⟩
    · rw [List.pairwise_append]
      refine ⟨h5, by simp, fun a ha b hb => ?_⟩
      have e : b = (sup (Rs.getD n 0), n) := by simpa using hb
      rw [e]; exact (h3 a ha).1
  · obtain ⟨pn, pl, pb⟩ := h3 p p1
    -- every GROUP that joins is connected with the new row
    have cn : ∀ q ∈ L, q.1 &&& sup (Rs.getD n 0) ≠ 0 → Conn (Rs.take (n + 1)) q.2 n := by
      intro q q1 q2
      obtain ⟨g, g1, g2⟩ := and_ne0.mp q2
      obtain ⟨a, a1, a2, a3, a4⟩ := ((h3 q q1).2.2 g).mp g1
      obtain ⟨b1, b2⟩ := sup_bit.mp g2
      rw [er] at b2
      obtain ⟨s, hs⟩ : ∃ s, Rs[a]? = some s := ⟨Rs[a], List.getElem?_eq_getElem (by omega)⟩
      rw [gD hs] at a4
      have c1 : Conn (Rs.take (n + 1)) a n := Conn.sh (tk_get.mpr ⟨by omega, hs⟩) hr' ⟨g, b1, a4, b2⟩
      have c2 := (lj a a1).2
      rw [a2] at c2
      exact c2.sy.tr c1
    let J : Nat → Prop := fun x => ∃ q ∈ L, q.2 = x ∧ q.1 &&& sup (Rs.getD n 0) ≠ 0
    have Jp : J p.2 := ⟨p, p1, rfl, p2⟩
    haveI : DecidablePred J := fun x => Classical.propDecidable (J x)
    refine ⟨fun j => if j = n ∨ J (lab j) then p.2 else lab j, fun j hj => ?_, fun i j a b hi hj hs => ?_, fun x hx => ?_, fun j hj => ?_, u3⟩
    · rw [hl'] at hj
      by_cases e : j = n
      · simp only [if_pos (Or.inl e : j = n ∨ J (lab j))]
        exact ⟨by omega, by rw [e]; exact (cn p p1 p2).sy⟩
      · by_cases e2 : J (lab j)
        · simp only [if_pos (Or.inr e2 : j = n ∨ J (lab j))]
          obtain ⟨q, q1, q2, q3⟩ := e2
          have := p3 q q1 q3
          have hlj := lj j (by omega)
          have hc := cn q q1 q3
          rw [q2] at hc
          exact ⟨by omega, (hlj.2.tr hc).tr (cn p p1 p2).sy⟩
        · simp only [if_neg (show ¬ (j = n ∨ J (lab j)) from fun c => c.elim e e2)]
          exact lj j (by omega)
    · rw [tk_get] at hi hj
      have one : ∀ j b, j < n → Rs[j]? = some b → shr r b → J (lab j) := fun j b hj hb hs => by
        obtain ⟨q, q1, q2, q3⟩ := shj j b hj hb hs
        exact ⟨q, q1, q2, q3⟩
      by_cases e1 : i = n
      · by_cases e2 : j = n
        · rw [e1, e2]
        · rw [e1, hr] at hi
          have ea : r = a := by injection hi.2
          rw [← ea] at hs
          have hJ := one j b (by omega) hj.2 hs
          simp only [if_pos (Or.inl e1 : i = n ∨ J (lab i)), if_pos (Or.inr hJ : j = n ∨ J (lab j))]
      · by_cases e2 : j = n
        · rw [e2, hr] at hj
          have eb : r = b := by injection hj.2
          rw [← eb] at hs
          have hJ := one i a (by omega) hi.2 (shr_symm hs)
          simp only [if_pos (Or.inr hJ : i = n ∨ J (lab i)), if_pos (Or.inl e2 : j = n ∨ J (lab j))]
        · have := h2 i j a b (tk_get.mpr ⟨by omega, hi.2⟩) (tk_get.mpr ⟨by omega, hj.2⟩) hs
          simp only [e1, e2, this]
    · rcases (u2 x).mp hx with e | ⟨x1, x2⟩
      · subst e
        refine ⟨by show p.2 < n + 1; omega, ?_, fun g => ?_⟩
        · show (if p.2 = n ∨ J (lab p.2) then p.2 else lab p.2) = p.2
          rw [pl]
          exact if_pos (Or.inr Jp)
        · show u.testBit g = true ↔ ∃ j, j < n + 1 ∧ (if j = n ∨ J (lab j) then p.2 else lab j) = p.2 ∧ _
          rw [u1]
          constructor
          · rintro (c | ⟨q, c, d, e⟩)
            · obtain ⟨c1, c2⟩ := sup_bit.mp c
              exact ⟨n, by omega, if_pos (Or.inl rfl), c1, c2⟩
            · obtain ⟨j, d1, d2, d3⟩ := ((h3 q c).2.2 g).mp e
              exact ⟨j, by omega, if_pos (Or.inr ⟨q, c, d2.symm, d⟩), d3⟩
          · rintro ⟨j, d1, d2, d3, d4⟩
            by_cases e2 : j = n
            · rw [e2] at d4; exact Or.inl (sup_bit.mpr ⟨d3, d4⟩)
            · by_cases e3 : J (lab j)
              · obtain ⟨q, q1, q2, q3⟩ := e3
                exact Or.inr ⟨q, q1, q3, ((h3 q q1).2.2 g).mpr ⟨j, by omega, q2.symm, d3, d4⟩⟩
              · rw [if_neg (fun c => c.elim e2 e3)] at d2
                rw [d2] at e3
                exact absurd Jp e3
      · obtain ⟨c1, c2, c3⟩ := h3 x x1
        have nJ : ¬ J x.2 := by
          rintro ⟨q, q1, q2, q3⟩
          have := pw_uniq h5 q1 x1 q2
          rw [this] at q3
          exact q3 x2
        have xp : p.2 ≠ x.2 := fun e => nJ (e ▸ Jp)
        refine ⟨by omega, ?_, fun g => ?_⟩
        · show (if x.2 = n ∨ J (lab x.2) then p.2 else lab x.2) = x.2
          rw [c2]
          exact if_neg (fun c => c.elim (fun e => by omega) nJ)
        · show _ ↔ ∃ j, j < n + 1 ∧ (if j = n ∨ J (lab j) then p.2 else lab j) = x.2 ∧ _
          rw [c3]
          constructor
          · rintro ⟨j, d1, d2, d3⟩
            refine ⟨j, by omega, ?_, d3⟩
            rw [if_neg (fun c => c.elim (fun e => by omega) (fun e => nJ (d2 ▸ e)))]; exact d2
          · rintro ⟨j, d1, d2, d3⟩
            by_cases e2 : j = n ∨ J (lab j)
            · rw [if_pos e2] at d2; exact absurd d2 xp
            · rw [if_neg e2] at d2
              exact ⟨j, by have : j ≠ n := fun e => e2 (Or.inl e); omega, d2, d3⟩
    · show ∃ q : Nat × Nat, q ∈ joF (sup (Rs.getD n 0)) n L ∧ q.2 = if j = n ∨ J (lab j) then p.2 else lab j
      by_cases e2 : j = n ∨ J (lab j)
      · rw [if_pos e2]
        exact ⟨(u, p.2), (u2 _).mpr (Or.inl rfl), rfl⟩
      · rw [if_neg e2]
        obtain ⟨q, q1, q2⟩ := h4 j (by have : j ≠ n := fun e => e2 (Or.inl e); omega)
        refine ⟨q, (u2 _).mpr (Or.inr ⟨q1, Classical.byContradiction fun hn => e2 (Or.inr ⟨q, q1, q2, hn⟩)⟩), q2⟩
theorem GrI_all (Rs : List Nat) : ∀ n, n ≤ Rs.length → GrI Rs n (gpF Rs n)
  | 0, _ => ⟨fun _ => 0, fun i hi => by simp at hi, fun i j r s hi => by simp at hi, fun q hq => by simp [gpF] at hq, fun j hj => by omega, by simp [gpF]⟩
  | n + 1, h => GrI_s (by omega) (GrI_all Rs n (by omega))
theorem ph1 {α : Type} (f : α → Nat) (c : Nat) : ∀ L : List α, L.Pairwise (fun a b => f a ≠ f b) → L.length ≤ (L.filter (fun x => decide (f x ≠ c))).length + 1
  | [], _ => by simp
  | a :: L, h => by
    rw [List.pairwise_cons] at h
    by_cases e : f a = c
    · have : L.filter (fun x => decide (f x ≠ c)) = L := List.filter_eq_self.mpr (fun x hx => decide_eq_true (fun e2 => h.1 x hx (by rw [e, e2])))
      rw [List.filter_cons, if_neg (by simp [e]), this, List.length_cons]
      exact Nat.le_refl _
    · have := ph1 f c L h.2
      rw [List.filter_cons, if_pos (by simp [e]), List.length_cons, List.length_cons]
      omega
theorem ph {α : Type} (f : α → Nat) : ∀ (k : Nat) (L : List α), (∀ x ∈ L, f x < k) → L.Pairwise (fun a b => f a ≠ f b) → L.length ≤ k
  | 0, L, h, _ => by
    cases L with
    | nil => simp
    | cons a L => exact absurd (h a List.mem_cons_self) (by omega)
  | k + 1, L, h, hp => by
    have h1 := ph1 f k L hp
    have h2 := ph f k (L.filter (fun x => decide (f x ≠ k))) (fun x hx => by
      rw [List.mem_filter] at hx
      have := h x hx.1
      have := of_decide_eq_true hx.2
      omega) (hp.filter _)
    omega
/-- no more than seven -/
theorem GrI_7 {Rs : List Nat} {n : Nat} {L : List (Nat × Nat)} (hn : n ≤ Rs.length) (h : GrI Rs n L) (hz : ∀ j, j < n → ∃ g, g < 7 ∧ 0 < pw (Rs.getD j 0) g) : L.length ≤ 7 := by
  obtain ⟨lab, h1, h2, h3, h4, h5⟩ := h
  let f : Nat × Nat → Nat := fun q => Classical.epsilon (fun g => q.1.testBit g = true ∧ g < 7)
  have hf : ∀ q ∈ L, q.1.testBit (f q) = true ∧ f q < 7 := fun q hq => by
    obtain ⟨c1, c2, c3⟩ := h3 q hq
    obtain ⟨g, g7, gp⟩ := hz q.2 c1
    exact Classical.epsilon_spec (p := fun g => q.1.testBit g = true ∧ g < 7) ⟨g, (c3 g).mpr ⟨q.2, c1, c2, g7, gp⟩, g7⟩
  have hmem : ∀ q ∈ L, ∀ p ∈ L, q.2 ≠ p.2 → f q ≠ f p := fun q hq p hp hne e => by
    obtain ⟨j, a1, a2, a3, a4⟩ := ((h3 q hq).2.2 (f q)).mp (hf q hq).1
    obtain ⟨i, b1, b2, b3, b4⟩ := ((h3 p hp).2.2 (f p)).mp (hf p hp).1
    obtain ⟨s, hs⟩ : ∃ s, Rs[j]? = some s := ⟨Rs[j], List.getElem?_eq_getElem (by omega)⟩
    obtain ⟨t, ht⟩ : ∃ t, Rs[i]? = some t := ⟨Rs[i], List.getElem?_eq_getElem (by omega)⟩
    have := h2 j i s t (tk_get.mpr ⟨a1, hs⟩) (tk_get.mpr ⟨b1, ht⟩) ⟨f q, a3, by rw [gD hs] at a4; exact a4, by rw [gD ht, ← e] at b4; exact b4⟩
    omega
  refine ph f 7 L (fun x hx => (hf x hx).2) ?_
  have key : ∀ L' : List (Nat × Nat), (∀ q ∈ L', q ∈ L) → L'.Pairwise (fun a b => a.2 < b.2) → L'.Pairwise (fun a b => f a ≠ f b) := by
    intro L'
    induction L' with
    | nil => intro _ _; exact List.Pairwise.nil
    | cons a L' ih =>
      intro hs hp
      rw [List.pairwise_cons] at hp ⊢
      refine ⟨fun b hb => hmem a (hs a List.mem_cons_self) b (hs b (List.mem_cons_of_mem _ hb)) (by have := hp.1 b hb; omega), ih (fun q hq => hs q (List.mem_cons_of_mem _ hq)) hp.2⟩
  exact key L (fun _ h => h) h5
theorem hds_eq {Rs : List Nat} : ∀ (m g : Nat) (L : List (Nat × Nat)), L.Pairwise (fun a b => a.2 < b.2) → (∀ q ∈ L, g < q.2 ∧ q.2 ≤ g + m ∧ isH Rs q.2) → (∀ h, g < h → h ≤ g + m → isH Rs h → ∃ q ∈ L, q.2 = h) → hds Rs m g = L.map (fun q => (Rs.getD 0 0, Rs.getD q.2 0))
  | 0, g, L, _, h2, _ => by
    cases L with
    | nil => rfl
    | cons q L => have := h2 q List.mem_cons_self; omega
  | m + 1, g, L, h1, h2, h3 => by
    rw [hds]
    by_cases hh : isH Rs (g + 1)
    · obtain ⟨q, q1, q2⟩ := h3 (g + 1) (by omega) (by omega) hh
      cases L with
      | nil => simp at q1
      | cons a L =>
        rw [List.pairwise_cons] at h1
        have ha : a.2 = g + 1 := by
          have := h2 a List.mem_cons_self
          rcases List.mem_cons.mp q1 with e | e
          · rw [← e]; exact q2
          · have := h1.1 q e; omega
        have ih := hds_eq m (g + 1) L h1.2 (fun p hp => ⟨by have := h1.1 p hp; omega, by have := h2 p (List.mem_cons_of_mem _ hp); omega, (h2 p (List.mem_cons_of_mem _ hp)).2.2⟩) (fun h a1 a2 a3 => by
          obtain ⟨p, p1, p2⟩ := h3 h (by omega) (by omega) a3
          rcases List.mem_cons.mp p1 with e | e
          · rw [e] at p2; omega
          · exact ⟨p, e, p2⟩)
        rw [if_pos (@decide_eq_true _ (Classical.propDecidable _) hh), ih, List.map_cons, ha]; rfl
    · have ih := hds_eq m (g + 1) L h1 (fun p hp => by
        obtain ⟨a, b, c⟩ := h2 p hp
        refine ⟨?_, by omega, c⟩
        rcases Nat.lt_or_ge (g + 1) p.2 with d | d
        · exact d
        · have : p.2 = g + 1 := by omega
          rw [this] at c; exact absurd c hh) (fun h a1 a2 a3 => h3 h (by omega) (by omega) a3)
      rw [if_neg (by simpa using hh), ih]; rfl
/-- RELATIONS of one TERM from GROUPS -/
theorem prs_gp {Rs : List Nat} (hn : 1 ≤ Rs.length) : ∃ q0 L, gpF Rs Rs.length = q0 :: L ∧ q0.2 = 0 ∧ prsR Rs = L.map (fun q => (Rs.getD 0 0, Rs.getD q.2 0)) := by
  obtain ⟨lab, h1, h2, h3, h4, h5⟩ := GrI_all Rs Rs.length (Nat.le_refl _)
  rw [List.take_length] at h1 h2
  obtain ⟨p, p1, p2⟩ := h4 0 hn
  have hl0 : lab 0 = 0 := by have := (h1 0 hn).1; omega
  cases hL : gpF Rs Rs.length with
  | nil => rw [hL] at p1; simp at p1
  | cons q0 L =>
    rw [hL] at h3 h4 h5 p1
    rw [List.pairwise_cons] at h5
    have e0 : q0.2 = 0 := by
      rcases List.mem_cons.mp p1 with e | e
      · rw [← e]; omega
      · have := h5.1 p e; omega
    refine ⟨q0, L, rfl, e0, ?_⟩
    unfold prsR
    refine hds_eq (Rs.length - 1) 0 L h5.2 (fun q hq => ?_) (fun h a1 a2 a3 => ?_)
    · obtain ⟨c1, c2, -⟩ := h3 q (List.mem_cons_of_mem _ hq)
      have := h5.1 q hq
      exact ⟨by omega, by omega, (lab_isH h2 h1 c1).mp c2⟩
    · have hh : h < Rs.length := by omega
      have hlab := (lab_isH h2 h1 hh).mpr a3
      obtain ⟨q, q1, q2⟩ := h4 h hh
      rcases List.mem_cons.mp q1 with e | e
      · rw [e] at q2; omega
      · exact ⟨q, e, by omega⟩
