/-! ===== rows in any order; cofactors under a swap, a step ===== -/
theorem mn_tp {cs : List Nat} {ρ : LZ} {i j : Nat} (hi : i < cs.length) (hj : j < cs.length) (hn : i ≠ j) : mn cs (upn (upn ρ i (ρ j)) j (ρ i)) = - mn cs ρ := by
  have lx : ∀ (x y z : Nat → Int), mn cs (upn (upn ρ i (fun c => 1 * x c + 1 * y c)) j z) = mn cs (upn (upn ρ i x) j z) + mn cs (upn (upn ρ i y) j z) := fun x y z => by
    rw [upn_cm _ _ _ hn, mn_l cs _ i x y 1 1 hi, upn_cm _ _ _ (fun q => hn q.symm), upn_cm _ y z hn]; omega
  have ly : ∀ (x y z : Nat → Int), mn cs (upn (upn ρ i z) j (fun c => 1 * x c + 1 * y c)) = mn cs (upn (upn ρ i z) j x) + mn cs (upn (upn ρ i z) j y) := fun x y z => by
    rw [mn_l cs _ j x y 1 1 hj]; omega
  have zz : ∀ x : Nat → Int, mn cs (upn (upn ρ i x) j x) = 0 := fun x => mn_rr (i := i) (j := j) hi hj hn (by rw [upn_at, upn_ne _ _ hn, upn_at])
  have k := zz (fun c => 1 * ρ i c + 1 * ρ j c)
  rw [lx, ly, ly, zz, zz, upn_self, upn_self] at k
  omega
theorem mn_tr {cs : List Nat} {ρ : LZ} {b : Nat} (hb : b < cs.length) (h0 : b ≠ 0) : mn cs (fun x => ρ (trN b x)) = - mn cs ρ := by
  rw [← mn_tp (ρ := ρ) (i := 0) (j := b) (by omega) hb (fun q => h0 q.symm)]
  refine congrArg (mn cs) ?_
  funext x
  unfold trN
  by_cases e : x = b
  · rw [e, upn_at, if_neg h0, if_pos rfl]
  · rw [upn_ne _ _ e]
    by_cases e2 : x = 0
    · rw [e2, upn_at, if_pos rfl]
    · rw [upn_ne _ _ e2, if_neg e2, if_neg e]
theorem cof_u {cs : List Nat} {ρ : LZ} {y : Nat} (hc : ∀ c, c ∈ cs → c < 10) (hy : y < cs.length + 1) : cofZ cs ρ y = mn (10 :: cs) (fun x c => if c = 10 then (if x = y then 1 else 0) else ρ x c) := by
  rw [mn_cof, sg_1 (k := y) _ hy (fun x _ hx => by rw [if_pos rfl, if_neg hx, Int.zero_mul]), if_pos rfl, if_pos rfl, Int.one_mul]
  unfold cofZ
  refine congrArg (sg1 y * ·) (mn_c _ _ _ (fun k hk c hm => ?_))
  have := hc c hm
  by_cases e : k < y
  · rw [sk_lt _ e, sk_lt _ e, if_neg (by omega)]
  · rw [sk_ge _ (by omega), sk_ge _ (by omega), if_neg (by omega)]
theorem trN_trN (b x : Nat) : trN b (trN b x) = x := by
  unfold trN
  by_cases e : x = 0
  · rw [if_pos e]
    by_cases q : b = 0
    · rw [if_pos q]; omega
    · rw [if_neg q, if_pos rfl]; exact e.symm
  · rw [if_neg e]
    by_cases q : x = b
    · rw [if_pos q, if_pos rfl]; exact q.symm
    · rw [if_neg q, if_neg e, if_neg q]
theorem cof_tr {cs : List Nat} {ρ : LZ} {b y : Nat} (hc : ∀ c, c ∈ cs → c < 10) (hb : b < cs.length + 1) (h0 : b ≠ 0) (hy : y < cs.length + 1) : cofZ cs (fun x => ρ (trN b x)) y = - cofZ cs ρ (trN b y) := by
  rw [cof_u hc hy, cof_u hc (trN_lt hb hy), ← mn_tr (cs := 10 :: cs) (b := b) (by rw [List.length_cons]; exact hb) h0]
  refine mn_c _ _ _ (fun k _ c _ => ?_)
  show (if c = 10 then (if k = y then (1 : Int) else 0) else ρ (trN b k) c) = if c = 10 then (if trN b k = trN b y then 1 else 0) else ρ (trN b k) c
  by_cases e : k = y
  · rw [e, if_pos rfl, if_pos rfl]
  · have q : ¬ trN b k = trN b y := fun q => e (by rw [← trN_trN b k, q, trN_trN])
    rw [if_neg e, if_neg q]
theorem cof_bl (j : Nat) (cs : List Nat) (ρ : LZ) : sgZ ((j :: cs).length + 1) (fun x => ρ x j * cofZ (j :: cs) ρ x) = 0 := by
  rw [← mn_cof, mn_cc]
theorem cof_st {j n : Nat} {cs : List Nat} {ρ ρ' : LZ} {t : Nat → Int} (hp : ρ 0 j ≠ 0) (hZ : ∀ k, k < n → ∀ c, c ∈ j :: cs → ρ' k c = ρ k c - t k * ρ 0 c) (ht : t 0 = 0) (hn : cs.length + 1 < n) {y : Nat} (hy : y ≤ cs.length + 1) (h0 : y ≠ 0) : cofZ (j :: cs) ρ' y = cofZ (j :: cs) ρ y := by
  unfold cofZ
  have e := mn_in (i := 0) (n := n) (j := j) (cs := cs) (Z := ρ) (Z' := ρ') (t := t) hp (fun k _ hk c hc => hZ k hk c hc) ht (σ := sk y (fun k => k)) (fun x hx => ⟨Nat.zero_le _, by
    by_cases q : x < y
    · rw [sk_lt _ q]; omega
    · rw [sk_ge _ (by omega)]; omega⟩) (x := 0) (by omega) (sk_lt _ (by omega))
  have s1 : ∀ r : LZ, (fun k => r (sk y (fun k => k) k)) = sk y r := fun r => (sk_cm r (fun k => k) y).symm
  rw [s1, s1] at e
  rw [e]
/-- rows in rising order -/
theorem mn_so {cs : List Nat} {Z : LZ} {lo n : Nat} : ∀ (N : Nat) (σ : Nat → Nat), (∀ x, x < cs.length → lo ≤ σ x ∧ σ x < n) → ((cs.length * (cs.length * n) : Nat) : Int) ≤ sgZ cs.length (fun y => (y : Int) * (σ y : Int)) + N → mn cs (fun k => Z (σ k)) = 0 ∨ ∃ τ : Nat → Nat, (∀ x, x < cs.length → lo ≤ τ x ∧ τ x < n) ∧ (∀ x, x + 1 < cs.length → τ x < τ (x + 1)) ∧ (mn cs (fun k => Z (σ k))).natAbs = (mn cs (fun k => Z (τ k))).natAbs := by
  intro N
  induction N with
  | zero =>
    intro σ hs hN
    have ub : sgZ cs.length (fun y => (y : Int) * (σ y : Int)) ≤ ((cs.length * (cs.length * n) : Nat) : Int) := by
      refine Int.le_trans (sg_le (g := fun _ => ((cs.length * n : Nat) : Int)) _ (fun k hk => ?_)) (by rw [sg_ct, ← Int.natCast_mul]; exact Int.le_refl _)
      rw [← Int.natCast_mul]
      have := Nat.mul_le_mul (Nat.le_of_lt hk) (Nat.le_of_lt (hs k hk).2)
      omega
    by_cases e : ∃ y, y + 1 < cs.length ∧ σ (y + 1) < σ y
    · exfalso
      obtain ⟨y, hy, hlt⟩ := e
      have hs' : ∀ x, x < cs.length → lo ≤ upn (upn σ y (σ (y + 1))) (y + 1) (σ y) x ∧ upn (upn σ y (σ (y + 1))) (y + 1) (σ y) x < n := fun x hx => by
        by_cases q : x = y + 1
        · rw [q, upn_at]; exact hs y (by omega)
        · rw [upn_ne _ _ q]
          by_cases q2 : x = y
          · rw [q2, upn_at]; exact hs (y + 1) hy
          · rw [upn_ne _ _ q2]; exact hs x hx
      have ub' : sgZ cs.length (fun x => (x : Int) * ((upn (upn σ y (σ (y + 1))) (y + 1) (σ y) x : Nat) : Int)) ≤ ((cs.length * (cs.length * n) : Nat) : Int) := by
        refine Int.le_trans (sg_le (g := fun _ => ((cs.length * n : Nat) : Int)) _ (fun k hk => ?_)) (by rw [sg_ct, ← Int.natCast_mul]; exact Int.le_refl _)
        rw [← Int.natCast_mul]
        have := Nat.mul_le_mul (Nat.le_of_lt hk) (Nat.le_of_lt (hs' k hk).2)
        omega
      have e1 := sg_set (f := fun x => (x : Int) * ((upn σ y (σ (y + 1)) x : Nat) : Int)) (g := fun x => (x : Int) * (σ x : Int)) (k := y) cs.length (by omega) (fun c _ hc => by show (c : Int) * ((upn σ y (σ (y + 1)) c : Nat) : Int) = _; rw [upn_ne _ _ hc])
      have e2 := sg_set (f := fun x => (x : Int) * ((upn (upn σ y (σ (y + 1))) (y + 1) (σ y) x : Nat) : Int)) (g := fun x => (x : Int) * ((upn σ y (σ (y + 1)) x : Nat) : Int)) (k := y + 1) cs.length hy (fun c _ hc => by show (c : Int) * ((upn (upn σ y (σ (y + 1))) (y + 1) (σ y) c : Nat) : Int) = _; rw [upn_ne _ _ hc])
      simp only [upn_at] at e1 e2
      rw [upn_ne _ _ (show y + 1 ≠ y by omega)] at e2
      have e3 : ((y + 1 : Nat) : Int) * ((σ y : Nat) : Int) = (y : Int) * (σ y : Int) + σ y := by rw [Int.natCast_add, Int.add_mul]; omega
      have e4 : ((y + 1 : Nat) : Int) * ((σ (y + 1) : Nat) : Int) = (y : Int) * (σ (y + 1) : Int) + σ (y + 1) := by rw [Int.natCast_add, Int.add_mul]; omega
      omega
    · by_cases e2 : ∃ y, y + 1 < cs.length ∧ σ y = σ (y + 1)
      · obtain ⟨y, hy, he⟩ := e2
        exact Or.inl (mn_e cs _ y hy (by show Z (σ y) = Z (σ (y + 1)); rw [he]))
      · refine Or.inr ⟨σ, hs, fun x hx => ?_, rfl⟩
        by_cases q : σ x < σ (x + 1)
        · exact q
        · by_cases q2 : σ x = σ (x + 1)
          · exact absurd ⟨x, hx, q2⟩ e2
          · exact absurd ⟨x, hx, by omega⟩ e
  | succ N ih =>
    intro σ hs hN
    by_cases e : ∃ y, y + 1 < cs.length ∧ σ (y + 1) < σ y
    · obtain ⟨y, hy, hlt⟩ := e
      have hs' : ∀ x, x < cs.length → lo ≤ upn (upn σ y (σ (y + 1))) (y + 1) (σ y) x ∧ upn (upn σ y (σ (y + 1))) (y + 1) (σ y) x < n := fun x hx => by
        by_cases q : x = y + 1
        · rw [q, upn_at]; exact hs y (by omega)
        · rw [upn_ne _ _ q]
          by_cases q2 : x = y
          · rw [q2, upn_at]; exact hs (y + 1) hy
          · rw [upn_ne _ _ q2]; exact hs x hx
      have e1 := sg_set (f := fun x => (x : Int) * ((upn σ y (σ (y + 1)) x : Nat) : Int)) (g := fun x => (x : Int) * (σ x : Int)) (k := y) cs.length (by omega) (fun c _ hc => by show (c : Int) * ((upn σ y (σ (y + 1)) c : Nat) : Int) = _; rw [upn_ne _ _ hc])
      have e2 := sg_set (f := fun x => (x : Int) * ((upn (upn σ y (σ (y + 1))) (y + 1) (σ y) x : Nat) : Int)) (g := fun x => (x : Int) * ((upn σ y (σ (y + 1)) x : Nat) : Int)) (k := y + 1) cs.length hy (fun c _ hc => by show (c : Int) * ((upn (upn σ y (σ (y + 1))) (y + 1) (σ y) c : Nat) : Int) = _; rw [upn_ne _ _ hc])
      simp only [upn_at] at e1 e2
      rw [upn_ne _ _ (show y + 1 ≠ y by omega)] at e2
      have e3 : ((y + 1 : Nat) : Int) * ((σ y : Nat) : Int) = (y : Int) * (σ y : Int) + σ y := by rw [Int.natCast_add, Int.add_mul]; omega
      have e4 : ((y + 1 : Nat) : Int) * ((σ (y + 1) : Nat) : Int) = (y : Int) * (σ (y + 1) : Int) + σ (y + 1) := by rw [Int.natCast_add, Int.add_mul]; omega
      have sw : mn cs (fun k => Z (upn (upn σ y (σ (y + 1))) (y + 1) (σ y) k)) = - mn cs (fun k => Z (σ k)) := by
        rw [← mn_s hy]
        refine congrArg (mn cs) ?_
        funext k
        unfold swp
        by_cases q : k = y + 1
        · rw [q, upn_at, upn_at]
        · rw [upn_ne _ _ q, upn_ne _ _ q]
          by_cases q2 : k = y
          · rw [q2, upn_at, upn_at]
          · rw [upn_ne _ _ q2, upn_ne _ _ q2]
      rcases ih _ hs' (by omega) with h | ⟨τ, t1, t2, t3⟩
      · left; rw [sw] at h; omega
      · right; exact ⟨τ, t1, t2, by rw [← t3, sw, Int.natAbs_neg]⟩
    · by_cases e2 : ∃ y, y + 1 < cs.length ∧ σ y = σ (y + 1)
      · obtain ⟨y, hy, he⟩ := e2
        exact Or.inl (mn_e cs _ y hy (by show Z (σ y) = Z (σ (y + 1)); rw [he]))
      · refine Or.inr ⟨σ, hs, fun x hx => ?_, rfl⟩
        by_cases q : σ x < σ (x + 1)
        · exact q
        · by_cases q2 : σ x = σ (x + 1)
          · exact absurd ⟨x, hx, q2⟩ e2
          · exact absurd ⟨x, hx, by omega⟩ e
theorem inc_lo {τ : Nat → Nat} {s lo : Nat} (h1 : ∀ x, x < s → lo ≤ τ x) (h2 : ∀ x, x + 1 < s → τ x < τ (x + 1)) : ∀ x, x < s → lo + x ≤ τ x
  | 0, h => h1 0 h
  | x + 1, h => by
    have := inc_lo h1 h2 x (by omega)
    have := h2 x h
    omega
theorem inc_hi {τ : Nat → Nat} {s n : Nat} (h1 : ∀ x, x < s → τ x < n) (h2 : ∀ x, x + 1 < s → τ x < τ (x + 1)) : ∀ d x, x + d + 1 = s → τ x + d + 1 ≤ n
  | 0, x, h => h1 x (by omega)
  | d + 1, x, h => by
    have := inc_hi h1 h2 d (x + 1) (by omega)
    have := h2 x (by omega)
    omega
/-- as many rows as there are -/
theorem mn_c0 {cs : List Nat} {Z : LZ} {lo n B : Nat} (hl : cs.length = n - lo) (hB : (mn cs (fun x => Z (lo + x))).natAbs ≤ B) {σ : Nat → Nat} (hs : ∀ x, x < cs.length → lo ≤ σ x ∧ σ x < n) : (mn cs (fun k => Z (σ k))).natAbs ≤ B := by
  rcases mn_so (Z := Z) (cs.length * (cs.length * n)) σ hs (by
    have := sg_le (f := fun _ => 0) (g := fun y => (y : Int) * (σ y : Int)) cs.length (fun k _ => by rw [← Int.natCast_mul]; omega)
    rw [sg_ct] at this
    omega) with h | ⟨τ, t1, t2, t3⟩
  · rw [h]; exact Nat.zero_le _
  · rw [t3, mn_c cs (fun k => Z (τ k)) (fun x => Z (lo + x)) (fun k hk c _ => by
      have a := inc_lo (fun x hx => (t1 x hx).1) t2 k hk
      have b := inc_hi (fun x hx => (t1 x hx).2) t2 (cs.length - k - 1) k (by omega)
      show Z (τ k) c = Z (lo + k) c
      rw [show τ k = lo + k by omega])]
    exact hB
theorem inc_z {τ : Nat → Nat} {s lo : Nat} (h1 : ∀ x, x < s → lo + x ≤ τ x ∧ τ x ≤ lo + x + 1) (h2 : ∀ x, x + 1 < s → τ x < τ (x + 1)) : ∀ k, k ≤ s → ∃ z, z ≤ k ∧ ∀ x, x < k → τ x = lo + if x < z then x else x + 1
  | 0, _ => ⟨0, Nat.le_refl _, fun x hx => by omega⟩
  | k + 1, hk => by
    obtain ⟨z, hz, h⟩ := inc_z h1 h2 k (by omega)
    have a := h1 k (by omega)
    by_cases e : τ k = lo + k
    · refine ⟨k + 1, Nat.le_refl _, fun x hx => ?_⟩
      rw [if_pos hx]
      by_cases q : x = k
      · rw [q]; exact e
      · have hx2 := h x (by omega)
        by_cases q2 : x < z
        · rw [hx2, if_pos q2]
        · exfalso
          have hk1 := h (k - 1) (by omega)
          rw [if_neg (by omega)] at hk1
          have := h2 (k - 1) (by omega)
          rw [show k - 1 + 1 = k by omega] at this hk1
          omega
    · refine ⟨z, by omega, fun x hx => ?_⟩
      by_cases q : x = k
      · rw [q, if_neg (by omega)]; omega
      · exact h x (by omega)
/-- one row fewer than there are -/
theorem mn_c1 {cs : List Nat} {Z : LZ} {lo n B : Nat} (hl : cs.length + 1 = n - lo) (hB : ∀ z, z ≤ cs.length → (mn cs (sk z (fun x => Z (lo + x)))).natAbs ≤ B) {σ : Nat → Nat} (hs : ∀ x, x < cs.length → lo ≤ σ x ∧ σ x < n) : (mn cs (fun k => Z (σ k))).natAbs ≤ B := by
  rcases mn_so (Z := Z) (cs.length * (cs.length * n)) σ hs (by
    have := sg_le (f := fun _ => 0) (g := fun y => (y : Int) * (σ y : Int)) cs.length (fun k _ => by rw [← Int.natCast_mul]; omega)
    rw [sg_ct] at this
    omega) with h | ⟨τ, t1, t2, t3⟩
  · rw [h]; exact Nat.zero_le _
  · obtain ⟨z, hz, h⟩ := inc_z (s := cs.length) (lo := lo) (fun x hx => by
      have a := inc_lo (fun x hx => (t1 x hx).1) t2 x hx
      have b := inc_hi (fun x hx => (t1 x hx).2) t2 (cs.length - x - 1) x (by omega)
      omega) t2 cs.length (Nat.le_refl _)
    rw [t3, mn_c cs (fun k => Z (τ k)) (sk z (fun x => Z (lo + x))) (fun k hk c _ => by
      show Z (τ k) c = sk z (fun x => Z (lo + x)) k c
      rw [h k hk]
      by_cases q : k < z
      · rw [if_pos q, sk_lt _ q]
      · rw [if_neg q, sk_ge _ (by omega)])]
    exact hB z hz
