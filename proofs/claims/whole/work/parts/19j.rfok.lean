/-! ===== the reference's grid is as it should be ===== -/
theorem rcF_ok {M : LZ} {n fr low fu w : Nat} {bf : Nat → Nat → Nat} {qf : Nat → Nat} {Zu : LZ} (hf : 2 ^ 63 + 1 ≤ fu) (hn : n ≤ 7) : ∀ q j (s : RS), j + q ≤ 10 → (∀ k, j ≤ k → k < j + q → w = if k < 3 then 6 else 1) → (∀ k, j ≤ k → k < j + q → ∀ i, fr ≤ i → i < n → i - fr ≤ k - low → SGn i w (bf i) (bf (i + 1)) ∧ ∃ a, 1 ≤ qf i ∧ qf i ≤ 2 ^ 63 ∧ a < 2 ^ 63 ∧ (∀ c, k ≤ c → c < 10 → bf i 1 * wtc [c] ≤ a ∧ bf i 2 * wtc [k, c] ≤ a) ∧ qf i * (a + 1) ≤ qf (i + 1)) → RSI M n fr low bf qf Zu j s → ∃ u, rcF n fr low fu q j s = some u ∧ RSI M n fr low bf qf Zu (j + q) u
  | 0, j, s, _, _, _, h => ⟨s, rfl, h⟩
  | q + 1, j, s, hj, hw, hc, h => by
    obtain ⟨u, e, h2⟩ : ∃ u, rcS n fr low fu j s = some u ∧ RSI M n fr low bf qf Zu (j + 1) u := by
      by_cases hi : s.2.1 < n
      · obtain ⟨h3, a, h4⟩ := hc j (Nat.le_refl _) (by omega) s.2.1 h.1 hi h.2.2.2.1
        exact rcS_ok (a := a) hf hn (by omega) (hw j (Nat.le_refl _) (by omega)) (fun _ => h3) (fun _ => h4) h
      · exact rcS_ok (a := 0) hf hn (by omega) (hw j (Nat.le_refl _) (by omega)) (fun q => absurd q hi) (fun q => absurd q hi) h
    obtain ⟨v, e2, h3⟩ := rcF_ok hf hn q (j + 1) u (by omega) (fun k a b => hw k (by omega) (by omega)) (fun k a b => hc k (by omega) (by omega)) h2
    exact ⟨v, by unfold rcF; rw [e]; exact e2, by rw [show j + (q + 1) = j + 1 + q by omega]; exact h3⟩
theorem grP_sg {w j : Nat} {pv : Nat → Nat} {R : LZ} {z : Nat → Int} : ∀ k, (∀ x y, x < y → y < k → pv x < pv y) → (∀ x, x < k → pv x < w) → sgZ w (fun c => z c * grP k pv R c j) = sgZ k (fun x => z (pv x) * R x j)
  | 0, _, _ => by
    rw [sgZ]
    exact sg_z _ (fun c _ => by show z c * (0 : Int) = 0; omega)
  | k + 1, hm, hb => by
    have ih := grP_sg (w := w) (j := j) (R := R) (z := z) k (fun x y a b => hm x y a (by omega)) (fun x a => hb x (by omega))
    rw [sgZ, ← ih, sg_set (g := fun c => z c * grP k pv R c j) (k := pv k) w (hb k (by omega)) (fun c _ hc => by
      show z c * grP (k + 1) pv R c j = _
      rw [grP, if_neg (fun q => hc q.symm)])]
    have e1 : grP k pv R (pv k) = fun _ => 0 := grP_no k (fun i hi q => by have := hm i k hi (by omega); omega)
    have e2 : grP (k + 1) pv R (pv k) = R k := by rw [grP, if_pos rfl]
    show _ - z (pv k) * grP k pv R (pv k) j + z (pv k) * grP (k + 1) pv R (pv k) j = _
    rw [e1, e2]
    show _ - z (pv k) * (0 : Int) + _ = _
    omega
/-- numbers for pivot columns out of numbers for rows -/
theorem grP_z {k x : Nat} {pv : Nat → Nat} (z : Nat → Int) (hx : x < k) (hm : ∀ x y, x < y → y < k → pv x < pv y) : grP k pv (fun x _ => z x) (pv x) 0 = z x := by rw [grP_at k x hx hm]
theorem grP_hn {w k : Nat} {pv : Nat → Nat} {Z : LZ} (hm : ∀ x y, x < y → y < k → pv x < pv y) (h0 : ∀ x, x < k → 0 < Z x (pv x) ∧ ∀ c, c < pv x → Z x c = 0) (hr : ∀ x y, x < y → y < k → 0 ≤ Z x (pv y) ∧ Z x (pv y) < Z y (pv y)) : HN w (grP k pv Z) := by
  have cs : ∀ c, (∃ x, x < k ∧ pv x = c ∧ grP k pv Z c = Z x) ∨ ((∀ x, x < k → pv x ≠ c) ∧ grP k pv Z c = fun _ => 0) := fun c => by
    by_cases e : ∃ x, x < k ∧ pv x = c
    · obtain ⟨x, hx, e⟩ := e
      exact Or.inl ⟨x, hx, e, by rw [← e]; exact grP_at k x hx hm⟩
    · have : ∀ x, x < k → pv x ≠ c := fun x hx q => e ⟨x, hx, q⟩
      exact Or.inr ⟨this, grP_no k this⟩
  refine ⟨fun c j _ hj => ?_, fun c _ => ?_, fun c _ h j _ => ?_, fun a c hac _ hp => ?_⟩
  · rcases cs c with ⟨x, hx, e, er⟩ | ⟨-, er⟩
    · rw [er]; exact (h0 x hx).2 j (by omega)
    · rw [er]
  · rcases cs c with ⟨x, hx, e, er⟩ | ⟨-, er⟩
    · rw [er, ← e]; exact Int.le_of_lt (h0 x hx).1
    · rw [er]; exact Int.le_refl _
  · rcases cs c with ⟨x, hx, e, er⟩ | ⟨-, er⟩
    · rw [er, ← e] at h
      have := (h0 x hx).1
      omega
    · rw [er]
  · rcases cs c with ⟨y, hy, e, er⟩ | ⟨-, er⟩
    · rw [er, ← e] at hp ⊢
      rcases cs a with ⟨x, hx, e2, er2⟩ | ⟨-, er2⟩
      · rw [er2]
        refine hr x y ?_ hy
        by_cases q : x < y
        · exact q
        · by_cases q2 : x = y
          · subst q2; omega
          · have := hm y x (by omega) hx; omega
      · rw [er2]; exact ⟨Int.le_refl _, hp⟩
    · rw [er] at hp; exact absurd hp (Int.lt_irrefl 0)
theorem rf_e {n e : Nat} {M Z : LZ} {pv : Nat → Nat} (hsp : ∀ x, spMz M n x ↔ spMz Z n x) (hen : e ≤ n) (hm : ∀ x y, x < y → y < e → pv x < pv y) (hb : ∀ x, x < e → pv x < 3) (hz : ∀ k c, e ≤ k → k < n → c < 3 → Z k c = 0) : ∀ y, spL0 3 (grP e pv Z) y ↔ spE M n y := by
  intro y
  have sp : ∀ (z : Nat → Int) j, j < 3 → sgZ n (fun q => z q * Z q j) = sgZ e (fun q => z q * Z q j) := fun z j hj => by
    have := sg_split (fun q => z q * Z q j) e (n - e)
    rw [show e + (n - e) = n by omega] at this
    rw [this, sg_z (f := fun c => z (e + c) * Z (e + c) j) (n - e) (fun c hc => by
      show z (e + c) * Z (e + c) j = 0
      rw [hz (e + c) j (by omega) (by omega) hj, Int.mul_zero])]; omega
  constructor
  · rintro ⟨z, h⟩
    refine ⟨fun j => sgZ n (fun q => (if q < e then z (pv q) else 0) * Z q j), (hsp _).mpr ⟨fun q => if q < e then z (pv q) else 0, fun j _ => rfl⟩, fun j hj => ?_⟩
    rw [h j hj, grP_sg e hm hb]
    show _ = sgZ n (fun q => (if q < e then z (pv q) else 0) * Z q j)
    rw [sp (fun q => if q < e then z (pv q) else 0) j hj]
    exact sg_c _ (fun x hx => by show z (pv x) * Z x j = (if x < e then z (pv x) else 0) * Z x j; rw [if_pos hx])
  · rintro ⟨x, hx, hy⟩
    obtain ⟨z, h⟩ := (hsp x).mp hx
    refine ⟨fun c => grP e pv (fun x _ => z x) c 0, fun j hj => ?_⟩
    rw [hy j hj, h j (by omega), sp z j hj, grP_sg e hm hb]
    exact sg_c _ (fun x hx => by show z x * Z x j = grP e pv (fun x _ => z x) (pv x) 0 * Z x j; rw [grP_z z hx hm])
theorem rf_k {n e k : Nat} {M Z : LZ} {pe pv : Nat → Nat} (hsp : ∀ x, spMz M n x ↔ spMz Z n x) (hen : e + k ≤ n) (hme : ∀ x y, x < y → y < e → pe x < pe y) (hbe : ∀ x, x < e → pe x < 3) (hue : ∀ x, x < e → 0 < Z x (pe x) ∧ ∀ c, c < pe x → Z x c = 0) (h3 : ∀ q c, e ≤ q → q < n → c < 3 → Z q c = 0) (hm : ∀ x y, x < y → y < k → pv x < pv y) (hb : ∀ x, x < k → pv x < 7) (hz : ∀ q c, e + k ≤ q → q < n → c < 10 → Z q c = 0) : ∀ y, spL0 7 (grP k pv (fun i j => Z (e + i) (3 + j))) y ↔ spK M n y := by
  intro y
  have sp : ∀ (z : Nat → Int) j, j < 10 → (∀ q, q < e → z q * Z q j = 0) → sgZ n (fun q => z q * Z q j) = sgZ k (fun q => z (e + q) * Z (e + q) j) := fun z j hj h0 => by
    have a := sg_split (fun q => z q * Z q j) e (n - e)
    rw [show e + (n - e) = n by omega, sg_z e h0] at a
    have b := sg_split (fun c => z (e + c) * Z (e + c) j) k (n - e - k)
    rw [show k + (n - e - k) = n - e by omega, sg_z (f := fun c => z (e + (k + c)) * Z (e + (k + c)) j) (n - e - k) (fun c hc => by
      show z (e + (k + c)) * Z (e + (k + c)) j = 0
      rw [hz (e + (k + c)) j (by omega) (by omega) hj, Int.mul_zero])] at b
    omega
  constructor
  · rintro ⟨z, h⟩
    refine ⟨fun j => sgZ n (fun q => (if e ≤ q ∧ q < e + k then z (pv (q - e)) else 0) * Z q j), (hsp _).mpr ⟨fun q => if e ≤ q ∧ q < e + k then z (pv (q - e)) else 0, fun j _ => rfl⟩, fun j hj => ?_, fun j hj => ?_⟩
    · show sgZ n _ = 0
      refine sg_z _ (fun q hq => ?_)
      by_cases c : e ≤ q ∧ q < e + k
      · rw [if_pos c, h3 q j c.1 hq hj, Int.mul_zero]
      · rw [if_neg c, Int.zero_mul]
    · rw [h j hj, grP_sg k hm hb]
      show _ = sgZ n (fun q => (if e ≤ q ∧ q < e + k then z (pv (q - e)) else 0) * Z q (3 + j))
      rw [sp (fun q => if e ≤ q ∧ q < e + k then z (pv (q - e)) else 0) (3 + j) (by omega) (fun q hq => by show (if e ≤ q ∧ q < e + k then z (pv (q - e)) else 0) * _ = 0; rw [if_neg (by omega), Int.zero_mul])]
      exact sg_c _ (fun x hx => by
        show z (pv x) * Z (e + x) (3 + j) = (if e ≤ e + x ∧ e + x < e + k then z (pv (e + x - e)) else 0) * Z (e + x) (3 + j)
        rw [if_pos (by omega), show e + x - e = x by omega])
  · rintro ⟨x, hx, hx0, hy⟩
    obtain ⟨z, h⟩ := (hsp x).mp hx
    have ze : ∀ q, q < e → z q = 0 := by
      intro q
      induction q using Nat.strongRecOn with
      | ind q ih =>
        intro hq
        have e1 := h (pe q) (by have := hbe q hq; omega)
        rw [hx0 _ (hbe q hq), sg_1 (k := q) n (by omega) (fun c hc hne => by
          by_cases c1 : c < q
          · rw [ih c c1 (by omega), Int.zero_mul]
          · by_cases c2 : c < e
            · rw [(hue c c2).2 _ (hme q c (by omega) c2), Int.mul_zero]
            · rw [h3 c _ (by omega) hc (hbe q hq), Int.mul_zero])] at e1
        rcases Int.mul_eq_zero.mp e1.symm with g | g
        · exact g
        · have := (hue q hq).1; omega
    refine ⟨fun c => grP k pv (fun x _ => z (e + x)) c 0, fun j hj => ?_⟩
    rw [hy j hj, h (3 + j) (by omega), sp z (3 + j) (by omega) (fun q hq => by rw [ze q hq, Int.zero_mul]), grP_sg k hm hb]
    exact sg_c _ (fun x hx => by
      show z (e + x) * Z (e + x) (3 + j) = grP k pv (fun x _ => z (e + x)) (pv x) 0 * Z (e + x) (3 + j)
      rw [grP_z (fun x => z (e + x)) hx hm])
theorem wt_6 (c : Nat) : wtc [c] ≤ 6 := by
  show (if c < 3 then 6 else 1) * 1 ≤ 6
  split <;> omega
theorem wt_36 (j c : Nat) : wtc [j, c] ≤ 36 := by
  show (if j < 3 then 6 else 1) * ((if c < 3 then 6 else 1) * 1) ≤ 36
  split <;> split <;> omega
theorem rf_ok {Gt : GT} (hn : gN Gt ≤ 7) (hg : ∀ g, g < gN Gt → gL Gt g < 84) : RfOK Gt (mzOf Gt) := by
  have hfu : 2 ^ 63 + 1 ≤ fuC := by unfold fuC; omega
  obtain ⟨s, e1, hs⟩ := rcF_ok (M := mzOf Gt) (n := gN Gt) (fr := 0) (low := 0) (w := 6) (bf := bfE) (qf := qfE) (Zu := mzOf Gt) hfu hn 3 0 (laM Gt, 0, fun _ => 0) (by omega) (fun k a b => by rw [if_pos (by omega)]) (fun k a b i c d f => ⟨SGn.e (by omega), max (6 * bfE i 1) (36 * bfE i 2), by
    obtain ⟨q1, q2, q3, q4⟩ := qf_e (i := i) (by omega)
    refine ⟨q1, q2, q3, fun c _ _ => ⟨?_, ?_⟩, q4⟩
    · have := Nat.mul_le_mul_left (bfE i 1) (wt_6 c)
      omega
    · have := Nat.mul_le_mul_left (bfE i 2) (wt_36 k c)
      omega⟩) ⟨Nat.le_refl _, Nat.zero_le _, Nat.le_refl _, Nat.le_refl _, by
    obtain ⟨E, E1, E2, E3⟩ := laM_H hg
    intro cs σ h1 h2 h3
    have := EI.bd (n := gN Gt) (Z := tvL (laM Gt)) ⟨E, E1, E2, E3⟩ cs.length cs σ rfl (fun c hc => (h1 c hc).2) (fun k hk => (h3 k hk).2)
    refine Nat.le_trans this ?_
    have h2 : cs.length ≤ gN Gt - 0 := h2
    show wtc cs ≤ bE_0 cs.length * wtc cs
    have : bE_0 cs.length = 1 := by
      have : cs.length = 0 ∨ cs.length = 1 ∨ cs.length = 2 ∨ cs.length = 3 ∨ cs.length = 4 ∨ cs.length = 5 ∨ cs.length = 6 ∨ cs.length = 7 := by omega
      rcases this with q | q | q | q | q | q | q | q <;> rw [q] <;> rfl
    rw [this, Nat.one_mul]; exact Nat.le_refl _, mzOf Gt, ⟨fun q _ => RC.of (fun _ => rfl), fun x => Iff.rfl⟩, fun k c _ _ _ => rfl, fun k c _ _ h => absurd h (Nat.not_lt_zero c), fun q hq => absurd hq (Nat.not_lt_zero q), fun x hx => absurd hx (Nat.not_lt_zero x), fun x y _ hy => absurd hy (Nat.not_lt_zero y), fun x c hx => absurd hx (Nat.not_lt_zero x)⟩
  obtain ⟨R, e, pe⟩ := s
  obtain ⟨f1, f2, f3, f4, hMB, Z, z1, z2, z3, z4, z5, z6, z7⟩ := hs
  have f2 : e ≤ gN Gt := f2
  have f4 : e - 0 ≤ 3 - 0 := f4
  have p5 : ∀ x, x < e → pe x < 3 ∧ 0 < Z x (pe x) ∧ rg (Z x (pe x)) ∧ ∀ c, c < pe x → Z x c = 0 := fun x hx => by
    have := z5 x (show x < e - 0 by omega)
    simp only [Nat.zero_add] at this
    exact this
  have p6 : ∀ x y, x < y → y < e → pe x < pe y ∧ 0 ≤ Z x (pe y) ∧ Z x (pe y) < Z y (pe y) := fun x y h1 h2 => by
    have := z6 x y h1 (show y < e - 0 by omega)
    simp only [Nat.zero_add] at this
    exact this
  have zl : ∀ k c, e ≤ k → k < gN Gt → c < 3 → Z k c = 0 := fun k c h1 h2 h3 => by
    rw [z2 k c h1 h2 (by omega)]; exact tv_0 (z3 k c h1 h2 (by omega))
  -- the second block
  obtain ⟨u, e2, hu⟩ := rcF_ok (M := mzOf Gt) (n := gN Gt) (fr := e) (low := 3) (w := 1) (bf := bfR e) (qf := qfR e) (Zu := Z) hfu hn 7 3 (R, e, pe) (by omega) (fun k a b => by rw [if_neg (by omega)]) (fun k a b i c d f => ⟨SGn.r (by omega) c (by omega), max (bfR e i 1) (bfR e i 2), by
    obtain ⟨q1, q2, q3, q4⟩ := qf_r (e := e) (i := i) (by omega) c (by omega)
    refine ⟨q1, q2, q3, fun c h1 h2 => ⟨?_, ?_⟩, q4⟩
    · have : wtc [c] = 1 := by show (if c < 3 then 6 else 1) * 1 = 1; rw [if_neg (by omega)]
      rw [this]; omega
    · have : wtc [k, c] = 1 := by show (if k < 3 then 6 else 1) * ((if c < 3 then 6 else 1) * 1) = 1; rw [if_neg (by omega), if_neg (by omega)]
      rw [this]; omega⟩) ⟨Nat.le_refl _, f2, Nat.le_refl _, by show e - e ≤ 3 - 3; omega, by
    show MBd e (gN Gt) 3 (fun cs => bfR e e cs.length * wtc cs) (tvL R)
    rw [bf_er (by omega)]
    exact hMB, Z, z1, z2, z3, fun _ _ => rfl, fun x hx => by have hx : x < e - e := hx; omega, fun x y _ hy => by have hy : y < e - e := hy; omega, fun x c hx => by have hx : x < e - e := hx; omega⟩
  obtain ⟨R', i, pv⟩ := u
  obtain ⟨g1, g2, g3, g4, -, Y, y1, y2, y3, y4, y5, y6, y7⟩ := hu
  have g1 : e ≤ i := g1
  have g2 : i ≤ gN Gt := g2
  have l0 : laG Gt 0 = (e, (fun i j => if j < 3 then R i j else 0), pe) := by
    unfold laG laF
    rw [e1]
    rfl
  have l1 : laG Gt 1 = (i - e, (fun q j => R' (e + q) (3 + j)), pv) := by
    unfold laG laF
    rw [e1]
    show (if (1 : Nat) = 0 then _ else match rcF (gN Gt) e 3 fuC 7 3 (R, e, pe) with
      | none => none
      | some u => some (u.2.1 - e, fun i j => u.1 (e + i) (3 + j), u.2.2)).getD _ = _
    rw [if_neg (by decide), e2]
    rfl
  refine ⟨⟨Z, ?_⟩, ⟨fun q j => Y (e + q) (3 + j), ?_⟩⟩
  · rw [l0]
    refine ⟨fun x y h1 h2 => (p6 x y h1 h2).1, fun x hx => (p5 x hx).1, fun x j hx hj => ?_, fun x hx => ⟨(p5 x hx).2.2.1, (p5 x hx).2.1⟩, grP_hn (fun x y h1 h2 => (p6 x y h1 h2).1) (fun x hx => ⟨(p5 x hx).2.1, (p5 x hx).2.2.2⟩) (fun x y h1 h2 => (p6 x y h1 h2).2), rf_e z1.2 f2 (fun x y h1 h2 => (p6 x y h1 h2).1) (fun x hx => (p5 x hx).1) zl⟩
    have hx : x < e := hx
    obtain ⟨t, et⟩ := z1.1 x (by omega) j
    exact ⟨t, by show Z x j = (if j < 3 then R x j else 0).toInt + _; rw [if_pos hj]; exact et⟩
  · rw [l1]
    have r5 : ∀ x, x < i - e → pv x < 7 ∧ 0 < Y (e + x) (3 + pv x) ∧ rg (Y (e + x) (3 + pv x)) ∧ ∀ c, c < 3 + pv x → Y (e + x) c = 0 := fun x hx => by
      have := y5 x hx
      have a : 3 + pv x < 3 + 7 := this.1
      exact ⟨by omega, this.2⟩
    have r6 : ∀ x y, x < y → y < i - e → pv x < pv y ∧ 0 ≤ Y (e + x) (3 + pv y) ∧ Y (e + x) (3 + pv y) < Y (e + y) (3 + pv y) := y6
    refine ⟨fun x y h1 h2 => (r6 x y h1 h2).1, fun x hx => (r5 x hx).1, fun x j hx hj => ?_, fun x hx => ⟨(r5 x hx).2.2.1, (r5 x hx).2.1⟩, grP_hn (fun x y h1 h2 => (r6 x y h1 h2).1) (fun x hx => ⟨(r5 x hx).2.1, fun c hc => (r5 x hx).2.2.2 (3 + c) (Nat.add_lt_add_left hc 3)⟩) (fun x y h1 h2 => (r6 x y h1 h2).2), rf_k (pe := pe) y1.2 (by show e + (i - e) ≤ gN Gt; omega) (fun x y h1 h2 => (p6 x y h1 h2).1) (fun x hx => (p5 x hx).1) (fun x hx => by rw [y4 x hx]; exact ⟨(p5 x hx).2.1, (p5 x hx).2.2.2⟩) (fun q c h1 h2 h3 => ?_) (fun x y h1 h2 => (r6 x y h1 h2).1) (fun x hx => (r5 x hx).1) (fun q c h1 h2 h3 => ?_)⟩
    · have hx : x < i - e := hx
      obtain ⟨t, et⟩ := y1.1 (e + x) (by omega) (3 + j)
      exact ⟨t, et⟩
    · by_cases q1 : q < i
      · have := (r5 (q - e) (by omega)).2.2.2 c (by omega)
        rwa [show e + (q - e) = q by omega] at this
      · rw [y2 q c (show i ≤ q by omega) h2 (by omega)]
        exact tv_0 (y3 q c (show i ≤ q by omega) h2 (by omega))
    · have h1 : e + (i - e) ≤ q := h1
      rw [y2 q c (show i ≤ q by omega) h2 h3]
      exact tv_0 (y3 q c (show i ≤ q by omega) h2 (by omega))
