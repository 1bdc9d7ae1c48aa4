/-! ===== numbers for the passes, one after another ===== -/
def tbL (l : List Nat) (s : Nat) : Nat := l.getD s 0
def h3T (P : Nat) : Nat := tbL [1000, 1000, 1000, 1000, 1000, 1000, 1334, 1334, 1500, 1500, 1600, 2001, 2224, 2224, 2287, 2438, 2625, 2625, 2667, 2729, 3093, 3457, 3639, 3892, 4078, 4078, 4106, 4106, 4248, 4389, 4551, 4758, 4922, 4922, 4942, 4942, 5038, 5104, 5433, 5762, 6091, 6421, 6585, 6782, 6948, 7277, 7446, 7647, 7817, 7817, 7830, 7830, 7897, 7897, 7908, 8041, 8193, 8324, 8476, 8647, 8799, 9056, 9210, 9383, 9537] P
def h4T (P : Nat) : Nat := tbL [1000, 1000, 1000, 1000, 1500, 1500, 2000, 2625, 3375, 3375, 3600, 4334, 5000, 6000, 6750, 8016, 8860, 8860, 9000, 9000, 9850, 11032, 11820, 12924, 14308, 15693, 16616, 18170, 19773, 21376, 22445, 23812, 24919, 24919, 25017, 25017, 25500, 25500, 25742, 27318, 28894] P
def h5T (P : Nat) : Nat := tbL [1000, 1000, 1000, 1000, 2000, 2000, 2667, 4500, 6000] P
theorem HPc.le {hs : Nat → Nat} {u s Pm Pn : Nat} (h : HPc hs u s Pm) (hl : Pn ≤ Pm) : HPc hs u s Pn := fun P hP => h P (by omega)
theorem HPc.t3 : HPc h3T 1000 3 64 := hpB_ok (by decide +kernel)
theorem HPc.t4 : HPc h4T 1000 4 40 := hpB_ok (by decide +kernel)
theorem HPc.t5 : HPc h5T 1000 5 8 := hpB_ok (by decide +kernel)
def SGn (i w : Nat) (b b' : Nat → Nat) : Prop := b' 0 = 1 ∧ ∀ s, 2 ≤ s → s ≤ 7 - i → (s = 7 - i ∧ b s * w ≤ b' (s - 1)) ∨ (s + 1 = 7 - i ∧ 1 ≤ b' (s - 1) ∧ b s * w ≤ b' (s - 1) ∧ CK ((7 - i) * (b s * w)) (b' (s - 1) - 1) ((b 1 * w * ((7 - i) * (b s * w)) + 1) / 2)) ∨ (s + 1 ≤ 7 - i ∧ ∃ (hs : Nat → Nat) (u : Nat), 1 ≤ u ∧ HPc hs u s (b 1 * w + 1) ∧ b s * w * hs (b 1 * w + 1) ≤ u * b' (s - 1))
def bE_0 : Nat → Nat := tbL [1, 1, 1, 1, 1, 1, 1, 1]
def bE_1 : Nat → Nat := tbL [1, 6, 9, 16, 27, 22, 6]
def bE_2 : Nat → Nat := tbL [1, 54, 490, 4131, 793, 36]
def bE_3 : Nat → Nat := tbL [1, 2940, 1539093, 59476, 216]
def bR_01 : Nat → Nat := tbL [1, 1, 1, 1, 1, 2, 1]
def bR_02 : Nat → Nat := tbL [1, 1, 1, 1, 2, 1]
def bR_03 : Nat → Nat := tbL [1, 1, 1, 2, 1]
def bR_04 : Nat → Nat := tbL [1, 1, 2, 1]
def bR_05 : Nat → Nat := tbL [1, 2, 1]
def bR_06 : Nat → Nat := tbL [1, 1]
def bR_07 : Nat → Nat := tbL [1]
def bR_12 : Nat → Nat := tbL [1, 9, 22, 71, 67, 6]
def bR_13 : Nat → Nat := tbL [1, 22, 114, 224, 6]
def bR_14 : Nat → Nat := tbL [1, 114, 747, 6]
def bR_15 : Nat → Nat := tbL [1, 747, 6]
def bR_16 : Nat → Nat := tbL [1, 6]
def bR_17 : Nat → Nat := tbL [1]
def bR_23 : Nat → Nat := tbL [1, 490, 33218, 4461, 36]
def bR_24 : Nat → Nat := tbL [1, 33218, 45540, 36]
def bR_25 : Nat → Nat := tbL [1, 45540, 36]
def bR_26 : Nat → Nat := tbL [1, 36]
def bR_27 : Nat → Nat := tbL [1]
def bR_34 : Nat → Nat := tbL [1, 1539093, 1366090, 216]
def bR_35 : Nat → Nat := tbL [1, 1366090, 216]
def bR_36 : Nat → Nat := tbL [1, 216]
def bR_37 : Nat → Nat := tbL [1]
theorem sgE_0 : SGn 0 6 bE_0 bE_1 := by
  refine ⟨rfl, fun s h1 h2 => ?_⟩
  have : s = 2 ∨ s = 3 ∨ s = 4 ∨ s = 5 ∨ s = 6 ∨ s = 7 := by omega
  rcases this with rfl | rfl | rfl | rfl | rfl | rfl
  · exact Or.inr (Or.inr ⟨by decide, _, 1, by decide, HPc.s2 _, by decide +kernel⟩)
  · exact Or.inr (Or.inr ⟨by decide, h3T, 1000, by decide, HPc.t3.le (by decide +kernel), by decide +kernel⟩)
  · exact Or.inr (Or.inr ⟨by decide, h4T, 1000, by decide, HPc.t4.le (by decide +kernel), by decide +kernel⟩)
  · exact Or.inr (Or.inr ⟨by decide, h5T, 1000, by decide, HPc.t5.le (by decide +kernel), by decide +kernel⟩)
  · exact Or.inr (Or.inl ⟨rfl, by decide +kernel, by decide +kernel, ckB_ok (by decide +kernel)⟩)
  · exact Or.inl ⟨rfl, by decide +kernel⟩
theorem sgE_1 : SGn 1 6 bE_1 bE_2 := by
  refine ⟨rfl, fun s h1 h2 => ?_⟩
  have : s = 2 ∨ s = 3 ∨ s = 4 ∨ s = 5 ∨ s = 6 := by omega
  rcases this with rfl | rfl | rfl | rfl | rfl
  · exact Or.inr (Or.inr ⟨by decide, _, 1, by decide, HPc.s2 _, by decide +kernel⟩)
  · exact Or.inr (Or.inr ⟨by decide, h3T, 1000, by decide, HPc.t3.le (by decide +kernel), by decide +kernel⟩)
  · exact Or.inr (Or.inr ⟨by decide, h4T, 1000, by decide, HPc.t4.le (by decide +kernel), by decide +kernel⟩)
  · exact Or.inr (Or.inl ⟨rfl, by decide +kernel, by decide +kernel, ckB_ok (by decide +kernel)⟩)
  · exact Or.inl ⟨rfl, by decide +kernel⟩
theorem sgE_2 : SGn 2 6 bE_2 bE_3 := by
  refine ⟨rfl, fun s h1 h2 => ?_⟩
  have : s = 2 ∨ s = 3 ∨ s = 4 ∨ s = 5 := by omega
  rcases this with rfl | rfl | rfl | rfl
  · exact Or.inr (Or.inr ⟨by decide, _, 1, by decide, HPc.s2 _, by decide +kernel⟩)
  · exact Or.inr (Or.inr ⟨by decide, h3F, 21, by decide, HPc.s3 _, by decide +kernel⟩)
  · exact Or.inr (Or.inl ⟨rfl, by decide +kernel, by decide +kernel, ckB_ok (by decide +kernel)⟩)
  · exact Or.inl ⟨rfl, by decide +kernel⟩
theorem sgR_00 : SGn 0 1 bE_0 bR_01 := by
  refine ⟨rfl, fun s h1 h2 => ?_⟩
  have : s = 2 ∨ s = 3 ∨ s = 4 ∨ s = 5 ∨ s = 6 ∨ s = 7 := by omega
  rcases this with rfl | rfl | rfl | rfl | rfl | rfl
  · exact Or.inr (Or.inr ⟨by decide, _, 1, by decide, HPc.s2 _, by decide +kernel⟩)
  · exact Or.inr (Or.inr ⟨by decide, h3T, 1000, by decide, HPc.t3.le (by decide +kernel), by decide +kernel⟩)
  · exact Or.inr (Or.inr ⟨by decide, h4T, 1000, by decide, HPc.t4.le (by decide +kernel), by decide +kernel⟩)
  · exact Or.inr (Or.inr ⟨by decide, h5T, 1000, by decide, HPc.t5.le (by decide +kernel), by decide +kernel⟩)
  · exact Or.inr (Or.inl ⟨rfl, by decide +kernel, by decide +kernel, ckB_ok (by decide +kernel)⟩)
  · exact Or.inl ⟨rfl, by decide +kernel⟩
theorem sgR_01 : SGn 1 1 bR_01 bR_02 := by
  refine ⟨rfl, fun s h1 h2 => ?_⟩
  have : s = 2 ∨ s = 3 ∨ s = 4 ∨ s = 5 ∨ s = 6 := by omega
  rcases this with rfl | rfl | rfl | rfl | rfl
  · exact Or.inr (Or.inr ⟨by decide, _, 1, by decide, HPc.s2 _, by decide +kernel⟩)
  · exact Or.inr (Or.inr ⟨by decide, h3T, 1000, by decide, HPc.t3.le (by decide +kernel), by decide +kernel⟩)
  · exact Or.inr (Or.inr ⟨by decide, h4T, 1000, by decide, HPc.t4.le (by decide +kernel), by decide +kernel⟩)
  · exact Or.inr (Or.inl ⟨rfl, by decide +kernel, by decide +kernel, ckB_ok (by decide +kernel)⟩)
  · exact Or.inl ⟨rfl, by decide +kernel⟩
theorem sgR_02 : SGn 2 1 bR_02 bR_03 := by
  refine ⟨rfl, fun s h1 h2 => ?_⟩
  have : s = 2 ∨ s = 3 ∨ s = 4 ∨ s = 5 := by omega
  rcases this with rfl | rfl | rfl | rfl
  · exact Or.inr (Or.inr ⟨by decide, _, 1, by decide, HPc.s2 _, by decide +kernel⟩)
  · exact Or.inr (Or.inr ⟨by decide, h3T, 1000, by decide, HPc.t3.le (by decide +kernel), by decide +kernel⟩)
  · exact Or.inr (Or.inl ⟨rfl, by decide +kernel, by decide +kernel, ckB_ok (by decide +kernel)⟩)
  · exact Or.inl ⟨rfl, by decide +kernel⟩
theorem sgR_03 : SGn 3 1 bR_03 bR_04 := by
  refine ⟨rfl, fun s h1 h2 => ?_⟩
  have : s = 2 ∨ s = 3 ∨ s = 4 := by omega
  rcases this with rfl | rfl | rfl
  · exact Or.inr (Or.inr ⟨by decide, _, 1, by decide, HPc.s2 _, by decide +kernel⟩)
  · exact Or.inr (Or.inl ⟨rfl, by decide +kernel, by decide +kernel, ckB_ok (by decide +kernel)⟩)
  · exact Or.inl ⟨rfl, by decide +kernel⟩
theorem sgR_04 : SGn 4 1 bR_04 bR_05 := by
  refine ⟨rfl, fun s h1 h2 => ?_⟩
  have : s = 2 ∨ s = 3 := by omega
  rcases this with rfl | rfl
  · exact Or.inr (Or.inr ⟨by decide, _, 1, by decide, HPc.s2 _, by decide +kernel⟩)
  · exact Or.inl ⟨rfl, by decide +kernel⟩
theorem sgR_05 : SGn 5 1 bR_05 bR_06 := by
  refine ⟨rfl, fun s h1 h2 => ?_⟩
  have : s = 2 := by omega
  subst this
  exact Or.inl ⟨rfl, by decide +kernel⟩
theorem sgR_06 : SGn 6 1 bR_06 bR_07 := by
  refine ⟨rfl, fun s h1 h2 => ?_⟩
  omega
theorem sgR_11 : SGn 1 1 bE_1 bR_12 := by
  refine ⟨rfl, fun s h1 h2 => ?_⟩
  have : s = 2 ∨ s = 3 ∨ s = 4 ∨ s = 5 ∨ s = 6 := by omega
  rcases this with rfl | rfl | rfl | rfl | rfl
  · exact Or.inr (Or.inr ⟨by decide, _, 1, by decide, HPc.s2 _, by decide +kernel⟩)
  · exact Or.inr (Or.inr ⟨by decide, h3T, 1000, by decide, HPc.t3.le (by decide +kernel), by decide +kernel⟩)
  · exact Or.inr (Or.inr ⟨by decide, h4T, 1000, by decide, HPc.t4.le (by decide +kernel), by decide +kernel⟩)
  · exact Or.inr (Or.inl ⟨rfl, by decide +kernel, by decide +kernel, ckB_ok (by decide +kernel)⟩)
  · exact Or.inl ⟨rfl, by decide +kernel⟩
theorem sgR_12 : SGn 2 1 bR_12 bR_13 := by
  refine ⟨rfl, fun s h1 h2 => ?_⟩
  have : s = 2 ∨ s = 3 ∨ s = 4 ∨ s = 5 := by omega
  rcases this with rfl | rfl | rfl | rfl
  · exact Or.inr (Or.inr ⟨by decide, _, 1, by decide, HPc.s2 _, by decide +kernel⟩)
  · exact Or.inr (Or.inr ⟨by decide, h3T, 1000, by decide, HPc.t3.le (by decide +kernel), by decide +kernel⟩)
  · exact Or.inr (Or.inl ⟨rfl, by decide +kernel, by decide +kernel, ckB_ok (by decide +kernel)⟩)
  · exact Or.inl ⟨rfl, by decide +kernel⟩
theorem sgR_13 : SGn 3 1 bR_13 bR_14 := by
  refine ⟨rfl, fun s h1 h2 => ?_⟩
  have : s = 2 ∨ s = 3 ∨ s = 4 := by omega
  rcases this with rfl | rfl | rfl
  · exact Or.inr (Or.inr ⟨by decide, _, 1, by decide, HPc.s2 _, by decide +kernel⟩)
  · exact Or.inr (Or.inl ⟨rfl, by decide +kernel, by decide +kernel, ckB_ok (by decide +kernel)⟩)
  · exact Or.inl ⟨rfl, by decide +kernel⟩
theorem sgR_14 : SGn 4 1 bR_14 bR_15 := by
  refine ⟨rfl, fun s h1 h2 => ?_⟩
  have : s = 2 ∨ s = 3 := by omega
  rcases this with rfl | rfl
  · exact Or.inr (Or.inr ⟨by decide, _, 1, by decide, HPc.s2 _, by decide +kernel⟩)
  · exact Or.inl ⟨rfl, by decide +kernel⟩
theorem sgR_15 : SGn 5 1 bR_15 bR_16 := by
  refine ⟨rfl, fun s h1 h2 => ?_⟩
  have : s = 2 := by omega
  subst this
  exact Or.inl ⟨rfl, by decide +kernel⟩
theorem sgR_16 : SGn 6 1 bR_16 bR_17 := by
  refine ⟨rfl, fun s h1 h2 => ?_⟩
  omega
theorem sgR_22 : SGn 2 1 bE_2 bR_23 := by
  refine ⟨rfl, fun s h1 h2 => ?_⟩
  have : s = 2 ∨ s = 3 ∨ s = 4 ∨ s = 5 := by omega
  rcases this with rfl | rfl | rfl | rfl
  · exact Or.inr (Or.inr ⟨by decide, _, 1, by decide, HPc.s2 _, by decide +kernel⟩)
  · exact Or.inr (Or.inr ⟨by decide, h3T, 1000, by decide, HPc.t3.le (by decide +kernel), by decide +kernel⟩)
  · exact Or.inr (Or.inl ⟨rfl, by decide +kernel, by decide +kernel, ckB_ok (by decide +kernel)⟩)
  · exact Or.inl ⟨rfl, by decide +kernel⟩
theorem sgR_23 : SGn 3 1 bR_23 bR_24 := by
  refine ⟨rfl, fun s h1 h2 => ?_⟩
  have : s = 2 ∨ s = 3 ∨ s = 4 := by omega
  rcases this with rfl | rfl | rfl
  · exact Or.inr (Or.inr ⟨by decide, _, 1, by decide, HPc.s2 _, by decide +kernel⟩)
  · exact Or.inr (Or.inl ⟨rfl, by decide +kernel, by decide +kernel, ckB_ok (by decide +kernel)⟩)
  · exact Or.inl ⟨rfl, by decide +kernel⟩
theorem sgR_24 : SGn 4 1 bR_24 bR_25 := by
  refine ⟨rfl, fun s h1 h2 => ?_⟩
  have : s = 2 ∨ s = 3 := by omega
  rcases this with rfl | rfl
  · exact Or.inr (Or.inr ⟨by decide, _, 1, by decide, HPc.s2 _, by decide +kernel⟩)
  · exact Or.inl ⟨rfl, by decide +kernel⟩
theorem sgR_25 : SGn 5 1 bR_25 bR_26 := by
  refine ⟨rfl, fun s h1 h2 => ?_⟩
  have : s = 2 := by omega
  subst this
  exact Or.inl ⟨rfl, by decide +kernel⟩
theorem sgR_26 : SGn 6 1 bR_26 bR_27 := by
  refine ⟨rfl, fun s h1 h2 => ?_⟩
  omega
theorem sgR_33 : SGn 3 1 bE_3 bR_34 := by
  refine ⟨rfl, fun s h1 h2 => ?_⟩
  have : s = 2 ∨ s = 3 ∨ s = 4 := by omega
  rcases this with rfl | rfl | rfl
  · exact Or.inr (Or.inr ⟨by decide, _, 1, by decide, HPc.s2 _, by decide +kernel⟩)
  · exact Or.inr (Or.inl ⟨rfl, by decide +kernel, by decide +kernel, ckB_ok (by decide +kernel)⟩)
  · exact Or.inl ⟨rfl, by decide +kernel⟩
theorem sgR_34 : SGn 4 1 bR_34 bR_35 := by
  refine ⟨rfl, fun s h1 h2 => ?_⟩
  have : s = 2 ∨ s = 3 := by omega
  rcases this with rfl | rfl
  · exact Or.inr (Or.inr ⟨by decide, _, 1, by decide, HPc.s2 _, by decide +kernel⟩)
  · exact Or.inl ⟨rfl, by decide +kernel⟩
theorem sgR_35 : SGn 5 1 bR_35 bR_36 := by
  refine ⟨rfl, fun s h1 h2 => ?_⟩
  have : s = 2 := by omega
  subst this
  exact Or.inl ⟨rfl, by decide +kernel⟩
theorem sgR_36 : SGn 6 1 bR_36 bR_37 := by
  refine ⟨rfl, fun s h1 h2 => ?_⟩
  omega
def bfE : Nat → Nat → Nat
  | 0 => bE_0
  | 1 => bE_1
  | 2 => bE_2
  | _ => bE_3
def bf_0 : Nat → Nat → Nat
  | 0 => bE_0
  | 1 => bR_01
  | 2 => bR_02
  | 3 => bR_03
  | 4 => bR_04
  | 5 => bR_05
  | 6 => bR_06
  | _ => bR_07
def bf_1 : Nat → Nat → Nat
  | 1 => bE_1
  | 2 => bR_12
  | 3 => bR_13
  | 4 => bR_14
  | 5 => bR_15
  | 6 => bR_16
  | _ => bR_17
def bf_2 : Nat → Nat → Nat
  | 2 => bE_2
  | 3 => bR_23
  | 4 => bR_24
  | 5 => bR_25
  | 6 => bR_26
  | _ => bR_27
def bf_3 : Nat → Nat → Nat
  | 3 => bE_3
  | 4 => bR_34
  | 5 => bR_35
  | 6 => bR_36
  | _ => bR_37
def bfR : Nat → Nat → Nat → Nat
  | 0 => bf_0
  | 1 => bf_1
  | 2 => bf_2
  | _ => bf_3
def qfE (i : Nat) : Nat := tbL [1, 37, 12025, 212133025] i
def qf_0 (i : Nat) : Nat := tbL [1, 2, 4, 8, 16, 48, 144, 288] i
def qf_1 (i : Nat) : Nat := tbL [1, 1, 10, 230, 26450, 19784600, 14798880800, 103592165600] i
def qf_2 (i : Nat) : Nat := tbL [1, 1, 1, 491, 16310529, 742797801189, 33827754663948249, 1251626922566085213] i
def qf_3 (i : Nat) : Nat := tbL [1, 1, 1, 1, 1539094, 2368810340836, 3236010487322992076, 702214275749089280492] i
def qfR : Nat → Nat → Nat
  | 0 => qf_0
  | 1 => qf_1
  | 2 => qf_2
  | _ => qf_3
theorem wtc_1 : ∀ cs, 1 ≤ wtc cs
  | [] => Nat.le_refl _
  | c :: cs => by
    have := wtc_1 cs
    show 1 ≤ (if c < 3 then 6 else 1) * wtc cs
    split <;> omega
theorem SGn.kq {i n j w : Nat} {b b' : Nat → Nat} {Z : LZ} (hn : n ≤ 7) (hin : i < n) (hj : j < 10) (hw : w = if j < 3 then 6 else 1) (hS : SGn i w b b') (hMB : MBd i n j (fun cs => b cs.length * wtc cs) Z) (cs : List Nat) (hc : ∀ c, c ∈ cs → j < c ∧ c < 10) (hl : 1 ≤ cs.length) (hm : cs.length + 1 ≤ n - i) : KQ (b' cs.length * wtc cs) i n j cs Z := by
  have hcol : ∀ k, i ≤ k → k < n → (Z k j).natAbs ≤ b 1 * w := fun k h1 h2 => by
    have := hMB.e1 h1 h2 (Nat.le_refl _) hj
    have e : b ([j] : List Nat).length * wtc [j] = b 1 * w := by
      show b 1 * ((if j < 3 then 6 else 1) * 1) = _
      rw [hw, Nat.mul_one]
    have this : (Z k j).natAbs ≤ b ([j] : List Nat).length * wtc [j] := this
    omega
  have hmin : ∀ σ : Nat → Nat, (∀ x, x < cs.length + 1 → i ≤ σ x ∧ σ x < n) → (mn (j :: cs) (fun x => Z (σ x))).natAbs ≤ b (cs.length + 1) * w * wtc cs := fun σ hσ => by
    have := hMB (j :: cs) σ (fun c h => by
      rcases List.mem_cons.mp h with q | q
      · omega
      · have := hc c q; omega) (by rw [List.length_cons]; exact hm) (fun x hx => hσ x (by rw [List.length_cons] at hx; exact hx))
    have e : b (cs.length + 1) * w * wtc cs = b (cs.length + 1) * ((if j < 3 then 6 else 1) * wtc cs) := by rw [hw, Nat.mul_assoc]
    rw [e]
    exact this
  have h7 : 7 - i ≥ n - i := by omega
  rcases hS.2 (cs.length + 1) (by omega) (by omega) with ⟨h1, h2⟩ | ⟨h1, h2, h3, h4⟩ | ⟨h1, hs, u, h2, h3, h4⟩
  · rw [Nat.add_sub_cancel] at h2
    exact Or.inr (Or.inr ⟨by omega, fun σ hσ => Nat.le_trans (hmin σ hσ) (Nat.mul_le_mul_right _ h2)⟩)
  · rw [Nat.add_sub_cancel] at h2 h3 h4
    by_cases q : cs.length + 1 = n - i
    · exact Or.inr (Or.inr ⟨q, fun σ hσ => Nat.le_trans (hmin σ hσ) (Nat.mul_le_mul_right _ h3)⟩)
    · have q7 : 7 - i = n - i := by omega
      have hck := h4.sc (wtc_1 cs)
      rw [show b' cs.length - 1 + 1 = b' cs.length by omega] at hck
      refine Or.inr (Or.inl ⟨_, _, hck, by omega, ?_⟩)
      have hD : b (cs.length + 1) * w * wtc cs ≤ b' cs.length * wtc cs := Nat.mul_le_mul_right _ h3
      have hcf : ∀ x, x < n - i → (cofZ (j :: cs) (fun x => Z (i + x)) x).natAbs ≤ b (cs.length + 1) * w * wtc cs := fun x hx => by
        unfold cofZ
        rw [sg1_na, show sk x (fun x => Z (i + x)) = fun k => Z (i + sk x (fun k => k) k) from sk_cm (fun x => Z (i + x)) (fun k => k) x]
        refine hmin (fun k => i + sk x (fun k => k) k) (fun y hy => ?_)
        by_cases p : y < x
        · rw [sk_lt _ p]; omega
        · rw [sk_ge _ (by omega)]; omega
      refine KW.mk (A := b 1 * w) (fun x hx => Nat.le_trans (hcf x hx) hD) (fun x hx => hcol (i + x) (by omega) (by omega)) ?_ ?_ ?_
      · refine Int.le_trans (sg_le (g := fun _ => ((b (cs.length + 1) * w * wtc cs : Nat) : Int)) _ (fun x hx => by have := hcf x hx; omega)) ?_
        rw [sg_ct, ← Int.natCast_mul, q7]
        have : (n - i) * (b (cs.length + 1) * w * wtc cs) = (n - i) * (b (cs.length + 1) * w) * wtc cs := (Nat.mul_assoc (n - i) _ _).symm
        omega
      · have e1 : b 1 * w * ((7 - i) * (b (cs.length + 1) * w) * wtc cs) = b 1 * w * ((7 - i) * (b (cs.length + 1) * w)) * wtc cs := by rw [← Nat.mul_assoc]
        rw [e1, ← Nat.mul_assoc 2]
        exact Nat.mul_le_mul_right _ (by omega)
      · have := cof_bl j cs (fun x => Z (i + x))
        rw [List.length_cons, show cs.length + 1 + 1 = n - i by omega] at this
        exact this
  · rw [Nat.add_sub_cancel] at h4
    refine Or.inl ⟨hs, u, _, h2, hl, h3, b 1 * w + 1, b (cs.length + 1) * w * wtc cs, Nat.le_refl _, by have := hcol i (Nat.le_refl _) hin; omega, fun k a c => by have := hcol k (by omega) c; omega, ?_, hmin⟩
    have e1 : b (cs.length + 1) * w * wtc cs * hs (b 1 * w + 1) = b (cs.length + 1) * w * hs (b 1 * w + 1) * wtc cs := by grind
    have e2 : u * (b' cs.length * wtc cs + 1) = u * b' cs.length * wtc cs + u := by grind
    have e3 := Nat.mul_le_mul_right (wtc cs) h4
    omega
theorem SGn.e {i : Nat} (h : i < 3) : SGn i 6 (bfE i) (bfE (i + 1)) := by
  have : i = 0 ∨ i = 1 ∨ i = 2 := by omega
  rcases this with rfl | rfl | rfl
  · exact sgE_0
  · exact sgE_1
  · exact sgE_2
theorem SGn.r {e i : Nat} (he : e ≤ 3) (h1 : e ≤ i) (h2 : i < 7) : SGn i 1 (bfR e i) (bfR e (i + 1)) := by
  have : e = 0 ∨ e = 1 ∨ e = 2 ∨ e = 3 := by omega
  rcases this with rfl | rfl | rfl | rfl
  · have : i = 0 ∨ i = 1 ∨ i = 2 ∨ i = 3 ∨ i = 4 ∨ i = 5 ∨ i = 6 := by omega
    rcases this with rfl | rfl | rfl | rfl | rfl | rfl | rfl
    · exact sgR_00
    · exact sgR_01
    · exact sgR_02
    · exact sgR_03
    · exact sgR_04
    · exact sgR_05
    · exact sgR_06
  · have : i = 1 ∨ i = 2 ∨ i = 3 ∨ i = 4 ∨ i = 5 ∨ i = 6 := by omega
    rcases this with rfl | rfl | rfl | rfl | rfl | rfl
    · exact sgR_11
    · exact sgR_12
    · exact sgR_13
    · exact sgR_14
    · exact sgR_15
    · exact sgR_16
  · have : i = 2 ∨ i = 3 ∨ i = 4 ∨ i = 5 ∨ i = 6 := by omega
    rcases this with rfl | rfl | rfl | rfl | rfl
    · exact sgR_22
    · exact sgR_23
    · exact sgR_24
    · exact sgR_25
    · exact sgR_26
  · have : i = 3 ∨ i = 4 ∨ i = 5 ∨ i = 6 := by omega
    rcases this with rfl | rfl | rfl | rfl
    · exact sgR_33
    · exact sgR_34
    · exact sgR_35
    · exact sgR_36
theorem qf_e {i : Nat} (h : i < 3) : 1 ≤ qfE i ∧ qfE i ≤ 2 ^ 63 ∧ max (6 * bfE i 1) (36 * bfE i 2) < 2 ^ 63 ∧ qfE i * (max (6 * bfE i 1) (36 * bfE i 2) + 1) ≤ qfE (i + 1) := by
  have : i = 0 ∨ i = 1 ∨ i = 2 := by omega
  rcases this with rfl | rfl | rfl <;> decide +kernel
theorem qf_r {e i : Nat} (he : e ≤ 3) (h1 : e ≤ i) (h2 : i < 7) : 1 ≤ qfR e i ∧ qfR e i ≤ 2 ^ 63 ∧ max (bfR e i 1) (bfR e i 2) < 2 ^ 63 ∧ qfR e i * (max (bfR e i 1) (bfR e i 2) + 1) ≤ qfR e (i + 1) := by
  have : e = 0 ∨ e = 1 ∨ e = 2 ∨ e = 3 := by omega
  rcases this with rfl | rfl | rfl | rfl
  · have : i = 0 ∨ i = 1 ∨ i = 2 ∨ i = 3 ∨ i = 4 ∨ i = 5 ∨ i = 6 := by omega
    rcases this with rfl | rfl | rfl | rfl | rfl | rfl | rfl <;> decide +kernel
  · have : i = 1 ∨ i = 2 ∨ i = 3 ∨ i = 4 ∨ i = 5 ∨ i = 6 := by omega
    rcases this with rfl | rfl | rfl | rfl | rfl | rfl <;> decide +kernel
  · have : i = 2 ∨ i = 3 ∨ i = 4 ∨ i = 5 ∨ i = 6 := by omega
    rcases this with rfl | rfl | rfl | rfl | rfl <;> decide +kernel
  · have : i = 3 ∨ i = 4 ∨ i = 5 ∨ i = 6 := by omega
    rcases this with rfl | rfl | rfl | rfl <;> decide +kernel
theorem bf_er {e : Nat} (h : e ≤ 3) : bfR e e = bfE e := by
  have : e = 0 ∨ e = 1 ∨ e = 2 ∨ e = 3 := by omega
  rcases this with rfl | rfl | rfl | rfl <;> rfl
