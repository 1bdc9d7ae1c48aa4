/-! ===== a pass of the machine's rows ===== -/
def MBd (i n j : Nat) (bd : List Nat → Nat) (Z : LZ) : Prop := ∀ (cs : List Nat) (σ : Nat → Nat), (∀ c, c ∈ cs → j ≤ c ∧ c < 10) → cs.length ≤ n - i → (∀ x, x < cs.length → i ≤ σ x ∧ σ x < n) → (mn cs (fun x => Z (σ x))).natAbs ≤ bd cs
theorem MBd.mono {i n j : Nat} {bd : List Nat → Nat} {Z : LZ} (h : MBd i n j bd Z) : MBd i n (j + 1) bd Z := fun cs σ h1 h2 h3 => h cs σ (fun c hc => ⟨by have := (h1 c hc).1; omega, (h1 c hc).2⟩) h2 h3
theorem MBd.e1 {i n j : Nat} {bd : List Nat → Nat} {Z : LZ} (h : MBd i n j bd Z) {k c : Nat} (h1 : i ≤ k) (h2 : k < n) (h3 : j ≤ c) (h4 : c < 10) : (Z k c).natAbs ≤ bd [c] := by
  have := h [c] (fun _ => k) (fun d hd => by rw [List.mem_singleton] at hd; omega) (by show 1 ≤ n - i; omega) (fun _ _ => ⟨h1, h2⟩)
  rwa [mn_1] at this
theorem MBd.e2 {i n j : Nat} {bd : List Nat → Nat} {R : LM} (h : MBd i n j bd (tvL R)) {k l c : Nat} (h1 : i ≤ k) (h2 : k < n) (h3 : i ≤ l) (h4 : l < n) (hj : j < 10) (h5 : j ≤ c) (h6 : c < 10) : (pm2 R j c k l).natAbs ≤ bd [j, c] := by
  by_cases e : k = l
  · have : pm2 R j c k l = 0 := by unfold pm2; rw [e, Int.sub_self]
    rw [this]; exact Nat.zero_le _
  · have := h [j, c] (fun x => if x = 0 then k else l) (fun d hd => by
      rcases List.mem_cons.mp hd with q | q
      · omega
      · rw [List.mem_singleton] at q; omega) (by show 2 ≤ n - i; omega) (fun x _ => by split <;> omega)
    rw [mn_2] at this
    exact this
theorem clF_inv {i j n : Nat} (Inv : LM → Prop) (hs : ∀ R m, Inv R → lsF R i j (n - i) = m + 1 → Inv (rdQ (swR R i m) i j n)) : ∀ f R R2, Inv R → clF i j n f R = some (true, R2) → ∃ X, Inv X ∧ ¬ X i j = 0 ∧ R2 = if X i j < 0 then leR X i i 2 else X
  | 0, R, R2, _, e => by simp [clF] at e
  | f + 1, R, R2, hI, e => by
    rw [clF] at e
    by_cases e1 : lsF R i j (n - i) = 0
    · rw [if_pos e1] at e
      simp at e
    · rw [if_neg e1] at e
      obtain ⟨m, hm⟩ : ∃ m, lsF R i j (n - i) = m + 1 := ⟨lsF R i j (n - i) - 1, by omega⟩
      have hX := hs R m hI hm
      rw [hm, Nat.add_sub_cancel] at e
      by_cases e2 : 1 < smF R i j (n - i)
      · rw [if_pos e2] at e
        exact clF_inv Inv hs f _ R2 hX e
      · rw [if_neg e2] at e
        have e3 := (Prod.mk.inj (Option.some.inj e)).2
        refine ⟨rdQ (swR R i m) i j n, hX, ?_, e3.symm⟩
        rw [rd_i, sw_i]
        exact (lsF_b _ m hm).2.2
theorem sw_tv (R : LM) (i m k : Nat) : tvL (swR R i m) k = tvL R (swN i m k) := by
  funext c
  unfold tvL swR swN
  split
  · rfl
  · split <;> rfl
theorem ng_tv {x : Int64} (h : x.toInt.natAbs < 2 ^ 63) : (x - 2 * x).toInt = - x.toInt := by
  have e : x - 2 * x = - x := by grind
  rw [e, Int64.toInt_neg]
  exact Int.bmod_eq_of_le_mul_two (by omega) (by omega)
def uMB (j : Nat) (bd : List Nat → Nat) (c : Nat) : Nat := if j ≤ c ∧ c < 10 then max (bd [c]) (bd [j, c]) else 0
theorem pass_mb {i n j fu : Nat} {R : LM} {bd F : List Nat → Nat} (hf : 2 ^ 63 + 1 ≤ fu) (hin : i < n) (hj : j < 10) (hMB : MBd i n j bd (tvL R)) (hU : ∀ c, j ≤ c → c < 10 → bd [c] < 2 ^ 63 ∧ bd [j, c] < 2 ^ 63) (hF : 1 ≤ F []) (hK : ∀ cs : List Nat, (∀ c, c ∈ cs → j < c ∧ c < 10) → 1 ≤ cs.length → cs.length + 1 ≤ n - i → KQ (F cs) i n j cs (tvL R)) : (clF i j n fu R = some (false, R) ∧ ∀ k, i ≤ k → k < n → R k j = 0) ∨ ∃ R2, clF i j n fu R = some (true, R2) ∧ 0 < tvL R2 i j ∧ (∀ c, j ≤ c → c < 10 → (tvL R2 i c).natAbs ≤ uMB j bd c) ∧ (∀ k, i < k → k < n → R2 k j = 0) ∧ MBd (i + 1) n (j + 1) F (tvL R2) := by
  have hUb : ∀ c, uMB j bd c < 2 ^ 63 := fun c => by
    unfold uMB
    split
    · rename_i q; have := hU c q.1 q.2; omega
    · decide
  have hL : LIv i n j (uMB j bd) (uMB j bd) R := fun k c a1 a2 a3 a4 => by
    have ue : uMB j bd c = max (bd [c]) (bd [j, c]) := if_pos ⟨a3, a4⟩
    rw [ue]
    refine ⟨by have := hMB.e1 a1 a2 a3 a4; unfold tvL at this ⊢; omega, fun l b1 b2 => ?_⟩
    have := hMB.e2 a1 a2 b1 b2 hj a3 a4
    omega
  have hstep : ∀ R m, LIv i n j (uMB j bd) (uMB j bd) R → (∀ cs : List Nat, (∀ c, c ∈ cs → j < c ∧ c < 10) → 1 ≤ cs.length → cs.length + 1 ≤ n - i → KQ (F cs) i n j cs (tvL R)) → lsF R i j (n - i) = m + 1 → ∀ cs : List Nat, (∀ c, c ∈ cs → j < c ∧ c < 10) → 1 ≤ cs.length → cs.length + 1 ≤ n - i → KQ (F cs) i n j cs (tvL (rdQ (swR R i m) i j n)) := fun R m hI hk hl cs h1 h2 h3 => by
    obtain ⟨m1, m2, m3⟩ := lsF_b _ _ hl
    have hI2 := hI.sw m1 (show m < n by omega)
    have hp : ¬ swR R i m i j = 0 := by rw [sw_i]; exact m3
    refine KQ.st (m := m) (Z := tvL R) (Z1 := tvL (swR R i m)) hin m1 (by omega) hj (fun c hc => (h1 c hc).2) (fun k => sw_tv R i m k) (tv_ne hp) (fun k a b hne => ?_) (fun k a b c hc => ?_) ?_ (hk cs h1 h2 h3)
    · rw [sw_tv, sw_tv]
      have e1 : swN i m i = m := if_pos rfl
      rw [e1]
      rw [sw_tv] at hne
      obtain ⟨b1, b2⟩ := swN_b m1 (show m < n by omega) a b
      exact lsF_min _ _ (fun k a b => tv_nm (hI k j a (by omega) (Nat.le_refl _) hj).1 (hUb j)) hl _ b1 (by omega) (fun q => hne (tv_0 q))
    · rcases List.mem_cons.mp hc with q | q
      · exact (hI2.eq (fun _ => Nat.le_refl _) hUb hp hj a b (by omega) (by omega)).1
      · have := h1 c q
        exact (hI2.eq (fun _ => Nat.le_refl _) hUb hp hj a b (by omega) (by omega)).1
    · funext c; unfold tvL; rw [rd_i]
  rcases passL (f := fu) hf hin hj (fun _ => Nat.le_refl _) hUb hL (fun R => ∀ cs : List Nat, (∀ c, c ∈ cs → j < c ∧ c < 10) → 1 ≤ cs.length → cs.length + 1 ≤ n - i → KQ (F cs) i n j cs (tvL R)) hK hstep with h | ⟨R1, R2, e, -, -, h4, h5, -⟩
  · exact Or.inl h
  · right
    obtain ⟨X, ⟨hX1, hX2⟩, hX3, hX4⟩ := clF_inv (fun R => LIv i n j (uMB j bd) (uMB j bd) R ∧ ∀ cs : List Nat, (∀ c, c ∈ cs → j < c ∧ c < 10) → 1 ≤ cs.length → cs.length + 1 ≤ n - i → KQ (F cs) i n j cs (tvL R)) (fun R m hI hl => by
      obtain ⟨m1, m2, m3⟩ := lsF_b _ _ hl
      exact ⟨(hI.1.sw m1 (by omega)).rd (fun _ => Nat.le_refl _) hUb (by rw [sw_i]; exact m3) hj, hstep R m hI.1 hI.2 hl⟩) fu R R2 ⟨hL, hK⟩ e
    have ek : ∀ k, k ≠ i → R2 k = X k := fun k hk => by
      rw [hX4]; split
      · unfold leR; rw [upn_ne _ _ hk]
      · rfl
    have ei : ∀ c, j ≤ c → c < 10 → tvL R2 i c = if X i j < 0 then - tvL X i c else tvL X i c := fun c a b => by
      rw [hX4]
      have := (hX1 i c (Nat.le_refl _) hin a b).1
      have hb := hUb c
      split
      · unfold tvL leR
        rw [upn_at]
        exact ng_tv (by unfold tvL at this; omega)
      · rfl
    have hsg : X i j < 0 ↔ tvL X i j < 0 := by unfold tvL; rw [Int64.lt_iff_toInt_lt]; rfl
    have hne := tv_ne hX3
    have hz : ∀ k, i < k → k < n → R2 k j = 0 := fun k a b => by rw [h5 k (by omega)]; exact h4 k a b
    refine ⟨R2, e, ?_, fun c a b => ?_, hz, fun cs σ h1 h2 h3 => ?_⟩
    · rw [ei j (Nat.le_refl _) hj]
      split
      · rename_i q; have := hsg.mp q; omega
      · rename_i q
        have : ¬ tvL X i j < 0 := fun z => q (hsg.mpr z)
        omega
    · rw [ei c a b]
      have := (hX1 i c (Nat.le_refl _) hin a b).1
      split <;> omega
    · have e2 : (fun x => tvL R2 (σ x)) = fun x => tvL R2 (σ x) := rfl
      by_cases hl : 1 ≤ cs.length
      · have hKc := hX2 cs (fun c hc => by have := h1 c hc; omega) hl (by omega)
        have hd := mn_dn hin hKc hne (fun k a b => by
          have := hz k a b
          rw [ek k (by omega)] at this
          exact tv_0 this) (σ := σ) (fun x hx => by have := h3 x hx; omega)
        rw [mn_c cs (fun x => tvL R2 (σ x)) (fun x => tvL X (σ x)) (fun x hx c _ => by
          have := h3 x hx
          show tvL R2 (σ x) c = tvL X (σ x) c
          unfold tvL; rw [ek _ (by omega)])]
        exact hd
      · have : cs = [] := List.eq_nil_of_length_eq_zero (by omega)
        rw [this]
        exact hF
/-! ===== numbers for the passes ===== -/
def ckB (S F T0 : Nat) : Bool := decide (T0 < (F + 1) * 2 * 2 ^ 21) && (List.range 20).all (fun t => decide (gF t * S ≤ F) || (List.range (T0 / ((F + 1) * 2 ^ (t + 1)))).all (fun P => decide (P * (gF t * S) < (F + 1) * (P + 1))))
theorem ckB_ok {S F T0 : Nat} (h : ckB S F T0 = true) : CK S F T0 := by
  unfold ckB at h
  rw [Bool.and_eq_true, decide_eq_true_eq, List.all_eq_true] at h
  obtain ⟨h1, h2⟩ := h
  intro t P w hP a b
  by_cases q : w ≤ F
  · exact q
  · exfalso
    have w1 : (F + 1) * P ≤ w * P := Nat.mul_le_mul_right _ (by omega)
    have w2 : (F + 1) * P * 2 ^ (t + 1) ≤ w * P * 2 ^ (t + 1) := Nat.mul_le_mul_right _ w1
    have P2 : 2 ≤ P := by
      by_cases p : P = 1
      · rw [p] at a w1
        omega
      · omega
    have w3 : (F + 1) * 2 * 2 ^ (t + 1) ≤ (F + 1) * P * 2 ^ (t + 1) := Nat.mul_le_mul_right _ (Nat.mul_le_mul_left _ P2)
    by_cases ht : t < 20
    · have h3 := h2 t (List.mem_range.mpr ht)
      rw [Bool.or_eq_true, decide_eq_true_eq, List.all_eq_true] at h3
      rcases h3 with h3 | h3
      · have g1 := Nat.mul_le_mul_left (P - 1) h3
        have g2 : (P - 1) * F + F = P * F := by
          have : P = (P - 1) + 1 := by omega
          rw [this, Nat.add_mul, Nat.add_sub_cancel]; omega
        have g3 : (F + 1) * P = P * F + P := by rw [Nat.mul_comm, Nat.mul_add]; omega
        omega
      · have hlt : P - 1 < T0 / ((F + 1) * 2 ^ (t + 1)) := by
          have hpos : 0 < (F + 1) * 2 ^ (t + 1) := Nat.mul_pos (by omega) (Nat.pow_pos (by omega))
          have : P ≤ T0 / ((F + 1) * 2 ^ (t + 1)) := (Nat.le_div_iff_mul_le hpos).mpr (by
            have : P * ((F + 1) * 2 ^ (t + 1)) = (F + 1) * P * 2 ^ (t + 1) := by grind
            omega)
          omega
        have h4 := h3 (P - 1) (List.mem_range.mpr hlt)
        rw [decide_eq_true_eq, show P - 1 + 1 = P by omega] at h4
        omega
    · have p1 : (2 : Nat) ^ 21 ≤ 2 ^ (t + 1) := Nat.pow_le_pow_right (by omega) (by omega)
      have p2 := Nat.mul_le_mul_left ((F + 1) * 2) p1
      omega
theorem CK.sc {S F T0 k : Nat} (h : CK S F T0) (hk : 1 ≤ k) : CK (S * k) ((F + 1) * k) (T0 * k) := by
  intro t P w hP a b
  have hd : w / k * k ≤ w := Nat.div_mul_le_self _ _
  have h1 : w / k * P ≤ (P - 1) * (gF t * S) := by
    refine Nat.le_of_mul_le_mul_right (?_ : w / k * P * k ≤ (P - 1) * (gF t * S) * k) hk
    have := Nat.mul_le_mul_right P hd
    have e1 : w / k * k * P = w / k * P * k := by grind
    have e2 : (P - 1) * (gF t * (S * k)) = (P - 1) * (gF t * S) * k := by grind
    omega
  have h2 : w / k * P * 2 ^ (t + 1) ≤ T0 := by
    refine Nat.le_of_mul_le_mul_right (?_ : w / k * P * 2 ^ (t + 1) * k ≤ T0 * k) hk
    have := Nat.mul_le_mul_right (P * 2 ^ (t + 1)) hd
    have e1 : w / k * k * (P * 2 ^ (t + 1)) = w / k * P * 2 ^ (t + 1) * k := by grind
    have e2 : w * (P * 2 ^ (t + 1)) = w * P * 2 ^ (t + 1) := by grind
    omega
  have h3 := h t P (w / k) hP h1 h2
  have h4 : w < (w / k + 1) * k := by
    have := Nat.lt_div_mul_add (a := w) (b := k) hk
    rw [Nat.add_mul]; omega
  have h5 : (w / k + 1) * k ≤ (F + 1) * k := Nat.mul_le_mul_right _ (by omega)
  omega
def hpB (hs : Nat → Nat) (u s Pm : Nat) : Bool := (List.range (Pm + 1)).all (fun P => decide (u ≤ hs P) && (List.range P).all (fun P2 => decide ((min (P2 - 1) (P - P2) + (s - 2) * min (P2 - 1) (P - 1 - P2)) * hs P2 ≤ P2 * hs P ∧ hs P2 ≤ hs P)))
theorem hpB_ok {hs : Nat → Nat} {u s Pm : Nat} (h : hpB hs u s Pm = true) : HPc hs u s Pm := by
  unfold hpB at h
  rw [List.all_eq_true] at h
  intro P hP
  have h1 := h P (List.mem_range.mpr (by omega))
  rw [Bool.and_eq_true, decide_eq_true_eq, List.all_eq_true] at h1
  refine ⟨h1.1, fun P2 a b => ?_⟩
  have := h1.2 P2 (List.mem_range.mpr b)
  rwa [decide_eq_true_eq] at this
theorem HPc.s2 (Pm : Nat) : HPc (fun _ => 1) 1 2 Pm := fun P _ => ⟨Nat.le_refl _, fun P2 a b => by
  show (min (P2 - 1) (P - P2) + (2 - 2) * min (P2 - 1) (P - 1 - P2)) * 1 ≤ P2 * 1 ∧ 1 ≤ 1
  rw [Nat.sub_self, Nat.zero_mul]
  omega⟩
def h3F (P : Nat) : Nat := max 21 (4 * (P + 1))
theorem HPc.s3 (Pm : Nat) : HPc h3F 21 3 Pm := fun P _ => by
  refine ⟨by unfold h3F; omega, fun P2 a b => ⟨?_, by unfold h3F; omega⟩⟩
  unfold h3F
  rw [show 3 - 2 = 1 from rfl, Nat.one_mul]
  by_cases q : P2 ≤ 4
  · rw [show max 21 (4 * (P2 + 1)) = 21 by omega]
    have : P2 = 1 ∨ P2 = 2 ∨ P2 = 3 ∨ P2 = 4 := by omega
    rcases this with rfl | rfl | rfl | rfl <;> omega
  · generalize hf : min (P2 - 1) (P - P2) + min (P2 - 1) (P - 1 - P2) = f
    rw [Nat.max_eq_right (by omega), Nat.max_eq_right (by omega)]
    have h1 : f * P2 ≤ (P - 2) * P2 := Nat.mul_le_mul_right _ (by omega)
    have h2 : (P - 2) * P2 + 2 * P2 = P * P2 := by rw [← Nat.add_mul]; congr 1; omega
    have h3 : f * (4 * (P2 + 1)) = 4 * (f * P2) + 4 * f := by grind
    have h4 : P2 * (4 * (P + 1)) = 4 * (P * P2) + 4 * P2 := by grind
    omega
