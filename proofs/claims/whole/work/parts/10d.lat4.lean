/-! ===== the LATTICE: numbers that stay small ===== -/
theorem nl1 {p x m b y : Int} {U : Nat} (e : p * x = m + b * y) (hm : m.natAbs ≤ U) (hy : y.natAbs ≤ U) (hb : b.natAbs < p.natAbs) : x.natAbs ≤ U := by
  have h1 : p.natAbs * x.natAbs ≤ U + b.natAbs * U := by
    rw [← Int.natAbs_mul, e]
    refine Nat.le_trans (Int.natAbs_add_le _ _) ?_
    rw [Int.natAbs_mul]
    exact Nat.add_le_add hm (Nat.mul_le_mul_left _ hy)
  have h2 : U + b.natAbs * U ≤ p.natAbs * U := by
    have : (b.natAbs + 1) * U ≤ p.natAbs * U := Nat.mul_le_mul_right _ hb
    rw [Nat.succ_mul] at this; omega
  exact Nat.le_of_mul_le_mul_left (Nat.le_trans h1 h2) (by omega)
def swdI (x y : Int) : Prop := 0 ≤ x ∧ x ≤ y ∨ y ≤ x ∧ x ≤ 0
theorem swd_mul {x y : Int} (h : swdI x y) (m : Int) : swdI (x * m) (y * m) := by
  by_cases hm : 0 ≤ m
  · rcases h with ⟨a, b⟩ | ⟨a, b⟩
    · exact Or.inl ⟨Int.mul_nonneg a hm, Int.mul_le_mul_of_nonneg_right b hm⟩
    · exact Or.inr ⟨Int.mul_le_mul_of_nonneg_right a hm, Int.mul_nonpos_of_nonpos_of_nonneg b hm⟩
  · have hm' : m ≤ 0 := by omega
    rcases h with ⟨a, b⟩ | ⟨a, b⟩
    · exact Or.inr ⟨Int.mul_le_mul_of_nonpos_right b hm', Int.mul_nonpos_of_nonneg_of_nonpos a hm'⟩
    · exact Or.inl ⟨Int.mul_nonneg_of_nonpos_of_nonpos b hm', Int.mul_le_mul_of_nonpos_right a hm'⟩
theorem swd_tmod (a p : Int) : swdI (a.tmod p) a := by
  have h := Int.natAbs_tmod a p
  have h2 : a.natAbs % p.natAbs ≤ a.natAbs := Nat.mod_le _ _
  by_cases ha : 0 ≤ a
  · have := Int.tmod_nonneg p ha
    exact Or.inl ⟨this, by omega⟩
  · have h3 : 0 ≤ (-a).tmod p := Int.tmod_nonneg p (by omega)
    rw [Int.neg_tmod] at h3
    exact Or.inr ⟨by omega, by omega⟩
theorem mul_ab {a b : Int} {A B : Nat} (h1 : a.natAbs ≤ A) (h2 : b.natAbs ≤ B) : (a * b).natAbs ≤ A * B := by
  rw [Int.natAbs_mul]; exact Nat.mul_le_mul h1 h2
theorem nl2 {p M' M0 a b a' b' s t : Int} {M : Nat} (e' : p * M' = a' * t - b' * s) (e0 : p * M0 = a * t - b * s) (ha : swdI a' a) (hb : swdI b' b) (h0 : M0.natAbs ≤ M) (ht : t.natAbs ≤ M) (hs : s.natAbs ≤ M) (ha' : a'.natAbs ≤ p.natAbs) (hb' : b'.natAbs ≤ p.natAbs) (hp : p ≠ 0) : M'.natAbs ≤ M := by
  have k1 := mul_ab ha' ht
  have k2 := mul_ab hb' hs
  have k3 := mul_ab (Nat.le_refl p.natAbs) h0
  have w1 := swd_mul ha t
  have w2 := swd_mul hb s
  rw [e0] at k3
  have k4 : (p * M').natAbs ≤ p.natAbs * M := by
    rw [e']
    unfold swdI at w1 w2
    generalize p.natAbs * M = K at *
    omega
  rw [Int.natAbs_mul] at k4
  exact Nat.le_of_mul_le_mul_left k4 (by omega)
theorem nl3 {p T' T0 a b c a' b' c' t1 t2 t3 : Int} {N N' r : Nat} (e' : p * T' = a' * t1 + b' * t2 + c' * t3) (e0 : p * T0 = a * t1 + b * t2 + c * t3) (ha : swdI a' a) (hb : swdI b' b) (hc : swdI c' c) (h0 : T0.natAbs ≤ N) (h1 : t1.natAbs ≤ N) (h2 : t2.natAbs ≤ N) (h3 : t3.natAbs ≤ N) (ha' : a'.natAbs ≤ r) (hb' : b'.natAbs ≤ r) (hc' : c'.natAbs ≤ r) (hN : N ≤ N') (hr : 2 * (r * N) ≤ p.natAbs * N') (hp : p ≠ 0) : T'.natAbs ≤ N' := by
  have k1 := mul_ab ha' h1
  have k2 := mul_ab hb' h2
  have k5 := mul_ab hc' h3
  have k3 := mul_ab (Nat.le_refl p.natAbs) h0
  have k6 : p.natAbs * N ≤ p.natAbs * N' := Nat.mul_le_mul_left _ hN
  have w1 := swd_mul ha t1
  have w2 := swd_mul hb t2
  have w3 := swd_mul hc t3
  rw [e0] at k3
  have k4 : (p * T').natAbs ≤ p.natAbs * N' := by
    rw [e']
    unfold swdI at w1 w2 w3
    generalize p.natAbs * N = K at *
    generalize p.natAbs * N' = K' at *
    generalize r * N = L at *
    omega
  rw [Int.natAbs_mul] at k4
  exact Nat.le_of_mul_le_mul_left k4 (by omega)
def tvL (R : LM) (k c : Nat) : Int := (R k c).toInt
def pm2 (R : LM) (j c k l : Nat) : Int := tvL R k j * tvL R l c - tvL R l j * tvL R k c
def tm3 (R : LM) (j u w k l q : Nat) : Int := tvL R k j * (tvL R l u * tvL R q w - tvL R q u * tvL R l w) - tvL R l j * (tvL R k u * tvL R q w - tvL R q u * tvL R k w) + tvL R q j * (tvL R k u * tvL R l w - tvL R l u * tvL R k w)
theorem tv_ne {R : LM} {k c : Nat} (h : ¬ R k c = 0) : tvL R k c ≠ 0 := fun e => h (Int64.toInt_inj.mp e)
theorem tv_0 {R : LM} {k c : Nat} (h : R k c = 0) : tvL R k c = 0 := by unfold tvL; rw [h]; rfl
theorem tv_nm {R : LM} {k c : Nat} {A : Nat} (h : (tvL R k c).natAbs ≤ A) (hA : A < 2 ^ 63) : R k c ≠ Int64.minValue := by
  intro e
  unfold tvL at h
  rw [e, show Int64.minValue.toInt = -9223372036854775808 from rfl] at h
  have : (-9223372036854775808 : Int).natAbs = 9223372036854775808 := rfl
  omega
/-- what is taken away, as it is -/
theorem less_tv {x y a p : Int64} (ha : a ≠ Int64.minValue) (hb : (x.toInt - a.toInt.tdiv p.toInt * y.toInt).natAbs < 2 ^ 63) : (x - a / p * y).toInt = x.toInt - a.toInt.tdiv p.toInt * y.toInt := by
  rw [Int64.toInt_sub, Int64.toInt_mul, Int64.toInt_div_of_ne_left _ _ ha, Int.sub_bmod_bmod]
  exact Int.bmod_eq_of_le_mul_two (by omega) (by omega)
theorem self_tv {a p : Int64} (ha : a ≠ Int64.minValue) (hp : ¬ p = 0) : (a - a / p * p).toInt = a.toInt.tmod p.toInt := by
  have h := Int.mul_tdiv_add_tmod a.toInt p.toInt
  have h1 := Int.natAbs_tmod a.toInt p.toInt
  have h2 : a.toInt.natAbs % p.toInt.natAbs ≤ a.toInt.natAbs := Nat.mod_le _ _
  have h3 := a.le_toInt
  have h4 := a.toInt_lt
  have h5 : a.toInt ≠ -2 ^ 63 := fun e => ha (Int64.toInt_inj.mp e)
  have e : a.toInt - a.toInt.tdiv p.toInt * p.toInt = a.toInt.tmod p.toInt := by
    rw [Int.mul_comm]; omega
  rw [less_tv ha (by rw [e]; omega), e]
/-- q less rows -/
theorem lsF_0 {R : LM} {i j : Nat} : ∀ q, lsF R i j q = 0 → ∀ k, i ≤ k → k < i + q → R k j = 0
  | 0, _, k, h1, h2 => by omega
  | q + 1, e, k, h1, h2 => by
    unfold lsF at e
    split at e
    · omega
    · rename_i h
      have ih := lsF_0 q e
      by_cases ek : k = i + q
      · subst ek
        exact Classical.byContradiction fun hn => h ⟨hn, Or.inl e⟩
      · exact ih k h1 (by omega)
theorem labs_tv {x : Int64} (h : x ≠ Int64.minValue) : (labs x).toInt = x.toInt.natAbs := by
  have h3 := x.le_toInt
  have h4 := x.toInt_lt
  have h5 : x.toInt ≠ -2 ^ 63 := fun e => h (Int64.toInt_inj.mp e)
  unfold labs
  split
  · rename_i hx
    rw [Int64.lt_iff_toInt_lt] at hx
    have hx' : x.toInt < 0 := hx
    rw [Int64.toInt_neg, Int.bmod_eq_of_le_mul_two (by omega) (by omega)]
    omega
  · rename_i hx
    rw [Int64.lt_iff_toInt_lt] at hx
    have hx' : ¬ x.toInt < 0 := hx
    omega
theorem lsF_min {R : LM} {i j : Nat} : ∀ q m, (∀ k, i ≤ k → k < i + q → R k j ≠ Int64.minValue) → lsF R i j q = m + 1 → ∀ k, i ≤ k → k < i + q → ¬ R k j = 0 → (tvL R m j).natAbs ≤ (tvL R k j).natAbs
  | 0, m, _, e, k, h1, h2, _ => by omega
  | q + 1, m, hm, e, k, h1, h2, hk => by
    unfold lsF at e
    split at e
    · rename_i h
      have e2 : m = i + q := by omega
      subst e2
      by_cases ek : k = i + q
      · subst ek; exact Nat.le_refl _
      · cases hl : lsF R i j q with
        | zero => exact absurd (lsF_0 q hl k h1 (by omega)) hk
        | succ m' =>
          have ih := lsF_min q m' (fun k a b => hm k a (by omega)) hl k h1 (by omega) hk
          rcases h.2 with h2 | h2
          · omega
          · obtain ⟨bE1, bE2, _⟩ := lsF_b q m' hl
            rw [hl, show m' + 1 - 1 = m' by omega, Int64.lt_iff_toInt_lt, labs_tv (hm _ (by omega) (by omega)), labs_tv (hm _ bE1 (by omega))] at h2
            unfold tvL at *
            omega
    · rename_i h
      by_cases ek : k = i + q
      · subst ek
        obtain ⟨bE1, bE2, _⟩ := lsF_b q m e
        have h3 : ¬ labs (R (i + q) j) < labs (R m j) := fun hn => h ⟨hk, Or.inr (by rw [e]; exact hn)⟩
        rw [Int64.lt_iff_toInt_lt, labs_tv (hm _ (by omega) (by omega)), labs_tv (hm _ bE1 (by omega))] at h3
        unfold tvL at *
        omega
      · exact lsF_min q m (fun k a b => hm k a (by omega)) e k h1 (by omega) hk
theorem smF_1 {R : LM} {i j : Nat} : ∀ q, smF R i j q = 0 → ∀ k, i ≤ k → k < i + q → R k j = 0
  | 0, _, k, h1, h2 => by omega
  | q + 1, e, k, h1, h2 => by
    unfold smF at e
    split at e
    · rename_i h
      by_cases ek : k = i + q
      · rw [ek]; exact h
      · exact smF_1 q e k h1 (by omega)
    · omega
/-- with one number at most, the others have none -/
theorem smF_2 {R : LM} {i j : Nat} : ∀ q, smF R i j q ≤ 1 → ∀ k l, i ≤ k → k < i + q → i ≤ l → l < i + q → ¬ R k j = 0 → l ≠ k → R l j = 0
  | 0, _, k, l, h1, h2, _, _, _, _ => by omega
  | q + 1, e, k, l, h1, h2, h3, h4, hk, hl => by
    unfold smF at e
    by_cases ek : k = i + q
    · subst ek
      rw [if_neg hk] at e
      exact smF_1 q (by omega) l h3 (by omega)
    · by_cases el : l = i + q
      · subst el
        apply Classical.byContradiction
        intro hn
        rw [if_neg hn] at e
        exact hk (smF_1 q (by omega) k h1 (by omega))
      · exact smF_2 q (by split at e <;> omega) k l h1 (by omega) h3 (by omega) hk hl
/-- more than one: there is another -/
theorem smF_3 {R : LM} {i j : Nat} : ∀ q, 1 < smF R i j q → ∃ k, i < k ∧ k < i + q ∧ ¬ R k j = 0
  | 0, e => by unfold smF at e; omega
  | q + 1, e => by
    unfold smF at e
    split at e
    · obtain ⟨k, a, b, c⟩ := smF_3 q e
      exact ⟨k, a, by omega, c⟩
    · rename_i h
      cases q with
      | zero => unfold smF at e; omega
      | succ q => exact ⟨i + (q + 1), by omega, by omega, h⟩
theorem sw_i (R : LM) (i m : Nat) : swR R i m i = R m := if_pos rfl
theorem sw_o {R : LM} {i m k : Nat} (h : k ≠ i) : swR R i m k = if k = m then R i else R k := if_neg h
theorem sw_row {R : LM} {i n m k : Nat} (h1 : i ≤ m) (h2 : m < n) (h3 : i ≤ k) (h4 : k < n) : ∃ k', i ≤ k' ∧ k' < n ∧ swR R i m k = R k' := by
  by_cases e : k = i
  · exact ⟨m, h1, h2, by rw [e, sw_i]⟩
  · by_cases e2 : k = m
    · exact ⟨i, Nat.le_refl _, by omega, by rw [sw_o e, if_pos e2]⟩
    · exact ⟨k, h3, h4, by rw [sw_o e, if_neg e2]⟩
theorem rd_i (R : LM) (i j n : Nat) : rdQ R i j n i = R i := if_neg (by omega)
theorem rd_k {R : LM} {i j n k : Nat} (h1 : i < k) (h2 : k < n) : rdQ R i j n k = fun c => R k c - R k j / R i j * R i c := if_pos ⟨h1, h2⟩
theorem rd_tv {R : LM} {i j n k : Nat} (h1 : i < k) (h2 : k < n) (ha : R k j ≠ Int64.minValue) (hp : ¬ R i j = 0) : tvL (rdQ R i j n) k j = (tvL R k j).tmod (tvL R i j) := by
  unfold tvL
  rw [rd_k h1 h2]
  exact self_tv ha hp
theorem tmod_lt {a p : Int} (h : p ≠ 0) : (a.tmod p).natAbs < p.natAbs := by
  rw [Int.natAbs_tmod]; exact Nat.mod_lt _ (by omega)
theorem clF_step {i j n : Nat} (Inv : LM → Prop) (hin : i < n) (hs : ∀ R m, Inv R → lsF R i j (n - i) = m + 1 → Inv (rdQ (swR R i m) i j n)) (hm : ∀ R, Inv R → ∀ k, i ≤ k → k < n → R k j ≠ Int64.minValue) : ∀ f R, Inv R → (∃ k, i ≤ k ∧ k < n ∧ ¬ R k j = 0) → 1 ≤ f → (smF R i j (n - i) ≤ 1 ∨ ∃ m, lsF R i j (n - i) = m + 1 ∧ (tvL R m j).natAbs + 1 ≤ f) → ∃ R1 R2, clF i j n f R = some (true, R2) ∧ Inv R1 ∧ ¬ R1 i j = 0 ∧ (∀ k, i < k → k < n → R1 k j = 0) ∧ ∀ k, k ≠ i → R2 k = R1 k
  | 0, R, _, _, h1, _ => by omega
  | f + 1, R, hI, ⟨k0, a1, a2, a3⟩, h1, h2 => by
    have en : i + (n - i) = n := by omega
    cases hl : lsF R i j (n - i) with
    | zero => exact absurd (lsF_0 _ hl k0 a1 (by omega)) a3
    | succ m =>
      obtain ⟨m1, m2, m3⟩ := lsF_b _ _ hl
      rw [en] at m2
      have hI' := hs R m hI hl
      have y : rdQ (swR R i m) i j n i = R m := by rw [rd_i, sw_i]
      have hsm : ∀ k, i ≤ k → k < n → swR R i m k j ≠ Int64.minValue := fun k bE1 bE2 => by
        obtain ⟨k', c1, c2, c3⟩ := sw_row m1 m2 bE1 bE2
        rw [c3]; exact hm R hI k' c1 c2
      have hp : ¬ swR R i m i j = 0 := by rw [sw_i]; exact m3
      unfold clF
      rw [if_neg (by omega), hl, show m + 1 - 1 = m by omega]
      by_cases h3 : 1 < smF R i j (n - i)
      · rw [if_pos h3]
        have hf : (tvL R m j).natAbs + 1 ≤ f + 1 := by
          rcases h2 with h2 | ⟨m', e', h2⟩
          · omega
          · rw [hl] at e'
            have : m' = m := by omega
            subst this; exact h2
        have hne := tv_ne m3
        refine clF_step Inv hin hs hm f _ hI' ⟨i, Nat.le_refl _, hin, by rw [y]; exact m3⟩ (by omega) ?_
        by_cases h4 : smF (rdQ (swR R i m) i j n) i j (n - i) ≤ 1
        · exact Or.inl h4
        · obtain ⟨k, c1, c2, c3⟩ := smF_3 _ (show 1 < smF (rdQ (swR R i m) i j n) i j (n - i) by omega)
          rw [en] at c2
          cases hl2 : lsF (rdQ (swR R i m) i j n) i j (n - i) with
          | zero => exact absurd (lsF_0 _ hl2 k (by omega) (by omega)) c3
          | succ m' =>
            have hmin := lsF_min _ _ (fun k a b => hm _ hI' k a (by omega)) hl2 k (by omega) (by omega) c3
            have ht := rd_tv c1 c2 (hsm k (by omega) c2) hp
            have e1 : tvL (swR R i m) i j = tvL R m j := by unfold tvL; rw [sw_i]
            rw [e1] at ht
            have := tmod_lt (a := tvL (swR R i m) k j) hne
            rw [← ht] at this
            exact Or.inr ⟨m', rfl, by omega⟩
      · rw [if_neg h3]
        refine ⟨_, _, rfl, hI', by rw [y]; exact m3, fun k c1 c2 => ?_, fun k hk => ?_⟩
        · have hz : swR R i m k j = 0 := by
            rw [sw_o (show k ≠ i by omega)]
            by_cases e : k = m
            · rw [if_pos e]
              exact smF_2 _ (Nat.le_of_not_lt h3) m i m1 (by omega) (Nat.le_refl _) (by omega) m3 (by omega)
            · rw [if_neg e]
              exact smF_2 _ (Nat.le_of_not_lt h3) m k m1 (by omega) (by omega) (by omega) m3 e
          have ht := rd_tv c1 c2 (hsm k (by omega) c2) hp
          rw [tv_0 hz, Int.zero_tmod] at ht
          exact Int64.toInt_inj.mp ht
        · split
          · unfold leR; rw [upn_ne _ _ hk]
          · rfl
theorem clF_all {i j n f : Nat} (Inv : LM → Prop) (hf : 2 ^ 63 + 1 ≤ f) (hin : i < n) (hs : ∀ R m, Inv R → lsF R i j (n - i) = m + 1 → Inv (rdQ (swR R i m) i j n)) (hm : ∀ R, Inv R → ∀ k, i ≤ k → k < n → R k j ≠ Int64.minValue) {R : LM} (hI : Inv R) : (clF i j n f R = some (false, R) ∧ ∀ k, i ≤ k → k < n → R k j = 0) ∨ ∃ R1 R2, clF i j n f R = some (true, R2) ∧ Inv R1 ∧ ¬ R1 i j = 0 ∧ (∀ k, i < k → k < n → R1 k j = 0) ∧ ∀ k, k ≠ i → R2 k = R1 k := by
  cases hl : lsF R i j (n - i) with
  | zero =>
    refine Or.inl ⟨?_, fun k a b => lsF_0 _ hl k a (by omega)⟩
    obtain ⟨g, rfl⟩ : ∃ g, f = g + 1 := ⟨f - 1, by omega⟩
    unfold clF
    rw [if_pos hl]
  | succ m =>
    obtain ⟨m1, m2, m3⟩ := lsF_b _ _ hl
    refine Or.inr (clF_step Inv hin hs hm f R hI ⟨m, m1, by omega, m3⟩ (by omega) (Or.inr ⟨m, hl, ?_⟩))
    have h3 := (R m j).le_toInt
    have h4 := (R m j).toInt_lt
    unfold tvL
    omega
/-- numbers and pairs of rows, from column j on -/
def LIv (i n j : Nat) (U M : Nat → Nat) (R : LM) : Prop := ∀ k c, i ≤ k → k < n → j ≤ c → c < 10 → (tvL R k c).natAbs ≤ U c ∧ ∀ l, i ≤ l → l < n → (pm2 R j c k l).natAbs ≤ M c
theorem LIv.sw {i n j m : Nat} {U M : Nat → Nat} {R : LM} (h : LIv i n j U M R) (h1 : i ≤ m) (h2 : m < n) : LIv i n j U M (swR R i m) := by
  intro k c a1 a2 a3 a4
  obtain ⟨k', bE1, bE2, bE3⟩ := sw_row (R := R) h1 h2 a1 a2
  refine ⟨?_, fun l c1 c2 => ?_⟩
  · unfold tvL; rw [bE3]; exact (h k' c bE1 bE2 a3 a4).1
  · obtain ⟨l', d1, d2, d3⟩ := sw_row (R := R) h1 h2 c1 c2
    unfold pm2 tvL; rw [bE3, d3]; exact (h k' c bE1 bE2 a3 a4).2 l' d1 d2
theorem LIv.eq {i n j k c : Nat} {U M : Nat → Nat} {R : LM} (h : LIv i n j U M R) (hM : ∀ c, M c ≤ U c) (hU : ∀ c, U c < 2 ^ 63) (hp : ¬ R i j = 0) (hj : j < 10) (h1 : i < k) (h2 : k < n) (h3 : j ≤ c) (h4 : c < 10) : tvL (rdQ R i j n) k c = tvL R k c - (tvL R k j).tdiv (tvL R i j) * tvL R i c ∧ (tvL (rdQ R i j n) k c).natAbs ≤ U c := by
  have ha := (h k j (by omega) h2 (Nat.le_refl _) hj).1
  have hne := tv_ne hp
  have e : tvL R i j * (tvL R k c - (tvL R k j).tdiv (tvL R i j) * tvL R i c) = pm2 R j c i k + (tvL R k j).tmod (tvL R i j) * tvL R i c := by
    have := Int.mul_tdiv_add_tmod (tvL R k j) (tvL R i j)
    unfold pm2
    grind
  have hb := nl1 e (Nat.le_trans ((h i c (Nat.le_refl _) (by omega) h3 h4).2 k (by omega) h2) (hM c)) (h i c (Nat.le_refl _) (by omega) h3 h4).1 (tmod_lt hne)
  have e2 : tvL (rdQ R i j n) k c = tvL R k c - (tvL R k j).tdiv (tvL R i j) * tvL R i c := by
    have hu := hU c
    unfold tvL at hb ⊢
    rw [rd_k h1 h2]
    exact less_tv (tv_nm ha (hU j)) (by omega)
  exact ⟨e2, by rw [e2]; exact hb⟩
theorem LIv.rd {i n j : Nat} {U M : Nat → Nat} {R : LM} (h : LIv i n j U M R) (hM : ∀ c, M c ≤ U c) (hU : ∀ c, U c < 2 ^ 63) (hp : ¬ R i j = 0) (hj : j < 10) : LIv i n j U M (rdQ R i j n) := by
  have hne := tv_ne hp
  have ei : ∀ c, tvL (rdQ R i j n) i c = tvL R i c := fun c => by unfold tvL; rw [rd_i]
  have et : ∀ k, i < k → k < n → tvL (rdQ R i j n) k j = (tvL R k j).tmod (tvL R i j) := fun k h1 h2 => rd_tv h1 h2 (tv_nm (h k j (by omega) h2 (Nat.le_refl _) hj).1 (hU j)) hp
  have ep : ∀ k c, i < k → k < n → j ≤ c → c < 10 → pm2 (rdQ R i j n) j c i k = pm2 R j c i k := fun k c h1 h2 h3 h4 => by
    have e1 := (h.eq hM hU hp hj h1 h2 h3 h4).1
    have e3 := Int.mul_tdiv_add_tmod (tvL R k j) (tvL R i j)
    have e2 := et k h1 h2
    unfold pm2
    rw [ei, ei, e1, e2]
    grind
  intro k c a1 a2 a3 a4
  by_cases ek : k = i
  · subst ek
    refine ⟨by rw [ei]; exact (h k c a1 a2 a3 a4).1, fun l c1 c2 => ?_⟩
    by_cases el : l = k
    · subst el
      unfold pm2
      rw [Int.sub_self]; exact Nat.zero_le _
    · rw [ep l c (by omega) c2 a3 a4]; exact (h k c a1 a2 a3 a4).2 l c1 c2
  · refine ⟨(h.eq hM hU hp hj (by omega) a2 a3 a4).2, fun l c1 c2 => ?_⟩
    by_cases el : l = i
    · subst el
      have : pm2 (rdQ R l j n) j c k l = - pm2 (rdQ R l j n) j c l k := by unfold pm2; omega
      rw [this, Int.natAbs_neg, ep k c (by omega) a2 a3 a4]
      exact (h l c c1 c2 a3 a4).2 k a1 a2
    · have k1 := et k (by omega) a2
      have l1 := et l (by omega) c2
      have kp := ep k c (by omega) a2 a3 a4
      have lp := ep l c (by omega) c2 a3 a4
      refine nl2 (p := tvL R i j) (M0 := pm2 R j c k l) (a := tvL R k j) (b := tvL R l j) (a' := tvL (rdQ R i j n) k j) (b' := tvL (rdQ R i j n) l j) (s := pm2 R j c i k) (t := pm2 R j c i l) ?_ ?_ (by rw [k1]; exact swd_tmod _ _) (by rw [l1]; exact swd_tmod _ _) ((h k c a1 a2 a3 a4).2 l c1 c2) ((h i c (Nat.le_refl _) (by omega) a3 a4).2 l c1 c2) ((h i c (Nat.le_refl _) (by omega) a3 a4).2 k a1 a2) (by rw [k1]; exact Nat.le_of_lt (tmod_lt hne)) (by rw [l1]; exact Nat.le_of_lt (tmod_lt hne)) hne
      · rw [← kp, ← lp]
        have e1 := ei j
        have e2 := ei c
        unfold pm2
        rw [e1, e2]
        grind
      · unfold pm2
        grind
/-- a whole passL -/
theorem passL {i n j f : Nat} {U M : Nat → Nat} {R : LM} (hf : 2 ^ 63 + 1 ≤ f) (hin : i < n) (hj : j < 10) (hM : ∀ c, M c ≤ U c) (hU : ∀ c, U c < 2 ^ 63) (h : LIv i n j U M R) (K : LM → Prop) (hK : K R) (hKs : ∀ R m, LIv i n j U M R → K R → lsF R i j (n - i) = m + 1 → K (rdQ (swR R i m) i j n)) : (clF i j n f R = some (false, R) ∧ ∀ k, i ≤ k → k < n → R k j = 0) ∨ ∃ R1 R2, clF i j n f R = some (true, R2) ∧ K R1 ∧ ¬ R1 i j = 0 ∧ (∀ k, i < k → k < n → R1 k j = 0) ∧ (∀ k, k ≠ i → R2 k = R1 k) ∧ ∀ k c, i < k → k < n → j ≤ c → c < 10 → (tvL R2 k c).natAbs ≤ M c := by
  rcases clF_all (f := f) (fun R => LIv i n j U M R ∧ K R) hf hin (fun R m hI hl => by
    obtain ⟨m1, m2, m3⟩ := lsF_b _ _ hl
    exact ⟨(hI.1.sw m1 (by omega)).rd hM hU (by rw [sw_i]; exact m3) hj, hKs R m hI.1 hI.2 hl⟩) (fun R hI k a b => tv_nm (hI.1 k j a b (Nat.le_refl _) hj).1 (hU j)) ⟨h, hK⟩ with h1 | ⟨R1, R2, h1, h2, h3, h4, h5⟩
  · exact Or.inl h1
  · refine Or.inr ⟨R1, R2, h1, h2.2, h3, h4, h5, fun k c a1 a2 a3 a4 => ?_⟩
    have hp := (h2.1 i c (Nat.le_refl _) hin a3 a4).2 k (by omega) a2
    have ez := tv_0 (h4 k a1 a2)
    have hne := tv_ne h3
    unfold pm2 at hp
    rw [ez, Int.zero_mul, Int.sub_zero, Int.natAbs_mul] at hp
    have e : tvL R2 k c = tvL R1 k c := by unfold tvL; rw [h5 k (by omega)]
    rw [e]
    have : 1 * (tvL R1 k c).natAbs ≤ (tvL R1 i j).natAbs * (tvL R1 k c).natAbs := Nat.mul_le_mul_right _ (by omega)
    omega
