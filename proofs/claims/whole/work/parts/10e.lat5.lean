def dt3 (a b c a' b' c' a'' b'' c'' : Int) : Int := a * (b' * c'' - b'' * c') - a' * (b * c'' - b'' * c) + a'' * (b * c' - b' * c)
theorem dt3_pl (a0 b0 c0 a1 bE1 c1 a2 bE2 c2 a3 bE3 c3 : Int) : a0 * dt3 a1 bE1 c1 a2 bE2 c2 a3 bE3 c3 = a1 * dt3 a0 b0 c0 a2 bE2 c2 a3 bE3 c3 + a2 * dt3 a1 bE1 c1 a0 b0 c0 a3 bE3 c3 + a3 * dt3 a1 bE1 c1 a2 bE2 c2 a0 b0 c0 := by
  unfold dt3; grind
theorem dt3_rd (d1 d2 d3 a0 b0 c0 a1 bE1 c1 a2 bE2 c2 a3 bE3 c3 : Int) : dt3 (a1 - d1 * a0) (bE1 - d1 * b0) (c1 - d1 * c0) (a2 - d2 * a0) (bE2 - d2 * b0) (c2 - d2 * c0) (a3 - d3 * a0) (bE3 - d3 * b0) (c3 - d3 * c0) = dt3 a1 bE1 c1 a2 bE2 c2 a3 bE3 c3 - d1 * dt3 a0 b0 c0 a2 bE2 c2 a3 bE3 c3 - d2 * dt3 a1 bE1 c1 a0 b0 c0 a3 bE3 c3 - d3 * dt3 a1 bE1 c1 a2 bE2 c2 a0 b0 c0 := by
  unfold dt3; grind
theorem dt3_12 (a b c a' b' c' : Int) : dt3 a b c a b c a' b' c' = 0 := by unfold dt3; grind
theorem dt3_13 (a b c a' b' c' : Int) : dt3 a b c a' b' c' a b c = 0 := by unfold dt3; grind
theorem dt3_23 (a b c a' b' c' : Int) : dt3 a' b' c' a b c a b c = 0 := by unfold dt3; grind
theorem dt3_cc (a b a' b' a'' b'' : Int) : dt3 a b b a' b' b' a'' b'' b'' = 0 := by unfold dt3; grind
theorem tm_eq (R : LM) (j u w k l q : Nat) : tm3 R j u w k l q = dt3 (tvL R k j) (tvL R k u) (tvL R k w) (tvL R l j) (tvL R l u) (tvL R l w) (tvL R q j) (tvL R q u) (tvL R q w) := rfl
def LTr (i n j : Nat) (N : Nat → Nat) (R : LM) : Prop := ∀ u w k l q, j < u → u < 3 → j < w → w < 10 → i ≤ k → k < n → i ≤ l → l < n → i ≤ q → q < n → (tm3 R j u w k l q).natAbs ≤ N w
theorem LTr.sw {i n j m : Nat} {N : Nat → Nat} {R : LM} (h : LTr i n j N R) (h1 : i ≤ m) (h2 : m < n) : LTr i n j N (swR R i m) := by
  intro u w k l q a1 a2 a3 a4 bE1 bE2 bE3 b4 b5 b6
  obtain ⟨k', c1, c2, c3⟩ := sw_row (R := R) h1 h2 bE1 bE2
  obtain ⟨l', d1, d2, d3⟩ := sw_row (R := R) h1 h2 bE3 b4
  obtain ⟨q', e1, e2, e3⟩ := sw_row (R := R) h1 h2 b5 b6
  unfold tm3 tvL
  rw [c3, d3, e3]
  exact h u w k' l' q' a1 a2 a3 a4 c1 c2 d1 d2 e1 e2
theorem LTr.rd {i n j r : Nat} {U M N N' : Nat → Nat} {R : LM} (h : LTr i n j N R) (hI : LIv i n j U M R) (hM : ∀ c, M c ≤ U c) (hU : ∀ c, U c < 2 ^ 63) (hp : ¬ R i j = 0) (hj : j < 10) (hin : i < n) (hr : ∀ k, i < k → k < n → (tvL (rdQ R i j n) k j).natAbs ≤ r) (hN : ∀ w, N w ≤ N' w) (hr2 : ∀ w, 2 * (r * N w) ≤ (tvL R i j).natAbs * N' w) : LTr i n j N' (rdQ R i j n) := by
  have hne := tv_ne hp
  have D : ∀ k, i ≤ k → k < n → ∃ d : Int, (k = i → d = 0) ∧ ∀ c, j ≤ c → c < 10 → tvL (rdQ R i j n) k c = tvL R k c - d * tvL R i c := by
    intro k h1 h2
    by_cases e : k = i
    · subst e
      exact ⟨0, fun _ => rfl, fun c _ _ => by unfold tvL; rw [rd_i]; omega⟩
    · exact ⟨(tvL R k j).tdiv (tvL R i j), fun e' => absurd e' e, fun c h3 h4 => (hI.eq hM hU hp hj (by omega) h2 h3 h4).1⟩
  intro u w k l q a1 a2 a3 a4 bE1 bE2 bE3 b4 b5 b6
  obtain ⟨dk, k0, k1⟩ := D k bE1 bE2
  obtain ⟨dl, l0, l1⟩ := D l bE3 b4
  obtain ⟨dq, q0, q1⟩ := D q b5 b6
  have hh := h u w k l q a1 a2 a3 a4 bE1 bE2 bE3 b4 b5 b6
  have e : tm3 (rdQ R i j n) j u w k l q = tm3 R j u w k l q - dk * tm3 R j u w i l q - dl * tm3 R j u w k i q - dq * tm3 R j u w k l i := by
    rw [tm_eq, k1 j (Nat.le_refl _) hj, k1 u (by omega) (by omega), k1 w (by omega) a4, l1 j (Nat.le_refl _) hj, l1 u (by omega) (by omega), l1 w (by omega) a4, q1 j (Nat.le_refl _) hj, q1 u (by omega) (by omega), q1 w (by omega) a4, dt3_rd]
    rfl
  by_cases ek : k = i
  · have z1 : tm3 R j u w k i q = 0 := by rw [ek, tm_eq]; exact dt3_12 _ _ _ _ _ _
    have z2 : tm3 R j u w k l i = 0 := by rw [ek, tm_eq]; exact dt3_13 _ _ _ _ _ _
    rw [e, k0 ek, z1, z2, Int.zero_mul, Int.mul_zero, Int.mul_zero, Int.sub_zero, Int.sub_zero, Int.sub_zero]
    exact Nat.le_trans hh (hN w)
  · by_cases el : l = i
    · have z1 : tm3 R j u w i l q = 0 := by rw [el, tm_eq]; exact dt3_12 _ _ _ _ _ _
      have z2 : tm3 R j u w k l i = 0 := by rw [el, tm_eq]; exact dt3_23 _ _ _ _ _ _
      rw [e, l0 el, z1, z2, Int.zero_mul, Int.mul_zero, Int.mul_zero, Int.sub_zero, Int.sub_zero, Int.sub_zero]
      exact Nat.le_trans hh (hN w)
    · by_cases eq : q = i
      · have z1 : tm3 R j u w i l q = 0 := by rw [eq, tm_eq]; exact dt3_13 _ _ _ _ _ _
        have z2 : tm3 R j u w k i q = 0 := by rw [eq, tm_eq]; exact dt3_23 _ _ _ _ _ _
        rw [e, q0 eq, z1, z2, Int.zero_mul, Int.mul_zero, Int.mul_zero, Int.sub_zero, Int.sub_zero, Int.sub_zero]
        exact Nat.le_trans hh (hN w)
      · have hm := fun k bE1 bE2 => tv_nm (hI k j bE1 bE2 (Nat.le_refl _) hj).1 (hU j)
        have pl := dt3_pl (tvL R i j) (tvL R i u) (tvL R i w) (tvL R k j) (tvL R k u) (tvL R k w) (tvL R l j) (tvL R l u) (tvL R l w) (tvL R q j) (tvL R q u) (tvL R q w)
        rw [← tm_eq, ← tm_eq, ← tm_eq, ← tm_eq] at pl
        refine nl3 (p := tvL R i j) (r := r) (N := N w) (T0 := tm3 R j u w k l q) (a := tvL R k j) (b := tvL R l j) (c := tvL R q j) (a' := tvL (rdQ R i j n) k j) (b' := tvL (rdQ R i j n) l j) (c' := tvL (rdQ R i j n) q j) (t1 := tm3 R j u w i l q) (t2 := tm3 R j u w k i q) (t3 := tm3 R j u w k l i) ?_ pl ?_ ?_ ?_ hh (h u w i l q a1 a2 a3 a4 (Nat.le_refl _) hin bE3 b4 b5 b6) (h u w k i q a1 a2 a3 a4 bE1 bE2 (Nat.le_refl _) hin b5 b6) (h u w k l i a1 a2 a3 a4 bE1 bE2 bE3 b4 (Nat.le_refl _) hin) (hr k (by omega) bE2) (hr l (by omega) b4) (hr q (by omega) b6) (hN w) (hr2 w) hne
        · rw [e, k1 j (Nat.le_refl _) hj, l1 j (Nat.le_refl _) hj, q1 j (Nat.le_refl _) hj]
          generalize tm3 R j u w k l q = T at *
          generalize tm3 R j u w i l q = T1 at *
          generalize tm3 R j u w k i q = T2 at *
          generalize tm3 R j u w k l i = T3 at *
          grind
        · rw [rd_tv (by omega) bE2 (hm k bE1 bE2) hp]; exact swd_tmod _ _
        · rw [rd_tv (by omega) b4 (hm l bE3 b4) hp]; exact swd_tmod _ _
        · rw [rd_tv (by omega) b6 (hm q b5 b6) hp]; exact swd_tmod _ _
def LNA (w : Nat) : Nat := if w < 3 then 216 else 36
def LNB (w : Nat) : Nat := if w < 3 then 288 else 48
/-- the first passL: before a step, after one -/
def LKA (i n j : Nat) (R : LM) : Prop := (∀ k, i ≤ k → k < n → (tvL R k j).natAbs ≤ 6) ∧ LTr i n j LNA R
def LKB (i n j : Nat) (R : LM) : Prop := LTr i n j LNB R ∧ ((∃ k, i ≤ k ∧ k < n ∧ ¬ R k j = 0 ∧ (tvL R k j).natAbs ≤ 2) ∨ ∀ k, i < k → k < n → R k j = 0)
theorem LNAB (w : Nat) : LNA w ≤ LNB w ∧ 3 * LNB w = 4 * LNA w := by unfold LNA LNB; split <;> omega
theorem LKK {i n j m : Nat} {U M : Nat → Nat} {R : LM} (hI : LIv i n j U M R) (hM : ∀ c, M c ≤ U c) (hU : ∀ c, U c < 2 ^ 63) (hj : j < 10) (hin : i < n) (hK : LKA i n j R ∨ LKB i n j R) (hl : lsF R i j (n - i) = m + 1) : LKB i n j (rdQ (swR R i m) i j n) := by
  have en : i + (n - i) = n := by omega
  obtain ⟨m1, m2, m3⟩ := lsF_b _ _ hl
  rw [en] at m2
  have hm := fun k bE1 bE2 => tv_nm (hI k j bE1 bE2 (Nat.le_refl _) hj).1 (hU j)
  have hmin := lsF_min _ _ (fun k a b => hm k a (by omega)) hl
  have hI' := hI.sw m1 m2
  have hp : ¬ swR R i m i j = 0 := by rw [sw_i]; exact m3
  have ei : tvL (swR R i m) i j = tvL R m j := by unfold tvL; rw [sw_i]
  have hne := tv_ne m3
  have hsm : ∀ k, i ≤ k → k < n → swR R i m k j ≠ Int64.minValue := fun k bE1 bE2 => tv_nm (hI' k j bE1 bE2 (Nat.le_refl _) hj).1 (hU j)
  have et : ∀ k, i < k → k < n → tvL (rdQ (swR R i m) i j n) k j = (tvL (swR R i m) k j).tmod (tvL R m j) := fun k h1 h2 => by rw [rd_tv h1 h2 (hsm k (by omega) h2) hp, ei]
  have eP : tvL (rdQ (swR R i m) i j n) i j = tvL R m j := by unfold tvL; rw [rd_i, sw_i]
  -- with a pivot of at most 2 nothing grows
  have small : ∀ N : Nat → Nat, LTr i n j N R → (tvL R m j).natAbs ≤ 2 → LTr i n j N (rdQ (swR R i m) i j n) := fun N hT h2 =>
    (hT.sw m1 m2).rd hI' hM hU hp hj hin (r := (tvL R m j).natAbs - 1) (fun k h3 h4 => by rw [et k h3 h4]; have := tmod_lt (a := tvL (swR R i m) k j) hne; omega) (fun _ => Nat.le_refl _) (fun w => by
      rw [ei]
      have h5 : (tvL R m j).natAbs = 1 ∨ (tvL R m j).natAbs = 2 := by omega
      rcases h5 with h5 | h5 <;> rw [h5] <;> omega)
  have wk : ∀ {S : LM}, LTr i n j LNA S → LTr i n j LNB S := fun h u w k l q a1 a2 a3 a4 bE1 bE2 bE3 b4 b5 b6 => Nat.le_trans (h u w k l q a1 a2 a3 a4 bE1 bE2 bE3 b4 b5 b6) (LNAB w).1
  have two : (tvL R m j).natAbs ≤ 2 → ∃ k, i ≤ k ∧ k < n ∧ ¬ rdQ (swR R i m) i j n k j = 0 ∧ (tvL (rdQ (swR R i m) i j n) k j).natAbs ≤ 2 := fun h2 => ⟨i, Nat.le_refl _, hin, by rw [rd_i, sw_i]; exact m3, by rw [eP]; exact h2⟩
  rcases hK with ⟨h6, hT⟩ | ⟨hT, hx⟩
  · by_cases h2 : (tvL R m j).natAbs ≤ 2
    · exact ⟨wk (small _ hT h2), Or.inl (two h2)⟩
    · have hP6 := h6 m m1 m2
      have h22 : ∀ k, i < k → k < n → (tvL (rdQ (swR R i m) i j n) k j).natAbs ≤ 2 := fun k h3 h4 => by
        rw [et k h3 h4, Int.natAbs_tmod]
        obtain ⟨k', c1, c2, c3⟩ := sw_row (R := R) m1 m2 (show i ≤ k by omega) h4
        have e1 : tvL (swR R i m) k j = tvL R k' j := by unfold tvL; rw [c3]
        rw [e1]
        have h7 := h6 k' c1 c2
        by_cases hz : R k' j = 0
        · rw [tv_0 hz]
          show 0 % _ ≤ 2
          rw [Nat.zero_mod]; omega
        · have h8 := hmin k' c1 (by omega) hz
          generalize (tvL R k' j).natAbs = x at *
          have h9 : (tvL R m j).natAbs = 3 ∨ (tvL R m j).natAbs = 4 ∨ (tvL R m j).natAbs = 5 ∨ (tvL R m j).natAbs = 6 := by omega
          rcases h9 with h9 | h9 | h9 | h9 <;> rw [h9] at h8 ⊢ <;> omega
      refine ⟨(hT.sw m1 m2).rd hI' hM hU hp hj hin (r := 2) h22 (fun w => (LNAB w).1) (fun w => ?_), ?_⟩
      · rw [ei]
        have h10 := (LNAB w).2
        have h11 : 3 * LNB w ≤ (tvL R m j).natAbs * LNB w := Nat.mul_le_mul_right _ (by omega)
        omega
      · by_cases h12 : ∃ k, i < k ∧ k < n ∧ ¬ rdQ (swR R i m) i j n k j = 0
        · obtain ⟨k, c1, c2, c3⟩ := h12
          exact Or.inl ⟨k, by omega, c2, c3, h22 k c1 c2⟩
        · exact Or.inr fun k c1 c2 => Classical.byContradiction fun hn => h12 ⟨k, c1, c2, hn⟩
  · rcases hx with ⟨k, c1, c2, c3, c4⟩ | hz
    · have h2 : (tvL R m j).natAbs ≤ 2 := Nat.le_trans (hmin k c1 (by omega) c3) c4
      exact ⟨small _ hT h2, Or.inl (two h2)⟩
    · have em : m = i := Classical.byContradiction fun hn => m3 (hz m (by omega) m2)
      have hz' : ∀ k, i < k → k < n → tvL (rdQ (swR R i m) i j n) k j = 0 := fun k h3 h4 => by
        rw [et k h3 h4]
        have e1 : swR R i m k j = 0 := by rw [sw_o (show k ≠ i by omega), if_neg (by omega)]; exact hz k h3 h4
        rw [tv_0 e1, Int.zero_tmod]
      refine ⟨(hT.sw m1 m2).rd hI' hM hU hp hj hin (r := 0) (fun k h3 h4 => by rw [hz' k h3 h4]; exact Nat.le_refl _) (fun _ => Nat.le_refl _) (fun w => by omega), Or.inr fun k h3 h4 => Int64.toInt_inj.mp (hz' k h3 h4)⟩
