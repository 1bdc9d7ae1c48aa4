/-! ===== a row comes into the grid: what it is made of ===== -/
theorem tdm_na {a p : Int} : a.natAbs = (a.tdiv p).natAbs * p.natAbs + (a.tmod p).natAbs := by
  rw [Int.natAbs_tdiv, Int.natAbs_tmod]
  have := Nat.div_add_mod a.natAbs p.natAbs
  rw [Nat.mul_comm] at this
  exact this.symm
theorem eu_gd {c : Nat} : ∀ f (X Y : Nat → Int), X c ≠ 0 → Y c ≠ 0 → (euZ c f X Y).2 c = 0 → ∃ s t u v : Int, (∀ j, (euZ c f X Y).1 j = s * X j + t * Y j) ∧ (∀ j, (euZ c f X Y).2 j = u * X j + v * Y j) ∧ (s * v - t * u = 1 ∨ s * v - t * u = -1) ∧ s.natAbs ≤ u.natAbs ∧ t.natAbs ≤ v.natAbs
  | 0, X, Y, _, hY, h => absurd h hY
  | f + 1, X, Y, hX, hY, h => by
    rw [euZ, if_neg hY] at h ⊢
    have er : (fun j => X j - (X c).tdiv (Y c) * Y j) c = (X c).tmod (Y c) := sub_tmod _ _
    have hdm := tdm_na (a := X c) (p := Y c)
    by_cases hR : (fun j => X j - (X c).tdiv (Y c) * Y j) c = 0
    · rw [euZ_0 hR]
      refine ⟨0, 1, 1, - (X c).tdiv (Y c), fun j => by show Y j = _; omega, fun j => by show X j - (X c).tdiv (Y c) * Y j = _; grind, Or.inr (by omega), by decide, ?_⟩
      rw [er] at hR
      rw [hR] at hdm
      rw [Int.natAbs_neg]
      by_cases q : (X c).tdiv (Y c) = 0
      · rw [q] at hdm
        simp at hdm
        exact absurd hdm hX
      · show 1 ≤ _
        omega
    · obtain ⟨s, t, u, v, h1, h2, h3, h4, h5⟩ := eu_gd f Y (fun j => X j - (X c).tdiv (Y c) * Y j) hY hR h
      have hz := h2 c
      rw [h] at hz
      have hz : 0 = u * Y c + v * (fun j => X j - (X c).tdiv (Y c) * Y j) c := hz
      rw [er] at hz
      refine ⟨t, s - (X c).tdiv (Y c) * t, v, u - (X c).tdiv (Y c) * v, fun j => by rw [h1]; grind, fun j => by rw [h2]; grind, ?_, h5, ?_⟩
      · have e : t * (u - (X c).tdiv (Y c) * v) - (s - (X c).tdiv (Y c) * t) * v = - (s * v - t * u) := by grind
        rw [e]; omega
      · -- |u| |Y| = |v| |R|
        have k1 : u.natAbs * (Y c).natAbs = v.natAbs * ((X c).tmod (Y c)).natAbs := by
          have : u * Y c = - (v * (X c).tmod (Y c)) := by omega
          have := congrArg Int.natAbs this
          rwa [Int.natAbs_neg, Int.natAbs_mul, Int.natAbs_mul] at this
        have k2 : (u - (X c).tdiv (Y c) * v) * Y c = - (v * X c) := by
          have := Int.mul_tdiv_add_tmod (X c) (Y c)
          grind
        have k3 := congrArg Int.natAbs k2
        rw [Int.natAbs_neg, Int.natAbs_mul, Int.natAbs_mul] at k3
        have k4 : (s - (X c).tdiv (Y c) * t).natAbs ≤ s.natAbs + ((X c).tdiv (Y c)).natAbs * t.natAbs := by
          rw [← Int.natAbs_mul]; omega
        have k5 : ((X c).tdiv (Y c)).natAbs * t.natAbs ≤ ((X c).tdiv (Y c)).natAbs * v.natAbs := Nat.mul_le_mul_left _ h5
        have hYp : 0 < (Y c).natAbs := by omega
        refine Nat.le_of_mul_le_mul_right (?_ : (s - (X c).tdiv (Y c) * t).natAbs * (Y c).natAbs ≤ (u - (X c).tdiv (Y c) * v).natAbs * (Y c).natAbs) hYp
        rw [k3]
        have k6 : (s - (X c).tdiv (Y c) * t).natAbs * (Y c).natAbs ≤ (u.natAbs + ((X c).tdiv (Y c)).natAbs * v.natAbs) * (Y c).natAbs := Nat.mul_le_mul_right _ (by omega)
        have k7 : (u.natAbs + ((X c).tdiv (Y c)).natAbs * v.natAbs) * (Y c).natAbs = v.natAbs * ((X c).tmod (Y c)).natAbs + v.natAbs * (((X c).tdiv (Y c)).natAbs * (Y c).natAbs) := by
          rw [Nat.add_mul, k1]; grind
        have k8 : v.natAbs * (X c).natAbs = v.natAbs * (((X c).tdiv (Y c)).natAbs * (Y c).natAbs) + v.natAbs * ((X c).tmod (Y c)).natAbs := by
          rw [← Nat.mul_add, ← hdm]
        omega
/-- two rows: what comes out, with what numbers -/
def Bz (P N P' N' : Nat → Int) (s t u v : Int) : Prop := (∀ j, P' j = s * P j + t * N j) ∧ (∀ j, N' j = u * P j + v * N j) ∧ (s * v - t * u = 1 ∨ s * v - t * u = -1) ∧ t.natAbs ≤ v.natAbs ∧ (v.natAbs = 1 ∧ (t = 0 ∧ s.natAbs = 1 ∨ s = 0 ∧ t.natAbs = 1) ∨ v.natAbs ≠ 1 ∧ s.natAbs ≤ u.natAbs)
theorem eu_bz {c f : Nat} {X Y : Nat → Int} (hX : 0 < X c) (he : (euZ c (f + 2) X Y).2 c = 0) : ∃ s t u v, Bz X Y (euZ c (f + 2) X Y).1 (euZ c (f + 2) X Y).2 s t u v := by
  by_cases h0 : Y c = 0
  · rw [euZ_0 h0]
    exact ⟨1, 0, 0, 1, fun j => by show X j = _; omega, fun j => by show Y j = _; omega, Or.inl (by omega), by decide, Or.inl ⟨by decide, Or.inl ⟨rfl, by decide⟩⟩⟩
  · have er : (fun j => X j - (X c).tdiv (Y c) * Y j) c = (X c).tmod (Y c) := sub_tmod _ _
    have hdm := tdm_na (a := X c) (p := Y c)
    by_cases hd : X c ∣ Y c
    · have hd2 := Int.natAbs_dvd_natAbs.mpr hd
      have hle := Nat.le_of_dvd (by omega) hd2
      by_cases heq : (Y c).natAbs = (X c).natAbs
      · have hz : (X c).tmod (Y c) = 0 := by
          have : ((X c).tmod (Y c)).natAbs = 0 := by rw [Int.natAbs_tmod, heq, Nat.mod_self]
          omega
        rw [hz, heq] at hdm
        have hq : ((X c).tdiv (Y c)).natAbs = 1 := by
          rw [Int.natAbs_tdiv, heq]
          exact Nat.div_self (by omega)
        rw [euZ, if_neg h0, euZ_0 (er.trans hz)]
        exact ⟨0, 1, 1, - (X c).tdiv (Y c), fun j => by show Y j = _; omega, fun j => by show X j - (X c).tdiv (Y c) * Y j = _; grind, Or.inr (by omega), by rw [Int.natAbs_neg, hq]; decide, Or.inl ⟨by rw [Int.natAbs_neg, hq], Or.inr ⟨rfl, by decide⟩⟩⟩
      · have hq : (X c).tdiv (Y c) = 0 := by
          have : ((X c).tdiv (Y c)).natAbs = 0 := by rw [Int.natAbs_tdiv]; exact Nat.div_eq_of_lt (by omega)
          omega
        have eX : (fun j => X j - (X c).tdiv (Y c) * Y j) = X := by funext j; rw [hq]; omega
        have hz : (fun j => Y j - (Y c).tdiv (X c) * X j) c = 0 := by
          show Y c - (Y c).tdiv (X c) * X c = 0
          rw [Int.tdiv_mul_cancel hd]; omega
        rw [euZ, if_neg h0, eX, euZ, if_neg (by omega), euZ_0 hz]
        exact ⟨1, 0, - (Y c).tdiv (X c), 1, fun j => by show X j = _; omega, fun j => by show Y j - (Y c).tdiv (X c) * X j = _; grind, Or.inl (by omega), by decide, Or.inl ⟨by decide, Or.inl ⟨rfl, by decide⟩⟩⟩
    · obtain ⟨s, t, u, v, h1, h2, h3, h4, h5⟩ := eu_gd (f + 2) X Y (by omega) h0 he
      refine ⟨s, t, u, v, h1, h2, h3, h5, Or.inr ⟨fun q => hd ?_, h4⟩⟩
      have hz := h2 c
      rw [he] at hz
      have hv : v = 1 ∨ v = -1 := by omega
      rcases hv with e | e
      · rw [e] at hz
        exact ⟨- u, by rw [Int.mul_neg, Int.mul_comm]; omega⟩
      · rw [e] at hz
        exact ⟨u, by rw [Int.mul_comm]; omega⟩
theorem in_hi {s : LZ × (Nat → Int)} {c : Nat} : ∀ n, n ≤ c → (inZ n s).1 c = s.1 c
  | 0, _ => rfl
  | n + 1, h => by
    rw [inZ]
    show upn (inZ n s).1 n _ c = _
    rw [upn_ne _ _ (by omega)]
    exact in_hi n (by omega)
theorem in_lo {s : LZ × (Nat → Int)} {c : Nat} : ∀ n, c < n → (inZ n s).1 c = (inZ (c + 1) s).1 c
  | 0, h => by omega
  | n + 1, h => by
    by_cases e : c = n
    · rw [e]
    · rw [inZ]
      show upn (inZ n s).1 n _ c = _
      rw [upn_ne _ _ e]
      exact in_lo n (by omega)
/-- a column -/
theorem in_step {s : LZ × (Nat → Int)} {c : Nat} (hB : HT 10 s.1) (hc : c < 10) (hb : 0 < s.1 c c → ((inZ c s).2 c).natAbs < 2 ^ 100) : (¬ 0 < s.1 c c ∧ (inZ c s).2 c = 0 ∧ (inZ (c + 1) s).1 c = s.1 c ∧ (inZ (c + 1) s).2 = (inZ c s).2) ∨ (¬ 0 < s.1 c c ∧ (inZ c s).2 c ≠ 0 ∧ (∃ e : Int, (e = 1 ∨ e = -1) ∧ ∀ j, (inZ (c + 1) s).1 c j = e * (inZ c s).2 j) ∧ 0 < (inZ (c + 1) s).1 c c ∧ ∀ j, j < 10 → (inZ (c + 1) s).2 j = 0) ∨ (0 < s.1 c c ∧ 0 < (inZ (c + 1) s).1 c c ∧ (inZ (c + 1) s).2 c = 0 ∧ ∃ a b u v, Bz (s.1 c) (inZ c s).2 ((inZ (c + 1) s).1 c) (inZ (c + 1) s).2 a b u v) := by
  have e1 : (inZ (c + 1) s).1 c = ngZ (euZ c 200 (s.1 c) (inZ c s).2).1 c := by
    rw [inZ]
    show upn (inZ c s).1 c _ c = _
    rw [upn_at, in_hi c (Nat.le_refl _)]
  have e2 : (inZ (c + 1) s).2 = (euZ c 200 (s.1 c) (inZ c s).2).2 := by
    rw [inZ, in_hi c (Nat.le_refl _)]
  by_cases hp : 0 < s.1 c c
  · right; right
    have he := euZ_end (c := c) 100 200 (s.1 c) (inZ c s).2 (hb hp) (by omega)
    have hne := euZ_ne (c := c) 200 (s.1 c) (inZ c s).2 (Or.inl (by omega)) he
    obtain ⟨a, b, u, v, h1, h2, h3, h4, h5⟩ := eu_bz (f := 198) hp he
    refine ⟨hp, ?_, by rw [e2]; exact he, ?_⟩
    · rw [e1]
      unfold ngZ
      split
      · show 0 < - (euZ c 200 (s.1 c) (inZ c s).2).1 c; omega
      · omega
    · rw [e1, e2]
      unfold ngZ
      split
      · refine ⟨- a, - b, u, v, fun j => ?_, h2, ?_, by rw [Int.natAbs_neg]; exact h4, ?_⟩
        · show - (euZ c 200 (s.1 c) (inZ c s).2).1 j = _
          have := h1 j
          have this : (euZ c 200 (s.1 c) (inZ c s).2).1 j = _ := this
          rw [this]; grind
        · have : - a * v - - b * u = - (a * v - b * u) := by grind
          rw [this]; omega
        · rw [Int.natAbs_neg, Int.natAbs_neg]
          rcases h5 with ⟨g1, g2⟩ | g
          · exact Or.inl ⟨g1, by omega⟩
          · exact Or.inr g
      · exact ⟨a, b, u, v, h1, h2, h3, h4, h5⟩
  · have hr := hB.r0 hc hp
    by_cases h0 : (inZ c s).2 c = 0
    · left
      rw [e1, e2, euZ_0 h0]
      refine ⟨hp, h0, ?_, rfl⟩
      unfold ngZ
      rw [if_neg (show ¬ s.1 c c < 0 by have := hr c hc; omega)]
    · right; left
      have hq : (s.1 c c).tdiv ((inZ c s).2 c) = 0 := by rw [hr c hc]; exact Int.zero_tdiv _
      have hz : (fun j => s.1 c j - (s.1 c c).tdiv ((inZ c s).2 c) * (inZ c s).2 j) c = 0 := by
        show s.1 c c - (s.1 c c).tdiv ((inZ c s).2 c) * (inZ c s).2 c = 0
        rw [hq, hr c hc]; omega
      have ee : euZ c 200 (s.1 c) (inZ c s).2 = ((inZ c s).2, fun j => s.1 c j - (s.1 c c).tdiv ((inZ c s).2 c) * (inZ c s).2 j) := by
        rw [euZ, if_neg h0, euZ_0 hz]
      rw [e1, e2, ee]
      refine ⟨hp, h0, ?_, ?_, fun j hj => ?_⟩
      · unfold ngZ
        split
        · exact ⟨-1, Or.inr rfl, fun j => by show - (inZ c s).2 j = _; omega⟩
        · exact ⟨1, Or.inl rfl, fun j => by show (inZ c s).2 j = _; omega⟩
      · unfold ngZ
        split
        · rename_i q
          have q : (inZ c s).2 c < 0 := q
          show 0 < - (inZ c s).2 c
          omega
        · rename_i q
          have q : ¬ (inZ c s).2 c < 0 := q
          show 0 < (inZ c s).2 c
          omega
      · show s.1 c j - (s.1 c c).tdiv ((inZ c s).2 c) * (inZ c s).2 j = 0
        rw [hq, hr j hj]; omega
