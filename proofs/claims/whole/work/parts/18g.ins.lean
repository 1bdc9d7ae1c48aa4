/-! ===== a row comes into the grid: what is spanned ===== -/
theorem tmod_half {x y : Int} (h : y.natAbs < x.natAbs) (hy : y ≠ 0) : 2 * (x.tmod y).natAbs < 2 * x.natAbs - x.natAbs + 0 ∨ 2 * (x.tmod y).natAbs < x.natAbs := by
  right
  rw [Int.natAbs_tmod]
  have h0 : 0 < y.natAbs := by omega
  have h1 := Nat.mod_lt x.natAbs h0
  have h2 := Nat.div_add_mod x.natAbs y.natAbs
  have h3 : 1 ≤ x.natAbs / y.natAbs := (Nat.le_div_iff_mul_le h0).mpr (by omega)
  have h4 : y.natAbs * 1 ≤ y.natAbs * (x.natAbs / y.natAbs) := Nat.mul_le_mul_left _ h3
  omega
theorem sub_tmod (a p : Int) : a - a.tdiv p * p = a.tmod p := by
  have := Int.mul_tdiv_add_tmod a p
  rw [Int.mul_comm]; omega
theorem euZ_0 {c : Nat} {X Y : Nat → Int} (h : Y c = 0) : ∀ f, euZ c f X Y = (X, Y)
  | 0 => rfl
  | f + 1 => by rw [euZ, if_pos h]
theorem euZ_end {c : Nat} : ∀ k f (X Y : Nat → Int), (Y c).natAbs < 2 ^ k → 2 * k ≤ f → (euZ c f X Y).2 c = 0
  | 0, f, X, Y, h, _ => by
    have : Y c = 0 := by omega
    rw [euZ_0 this]; exact this
  | k + 1, f, X, Y, h, hf => by
    obtain ⟨f, rfl⟩ : ∃ g, f = g + 2 := ⟨f - 2, by omega⟩
    rw [euZ]
    by_cases e : Y c = 0
    · rw [if_pos e]; exact e
    · rw [if_neg e, euZ]
      have e1 : X c - (X c).tdiv (Y c) * Y c = (X c).tmod (Y c) := sub_tmod _ _
      have l1 := tmod_lt (a := X c) e
      by_cases e2 : X c - (X c).tdiv (Y c) * Y c = 0
      · rw [if_pos e2]; exact e2
      · rw [if_neg e2]
        refine euZ_end k f _ _ ?_ (by omega)
        show (Y c - (Y c).tdiv (X c - (X c).tdiv (Y c) * Y c) * (X c - (X c).tdiv (Y c) * Y c)).natAbs < 2 ^ k
        rw [sub_tmod]
        have := tmod_half (x := Y c) (y := X c - (X c).tdiv (Y c) * Y c) (by rw [e1]; exact l1) e2
        rw [Nat.pow_succ] at h
        omega
theorem euZ_ne {c : Nat} : ∀ f (X Y : Nat → Int), X c ≠ 0 ∨ Y c ≠ 0 → (euZ c f X Y).2 c = 0 → (euZ c f X Y).1 c ≠ 0
  | 0, X, Y, h, h0 => by
    rcases h with h | h
    · exact h
    · exact absurd h0 h
  | f + 1, X, Y, h, h0 => by
    rw [euZ] at h0 ⊢
    by_cases e : Y c = 0
    · rw [if_pos e] at h0 ⊢
      exact h.resolve_right (fun q => q e)
    · rw [if_neg e] at h0 ⊢
      exact euZ_ne f _ _ (Or.inl e) h0
/-- two rows turned into two others, and back -/
def UM (X Y P N : Nat → Int) : Prop := (∃ u v u' v' : Int, (∀ j, P j = u * X j + v * Y j) ∧ ∀ j, N j = u' * X j + v' * Y j) ∧ ∃ u v u' v' : Int, (∀ j, X j = u * P j + v * N j) ∧ ∀ j, Y j = u' * P j + v' * N j
theorem UM.rf {X Y : Nat → Int} : UM X Y X Y := ⟨⟨1, 0, 0, 1, fun j => by omega, fun j => by omega⟩, ⟨1, 0, 0, 1, fun j => by omega, fun j => by omega⟩⟩
theorem UM.tr {X Y P N Q M : Nat → Int} (h : UM X Y P N) (k : UM P N Q M) : UM X Y Q M := by
  obtain ⟨⟨a, b, c, d, h1, h2⟩, ⟨a', b', c', d', h3, h4⟩⟩ := h
  obtain ⟨⟨e, f, g, i, k1, k2⟩, ⟨e', f', g', i', k3, k4⟩⟩ := k
  refine ⟨⟨e * a + f * c, e * b + f * d, g * a + i * c, g * b + i * d, fun j => ?_, fun j => ?_⟩, ⟨a' * e' + b' * g', a' * f' + b' * i', c' * e' + d' * g', c' * f' + d' * i', fun j => ?_, fun j => ?_⟩⟩
  · rw [k1, h1, h2]; grind
  · rw [k2, h1, h2]; grind
  · rw [h3, k3, k4]; grind
  · rw [h4, k3, k4]; grind
theorem UM.st {X Y : Nat → Int} (q : Int) : UM X Y Y (fun j => X j - q * Y j) :=
  ⟨⟨0, 1, 1, -q, fun j => by omega, fun j => by show X j - q * Y j = _; grind⟩, ⟨q, 1, 1, 0, fun j => by show X j = q * Y j + 1 * (X j - q * Y j); omega, fun j => by omega⟩⟩
theorem UM.ng {X Y P N : Nat → Int} (c : Nat) (h : UM X Y P N) : UM X Y (ngZ P c) N := by
  unfold ngZ
  split
  · exact h.tr ⟨⟨-1, 0, 0, 1, fun j => by show - P j = -1 * P j + 0 * N j; omega, fun j => by omega⟩, ⟨-1, 0, 0, 1, fun j => by show P j = -1 * - P j + 0 * N j; omega, fun j => by show N j = 0 * - P j + 1 * N j; omega⟩⟩
  · exact h
theorem eu_um {c : Nat} : ∀ f (X Y : Nat → Int), UM X Y (euZ c f X Y).1 (euZ c f X Y).2
  | 0, X, Y => UM.rf
  | f + 1, X, Y => by
    rw [euZ]
    split
    · exact UM.rf
    · exact (UM.st _).tr (eu_um f _ _)
theorem sg_set {f g : Nat → Int} {k : Nat} : ∀ n, k < n → (∀ c, c < n → c ≠ k → f c = g c) → sgZ n f = sgZ n g - g k + f k
  | 0, h, _ => by omega
  | n + 1, h, he => by
    rw [sgZ, sgZ]
    by_cases e : k = n
    · rw [e, sg_c n (fun c hc => he c (by omega) (by omega))]; omega
    · rw [sg_set n (by omega) (fun c hc h2 => he c (by omega) h2), he n (by omega) (by omega)]; omega
/-- what a grid and one more row span -/
def spN (w : Nat) (B : LZ) (N x : Nat → Int) : Prop := ∃ (z : Nat → Int) (t : Int), ∀ j, j < w → x j = sgZ w (fun c => z c * B c j) + t * N j
theorem spN.um1 {w c : Nat} {B : LZ} {N P M x : Nat → Int} (hc : c < w) (h : ∃ u v u' v' : Int, (∀ j, B c j = u * P j + v * M j) ∧ ∀ j, N j = u' * P j + v' * M j) (hx : spN w B N x) : spN w (upn B c P) M x := by
  obtain ⟨u, v, u', v', h1, h2⟩ := h
  obtain ⟨z, t, hz⟩ := hx
  refine ⟨upn z c (z c * u + t * u'), z c * v + t * v', fun j hj => ?_⟩
  rw [hz j hj, sg_set (f := fun i => upn z c (z c * u + t * u') i * upn B c P i j) (g := fun i => z i * B i j) (k := c) w hc (fun i _ hi => by show upn z c _ i * upn B c P i j = _; rw [upn_ne _ _ hi, upn_ne _ _ hi])]
  show _ = _ - z c * B c j + upn z c (z c * u + t * u') c * upn B c P c j + _
  rw [upn_at, upn_at, h1 j, h2 j]
  grind
theorem spN.um {w c : Nat} {B : LZ} {N P M x : Nat → Int} (hc : c < w) (h : UM (B c) N P M) : spN w B N x ↔ spN w (upn B c P) M x := by
  refine ⟨fun hx => hx.um1 hc h.2, fun hx => ?_⟩
  obtain ⟨u, v, u', v', h1, h2⟩ := h.1
  have := spN.um1 (P := B c) (M := N) hc ⟨u, v, u', v', fun j => by rw [upn_at]; exact h1 j, h2⟩ hx
  have e : upn (upn B c P) c (B c) = B := by
    funext i
    by_cases e : i = c
    · rw [e, upn_at]
    · rw [upn_ne _ _ e, upn_ne _ _ e]
  rwa [e] at this
theorem in_sp {s : LZ × (Nat → Int)} {x : Nat → Int} : ∀ n, n ≤ 10 → (spN 10 s.1 s.2 x ↔ spN 10 (inZ n s).1 (inZ n s).2 x)
  | 0, _ => Iff.rfl
  | n + 1, hn => by
    rw [inZ]
    exact (in_sp n (by omega)).trans (spN.um (by omega) ((eu_um 200 _ _).ng n))
/-- columns that are 0 in both rows stay so -/
theorem UM.z {X Y P N : Nat → Int} (h : UM X Y P N) {j : Nat} (h1 : X j = 0) (h2 : Y j = 0) : P j = 0 ∧ N j = 0 := by
  obtain ⟨⟨u, v, u', v', e1, e2⟩, -⟩ := h
  rw [e1, e2, h1, h2]
  omega
theorem in_ht {s : LZ × (Nat → Int)} (h : HT 10 s.1) : ∀ n, n ≤ 10 → (∀ c, c < n → ((inZ c s).2 c).natAbs < 2 ^ 100) → HT 10 (inZ n s).1 ∧ ∀ j, j < n → (inZ n s).2 j = 0
  | 0, _, _ => ⟨h, fun j hj => by omega⟩
  | n + 1, hn, hb => by
    obtain ⟨ih, ih2⟩ := in_ht h n (by omega) (fun c hc => hb c (by omega))
    have he := euZ_end (c := n) 100 200 ((inZ n s).1 n) (inZ n s).2 (hb n (by omega)) (by omega)
    have hu := eu_um (c := n) 200 ((inZ n s).1 n) (inZ n s).2
    have hz : ∀ j, j < n → (ngZ (euZ n 200 ((inZ n s).1 n) (inZ n s).2).1 n) j = 0 ∧ (euZ n 200 ((inZ n s).1 n) (inZ n s).2).2 j = 0 := fun j hj => (hu.ng n).z (ih.1 n j (by omega) hj) (ih2 j hj)
    have hp : 0 ≤ ngZ (euZ n 200 ((inZ n s).1 n) (inZ n s).2).1 n n := by
      unfold ngZ
      split
      · show 0 ≤ - (euZ n 200 ((inZ n s).1 n) (inZ n s).2).1 n; omega
      · omega
    rw [inZ]
    generalize hPe : ngZ (euZ n 200 ((inZ n s).1 n) (inZ n s).2).1 n = P at hz hp
    refine ⟨⟨fun c j hc hj => ?_, fun c hc => ?_, fun c hc h0 j hj => ?_⟩, fun j hj => ?_⟩
    · show upn (inZ n s).1 n P c j = 0
      by_cases e : c = n
      · rw [e, upn_at]; exact (hz j (by omega)).1
      · rw [upn_ne _ _ e]; exact ih.1 c j hc hj
    · show 0 ≤ upn (inZ n s).1 n P c c
      by_cases e : c = n
      · rw [e, upn_at]; exact hp
      · rw [upn_ne _ _ e]; exact ih.2.1 c hc
    · have h0 : upn (inZ n s).1 n P c c = 0 := h0
      show upn (inZ n s).1 n P c j = 0
      by_cases e : c = n
      · rw [e, upn_at] at h0 ⊢
        have h1 : (euZ n 200 ((inZ n s).1 n) (inZ n s).2).1 n = 0 := by
          rw [← hPe] at h0
          unfold ngZ at h0
          split at h0
          · have h0 : - (euZ n 200 ((inZ n s).1 n) (inZ n s).2).1 n = 0 := h0
            omega
          · exact h0
        have h2 : (inZ n s).1 n n = 0 ∧ (inZ n s).2 n = 0 := by
          by_cases q : (inZ n s).1 n n = 0
          · by_cases q2 : (inZ n s).2 n = 0
            · exact ⟨q, q2⟩
            · exact absurd h1 (euZ_ne 200 _ _ (Or.inr q2) he)
          · exact absurd h1 (euZ_ne 200 _ _ (Or.inl q) he)
        have h3 := euZ_0 (X := (inZ n s).1 n) h2.2 200
        rw [← hPe, h3]
        have hr := ih.2.2 n (by omega) h2.1 j hj
        unfold ngZ
        split
        · show - (inZ n s).1 n j = 0; omega
        · exact hr
      · rw [upn_ne _ _ e] at h0 ⊢
        exact ih.2.2 c hc h0 j hj
    · by_cases e : j = n
      · rw [e]; exact he
      · exact (hz j (by omega)).2
