/-! ===== a row comes into the grid: how large its numbers are ===== -/
def pkN (B : LZ) (c : Nat) : Nat := (pvl B (10 - c) c).length
def pDN (B : LZ) (c : Nat) : Nat := pvD B (10 - c) c
theorem pk_p {B : LZ} {c : Nat} (hc : c < 10) (hp : 0 < B c c) : pkN B c = pkN B (c + 1) + 1 ∧ pDN B c = (B c c).toNat * pDN B (c + 1) := by
  unfold pkN pDN
  rw [show 10 - c = (10 - (c + 1)) + 1 by omega, pvl, pvD, if_pos hp, if_pos hp, List.length_cons]
  exact ⟨rfl, rfl⟩
theorem pk_n {B : LZ} {c : Nat} (hc : c < 10) (hp : ¬ 0 < B c c) : pkN B c = pkN B (c + 1) ∧ pDN B c = pDN B (c + 1) := by
  unfold pkN pDN
  rw [show 10 - c = (10 - (c + 1)) + 1 by omega, pvl, pvD, if_neg hp, if_neg hp, Nat.one_mul]
  exact ⟨rfl, rfl⟩
def NVs (B : LZ) (g c : Nat) (n : Nat → Int) : Prop := n (3 + g) ≠ 0 ∧ (n (3 + g)).natAbs * pDN B c ≤ 216 ∧ (∀ j, j < c → n j = 0) ∧ (pkN B c = 6 → (n (3 + g)).natAbs = 1 ∧ ∀ i j, i ≠ j → i < 10 → j < 10 → 0 < B i i → 0 < B j j → (n i).natAbs + (n j).natAbs ≤ 6) ∧ ∀ j, c ≤ j → j < 10 → 0 < B j j → (n j).natAbs ≤ (n (3 + g)).natAbs * (6 * 2 ^ (5 - pkN B c)) * (B j j).natAbs
theorem Bz.vg {B : LZ} {c : Nat} {n P' n' : Nat → Int} {s t u v : Int} (h : Bz (B c) n P' n' s t u v) (h0 : n' c = 0) : v.natAbs * (P' c).natAbs = (B c c).natAbs ∧ u.natAbs * (P' c).natAbs = (n c).natAbs := by
  obtain ⟨h1, h2, h3, -, -⟩ := h
  have e1 := h1 c
  have e2 := h2 c
  rw [h0] at e2
  have k1 : v * P' c = (s * v - t * u) * B c c := by rw [e1]; grind
  have k2 : u * P' c = - ((s * v - t * u) * n c) := by rw [e1]; grind
  have a1 := congrArg Int.natAbs k1
  have a2 := congrArg Int.natAbs k2
  rw [Int.natAbs_neg] at a2
  rw [Int.natAbs_mul, Int.natAbs_mul] at a1 a2
  have : (s * v - t * u).natAbs = 1 := by omega
  rw [this, Nat.one_mul] at a1 a2
  exact ⟨a1, a2⟩
theorem NVs.p {B : LZ} {g c : Nat} {n : Nat → Int} (h : NVs B g c n) (hc : c < 10) (hp : 0 < B c c) : (n (3 + g)).natAbs * (B c c).natAbs ≤ 216 := by
  have := (pk_p hc hp).2
  have h2 := h.2.1
  rw [this] at h2
  have h3 := pvD_1 (B := B) (10 - (c + 1)) (c + 1)
  have h4 : (B c c).toNat = (B c c).natAbs := by omega
  rw [h4] at h2
  have h5 : (n (3 + g)).natAbs * (B c c).natAbs * 1 ≤ (n (3 + g)).natAbs * (B c c).natAbs * pDN B (c + 1) := Nat.mul_le_mul_left _ h3
  rw [← Nat.mul_assoc] at h2
  omega
theorem NVs.st {B : LZ} {g c : Nat} {n P' n' : Nat → Int} {s t u v : Int} (hB : HN 10 B) (hz : ∀ c, c < 10 → B c (3 + g) = 0) (hk : pkN B c ≤ 6) (hc : c < 10) (hp : 0 < B c c) (hg : 0 < P' c) (h0 : n' c = 0) (hb : Bz (B c) n P' n' s t u v) (h : NVs B g c n) : NVs B g (c + 1) n' ∧ n' (3 + g) = v * n (3 + g) := by
  obtain ⟨n1, n2, n3, n5, n4⟩ := h
  obtain ⟨v1, v2⟩ := hb.vg h0
  obtain ⟨p1, p2⟩ := pk_p hc hp
  have eT : n' (3 + g) = v * n (3 + g) := by rw [hb.2.1, hz c hc, Int.mul_zero, Int.zero_add]
  have hgn : 0 < (P' c).natAbs := by omega
  have hv0 : v ≠ 0 := fun q => by rw [q] at v1; simp at v1; omega
  have hvp : v.natAbs ≤ (B c c).natAbs := by
    have : v.natAbs * 1 ≤ v.natAbs * (P' c).natAbs := Nat.mul_le_mul_left _ hgn
    omega
  refine ⟨⟨?_, ?_, fun j hj => ?_, fun q => by omega, fun j h1 h2 h3 => ?_⟩, eT⟩
  · rw [eT]
    intro q
    rcases Int.mul_eq_zero.mp q with q | q
    · exact hv0 q
    · exact n1 q
  · rw [eT, Int.natAbs_mul]
    rw [p2, show (B c c).toNat = (B c c).natAbs by omega] at n2
    have a1 : v.natAbs * (n (3 + g)).natAbs * pDN B (c + 1) ≤ (B c c).natAbs * (n (3 + g)).natAbs * pDN B (c + 1) := Nat.mul_le_mul_right _ (Nat.mul_le_mul_right _ hvp)
    have a2 : (B c c).natAbs * (n (3 + g)).natAbs * pDN B (c + 1) = (n (3 + g)).natAbs * ((B c c).natAbs * pDN B (c + 1)) := by grind
    omega
  · by_cases q : j = c
    · rw [q]; exact h0
    · rw [hb.2.1, hB.1 c j hc (by omega), n3 j (by omega)]; omega
  · have hPj : (B c j).natAbs ≤ (B j j).natAbs := by
      have := hB.2.2.2 c j (by omega) h2 h3; omega
    have a1 : (u * B c j + v * n j).natAbs ≤ u.natAbs * (B c j).natAbs + v.natAbs * (n j).natAbs := by
      rw [← Int.natAbs_mul, ← Int.natAbs_mul]; omega
    by_cases h6 : pkN B c = 6
    · obtain ⟨t1, t2⟩ := n5 h6
      have hs := t2 c j (by omega) hc h2 hp h3
      have hu : u.natAbs ≤ (n c).natAbs * v.natAbs := by
        refine Nat.le_of_mul_le_mul_right (?_ : u.natAbs * (P' c).natAbs ≤ (n c).natAbs * v.natAbs * (P' c).natAbs) hgn
        rw [v2, Nat.mul_assoc, v1]
        exact Nat.le_mul_of_pos_right _ (by omega)
      have a2 : u.natAbs * (B c j).natAbs ≤ (n c).natAbs * v.natAbs * (B j j).natAbs := Nat.mul_le_mul hu hPj
      have a3 : v.natAbs * (n j).natAbs * 1 ≤ v.natAbs * (n j).natAbs * (B j j).natAbs := Nat.mul_le_mul_left _ (by omega)
      have a4 : (n c).natAbs * v.natAbs * (B j j).natAbs + v.natAbs * (n j).natAbs * (B j j).natAbs = ((n c).natAbs + (n j).natAbs) * (v.natAbs * (B j j).natAbs) := by grind
      have a5 : ((n c).natAbs + (n j).natAbs) * (v.natAbs * (B j j).natAbs) ≤ 6 * (v.natAbs * (B j j).natAbs) := Nat.mul_le_mul_right _ hs
      have hν : 6 * 2 ^ (5 - pkN B (c + 1)) = 6 := by rw [show 5 - pkN B (c + 1) = 0 by omega]
      have a6 : v.natAbs * 1 * 6 * (B j j).natAbs = 6 * (v.natAbs * (B j j).natAbs) := by grind
      rw [hν, eT, hb.2.1 j, Int.natAbs_mul, t1]
      omega
    · have hnc := n4 c (Nat.le_refl _) hc hp
      have hnj := n4 j (by omega) h2 h3
      generalize hν : 6 * 2 ^ (5 - pkN B c) = ν at hnc hnj
      have hν2 : 6 * 2 ^ (5 - pkN B (c + 1)) = 2 * ν := by
        rw [show 5 - pkN B (c + 1) = (5 - pkN B c) + 1 by omega, Nat.pow_succ, ← hν]; omega
      have hu : u.natAbs ≤ (n (3 + g)).natAbs * ν * v.natAbs := by
        refine Nat.le_of_mul_le_mul_right (?_ : u.natAbs * (P' c).natAbs ≤ (n (3 + g)).natAbs * ν * v.natAbs * (P' c).natAbs) hgn
        rw [v2, Nat.mul_assoc _ v.natAbs, v1]
        exact hnc
      rw [hν2, eT, hb.2.1 j, Int.natAbs_mul]
      have a2 : u.natAbs * (B c j).natAbs ≤ (n (3 + g)).natAbs * ν * v.natAbs * (B j j).natAbs := Nat.mul_le_mul hu hPj
      have a3 : v.natAbs * (n j).natAbs ≤ v.natAbs * ((n (3 + g)).natAbs * ν * (B j j).natAbs) := Nat.mul_le_mul_left _ hnj
      have a4 : v.natAbs * (n (3 + g)).natAbs * (2 * ν) * (B j j).natAbs = (n (3 + g)).natAbs * ν * v.natAbs * (B j j).natAbs + v.natAbs * ((n (3 + g)).natAbs * ν * (B j j).natAbs) := by grind
      omega
theorem NVs.nx {B : LZ} {g c : Nat} {n : Nat → Int} (hc : c < 10) (hp : ¬ 0 < B c c) (h0 : n c = 0) (h : NVs B g c n) : NVs B g (c + 1) n := by
  obtain ⟨n1, n2, n3, n5, n4⟩ := h
  obtain ⟨p1, p2⟩ := pk_n hc hp
  refine ⟨n1, by rw [← p2]; exact n2, fun j hj => ?_, by rw [← p1]; exact n5, fun j h1 h2 h3 => by rw [← p1]; exact n4 j (by omega) h2 h3⟩
  by_cases q : j = c
  · rw [q]; exact h0
  · exact n3 j (by omega)
theorem in_z {s : LZ × (Nat → Int)} {c : Nat} (hB : HT 10 s.1) (hc : c < 10) (h0 : (inZ c s).2 c = 0) : (inZ (c + 1) s).1 c = s.1 c ∧ (inZ (c + 1) s).2 = (inZ c s).2 := by
  have e1 : (inZ (c + 1) s).1 c = ngZ (euZ c 200 (s.1 c) (inZ c s).2).1 c := by
    rw [inZ]
    show upn (inZ c s).1 c _ c = _
    rw [upn_at, in_hi c (Nat.le_refl _)]
  have e2 : (inZ (c + 1) s).2 = (euZ c 200 (s.1 c) (inZ c s).2).2 := by
    rw [inZ, in_hi c (Nat.le_refl _)]
  rw [e1, e2, euZ_0 h0]
  refine ⟨?_, rfl⟩
  unfold ngZ
  rw [if_neg (show ¬ s.1 c c < 0 by have := hB.2.1 c hc; omega)]
def S13 (s : LZ × (Nat → Int)) (c : Nat) : Prop := (¬ 0 < s.1 c c ∧ (inZ c s).2 c = 0 ∧ (inZ 10 s).1 c = s.1 c ∧ (inZ (c + 1) s).2 = (inZ c s).2) ∨ (0 < s.1 c c ∧ 0 < (inZ 10 s).1 c c ∧ (inZ (c + 1) s).2 c = 0 ∧ ∃ a b u v, Bz (s.1 c) (inZ c s).2 ((inZ 10 s).1 c) (inZ (c + 1) s).2 a b u v)
def IRs (s : LZ × (Nat → Int)) (g c0 : Nat) : Prop := c0 < 10 ∧ (∀ c, c ≤ c0 → NVs s.1 g c (inZ c s).2) ∧ (∀ c, c < c0 → S13 s c) ∧ ¬ 0 < s.1 c0 c0 ∧ (∃ e : Int, (e = 1 ∨ e = -1) ∧ ∀ j, (inZ 10 s).1 c0 j = e * (inZ c0 s).2 j) ∧ 0 < (inZ 10 s).1 c0 c0 ∧ (∀ c, c0 < c → c < 10 → (inZ 10 s).1 c = s.1 c) ∧ (∀ c, c0 < c → c ≤ 10 → ∀ j, j < 10 → (inZ c s).2 j = 0)
theorem in_run {s : LZ × (Nat → Int)} {g : Nat} (hB : HN 10 s.1) (hg : g < 7) (hz : ∀ c, c < 10 → s.1 c (3 + g) = 0) (hk : pkN s.1 0 ≤ 6) (h0 : NVs s.1 g 0 s.2) : ∃ c0, IRs s g c0 := by
  have hkc : ∀ c, c ≤ 10 → pkN s.1 c ≤ 6 := by
    intro c
    induction c with
    | zero => intro _; exact hk
    | succ c ih =>
      intro hc
      have := ih (by omega)
      by_cases hp : 0 < s.1 c c
      · have := (pk_p (show c < 10 by omega) hp).1; omega
      · have := (pk_n (show c < 10 by omega) hp).1; omega
  have key : ∀ m, m ≤ 10 → ((∀ c, c ≤ m → NVs s.1 g c (inZ c s).2) ∧ ∀ c, c < m → S13 s c) ∨ ∃ c0, c0 < m ∧ (∀ c, c ≤ c0 → NVs s.1 g c (inZ c s).2) ∧ (∀ c, c < c0 → S13 s c) ∧ ¬ 0 < s.1 c0 c0 ∧ (∃ e : Int, (e = 1 ∨ e = -1) ∧ ∀ j, (inZ 10 s).1 c0 j = e * (inZ c0 s).2 j) ∧ 0 < (inZ 10 s).1 c0 c0 ∧ (∀ c, c0 < c → c < m → (inZ 10 s).1 c = s.1 c) ∧ (∀ c, c0 < c → c ≤ m → ∀ j, j < 10 → (inZ c s).2 j = 0) := by
    intro m
    induction m with
    | zero => exact fun _ => Or.inl ⟨fun c hc => by rw [show c = 0 by omega]; exact h0, fun c hc => by omega⟩
    | succ m ih =>
      intro hm
      have el := in_lo (s := s) (c := m) 10 (by omega)
      rcases ih (by omega) with ⟨i1, i2⟩ | ⟨c0, j0, j1, j2, j3, j4, j5, j6, j7⟩
      · have hv := i1 m (Nat.le_refl _)
        have hbd : 0 < s.1 m m → ((inZ m s).2 m).natAbs < 2 ^ 100 := fun hp => by
          have a1 := hv.2.2.2.2 m (Nat.le_refl _) (by omega) hp
          have a2 := hv.p (by omega) hp
          have a3 : (2 : Nat) ^ (5 - pkN s.1 m) ≤ 2 ^ 6 := Nat.pow_le_pow_right (by omega) (by omega)
          have a4 : ((inZ m s).2 (3 + g)).natAbs * (6 * 2 ^ (5 - pkN s.1 m)) * (s.1 m m).natAbs = ((inZ m s).2 (3 + g)).natAbs * (s.1 m m).natAbs * (6 * 2 ^ (5 - pkN s.1 m)) := by grind
          have a5 : ((inZ m s).2 (3 + g)).natAbs * (s.1 m m).natAbs * (6 * 2 ^ (5 - pkN s.1 m)) ≤ 216 * (6 * 2 ^ 6) := Nat.mul_le_mul a2 (Nat.mul_le_mul_left _ a3)
          have : (216 * (6 * 2 ^ 6) : Nat) < 2 ^ 100 := by decide
          omega
        rcases in_step hB.ht (show m < 10 by omega) hbd with ⟨k1, k2, k3, k4⟩ | ⟨k1, k2, k3, k4, k5⟩ | ⟨k1, k2, k3, a, b, u, v, k4⟩
        · left
          refine ⟨fun c hc => ?_, fun c hc => ?_⟩
          · by_cases q : c = m + 1
            · rw [q, k4]; exact hv.nx (by omega) k1 k2
            · exact i1 c (by omega)
          · by_cases q : c = m
            · rw [q]; exact Or.inl ⟨k1, k2, by rw [el]; exact k3, k4⟩
            · exact i2 c (by omega)
        · right
          refine ⟨m, by omega, i1, i2, k1, by rw [el]; exact k3, by rw [el]; exact k4, fun c h1 h2 => by omega, fun c h1 h2 => ?_⟩
          rw [show c = m + 1 by omega]; exact k5
        · left
          refine ⟨fun c hc => ?_, fun c hc => ?_⟩
          · by_cases q : c = m + 1
            · rw [q]; exact (NVs.st hB hz (hkc m (by omega)) (by omega) k1 k2 k3 k4 hv).1
            · exact i1 c (by omega)
          · by_cases q : c = m
            · rw [q]; exact Or.inr ⟨k1, by rw [el]; exact k2, k3, a, b, u, v, by rw [el]; exact k4⟩
            · exact i2 c (by omega)
      · right
        obtain ⟨z1, z2⟩ := in_z hB.ht (show m < 10 by omega) (j7 m (by omega) (Nat.le_refl _) m (by omega))
        refine ⟨c0, by omega, j1, j2, j3, j4, j5, fun c h1 h2 => ?_, fun c h1 h2 => ?_⟩
        · by_cases q : c = m
          · rw [q, el]; exact z1
          · exact j6 c h1 (by omega)
        · by_cases q : c = m + 1
          · rw [q, z2]; exact j7 m (by omega) (Nat.le_refl _)
          · exact j7 c h1 (by omega)
  rcases key 10 (Nat.le_refl _) with ⟨i1, -⟩ | ⟨c0, h⟩
  · exfalso
    have := i1 10 (Nat.le_refl _)
    exact this.1 (this.2.2.1 (3 + g) (by omega))
  · exact ⟨c0, h⟩
/-- the grid with the new row: shape, span -/
theorem IRs.ht {s : LZ × (Nat → Int)} {g c0 : Nat} (hB : HN 10 s.1) (h : IRs s g c0) : HT 10 (inZ 10 s).1 := by
  obtain ⟨h1, h2, h3, h4, ⟨e, he, h5⟩, h6, h7, h8⟩ := h
  have cs : ∀ c, c < 10 → (∀ j, j < c → (inZ 10 s).1 c j = 0) ∧ 0 ≤ (inZ 10 s).1 c c ∧ ((inZ 10 s).1 c c = 0 → ∀ j, j < 10 → (inZ 10 s).1 c j = 0) := fun c hc => by
    by_cases q : c < c0
    · rcases h3 c q with ⟨k1, k2, k3, k4⟩ | ⟨k1, k2, k3, a, b, u, v, k4⟩
      · rw [k3]
        exact ⟨fun j hj => hB.1 c j hc hj, hB.2.1 c hc, fun z => hB.2.2.1 c hc z⟩
      · refine ⟨fun j hj => ?_, by omega, fun z => by omega⟩
        rw [k4.1, hB.1 c j hc hj, (h2 c (by omega)).2.2.1 j hj]; omega
    · by_cases q2 : c = c0
      · rw [q2]
        refine ⟨fun j hj => ?_, by omega, fun z => by omega⟩
        rw [h5, (h2 c0 (Nat.le_refl _)).2.2.1 j hj, Int.mul_zero]
      · rw [h7 c (by omega) hc]
        exact ⟨fun j hj => hB.1 c j hc hj, hB.2.1 c hc, fun z => hB.2.2.1 c hc z⟩
  exact ⟨fun c j hc hj => (cs c hc).1 j hj, fun c hc => (cs c hc).2.1, fun c hc z => (cs c hc).2.2 z⟩
theorem spN.mz {Mz B : LZ} {g : Nat} {x : Nat → Int} (hB : ∀ x, spL0 10 B x ↔ spMz Mz g x) : spN 10 B (Mz g) x ↔ spMz Mz (g + 1) x := by
  constructor
  · rintro ⟨z, t, hz⟩
    obtain ⟨v, hv⟩ := (hB (fun j => sgZ 10 (fun c => z c * B c j))).mp ⟨z, fun j hj => rfl⟩
    refine ⟨upn v g t, fun j hj => ?_⟩
    rw [hz j hj]
    show sgZ 10 (fun c => z c * B c j) + t * Mz g j = sgZ g (fun q => upn v g t q * Mz q j) + upn v g t g * Mz g j
    have hv : sgZ 10 (fun c => z c * B c j) = sgZ g (fun q => v q * Mz q j) := hv j hj
    rw [upn_at, hv, sg_c g (fun c hc => by show v c * Mz c j = upn v g t c * Mz c j; rw [upn_ne _ _ (by omega)])]
  · rintro ⟨v, hv⟩
    obtain ⟨z, hz⟩ := (hB (fun j => sgZ g (fun q => v q * Mz q j))).mpr ⟨v, fun j hj => rfl⟩
    refine ⟨z, v g, fun j hj => ?_⟩
    rw [hv j hj]
    show sgZ g (fun q => v q * Mz q j) + v g * Mz g j = _
    have hz : sgZ g (fun q => v q * Mz q j) = sgZ 10 (fun c => z c * B c j) := hz j hj
    rw [hz]
theorem IRs.sp {Mz B : LZ} {g c0 : Nat} {x : Nat → Int} (hs : ∀ x, spL0 10 B x ↔ spMz Mz g x) (h : IRs (B, Mz g) g c0) : spL0 10 (inZ 10 (B, Mz g)).1 x ↔ spMz Mz (g + 1) x := by
  have h8 := h.2.2.2.2.2.2.2 10 h.1 (Nat.le_refl _)
  have h2 := in_sp (s := (B, Mz g)) (x := x) 10 (Nat.le_refl _)
  rw [← spN.mz hs, h2]
  constructor
  · rintro ⟨z, hz⟩
    exact ⟨z, 0, fun j hj => by rw [hz j hj]; omega⟩
  · rintro ⟨z, t, hz⟩
    exact ⟨z, fun j hj => by rw [hz j hj, h8 j hj, Int.mul_zero]; omega⟩
theorem pv_le {B : LZ} : ∀ f c d, c ≤ d → d < c + f → 0 < B d d → (B d d).natAbs ≤ pvD B f c
  | 0, c, d, h1, h2, _ => by omega
  | f + 1, c, d, h1, h2, hp => by
    rw [pvD]
    by_cases e : d = c
    · subst e
      rw [if_pos hp]
      have := Nat.mul_le_mul_left (B d d).toNat (pvD_1 (B := B) f (d + 1))
      omega
    · have ih := pv_le (B := B) f (c + 1) d (by omega) (by omega) hp
      have : 1 * pvD B f (c + 1) ≤ (if 0 < B c c then (B c c).toNat else 1) * pvD B f (c + 1) := Nat.mul_le_mul_right _ (by split <;> omega)
      omega
