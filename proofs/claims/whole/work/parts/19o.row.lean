/-! ===== a row of the class's grid is reduced: every number read is in range ===== -/
def CXt (M B : LZ) (g c0 N : Nat) : Prop := EI N M ∧ g < N ∧ N ≤ 7 ∧ HN 10 B ∧ (∀ x, spL0 10 B x ↔ spMz M g x) ∧ IRs (B, M g) g c0 ∧ pkN B 0 ≤ 6 ∧ (∀ c, c < 10 → B c (3 + g) = 0) ∧ (∀ c, c < 10 → 0 < B c c → (B c c).natAbs ≤ 216) ∧ ∀ c, c < 10 → ((inZ 10 (B, M g)).1 c c).natAbs ≤ 216
theorem spMz.li {M : LZ} {g : Nat} {x y : Nat → Int} (a b : Int) (hx : spMz M g x) (hy : spMz M g y) : spMz M g (fun j => a * x j + b * y j) := by
  obtain ⟨z, hz⟩ := hx
  obtain ⟨v, hv⟩ := hy
  refine ⟨fun q => a * z q + b * v q, fun j hj => ?_⟩
  show a * x j + b * y j = _
  rw [hz j hj, hv j hj, ← sg_mul, ← sg_mul, ← sg_add]
  exact sg_c g (fun q _ => by grind)
theorem spMz.dn {M : LZ} {n g : Nat} {x : Nat → Int} (hM : EI n M) (hg : g < n) (hn : n ≤ 7) (hx : spMz M (g + 1) x) (h0 : x (3 + g) = 0) : spMz M g x := by
  obtain ⟨z, hz⟩ := hx
  have e := hz (3 + g) (by omega)
  rw [h0, sgZ, sg_z g (fun q hq => by
    obtain ⟨E, e1, e2, e3⟩ := hM
    rw [e3 q (3 + g) (by omega) (by omega) (by omega), if_neg (by omega), Int.mul_zero])] at e
  have e1 : M g (3 + g) = 1 := by
    obtain ⟨E, e1, e2, e3⟩ := hM
    rw [e3 g (3 + g) hg (by omega) (by omega), if_pos (by omega)]
  rw [e1] at e
  refine ⟨z, fun j hj => ?_⟩
  rw [hz j hj, sgZ, show z g = 0 by omega]
  omega
theorem CXt.k {M B : LZ} {g c0 N : Nat} (h : CXt M B g c0 N) : ∀ c, c ≤ 10 → pkN B c ≤ 6 := by
  intro c
  induction c with
  | zero => intro _; exact h.2.2.2.2.2.2.1
  | succ c ih =>
    intro hc
    have := ih (by omega)
    by_cases hp : 0 < B c c
    · have := (pk_p (show c < 10 by omega) hp).1; omega
    · have := (pk_n (show c < 10 by omega) hp).1; omega
theorem CXt.nsp {M B : LZ} {g c0 N : Nat} (h : CXt M B g c0 N) {c : Nat} (hc : c ≤ 10) : spMz M (g + 1) (inZ c (B, M g)).2 := by
  have a := (in_sp (s := (B, M g)) (x := (inZ c (B, M g)).2) c hc).mpr ⟨fun _ => 0, 1, fun j _ => by
    rw [sg_z 10 (fun c _ => Int.zero_mul _)]; omega⟩
  exact (spN.mz h.2.2.2.2.1).mp a
theorem CXt.off {M B : LZ} {g c0 N V : Nat} {Y : Nat → Int} (h : CXt M B g c0 N) {c : Nat} (hc : c < 10) (hY : spMz M g Y) (hV : ∀ c, c < 10 → 0 < B c c → (Y c).natAbs ≤ V) : (Y c).natAbs ≤ 6 * (1296 * V) := by
  obtain ⟨h1, h2, h3, h4, h5, -⟩ := h
  by_cases hg : g = 0
  · obtain ⟨z, hz⟩ := hY
    subst hg
    rw [hz c hc]
    exact Nat.zero_le _
  · have := y_off h4.ht h1 (Nat.le_of_lt h2) (by omega) (fun c hc => (h5 _).mp (spL0.row hc)) (fun q hq => (h5 _).mpr ⟨fun k => if k = q then 1 else 0, fun j _ => by
      rw [sg_1 (k := q) g hq (fun k _ hk => by show (if k = q then (1 : Int) else 0) * M k j = 0; rw [if_neg hk, Int.zero_mul])]
      show M q j = (if q = q then (1 : Int) else 0) * M q j
      rw [if_pos rfl, Int.one_mul]⟩) hc ((h5 Y).mpr hY) hV
    have : g * (1296 * V) ≤ 6 * (1296 * V) := Nat.mul_le_mul_right _ (by omega)
    omega
/-- ahead of the new pivot's column -/
def RBf (M B : LZ) (g c : Nat) (X : Nat → Int) : Prop := ∃ bb η, wB (pkN B c) ((inZ c (B, M g)).2 (3 + g)).natAbs bb η = true ∧ (X (3 + g)).natAbs ≤ bb ∧ η + 1 ≤ 2 ^ (7 - pkN B c) ∧ ∀ j, j < 10 → 0 < B j j → ((inZ c (B, M g)).2 (3 + g) * X j - X (3 + g) * (inZ c (B, M g)).2 j).natAbs ≤ ((inZ c (B, M g)).2 (3 + g)).natAbs * η * (B j j).natAbs
/-- behind it -/
def RAf (B : LZ) (c : Nat) (X : Nat → Int) : Prop := ∀ j, c ≤ j → j < 10 → 0 < B j j → (X j).natAbs + (B j j).natAbs ≤ 2 ^ 38 * 2 ^ (6 - pkN B c) * (B j j).natAbs
def ROw (M B : LZ) (g c0 c : Nat) (X : Nat → Int) : Prop := (∀ j, j < 10 → X j = 0) ∨ (c ≤ c0 ∧ spMz M (g + 1) X ∧ RBf M B g c X) ∨ (c0 < c ∧ RAf B c X)
def xst (B' : LZ) (c : Nat) (X : Nat → Int) : Nat → Int := if 0 < B' c c then (fun j => X j - X c / B' c c * B' c j) else X
theorem q_na {x g : Int} (hg : 0 < g) : ∃ r, x - x / g * g = r ∧ 0 ≤ r ∧ r < g := by
  have m1 := Int.emod_nonneg x (show g ≠ 0 by omega)
  have m2 := Int.emod_lt_of_pos x hg
  have m3 := Int.mul_ediv_add_emod x g
  rw [Int.mul_comm] at m3
  exact ⟨x % g, by omega, m1, m2⟩
/-- a column with an old pivot ahead of the new one -/
theorem RBf.st {M B : LZ} {g c0 N c : Nat} {X P' : Nat → Int} {s t u v : Int} (h : CXt M B g c0 N) (hc : c < 10) (hp : 0 < B c c) (hcc : c < c0) (hg : 0 < P' c) (h0 : (inZ (c + 1) (B, M g)).2 c = 0) (hb : Bz (B c) (inZ c (B, M g)).2 P' (inZ (c + 1) (B, M g)).2 s t u v) (hX : RBf M B g c X) : rg (X c) ∧ RBf M B g (c + 1) (fun j => X j - X c / P' c * P' j) := by
  obtain ⟨c1, c2, c3, hB, c5, hI, -, hz, h216, -⟩ := id h
  have hk := h.k c (by omega)
  obtain ⟨pk1, -⟩ := pk_p hc hp
  have nv : NVs B g c (inZ c (B, M g)).2 := hI.2.1 c (by omega)
  obtain ⟨nv', eT⟩ := NVs.st hB hz hk hc hp hg h0 hb nv
  obtain ⟨v1, v2⟩ := hb.vg h0
  have hTp := nv.p hc hp
  obtain ⟨bb, η, w1, w2, w3, w4⟩ := hX
  rw [pk1] at w1
  obtain ⟨w5, w6⟩ := wB_2 w1
  have nN := nv.2.2.2.2 c (Nat.le_refl _) hc hp
  have hP3 := hz c hc
  generalize hn : (inZ c (B, M g)).2 = n at *
  generalize hn' : (inZ (c + 1) (B, M g)).2 = n' at *
  obtain ⟨b1, b2, b3, b4, b5⟩ := hb
  have hTne := nv.1
  rw [pk1] at nN
  generalize hν : 6 * 2 ^ (5 - (pkN B (c + 1) + 1)) = ν at *
  generalize hT : (n (3 + g)).natAbs = T at *
  have hT1 : 1 ≤ T := by omega
  have hgn : 0 < (P' c).natAbs := by omega
  have hpT : (B c c).natAbs ≤ 216 / T := (Nat.le_div_iff_mul_le hT1).mpr (by rw [Nat.mul_comm]; exact hTp)
  -- reading
  have rd : (X c).natAbs ≤ 2 ^ 61 := by
    have a1 := w4 c hc hp
    have a2 : (n (3 + g) * X c).natAbs ≤ T * η * (B c c).natAbs + bb * (T * ν * (B c c).natAbs) := by
      have e : n (3 + g) * X c = (n (3 + g) * X c - X (3 + g) * n c) + X (3 + g) * n c := by omega
      rw [e]
      have := mul_ab w2 nN
      omega
    rw [Int.natAbs_mul, hT] at a2
    have a3 : T * η * (B c c).natAbs + bb * (T * ν * (B c c).natAbs) = T * ((B c c).natAbs * (η + bb * ν)) := by grind
    rw [a3] at a2
    have a4 := Nat.le_of_mul_le_mul_left a2 hT1
    have a5 : (B c c).natAbs * (η + bb * ν) ≤ 216 / T * (η + bb * ν) := Nat.mul_le_mul_right _ hpT
    omega
  refine ⟨by unfold rg; have : (2 : Nat) ^ 61 < 9223372036854775808 := by decide
             omega, ?_⟩
  obtain ⟨r, er, r0, r1⟩ := q_na (x := X c) hg
  generalize hq : X c / P' c = q at *
  -- the new numbers
  have hε : (s * v - t * u).natAbs = 1 := by omega
  have eP3 : P' (3 + g) = t * n (3 + g) := by rw [b1, hP3]; omega
  have eb' : (fun j => X j - q * P' j) (3 + g) = X (3 + g) - q * (t * n (3 + g)) := by show X (3 + g) - q * P' (3 + g) = _; rw [eP3]
  have hug : u * P' c = - ((s * v - t * u) * n c) := by
    have e2 := b2 c
    rw [h0] at e2
    rw [b1 c]; grind
  -- kappa
  generalize hκ : q * n (3 + g) * (s * v - t * u) + X (3 + g) * u = κ
  have k1 : κ * P' c = (s * v - t * u) * ((n (3 + g) * X c - X (3 + g) * n c) - n (3 + g) * r) := by
    have e1 : X c = q * P' c + r := by omega
    rw [← hκ, e1]
    have : X (3 + g) * u * P' c = - (X (3 + g) * ((s * v - t * u) * n c)) := by rw [Int.mul_assoc, hug]; grind
    rw [Int.add_mul, this]; grind
  have k2 : κ.natAbs ≤ T * (η * v.natAbs + 1) := by
    have a1 := congrArg Int.natAbs k1
    rw [Int.natAbs_mul, Int.natAbs_mul, hε, Nat.one_mul] at a1
    have a2 := w4 c hc hp
    have a3 : (n (3 + g) * r).natAbs ≤ T * (P' c).natAbs := by
      rw [Int.natAbs_mul, hT]
      exact Nat.mul_le_mul_left _ (by omega)
    refine Nat.le_of_mul_le_mul_right (?_ : κ.natAbs * (P' c).natAbs ≤ T * (η * v.natAbs + 1) * (P' c).natAbs) hgn
    have a4 : T * (η * v.natAbs + 1) * (P' c).natAbs = T * η * (v.natAbs * (P' c).natAbs) + T * (P' c).natAbs := by grind
    rw [a4, v1, a1]
    omega
  have hv1 : 1 ≤ v.natAbs := by
    by_cases z : v.natAbs = 0
    · rw [z, Nat.zero_mul] at v1; omega
    · omega
  have hvp : v.natAbs ≤ (B c c).natAbs := by
    have : v.natAbs * 1 ≤ v.natAbs * (P' c).natAbs := Nat.mul_le_mul_left _ hgn
    omega
  have hT' : (n' (3 + g)).natAbs = T * v.natAbs := by rw [eT, Int.natAbs_mul, hT, Nat.mul_comm]
  refine ⟨bnx T ν η bb v.natAbs, 2 * η + 1, ?_, ?_, ?_, fun j hj hpj => ?_⟩
  · rw [hn', hT']
    exact w6 v.natAbs hv1 (by omega)
  · rw [eb']
    -- eps b' = b s v - t kappa
    have e1 : (s * v - t * u) * (X (3 + g) - q * (t * n (3 + g))) = X (3 + g) * (s * v) - t * κ := by rw [← hκ]; grind
    have e2 := congrArg Int.natAbs e1
    rw [Int.natAbs_mul, hε, Nat.one_mul] at e2
    rw [e2]
    have e3 : (X (3 + g) * (s * v) - t * κ).natAbs ≤ (X (3 + g)).natAbs * (s.natAbs * v.natAbs) + t.natAbs * κ.natAbs := by
      rw [← Int.natAbs_mul, ← Int.natAbs_mul, ← Int.natAbs_mul]; omega
    unfold bnx
    rcases b5 with ⟨hv, hs⟩ | ⟨hv, hs⟩
    · rw [if_pos (by omega)]
      rw [hv] at k2
      rw [Nat.mul_one] at k2
      rcases hs with ⟨t0, s1⟩ | ⟨s0, t1⟩
      · have f1 : (X (3 + g)).natAbs * (s.natAbs * v.natAbs) = (X (3 + g)).natAbs := by rw [s1, hv]; omega
        have f2 : t.natAbs * κ.natAbs = 0 := by rw [t0]; exact Nat.zero_mul _
        rw [f1, f2] at e3
        exact Nat.le_trans (Nat.le_trans e3 w2) (Nat.le_max_left _ _)
      · have f1 : (X (3 + g)).natAbs * (s.natAbs * v.natAbs) = 0 := by rw [s0]; simp
        have f2 : t.natAbs * κ.natAbs = κ.natAbs := by rw [t1]; exact Nat.one_mul _
        rw [f1, f2, Nat.zero_add] at e3
        exact Nat.le_trans (Nat.le_trans e3 k2) (Nat.le_max_right _ _)
    · rw [if_neg (by omega)]
      have hu : s.natAbs ≤ T * ν * v.natAbs := by
        refine Nat.le_trans hs ?_
        refine Nat.le_of_mul_le_mul_right (?_ : u.natAbs * (P' c).natAbs ≤ T * ν * v.natAbs * (P' c).natAbs) hgn
        rw [v2, Nat.mul_assoc (T * ν), v1]
        exact nN
      have f1 : (X (3 + g)).natAbs * (s.natAbs * v.natAbs) ≤ bb * ((T * ν * v.natAbs) * v.natAbs) := Nat.mul_le_mul w2 (Nat.mul_le_mul_right _ hu)
      have f2 : t.natAbs * κ.natAbs ≤ v.natAbs * (T * (η * v.natAbs + 1)) := Nat.mul_le_mul b4 k2
      have f3 : bb * (T * ν * v.natAbs) * v.natAbs = bb * ((T * ν * v.natAbs) * v.natAbs) := Nat.mul_assoc _ _ _
      omega
  · have e2 : 2 ^ (7 - pkN B (c + 1)) = 2 * 2 ^ (7 - pkN B c) := by
      rw [show 7 - pkN B (c + 1) = (7 - pkN B c) + 1 by omega, Nat.pow_succ, Nat.mul_comm]
    rw [e2]
    omega
  · rw [hn', eb', hT']
    show (n' (3 + g) * (X j - q * P' j) - (X (3 + g) - q * (t * n (3 + g))) * n' j).natAbs ≤ _
    have e1 : n' (3 + g) * (X j - q * P' j) - (X (3 + g) - q * (t * n (3 + g))) * n' j = v * (n (3 + g) * X j - X (3 + g) * n j) - κ * B c j := by
      rw [eT, b1 j, b2 j, ← hκ]; grind
    rw [e1]
    have a1 := w4 j hj hpj
    have hPj : (B c j).natAbs ≤ (B j j).natAbs := by
      by_cases q1 : j < c
      · rw [hB.1 c j hc q1]; exact Nat.zero_le _
      · by_cases q2 : j = c
        · rw [q2]; exact Nat.le_refl _
        · have := hB.2.2.2 c j (by omega) hj hpj; omega
    have a2 : (v * (n (3 + g) * X j - X (3 + g) * n j) - κ * B c j).natAbs ≤ v.natAbs * (n (3 + g) * X j - X (3 + g) * n j).natAbs + κ.natAbs * (B c j).natAbs := by
      rw [← Int.natAbs_mul, ← Int.natAbs_mul]; omega
    have a3 : v.natAbs * (n (3 + g) * X j - X (3 + g) * n j).natAbs ≤ v.natAbs * (T * η * (B j j).natAbs) := Nat.mul_le_mul_left _ a1
    have a4 : κ.natAbs * (B c j).natAbs ≤ T * (η * v.natAbs + 1) * (B j j).natAbs := Nat.mul_le_mul k2 hPj
    have a5 : T * v.natAbs * (2 * η + 1) * (B j j).natAbs = v.natAbs * (T * η * (B j j).natAbs) + T * (η * v.natAbs + v.natAbs) * (B j j).natAbs := by grind
    have a6 : T * (η * v.natAbs + 1) * (B j j).natAbs ≤ T * (η * v.natAbs + v.natAbs) * (B j j).natAbs := Nat.mul_le_mul_right _ (Nat.mul_le_mul_left _ (by omega))
    omega
/-- where it begins -/
theorem RBf.mk {M B : LZ} {g c0 N c : Nat} {P' : Nat → Int} {s t u v : Int} (h : CXt M B g c0 N) (hc : c < 10) (hp : 0 < B c c) (hcc : c < c0) (hg : 0 < P' c) (h0 : (inZ (c + 1) (B, M g)).2 c = 0) (hb : Bz (B c) (inZ c (B, M g)).2 P' (inZ (c + 1) (B, M g)).2 s t u v) : RBf M B g (c + 1) P' := by
  obtain ⟨c1, c2, c3, hB, c5, hI, -, hz, h216, -⟩ := id h
  have hk := h.k c (by omega)
  obtain ⟨pk1, -⟩ := pk_p hc hp
  have nv : NVs B g c (inZ c (B, M g)).2 := hI.2.1 c (by omega)
  obtain ⟨nv', eT⟩ := NVs.st hB hz hk hc hp hg h0 hb nv
  have hP3 := hz c hc
  have hT216 : ((inZ (c + 1) (B, M g)).2 (3 + g)).natAbs ≤ 216 := by
    have := nv'.2.1
    have h1 := pvD_1 (B := B) (10 - (c + 1)) (c + 1)
    have : ((inZ (c + 1) (B, M g)).2 (3 + g)).natAbs * 1 ≤ ((inZ (c + 1) (B, M g)).2 (3 + g)).natAbs * pDN B (c + 1) := Nat.mul_le_mul_left _ h1
    omega
  have hTne := nv'.1
  generalize hn : (inZ c (B, M g)).2 = n at *
  generalize hn' : (inZ (c + 1) (B, M g)).2 = n' at *
  obtain ⟨b1, b2, b3, b4, b5⟩ := hb
  have hε : (s * v - t * u).natAbs = 1 := by omega
  have eP3 : P' (3 + g) = t * n (3 + g) := by rw [b1, hP3]; omega
  refine ⟨(n' (3 + g)).natAbs, 1, by rw [hn']; exact wB_0 (by omega) (by omega) hT216, ?_, ?_, fun j hj hpj => ?_⟩
  · rw [eP3, eT, Int.natAbs_mul, Int.natAbs_mul]
    exact Nat.mul_le_mul_right _ b4
  · have : (2 : Nat) ^ 1 ≤ 2 ^ (7 - pkN B (c + 1)) := Nat.pow_le_pow_right (by omega) (by omega)
    omega
  · rw [hn', eP3]
    have e1 : n' (3 + g) * P' j - t * n (3 + g) * n' j = n (3 + g) * ((s * v - t * u) * B c j) := by rw [eT, b1 j, b2 j]; grind
    have hPj : (B c j).natAbs ≤ (B j j).natAbs := by
      by_cases q1 : j < c
      · rw [hB.1 c j hc q1]; exact Nat.zero_le _
      · by_cases q2 : j = c
        · rw [q2]; exact Nat.le_refl _
        · have := hB.2.2.2 c j (by omega) hj hpj; omega
    rw [e1, Int.natAbs_mul, Int.natAbs_mul, hε, Nat.one_mul, Nat.mul_one]
    have hv1 : (n (3 + g)).natAbs ≤ (n' (3 + g)).natAbs := by
      rw [eT, Int.natAbs_mul]
      have hv0 : 1 ≤ v.natAbs := by
        by_cases z : v = 0
        · rw [z, Int.zero_mul] at eT; exact absurd eT hTne
        · omega
      have := Nat.mul_le_mul_right (n (3 + g)).natAbs hv0
      omega
    exact Nat.mul_le_mul hv1 hPj
