/-! ===== all that the class's grid reads is in range ===== -/
theorem rg_b {x : Int} (h : x.natAbs ≤ 2 ^ 62) : rg x := by
  unfold rg
  have : (2 : Nat) ^ 62 < 9223372036854775808 := by decide
  omega
theorem na_e {e x : Int} (he : e = 1 ∨ e = -1) : (e * x).natAbs = x.natAbs := by
  rcases he with h | h
  · rw [h, Int.one_mul]
  · rw [h, Int.neg_mul, Int.one_mul, Int.natAbs_neg]
theorem RAf.st {B : LZ} {c : Nat} {X : Nat → Int} (hB : HN 10 B) (hk : pkN B c ≤ 6) (hc : c < 10) (hp : 0 < B c c) (h216 : (B c c).natAbs ≤ 216) (hX : RAf B c X) : rg (X c) ∧ RAf B (c + 1) (fun j => X j - X c / B c c * B c j) := by
  obtain ⟨pk1, -⟩ := pk_p hc hp
  have e2 : 2 ^ (6 - pkN B (c + 1)) = 2 * 2 ^ (6 - pkN B c) := by
    rw [show 6 - pkN B (c + 1) = (6 - pkN B c) + 1 by omega, Nat.pow_succ, Nat.mul_comm]
  have a0 := hX c (Nat.le_refl _) hc hp
  have a1 : 2 ^ (6 - pkN B c) ≤ 2 ^ 6 := Nat.pow_le_pow_right (by omega) (by omega)
  have a2 : 2 ^ 38 * 2 ^ (6 - pkN B c) * (B c c).natAbs ≤ 2 ^ 38 * 2 ^ 6 * 216 := Nat.mul_le_mul (Nat.mul_le_mul_left _ a1) h216
  have a3 : (2 : Nat) ^ 38 * 2 ^ 6 * 216 ≤ 2 ^ 62 := by decide
  refine ⟨rg_b (by omega), fun j h1 h2 h3 => ?_⟩
  obtain ⟨r, er, r0, r1⟩ := q_na (x := X c) hp
  generalize hq : X c / B c c = q at *
  rw [e2]
  generalize hW : 2 ^ 38 * 2 ^ (6 - pkN B c) = W at *
  have hqn : q.natAbs ≤ W := by
    refine Nat.le_of_mul_le_mul_right (?_ : q.natAbs * (B c c).natAbs ≤ W * (B c c).natAbs) (by omega)
    rw [← Int.natAbs_mul]
    omega
  have hPj : (B c j).natAbs ≤ (B j j).natAbs := by
    have := hB.2.2.2 c j (by omega) h2 h3; omega
  have b1 : (X j).natAbs + (B j j).natAbs ≤ W * (B j j).natAbs := by rw [← hW]; exact hX j (by omega) h2 h3
  have b2 : (X j - q * B c j).natAbs ≤ (X j).natAbs + q.natAbs * (B c j).natAbs := by rw [← Int.natAbs_mul]; omega
  have b3 : q.natAbs * (B c j).natAbs ≤ W * (B j j).natAbs := Nat.mul_le_mul hqn hPj
  have b4 : 2 ^ 38 * (2 * 2 ^ (6 - pkN B c)) * (B j j).natAbs = 2 * (W * (B j j).natAbs) := by rw [← hW]; grind
  show (X j - q * B c j).natAbs + (B j j).natAbs ≤ _
  omega
theorem RAf.nx {B : LZ} {c : Nat} {X : Nat → Int} (hc : c < 10) (hp : ¬ 0 < B c c) (hX : RAf B c X) : RAf B (c + 1) X := fun j h1 h2 h3 => by
  rw [← (pk_n hc hp).1]
  exact hX j (by omega) h2 h3
/-- the new pivot's column -/
theorem RBf.en {M B : LZ} {g c0 N : Nat} {X P' : Nat → Int} {e : Int} (h : CXt M B g c0 N) (he : e = 1 ∨ e = -1) (hP : ∀ j, P' j = e * (inZ c0 (B, M g)).2 j) (hg : 0 < P' c0) (h216 : (P' c0).natAbs ≤ 216) (hs : spMz M (g + 1) X) (hX : RBf M B g c0 X) : rg (X c0) ∧ RAf B (c0 + 1) (fun j => X j - X c0 / P' c0 * P' j) := by
  obtain ⟨c1, c2, c3, hB, c5, hI, -, hz, hb216, -⟩ := id h
  have hc := hI.1
  have hpn : ¬ 0 < B c0 c0 := hI.2.2.2.1
  have hk := h.k c0 (by omega)
  have nv : NVs B g c0 (inZ c0 (B, M g)).2 := hI.2.1 c0 (Nat.le_refl _)
  obtain ⟨bb, η, w1, w2, w3, w4⟩ := hX
  have w5 := wB_1 w1
  have hnsp := h.nsp (c := c0) (by omega)
  have hT216 : ((inZ c0 (B, M g)).2 (3 + g)).natAbs ≤ 216 := by
    have := nv.2.1
    have h1 := pvD_1 (B := B) (10 - c0) c0
    have : ((inZ c0 (B, M g)).2 (3 + g)).natAbs * 1 ≤ ((inZ c0 (B, M g)).2 (3 + g)).natAbs * pDN B c0 := Nat.mul_le_mul_left _ h1
    omega
  have pk1 : pkN B c0 = pkN B (c0 + 1) := (pk_n hc hpn).1
  have nb := nv.2.2.2.2
  have hTne := nv.1
  generalize hn : (inZ c0 (B, M g)).2 = n at *
  generalize hT : (n (3 + g)).natAbs = T at *
  have hT1 : 1 ≤ T := by omega
  have hYs : spMz M g (fun j => n (3 + g) * X j + - X (3 + g) * n j) := (spMz.li (n (3 + g)) (- X (3 + g)) hs hnsp).dn c1 c2 c3 (by show n (3 + g) * X (3 + g) + - X (3 + g) * n (3 + g) = 0; grind)
  have hYe : ∀ j, n (3 + g) * X j + - X (3 + g) * n j = n (3 + g) * X j - X (3 + g) * n j := fun j => by grind
  have hYb : ∀ c, c < 10 → 0 < B c c → ((fun j => n (3 + g) * X j + - X (3 + g) * n j) c).natAbs ≤ T * η * 216 := fun c h1 h2 => by
    show (n (3 + g) * X c + - X (3 + g) * n c).natAbs ≤ _
    rw [hYe]
    exact Nat.le_trans (w4 c h1 h2) (Nat.mul_le_mul_left _ (hb216 c h1 h2))
  have hYc := h.off hc hYs hYb
  have hYc : (n (3 + g) * X c0 + - X (3 + g) * n c0).natAbs ≤ 6 * (1296 * (T * η * 216)) := hYc
  rw [hYe] at hYc
  have hYc2 : 6 * (1296 * (T * η * 216)) = T * (1679616 * η) := by grind
  rw [hYc2] at hYc
  have hn0 : (n c0).natAbs = (P' c0).natAbs := by rw [hP, na_e he]
  have hη : η ≤ 127 := by
    have : 2 ^ (7 - pkN B c0) ≤ 2 ^ 7 := Nat.pow_le_pow_right (by omega) (by omega)
    have : (2 : Nat) ^ 7 = 128 := by decide
    omega
  refine ⟨?_, ?_⟩
  · have a1 : (n (3 + g) * X c0).natAbs ≤ T * (1679616 * η) + T * 2 ^ 61 := by
      have e1 : n (3 + g) * X c0 = (n (3 + g) * X c0 - X (3 + g) * n c0) + X (3 + g) * n c0 := by omega
      rw [e1]
      have := mul_ab w2 (show (n c0).natAbs ≤ 216 by omega)
      omega
    rw [Int.natAbs_mul, hT, ← Nat.mul_add] at a1
    have a2 := Nat.le_of_mul_le_mul_left a1 hT1
    have : (2 : Nat) ^ 62 = 2 ^ 61 + 2305843009213693952 := by decide
    exact rg_b (by omega)
  · obtain ⟨r, er, r0, r1⟩ := q_na (x := X c0) hg
    generalize hq : X c0 / P' c0 = q at *
    generalize hb' : X (3 + g) - q * e * n (3 + g) = b'
    have hid : ∀ j, n (3 + g) * (X j - q * P' j) = (n (3 + g) * X j - X (3 + g) * n j) + b' * n j := fun j => by rw [hP, ← hb']; grind
    have hbb : b'.natAbs ≤ T + T * (1679616 * η) := by
      have e1 : b' * n c0 = n (3 + g) * r - (n (3 + g) * X c0 - X (3 + g) * n c0) := by
        have := hid c0
        rw [er] at this
        omega
      have e2 := congrArg Int.natAbs e1
      rw [Int.natAbs_mul, hn0] at e2
      have e3 : (n (3 + g) * r).natAbs ≤ T * (P' c0).natAbs := by
        rw [Int.natAbs_mul, hT]; exact Nat.mul_le_mul_left _ (by omega)
      refine Nat.le_of_mul_le_mul_right (?_ : b'.natAbs * (P' c0).natAbs ≤ (T + T * (1679616 * η)) * (P' c0).natAbs) (by omega)
      have e4 : (T + T * (1679616 * η)) * (P' c0).natAbs = T * (P' c0).natAbs + T * (1679616 * η) * (P' c0).natAbs := Nat.add_mul _ _ _
      have e5 : T * (1679616 * η) * 1 ≤ T * (1679616 * η) * (P' c0).natAbs := Nat.mul_le_mul_left _ (by omega)
      omega
    intro j h1 h2 h3
    show (X j - q * P' j).natAbs + (B j j).natAbs ≤ _
    have a1 := w4 j h2 h3
    have a2 := nb j (by omega) h2 h3
    rw [← pk1]
    have hnum : η + (T + T * (1679616 * η)) * (6 * 2 ^ (5 - pkN B c0)) + 1 ≤ 2 ^ 38 * 2 ^ (6 - pkN B c0) := by
      have f1 : T * (1679616 * η) ≤ 216 * (1679616 * η) := Nat.mul_le_mul_right _ hT216
      have f2 : (T + T * (1679616 * η)) * (6 * 2 ^ (5 - pkN B c0)) ≤ (216 + 216 * (1679616 * η)) * (6 * 2 ^ (5 - pkN B c0)) := Nat.mul_le_mul_right _ (by omega)
      have : pkN B c0 = 0 ∨ pkN B c0 = 1 ∨ pkN B c0 = 2 ∨ pkN B c0 = 3 ∨ pkN B c0 = 4 ∨ pkN B c0 = 5 ∨ pkN B c0 = 6 := by omega
      rcases this with q | q | q | q | q | q | q <;> rw [q] at w3 f2 ⊢ <;> simp at w3 f2 ⊢ <;> omega
    generalize hν : 6 * 2 ^ (5 - pkN B c0) = ν at *
    have a3 : (X j - q * P' j).natAbs ≤ (η + (T + T * (1679616 * η)) * ν) * (B j j).natAbs := by
      refine Nat.le_of_mul_le_mul_left (?_ : T * (X j - q * P' j).natAbs ≤ T * ((η + (T + T * (1679616 * η)) * ν) * (B j j).natAbs)) hT1
      have e1 := congrArg Int.natAbs (hid j)
      rw [Int.natAbs_mul, hT] at e1
      rw [e1]
      have e2 := mul_ab hbb a2
      have e3 : T * ((η + (T + T * (1679616 * η)) * ν) * (B j j).natAbs) = T * η * (B j j).natAbs + (T + T * (1679616 * η)) * (T * ν * (B j j).natAbs) := by grind
      omega
    have a4 := Nat.mul_le_mul_right (B j j).natAbs hnum
    have a5 : (η + (T + T * (1679616 * η)) * ν + 1) * (B j j).natAbs = (η + (T + T * (1679616 * η)) * ν) * (B j j).natAbs + (B j j).natAbs := by rw [Nat.add_mul, Nat.one_mul]
    omega
theorem ROw.st {M B : LZ} {g c0 N c : Nat} {X : Nat → Int} (h : CXt M B g c0 N) (hc : c < 10) (hX : ROw M B g c0 c X) : (0 < (inZ 10 (B, M g)).1 c c → rg (X c)) ∧ ROw M B g c0 (c + 1) (xst (inZ 10 (B, M g)).1 c X) := by
  obtain ⟨c1, c2, c3, hB, c5, hI, -, hz, h216, h216'⟩ := id h
  have hsp : ∀ (q : Int), spMz M (g + 1) X → spMz M (g + 1) (fun j => X j - q * (inZ 10 (B, M g)).1 c j) := fun q hs => by
    have r := (hI.sp c5).mp (spL0.row (B := (inZ 10 (B, M g)).1) hc)
    have := spMz.li 1 (- q) hs r
    have e : (fun j => 1 * X j + - q * (inZ 10 (B, M g)).1 c j) = fun j => X j - q * (inZ 10 (B, M g)).1 c j := by funext j; grind
    rwa [e] at this
  rcases hX with hX | ⟨hl, hs, hX⟩ | ⟨hl, hX⟩
  · refine ⟨fun _ => by rw [hX c hc]; exact rg_b (by decide), Or.inl fun j hj => ?_⟩
    unfold xst
    split
    · show X j - X c / _ * _ = 0
      rw [hX j hj, hX c hc, Int.zero_ediv, Int.zero_mul]; rfl
    · exact hX j hj
  · by_cases hcc : c < c0
    · rcases hI.2.2.1 c hcc with ⟨k1, k2, k3, k4⟩ | ⟨k1, k2, k3, s, t, u, v, k4⟩
      · have k1 : ¬ 0 < B c c := k1
        have k3 : (inZ 10 (B, M g)).1 c = B c := k3
        refine ⟨fun q => absurd (by rw [k3] at q; exact q) k1, Or.inr (Or.inl ⟨hcc, ?_, ?_⟩)⟩
        · unfold xst
          rw [k3, if_neg k1]; exact hs
        · unfold xst
          rw [k3, if_neg k1]
          have pk := (pk_n hc k1).1
          obtain ⟨bb, η, w1, w2, w3, w4⟩ := hX
          refine ⟨bb, η, ?_, w2, by rw [← pk]; exact w3, fun j hj hp => ?_⟩
          · rw [← pk, k4]; exact w1
          · rw [k4]; exact w4 j hj hp
      · have r := RBf.st h hc k1 hcc k2 k3 k4 hX
        refine ⟨fun _ => r.1, Or.inr (Or.inl ⟨hcc, ?_, ?_⟩)⟩
        · unfold xst
          rw [if_pos k2]
          exact hsp _ hs
        · unfold xst
          rw [if_pos k2]
          exact r.2
    · have e0 : c = c0 := by omega
      subst e0
      obtain ⟨e, he, hP⟩ := hI.2.2.2.2.1
      have hg := hI.2.2.2.2.2.1
      have r := RBf.en h he hP hg (h216' c hc) hs hX
      refine ⟨fun _ => r.1, Or.inr (Or.inr ⟨by omega, ?_⟩)⟩
      unfold xst
      rw [if_pos hg]
      exact r.2
  · have hr : (inZ 10 (B, M g)).1 c = B c := hI.2.2.2.2.2.2.1 c hl hc
    by_cases hp : 0 < B c c
    · have r := RAf.st hB (h.k c (by omega)) hc hp (h216 c hc hp) hX
      refine ⟨fun _ => r.1, Or.inr (Or.inr ⟨by omega, ?_⟩)⟩
      unfold xst
      rw [hr, if_pos hp]
      exact r.2
    · refine ⟨fun q => absurd (by rw [hr] at q; exact q) hp, Or.inr (Or.inr ⟨by omega, ?_⟩)⟩
      unfold xst
      rw [hr, if_neg hp]
      exact hX.nx hc hp
theorem ROw.mk {M B : LZ} {g c0 N a : Nat} (h : CXt M B g c0 N) (ha : a < 10) : ROw M B g c0 (a + 1) ((inZ 10 (B, M g)).1 a) := by
  obtain ⟨c1, c2, c3, hB, c5, hI, -, hz, h216, h216'⟩ := id h
  by_cases hac : a < c0
  · rcases hI.2.2.1 a hac with ⟨k1, k2, k3, k4⟩ | ⟨k1, k2, k3, s, t, u, v, k4⟩
    · left
      intro j hj
      rw [k3]
      exact hB.ht.r0 ha k1 j hj
    · right; left
      exact ⟨hac, (hI.sp c5).mp (spL0.row ha), RBf.mk h ha k1 hac k2 k3 k4⟩
  · right; right
    refine ⟨by omega, fun j h1 h2 h3 => ?_⟩
    have hw : (B j j).natAbs * 1 ≤ (B j j).natAbs * 2 ^ (6 - pkN B (a + 1)) := Nat.mul_le_mul_left _ (Nat.pow_pos (by omega))
    have hw2 : 2 ^ 38 * 2 ^ (6 - pkN B (a + 1)) * (B j j).natAbs = 2 ^ 38 * ((B j j).natAbs * 2 ^ (6 - pkN B (a + 1))) := by grind
    by_cases e0 : a = c0
    · subst e0
      obtain ⟨e, he, hP⟩ := hI.2.2.2.2.1
      have nv : NVs B g a (inZ a (B, M g)).2 := hI.2.1 a (Nat.le_refl _)
      have nj := nv.2.2.2.2 j (by omega) h2 h3
      have hT216 : ((inZ a (B, M g)).2 (3 + g)).natAbs ≤ 216 := by
        have := nv.2.1
        have h1 := pvD_1 (B := B) (10 - a) a
        have : ((inZ a (B, M g)).2 (3 + g)).natAbs * 1 ≤ ((inZ a (B, M g)).2 (3 + g)).natAbs * pDN B a := Nat.mul_le_mul_left _ h1
        omega
      have b1 : (2 : Nat) ^ (5 - pkN B a) ≤ 2 ^ 5 := Nat.pow_le_pow_right (by omega) (by omega)
      have b2 : ((inZ a (B, M g)).2 (3 + g)).natAbs * (6 * 2 ^ (5 - pkN B a)) * (B j j).natAbs ≤ 216 * (6 * 2 ^ 5) * (B j j).natAbs := Nat.mul_le_mul_right _ (Nat.mul_le_mul hT216 (Nat.mul_le_mul_left _ b1))
      have b3 : ((inZ 10 (B, M g)).1 a j).natAbs = ((inZ a (B, M g)).2 j).natAbs := by
        rw [hP, na_e he]
      rw [b3, hw2]
      omega
    · have hr : (inZ 10 (B, M g)).1 a = B a := hI.2.2.2.2.2.2.1 a (by omega) ha
      have : (B a j).natAbs ≤ (B j j).natAbs := by
        have := hB.2.2.2 a j (by omega) h2 h3; omega
      rw [hr, hw2]
      omega
theorem rl_hi {B : LZ} {c : Nat} : ∀ n, n ≤ c → rlZ B n c = B c
  | 0, _ => rfl
  | n + 1, h => by
    rw [rlZ, ra_o (by omega)]
    exact rl_hi n (by omega)
theorem okR_ok {M B : LZ} {g c0 N : Nat} (h : CXt M B g c0 N) : okR (inZ 10 (B, M g)).1 10 := by
  intro a ha
  have hr : ∀ q, ∀ c, a < c → raZ (rlZ (inZ 10 (B, M g)).1 a) a q c = (inZ 10 (B, M g)).1 c := fun q c hc => by
    rw [ra_o (by omega), rl_hi a (by omega)]
  have key : ∀ q, q ≤ 9 - a → ROw M B g c0 (a + 1 + q) (raZ (rlZ (inZ 10 (B, M g)).1 a) a q a) := by
    intro q
    induction q with
    | zero =>
      intro _
      show ROw M B g c0 (a + 1) (rlZ (inZ 10 (B, M g)).1 a a)
      rw [rl_hi a (Nat.le_refl _)]
      exact ROw.mk h ha
    | succ q ih =>
      intro hq
      have := (ROw.st h (show a + 1 + q < 10 by omega) (ih (by omega))).2
      have e : raZ (rlZ (inZ 10 (B, M g)).1 a) a (q + 1) a = xst (inZ 10 (B, M g)).1 (a + 1 + q) (raZ (rlZ (inZ 10 (B, M g)).1 a) a q a) := by
        rw [raZ, hr q (a + 1 + q) (by omega)]
        unfold xst
        split
        · rw [upn_at]
        · rfl
      rw [e]
      exact this
  intro q hq
  rw [hr q (a + 1 + q) (by omega)]
  have b := h.2.2.2.2.2.2.2.2.2 (a + 1 + q) (by omega)
  exact ⟨rg_b (Nat.le_trans b (by decide)), fun hp => (ROw.st h (by omega) (key q (by omega))).1 hp⟩
theorem okI_ok {M B : LZ} {g c0 N : Nat} (h : CXt M B g c0 N) : okI (B, M g) 10 := by
  obtain ⟨c1, c2, c3, hB, c5, hI, -, hz, h216, h216'⟩ := id h
  intro c hc
  have e1 : (inZ c (B, M g)).1 c = B c := in_hi c (Nat.le_refl _)
  have e2 : (inZ 10 (B, M g)).1 c = ngZ (euZ c 200 (B c) (inZ c (B, M g)).2).1 c := by
    rw [in_lo 10 hc, inZ, e1]
    show upn (inZ c (B, M g)).1 c _ c = _
    rw [upn_at]
  refine ⟨?_, ?_, ?_⟩
  · rw [e1]
    by_cases hp : 0 < B c c
    · exact rg_b (Nat.le_trans (h216 c hc hp) (by decide))
    · have := hB.2.1 c hc
      rw [show B c c = 0 by omega]; exact rg_b (by decide)
  · by_cases q : c < c0
    · rcases hI.2.2.1 c q with ⟨k1, k2, k3, k4⟩ | ⟨k1, k2, k3, s, t, u, v, k4⟩
      · rw [k2]; exact rg_b (by decide)
      · have nv : NVs B g c (inZ c (B, M g)).2 := hI.2.1 c (by omega)
        have k1 : 0 < B c c := k1
        have a1 := nv.2.2.2.2 c (Nat.le_refl _) hc k1
        have a2 := nv.p hc k1
        have a3 : (2 : Nat) ^ (5 - pkN B c) ≤ 2 ^ 5 := Nat.pow_le_pow_right (by omega) (by omega)
        have a4 : ((inZ c (B, M g)).2 (3 + g)).natAbs * (6 * 2 ^ (5 - pkN B c)) * (B c c).natAbs = ((inZ c (B, M g)).2 (3 + g)).natAbs * (B c c).natAbs * (6 * 2 ^ (5 - pkN B c)) := by grind
        have a5 : ((inZ c (B, M g)).2 (3 + g)).natAbs * (B c c).natAbs * (6 * 2 ^ (5 - pkN B c)) ≤ 216 * (6 * 2 ^ 5) := Nat.mul_le_mul a2 (Nat.mul_le_mul_left _ a3)
        have : (216 * (6 * 2 ^ 5) : Nat) ≤ 2 ^ 62 := by decide
        exact rg_b (by omega)
    · by_cases q2 : c = c0
      · subst q2
        obtain ⟨e, he, hP⟩ := hI.2.2.2.2.1
        have b := h216' c hc
        rw [hP, na_e he] at b
        exact rg_b (Nat.le_trans b (by decide))
      · rw [hI.2.2.2.2.2.2.2 c (by omega) (by omega) c hc]; exact rg_b (by decide)
  · have b := h216' c hc
    rw [e2] at b
    rw [e1]
    have : ((euZ c 200 (B c) (inZ c (B, M g)).2).1 c).natAbs ≤ 216 := by
      unfold ngZ at b
      split at b
      · have b : (- (euZ c 200 (B c) (inZ c (B, M g)).2).1 c).natAbs ≤ 216 := b
        omega
      · exact b
    exact rg_b (Nat.le_trans this (by decide))
theorem pv_z {B : LZ} (h : ∀ c, ¬ 0 < B c c) : ∀ f c, pvD B f c = 1 ∧ pvl B f c = []
  | 0, _ => ⟨rfl, rfl⟩
  | f + 1, c => by
    rw [pvD, pvl, if_neg (h c), if_neg (h c), Nat.one_mul]
    exact pv_z h f (c + 1)
theorem ok_g {M : LZ} {N : Nat} (hM : EI N M) (hN : N ≤ 7) : ∀ m, m ≤ N → okG M m := by
  intro m
  induction m with
  | zero => exact fun _ g hg => by omega
  | succ m ih =>
    intro hm
    have ok := ih (by omega)
    have hB := cg_hn m ok
    have hsp : ∀ x, spL0 10 (cgZ M m) x ↔ spMz M m x := fun x => cg_sp m ok
    have hz : ∀ c, c < 10 → cgZ M m c (3 + m) = 0 := fun c hc => by
      obtain ⟨z, h⟩ := (hsp _).mp (spL0.row hc)
      rw [h (3 + m) (by omega)]
      refine sg_z m (fun q hq => ?_)
      obtain ⟨E, e1, e2, e3⟩ := hM
      rw [e3 q (3 + m) (by omega) (by omega) (by omega), if_neg (by omega), Int.mul_zero]
    have row : ∀ k g, g < k → spMz M k (M g) := fun k g hg => ⟨fun x => if x = g then 1 else 0, fun j _ => by
      rw [sg_1 (k := g) k hg (fun x _ hx => by show (if x = g then (1 : Int) else 0) * M x j = 0; rw [if_neg hx, Int.zero_mul])]
      show M g j = (if g = g then (1 : Int) else 0) * M g j
      rw [if_pos rfl, Int.one_mul]⟩
    have hpv : pvD (cgZ M m) 10 0 ≤ 216 ∧ (pvl (cgZ M m) 10 0).length ≤ m := by
      by_cases h0 : m = 0
      · subst h0
        obtain ⟨a, b⟩ := pv_z (B := cgZ M 0) (fun c => by show ¬ (0 : Int) < 0; omega) 10 0
        rw [a, b]
        exact ⟨by decide, Nat.le_refl _⟩
      · obtain ⟨a, b, -⟩ := pv_216 hB.ht hM (show m ≤ N by omega) (by omega) (fun c hc => (hsp _).mp (spL0.row hc)) (fun q hq => (hsp _).mpr (row m q hq))
        exact ⟨a, b⟩
    have hk6 : pkN (cgZ M m) 0 ≤ 6 := by
      have := hpv.2
      show (pvl (cgZ M m) 10 0).length ≤ 6
      omega
    have m3 : M m (3 + m) = 1 := by
      obtain ⟨E, e1, e2, e3⟩ := hM
      rw [e3 m (3 + m) (by omega) (by omega) (by omega), if_pos (by omega)]
    have mz : ∀ j, 3 ≤ j → j < 10 → 0 < cgZ M m j j → M m j = 0 := fun j h1 h2 h3 => by
      obtain ⟨E, e1, e2, e3⟩ := id hM
      rw [e3 m j (by omega) h1 h2]
      by_cases q : j - 3 = m
      · exfalso
        have := hz j h2
        rw [show 3 + m = j by omega] at this
        omega
      · rw [if_neg q]
    have h0 : NVs (cgZ M m) m 0 (M m) := by
      refine ⟨by rw [m3]; decide, ?_, fun j hj => absurd hj (Nat.not_lt_zero j), fun _ => ⟨by rw [m3]; decide, fun i j hij hi hj pi pj => ?_⟩, fun j _ hj hp => ?_⟩
      · rw [m3]
        have := hpv.1
        show 1 * pvD (cgZ M m) 10 0 ≤ 216
        omega
      · by_cases qi : i < 3
        · obtain ⟨x, x6, ex⟩ := hM.le (show m < N by omega) qi
          by_cases qj : j < 3
          · obtain ⟨y, y6, ey⟩ := hM.le (show m < N by omega) qj
            obtain ⟨k, k3, ki, kj⟩ : ∃ k, k < 3 ∧ i ≠ k ∧ j ≠ k := by
              refine ⟨3 - i - j, ?_, ?_, ?_⟩ <;> omega
            have s3 := hM.s3 (show m < N by omega) qi qj k3 hij ki kj
            obtain ⟨z, z6, ez⟩ := hM.le (show m < N by omega) k3
            rw [ex, ey, ez] at s3
            rw [ex, ey]
            omega
          · rw [mz j (by omega) hj pj, ex]; omega
        · rw [mz i (by omega) hi pi]
          by_cases qj : j < 3
          · obtain ⟨y, y6, ey⟩ := hM.le (show m < N by omega) qj
            rw [ey]; omega
          · rw [mz j (by omega) hj pj]; decide
      · rw [m3]
        have hpow : 1 ≤ 2 ^ (5 - pkN (cgZ M m) 0) := Nat.pow_pos (by omega)
        have a1 : 6 * 1 ≤ (1 : Int).natAbs * (6 * 2 ^ (5 - pkN (cgZ M m) 0)) := by
          show 6 * 1 ≤ 1 * (6 * 2 ^ (5 - pkN (cgZ M m) 0)); omega
        have a2 : 6 * 1 * 1 ≤ (1 : Int).natAbs * (6 * 2 ^ (5 - pkN (cgZ M m) 0)) * (cgZ M m j j).natAbs := Nat.mul_le_mul a1 (by omega)
        by_cases q : j < 3
        · obtain ⟨x, x6, ex⟩ := hM.le (show m < N by omega) q
          rw [ex]; omega
        · rw [mz j (by omega) hj hp]; omega
    obtain ⟨c0, hI⟩ := in_run (s := (cgZ M m, M m)) hB (show m < 7 by omega) hz hk6 h0
    have hB' := hI.ht hB
    have hsp' : ∀ x, spL0 10 (inZ 10 (cgZ M m, M m)).1 x ↔ spMz M (m + 1) x := fun x => hI.sp hsp
    obtain ⟨d1, -, -⟩ := pv_216 hB' hM (show m + 1 ≤ N by omega) (by omega) (fun c hc => (hsp' _).mp (spL0.row hc)) (fun q hq => (hsp' _).mpr (row (m + 1) q hq))
    have hctx : CXt M (cgZ M m) m c0 N := by
      refine ⟨hM, by omega, hN, hB, hsp, hI, hk6, hz, fun c hc hp => ?_, fun c hc => ?_⟩
      · exact Nat.le_trans (pv_le 10 0 c (Nat.zero_le _) (by omega) hp) hpv.1
      · by_cases hp : 0 < (inZ 10 (cgZ M m, M m)).1 c c
        · exact Nat.le_trans (pv_le 10 0 c (Nat.zero_le _) (by omega) hp) d1
        · have := hB'.2.1 c hc
          omega
    intro g hg
    by_cases q : g < m
    · exact ok g q
    · have : g = m := by omega
      subst this
      exact ⟨okI_ok hctx, okR_ok hctx⟩
/-- both grids are one -/
theorem cgl_all : CGL := CGL_of (fun S hW => by
  obtain ⟨E, E1, E2, E3⟩ := laM_H (Gt := tG S) (fun i hi => (hW.2.1.2.1 i hi).1)
  exact ok_g (N := gN (tG S)) ⟨E, E1, E2, E3⟩ hW.2.1.1 _ (Nat.le_refl _)) (fun S hW => rf_ok hW.2.1.1 (fun i hi => (hW.2.1.2.1 i hi).1))
