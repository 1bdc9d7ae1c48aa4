/-! ===== minors of the rows at the start ===== -/
theorem mn_mv (c : Nat) (post : List Nat) : ∀ (pre : List Nat) (ρ : LZ), mn (pre ++ c :: post) ρ = sg1 pre.length * mn (c :: (pre ++ post)) ρ
  | [], ρ => by
    show mn (c :: post) ρ = sg1 0 * mn (c :: post) ρ
    rw [show sg1 0 = 1 from rfl, Int.one_mul]
  | d :: pre, ρ => by
    have len : (pre ++ c :: post).length = (c :: (pre ++ post)).length := by simp; omega
    have e : mn (d :: (pre ++ c :: post)) ρ = sg1 pre.length * mn (d :: c :: (pre ++ post)) ρ := by
      rw [mn, mn, len, ← sg_mul]
      refine sg_c _ (fun i _ => ?_)
      rw [mn_mv c post pre (sk i ρ)]
      grind
    have w := mn_cw d c (pre ++ post) ρ
    show mn (d :: (pre ++ c :: post)) ρ = sg1 (pre.length + 1) * mn (c :: d :: (pre ++ post)) ρ
    rw [e, sg1_s]
    have : mn (d :: c :: (pre ++ post)) ρ = - mn (c :: d :: (pre ++ post)) ρ := by omega
    rw [this]
    grind
theorem mn_rc {c : Nat} {cs : List Nat} (h : c ∈ cs) (ρ : LZ) : mn (c :: cs) ρ = 0 := by
  obtain ⟨s, t, e⟩ := List.append_of_mem h
  have len : cs.length = (c :: (s ++ t)).length := by rw [e]; simp; omega
  have e2 : mn (c :: cs) ρ = sg1 s.length * mn (c :: c :: (s ++ t)) ρ := by
    rw [mn, mn, len, ← sg_mul]
    refine sg_c _ (fun i _ => ?_)
    rw [e, mn_mv c t s (sk i ρ)]
    grind
  rw [e2, mn_cc, Int.mul_zero]
theorem mn_nd : ∀ (cs : List Nat) (ρ : LZ), ¬ cs.Nodup → mn cs ρ = 0
  | [], _, h => absurd List.nodup_nil h
  | c :: cs, ρ, h => by
    rw [List.nodup_cons] at h
    by_cases hc : c ∈ cs
    · exact mn_rc hc ρ
    · rw [mn]
      refine sg_z _ (fun i _ => ?_)
      rw [mn_nd cs (sk i ρ) (fun q => h ⟨hc, q⟩), Int.mul_zero]
def wtc : List Nat → Nat
  | [] => 1
  | c :: cs => (if c < 3 then 6 else 1) * wtc cs
theorem wtc_mv (c : Nat) (post : List Nat) : ∀ pre : List Nat, wtc (pre ++ c :: post) = wtc (c :: (pre ++ post))
  | [] => rfl
  | d :: pre => by
    show (if d < 3 then 6 else 1) * wtc (pre ++ c :: post) = (if c < 3 then 6 else 1) * ((if d < 3 then 6 else 1) * wtc (pre ++ post))
    rw [wtc_mv c post pre]
    show (if d < 3 then 6 else 1) * ((if c < 3 then 6 else 1) * wtc (pre ++ post)) = _
    grind
def EI (n : Nat) (Z : LZ) : Prop := ∃ E : Nat → Nat → Nat, (∀ k, k < n → E k 0 + E k 1 + E k 2 ≤ 6) ∧ (∀ k c, k < n → c < 3 → Z k c = E k c) ∧ ∀ k c, k < n → 3 ≤ c → c < 10 → Z k c = if c - 3 = k then 1 else 0
theorem EI.le {n k c : Nat} {Z : LZ} (h : EI n Z) (hk : k < n) (hc : c < 3) : ∃ a : Nat, a ≤ 6 ∧ Z k c = a := by
  obtain ⟨E, e1, e2, e3⟩ := h
  refine ⟨E k c, ?_, e2 k c hk hc⟩
  have := e1 k hk
  have : c = 0 ∨ c = 1 ∨ c = 2 := by omega
  rcases this with rfl | rfl | rfl <;> omega
theorem EI.s3 {n k a b c : Nat} {Z : LZ} (h : EI n Z) (hk : k < n) (ha : a < 3) (hb : b < 3) (hc : c < 3) (h1 : a ≠ b) (h2 : a ≠ c) (h3 : b ≠ c) : Z k a + Z k b + Z k c ≤ 6 := by
  obtain ⟨E, e1, e2, e3⟩ := h
  have := e1 k hk
  rw [e2 k a hk ha, e2 k b hk hb, e2 k c hk hc]
  have : a = 0 ∧ b = 1 ∧ c = 2 ∨ a = 0 ∧ b = 2 ∧ c = 1 ∨ a = 1 ∧ b = 0 ∧ c = 2 ∨ a = 1 ∧ b = 2 ∧ c = 0 ∨ a = 2 ∧ b = 0 ∧ c = 1 ∨ a = 2 ∧ b = 1 ∧ c = 0 := by omega
  rcases this with ⟨rfl, rfl, rfl⟩ | ⟨rfl, rfl, rfl⟩ | ⟨rfl, rfl, rfl⟩ | ⟨rfl, rfl, rfl⟩ | ⟨rfl, rfl, rfl⟩ | ⟨rfl, rfl, rfl⟩ <;> omega
theorem mn_1 (c : Nat) (ρ : LZ) : mn [c] ρ = ρ 0 c := by
  rw [mn, List.length_nil, sgZ, sgZ, mn, show sg1 0 = 1 from rfl]; omega
theorem mn_2 (c d : Nat) (ρ : LZ) : mn [c, d] ρ = ρ 0 c * ρ 1 d - ρ 1 c * ρ 0 d := by
  rw [mn, List.length_cons, List.length_nil, sgZ, sgZ, sgZ, mn_1, mn_1, show sg1 0 = 1 from rfl, show sg1 (0 + 1) = -1 from rfl, sk_ge ρ (Nat.le_refl 0), sk_lt ρ (show 0 < 0 + 1 by omega)]; grind
theorem mn_3 (a b c : Nat) (ρ : LZ) : mn [a, b, c] ρ = dt3 (ρ 0 a) (ρ 0 b) (ρ 0 c) (ρ 1 a) (ρ 1 b) (ρ 1 c) (ρ 2 a) (ρ 2 b) (ρ 2 c) := by
  rw [mn, List.length_cons, List.length_cons, List.length_nil, sgZ, sgZ, sgZ, sgZ, mn_2, mn_2, mn_2, show sg1 0 = 1 from rfl, show sg1 (0 + 1) = -1 from rfl, show sg1 (0 + 1 + 1) = 1 from rfl, sk_ge ρ (Nat.le_refl 0), sk_ge ρ (show 0 ≤ 1 by omega), sk_lt ρ (show 0 < 0 + 1 by omega), sk_ge ρ (show 0 + 1 ≤ 1 by omega), sk_lt ρ (show 0 < 0 + 1 + 1 by omega), sk_lt ρ (show 1 < 0 + 1 + 1 by omega)]
  unfold dt3
  grind
theorem sk_cm (Z : LZ) (σ : Nat → Nat) (i : Nat) : sk i (fun k => Z (σ k)) = fun k => Z (sk i σ k) := by
  funext k
  by_cases e : k < i
  · rw [sk_lt _ e, sk_lt _ e]
  · rw [sk_ge _ (by omega), sk_ge _ (by omega)]
theorem EI.bd {n : Nat} {Z : LZ} (h : EI n Z) : ∀ L (cs : List Nat) (σ : Nat → Nat), cs.length = L → (∀ c, c ∈ cs → c < 10) → (∀ k, k < cs.length → σ k < n) → (mn cs (fun k => Z (σ k))).natAbs ≤ wtc cs := by
  intro L
  induction L with
  | zero =>
    intro cs σ hl _ _
    rw [List.eq_nil_of_length_eq_zero hl]
    show (1 : Int).natAbs ≤ 1
    decide
  | succ L ih =>
    intro cs σ hl hc hs
    by_cases hx : ∃ c, c ∈ cs ∧ 3 ≤ c
    · obtain ⟨c, hm, h3⟩ := hx
      obtain ⟨s, t, e⟩ := List.append_of_mem hm
      subst e
      have hl2 : (s ++ t).length = L := by
        rw [List.length_append] at hl ⊢
        rw [List.length_cons] at hl
        omega
      have hw : wtc (s ++ c :: t) = wtc (s ++ t) := by
        rw [wtc_mv]
        show (if c < 3 then 6 else 1) * wtc (s ++ t) = _
        rw [if_neg (by omega), Nat.one_mul]
      have hcl := hc c hm
      rw [mn_mv, sg1_na, hw]
      by_cases hk : ∃ k, k < L + 1 ∧ σ k = c - 3
      · obtain ⟨k, hkL, ek⟩ := hk
        by_cases hk2 : ∃ l, l < L + 1 ∧ l ≠ k ∧ σ l = c - 3
        · obtain ⟨l, hlL, hne, el⟩ := hk2
          rw [mn_rr (i := l) (j := k) (by rw [List.length_cons]; omega) (by rw [List.length_cons]; omega) hne (by show Z (σ l) = Z (σ k); rw [el, ek])]
          exact Nat.zero_le _
        · rw [mn, hl2, sg_1 (k := k) _ hkL (fun l hlL hne => by
            obtain ⟨E, e1, e2, e3⟩ := h
            rw [e3 _ _ (hs l (by omega)) h3 hcl, if_neg (fun q => hk2 ⟨l, hlL, hne, q.symm⟩)]; grind)]
          have ez : Z (σ k) c = 1 := by
            obtain ⟨E, e1, e2, e3⟩ := h
            rw [e3 _ _ (hs k (by omega)) h3 hcl, if_pos ek.symm]
          rw [ez, Int.mul_one, sg1_na, sk_cm]
          refine ih (s ++ t) (sk k σ) hl2 (fun d hd => hc d ?_) (fun l hlL => ?_)
          · rw [List.mem_append] at hd ⊢
            rcases hd with hd | hd
            · exact Or.inl hd
            · exact Or.inr (List.mem_cons_of_mem _ hd)
          · by_cases q : l < k
            · rw [sk_lt _ q]; exact hs l (by omega)
            · rw [sk_ge _ (by omega)]; exact hs (l + 1) (by omega)
      · rw [mn_z (fun k hk2 => by
          obtain ⟨E, e1, e2, e3⟩ := h
          show Z (σ k) c = 0
          rw [e3 _ _ (hs k (by omega)) h3 hcl, if_neg (fun q => hk ⟨k, by omega, q.symm⟩)])]
        exact Nat.zero_le _
    · have h3 : ∀ c, c ∈ cs → c < 3 := fun c hm => by
        by_cases q : c < 3
        · exact q
        · exact absurd ⟨c, hm, by omega⟩ hx
      by_cases hn : cs.Nodup
      · match cs, hl, hc, hs, h3, hn with
        | [a], _, _, hs, h3, _ =>
          rw [mn_1]
          obtain ⟨x, hx, ex⟩ := h.le (hs 0 (by simp)) (h3 a (by simp))
          show (Z (σ 0) a).natAbs ≤ (if a < 3 then 6 else 1) * 1
          rw [ex, if_pos (h3 a (by simp))]; omega
        | [a, b], _, _, hs, h3, _ =>
          rw [mn_2]
          have ha := h3 a (by simp)
          have hb := h3 b (by simp)
          obtain ⟨x, x6, ex⟩ := h.le (hs 0 (by simp)) ha
          obtain ⟨y, y6, ey⟩ := h.le (hs 1 (by simp)) hb
          obtain ⟨z, z6, ez⟩ := h.le (hs 1 (by simp)) ha
          obtain ⟨w, w6, ew⟩ := h.le (hs 0 (by simp)) hb
          show (Z (σ 0) a * Z (σ 1) b - Z (σ 1) a * Z (σ 0) b).natAbs ≤ (if a < 3 then 6 else 1) * ((if b < 3 then 6 else 1) * 1)
          rw [ex, ey, ez, ew, if_pos ha, if_pos hb]
          exact m36 x6 y6 z6 w6
        | [a, b, c], _, _, hs, h3, hn =>
          rw [mn_3]
          have ha := h3 a (by simp)
          have hb := h3 b (by simp)
          have hc := h3 c (by simp)
          simp only [List.nodup_cons, List.mem_cons, List.not_mem_nil, or_false, not_or] at hn
          have s0 := h.s3 (hs 0 (by simp)) ha hb hc hn.1.1 hn.1.2 hn.2.1
          obtain ⟨ka, ka6, ke⟩ := h.le (hs 0 (by simp)) ha
          obtain ⟨kb, kb6, kf⟩ := h.le (hs 0 (by simp)) hb
          obtain ⟨kc, kc6, kg⟩ := h.le (hs 0 (by simp)) hc
          obtain ⟨la, la6, le⟩ := h.le (hs 1 (by simp)) ha
          obtain ⟨lb, lb6, lf⟩ := h.le (hs 1 (by simp)) hb
          obtain ⟨lc, lc6, lg⟩ := h.le (hs 1 (by simp)) hc
          obtain ⟨qa, qa6, qe⟩ := h.le (hs 2 (by simp)) ha
          obtain ⟨qb, qb6, qf⟩ := h.le (hs 2 (by simp)) hb
          obtain ⟨qc, qc6, qg⟩ := h.le (hs 2 (by simp)) hc
          show (dt3 (Z (σ 0) a) (Z (σ 0) b) (Z (σ 0) c) (Z (σ 1) a) (Z (σ 1) b) (Z (σ 1) c) (Z (σ 2) a) (Z (σ 2) b) (Z (σ 2) c)).natAbs ≤ (if a < 3 then 6 else 1) * ((if b < 3 then 6 else 1) * ((if c < 3 then 6 else 1) * 1))
          rw [ke, kf, kg] at s0
          rw [ke, kf, kg, le, lf, lg, qe, qf, qg, if_pos ha, if_pos hb, if_pos hc]
          have f1 := mul_ab (Nat.le_refl (ka : Int).natAbs) (m36 lb6 qc6 qb6 lc6)
          have f2 := mul_ab (Nat.le_refl (kb : Int).natAbs) (m36 la6 qc6 qa6 lc6)
          have f3 := mul_ab (Nat.le_refl (kc : Int).natAbs) (m36 la6 qb6 qa6 lb6)
          have e4 : dt3 (ka : Int) kb kc la lb lc qa qb qc = ka * (lb * qc - qb * lc) - kb * (la * qc - qa * lc) + kc * (la * qb - qa * lb) := by unfold dt3; grind
          rw [e4]
          omega
        | a :: b :: c :: d :: r, _, _, _, h3, hn =>
          exfalso
          have ha := h3 a (by simp)
          have hb := h3 b (by simp)
          have hc := h3 c (by simp)
          have hd := h3 d (by simp)
          simp only [List.nodup_cons, List.mem_cons, not_or] at hn
          omega
      · rw [mn_nd cs _ hn]; exact Nat.zero_le _
