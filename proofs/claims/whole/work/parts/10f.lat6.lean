/-! ===== the LATTICE: it comes to an end ===== -/
theorem sub_ab {x y : Int} {A B : Nat} (h1 : x.natAbs ≤ A) (h2 : y.natAbs ≤ B) : (x - y).natAbs ≤ A + B := by omega
theorem pm_ab {R : LM} {j c k l A B : Nat} (h1 : (tvL R k j).natAbs ≤ A) (h2 : (tvL R l j).natAbs ≤ A) (h3 : (tvL R k c).natAbs ≤ B) (h4 : (tvL R l c).natAbs ≤ B) : (pm2 R j c k l).natAbs ≤ A * B + A * B := sub_ab (mul_ab h1 h4) (mul_ab h2 h3)
def thB (m : Nat) : Nat := if m ≤ 2 then 9223372036854775807 else if m = 3 then 2147483647 else if m = 4 then 32767 else if m = 5 then 127 else if m = 6 then 7 else 1
theorem th_s {m : Nat} (h1 : 3 ≤ m) (h2 : m ≤ 7) : thB m * thB m + thB m * thB m ≤ thB (m - 1) ∧ thB m ≤ thB m * thB m + thB m * thB m ∧ thB m * thB m + thB m * thB m < 2 ^ 63 := by
  have : m = 3 ∨ m = 4 ∨ m = 5 ∨ m = 6 ∨ m = 7 := by omega
  rcases this with rfl | rfl | rfl | rfl | rfl <;> decide
def LBd (n j i : Nat) (R : LM) : Prop := n - i ≤ 1 ∨ ∀ k c, i ≤ k → k < n → j ≤ c → c < 10 → (tvL R k c).natAbs ≤ thB (n - i)
theorem LBd.mono {n j i : Nat} {R : LM} (h : LBd n j i R) : LBd n (j + 1) i R := h.imp id fun h k c a b d e => h k c a b (by omega) e
theorem ab_k {R : LM} {fr i j k : Nat} (h : i ≤ k) : abQ R fr i j i k = R k := if_neg (by omega)
theorem cl_one {i j n f : Nat} {R : LM} (h : n - i ≤ 1) (hf : 1 ≤ f) : clF i j n f R = some (false, R) ∨ ∃ R2, clF i j n f R = some (true, R2) := by
  obtain ⟨g, rfl⟩ : ∃ g, f = g + 1 := ⟨f - 1, by omega⟩
  have hs := smF_le (R := R) (i := i) (j := j) (n - i)
  unfold clF
  by_cases h1 : lsF R i j (n - i) = 0
  · rw [if_pos h1]; exact Or.inl rfl
  · rw [if_neg h1, if_neg (by omega)]; exact Or.inr ⟨_, rfl⟩
theorem rc_rel {n fr low fu j : Nat} {s : RS} (hf : 2 ^ 63 + 1 ≤ fu) (hn : n ≤ 7) (hj : j < 10) (h : LBd n j s.2.1 s.1) : ∃ u, rcS n fr low fu j s = some u ∧ LBd n (j + 1) u.2.1 u.1 := by
  obtain ⟨R, i, pv⟩ := s
  have h' : LBd n j i R := h
  unfold rcS
  show ∃ u, (if i < n then _ else _) = some u ∧ _
  by_cases hi : i < n
  · rw [if_pos hi]
    show ∃ u, (match clF i j n fu R with
      | none => none
      | some p => some (if p.1 = true then (abQ p.2 fr i j i, i + 1, upn pv (i - fr) (j - low)) else (p.2, i, pv))) = some u ∧ _
    by_cases h1 : n - i ≤ 1
    · rcases cl_one (j := j) (R := R) h1 (show 1 ≤ fu by omega) with e | ⟨R2, e⟩ <;> rw [e]
      · exact ⟨_, rfl, h'.mono⟩
      · exact ⟨_, rfl, Or.inl (show n - (i + 1) ≤ 1 by omega)⟩
    · have hb := h'.resolve_left h1
      by_cases h2 : n - i = 2
      · rcases clF_all (f := fu) (fun R => ∀ k, i ≤ k → k < n → (tvL R k j).natAbs ≤ 9223372036854775807) hf hi (fun R m hI hl k a b => by
          obtain ⟨m1, m2, m3⟩ := lsF_b _ _ hl
          have hsw : ∀ k, i ≤ k → k < n → (tvL (swR R i m) k j).natAbs ≤ 9223372036854775807 := fun k a b => by
            obtain ⟨k', c1, c2, c3⟩ := sw_row (R := R) m1 (show m < n by omega) a b
            unfold tvL; rw [c3]; exact hI k' c1 c2
          by_cases e : k = i
          · have e2 : tvL (rdQ (swR R i m) i j n) k j = tvL (swR R i m) k j := by unfold tvL; rw [e, rd_i]
            rw [e2]; exact hsw k a b
          · rw [rd_tv (by omega) b (tv_nm (hsw k a b) (by omega)) (by rw [sw_i]; exact m3), Int.natAbs_tmod]
            exact Nat.le_trans (Nat.mod_le _ _) (hsw k a b)) (fun R hI k a b => tv_nm (hI k a b) (by omega)) (R := R) (fun k a b => by
          have := hb k j a b (Nat.le_refl _) hj
          rw [h2] at this; exact this) with ⟨e, _⟩ | ⟨R1, R2, e, _⟩ <;> rw [e]
        · exact ⟨_, rfl, h'.mono⟩
        · exact ⟨_, rfl, Or.inl (show n - (i + 1) ≤ 1 by omega)⟩
      · obtain ⟨t1, t2, t3⟩ := th_s (show 3 ≤ n - i by omega) (show n - i ≤ 7 by omega)
        rcases passL (i := i) (n := n) (j := j) (f := fu) (R := R) (U := fun _ => thB (n - i) * thB (n - i) + thB (n - i) * thB (n - i)) (M := fun _ => thB (n - i) * thB (n - i) + thB (n - i) * thB (n - i)) hf hi hj (fun _ => Nat.le_refl _) (fun _ => t3) (fun k c a1 a2 a3 a4 => ⟨Nat.le_trans (hb k c a1 a2 a3 a4) t2, fun l bE1 bE2 => pm_ab (hb k j a1 a2 (Nat.le_refl _) hj) (hb l j bE1 bE2 (Nat.le_refl _) hj) (hb k c a1 a2 a3 a4) (hb l c bE1 bE2 a3 a4)⟩) (fun _ => True) trivial (fun _ _ _ _ _ => trivial) with ⟨e, _⟩ | ⟨R1, R2, e, _, _, _, _, h5⟩ <;> rw [e]
        · exact ⟨_, rfl, h'.mono⟩
        · refine ⟨_, rfl, Or.inr fun k c a1 a2 a3 a4 => ?_⟩
          have a1' : i + 1 ≤ k := a1
          show (tvL (abQ R2 fr i j i) k c).natAbs ≤ thB (n - (i + 1))
          have e2 : tvL (abQ R2 fr i j i) k c = tvL R2 k c := by unfold tvL; rw [ab_k (by omega)]
          rw [e2, show n - (i + 1) = n - i - 1 by omega]
          exact Nat.le_trans (h5 k c (by omega) a2 (by omega) a4) t1
  · rw [if_neg hi]
    exact ⟨_, rfl, h'.mono⟩
theorem rc_relF {n fr low fu : Nat} (hf : 2 ^ 63 + 1 ≤ fu) (hn : n ≤ 7) : ∀ q j (s : RS), j + q ≤ 10 → LBd n j s.2.1 s.1 → ∃ u, rcF n fr low fu q j s = some u
  | 0, j, s, _, _ => ⟨s, rfl⟩
  | q + 1, j, s, hj, h => by
    obtain ⟨u, e, h2⟩ := rc_rel (fr := fr) (low := low) hf hn (show j < 10 by omega) h
    obtain ⟨v, e2⟩ := rc_relF hf hn q (j + 1) u (by omega) h2
    exact ⟨v, by unfold rcF; rw [e]; exact e2⟩
/-! the numbers of the TERMS -/
def LH0 (n : Nat) (R : LM) : Prop := ∃ E : Nat → Nat → Nat, (∀ k, k < n → E k 0 + E k 1 + E k 2 ≤ 6) ∧ (∀ k c, k < n → c < 3 → tvL R k c = E k c) ∧ ∀ k c, k < n → 3 ≤ c → c < 10 → tvL R k c = if c - 3 = k then 1 else 0
def bE1 (c : Nat) : Nat := if c < 3 then 36 else 6
def bE2 (c : Nat) : Nat := if c < 3 then 288 else 48
def bE3 (c : Nat) : Nat := if c < 3 then 165888 else 27648
theorem pr36 {a b : Nat} (h1 : a ≤ 6) (h2 : b ≤ 6) : 0 ≤ (a : Int) * b ∧ (a : Int) * b ≤ 36 := by
  have h3 : a * b ≤ 6 * 6 := Nat.mul_le_mul h1 h2
  have h4 : ((a * b : Nat) : Int) = (a : Int) * b := Int.natCast_mul _ _
  omega
theorem LH0.le {n k c : Nat} {R : LM} (h : LH0 n R) (hk : k < n) (hc : c < 3) : ∃ a : Nat, a ≤ 6 ∧ tvL R k c = a := by
  obtain ⟨E, e1, e2, e3⟩ := h
  refine ⟨E k c, ?_, e2 k c hk hc⟩
  have := e1 k hk
  have : c = 0 ∨ c = 1 ∨ c = 2 := by omega
  rcases this with rfl | rfl | rfl <;> omega
theorem LH0.un {n k c : Nat} {R : LM} (h : LH0 n R) (hk : k < n) (hc : 3 ≤ c) (hc2 : c < 10) : tvL R k c = if c - 3 = k then 1 else 0 := by
  obtain ⟨E, e1, e2, e3⟩ := h
  exact e3 k c hk hc hc2
theorem LH0.iv {n j : Nat} {R : LM} (h : LH0 n R) (hj : j < 3) : LIv 0 n j bE1 bE1 R := by
  intro k c _ a2 a3 a4
  obtain ⟨a, ha, ea⟩ := h.le a2 hj
  by_cases hc : c < 3
  · have eb : bE1 c = 36 := if_pos hc
    rw [eb]
    obtain ⟨x, hx, ex⟩ := h.le a2 hc
    refine ⟨by rw [ex]; omega, fun l _ c2 => ?_⟩
    obtain ⟨b, hb, eb⟩ := h.le c2 hj
    obtain ⟨y, hy, ey⟩ := h.le c2 hc
    unfold pm2
    rw [ea, ex, eb, ey]
    have := pr36 ha hy
    have := pr36 hb hx
    omega
  · have eb : bE1 c = 6 := if_neg hc
    rw [eb]
    refine ⟨by rw [h.un a2 (by omega) a4]; split <;> decide, fun l _ c2 => ?_⟩
    obtain ⟨b, hb, eb⟩ := h.le c2 hj
    unfold pm2
    by_cases e : k = l
    · subst e; rw [Int.sub_self]; exact Nat.zero_le _
    · rw [h.un a2 (by omega) a4, h.un c2 (by omega) a4, ea, eb]
      by_cases e1 : c - 3 = l
      · rw [if_pos e1, if_neg (by omega)]; omega
      · rw [if_neg e1]
        by_cases e2 : c - 3 = k
        · rw [if_pos e2]; omega
        · rw [if_neg e2]; omega
theorem m36 {a b c d : Nat} (h1 : a ≤ 6) (h2 : b ≤ 6) (h3 : c ≤ 6) (h4 : d ≤ 6) : ((a : Int) * b - c * d).natAbs ≤ 36 := by
  have := pr36 h1 h2
  have := pr36 h3 h4
  omega
theorem LH0.tr {n j : Nat} {R : LM} (h : LH0 n R) (hj : j < 3) : LTr 0 n j LNA R := by
  intro u w k l q a1 a2 a3 a4 _ kn _ ln _ qn
  obtain ⟨ka, ka6, ke⟩ := h.le kn hj
  obtain ⟨la, la6, le⟩ := h.le ln hj
  obtain ⟨qa, qa6, qe⟩ := h.le qn hj
  obtain ⟨kb, kb6, kf⟩ := h.le kn a2
  obtain ⟨lb, lb6, lf⟩ := h.le ln a2
  obtain ⟨qb, qb6, qf⟩ := h.le qn a2
  by_cases hw : w < 3
  · have en : LNA w = 216 := if_pos hw
    rw [en]
    by_cases e : u = w
    · subst e
      rw [tm_eq, dt3_cc]; exact Nat.zero_le _
    · obtain ⟨kc, kc6, kg⟩ := h.le kn hw
      obtain ⟨lc, lc6, lg⟩ := h.le ln hw
      obtain ⟨qc, qc6, qg⟩ := h.le qn hw
      have hs : (ka : Int) + kb + kc ≤ 6 := by
        rw [← ke, ← kf, ← kg]
        obtain ⟨E, e1, e2, e3⟩ := h
        have := e1 k kn
        rw [e2 k j kn hj, e2 k u kn a2, e2 k w kn hw]
        have hj0 : j = 0 := by omega
        subst hj0
        have : u = 1 ∧ w = 2 ∨ u = 2 ∧ w = 1 := by omega
        rcases this with ⟨rfl, rfl⟩ | ⟨rfl, rfl⟩ <;> omega
      rw [tm_eq, ke, le, qe, kf, lf, qf, kg, lg, qg]
      have f1 := mul_ab (Nat.le_refl (ka : Int).natAbs) (m36 lb6 qc6 qb6 lc6)
      have f2 := mul_ab (Nat.le_refl (kb : Int).natAbs) (m36 la6 qc6 qa6 lc6)
      have f3 := mul_ab (Nat.le_refl (kc : Int).natAbs) (m36 la6 qb6 qa6 lb6)
      have e4 : dt3 (ka : Int) kb kc la lb lc qa qb qc = ka * (lb * qc - qb * lc) - kb * (la * qc - qa * lc) + kc * (la * qb - qa * lb) := by unfold dt3; grind
      rw [e4]
      omega
  · have en : LNA w = 36 := if_neg hw
    rw [en]
    by_cases ekl : k = l
    · subst ekl; rw [tm_eq, dt3_12]; exact Nat.zero_le _
    · by_cases ekq : k = q
      · subst ekq; rw [tm_eq, dt3_13]; exact Nat.zero_le _
      · by_cases elq : l = q
        · subst elq; rw [tm_eq, dt3_23]; exact Nat.zero_le _
        · rw [tm_eq, ke, le, qe, kf, lf, qf, h.un kn (by omega) a4, h.un ln (by omega) a4, h.un qn (by omega) a4]
          have f1 := m36 la6 qb6 qa6 lb6
          have f2 := m36 ka6 qb6 qa6 kb6
          have f3 := m36 ka6 lb6 la6 kb6
          by_cases e1 : w - 3 = k
          · rw [if_pos e1, if_neg (by omega), if_neg (by omega)]
            have e4 : dt3 (ka : Int) kb 1 la lb 0 qa qb 0 = la * qb - qa * lb := by unfold dt3; grind
            rw [e4]; exact f1
          · by_cases e2 : w - 3 = l
            · rw [if_neg e1, if_pos e2, if_neg (by omega)]
              have e4 : dt3 (ka : Int) kb 0 la lb 1 qa qb 0 = - (ka * qb - qa * kb) := by unfold dt3; grind
              rw [e4, Int.natAbs_neg]; exact f2
            · by_cases e3 : w - 3 = q
              · rw [if_neg e1, if_neg e2, if_pos e3]
                have e4 : dt3 (ka : Int) kb 0 la lb 0 qa qb 1 = ka * lb - la * kb := by unfold dt3; grind
                rw [e4]; exact f3
              · rw [if_neg e1, if_neg e2, if_neg e3]
                have e4 : dt3 (ka : Int) kb 0 la lb 0 qa qb 0 = 0 := by unfold dt3; grind
                rw [e4]; exact Nat.zero_le _
/-- after one, two, three passes -/
def LE1 (n j : Nat) (R : LM) : Prop := ∀ k c, 1 ≤ k → k < n → j ≤ c → c < 10 → (tvL R k c).natAbs ≤ bE1 c ∧ ∀ u l, 1 ≤ l → l < n → j ≤ u → u < 3 → (pm2 R u c k l).natAbs ≤ bE2 c
def LE2 (n j : Nat) (R : LM) : Prop := ∀ k c, 2 ≤ k → k < n → j ≤ c → c < 10 → (tvL R k c).natAbs ≤ bE2 c
def LE3 (n j : Nat) (R : LM) : Prop := ∀ k c, 3 ≤ k → k < n → j ≤ c → c < 10 → (tvL R k c).natAbs ≤ bE3 c
def LEs (n j i : Nat) (R : LM) : Prop := i ≤ j ∧ (i = 0 ∧ LH0 n R ∨ i = 1 ∧ LE1 n j R ∨ i = 2 ∧ LE2 n j R ∨ i = 3 ∧ LE3 n j R)
theorem LEs.mono {n j i : Nat} {R : LM} (h : LEs n j i R) : LEs n (j + 1) i R := by
  refine ⟨Nat.le_succ_of_le h.1, ?_⟩
  rcases h.2 with h | ⟨e, h⟩ | ⟨e, h⟩ | ⟨e, h⟩
  · exact Or.inl h
  · exact Or.inr (Or.inl ⟨e, fun k c a1 a2 a3 a4 => ⟨(h k c a1 a2 (by omega) a4).1, fun u l bE1 bE2 bE3 b4 => (h k c a1 a2 (by omega) a4).2 u l bE1 bE2 (by omega) b4⟩⟩)
  · exact Or.inr (Or.inr (Or.inl ⟨e, fun k c a1 a2 a3 a4 => h k c a1 a2 (by omega) a4⟩))
  · exact Or.inr (Or.inr (Or.inr ⟨e, fun k c a1 a2 a3 a4 => h k c a1 a2 (by omega) a4⟩))
theorem bE_c (c : Nat) : bE1 c ≤ bE2 c ∧ bE2 c ≤ bE3 c ∧ bE3 c < 2 ^ 63 ∧ 288 * bE2 c + 288 * bE2 c = bE3 c := by unfold bE1 bE2 bE3; split <;> omega
theorem rc_E {n fr low fu j : Nat} {s : RS} (hf : 2 ^ 63 + 1 ≤ fu) (hj : j < 3) (h : LEs n j s.2.1 s.1) : ∃ u, rcS n fr low fu j s = some u ∧ LEs n (j + 1) u.2.1 u.1 := by
  obtain ⟨R, i, pv⟩ := s
  have h' : LEs n j i R := h
  unfold rcS
  show ∃ u, (if i < n then _ else _) = some u ∧ _
  by_cases hi : i < n
  · rw [if_pos hi]
    show ∃ u, (match clF i j n fu R with
      | none => none
      | some p => some (if p.1 = true then (abQ p.2 fr i j i, i + 1, upn pv (i - fr) (j - low)) else (p.2, i, pv))) = some u ∧ _
    have ea : ∀ (R2 : LM) k c, i ≤ k → tvL (abQ R2 fr i j i) k c = tvL R2 k c := fun R2 k c hk => by unfold tvL; rw [ab_k hk]
    rcases h'.2 with ⟨rfl, h0⟩ | ⟨rfl, h1⟩ | ⟨rfl, h2⟩ | ⟨rfl, h3⟩
    · rcases passL (f := fu) hf hi (show j < 10 by omega) (fun _ => Nat.le_refl _) (fun c => Nat.lt_of_le_of_lt (Nat.le_trans (bE_c c).1 (bE_c c).2.1) (bE_c c).2.2.1) (h0.iv hj) (fun R => LKA 0 n j R ∨ LKB 0 n j R) (Or.inl ⟨fun k _ a => by obtain ⟨x, x6, e⟩ := h0.le a hj; rw [e]; omega, h0.tr hj⟩) (fun R m hI hK hl => Or.inr (LKK hI (fun _ => Nat.le_refl _) (fun c => Nat.lt_of_le_of_lt (Nat.le_trans (bE_c c).1 (bE_c c).2.1) (bE_c c).2.2.1) (by omega) hi hK hl)) with ⟨e, _⟩ | ⟨R1, R2, e, h2, h3, h4, h5, h6⟩ <;> rw [e]
      · exact ⟨_, rfl, h'.mono⟩
      · have hT : LTr 0 n j LNB R1 := by
          rcases h2 with h2 | h2
          · exact fun u w k l q a1 a2 a3 a4 bE1 bE2 bE3 b4 b5 b6 => Nat.le_trans (h2.2 u w k l q a1 a2 a3 a4 bE1 bE2 bE3 b4 b5 b6) (LNAB w).1
          · exact h2.1
        refine ⟨_, rfl, show 0 + 1 ≤ j + 1 by omega, Or.inr (Or.inl ⟨rfl, fun k c a1 a2 a3 a4 => ⟨?_, fun u l c1 c2 c3 c4 => ?_⟩⟩)⟩
        · show (tvL (abQ R2 fr 0 j 0) k c).natAbs ≤ bE1 c
          rw [ea R2 k c (by omega)]
          exact h6 k c (by omega) a2 (by omega) a4
        · show (pm2 (abQ R2 fr 0 j 0) u c k l).natAbs ≤ bE2 c
          have hr : ∀ k c, 0 < k → tvL (abQ R2 fr 0 j 0) k c = tvL R1 k c := fun k c hk => by
            rw [ea R2 k c (by omega)]; unfold tvL; rw [h5 k (by omega)]
          have ht := hT u c 0 k l (by omega) c4 (by omega) a4 (Nat.le_refl _) hi (by omega) a2 (by omega) c2
          unfold pm2
          rw [hr k u (by omega), hr l c (by omega), hr l u (by omega), hr k c (by omega)]
          unfold tm3 at ht
          rw [tv_0 (h4 k (by omega) a2), tv_0 (h4 l (by omega) c2), Int.zero_mul, Int.zero_mul, Int.sub_zero, Int.add_zero, Int.natAbs_mul] at ht
          have hne := tv_ne h3
          have : 1 * (tvL R1 k u * tvL R1 l c - tvL R1 l u * tvL R1 k c).natAbs ≤ (tvL R1 0 j).natAbs * (tvL R1 k u * tvL R1 l c - tvL R1 l u * tvL R1 k c).natAbs := Nat.mul_le_mul_right _ (by omega)
          have e5 : LNB c = bE2 c := rfl
          omega
    · rcases passL (f := fu) (U := bE2) (M := bE2) hf hi (show j < 10 by omega) (fun _ => Nat.le_refl _) (fun c => Nat.lt_of_le_of_lt (bE_c c).2.1 (bE_c c).2.2.1) (fun k c a1 a2 a3 a4 => ⟨Nat.le_trans (h1 k c a1 a2 a3 a4).1 (bE_c c).1, fun l c1 c2 => (h1 k c a1 a2 a3 a4).2 j l c1 c2 (Nat.le_refl _) hj⟩) (fun _ => True) trivial (fun _ _ _ _ _ => trivial) with ⟨e, _⟩ | ⟨R1, R2, e, _, _, _, _, h6⟩ <;> rw [e]
      · exact ⟨_, rfl, h'.mono⟩
      · refine ⟨_, rfl, show 1 + 1 ≤ j + 1 by have := h'.1; omega, Or.inr (Or.inr (Or.inl ⟨rfl, fun k c a1 a2 a3 a4 => ?_⟩))⟩
        show (tvL (abQ R2 fr 1 j 1) k c).natAbs ≤ bE2 c
        rw [ea R2 k c (by omega)]
        exact h6 k c (by omega) a2 (by omega) a4
    · rcases passL (f := fu) (U := bE3) (M := bE3) hf hi (show j < 10 by omega) (fun _ => Nat.le_refl _) (fun c => (bE_c c).2.2.1) (fun k c a1 a2 a3 a4 => ⟨Nat.le_trans (h2 k c a1 a2 a3 a4) (bE_c c).2.1, fun l c1 c2 => by
          rw [← (bE_c c).2.2.2]
          have eb : bE2 j = 288 := if_pos hj
          exact pm_ab (by rw [← eb]; exact h2 k j a1 a2 (Nat.le_refl _) (by omega)) (by rw [← eb]; exact h2 l j c1 c2 (Nat.le_refl _) (by omega)) (h2 k c a1 a2 a3 a4) (h2 l c c1 c2 a3 a4)⟩) (fun _ => True) trivial (fun _ _ _ _ _ => trivial) with ⟨e, _⟩ | ⟨R1, R2, e, _, _, _, _, h6⟩ <;> rw [e]
      · exact ⟨_, rfl, h'.mono⟩
      · refine ⟨_, rfl, show 2 + 1 ≤ j + 1 by have := h'.1; omega, Or.inr (Or.inr (Or.inr ⟨rfl, fun k c a1 a2 a3 a4 => ?_⟩))⟩
        show (tvL (abQ R2 fr 2 j 2) k c).natAbs ≤ bE3 c
        rw [ea R2 k c (by omega)]
        exact h6 k c (by omega) a2 (by omega) a4
    · have := h'.1
      omega
  · rw [if_neg hi]
    exact ⟨_, rfl, h'.mono⟩
theorem rc_EF {n fr low fu : Nat} (hf : 2 ^ 63 + 1 ≤ fu) : ∀ q j (s : RS), j + q ≤ 3 → LEs n j s.2.1 s.1 → ∃ u, rcF n fr low fu q j s = some u ∧ LEs n (j + q) u.2.1 u.1
  | 0, j, s, _, h => ⟨s, rfl, h⟩
  | q + 1, j, s, hj, h => by
    obtain ⟨u, e, h2⟩ := rc_E (fr := fr) (low := low) hf (show j < 3 by omega) h
    obtain ⟨v, e2, h3⟩ := rc_EF hf q (j + 1) u (by omega) h2
    exact ⟨v, by unfold rcF; rw [e]; exact e2, by rw [show j + (q + 1) = j + 1 + q by omega]; exact h3⟩
theorem th_le {m B : Nat} (h : m = 7 ∧ B ≤ 1 ∨ m ≤ 6 ∧ B ≤ 7 ∨ m ≤ 5 ∧ B ≤ 127 ∨ m ≤ 4 ∧ B ≤ 32767) : B ≤ thB m := by
  unfold thB
  split
  · omega
  · split
    · omega
    · split
      · omega
      · split
        · omega
        · split <;> omega
theorem LEs.bd {n i : Nat} {R : LM} (hn : n ≤ 7) (h : LEs n 3 i R) : LBd n 3 i R := by
  refine Or.inr fun k c a1 a2 a3 a4 => ?_
  have ec : ¬ c < 3 := by omega
  rcases h.2 with ⟨rfl, h0⟩ | ⟨rfl, h0⟩ | ⟨rfl, h0⟩ | ⟨rfl, h0⟩
  · have hb : (tvL R k c).natAbs ≤ 1 := by rw [h0.un a2 (by omega) a4]; split <;> decide
    exact th_le (by omega)
  · have hb := (h0 k c a1 a2 a3 a4).1
    have e : bE1 c = 6 := if_neg ec
    exact th_le (by omega)
  · have hb := h0 k c a1 a2 a3 a4
    have e : bE2 c = 48 := if_neg ec
    exact th_le (by omega)
  · have hb := h0 k c a1 a2 a3 a4
    have e : bE3 c = 27648 := if_neg ec
    exact th_le (by omega)
/-- the reference's LATTICE is laid -/
theorem laM_H {Gt : GT} (h : ∀ g, g < gN Gt → gL Gt g < 84) : LH0 (gN Gt) (laM Gt) := by
  refine ⟨fun k c => ex (gL Gt k) c, fun k hk => ?_, fun k c hk hc => ?_, fun k c hk hc hc2 => ?_⟩
  · have e := e_le (h k hk)
    show eX (gL Gt k) + eY (gL Gt k) + eZ (gL Gt k) ≤ 6
    omega
  · have e := e_le (h k hk)
    have e6 : ex (gL Gt k) c ≤ 6 := by
      have : c = 0 ∨ c = 1 ∨ c = 2 := by omega
      rcases this with rfl | rfl | rfl
      · show eX (gL Gt k) ≤ 6; omega
      · show eY (gL Gt k) ≤ 6; omega
      · show eZ (gL Gt k) ≤ 6; omega
    unfold tvL laM
    rw [if_pos hc, toL, nI_toInt (by omega)]
  · unfold tvL laM
    rw [if_neg (by omega)]
    split <;> rfl
theorem laF_some {Gt : GT} (hn : gN Gt ≤ 7) (h : ∀ g, g < gN Gt → gL Gt g < 84) (w : Nat) : ∃ L, laF Gt w = some L := by
  have hf : 2 ^ 63 + 1 ≤ fuC := by unfold fuC; omega
  obtain ⟨u, e, hu⟩ := rc_EF (n := gN Gt) (fr := 0) (low := 0) hf 3 0 (laM Gt, 0, fun _ => 0) (by omega) ⟨Nat.le_refl _, Or.inl ⟨rfl, laM_H h⟩⟩
  obtain ⟨v, e2⟩ := rc_relF (n := gN Gt) (fr := u.2.1) (low := 3) hf hn 7 3 u (by omega) (LEs.bd hn hu)
  unfold laF
  rw [e]
  by_cases hw : w = 0
  · exact ⟨_, if_pos hw⟩
  · refine ⟨(v.2.1 - u.2.1, fun i j => v.1 (u.2.1 + i) (3 + j), v.2.2), ?_⟩
    show (if w = 0 then _ else _) = _
    rw [if_neg hw, e2]
