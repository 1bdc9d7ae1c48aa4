/-! ===== the reference's rows, a column after the other ===== -/
theorem pass_x {i n j fu : Nat} {R R2 : LM} {bd : List Nat → Nat} (J : LM → Prop) (hin : i < n) (hj : j < 10) (hMB : MBd i n j bd (tvL R)) (hU : ∀ c, j ≤ c → c < 10 → bd [c] < 2 ^ 63 ∧ bd [j, c] < 2 ^ 63) (hJ : J R) (hJs : ∀ R m, LIv i n j (uMB j bd) (uMB j bd) R → J R → lsF R i j (n - i) = m + 1 → J (rdQ (swR R i m) i j n)) (e : clF i j n fu R = some (true, R2)) : ∃ X, LIv i n j (uMB j bd) (uMB j bd) X ∧ J X ∧ ¬ X i j = 0 ∧ R2 = if X i j < 0 then leR X i i 2 else X := by
  have hUb : ∀ c, uMB j bd c < 2 ^ 63 := fun c => by
    unfold uMB
    split
    · rename_i q; have := hU c q.1 q.2; omega
    · decide
  have hL : LIv i n j (uMB j bd) (uMB j bd) R := fun k c a1 a2 a3 a4 => by
    have ue : uMB j bd c = max (bd [c]) (bd [j, c]) := if_pos ⟨a3, a4⟩
    rw [ue]
    refine ⟨by have := hMB.e1 a1 a2 a3 a4; unfold tvL at this ⊢; omega, fun l b1 b2 => ?_⟩
    have := hMB.e2 a1 a2 b1 b2 hj a3 a4
    omega
  obtain ⟨X, ⟨h1, h2⟩, h3, h4⟩ := clF_inv (fun R => LIv i n j (uMB j bd) (uMB j bd) R ∧ J R) (fun R m hI hl => by
    obtain ⟨m1, m2, m3⟩ := lsF_b _ _ hl
    exact ⟨(hI.1.sw m1 (by omega)).rd (fun _ => Nat.le_refl _) hUb (by rw [sw_i]; exact m3) hj, hJs R m hI.1 hI.2 hl⟩) fu R R2 ⟨hL, hJ⟩ e
  exact ⟨X, h1, h2, h3, h4⟩
/-- what a pass keeps: rows spanned, whole numbers of the rows below -/
def LJ (M : LZ) (n i j : Nat) (R0 : LM) (Z0 : LZ) (R : LM) : Prop := ∃ Z, LF M n R Z ∧ (∀ k c, i ≤ k → k < n → c < 10 → Z k c = tvL R k c) ∧ (∀ k c, i ≤ k → k < n → c < j → R k c = 0) ∧ ∀ q, q < i → R q = R0 q ∧ Z q = Z0 q
theorem LJ.st {M : LZ} {n i j m : Nat} {U : Nat → Nat} {R0 R : LM} {Z0 : LZ} (hin : i < n) (hj : j < 10) (hU : ∀ c, U c < 2 ^ 63) (hI : LIv i n j U U R) (h : LJ M n i j R0 Z0 R) (hl : lsF R i j (n - i) = m + 1) : LJ M n i j R0 Z0 (rdQ (swR R i m) i j n) := by
  obtain ⟨Z, z1, z2, z3, z4⟩ := h
  obtain ⟨m1, m2, m3⟩ := lsF_b _ _ hl
  have hI2 := hI.sw m1 (show m < n by omega)
  have hp : ¬ swR R i m i j = 0 := by rw [sw_i]; exact m3
  have zs : ∀ k c, i ≤ k → k < n → c < 10 → (if k = i then Z m else if k = m then Z i else Z k) c = tvL (swR R i m) k c := fun k c a b d => by
    rw [sw_tv]
    unfold swN
    by_cases e : k = i
    · rw [if_pos e, if_pos e]; exact z2 m c m1 (by omega) d
    · rw [if_neg e, if_neg e]
      by_cases e2 : k = m
      · rw [if_pos e2, if_pos e2]; exact z2 i c (Nat.le_refl _) hin d
      · rw [if_neg e2, if_neg e2]; exact z2 k c a b d
  have z0 : ∀ k c, i ≤ k → k < n → c < j → swR R i m k c = 0 := fun k c a b d => by
    obtain ⟨k', c1, c2, c3⟩ := sw_row (R := R) m1 (show m < n by omega) a b
    rw [c3]; exact z3 k' c c1 c2 d
  refine ⟨_, (z1.sw hin (show m < n by omega)).rd (j := j) hin, fun k c a b d => ?_, fun k c a b d => ?_, fun q hq => ?_⟩
  · show (if k = i then Z m else if k = m then Z i else Z k) c - (if i < k ∧ k < n then (swR R i m k j / swR R i m i j).toInt else 0) * (if i = i then Z m else if i = m then Z i else Z i) c = tvL (rdQ (swR R i m) i j n) k c
    have ei := zs i c (Nat.le_refl _) hin d
    rw [zs k c a b d, ei]
    by_cases e : k = i
    · rw [if_neg (by omega), Int.zero_mul, Int.sub_zero, e]
      unfold tvL; rw [rd_i]
    · rw [if_pos ⟨by omega, b⟩]
      have hdv : (swR R i m k j / swR R i m i j).toInt = (tvL (swR R i m) k j).tdiv (tvL (swR R i m) i j) := by
        unfold tvL
        rw [Int64.toInt_div_of_ne_left _ _ (tv_nm (hI2 k j a b (Nat.le_refl _) hj).1 (hU j))]
      by_cases hc : c < j
      · have r1 := z0 k c a b hc
        have r2 := z0 i c (Nat.le_refl _) hin hc
        have r3 : rdQ (swR R i m) i j n k c = 0 := by
          rw [rd_k (by omega) b]
          show swR R i m k c - swR R i m k j / swR R i m i j * swR R i m i c = 0
          rw [r1, r2]; grind
        rw [tv_0 r1, tv_0 r2, tv_0 r3, Int.mul_zero]; rfl
      · rw [(hI2.eq (fun _ => Nat.le_refl _) hU hp hj (by omega) b (by omega) d).1, hdv]
  · by_cases e : k = i
    · rw [e, rd_i]; exact z0 i c (Nat.le_refl _) hin d
    · rw [rd_k (by omega) b]
      show swR R i m k c - swR R i m k j / swR R i m i j * swR R i m i c = 0
      rw [z0 k c a b d, z0 i c (Nat.le_refl _) hin d]; grind
  · have e1 : rdQ (swR R i m) i j n q = R q := by
      unfold rdQ
      rw [if_neg (by omega), sw_o (by omega), if_neg (by omega)]
    rw [e1]
    refine ⟨(z4 q hq).1, ?_⟩
    funext c
    show (if q = i then Z m else if q = m then Z i else Z q) c - (if i < q ∧ q < n then (swR R i m q j / swR R i m i j).toInt else 0) * _ = Z0 q c
    rw [if_neg (by omega), if_neg (by omega), if_neg (show ¬ (i < q ∧ q < n) by omega), Int.zero_mul, Int.sub_zero, (z4 q hq).2]
/-- the rows as they stand ahead of column j -/
def RSI (M : LZ) (n fr low : Nat) (bf : Nat → Nat → Nat) (qf : Nat → Nat) (Zu : LZ) (j : Nat) (s : RS) : Prop := fr ≤ s.2.1 ∧ s.2.1 ≤ n ∧ low ≤ j ∧ s.2.1 - fr ≤ j - low ∧ MBd s.2.1 n j (fun cs => bf s.2.1 cs.length * wtc cs) (tvL s.1) ∧ ∃ Z, LF M n s.1 Z ∧ (∀ k c, s.2.1 ≤ k → k < n → c < 10 → Z k c = tvL s.1 k c) ∧ (∀ k c, s.2.1 ≤ k → k < n → c < j → s.1 k c = 0) ∧ (∀ q, q < fr → Z q = Zu q) ∧ (∀ x, x < s.2.1 - fr → low + s.2.2 x < j ∧ 0 < Z (fr + x) (low + s.2.2 x) ∧ rg (Z (fr + x) (low + s.2.2 x)) ∧ ∀ c, c < low + s.2.2 x → Z (fr + x) c = 0) ∧ (∀ x y, x < y → y < s.2.1 - fr → s.2.2 x < s.2.2 y ∧ 0 ≤ Z (fr + x) (low + s.2.2 y) ∧ Z (fr + x) (low + s.2.2 y) < Z (fr + y) (low + s.2.2 y)) ∧ ∀ x c, x < s.2.1 - fr → c < 10 → (Z (fr + x) c).natAbs + 1 ≤ qf s.2.1
theorem ediv_na {x d : Int} (hd : 0 < d) : (x / d).natAbs ≤ x.natAbs := by
  by_cases h : 0 ≤ x
  · have h1 := Int.ediv_nonneg h (Int.le_of_lt hd)
    have h2 := Int.ediv_le_self d h
    omega
  · have h1 := Int.ediv_neg_of_neg_of_pos (show x < 0 by omega) hd
    have h2 : x ≤ x / d := by
      rw [Int.le_ediv_iff_mul_le hd]
      have h3 : (-x) * 1 ≤ (-x) * d := Int.mul_le_mul_of_nonneg_left (by omega) (by omega)
      have h4 : (-x) * d = - (x * d) := Int.neg_mul _ _
      omega
    omega
theorem rcS_ok {M : LZ} {n fr low fu w j a : Nat} {bf : Nat → Nat → Nat} {qf : Nat → Nat} {Zu : LZ} {s : RS} (hf : 2 ^ 63 + 1 ≤ fu) (hn : n ≤ 7) (hj : j < 10) (hw : w = if j < 3 then 6 else 1) (hSG : s.2.1 < n → SGn s.2.1 w (bf s.2.1) (bf (s.2.1 + 1))) (hq : s.2.1 < n → 1 ≤ qf s.2.1 ∧ qf s.2.1 ≤ 2 ^ 63 ∧ a < 2 ^ 63 ∧ (∀ c, j ≤ c → c < 10 → bf s.2.1 1 * wtc [c] ≤ a ∧ bf s.2.1 2 * wtc [j, c] ≤ a) ∧ qf s.2.1 * (a + 1) ≤ qf (s.2.1 + 1)) (h : RSI M n fr low bf qf Zu j s) : ∃ u, rcS n fr low fu j s = some u ∧ RSI M n fr low bf qf Zu (j + 1) u := by
  obtain ⟨R, i, pv⟩ := s
  obtain ⟨f1, f2, f3, f4, hMB, Z, z1, z2, z3, z4, z5, z6, z7⟩ := h
  unfold rcS
  show ∃ u, (if i < n then _ else _) = some u ∧ _
  by_cases hi : i < n
  · rw [if_pos hi]
    show ∃ u, (match clF i j n fu R with
      | none => none
      | some p => some (if p.1 = true then (abQ p.2 fr i j i, i + 1, upn pv (i - fr) (j - low)) else (p.2, i, pv))) = some u ∧ _
    have hSG := hSG hi
    obtain ⟨q1, q2, q3, q4, q5⟩ := hq hi
    have q1 : 1 ≤ qf i := q1
    have q2 : qf i ≤ 2 ^ 63 := q2
    have q4 : ∀ c, j ≤ c → c < 10 → bf i 1 * wtc [c] ≤ a ∧ bf i 2 * wtc [j, c] ≤ a := q4
    have q5 : qf i * (a + 1) ≤ qf (i + 1) := q5
    have hSG : SGn i w (bf i) (bf (i + 1)) := hSG
    have f1 : fr ≤ i := f1
    have f4 : i - fr ≤ j - low := f4
    have hMB : MBd i n j (fun cs => bf i cs.length * wtc cs) (tvL R) := hMB
    have hU : ∀ c, j ≤ c → c < 10 → (fun cs : List Nat => bf i cs.length * wtc cs) [c] < 2 ^ 63 ∧ (fun cs : List Nat => bf i cs.length * wtc cs) [j, c] < 2 ^ 63 := fun c h1 h2 => by
      have := q4 c h1 h2
      show bf i 1 * wtc [c] < 2 ^ 63 ∧ bf i 2 * wtc [j, c] < 2 ^ 63
      omega
    have hua : ∀ c, uMB j (fun cs => bf i cs.length * wtc cs) c ≤ a := fun c => by
      unfold uMB
      split
      · rename_i q
        have := q4 c q.1 q.2
        show max (bf i 1 * wtc [c]) (bf i 2 * wtc [j, c]) ≤ a
        omega
      · exact Nat.zero_le _
    rcases pass_mb (F := fun cs => bf (i + 1) cs.length * wtc cs) hf hi hj hMB hU (by show 1 ≤ bf (i + 1) 0 * 1; rw [hSG.1]; decide) (fun cs h1 h2 h3 => hSG.kq hn hi hj hw hMB cs h1 h2 h3) with ⟨e, e0⟩ | ⟨R2, e, p1, p2, p3, p4⟩
    · rw [e]
      refine ⟨_, rfl, f1, f2, by omega, by show i - fr ≤ j + 1 - low; omega, hMB.mono, Z, z1, z2, fun k c h1 h2 h3 => ?_, z4, fun x hx => ⟨by have := (z5 x hx).1; show low + pv x < j + 1; have this : low + pv x < j := this; omega, (z5 x hx).2⟩, z6, z7⟩
      by_cases q : c = j
      · rw [q]; exact e0 k h1 h2
      · exact z3 k c h1 h2 (by omega)
    · rw [e]
      obtain ⟨X, x1, ⟨Zx, y1, y2, y3, y4⟩, x3, x4⟩ := pass_x (LJ M n i j R Z) hi hj hMB hU ⟨Z, z1, z2, z3, fun q _ => ⟨rfl, rfl⟩⟩ (fun R m hI hJ hl => hJ.st hi hj (fun c => by have := hua c; omega) hI hl) e
      -- the pivot's sign
      have hsg : X i j < 0 ↔ tvL X i j < 0 := by unfold tvL; rw [Int64.lt_iff_toInt_lt]; rfl
      obtain ⟨Z2, w1, w2, w3, w4⟩ : ∃ Z2, LF M n R2 Z2 ∧ (∀ k c, i ≤ k → k < n → c < 10 → Z2 k c = tvL R2 k c) ∧ (∀ k c, i ≤ k → k < n → c < j → R2 k c = 0) ∧ ∀ q, q < i → R2 q = R q ∧ Z2 q = Z q := by
        by_cases q : X i j < 0
        · rw [if_pos q] at x4
          refine ⟨_, by rw [x4]; exact y1.ng hi, fun k c h1 h2 h3 => ?_, fun k c h1 h2 h3 => ?_, fun r hr => ?_⟩
          · rw [x4]
            by_cases ek : k = i
            · rw [ek, upn_at]
              unfold leR tvL
              rw [upn_at]
              by_cases hc : c < j
              · have r := y3 i c (Nat.le_refl _) hi hc
                have r2 := y2 i c (Nat.le_refl _) hi h3
                rw [tv_0 r] at r2
                show - Zx i c = (X i c - 2 * X i c).toInt
                rw [r2, r]; decide
              · have b := (x1 i c (Nat.le_refl _) hi (by omega) h3).1
                have ua := hua c
                show - Zx i c = (X i c - 2 * X i c).toInt
                rw [ng_tv (by unfold tvL at b; omega), y2 i c (Nat.le_refl _) hi h3]; rfl
            · rw [upn_ne _ _ ek]
              have : tvL (leR X i i 2) k c = tvL X k c := by unfold tvL leR; rw [upn_ne _ _ ek]
              rw [this]; exact y2 k c h1 h2 h3
          · rw [x4]
            by_cases ek : k = i
            · rw [ek]; unfold leR; rw [upn_at, y3 i c (Nat.le_refl _) hi h3]; decide
            · unfold leR; rw [upn_ne _ _ ek]; exact y3 k c h1 h2 h3
          · rw [x4]
            unfold leR
            rw [upn_ne _ _ (by omega), upn_ne _ _ (by omega)]
            exact y4 r hr
        · rw [if_neg q] at x4
          rw [x4]
          exact ⟨Zx, y1, y2, y3, y4⟩
      have hd : Z2 i j = tvL R2 i j := w2 i j (Nat.le_refl _) hi hj
      have hrow : ∀ c, c < 10 → (Z2 i c).natAbs ≤ a := fun c hc => by
        rw [w2 i c (Nat.le_refl _) hi hc]
        by_cases q : c < j
        · rw [tv_0 (w3 i c (Nat.le_refl _) hi q)]; exact Nat.zero_le _
        · exact Nat.le_trans (p2 c (by omega) hc) (hua c)
      have hz0 : ∀ c, c < j → Z2 i c = 0 := fun c hc => by
        rw [w2 i c (Nat.le_refl _) hi (by omega)]; exact tv_0 (w3 i c (Nat.le_refl _) hi hc)
      have hfl : ∀ q, fr ≤ q → q < i → (flr (R2 q j) (R2 i j)).toInt = Z2 q j / Z2 i j := fun q h1 h2 => by
        have hb := z7 (q - fr) j (show q - fr < i - fr by omega) hj
        rw [show fr + (q - fr) = q by omega, ← (w4 q h2).2] at hb
        have hb : (Z2 q j).natAbs + 1 ≤ qf i := hb
        have hr : rg (Z2 q j) := by unfold rg; omega
        have hat := (w1.1 q (by omega)).at hr
        rw [flr_tv (rg.nm hat hr) (by unfold tvL at p1; exact p1), hat, hd]; rfl
      have w5 := w1.ab (fr := fr) (j := j) hi
      have e3 : ∀ q c, fr ≤ q → q < i → (fun q c => Z2 q c - (if fr ≤ q ∧ q < i then (flr (R2 q j) (R2 i j)).toInt else 0) * Z2 i c) q c = Z q c - Z q j / Z2 i j * Z2 i c := fun q c h1 h2 => by
        show Z2 q c - (if fr ≤ q ∧ q < i then (flr (R2 q j) (R2 i j)).toInt else 0) * Z2 i c = _
        rw [if_pos ⟨h1, h2⟩, hfl q h1 h2, (w4 q h2).2]
      have e4 : ∀ q, ¬ (fr ≤ q ∧ q < i) → (fun q c => Z2 q c - (if fr ≤ q ∧ q < i then (flr (R2 q j) (R2 i j)).toInt else 0) * Z2 i c) q = Z2 q := fun q h1 => by
        funext c
        show Z2 q c - (if fr ≤ q ∧ q < i then (flr (R2 q j) (R2 i j)).toInt else 0) * Z2 i c = Z2 q c
        rw [if_neg h1]; omega
      have e5 : ∀ k c, i ≤ k → tvL (abQ R2 fr i j i) k c = tvL R2 k c := fun k c hk => by unfold tvL; rw [ab_k hk]
      generalize (fun q c => Z2 q c - (if fr ≤ q ∧ q < i then (flr (R2 q j) (R2 i j)).toInt else 0) * Z2 i c) = Z3 at w5 e3 e4
      have pe : ∀ x, x < i - fr → upn pv (i - fr) (j - low) x = pv x := fun x hx => upn_ne _ _ (by omega)
      have pi : upn pv (i - fr) (j - low) (i - fr) = j - low := upn_at _ _ _
      have ej : low + (j - low) = j := by omega
      have hdp : 0 < Z2 i j := by rw [hd]; exact p1
      have zr : ∀ x c, x < i - fr → c < j → Z3 (fr + x) c = Z (fr + x) c := fun x c h1 h2 => by
        rw [e3 _ c (by omega) (by omega), hz0 c h2, Int.mul_zero]; omega
      have ri : Z3 i = Z2 i := e4 i (by omega)
      refine ⟨_, rfl, by show fr ≤ i + 1; omega, by show i + 1 ≤ n; omega, by omega, by show i + 1 - fr ≤ j + 1 - low; omega, ?_, Z3, w5, fun k c h1 h2 h3 => ?_, fun k c h1 h2 h3 => ?_, fun q hq => ?_, fun x hx => ?_, fun x y hxy hy => ?_, fun x c hx hc => ?_⟩
      · intro cs σ c1 c2 c3
        have := p4 cs σ c1 c2 c3
        show (mn cs (fun x => tvL (abQ R2 fr i j i) (σ x))).natAbs ≤ bf (i + 1) cs.length * wtc cs
        rw [mn_c cs (fun x => tvL (abQ R2 fr i j i) (σ x)) (fun x => tvL R2 (σ x)) (fun x hx c _ => e5 _ c (by have := c3 x hx; have this : i + 1 ≤ σ x := this.1; omega))]
        exact this
      · have h1 : i + 1 ≤ k := h1
        show Z3 k c = tvL (abQ R2 fr i j i) k c
        rw [e4 k (by omega), e5 k c (by omega)]
        exact w2 k c (by omega) h2 h3
      · have h1 : i + 1 ≤ k := h1
        show abQ R2 fr i j i k c = 0
        rw [ab_k (by omega)]
        by_cases q : c = j
        · rw [q]; exact p3 k (by omega) h2
        · exact w3 k c (by omega) h2 (by omega)
      · rw [e4 q (by omega), (w4 q (by omega)).2]; exact z4 q hq
      · have hx : x < i + 1 - fr := hx
        show low + upn pv (i - fr) (j - low) x < j + 1 ∧ 0 < Z3 (fr + x) (low + upn pv (i - fr) (j - low) x) ∧ rg (Z3 (fr + x) (low + upn pv (i - fr) (j - low) x)) ∧ ∀ c, c < low + upn pv (i - fr) (j - low) x → Z3 (fr + x) c = 0
        by_cases q : x = i - fr
        · rw [q, pi, ej, show fr + (i - fr) = i by omega, ri]
          exact ⟨by omega, hdp, by have := hrow j hj; unfold rg; omega, hz0⟩
        · rw [pe x (by omega)]
          obtain ⟨u1, u2, u3, u4⟩ := z5 x (show x < i - fr by omega)
          have u1 : low + pv x < j := u1
          rw [zr x _ (by omega) u1]
          exact ⟨by omega, u2, u3, fun c hc => by rw [zr x c (by omega) (by omega)]; exact u4 c hc⟩
      · have hy : y < i + 1 - fr := hy
        show upn pv (i - fr) (j - low) x < upn pv (i - fr) (j - low) y ∧ 0 ≤ Z3 (fr + x) (low + upn pv (i - fr) (j - low) y) ∧ Z3 (fr + x) (low + upn pv (i - fr) (j - low) y) < Z3 (fr + y) (low + upn pv (i - fr) (j - low) y)
        by_cases q : y = i - fr
        · rw [q, pi, pe x (by omega), ej, show fr + (i - fr) = i by omega, ri, e3 (fr + x) j (by omega) (by omega)]
          have u1 : low + pv x < j := (z5 x (show x < i - fr by omega)).1
          have m1 := Int.emod_nonneg (Z (fr + x) j) (show Z2 i j ≠ 0 by omega)
          have m2 := Int.emod_lt_of_pos (Z (fr + x) j) hdp
          have m3 := Int.mul_ediv_add_emod (Z (fr + x) j) (Z2 i j)
          rw [Int.mul_comm] at m3
          refine ⟨by omega, by omega, by omega⟩
        · rw [pe x (by omega), pe y (by omega)]
          have u1 : low + pv y < j := (z5 y (show y < i - fr by omega)).1
          rw [zr x _ (by omega) u1, zr y _ (by omega) u1]
          exact z6 x y hxy (show y < i - fr by omega)
      · have hx : x < i + 1 - fr := hx
        show (Z3 (fr + x) c).natAbs + 1 ≤ qf (i + 1)
        refine Nat.le_trans ?_ q5
        have q6 : 1 * (a + 1) ≤ qf i * (a + 1) := Nat.mul_le_mul_right _ q1
        by_cases q : x = i - fr
        · rw [q, show fr + (i - fr) = i by omega, ri]
          have := hrow c hc
          show (Z2 i c).natAbs + 1 ≤ qf i * (a + 1)
          omega
        · have b1 := z7 x c (show x < i - fr by omega) hc
          have b2 := z7 x j (show x < i - fr by omega) hj
          have b1 : (Z (fr + x) c).natAbs + 1 ≤ qf i := b1
          have b2 : (Z (fr + x) j).natAbs + 1 ≤ qf i := b2
          rw [e3 (fr + x) c (by omega) (by omega)]
          have b3 := mul_ab (Nat.le_trans (ediv_na (x := Z (fr + x) j) hdp) (show (Z (fr + x) j).natAbs ≤ qf i - 1 by omega)) (hrow c hc)
          have b4 := sub_ab (show (Z (fr + x) c).natAbs ≤ qf i - 1 by omega) b3
          have b5 : (qf i - 1) * a + a = qf i * a := by
            have : qf i = qf i - 1 + 1 := by omega
            rw [this, Nat.add_mul, Nat.add_sub_cancel]; omega
          have b6 : qf i * (a + 1) = qf i * a + qf i := by rw [Nat.mul_add, Nat.mul_one]
          show (Z (fr + x) c - Z (fr + x) j / Z2 i j * Z2 i c).natAbs + 1 ≤ qf i * (a + 1)
          omega
  · rw [if_neg hi]
    refine ⟨_, rfl, f1, f2, by omega, by show i - fr ≤ j + 1 - low; have f4 : i - fr ≤ j - low := f4; omega, hMB.mono, Z, z1, z2, fun k c h1 h2 h3 => ?_, z4, fun x hx => ⟨by have := (z5 x hx).1; show low + pv x < j + 1; have this : low + pv x < j := this; omega, (z5 x hx).2⟩, z6, z7⟩
    have h1 : i ≤ k := h1
    omega
