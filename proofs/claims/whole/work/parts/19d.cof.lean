/-! ===== a step of a pass: all rows but one ===== -/
def gF : Nat → Nat
  | 0 => 1
  | 1 => 1
  | t + 2 => gF (t + 1) + gF t
theorem gF_s : ∀ t, gF t ≤ gF (t + 1) ∧ gF (t + 2) = gF (t + 1) + gF t
  | 0 => ⟨Nat.le_refl _, rfl⟩
  | t + 1 => ⟨by have : gF (t + 1 + 1) = gF (t + 1) + gF t := rfl; omega, rfl⟩
def xWs (m : Nat) (a w : Nat → Int) : Int := sgZ m (fun x => if 0 < a x * w x then ((w x).natAbs : Int) else 0)
def yWs (m : Nat) (a w : Nat → Int) : Int := sgZ m (fun x => if a x * w x < 0 then ((w x).natAbs : Int) else 0)
def pWs (m : Nat) (a w : Nat → Int) : Int := sgZ m (fun x => if 0 < a x * w x then a x * w x else 0)
def nWs (m : Nat) (a w : Nat → Int) : Int := sgZ m (fun x => if a x * w x < 0 then - (a x * w x) else 0)
def KW (S C T0 m : Nat) (a w : Nat → Int) : Prop := ∃ t, (∀ x, x < m → (w x).natAbs ≤ C) ∧ xWs m a w ≤ ((gF t * S : Nat) : Int) ∧ yWs m a w ≤ ((gF t * S : Nat) : Int) ∧ xWs m a w + yWs m a w ≤ ((gF (t + 1) * S : Nat) : Int) ∧ 2 ^ t * pWs m a w ≤ (T0 : Int) ∧ 2 ^ t * nWs m a w ≤ (T0 : Int) ∧ sgZ m (fun x => a x * w x) = 0
theorem neg_mul_r (a w : Int) : a * - w = - (a * w) := by grind
theorem xWs_ng (m : Nat) (a w : Nat → Int) : xWs m a (fun x => - w x) = yWs m a w := by
  unfold xWs yWs
  refine sg_c _ (fun x _ => ?_)
  show (if 0 < a x * - w x then ((- w x).natAbs : Int) else 0) = _
  rw [neg_mul_r, Int.natAbs_neg]
  split <;> split <;> omega
theorem yWs_ng (m : Nat) (a w : Nat → Int) : yWs m a (fun x => - w x) = xWs m a w := by
  unfold xWs yWs
  refine sg_c _ (fun x _ => ?_)
  show (if a x * - w x < 0 then ((- w x).natAbs : Int) else 0) = _
  rw [neg_mul_r, Int.natAbs_neg]
  split <;> split <;> omega
theorem pWs_ng (m : Nat) (a w : Nat → Int) : pWs m a (fun x => - w x) = nWs m a w := by
  unfold pWs nWs
  refine sg_c _ (fun x _ => ?_)
  show (if 0 < a x * - w x then a x * - w x else 0) = _
  rw [neg_mul_r]
  split <;> split <;> omega
theorem nWs_ng (m : Nat) (a w : Nat → Int) : nWs m a (fun x => - w x) = pWs m a w := by
  unfold pWs nWs
  refine sg_c _ (fun x _ => ?_)
  show (if a x * - w x < 0 then - (a x * - w x) else 0) = _
  rw [neg_mul_r]
  split <;> split <;> omega
theorem KW.ng {S C T0 m : Nat} {a w : Nat → Int} (h : KW S C T0 m a w) : KW S C T0 m a (fun x => - w x) := by
  obtain ⟨t, h1, h2, h3, h4, h5, h6, h7⟩ := h
  refine ⟨t, fun x hx => by rw [Int.natAbs_neg]; exact h1 x hx, by rw [xWs_ng]; exact h3, by rw [yWs_ng]; exact h2, by rw [xWs_ng, yWs_ng]; omega, by rw [pWs_ng]; exact h6, by rw [nWs_ng]; exact h5, ?_⟩
  rw [sg_c (g := fun x => - (a x * w x)) _ (fun x _ => neg_mul_r _ _), sg_ng, h7]; rfl
def trN (b x : Nat) : Nat := if x = 0 then b else if x = b then 0 else x
theorem trN_lt {b x m : Nat} (hb : b < m) (hx : x < m) : trN b x < m := by unfold trN; split; exact hb; split <;> omega
theorem sg_tr (f : Nat → Int) {b n : Nat} (hb : b < n) : sgZ n (fun x => f (trN b x)) = sgZ n f := by
  by_cases e : b = 0
  · subst e
    refine sg_c _ (fun x _ => ?_)
    unfold trN
    by_cases q : x = 0
    · rw [if_pos q, q]
    · rw [if_neg q, if_neg q]
  · have h1 := sg_set (f := upn f 0 (f b)) (g := f) (k := 0) n (by omega) (fun c _ hc => upn_ne _ _ hc)
    have h2 := sg_set (f := fun x => f (trN b x)) (g := upn f 0 (f b)) (k := b) n hb (fun c _ hc => by
      show f (trN b c) = upn f 0 (f b) c
      unfold trN
      by_cases q : c = 0
      · rw [if_pos q, q, upn_at]
      · rw [if_neg q, if_neg hc, upn_ne _ _ q])
    rw [upn_at] at h1
    rw [upn_ne _ _ e, show trN b b = 0 by unfold trN; rw [if_neg e, if_pos rfl]] at h2
    omega
theorem KW.sw {S C T0 m b : Nat} {a w : Nat → Int} (hb : b < m) (h : KW S C T0 m a w) : KW S C T0 m (fun x => a (trN b x)) (fun x => w (trN b x)) := by
  obtain ⟨t, h1, h2, h3, h4, h5, h6, h7⟩ := h
  have e1 : xWs m (fun x => a (trN b x)) (fun x => w (trN b x)) = xWs m a w := sg_tr (fun x => if 0 < a x * w x then ((w x).natAbs : Int) else 0) hb
  have e2 : yWs m (fun x => a (trN b x)) (fun x => w (trN b x)) = yWs m a w := sg_tr (fun x => if a x * w x < 0 then ((w x).natAbs : Int) else 0) hb
  have e3 : pWs m (fun x => a (trN b x)) (fun x => w (trN b x)) = pWs m a w := sg_tr (fun x => if 0 < a x * w x then a x * w x else 0) hb
  have e4 : nWs m (fun x => a (trN b x)) (fun x => w (trN b x)) = nWs m a w := sg_tr (fun x => if a x * w x < 0 then - (a x * w x) else 0) hb
  exact ⟨t, fun x hx => h1 _ (trN_lt hb hx), by rw [e1]; exact h2, by rw [e2]; exact h3, by rw [e1, e2]; exact h4, by rw [e3]; exact h5, by rw [e4]; exact h6, by rw [← h7]; exact sg_tr (fun x => a x * w x) hb⟩
/-- what is known of every bound that a step may come to -/
def CK (S C T0 : Nat) : Prop := ∀ t P w : Nat, 1 ≤ P → w * P ≤ (P - 1) * (gF t * S) → w * P * 2 ^ (t + 1) ≤ T0 → w ≤ C
/-- the numbers of one row, turned by the least -/
theorem tm_pw {a a' p w : Int} (hp : p ≠ 0) (ea : a' = a.tmod p) (hl : a ≠ 0 → p.natAbs ≤ a.natAbs) : ((if 0 < a' * w then a' * w else 0) ≤ ((p.natAbs - 1 : Nat) : Int) * (if 0 < a * w then (w.natAbs : Int) else 0)) ∧ (2 * (if 0 < a' * w then a' * w else 0) ≤ (if 0 < a * w then a * w else 0)) ∧ ((if 0 < a' * w then (w.natAbs : Int) else 0) ≤ (if 0 < a * w then (w.natAbs : Int) else 0)) := by
  have hs := swd_mul (swd_tmod a p) w
  rw [← ea] at hs
  have hlt : a'.natAbs < p.natAbs := by rw [ea]; exact tmod_lt hp
  have h2 : 2 * a'.natAbs ≤ a.natAbs := by
    rw [ea, Int.natAbs_tmod]
    by_cases e : a = 0
    · rw [e]; simp
    · have h0 : 0 < p.natAbs := by omega
      have g1 := Nat.mod_lt a.natAbs h0
      have g2 := Nat.div_add_mod a.natAbs p.natAbs
      have g3 : 1 ≤ a.natAbs / p.natAbs := (Nat.le_div_iff_mul_le h0).mpr (by have := hl e; omega)
      have g4 : p.natAbs * 1 ≤ p.natAbs * (a.natAbs / p.natAbs) := Nat.mul_le_mul_left _ g3
      omega
  by_cases q : 0 < a' * w
  · have q2 : 0 < a * w := by unfold swdI at hs; omega
    rw [if_pos q, if_pos q, if_pos q2, if_pos q2]
    have m1 : (a' * w).natAbs = a'.natAbs * w.natAbs := Int.natAbs_mul _ _
    have m2 : (a * w).natAbs = a.natAbs * w.natAbs := Int.natAbs_mul _ _
    have m3 : a'.natAbs * w.natAbs ≤ (p.natAbs - 1) * w.natAbs := Nat.mul_le_mul_right _ (by omega)
    have m4 : (2 * a'.natAbs) * w.natAbs ≤ a.natAbs * w.natAbs := Nat.mul_le_mul_right _ h2
    have m5 : (2 * a'.natAbs) * w.natAbs = 2 * (a'.natAbs * w.natAbs) := Nat.mul_assoc _ _ _
    have m6 : (((p.natAbs - 1) * w.natAbs : Nat) : Int) = ((p.natAbs - 1 : Nat) : Int) * (w.natAbs : Int) := Int.natCast_mul _ _
    refine ⟨by omega, by omega, Int.le_refl _⟩
  · rw [if_neg q, if_neg q]
    refine ⟨?_, ?_, ?_⟩
    · split
      · exact Int.mul_nonneg (by omega) (by omega)
      · omega
    · split <;> omega
    · split <;> omega
theorem sg_0 {f : Nat → Int} {n : Nat} (h : 0 < n) : sgZ n f = sgZ n (upn f 0 0) + f 0 := by
  have := sg_set (f := upn f 0 0) (g := f) (k := 0) n h (fun c _ hc => upn_ne _ _ hc)
  rw [upn_at] at this
  omega
theorem sg_le0 {f g : Nat → Int} {n : Nat} (hg : 0 ≤ g 0) (h : ∀ x, x < n → x ≠ 0 → f x ≤ g x) : sgZ n (upn f 0 0) ≤ sgZ n g := sg_le n (fun x hx => by
  by_cases e : x = 0
  · rw [e, upn_at]; exact hg
  · rw [upn_ne _ _ e]; exact h x hx e)
theorem KW.s1 {S C T0 m : Nat} {a a' w w' : Nat → Int} (hm : 0 < m) (hc : CK S C T0) (h : KW S C T0 m a w) (hp : a 0 ≠ 0) (h0 : a' 0 = a 0) (ha : ∀ x, x < m → x ≠ 0 → a' x = (a x).tmod (a 0)) (hl : ∀ x, x < m → x ≠ 0 → a x ≠ 0 → (a 0).natAbs ≤ (a x).natAbs) (hw : ∀ x, x < m → x ≠ 0 → w' x = w x) (hb : sgZ m (fun x => a' x * w' x) = 0) (hs : 0 ≤ a' 0 * w' 0) : KW S C T0 m a' w' := by
  obtain ⟨t, h1, h2, h3, h4, h5, h6, h7⟩ := h
  have tp := fun x (hx : x < m) (h : x ≠ 0) => tm_pw (w := w x) hp (ha x hx h) (hl x hx h)
  have tn := fun x (hx : x < m) (h : x ≠ 0) => tm_pw (w := - w x) hp (ha x hx h) (hl x hx h)
  simp only [neg_mul_r, Int.natAbs_neg, Int.neg_pos] at tn
  -- sums over the other rows
  have X1 : sgZ m (upn (fun x => if 0 < a' x * w' x then a' x * w' x else 0) 0 0) ≤ ((a 0).natAbs - 1 : Nat) * xWs m a w := by
    unfold xWs
    rw [← sg_mul]
    refine sg_le0 ?_ (fun x hx e => by show (if 0 < a' x * w' x then a' x * w' x else 0) ≤ _; rw [hw x hx e]; exact (tp x hx e).1)
    split
    · exact Int.mul_nonneg (by omega) (by omega)
    · omega
  have X2 : 2 * sgZ m (upn (fun x => if 0 < a' x * w' x then a' x * w' x else 0) 0 0) ≤ pWs m a w := by
    unfold pWs
    rw [← sg_mul, sg_c (g := upn (fun x => 2 * if 0 < a' x * w' x then a' x * w' x else 0) 0 0) _ (fun x _ => by
      by_cases e : x = 0
      · rw [e, upn_at, upn_at]; rfl
      · rw [upn_ne _ _ e, upn_ne _ _ e])]
    refine sg_le0 (by split <;> omega) (fun x hx e => by show 2 * (if 0 < a' x * w' x then a' x * w' x else 0) ≤ _; rw [hw x hx e]; exact (tp x hx e).2.1)
  have X3 : sgZ m (upn (fun x => if 0 < a' x * w' x then ((w' x).natAbs : Int) else 0) 0 0) ≤ xWs m a w := sg_le0 (by split <;> omega) (fun x hx e => by show (if 0 < a' x * w' x then ((w' x).natAbs : Int) else 0) ≤ _; rw [hw x hx e]; exact (tp x hx e).2.2)
  have Y1 : sgZ m (upn (fun x => if a' x * w' x < 0 then - (a' x * w' x) else 0) 0 0) ≤ ((a 0).natAbs - 1 : Nat) * yWs m a w := by
    unfold yWs
    rw [← sg_mul]
    refine sg_le0 ?_ (fun x hx e => by show (if a' x * w' x < 0 then - (a' x * w' x) else 0) ≤ _; rw [hw x hx e]; have := (tn x hx e).1; exact this)
    split
    · exact Int.mul_nonneg (by omega) (by omega)
    · omega
  have Y2 : 2 * sgZ m (upn (fun x => if a' x * w' x < 0 then - (a' x * w' x) else 0) 0 0) ≤ nWs m a w := by
    unfold nWs
    rw [← sg_mul, sg_c (g := upn (fun x => 2 * if a' x * w' x < 0 then - (a' x * w' x) else 0) 0 0) _ (fun x _ => by
      by_cases e : x = 0
      · rw [e, upn_at, upn_at]; rfl
      · rw [upn_ne _ _ e, upn_ne _ _ e])]
    refine sg_le0 (by split <;> omega) (fun x hx e => by show 2 * (if a' x * w' x < 0 then - (a' x * w' x) else 0) ≤ _; rw [hw x hx e]; have := (tn x hx e).2.1; exact this)
  have Y3 : sgZ m (upn (fun x => if a' x * w' x < 0 then ((w' x).natAbs : Int) else 0) 0 0) ≤ yWs m a w := sg_le0 (by split <;> omega) (fun x hx e => by show (if a' x * w' x < 0 then ((w' x).natAbs : Int) else 0) ≤ _; rw [hw x hx e]; have := (tn x hx e).2.2; exact this)
  -- what comes out at 0
  have dif : sgZ m (fun x => a' x * w' x) = pWs m a' w' - nWs m a' w' := by
    unfold pWs nWs
    rw [← sg_sub]
    exact sg_c _ (fun x _ => by split <;> split <;> omega)
  have ep : pWs m a' w' = sgZ m (upn (fun x => if 0 < a' x * w' x then a' x * w' x else 0) 0 0) + a' 0 * w' 0 := by
    unfold pWs
    rw [sg_0 hm]
    show _ + (if 0 < a' 0 * w' 0 then a' 0 * w' 0 else 0) = _
    split <;> omega
  have en : nWs m a' w' = sgZ m (upn (fun x => if a' x * w' x < 0 then - (a' x * w' x) else 0) 0 0) := by
    unfold nWs
    rw [sg_0 hm]
    show _ + (if a' 0 * w' 0 < 0 then - (a' 0 * w' 0) else 0) = _
    rw [if_neg (by omega)]; omega
  have ex : xWs m a' w' ≤ xWs m a w + ((w' 0).natAbs : Int) := by
    have : xWs m a' w' = sgZ m (upn (fun x => if 0 < a' x * w' x then ((w' x).natAbs : Int) else 0) 0 0) + (if 0 < a' 0 * w' 0 then ((w' 0).natAbs : Int) else 0) := sg_0 hm
    rw [this]
    split <;> omega
  have ey : yWs m a' w' ≤ yWs m a w := by
    have : yWs m a' w' = sgZ m (upn (fun x => if a' x * w' x < 0 then ((w' x).natAbs : Int) else 0) 0 0) + (if a' 0 * w' 0 < 0 then ((w' 0).natAbs : Int) else 0) := sg_0 hm
    rw [this, if_neg (by omega)]; omega
  have hX0 : 0 ≤ sgZ m (upn (fun x => if 0 < a' x * w' x then a' x * w' x else 0) 0 0) := by
    have := sg_le (f := fun _ => 0) (g := upn (fun x => if 0 < a' x * w' x then a' x * w' x else 0) 0 0) m (fun x _ => by
      by_cases e : x = 0
      · rw [e, upn_at]; exact Int.le_refl _
      · rw [upn_ne _ _ e]; show (0 : Int) ≤ if 0 < a' x * w' x then a' x * w' x else 0; split <;> omega)
    rw [sg_ct] at this; omega
  generalize hXe : sgZ m (upn (fun x => if 0 < a' x * w' x then a' x * w' x else 0) 0 0) = X at *
  generalize hYe : sgZ m (upn (fun x => if a' x * w' x < 0 then - (a' x * w' x) else 0) 0 0) = Y at *
  have eu : a' 0 * w' 0 = Y - X := by omega
  have eYn : (a' 0 * w' 0).natAbs = (w' 0).natAbs * (a 0).natAbs := by rw [Int.natAbs_mul, h0, Nat.mul_comm]
  have hP : 1 ≤ (a 0).natAbs := by omega
  have k1 : (((w' 0).natAbs * (a 0).natAbs : Nat) : Int) ≤ Y := by rw [← eYn]; omega
  have k2 : ((((a 0).natAbs - 1) * (gF t * S) : Nat) : Int) = (((a 0).natAbs - 1 : Nat) : Int) * ((gF t * S : Nat) : Int) := Int.natCast_mul _ _
  have k3 : (((a 0).natAbs - 1 : Nat) : Int) * yWs m a w ≤ (((a 0).natAbs - 1 : Nat) : Int) * ((gF t * S : Nat) : Int) := Int.mul_le_mul_of_nonneg_left h3 (by omega)
  have pw : (0 : Int) ≤ 2 ^ t := Int.pow_nonneg (by omega)
  have k4 : 2 ^ t * (2 * Y) ≤ 2 ^ t * nWs m a w := Int.mul_le_mul_of_nonneg_left Y2 pw
  have k5 : (2 : Int) ^ (t + 1) * Y = 2 ^ t * (2 * Y) := by rw [Int.pow_succ]; grind
  have hwC : (w' 0).natAbs ≤ C := by
    refine hc t (a 0).natAbs (w' 0).natAbs hP (by omega) ?_
    have k6 : (2 : Int) ^ (t + 1) * (((w' 0).natAbs * (a 0).natAbs : Nat) : Int) ≤ 2 ^ (t + 1) * Y := Int.mul_le_mul_of_nonneg_left k1 (Int.pow_nonneg (by omega))
    have k7 : ((((w' 0).natAbs * (a 0).natAbs) * 2 ^ (t + 1) : Nat) : Int) = (2 : Int) ^ (t + 1) * (((w' 0).natAbs * (a 0).natAbs : Nat) : Int) := by
      rw [Int.natCast_mul, Int.mul_comm, Int.natCast_pow]; rfl
    omega
  have hwy : ((w' 0).natAbs : Int) ≤ yWs m a w := by
    have hy0 : 0 ≤ yWs m a w := by
      have := sg_le (f := fun _ => 0) (g := fun x => if a x * w x < 0 then ((w x).natAbs : Int) else 0) m (fun x _ => by show (0 : Int) ≤ if a x * w x < 0 then ((w x).natAbs : Int) else 0; split <;> omega)
      rw [sg_ct] at this
      unfold yWs; omega
    by_cases q : ((w' 0).natAbs : Int) ≤ yWs m a w
    · exact q
    · have z1 : ((a 0).natAbs : Int) * (yWs m a w + 1) ≤ ((a 0).natAbs : Int) * ((w' 0).natAbs : Int) := Int.mul_le_mul_of_nonneg_left (by omega) (by omega)
      have z2 : (((a 0).natAbs - 1 : Nat) : Int) * yWs m a w = ((a 0).natAbs : Int) * yWs m a w - yWs m a w := by
        have : (((a 0).natAbs - 1 : Nat) : Int) = ((a 0).natAbs : Int) - 1 := by omega
        rw [this, Int.sub_mul, Int.one_mul]
      rw [Int.natCast_mul, Int.mul_comm] at k1
      rw [Int.mul_add] at z1
      omega
  obtain ⟨g1, g2⟩ := gF_s t
  have g3 : gF t * S ≤ gF (t + 1) * S := Nat.mul_le_mul_right _ g1
  have g4 : gF (t + 2) * S = gF (t + 1) * S + gF t * S := by rw [g2, Nat.add_mul]
  refine ⟨t + 1, fun x hx => ?_, by omega, by omega, by show _ ≤ ((gF (t + 2) * S : Nat) : Int); omega, ?_, ?_, hb⟩
  · by_cases e : x = 0
    · rw [e]; exact hwC
    · rw [hw x hx e]; exact h1 x hx
  · have : pWs m a' w' = Y := by omega
    rw [this, k5]; omega
  · rw [en, k5]; omega
theorem KW.st {S C T0 m : Nat} {a a' w w' : Nat → Int} (hm : 0 < m) (hc : CK S C T0) (h : KW S C T0 m a w) (hp : a 0 ≠ 0) (h0 : a' 0 = a 0) (ha : ∀ x, x < m → x ≠ 0 → a' x = (a x).tmod (a 0)) (hl : ∀ x, x < m → x ≠ 0 → a x ≠ 0 → (a 0).natAbs ≤ (a x).natAbs) (hw : ∀ x, x < m → x ≠ 0 → w' x = w x) (hb : sgZ m (fun x => a' x * w' x) = 0) : KW S C T0 m a' w' := by
  by_cases e : 0 ≤ a' 0 * w' 0
  · exact h.s1 hm hc hp h0 ha hl hw hb e
  · have := h.ng.s1 (w' := fun x => - w' x) hm hc hp h0 ha hl (fun x hx q => by rw [hw x hx q]) (by rw [sg_c (g := fun x => - (a' x * w' x)) _ (fun x _ => neg_mul_r _ _), sg_ng, hb]; rfl) (by show 0 ≤ a' 0 * - w' 0; rw [neg_mul_r]; omega)
    have k := this.ng
    simp only [Int.neg_neg] at k
    exact k
theorem KW.mk {S C T0 A m : Nat} {a w : Nat → Int} (hw : ∀ x, x < m → (w x).natAbs ≤ C) (hA : ∀ x, x < m → (a x).natAbs ≤ A) (hS : sgZ m (fun x => ((w x).natAbs : Int)) ≤ (S : Int)) (hT : A * S ≤ 2 * T0) (hb : sgZ m (fun x => a x * w x) = 0) : KW S C T0 m a w := by
  have hxy : xWs m a w + yWs m a w ≤ (S : Int) := by
    unfold xWs yWs
    rw [← sg_add]
    exact Int.le_trans (sg_le _ (fun x _ => by split <;> split <;> omega)) hS
  have x0 : 0 ≤ xWs m a w := by
    have := sg_le (f := fun _ => 0) (g := fun x => if 0 < a x * w x then ((w x).natAbs : Int) else 0) m (fun x _ => by show (0 : Int) ≤ if 0 < a x * w x then ((w x).natAbs : Int) else 0; split <;> omega)
    rw [sg_ct] at this
    unfold xWs; omega
  have y0 : 0 ≤ yWs m a w := by
    have := sg_le (f := fun _ => 0) (g := fun x => if a x * w x < 0 then ((w x).natAbs : Int) else 0) m (fun x _ => by show (0 : Int) ≤ if a x * w x < 0 then ((w x).natAbs : Int) else 0; split <;> omega)
    rw [sg_ct] at this
    unfold yWs; omega
  have dif : sgZ m (fun x => a x * w x) = pWs m a w - nWs m a w := by
    unfold pWs nWs
    rw [← sg_sub]
    exact sg_c _ (fun x _ => by split <;> split <;> omega)
  have sum : pWs m a w + nWs m a w ≤ (A : Int) * S := by
    unfold pWs nWs
    rw [← sg_add]
    refine Int.le_trans (sg_le (g := fun x => (A : Int) * ((w x).natAbs : Int)) _ (fun x hx => ?_)) (by rw [sg_mul]; exact Int.mul_le_mul_of_nonneg_left hS (by omega))
    have := mul_ab (hA x hx) (Nat.le_refl (w x).natAbs)
    rw [← Int.natCast_mul]
    split <;> split <;> omega
  have e : ((A * S : Nat) : Int) = (A : Int) * S := Int.natCast_mul _ _
  have o : gF 0 * S = S := Nat.one_mul _
  have o1 : gF (0 + 1) * S = S := Nat.one_mul _
  have p0 : (2 : Int) ^ 0 = 1 := rfl
  exact ⟨0, hw, by omega, by omega, by omega, by rw [p0]; omega, by rw [p0]; omega, hb⟩
