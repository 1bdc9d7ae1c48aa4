/-! ===== LEADING TERMS: products, what SUBDUCTION leaves ===== -/
theorem gr_adj : ∀ o, o < 3 → ∀ k, k < 83 → grB o (eX (rk o (k + 1))) (eY (rk o (k + 1))) (eZ (rk o (k + 1))) (eX (rk o k)) (eY (rk o k)) (eZ (rk o k)) = true := by decide +kernel
theorem grC_tr {o x y z a b c p q r : Nat} (h1 : grC o x y z a b c) (h2 : grC o a b c p q r) : grC o x y z p q r := by
  unfold grC at *; omega
theorem grC_ir {o x y z : Nat} : ¬ grC o x y z x y z := by unfold grC; omega
theorem grC_to {o x y z a b c : Nat} (ho : o < 3) (h : ¬ grC o x y z a b c) : grC o a b c x y z ∨ (x = a ∧ y = b ∧ z = c) := by
  unfold grC at *; omega
theorem grC_as {o x y z a b c : Nat} (h1 : grC o x y z a b c) : ¬ grC o a b c x y z := fun h2 => grC_ir (grC_tr h1 h2)
theorem grC_add {o x y z a b c p q r u v w : Nat} (h1 : grC o x y z a b c) (h2 : grC o p q r u v w ∨ (p = u ∧ q = v ∧ r = w)) : grC o (x + p) (y + q) (z + r) (a + u) (b + v) (c + w) := by
  rcases h2 with h2 | ⟨rfl, rfl, rfl⟩
  · unfold grC at *; omega
  · unfold grC at *; omega
theorem grC_sum {o x y z a b c p q r u v w : Nat} (ho : o < 3) (n1 : ¬ grC o x y z p q r) (n2 : ¬ grC o a b c u v w) : ¬ grC o (x + a) (y + b) (z + c) (p + u) (q + v) (r + w) ∧ (x + a = p + u → y + b = q + v → z + c = r + w → x = p ∧ y = q ∧ z = r) := by
  rcases grC_to ho n1 with h1 | h1
  · have h := grC_add h1 ((grC_to ho n2).imp id (fun e => ⟨e.1.symm, e.2.1.symm, e.2.2.symm⟩))
    exact ⟨grC_as h, fun e1 e2 e3 => absurd (by rw [e1, e2, e3] at h; exact h) grC_ir⟩
  · refine ⟨fun h => ?_, fun _ _ _ => h1⟩
    obtain ⟨rfl, rfl, rfl⟩ := h1
    rcases grC_to ho n2 with h2 | ⟨rfl, rfl, rfl⟩
    · have h' := grC_add h2 (p := x) (q := y) (r := z) (u := x) (v := y) (w := z) (Or.inr ⟨rfl, rfl, rfl⟩)
      rw [Nat.add_comm u x, Nat.add_comm v y, Nat.add_comm w z, Nat.add_comm a x, Nat.add_comm b y, Nat.add_comm c z] at h'
      exact grC_as h' h
    · exact grC_ir h
theorem gr_lt {o : Nat} (ho : o < 3) : ∀ j k, k < 84 → j < k → gr o (rk o k) (rk o j) := by
  intro j k
  induction k with
  | zero => intro _ h; omega
  | succ k ih =>
    intro hk hj
    have ha : gr o (rk o (k + 1)) (rk o k) := grB_iff.mp (gr_adj o ho k (by omega))
    by_cases e : j = k
    · rw [e]; exact ha
    · exact grC_tr ha (ih (by omega) (by omega))
theorem gr_rk {o j k : Nat} (ho : o < 3) (hj : j < 84) (hk : k < 84) : gr o (rk o k) (rk o j) ↔ j < k := by
  constructor
  · intro h
    rcases Nat.lt_trichotomy j k with c | c | c
    · exact c
    · rw [c] at h; exact absurd h grC_ir
    · exact absurd h (grC_as (gr_lt ho k j hj c))
  · exact gr_lt ho j k hk
/-- a POLYNOMIAL whose LEADING TERM is this one, with coefficient 1 -/
def mon (o : Nat) (f : Nat → Int64) (x y z : Nat) : Prop := f (pl x y z) = 1 ∧ ∀ u, u < 84 → grC o (eX u) (eY u) (eZ u) x y z → f u = 0
theorem rsum_one {w : Nat → Int64} {i : Nat} : ∀ {n : Nat}, i < n → (∀ j, j < n → j ≠ i → w j = 0) → rsum w n = w i
  | 0, h, _ => absurd h (by omega)
  | n + 1, h, hz => by
    rw [rsum]
    by_cases e : i = n
    · rw [e, rsum_zero (fun j hj => hz j (by omega) (by omega)), Int64.zero_add]
    · rw [hz n (by omega) (fun c => e c.symm), Int64.add_zero, rsum_one (by omega) (fun j hj hn => hz j (by omega) hn)]
theorem mon_mul {o x y z a b c : Nat} {f g : Nat → Int64} (ho : o < 3) (hf : mon o f x y z) (hg : mon o g a b c) (hs : x + y + z + (a + b + c) ≤ 6) : mon o (mulP f g) (x + a) (y + b) (z + c) := by
  obtain ⟨p1, px, py, pz, pd⟩ := pl_all x (by omega) y (by omega) z (by omega) (by omega)
  obtain ⟨q1, qx, qy, qz, qd⟩ := pl_all a (by omega) b (by omega) c (by omega) (by omega)
  obtain ⟨r1, rx, ry, rz, rd⟩ := pl_all (x + a) (by omega) (y + b) (by omega) (z + c) (by omega) (by omega)
  -- which terms count
  have key : ∀ j t, j < 84 → t < 84 → tm f g j t ≠ 0 → ¬ grC o (eX j) (eY j) (eZ j) (x + a) (y + b) (z + c) ∧ (j = pl (x + a) (y + b) (z + c) → t = pl x y z) := by
    intro j t hj ht hne
    unfold tm at hne
    split at hne
    · next e =>
      obtain ⟨k1, k2, k3⟩ := quo_ok ht hj e
      obtain ⟨-, -, -, mx, my, mz⟩ := mul_ok ht k1 k2
      rw [k3] at mx my mz
      have n1 : ¬ grC o (eX t) (eY t) (eZ t) x y z := fun h => hne (by rw [hf.2 t ht h, Int64.zero_mul])
      have n2 : ¬ grC o (eX (quo t j)) (eY (quo t j)) (eZ (quo t j)) a b c := fun h => hne (by rw [hg.2 _ k1 h, Int64.mul_zero])
      obtain ⟨s1, s2⟩ := grC_sum ho n1 n2
      refine ⟨by rw [mx, my, mz]; exact s1, fun ej => ?_⟩
      have e1 := (e_all t ht).2.2
      have := s2 (by rw [← mx, ej, rx]) (by rw [← my, ej, ry]) (by rw [← mz, ej, rz])
      rw [← e1, this.1, this.2.1, this.2.2]
    · exact absurd rfl hne
  constructor
  · rw [mulP, if_pos r1, dsum_r]
    have hd1 : dv (pl x y z) (pl (x + a) (y + b) (z + c)) = true := (dv_iff _ _).mpr ⟨by omega, by omega, by omega⟩
    have hq : quo (pl x y z) (pl (x + a) (y + b) (z + c)) = pl a b c := by
      unfold quo
      rw [rx, ry, rz, px, py, pz, show x + a - x = a by omega, show y + b - y = b by omega, show z + c - z = c by omega]
    rw [rsum_one (i := 83 - pl x y z) (by omega) (fun j hj hn => Classical.byContradiction (fun e => by
      have := (key _ (83 - j) r1 (by omega) e).2 rfl
      omega)), show 83 - (83 - pl x y z) = pl x y z by omega]
    show tm f g (pl (x + a) (y + b) (z + c)) (pl x y z) = 1
    rw [tm, if_pos hd1, hq, hf.1, hg.1]; rfl
  · intro u hu hgr
    rw [mulP, if_pos hu, dsum_r]
    exact rsum_zero (fun i hi => Classical.byContradiction (fun e => (key u (83 - i) hu (by omega) e).1 hgr))
theorem mon_one {o : Nat} : mon o one 0 0 0 := by
  refine ⟨rfl, fun u hu h => ?_⟩
  unfold one
  rw [if_neg]
  rintro rfl
  exact absurd h (by
    have : eX 0 = 0 ∧ eY 0 = 0 ∧ eZ 0 = 0 := by decide
    rw [this.1, this.2.1, this.2.2]; exact grC_ir)
def rsX (e : Nat → Nat) (gl : Nat → Nat) (r k : Nat) : Nat := sm (fun j => pw r j * e (gl j)) k
theorem rsX_deg {gl : Nat → Nat} {r : Nat} : ∀ {k : Nat}, (∀ i, i < k → gl i < 84) → rsX eX gl r k + rsX eY gl r k + rsX eZ gl r k = rdeg gl r k
  | 0, _ => rfl
  | k + 1, h => by
    have ih := rsX_deg (gl := gl) (r := r) (k := k) (fun i hi => h i (by omega))
    have e := (e_le (h k (by omega))).2.2.2.2
    have hm : pw r k * eX (gl k) + pw r k * eY (gl k) + pw r k * eZ (gl k) = pw r k * eD (gl k) := by rw [← Nat.mul_add, ← Nat.mul_add, e]
    unfold rsX at *
    simp only [sm, rdeg]
    omega
theorem mon_pow {o x y z a b c : Nat} {f g : Nat → Int64} (ho : o < 3) (hf : mon o f x y z) (hg : mon o g a b c) : ∀ k, x + y + z + k * (a + b + c) ≤ 6 → mon o (powP f g k) (x + k * a) (y + k * b) (z + k * c)
  | 0, _ => by simpa [powP] using hf
  | k + 1, h => by
    have hm : k * (a + b + c) = k * a + k * b + k * c := by rw [Nat.mul_add, Nat.mul_add]
    rw [Nat.succ_mul] at h
    have := mon_mul ho (mon_pow ho hf hg k (by omega)) hg (by omega)
    rw [powP, Nat.succ_mul, Nat.succ_mul, Nat.succ_mul, ← Nat.add_assoc, ← Nat.add_assoc, ← Nat.add_assoc]
    exact this
theorem mon_prod {o r : Nat} {gl : Nat → Nat} {gp : Nat → Nat → Int64} (ho : o < 3) : ∀ k, (∀ i, i < k → gl i < 84 ∧ mon o (gp i) (eX (gl i)) (eY (gl i)) (eZ (gl i))) → rdeg gl r k ≤ 6 → mon o (prodP gp (pw r) k) (rsX eX gl r k) (rsX eY gl r k) (rsX eZ gl r k)
  | 0, _, _ => mon_one
  | k + 1, h, hd => by
    have h1 := mon_prod (r := r) ho k (fun i hi => h i (by omega)) (Nat.le_trans (rdeg_mono (Nat.le_succ k)) hd)
    have h2 := rsX_deg (gl := gl) (r := r) (k := k) (fun i hi => (h i (by omega)).1)
    have e := (e_le (h k (by omega)).1).2.2.2.2
    rw [rdeg] at hd
    exact mon_pow ho h1 (h k (by omega)).2 (pw r k) (by rw [e]; omega)
/-- the PRODUCT of a ROW has its TERM as LEADING TERM -/
theorem RN_mon {o n t i r : Nat} {gl : Nat → Nat} {gp : Nat → Nat → Int64} (ho : o < 3) (hn : n ≤ 7) (hl : ∀ i, i < n → gl i < 84 ∧ 1 ≤ eD (gl i)) (hm : ∀ i, i < n → mon o (gp i) (eX (gl i)) (eY (gl i)) (eZ (gl i))) (h : (RN (leadL gl n) t)[i]? = some r) (ht : t < 84) : mon o (prodP gp (pw r) n) (eX t) (eY t) (eZ t) := by
  have hr := (RN_ok hn hl h).2.1
  have h1 := mon_prod (r := r) ho n (fun i hi => ⟨(hl i hi).1, hm i hi⟩) hr
  obtain ⟨v, hv, rfl⟩ := RN_get h
  obtain ⟨a, b, c, d, e, f⟩ := RT_ok hn hl hv
  have hsum : ∀ q : Nat → Nat, rsX q gl (num v) n = vsum q (leadL gl n) v := fun q => by
    rw [vsum_sm _ _ _ (by rw [leadL_len]; exact a), leadL_len]
    exact sm_congr (fun j hj => by rw [f j (by omega), leadL_getD gl hj])
  have hd := vdeg_xyz (leadL gl n) v (fun l hm => (leadL_all hl l hm).1)
  obtain ⟨s1, s2, s3, s4, -⟩ := pl_all (vsum eX (leadL gl n) v) (by omega) (vsum eY (leadL gl n) v) (by omega) (vsum eZ (leadL gl n) v) (by omega) (by omega)
  rw [hsum, hsum, hsum] at h1
  unfold vpl at c
  rw [c] at s2 s3 s4
  rw [s2, s3, s4]
  exact h1
theorem apt_clear {o n : Nat} {gl : Nat → Nat} {gp : Nat → Nat → Int64} (ho : o < 3) (hn : n ≤ 7) (hl : ∀ i, i < n → gl i < 84 ∧ 1 ≤ eD (gl i)) (hm : ∀ i, i < n → mon o (gp i) (eX (gl i)) (eY (gl i)) (eZ (gl i))) : ∀ (k : Nat) (f : Nat → Int64) (st : List (Int64 × Nat)) (q : (Nat → Int64) × List (Int64 × Nat)), k ≤ 84 → (∀ i, k ≤ i → i < 84 → f (rk o i) ≠ 0 → RN (leadL gl n) (rk o i) = []) → apt o n (leadL gl n) gp k f st = some q → ∀ i, i < 84 → q.1 (rk o i) ≠ 0 → RN (leadL gl n) (rk o i) = []
  | 0, f, st, q, _, hz, ha, i, hi, hne => by
    rw [apt] at ha
    cases ha
    exact hz i (Nat.zero_le _) hi hne
  | k + 1, f, st, q, hk, hz, ha, i, hi, hne => by
    rw [apt] at ha
    by_cases c : f (rk o k) = 0
    · rw [if_pos c] at ha
      exact apt_clear ho hn hl hm k f st q (by omega) (fun j h1 h2 h3 => by
        by_cases e : j = k
        · subst e; exact absurd c h3
        · exact hz j (by omega) h2 h3) ha i hi hne
    · rw [if_neg c] at ha
      have ht := (rk_ok o ho k (by omega)).2.2.1
      cases hR : RN (leadL gl n) (rk o k) with
      | nil =>
        rw [hR] at ha
        exact apt_clear ho hn hl hm k f st q (by omega) (fun j h1 h2 h3 => by
          by_cases e : j = k
          · subst e; exact hR
          · exact hz j (by omega) h2 h3) ha i hi hne
      | cons w ws =>
        rw [hR] at ha
        simp only at ha
        split at ha
        · cases ha
        · have hw := RN_mon (gp := gp) ho hn hl hm (i := 0) (r := w) (by rw [hR]; rfl) ht
          refine apt_clear ho hn hl hm k _ _ q (by omega) (fun j h1 h2 h3 => ?_) ha i hi hne
          by_cases e : j = k
          · subst e
            exfalso
            apply h3
            have h0 := hw.1
            rw [(e_all _ ht).2.2] at h0
            show f (rk o j) + -f (rk o j) * prodP gp (pw w) n (rk o j) = 0
            rw [h0, Int64.mul_one, Int64.add_right_neg]
          · have hg := (gr_rk ho (show k < 84 by omega) h2).mpr (by omega)
            have h0 := hw.2 (rk o j) (rk_ok o ho j h2).2.2.1 hg
            refine hz j (by omega) h2 (fun e2 => h3 ?_)
            show f (rk o j) + -f (rk o k) * prodP gp (pw w) n (rk o j) = 0
            rw [h0, Int64.mul_zero, e2, Int64.add_zero]
theorem pld_ok {f : Nat → Int64} {o : Nat} (ho : o < 3) : ∀ k, k ≤ 84 → (pld f o k = 0 ∧ ∀ i, i < k → f (rk o i) = 0) ∨ ∃ i, i < k ∧ pld f o k = rk o i + 1 ∧ f (rk o i) ≠ 0 ∧ ∀ j, i < j → j < k → f (rk o j) = 0
  | 0, _ => Or.inl ⟨rfl, fun i hi => by omega⟩
  | k + 1, hk => by
    rw [pld]
    by_cases c : f (rk o k) = 0
    · rw [if_pos c]
      rcases pld_ok (f := f) ho k (by omega) with ⟨a, b⟩ | ⟨i, a, b, d, e⟩
      · refine Or.inl ⟨a, fun i hi => ?_⟩
        by_cases q : i = k
        · rw [q]; exact c
        · exact b i (by omega)
      · refine Or.inr ⟨i, by omega, b, d, fun j h1 h2 => ?_⟩
        by_cases q : j = k
        · rw [q]; exact c
        · exact e j h1 (by omega)
    · rw [if_neg c]
      exact Or.inr ⟨k, by omega, rfl, c, fun j h1 h2 => by omega⟩
/-- a LEADING TERM: nothing is above it -/
theorem lead_ok {f : Nat → Int64} {o t : Nat} (ho : o < 3) (h : lead1 f o = t + 1) : t < 84 ∧ f t ≠ 0 ∧ ∀ u, u < 84 → gr o u t → f u = 0 := by
  rcases pld_ok (f := f) ho 84 (Nat.le_refl _) with ⟨a, -⟩ | ⟨i, a, b, d, e⟩
  · unfold lead1 at h; omega
  · unfold lead1 at h
    rw [h] at b
    have ht : t = rk o i := by omega
    subst ht
    refine ⟨(rk_ok o ho i a).2.2.1, d, fun u hu hg => ?_⟩
    obtain ⟨u1, u2, u3, u4⟩ := rk_ok o ho u hu
    rw [← u2] at hg ⊢
    exact e _ ((gr_rk ho a u1).mp hg) u1
theorem lead_of {f : Nat → Int64} {o t : Nat} (ho : o < 3) (ht : t < 84) (h1 : f t ≠ 0) (h2 : ∀ u, u < 84 → gr o u t → f u = 0) : lead1 f o = t + 1 := by
  obtain ⟨t1, t2, -, -⟩ := rk_ok o ho t ht
  rcases pld_ok (f := f) ho 84 (Nat.le_refl _) with ⟨-, b⟩ | ⟨i, a, b, d, e⟩
  · exact absurd (by rw [← t2]; exact b _ t1) h1
  · unfold lead1
    rw [b]
    rcases Nat.lt_trichotomy i (rnk o t) with c | c | c
    · exact absurd (by rw [← t2]; exact e _ c t1) h1
    · rw [c, t2]
    · refine absurd (h2 (rk o i) (rk_ok o ho i a).2.2.1 ?_) d
      rw [← t2]
      exact (gr_rk ho t1 a).mpr c
theorem gr_deg {o u t : Nat} (hu : u < 84) (ht : t < 84) (h : eD t < eD u) : gr o u t := by
  have e1 := (e_le hu).2.2.2.2
  have e2 := (e_le ht).2.2.2.2
  exact Or.inl (by omega)
theorem lead_dgb {f : Nat → Int64} {o t : Nat} (ho : o < 3) (h : lead1 f o = t + 1) : dgb f (eD t) := by
  obtain ⟨t1, -, t3⟩ := lead_ok ho h
  intro u hu hne
  exact Classical.byContradiction (fun e => hne (t3 u hu (gr_deg hu t1 (by omega))))
