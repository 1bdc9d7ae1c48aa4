/-! ===== no norm passes LARGEST ===== -/
theorem labs_or (c : Int64) : (labs c).toInt = (ab c : Int) ∨ (labs c).toInt < 0 := by
  by_cases h : ab c < 2 ^ 63
  · exact Or.inl (labs_ti h)
  · right
    have h1 := Int64.toInt_lt c
    have h2 := Int64.le_toInt c
    have e : c.toInt = -(2 ^ 63) := by unfold ab at h; omega
    have : c = Int64.minValue := Int64.toInt_inj.mp (by rw [e]; decide)
    subst this
    decide
theorem labs_z {c : Int64} (h : labs c = 0) : c = 0 := by
  unfold labs at h
  by_cases e : c < 0
  · rw [if_pos e] at h
    have : c = -0 := by rw [← h]; simp
    rw [this]; decide
  · rw [if_neg e] at h; exact h
theorem pc_le {c k : Int64} {R : Nat} (hk : k.toInt < 0 ∨ (R : Int) ≤ k.toInt) (h : 0 ≤ (prodA (labs c) k).toInt) : ((ab c * R : Nat) : Int) ≤ (prodA (labs c) k).toInt := by
  rcases hk with hk | hk
  · have hk0 : ¬ k = 0 := fun e => by rw [e] at hk; exact absurd hk (by decide)
    by_cases z : labs c = 0
    · have : ab c = 0 := by rw [labs_z z]; exact ab_0
      rw [this, Nat.zero_mul]; exact h
    · have hkn : k < 0 := by rw [Int64.lt_iff_toInt_lt]; exact hk
      unfold prodA at h
      rw [if_neg (by simp [z, hk0]), if_pos (by simp [hkn])] at h
      exact absurd h (by decide)
  · rcases prodA_ok (a := labs c) (b := k) (by omega) with ⟨e1, e2⟩ | ⟨e1, e2⟩ | ⟨e1, e2 | e2⟩
    · have : R = 0 := by omega
      rw [this, Nat.mul_zero]; exact h
    · omega
    · omega
    · rw [e2.1]
      rcases labs_or c with q | q
      · rw [q, Int.natCast_mul]
        exact Int.mul_le_mul_of_nonneg_left hk (by omega)
      · omega
theorem nn_i {x : Int64} (h : ¬ x < 0) : 0 ≤ x.toInt := by
  rw [Int64.lt_iff_toInt_lt, show (0 : Int64).toInt = 0 from rfl] at h
  omega
theorem nn_l {x : Int64} (h : x.toInt < 0) : x < 0 := by rw [Int64.lt_iff_toInt_lt]; exact h
theorem nb_pc {f p : Nat → Int64} {c k : Int64} (hf : nb f) (hk : k.toInt < 0 ∨ (nr p : Int) ≤ k.toInt) (h : ¬ sumA (norm f) (prodA (labs c) k) < 0) : nr f + ab c * nr p < 2 ^ 63 := by
  obtain ⟨a1, a2, a3, a4⟩ := sumA_ok h
  have := pc_le hk a2
  rw [norm_ti hf] at a4
  omega
theorem nb_le {f : Nat → Int64} {n : Nat} (h : nr f ≤ n) (hn : n < 2 ^ 63) : nb f := Nat.lt_of_le_of_lt h hn
theorem nb_k {p : Nat → Int64} (h : nb p) : (norm p).toInt < 0 ∨ (nr p : Int) ≤ (norm p).toInt := Or.inr (by rw [norm_ti h]; exact Int.le_refl _)
theorem powA_le {c : Int64} {f b : Nat → Int64} (hb : nb b) (h : c.toInt < 0 ∨ (nr f : Int) ≤ c.toInt) : ∀ k, (powA c (norm b) k).toInt < 0 ∨ (nr (powP f b k) : Int) ≤ (powA c (norm b) k).toInt
  | 0 => h
  | k + 1 => by
    have ih := powA_le hb h k
    have hm := nr_mul (powP f b k) b
    have hn := norm_ti hb
    rw [powA, powP]
    rcases prodA_ok (a := powA c (norm b) k) (b := norm b) (by omega) with ⟨e1, e2⟩ | ⟨e1, e2⟩ | ⟨e1, e2 | e2⟩
    · right
      have : nr b = 0 := by omega
      rw [this, Nat.mul_zero] at hm
      omega
    · left; omega
    · left; omega
    · right
      rw [e2.1, hn]
      have : (nr (powP f b k) : Int) ≤ (powA c (norm b) k).toInt := by omega
      have h3 : (nr (powP f b k) : Int) * (nr b : Int) ≤ (powA c (norm b) k).toInt * (nr b : Int) := Int.mul_le_mul_of_nonneg_right this (by omega)
      rw [← Int.natCast_mul] at h3
      omega
theorem nr_one : nr one = 1 := by decide +kernel
theorem cost_le {gp : Nat → Nat → Int64} {P : Nat → Nat} : ∀ n, (∀ g, g < n → nb (gp g)) → (cost (fun g => norm (gp g)) P n).toInt < 0 ∨ (nr (prodP gp P n) : Int) ≤ (cost (fun g => norm (gp g)) P n).toInt
  | 0, _ => by rw [prodP, nr_one, cost]; exact Or.inr (by decide)
  | n + 1, h => by
    rw [cost, prodP]
    exact powA_le (h n (by omega)) (cost_le n (fun g hg => h g (by omega))) (P n)
theorem nb_apt {o n : Nat} {Ls : List Nat} {gp : Nat → Nat → Int64} (hg : ∀ g, g < n → nb (gp g)) (k : Nat) : ∀ f st q, apt o n Ls gp k f st = some q → nb f → nb q.1 := by
  induction k with
  | zero =>
    intro f st q e hf
    rw [apt] at e
    have e2 := Option.some.inj e
    rw [← e2]
    exact hf
  | succ k ih =>
    intro f st q e hf
    rw [apt] at e
    split at e
    · exact ih f st q e hf
    · split at e
      · exact ih f st q e hf
      · rename_i r L _
        split at e
        · cases e
        · rename_i hs
          have h1 := nb_pc hf (cost_le (P := pw r) n hg) hs
          refine ih _ _ q e (nb_le (nr_add _ _ _) ?_)
          have h2 := Nat.mul_le_mul_right (nr (prodP gp (pw r) n)) (ab_neg (f (rk o k)))
          omega
theorem ab_m1 : ab (-1) = 1 := by decide
theorem ab_1 : ab 1 = 1 := by decide
theorem nb_dif {n l r : Nat} {gp : Nat → Nat → Int64} {f : Nat → Int64} (hg : ∀ g, g < n → nb (gp g)) (e : difP n gp l r = some f) : nb f := by
  unfold difP at e
  split at e
  · cases e
  · rename_i hs
    cases e
    obtain ⟨a1, a2, a3, a4⟩ := sumA_ok hs
    refine nb_le (nr_add _ _ _) ?_
    rw [ab_m1, Nat.one_mul]
    have h1 := cost_le (P := pw l) n hg
    have h2 := cost_le (P := pw r) n hg
    omega
theorem smC_ng {n : Nat} {gp : Nat → Nat → Int64} : ∀ L a, a < 0 → smC n gp L a < 0
  | [], a, h => h
  | q :: L, a, h => by
    rw [smC]
    refine smC_ng L _ ?_
    unfold sumA
    rw [if_pos (Or.inl h)]
    decide
theorem nb_sm {n : Nat} {gp : Nat → Nat → Int64} (hg : ∀ g, g < n → nb (gp g)) (L : List (Int64 × Nat)) : ∀ a f, (nr f : Int) ≤ a.toInt → ¬ smC n gp L a < 0 → nb (smP n gp L f) := by
  induction L with
  | nil =>
    intro a f h _
    have := Int64.toInt_lt a
    rw [smP]
    unfold nb
    omega
  | cons q L ih =>
    intro a f h hs
    rw [smC] at hs
    rw [smP]
    have h0 : ¬ sumA a (prodA (labs q.1) (cost (fun g => norm (gp g)) (pw q.2) n)) < 0 := fun c => hs (smC_ng _ _ c)
    obtain ⟨a1, a2, a3, a4⟩ := sumA_ok h0
    refine ih _ _ ?_ hs
    have h1 := pc_le (cost_le (P := pw q.2) n hg) a2
    have h2 := nr_add f (prodP gp (pw q.2) n) q.1
    omega
/-- GENERATORS -/
def NG (Gt : GT) : Prop := ∀ g, g < gN Gt → nb (gP Gt g)
theorem ab_l1 {x : Int64} (h : labs x = 1) : ab x = 1 := by
  rcases labs_or x with q | q
  · rw [h] at q
    have : (1 : Int64).toInt = 1 := by decide
    omega
  · rw [h] at q
    exact absurd q (by decide)
theorem ng_stl {o : Nat} {Gt : GT} {q : Nat × Nat} (h : NG Gt) : NG (stl o Gt q).2 := by
  unfold stl
  split
  · exact h
  · rename_i f e1
    split
    · exact h
    · rename_i w e2
      split
      · exact h
      · split
        · exact h
        · rename_i hl
          split
          · exact h
          · have hw := nb_apt h 84 _ _ _ e2 (nb_dif h e1)
            intro g hg
            show nb (upn (gP Gt) (gN Gt) (fun j => w.1 (lead1 w.1 o - 1) * w.1 j) g)
            by_cases c : g = gN Gt
            · subst c
              rw [upn_at]
              refine nb_le (nr_scale2 _ _) ?_
              rw [ab_l1 (Classical.not_not.mp hl), Nat.one_mul]
              exact hw
            · rw [upn_ne _ _ c]
              have hg2 : g < gN Gt + 1 := hg
              exact h g (by omega)
theorem ng_rnd {o : Nat} : ∀ L {Gt : GT}, NG Gt → NG (rnd o L Gt).2
  | [], _, h => h
  | q :: L, Gt, h => by
    rw [rnd]
    have := ng_stl (o := o) (q := q) h
    split
    · rename_i e; rw [e] at this; exact this
    · rename_i e; rw [e] at this; exact ng_rnd L this
theorem ng_grw {o d : Nat} : ∀ m (Gt : GT) k, NG Gt → NG (grw o d m Gt k).2.1
  | 0, Gt, k, h => by rw [grw]; exact h
  | m + 1, Gt, k, h => by
    rw [grw]
    have := ng_rnd (o := o) (rlD o (leadL (gL Gt) (gN Gt)) d 84) h
    split
    · rename_i e; rw [e] at this; exact this
    · rename_i e
      rw [e] at this
      split
      · exact this
      · exact ng_grw m _ _ this
