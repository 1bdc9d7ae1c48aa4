/-! ===== no norm passes LARGEST: every call ===== -/
def NS (S : ST) : Prop := (∀ s, s < 6 → nb (tS S s)) ∧ NG (tG S) ∧ (∀ l, l < (tL S).1 → nb ((tL S).2.2.2 l)) ∧ ∀ k, tX S = some k → (∀ s, s < 6 → nb (k.1 s)) ∧ NG k.2.2
theorem NS.s1 {S : ST} {k : Nat} {f : Nat → Int64} (h : NS S) (hf : nb f) : NS (set1 S k f) := by
  refine ⟨fun s hs => ?_, h.2.1, h.2.2.1, h.2.2.2⟩
  show nb (upn (tS S) k f s)
  by_cases c : s = k
  · rw [c, upn_at]; exact hf
  · rw [upn_ne _ _ c]; exact h.1 s hs
theorem nr_zero : nr (fun _ => 0) = 0 := by decide +kernel
theorem nb_zero : nb (fun _ => 0) := by unfold nb; rw [nr_zero]; decide
theorem bN_ni' {x : Int32} {n : Nat} (h : bN x n = true) : ni x < n := by
  unfold bN at h
  unfold ni
  simp only [Bool.and_eq_true, decide_eq_true_eq] at h
  omega
theorem nr_pt (f : Nat → Int64) (c : Int64) (p : Nat) : nr (fun j => if j = p then f j + c else f j) ≤ nr f + ab c := by
  have h1 : nr (fun j => if j = p then f j + c else f j) ≤ sm (fun j => ab (f j) + (if j = p then ab c else 0)) 84 := sm_leS (fun j _ => by
    show ab (if j = p then f j + c else f j) ≤ _
    by_cases e : j = p
    · rw [if_pos e, if_pos e]; exact ab_add _ _
    · rw [if_neg e, if_neg e]; omega)
  rw [sm_add, sm_one (a := fun _ => ab c)] at h1
  unfold nr at *
  split at h1 <;> omega
theorem nr_up (f : Nat → Int64) (c : Int64) (p : Nat) : nr (upn f p (f p + c)) ≤ nr f + ab c := by
  have : upn f p (f p + c) = fun j => if j = p then f j + c else f j := by
    funext j
    unfold upn
    by_cases e : j = p
    · rw [if_pos e, if_pos e, e]
    · rw [if_neg e, if_neg e]
  rw [this]
  exact nr_pt f c p
theorem ns_clear {S : ST} {s : Int32} (h : NS S) : NS (fClear S s).2 := by
  unfold fClear
  split
  · exact h.s1 nb_zero
  · exact h
theorem ns_turn {S : ST} {s k : Int32} (h : NS S) : NS (fTurn S s k).2 := by
  unfold fTurn
  split
  · rename_i e
    rw [Bool.and_eq_true] at e
    exact h.s1 (nb_le (nr_trn _ (bN_ni' e.2)) (h.1 _ (bN_ni' e.1)))
  · exact h
theorem ns_term {S : ST} {s c x y z : Int32} (h : NS S) : NS (fTerm S s c x y z).2 := by
  unfold fTerm
  split
  · rename_i e
    simp only [Bool.and_eq_true] at e
    split
    · exact h
    · rename_i hs
      have hf := h.1 _ (bN_ni' e.1.1)
      obtain ⟨a1, a2, a3, a4⟩ := sumA_ok hs
      refine h.s1 (nb_le (nr_pt _ _ _) ?_)
      rw [norm_ti hf] at a4
      have := labs_or c.toInt64
      omega
  · exact h
theorem ns_add {S : ST} {s t c : Int32} (h : NS S) : NS (fAdd S s t c).2 := by
  unfold fAdd
  split
  · rename_i e
    simp only [Bool.and_eq_true] at e
    split
    · exact h
    · rename_i hs
      exact h.s1 (nb_le (nr_add _ _ _) (nb_pc (h.1 _ (bN_ni' e.1.1)) (nb_k (h.1 _ (bN_ni' e.1.2))) hs))
  · exact h
theorem pm_ok {f g : Nat → Int64} (hf : nb f) (hg : nb g) (h : ¬ prodA (norm f) (norm g) < 0) : nb (mulP f g) := by
  have h1 := nn_i h
  have e1 := norm_ti hf
  have e2 := norm_ti hg
  refine nb_le (nr_mul f g) ?_
  rcases prodA_ok (a := norm f) (b := norm g) (by omega) with ⟨q1, q2⟩ | ⟨q1, q2⟩ | ⟨q1, q2 | q2⟩
  · have : nr g = 0 := by omega
    rw [this]; omega
  · omega
  · omega
  · have q3 := q2.2
    rw [e1, e2, ← Int.natCast_mul] at q3
    omega
theorem ns_times {S : ST} {s t : Int32} (h : NS S) : NS (fTimes S s t).2 := by
  unfold fTimes
  split
  · rename_i e
    rw [Bool.and_eq_true] at e
    split
    · exact h
    · split
      · exact h
      · rename_i hs
        exact h.s1 (pm_ok (h.1 _ (bN_ni' e.1)) (h.1 _ (bN_ni' e.2)) hs)
  · exact h
theorem nr_ev (f : Nat → Int64) (k : Nat) : k ≤ 6 → nr (evP f k) ≤ k * nr f := by
  induction k with
  | zero => intro _; rw [evP, nr_zero]; omega
  | succ k ih =>
    intro hk
    have h1 := nr_add (evP f k) (trn f k) 1
    have h2 := nr_trn f (show k < 6 by omega)
    have h3 := ih (by omega)
    rw [ab_1, Nat.one_mul] at h1
    rw [evP, Nat.succ_mul]
    omega
theorem ns_even {S : ST} {s : Int32} (h : NS S) : NS (fEven S s).2 := by
  unfold fEven
  split
  · rename_i e
    split
    · exact h
    · rename_i hs
      have hf := h.1 _ (bN_ni' e)
      have h1 := nn_i hs
      have e1 := norm_ti hf
      refine h.s1 (nb_le (nr_ev _ 6 (Nat.le_refl _)) ?_)
      have h6 : (6 : Int64).toInt = 6 := by decide
      rcases prodA_ok (a := 6) (b := norm (tS S (ni s))) (by omega) with ⟨q1, q2⟩ | ⟨q1, q2⟩ | ⟨q1, q2 | q2⟩
      · omega
      · omega
      · omega
      · have q3 := q2.2
        rw [h6, e1] at q3
        omega
  · exact h
theorem ns_give {S : ST} {g s : Int32} (h : NS S) : NS (fGive S g s).2 := by
  unfold fGive
  split
  · rename_i e
    rw [Bool.and_eq_true] at e
    exact h.s1 (h.2.1 _ (bN_ni' e.1))
  · exact h
theorem ns_loosen {S : ST} (h : NS S) : NS (fLoosen S).2 := ⟨h.1, h.2.1, fun l hl => absurd hl (Nat.not_lt_zero l), h.2.2.2⟩
theorem ns_keep {S : ST} (h : NS S) : NS (fKeep S).2 := by
  refine ⟨h.1, h.2.1, h.2.2.1, fun k hk => ?_⟩
  have e : k = (tS S, tO S, tG S) := (Option.some.inj hk).symm
  rw [e]
  exact ⟨h.1, h.2.1⟩
theorem ns_back {S : ST} (h : NS S) : NS (fBack S).2 := by
  unfold fBack
  split
  · exact h
  · rename_i k e
    have := h.2.2.2 k e
    exact ⟨this.1, this.2, h.2.2.1, h.2.2.2⟩
theorem ns_order {S : ST} {o : Int32} (h : NS S) : NS (fOrder S o).2 := by
  unfold fOrder
  split
  · split
    · exact h
    · exact h
  · exact h
theorem ns_drop {S : ST} (h : NS S) : NS (fDrop S).2 := by
  unfold fDrop
  split
  · exact h
  · exact ⟨h.1, fun g hg => h.2.1 g (by have hg2 : g < gN (tG S) - 1 := hg; omega), h.2.2.1, h.2.2.2⟩
theorem ns_generator {S : ST} {s : Int32} (h : NS S) : NS (fGenerator S s).2 := by
  unfold fGenerator
  split
  · rename_i e
    unfold fGen1
    split
    · exact h
    · split
      · exact h
      · refine ⟨h.1, fun g hg => ?_, h.2.2.1, h.2.2.2⟩
        have hg2 : g < gN (tG S) + 1 := hg
        show nb (upn (gP (tG S)) (gN (tG S)) (tS S (ni s)) g)
        by_cases c : g = gN (tG S)
        · rw [c, upn_at]; exact h.1 _ (bN_ni' e)
        · rw [upn_ne _ _ c]; exact h.2.1 g (by omega)
  · exact h
theorem ns_through {S : ST} {s : Int32} (h : NS S) : NS (fThrough S s).2 := by
  unfold fThrough
  split
  · split
    · exact h
    · unfold thF
      split
      · exact h
      · split
        · exact h
        · rename_i hs
          exact h.s1 (nb_sm h.2.1 _ 0 _ (by rw [nr_zero]; decide) hs)
  · exact h
theorem ns_witness {S : ST} {s : Int32} (h : NS S) : NS (fWitness S s).2 := by
  unfold fWitness
  split
  · split
    · split
      · exact h
      · rename_i hs
        exact h.s1 (nb_sm h.2.1 _ 0 _ (by rw [nr_zero]; decide) hs)
    · exact h
  · exact h
theorem ns_difference {S : ST} {d r s : Int32} (h : NS S) : NS (fDifference S d r s).2 := by
  unfold fDifference
  split
  · split
    · split
      · exact h
      · rename_i e
        exact h.s1 (nb_dif h.2.1 e)
    · exact h
  · exact h
theorem ns_subduct {S : ST} {s : Int32} (h : NS S) : NS (fSubduct S s).2 := by
  unfold fSubduct
  split
  · rename_i e
    split
    · exact h
    · rename_i q e2
      have hq : nb q.1 := nb_apt h.2.1 84 _ _ _ e2 (h.1 _ (bN_ni' e))
      have := h.s1 (k := ni s) hq
      exact ⟨this.1, this.2.1, this.2.2.1, this.2.2.2⟩
  · exact h
theorem ns_complete {S : ST} {d : Int32} (h : NS S) : NS (fComplete S d).2 := by
  unfold fComplete
  split
  · exact ⟨h.1, ng_grw 8 _ _ h.2.1, h.2.2.1, h.2.2.2⟩
  · exact h
theorem ns_link {S : ST} {x n : Int32} (h : NS S) (hW : WS S) : NS (fLink S x n).2 := by
  unfold fLink
  split
  · rename_i e
    split
    · exact h
    · refine ⟨h.1, h.2.1, fun l hl => ?_, h.2.2.2⟩
      have hl2 : l < (tL S).1 + 1 := hl
      show nb (upn (tL S).2.2.2 (tL S).1 (if ni x = 2 ∨ ni x = 5 then tS S (ni n) else fun _ => 0) l)
      by_cases c : l = (tL S).1
      · rw [c, upn_at]
        split
        · rename_i c2
          refine h.1 _ (bN_ni' ?_)
          unfold bLink kLink at e
          rw [Bool.and_eq_true] at e
          rcases c2 with c2 | c2 <;> (rw [c2] at e; exact e.2)
        · exact nb_zero
      · rw [upn_ne _ _ c]; exact h.2.2.1 l (by omega)
  · exact h
theorem nb_goT {f : Nat → Int64} {n : Int32} (hf : nb f) : nb (goT f n).2 := by
  unfold goT
  split
  · exact hf
  · rename_i hs
    have h1 := nn_i hs
    have := pc_le (nb_k hf) h1
    have h3 := Int64.toInt_lt (prodA (labs n.toInt64) (norm f))
    refine nb_le (nr_scale _ _) ?_
    omega
theorem nb_goA {f g : Nat → Int64} (hf : nb f) (hg : nb g) : nb (goA f g).2 := by
  unfold goA
  split
  · exact hf
  · rename_i hs
    obtain ⟨a1, a2, a3, a4⟩ := sumA_ok hs
    rw [norm_ti hf, norm_ti hg] at a4
    refine nb_le (nr_add _ _ _) ?_
    rw [ab_1, Nat.one_mul]
    omega
theorem nb_goM {f g : Nat → Int64} (hf : nb f) (hg : nb g) : nb (goM f g).2 := by
  unfold goM
  split
  · exact hf
  · split
    · exact hf
    · rename_i hs
      exact pm_ok hf hg hs
theorem nb_goS {S : ST} {f : Nat → Int64} (h : NS S) (hf : nb f) : nb (goS S f).2 := by
  unfold goS
  split
  · exact hf
  · rename_i e
    exact nb_apt h.2.1 84 _ _ _ e hf
theorem nb_goL {S : ST} {l : Nat} {f : Nat → Int64} (h : NS S) (hW : WS S) (hl : l < (tL S).1) (hf : nb f) : nb (goL S l f).2 := by
  obtain ⟨w1, w2, w3, w4, w5⟩ := hW.2.2.2.2.2.1.2 l hl
  have hh := h.2.2.1 l hl
  unfold goL
  split
  · rename_i e
    obtain ⟨k, hk, ek⟩ := w2 e
    rw [ek, ni_nI (by omega)]
    exact nb_le (nr_trn _ hk) hf
  · exact nb_goT hf
  · exact nb_goA hf hh
  · rename_i e
    obtain ⟨k, hk, ek⟩ := w4 e
    rw [ek, ni_nI (by omega)]
    exact nb_goA hf (h.1 k hk)
  · exact nb_goS h hf
  · exact nb_goM hf hh
  · exact nb_goT hf
theorem nb_goR {S : ST} {w n : Nat} (h : NS S) (hW : WS S) (hn : n = (tL S).1) (m : Nat) : ∀ f, m ≤ n → nb f → nb (goR S w n m f).2 := by
  induction m with
  | zero => intro f _ hf; exact hf
  | succ m ih =>
    intro f hm hf
    rw [goR]
    have hl : (if w = 0 then n - (m + 1) else m) < (tL S).1 := by split <;> omega
    have := nb_goL h hW hl hf
    split
    rename_i r g e
    rw [e] at this
    split
    · exact ih g (by omega) this
    · exact this
theorem ns_run {S : ST} {s w : Int32} (h : NS S) (hW : WS S) : NS (fRun S s w).2 := by
  unfold fRun
  split
  · rename_i e
    rw [Bool.and_eq_true] at e
    have := nb_goR h hW rfl (w := ni w) (tL S).1 (tS S (ni s)) (Nat.le_refl _) (h.1 _ (bN_ni' e.1))
    split
    rename_i r g e2
    rw [e2] at this
    split
    · exact h.s1 this
    · exact h
  · exact h
theorem ab_i (c : Int32) : ab c.toInt64 ≤ 2 ^ 31 := by
  unfold ab
  have h1 := Int32.toInt_lt c
  have h2 := Int32.le_toInt c
  rw [toL]
  omega
theorem nr_pl {row : Nat → Int32} {sz : Nat} {a : Int} (m : Nat) : ∀ i q, nr (plF row sz a m i q).2.2.1 ≤ nr q.2.1 + m * 2 ^ 31 := by
  induction m with
  | zero => intro i q; rw [plF]; exact Nat.le_add_right _ _
  | succ m ih =>
    intro i q
    rw [plF]
    split
    · have h1 := ih (i + 1) (q.1 + (if q.2.2 (tlT row (a + 4 * (i : Int))) = 0 then 1 else 0), upn q.2.1 (tlT row (a + 4 * (i : Int))) (q.2.1 (tlT row (a + 4 * (i : Int))) + (row (a + 4 * (i : Int)).toNat).toInt64), upn q.2.2 (tlT row (a + 4 * (i : Int))) 1)
      have h2 := nr_up q.2.1 (row (a + 4 * (i : Int)).toNat).toInt64 (tlT row (a + 4 * (i : Int)))
      have h3 := ab_i (row (a + 4 * (i : Int)).toNat)
      rw [Nat.succ_mul]
      refine Nat.le_trans h1 ?_
      dsimp only at h2 ⊢
      omega
    · rw [Nat.succ_mul]
      show nr q.2.1 ≤ _
      omega
theorem ns_poly {S : ST} {s x a m : Int32} (h : NS S) : NS (fPoly S s x a m).2 := by
  unfold fPoly
  split
  · rename_i e
    rw [Bool.and_eq_true] at e
    split
    · exact h
    · unfold fPo1
      split
      · refine h.s1 ?_
        have h1 := nr_pl (row := (tH S).2.2 (ni x)) (sz := (tH S).2.1 (ni x)) (a := a.toInt) (ni m) 0 (0, (fun _ => 0), (fun _ => 0))
        have h2 := bN_ni' e.2
        have h3 : nr (0, (fun _ => 0 : Nat → Int64), (fun _ => 0 : Nat → Int64)).2.1 = 0 := nr_zero
        rw [h3] at h1
        refine nb_le h1 ?_
        omega
      · exact h
  · exact h
theorem clS_at (sl : Nat → Nat → Int64) (p : Nat) : ∀ n, clS sl n p = if p < n then (fun _ => 0) else sl p
  | 0 => by rw [clS, if_neg (by omega)]
  | n + 1 => by
    rw [clS]
    by_cases e : p = n
    · rw [e, upn_at, if_pos (by omega)]
    · rw [upn_ne _ _ e, clS_at sl p n]
      by_cases e2 : p < n
      · rw [if_pos e2, if_pos (by omega)]
      · rw [if_neg e2, if_neg (by omega)]
theorem fmL_ne {p : Nat} : ∀ L sl, (∀ q, q ∈ L → q.1 ≠ p) → fmLay sl L p = sl p
  | [], sl, _ => rfl
  | q :: L, sl, h => by
    rw [fmLay, fmL_ne L _ (fun r hr => h r (List.mem_cons_of_mem _ hr))]
    unfold ly1
    exact upn_ne _ _ (fun e => h q (List.mem_cons_self ..) e.symm)
theorem fmL_le {p : Nat} (L : List (Nat × Int32 × Nat × Nat × Nat)) : ∀ sl, nr (fmLay sl L p) ≤ nr (sl p) + L.length * 2 ^ 31 := by
  induction L with
  | nil => intro sl; exact Nat.le_add_right _ _
  | cons q L ih =>
    intro sl
    rw [fmLay, List.length_cons, Nat.succ_mul]
    have h1 := ih (ly1 sl q.1 q.2.1 q.2.2.1 q.2.2.2.1 q.2.2.2.2)
    have h2 : nr (ly1 sl q.1 q.2.1 q.2.2.1 q.2.2.2.1 q.2.2.2.2 p) ≤ nr (sl p) + 2 ^ 31 := by
      unfold ly1
      by_cases e : p = q.1
      · rw [e, upn_at]
        have h3 := nr_pt (sl q.1) q.2.1.toInt64 (pl q.2.2.1 q.2.2.2.1 q.2.2.2.2)
        have h4 := ab_i q.2.1
        unfold lyP
        omega
      · rw [upn_ne _ _ e]; omega
    omega
theorem fam_b : ∀ k, k < 6 → (famL k).length ≤ 20 ∧ ∀ q, q ∈ famL k → q.1 < fmN k := by decide +kernel
theorem ns_family {S : ST} {x : Int32} (h : NS S) : NS (fFamily S x).2 := by
  unfold fFamily
  split
  · rename_i e
    have hx := bN_ni' e
    obtain ⟨f1, f2⟩ := fam_b _ hx
    refine ⟨fun s hs => ?_, h.2.1, h.2.2.1, h.2.2.2⟩
    show nb (fmLay (clS (tS S) (fmN (ni x))) (famL (ni x)) s)
    by_cases c : s < fmN (ni x)
    · have h1 := fmL_le (p := s) (famL (ni x)) (clS (tS S) (fmN (ni x)))
      rw [clS_at, if_pos c, nr_zero] at h1
      refine nb_le h1 ?_
      omega
    · rw [fmL_ne _ _ (fun q hq e => by have := f2 q hq; omega), clS_at, if_neg c]
      exact h.1 s hs
  · exact h
