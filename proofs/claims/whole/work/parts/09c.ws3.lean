/-! ===== the state stays as it must be: sheet, family, poly ===== -/
theorem ws_sheet {S : ST} {s w n : Int32} (h : WS S) : WS (fSheet S s w n).2 := by
  unfold fSheet
  split
  · next e =>
    simp only [Bool.and_eq_true] at e
    obtain ⟨⟨e1, e2⟩, e3⟩ := e
    have hb := bB_iff.mp e2
    unfold isB at hb
    split
    · exact h
    · next z =>
      obtain ⟨a1, a2, a3, a4, a5, a6, a7⟩ := h
      refine ⟨a1, a2, a3, a4, fun i hi => ?_, a6, a7⟩
      show (upn (tH S).1 (ni s) w i = -1 ∧ upn (tH S).2.1 (ni s) (if w.toInt < 0 then 0 else ni n) i = 0 ∨ (upn (tH S).1 (ni s) w i = 0 ∨ upn (tH S).1 (ni s) w i = 1) ∧ upn (tH S).2.1 (ni s) (if w.toInt < 0 then 0 else ni n) i ≤ 40)
      by_cases ei : i = ni s
      · rw [ei, upn_at, upn_at]
        by_cases hw : w.toInt < 0
        · refine Or.inl ⟨Int32.toInt_inj.mp ?_, if_pos hw⟩
          show w.toInt = -1
          omega
        · refine Or.inr ⟨?_, ?_⟩
          · have : w.toInt = 0 ∨ w.toInt = 1 := by omega
            rcases this with k | k
            · exact Or.inl (Int32.toInt_inj.mp k)
            · exact Or.inr (Int32.toInt_inj.mp k)
          · rw [if_neg hw]
            have h40 : ¬ 40 < n.toInt := by
              intro k
              rw [decide_eq_true (show 0 ≤ w.toInt by omega), decide_eq_true k] at e3
              cases e3
            unfold ni
            omega
      · rw [upn_ne _ _ ei, upn_ne _ _ ei]
        exact a5 i hi
  · exact h
theorem cu_lyP {f : Nat → Int64} {w : Nat} {c : Int64} (h : cu f = f) (hw : w < 84) : cu (lyP f c w) = lyP f c w := cu_ly h hw
theorem cu_fm : ∀ (L : List (Nat × Int32 × Nat × Nat × Nat)) (sl : Nat → Nat → Int64), (∀ q ∈ L, q.2.2.1 + q.2.2.2.1 + q.2.2.2.2 ≤ 6 ∧ q.1 < 6) → (∀ s, s < 6 → cu (sl s) = sl s) → ∀ s, s < 6 → cu (fmLay sl L s) = fmLay sl L s
  | [], _, _, h => h
  | q :: L, sl, hq, h => by
    have h1 := hq q (List.mem_cons_self ..)
    refine cu_fm L _ (fun r hr => hq r (List.mem_cons_of_mem _ hr)) (fun s hs => ?_)
    unfold ly1
    by_cases e : s = q.1
    · rw [e, upn_at]; exact cu_lyP (h _ h1.2) (pl_lt h1.1)
    · rw [upn_ne _ _ e]; exact h s hs
theorem cu_clS {sl : Nat → Nat → Int64} (h : ∀ s, s < 6 → cu (sl s) = sl s) : ∀ n s, s < 6 → cu (clS sl n s) = clS sl n s
  | 0, s, hs => h s hs
  | n + 1, s, hs => by
    unfold clS
    by_cases e : s = n
    · rw [e, upn_at]; exact cu_zero
    · rw [upn_ne _ _ e]; exact cu_clS h n s hs
theorem fam_ok : ∀ k, k < 6 → ∀ q ∈ famL k, q.2.2.1 + q.2.2.2.1 + q.2.2.2.2 ≤ 6 ∧ q.1 < 6 := by
  intro k hk
  have : k = 0 ∨ k = 1 ∨ k = 2 ∨ k = 3 ∨ k = 4 ∨ k = 5 := by omega
  rcases this with rfl | rfl | rfl | rfl | rfl | rfl <;> decide
theorem ws_family {S : ST} {x : Int32} (h : WS S) : WS (fFamily S x).2 := by
  unfold fFamily
  split
  · next e =>
    obtain ⟨a1, a2, a3, a4⟩ := h
    exact ⟨a1, a2, cu_fm _ _ (fam_ok _ (bN_lt e (by omega))) (cu_clS a3 _), a4⟩
  · exact h
theorem tlT_lt {row : Nat → Int32} {sz : Nat} {p : Int} (h : tlB row sz p = 0) : tlT row p < 84 := by
  unfold tlB at h
  split at h
  · exact absurd h (by decide)
  · split at h
    · next e =>
      rw [Bool.and_eq_true] at e
      exact bT_pl e.2
    · exact absurd h (by decide)
theorem cu_upn {f : Nat → Int64} {w : Nat} {v : Int64} (h : cu f = f) (hw : w < 84) : cu (upn f w v) = upn f w v := by
  funext t
  by_cases e : t < 84
  · exact cu_at e
  · rw [upn_ne _ _ (by omega), cu_out h e]; exact if_neg e
theorem cu_plF {row : Nat → Int32} {sz : Nat} {a : Int} : ∀ m i (q : Nat × (Nat → Int64) × (Nat → Int64)), cu q.2.1 = q.2.1 → cu (plF row sz a m i q).2.2.1 = (plF row sz a m i q).2.2.1
  | 0, _, _, h => h
  | m + 1, i, q, h => by
    unfold plF
    by_cases e : tlB row sz (a + 4 * (i : Int)) = 0
    · rw [if_pos e]
      exact cu_plF m (i + 1) _ (cu_upn h (tlT_lt e))
    · rw [if_neg e]; exact h
theorem ws_poly {S : ST} {s x a m : Int32} (h : WS S) : WS (fPoly S s x a m).2 := by
  unfold fPoly
  split
  · split
    · exact h
    · unfold fPo1
      split
      · exact h.s1 (cu_plF _ _ _ cu_zero)
      · exact h
  · exact h
