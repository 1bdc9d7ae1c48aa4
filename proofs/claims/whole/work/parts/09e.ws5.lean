/-! ===== the state stays as it must be: through, run ===== -/
theorem ws_through {S : ST} {s : Int32} (h : WS S) : WS (fThrough S s).2 := by
  unfold fThrough
  split
  · split
    · exact h
    · unfold thF
      split
      · exact h
      · split
        · exact h
        · exact h.s1 (cu_smP _ _ _ _ cu_zero)
  · exact h
theorem goT_cu {f : Nat → Int64} {n : Int32} (h : cu f = f) : cu (goT f n).2 = (goT f n).2 := by
  unfold goT
  split
  · exact h
  · funext t
    by_cases e : t < 84
    · exact cu_at e
    · show (if t < 84 then _ else 0) = f t * n.toInt64
      rw [if_neg e, cu_out h e, Int64.zero_mul]
theorem goA_cu {f g : Nat → Int64} (h : cu f = f) (hg : cu g = g) : cu (goA f g).2 = (goA f g).2 := by
  unfold goA
  split
  · exact h
  · show cu (addP f g 1) = addP f g 1
    rw [cu_addP, h, hg]
theorem goM_cu {f g : Nat → Int64} (h : cu f = f) : cu (goM f g).2 = (goM f g).2 := by
  unfold goM
  split
  · exact h
  · split
    · exact h
    · exact cu_mulP _ _
theorem aptS_cu {S : ST} {f : Nat → Int64} {q : (Nat → Int64) × List (Int64 × Nat)} (h : cu f = f) (hq : aptS S f = some q) : cu q.1 = q.1 :=
  (apt_ok (fun _ => True) (fun _ _ _ _ => trivial) 84 f [] q h (fun _ hs => by cases hs) hq).1
theorem goS_cu {S : ST} {f : Nat → Int64} (h : cu f = f) : cu (goS S f).2 = (goS S f).2 := by
  unfold goS
  split
  · exact h
  · next q hq => exact aptS_cu h hq
theorem goL_cu {S : ST} {l : Nat} {f : Nat → Int64} (hW : WS S) (hl : l < (tL S).1) (h : cu f = f) : cu (goL S l f).2 = (goL S l f).2 := by
  obtain ⟨w1, w2, w3, w4, w5⟩ := hW.2.2.2.2.2.1.2 l hl
  unfold goL
  split
  · exact cu_trn _ _
  · exact goT_cu h
  · exact goA_cu h w5
  · next e =>
    obtain ⟨k, hk, e2⟩ := w4 e
    exact goA_cu h (hW.2.2.1 _ (by rw [e2, ni_nI (by omega)]; exact hk))
  · exact goS_cu h
  · exact goM_cu h
  · exact goT_cu h
theorem goR_cu {S : ST} {w n : Nat} (hW : WS S) (hn : n ≤ (tL S).1) : ∀ m (f : Nat → Int64), m ≤ n → cu f = f → cu (goR S w n m f).2 = (goR S w n m f).2
  | 0, _, _, h => h
  | m + 1, f, hm, h => by
    have hc := goL_cu (l := if w = 0 then n - (m + 1) else m) hW (by split <;> omega) h
    rw [goR]
    cases e : goL S (if w = 0 then n - (m + 1) else m) f with
    | mk r g =>
      rw [e] at hc
      dsimp only
      by_cases c : r = 0
      · rw [if_pos c]; exact goR_cu hW hn m g (by omega) hc
      · rw [if_neg c]; exact hc
theorem ws_run {S : ST} {s w : Int32} (h : WS S) : WS (fRun S s w).2 := by
  unfold fRun
  split
  · next e =>
    rw [Bool.and_eq_true] at e
    have hc := goR_cu (w := ni w) h (Nat.le_refl _) (tL S).1 (tS S (ni s)) (Nat.le_refl _) (h.2.2.1 _ (bN_lt e.1 (by omega)))
    cases eg : goR S (ni w) (tL S).1 (tL S).1 (tS S (ni s)) with
    | mk r g =>
      rw [eg] at hc
      dsimp only
      by_cases c : r = 0
      · rw [if_pos c]; exact h.s1 hc
      · rw [if_neg c]; exact h
  · exact h
