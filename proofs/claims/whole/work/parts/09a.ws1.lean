/-! ===== the state stays as it must be ===== -/
theorem cu_zero : cu (fun _ => (0 : Int64)) = fun _ => 0 := by funext t; unfold cu; split <;> rfl
theorem cu_out {f : Nat → Int64} (h : cu f = f) {t : Nat} (ht : ¬ t < 84) : f t = 0 := by
  rw [← h]; exact if_neg ht
theorem cu_ly {f : Nat → Int64} {w : Nat} {c : Int64} (h : cu f = f) (hw : w < 84) : cu (fun j => if j = w then f j + c else f j) = fun j => if j = w then f j + c else f j := by
  funext t
  by_cases e : t < 84
  · exact cu_at e
  · show (if t < 84 then _ else 0) = if t = w then f t + c else f t
    rw [if_neg e, if_neg (by omega), cu_out h e]
theorem bN_lt {x : Int32} {n : Nat} (h : bN x n = true) (hn : n < 2 ^ 31) : ni x < n := by
  obtain ⟨k, hk, rfl⟩ := (bN_iff hn).mp h
  rw [ni_nI (by omega)]; exact hk
theorem bT_pl {x y z : Int32} (h : bT x y z = true) : pl (ni x) (ni y) (ni z) < 84 := by
  unfold bT at h
  simp only [Bool.and_eq_true, decide_eq_true_eq] at h
  exact pl_lt h.2
theorem ws_clear {S : ST} {s : Int32} (h : WS S) : WS (fClear S s).2 := by
  unfold fClear
  split
  · exact h.s1 cu_zero
  · exact h
theorem ws_turn {S : ST} {s k : Int32} (h : WS S) : WS (fTurn S s k).2 := by
  unfold fTurn
  split
  · exact h.s1 (cu_trn _ _)
  · exact h
theorem ws_term {S : ST} {s c x y z : Int32} (h : WS S) : WS (fTerm S s c x y z).2 := by
  unfold fTerm
  split
  · next e =>
    simp only [Bool.and_eq_true] at e
    split
    · exact h
    · exact h.s1 (cu_ly (h.2.2.1 _ (bN_lt e.1.1 (by omega))) (bT_pl e.2))
  · exact h
theorem ws_add {S : ST} {s t c : Int32} (h : WS S) : WS (fAdd S s t c).2 := by
  unfold fAdd
  split
  · next e =>
    simp only [Bool.and_eq_true] at e
    split
    · exact h
    · exact h.s1 (by rw [cu_addP, h.2.2.1 _ (bN_lt e.1.1 (by omega)), h.2.2.1 _ (bN_lt e.1.2 (by omega))])
  · exact h
theorem ws_give {S : ST} {g s : Int32} (h : WS S) : WS (fGive S g s).2 := by
  have hn7 := h.2.1.1
  unfold fGive
  split
  · next e =>
    simp only [Bool.and_eq_true] at e
    exact h.s1 (h.2.1.2.1 _ (bN_lt e.1 (by omega))).2.2.1
  · exact h
theorem ws_loosen {S : ST} (h : WS S) : WS (fLoosen S).2 := by
  obtain ⟨a1, a2, a3, a4, a5, -, a7⟩ := h
  exact ⟨a1, a2, a3, a4, a5, ⟨Nat.zero_le _, fun l hl => absurd hl (Nat.not_lt_zero _)⟩, a7⟩
theorem ws_keep {S : ST} (h : WS S) : WS (fKeep S).2 := by
  obtain ⟨a1, a2, a3, a4, a5, a6, -⟩ := h
  refine ⟨a1, a2, a3, a4, a5, a6, fun k hk => ?_⟩
  have hk' : some (tS S, tO S, tG S) = some k := hk
  cases hk'
  exact ⟨a1, a2, a3⟩
theorem ws_back {S : ST} (h : WS S) : WS (fBack S).2 := by
  cases hx : tX S with
  | none => simp only [fBack, hx]; exact h
  | some k =>
    simp only [fBack, hx]
    obtain ⟨a1, a2, a3, a4, a5, a6, a7⟩ := h
    obtain ⟨k1, k2, k3⟩ := a7 k hx
    exact ⟨k1, k2, k3, (fun e => by cases e), a5, a6, a7⟩
theorem ws_move {S : ST} {a i c j m : Int32} (h : WS S) : WS (fMove S a i c j m).2 := by
  unfold fMove
  split
  · split
    · exact h
    · split
      · exact h
      · split
        · exact h
        · exact h
  · exact h
theorem ws_spread {S : ST} {s x a : Int32} (h : WS S) : WS (fSpread S s x a).2 := by
  unfold fSpread
  split
  · split
    · exact h
    · split
      · exact h
      · exact h
  · exact h
