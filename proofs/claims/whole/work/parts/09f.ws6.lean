/-! ===== the state stays as it must be: subduct, complete ===== -/
theorem ws_subduct {S : ST} {s : Int32} (h : WS S) : WS (fSubduct S s).2 := by
  unfold fSubduct
  split
  · next e =>
    have hs := h.2.2.1 _ (bN_lt e (by omega))
    split
    · exact h
    · next q hq =>
      have hn7 := h.2.1.1
      have hl : ∀ i, i < gN (tG S) → gL (tG S) i < 84 ∧ 1 ≤ eD (gL (tG S) i) := fun i hi => ⟨(h.2.1.2.1 i hi).1, (h.2.1.2.1 i hi).2.1⟩
      have ho := apt_ok (fun r => r < 2097152 ∧ rdeg (gL (tG S)) r (gN (tG S)) ≤ 6 ∧ ∀ h, gN (tG S) ≤ h → h < 7 → pw r h = 0) (fun t w ws hR => by
        have := RN_ok (i := 0) (r := w) (t := t) hn7 hl (by rw [hR]; rfl)
        exact ⟨this.1, this.2.1, this.2.2.1⟩) 84 _ [] q hs (fun _ hm => by cases hm) hq
      obtain ⟨a1, a2, a3, a4, a5⟩ := h.s1 (k := ni s) ho.1
      have hlen : q.2.length ≤ 84 := by have := ho.2.1; simpa using this
      exact ⟨a1, a2, a3, (fun _ => ⟨hlen, ho.2.2⟩), a5⟩
  · exact h
theorem rdeg_gx {g g' : GT} {r : Nat} (h : GEx g g') : ∀ k, k ≤ gN g → rdeg (gL g') r k = rdeg (gL g) r k
  | 0, _ => rfl
  | k + 1, hk => by rw [rdeg, rdeg, rdeg_gx h k (by omega), (h.2 k (by omega)).1]
theorem rdeg_up {gl : Nat → Nat} {r n : Nat} (h : ∀ i, n ≤ i → i < 7 → pw r i = 0) : ∀ k, n + k ≤ 7 → rdeg gl r (n + k) = rdeg gl r n
  | 0, _ => rfl
  | k + 1, hk => by rw [← Nat.add_assoc, rdeg, rdeg_up h k (by omega), h (n + k) (by omega) (by omega), Nat.zero_mul, Nat.add_zero]
theorem ws_gx {S : ST} {g : GT} (h : WS S) (hx : GEx (tG S) g) (hg : WG (tO S) g) : WS (stG S g) := by
  obtain ⟨a1, a2, a3, a4, a5⟩ := h
  refine ⟨a1, hg, a3, fun e => ⟨(a4 e).1, fun q hq => ?_⟩, a5⟩
  obtain ⟨b1, b2, b3⟩ := (a4 e).2 q hq
  have h1 := hx.1
  have h2 := hg.1
  refine ⟨b1, ?_, fun i hi h7 => b3 i (Nat.le_trans h1 hi) h7⟩
  show rdeg (gL g) q.2 (gN g) ≤ 6
  rw [show gN g = gN (tG S) + (gN g - gN (tG S)) by omega, rdeg_up b3 _ (by omega), rdeg_gx hx _ (Nat.le_refl _)]
  exact b2
theorem ws_complete {S : ST} {d : Int32} (h : WS S) : WS (fComplete S d).2 := by
  unfold fComplete
  split
  · exact ws_gx h (grw_gx _ _ _) (grw_wg h.1 _ _ _ h.2.1)
  · exact h
