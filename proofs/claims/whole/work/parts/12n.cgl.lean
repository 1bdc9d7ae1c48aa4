/-! ===== both grids are one: what is wanted of it, what follows ===== -/
def cgL (Gt : GT) : Prop := (laG Gt 0).1 = pvc (cgF Gt) 0 3 ∧ (laG Gt 1).1 = pvc (cgF Gt) 3 7 ∧ (∀ i, i < pvc (cgF Gt) 0 3 → (laG Gt 0).2.2 i = pcl (cgF Gt) i 10 0 0 ∧ ∀ j, (laG Gt 0).2.1 i j = if j < 3 then cgF Gt (pcl (cgF Gt) i 10 0 0) j else 0) ∧ (∀ i, i < pvc (cgF Gt) 3 7 → 3 + (laG Gt 1).2.2 i = pcl (cgF Gt) i 7 3 0 ∧ ∀ j, j < 7 → (laG Gt 1).2.1 i j = cgF Gt (pcl (cgF Gt) i 7 3 0) (3 + j)) ∧ (∀ c j, c < 10 → j < c → cgF Gt c j = 0) ∧ ∀ c, c < 10 → 0 < cgF Gt c c ∨ cgF Gt c c = 0
theorem gRank_eq {S : ST} (h : cgL (tG S)) (x : Int32) : gRank S x = fRank S x := by
  unfold gRank fRank cgB
  by_cases e : bN x 2 = true
  · rw [if_pos e, if_pos e]
    have hx : ni x = 0 ∨ ni x = 1 := by
      unfold bN at e
      unfold ni
      simp only [Bool.and_eq_true, decide_eq_true_eq] at e
      omega
    rcases hx with q | q
    · rw [q, if_pos rfl, h.2.1]
    · rw [q, if_neg (by decide), h.1]
  · rw [if_neg e, if_neg e]
theorem bN_ni {x : Int32} {n : Nat} (h : bN x n = true) (hn : n < 2 ^ 31) : ni x < n := by
  unfold bN at h
  unfold ni
  simp only [Bool.and_eq_true, decide_eq_true_eq] at h
  omega
theorem gLattice_eq {S : ST} (h : cgL (tG S)) (hn : gN (tG S) ≤ 7) (x y : Int32) : gLattice S x y = fLattice S x y := by
  unfold gLattice fLattice cgB
  rw [h.2.1]
  by_cases e : (bN y (gN (tG S)) && bN x (pvc (cgF (tG S)) 3 7)) = true
  · rw [if_pos e, if_pos e]
    rw [Bool.and_eq_true] at e
    have hpv := pvc_le (cgF (tG S)) 3 7
    have h1 := bN_ni e.1 (by omega)
    have h2 := bN_ni e.2 (by omega)
    rw [(h.2.2.2.1 _ h2).2 _ (by omega)]
  · rw [if_neg e, if_neg e]
theorem gSpan_eq {S : ST} (h : cgL (tG S)) (x y : Int32) : gSpan S x y = fSpan S x y := by
  unfold gSpan fSpan cgB
  rw [h.1]
  by_cases e : (bN y 3 && bN x (pvc (cgF (tG S)) 0 3)) = true
  · rw [if_pos e, if_pos e]
    rw [Bool.and_eq_true] at e
    have hpv := pvc_le (cgF (tG S)) 0 3
    have h1 := bN_ni e.1 (by omega)
    have h2 := bN_ni e.2 (by omega)
    rw [(h.2.2.1 _ h2).2, if_pos h1]
  · rw [if_neg e, if_neg e]
theorem gIndex_eq {S : ST} (h : cgL (tG S)) : gIndex S = fIndex S := by
  obtain ⟨h1, -, h3, -, h5, h6⟩ := h
  unfold gIndex fIndex cgB
  rw [h1]
  have p0 := h6 0 (by omega)
  have p1 := h6 1 (by omega)
  have p2 := h6 2 (by omega)
  by_cases e0 : 0 < cgF (tG S) 0 0
  · by_cases e1 : 0 < cgF (tG S) 1 1
    · by_cases e2 : 0 < cgF (tG S) 2 2
      · have hp : pvc (cgF (tG S)) 0 3 = 3 := by simp [pvc, e0, e1, e2]
        rw [hp] at h3
        rw [hp, if_pos rfl]
        have c0 : pcl (cgF (tG S)) 0 10 0 0 = 0 := by simp [pcl, e0]
        have c1 : pcl (cgF (tG S)) 1 10 0 0 = 1 := by simp [pcl, e0, e1]
        have c2 : pcl (cgF (tG S)) 2 10 0 0 = 2 := by simp [pcl, e0, e1, e2]
        obtain ⟨a0, b0⟩ := h3 0 (by omega)
        obtain ⟨a1, b1⟩ := h3 1 (by omega)
        obtain ⟨a2, b2⟩ := h3 2 (by omega)
        rw [c0] at a0 b0
        rw [c1] at a1 b1
        rw [c2] at a2 b2
        simp only [pdF, a0, a1, a2, b0, b1, b2]
        simp
      · have hp : ¬ pvc (cgF (tG S)) 0 3 = 3 := by simp [pvc, e0, e1, e2]
        rw [if_neg hp, p2.resolve_left e2]
        simp
    · have hp : ¬ pvc (cgF (tG S)) 0 3 = 3 := by
        simp only [pvc]
        repeat' split
        all_goals first | omega | (exfalso; rename_i q1 q2 q3; first | exact e1 q2 | exact e1 q1 | exact e1 q3)
      rw [if_neg hp, p1.resolve_left e1]
      simp
  · have hp : ¬ pvc (cgF (tG S)) 0 3 = 3 := by
      simp only [pvc]
      split <;> split <;> split <;> first | omega | (exfalso; rename_i q1 q2 q3; first | exact e0 q1 | exact e0 q2 | exact e0 q3)
    rw [if_neg hp, p0.resolve_left e0]
    simp
theorem pvc_s (B : LM) : ∀ k f, pvc B f (k + 1) = (if 0 < B f f then 1 else 0) + pvc B (f + 1) k
  | 0, f => by rw [pvc, pvc, pvc, Nat.add_zero, Nat.zero_add, Nat.add_zero]
  | k + 1, f => by
    rw [pvc, pvc_s B k f, pvc, show f + 1 + k = f + (k + 1) by omega, Nat.add_assoc]
theorem pcl_ge (B : LM) : ∀ f c a i, i < a + pvc B c f → a ≤ i → c ≤ pcl B i f c a
  | 0, c, a, i, h, h2 => by rw [pvc] at h; omega
  | f + 1, c, a, i, h, h2 => by
    rw [pvc_s] at h
    rw [pcl]
    by_cases e : 0 < B c c
    · rw [if_pos e] at h ⊢
      split
      · exact Nat.le_refl _
      · have := pcl_ge B f (c + 1) (a + 1) i (by omega) (by omega)
        omega
    · rw [if_neg e] at h ⊢
      have := pcl_ge B f (c + 1) a i (by omega) h2
      omega
theorem pcl_sh (B : LM) : ∀ f c a i, pcl B (i + 1) f c (a + 1) = pcl B i f c a
  | 0, _, _, _ => rfl
  | f + 1, c, a, i => by
    rw [pcl, pcl]
    by_cases e : 0 < B c c
    · rw [if_pos e, if_pos e]
      by_cases e2 : a = i
      · rw [if_pos e2, if_pos (by omega)]
      · rw [if_neg e2, if_neg (by omega)]; exact pcl_sh B f (c + 1) (a + 1) i
    · rw [if_neg e, if_neg e]; exact pcl_sh B f (c + 1) a i
/-- reduction by rows in turn: the class goes by columns, the reference by rows -/
theorem tks_sh (M : LM) (pv : Nat → Nat) (s : Nat → Int64) : ∀ i, tks M pv s (i + 1) = tks (fun q => M (q + 1)) (fun q => pv (q + 1)) (fun j => s j - tkq M pv s 0 * M 0 j) i
  | 0 => rfl
  | i + 1 => by
    rw [tks, tks_sh M pv s i, tks]
    rfl
theorem part_go {B : LM} : ∀ f c (M : LM) (pv : Nat → Nat) (s : Nat → Int64) (i : Nat) (q : Int64), i < pvc B c f → 3 ≤ c → c + f ≤ 10 → (∀ x, x < pvc B c f → 3 + pv x = pcl B x f c 0 ∧ ∀ j, j < 7 → M x j = B (pcl B x f c 0) (3 + j)) → (∀ t : Nat → Int64, (∀ j, j < 7 → t (3 + j) = s j) → rpF B (pcl B i f c 0 + 1 - c) c t q = tkq M pv (tks M pv s i) i)
  | 0, c, M, pv, s, i, q, hi, _, _, _ => by rw [pvc] at hi; omega
  | f + 1, c, M, pv, s, i, q, hi, h3, h10, hM => by
    intro t ht
    by_cases e : 0 < B c c
    · have p0 : pcl B 0 (f + 1) c 0 = c := by rw [pcl, if_pos e, if_pos rfl]
      obtain ⟨m0, m1⟩ := hM 0 (by rw [pvc_s, if_pos e]; omega)
      rw [p0] at m0 m1
      have mc : M 0 (pv 0) = B c c := by rw [m1 _ (by omega), m0]
      have tc : t c = s (pv 0) := by rw [← ht _ (by omega), m0]
      cases i with
      | zero =>
        rw [p0, show c + 1 - c = 0 + 1 by omega, rpF, if_pos e, rpF, tks, tkq, mc, tc]
      | succ i =>
        have pi : pcl B (i + 1) (f + 1) c 0 = pcl B i f (c + 1) 0 := by rw [pcl, if_pos e, if_neg (by omega), pcl_sh]
        rw [pvc_s, if_pos e] at hi
        have hge : c + 1 ≤ pcl B i f (c + 1) 0 := pcl_ge B f (c + 1) 0 i (by omega) (by omega)
        rw [pi, show pcl B i f (c + 1) 0 + 1 - c = (pcl B i f (c + 1) 0 + 1 - (c + 1)) + 1 by omega, rpF, if_pos e]
        have ih := part_go (B := B) f (c + 1) (fun q => M (q + 1)) (fun q => pv (q + 1)) (fun j => s j - tkq M pv s 0 * M 0 j) i (t c / B c c) (by omega) (by omega) (by omega) (fun x hx => by
          have := hM (x + 1) (by rw [pvc_s, if_pos e]; omega)
          rw [show pcl B (x + 1) (f + 1) c 0 = pcl B x f (c + 1) 0 by rw [pcl, if_pos e, if_neg (by omega), pcl_sh]] at this
          exact this) (fun j => t j - t c / B c c * B c j) (fun j hj => by
          show t (3 + j) - t c / B c c * B c (3 + j) = s j - tkq M pv s 0 * M 0 j
          rw [ht j hj, m1 j hj, tkq, mc, tc])
        rw [ih, tks_sh]
        rfl
    · rw [pvc_s, if_neg e, Nat.zero_add] at hi
      have pi : ∀ x, pcl B x (f + 1) c 0 = pcl B x f (c + 1) 0 := fun x => by rw [pcl, if_neg e]
      have hge : c + 1 ≤ pcl B i f (c + 1) 0 := pcl_ge B f (c + 1) 0 i (by omega) (by omega)
      rw [pi, show pcl B i f (c + 1) 0 + 1 - c = (pcl B i f (c + 1) 0 + 1 - (c + 1)) + 1 by omega, rpF, if_neg e]
      exact part_go (B := B) f (c + 1) M pv s i q hi (by omega) (by omega) (fun x hx => by
        have := hM x (by rw [pvc_s, if_neg e, Nat.zero_add]; exact hx)
        rw [pi] at this
        exact this) t ht
theorem gPart_eq {S : ST} (h : cgL (tG S)) (x y z : Int32) : gPart S x y z = fPart S x y z := by
  unfold gPart fPart cgB
  rw [h.2.1]
  by_cases e : (bB x 1 6 && bN y (tRl S (ni x)).length && bN z (pvc (cgF (tG S)) 3 7)) = true
  · rw [if_pos e, if_pos e]
    rw [Bool.and_eq_true] at e
    have hpv := pvc_le (cgF (tG S)) 3 7
    have h2 := bN_ni e.2 (by omega)
    rw [part_go 7 3 (laG (tG S) 1).2.1 (laG (tG S) 1).2.2 (fun g => (nI (pw ((tRl S (ni x)).getD (ni y) (0, 0)).1 g) - nI (pw ((tRl S (ni x)).getD (ni y) (0, 0)).2 g)).toInt64) (ni z) 0 h2 (by omega) (by omega) h.2.2.2.1 (dfR ((tRl S (ni x)).getD (ni y) (0, 0)).1 ((tRl S (ni x)).getD (ni y) (0, 0)).2) (fun j hj => by unfold dfR; rw [if_pos (by omega), show 3 + j - 3 = j by omega])]
  · rw [if_neg e, if_neg e]
theorem zF_1 {s : Nat → Int64} : ∀ k, zF s k = 1 ↔ ∀ j, j < k → s j = 0
  | 0 => by rw [zF]; exact ⟨fun _ j hj => by omega, fun _ => rfl⟩
  | k + 1 => by
    rw [zF]
    by_cases e : zF s k = 1 ∧ s k = 0
    · rw [if_pos e]
      refine ⟨fun _ j hj => ?_, fun _ => rfl⟩
      by_cases e2 : j = k
      · rw [e2]; exact e.2
      · exact (zF_1 k).mp e.1 j (by omega)
    · rw [if_neg e]
      refine ⟨fun q => by omega, fun q => ?_⟩
      exact absurd ⟨(zF_1 k).mpr (fun j hj => q j (by omega)), q k (by omega)⟩ e
/-- columns that no row to come reaches stay as they are -/
theorem tks_col {M : LM} {pv : Nat → Nat} {c : Nat} : ∀ i s, (∀ x, x < i → M x c = 0) → tks M pv s i c = s c
  | 0, s, _ => rfl
  | i + 1, s, h => by
    show tks M pv s i c - tkq M pv (tks M pv s i) i * M i c = s c
    rw [tks_col i s (fun x hx => h x (by omega)), h i (by omega)]
    simp
theorem span_go {B : LM} (h5 : ∀ c j, c < 10 → j < c → B c j = 0) : ∀ f c (M : LM) (pv : Nat → Nat) (s t : Nat → Int64), c + f = 3 → (∀ x, x < pvc B c f → pv x = pcl B x f c 0 ∧ ∀ j, M x j = if j < 3 then B (pcl B x f c 0) j else 0) → (∀ j, j < 3 → t j = s j) → (∀ j, 3 ≤ j → s j = 0) → (∀ j, j < c → s j = 0) → (spL B f c t = true ↔ ∀ j, j < 7 → tks M pv s (pvc B c f) j = 0)
  | 0, c, M, pv, s, t, hc, hM, ht, hs, hz => by
    rw [spL, pvc, tks]
    refine ⟨fun _ j _ => ?_, fun _ => rfl⟩
    by_cases e : j < 3
    · exact hz j (by omega)
    · exact hs j (by omega)
  | f + 1, c, M, pv, s, t, hc, hM, ht, hs, hz => by
    have hlow : ∀ x, x < pvc B (c + 1) f → c + 1 ≤ pcl B x f (c + 1) 0 ∧ pcl B x f (c + 1) 0 < 10 := fun x hx => ⟨pcl_ge B f (c + 1) 0 x (by omega) (by omega), pcl_lt B x f (c + 1) 0 (by omega)⟩
    by_cases e : 0 < B c c
    · have p0 : pcl B 0 (f + 1) c 0 = c := by rw [pcl, if_pos e, if_pos rfl]
      obtain ⟨m0, m1⟩ := hM 0 (by rw [pvc_s, if_pos e]; omega)
      rw [p0] at m0 m1
      have mc : M 0 (pv 0) = B c c := by rw [m1, m0, if_pos (by omega)]
      have tq : tkq M pv s 0 = t c / B c c := by rw [tkq, mc, m0, ht c (by omega)]
      have hpx : ∀ x, pcl B (x + 1) (f + 1) c 0 = pcl B x f (c + 1) 0 := fun x => by rw [pcl, if_pos e, if_neg (by omega), pcl_sh]
      have hM2 : ∀ x, x < pvc B (c + 1) f → pv (x + 1) = pcl B x f (c + 1) 0 ∧ ∀ j, M (x + 1) j = if j < 3 then B (pcl B x f (c + 1) 0) j else 0 := fun x hx => by
        have := hM (x + 1) (by rw [pvc_s, if_pos e]; omega)
        rw [hpx] at this
        exact this
      have es : sbR B c t = fun j => t j - t c / B c c * B c j := if_pos e
      have hs1 : ∀ j, j < 3 → (fun j => t j - t c / B c c * B c j) j = (fun j => s j - tkq M pv s 0 * M 0 j) j := fun j hj => by
        show t j - t c / B c c * B c j = s j - tkq M pv s 0 * M 0 j
        rw [tq, m1, if_pos hj, ht j hj]
      rw [pvc_s, if_pos e, Nat.add_comm 1, tks_sh, spL, es]
      by_cases hcz : t c - t c / B c c * B c c = 0
      · rw [if_pos hcz]
        refine span_go h5 f (c + 1) (fun q => M (q + 1)) (fun q => pv (q + 1)) (fun j => s j - tkq M pv s 0 * M 0 j) _ (by omega) hM2 hs1 (fun j hj => ?_) (fun j hj => ?_)
        · show s j - tkq M pv s 0 * M 0 j = 0
          rw [hs j hj, m1, if_neg (by omega)]; simp
        · by_cases e2 : j = c
          · rw [e2]; exact (hs1 c (by omega)).symm.trans hcz
          · show s j - tkq M pv s 0 * M 0 j = 0
            rw [hz j (by omega), m1, if_pos (by omega), h5 c j (by omega) (by omega)]; simp
      · rw [if_neg hcz]
        refine ⟨fun q => by simp at q, fun q => ?_⟩
        have := q c (by omega)
        rw [tks_col _ _ (fun x hx => by
          rw [(hM2 x hx).2, if_pos (by omega)]
          exact h5 _ _ (hlow x hx).2 (by have := (hlow x hx).1; omega))] at this
        exact absurd ((hs1 c (by omega)).trans this) hcz
    · have hpx : ∀ x, pcl B x (f + 1) c 0 = pcl B x f (c + 1) 0 := fun x => by rw [pcl, if_neg e]
      have ep : pvc B c (f + 1) = pvc B (c + 1) f := by rw [pvc_s, if_neg e, Nat.zero_add]
      rw [ep] at hM ⊢
      have hM2 : ∀ x, x < pvc B (c + 1) f → pv x = pcl B x f (c + 1) 0 ∧ ∀ j, M x j = if j < 3 then B (pcl B x f (c + 1) 0) j else 0 := fun x hx => by
        have := hM x hx
        rw [hpx] at this
        exact this
      have es : sbR B c t = t := if_neg e
      rw [spL, es]
      by_cases hcz : t c = 0
      · rw [if_pos hcz]
        refine span_go h5 f (c + 1) M pv s t (by omega) hM2 ht hs (fun j hj => ?_)
        by_cases e2 : j = c
        · rw [e2, ← ht c (by omega)]; exact hcz
        · exact hz j (by omega)
      · rw [if_neg hcz]
        refine ⟨fun q => by simp at q, fun q => ?_⟩
        have := q c (by omega)
        rw [tks_col _ _ (fun x hx => by
          rw [(hM2 x hx).2, if_pos (by omega)]
          exact h5 _ _ (hlow x hx).2 (by have := (hlow x hx).1; omega)), ← ht c (by omega)] at this
        exact absurd this hcz
theorem pcl_3 {B : LM} {i : Nat} : ∀ k f c a, i < a + pvc B c k → a ≤ i → pcl B i (k + f) c a = pcl B i k c a
  | 0, f, c, a, h, h2 => by rw [pvc] at h; omega
  | k + 1, f, c, a, h, h2 => by
    rw [pvc_s] at h
    rw [show k + 1 + f = (k + f) + 1 by omega, pcl, pcl]
    by_cases e : 0 < B c c
    · rw [if_pos e] at h ⊢
      rw [if_pos e]
      by_cases e2 : a = i
      · rw [if_pos e2, if_pos e2]
      · rw [if_neg e2, if_neg e2]; exact pcl_3 k f (c + 1) (a + 1) (by omega) (by omega)
    · rw [if_neg e] at h ⊢
      rw [if_neg e]
      exact pcl_3 k f (c + 1) a (by omega) h2
theorem gInSpan_eq {S : ST} (h : cgL (tG S)) (x y z : Int32) : gInSpan S x y z = fInSpan S x y z := by
  unfold gInSpan fInSpan cgB
  rw [h.1]
  by_cases e : (bB x (-999) 999 && bB y (-999) 999 && bB z (-999) 999) = true
  · rw [if_pos e, if_pos e]
    have key := span_go h.2.2.2.2.1 3 0 (laG (tG S) 0).2.1 (laG (tG S) 0).2.2 (s3F x y z) (s3F x y z) rfl (fun i hi => by
      have := h.2.2.1 i hi
      rw [show (10 : Nat) = 3 + 7 from rfl, pcl_3 3 7 0 0 (by omega) (by omega)] at this
      exact this) (fun _ _ => rfl) (fun j hj => by unfold s3F; rw [if_neg (by omega), if_neg (by omega), if_neg (by omega)]) (fun j hj => by omega)
    rcases zF_01 (tks (laG (tG S) 0).2.1 (laG (tG S) 0).2.2 (s3F x y z) (pvc (cgF (tG S)) 0 3)) 7 with q | q
    · rw [q, if_neg (fun k => by
        have := (zF_1 7).mpr (key.mp k)
        omega)]
    · rw [q, if_pos (key.mpr ((zF_1 7).mp q))]
  · rw [if_neg e, if_neg e]
