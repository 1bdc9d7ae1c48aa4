/-! ===== both grids are one, where both are as they should be ===== -/
theorem cntP {B : LM} : ∀ w f k (pv : Nat → Nat), (∀ x y, x < y → y < k → pv x < pv y) → (∀ i, i < k → pv i < w) → (∀ c, c < w → (0 < B (f + c) (f + c) ↔ ∃ i, i < k ∧ pv i = c)) → pvc B f w = k ∧ ∀ i, i < k → ∀ e, pcl B i (w + e) f 0 = f + pv i
  | 0, f, k, pv, _, hb, _ => by
    have : k = 0 := by
      by_cases e : k = 0
      · exact e
      · have := hb 0 (by omega); omega
    subst this
    exact ⟨rfl, fun i hi => by omega⟩
  | w + 1, f, k, pv, hm, hb, hp => by
    have h0 := hp 0 (by omega)
    rw [Nat.add_zero] at h0
    have sh : ∀ c, f + 1 + c = f + (c + 1) := fun c => by omega
    by_cases e : 0 < B f f
    · obtain ⟨i0, hi0, hz⟩ := h0.mp e
      have e0 : i0 = 0 := by
        by_cases q : i0 = 0
        · exact q
        · have := hm 0 i0 (by omega) hi0; omega
      subst e0
      obtain ⟨k, rfl⟩ : ∃ k', k = k' + 1 := ⟨k - 1, by omega⟩
      have hpos : ∀ i, i < k → 1 ≤ pv (i + 1) := fun i hi => by have := hm 0 (i + 1) (by omega) (by omega); omega
      obtain ⟨r1, r2⟩ := cntP (B := B) w (f + 1) k (fun i => pv (i + 1) - 1) (fun x y h1 h2 => by
        have := hm (x + 1) (y + 1) (by omega) (by omega)
        have := hpos x (by omega)
        show pv (x + 1) - 1 < pv (y + 1) - 1
        omega) (fun i hi => by
        have := hb (i + 1) (by omega)
        have := hpos i hi
        show pv (i + 1) - 1 < w
        omega) (fun c hc => by
        rw [sh c, hp (c + 1) (by omega)]
        constructor
        · rintro ⟨i, hi, ei⟩
          have : i ≠ 0 := fun q => by rw [q] at ei; omega
          exact ⟨i - 1, by omega, by show pv (i - 1 + 1) - 1 = c; rw [show i - 1 + 1 = i by omega]; omega⟩
        · rintro ⟨i, hi, ei⟩
          have ei : pv (i + 1) - 1 = c := ei
          have := hpos i hi
          exact ⟨i + 1, by omega, by omega⟩)
      refine ⟨by rw [pvc_s, if_pos e, r1]; omega, fun i hi x => ?_⟩
      rw [show w + 1 + x = (w + x) + 1 by omega, pcl, if_pos e]
      by_cases q : i = 0
      · rw [q, if_pos rfl, hz, Nat.add_zero]
      · rw [if_neg (by omega)]
        obtain ⟨i, rfl⟩ : ∃ i', i = i' + 1 := ⟨i - 1, by omega⟩
        rw [pcl_sh, r2 i (by omega) x]
        have := hpos i (by omega)
        show f + 1 + (pv (i + 1) - 1) = _
        omega
    · have hpos : ∀ i, i < k → 1 ≤ pv i := fun i hi => by
        by_cases q : pv i = 0
        · exact absurd (h0.mpr ⟨i, hi, q⟩) e
        · omega
      obtain ⟨r1, r2⟩ := cntP (B := B) w (f + 1) k (fun i => pv i - 1) (fun x y h1 h2 => by
        have := hm x y h1 h2
        have := hpos x (by omega)
        show pv x - 1 < pv y - 1
        omega) (fun i hi => by
        have := hb i hi
        have := hpos i hi
        show pv i - 1 < w
        omega) (fun c hc => by
        rw [sh c, hp (c + 1) (by omega)]
        constructor
        · rintro ⟨i, hi, ei⟩
          exact ⟨i, hi, by show pv i - 1 = c; omega⟩
        · rintro ⟨i, hi, ei⟩
          have ei : pv i - 1 = c := ei
          have := hpos i hi
          exact ⟨i, hi, by omega⟩)
      refine ⟨by rw [pvc_s, if_neg e, r1]; omega, fun i hi x => ?_⟩
      rw [show w + 1 + x = (w + x) + 1 by omega, pcl, if_neg e, r2 i hi x]
      have := hpos i hi
      show f + 1 + (pv i - 1) = _
      omega
/-- the reference's block is as it should be -/
def RfB (w k : Nat) (pv : Nat → Nat) (A : LM) (Z : LZ) (S : (Nat → Int) → Prop) : Prop := (∀ x y, x < y → y < k → pv x < pv y) ∧ (∀ i, i < k → pv i < w) ∧ (∀ i j, i < k → j < w → ∃ t : Int, Z i j = (A i j).toInt + t * 18446744073709551616) ∧ (∀ i, i < k → rg (Z i (pv i)) ∧ 0 < Z i (pv i)) ∧ HN w (grP k pv Z) ∧ ∀ y, spL0 w (grP k pv Z) y ↔ S y
def RfOK (Gt : GT) (Mz : LZ) : Prop := (∃ Z, RfB 3 (laG Gt 0).1 (laG Gt 0).2.2 (laG Gt 0).2.1 Z (spE Mz (gN Gt))) ∧ ∃ Z, RfB 7 (laG Gt 1).1 (laG Gt 1).2.2 (laG Gt 1).2.1 Z (spK Mz (gN Gt))
theorem img_eq {a b : Int64} {x : Int} (h1 : ∃ t : Int, x = a.toInt + t * 18446744073709551616) (h2 : ∃ t : Int, x = b.toInt + t * 18446744073709551616) : a = b := by
  obtain ⟨t, e1⟩ := h1
  obtain ⟨t', e2⟩ := h2
  have g1 := a.le_toInt
  have g2 := a.toInt_lt
  have g3 := b.le_toInt
  have g4 := b.toInt_lt
  exact Int64.toInt_inj.mp (by omega)
theorem grP_pos {w k : Nat} {pv : Nat → Nat} {A : LM} {Z : LZ} {S : (Nat → Int) → Prop} (h : RfB w k pv A Z S) {c : Nat} : (0 < grP k pv Z c c ↔ ∃ i, i < k ∧ pv i = c) ∧ rg (grP k pv Z c c) := by
  by_cases e : ∃ i, i < k ∧ pv i = c
  · obtain ⟨i, hi, ei⟩ := e
    rw [← ei, grP_at k i hi h.1]
    exact ⟨⟨fun _ => ⟨i, hi, rfl⟩, fun _ => (h.2.2.2.1 i hi).2⟩, (h.2.2.2.1 i hi).1⟩
  · rw [grP_no k (fun i hi q => e ⟨i, hi, q⟩)]
    exact ⟨⟨fun q => absurd q (Int.lt_irrefl 0), fun q => absurd q e⟩, show (0 : Int).natAbs < 9223372036854775808 by decide⟩
theorem laG_hi (Gt : GT) (i : Nat) {j : Nat} (hj : 3 ≤ j) : (laG Gt 0).2.1 i j = 0 := by
  unfold laG laF
  cases rcF (gN Gt) 0 0 fuC 3 0 (laM Gt, 0, fun _ => 0) with
  | none => rfl
  | some s =>
    show (if j < 3 then s.1 i j else 0) = 0
    rw [if_neg (by omega)]
theorem cgL_of {Gt : GT} {Mz : LZ} (hM : GC (laM Gt) Mz) (ok : okG Mz (gN Gt)) (hr : RfOK Gt Mz) : cgL Gt := by
  obtain ⟨⟨Z0, r0⟩, ⟨Z1, r1⟩⟩ := hr
  have g : GC (cgF Gt) (cgZ Mz (gN Gt)) := cg_sim hM _ ok
  have hh := cg_hn _ ok
  have u0 := (cg_e ok).1.uqS r0.2.2.2.2.1 (cg_e ok).2 r0.2.2.2.2.2
  have u1 := (cg_k ok).1.uqS r1.2.2.2.2.1 (cg_k ok).2 r1.2.2.2.2.2
  have p0 : ∀ c, c < 3 → rg (cgZ Mz (gN Gt) c c) := fun c hc => by rw [u0 c c hc hc]; exact (grP_pos r0).2
  have p1 : ∀ c, c < 7 → rg (cgZ Mz (gN Gt) (3 + c) (3 + c)) := fun c hc => by rw [u1 c c hc hc]; exact (grP_pos r1).2
  have pr : ∀ c, c < 10 → rg (cgZ Mz (gN Gt) c c) := fun c hc => by
    by_cases e : c < 3
    · exact p0 c e
    · have := p1 (c - 3) (by omega)
      rwa [show 3 + (c - 3) = c by omega] at this
  obtain ⟨n0, c0⟩ := cntP (B := cgF Gt) 3 0 (laG Gt 0).1 (laG Gt 0).2.2 r0.1 r0.2.1 (fun c hc => by
    rw [Nat.zero_add, (g c).g (pr c (by omega)), u0 c c hc hc]; exact (grP_pos r0).1)
  obtain ⟨n1, c1⟩ := cntP (B := cgF Gt) 7 3 (laG Gt 1).1 (laG Gt 1).2.2 r1.1 r1.2.1 (fun c hc => by
    rw [(g (3 + c)).g (pr (3 + c) (by omega)), u1 c c hc hc]; exact (grP_pos r1).1)
  refine ⟨n0.symm, n1.symm, fun i hi => ?_, fun i hi => ?_, fun c j hc hj => ?_, fun c hc => ?_⟩
  · rw [n0] at hi
    have e := c0 i hi 7
    rw [Nat.zero_add] at e
    rw [e]
    refine ⟨rfl, fun j => ?_⟩
    by_cases ej : j < 3
    · rw [if_pos ej]
      have hp := r0.2.1 i hi
      refine img_eq (r0.2.2.1 i j hi ej) ?_
      have := g ((laG Gt 0).2.2 i) j
      rwa [u0 _ j hp ej, grP_at _ i hi r0.1] at this
    · rw [if_neg ej]; exact laG_hi Gt i (by omega)
  · rw [n1] at hi
    have e := c1 i hi 0
    rw [Nat.add_zero] at e
    rw [e]
    refine ⟨rfl, fun j hj => ?_⟩
    have hp := r1.2.1 i hi
    refine img_eq (r1.2.2.1 i j hi hj) ?_
    have := g (3 + (laG Gt 1).2.2 i) (3 + j)
    have q : cgZ Mz (gN Gt) (3 + (laG Gt 1).2.2 i) (3 + j) = grP (laG Gt 1).1 (laG Gt 1).2.2 Z1 ((laG Gt 1).2.2 i) j := u1 _ j hp hj
    rwa [q, grP_at _ i hi r1.1] at this
  · exact ((g c).z (by rw [hh.1 c j hc hj]; unfold rg; decide)).mpr (hh.1 c j hc hj)
  · by_cases e : cgZ Mz (gN Gt) c c = 0
    · exact Or.inr (((g c).z (pr c hc)).mpr e)
    · exact Or.inl (((g c).g (pr c hc)).mpr (by have := hh.2.1 c hc; omega))
/-- the rows as whole numbers -/
def mzOf (Gt : GT) : LZ := fun g j => (laM Gt g j).toInt
theorem mz_gc (Gt : GT) : GC (laM Gt) (mzOf Gt) := fun _ => RC.of (fun _ => rfl)
/-- what is left to show: that all that is read is in range, on both sides -/
theorem CGL_of (h1 : ∀ S, WS S → okG (mzOf (tG S)) (gN (tG S))) (h2 : ∀ S, WS S → RfOK (tG S) (mzOf (tG S))) : CGL := fun S hW => cgL_of (mz_gc (tG S)) (h1 S hW) (h2 S hW)
