/-! ===== the grid is reduced: what is spanned, what comes out ===== -/
theorem spL0.el1 {w a c : Nat} {B : LZ} {x : Nat → Int} (q : Int) (ha : a < w) (hc : c < w) (hac : a ≠ c) (hx : spL0 w B x) : spL0 w (upn B a (fun j => B a j - q * B c j)) x := by
  obtain ⟨z, hz⟩ := hx
  refine ⟨upn z c (z c + q * z a), fun j hj => ?_⟩
  rw [hz j hj]
  have e1 := sg_set (f := fun i => upn z c (z c + q * z a) i * upn B a (fun j => B a j - q * B c j) i j) (g := fun i => upn z c (z c + q * z a) i * B i j) (k := a) w ha (fun i _ hi => by show _ * upn B a (fun j => B a j - q * B c j) i j = _; rw [upn_ne _ _ hi])
  have e2 := sg_set (f := fun i => upn z c (z c + q * z a) i * B i j) (g := fun i => z i * B i j) (k := c) w hc (fun i _ hi => by show upn z c (z c + q * z a) i * B i j = _; rw [upn_ne _ _ hi])
  have e1 : sgZ w (fun i => upn z c (z c + q * z a) i * upn B a (fun j => B a j - q * B c j) i j) = sgZ w (fun i => upn z c (z c + q * z a) i * B i j) - upn z c (z c + q * z a) a * B a j + upn z c (z c + q * z a) a * upn B a (fun j => B a j - q * B c j) a j := e1
  have e2 : sgZ w (fun i => upn z c (z c + q * z a) i * B i j) = sgZ w (fun i => z i * B i j) - z c * B c j + upn z c (z c + q * z a) c * B c j := e2
  rw [e1, e2, upn_at, upn_at, upn_ne _ _ hac]
  grind
theorem spL0.el {w a c : Nat} {B : LZ} {x : Nat → Int} (q : Int) (ha : a < w) (hc : c < w) (hac : a ≠ c) : spL0 w B x ↔ spL0 w (upn B a (fun j => B a j - q * B c j)) x := by
  refine ⟨fun hx => hx.el1 q ha hc hac, fun hx => ?_⟩
  have := hx.el1 (-q) ha hc hac
  have e : upn (upn B a (fun j => B a j - q * B c j)) a (fun j => upn B a (fun j => B a j - q * B c j) a j - -q * upn B a (fun j => B a j - q * B c j) c j) = B := by
    funext i j
    by_cases e : i = a
    · rw [e, upn_at, upn_at, upn_ne _ _ (fun h => hac h.symm)]
      show B a j - q * B c j - -q * B c j = B a j
      grind
    · rw [upn_ne _ _ e, upn_ne _ _ e]
  rwa [e] at this
theorem ra_o {B : LZ} {a c : Nat} (h : c ≠ a) : ∀ n, raZ B a n c = B c
  | 0 => rfl
  | n + 1 => by
    rw [raZ]
    split
    · rw [upn_ne _ _ h]; exact ra_o h n
    · exact ra_o h n
theorem ra_sp {B : LZ} {a : Nat} {x : Nat → Int} (ha : a < 10) : ∀ n, n ≤ 9 - a → (spL0 10 B x ↔ spL0 10 (raZ B a n) x)
  | 0, _ => Iff.rfl
  | n + 1, hn => by
    rw [raZ]
    split
    · exact (ra_sp ha n (by omega)).trans (spL0.el _ ha (by omega) (by omega))
    · exact ra_sp ha n (by omega)
theorem ra_ok {B : LZ} {a : Nat} (h : HT 10 B) (ha : a < 10) : ∀ n, n ≤ 9 - a → (∀ j, j ≤ a → raZ B a n a j = B a j) ∧ (B a a = 0 → ∀ j, j < 10 → raZ B a n a j = 0) ∧ ∀ c, a < c → c ≤ a + n → 0 < B c c → 0 ≤ raZ B a n a c ∧ raZ B a n a c < B c c
  | 0, _ => ⟨fun _ _ => rfl, fun e j hj => h.2.2 a ha e j hj, fun c h1 h2 => by omega⟩
  | n + 1, hn => by
    obtain ⟨i1, i2, i3⟩ := ra_ok h ha n (by omega)
    have eo : raZ B a n (a + 1 + n) = B (a + 1 + n) := ra_o (by omega) n
    rw [raZ, eo]
    by_cases e : 0 < B (a + 1 + n) (a + 1 + n)
    · rw [if_pos e]
      refine ⟨fun j hj => ?_, fun e0 j hj => ?_, fun c h1 h2 h3 => ?_⟩
      · rw [upn_at]
        show raZ B a n a j - _ * B (a + 1 + n) j = _
        rw [h.1 (a + 1 + n) j (by omega) (by omega), Int.mul_zero, i1 j hj]; omega
      · rw [upn_at]
        show raZ B a n a j - raZ B a n a (a + 1 + n) / _ * _ = 0
        rw [i2 e0 j hj, i2 e0 _ (by omega), Int.zero_ediv, Int.zero_mul]; rfl
      · rw [upn_at]
        show 0 ≤ raZ B a n a c - raZ B a n a (a + 1 + n) / B (a + 1 + n) (a + 1 + n) * B (a + 1 + n) c ∧ raZ B a n a c - raZ B a n a (a + 1 + n) / B (a + 1 + n) (a + 1 + n) * B (a + 1 + n) c < B c c
        by_cases e2 : c = a + 1 + n
        · rw [e2]
          have m1 := Int.emod_nonneg (raZ B a n a (a + 1 + n)) (show B (a + 1 + n) (a + 1 + n) ≠ 0 by omega)
          have m2 := Int.emod_lt_of_pos (raZ B a n a (a + 1 + n)) e
          have m3 := Int.mul_ediv_add_emod (raZ B a n a (a + 1 + n)) (B (a + 1 + n) (a + 1 + n))
          rw [Int.mul_comm] at m3
          omega
        · rw [h.1 (a + 1 + n) c (by omega) (by omega), Int.mul_zero, Int.sub_zero]
          exact i3 c h1 (by omega) h3
    · rw [if_neg e]
      refine ⟨i1, i2, fun c h1 h2 h3 => ?_⟩
      by_cases e2 : c = a + 1 + n
      · rw [e2] at h3; exact absurd h3 e
      · exact i3 c h1 (by omega) h3
theorem ra_ht {B : LZ} {a : Nat} (h : HT 10 B) (ha : a < 10) : HT 10 (raZ B a (9 - a)) := by
  obtain ⟨i1, i2, -⟩ := ra_ok h ha (9 - a) (Nat.le_refl _)
  refine ⟨fun c j hc hj => ?_, fun c hc => ?_, fun c hc h0 j hj => ?_⟩
  · by_cases e : c = a
    · rw [e] at hj ⊢; rw [i1 j (by omega)]; exact h.1 a j ha hj
    · rw [ra_o e]; exact h.1 c j hc hj
  · by_cases e : c = a
    · rw [e, i1 a (Nat.le_refl _)]; exact h.2.1 a ha
    · rw [ra_o e]; exact h.2.1 c hc
  · by_cases e : c = a
    · rw [e] at h0 ⊢
      rw [i1 a (Nat.le_refl _)] at h0
      exact i2 h0 j hj
    · rw [ra_o e] at h0 ⊢; exact h.2.2 c hc h0 j hj
theorem rl_ok {B : LZ} (h : HT 10 B) : ∀ n, n ≤ 10 → HT 10 (rlZ B n) ∧ (∀ c, rlZ B n c c = B c c ∨ 10 ≤ c) ∧ (∀ x, spL0 10 B x ↔ spL0 10 (rlZ B n) x) ∧ ∀ a c, a < n → a < c → c < 10 → 0 < B c c → 0 ≤ rlZ B n a c ∧ rlZ B n a c < B c c
  | 0, _ => ⟨h, fun c => Or.inl rfl, fun x => Iff.rfl, fun a c ha => by omega⟩
  | n + 1, hn => by
    obtain ⟨i1, i2, i3, i4⟩ := rl_ok h n (by omega)
    have ha : n < 10 := by omega
    obtain ⟨j1, j2, j3⟩ := ra_ok i1 ha (9 - n) (Nat.le_refl _)
    rw [rlZ]
    refine ⟨ra_ht i1 ha, fun c => ?_, fun x => (i3 x).trans (ra_sp ha _ (Nat.le_refl _)), fun a c h1 h2 h3 h4 => ?_⟩
    · by_cases e : c = n
      · rw [e, j1 n (Nat.le_refl _)]
        exact Or.inl ((i2 n).resolve_right (by omega))
      · rw [ra_o e]; exact i2 c
    · by_cases e : a = n
      · subst e
        have e2 := (i2 c).resolve_right (by omega)
        have := j3 c h2 (by omega) (by rw [e2]; exact h4)
        rw [e2] at this
        exact this
      · rw [ra_o e]; exact i4 a c (by omega) h2 h3 h4
theorem rl_hn {B : LZ} (h : HT 10 B) : HN 10 (rlZ B 10) := by
  obtain ⟨i1, i2, -, i4⟩ := rl_ok h 10 (Nat.le_refl _)
  refine ⟨i1.1, i1.2.1, i1.2.2, fun a c hac hc hp => ?_⟩
  have e := (i2 c).resolve_right (by omega)
  rw [e] at hp ⊢
  exact i4 a c (by omega) hac hc hp
/-- the class's grid over whole numbers -/
def cgZ (Mz : LZ) : Nat → LZ
  | 0 => fun _ _ => 0
  | g + 1 => rlZ (inZ 10 (cgZ Mz g, Mz g)).1 10
/-- all that is read is in range -/
def okG (Mz : LZ) (n : Nat) : Prop := ∀ g, g < n → okI (cgZ Mz g, Mz g) 10 ∧ okR (inZ 10 (cgZ Mz g, Mz g)).1 10
theorem cg_sim {Gt : GT} {Mz : LZ} (hM : GC (laM Gt) Mz) : ∀ n, okG Mz n → GC (cgI Gt n) (cgZ Mz n)
  | 0, _ => fun c => RC.of (fun j => rfl)
  | n + 1, ok => by
    have ih := cg_sim hM n (fun g hg => ok g (by omega))
    obtain ⟨o1, o2⟩ := ok n (by omega)
    rw [cgI, cgZ]
    exact rl_sim (in_sim (s := (cgZ Mz n, Mz n)) ih (hM n) 10 o1).1 10 o2
theorem rg_100 {x : Int} (h : rg x) : x.natAbs < 2 ^ 100 := by
  unfold rg at h
  exact Nat.lt_trans h (by decide)
theorem cg_hn {Mz : LZ} : ∀ n, okG Mz n → HN 10 (cgZ Mz n)
  | 0, _ => ⟨fun _ _ _ _ => rfl, fun _ _ => Int.le_refl _, fun _ _ _ _ _ => rfl, fun a c _ _ h => absurd h (Int.lt_irrefl 0)⟩
  | n + 1, ok => by
    have ih := cg_hn n (fun g hg => ok g (by omega))
    rw [cgZ]
    exact rl_hn (in_ht (s := (cgZ Mz n, Mz n)) ih.ht 10 (Nat.le_refl _) (fun c hc => rg_100 ((ok n (by omega)).1 c hc).2.1)).1
/-- what the first n rows span -/
def spMz (Mz : LZ) (n : Nat) (x : Nat → Int) : Prop := ∃ z : Nat → Int, ∀ j, j < 10 → x j = sgZ n (fun g => z g * Mz g j)
theorem cg_sp {Mz : LZ} {x : Nat → Int} : ∀ n, okG Mz n → (spL0 10 (cgZ Mz n) x ↔ spMz Mz n x)
  | 0, _ => by
    constructor
    · rintro ⟨z, hz⟩
      exact ⟨z, fun j hj => by rw [hz j hj, sg_z 10 (fun c _ => by show z c * 0 = 0; omega)]; rfl⟩
    · rintro ⟨z, hz⟩
      exact ⟨z, fun j hj => by rw [hz j hj, sg_z 10 (fun c _ => by show z c * 0 = 0; omega)]; rfl⟩
  | n + 1, ok => by
    have hh := cg_hn n (fun g hg => ok g (by omega))
    obtain ⟨t1, t2⟩ := in_ht (s := (cgZ Mz n, Mz n)) hh.ht 10 (Nat.le_refl _) (fun c hc => rg_100 ((ok n (by omega)).1 c hc).2.1)
    have h1 := (rl_ok t1 10 (Nat.le_refl _)).2.2.1 x
    have h2 := in_sp (s := (cgZ Mz n, Mz n)) (x := x) 10 (Nat.le_refl _)
    rw [cgZ, ← h1]
    have h3 : spL0 10 (inZ 10 (cgZ Mz n, Mz n)).1 x ↔ spN 10 (inZ 10 (cgZ Mz n, Mz n)).1 (inZ 10 (cgZ Mz n, Mz n)).2 x := by
      constructor
      · rintro ⟨z, hz⟩
        exact ⟨z, 0, fun j hj => by rw [hz j hj]; omega⟩
      · rintro ⟨z, t, hz⟩
        exact ⟨z, fun j hj => by rw [hz j hj, t2 j hj, Int.mul_zero]; omega⟩
    rw [h3, ← h2]
    constructor
    · rintro ⟨z, t, hz⟩
      obtain ⟨v, hv⟩ := (cg_sp (x := fun j => sgZ 10 (fun c => z c * cgZ Mz n c j)) n (fun g hg => ok g (by omega))).mp ⟨z, fun j hj => rfl⟩
      refine ⟨upn v n t, fun j hj => ?_⟩
      rw [hz j hj]
      show sgZ 10 (fun c => z c * cgZ Mz n c j) + t * Mz n j = sgZ n (fun g => upn v n t g * Mz g j) + upn v n t n * Mz n j
      rw [upn_at]
      have hv : sgZ 10 (fun c => z c * cgZ Mz n c j) = sgZ n (fun g => v g * Mz g j) := hv j hj
      rw [hv, sg_c n (fun c hc => by show v c * Mz c j = upn v n t c * Mz c j; rw [upn_ne _ _ (by omega)])]
    · rintro ⟨v, hv⟩
      obtain ⟨z, hz⟩ := (cg_sp (x := fun j => sgZ n (fun g => v g * Mz g j)) n (fun g hg => ok g (by omega))).mpr ⟨v, fun j hj => rfl⟩
      refine ⟨z, v n, fun j hj => ?_⟩
      rw [hv j hj]
      show sgZ n (fun g => v g * Mz g j) + v n * Mz n j = sgZ 10 (fun c => z c * cgZ Mz n c j) + v n * Mz n j
      have hz : sgZ n (fun g => v g * Mz g j) = sgZ 10 (fun c => z c * cgZ Mz n c j) := hz j hj
      rw [hz]
