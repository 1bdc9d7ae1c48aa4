/-! ===== the class's grid over whole numbers ===== -/
theorem xor_lt {x y : Int64} (hy : 0 < y.toInt) : x ^^^ y < 0 ↔ x.toInt < 0 := by
  have e : (x ^^^ y).toInt < 0 ↔ (x ^^^ y).toBitVec.msb = true := by
    rw [BitVec.msb_eq_toInt]; simp only [decide_eq_true_eq]; exact Iff.rfl
  have ex : x.toInt < 0 ↔ x.toBitVec.msb = true := by
    rw [BitVec.msb_eq_toInt]; simp only [decide_eq_true_eq]; exact Iff.rfl
  have ey : y.toBitVec.msb = false := by
    rw [BitVec.msb_eq_toInt]
    exact decide_eq_false (show ¬ y.toInt < 0 by omega)
  have h0 : (x ^^^ y < 0) ↔ (x ^^^ y).toInt < 0 := by rw [Int64.lt_iff_toInt_lt]; rfl
  rw [h0, e, ex, Int64.toBitVec_xor, BitVec.msb_xor, ey, Bool.xor_false]
theorem tdiv_mul_le (a p : Int) : (a.tdiv p * p).natAbs ≤ a.natAbs := by
  rw [Int.natAbs_mul, Int.natAbs_tdiv]
  exact Nat.div_mul_le_self _ _
theorem mul_tv {a p : Int64} (ha : a ≠ Int64.minValue) : (a / p * p).toInt = a.toInt.tdiv p.toInt * p.toInt := by
  rw [Int64.toInt_mul, Int64.toInt_div_of_ne_left _ _ ha]
  have h := tdiv_mul_le a.toInt p.toInt
  have h3 := a.le_toInt
  have h4 := a.toInt_lt
  have h5 : a.toInt ≠ -2 ^ 63 := fun e => ha (Int64.toInt_inj.mp e)
  exact Int.bmod_eq_of_le_mul_two (by omega) (by omega)
theorem tdiv_floor {a p : Int} (hp : 0 < p) : a / p = if a < 0 ∧ ¬ a.tdiv p * p = a then a.tdiv p - 1 else a.tdiv p := by
  have e := Int.tdiv_eq_ediv (a := a) (b := p)
  have hd : a.tdiv p * p = a ↔ p ∣ a := ⟨fun h => ⟨a.tdiv p, by rw [Int.mul_comm]; exact h.symm⟩, fun h => Int.tdiv_mul_cancel h⟩
  rw [Int.sign_eq_one_of_pos hp] at e
  by_cases h : 0 ≤ a ∨ p ∣ a
  · rw [if_pos h] at e
    rw [if_neg (fun q => by
      rcases h with h | h
      · omega
      · exact q.2 (hd.mpr h))]
    omega
  · rw [if_neg h] at e
    rw [if_pos ⟨by omega, fun q => h (Or.inr (hd.mp q))⟩]
    omega
theorem quot_sub1 {a p : Int64} (ha : a ≠ Int64.minValue) (h : a.toInt < 0 ∧ ¬ a.toInt.tdiv p.toInt * p.toInt = a.toInt) : (a / p - 1).toInt = a.toInt.tdiv p.toInt - 1 := by
  rw [Int64.toInt_sub, Int64.toInt_div_of_ne_left _ _ ha, show (1 : Int64).toInt = 1 from rfl]
  have h1 : (a.toInt.tdiv p.toInt).natAbs ≤ a.toInt.natAbs := by rw [Int.natAbs_tdiv]; exact Nat.div_le_self _ _
  have h3 := a.le_toInt
  have h4 := a.toInt_lt
  have h5 : a.toInt ≠ -2 ^ 63 := fun e => ha (Int64.toInt_inj.mp e)
  exact Int.bmod_eq_of_le_mul_two (by omega) (by omega)
theorem lfd_tv {a p : Int64} (ha : a ≠ Int64.minValue) (hp : 0 < p.toInt) : (lfd a p).toInt = a.toInt / p.toInt := by
  rw [tdiv_floor hp]
  unfold lfd
  have e1 : (a / p * p = a) ↔ a.toInt.tdiv p.toInt * p.toInt = a.toInt := by
    rw [← mul_tv ha]; exact Int64.toInt_inj.symm
  by_cases h : a.toInt < 0 ∧ ¬ a.toInt.tdiv p.toInt * p.toInt = a.toInt
  · rw [if_pos h, if_pos ⟨(xor_lt hp).mpr h.1, fun q => h.2 (e1.mp q)⟩]
    exact quot_sub1 ha h
  · rw [if_neg h, if_neg (fun q => h ⟨(xor_lt hp).mp q.1, fun z => q.2 (e1.mpr z)⟩)]
    exact Int64.toInt_div_of_ne_left _ _ ha
theorem flr_tv {a p : Int64} (ha : a ≠ Int64.minValue) (hp : 0 < p.toInt) : (flr a p).toInt = a.toInt / p.toInt := by
  rw [tdiv_floor hp]
  unfold flr
  have hp0 : ¬ p = 0 := fun e => by rw [e] at hp; exact absurd hp (by decide)
  have e1 : (a - a / p * p = 0) ↔ a.toInt.tdiv p.toInt * p.toInt = a.toInt := by
    have s := self_tv ha hp0
    have m := Int.mul_tdiv_add_tmod a.toInt p.toInt
    rw [Int.mul_comm] at m
    constructor
    · intro q
      rw [q] at s
      have : (0 : Int64).toInt = 0 := rfl
      omega
    · intro q
      refine Int64.toInt_inj.mp ?_
      rw [s]
      show _ = (0 : Int)
      omega
  have e2 : a < 0 ↔ a.toInt < 0 := by rw [Int64.lt_iff_toInt_lt]; rfl
  by_cases h : a.toInt < 0 ∧ ¬ a.toInt.tdiv p.toInt * p.toInt = a.toInt
  · rw [if_pos h, if_pos ⟨fun q => h.2 (e1.mp q), e2.mpr h.1⟩]
    exact quot_sub1 ha h
  · rw [if_neg h, if_neg (fun q => h ⟨e2.mp q.2, fun z => q.1 (e1.mpr z)⟩)]
    exact Int64.toInt_div_of_ne_left _ _ ha
abbrev LZ : Type := Nat → Nat → Int
def inZ : Nat → LZ × (Nat → Int) → LZ × (Nat → Int)
  | 0, s => s
  | c + 1, s => (upn (inZ c s).1 c (ngZ (euZ c 200 ((inZ c s).1 c) (inZ c s).2).1 c), (euZ c 200 ((inZ c s).1 c) (inZ c s).2).2)
def raZ (B : LZ) (a : Nat) : Nat → LZ
  | 0 => B
  | q + 1 => if 0 < raZ B a q (a + 1 + q) (a + 1 + q) then upn (raZ B a q) a (fun j => raZ B a q a j - raZ B a q a (a + 1 + q) / raZ B a q (a + 1 + q) (a + 1 + q) * raZ B a q (a + 1 + q) j) else raZ B a q
def rlZ (B : LZ) : Nat → LZ
  | 0 => B
  | a + 1 => raZ (rlZ B a) a (9 - a)
def GC (B : LM) (Z : LZ) : Prop := ∀ c, RC (B c) (Z c)
theorem GC.up {B : LM} {Z : LZ} {r : Nat → Int64} {x : Nat → Int} (h : GC B Z) (k : RC r x) (a : Nat) : GC (upn B a r) (upn Z a x) := by
  intro c
  by_cases e : c = a
  · rw [e, upn_at, upn_at]; exact k
  · rw [upn_ne _ _ e, upn_ne _ _ e]; exact h c
/-- what is read while a row comes in -/
def okI (s : LZ × (Nat → Int)) (n : Nat) : Prop := ∀ c, c < n → rg ((inZ c s).1 c c) ∧ rg ((inZ c s).2 c) ∧ rg ((euZ c 200 ((inZ c s).1 c) (inZ c s).2).1 c)
theorem in_sim {B : LM} {v : Nat → Int64} {s : LZ × (Nat → Int)} (h : GC B s.1) (hv : RC v s.2) : ∀ n, okI s n → GC (inF n (B, v)).1 (inZ n s).1 ∧ RC (inF n (B, v)).2 (inZ n s).2
  | 0, _ => ⟨h, hv⟩
  | n + 1, ok => by
    obtain ⟨g, r⟩ := in_sim h hv n (fun c hc => ok c (by omega))
    obtain ⟨r1, r2, r3⟩ := ok n (by omega)
    obtain ⟨e1, e2⟩ := eu_sim (c := n) 200 _ _ _ _ (g n) r r1 r2
    rw [inF, inZ]
    exact ⟨g.up (ng_sim e1 r3) n, e2⟩
/-- what is read while a row is reduced -/
def okA (B : LZ) (a n : Nat) : Prop := ∀ q, q < n → rg (raZ B a q (a + 1 + q) (a + 1 + q)) ∧ (0 < raZ B a q (a + 1 + q) (a + 1 + q) → rg (raZ B a q a (a + 1 + q)))
theorem ra_sim {B : LM} {Z : LZ} {a : Nat} (h : GC B Z) : ∀ n, okA Z a n → GC (raF B a n) (raZ Z a n)
  | 0, _ => h
  | n + 1, ok => by
    have g := ra_sim (a := a) h n (fun q hq => ok q (by omega))
    obtain ⟨r1, r2⟩ := ok n (by omega)
    rw [raF, raZ]
    have eg := (g (a + 1 + n)).g r1
    by_cases e : 0 < raZ Z a n (a + 1 + n) (a + 1 + n)
    · rw [if_pos e, if_pos (eg.mpr e)]
      have r2 := r2 e
      have x1 := (g (a + 1 + n)).at r1
      have x2 := (g a).at r2
      have eq : (lfd (raF B a n a (a + 1 + n)) (raF B a n (a + 1 + n) (a + 1 + n))).toInt = raZ Z a n a (a + 1 + n) / raZ Z a n (a + 1 + n) (a + 1 + n) := by
        rw [lfd_tv (rg.nm x2 r2) (by rw [x1]; exact e), x1, x2]
      have k := (g a).sub (lfd (raF B a n a (a + 1 + n)) (raF B a n (a + 1 + n) (a + 1 + n))) (g (a + 1 + n))
      rw [eq] at k
      exact g.up k a
    · rw [if_neg e, if_neg (fun q => e (eg.mp q))]
      exact g
def okR (B : LZ) (n : Nat) : Prop := ∀ a, a < n → okA (rlZ B a) a (9 - a)
theorem rl_sim {B : LM} {Z : LZ} (h : GC B Z) : ∀ n, okR Z n → GC (rlF B n) (rlZ Z n)
  | 0, _ => h
  | n + 1, ok => ra_sim (rl_sim h n (fun a ha => ok a (by omega))) _ (ok n (by omega))
