/-! ===== the state that both sides hold ===== -/
/-- slots, ORDER, GENERATORS, witness, sheets (sorts, sizes, cells), links (how many, kinds, numbers, what is held), what is kept -/
abbrev ST : Type := (Nat → Nat → Int64) × Nat × GT × (Bool × List (Int64 × Nat)) × ((Nat → Int32) × (Nat → Nat) × (Nat → Nat → Int32)) × (Nat × (Nat → Nat) × (Nat → Int32) × (Nat → Nat → Int64)) × Option ((Nat → Nat → Int64) × Nat × GT)
abbrev tS (S : ST) : Nat → Nat → Int64 := S.1
abbrev tO (S : ST) : Nat := S.2.1
abbrev tG (S : ST) : GT := S.2.2.1
abbrev tW (S : ST) : Bool × List (Int64 × Nat) := S.2.2.2.1
abbrev tH (S : ST) : (Nat → Int32) × (Nat → Nat) × (Nat → Nat → Int32) := S.2.2.2.2.1
abbrev tL (S : ST) : Nat × (Nat → Nat) × (Nat → Int32) × (Nat → Nat → Int64) := S.2.2.2.2.2.1
abbrev tX (S : ST) : Option ((Nat → Nat → Int64) × Nat × GT) := S.2.2.2.2.2.2
def stS (S : ST) (f : Nat → Nat → Int64) : ST := (f, S.2)
def stO (S : ST) (o : Nat) : ST := (S.1, o, S.2.2)
def stG (S : ST) (g : GT) : ST := (S.1, S.2.1, g, S.2.2.2)
def stW (S : ST) (w : Bool × List (Int64 × Nat)) : ST := (S.1, S.2.1, S.2.2.1, w, S.2.2.2.2)
def stH (S : ST) (w : (Nat → Int32) × (Nat → Nat) × (Nat → Nat → Int32)) : ST := (S.1, S.2.1, S.2.2.1, S.2.2.2.1, w, S.2.2.2.2.2)
def stL (S : ST) (w : Nat × (Nat → Nat) × (Nat → Int32) × (Nat → Nat → Int64)) : ST := (S.1, S.2.1, S.2.2.1, S.2.2.2.1, S.2.2.2.2.1, w, S.2.2.2.2.2.2)
def stX (S : ST) (w : Option ((Nat → Nat → Int64) × Nat × GT)) : ST := (S.1, S.2.1, S.2.2.1, S.2.2.2.1, S.2.2.2.2.1, S.2.2.2.2.2.1, w)
def set1 (S : ST) (k : Nat) (f : Nat → Int64) : ST := stS S (upn (tS S) k f)
/-- the state is as it must be -/
def WS (S : ST) : Prop := tO S < 3 ∧ WG (tO S) (tG S) ∧ (∀ s, s < 6 → cu (tS S s) = tS S s) ∧ ((tW S).1 = true → (tW S).2.length ≤ 84 ∧ ∀ q ∈ (tW S).2, q.2 < 2097152 ∧ rdeg (gL (tG S)) q.2 (gN (tG S)) ≤ 6 ∧ ∀ h, gN (tG S) ≤ h → h < 7 → pw q.2 h = 0) ∧
  (∀ i, i < 4 → ((tH S).1 i = -1 ∧ (tH S).2.1 i = 0 ∨ ((tH S).1 i = 0 ∨ (tH S).1 i = 1) ∧ (tH S).2.1 i ≤ 40)) ∧ ((tL S).1 ≤ 8 ∧ ∀ l, l < (tL S).1 → (tL S).2.1 l < 7 ∧ ((tL S).2.1 l = 0 → isN ((tL S).2.2.1 l) 6) ∧ ((tL S).2.1 l = 1 → isB ((tL S).2.2.1 l) (-999) 999) ∧ ((tL S).2.1 l = 3 → isN ((tL S).2.2.1 l) 6) ∧ cu ((tL S).2.2.2 l) = (tL S).2.2.2 l) ∧
  ∀ k, tX S = some k → k.2.1 < 3 ∧ WG k.2.1 k.2.2 ∧ ∀ s, s < 6 → cu (k.1 s) = k.1 s
/-- the reference holds it -/
def MIv (S : ST) (FI AI : FT) (AL : LT) (b : Nat) : Prop := MGs FI AI AL b (tO S) (tG S) ∧ FI b 8 = nI (tO S) ∧ (∀ s, s < 6 → mp AL b s = tS S s) ∧
  (FI b 23 = (if (tW S).1 = true then 1 else 0) ∧ ((tW S).1 = true → FI b 24 = nI (tW S).2.length ∧ STs AI AL (b + 18) (b + 19) (tW S).2)) ∧
  (∀ i, i < 4 → AI (b + 37) i = (tH S).1 i ∧ AI (b + 38) i = nI ((tH S).2.1 i) ∧ ∀ j, j < 40 → AI (b + 39) (40 * i + j) = (tH S).2.2 i j) ∧
  (FI b 48 = nI (tL S).1 ∧ ∀ l, l < (tL S).1 → AI (b + 34) l = nI ((tL S).2.1 l) ∧ AI (b + 35) l = (tL S).2.2.1 l ∧ ((tL S).2.1 l = 2 ∨ (tL S).2.1 l = 5 → ∀ t, t < 84 → AL (b + 36) (84 * l + t) = (tL S).2.2.2 l t)) ∧
  match tX S with
  | none => FI b 19 = 0
  | some k => FI b 19 = 1 ∧ (∀ s t, s < 6 → t < 84 → AL (b + 2) (84 * s + t) = k.1 s t) ∧ FI b 17 = nI k.2.1 ∧ FI b 18 = nI (gN k.2.2) ∧ ∀ g, g < gN k.2.2 → (∀ t, t < 84 → AL (b + 2) (84 * (6 + g) + t) = gP k.2.2 g t) ∧ AI (b + 13) g = nI (gK k.2.2 g) ∧ ∀ i, i < gK k.2.2 g → AL (b + 14) (86 * g + i) = gC k.2.2 g i ∧ ∀ h, h < 7 → AI (b + 15) (7 * (86 * g + i) + h) = nI (pw (gR k.2.2 g i) h)
/-- only the reference's own cells change -/
def fM (FI FI' AI AI' : FT) (AL AL' : LT) (b : Nat) : Prop := ∀ c, c < b ∨ b + 39 < c → FI' c = FI c ∧ AI' c = AI c ∧ AL' c = AL c
theorem fM.rf {FI AI : FT} {AL : LT} {b : Nat} : fM FI FI AI AI AL AL b := fun _ _ => ⟨rfl, rfl, rfl⟩
theorem fM.al {FI AI : FT} {AL AL' : LT} {b : Nat} (h : ∀ c, c ≠ b + 1 → AL' c = AL c) : fM FI FI AI AI AL AL' b := fun c hc => ⟨rfl, rfl, h c (by omega)⟩
/-- new slots; what is worked with may be anything -/
theorem MIv.sl {S : ST} {FI AI : FT} {AL AL' : LT} {b : Nat} (h : MIv S FI AI AL b) (hW : WS S) (f : Nat → Nat → Int64) (h1 : ∀ c, c ≠ b + 1 → AL' c = AL c) (h2 : ∀ p, p < 6 → mp AL' b p = f p) (h3 : ∀ p, 6 ≤ p → p < 13 → mp AL' b p = mp AL b p) : MIv (stS S f) FI AI AL' b := by
  obtain ⟨g, a1, a2, a3, a4, a5, a6⟩ := h
  have hn7 := hW.2.1.1
  refine ⟨⟨g.1, g.2.1, g.2.2.1, g.2.2.2.1, fun q hq => ?_⟩, a1, h2, ⟨a3.1, fun e => ⟨(a3.2 e).1, fun i q hq => ?_⟩⟩, a4, ⟨a5.1, fun l hl => ⟨(a5.2 l hl).1, (a5.2 l hl).2.1, fun e t ht => ?_⟩⟩, ?_⟩
  · have hq' : q < gN (tG S) := hq
    obtain ⟨b1, b2, b3, b4⟩ := g.2.2.2.2 q hq
    exact ⟨b1, by rw [h3 _ (by omega) (by omega)]; exact b2, b3, fun i hi => ⟨by rw [h1 _ (by omega)]; exact (b4 i hi).1, (b4 i hi).2⟩⟩
  · have := (a3.2 e).2 i q hq
    exact ⟨by rw [h1 _ (by omega)]; exact this.1, this.2⟩
  · rw [h1 _ (by omega)]; exact (a5.2 l hl).2.2 e t ht
  · show match tX S with
      | none => _
      | some k => _
    cases hk : tX S with
    | none => rw [hk] at a6; exact a6
    | some k =>
      rw [hk] at a6
      obtain ⟨c1, c2, c3, c4, c5⟩ := a6
      refine ⟨c1, fun s t hs ht => by rw [h1 _ (by omega)]; exact c2 s t hs ht, c3, c4, fun q hq => ⟨fun t ht => by rw [h1 _ (by omega)]; exact (c5 q hq).1 t ht, (c5 q hq).2.1, fun i hi => ⟨by rw [h1 _ (by omega)]; exact ((c5 q hq).2.2 i hi).1, ((c5 q hq).2.2 i hi).2⟩⟩⟩
/-- nothing but what is worked with -/
theorem MIv.wk {S : ST} {FI AI : FT} {AL AL' : LT} {b : Nat} (h : MIv S FI AI AL b) (hW : WS S) (h1 : ∀ c, c ≠ b + 1 → AL' c = AL c) (h3 : ∀ p, p < 13 → mp AL' b p = mp AL b p) : MIv S FI AI AL' b :=
  h.sl hW (tS S) h1 (fun p hp => by rw [h3 p (by omega)]; exact h.2.2.1 p hp) (fun p _ hp => h3 p hp)
theorem MIv.s1 {S : ST} {FI AI : FT} {AL AL' : LT} {b k : Nat} {f : Nat → Int64} (h : MIv S FI AI AL b) (hW : WS S) (hk : k < 6) (h1 : ∀ c, c ≠ b + 1 → AL' c = AL c) (h2 : mp AL' b k = f) (h3 : ∀ p, p < 13 → p ≠ k → mp AL' b p = mp AL b p) : MIv (set1 S k f) FI AI AL' b :=
  h.sl hW _ h1 (fun p hp => by
    by_cases e : p = k
    · rw [e, upn_at]; exact h2
    · rw [upn_ne _ _ e, h3 p (by omega) e]; exact h.2.2.1 p hp) (fun p h6 hp => h3 p hp (by omega))
theorem WS.s1 {S : ST} {k : Nat} {f : Nat → Int64} (h : WS S) (hf : cu f = f) : WS (set1 S k f) := by
  obtain ⟨a, b, c, d⟩ := h
  refine ⟨a, b, fun s hs => ?_, d⟩
  show cu (upn (tS S) k f s) = upn (tS S) k f s
  by_cases e : s = k
  · rw [e, upn_at]; exact hf
  · rw [upn_ne _ _ e]; exact c s hs
/-! what numbers are as told -/
def ni (x : Int32) : Nat := x.toInt.toNat
theorem ni_nI {k : Nat} (h : k < 2 ^ 31) : ni (nI k) = k := by unfold ni; rw [nI_toInt h]; omega
def bN (x : Int32) (n : Nat) : Bool := decide (0 ≤ x.toInt) && decide (x.toInt < (n : Int))
def bB (x : Int32) (lo hi : Int) : Bool := decide (lo ≤ x.toInt) && decide (x.toInt ≤ hi)
def bT (x y z : Int32) : Bool := bN x 7 && bN y 7 && bN z 7 && decide (ni x + ni y + ni z ≤ 6)
theorem bN_iff {x : Int32} {n : Nat} (hn : n < 2 ^ 31) : bN x n = true ↔ isN x n := by
  rw [isN_iff hn]; unfold bN; rw [Bool.and_eq_true, decide_eq_true_eq, decide_eq_true_eq]
theorem bN_t {k n : Nat} (h : k < n) (hn : n < 2 ^ 31) : bN (nI k) n = true := (bN_iff hn).mpr ⟨k, h, rfl⟩
theorem bN_f {x : Int32} {n : Nat} (h : ¬ isN x n) (hn : n < 2 ^ 31) : bN x n = false := by
  cases e : bN x n
  · rfl
  · exact absurd ((bN_iff hn).mp e) h
theorem bB_iff {x : Int32} {lo hi : Int} : bB x lo hi = true ↔ isB x lo hi := by
  unfold bB isB; rw [Bool.and_eq_true, decide_eq_true_eq, decide_eq_true_eq]
theorem bB_f {x : Int32} {lo hi : Int} (h : ¬ isB x lo hi) : bB x lo hi = false := by
  cases e : bB x lo hi
  · rfl
  · exact absurd (bB_iff.mp e) h
theorem bT_t {x y z : Nat} (h : x + y + z ≤ 6) : bT (nI x) (nI y) (nI z) = true := by
  unfold bT
  rw [bN_t (by omega) (by omega), bN_t (by omega) (by omega), bN_t (by omega) (by omega), ni_nI (by omega), ni_nI (by omega), ni_nI (by omega)]
  simp [h]
theorem bT_f {x y z : Int32} (h : ¬ isT x y z) : bT x y z = false := by
  cases e : bT x y z
  · rfl
  · exfalso
    apply h
    unfold bT at e
    simp only [Bool.and_eq_true, decide_eq_true_eq] at e
    obtain ⟨⟨⟨e1, e2⟩, e3⟩, e4⟩ := e
    obtain ⟨a, a1, rfl⟩ := (bN_iff (by omega)).mp e1
    obtain ⟨b, b1, rfl⟩ := (bN_iff (by omega)).mp e2
    obtain ⟨c, c1, rfl⟩ := (bN_iff (by omega)).mp e3
    rw [ni_nI (by omega), ni_nI (by omega), ni_nI (by omega)] at e4
    exact ⟨a, b, c, e4, rfl, rfl, rfl⟩
/-! what the calls answer and do -/
def NOl : Int64 := Int64.minValue
def fClear (S : ST) (s : Int32) : Int32 × ST := if bN s 6 = true then (nI (cnt (tS S (ni s))), set1 S (ni s) (fun _ => 0)) else (-1, S)
def fTerm (S : ST) (s c x y z : Int32) : Int32 × ST := if (bN s 6 && bB c (-999) 999 && bT x y z) = true then
    (if sumA (norm (tS S (ni s))) (labs c.toInt64) < 0 then (-5, S) else
      (nI (cnt (fun j => if j = pl (ni x) (ni y) (ni z) then tS S (ni s) j + c.toInt64 else tS S (ni s) j)), set1 S (ni s) (fun j => if j = pl (ni x) (ni y) (ni z) then tS S (ni s) j + c.toInt64 else tS S (ni s) j)))
  else (-1, S)
def fAdd (S : ST) (s t c : Int32) : Int32 × ST := if (bN s 6 && bN t 6 && bB c (-999) 999) = true then
    (if sumA (norm (tS S (ni s))) (prodA (labs c.toInt64) (norm (tS S (ni t)))) < 0 then (-5, S) else
      (nI (cnt (addP (tS S (ni s)) (tS S (ni t)) c.toInt64)), set1 S (ni s) (addP (tS S (ni s)) (tS S (ni t)) c.toInt64)))
  else (-1, S)
def fTurn (S : ST) (s k : Int32) : Int32 × ST := if (bN s 6 && bN k 6) = true then (nI (cnt (trn (tS S (ni s)) (ni k))), set1 S (ni s) (trn (tS S (ni s)) (ni k))) else (-1, S)
def fCoef (S : ST) (s x y z : Int32) : Int64 × ST := if (bN s 6 && bT x y z) = true then (tS S (ni s) (pl (ni x) (ni y) (ni z)), S) else (NOl, S)
def fNorm (S : ST) (s : Int32) : Int64 × ST := if bN s 6 = true then (norm (tS S (ni s)), S) else (NOl, S)
def fAt (S : ST) (s x y z m : Int32) : Int64 × ST := if (bN s 6 && bB m 2 1000000) = true then (lN (cw (tS S (ni s)) (md x.toInt64 (ni m)) (md y.toInt64 (ni m)) (md z.toInt64 (ni m)) (ni m) 84), S) else (NOl, S)
def fGive (S : ST) (g s : Int32) : Int32 × ST := if (bN g (gN (tG S)) && bN s 6) = true then (nI (cnt (gP (tG S) (ni g))), set1 S (ni s) (gP (tG S) (ni g))) else (-1, S)
def fLead (S : ST) (s w : Int32) : Int32 × ST := if (bN s 6 && bN w 5) = true then
    (if ni w = 4 then (nI (cnt (tS S (ni s))), S) else if lead1 (tS S (ni s)) (tO S) = 0 then (-2, S) else (nI (if ni w = 3 then eD (lead1 (tS S (ni s)) (tO S) - 1) else ex (lead1 (tS S (ni s)) (tO S) - 1) (ni w)), S))
  else (-1, S)
