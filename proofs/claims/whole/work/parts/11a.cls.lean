/-! ===== the class: its object, what it holds ===== -/
abbrev cga (lo : Nat) : Nat → Nat := fun k => lo + 4 + k
abbrev cpo (lo : Nat) : Nat → Nat := fun i => lo + 13 + 2 * i
abbrev cqo (lo : Nat) : Nat → Nat := fun i => lo + 14 + 2 * i
abbrev cta (lo : Nat) : Nat → Nat := fun i => lo + 28 + i
/-- a LINK, the list of RELATIONS, the grid -/
def LKo (X : XT) (l : Nat) : Prop := x_sh X l = some (13, 3) ∧ x_FR X l 2 = some (l + 1) ∧ PO X (l + 1) (l + 2)
def RLo (X : XT) (r : Nat) : Prop := x_sh X r = some (16, 5) ∧ (x_FR X r 0 = some (r + 1) ∧ x_FR X r 1 = some (r + 2) ∧ x_FR X r 2 = some (r + 3) ∧ x_FR X r 3 = some (r + 4) ∧ x_FR X r 4 = some (r + 5)) ∧ x_sh X (r + 1) = some (0, 344) ∧ x_sh X (r + 2) = some (0, 344) ∧ x_sh X (r + 3) = some (0, 7) ∧ x_sh X (r + 4) = some (0, 7) ∧ x_sh X (r + 5) = some (0, 7)
def LAo (X : XT) (l : Nat) : Prop := x_sh X l = some (12, 2) ∧ x_FR X l 0 = some (l + 1) ∧ x_FR X l 1 = some (l + 12) ∧ x_sh X (l + 1) = some (6, 10) ∧ x_sh X (l + 12) = some (1, 10) ∧ ∀ c, c < 10 → x_AR X (l + 1) c = some (l + 2 + c) ∧ x_sh X (l + 2 + c) = some (1, 10)
def CO (X : XT) (lo : Nat) : Prop := (x_sh X lo = some (20, 18) ∧ x_FR X lo 0 = some (lo + 1) ∧ x_FR X lo 1 = some (lo + 2) ∧ x_FR X lo 2 = some (lo + 4) ∧ x_FR X lo 3 = some (lo + 27) ∧ x_FR X lo 4 = some (lo + 35) ∧ x_FR X lo 5 = some (lo + 41) ∧ x_FR X lo 6 = some (lo + 54) ∧ x_FR X lo 7 = some (lo + 55) ∧ x_FR X lo 8 = some (lo + 56) ∧ x_FR X lo 9 = some (lo + 58)) ∧
  (x_sh X (lo + 1) = some (3, 6) ∧ ∀ s, s < 6 → x_AR X (lo + 1) s = some (lo + 66 + 2 * s) ∧ PO X (lo + 66 + 2 * s) (lo + 67 + 2 * s)) ∧ RK X (lo + 2) (lo + 3) ∧ GO X (lo + 4) (cga lo) (cpo lo) (cqo lo) ∧ TO X (lo + 27) (cta lo) ∧ RLo X (lo + 35) ∧ LAo X (lo + 41) ∧
  (x_sh X (lo + 54) = some (4, 4) ∧ ∀ s, s < 4 → x_AR X (lo + 54) s = some (lo + 78 + 2 * s) ∧ SH X (lo + 78 + 2 * s) (lo + 79 + 2 * s)) ∧ (x_sh X (lo + 55) = some (5, 8) ∧ ∀ l, l < 8 → x_AR X (lo + 55) l = some (lo + 86 + 3 * l) ∧ LKo X (lo + 86 + 3 * l)) ∧
  PO X (lo + 56) (lo + 57) ∧ PO X (lo + 58) (lo + 59) ∧ STp X (lo + 60) (lo + 61) (lo + 62) ∧ STp X (lo + 63) (lo + 64) (lo + 65)
theorem CO.f0 {X : XT} {lo : Nat} (h : CO X lo) : x_FR X lo 0 = some (lo + 1) := h.1.2.1
theorem CO.f1 {X : XT} {lo : Nat} (h : CO X lo) : x_FR X lo 1 = some (lo + 2) := h.1.2.2.1
theorem CO.f2 {X : XT} {lo : Nat} (h : CO X lo) : x_FR X lo 2 = some (lo + 4) := h.1.2.2.2.1
theorem CO.f3 {X : XT} {lo : Nat} (h : CO X lo) : x_FR X lo 3 = some (lo + 27) := h.1.2.2.2.2.1
theorem CO.f4 {X : XT} {lo : Nat} (h : CO X lo) : x_FR X lo 4 = some (lo + 35) := h.1.2.2.2.2.2.1
theorem CO.f5 {X : XT} {lo : Nat} (h : CO X lo) : x_FR X lo 5 = some (lo + 41) := h.1.2.2.2.2.2.2.1
theorem CO.f6 {X : XT} {lo : Nat} (h : CO X lo) : x_FR X lo 6 = some (lo + 54) := h.1.2.2.2.2.2.2.2.1
theorem CO.f7 {X : XT} {lo : Nat} (h : CO X lo) : x_FR X lo 7 = some (lo + 55) := h.1.2.2.2.2.2.2.2.2.1
theorem CO.f8 {X : XT} {lo : Nat} (h : CO X lo) : x_FR X lo 8 = some (lo + 56) := h.1.2.2.2.2.2.2.2.2.2.1
theorem CO.f9 {X : XT} {lo : Nat} (h : CO X lo) : x_FR X lo 9 = some (lo + 58) := h.1.2.2.2.2.2.2.2.2.2.2
theorem CO.sh {X : XT} {lo : Nat} (h : CO X lo) : x_sh X lo = some (20, 18) := h.1.1
theorem CO.s0 {X : XT} {lo : Nat} (h : CO X lo) : x_sh X (lo + 1) = some (3, 6) := h.2.1.1
theorem CO.s1 {X : XT} {lo : Nat} (h : CO X lo) : x_sh X (lo + 2) = some (15, 2) := h.2.2.1.1
theorem CO.s2 {X : XT} {lo : Nat} (h : CO X lo) : x_sh X (lo + 4) = some (10, 9) := h.2.2.2.1.1
theorem CO.s3 {X : XT} {lo : Nat} (h : CO X lo) : x_sh X (lo + 27) = some (17, 7) := h.2.2.2.2.1.1
theorem CO.s4 {X : XT} {lo : Nat} (h : CO X lo) : x_sh X (lo + 35) = some (16, 5) := h.2.2.2.2.2.1.1
theorem CO.s5 {X : XT} {lo : Nat} (h : CO X lo) : x_sh X (lo + 41) = some (12, 2) := h.2.2.2.2.2.2.1.1
theorem CO.s6 {X : XT} {lo : Nat} (h : CO X lo) : x_sh X (lo + 54) = some (4, 4) := h.2.2.2.2.2.2.2.1.1
theorem CO.s7 {X : XT} {lo : Nat} (h : CO X lo) : x_sh X (lo + 55) = some (5, 8) := h.2.2.2.2.2.2.2.2.1.1
theorem CO.s8 {X : XT} {lo : Nat} (h : CO X lo) : x_sh X (lo + 56) = some (14, 1) := h.2.2.2.2.2.2.2.2.2.1.1
theorem CO.s9 {X : XT} {lo : Nat} (h : CO X lo) : x_sh X (lo + 58) = some (14, 1) := h.2.2.2.2.2.2.2.2.2.2.1.1
theorem CO.sl {X : XT} {lo : Nat} (h : CO X lo) {s : Nat} (hs : s < 6) : x_AR X (lo + 1) s = some (lo + 66 + 2 * s) ∧ PO X (lo + 66 + 2 * s) (lo + 67 + 2 * s) := h.2.1.2 s hs
theorem CO.rk {X : XT} {lo : Nat} (h : CO X lo) : RK X (lo + 2) (lo + 3) := h.2.2.1
theorem CO.go {X : XT} {lo : Nat} (h : CO X lo) : GO X (lo + 4) (cga lo) (cpo lo) (cqo lo) := h.2.2.2.1
theorem CO.to {X : XT} {lo : Nat} (h : CO X lo) : TO X (lo + 27) (cta lo) := h.2.2.2.2.1
theorem CO.rl {X : XT} {lo : Nat} (h : CO X lo) : RLo X (lo + 35) := h.2.2.2.2.2.1
theorem CO.la {X : XT} {lo : Nat} (h : CO X lo) : LAo X (lo + 41) := h.2.2.2.2.2.2.1
theorem CO.shs {X : XT} {lo : Nat} (h : CO X lo) {s : Nat} (hs : s < 4) : x_AR X (lo + 54) s = some (lo + 78 + 2 * s) ∧ SH X (lo + 78 + 2 * s) (lo + 79 + 2 * s) := h.2.2.2.2.2.2.2.1.2 s hs
theorem CO.lk {X : XT} {lo : Nat} (h : CO X lo) {l : Nat} (hl : l < 8) : x_AR X (lo + 55) l = some (lo + 86 + 3 * l) ∧ LKo X (lo + 86 + 3 * l) := h.2.2.2.2.2.2.2.2.1.2 l hl
theorem CO.wk {X : XT} {lo : Nat} (h : CO X lo) : PO X (lo + 56) (lo + 57) := h.2.2.2.2.2.2.2.2.2.1
theorem CO.sp {X : XT} {lo : Nat} (h : CO X lo) : PO X (lo + 58) (lo + 59) := h.2.2.2.2.2.2.2.2.2.2.1
theorem CO.st {X : XT} {lo : Nat} (h : CO X lo) {w : Nat} (hw : w = 60 ∨ w = 63) : STp X (lo + w) (lo + w + 1) (lo + w + 2) := by
  rcases hw with rfl | rfl
  · exact h.2.2.2.2.2.2.2.2.2.2.2.1
  · exact h.2.2.2.2.2.2.2.2.2.2.2.2
/-! what it holds -/
def CSl (f : Nat → Nat → Int64) (AL : LT) (lo : Nat) : Prop := ∀ s, s < 6 → AL (lo + 67 + 2 * s) = f s
def COd (o : Nat) (FI AI : FT) (lo : Nat) : Prop := FI (lo + 2) 0 = nI o ∧ ∀ k, k < 84 → AI (lo + 3) k = nI (rk o k)
def CGs (Gt : GT) (FI AI : FT) (AL : LT) (g : Nat) : Prop := FI g 0 = nI (gN Gt) ∧ gN Gt ≤ 7 ∧ ∀ i, i < gN Gt → AI (g + 2) i = nI (gL Gt i) ∧ AL (g + 10 + 2 * i) = gP Gt i ∧ AL (g + 3) i = norm (gP Gt i) ∧ AI (g + 4) i = nI (hgL Gt (i + 1)) ∧ AI (g + 5) i = nI (gK Gt i) ∧ ∀ j, j < gK Gt i → AL (g + 6) (i * 86 + j) = gC Gt i j ∧ AI (g + 7) (i * 86 + j) = nI (gR Gt i j)
theorem CGs.gs {Gt : GT} {FI AI : FT} {AL : LT} {g : Nat} (h : CGs Gt FI AI AL g) : GS FI AI AL g (fun k => g + k) (fun i => g + 10 + 2 * i) (gN Gt) (gL Gt) (gP Gt) (fun i => hgL Gt (i + 1)) (gK Gt) (gC Gt) (gR Gt) := h
def cLs (Gt : GT) : List Nat := leadL (gL Gt) (gN Gt)
def CTb (Gt : GT) (AI : FT) (lo : Nat) : Prop := TBL AI (cta lo) (cLs Gt)
/-- PRODUCTS of FIRST ROWS -/
def CPr (Gt : GT) (X : XT) (AI : FT) (AL : LT) (lo : Nat) : Prop := (∀ p, p < 84 → (AI (lo + 34) p = 0 ∨ AI (lo + 34) p = 1) ∧ (x_AR X (lo + 33) p = none → AI (lo + 34) p = 0) ∧ ∀ a, x_AR X (lo + 33) p = some a → lo + 150 ≤ a ∧ a + 1 < x_sz X ∧ PO X a (a + 1) ∧ (AI (lo + 34) p = 1 → ∀ v, (RT (cLs Gt) p)[0]? = some v → AL (a + 1) = prodP (gP Gt) (pw (num v)) (gN Gt))) ∧
  (∀ p q a c, p < 84 → q < 84 → p ≠ q → x_AR X (lo + 33) p = some a → x_AR X (lo + 33) q = some c → a + 1 < c ∨ c + 1 < a) ∧ ∀ p a k, p < 84 → x_AR X (lo + 33) p = some a → x_FR X lo 12 = some k → a + 1 < k ∨ k + 36 < a
/-- RELATIONS, if they stand -/
def CRl (o : Nat) (Gt : GT) (FI AI : FT) (lo : Nat) : Prop := (FI lo 14 = 0 ∨ FI lo 14 = 1) ∧ (FI lo 14 = 1 → (∀ i q, (rlD o (cLs Gt) 6 84)[i]? = some q → AI (lo + 36) i = nI q.1 ∧ AI (lo + 37) i = nI q.2) ∧ ∀ d, 1 ≤ d → d ≤ 6 → AI (lo + 38) d = nI (rlD o (cLs Gt) d 84).length)
def CSh (H : (Nat → Int32) × (Nat → Nat) × (Nat → Nat → Int32)) (FI AI : FT) (lo : Nat) : Prop := ∀ i, i < 4 → FI (lo + 78 + 2 * i) 0 = H.1 i ∧ FI (lo + 78 + 2 * i) 1 = nI (H.2.1 i) ∧ ∀ j, j < 40 → AI (lo + 79 + 2 * i) j = H.2.2 i j
def CLk (L : Nat × (Nat → Nat) × (Nat → Int32) × (Nat → Nat → Int64)) (FI : FT) (AL : LT) (lo : Nat) : Prop := FI lo 16 = nI L.1 ∧ ∀ l, l < L.1 → FI (lo + 86 + 3 * l) 0 = nI (L.2.1 l) ∧ FI (lo + 86 + 3 * l) 1 = L.2.2.1 l ∧ (L.2.1 l = 2 ∨ L.2.1 l = 5 → AL (lo + 88 + 3 * l) = L.2.2.2 l)
/-- steps as the class has them -/
def CSt (FI AI : FT) (AL : LT) (s : Nat) (L : List (Int64 × Nat)) : Prop := FI s 0 = nI L.length ∧ ∀ i q, L[i]? = some q → AL (s + 1) i = q.1 ∧ AI (s + 2) i = nI q.2
def CWt (W : Bool × List (Int64 × Nat)) (X : XT) (FI AI : FT) (AL : LT) (lo : Nat) : Prop := ∃ w v, (w = 60 ∧ v = 63 ∨ w = 63 ∧ v = 60) ∧ x_FR X lo 10 = some (lo + w) ∧ x_FR X lo 11 = some (lo + v) ∧ FI lo 13 = (if W.1 = true then 1 else 0) ∧ (W.1 = true → CSt FI AI AL (lo + w) W.2)
/-- a KEPT object -/
def KOo (X : XT) (k : Nat) : Prop := x_sh X k = some (11, 3) ∧ x_FR X k 1 = some (k + 1) ∧ x_FR X k 2 = some (k + 2) ∧ x_sh X (k + 1) = some (3, 6) ∧ (∀ s, s < 6 → x_AR X (k + 1) s = some (k + 25 + 2 * s) ∧ PO X (k + 25 + 2 * s) (k + 26 + 2 * s)) ∧ GO X (k + 2) (fun j => k + 2 + j) (fun i => k + 11 + 2 * i) (fun i => k + 12 + 2 * i)
def CKp (x : Option ((Nat → Nat → Int64) × Nat × GT)) (X : XT) (FI AI : FT) (AL : LT) (lo : Nat) : Prop := match x with
  | none => x_FR X lo 12 = none
  | some K => ∃ k, x_FR X lo 12 = some k ∧ lo + 150 ≤ k ∧ k + 36 < x_sz X ∧ KOo X k ∧ FI k 0 = nI K.2.1 ∧ (∀ s, s < 6 → AL (k + 26 + 2 * s) = K.1 s) ∧ CGs K.2.2 FI AI AL (k + 2)
/-- places with no PRODUCT yet; room -/
def nnF (X : XT) (lo : Nat) : Nat → Nat
  | 0 => 0
  | p + 1 => nnF X lo p + (if x_AR X (lo + 33) p = none then 1 else 0)
def CRm (C E : Nat) (X : XT) (lo : Nat) : Prop := lo + 150 ≤ x_sz X ∧ x_nc X + 2 * nnF X lo 84 + (if x_FR X lo 12 = none then 37 else 0) = C ∧ x_ns X + 85 * nnF X lo 84 + (if x_FR X lo 12 = none then 2369 else 0) = E
