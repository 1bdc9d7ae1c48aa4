/-! ===== the class: the grid as numbers; the whole state ===== -/
def euF (c : Nat) : Nat → (Nat → Int64) → (Nat → Int64) → (Nat → Int64) × (Nat → Int64)
  | 0, P, N => (P, N)
  | f + 1, P, N => if N c = 0 then (P, N) else euF c f N (fun j => P j - P c / N c * N j)
def ngF (P : Nat → Int64) (c : Nat) : Nat → Int64 := if P c < 0 then (fun j => - P j) else P
def inF : Nat → LM × (Nat → Int64) → LM × (Nat → Int64)
  | 0, s => s
  | c + 1, s => (upn (inF c s).1 c (ngF (euF c 200 ((inF c s).1 c) (inF c s).2).1 c), (euF c 200 ((inF c s).1 c) (inF c s).2).2)
def raF (B : LM) (a : Nat) : Nat → LM
  | 0 => B
  | q + 1 => if 0 < raF B a q (a + 1 + q) (a + 1 + q) then upn (raF B a q) a (fun j => raF B a q a j - lfd (raF B a q a (a + 1 + q)) (raF B a q (a + 1 + q) (a + 1 + q)) * raF B a q (a + 1 + q) j) else raF B a q
def rlF (B : LM) : Nat → LM
  | 0 => B
  | a + 1 => raF (rlF B a) a (9 - a)
def cgI (Gt : GT) : Nat → LM
  | 0 => fun _ _ => 0
  | g + 1 => rlF (inF 10 (cgI Gt g, laM Gt g)).1 10
def cgF (Gt : GT) : LM := cgI Gt (gN Gt)
def CGr (Gt : GT) (FI : FT) (AL : LT) (lo : Nat) : Prop := (FI lo 15 = 0 ∨ FI lo 15 = 1) ∧ (FI lo 15 = 1 → ∀ c j, c < 10 → j < 10 → AL (lo + 43 + c) j = cgF Gt c j)
/-- the class holds a state -/
def CIv (C E : Nat) (S : ST) (X : XT) (FI AI : FT) (AL : LT) (lo : Nat) : Prop := CSl (tS S) AL lo ∧ COd (tO S) FI AI lo ∧ CGs (tG S) FI AI AL (lo + 4) ∧ CTb (tG S) AI lo ∧ CPr (tG S) X AI AL lo ∧ CRl (tO S) (tG S) FI AI lo ∧ CGr (tG S) FI AL lo ∧ CSh (tH S) FI AI lo ∧ CLk (tL S) FI AL lo ∧ CWt (tW S) X FI AI AL lo ∧ CKp (tX S) X FI AI AL lo ∧ CRm C E X lo
/-- what isn't the class's stays -/
def cF (X X' : XT) (FI FI' AI AI' : FT) (AL AL' : LT) (lo : Nat) : Prop := ∀ c, c < lo ∨ lo + 110 ≤ c ∧ c < lo + 150 → (FI' c = FI c ∧ AI' c = AI c ∧ AL' c = AL c) ∧ x_sh X' c = x_sh X c ∧ x_FR X' c = x_FR X c ∧ x_AR X' c = x_AR X c
theorem cF.rf {X : XT} {FI AI : FT} {AL : LT} {lo : Nat} : cF X X FI FI AI AI AL AL lo := fun _ _ => ⟨⟨rfl, rfl, rfl⟩, rfl, rfl, rfl⟩
theorem cF.tr {X X1 X2 : XT} {FI FI1 FI2 AI AI1 AI2 : FT} {AL AL1 AL2 : LT} {lo : Nat} (h : cF X X1 FI FI1 AI AI1 AL AL1 lo) (k : cF X1 X2 FI1 FI2 AI1 AI2 AL1 AL2 lo) : cF X X2 FI FI2 AI AI2 AL AL2 lo := fun c hc => by
  obtain ⟨⟨a1, a2, a3⟩, a4, a5, a6⟩ := h c hc
  obtain ⟨⟨b1, b2, b3⟩, b4, b5, b6⟩ := k c hc
  exact ⟨⟨b1.trans a1, b2.trans a2, b3.trans a3⟩, b4.trans a4, b5.trans a5, b6.trans a6⟩
theorem cF.cl {X : XT} {FI FI' AI AI' : FT} {AL AL' : LT} {lo : Nat} (h1 : ∀ c, c < lo ∨ lo + 110 ≤ c → FI' c = FI c) (h2 : ∀ c, c < lo ∨ lo + 110 ≤ c → AI' c = AI c) (h3 : ∀ c, c < lo ∨ lo + 110 ≤ c → AL' c = AL c) : cF X X FI FI' AI AI' AL AL' lo := fun c hc => ⟨⟨h1 c (by omega), h2 c (by omega), h3 c (by omega)⟩, rfl, rfl, rfl⟩
/-! cells that stay as they are -/
theorem COd.tr {o : Nat} {FI FI' AI AI' : FT} {lo : Nat} (h : COd o FI AI lo) (k1 : FI' (lo + 2) = FI (lo + 2)) (k2 : AI' (lo + 3) = AI (lo + 3)) : COd o FI' AI' lo := by
  unfold COd; rw [k1, k2]; exact h
theorem CGs.tr {Gt : GT} {FI FI' AI AI' : FT} {AL AL' : LT} {g : Nat} (h : CGs Gt FI AI AL g) (k1 : FI' g = FI g) (k2 : ∀ c, g ≤ c → c < g + 8 → AI' c = AI c) (k3 : ∀ c, g ≤ c → c < g + 23 → AL' c = AL c) : CGs Gt FI' AI' AL' g := by
  obtain ⟨a, b, c⟩ := h
  refine ⟨by rw [k1]; exact a, b, fun i hi => ?_⟩
  have hi7 : i < 7 := Nat.lt_of_lt_of_le hi b
  obtain ⟨c1, c2, c3, c4, c5, c6⟩ := c i hi
  refine ⟨by rw [k2 _ (by omega) (by omega)]; exact c1, by rw [k3 _ (by omega) (by omega)]; exact c2, by rw [k3 _ (by omega) (by omega)]; exact c3, by rw [k2 _ (by omega) (by omega)]; exact c4, by rw [k2 _ (by omega) (by omega)]; exact c5, fun j hj => ⟨by rw [k3 _ (by omega) (by omega)]; exact (c6 j hj).1, by rw [k2 _ (by omega) (by omega)]; exact (c6 j hj).2⟩⟩
theorem CTb.tr {Gt : GT} {AI AI' : FT} {lo : Nat} (h : CTb Gt AI lo) (k1 : AI' (lo + 28) = AI (lo + 28)) (k2 : AI' (lo + 29) = AI (lo + 29)) : CTb Gt AI' lo := by
  obtain ⟨S, h⟩ := h
  refine ⟨S, fun t ht => ?_⟩
  obtain ⟨a, b, c, d⟩ := h t ht
  have e0 : cta lo 0 = lo + 28 := rfl
  have e1 : cta lo 1 = lo + 29 := rfl
  rw [e1] at a b ⊢
  rw [e0] at d ⊢
  exact ⟨by rw [k2]; exact a, by rw [k2]; exact b, c, fun i v hv => by rw [k1]; exact d i v hv⟩
theorem CPr.tr {Gt : GT} {X : XT} {AI AI' : FT} {AL AL' : LT} {lo : Nat} (h : CPr Gt X AI AL lo) (k1 : AI' (lo + 34) = AI (lo + 34)) (k2 : ∀ c, lo + 150 ≤ c → AL' c = AL c) : CPr Gt X AI' AL' lo := by
  refine ⟨fun p hp => ?_, h.2⟩
  obtain ⟨a1, a2, a3⟩ := h.1 p hp
  rw [k1]
  refine ⟨a1, a2, fun a ha => ?_⟩
  obtain ⟨b1, b2, b3, b4⟩ := a3 a ha
  exact ⟨b1, b2, b3, fun e v hv => by rw [k2 _ (by omega)]; exact b4 e v hv⟩
theorem CRl.tr {o : Nat} {Gt : GT} {FI FI' AI AI' : FT} {lo : Nat} (h : CRl o Gt FI AI lo) (k1 : FI' lo 14 = FI lo 14) (k2 : AI' (lo + 36) = AI (lo + 36)) (k3 : AI' (lo + 37) = AI (lo + 37)) (k4 : AI' (lo + 38) = AI (lo + 38)) : CRl o Gt FI' AI' lo := by
  unfold CRl; rw [k1, k2, k3, k4]; exact h
theorem CGr.tr {Gt : GT} {FI FI' : FT} {AL AL' : LT} {lo : Nat} (h : CGr Gt FI AL lo) (k1 : FI' lo 15 = FI lo 15) (k2 : ∀ c, lo + 43 ≤ c → c < lo + 53 → AL' c = AL c) : CGr Gt FI' AL' lo :=
  ⟨by rw [k1]; exact h.1, fun e c j hc hj => by rw [k2 _ (by omega) (by omega)]; exact h.2 (by rw [← k1]; exact e) c j hc hj⟩
theorem CSh.tr {H : (Nat → Int32) × (Nat → Nat) × (Nat → Nat → Int32)} {FI FI' AI AI' : FT} {lo : Nat} (h : CSh H FI AI lo) (k1 : ∀ c, lo + 78 ≤ c → c < lo + 86 → FI' c = FI c) (k2 : ∀ c, lo + 78 ≤ c → c < lo + 86 → AI' c = AI c) : CSh H FI' AI' lo := fun i hi => by
  rw [k1 _ (by omega) (by omega), k2 _ (by omega) (by omega)]; exact h i hi
theorem CLk.tr {L : Nat × (Nat → Nat) × (Nat → Int32) × (Nat → Nat → Int64)} {FI FI' : FT} {AL AL' : LT} {lo : Nat} (h : CLk L FI AL lo) (h8 : L.1 ≤ 8) (k0 : FI' lo 16 = FI lo 16) (k1 : ∀ c, lo + 86 ≤ c → c < lo + 110 → FI' c = FI c) (k2 : ∀ c, lo + 86 ≤ c → c < lo + 110 → AL' c = AL c) : CLk L FI' AL' lo :=
  ⟨by rw [k0]; exact h.1, fun l hl => by rw [k1 _ (by omega) (by omega), k2 _ (by omega) (by omega)]; exact h.2 l hl⟩
theorem CSt.tr {FI FI' AI AI' : FT} {AL AL' : LT} {s : Nat} {L : List (Int64 × Nat)} (h : CSt FI AI AL s L) (k1 : FI' s = FI s) (k2 : AI' (s + 2) = AI (s + 2)) (k3 : AL' (s + 1) = AL (s + 1)) : CSt FI' AI' AL' s L := by
  unfold CSt; rw [k1, k2, k3]; exact h
theorem CWt.tr {W : Bool × List (Int64 × Nat)} {X : XT} {FI FI' AI AI' : FT} {AL AL' : LT} {lo : Nat} (h : CWt W X FI AI AL lo) (k0 : FI' lo 13 = FI lo 13) (k1 : ∀ c, lo + 60 ≤ c → c < lo + 66 → FI' c = FI c) (k2 : ∀ c, lo + 60 ≤ c → c < lo + 66 → AI' c = AI c) (k3 : ∀ c, lo + 60 ≤ c → c < lo + 66 → AL' c = AL c) : CWt W X FI' AI' AL' lo := by
  obtain ⟨w, v, h1, h2, h3, h4, h5⟩ := h
  exact ⟨w, v, h1, h2, h3, by rw [k0]; exact h4, fun e => (h5 e).tr (k1 _ (by omega) (by omega)) (k2 _ (by omega) (by omega)) (k3 _ (by omega) (by omega))⟩
theorem CKp.tr {x : Option ((Nat → Nat → Int64) × Nat × GT)} {X : XT} {FI FI' AI AI' : FT} {AL AL' : LT} {lo : Nat} (h : CKp x X FI AI AL lo) (k1 : ∀ c, lo + 150 ≤ c → FI' c = FI c) (k2 : ∀ c, lo + 150 ≤ c → AI' c = AI c) (k3 : ∀ c, lo + 150 ≤ c → AL' c = AL c) : CKp x X FI' AI' AL' lo := by
  cases x with
  | none => exact h
  | some K =>
    obtain ⟨k, h1, h2, h3, h4, h5, h6, h7⟩ := h
    exact ⟨k, h1, h2, h3, h4, by rw [k1 _ (by omega)]; exact h5, fun s hs => by rw [k3 _ (by omega)]; exact h6 s hs, h7.tr (k1 _ (by omega)) (fun c _ _ => k2 c (by omega)) (fun c _ _ => k3 c (by omega))⟩
/-- cells of slots, of work and spare -/
def isSC (lo c : Nat) : Prop := c = lo + 57 ∨ c = lo + 59 ∨ lo + 67 ≤ c ∧ c ≤ lo + 77
theorem CIv.sl {C E lo : Nat} {S : ST} {X : XT} {FI AI : FT} {AL AL' : LT} (h : CIv C E S X FI AI AL lo) (hW : WS S) (f : Nat → Nat → Int64) (k1 : ∀ c, ¬ isSC lo c → AL' c = AL c) (k2 : CSl f AL' lo) : CIv C E (stS S f) X FI AI AL' lo := by
  obtain ⟨a1, a2, a3, a4, a5, a6, a7, a8, a9, a10, a11, a12⟩ := h
  have k3 : ∀ c, (c < lo + 57 ∨ c = lo + 58 ∨ lo + 60 ≤ c ∧ c ≤ lo + 66 ∨ lo + 78 ≤ c) → AL' c = AL c := fun c hc => k1 c (by unfold isSC; omega)
  exact ⟨k2, a2, a3.tr rfl (fun _ _ _ => rfl) (fun c _ _ => k3 c (by omega)), a4, a5.tr rfl (fun c _ => k3 c (by omega)), a6, a7.tr rfl (fun c _ _ => k3 c (by omega)), a8, a9.tr hW.2.2.2.2.2.1.1 rfl (fun _ _ _ => rfl) (fun c _ _ => k3 c (by omega)), a10.tr rfl (fun _ _ _ => rfl) (fun _ _ _ => rfl) (fun c _ _ => k3 c (by omega)), a11.tr (fun _ _ => rfl) (fun _ _ => rfl) (fun c _ => k3 c (by omega)), a12⟩
theorem CIv.wk {C E lo : Nat} {S : ST} {X : XT} {FI AI : FT} {AL AL' : LT} (h : CIv C E S X FI AI AL lo) (hW : WS S) (k1 : ∀ c, c ≠ lo + 57 → c ≠ lo + 59 → AL' c = AL c) : CIv C E S X FI AI AL' lo :=
  h.sl hW (tS S) (fun c hc => k1 c (fun e => hc (Or.inl e)) (fun e => hc (Or.inr (Or.inl e)))) (fun s hs => by rw [k1 _ (by omega) (by omega)]; exact h.1 s hs)
theorem CIv.s1 {C E lo k : Nat} {S : ST} {X : XT} {FI AI : FT} {AL AL' : LT} {f : Nat → Int64} (h : CIv C E S X FI AI AL lo) (hW : WS S) (hk : k < 6) (k1 : ∀ c, c ≠ lo + 57 → c ≠ lo + 59 → c ≠ lo + 67 + 2 * k → AL' c = AL c) (k2 : AL' (lo + 67 + 2 * k) = f) : CIv C E (set1 S k f) X FI AI AL' lo :=
  h.sl hW _ (fun c hc => k1 c (fun e => hc (Or.inl e)) (fun e => hc (Or.inr (Or.inl e))) (fun e => hc (Or.inr (Or.inr (by omega))))) (fun s hs => by
    by_cases e : s = k
    · subst e; rw [upn_at]; exact k2
    · rw [upn_ne _ _ e, k1 _ (by omega) (by omega) (by omega)]; exact h.1 s hs)
theorem cF.al {X : XT} {FI AI : FT} {AL AL' : LT} {lo : Nat} (h3 : ∀ c, c < lo ∨ lo + 110 ≤ c → AL' c = AL c) : cF X X FI FI AI AI AL AL' lo := cF.cl (fun _ _ => rfl) (fun _ _ => rfl) h3
