/-! ===== the class: PRODUCTS of FIRST ROWS ===== -/
/-- all that was stays; new cells, and PRODUCTS that came -/
def xK (X X' : XT) (lo : Nat) : Prop := x_sz X ≤ x_sz X' ∧ (∀ c, c < x_sz X → x_sh X' c = x_sh X c ∧ x_FR X' c = x_FR X c ∧ (c ≠ lo + 33 → x_AR X' c = x_AR X c))
theorem xK.rf {X : XT} {lo : Nat} : xK X X lo := ⟨Nat.le_refl _, fun _ _ => ⟨rfl, rfl, fun _ => rfl⟩⟩
theorem xK.tr {X X1 X2 : XT} {lo : Nat} (h : xK X X1 lo) (k : xK X1 X2 lo) : xK X X2 lo := ⟨Nat.le_trans h.1 k.1, fun c hc => by
  obtain ⟨a1, a2, a3⟩ := h.2 c hc
  obtain ⟨b1, b2, b3⟩ := k.2 c (Nat.lt_of_lt_of_le hc h.1)
  exact ⟨b1.trans a1, b2.trans a2, fun e => (b3 e).trans (a3 e)⟩⟩
theorem PO.xk {X X' : XT} {lo p q : Nat} (h : PO X p q) (k : xK X X' lo) (hp : p < x_sz X) (hq : q < x_sz X) : PO X' p q :=
  ⟨(k.2 p hp).1.trans h.1, by rw [(k.2 p hp).2.1]; exact h.2.1, (k.2 q hq).1.trans h.2.2⟩
theorem GO.xk {X X' : XT} {lo g : Nat} {ga po qo : Nat → Nat} (h : GO X g ga po qo) (k : xK X X' lo) (hg : g < x_sz X) (h1 : ga 1 < x_sz X ∧ ga 1 ≠ lo + 33) (h2 : ga 2 < x_sz X) (h3 : ga 3 < x_sz X) (h4 : ga 4 < x_sz X) (h5 : ga 5 < x_sz X) (h6 : ga 6 < x_sz X) (h7 : ga 7 < x_sz X) (h8 : ga 8 < x_sz X) (hp : ∀ i, i < 7 → po i < x_sz X ∧ qo i < x_sz X) : GO X' g ga po qo := by
  obtain ⟨a1, f1, f2, f3, f4, f5, f6, f7, f8, s1, s2, s3, s4, s5, s6, s7, s8, b1, b2⟩ := h
  have e := (k.2 g hg).2.1
  exact ⟨(k.2 g hg).1.trans a1, by rw [e]; exact f1, by rw [e]; exact f2, by rw [e]; exact f3, by rw [e]; exact f4, by rw [e]; exact f5, by rw [e]; exact f6, by rw [e]; exact f7, by rw [e]; exact f8, (k.2 _ h1.1).1.trans s1, (k.2 _ h2).1.trans s2, (k.2 _ h3).1.trans s3, (k.2 _ h4).1.trans s4, (k.2 _ h5).1.trans s5, (k.2 _ h6).1.trans s6, (k.2 _ h7).1.trans s7, (k.2 _ h8).1.trans s8, fun i hi => ⟨by rw [(k.2 _ h1.1).2.2 h1.2]; exact (b1 i hi).1, (b1 i hi).2.xk k (hp i hi).1 (hp i hi).2⟩, b2⟩
theorem CO.xk {X X' : XT} {lo : Nat} (h : CO X lo) (k : xK X X' lo) (hz : lo + 150 ≤ x_sz X) : CO X' lo := by
  have e : ∀ c, c < lo + 150 → x_sh X' c = x_sh X c := fun c hc => (k.2 c (by omega)).1
  have f : ∀ c, c < lo + 150 → x_FR X' c = x_FR X c := fun c hc => (k.2 c (by omega)).2.1
  have a : ∀ c, c < lo + 150 → c ≠ lo + 33 → x_AR X' c = x_AR X c := fun c hc h3 => (k.2 c (by omega)).2.2 h3
  refine ⟨?_, ⟨by rw [e _ (by omega)]; exact h.s0, fun s hs => ⟨by rw [a _ (by omega) (by omega)]; exact (h.sl hs).1, (h.sl hs).2.xk k (by omega) (by omega)⟩⟩, ?_, h.go.xk k (by omega) ⟨show lo + 4 + 1 < x_sz X by omega, show lo + 4 + 1 ≠ lo + 33 by omega⟩ (show lo + 4 + 2 < x_sz X by omega) (show lo + 4 + 3 < x_sz X by omega) (show lo + 4 + 4 < x_sz X by omega) (show lo + 4 + 5 < x_sz X by omega) (show lo + 4 + 6 < x_sz X by omega) (show lo + 4 + 7 < x_sz X by omega) (show lo + 4 + 8 < x_sz X by omega) (fun i hi => ⟨show lo + 13 + 2 * i < x_sz X by omega, show lo + 14 + 2 * i < x_sz X by omega⟩), ?_, ?_, ?_, ⟨by rw [e _ (by omega)]; exact h.s6, fun s hs => ⟨by rw [a _ (by omega) (by omega)]; exact (h.shs hs).1, ?_⟩⟩, ⟨by rw [e _ (by omega)]; exact h.s7, fun l hl => ⟨by rw [a _ (by omega) (by omega)]; exact (h.lk hl).1, ?_⟩⟩, h.wk.xk k (by omega) (by omega), h.sp.xk k (by omega) (by omega), ?_, ?_⟩
  · rw [e _ (by omega), f _ (by omega)]; exact h.1
  · unfold RK; rw [e _ (by omega), f _ (by omega), e _ (by omega)]; exact h.rk
  · obtain ⟨t0, r0, r1, r2, r3, r4, r5, r6, q0, q1, q2, q3, q4, q5, q6, hinj⟩ := h.to
    have ft := f (lo + 27) (by omega)
    have et : ∀ i, i < 7 → x_sh X' (cta lo i) = x_sh X (cta lo i) := fun i hi => e (lo + 28 + i) (by omega)
    exact ⟨by rw [e _ (by omega)]; exact t0, by rw [ft]; exact r0, by rw [ft]; exact r1, by rw [ft]; exact r2, by rw [ft]; exact r3, by rw [ft]; exact r4, by rw [ft]; exact r5, by rw [ft]; exact r6, by rw [et 0 (by omega)]; exact q0, by rw [et 1 (by omega)]; exact q1, by rw [et 2 (by omega)]; exact q2, by rw [et 3 (by omega)]; exact q3, by rw [et 4 (by omega)]; exact q4, by rw [et 5 (by omega)]; exact q5, by rw [et 6 (by omega)]; exact q6, hinj⟩
  · unfold RLo
    rw [e _ (by omega), f _ (by omega), e _ (by omega), e _ (by omega), e _ (by omega), e _ (by omega), e _ (by omega)]; exact h.rl
  · obtain ⟨l1, l2, l3, l4, l5, l6⟩ := h.la
    exact ⟨by rw [e _ (by omega)]; exact l1, by rw [f _ (by omega)]; exact l2, by rw [f _ (by omega)]; exact l3, by rw [e _ (by omega)]; exact l4, by rw [e _ (by omega)]; exact l5, fun c hc => ⟨by rw [a _ (by omega) (by omega)]; exact (l6 c hc).1, by rw [e _ (by omega)]; exact (l6 c hc).2⟩⟩
  · unfold SH; rw [e _ (by omega), f _ (by omega), e _ (by omega)]; exact (h.shs hs).2
  · obtain ⟨b1, b2, b3⟩ := (h.lk hl).2
    exact ⟨by rw [e _ (by omega)]; exact b1, by rw [f _ (by omega)]; exact b2, b3.xk k (by omega) (by omega)⟩
  · unfold STp; rw [e _ (by omega), f _ (by omega), e _ (by omega), e _ (by omega)]; exact h.st (w := 60) (Or.inl rfl)
  · unfold STp; rw [e _ (by omega), f _ (by omega), e _ (by omega), e _ (by omega)]; exact h.st (w := 63) (Or.inr rfl)
theorem KOo.xk {X X' : XT} {lo b : Nat} (h : KOo X b) (k : xK X X' lo) (hb : lo + 150 ≤ b) (hz : b + 36 < x_sz X) : KOo X' b := by
  obtain ⟨a1, a2, a3, a4, a5, a6⟩ := h
  refine ⟨(k.2 _ (by omega)).1.trans a1, by rw [(k.2 _ (by omega)).2.1]; exact a2, by rw [(k.2 _ (by omega)).2.1]; exact a3, (k.2 _ (by omega)).1.trans a4, fun s hs => ⟨by rw [(k.2 _ (by omega)).2.2 (by omega)]; exact (a5 s hs).1, (a5 s hs).2.xk k (by omega) (by omega)⟩, a6.xk k (by omega) ⟨show b + 2 + 1 < x_sz X by omega, show b + 2 + 1 ≠ lo + 33 by omega⟩ (show b + 2 + 2 < x_sz X by omega) (show b + 2 + 3 < x_sz X by omega) (show b + 2 + 4 < x_sz X by omega) (show b + 2 + 5 < x_sz X by omega) (show b + 2 + 6 < x_sz X by omega) (show b + 2 + 7 < x_sz X by omega) (show b + 2 + 8 < x_sz X by omega) (fun i hi => ⟨show b + 11 + 2 * i < x_sz X by omega, show b + 12 + 2 * i < x_sz X by omega⟩)⟩
theorem CKp.xk {x : Option ((Nat → Nat → Int64) × Nat × GT)} {X X' : XT} {FI FI' AI AI' : FT} {AL AL' : LT} {lo : Nat} (h : CKp x X FI AI AL lo) (k : xK X X' lo) (hz : lo + 150 ≤ x_sz X) (k1 : ∀ b c, x_FR X lo 12 = some b → b ≤ c → c ≤ b + 36 → b + 36 < x_sz X → FI' c = FI c ∧ AI' c = AI c ∧ AL' c = AL c) : CKp x X' FI' AI' AL' lo := by
  have e := (k.2 lo (by omega)).2.1
  cases x with
  | none => show x_FR X' lo 12 = none; rw [e]; exact h
  | some K =>
    obtain ⟨b, h1, h2, h3, h4, h5, h6, h7⟩ := h
    have kk := fun c a1 a2 => k1 b c h1 a1 a2 h3
    exact ⟨b, by rw [e]; exact h1, h2, Nat.lt_of_lt_of_le h3 k.1, h4.xk k h2 h3, by rw [(kk b (by omega) (by omega)).1]; exact h5, fun s hs => by rw [(kk _ (by omega) (by omega)).2.2]; exact h6 s hs, h7.tr (kk _ (by omega) (by omega)).1 (fun c _ _ => (kk c (by omega) (by omega)).2.1) (fun c _ _ => (kk c (by omega) (by omega)).2.2)⟩
def xput (X : XT) (a j : Nat) (v : Option Nat) : XT := (x_sh X, u2 (x_FR X) a j v, x_AR X, X.2.2.2)
def xarr (X : XT) (a j : Nat) (v : Option Nat) : XT := (x_sh X, x_FR X, u2 (x_AR X) a j v, X.2.2.2)
theorem s_polyInit {V : GV} {d p : Nat} {X : XT} {FI AI : FT} {AL : LT} (hp : x_sh X p = some (14, 1)) (hz : p < x_sz X) : G V m_Poly_init (d + 1) 0 [some (.ref p)] [] X FI AI AL (Pd none (xput (xnew X 1 84) p 0 (some (x_sz X))) FI AI (z2 AL (x_sz X) 0)) := by
  refine G_aload0 1 d_Poly_init_0 rfl ?_
  refine G_objInit 4 d_Poly_init_1 rfl e_Poly_1 (Nat.le_of_ble_eq_true rfl) ?_
  refine G_aload0 5 d_Poly_init_4 rfl ?_
  refine G_bipushN 84 7 d_Poly_init_5 rfl rfl ?_
  refine G_newL 84 9 d_Poly_init_7 rfl ac_long rfl (by omega) ?_
  refine G_putR (sh := x_sh (xnew X 1 84)) (FR := x_FR (xnew X 1 84)) (AR := x_AR (xnew X 1 84)) (zz := (xnew X 1 84).2.2.2) (x := some (x_sz X)) (a := p) (w := 1) true 12 d_Poly_init_9 rfl f_Poly_9 rfl rfl (by intro C T N h; cases h; rfl) (fun _ => ⟨rfl, by intro C T N h; cases h; rfl⟩) (by show (if p = x_sz X then some (1, 84) else x_sh X p) = _; rw [if_neg (by omega)]; exact hp) rfl rfl ?_
  refine G_vret d_Poly_init_12 rfl ?_
  exact ⟨rfl, rfl, rfl, rfl, rfl⟩
