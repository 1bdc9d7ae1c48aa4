/-! ===== the reference: ORDER, drop, loosen, generator, step, count ===== -/
def MWt (w : Bool × List (Int64 × Nat)) (FI AI : FT) (AL : LT) (b : Nat) : Prop := FI b 23 = (if w.1 = true then 1 else 0) ∧ (w.1 = true → FI b 24 = nI w.2.length ∧ STs AI AL (b + 18) (b + 19) w.2)
def MSh (H : (Nat → Int32) × (Nat → Nat) × (Nat → Nat → Int32)) (AI : FT) (b : Nat) : Prop := ∀ i, i < 4 → AI (b + 37) i = H.1 i ∧ AI (b + 38) i = nI (H.2.1 i) ∧ ∀ j, j < 40 → AI (b + 39) (40 * i + j) = H.2.2 i j
def MLk (L : Nat × (Nat → Nat) × (Nat → Int32) × (Nat → Nat → Int64)) (FI AI : FT) (AL : LT) (b : Nat) : Prop := FI b 48 = nI L.1 ∧ ∀ l, l < L.1 → AI (b + 34) l = nI (L.2.1 l) ∧ AI (b + 35) l = L.2.2.1 l ∧ (L.2.1 l = 2 ∨ L.2.1 l = 5 → ∀ t, t < 84 → AL (b + 36) (84 * l + t) = L.2.2.2 l t)
def MXk (x : Option ((Nat → Nat → Int64) × Nat × GT)) (FI AI : FT) (AL : LT) (b : Nat) : Prop := match x with
  | none => FI b 19 = 0
  | some k => FI b 19 = 1 ∧ (∀ s t, s < 6 → t < 84 → AL (b + 2) (84 * s + t) = k.1 s t) ∧ FI b 17 = nI k.2.1 ∧ FI b 18 = nI (gN k.2.2) ∧ ∀ g, g < gN k.2.2 → (∀ t, t < 84 → AL (b + 2) (84 * (6 + g) + t) = gP k.2.2 g t) ∧ AI (b + 13) g = nI (gK k.2.2 g) ∧ ∀ i, i < gK k.2.2 g → AL (b + 14) (86 * g + i) = gC k.2.2 g i ∧ ∀ h, h < 7 → AI (b + 15) (7 * (86 * g + i) + h) = nI (pw (gR k.2.2 g i) h)
theorem MWt.tr {w : Bool × List (Int64 × Nat)} {FI FI' AI AI' : FT} {AL AL' : LT} {b : Nat} (h : MWt w FI AI AL b) (k1 : FI' b 23 = FI b 23) (k2 : FI' b 24 = FI b 24) (k3 : AI' (b + 19) = AI (b + 19)) (k4 : AL' (b + 18) = AL (b + 18)) : MWt w FI' AI' AL' b :=
  ⟨by rw [k1]; exact h.1, fun e => ⟨by rw [k2]; exact (h.2 e).1, fun i q hq => ⟨by rw [k4]; exact ((h.2 e).2 i q hq).1, fun f hf => by rw [k3]; exact ((h.2 e).2 i q hq).2 f hf⟩⟩⟩
theorem MSh.tr {H : (Nat → Int32) × (Nat → Nat) × (Nat → Nat → Int32)} {AI AI' : FT} {b : Nat} (h : MSh H AI b) (k1 : AI' (b + 37) = AI (b + 37)) (k2 : AI' (b + 38) = AI (b + 38)) (k3 : AI' (b + 39) = AI (b + 39)) : MSh H AI' b :=
  fun i hi => ⟨by rw [k1]; exact (h i hi).1, by rw [k2]; exact (h i hi).2.1, fun j hj => by rw [k3]; exact (h i hi).2.2 j hj⟩
theorem MLk.tr {L : Nat × (Nat → Nat) × (Nat → Int32) × (Nat → Nat → Int64)} {FI FI' AI AI' : FT} {AL AL' : LT} {b : Nat} (h : MLk L FI AI AL b) (k1 : FI' b 48 = FI b 48) (k2 : AI' (b + 34) = AI (b + 34)) (k3 : AI' (b + 35) = AI (b + 35)) (k4 : AL' (b + 36) = AL (b + 36)) : MLk L FI' AI' AL' b :=
  ⟨by rw [k1]; exact h.1, fun l hl => ⟨by rw [k2]; exact (h.2 l hl).1, by rw [k3]; exact (h.2 l hl).2.1, fun e t ht => by rw [k4]; exact (h.2 l hl).2.2 e t ht⟩⟩
theorem MXk.tr {x : Option ((Nat → Nat → Int64) × Nat × GT)} {FI FI' AI AI' : FT} {AL AL' : LT} {b : Nat} (h : MXk x FI AI AL b) (k1 : FI' b 19 = FI b 19) (k2 : FI' b 17 = FI b 17) (k3 : FI' b 18 = FI b 18) (k4 : AI' (b + 13) = AI (b + 13)) (k5 : AI' (b + 15) = AI (b + 15)) (k6 : AL' (b + 2) = AL (b + 2)) (k7 : AL' (b + 14) = AL (b + 14)) : MXk x FI' AI' AL' b := by
  unfold MXk at *
  cases x with
  | none => dsimp only at *; rw [k1]; exact h
  | some q =>
    dsimp only at *
    rw [k1, k2, k3, k4, k5, k6, k7]
    exact h
theorem MIv.mk {S : ST} {FI AI : FT} {AL : LT} {b : Nat} (g : MGs FI AI AL b (tO S) (tG S)) (a1 : FI b 8 = nI (tO S)) (a2 : ∀ s, s < 6 → mp AL b s = tS S s) (a3 : MWt (tW S) FI AI AL b) (a4 : MSh (tH S) AI b) (a5 : MLk (tL S) FI AI AL b) (a6 : MXk (tX S) FI AI AL b) : MIv S FI AI AL b := ⟨g, a1, a2, a3, a4, a5, a6⟩
theorem MIv.de {S : ST} {FI AI : FT} {AL : LT} {b : Nat} (h : MIv S FI AI AL b) : MGs FI AI AL b (tO S) (tG S) ∧ FI b 8 = nI (tO S) ∧ (∀ s, s < 6 → mp AL b s = tS S s) ∧ MWt (tW S) FI AI AL b ∧ MSh (tH S) AI b ∧ MLk (tL S) FI AI AL b ∧ MXk (tX S) FI AI AL b := h
theorem fM.fi {FI FI' AI : FT} {AL : LT} {b : Nat} (h : ∀ c, c ≠ b → FI' c = FI c) : fM FI FI' AI AI AL AL b := fun c hc => ⟨h c (by omega), rfl, rfl⟩
def fLoosen (S : ST) : Int32 × ST := (nI (tL S).1, stL S (0, (tL S).2))
def fDrop (S : ST) : Int32 × ST := if gN (tG S) = 0 then (-3, S) else (nI (gN (tG S) - 1), stW (stG S (gN (tG S) - 1, (tG S).2)) (false, (tW S).2))
def fGen1 (S : ST) (f : Nat → Int64) : Int32 × ST := if lead1 f (tO S) ≤ 1 ∨ ¬ f (lead1 f (tO S) - 1) = 1 ∨ (List.range (gN (tG S))).any (fun g => decide (gL (tG S) g = lead1 f (tO S) - 1)) = true then (-3, S)
     else if gN (tG S) = 7 then (-4, S) else (nI (gN (tG S)), stG S (gN (tG S) + 1, upn (gL (tG S)) (gN (tG S)) (lead1 f (tO S) - 1), upn (gP (tG S)) (gN (tG S)) f, upn (gK (tG S)) (gN (tG S)) 0, gC (tG S), gR (tG S)))
def fGenerator (S : ST) (s : Int32) : Int32 × ST := if bN s 6 = true then fGen1 S (tS S (ni s)) else (-1, S)
def fStep (S : ST) (i w : Int32) : Int64 × ST := if (bB w (-1) 6 && (tW S).1 && bN i (tW S).2.length) = true then (if w.toInt < 0 then ((tW S).2.getD (ni i) (0, 0)).1 else (nI (pw ((tW S).2.getD (ni i) (0, 0)).2 (ni w))).toInt64, S) else (NOl, S)
theorem m_loosen {V : GV} {d b : Nat} {S : ST} {X : XT} {FI AI : FT} {AL : LT} (h : MO X b) (hI : MIv S FI AI AL b) (hW : WS S) : G V m_Mod_loosen (d + 0) 0 [some (.ref b), none] [] X FI AI AL (fun r X' FI' AI' AL' => r = some (.int (fLoosen S).1) ∧ X' = X ∧ MIv (fLoosen S).2 FI' AI' AL' b ∧ fM FI FI' AI AI' AL AL' b) := by
  obtain ⟨g, a1, a2, a3, a4, a5, a6⟩ := hI.de
  have f48 := a5.1
  have hu : ∀ j, j ≠ 48 → ∀ v, u2 FI b 48 v b j = FI b j := fun j hj v => u2_ix _ _ hj
  refine G_aload0 1 d_Mod_loosen_0 rfl ?_
  refine G_getIv 4 d_Mod_loosen_1 rfl f_Mod_438 rfl h.sh f48 ?_
  refine G_istore1 5 d_Mod_loosen_4 rfl (by decide) rfl ?_
  refine G_aload0 6 d_Mod_loosen_5 rfl ?_
  refine G_iconstN 0 7 d_Mod_loosen_6 rfl rfl ?_
  refine G_putI 10 d_Mod_loosen_7 rfl f_Mod_438 rfl (by intro C T N h; cases h; rfl) h.sh rfl rfl ?_
  refine G_iload1 11 d_Mod_loosen_10 rfl ?_
  refine G_iret d_Mod_loosen_11 rfl ?_
  exact ⟨rfl, rfl, MIv.mk (S := (fLoosen S).2) ⟨g.1, by rw [hu 9 (by omega)]; exact g.2.1, g.2.2⟩ (by rw [hu 8 (by omega)]; exact a1) a2 (a3.tr (hu 23 (by omega) _) (hu 24 (by omega) _) rfl rfl) a4 ⟨u2_at _ _ _ _, fun l hl => by have : l < 0 := hl; omega⟩ (a6.tr (hu 19 (by omega) _) (hu 17 (by omega) _) (hu 18 (by omega) _) rfl rfl rfl rfl), fM.fi (fun c hc => u2_off _ _ _ hc)⟩
theorem m_drop {V : GV} {d b : Nat} {S : ST} {X : XT} {FI AI : FT} {AL : LT} (h : MO X b) (hI : MIv S FI AI AL b) (hW : WS S) : G V m_Mod_drop (d + 0) 0 [some (.ref b)] [] X FI AI AL (fun r X' FI' AI' AL' => r = some (.int (fDrop S).1) ∧ X' = X ∧ MIv (fDrop S).2 FI' AI' AL' b ∧ fM FI FI' AI AI' AL AL' b) := by
  obtain ⟨g, a1, a2, a3, a4, a5, a6⟩ := hI.de
  have f9 := g.2.1
  have hn7 := hW.2.1.1
  rcases Nat.eq_zero_or_pos (gN (tG S)) with z | z
  · simp only [fDrop, z, if_true]
    rw [z] at f9
    refine G_aload0 1 d_Mod_drop_0 rfl ?_
    refine G_getIv 4 d_Mod_drop_1 rfl f_Mod_133 rfl h.sh f9 ?_
    refine G_ifne 10 7 d_Mod_drop_4 rfl rfl (fun h4 => ?_) (fun h4 => ?_)
    · exact absurd rfl h4
    · refine G_bipush (-3) 9 d_Mod_drop_7 rfl rfl ?_
      refine G_iret d_Mod_drop_9 rfl ?_
      exact ⟨rfl, rfl, hI, fM.rf⟩
  · have hz : ¬ gN (tG S) = 0 := by omega
    simp only [fDrop, if_neg hz]
    have hu : ∀ j, j ≠ 9 → j ≠ 23 → ∀ v v', u2 (u2 FI b 9 v) b 23 v' b j = FI b j := fun j h1 h2 v v' => by rw [u2_ix _ _ h2, u2_ix _ _ h1]
    have h9 : ∀ v v', u2 (u2 FI b 9 v) b 23 v' b 9 = v := fun v v' => by rw [u2_ix _ _ (by omega), u2_at]
    refine G_aload0 1 d_Mod_drop_0 rfl ?_
    refine G_getIv 4 d_Mod_drop_1 rfl f_Mod_133 rfl h.sh f9 ?_
    refine G_ifne 10 7 d_Mod_drop_4 rfl rfl (fun h4 => ?_) (fun h4 => ?_)
    · refine G_aload0 11 d_Mod_drop_10 rfl ?_
      refine G_dup 12 d_Mod_drop_11 rfl rfl ?_
      refine G_getIv 15 d_Mod_drop_12 rfl f_Mod_133 rfl h.sh f9 ?_
      refine G_iconstN 1 16 d_Mod_drop_15 rfl rfl ?_
      first | refine G_isubN 17 d_Mod_drop_16 rfl (by omega) ?_ | refine G_isub 17 d_Mod_drop_16 rfl ?_
      refine G_putI 20 d_Mod_drop_17 rfl f_Mod_133 rfl (by intro C T N h; cases h; rfl) h.sh rfl rfl ?_
      refine G_aload0 21 d_Mod_drop_20 rfl ?_
      refine G_iconstN 0 22 d_Mod_drop_21 rfl rfl ?_
      refine G_putI 25 d_Mod_drop_22 rfl f_Mod_304 rfl (by intro C T N h; cases h; rfl) h.sh rfl rfl ?_
      refine G_aload0 26 d_Mod_drop_25 rfl ?_
      refine G_getIv 29 d_Mod_drop_26 rfl f_Mod_133 rfl h.sh (h9 _ _) ?_
      refine G_iret d_Mod_drop_29 rfl ?_
      refine ⟨rfl, rfl, MIv.mk (S := stW (stG S (gN (tG S) - 1, (tG S).2)) (false, (tW S).2)) ⟨g.1, by rw [h9]; rfl, g.2.2.1, g.2.2.2.1, fun q hq => g.2.2.2.2 q (by have : q < gN (tG S) - 1 := hq; omega)⟩ (by rw [hu 8 (by omega) (by omega)]; exact a1) a2 ⟨u2_at _ _ _ _, fun e => by cases e⟩ a4 (a5.tr (hu 48 (by omega) (by omega) _ _) rfl rfl rfl) (a6.tr (hu 19 (by omega) (by omega) _ _) (hu 17 (by omega) (by omega) _ _) (hu 18 (by omega) (by omega) _ _) rfl rfl rfl rfl), fM.fi (fun c hc => by rw [u2_off _ _ _ hc, u2_off _ _ _ hc])⟩
    · exact absurd h4 (nI_ne0 z (by omega))
theorem m_order {V : GV} {d b : Nat} {S : ST} {x : Int32} {X : XT} {FI AI : FT} {AL : LT} (h : MO X b) (hI : MIv S FI AI AL b) (hW : WS S) : G V m_Mod_order (d + 3) 0 [some (.ref b), some (.int x), none] [] X FI AI AL (fun r X' FI' AI' AL' => r = some (.int (fOrder S x).1) ∧ X' = X ∧ MIv (fOrder S x).2 FI' AI' AL' b ∧ fM FI FI' AI AI' AL AL' b) := by
  obtain ⟨g, a1, a2, a3, a4, a5, a6⟩ := hI.de
  have f9 := g.2.1
  have hn7 := hW.2.1.1
  have kw : ((0 : Int64).toInt ≤ x.toInt64.toInt ∧ x.toInt64.toInt ≤ (2 : Int64).toInt) ↔ isN x 3 := by
    rw [toL, isN_iff (by omega), show (0 : Int64).toInt = 0 from rfl, show (2 : Int64).toInt = 2 from rfl]; omega
  refine G_iload1 1 d_Mod_order_0 rfl ?_
  refine G_i2l 2 d_Mod_order_1 rfl ?_
  refine G_lconst 0 3 d_Mod_order_2 rfl rfl ?_
  refine G_ldc2 6 d_Mod_order_3 rfl k_Mod_180 ?_
  refine G_invS3b 9 d_Mod_order_6 rfl e_Mod_139 M_Mod_in (Nat.le_of_ble_eq_true rfl) (Nat.le_of_ble_eq_true rfl) rfl (s_mIn) (fun h6 => G_ifne1 12 d_Mod_order_9 14 rfl rfl ?_) (fun h6 => G_ifne0 12 d_Mod_order_9 14 rfl rfl ?_)
  · obtain ⟨o, ho, rfl⟩ := kw.mp h6
    have q1 := bN_t ho (show 3 < 2 ^ 31 by omega)
    have z1 := ni_nI (show o < 2 ^ 31 by omega)
    simp only [fOrder, q1, z1, if_true]
    rcases Nat.eq_zero_or_pos (gN (tG S)) with z | z
    · have hz : ¬ 0 < gN (tG S) := by omega
      simp only [if_neg hz]
      rw [z] at f9
      have f8 : u2 FI b 8 (nI o) b 8 = nI o := u2_at _ _ _ _
      have hr := s_mRanks (V := V) (d := d) (FI := u2 FI b 8 (nI o)) (AL := AL) h g.1 f8 ho
      refine G_aload0 15 d_Mod_order_14 rfl ?_
      refine G_getIv 18 d_Mod_order_15 rfl f_Mod_133 rfl h.sh f9 ?_
      refine G_ifle 24 21 d_Mod_order_18 rfl rfl (fun h18 => ?_) (fun h18 => ?_)
      · refine G_aload0 25 d_Mod_order_24 rfl ?_
        refine G_getIv 28 d_Mod_order_25 rfl f_Mod_151 rfl h.sh a1 ?_
        refine G_istore2 29 d_Mod_order_28 rfl (by decide) rfl ?_
        refine G_aload0 30 d_Mod_order_29 rfl ?_
        refine G_iload1 31 d_Mod_order_30 rfl ?_
        refine G_putI 34 d_Mod_order_31 rfl f_Mod_151 rfl (by intro C T N h; cases h; rfl) h.sh rfl rfl ?_
        refine G_aload0 35 d_Mod_order_34 rfl ?_
        refine G_invV0 38 d_Mod_order_35 rfl e_Mod_130 M_Mod_ranks rfl h.sh (Nat.le_of_ble_eq_true rfl) (Nat.le_of_ble_eq_true rfl) rfl (G.conseq (hr) (fun r35 X35 FI35 AI35 AL35 h35 => ?_))
        obtain ⟨b1, b2, b3, b4, b5, b6⟩ := h35
        replace b2 := b2.symm
        replace b3 := b3.symm
        replace b4 := b4.symm
        subst b1 b2 b3 b4
        have hu : ∀ j, j ≠ 8 → u2 FI b 8 (nI o) b j = FI b j := fun j hj => u2_ix _ _ hj
        have hT' : MTb AI35 b := ⟨fun s hs => by rw [b5 _ (by omega) (by omega), b5 _ (by omega) (by omega), b5 _ (by omega) (by omega)]; exact g.1.1 s hs, fun x y z hs => by rw [b5 _ (by omega) (by omega)]; exact g.1.2 x y z hs⟩
        refine G_iload2 39 d_Mod_order_38 rfl ?_
        refine G_iret d_Mod_order_39 rfl ?_
        refine ⟨rfl, rfl, MIv.mk (S := stO S o) ⟨hT', by rw [hu 9 (by omega)]; exact g.2.1, ho, b6, fun q hq => ?_⟩ f8 a2 (a3.tr (hu 23 (by omega)) (hu 24 (by omega)) (b5 _ (by omega) (by omega)) rfl) (a4.tr (b5 _ (by omega) (by omega)) (b5 _ (by omega) (by omega)) (b5 _ (by omega) (by omega))) (a5.tr (hu 48 (by omega)) (b5 _ (by omega) (by omega)) (b5 _ (by omega) (by omega)) rfl) (a6.tr (hu 19 (by omega)) (hu 17 (by omega)) (hu 18 (by omega)) (b5 _ (by omega) (by omega)) (b5 _ (by omega) (by omega)) rfl rfl), fun c hc => ⟨u2_off _ _ _ (by omega), b5 c (by omega) (by omega), rfl⟩⟩
        have : q < gN (tG S) := hq
        omega
      · exact absurd (by decide) h18
    · simp only [if_pos z]
      refine G_aload0 15 d_Mod_order_14 rfl ?_
      refine G_getIv 18 d_Mod_order_15 rfl f_Mod_133 rfl h.sh f9 ?_
      refine G_ifle 24 21 d_Mod_order_18 rfl rfl (fun h18 => ?_) (fun h18 => ?_)
      · exact absurd h18 (nI_nle z (by omega))
      · refine G_bipush (-3) 23 d_Mod_order_21 rfl rfl ?_
        refine G_iret d_Mod_order_23 rfl ?_
        exact ⟨rfl, rfl, hI, fM.rf⟩
  · have q1 := bN_f (fun e => h6 (kw.mpr e)) (show 3 < 2 ^ 31 by omega)
    simp only [fOrder, q1, Bool.false_eq_true, if_false]
    refine G_iconst (-1) 13 d_Mod_order_12 rfl rfl ?_
    refine G_iret d_Mod_order_13 rfl ?_
    exact ⟨rfl, rfl, hI, fM.rf⟩
theorem m_step {V : GV} {d b : Nat} {S : ST} {i w : Int32} {X : XT} {FI AI : FT} {AL : LT} (h : MO X b) (hI : MIv S FI AI AL b) (hW : WS S) : G V m_Mod_step (d + 1) 0 [some (.ref b), some (.int i), some (.int w)] [] X FI AI AL (fun r X' FI' AI' AL' => r = some (.long (fStep S i w).1) ∧ X' = X ∧ MIv (fStep S i w).2 FI' AI' AL' b ∧ fM FI FI' AI AI' AL AL' b) := by
  obtain ⟨g, a1, a2, a3, a4, a5, a6⟩ := hI.de
  have kc : ((-1 : Int64).toInt ≤ w.toInt64.toInt ∧ w.toInt64.toInt ≤ (6 : Int64).toInt) ↔ isB w (-1) 6 := by
    rw [toL]; exact Iff.rfl
  have hwm : ∀ d', G V m_Mod_witnessMany d' 0 [some (.ref b)] [] X FI AI AL (Pd (some (.int (nI (if (tW S).1 = true then (tW S).2.length else 0)))) X FI AI AL) := by
    intro d'
    cases hw : (tW S).1 with
    | true =>
      have f23 : FI b 23 = 1 := by rw [a3.1, hw]; rfl
      have f24 := (a3.2 hw).1
      simp only [if_true]
      refine G_aload0 1 d_Mod_witnessMany_0 rfl ?_
      refine G_getIv 4 d_Mod_witnessMany_1 rfl f_Mod_304 rfl h.sh f23 ?_
      refine G_ifeq 14 7 d_Mod_witnessMany_4 rfl rfl (fun h4 => ?_) (fun h4 => ?_)
      · exact absurd h4 (by decide)
      · refine G_aload0 8 d_Mod_witnessMany_7 rfl ?_
        refine G_getIv 11 d_Mod_witnessMany_8 rfl f_Mod_348 rfl h.sh f24 ?_
        refine G_goto 15 d_Mod_witnessMany_11 rfl ?_
        refine G_iret d_Mod_witnessMany_15 rfl ?_
        exact Pd.rf
    | false =>
      have f23 : FI b 23 = 0 := by rw [a3.1, hw]; rfl
      simp only [Bool.false_eq_true, if_false]
      refine G_aload0 1 d_Mod_witnessMany_0 rfl ?_
      refine G_getIv 4 d_Mod_witnessMany_1 rfl f_Mod_304 rfl h.sh f23 ?_
      refine G_ifeq 14 7 d_Mod_witnessMany_4 rfl rfl (fun h4 => ?_) (fun h4 => ?_)
      · refine G_iconstN 0 15 d_Mod_witnessMany_14 rfl rfl ?_
        refine G_iret d_Mod_witnessMany_15 rfl ?_
        exact Pd.rf
      · exact absurd rfl h4
  have hlen : (if (tW S).1 = true then (tW S).2.length else 0) ≤ 84 := by
    split
    · next e => exact (hW.2.2.2.1 e).1
    · omega
  have kw : ((0 : Int64).toInt ≤ i.toInt64.toInt ∧ i.toInt64.toInt ≤ (nI (if (tW S).1 = true then (tW S).2.length else 0) - nI 1).toInt64.toInt) ↔ isN i (if (tW S).1 = true then (tW S).2.length else 0) := by
    generalize (if (tW S).1 = true then (tW S).2.length else 0) = n at hlen
    have e : (nI n - nI 1).toInt = (n : Int) - 1 := by
      rw [Int32.toInt_sub, nI_toInt (by omega), nI_toInt (by omega), Int.bmod_eq_of_le_mul_two (by omega) (by omega)]; rfl
    rw [toL, toL, e, isN_iff (by omega), show (0 : Int64).toInt = 0 from rfl]; omega
  refine G_iload2 1 d_Mod_step_0 rfl ?_
  refine G_i2l 2 d_Mod_step_1 rfl ?_
  refine G_ldc2 5 d_Mod_step_2 rfl k_Mod_145 ?_
  refine G_ldc2 8 d_Mod_step_5 rfl k_Mod_137 ?_
  refine G_invS3b 11 d_Mod_step_8 rfl e_Mod_139 M_Mod_in (Nat.le_of_ble_eq_true rfl) (Nat.le_of_ble_eq_true rfl) rfl (s_mIn) (fun h8 => G_ifeq1 14 d_Mod_step_11 30 rfl rfl ?_) (fun h8 => G_ifeq0 14 d_Mod_step_11 30 rfl rfl ?_)
  · have q1 := bB_iff.mpr (kc.mp h8)
    have hb := kc.mp h8
    refine G_iload1 15 d_Mod_step_14 rfl ?_
    refine G_i2l 16 d_Mod_step_15 rfl ?_
    refine G_lconst 0 17 d_Mod_step_16 rfl rfl ?_
    refine G_aload0 18 d_Mod_step_17 rfl ?_
    refine G_invV0d 21 d_Mod_step_18 rfl e_Mod_354 M_Mod_witnessMany rfl h.sh (Nat.le_of_ble_eq_true rfl) (Nat.le_of_ble_eq_true rfl) rfl (hwm _) ?_
    refine G_iconstN 1 22 d_Mod_step_21 rfl rfl ?_
    refine G_isub 23 d_Mod_step_22 rfl ?_
    refine G_i2l 24 d_Mod_step_23 rfl ?_
    refine G_invS3b 27 d_Mod_step_24 rfl e_Mod_139 M_Mod_in (Nat.le_of_ble_eq_true rfl) (Nat.le_of_ble_eq_true rfl) rfl (s_mIn) (fun h24 => G_ifne1 30 d_Mod_step_27 34 rfl rfl ?_) (fun h24 => G_ifne0 30 d_Mod_step_27 34 rfl rfl ?_)
    · obtain ⟨l, hl, rfl⟩ := kw.mp h24
      cases hw : (tW S).1 with
      | false => rw [hw] at hl; simp only [Bool.false_eq_true, if_false] at hl; omega
      | true =>
        rw [hw] at hl hlen
        simp only [if_true] at hl hlen
        have q3 := bN_t hl (show (tW S).2.length < 2 ^ 31 by omega)
        have z3 := ni_nI (show l < 2 ^ 31 by omega)
        obtain ⟨qq, hqq⟩ : ∃ r, (tW S).2[l]? = some r := ⟨(tW S).2[l], List.getElem?_eq_getElem hl⟩
        have gd : (tW S).2.getD l (0, 0) = qq := by rw [List.getD_eq_getElem?_getD, hqq]; rfl
        obtain ⟨s1, s2⟩ := (a3.2 hw).2 l qq hqq
        simp only [fStep, q1, q3, z3, hw, Bool.and_self, if_true, gd]
        refine G_iload2 35 d_Mod_step_34 rfl ?_
        refine G_ifge 47 38 d_Mod_step_35 rfl rfl (fun h35 => ?_) (fun h35 => ?_)
        · have hw0 : ¬ w.toInt < 0 := by
            intro e
            have : (0 : Int32) ≤ w := h35
            rw [Int32.le_iff_toInt_le] at this
            have z : (0 : Int32).toInt = 0 := rfl
            omega
          obtain ⟨wn, hw1, rfl⟩ : ∃ mm : Nat, mm < 2 ^ 31 ∧ w = nI mm := nI_of (fun e => by rw [lt0_iff] at e; omega)
          have hb2 := hb.2
          rw [nI_toInt hw1] at hb2
          simp only [if_neg hw0, ni_nI hw1]
          refine G_aload0 48 d_Mod_step_47 rfl ?_
          refine G_getR 51 d_Mod_step_48 rfl f_Mod_67 rfl h.sh h.f26 ?_
          refine G_bipushN 7 53 d_Mod_step_51 rfl rfl ?_
          refine G_iload1 54 d_Mod_step_53 rfl ?_
          first | refine G_imulN 55 d_Mod_step_54 rfl ?_ | refine G_imul 55 d_Mod_step_54 rfl ?_
          refine G_iload2 56 d_Mod_step_55 rfl ?_
          first | refine G_iaddN 57 d_Mod_step_56 rfl ?_ | refine G_iadd 57 d_Mod_step_56 rfl ?_
          refine G_ialoadv 58 d_Mod_step_57 rfl h.s26 (ix_nI (by omega) (by omega)) (s2 wn (by omega)) ?_
          refine G_i2l 59 d_Mod_step_58 rfl ?_
          refine G_lret d_Mod_step_59 rfl ?_
          exact ⟨rfl, rfl, hI, fM.rf⟩
        · have hw0 : w.toInt < 0 := by
            have : ¬ (0 : Int32) ≤ w := h35
            rw [Int32.le_iff_toInt_le] at this
            have z : (0 : Int32).toInt = 0 := rfl
            omega
          simp only [if_pos hw0]
          refine G_aload0 39 d_Mod_step_38 rfl ?_
          refine G_getR 42 d_Mod_step_39 rfl f_Mod_64 rfl h.sh h.f25 ?_
          refine G_iload1 43 d_Mod_step_42 rfl ?_
          refine G_laloadv 44 d_Mod_step_43 rfl h.s25 (ix_nI (by omega) (by omega)) s1 ?_
          refine G_goto 59 d_Mod_step_44 rfl ?_
          refine G_lret d_Mod_step_59 rfl ?_
          exact ⟨rfl, rfl, hI, fM.rf⟩
    · have hno : ((tW S).1 && bN i (tW S).2.length) = false := by
        cases hw : (tW S).1 with
        | false => rfl
        | true =>
          rw [hw] at h24 kw hlen
          simp only [if_true] at h24 kw hlen
          rw [bN_f (fun e => h24 (kw.mpr e)) (show (tW S).2.length < 2 ^ 31 by omega)]; rfl
      simp only [fStep, Bool.and_assoc, hno, Bool.and_false, Bool.false_eq_true, if_false]
      refine G_ldc2 33 d_Mod_step_30 rfl k_Mod_235 ?_
      refine G_lret d_Mod_step_33 rfl ?_
      exact ⟨rfl, rfl, hI, fM.rf⟩
  · have q1 := bB_f (fun e => h8 (kc.mpr e))
    simp only [fStep, q1, Bool.false_and, Bool.false_eq_true, if_false]
    refine G_ldc2 33 d_Mod_step_30 rfl k_Mod_235 ?_
    refine G_lret d_Mod_step_33 rfl ?_
    exact ⟨rfl, rfl, hI, fM.rf⟩
