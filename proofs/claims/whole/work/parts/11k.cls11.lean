/-! ===== the class: subduct, through ===== -/
/-- two fields of the class's object are other -/
def xS (X X' : XT) (lo : Nat) : Prop := x_sh X' = x_sh X ∧ x_AR X' = x_AR X ∧ X'.2.2.2 = X.2.2.2 ∧ (∀ c, c ≠ lo → x_FR X' c = x_FR X c) ∧ ∀ j, j ≠ 10 → j ≠ 11 → x_FR X' lo j = x_FR X lo j
theorem PO.xs {X X' : XT} {lo p q : Nat} (h : PO X p q) (k : xS X X' lo) (hp : p ≠ lo) : PO X' p q := by
  unfold PO; rw [k.1, k.2.2.2.1 p hp]; exact h
theorem CO.xs {X X' : XT} {lo : Nat} (h : CO X lo) (k : xS X X' lo) : CO X' lo := by
  obtain ⟨k1, k2, k3, k4, k5⟩ := id k
  obtain ⟨h1, h2, h3, h4, h5, h6, h7, h8, h9, h10, h11, h12, h13⟩ := h
  refine ⟨?_, ⟨by rw [k1]; exact h2.1, fun s hs => ⟨by rw [k2]; exact (h2.2 s hs).1, (h2.2 s hs).2.xs k (by omega)⟩⟩, ?_, ?_, ?_, ?_, ?_, ⟨by rw [k1]; exact h8.1, fun s hs => ⟨by rw [k2]; exact (h8.2 s hs).1, ?_⟩⟩, ⟨by rw [k1]; exact h9.1, fun l hl => ⟨by rw [k2]; exact (h9.2 l hl).1, ?_⟩⟩, h10.xs k (by omega), h11.xs k (by omega), ?_, ?_⟩
  · rw [k1, k5 0 (by omega) (by omega), k5 1 (by omega) (by omega), k5 2 (by omega) (by omega), k5 3 (by omega) (by omega), k5 4 (by omega) (by omega), k5 5 (by omega) (by omega), k5 6 (by omega) (by omega), k5 7 (by omega) (by omega), k5 8 (by omega) (by omega), k5 9 (by omega) (by omega)]; exact h1
  · unfold RK; rw [k1, k4 _ (by omega)]; exact h3
  · obtain ⟨a1, f1, f2, f3, f4, f5, f6, f7, f8, s1, s2, s3, s4, s5, s6, s7, s8, b1, b2⟩ := h4
    have e := k4 (lo + 4) (by omega)
    exact ⟨by rw [k1]; exact a1, by rw [e]; exact f1, by rw [e]; exact f2, by rw [e]; exact f3, by rw [e]; exact f4, by rw [e]; exact f5, by rw [e]; exact f6, by rw [e]; exact f7, by rw [e]; exact f8, by rw [k1]; exact s1, by rw [k1]; exact s2, by rw [k1]; exact s3, by rw [k1]; exact s4, by rw [k1]; exact s5, by rw [k1]; exact s6, by rw [k1]; exact s7, by rw [k1]; exact s8, fun i hi => ⟨by rw [k2]; exact (b1 i hi).1, (b1 i hi).2.xs k (show lo + 13 + 2 * i ≠ lo by omega)⟩, b2⟩
  · unfold TO; rw [k1, k4 _ (by omega)]; exact h5
  · unfold RLo; rw [k1, k4 _ (by omega)]; exact h6
  · unfold LAo; rw [k1, k2, k4 _ (by omega)]; exact h7
  · unfold SH; rw [k1, k4 _ (by omega)]; exact (h8.2 s hs).2
  · obtain ⟨b1, b2, b3⟩ := (h9.2 l hl).2
    exact ⟨by rw [k1]; exact b1, by rw [k4 _ (by omega)]; exact b2, b3.xs k (by omega)⟩
  · unfold STp; rw [k1, k4 _ (by omega)]; exact h12
  · unfold STp; rw [k1, k4 _ (by omega)]; exact h13
theorem nnF_e {X X' : XT} {lo : Nat} (h : x_AR X' = x_AR X) : ∀ k, nnF X' lo k = nnF X lo k := fun k => nnF_c k (fun q _ => by rw [h])
theorem CIv.xs {C E lo : Nat} {S : ST} {W : Bool × List (Int64 × Nat)} {X X' : XT} {FI FI' AI : FT} {AL : LT} (hI : CIv C E S X FI AI AL lo) (hW : WS S) (k : xS X X' lo) (k1 : ∀ c j, ¬ (c = lo ∧ j = 13) → FI' c j = FI c j) (hw : CWt W X' FI' AI AL lo) : CIv C E (stW S W) X' FI' AI AL lo ∧ cF X X' FI FI' AI AI AL AL lo := by
  obtain ⟨a1, a2, a3, a4, a5, a6, a7, a8, a9, a10, a11, a12⟩ := hI
  obtain ⟨e1, e2, e3, e4, e5⟩ := id k
  have esz : x_sz X' = x_sz X := congrArg (fun q => q.1) e3
  have enc : x_nc X' = x_nc X := congrArg (fun q => q.2.1) e3
  have ens : x_ns X' = x_ns X := congrArg (fun q => q.2.2) e3
  have fi : ∀ c, c ≠ lo → FI' c = FI c := fun c hc => funext fun j => k1 c j (by omega)
  have e12 := e5 12 (by omega) (by omega)
  refine ⟨⟨a1, a2.tr (fi _ (by omega)) rfl, a3.tr (fi _ (by omega)) (fun _ _ _ => rfl) (fun _ _ _ => rfl), a4, ⟨fun p hp => ?_, fun p q a c hp hq hne h1 h2 => a5.2.1 p q a c hp hq hne (by rw [← e2]; exact h1) (by rw [← e2]; exact h2), fun p a kk hp h1 h2 => a5.2.2 p a kk hp (by rw [← e2]; exact h1) (by rw [← e12]; exact h2)⟩, a6.tr (k1 _ _ (by omega)) rfl rfl rfl, a7.tr (k1 _ _ (by omega)) (fun _ _ _ => rfl), a8.tr (fun c _ _ => fi c (by omega)) (fun _ _ _ => rfl), a9.tr hW.2.2.2.2.2.1.1 (k1 _ _ (by omega)) (fun c _ _ => fi c (by omega)) (fun _ _ _ => rfl), hw, ?_, ?_⟩, fun c hc => ⟨⟨fi c (by omega), rfl, rfl⟩, by rw [e1], e4 c (by omega), by rw [e2]⟩⟩
  · obtain ⟨c1, c2, c3⟩ := a5.1 p hp
    rw [e2]
    refine ⟨c1, c2, fun a ha => ?_⟩
    obtain ⟨d1, d2, d3, d4⟩ := c3 a ha
    exact ⟨d1, by rw [esz]; exact d2, d3.xs k (by omega), d4⟩
  · show CKp (tX S) X' FI' AI AL lo
    cases hx : tX S with
    | none =>
      rw [hx] at a11
      show x_FR X' lo 12 = none
      rw [e12]; exact a11
    | some K =>
      rw [hx] at a11
      obtain ⟨kb, h1, h2, h3, h4, h5, h6, h7⟩ := a11
      refine ⟨kb, by rw [e12]; exact h1, h2, by rw [esz]; exact h3, ?_, by rw [fi _ (by omega)]; exact h5, h6, h7.tr (fi _ (by omega)) (fun _ _ _ => rfl) (fun _ _ _ => rfl)⟩
      obtain ⟨b1, b2, b3, b4, b5, b6⟩ := h4
      refine ⟨by rw [e1]; exact b1, by rw [e4 _ (by omega)]; exact b2, by rw [e4 _ (by omega)]; exact b3, by rw [e1]; exact b4, fun s hs => ⟨by rw [e2]; exact (b5 s hs).1, (b5 s hs).2.xs k (by omega)⟩, ?_⟩
      obtain ⟨g1, f1, f2, f3, f4, f5, f6, f7, f8, s1, s2, s3, s4, s5, s6, s7, s8, q1, q2⟩ := b6
      have e := e4 (kb + 2) (by omega)
      exact ⟨by rw [e1]; exact g1, by rw [e]; exact f1, by rw [e]; exact f2, by rw [e]; exact f3, by rw [e]; exact f4, by rw [e]; exact f5, by rw [e]; exact f6, by rw [e]; exact f7, by rw [e]; exact f8, by rw [e1]; exact s1, by rw [e1]; exact s2, by rw [e1]; exact s3, by rw [e1]; exact s4, by rw [e1]; exact s5, by rw [e1]; exact s6, by rw [e1]; exact s7, by rw [e1]; exact s8, fun i hi => ⟨by rw [e2]; exact (q1 i hi).1, (q1 i hi).2.xs k (show kb + 11 + 2 * i ≠ lo by omega)⟩, q2⟩
  · obtain ⟨z1, z2, z3⟩ := a12
    exact ⟨by rw [esz]; exact z1, by rw [enc, nnF_e e2, e12]; exact z2, by rw [ens, nnF_e e2, e12]; exact z3⟩
theorem c_subduct {V : GV} {d lo C E : Nat} {S : ST} {s : Int32} {X : XT} {FI AI : FT} {AL : LT} (h : CO X lo) (hI : CIv C E S X FI AI AL lo) (hW : WS S) : G V m_Alg_subduct (d + 5) 0 [some (.ref lo), some (.int s), none] [] X FI AI AL (fun r X' FI' AI' AL' => r = some (.int (fSubduct S s).1) ∧ CO X' lo ∧ CIv C E (fSubduct S s).2 X' FI' AI' AL' lo ∧ cF X X' FI FI' AI AI' AL AL' lo) := by
  have wk := h.wk
  have wks := wk.1
  have spp := h.sp
  have sps := spp.1
  have hcb := hI.cb h
  have ho := hW.1
  have hgl : ∀ i, i < gN (tG S) → gL (tG S) i < 84 ∧ 1 ≤ eD (gL (tG S) i) := fun i hi => ⟨(hW.2.1.2.1 i hi).1, (hW.2.1.2.1 i hi).2.1⟩
  obtain ⟨w, v, hwv, r10, r11, f13, hst⟩ := hI.2.2.2.2.2.2.2.2.2.1
  refine G_iload1 1 d_Alg_subduct_0 rfl ?_
  refine G_invS1b 4 d_Alg_subduct_1 rfl e_Alg_119 M_Alg_isSlot (Nat.le_of_ble_eq_true rfl) (Nat.le_of_ble_eq_true rfl) rfl (s_isSlot) (fun h1 => G_ifne1 7 d_Alg_subduct_4 9 rfl rfl ?_) (fun h1 => G_ifne0 7 d_Alg_subduct_4 9 rfl rfl ?_)
  · obtain ⟨k, hk, rfl⟩ := h1
    have qk := bN_t hk (show 6 < 2 ^ 31 by omega)
    have zk := ni_nI (show k < 2 ^ 31 by omega)
    obtain ⟨ark, pok⟩ := h.sl hk
    have psk := pok.1
    have ek := hI.1 k hk
    simp only [fSubduct, qk, zk, if_true]
    have hb1 : tF v C E (tG S) X X FI FI AI AI AL (sr AL (lo + 57) (AL (lo + 67 + 2 * k))) lo := tF.o hcb.2.2.2.2.1 hcb.2.2.2.2.2.1 (by omega) (fun k hk => (hcb.2.2.2.2.2.2 k hk).1) (fun _ _ => rfl) (fun _ _ => rfl) (fun c h1 _ _ => sr_ne _ _ h1)
    have hta := s_takeApart (V := V) (d := d) (hcb.tf (by omega) hb1) (show v = 60 ∨ v = 63 by omega) ho hgl
    rw [sr_at, ek] at hta
    rw [ek] at hb1
    refine G_aload0 10 d_Alg_subduct_9 rfl ?_
    refine G_getR 13 d_Alg_subduct_10 rfl f_Alg_65 rfl h.sh h.f8 ?_
    refine G_aload0 14 d_Alg_subduct_13 rfl ?_
    refine G_getR 17 d_Alg_subduct_14 rfl f_Alg_13 rfl h.sh h.f0 ?_
    refine G_iload1 18 d_Alg_subduct_17 rfl ?_
    refine G_aaload 19 d_Alg_subduct_18 rfl h.s0 (by decide) (by decide) (ix_nI (by omega) (by omega)) (by assumption) ?_
    refine G_invV1v 22 d_Alg_subduct_19 rfl e_Alg_170 M_Poly_becomeLike rfl h.s8 (Nat.le_of_ble_eq_true rfl) (Nat.le_of_ble_eq_true rfl) rfl (s_becomeLike (by assumption) (by assumption)) ?_
    refine G_aload0 23 d_Alg_subduct_22 rfl ?_
    refine G_aload0 24 d_Alg_subduct_23 rfl ?_
    rw [ek]
    refine G_getR 27 d_Alg_subduct_24 rfl f_Alg_79 rfl h.sh r11 ?_
    refine G_invV1 30 d_Alg_subduct_27 rfl e_Alg_360 M_Alg_takeApart rfl h.sh (Nat.le_of_ble_eq_true rfl) (Nat.le_of_ble_eq_true rfl) rfl (G.conseq (hta) (fun r27 X27 FI27 AI27 AL27 h27 => ?_))
    obtain ⟨hF, hm⟩ := h27
    have hF2 := hb1.tr hF (by have := hcb.2.2.2.2.2.1.1; omega)
    obtain ⟨hI2, hc2⟩ := hI.tf hW hwv r10 hF2
    have h2 := h.xk hF2.1 hcb.2.2.2.2.2.1.1
    have wk2 := h2.wk
    have wks2 := wk2.1
    obtain ⟨ark2, pok2⟩ := h2.sl hk
    have psk2 := pok2.1
    have e10 : x_FR X27 lo 10 = some (lo + w) := by rw [(hF2.1.2 lo (by have := hcb.2.2.2.2.2.1.1; omega)).2.1]; exact r10
    have e11 : x_FR X27 lo 11 = some (lo + v) := by rw [(hF2.1.2 lo (by have := hcb.2.2.2.2.2.1.1; omega)).2.1]; exact r11
    unfold aptS
    have eLs : cLs (tG S) = leadL (gL (tG S)) (gN (tG S)) := rfl
    rw [eLs] at hm
    cases ha : apt (tO S) (gN (tG S)) (leadL (gL (tG S)) (gN (tG S))) (gP (tG S)) 84 (tS S k) [] with
    | none =>
      rw [ha] at hm
      subst hm
      refine G_ifne 36 33 d_Alg_subduct_30 rfl rfl (fun h30 => ?_) (fun h30 => ?_)
      · exact absurd rfl h30
      · refine G_bipush (-5) 35 d_Alg_subduct_33 rfl rfl ?_
        refine G_iret d_Alg_subduct_35 rfl ?_
        exact ⟨rfl, h2, hI2, hc2⟩
    | some q =>
      rw [ha] at hm
      obtain ⟨rfl, m1, m2, m3⟩ := hm
      dsimp only
      have hI3 : CIv C E (set1 S k q.1) X27 FI27 AI27 (sr AL27 (lo + 67 + 2 * k) (AL27 (lo + 57))) lo := hI2.s1 hW hk (fun c _ _ hc => sr_ne _ _ hc) (by rw [sr_at]; exact m1)
      have hcu : cu q.1 = q.1 := (apt_ok (fun _ => True) (fun _ _ _ _ => trivial) 84 (tS S k) [] q (hW.2.2.1 k hk) (fun _ hs => by simp at hs) ha).1
      have hW3 : WS (set1 S k q.1) := hW.s1 hcu
      have sv := (h2.st (w := v) (by omega)).1
      have hxs : xS X27 (xput (xput X27 lo 11 (some (lo + w))) lo 10 (some (lo + v))) lo := ⟨rfl, rfl, rfl, fun c hc => by
        show u2 (u2 (x_FR X27) lo 11 _) lo 10 _ c = _
        rw [u2_off _ _ _ hc, u2_off _ _ _ hc], fun j h1 h2 => by
        show u2 (u2 (x_FR X27) lo 11 _) lo 10 _ lo j = _
        rw [u2_ix _ _ h1, u2_ix _ _ h2]⟩
      have hcw : CWt (true, q.2) (xput (xput X27 lo 11 (some (lo + w))) lo 10 (some (lo + v))) (u2 FI27 lo 13 (nI 1)) AI27 (sr AL27 (lo + 67 + 2 * k) (AL27 (lo + 57))) lo := by
        refine ⟨v, w, by omega, u2_at _ _ _ _, ?_, u2_at _ _ _ _, fun _ => m2.tr (u2_off _ _ _ (by omega)) rfl (sr_ne _ _ (by omega))⟩
        show u2 (u2 (x_FR X27) lo 11 _) lo 10 _ lo 11 = _
        rw [u2_ix _ _ (by omega), u2_at]
      obtain ⟨hI4, hc4⟩ := hI3.xs hW3 hxs (FI' := u2 FI27 lo 13 (nI 1)) (fun c j hcj => by
        by_cases e : c = lo
        · subst e; exact u2_ix _ _ (fun e => hcj ⟨rfl, e⟩)
        · rw [u2_ne _ _ _ _ e]) hcw
      have hc3 : cF X27 X27 FI27 FI27 AI27 AI27 AL27 (sr AL27 (lo + 67 + 2 * k) (AL27 (lo + 57))) lo := cF.al (fun c hc => sr_ne _ _ (by omega))
      have fsz : u2 FI27 lo 13 (nI 1) (lo + v) 0 = nI q.2.length := by rw [u2_ne _ _ _ _ (by omega)]; exact m2.1
      refine G_ifne 36 33 d_Alg_subduct_30 rfl rfl (fun h30 => ?_) (fun h30 => ?_)
      · refine G_aload0 37 d_Alg_subduct_36 rfl ?_
        refine G_getR 40 d_Alg_subduct_37 rfl f_Alg_13 rfl h2.sh h2.f0 ?_
        refine G_iload1 41 d_Alg_subduct_40 rfl ?_
        refine G_aaload 42 d_Alg_subduct_41 rfl h2.s0 (by decide) (by decide) (ix_nI (by omega) (by omega)) (by assumption) ?_
        refine G_aload0 43 d_Alg_subduct_42 rfl ?_
        refine G_getR 46 d_Alg_subduct_43 rfl f_Alg_65 rfl h2.sh h2.f8 ?_
        refine G_invV1v 49 d_Alg_subduct_46 rfl e_Alg_170 M_Poly_becomeLike rfl (by assumption) (Nat.le_of_ble_eq_true rfl) (Nat.le_of_ble_eq_true rfl) rfl (s_becomeLike (by assumption) (by assumption)) ?_
        refine G_aload0 50 d_Alg_subduct_49 rfl ?_
        refine G_getR 53 d_Alg_subduct_50 rfl f_Alg_79 rfl h2.sh e11 ?_
        refine G_astore2 54 d_Alg_subduct_53 rfl (by decide) rfl ?_
        refine G_aload0 55 d_Alg_subduct_54 rfl ?_
        refine G_aload0 56 d_Alg_subduct_55 rfl ?_
        refine G_getR 59 d_Alg_subduct_56 rfl f_Alg_75 rfl h2.sh e10 ?_
        refine G_putR (sh := x_sh X27) (FR := x_FR X27) (AR := x_AR X27) (zz := X27.2.2.2) (x := some (lo + w)) (a := lo) (w := 18) false 62 d_Alg_subduct_59 rfl f_Alg_79 rfl rfl (by intro C T N h; cases h; rfl) (fun e => by cases e) h2.sh rfl rfl ?_
        refine G_aload0 63 d_Alg_subduct_62 rfl ?_
        refine G_aload2 64 d_Alg_subduct_63 rfl ?_
        refine G_putR (sh := x_sh X27) (FR := u2 (x_FR X27) lo 11 (some (lo + w))) (AR := x_AR X27) (zz := X27.2.2.2) (x := some (lo + v)) (a := lo) (w := 18) false 67 d_Alg_subduct_64 rfl f_Alg_75 rfl rfl (by intro C T N h; cases h; rfl) (fun e => by cases e) h2.sh rfl rfl ?_
        refine G_aload0 68 d_Alg_subduct_67 rfl ?_
        refine G_iconstN 1 69 d_Alg_subduct_68 rfl rfl ?_
        refine G_putI 72 d_Alg_subduct_69 rfl f_Alg_86 rfl (by intro C T N h; cases h; rfl) h2.sh rfl rfl ?_
        refine G_aload2 73 d_Alg_subduct_72 rfl ?_
        refine G_getIv 76 d_Alg_subduct_73 rfl f_Alg_294 rfl sv fsz ?_
        refine G_iret d_Alg_subduct_76 rfl ?_
        exact ⟨rfl, h2.xs hxs, hI4, (hc2.tr hc3).tr hc4⟩
      · exact absurd h30 (by decide)
  · have q1 := bN_f h1 (show 6 < 2 ^ 31 by omega)
    simp only [fSubduct, q1, Bool.false_and, Bool.and_false, Bool.false_eq_true, if_false]
    refine G_iconst (-1) 8 d_Alg_subduct_7 rfl rfl ?_
    refine G_iret d_Alg_subduct_8 rfl ?_
    exact ⟨rfl, h, hI, cF.rf⟩
