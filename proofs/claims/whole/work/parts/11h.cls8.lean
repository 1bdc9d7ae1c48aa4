/-! ===== the class: firstProduct ===== -/
/-- what a PRODUCT's coming leaves -/
def pF (C E : Nat) (Gt : GT) (X X' : XT) (FI FI' AI AI' : FT) (AL AL' : LT) (lo : Nat) : Prop := xK X X' lo ∧ CPr Gt X' AI' AL' lo ∧ CRm C E X' lo ∧ (∀ c, c < x_sz X → FI' c = FI c) ∧ (∀ c, c ≠ lo + 34 → AI' c = AI c) ∧ (∀ c, c < lo + 150 → AL' c = AL c) ∧ ∀ k c, x_FR X lo 12 = some k → k + 36 < x_sz X → k ≤ c → c ≤ k + 36 → AL' c = AL c
theorem pF.rf {C E lo : Nat} {Gt : GT} {X : XT} {FI AI : FT} {AL : LT} (h : CPr Gt X AI AL lo) (k : CRm C E X lo) : pF C E Gt X X FI FI AI AI AL AL lo := ⟨xK.rf, h, k, fun _ _ => rfl, fun _ _ => rfl, fun _ _ => rfl, fun _ _ _ _ _ _ => rfl⟩
theorem pF.tr {C E lo : Nat} {Gt : GT} {X X1 X2 : XT} {FI FI1 FI2 AI AI1 AI2 : FT} {AL AL1 AL2 : LT} (h : pF C E Gt X X1 FI FI1 AI AI1 AL AL1 lo) (k : pF C E Gt X1 X2 FI1 FI2 AI1 AI2 AL1 AL2 lo) (hz : lo < x_sz X) : pF C E Gt X X2 FI FI2 AI AI2 AL AL2 lo := by
  obtain ⟨a1, a2, a3, a4, a5, a6, a7⟩ := h
  obtain ⟨b1, b2, b3, b4, b5, b6, b7⟩ := k
  have hs := a1.1
  refine ⟨a1.tr b1, b2, b3, fun c hc => (b4 c (by omega)).trans (a4 c hc), fun c hc => (b5 c hc).trans (a5 c hc), fun c hc => (b6 c hc).trans (a6 c hc), fun k c h1 h2 h3 h4 => (b7 k c (by rw [(a1.2 lo hz).2.1]; exact h1) (by omega) h3 h4).trans (a7 k c h1 h2 h3 h4)⟩
theorem nnF_c {X X' : XT} {lo : Nat} : ∀ k, (∀ q, q < k → x_AR X' (lo + 33) q = x_AR X (lo + 33) q) → nnF X' lo k = nnF X lo k
  | 0, _ => rfl
  | k + 1, h => by rw [nnF, nnF, nnF_c k (fun q hq => h q (by omega)), h k (by omega)]
theorem nnF_u {X X' : XT} {lo p a : Nat} (h0 : x_AR X (lo + 33) p = none) (h1 : x_AR X' (lo + 33) p = some a) (h2 : ∀ q, q ≠ p → x_AR X' (lo + 33) q = x_AR X (lo + 33) q) : ∀ k, p < k → nnF X' lo k + 1 = nnF X lo k
  | 0, h => by omega
  | k + 1, h => by
    rw [nnF, nnF]
    by_cases e : k = p
    · subst e
      rw [nnF_c k (fun q hq => h2 q (by omega)), h1, h0, if_pos rfl, if_neg (by simp)]
    · rw [h2 k e]
      have := nnF_u h0 h1 h2 k (by omega)
      omega
theorem s_firstProduct {V : GV} {d lo C E p : Nat} {v : List Nat} {Gt : GT} {X : XT} {FI AI : FT} {AL : LT} (h : CO X lo) (hG : CGs Gt FI AI AL (lo + 4)) (hT : CTb Gt AI lo) (hP : CPr Gt X AI AL lo) (hR : CRm C E X lo) (hKs : ∀ k, x_FR X lo 12 = some k → k + 36 < x_sz X) (hp : p < 84) (hv : (RT (cLs Gt) p)[0]? = some v) (hv31 : num v < 2 ^ 31) : G V m_Tab_firstProduct (d + 3) 0 [some (.ref (lo + 27)), some (.int (nI p)), some (.ref (lo + 4))] [] X FI AI AL (fun r X' FI' AI' AL' => ∃ a, r = some (.ref a) ∧ lo + 150 ≤ a ∧ PO X' a (a + 1) ∧ AL' (a + 1) = prodP (gP Gt) (pw (num v)) (gN Gt) ∧ pF C E Gt X X' FI FI' AI AI' AL AL' lo) := by
  have hz := hR.1
  have L : ∀ (X1 : XT) (FI1 : FT) (AL1 : LT) (a : Nat), pF C E Gt X X1 FI FI1 AI AI AL AL1 lo → x_AR X1 (lo + 33) p = some a → G V m_Tab_firstProduct (d + 3) 22 [some (.ref (lo + 27)), some (.int (nI p)), some (.ref (lo + 4))] [] X1 FI1 AI AL1 (fun r X' FI' AI' AL' => ∃ a, r = some (.ref a) ∧ lo + 150 ≤ a ∧ PO X' a (a + 1) ∧ AL' (a + 1) = prodP (gP Gt) (pw (num v)) (gN Gt) ∧ pF C E Gt X X' FI FI' AI AI' AL AL' lo) := by
    intro X1 FI1 AL1 a hF ha
    obtain ⟨k1, k2, k3, k4, k5, k6, k7⟩ := id hF
    have hs := k1.1
    have hc1 := h.xk k1 hz
    obtain ⟨t0, -, -, -, -, -, r5, r6, -, -, -, -, -, q5, q6, -⟩ := hc1.to
    have r5' : x_FR X1 (lo + 27) 5 = some (lo + 33) := r5
    have r6' : x_FR X1 (lo + 27) 6 = some (lo + 34) := r6
    have q5' : x_sh X1 (lo + 33) = some (3, 84) := q5
    have q6' : x_sh X1 (lo + 34) = some (2, 84) := q6
    obtain ⟨p1, p2, p3⟩ := k2.1 p hp
    obtain ⟨b1, b2, b3, b4⟩ := p3 a ha
    have b31 := b3.1
    have g1 : CGs Gt FI1 AI AL1 (lo + 4) := hG.tr (k4 _ (by omega)) (fun _ _ _ => rfl) (fun c _ _ => k6 c (by omega))
    rcases p1 with hst | hst
    · have hz0 : AI (lo + 34) p = nI 0 := hst
      have hrow := s_rowAt (V := V) (d := d + 2) (FI := FI1) (AL := AL1) hc1.to hT hp hv
      have hmo := s_multiplyOut (V := V) (d := d) (FI := FI1) (AI := AI) (AL := AL1) hc1.go b3 (fun i hi => show lo + 14 + 2 * i ≠ a + 1 by omega) g1.1 g1.2.1 hv31
      have epr : prodP (fun i => AL1 (cqo lo i)) (pw (num v)) (gN Gt) = prodP (gP Gt) (pw (num v)) (gN Gt) := prodP_cu2 _ (fun i hi => by
        have := (g1.2.2 i hi).2.1
        rw [show lo + 4 + 10 + 2 * i = lo + 14 + 2 * i by omega] at this
        show cu (AL1 (lo + 14 + 2 * i)) = _
        rw [this]) (fun _ _ => rfl)
      rw [epr] at hmo
      have gos := hc1.go.1
      refine G_aload0 23 d_Tab_firstProduct_22 rfl ?_
      refine G_getR 26 d_Tab_firstProduct_23 rfl f_Tab_35 rfl (by assumption) r6' ?_
      refine G_iload1 27 d_Tab_firstProduct_26 rfl ?_
      refine G_baload 28 d_Tab_firstProduct_27 rfl q6' (ix_nI (by omega) (by omega)) ?_
      rw [hz0]
      refine G_ifne 54 31 d_Tab_firstProduct_28 rfl rfl (fun h28 => ?_) (fun h28 => ?_)
      · exact absurd rfl h28
      · refine G_aload2 32 d_Tab_firstProduct_31 rfl ?_
        refine G_aload0 33 d_Tab_firstProduct_32 rfl ?_
        refine G_iload1 34 d_Tab_firstProduct_33 rfl ?_
        refine G_iconstN 0 35 d_Tab_firstProduct_34 rfl rfl ?_
        refine G_invV2d 38 d_Tab_firstProduct_35 rfl e_Tab_40 M_Tab_rowAt rfl (by assumption) (Nat.le_of_ble_eq_true rfl) (Nat.le_of_ble_eq_true rfl) rfl (hrow) ?_
        refine G_aload0 39 d_Tab_firstProduct_38 rfl ?_
        refine G_getR 42 d_Tab_firstProduct_39 rfl f_Tab_31 rfl (by assumption) r5' ?_
        refine G_iload1 43 d_Tab_firstProduct_42 rfl ?_
        refine G_aaload 44 d_Tab_firstProduct_43 rfl (by assumption) (by decide) (by decide) (ix_nI (by omega) (by omega)) (by assumption) ?_
        refine G_invV2v 47 d_Tab_firstProduct_44 rfl e_Tab_44 M_Gen_multiplyOut rfl (by assumption) (Nat.le_of_ble_eq_true rfl) (Nat.le_of_ble_eq_true rfl) rfl (hmo) ?_
        refine G_aload0 48 d_Tab_firstProduct_47 rfl ?_
        refine G_getR 51 d_Tab_firstProduct_48 rfl f_Tab_35 rfl (by assumption) r6' ?_
        refine G_iload1 52 d_Tab_firstProduct_51 rfl ?_
        refine G_iconstN 1 53 d_Tab_firstProduct_52 rfl rfl ?_
        refine G_bastore 54 d_Tab_firstProduct_53 rfl (by assumption) (ix_nI (by omega) (by omega)) rfl ?_
        refine G.conseq (P := fun r X' FI' AI' AL' => r = some (.ref a) ∧ X' = X1 ∧ FI' = FI1 ∧ AI' = u2 AI (lo + 34) p (nI 1) ∧ AL' = sr AL1 (a + 1) (prodP (gP Gt) (pw (num v)) (gN Gt))) ?_ ?_
        · refine G_aload0 55 d_Tab_firstProduct_54 rfl ?_
          refine G_getR 58 d_Tab_firstProduct_55 rfl f_Tab_31 rfl (by assumption) r5' ?_
          refine G_iload1 59 d_Tab_firstProduct_58 rfl ?_
          refine G_aaload 60 d_Tab_firstProduct_59 rfl (by assumption) (by decide) (by decide) (ix_nI (by omega) (by omega)) (by assumption) ?_
          refine G_aret d_Tab_firstProduct_60 rfl (by first | exact Or.inl ⟨_, rfl⟩ | exact Or.inr ⟨_, rfl⟩) ?_
          exact ⟨rfl, rfl, rfl, rfl, rfl⟩
        · rintro r X' FI' AI' AL' ⟨rfl, rfl, rfl, rfl, rfl⟩
          refine ⟨a, rfl, b1, b3, sr_at _ _ _, k1, ⟨fun q hq => ?_, k2.2⟩, k3, k4, fun c hc => u2_off _ _ _ hc, fun c hc => by rw [sr_ne _ _ (by omega)]; exact k6 c hc, fun k c h1 h2 h3 h4 => ?_⟩
          · obtain ⟨c1, c2, c3⟩ := k2.1 q hq
            by_cases e : q = p
            · subst e
              rw [u2_at]
              refine ⟨Or.inr rfl, fun e => absurd (ha.symm.trans e) (by simp), fun a' ha' => ?_⟩
              obtain ⟨d1, d2, d3, -⟩ := c3 a' ha'
              rw [ha] at ha'
              injection ha' with ha'
              subst ha'
              exact ⟨d1, d2, d3, fun _ v' hv' => by rw [sr_at]; rw [hv] at hv'; injection hv' with hv'; rw [hv']⟩
            · rw [u2_ix _ _ e]
              refine ⟨c1, c2, fun a' ha' => ?_⟩
              obtain ⟨d1, d2, d3, d4⟩ := c3 a' ha'
              have := k2.2.1 q p a' a hq hp e ha' ha
              exact ⟨d1, d2, d3, fun e1 v' hv' => by rw [sr_ne _ _ (by omega)]; exact d4 e1 v' hv'⟩
          · have := k2.2.2 p a k hp ha (by rw [(k1.2 lo (by omega)).2.1]; exact h1)
            rw [sr_ne _ _ (by omega)]; exact k7 k c h1 h2 h3 h4
    · have hz1 : AI (lo + 34) p = nI 1 := hst
      refine G_aload0 23 d_Tab_firstProduct_22 rfl ?_
      refine G_getR 26 d_Tab_firstProduct_23 rfl f_Tab_35 rfl (by assumption) r6' ?_
      refine G_iload1 27 d_Tab_firstProduct_26 rfl ?_
      refine G_baload 28 d_Tab_firstProduct_27 rfl q6' (ix_nI (by omega) (by omega)) ?_
      rw [hz1]
      refine G_ifne 54 31 d_Tab_firstProduct_28 rfl rfl (fun h28 => ?_) (fun h28 => ?_)
      · refine G_aload0 55 d_Tab_firstProduct_54 rfl ?_
        refine G_getR 58 d_Tab_firstProduct_55 rfl f_Tab_31 rfl (by assumption) r5' ?_
        refine G_iload1 59 d_Tab_firstProduct_58 rfl ?_
        refine G_aaload 60 d_Tab_firstProduct_59 rfl (by assumption) (by decide) (by decide) (ix_nI (by omega) (by omega)) (by assumption) ?_
        refine G_aret d_Tab_firstProduct_60 rfl (by first | exact Or.inl ⟨_, rfl⟩ | exact Or.inr ⟨_, rfl⟩) ?_
        exact ⟨a, rfl, b1, b3, b4 hst v hv, hF⟩
      · exact absurd h28 (by decide)
  obtain ⟨t0, -, -, -, -, -, r5, r6, -, -, -, -, -, q5, q6, -⟩ := h.to
  have r5' : x_FR X (lo + 27) 5 = some (lo + 33) := r5
  have q5' : x_sh X (lo + 33) = some (3, 84) := q5
  cases ha : x_AR X (lo + 33) p with
  | some a =>
    refine G_aload0 1 d_Tab_firstProduct_0 rfl ?_
    refine G_getR 4 d_Tab_firstProduct_1 rfl f_Tab_31 rfl (by assumption) r5' ?_
    refine G_iload1 5 d_Tab_firstProduct_4 rfl ?_
    refine G_aaload 6 d_Tab_firstProduct_5 rfl (by assumption) (by decide) (by decide) (ix_nI (by omega) (by omega)) (by assumption) ?_
    refine G_ifnonnull 22 d_Tab_firstProduct_6 rfl ?_
    exact L X FI AL a (pF.rf hP hR) ha
  | none =>
    have hPi := s_polyInit (V := V) (d := d + 1) (X := xnew X 14 1) (FI := z2 FI (x_sz X) 0) (AI := AI) (AL := AL) (p := x_sz X) (if_pos rfl) (show x_sz X < x_sz X + 1 by omega)
    refine G_aload0 1 d_Tab_firstProduct_0 rfl ?_
    refine G_getR 4 d_Tab_firstProduct_1 rfl f_Tab_31 rfl (by assumption) r5' ?_
    refine G_iload1 5 d_Tab_firstProduct_4 rfl ?_
    refine G_aaload0 6 d_Tab_firstProduct_5 rfl q5' (by decide) (by decide) (ix_nI (by omega) (by omega)) ?_
    rw [ha]
    refine G_ifnonnullN (x := 0) 9 d_Tab_firstProduct_6 rfl ?_
    refine G_aload0 10 d_Tab_firstProduct_9 rfl ?_
    refine G_getR 13 d_Tab_firstProduct_10 rfl f_Tab_31 rfl (by assumption) r5' ?_
    refine G_iload1 14 d_Tab_firstProduct_13 rfl ?_
    refine G_new (ci := 4) (T := T_Poly) 17 d_Tab_firstProduct_14 rfl c_Tab_29 q_Poly rfl ?_
    refine G_dup 18 d_Tab_firstProduct_17 rfl rfl ?_
    refine G_invIN0v 21 d_Tab_firstProduct_18 rfl e_Tab_39 M_Poly_init rfl (Nat.le_of_ble_eq_true rfl) (Nat.le_of_ble_eq_true rfl) rfl (hPi) ?_
    have sh4 : ∀ c, c < x_sz X → (xput (xnew (xnew X 14 1) 1 84) (x_sz X) 0 (some (x_sz X + 1))).1 c = x_sh X c := fun c hc => by
      show (if c = x_sz X + 1 then some (1, 84) else if c = x_sz X then some (14, 1) else x_sh X c) = _
      rw [if_neg (by omega), if_neg (by omega)]
    have fr4 : ∀ c, c < x_sz X → (xput (xnew (xnew X 14 1) 1 84) (x_sz X) 0 (some (x_sz X + 1))).2.1 c = x_FR X c := fun c hc => by
      show u2 (z2 (z2 (x_FR X) (x_sz X) none) (x_sz X + 1) none) (x_sz X) 0 (some (x_sz X + 1)) c = _
      rw [u2_off _ _ _ (by omega), z2_off _ _ (by omega), z2_off _ _ (by omega)]
    have ar4 : ∀ c, c < x_sz X → (xput (xnew (xnew X 14 1) 1 84) (x_sz X) 0 (some (x_sz X + 1))).2.2.1 c = x_AR X c := fun c hc => by
      show z2 (z2 (x_AR X) (x_sz X) none) (x_sz X + 1) none c = _
      rw [z2_off _ _ (by omega), z2_off _ _ (by omega)]
    refine G_aastore (sh := (xput (xnew (xnew X 14 1) 1 84) (x_sz X) 0 (some (x_sz X + 1))).1) (FR := (xput (xnew (xnew X 14 1) 1 84) (x_sz X) 0 (some (x_sz X + 1))).2.1) (AR := (xput (xnew (xnew X 14 1) 1 84) (x_sz X) 0 (some (x_sz X + 1))).2.2.1) (zz := (xput (xnew (xnew X 14 1) 1 84) (x_sz X) 0 (some (x_sz X + 1))).2.2.2) (a := lo + 33) (b := x_sz X) (t := 3) (w := 84) (j0 := p) (ci := 4) (w2 := 1) 22 d_Tab_firstProduct_21 rfl (by rw [sh4 _ (by omega)]; exact q5') (by decide) (by decide) (ix_nI (by omega) (by omega)) (by
      show (if x_sz X = x_sz X + 1 then some (1, 84) else if x_sz X = x_sz X then some (14, 1) else x_sh X (x_sz X)) = _
      rw [if_neg (by omega), if_pos rfl]) rfl rfl ?_
    refine L _ _ _ (x_sz X) ⟨⟨show x_sz X ≤ x_sz X + 1 + 1 by omega, fun c hc => ⟨sh4 c hc, fr4 c hc, fun h3 => ?_⟩⟩, ⟨fun q hq => ?_, fun q q' a c hq hq' hne ha1 hc1 => ?_, fun q a k hq ha1 hk => ?_⟩, ⟨show lo + 150 ≤ x_sz X + 1 + 1 by omega, ?_, ?_⟩, fun c hc => z2_off _ _ (by omega), fun _ _ => rfl, fun c hc => z2_off _ _ (show c ≠ x_sz X + 1 by omega), fun k c h1 h2 h3 h4 => z2_off _ _ (show c ≠ x_sz X + 1 by omega)⟩ (u2_at _ _ _ _)
    · show u2 _ (lo + 33) p (some (x_sz X)) c = _
      rw [u2_off _ _ _ h3]; exact ar4 c hc
    · obtain ⟨c1, c2, c3⟩ := hP.1 q hq
      by_cases e : q = p
      · subst e
        refine ⟨c1, fun _ => c2 ha, fun a' ha' => ?_⟩
        have ha2 : u2 _ (lo + 33) q (some (x_sz X)) (lo + 33) q = some a' := ha'
        rw [u2_at] at ha2
        injection ha2 with ha2
        subst ha2
        refine ⟨hz, show x_sz X + 1 < x_sz X + 1 + 1 by omega, ⟨?_, ?_, ?_⟩, fun e1 => ?_⟩
        · show (if x_sz X = x_sz X + 1 then some (1, 84) else if x_sz X = x_sz X then some (14, 1) else x_sh X (x_sz X)) = _
          rw [if_neg (by omega), if_pos rfl]
        · exact u2_at _ _ _ _
        · show (if x_sz X + 1 = x_sz X + 1 then some (1, 84) else _) = _
          rw [if_pos rfl]
        · rw [c2 ha] at e1; exact absurd e1 (by decide)
      · have e2 : ∀ w, (u2 (xput (xnew (xnew X 14 1) 1 84) (x_sz X) 0 (some (x_sz X + 1))).2.2.1 (lo + 33) p w) (lo + 33) q = x_AR X (lo + 33) q := fun w => by
          rw [u2_ix _ _ e, ar4 _ (by omega)]
        refine ⟨c1, fun hn => c2 (by rw [← e2 (some (x_sz X))]; exact hn), fun a' ha' => ?_⟩
        have ha2 : x_AR X (lo + 33) q = some a' := by rw [← e2 (some (x_sz X))]; exact ha'
        obtain ⟨d1, d2, d3, d4⟩ := c3 a' ha2
        refine ⟨d1, show a' + 1 < x_sz X + 1 + 1 by omega, ⟨?_, ?_, ?_⟩, fun e1 v' hv' => ?_⟩
        · exact (sh4 a' (by omega)).trans d3.1
        · show (xput (xnew (xnew X 14 1) 1 84) (x_sz X) 0 (some (x_sz X + 1))).2.1 a' 0 = _
          rw [fr4 a' (by omega)]; exact d3.2.1
        · exact (sh4 (a' + 1) (by omega)).trans d3.2.2
        · show z2 AL (x_sz X + 1) 0 (a' + 1) = _
          rw [z2_off _ _ (by omega)]; exact d4 e1 v' hv'
    · have e2 : ∀ q, q ≠ p → (u2 (xput (xnew (xnew X 14 1) 1 84) (x_sz X) 0 (some (x_sz X + 1))).2.2.1 (lo + 33) p (some (x_sz X))) (lo + 33) q = x_AR X (lo + 33) q := fun q e => by
        rw [u2_ix _ _ e, ar4 _ (by omega)]
      have ha2 : u2 (xput (xnew (xnew X 14 1) 1 84) (x_sz X) 0 (some (x_sz X + 1))).2.2.1 (lo + 33) p (some (x_sz X)) (lo + 33) q = some a := ha1
      have hc2 : u2 (xput (xnew (xnew X 14 1) 1 84) (x_sz X) 0 (some (x_sz X + 1))).2.2.1 (lo + 33) p (some (x_sz X)) (lo + 33) q' = some c := hc1
      by_cases e : q = p
      · rw [e, u2_at] at ha2
        injection ha2 with ha2
        rw [e2 q' (by omega)] at hc2
        have := ((hP.1 q' hq').2.2 c hc2).2.1
        omega
      · rw [e2 q e] at ha2
        have := ((hP.1 q hq).2.2 a ha2).2.1
        by_cases e' : q' = p
        · rw [e', u2_at] at hc2
          injection hc2 with hc2
          omega
        · rw [e2 q' e'] at hc2
          exact hP.2.1 q q' a c hq hq' hne ha2 hc2
    · have e2 : ∀ q, q ≠ p → (u2 (xput (xnew (xnew X 14 1) 1 84) (x_sz X) 0 (some (x_sz X + 1))).2.2.1 (lo + 33) p (some (x_sz X))) (lo + 33) q = x_AR X (lo + 33) q := fun q e => by
        rw [u2_ix _ _ e, ar4 _ (by omega)]
      have ha2 : u2 (xput (xnew (xnew X 14 1) 1 84) (x_sz X) 0 (some (x_sz X + 1))).2.2.1 (lo + 33) p (some (x_sz X)) (lo + 33) q = some a := ha1
      have hk2 : x_FR X lo 12 = some k := by
        have : (xput (xnew (xnew X 14 1) 1 84) (x_sz X) 0 (some (x_sz X + 1))).2.1 lo 12 = some k := hk
        rw [fr4 lo (by omega)] at this; exact this
      by_cases e : q = p
      · rw [e, u2_at] at ha2
        injection ha2 with ha2
        have := hKs k hk2
        omega
      · rw [e2 q e] at ha2
        exact hP.2.2 q a k hq ha2 hk2
    · have hn := nnF_u (X := X) (X' := ((xput (xnew (xnew X 14 1) 1 84) (x_sz X) 0 (some (x_sz X + 1))).1, (xput (xnew (xnew X 14 1) 1 84) (x_sz X) 0 (some (x_sz X + 1))).2.1, u2 (xput (xnew (xnew X 14 1) 1 84) (x_sz X) 0 (some (x_sz X + 1))).2.2.1 (lo + 33) p (some (x_sz X)), (xput (xnew (xnew X 14 1) 1 84) (x_sz X) 0 (some (x_sz X + 1))).2.2.2)) (lo := lo) (p := p) (a := x_sz X) ha (u2_at _ _ _ _) (fun q e => by
        show u2 _ (lo + 33) p (some (x_sz X)) (lo + 33) q = _
        rw [u2_ix _ _ e, ar4 _ (by omega)]) 84 hp
      have h2 := hR.2.1
      have e12 : ((xput (xnew (xnew X 14 1) 1 84) (x_sz X) 0 (some (x_sz X + 1))).2.1 lo 12) = x_FR X lo 12 := by rw [fr4 lo (by omega)]
      show x_nc X + 1 + 1 + 2 * nnF _ lo 84 + (if (xput (xnew (xnew X 14 1) 1 84) (x_sz X) 0 (some (x_sz X + 1))).2.1 lo 12 = none then 37 else 0) = C
      rw [e12]
      omega
    · have hn := nnF_u (X := X) (X' := ((xput (xnew (xnew X 14 1) 1 84) (x_sz X) 0 (some (x_sz X + 1))).1, (xput (xnew (xnew X 14 1) 1 84) (x_sz X) 0 (some (x_sz X + 1))).2.1, u2 (xput (xnew (xnew X 14 1) 1 84) (x_sz X) 0 (some (x_sz X + 1))).2.2.1 (lo + 33) p (some (x_sz X)), (xput (xnew (xnew X 14 1) 1 84) (x_sz X) 0 (some (x_sz X + 1))).2.2.2)) (lo := lo) (p := p) (a := x_sz X) ha (u2_at _ _ _ _) (fun q e => by
        show u2 _ (lo + 33) p (some (x_sz X)) (lo + 33) q = _
        rw [u2_ix _ _ e, ar4 _ (by omega)]) 84 hp
      have h2 := hR.2.2
      have e12 : ((xput (xnew (xnew X 14 1) 1 84) (x_sz X) 0 (some (x_sz X + 1))).2.1 lo 12) = x_FR X lo 12 := by rw [fr4 lo (by omega)]
      show x_ns X + 1 + 84 + 85 * nnF _ lo 84 + (if (xput (xnew (xnew X 14 1) 1 84) (x_sz X) 0 (some (x_sz X + 1))).2.1 lo 12 = none then 2369 else 0) = E
      rw [e12]
      omega
