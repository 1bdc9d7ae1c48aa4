/-! ===== the reference: RELATIONS, what would grow, GENERATORS ===== -/
/-- GENERATORS of one are the first of the other -/
def GEx (S S' : GT) : Prop := gN S ≤ gN S' ∧ ∀ i, i < gN S → gL S' i = gL S i ∧ gP S' i = gP S i ∧ gK S' i = gK S i ∧ gC S' i = gC S i ∧ gR S' i = gR S i
theorem GEx.rf {S : GT} : GEx S S := ⟨Nat.le_refl _, fun _ _ => ⟨rfl, rfl, rfl, rfl, rfl⟩⟩
theorem GEx.tr {S S1 S2 : GT} (h : GEx S S1) (k : GEx S1 S2) : GEx S S2 := ⟨Nat.le_trans h.1 k.1, fun i hi => by
  obtain ⟨a1, a2, a3, a4, a5⟩ := h.2 i hi
  obtain ⟨b1, b2, b3, b4, b5⟩ := k.2 i (Nat.lt_of_lt_of_le hi h.1)
  exact ⟨b1.trans a1, b2.trans a2, b3.trans a3, b4.trans a4, b5.trans a5⟩⟩
theorem stl_gx {o : Nat} {S : GT} {q : Nat × Nat} : GEx S (stl o S q).2 := by
  unfold stl
  split
  · exact GEx.rf
  · split
    · exact GEx.rf
    · split
      · exact GEx.rf
      · split
        · exact GEx.rf
        · split
          · exact GEx.rf
          · exact ⟨Nat.le_succ _, fun i hi => ⟨upn_ne _ _ (Nat.ne_of_lt hi), upn_ne _ _ (Nat.ne_of_lt hi), upn_ne _ _ (Nat.ne_of_lt hi), upn_ne _ _ (Nat.ne_of_lt hi), upn_ne _ _ (Nat.ne_of_lt hi)⟩⟩
theorem rnd_gx {o : Nat} : ∀ (L : List (Nat × Nat)) (S : GT), GEx S (rnd o L S).2
  | [], S => GEx.rf
  | q :: L, S => by
    have h := stl_gx (o := o) (S := S) (q := q)
    rw [rnd]
    cases hs : stl o S q with
    | mk e S' =>
      rw [hs] at h
      cases e with
      | some x => exact h
      | none => exact h.tr (rnd_gx L S')
theorem grw_gx {o d : Nat} : ∀ (m : Nat) (S : GT) (k : Nat), GEx S (grw o d m S k).2.1
  | 0, S, k => GEx.rf
  | m + 1, S, k => by
    have h := rnd_gx (o := o) (rlD o (leadL (gL S) (gN S)) d 84) S
    rw [grw]
    cases hs : rnd o (rlD o (leadL (gL S) (gN S)) d 84) S with
    | mk e S' =>
      rw [hs] at h
      cases e with
      | some x => exact h
      | none =>
        dsimp only
        split
        · exact h
        · exact h.tr (grw_gx m S' (k + 1))
theorem grw_wg {o d : Nat} (ho : o < 3) : ∀ (m : Nat) (S : GT) (k : Nat), WG o S → WG o (grw o d m S k).2.1
  | 0, S, k, h => h
  | m + 1, S, k, h => by
    have h1 := (rnd_ok ho (rlD o (leadL (gL S) (gN S)) d 84) S h (fun q hq => rlD_ok ho h.1 (fun i hi => ⟨(h.2.1 i hi).1, (h.2.1 i hi).2.1⟩) 84 (Nat.le_refl _) hq)).1
    rw [grw]
    cases hs : rnd o (rlD o (leadL (gL S) (gN S)) d 84) S with
    | mk e S' =>
      rw [hs] at h1
      cases e with
      | some x => exact h1
      | none =>
        dsimp only
        split
        · exact h1
        · exact grw_wg ho m S' (k + 1) h1
theorem MGs.gx {FI AI : FT} {AL : LT} {b o : Nat} {S S' : GT} (h : MGs FI AI AL b o S') (k : GEx S S') : MGs (u2 FI b 9 (nI (gN S))) AI AL b o S := by
  obtain ⟨h1, h2, h3, h4, h5⟩ := h
  refine ⟨h1, u2_at _ _ _ _, h3, h4, fun g hg => ?_⟩
  obtain ⟨a1, a2, a3, a4, a5⟩ := k.2 g hg
  obtain ⟨b1, b2, b3, b4⟩ := h5 g (Nat.lt_of_lt_of_le hg k.1)
  rw [a1] at b1
  rw [a2] at b2
  rw [a3] at b3 b4
  rw [a4, a5] at b4
  exact ⟨b1, b2, b3, b4⟩
theorem gwF.u9 {FI AI : FT} {AL : LT} {b : Nat} {v : Int32} : gwF FI (u2 FI b 9 v) AI AI AL AL b :=
  ⟨fun c i hc => by
    by_cases e : c = b
    · subst e; exact u2_ix _ _ (fun e2 => hc ⟨rfl, by omega⟩)
    · exact u2_ne _ _ _ _ e, fun _ _ => rfl, fun _ _ _ _ => rfl, fun _ _ _ => rfl⟩
noncomputable def fWould (S : ST) (d w : Int32) : Int32 × ST := if (bB d 1 6 && bN w 3) = true then (nI (if ni w = 0 then gN (grw (tO S) (ni d) 8 (tG S) 0).2.1 else if ni w = 1 then (grw (tO S) (ni d) 8 (tG S) 0).1 else (grw (tO S) (ni d) 8 (tG S) 0).2.2), S) else (-1, S)
theorem m_would {V : GV} {d b : Nat} {S : ST} {x w : Int32} {X : XT} {FI AI : FT} {AL : LT} (h : MO X b) (hI : MIv S FI AI AL b) (hW : WS S) : G V m_Mod_wouldGrow (d + 8) 0 [some (.ref b), some (.int x), some (.int w), none, none, none] [] X FI AI AL (fun r X' FI' AI' AL' => r = some (.int (fWould S x w).1) ∧ X' = X ∧ MIv (fWould S x w).2 FI' AI' AL' b ∧ fM FI FI' AI AI' AL AL' b) := by
  obtain ⟨hG, hO, hSl, -⟩ := id hI
  have hT := hG.1
  have hn9 := hG.2.1
  have ho := hG.2.2.1
  have hrk := hG.2.2.2.1
  have hn7 := hW.2.1.1
  have hgl := hG.gl hW.2.1
  have hinj := hW.2.1.2.2
  have hl2 : ∀ i, i < gN (tG S) → gL (tG S) i < 84 ∧ 1 ≤ eD (gL (tG S) i) := fun i hi => (hgl i hi).2
  have hlen : ∀ t, t < 84 → (RN (leadL (gL (tG S)) (gN (tG S))) t).length ≤ 120 := fun t ht => by rw [RN, List.length_map]; exact RT_128 hn7 hl2 hinj ht
  have kw : ((0 : Int64).toInt ≤ w.toInt64.toInt ∧ w.toInt64.toInt ≤ (2 : Int64).toInt) ↔ isN w 3 := by
    rw [toL, isN_iff (by omega), show (0 : Int64).toInt = 0 from rfl, show (2 : Int64).toInt = 2 from rfl]; omega
  refine G_iload1 1 d_Mod_wouldGrow_0 rfl ?_
  refine G_invS1b 4 d_Mod_wouldGrow_1 rfl e_Mod_385 M_Mod_isBound (Nat.le_of_ble_eq_true rfl) (Nat.le_of_ble_eq_true rfl) rfl (s_mIsBound) (fun h1 => G_ifeq1 7 d_Mod_wouldGrow_4 19 rfl rfl ?_) (fun h1 => G_ifeq0 7 d_Mod_wouldGrow_4 19 rfl rfl ?_)
  · obtain ⟨e, e1, e6, e31, rfl⟩ := isB_n (lo := 1) (hi := 6) h1
    have q0 : bB (nI e) 1 6 = true := bB_iff.mpr h1
    have z0 := ni_nI e31
    refine G_iload2 8 d_Mod_wouldGrow_7 rfl ?_
    refine G_i2l 9 d_Mod_wouldGrow_8 rfl ?_
    refine G_lconst 0 10 d_Mod_wouldGrow_9 rfl rfl ?_
    refine G_ldc2 13 d_Mod_wouldGrow_10 rfl k_Mod_180 ?_
    refine G_invS3b 16 d_Mod_wouldGrow_13 rfl e_Mod_139 M_Mod_in (Nat.le_of_ble_eq_true rfl) (Nat.le_of_ble_eq_true rfl) rfl (s_mIn) (fun h13 => G_ifne1 19 d_Mod_wouldGrow_16 21 rfl rfl ?_) (fun h13 => G_ifne0 19 d_Mod_wouldGrow_16 21 rfl rfl ?_)
    · obtain ⟨l, hl, rfl⟩ := kw.mp h13
      have q2 := bN_t hl (show 3 < 2 ^ 31 by omega)
      have z2 := ni_nI (show l < 2 ^ 31 by omega)
      simp only [fWould, q0, q2, z0, z2, Bool.and_self, if_true]
      have hg := s_mGrow (V := V) (d0 := d) (d := e) h hW.2.1 hG e6
      have hgx := grw_gx (o := tO S) (d := e) 8 (tG S) 0
      have hgw := (grw_wg (d := e) ho 8 (tG S) 0 hW.2.1).1
      generalize grw (tO S) e 8 (tG S) 0 = Z at hg hgx hgw
      refine G_aload0 22 d_Mod_wouldGrow_21 rfl ?_
      refine G_getIv 25 d_Mod_wouldGrow_22 rfl f_Mod_133 rfl h.sh hn9 ?_
      refine G_istore3 26 d_Mod_wouldGrow_25 rfl (by decide) rfl ?_
      refine G_aload0 27 d_Mod_wouldGrow_26 rfl ?_
      refine G_iload1 28 d_Mod_wouldGrow_27 rfl ?_
      refine G_invV1 31 d_Mod_wouldGrow_28 rfl e_Mod_404 M_Mod_grow rfl h.sh (Nat.le_of_ble_eq_true rfl) (Nat.le_of_ble_eq_true rfl) rfl (G.conseq (hg) (fun r28 X28 FI28 AI28 AL28 h28 => ?_))
      obtain ⟨a1, a2, a3, a4, a5⟩ := h28
      replace a1 := a1.symm
      subst a1 a4
      have f9 := a3.2.1
      have f42 : u2 FI28 b 9 (nI (gN (tG S))) b 42 = nI Z.2.2 := by rw [u2_ix _ _ (by omega)]; exact a5
      have hfin : MIv S (u2 FI28 b 9 (nI (gN (tG S)))) AI28 AL28 b := hI.gw (a2.tr gwF.u9) (a3.gx hgx)
      have hfm := (a2.tr (gwF.u9 (v := nI (gN (tG S))))).fm
      refine G_istore4 33 d_Mod_wouldGrow_31 rfl (by decide) rfl ?_
      refine G_aload0 34 d_Mod_wouldGrow_33 rfl ?_
      refine G_getIv 37 d_Mod_wouldGrow_34 rfl f_Mod_133 rfl h.sh f9 ?_
      refine G_istore5 39 d_Mod_wouldGrow_37 rfl (by decide) rfl ?_
      refine G_aload0 40 d_Mod_wouldGrow_39 rfl ?_
      refine G_iload3 41 d_Mod_wouldGrow_40 rfl ?_
      refine G_putI 44 d_Mod_wouldGrow_41 rfl f_Mod_133 rfl (by intro C T N h; cases h; rfl) h.sh rfl rfl ?_
      have l3 : l = 0 ∨ l = 1 ∨ l = 2 := by omega
      rcases l3 with rfl | rfl | rfl
      · refine G_iload2 45 d_Mod_wouldGrow_44 rfl ?_
        refine G_ifne 53 48 d_Mod_wouldGrow_45 rfl rfl (fun h45 => ?_) (fun h45 => ?_)
        · exact absurd rfl h45
        · refine G_iload5 50 d_Mod_wouldGrow_48 rfl ?_
          refine G_goto 67 d_Mod_wouldGrow_50 rfl ?_
          refine G_iret d_Mod_wouldGrow_67 rfl ?_
          exact ⟨rfl, rfl, hfin, hfm⟩
      · refine G_iload2 45 d_Mod_wouldGrow_44 rfl ?_
        refine G_ifne 53 48 d_Mod_wouldGrow_45 rfl rfl (fun h45 => ?_) (fun h45 => ?_)
        · refine G_iload2 54 d_Mod_wouldGrow_53 rfl ?_
          refine G_iconstN 1 55 d_Mod_wouldGrow_54 rfl rfl ?_
          first | refine G_icneN 63 58 d_Mod_wouldGrow_55 rfl rfl (by omega) (by omega) (fun h55 => ?_) (fun h55 => ?_) | refine G_icne 63 58 d_Mod_wouldGrow_55 rfl rfl (fun h55 => ?_) (fun h55 => ?_)
          · exact absurd rfl h55
          · refine G_iload4 60 d_Mod_wouldGrow_58 rfl ?_
            refine G_goto 67 d_Mod_wouldGrow_60 rfl ?_
            refine G_iret d_Mod_wouldGrow_67 rfl ?_
            exact ⟨rfl, rfl, hfin, hfm⟩
        · exact absurd h45 (by decide)
      · refine G_iload2 45 d_Mod_wouldGrow_44 rfl ?_
        refine G_ifne 53 48 d_Mod_wouldGrow_45 rfl rfl (fun h45 => ?_) (fun h45 => ?_)
        · refine G_iload2 54 d_Mod_wouldGrow_53 rfl ?_
          refine G_iconstN 1 55 d_Mod_wouldGrow_54 rfl rfl ?_
          first | refine G_icneN 63 58 d_Mod_wouldGrow_55 rfl rfl (by omega) (by omega) (fun h55 => ?_) (fun h55 => ?_) | refine G_icne 63 58 d_Mod_wouldGrow_55 rfl rfl (fun h55 => ?_) (fun h55 => ?_)
          · refine G_aload0 64 d_Mod_wouldGrow_63 rfl ?_
            refine G_getIv 67 d_Mod_wouldGrow_64 rfl f_Mod_398 rfl h.sh f42 ?_
            refine G_iret d_Mod_wouldGrow_67 rfl ?_
            exact ⟨rfl, rfl, hfin, hfm⟩
          · exact absurd h55 (by decide)
        · exact absurd h45 (by decide)
    · have q2 := bN_f (fun e => h13 (kw.mpr e)) (show 3 < 2 ^ 31 by omega)
      simp only [fWould, q2, Bool.and_false, Bool.false_eq_true, if_false]
      refine G_iconst (-1) 20 d_Mod_wouldGrow_19 rfl rfl ?_
      refine G_iret d_Mod_wouldGrow_20 rfl ?_
      exact ⟨rfl, rfl, hI, fM.rf⟩
  · have q0 := bB_f h1
    simp only [fWould, q0, Bool.false_and, Bool.false_eq_true, if_false]
    refine G_iconst (-1) 20 d_Mod_wouldGrow_19 rfl rfl ?_
    refine G_iret d_Mod_wouldGrow_20 rfl ?_
    exact ⟨rfl, rfl, hI, fM.rf⟩
theorem m_relations {V : GV} {d b : Nat} {S : ST} {x : Int32} {X : XT} {FI AI : FT} {AL : LT} (h : MO X b) (hI : MIv S FI AI AL b) (hW : WS S) : G V m_Mod_relations (d + 6) 0 [some (.ref b), some (.int x), none] [] X FI AI AL (fun r X' FI' AI' AL' => r = some (.int (fRelations S x).1) ∧ X' = X ∧ MIv (fRelations S x).2 FI' AI' AL' b ∧ fM FI FI' AI AI' AL AL' b) := by
  obtain ⟨hG, hO, hSl, -⟩ := id hI
  have hT := hG.1
  have hn9 := hG.2.1
  have ho := hG.2.2.1
  have hrk := hG.2.2.2.1
  have hn7 := hW.2.1.1
  have hgl := hG.gl hW.2.1
  have hinj := hW.2.1.2.2
  have hl2 : ∀ i, i < gN (tG S) → gL (tG S) i < 84 ∧ 1 ≤ eD (gL (tG S) i) := fun i hi => (hgl i hi).2
  have hlen : ∀ t, t < 84 → (RN (leadL (gL (tG S)) (gN (tG S))) t).length ≤ 120 := fun t ht => by rw [RN, List.length_map]; exact RT_128 hn7 hl2 hinj ht
  refine G_iload1 1 d_Mod_relations_0 rfl ?_
  refine G_invS1b 4 d_Mod_relations_1 rfl e_Mod_385 M_Mod_isBound (Nat.le_of_ble_eq_true rfl) (Nat.le_of_ble_eq_true rfl) rfl (s_mIsBound) (fun h1 => G_ifne1 7 d_Mod_relations_4 9 rfl rfl ?_) (fun h1 => G_ifne0 7 d_Mod_relations_4 9 rfl rfl ?_)
  · obtain ⟨e, e1, e6, e31, rfl⟩ := isB_n (lo := 1) (hi := 6) h1
    have q0 : bB (nI e) 1 6 = true := bB_iff.mpr h1
    have z0 := ni_nI e31
    simp only [fRelations, tRl, q0, z0, if_true]
    have hLn := rlD_len (o := tO S) (d := e) (Ls := leadL (gL (tG S)) (gN (tG S))) ho hlen 84 (Nat.le_refl _)
    have hb := s_mBegin (V := V) (d0 := d + 5) (o := tO S) (d := e) (Ls := leadL (gL (tG S)) (gN (tG S))) (FI := FI) (AI := AI) (AL := AL) h
    generalize rlD (tO S) (leadL (gL (tG S)) (gN (tG S))) e 84 = LL at hLn hb
    have L : ∀ (L : List (Nat × Nat)) (k : Nat) (FJ AJ : FT), k + L.length = LL.length → nrF FI FJ AI AJ b → NRs FJ AJ b (tO S) e (leadL (gL (tG S)) (gN (tG S))) L → G V m_Mod_relations (d + 6) 15 [some (.ref b), some (.int (nI e)), some (.int (nI k))] [] X FJ AJ AL (fun r X' FI' AI' AL' => r = some (.int (nI LL.length)) ∧ X' = X ∧ MIv S FI' AI' AL' b ∧ fM FI FI' AI AI' AL AL' b) := by
      intro L
      induction L with
      | nil =>
        intro k FJ AJ hk hF hN
        have hnx := s_mNext (V := V) (d0 := d) (AL := AL) h (hT.nr hF) ho (fun j hj => by rw [hF.2.1 _ (by omega)]; exact hrk j hj) e6 hn7 (hgl.nr hF) hinj hN
        have fn : FJ b 9 = nI (gN (tG S)) := by rw [hF.1 b 9 (by omega)]; exact hn9
        refine G_aload0 16 d_Mod_relations_15 rfl ?_
        refine G_iload1 17 d_Mod_relations_16 rfl ?_
        refine G_aload0 18 d_Mod_relations_17 rfl ?_
        refine G_getIv 21 d_Mod_relations_18 rfl f_Mod_133 rfl h.sh fn ?_
        refine G_invV2 24 d_Mod_relations_21 rfl e_Mod_382 M_Mod_nextRelation rfl h.sh (Nat.le_of_ble_eq_true rfl) (Nat.le_of_ble_eq_true rfl) rfl (G.conseq (hnx) (fun r21 X21 FI21 AI21 AL21 h21 => ?_))
        obtain ⟨p1, p2, p3, p4, p5⟩ := h21
        replace p1 := p1.symm
        replace p2 := p2.symm
        subst p1 p2 p4
        have hF2 := hF.tr p3
        rw [List.length_nil, Nat.add_zero] at hk
        refine G_ifeq 33 27 d_Mod_relations_24 rfl rfl (fun h24 => ?_) (fun h24 => ?_)
        · refine G_iload2 34 d_Mod_relations_33 rfl ?_
          refine G_iret d_Mod_relations_34 rfl ?_
          exact ⟨by rw [hk], rfl, hI.nr hF2, hF2.fm⟩
        · exact absurd rfl h24
      | cons q L ih =>
        intro k FJ AJ hk hF hN
        have hnx := s_mNext (V := V) (d0 := d) (AL := AL) h (hT.nr hF) ho (fun j hj => by rw [hF.2.1 _ (by omega)]; exact hrk j hj) e6 hn7 (hgl.nr hF) hinj hN
        have fn : FJ b 9 = nI (gN (tG S)) := by rw [hF.1 b 9 (by omega)]; exact hn9
        refine G_aload0 16 d_Mod_relations_15 rfl ?_
        refine G_iload1 17 d_Mod_relations_16 rfl ?_
        refine G_aload0 18 d_Mod_relations_17 rfl ?_
        refine G_getIv 21 d_Mod_relations_18 rfl f_Mod_133 rfl h.sh fn ?_
        refine G_invV2 24 d_Mod_relations_21 rfl e_Mod_382 M_Mod_nextRelation rfl h.sh (Nat.le_of_ble_eq_true rfl) (Nat.le_of_ble_eq_true rfl) rfl (G.conseq (hnx) (fun r21 X21 FI21 AI21 AL21 h21 => ?_))
        obtain ⟨p1, p2, p3, p4, p5, p6, p7⟩ := h21
        replace p1 := p1.symm
        replace p2 := p2.symm
        subst p1 p2 p4
        refine G_ifeq 33 27 d_Mod_relations_24 rfl rfl (fun h24 => ?_) (fun h24 => ?_)
        · exact absurd h24 (by decide)
        · first | refine G_iincN2 30 d_Mod_relations_27 rfl (by decide) rfl ?_ | refine G_iinc2 _ 30 d_Mod_relations_27 rfl (by decide) rfl rfl ?_
          refine G_goto 15 d_Mod_relations_30 rfl ?_
          rw [List.length_cons] at hk
          exact ih (k + 1) _ _ (by omega) (hF.tr p3) p5
    refine G_iconstN 0 10 d_Mod_relations_9 rfl rfl ?_
    refine G_istore2 11 d_Mod_relations_10 rfl (by decide) rfl ?_
    refine G_aload0 12 d_Mod_relations_11 rfl ?_
    refine G_invV0 15 d_Mod_relations_12 rfl e_Mod_379 M_Mod_beginRelations rfl h.sh (Nat.le_of_ble_eq_true rfl) (Nat.le_of_ble_eq_true rfl) rfl (G.conseq (hb) (fun r12 X12 FI12 AI12 AL12 h12 => ?_))
    obtain ⟨b1, b2, b3, b4, b5, b6⟩ := h12
    replace b2 := b2.symm
    replace b3 := b3.symm
    replace b4 := b4.symm
    subst b1 b2 b3 b4
    exact L LL 0 _ _ (by omega) b5 b6
  · have q0 := bB_f h1
    simp only [fRelations, q0, Bool.false_eq_true, if_false]
    refine G_iconst (-1) 8 d_Mod_relations_7 rfl rfl ?_
    refine G_iret d_Mod_relations_8 rfl ?_
    exact ⟨rfl, rfl, hI, fM.rf⟩
theorem m_open {V : GV} {d b : Nat} {S : ST} {x : Int32} {X : XT} {FI AI : FT} {AL : LT} (h : MO X b) (hI : MIv S FI AI AL b) (hW : WS S) : G V m_Mod_open (d + 6) 0 [some (.ref b), some (.int x), none] [] X FI AI AL (fun r X' FI' AI' AL' => r = some (.int (fOpen S x).1) ∧ X' = X ∧ MIv (fOpen S x).2 FI' AI' AL' b ∧ fM FI FI' AI AI' AL AL' b) := by
  obtain ⟨hG, hO, hSl, -⟩ := id hI
  have hT := hG.1
  have hn9 := hG.2.1
  have ho := hG.2.2.1
  have hrk := hG.2.2.2.1
  have hn7 := hW.2.1.1
  have hgl := hG.gl hW.2.1
  have hinj := hW.2.1.2.2
  have hl2 : ∀ i, i < gN (tG S) → gL (tG S) i < 84 ∧ 1 ≤ eD (gL (tG S) i) := fun i hi => (hgl i hi).2
  have hlen : ∀ t, t < 84 → (RN (leadL (gL (tG S)) (gN (tG S))) t).length ≤ 120 := fun t ht => by rw [RN, List.length_map]; exact RT_128 hn7 hl2 hinj ht
  refine G_iload1 1 d_Mod_open_0 rfl ?_
  refine G_invS1b 4 d_Mod_open_1 rfl e_Mod_385 M_Mod_isBound (Nat.le_of_ble_eq_true rfl) (Nat.le_of_ble_eq_true rfl) rfl (s_mIsBound) (fun h1 => G_ifne1 7 d_Mod_open_4 9 rfl rfl ?_) (fun h1 => G_ifne0 7 d_Mod_open_4 9 rfl rfl ?_)
  · obtain ⟨e, e1, e6, e31, rfl⟩ := isB_n (lo := 1) (hi := 6) h1
    have q0 : bB (nI e) 1 6 = true := bB_iff.mpr h1
    have z0 := ni_nI e31
    simp only [fOpen, tRl, q0, z0, if_true]
    have hLn := rlD_len (o := tO S) (d := e) (Ls := leadL (gL (tG S)) (gN (tG S))) ho hlen 84 (Nat.le_refl _)
    have hok : ∀ q ∈ rlD (tO S) (leadL (gL (tG S)) (gN (tG S))) e 84, relQ (gL (tG S)) (gN (tG S)) q := fun q hq => rlD_ok ho hn7 hl2 84 (Nat.le_refl _) hq
    have hb := s_mBegin (V := V) (d0 := d + 5) (o := tO S) (d := e) (Ls := leadL (gL (tG S)) (gN (tG S))) (FI := FI) (AI := AI) (AL := AL) h
    generalize rlD (tO S) (leadL (gL (tG S)) (gN (tG S))) e 84 = LL at hLn hb hok
    have L : ∀ (L : List (Nat × Nat)) (k : Nat) (FJ AJ : FT) (BJ : LT), k + L.length = LL.length → (∀ q ∈ L, relQ (gL (tG S)) (gN (tG S)) q) → MIv S FJ AJ BJ b → fM FI FJ AI AJ AL BJ b → NRs FJ AJ b (tO S) e (leadL (gL (tG S)) (gN (tG S))) L → G V m_Mod_open (d + 6) 15 [some (.ref b), some (.int (nI e)), some (.int (nI k))] [] X FJ AJ BJ (fun r X' FI' AI' AL' => r = some (.int (opn S L k)) ∧ X' = X ∧ MIv S FI' AI' AL' b ∧ fM FI FI' AI AI' AL AL' b) := by
      intro L
      induction L with
      | nil =>
        intro k FJ AJ BJ hk hq hIJ hF hN
        have hnx := s_mNext (V := V) (d0 := d) (AL := BJ) h hIJ.1.1 ho hIJ.1.2.2.2.1 e6 hn7 (hIJ.1.gl hW.2.1) hinj hN
        have fn := hIJ.1.2.1
        refine G_aload0 16 d_Mod_open_15 rfl ?_
        refine G_iload1 17 d_Mod_open_16 rfl ?_
        refine G_aload0 18 d_Mod_open_17 rfl ?_
        refine G_getIv 21 d_Mod_open_18 rfl f_Mod_133 rfl h.sh fn ?_
        refine G_invV2 24 d_Mod_open_21 rfl e_Mod_382 M_Mod_nextRelation rfl h.sh (Nat.le_of_ble_eq_true rfl) (Nat.le_of_ble_eq_true rfl) rfl (G.conseq (hnx) (fun r21 X21 FI21 AI21 AL21 h21 => ?_))
        obtain ⟨p1, p2, p3, p4, p5⟩ := h21
        replace p1 := p1.symm
        replace p2 := p2.symm
        subst p1 p2 p4
        refine G_ifeq 63 27 d_Mod_open_24 rfl rfl (fun h24 => ?_) (fun h24 => ?_)
        · refine G_bipush (-2) 65 d_Mod_open_63 rfl rfl ?_
          refine G_iret d_Mod_open_65 rfl ?_
          exact ⟨rfl, rfl, hIJ.nr p3, hF.tr p3.fm⟩
        · exact absurd rfl h24
      | cons q L ih =>
        intro k FJ AJ BJ hk hq hIJ hF hN
        have hnx := s_mNext (V := V) (d0 := d) (AL := BJ) h hIJ.1.1 ho hIJ.1.2.2.2.1 e6 hn7 (hIJ.1.gl hW.2.1) hinj hN
        have fn := hIJ.1.2.1
        obtain ⟨r1, r2, r3, r4⟩ := hq q List.mem_cons_self
        rw [opn]
        refine G_aload0 16 d_Mod_open_15 rfl ?_
        refine G_iload1 17 d_Mod_open_16 rfl ?_
        refine G_aload0 18 d_Mod_open_17 rfl ?_
        refine G_getIv 21 d_Mod_open_18 rfl f_Mod_133 rfl h.sh fn ?_
        refine G_invV2 24 d_Mod_open_21 rfl e_Mod_382 M_Mod_nextRelation rfl h.sh (Nat.le_of_ble_eq_true rfl) (Nat.le_of_ble_eq_true rfl) rfl (G.conseq (hnx) (fun r21 X21 FI21 AI21 AL21 h21 => ?_))
        obtain ⟨p1, p2, p3, p4, p5, p6, p7⟩ := h21
        replace p1 := p1.symm
        replace p2 := p2.symm
        subst p1 p2 p4
        have hI1 := hIJ.nr p3
        have hF1 := hF.tr (p3.fm (AL := BJ))
        have hdf := s_mDifference (V := V) (d := d + 1) (w := 0) (v := 1) h (hI1.1.gn hW.2.1) (by omega) (by omega) p6 p7 r2.1 r2.2
        refine G_ifeq 63 27 d_Mod_open_24 rfl rfl (fun h24 => ?_) (fun h24 => ?_)
        · exact absurd h24 (by decide)
        · refine G_aload0 28 d_Mod_open_27 rfl ?_
          refine G_iconstN 0 29 d_Mod_open_28 rfl rfl ?_
          refine G_iconstN 1 30 d_Mod_open_29 rfl rfl ?_
          refine G_invV2 33 d_Mod_open_30 rfl e_Mod_391 M_Mod_layDifference rfl h.sh (Nat.le_of_ble_eq_true rfl) (Nat.le_of_ble_eq_true rfl) rfl (G.conseq (hdf) (fun r30 X30 FI30 AI30 AL30 h30 => ?_))
          obtain ⟨x1, x2, x3, x4, x5⟩ := h30
          replace x1 := x1.symm
          replace x2 := x2.symm
          replace x3 := x3.symm
          subst x1 x2 x3
          have hI2 := hI1.df hW x4
          have hF2 := hF1.tr (x4.fm (FI := FI21) (AI := AI21))
          cases hd : difP (gN (tG S)) (gP (tG S)) q.1 q.2 with
          | none =>
            rw [hd] at x5
            subst x5
            refine G_ifeq 43 36 d_Mod_open_33 rfl rfl (fun h33 => ?_) (fun h33 => ?_)
            · refine G_bipush (-5) 45 d_Mod_open_43 rfl rfl ?_
              refine G_iret d_Mod_open_45 rfl ?_
              exact ⟨rfl, rfl, hI2, hF2⟩
            · exact absurd rfl h33
          | some f =>
            rw [hd] at x5
            obtain ⟨rfl, m18⟩ := x5
            dsimp only
            have hap := s_mTakeApart (V := V) (d := d) h (hI2.1.gn hW.2.1)
            rw [m18] at hap
            refine G_ifeq 43 36 d_Mod_open_33 rfl rfl (fun h33 => ?_) (fun h33 => ?_)
            · exact absurd h33 (by decide)
            · refine G_aload0 37 d_Mod_open_36 rfl ?_
              refine G_invV0 40 d_Mod_open_37 rfl e_Mod_344 M_Mod_takeApart rfl h.sh (Nat.le_of_ble_eq_true rfl) (Nat.le_of_ble_eq_true rfl) rfl (G.conseq (hap) (fun r37 X37 FI37 AI37 AL37 h37 => ?_))
              obtain ⟨y1, y2, y3⟩ := h37
              replace y1 := y1.symm
              subst y1
              have hI3 := hI2.ap hW y2
              have hF3 := hF2.tr y2.fm
              unfold aptS
              cases ha : apt (tO S) (gN (tG S)) (leadL (gL (tG S)) (gN (tG S))) (gP (tG S)) 84 f [] with
              | none =>
                rw [ha] at y3
                subst y3
                refine G_ifne 46 43 d_Mod_open_40 rfl rfl (fun h40 => ?_) (fun h40 => ?_)
                · exact absurd rfl h40
                · refine G_bipush (-5) 45 d_Mod_open_43 rfl rfl ?_
                  refine G_iret d_Mod_open_45 rfl ?_
                  exact ⟨rfl, rfl, hI3, hF3⟩
              | some w =>
                rw [ha] at y3
                obtain ⟨rfl, s20, sts, w18, wl⟩ := y3
                dsimp only
                have hrk2 := hI3.1.2.2.2.1
                have hn := s_mIsNothing (V := V) (d := d + 4) (p := 18) (FI := FI37) (AL := AL37) h (by omega) ho hrk2
                rw [w18] at hn
                refine G_ifne 46 43 d_Mod_open_40 rfl rfl (fun h40 => ?_) (fun h40 => ?_)
                · refine G_aload0 47 d_Mod_open_46 rfl ?_
                  refine G_bipushN 18 49 d_Mod_open_47 rfl rfl ?_
                  refine G_invV1b 52 d_Mod_open_49 rfl e_Mod_351 M_Mod_isNothing rfl h.sh (Nat.le_of_ble_eq_true rfl) (Nat.le_of_ble_eq_true rfl) rfl (hn) (fun h49 => G_ifne1 55 d_Mod_open_52 57 rfl rfl ?_) (fun h49 => G_ifne0 55 d_Mod_open_52 57 rfl rfl ?_)
                  · simp only [if_pos h49]
                    first | refine G_iincN2 60 d_Mod_open_57 rfl (by decide) rfl ?_ | refine G_iinc2 _ 60 d_Mod_open_57 rfl (by decide) rfl rfl ?_
                    refine G_goto 15 d_Mod_open_60 rfl ?_
                    rw [List.length_cons] at hk
                    exact ih (k + 1) _ _ _ (by omega) (fun p hp => hq p (List.mem_cons_of_mem _ hp)) hI3 hF3 ((p5.gb (gbF.df (FI := FI21) (AI := AI21) x4)).gb (gbF.ap y2))
                  · simp only [if_neg h49]
                    refine G_iload2 56 d_Mod_open_55 rfl ?_
                    refine G_iret d_Mod_open_56 rfl ?_
                    exact ⟨rfl, rfl, hI3, hF3⟩
                · exact absurd h40 (by decide)
    refine G_iconstN 0 10 d_Mod_open_9 rfl rfl ?_
    refine G_istore2 11 d_Mod_open_10 rfl (by decide) rfl ?_
    refine G_aload0 12 d_Mod_open_11 rfl ?_
    refine G_invV0 15 d_Mod_open_12 rfl e_Mod_379 M_Mod_beginRelations rfl h.sh (Nat.le_of_ble_eq_true rfl) (Nat.le_of_ble_eq_true rfl) rfl (G.conseq (hb) (fun r12 X12 FI12 AI12 AL12 h12 => ?_))
    obtain ⟨b1, b2, b3, b4, b5, b6⟩ := h12
    replace b2 := b2.symm
    replace b3 := b3.symm
    replace b4 := b4.symm
    subst b1 b2 b3 b4
    exact L LL 0 _ _ _ (by omega) hok (hI.nr b5) b5.fm b6
  · have q0 := bB_f h1
    simp only [fOpen, q0, Bool.false_eq_true, if_false]
    refine G_iconst (-1) 8 d_Mod_open_7 rfl rfl ?_
    refine G_iret d_Mod_open_8 rfl ?_
    exact ⟨rfl, rfl, hI, fM.rf⟩
