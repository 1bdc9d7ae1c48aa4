/-! ===== the reference: a RELATION, its DIFFERENCE, subduct, GENERATORS ===== -/
theorem m_relation {V : GV} {d b : Nat} {S : ST} {x y w g : Int32} {X : XT} {FI AI : FT} {AL : LT} (h : MO X b) (hI : MIv S FI AI AL b) (hW : WS S) : G V m_Mod_relation (d + 7) 0 [some (.ref b), some (.int x), some (.int y), some (.int w), some (.int g)] [] X FI AI AL (fun r X' FI' AI' AL' => r = some (.int (fRelation S x y w g).1) ∧ X' = X ∧ MIv (fRelation S x y w g).2 FI' AI' AL' b ∧ fM FI FI' AI AI' AL AL' b) := by
  obtain ⟨hG, hO, hSl, -⟩ := id hI
  have hT := hG.1
  have hn9 := hG.2.1
  have ho := hG.2.2.1
  have hrk := hG.2.2.2.1
  have hn7 := hW.2.1.1
  have hgl := hG.gl hW.2.1
  have hinj := hW.2.1.2.2
  have hl2 : ∀ i, i < gN (tG S) → gL (tG S) i < 84 ∧ 1 ≤ eD (gL (tG S) i) := fun i hi => (hgl i hi).2
  have hlen : ∀ t, t < 84 → (RN (leadL (gL (tG S)) (gN (tG S))) t).length ≤ 120 := fun t ht => by rw [RN, List.length_map]; exact RT_128 hn7 hl2 hinj ht
  have kw : ((0 : Int64).toInt ≤ w.toInt64.toInt ∧ w.toInt64.toInt ≤ (1 : Int64).toInt) ↔ isN w 2 := by
    rw [toL, isN_iff (by omega), show (0 : Int64).toInt = 0 from rfl, show (1 : Int64).toInt = 1 from rfl]; omega
  refine G_iload1 1 d_Mod_relation_0 rfl ?_
  refine G_invS1b 4 d_Mod_relation_1 rfl e_Mod_385 M_Mod_isBound (Nat.le_of_ble_eq_true rfl) (Nat.le_of_ble_eq_true rfl) rfl (s_mIsBound) (fun h1 => G_ifeq1 7 d_Mod_relation_4 26 rfl rfl ?_) (fun h1 => G_ifeq0 7 d_Mod_relation_4 26 rfl rfl ?_)
  · obtain ⟨e, e1, e6, e31, rfl⟩ := isB_n (lo := 1) (hi := 6) h1
    have q0 : bB (nI e) 1 6 = true := bB_iff.mpr h1
    have z0 := ni_nI e31
    refine G_iload3 8 d_Mod_relation_7 rfl ?_
    refine G_i2l 9 d_Mod_relation_8 rfl ?_
    refine G_lconst 0 10 d_Mod_relation_9 rfl rfl ?_
    refine G_lconst 1 11 d_Mod_relation_10 rfl rfl ?_
    refine G_invS3b 14 d_Mod_relation_11 rfl e_Mod_139 M_Mod_in (Nat.le_of_ble_eq_true rfl) (Nat.le_of_ble_eq_true rfl) rfl (s_mIn) (fun h11 => G_ifeq1 17 d_Mod_relation_14 26 rfl rfl ?_) (fun h11 => G_ifeq0 17 d_Mod_relation_14 26 rfl rfl ?_)
    · obtain ⟨l, hl, rfl⟩ := kw.mp h11
      have q2 := bN_t hl (show 2 < 2 ^ 31 by omega)
      have z2 := ni_nI (show l < 2 ^ 31 by omega)
      refine G_aload0 18 d_Mod_relation_17 rfl ?_
      refine G_iload4 20 d_Mod_relation_18 rfl ?_
      refine G_invV1b 23 d_Mod_relation_20 rfl e_Mod_287 M_Mod_isGenerator rfl h.sh (Nat.le_of_ble_eq_true rfl) (Nat.le_of_ble_eq_true rfl) rfl (s_mIsGenerator h hn9 hn7) (fun h20 => G_ifne1 26 d_Mod_relation_23 28 rfl rfl ?_) (fun h20 => G_ifne0 26 d_Mod_relation_23 28 rfl rfl ?_)
      · obtain ⟨j, hj, rfl⟩ := h20
        have q3 := bN_t hj (show gN (tG S) < 2 ^ 31 by omega)
        have z3 := ni_nI (show j < 2 ^ 31 by omega)
        simp only [fRelation, tRl, q0, q2, q3, z0, z2, z3, Bool.and_self, if_true]
        have hir := s_mIsRelation (V := V) (d0 := d) (d := e) (x := y) (FI := FI) (AL := AL) h hT ho hrk e6 hn9 hn7 hgl hinj
        have hLn := rlD_len (o := tO S) (d := e) (Ls := leadL (gL (tG S)) (gN (tG S))) ho hlen 84 (Nat.le_refl _)
        generalize rlD (tO S) (leadL (gL (tG S)) (gN (tG S))) e 84 = LL at hir hLn
        refine G_aload0 29 d_Mod_relation_28 rfl ?_
        refine G_iload1 30 d_Mod_relation_29 rfl ?_
        refine G_iload2 31 d_Mod_relation_30 rfl ?_
        refine G_invV2 34 d_Mod_relation_31 rfl e_Mod_388 M_Mod_isRelation rfl h.sh (Nat.le_of_ble_eq_true rfl) (Nat.le_of_ble_eq_true rfl) rfl (G.conseq (hir) (fun r31 X31 FI31 AI31 AL31 h31 => ?_))
        obtain ⟨u1, u2', u3, u4⟩ := h31
        replace u1 := u1.symm
        replace u2' := u2'.symm
        subst u1 u2'
        rcases u4 with ⟨i, q, rfl, i31, hq, rfl, w0, w1⟩ | ⟨rfl, hno⟩
        · have hil := (List.getElem?_eq_some_iff.mp hq).1
          have q4 := bN_t hil (show LL.length < 2 ^ 31 by omega)
          have z4 := ni_nI i31
          have gd : LL.getD i (0, 0) = q := by rw [List.getD_eq_getElem?_getD, hq]; rfl
          simp only [q4, z4, if_true, gd]
          have l2 : l = 0 ∨ l = 1 := by omega
          have a0 := w0 j (by omega)
          have a1 := w1 j (by omega)
          refine G_ifeq 60 37 d_Mod_relation_34 rfl rfl (fun h34 => ?_) (fun h34 => ?_)
          · exact absurd h34 (by decide)
          · rcases l2 with rfl | rfl
            · simp only [if_true]
              refine G_aload0 38 d_Mod_relation_37 rfl ?_
              refine G_getR 41 d_Mod_relation_38 rfl f_Mod_91 rfl h.sh h.f36 ?_
              refine G_bipushN 7 43 d_Mod_relation_41 rfl rfl ?_
              refine G_iload3 44 d_Mod_relation_43 rfl ?_
              refine G_ifne 51 47 d_Mod_relation_44 rfl rfl (fun h44 => ?_) (fun h44 => ?_)
              · exact absurd rfl h44
              · refine G_iconstN 0 48 d_Mod_relation_47 rfl rfl ?_
                refine G_goto 52 d_Mod_relation_48 rfl ?_
                first | refine G_imulN 53 d_Mod_relation_52 rfl ?_ | refine G_imul 53 d_Mod_relation_52 rfl ?_
                refine G_iload4 55 d_Mod_relation_53 rfl ?_
                first | refine G_iaddN 56 d_Mod_relation_55 rfl ?_ | refine G_iadd 56 d_Mod_relation_55 rfl ?_
                refine G_ialoadv 57 d_Mod_relation_56 rfl h.s36 (ix_nI (by omega) (by omega)) a0 ?_
                refine G_goto 62 d_Mod_relation_57 rfl ?_
                refine G_iret d_Mod_relation_62 rfl ?_
                exact ⟨rfl, rfl, hI.nr u3, u3.fm⟩
            · simp only [show ¬ (1 : Nat) = 0 by omega, if_false]
              refine G_aload0 38 d_Mod_relation_37 rfl ?_
              refine G_getR 41 d_Mod_relation_38 rfl f_Mod_91 rfl h.sh h.f36 ?_
              refine G_bipushN 7 43 d_Mod_relation_41 rfl rfl ?_
              refine G_iload3 44 d_Mod_relation_43 rfl ?_
              refine G_ifne 51 47 d_Mod_relation_44 rfl rfl (fun h44 => ?_) (fun h44 => ?_)
              · refine G_iconstN 1 52 d_Mod_relation_51 rfl rfl ?_
                first | refine G_imulN 53 d_Mod_relation_52 rfl ?_ | refine G_imul 53 d_Mod_relation_52 rfl ?_
                refine G_iload4 55 d_Mod_relation_53 rfl ?_
                first | refine G_iaddN 56 d_Mod_relation_55 rfl ?_ | refine G_iadd 56 d_Mod_relation_55 rfl ?_
                refine G_ialoadv 57 d_Mod_relation_56 rfl h.s36 (ix_nI (by omega) (by omega)) a1 ?_
                refine G_goto 62 d_Mod_relation_57 rfl ?_
                refine G_iret d_Mod_relation_62 rfl ?_
                exact ⟨rfl, rfl, hI.nr u3, u3.fm⟩
              · exact absurd h44 (by decide)
        · have q4 := bN_f (x := y) (n := LL.length) (fun ⟨i, hi, e⟩ => by
            have := hno i (by omega) e
            rw [List.getElem?_eq_getElem hi] at this
            cases this) (show LL.length < 2 ^ 31 by omega)
          simp only [q4, Bool.false_eq_true, if_false]
          refine G_ifeq 60 37 d_Mod_relation_34 rfl rfl (fun h34 => ?_) (fun h34 => ?_)
          · refine G_bipush (-2) 62 d_Mod_relation_60 rfl rfl ?_
            refine G_iret d_Mod_relation_62 rfl ?_
            exact ⟨rfl, rfl, hI.nr u3, u3.fm⟩
          · exact absurd rfl h34
      · have q3 := bN_f h20 (show gN (tG S) < 2 ^ 31 by omega)
        simp only [fRelation, q3, Bool.and_false, Bool.false_eq_true, if_false]
        refine G_iconst (-1) 27 d_Mod_relation_26 rfl rfl ?_
        refine G_iret d_Mod_relation_27 rfl ?_
        exact ⟨rfl, rfl, hI, fM.rf⟩
    · have q2 := bN_f (fun e => h11 (kw.mpr e)) (show 2 < 2 ^ 31 by omega)
      simp only [fRelation, q2, Bool.and_false, Bool.false_and, Bool.false_eq_true, if_false]
      refine G_iconst (-1) 27 d_Mod_relation_26 rfl rfl ?_
      refine G_iret d_Mod_relation_27 rfl ?_
      exact ⟨rfl, rfl, hI, fM.rf⟩
  · have q0 := bB_f h1
    simp only [fRelation, q0, Bool.false_and, Bool.false_eq_true, if_false]
    refine G_iconst (-1) 27 d_Mod_relation_26 rfl rfl ?_
    refine G_iret d_Mod_relation_27 rfl ?_
    exact ⟨rfl, rfl, hI, fM.rf⟩
theorem m_difference {V : GV} {d b : Nat} {S : ST} {x y s : Int32} {X : XT} {FI AI : FT} {AL : LT} (h : MO X b) (hI : MIv S FI AI AL b) (hW : WS S) : G V m_Mod_difference (d + 7) 0 [some (.ref b), some (.int x), some (.int y), some (.int s)] [] X FI AI AL (fun r X' FI' AI' AL' => r = some (.int (fDifference S x y s).1) ∧ X' = X ∧ MIv (fDifference S x y s).2 FI' AI' AL' b ∧ fM FI FI' AI AI' AL AL' b) := by
  obtain ⟨hG, hO, hSl, -⟩ := id hI
  have hT := hG.1
  have hn9 := hG.2.1
  have ho := hG.2.2.1
  have hrk := hG.2.2.2.1
  have hn7 := hW.2.1.1
  have hgl := hG.gl hW.2.1
  have hinj := hW.2.1.2.2
  have hl2 : ∀ i, i < gN (tG S) → gL (tG S) i < 84 ∧ 1 ≤ eD (gL (tG S) i) := fun i hi => (hgl i hi).2
  have hlen : ∀ t, t < 84 → (RN (leadL (gL (tG S)) (gN (tG S))) t).length ≤ 120 := fun t ht => by rw [RN, List.length_map]; exact RT_128 hn7 hl2 hinj ht
  refine G_iload1 1 d_Mod_difference_0 rfl ?_
  refine G_invS1b 4 d_Mod_difference_1 rfl e_Mod_385 M_Mod_isBound (Nat.le_of_ble_eq_true rfl) (Nat.le_of_ble_eq_true rfl) rfl (s_mIsBound) (fun h1 => G_ifeq1 7 d_Mod_difference_4 14 rfl rfl ?_) (fun h1 => G_ifeq0 7 d_Mod_difference_4 14 rfl rfl ?_)
  · obtain ⟨e, e1, e6, e31, rfl⟩ := isB_n (lo := 1) (hi := 6) h1
    have q0 : bB (nI e) 1 6 = true := bB_iff.mpr h1
    have z0 := ni_nI e31
    refine G_iload3 8 d_Mod_difference_7 rfl ?_
    refine G_invS1b 11 d_Mod_difference_8 rfl e_Mod_182 M_Mod_isSlot (Nat.le_of_ble_eq_true rfl) (Nat.le_of_ble_eq_true rfl) rfl (s_mIsSlot) (fun h8 => G_ifne1 14 d_Mod_difference_11 16 rfl rfl ?_) (fun h8 => G_ifne0 14 d_Mod_difference_11 16 rfl rfl ?_)
    · obtain ⟨l, hl, rfl⟩ := h8
      have q2 := bN_t hl (show 6 < 2 ^ 31 by omega)
      have z2 := ni_nI (show l < 2 ^ 31 by omega)
      simp only [fDifference, tRl, q0, q2, z0, z2, Bool.and_self, if_true]
      have hir := s_mIsRelation (V := V) (d0 := d) (d := e) (x := y) (FI := FI) (AL := AL) h hT ho hrk e6 hn9 hn7 hgl hinj
      have hLn := rlD_len (o := tO S) (d := e) (Ls := leadL (gL (tG S)) (gN (tG S))) ho hlen 84 (Nat.le_refl _)
      have hok : ∀ q ∈ rlD (tO S) (leadL (gL (tG S)) (gN (tG S))) e 84, relQ (gL (tG S)) (gN (tG S)) q := fun q hq => rlD_ok ho hn7 hl2 84 (Nat.le_refl _) hq
      generalize rlD (tO S) (leadL (gL (tG S)) (gN (tG S))) e 84 = LL at hir hLn hok
      refine G_aload0 17 d_Mod_difference_16 rfl ?_
      refine G_iload1 18 d_Mod_difference_17 rfl ?_
      refine G_iload2 19 d_Mod_difference_18 rfl ?_
      refine G_invV2 22 d_Mod_difference_19 rfl e_Mod_388 M_Mod_isRelation rfl h.sh (Nat.le_of_ble_eq_true rfl) (Nat.le_of_ble_eq_true rfl) rfl (G.conseq (hir) (fun r19 X19 FI19 AI19 AL19 h19 => ?_))
      obtain ⟨u1, u2', u3, u4⟩ := h19
      replace u1 := u1.symm
      replace u2' := u2'.symm
      subst u1 u2'
      have hI1 := hI.nr u3
      rcases u4 with ⟨i, q, rfl, i31, hq, rfl, w0, w1⟩ | ⟨rfl, hno⟩
      · have hil := (List.getElem?_eq_some_iff.mp hq).1
        have q4 := bN_t hil (show LL.length < 2 ^ 31 by omega)
        have z4 := ni_nI i31
        have gd : LL.getD i (0, 0) = q := by rw [List.getD_eq_getElem?_getD, hq]; rfl
        simp only [q4, z4, if_true, gd]
        obtain ⟨r1, r2, r3, r4⟩ := hok q (List.mem_of_getElem? hq)
        have hdf := s_mDifference (V := V) (d := d + 2) (w := 0) (v := 1) h (hI1.1.gn hW.2.1) (by omega) (by omega) w0 w1 r2.1 r2.2
        refine G_ifne 28 25 d_Mod_difference_22 rfl rfl (fun h22 => ?_) (fun h22 => ?_)
        · refine G_aload0 29 d_Mod_difference_28 rfl ?_
          refine G_iconstN 0 30 d_Mod_difference_29 rfl rfl ?_
          refine G_iconstN 1 31 d_Mod_difference_30 rfl rfl ?_
          refine G_invV2 34 d_Mod_difference_31 rfl e_Mod_391 M_Mod_layDifference rfl h.sh (Nat.le_of_ble_eq_true rfl) (Nat.le_of_ble_eq_true rfl) rfl (G.conseq (hdf) (fun r31 X31 FI31 AI31 AL31 h31 => ?_))
          obtain ⟨x1, x2, x3, x4, x5⟩ := h31
          replace x1 := x1.symm
          replace x2 := x2.symm
          replace x3 := x3.symm
          subst x1 x2 x3
          have hI2 := hI1.df hW x4
          have hF2 := (u3.fm (AL := AL)).tr (x4.fm (FI := FI19) (AI := AI19))
          cases hd : difP (gN (tG S)) (gP (tG S)) q.1 q.2 with
          | none =>
            rw [hd] at x5
            subst x5
            refine G_ifne 40 37 d_Mod_difference_34 rfl rfl (fun h34 => ?_) (fun h34 => ?_)
            · exact absurd rfl h34
            · refine G_bipush (-5) 39 d_Mod_difference_37 rfl rfl ?_
              refine G_iret d_Mod_difference_39 rfl ?_
              exact ⟨rfl, rfl, hI2, hF2⟩
          | some f =>
            rw [hd] at x5
            obtain ⟨rfl, m18⟩ := x5
            dsimp only
            refine G_ifne 40 37 d_Mod_difference_34 rfl rfl (fun h34 => ?_) (fun h34 => ?_)
            · refine G_aload0 41 d_Mod_difference_40 rfl ?_
              refine G_bipushN 18 43 d_Mod_difference_41 rfl rfl ?_
              refine G_iload3 44 d_Mod_difference_43 rfl ?_
              refine G_invV2v 47 d_Mod_difference_44 rfl e_Mod_208 M_Mod_copyTo rfl h.sh (Nat.le_of_ble_eq_true rfl) (Nat.le_of_ble_eq_true rfl) rfl (s_mCopy (by assumption) (by omega) (by omega)) ?_
              refine G_aload0 48 d_Mod_difference_47 rfl ?_
              refine G_iload3 49 d_Mod_difference_48 rfl ?_
              refine G_invV1d 52 d_Mod_difference_49 rfl e_Mod_202 M_Mod_termsIn rfl h.sh (Nat.le_of_ble_eq_true rfl) (Nat.le_of_ble_eq_true rfl) rfl (s_mTerms (by assumption) (by omega)) ?_
              refine G_iret d_Mod_difference_52 rfl ?_
              have e1 : mp (sp AL31 b l (mp AL31 b 18)) b l = f := by rw [mp_sp, mp_cu, m18]
              exact ⟨by rw [e1], rfl, hI2.s1 hW hl (fun c hc => sp_off hc) e1 (fun p _ hp => mp_spn hp), hF2.tr (fM.al (fun c hc => sp_off hc))⟩
            · exact absurd h34 (by decide)
        · exact absurd h22 (by decide)
      · have q4 := bN_f (x := y) (n := LL.length) (fun ⟨i, hi, e⟩ => by
          have := hno i (by omega) e
          rw [List.getElem?_eq_getElem hi] at this
          cases this) (show LL.length < 2 ^ 31 by omega)
        simp only [q4, Bool.false_eq_true, if_false]
        refine G_ifne 28 25 d_Mod_difference_22 rfl rfl (fun h22 => ?_) (fun h22 => ?_)
        · exact absurd rfl h22
        · refine G_bipush (-2) 27 d_Mod_difference_25 rfl rfl ?_
          refine G_iret d_Mod_difference_27 rfl ?_
          exact ⟨rfl, rfl, hI1, u3.fm⟩
    · have q2 := bN_f h8 (show 6 < 2 ^ 31 by omega)
      simp only [fDifference, q2, Bool.and_false, Bool.false_eq_true, if_false]
      refine G_iconst (-1) 15 d_Mod_difference_14 rfl rfl ?_
      refine G_iret d_Mod_difference_15 rfl ?_
      exact ⟨rfl, rfl, hI, fM.rf⟩
  · have q0 := bB_f h1
    simp only [fDifference, q0, Bool.false_and, Bool.false_eq_true, if_false]
    refine G_iconst (-1) 15 d_Mod_difference_14 rfl rfl ?_
    refine G_iret d_Mod_difference_15 rfl ?_
    exact ⟨rfl, rfl, hI, fM.rf⟩
/-- another witness -/
theorem MIv.wt {S : ST} {w : Bool × List (Int64 × Nat)} {FI FI' AI AI' : FT} {AL AL' : LT} {b : Nat} (h : MIv S FI AI AL b) (k1 : ∀ c j, ¬ (c = b ∧ (j = 23 ∨ j = 24)) → FI' c j = FI c j) (k2 : ∀ c, c ≠ b + 19 → AI' c = AI c) (k3 : ∀ c, c ≠ b + 18 → AL' c = AL c) (hw : FI' b 23 = (if w.1 = true then 1 else 0) ∧ (w.1 = true → FI' b 24 = nI w.2.length ∧ STs AI' AL' (b + 18) (b + 19) w.2)) : MIv (stW S w) FI' AI' AL' b ∧ fM FI FI' AI AI' AL AL' b := by
  obtain ⟨g, a1, a2, a3, a4, a5, a6⟩ := h
  refine ⟨⟨⟨⟨fun s hs => ?_, fun x y z hs => ?_⟩, ?_, g.2.2.1, fun j hj => ?_, fun q hq => ?_⟩, by rw [k1 b 8 (by omega)]; exact a1, fun s hs => by rw [mp_row (k3 _ (by omega))]; exact a2 s hs, hw, fun i hi => ⟨by rw [k2 _ (by omega)]; exact (a4 i hi).1, by rw [k2 _ (by omega)]; exact (a4 i hi).2.1, fun j hj => by rw [k2 _ (by omega)]; exact (a4 i hi).2.2 j hj⟩, ⟨by rw [k1 b 48 (by omega)]; exact a5.1, fun l hl => ⟨by rw [k2 _ (by omega)]; exact (a5.2 l hl).1, by rw [k2 _ (by omega)]; exact (a5.2 l hl).2.1, fun e t ht => by rw [k3 _ (by omega)]; exact (a5.2 l hl).2.2 e t ht⟩⟩, ?_⟩, fun c hc => ⟨funext (fun j => k1 c j (by omega)), k2 c (by omega), k3 c (by omega)⟩⟩
  · rw [k2 _ (by omega), k2 _ (by omega), k2 _ (by omega)]; exact g.1.1 s hs
  · rw [k2 _ (by omega)]; exact g.1.2 x y z hs
  · rw [k1 b 9 (by omega)]; exact g.2.1
  · rw [k2 _ (by omega)]; exact g.2.2.2.1 j hj
  · obtain ⟨b1, b2, b3, b4⟩ := g.2.2.2.2 q hq
    exact ⟨by rw [k2 _ (by omega)]; exact b1, by rw [mp_row (k3 _ (by omega))]; exact b2, by rw [k2 _ (by omega)]; exact b3, fun i hi => ⟨by rw [k3 _ (by omega)]; exact (b4 i hi).1, fun f hf => by rw [k2 _ (by omega)]; exact (b4 i hi).2 f hf⟩⟩
  · show match tX S with
      | none => _
      | some k => _
    cases hk : tX S with
    | none => rw [hk] at a6; rw [k1 b 19 (by omega)]; exact a6
    | some q =>
      rw [hk] at a6
      obtain ⟨c1, c2, c3, c4, c5⟩ := a6
      refine ⟨by rw [k1 b 19 (by omega)]; exact c1, fun s t hs ht => by rw [k3 _ (by omega)]; exact c2 s t hs ht, by rw [k1 b 17 (by omega)]; exact c3, by rw [k1 b 18 (by omega)]; exact c4, fun g hg => ⟨fun t ht => by rw [k3 _ (by omega)]; exact (c5 g hg).1 t ht, by rw [k2 _ (by omega)]; exact (c5 g hg).2.1, fun i hi => ⟨by rw [k3 _ (by omega)]; exact ((c5 g hg).2.2 i hi).1, fun f hf => by rw [k2 _ (by omega)]; exact ((c5 g hg).2.2 i hi).2 f hf⟩⟩⟩
theorem m_subduct {V : GV} {d b : Nat} {S : ST} {s : Int32} {X : XT} {FI AI : FT} {AL : LT} (h : MO X b) (hI : MIv S FI AI AL b) (hW : WS S) : G V m_Mod_subduct (d + 6) 0 [some (.ref b), some (.int s), none, none] [] X FI AI AL (fun r X' FI' AI' AL' => r = some (.int (fSubduct S s).1) ∧ X' = X ∧ MIv (fSubduct S s).2 FI' AI' AL' b ∧ fM FI FI' AI AI' AL AL' b) := by
  obtain ⟨hG, hO, hSl, -⟩ := id hI
  have hT := hG.1
  have hn9 := hG.2.1
  have ho := hG.2.2.1
  have hrk := hG.2.2.2.1
  have hn7 := hW.2.1.1
  have hgl := hG.gl hW.2.1
  have hinj := hW.2.1.2.2
  have hl2 : ∀ i, i < gN (tG S) → gL (tG S) i < 84 ∧ 1 ≤ eD (gL (tG S) i) := fun i hi => (hgl i hi).2
  have hlen : ∀ t, t < 84 → (RN (leadL (gL (tG S)) (gN (tG S))) t).length ≤ 120 := fun t ht => by rw [RN, List.length_map]; exact RT_128 hn7 hl2 hinj ht
  refine G_iload1 1 d_Mod_subduct_0 rfl ?_
  refine G_invS1b 4 d_Mod_subduct_1 rfl e_Mod_182 M_Mod_isSlot (Nat.le_of_ble_eq_true rfl) (Nat.le_of_ble_eq_true rfl) rfl (s_mIsSlot) (fun h1 => G_ifne1 7 d_Mod_subduct_4 9 rfl rfl ?_) (fun h1 => G_ifne0 7 d_Mod_subduct_4 9 rfl rfl ?_)
  · obtain ⟨k, hk, rfl⟩ := h1
    have q1 := bN_t hk (show 6 < 2 ^ 31 by omega)
    have z1 := ni_nI (show k < 2 ^ 31 by omega)
    simp only [fSubduct, q1, z1, if_true, ← hSl k hk]
    have hk1 : dfF AL (sp AL b 18 (mp AL b k)) b := ⟨fun c hc => sp_off hc, fun p a1 a2 a3 a4 a5 => mp_spn a5⟩
    have m18 : mp (sp AL b 18 (mp AL b k)) b 18 = mp AL b k := by rw [mp_sp, mp_cu]
    have hI1 := hI.df hW hk1
    have hap := s_mTakeApart (V := V) (d := d) h (hI1.1.gn hW.2.1)
    rw [m18] at hap
    refine G_aload0 10 d_Mod_subduct_9 rfl ?_
    refine G_iload1 11 d_Mod_subduct_10 rfl ?_
    refine G_bipushN 18 13 d_Mod_subduct_11 rfl rfl ?_
    refine G_invV2v 16 d_Mod_subduct_13 rfl e_Mod_208 M_Mod_copyTo rfl h.sh (Nat.le_of_ble_eq_true rfl) (Nat.le_of_ble_eq_true rfl) rfl (s_mCopy (by assumption) (by omega) (by omega)) ?_
    refine G_aload0 17 d_Mod_subduct_16 rfl ?_
    refine G_invV0 20 d_Mod_subduct_17 rfl e_Mod_344 M_Mod_takeApart rfl h.sh (Nat.le_of_ble_eq_true rfl) (Nat.le_of_ble_eq_true rfl) rfl (G.conseq (hap) (fun r17 X17 FI17 AI17 AL17 h17 => ?_))
    obtain ⟨y1, y2, y3⟩ := h17
    replace y1 := y1.symm
    subst y1
    have hI2 := hI1.ap hW y2
    have hf2 := (hk1.fm (FI := FI) (AI := AI)).tr y2.fm
    unfold aptS
    cases ha : apt (tO S) (gN (tG S)) (leadL (gL (tG S)) (gN (tG S))) (gP (tG S)) 84 (mp AL b k) [] with
    | none =>
      rw [ha] at y3
      subst y3
      refine G_ifne 26 23 d_Mod_subduct_20 rfl rfl (fun h20 => ?_) (fun h20 => ?_)
      · exact absurd rfl h20
      · refine G_bipush (-5) 25 d_Mod_subduct_23 rfl rfl ?_
        refine G_iret d_Mod_subduct_25 rfl ?_
        exact ⟨rfl, rfl, hI2, hf2⟩
    | some w =>
      rw [ha] at y3
      obtain ⟨rfl, s20, sts, w18, wl⟩ := y3
      dsimp only
      have f20 : ∀ v v' : Int32, u2 (u2 FI17 b 23 v) b 24 v' b 20 = nI w.2.length := fun v v' => by rw [u2_ix _ _ (by omega), u2_ix _ _ (by omega)]; exact s20
      have f20' : ∀ v : Int32, u2 FI17 b 23 v b 20 = nI w.2.length := fun v => by rw [u2_ix _ _ (by omega)]; exact s20
      have e1 : mp (sp AL17 b k (mp AL17 b 18)) b k = w.1 := by rw [mp_sp, mp_cu, w18]
      have hI3 := hI2.s1 hW hk (AL' := sp AL17 b k (mp AL17 b 18)) (fun c hc => sp_off hc) e1 (fun p _ hp => mp_spn hp)
      have hf3 := hf2.tr (fM.al (FI := FI17) (AI := AI17) (AL' := sp AL17 b k (mp AL17 b 18)) (fun c hc => sp_off hc))
      have L : ∀ i, i ≤ w.2.length → ∀ (AJ : FT) (BJ : LT) (l3 : Option Value), (∀ c, c ≠ b + 19 → AJ c = AI17 c) → (∀ c, c ≠ b + 18 → BJ c = sp AL17 b k (mp AL17 b 18) c) → (∀ j q, j < i → w.2[j]? = some q → BJ (b + 18) j = q.1 ∧ ∀ f, f < 7 → AJ (b + 19) (7 * j + f) = nI (pw q.2 f)) → G V m_Mod_subduct (d + 6) 48 [some (.ref b), some (.int (nI k)), some (.int (nI i)), l3] [] X (u2 (u2 FI17 b 23 (nI 1)) b 24 (nI w.2.length)) AJ BJ (fun r X' FI' AI' AL' => r = some (.int (nI w.2.length)) ∧ X' = X ∧ MIv (stW (set1 S k w.1) (true, w.2)) FI' AI' AL' b ∧ fM FI FI' AI AI' AL AL' b) := by
        refine upto ?_ ?_
        · intro AJ BJ l3 j1 j2 j3
          refine G_iload2 49 d_Mod_subduct_48 rfl ?_
          refine G_aload0 50 d_Mod_subduct_49 rfl ?_
          refine G_getIv 53 d_Mod_subduct_50 rfl f_Mod_327 rfl h.sh (f20 _ _) ?_
          first | refine G_icgeN 110 56 d_Mod_subduct_53 rfl rfl (by omega) (by omega) (fun h53 => ?_) (fun h53 => ?_) | refine G_icge 110 56 d_Mod_subduct_53 rfl rfl (fun h53 => ?_) (fun h53 => ?_)
          · refine G_aload0 111 d_Mod_subduct_110 rfl ?_
            refine G_getIv 114 d_Mod_subduct_111 rfl f_Mod_327 rfl h.sh (f20 _ _) ?_
            refine G_iret d_Mod_subduct_114 rfl ?_
            have := hI3.wt (w := (true, w.2)) (FI' := u2 (u2 FI17 b 23 (nI 1)) b 24 (nI w.2.length)) (AI' := AJ) (AL' := BJ) (fun c j hc => by
              by_cases e : c = b
              · subst e; rw [u2_ix _ _ (fun e2 => hc ⟨rfl, by omega⟩), u2_ix _ _ (fun e2 => hc ⟨rfl, by omega⟩)]
              · rw [u2_ne _ _ _ _ e, u2_ne _ _ _ _ e]) j1 j2 ⟨by rw [u2_ix _ _ (by omega), u2_at]; rfl, fun _ => ⟨u2_at _ _ _ _, fun i q hq => j3 i q (List.getElem?_eq_some_iff.mp hq).1 hq⟩⟩
            exact ⟨rfl, rfl, this.1, hf3.tr this.2⟩
          · omega
        · intro i hi ih AJ BJ l3 j1 j2 j3
          obtain ⟨qi, hqi⟩ : ∃ z, w.2[i]? = some z := ⟨w.2[i], List.getElem?_eq_getElem hi⟩
          obtain ⟨t1, t2⟩ := sts i qi hqi
          have e16 : BJ (b + 16) i = qi.1 := by rw [j2 _ (by omega), sp_off (by omega)]; exact t1
          have I : ∀ g, g ≤ 7 → ∀ AK : FT, (∀ c, c ≠ b + 19 → AK c = AI17 c) → (∀ j q, j < i → w.2[j]? = some q → ∀ f, f < 7 → AK (b + 19) (7 * j + f) = nI (pw q.2 f)) → (∀ f, f < g → AK (b + 19) (7 * i + f) = nI (pw qi.2 f)) → G V m_Mod_subduct (d + 6) 70 [some (.ref b), some (.int (nI k)), some (.int (nI i)), some (.int (nI g))] [] X (u2 (u2 FI17 b 23 (nI 1)) b 24 (nI w.2.length)) AK (u2 BJ (b + 18) i qi.1) (fun r X' FI' AI' AL' => r = some (.int (nI w.2.length)) ∧ X' = X ∧ MIv (stW (set1 S k w.1) (true, w.2)) FI' AI' AL' b ∧ fM FI FI' AI AI' AL AL' b) := by
            refine upto ?_ ?_
            · intro AK k1 k2 k3
              refine G_iload3 71 d_Mod_subduct_70 rfl ?_
              refine G_bipushN 7 73 d_Mod_subduct_71 rfl rfl ?_
              first | refine G_icgeN 104 76 d_Mod_subduct_73 rfl rfl (by omega) (by omega) (fun h73 => ?_) (fun h73 => ?_) | refine G_icge 104 76 d_Mod_subduct_73 rfl rfl (fun h73 => ?_) (fun h73 => ?_)
              · first | refine G_iincN2 107 d_Mod_subduct_104 rfl (by decide) rfl ?_ | refine G_iinc2 _ 107 d_Mod_subduct_104 rfl (by decide) rfl rfl ?_
                refine G_goto 48 d_Mod_subduct_107 rfl ?_
                refine ih AK _ _ k1 (fun c hc => by rw [u2_off _ _ _ hc]; exact j2 c hc) (fun j q hj hq => ?_)
                by_cases e : j = i
                · subst e
                  rw [hqi] at hq
                  cases hq
                  exact ⟨u2_at _ _ _ _, k3⟩
                · rw [u2_ix _ _ e]
                  exact ⟨(j3 j q (by omega) hq).1, k2 j q (by omega) hq⟩
              · omega
            · intro g hg ihg AK k1 k2 k3
              have e17 : AK (b + 17) (7 * i + g) = nI (pw qi.2 g) := by rw [k1 _ (by omega)]; exact t2 g hg
              refine G_iload3 71 d_Mod_subduct_70 rfl ?_
              refine G_bipushN 7 73 d_Mod_subduct_71 rfl rfl ?_
              first | refine G_icgeN 104 76 d_Mod_subduct_73 rfl rfl (by omega) (by omega) (fun h73 => ?_) (fun h73 => ?_) | refine G_icge 104 76 d_Mod_subduct_73 rfl rfl (fun h73 => ?_) (fun h73 => ?_)
              · omega
              · refine G_aload0 77 d_Mod_subduct_76 rfl ?_
                refine G_getR 80 d_Mod_subduct_77 rfl f_Mod_67 rfl h.sh h.f26 ?_
                refine G_bipushN 7 82 d_Mod_subduct_80 rfl rfl ?_
                refine G_iload2 83 d_Mod_subduct_82 rfl ?_
                first | refine G_imulN 84 d_Mod_subduct_83 rfl ?_ | refine G_imul 84 d_Mod_subduct_83 rfl ?_
                refine G_iload3 85 d_Mod_subduct_84 rfl ?_
                first | refine G_iaddN 86 d_Mod_subduct_85 rfl ?_ | refine G_iadd 86 d_Mod_subduct_85 rfl ?_
                refine G_aload0 87 d_Mod_subduct_86 rfl ?_
                refine G_getR 90 d_Mod_subduct_87 rfl f_Mod_61 rfl h.sh h.f22 ?_
                refine G_bipushN 7 92 d_Mod_subduct_90 rfl rfl ?_
                refine G_iload2 93 d_Mod_subduct_92 rfl ?_
                first | refine G_imulN 94 d_Mod_subduct_93 rfl ?_ | refine G_imul 94 d_Mod_subduct_93 rfl ?_
                refine G_iload3 95 d_Mod_subduct_94 rfl ?_
                first | refine G_iaddN 96 d_Mod_subduct_95 rfl ?_ | refine G_iadd 96 d_Mod_subduct_95 rfl ?_
                refine G_ialoadv 97 d_Mod_subduct_96 rfl h.s22 (ix_nI (by omega) (by omega)) e17 ?_
                refine G_iastore 98 d_Mod_subduct_97 rfl h.s26 (ix_nI (by omega) (by omega)) ?_
                first | refine G_iincN3 101 d_Mod_subduct_98 rfl (by decide) rfl ?_ | refine G_iinc3 _ 101 d_Mod_subduct_98 rfl (by decide) rfl rfl ?_
                refine G_goto 70 d_Mod_subduct_101 rfl ?_
                refine ihg _ (fun c hc => by rw [u2_off _ _ _ hc]; exact k1 c hc) (fun j q hj hq f hf => by rw [u2_ix _ _ (by omega)]; exact k2 j q hj hq f hf) (fun f hf => ?_)
                by_cases e : f = g
                · subst e; exact u2_at _ _ _ _
                · rw [u2_ix _ _ (by omega)]; exact k3 f (by omega)
          refine G_iload2 49 d_Mod_subduct_48 rfl ?_
          refine G_aload0 50 d_Mod_subduct_49 rfl ?_
          refine G_getIv 53 d_Mod_subduct_50 rfl f_Mod_327 rfl h.sh (f20 _ _) ?_
          first | refine G_icgeN 110 56 d_Mod_subduct_53 rfl rfl (by omega) (by omega) (fun h53 => ?_) (fun h53 => ?_) | refine G_icge 110 56 d_Mod_subduct_53 rfl rfl (fun h53 => ?_) (fun h53 => ?_)
          · omega
          · refine G_aload0 57 d_Mod_subduct_56 rfl ?_
            refine G_getR 60 d_Mod_subduct_57 rfl f_Mod_64 rfl h.sh h.f25 ?_
            refine G_iload2 61 d_Mod_subduct_60 rfl ?_
            refine G_aload0 62 d_Mod_subduct_61 rfl ?_
            refine G_getR 65 d_Mod_subduct_62 rfl f_Mod_58 rfl h.sh h.f21 ?_
            refine G_iload2 66 d_Mod_subduct_65 rfl ?_
            refine G_laloadv 67 d_Mod_subduct_66 rfl h.s21 (ix_nI (by omega) (by omega)) e16 ?_
            refine G_lastore 68 d_Mod_subduct_67 rfl h.s25 (ix_nI (by omega) (by omega)) ?_
            refine G_iconstN 0 69 d_Mod_subduct_68 rfl rfl ?_
            refine G_istore3 70 d_Mod_subduct_69 rfl (by decide) rfl ?_
            exact I 0 (by omega) AJ j1 (fun j q hj hq => (j3 j q hj hq).2) (fun f hf => by omega)
      refine G_ifne 26 23 d_Mod_subduct_20 rfl rfl (fun h20 => ?_) (fun h20 => ?_)
      · refine G_aload0 27 d_Mod_subduct_26 rfl ?_
        refine G_bipushN 18 29 d_Mod_subduct_27 rfl rfl ?_
        refine G_iload1 30 d_Mod_subduct_29 rfl ?_
        refine G_invV2v 33 d_Mod_subduct_30 rfl e_Mod_208 M_Mod_copyTo rfl h.sh (Nat.le_of_ble_eq_true rfl) (Nat.le_of_ble_eq_true rfl) rfl (s_mCopy (by assumption) (by omega) (by omega)) ?_
        refine G_aload0 34 d_Mod_subduct_33 rfl ?_
        refine G_iconstN 1 35 d_Mod_subduct_34 rfl rfl ?_
        refine G_putI 38 d_Mod_subduct_35 rfl f_Mod_304 rfl (by intro C T N h; cases h; rfl) h.sh rfl rfl ?_
        refine G_aload0 39 d_Mod_subduct_38 rfl ?_
        refine G_aload0 40 d_Mod_subduct_39 rfl ?_
        refine G_getIv 43 d_Mod_subduct_40 rfl f_Mod_327 rfl h.sh (f20' _) ?_
        refine G_putI 46 d_Mod_subduct_43 rfl f_Mod_348 rfl (by intro C T N h; cases h; rfl) h.sh rfl rfl ?_
        refine G_iconstN 0 47 d_Mod_subduct_46 rfl rfl ?_
        refine G_istore2 48 d_Mod_subduct_47 rfl (by decide) rfl ?_
        exact L 0 (Nat.zero_le _) AI17 _ none (fun _ _ => rfl) (fun _ _ => rfl) (fun j q hj => by omega)
      · exact absurd h20 (by decide)
  · have q1 := bN_f h1 (show 6 < 2 ^ 31 by omega)
    simp only [fSubduct, q1, Bool.false_eq_true, if_false]
    refine G_iconst (-1) 8 d_Mod_subduct_7 rfl rfl ?_
    refine G_iret d_Mod_subduct_8 rfl ?_
    exact ⟨rfl, rfl, hI, fM.rf⟩
