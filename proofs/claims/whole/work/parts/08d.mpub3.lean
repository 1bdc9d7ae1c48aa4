/-! ===== the reference: calls on ROWS, RELATIONS, COMPLETION, SUBDUCTION ===== -/
theorem nrF.ln {FI AI AI' : FT} {b : Nat} {v : Int32} {Rs : List Nat} (h : LN AI AI' b Rs) : nrF FI (u2 FI b 30 v) AI AI' b :=
  ⟨(nrF.u (FI := FI) (AI := AI) (b := b) (j := 30) (v := v) (by omega)).1, fun c hc => h.1 c (by omega), fun j _ => by rw [h.1 _ (by omega)]⟩
theorem MIv.nr {S : ST} {FI FI' AI AI' : FT} {AL : LT} {b : Nat} (h : MIv S FI AI AL b) (k : nrF FI FI' AI AI' b) : MIv S FI' AI' AL b := h.gw (gwF.nr k) (h.1.nr k)
theorem MIv.ap {S : ST} {FI FI' AI AI' : FT} {AL AL' : LT} {b : Nat} (h : MIv S FI AI AL b) (hW : WS S) (k : apF FI FI' AI AI' AL AL' b) : MIv S FI' AI' AL' b := h.gw (gwF.gb (gbF.ap k)) (h.1.ap hW.2.1.1 k)
theorem MIv.df {S : ST} {FI AI : FT} {AL AL' : LT} {b : Nat} (h : MIv S FI AI AL b) (hW : WS S) (k : dfF AL AL' b) : MIv S FI AI AL' b := h.gw (gwF.gb (gbF.df k)) (h.1.df hW.2.1.1 k)
theorem nrF.fm {FI FI' AI AI' : FT} {AL : LT} {b : Nat} (k : nrF FI FI' AI AI' b) : fM FI FI' AI AI' AL AL b := (gwF.nr k).fm
theorem apF.fm {FI FI' AI AI' : FT} {AL AL' : LT} {b : Nat} (k : apF FI FI' AI AI' AL AL' b) : fM FI FI' AI AI' AL AL' b := (gwF.gb (gbF.ap k)).fm
theorem dfF.fm {FI AI : FT} {AL AL' : LT} {b : Nat} (k : dfF AL AL' b) : fM FI FI AI AI AL AL' b := (gwF.gb (gbF.df k)).fm
theorem fM.tr {FI FI1 FI2 AI AI1 AI2 : FT} {AL AL1 AL2 : LT} {b : Nat} (h : fM FI FI1 AI AI1 AL AL1 b) (k : fM FI1 FI2 AI1 AI2 AL1 AL2 b) : fM FI FI2 AI AI2 AL AL2 b := fun c hc => ⟨(k c hc).1.trans (h c hc).1, (k c hc).2.1.trans (h c hc).2.1, (k c hc).2.2.trans (h c hc).2.2⟩
theorem isB_n {x : Int32} {lo hi : Nat} (h : isB x (lo : Int) (hi : Int)) : ∃ k : Nat, lo ≤ k ∧ k ≤ hi ∧ k < 2 ^ 31 ∧ x = nI k := by
  obtain ⟨k, hk, rfl⟩ := nI_of (x := x) (fun e => by rw [lt0_iff] at e; have := h.1; omega)
  unfold isB at h
  rw [nI_toInt hk] at h
  exact ⟨k, by omega, by omega, hk, rfl⟩
abbrev tRN (S : ST) (t : Nat) : List Nat := RN (leadL (gL (tG S)) (gN (tG S))) t
noncomputable abbrev tRl (S : ST) (d : Nat) : List (Nat × Nat) := rlD (tO S) (leadL (gL (tG S)) (gN (tG S))) d 84
def fRows (S : ST) (x y z : Int32) : Int32 × ST := if bT x y z = true then (nI (tRN S (pl (ni x) (ni y) (ni z))).length, S) else (-1, S)
def fRow (S : ST) (x y z i g : Int32) : Int32 × ST := if (bT x y z && bN g (gN (tG S))) = true then (if bN i (tRN S (pl (ni x) (ni y) (ni z))).length = true then (nI (pw ((tRN S (pl (ni x) (ni y) (ni z))).getD (ni i) 0) (ni g)), S) else (-2, S)) else (-1, S)
noncomputable def fRelations (S : ST) (d : Int32) : Int32 × ST := if bB d 1 6 = true then (nI (tRl S (ni d)).length, S) else (-1, S)
noncomputable def fRelation (S : ST) (d r w g : Int32) : Int32 × ST := if (bB d 1 6 && bN w 2 && bN g (gN (tG S))) = true then (if bN r (tRl S (ni d)).length = true then (nI (pw (if ni w = 0 then ((tRl S (ni d)).getD (ni r) (0, 0)).1 else ((tRl S (ni d)).getD (ni r) (0, 0)).2) (ni g)), S) else (-2, S)) else (-1, S)
noncomputable def fDifference (S : ST) (d r s : Int32) : Int32 × ST := if (bB d 1 6 && bN s 6) = true then (if bN r (tRl S (ni d)).length = true then (match difP (gN (tG S)) (gP (tG S)) ((tRl S (ni d)).getD (ni r) (0, 0)).1 ((tRl S (ni d)).getD (ni r) (0, 0)).2 with
    | none => (-5, S)
    | some f => (nI (cnt f), set1 S (ni s) f)) else (-2, S)) else (-1, S)
def aptS (S : ST) (f : Nat → Int64) : Option ((Nat → Int64) × List (Int64 × Nat)) := apt (tO S) (gN (tG S)) (leadL (gL (tG S)) (gN (tG S))) (gP (tG S)) 84 f []
def fMember (S : ST) (s : Int32) : Int32 × ST := if bN s 6 = true then (match aptS S (tS S (ni s)) with
    | none => (-5, S)
    | some q => (if lead1 q.1 (tO S) = 0 then 1 else 0, S)) else (-1, S)
def fSubduct (S : ST) (s : Int32) : Int32 × ST := if bN s 6 = true then (match aptS S (tS S (ni s)) with
    | none => (-5, S)
    | some q => (nI q.2.length, stW (set1 S (ni s) q.1) (true, q.2))) else (-1, S)
noncomputable def fComplete (S : ST) (d : Int32) : Int32 × ST := if bB d 1 6 = true then (nI (grw (tO S) (ni d) 8 (tG S) 0).1, stG S (grw (tO S) (ni d) 8 (tG S) 0).2.1) else (-1, S)
/-- from a RELATION on: the number of the first that is open -/
def opn (S : ST) : List (Nat × Nat) → Nat → Int32
  | [], _ => -2
  | q :: L, k => match difP (gN (tG S)) (gP (tG S)) q.1 q.2 with
    | none => -5
    | some f => match aptS S f with
      | none => -5
      | some w => if lead1 w.1 (tO S) = 0 then opn S L (k + 1) else nI k
noncomputable def fOpen (S : ST) (d : Int32) : Int32 × ST := if bB d 1 6 = true then (opn S (tRl S (ni d)) 0, S) else (-1, S)
theorem m_rows {V : GV} {d b : Nat} {S : ST} {x y z : Int32} {X : XT} {FI AI : FT} {AL : LT} (h : MO X b) (hI : MIv S FI AI AL b) (hW : WS S) : G V m_Mod_rows (d + 4) 0 [some (.ref b), some (.int x), some (.int y), some (.int z)] [] X FI AI AL (fun r X' FI' AI' AL' => r = some (.int (fRows S x y z).1) ∧ X' = X ∧ MIv (fRows S x y z).2 FI' AI' AL' b ∧ fM FI FI' AI AI' AL AL' b) := by
  obtain ⟨hG, hO, hSl, -⟩ := id hI
  have hT := hG.1
  have hn9 := hG.2.1
  have ho := hG.2.2.1
  have hrk := hG.2.2.2.1
  have hn7 := hW.2.1.1
  have hgl := hG.gl hW.2.1
  have hinj := hW.2.1.2.2
  have hl2 : ∀ i, i < gN (tG S) → gL (tG S) i < 84 ∧ 1 ≤ eD (gL (tG S) i) := fun i hi => (hgl i hi).2
  have hlen : ∀ t, t < 84 → (RN (leadL (gL (tG S)) (gN (tG S))) t).length ≤ 120 := fun t ht => by rw [RN, List.length_map]; exact RT_128 hn7 hl2 hinj ht
  refine G_iload1 1 d_Mod_rows_0 rfl ?_
  refine G_iload2 2 d_Mod_rows_1 rfl ?_
  refine G_iload3 3 d_Mod_rows_2 rfl ?_
  refine G_invS3b 6 d_Mod_rows_3 rfl e_Mod_190 M_Mod_isTerm (Nat.le_of_ble_eq_true rfl) (Nat.le_of_ble_eq_true rfl) rfl (s_mIsTerm) (fun h3 => G_ifne1 9 d_Mod_rows_6 11 rfl rfl ?_) (fun h3 => G_ifne0 9 d_Mod_rows_6 11 rfl rfl ?_)
  · obtain ⟨p, p', p'', hs, rfl, rfl, rfl⟩ := h3
    have hp := pl_lt hs
    have q2 := bT_t hs
    simp only [fRows, q2, ni_nI (show p < 2 ^ 31 by omega), ni_nI (show p' < 2 ^ 31 by omega), ni_nI (show p'' < 2 ^ 31 by omega), if_true]
    have hlay := s_mLay (V := V) (d := d) (FI := FI) (AL := AL) h hT hp hn7 hgl hinj
    refine G_aload0 12 d_Mod_rows_11 rfl ?_
    refine G_aload0 13 d_Mod_rows_12 rfl ?_
    refine G_iload1 14 d_Mod_rows_13 rfl ?_
    refine G_iload2 15 d_Mod_rows_14 rfl ?_
    refine G_iload3 16 d_Mod_rows_15 rfl ?_
    refine G_invV3d 19 d_Mod_rows_16 rfl e_Mod_176 M_Mod_termOf rfl h.sh (Nat.le_of_ble_eq_true rfl) (Nat.le_of_ble_eq_true rfl) rfl (s_mTermOf (by assumption) (by assumption) (by omega)) ?_
    refine G_aload0 20 d_Mod_rows_19 rfl ?_
    refine G_getIv 23 d_Mod_rows_20 rfl f_Mod_133 rfl h.sh hn9 ?_
    refine G_invV2 26 d_Mod_rows_23 rfl e_Mod_298 M_Mod_layRows rfl h.sh (Nat.le_of_ble_eq_true rfl) (Nat.le_of_ble_eq_true rfl) rfl (G.conseq (hlay) (fun r23 X23 FI23 AI23 AL23 h23 => ?_))
    obtain ⟨a1, a2, a3, a4, a5⟩ := h23
    replace a2 := a2.symm
    replace a3 := a3.symm
    subst a1 a2 a3 a4
    have fr : u2 FI b 30 (nI (RN (leadL (gL (tG S)) (gN (tG S))) (pl p p' p'')).length) b 30 = nI (RN (leadL (gL (tG S)) (gN (tG S))) (pl p p' p'')).length := u2_at _ _ _ _
    refine G_aload0 27 d_Mod_rows_26 rfl ?_
    refine G_getIv 30 d_Mod_rows_27 rfl f_Mod_301 rfl h.sh fr ?_
    refine G_iret d_Mod_rows_30 rfl ?_
    exact ⟨rfl, rfl, hI.nr (nrF.ln a5), (nrF.ln a5).fm⟩
  · have q2 := bT_f h3
    simp only [fRows, q2, Bool.false_eq_true, if_false]
    refine G_iconst (-1) 10 d_Mod_rows_9 rfl rfl ?_
    refine G_iret d_Mod_rows_10 rfl ?_
    exact ⟨rfl, rfl, hI, fM.rf⟩
theorem m_row {V : GV} {d b : Nat} {S : ST} {x y z i g : Int32} {X : XT} {FI AI : FT} {AL : LT} (h : MO X b) (hI : MIv S FI AI AL b) (hW : WS S) : G V m_Mod_row (d + 4) 0 [some (.ref b), some (.int x), some (.int y), some (.int z), some (.int i), some (.int g)] [] X FI AI AL (fun r X' FI' AI' AL' => r = some (.int (fRow S x y z i g).1) ∧ X' = X ∧ MIv (fRow S x y z i g).2 FI' AI' AL' b ∧ fM FI FI' AI AI' AL AL' b) := by
  obtain ⟨hG, hO, hSl, -⟩ := id hI
  have hT := hG.1
  have hn9 := hG.2.1
  have ho := hG.2.2.1
  have hrk := hG.2.2.2.1
  have hn7 := hW.2.1.1
  have hgl := hG.gl hW.2.1
  have hinj := hW.2.1.2.2
  have hl2 : ∀ i, i < gN (tG S) → gL (tG S) i < 84 ∧ 1 ≤ eD (gL (tG S) i) := fun i hi => (hgl i hi).2
  have hlen : ∀ t, t < 84 → (RN (leadL (gL (tG S)) (gN (tG S))) t).length ≤ 120 := fun t ht => by rw [RN, List.length_map]; exact RT_128 hn7 hl2 hinj ht
  refine G_iload1 1 d_Mod_row_0 rfl ?_
  refine G_iload2 2 d_Mod_row_1 rfl ?_
  refine G_iload3 3 d_Mod_row_2 rfl ?_
  refine G_invS3b 6 d_Mod_row_3 rfl e_Mod_190 M_Mod_isTerm (Nat.le_of_ble_eq_true rfl) (Nat.le_of_ble_eq_true rfl) rfl (s_mIsTerm) (fun h3 => G_ifeq1 9 d_Mod_row_6 18 rfl rfl ?_) (fun h3 => G_ifeq0 9 d_Mod_row_6 18 rfl rfl ?_)
  · obtain ⟨p, p', p'', hs, rfl, rfl, rfl⟩ := h3
    have hp := pl_lt hs
    have q2 := bT_t hs
    refine G_aload0 10 d_Mod_row_9 rfl ?_
    refine G_iload5 12 d_Mod_row_10 rfl ?_
    refine G_invV1b 15 d_Mod_row_12 rfl e_Mod_287 M_Mod_isGenerator rfl h.sh (Nat.le_of_ble_eq_true rfl) (Nat.le_of_ble_eq_true rfl) rfl (s_mIsGenerator h hn9 hn7) (fun h12 => G_ifne1 18 d_Mod_row_15 20 rfl rfl ?_) (fun h12 => G_ifne0 18 d_Mod_row_15 20 rfl rfl ?_)
    · obtain ⟨j, hj, rfl⟩ := h12
      have q1 := bN_t hj (show gN (tG S) < 2 ^ 31 by omega)
      have z1 := ni_nI (show j < 2 ^ 31 by omega)
      simp only [fRow, tRN, q1, q2, z1, ni_nI (show p < 2 ^ 31 by omega), ni_nI (show p' < 2 ^ 31 by omega), ni_nI (show p'' < 2 ^ 31 by omega), Bool.and_self, if_true]
      have hlay := s_mLay (V := V) (d := d) (FI := FI) (AL := AL) h hT hp hn7 hgl hinj
      have hl1 := hlen _ hp
      refine G_aload0 21 d_Mod_row_20 rfl ?_
      refine G_aload0 22 d_Mod_row_21 rfl ?_
      refine G_iload1 23 d_Mod_row_22 rfl ?_
      refine G_iload2 24 d_Mod_row_23 rfl ?_
      refine G_iload3 25 d_Mod_row_24 rfl ?_
      refine G_invV3d 28 d_Mod_row_25 rfl e_Mod_176 M_Mod_termOf rfl h.sh (Nat.le_of_ble_eq_true rfl) (Nat.le_of_ble_eq_true rfl) rfl (s_mTermOf (by assumption) (by assumption) (by omega)) ?_
      refine G_aload0 29 d_Mod_row_28 rfl ?_
      refine G_getIv 32 d_Mod_row_29 rfl f_Mod_133 rfl h.sh hn9 ?_
      refine G_invV2 35 d_Mod_row_32 rfl e_Mod_298 M_Mod_layRows rfl h.sh (Nat.le_of_ble_eq_true rfl) (Nat.le_of_ble_eq_true rfl) rfl (G.conseq (hlay) (fun r32 X32 FI32 AI32 AL32 h32 => ?_))
      obtain ⟨a1, a2, a3, a4, a5⟩ := h32
      replace a2 := a2.symm
      replace a3 := a3.symm
      subst a1 a2 a3 a4
      generalize hRs : RN (leadL (gL (tG S)) (gN (tG S))) (pl p p' p'') = Rs at a5 hl1
      have fr : u2 FI b 30 (nI Rs.length) b 30 = nI Rs.length := u2_at _ _ _ _
      have hk := hI.nr (nrF.ln (FI := FI) (v := nI Rs.length) a5)
      have hfm := (nrF.ln (FI := FI) (v := nI Rs.length) a5).fm (AL := AL)
      have kw : ((0 : Int64).toInt ≤ i.toInt64.toInt ∧ i.toInt64.toInt ≤ (nI Rs.length - nI 1).toInt64.toInt) ↔ isN i Rs.length := by
        have e : (nI Rs.length - nI 1).toInt = (Rs.length : Int) - 1 := by
          rw [Int32.toInt_sub, nI_toInt (by omega), nI_toInt (by omega), Int.bmod_eq_of_le_mul_two (by omega) (by omega)]; rfl
        rw [toL, toL, e, isN_iff (by omega), show (0 : Int64).toInt = 0 from rfl]; omega
      refine G_iload4 37 d_Mod_row_35 rfl ?_
      refine G_i2l 38 d_Mod_row_37 rfl ?_
      refine G_lconst 0 39 d_Mod_row_38 rfl rfl ?_
      refine G_aload0 40 d_Mod_row_39 rfl ?_
      refine G_getIv 43 d_Mod_row_40 rfl f_Mod_301 rfl h.sh fr ?_
      refine G_iconstN 1 44 d_Mod_row_43 rfl rfl ?_
      refine G_isub 45 d_Mod_row_44 rfl ?_
      refine G_i2l 46 d_Mod_row_45 rfl ?_
      refine G_invS3b 49 d_Mod_row_46 rfl e_Mod_139 M_Mod_in (Nat.le_of_ble_eq_true rfl) (Nat.le_of_ble_eq_true rfl) rfl (s_mIn) (fun h46 => G_ifeq1 52 d_Mod_row_49 68 rfl rfl ?_) (fun h46 => G_ifeq0 52 d_Mod_row_49 68 rfl rfl ?_)
      · obtain ⟨l, hl, rfl⟩ := kw.mp h46
        have q3 := bN_t hl (show Rs.length < 2 ^ 31 by omega)
        have z3 := ni_nI (show l < 2 ^ 31 by omega)
        obtain ⟨rr, hrr⟩ : ∃ r, Rs[l]? = some r := ⟨Rs[l], List.getElem?_eq_getElem hl⟩
        have gd : Rs.getD l 0 = rr := by rw [List.getD_eq_getElem?_getD, hrr]; rfl
        simp only [q3, z3, if_true, gd]
        refine G_aload0 53 d_Mod_row_52 rfl ?_
        refine G_getR 56 d_Mod_row_53 rfl f_Mod_76 rfl h.sh h.f31 ?_
        refine G_bipushN 7 58 d_Mod_row_56 rfl rfl ?_
        refine G_iload4 60 d_Mod_row_58 rfl ?_
        first | refine G_imulN 61 d_Mod_row_60 rfl ?_ | refine G_imul 61 d_Mod_row_60 rfl ?_
        refine G_iload5 63 d_Mod_row_61 rfl ?_
        first | refine G_iaddN 64 d_Mod_row_63 rfl ?_ | refine G_iadd 64 d_Mod_row_63 rfl ?_
        refine G_ialoadv 65 d_Mod_row_64 rfl h.s31 (ix_nI (by omega) (by omega)) (a5.2 l rr hrr j (by omega)) ?_
        refine G_goto 70 d_Mod_row_65 rfl ?_
        refine G_iret d_Mod_row_70 rfl ?_
        exact ⟨rfl, rfl, hk, hfm⟩
      · have q3 := bN_f (fun e => h46 (kw.mpr e)) (show Rs.length < 2 ^ 31 by omega)
        simp only [q3, Bool.false_eq_true, if_false]
        refine G_bipush (-2) 70 d_Mod_row_68 rfl rfl ?_
        refine G_iret d_Mod_row_70 rfl ?_
        exact ⟨rfl, rfl, hk, hfm⟩
    · have q1 := bN_f h12 (show gN (tG S) < 2 ^ 31 by omega)
      simp only [fRow, q1, Bool.and_false, Bool.false_eq_true, if_false]
      refine G_iconst (-1) 19 d_Mod_row_18 rfl rfl ?_
      refine G_iret d_Mod_row_19 rfl ?_
      exact ⟨rfl, rfl, hI, fM.rf⟩
  · have q2 := bT_f h3
    simp only [fRow, q2, Bool.false_and, Bool.false_eq_true, if_false]
    refine G_iconst (-1) 19 d_Mod_row_18 rfl rfl ?_
    refine G_iret d_Mod_row_19 rfl ?_
    exact ⟨rfl, rfl, hI, fM.rf⟩
theorem m_complete {V : GV} {d b : Nat} {S : ST} {x : Int32} {X : XT} {FI AI : FT} {AL : LT} (h : MO X b) (hI : MIv S FI AI AL b) (hW : WS S) : G V m_Mod_complete (d + 8) 0 [some (.ref b), some (.int x)] [] X FI AI AL (fun r X' FI' AI' AL' => r = some (.int (fComplete S x).1) ∧ X' = X ∧ MIv (fComplete S x).2 FI' AI' AL' b ∧ fM FI FI' AI AI' AL AL' b) := by
  obtain ⟨hG, hO, hSl, -⟩ := id hI
  have hT := hG.1
  have hn9 := hG.2.1
  have ho := hG.2.2.1
  have hrk := hG.2.2.2.1
  have hn7 := hW.2.1.1
  have hgl := hG.gl hW.2.1
  have hinj := hW.2.1.2.2
  have hl2 : ∀ i, i < gN (tG S) → gL (tG S) i < 84 ∧ 1 ≤ eD (gL (tG S) i) := fun i hi => (hgl i hi).2
  have hlen : ∀ t, t < 84 → (RN (leadL (gL (tG S)) (gN (tG S))) t).length ≤ 120 := fun t ht => by rw [RN, List.length_map]; exact RT_128 hn7 hl2 hinj ht
  refine G_iload1 1 d_Mod_complete_0 rfl ?_
  refine G_invS1b 4 d_Mod_complete_1 rfl e_Mod_385 M_Mod_isBound (Nat.le_of_ble_eq_true rfl) (Nat.le_of_ble_eq_true rfl) rfl (s_mIsBound) (fun h1 => G_ifeq1 7 d_Mod_complete_4 15 rfl rfl ?_) (fun h1 => G_ifeq0 7 d_Mod_complete_4 15 rfl rfl ?_)
  · obtain ⟨e, e1, e6, e31, rfl⟩ := isB_n (lo := 1) (hi := 6) h1
    have q0 : bB (nI e) 1 6 = true := bB_iff.mpr h1
    have z0 := ni_nI e31
    simp only [fComplete, q0, z0, if_true]
    have hg := s_mGrow (V := V) (d0 := d) (d := e) h hW.2.1 hG e6
    refine G_aload0 8 d_Mod_complete_7 rfl ?_
    refine G_iload1 9 d_Mod_complete_8 rfl ?_
    refine G_invV1 12 d_Mod_complete_9 rfl e_Mod_404 M_Mod_grow rfl h.sh (Nat.le_of_ble_eq_true rfl) (Nat.le_of_ble_eq_true rfl) rfl (G.conseq (hg) (fun r9 X9 FI9 AI9 AL9 h9 => ?_))
    obtain ⟨a1, a2, a3, a4, a5⟩ := h9
    replace a1 := a1.symm
    subst a1 a4
    refine G_goto 16 d_Mod_complete_12 rfl ?_
    refine G_iret d_Mod_complete_16 rfl ?_
    exact ⟨rfl, rfl, hI.gw a2 a3, a2.fm⟩
  · have q0 := bB_f h1
    simp only [fComplete, q0, Bool.false_eq_true, if_false]
    refine G_iconst (-1) 16 d_Mod_complete_15 rfl rfl ?_
    refine G_iret d_Mod_complete_16 rfl ?_
    exact ⟨rfl, rfl, hI, fM.rf⟩
theorem m_member {V : GV} {d b : Nat} {S : ST} {s : Int32} {X : XT} {FI AI : FT} {AL : LT} (h : MO X b) (hI : MIv S FI AI AL b) (hW : WS S) : G V m_Mod_member (d + 6) 0 [some (.ref b), some (.int s)] [] X FI AI AL (fun r X' FI' AI' AL' => r = some (.int (fMember S s).1) ∧ X' = X ∧ MIv (fMember S s).2 FI' AI' AL' b ∧ fM FI FI' AI AI' AL AL' b) := by
  obtain ⟨hG, hO, hSl, -⟩ := id hI
  have hT := hG.1
  have hn9 := hG.2.1
  have ho := hG.2.2.1
  have hrk := hG.2.2.2.1
  have hn7 := hW.2.1.1
  have hgl := hG.gl hW.2.1
  have hinj := hW.2.1.2.2
  have hl2 : ∀ i, i < gN (tG S) → gL (tG S) i < 84 ∧ 1 ≤ eD (gL (tG S) i) := fun i hi => (hgl i hi).2
  have hlen : ∀ t, t < 84 → (RN (leadL (gL (tG S)) (gN (tG S))) t).length ≤ 120 := fun t ht => by rw [RN, List.length_map]; exact RT_128 hn7 hl2 hinj ht
  refine G_iload1 1 d_Mod_member_0 rfl ?_
  refine G_invS1b 4 d_Mod_member_1 rfl e_Mod_182 M_Mod_isSlot (Nat.le_of_ble_eq_true rfl) (Nat.le_of_ble_eq_true rfl) rfl (s_mIsSlot) (fun h1 => G_ifne1 7 d_Mod_member_4 9 rfl rfl ?_) (fun h1 => G_ifne0 7 d_Mod_member_4 9 rfl rfl ?_)
  · obtain ⟨k, hk, rfl⟩ := h1
    have q1 := bN_t hk (show 6 < 2 ^ 31 by omega)
    have z1 := ni_nI (show k < 2 ^ 31 by omega)
    simp only [fMember, q1, z1, if_true, ← hSl k hk]
    have hk1 : dfF AL (sp AL b 18 (mp AL b k)) b := ⟨fun c hc => sp_off hc, fun p a1 a2 a3 a4 a5 => mp_spn a5⟩
    have m18 : mp (sp AL b 18 (mp AL b k)) b 18 = mp AL b k := by rw [mp_sp, mp_cu]
    have hI1 := hI.df hW hk1
    have hap := s_mTakeApart (V := V) (d := d) h (hI1.1.gn hW.2.1)
    rw [m18] at hap
    refine G_aload0 10 d_Mod_member_9 rfl ?_
    refine G_iload1 11 d_Mod_member_10 rfl ?_
    refine G_bipushN 18 13 d_Mod_member_11 rfl rfl ?_
    refine G_invV2v 16 d_Mod_member_13 rfl e_Mod_208 M_Mod_copyTo rfl h.sh (Nat.le_of_ble_eq_true rfl) (Nat.le_of_ble_eq_true rfl) rfl (s_mCopy (by assumption) (by omega) (by omega)) ?_
    refine G_aload0 17 d_Mod_member_16 rfl ?_
    refine G_invV0 20 d_Mod_member_17 rfl e_Mod_344 M_Mod_takeApart rfl h.sh (Nat.le_of_ble_eq_true rfl) (Nat.le_of_ble_eq_true rfl) rfl (G.conseq (hap) (fun r17 X17 FI17 AI17 AL17 h17 => ?_))
    obtain ⟨y1, y2, y3⟩ := h17
    replace y1 := y1.symm
    subst y1
    have hI2 := hI1.ap hW y2
    have hf2 := (hk1.fm (FI := FI) (AI := AI)).tr y2.fm
    unfold aptS
    cases ha : apt (tO S) (gN (tG S)) (leadL (gL (tG S)) (gN (tG S))) (gP (tG S)) 84 (mp AL b k) [] with
    | none =>
      rw [ha] at y3
      subst y3
      refine G_ifne 28 23 d_Mod_member_20 rfl rfl (fun h20 => ?_) (fun h20 => ?_)
      · exact absurd rfl h20
      · refine G_bipush (-5) 25 d_Mod_member_23 rfl rfl ?_
        refine G_goto 42 d_Mod_member_25 rfl ?_
        refine G_iret d_Mod_member_42 rfl ?_
        exact ⟨rfl, rfl, hI2, hf2⟩
    | some w =>
      rw [ha] at y3
      obtain ⟨rfl, s20, sts, w18, wl⟩ := y3
      dsimp only
      have hrk2 := hI2.1.2.2.2.1
      have hn := s_mIsNothing (V := V) (d := d + 4) (p := 18) (FI := FI17) (AL := AL17) h (by omega) ho hrk2
      rw [w18] at hn
      refine G_ifne 28 23 d_Mod_member_20 rfl rfl (fun h20 => ?_) (fun h20 => ?_)
      · refine G_aload0 29 d_Mod_member_28 rfl ?_
        refine G_bipushN 18 31 d_Mod_member_29 rfl rfl ?_
        refine G_invV1b 34 d_Mod_member_31 rfl e_Mod_351 M_Mod_isNothing rfl h.sh (Nat.le_of_ble_eq_true rfl) (Nat.le_of_ble_eq_true rfl) rfl (hn) (fun h31 => G_ifeq1 37 d_Mod_member_34 41 rfl rfl ?_) (fun h31 => G_ifeq0 37 d_Mod_member_34 41 rfl rfl ?_)
        · simp only [if_pos h31]
          refine G_iconstN 1 38 d_Mod_member_37 rfl rfl ?_
          refine G_goto 42 d_Mod_member_38 rfl ?_
          refine G_iret d_Mod_member_42 rfl ?_
          exact ⟨rfl, rfl, hI2, hf2⟩
        · simp only [if_neg h31]
          refine G_iconstN 0 42 d_Mod_member_41 rfl rfl ?_
          refine G_iret d_Mod_member_42 rfl ?_
          exact ⟨rfl, rfl, hI2, hf2⟩
      · exact absurd h20 (by decide)
  · have q1 := bN_f h1 (show 6 < 2 ^ 31 by omega)
    simp only [fMember, q1, Bool.false_eq_true, if_false]
    refine G_iconst (-1) 8 d_Mod_member_7 rfl rfl ?_
    refine G_iret d_Mod_member_8 rfl ?_
    exact ⟨rfl, rfl, hI, fM.rf⟩
