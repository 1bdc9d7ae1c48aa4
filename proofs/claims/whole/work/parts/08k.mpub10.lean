/-! ===== the reference: sums of PRODUCTS ===== -/
def smC (n : Nat) (gp : Nat → Nat → Int64) : List (Int64 × Nat) → Int64 → Int64
  | [], a => a
  | q :: L, a => smC n gp L (sumA a (prodA (labs q.1) (cost (fun g => norm (gp g)) (pw q.2) n)))
def smP (n : Nat) (gp : Nat → Nat → Int64) : List (Int64 × Nat) → (Nat → Int64) → Nat → Int64
  | [], f => f
  | q :: L, f => smP n gp L (addP f (prodP gp (pw q.2) n) q.1)
theorem cu_smP (n : Nat) (gp : Nat → Nat → Int64) : ∀ (L : List (Int64 × Nat)) (f : Nat → Int64), cu f = f → cu (smP n gp L f) = smP n gp L f
  | [], f, h => h
  | q :: L, f, h => cu_smP n gp L _ (by rw [cu_addP, h, prodP_cu])
def fWitness (S : ST) (s : Int32) : Int32 × ST := if bN s 6 = true then (if (tW S).1 = true then (if smC (gN (tG S)) (gP (tG S)) (tW S).2 0 < 0 then (-5, S) else (nI (cnt (smP (gN (tG S)) (gP (tG S)) (tW S).2 (fun _ => 0))), set1 S (ni s) (smP (gN (tG S)) (gP (tG S)) (tW S).2 (fun _ => 0)))) else (-2, S)) else (-1, S)
/-- only row W_FIRST of what is worked with changes -/
def w2F (AI AI' : FT) (b : Nat) : Prop := (∀ c, c ≠ b + 27 → AI' c = AI c) ∧ ∀ j, j < 14 ∨ 21 ≤ j → AI' (b + 27) j = AI (b + 27) j
theorem w2F.rf {AI : FT} {b : Nat} : w2F AI AI b := ⟨fun _ _ => rfl, fun _ _ => rfl⟩
theorem w2F.tr {AI AI1 AI2 : FT} {b : Nat} (h : w2F AI AI1 b) (k : w2F AI1 AI2 b) : w2F AI AI2 b := ⟨fun c hc => (k.1 c hc).trans (h.1 c hc), fun j hj => (k.2 j hj).trans (h.2 j hj)⟩
theorem w2F.ap {FI AI AI' : FT} {AL : LT} {b : Nat} (h : w2F AI AI' b) : apF FI FI AI AI' AL AL b := ⟨fun _ _ _ => rfl, fun c _ hc => h.1 c (by omega), h.2, fun _ _ _ => rfl, fun _ _ _ _ _ _ => rfl⟩
theorem w2F.sr {AI : FT} {b : Nat} {g : Nat → Int32} (hg : ∀ j, j < 14 ∨ 21 ≤ j → g j = AI (b + 27) j) : w2F AI (sr AI (b + 27) g) b := ⟨fun c hc => sr_ne _ _ hc, fun j hj => by rw [sr_at]; exact hg j hj⟩
/-- the scratch of products and SUM -/
def pkF (AL AL' : LT) (b : Nat) : Prop := (∀ c, c ≠ b + 1 → AL' c = AL c) ∧ ∀ p, p < 13 → mp AL' b p = mp AL b p
theorem m_witness {V : GV} {d b : Nat} {S : ST} {s : Int32} {X : XT} {FI AI : FT} {AL : LT} (h : MO X b) (hI : MIv S FI AI AL b) (hW : WS S) : G V m_Mod_witness (d + 5) 0 [some (.ref b), some (.int s), none, none, none] [] X FI AI AL (fun r X' FI' AI' AL' => r = some (.int (fWitness S s).1) ∧ X' = X ∧ MIv (fWitness S s).2 FI' AI' AL' b ∧ fM FI FI' AI AI' AL AL' b) := by
  obtain ⟨hG, hO, hSl, -⟩ := id hI
  have hT := hG.1
  have hn9 := hG.2.1
  have ho := hG.2.2.1
  have hrk := hG.2.2.2.1
  have hn7 := hW.2.1.1
  have hgl := hG.gl hW.2.1
  have hinj := hW.2.1.2.2
  have hl2 : ∀ i, i < gN (tG S) → gL (tG S) i < 84 ∧ 1 ≤ eD (gL (tG S) i) := fun i hi => (hgl i hi).2
  have hlen : ∀ t, t < 84 → (RN (leadL (gL (tG S)) (gN (tG S))) t).length ≤ 120 := fun t ht => by rw [RN, List.length_map]; exact RT_128 hn7 hl2 hinj ht
  refine G_iload1 1 d_Mod_witness_0 rfl ?_
  refine G_invS1b 4 d_Mod_witness_1 rfl e_Mod_182 M_Mod_isSlot (Nat.le_of_ble_eq_true rfl) (Nat.le_of_ble_eq_true rfl) rfl (s_mIsSlot) (fun h1 => G_ifne1 7 d_Mod_witness_4 9 rfl rfl ?_) (fun h1 => G_ifne0 7 d_Mod_witness_4 9 rfl rfl ?_)
  · obtain ⟨k, hk, rfl⟩ := h1
    have q1 := bN_t hk (show 6 < 2 ^ 31 by omega)
    have z1 := ni_nI (show k < 2 ^ 31 by omega)
    obtain ⟨-, a1, a2, a3, a4, a5, a6⟩ := hI.de
    simp only [fWitness, q1, z1, if_true]
    cases hw : (tW S).1 with
    | false =>
      have f23 : FI b 23 = 0 := by rw [a3.1, hw]; rfl
      simp only [Bool.false_eq_true, if_false]
      refine G_aload0 10 d_Mod_witness_9 rfl ?_
      refine G_getIv 13 d_Mod_witness_10 rfl f_Mod_304 rfl h.sh f23 ?_
      refine G_ifne 19 16 d_Mod_witness_13 rfl rfl (fun h13 => ?_) (fun h13 => ?_)
      · exact absurd rfl h13
      · refine G_bipush (-2) 18 d_Mod_witness_16 rfl rfl ?_
        refine G_iret d_Mod_witness_18 rfl ?_
        exact ⟨rfl, rfl, hI, fM.rf⟩
    | true =>
      have f23 : FI b 23 = 1 := by rw [a3.1, hw]; rfl
      obtain ⟨f24, hst⟩ := a3.2 hw
      obtain ⟨hlen84, hrows⟩ := hW.2.2.2.1 hw
      simp only [if_true]
      generalize hws : (tW S).2 = ws at f24 hst hlen84 hrows
      have rowAt : ∀ (i : Nat) (q : Int64 × Nat), ws[i]? = some q → q.2 < 2097152 ∧ rdeg (gL (tG S)) q.2 (gN (tG S)) ≤ 6 := fun i q hq => ⟨(hrows q (List.mem_of_getElem? hq)).1, (hrows q (List.mem_of_getElem? hq)).2.1⟩
      -- the row is taken
      have take : ∀ (AJ : FT) (i : Nat) (q : Int64 × Nat), w2F AI AJ b → ws[i]? = some q → ∃ AK, G V m_Mod_takeRow (d + 4) 0 [some (.ref b), some (.ref (b + 19)), some (.int (nI i)), some (.int (nI 2)), none] [] X FI AJ AL (Pd none X FI AK AL) ∧ w2F AI AK b ∧ (∀ f, f < 7 → AK (b + 27) (7 * 2 + f) = nI (pw q.2 f)) ∧ ∀ BJ : LT, G V m_Mod_takeRow (d + 4) 0 [some (.ref b), some (.ref (b + 19)), some (.int (nI i)), some (.int (nI 2)), none] [] X FI AJ BJ (Pd none X FI AK BJ) := by
        intro AJ i q hJ hq
        have hi := (List.getElem?_eq_some_iff.mp hq).1
        have ht : ∀ BJ : LT, _ := fun BJ => s_mTakeRow (V := V) (d := d + 4) (c := b + 19) (n := 588) (i := i) (w := 2) (FI := FI) (AI := AJ) (AL := BJ) h h.s26 (by omega) (by omega) (by omega) (by omega)
        refine ⟨_, ht AL, hJ.tr (w2F.sr (fun j hj => if_neg (by omega))), fun f hf => ?_, ht⟩
        rw [sr_at, if_pos (by omega), show 7 * 2 + f - 7 * 2 = f by omega, hJ.1 _ (by omega)]
        exact (hst i q hq).2 f hf
      -- second: PRODUCTS are summed
      have L2 : ∀ (L : List (Int64 × Nat)) (i : Nat) (f : Nat → Int64) (AJ : FT) (BJ : LT) (l2 : Option Value), ws.drop i = L → i ≤ ws.length → cu f = f → w2F AI AJ b → pkF AL BJ b → mp BJ b 17 = f → G V m_Mod_witness (d + 5) 91 [some (.ref b), some (.int (nI k)), l2, none, some (.int (nI i))] [] X FI AJ BJ (fun r X' FI' AI' AL' => r = some (.int (nI (cnt (smP (gN (tG S)) (gP (tG S)) L f)))) ∧ X' = X ∧ MIv (set1 S k (smP (gN (tG S)) (gP (tG S)) L f)) FI' AI' AL' b ∧ fM FI FI' AI AI' AL AL' b) := by
        intro L
        induction L with
        | nil =>
          intro i f AJ BJ l2 hdr hil hc hJ hB h17
          have hle : ws.length ≤ i := List.drop_eq_nil_iff.mp hdr
          have hIJ : MIv S FI AJ BJ b := (hI.ap hW (hJ.ap (AL := AL))).wk hW hB.1 hB.2
          refine G_iload4 93 d_Mod_witness_91 rfl ?_
          refine G_aload0 94 d_Mod_witness_93 rfl ?_
          refine G_getIv 97 d_Mod_witness_94 rfl f_Mod_348 rfl h.sh f24 ?_
          first | refine G_icgeN 139 100 d_Mod_witness_97 rfl rfl (by omega) (by omega) (fun h97 => ?_) (fun h97 => ?_) | refine G_icge 139 100 d_Mod_witness_97 rfl rfl (fun h97 => ?_) (fun h97 => ?_)
          · refine G_aload0 140 d_Mod_witness_139 rfl ?_
            refine G_bipushN 17 142 d_Mod_witness_140 rfl rfl ?_
            refine G_iload1 143 d_Mod_witness_142 rfl ?_
            refine G_invV2v 146 d_Mod_witness_143 rfl e_Mod_208 M_Mod_copyTo rfl h.sh (Nat.le_of_ble_eq_true rfl) (Nat.le_of_ble_eq_true rfl) rfl (s_mCopy (by assumption) (by omega) (by omega)) ?_
            refine G_aload0 147 d_Mod_witness_146 rfl ?_
            refine G_iload1 148 d_Mod_witness_147 rfl ?_
            refine G_invV1d 151 d_Mod_witness_148 rfl e_Mod_202 M_Mod_termsIn rfl h.sh (Nat.le_of_ble_eq_true rfl) (Nat.le_of_ble_eq_true rfl) rfl (s_mTerms (by assumption) (by omega)) ?_
            refine G_iret d_Mod_witness_151 rfl ?_
            have e1 : mp (sp BJ b k (mp BJ b 17)) b k = f := by rw [mp_sp, mp_cu, h17]
            exact ⟨by rw [e1]; rfl, rfl, hIJ.s1 hW hk (fun c hc => sp_off hc) e1 (fun p _ hp => mp_spn hp), ((hJ.ap (FI := FI) (AL := AL)).fm.tr (fM.al hB.1)).tr (fM.al (fun c hc => sp_off hc))⟩
          · omega
        | cons q L ih =>
          intro i f AJ BJ l2 hdr hil hc hJ hB h17
          have hq : ws[i]? = some q := by
            have := congrArg (fun l => l[0]?) hdr
            simpa using this
          have hdr' : ws.drop (i + 1) = L := by
            have := congrArg List.tail hdr
            simpa [List.tail_drop] using this
          have hi := (List.getElem?_eq_some_iff.mp hq).1
          obtain ⟨AK, -, kJ, kr, tk⟩ := take AJ i q hJ hq
          have hIJ : MIv S FI AK BJ b := (hI.ap hW (kJ.ap (AL := AL))).wk hW hB.1 hB.2
          have hGJ := hIJ.1
          have hpr := s_mProduct (V := V) (d := d + 1) (p := 13) (w := 2) (r := q.2) (gl := gL (tG S)) (AL := BJ) h hGJ.1 hGJ.2.1 hn7 (by omega) (fun g hg => kr g (by omega)) (by omega) (by omega) (by omega) (fun g hg => (((hGJ.gn hW.2.1).2.2.2.2.1 g hg).1 ▸ ((hGJ.gn hW.2.1).2.2.2.2.1 g hg).2)) (rowAt i q hq).2
          rw [prodP_cu2 (gN (tG S)) (ps' := gP (tG S)) (P' := pw q.2) (fun i hi => by rw [(hGJ.2.2.2.2 i hi).2.1]) (fun _ _ => rfl)] at hpr
          refine G_iload4 93 d_Mod_witness_91 rfl ?_
          refine G_aload0 94 d_Mod_witness_93 rfl ?_
          refine G_getIv 97 d_Mod_witness_94 rfl f_Mod_348 rfl h.sh f24 ?_
          first | refine G_icgeN 139 100 d_Mod_witness_97 rfl rfl (by omega) (by omega) (fun h97 => ?_) (fun h97 => ?_) | refine G_icge 139 100 d_Mod_witness_97 rfl rfl (fun h97 => ?_) (fun h97 => ?_)
          · omega
          · refine G_aload0 101 d_Mod_witness_100 rfl ?_
            refine G_aload0 102 d_Mod_witness_101 rfl ?_
            refine G_getR 105 d_Mod_witness_102 rfl f_Mod_67 rfl h.sh h.f26 ?_
            refine G_iload4 107 d_Mod_witness_105 rfl ?_
            refine G_iconstN 2 108 d_Mod_witness_107 rfl rfl ?_
            refine G_invV3v 111 d_Mod_witness_108 rfl e_Mod_334 M_Mod_takeRow rfl h.sh (Nat.le_of_ble_eq_true rfl) (Nat.le_of_ble_eq_true rfl) rfl (tk BJ) ?_
            refine G_aload0 112 d_Mod_witness_111 rfl ?_
            refine G_iconstN 2 113 d_Mod_witness_112 rfl rfl ?_
            refine G_bipushN 13 115 d_Mod_witness_113 rfl rfl ?_
            refine G_invV2 118 d_Mod_witness_115 rfl e_Mod_341 M_Mod_productTo rfl h.sh (Nat.le_of_ble_eq_true rfl) (Nat.le_of_ble_eq_true rfl) rfl (G.conseq (hpr) (fun r115 X115 FI115 AI115 AL115 h115 => ?_))
            obtain ⟨b1, b2, b3, b4, b5, b6⟩ := h115
            replace b2 := b2.symm
            replace b3 := b3.symm
            replace b4 := b4.symm
            subst b1 b2 b3 b4
            have e18 : AL115 (b + 18) i = q.1 := by rw [b5.1 _ (by omega), hB.1 _ (by omega)]; exact (hst i q hq).1
            have m17 : mp AL115 b 17 = f := by rw [b5.2 17 (by omega) (by omega)]; exact h17
            refine G_aload0 119 d_Mod_witness_118 rfl ?_
            refine G_bipushN 17 121 d_Mod_witness_119 rfl rfl ?_
            refine G_bipushN 13 123 d_Mod_witness_121 rfl rfl ?_
            refine G_aload0 124 d_Mod_witness_123 rfl ?_
            refine G_getR 127 d_Mod_witness_124 rfl f_Mod_64 rfl h.sh h.f25 ?_
            refine G_iload4 129 d_Mod_witness_127 rfl ?_
            refine G_laloadv 130 d_Mod_witness_129 rfl h.s25 (ix_nI (by omega) (by omega)) e18 ?_
            refine G_invV3v 133 d_Mod_witness_130 rfl e_Mod_212 M_Mod_addTo rfl h.sh (Nat.le_of_ble_eq_true rfl) (Nat.le_of_ble_eq_true rfl) rfl (s_mAdd (by assumption) (by omega) (by omega)) ?_
            first | refine G_iincN4 136 d_Mod_witness_133 rfl (by decide) rfl ?_ | refine G_iinc4 _ 136 d_Mod_witness_133 rfl (by decide) rfl rfl ?_
            refine G_goto 91 d_Mod_witness_136 rfl ?_
            rw [m17, b6]
            refine ih (i + 1) (addP f (prodP (gP (tG S)) (pw q.2) (gN (tG S))) q.1) AK _ _ hdr' (by omega) (by rw [cu_addP, hc, prodP_cu]) kJ ⟨fun c hc => by rw [sp_off hc, b5.1 c hc]; exact hB.1 c hc, fun p hp => by rw [mp_spn (by omega), b5.2 p (by omega) (by omega)]; exact hB.2 p hp⟩ ?_
            rw [mp_sp]
            have := cu_addP f (prodP (gP (tG S)) (pw q.2) (gN (tG S))) q.1
            rw [hc, prodP_cu] at this
            exact this
      -- first: COSTS
      have L1 : ∀ (L : List (Int64 × Nat)) (i : Nat) (a : Int64) (AJ : FT), ws.drop i = L → i ≤ ws.length → w2F AI AJ b → G V m_Mod_witness (d + 5) 24 [some (.ref b), some (.int (nI k)), some (.long a), none, some (.int (nI i))] [] X FI AJ AL (fun r X' FI' AI' AL' => r = some (.int (if smC (gN (tG S)) (gP (tG S)) L a < 0 then (-5, S) else (nI (cnt (smP (gN (tG S)) (gP (tG S)) ws (fun _ => 0))), set1 S k (smP (gN (tG S)) (gP (tG S)) ws (fun _ => 0)))).1) ∧ X' = X ∧ MIv (if smC (gN (tG S)) (gP (tG S)) L a < 0 then (-5, S) else (nI (cnt (smP (gN (tG S)) (gP (tG S)) ws (fun _ => 0))), set1 S k (smP (gN (tG S)) (gP (tG S)) ws (fun _ => 0)))).2 FI' AI' AL' b ∧ fM FI FI' AI AI' AL AL' b) := by
        intro L
        induction L with
        | nil =>
          intro i a AJ hdr hil hJ
          have hle : ws.length ≤ i := List.drop_eq_nil_iff.mp hdr
          have hIJ : MIv S FI AJ AL b := hI.ap hW (hJ.ap (AL := AL))
          refine G_iload4 26 d_Mod_witness_24 rfl ?_
          refine G_aload0 27 d_Mod_witness_26 rfl ?_
          refine G_getIv 30 d_Mod_witness_27 rfl f_Mod_348 rfl h.sh f24 ?_
          first | refine G_icgeN 73 33 d_Mod_witness_30 rfl rfl (by omega) (by omega) (fun h30 => ?_) (fun h30 => ?_) | refine G_icge 73 33 d_Mod_witness_30 rfl rfl (fun h30 => ?_) (fun h30 => ?_)
          · refine G_lload2 74 d_Mod_witness_73 rfl ?_
            refine G_lconst 0 75 d_Mod_witness_74 rfl rfl ?_
            refine G_lcge 82 79 d_Mod_witness_75 d_Mod_witness_76 rfl rfl (fun h75 => ?_) (fun h75 => ?_)
            · have hlt : ¬ smC (gN (tG S)) (gP (tG S)) [] a < 0 := h75
              simp only [if_neg hlt]
              refine G_aload0 83 d_Mod_witness_82 rfl ?_
              refine G_bipushN 17 85 d_Mod_witness_83 rfl rfl ?_
              refine G_invV1v 88 d_Mod_witness_85 rfl e_Mod_162 M_Mod_clearAt rfl h.sh (Nat.le_of_ble_eq_true rfl) (Nat.le_of_ble_eq_true rfl) rfl (s_mClear (by assumption) (by omega)) ?_
              refine G_iconstN 0 89 d_Mod_witness_88 rfl rfl ?_
              refine G_istore4 91 d_Mod_witness_89 rfl (by decide) rfl ?_
              exact L2 ws 0 (fun _ => 0) AJ _ _ (List.drop_zero) (Nat.zero_le _) (by funext j; unfold cu; split <;> rfl) hJ ⟨fun c hc => sp_off hc, fun p hp => mp_spn (by omega)⟩ (by rw [mp_sp]; funext j; unfold cu; split <;> rfl)
            · have hlt : smC (gN (tG S)) (gP (tG S)) [] a < 0 := h75
              simp only [if_pos hlt]
              refine G_bipush (-5) 81 d_Mod_witness_79 rfl rfl ?_
              refine G_iret d_Mod_witness_81 rfl ?_
              exact ⟨rfl, rfl, hIJ, (hJ.ap (FI := FI) (AL := AL)).fm⟩
          · omega
        | cons q L ih =>
          intro i a AJ hdr hil hJ
          have hq : ws[i]? = some q := by
            have := congrArg (fun l => l[0]?) hdr
            simpa using this
          have hdr' : ws.drop (i + 1) = L := by
            have := congrArg List.tail hdr
            simpa [List.tail_drop] using this
          have hi := (List.getElem?_eq_some_iff.mp hq).1
          obtain ⟨AK, tk, kJ, kr, -⟩ := take AJ i q hJ hq
          have hco := s_mCost (V := V) (d := d + 2) (w := 2) (P := pw q.2) (AI := AK) (AL := AL) h hn9 hn7 (by omega) (fun g hg => ⟨kr g (by omega), pw_lt _ _⟩)
          rw [cost_congr (nm' := fun g => norm (gP (tG S) g)) (P' := pw q.2) (fun i hi => by rw [(hG.2.2.2.2 i hi).2.1]) (fun _ _ => rfl)] at hco
          refine G_iload4 26 d_Mod_witness_24 rfl ?_
          refine G_aload0 27 d_Mod_witness_26 rfl ?_
          refine G_getIv 30 d_Mod_witness_27 rfl f_Mod_348 rfl h.sh f24 ?_
          first | refine G_icgeN 73 33 d_Mod_witness_30 rfl rfl (by omega) (by omega) (fun h30 => ?_) (fun h30 => ?_) | refine G_icge 73 33 d_Mod_witness_30 rfl rfl (fun h30 => ?_) (fun h30 => ?_)
          · omega
          · refine G_aload0 34 d_Mod_witness_33 rfl ?_
            refine G_aload0 35 d_Mod_witness_34 rfl ?_
            refine G_getR 38 d_Mod_witness_35 rfl f_Mod_67 rfl h.sh h.f26 ?_
            refine G_iload4 40 d_Mod_witness_38 rfl ?_
            refine G_iconstN 2 41 d_Mod_witness_40 rfl rfl ?_
            refine G_invV3v 44 d_Mod_witness_41 rfl e_Mod_334 M_Mod_takeRow rfl h.sh (Nat.le_of_ble_eq_true rfl) (Nat.le_of_ble_eq_true rfl) rfl (tk) ?_
            refine G_lload2 45 d_Mod_witness_44 rfl ?_
            refine G_aload0 46 d_Mod_witness_45 rfl ?_
            refine G_getR 49 d_Mod_witness_46 rfl f_Mod_64 rfl h.sh h.f25 ?_
            refine G_iload4 51 d_Mod_witness_49 rfl ?_
            refine G_laloadv 52 d_Mod_witness_51 rfl h.s25 (ix_nI (by omega) (by omega)) (hst i q hq).1 ?_
            refine G_invS1d 55 d_Mod_witness_52 rfl e_Mod_158 M_Mod_size (Nat.le_of_ble_eq_true rfl) (Nat.le_of_ble_eq_true rfl) rfl (s_mSize) ?_
            refine G_aload0 56 d_Mod_witness_55 rfl ?_
            refine G_iconstN 2 57 d_Mod_witness_56 rfl rfl ?_
            refine G_invV1d 60 d_Mod_witness_57 rfl e_Mod_338 M_Mod_costOf rfl h.sh (Nat.le_of_ble_eq_true rfl) (Nat.le_of_ble_eq_true rfl) rfl (hco) ?_
            refine G_invS2d 63 d_Mod_witness_60 rfl e_Mod_205 M_Mod_timesUp (Nat.le_of_ble_eq_true rfl) (Nat.le_of_ble_eq_true rfl) rfl (s_mTimesUp) ?_
            refine G_invS2d 66 d_Mod_witness_63 rfl e_Mod_198 M_Mod_plusUp (Nat.le_of_ble_eq_true rfl) (Nat.le_of_ble_eq_true rfl) rfl (s_mPlusUp) ?_
            refine G_lstore2 67 d_Mod_witness_66 rfl (by decide) rfl ?_
            first | refine G_iincN4 70 d_Mod_witness_67 rfl (by decide) rfl ?_ | refine G_iinc4 _ 70 d_Mod_witness_67 rfl (by decide) rfl rfl ?_
            refine G_goto 24 d_Mod_witness_70 rfl ?_
            exact ih (i + 1) _ AK hdr' (by omega) kJ
      refine G_aload0 10 d_Mod_witness_9 rfl ?_
      refine G_getIv 13 d_Mod_witness_10 rfl f_Mod_304 rfl h.sh f23 ?_
      refine G_ifne 19 16 d_Mod_witness_13 rfl rfl (fun h13 => ?_) (fun h13 => ?_)
      · refine G_lconst 0 20 d_Mod_witness_19 rfl rfl ?_
        refine G_lstore2 21 d_Mod_witness_20 rfl (by decide) rfl ?_
        refine G_iconstN 0 22 d_Mod_witness_21 rfl rfl ?_
        refine G_istore4 24 d_Mod_witness_22 rfl (by decide) rfl ?_
        exact L1 ws 0 0 AI List.drop_zero (Nat.zero_le _) w2F.rf
      · exact absurd h13 (by decide)
  · have q1 := bN_f h1 (show 6 < 2 ^ 31 by omega)
    simp only [fWitness, q1, Bool.false_eq_true, if_false]
    refine G_iconst (-1) 8 d_Mod_witness_7 rfl rfl ?_
    refine G_iret d_Mod_witness_8 rfl ?_
    exact ⟨rfl, rfl, hI, fM.rf⟩
