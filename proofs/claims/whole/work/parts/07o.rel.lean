/-! ===== the reference: RELATIONS one after the other ===== -/
theorem s_mLayGroups {V : GV} {d b t n : Nat} {gl : Nat → Nat} {X : XT} {FI AI : FT} {AL : LT} (h : MO X b) (hT : MTb AI b) (ht : t < 84) (hn : n ≤ 7) (hG : MGl AI b n gl) (hi : ∀ i j, i < n → j < n → gl i = gl j → i = j) :
    G V m_Mod_layGroups (d + 4) 0 [some (.ref b), some (.int (nI t)), some (.int (nI n)), none, none, none, none] [] X FI AI AL (fun r X' FI' AI' AL' => r = none ∧ X' = X ∧ AL' = AL ∧ FI' = u2 (u2 FI b 30 (nI (RN (leadL gl n) t).length)) b 39 (nI (RN (leadL gl n) t).length) ∧ (∀ c, c < b + 22 ∨ c = b + 27 ∨ b + 29 < c → AI' c = AI c) ∧ rwsG AI' b (RN (leadL gl n) t) ∧ ∃ lab, lbk (RN (leadL gl n) t) lab ∧ LabG (RN (leadL gl n) t) lab ∧ ∀ i, i < (RN (leadL gl n) t).length → AI' (b + 28) i = nI (lab i)) := by
  have hlen : (RN (leadL gl n) t).length ≤ 120 := by rw [RN, List.length_map]; exact RT_128 hn (fun i hi => (hG i hi).2) hi ht
  have hlay := s_mLay (V := V) (d := d) (FI := FI) (AL := AL) h hT ht hn hG hi
  generalize RN (leadL gl n) t = Rs at hlen hlay
  refine G_aload0 1 d_Mod_layGroups_0 rfl ?_
  refine G_iload1 2 d_Mod_layGroups_1 rfl ?_
  refine G_iload2 3 d_Mod_layGroups_2 rfl ?_
  refine G_invV2 6 d_Mod_layGroups_3 rfl e_Mod_298 M_Mod_layRows rfl h.sh (Nat.le_of_ble_eq_true rfl) (Nat.le_of_ble_eq_true rfl) rfl (G.conseq (hlay) (fun r3 X3 FI3 AI3 AL3 h3 => ?_))
  obtain ⟨hr, hX, hL, hF, hN⟩ := h3
  replace hX := hX.symm
  replace hL := hL.symm
  subst hr hX hL hF
  have f30 : u2 FI b 30 (nI Rs.length) b 30 = nI Rs.length := u2_at _ _ _ _
  have f30' : u2 (u2 FI b 30 (nI Rs.length)) b 39 (nI Rs.length) b 30 = nI Rs.length := by rw [u2_ix _ _ (by omega)]; exact f30
  have f39 : u2 (u2 FI b 30 (nI Rs.length)) b 39 (nI Rs.length) b 39 = nI Rs.length := u2_at _ _ _ _
  generalize hFx : u2 (u2 FI b 30 (nI Rs.length)) b 39 (nI Rs.length) = FX at f30' f39
  have fin : ∀ (A2 : FT), (∀ c, c ≠ b + 29 → A2 c = AI3 c) → rwsG A2 b Rs → ∀ l4 l5 l6 : Option Value, ncat l4 = true → ncat l5 = true → ∀ i, i ≤ Rs.length → ∀ A4 : FT, (∀ c, c ≠ b + 28 → A4 c = A2 c) → (∀ j, j < i → A4 (b + 28) j = nI j) → G V m_Mod_layGroups (d + 4) 47 [some (.ref b), some (.int (nI t)), some (.int (nI n)), some (.int (nI i)), l4, l5, l6] [] X FX A4 AL (fun r X' FI' AI' AL' => r = none ∧ X' = X ∧ AL' = AL ∧ FI' = FX ∧ (∀ c, c < b + 22 ∨ c = b + 27 ∨ b + 29 < c → AI' c = AI c) ∧ rwsG AI' b Rs ∧ ∃ lab, lbk Rs lab ∧ LabG Rs lab ∧ ∀ i, i < Rs.length → AI' (b + 28) i = nI (lab i)) := by
    intro A2 hA2 hR2 l4 l5 l6 hn4 hn5
    refine upto ?_ ?_
    · intro A4 h1 h2
      have hg := grpL (V := V) (d := d + 3) (y1 := nI t) (y2 := nI n) (Rs := Rs) (FI := FX) (AI := A4) (AL := AL) h (by omega) (fun j r hj g hg => by rw [h1 _ (by omega)]; exact hR2 j r hj g hg) f39 _ (fun i => i) A4 l4 l5 l6 (fun i _ => ⟨Nat.le_refl _, Conn.rf⟩) h2 (fun _ _ => rfl) rfl hn4 hn5
      refine G_iload3 48 d_Mod_layGroups_47 rfl ?_
      refine G_aload0 49 d_Mod_layGroups_48 rfl ?_
      refine G_getIv 52 d_Mod_layGroups_49 rfl f_Mod_370 rfl h.sh f39 ?_
      first | refine G_icgeN 68 55 d_Mod_layGroups_52 rfl rfl (by omega) (by omega) (fun h52 => ?_) (fun h52 => ?_) | refine G_icge 68 55 d_Mod_layGroups_52 rfl rfl (fun h52 => ?_) (fun h52 => ?_)
      · refine G_iconstN 1 69 d_Mod_layGroups_68 rfl rfl ?_
        refine G_istore3 70 d_Mod_layGroups_69 rfl (by decide) rfl ?_
        refine hg.conseq (fun r X' FI' AI' AL' ⟨a, b', c, d', e, f⟩ => ⟨a, b', c, d', fun q hq => ?_, fun j r hj g hg => ?_, f⟩)
        · rw [e q (by omega), h1 q (by omega), hA2 q (by omega)]; exact hN.1 q (by omega)
        · rw [e _ (by omega), h1 _ (by omega)]; exact hR2 j r hj g hg
      · omega
    · intro i hi ih A4 h1 h2
      refine G_iload3 48 d_Mod_layGroups_47 rfl ?_
      refine G_aload0 49 d_Mod_layGroups_48 rfl ?_
      refine G_getIv 52 d_Mod_layGroups_49 rfl f_Mod_370 rfl h.sh f39 ?_
      first | refine G_icgeN 68 55 d_Mod_layGroups_52 rfl rfl (by omega) (by omega) (fun h52 => ?_) (fun h52 => ?_) | refine G_icge 68 55 d_Mod_layGroups_52 rfl rfl (fun h52 => ?_) (fun h52 => ?_)
      · omega
      · refine G_aload0 56 d_Mod_layGroups_55 rfl ?_
        refine G_getR 59 d_Mod_layGroups_56 rfl f_Mod_94 rfl h.sh h.f40 ?_
        refine G_iload3 60 d_Mod_layGroups_59 rfl ?_
        refine G_iload3 61 d_Mod_layGroups_60 rfl ?_
        refine G_iastore 62 d_Mod_layGroups_61 rfl h.s40 (ix_nI (by omega) (by omega)) ?_
        first | refine G_iincN3 65 d_Mod_layGroups_62 rfl (by decide) rfl ?_ | refine G_iinc3 _ 65 d_Mod_layGroups_62 rfl (by decide) rfl rfl ?_
        refine G_goto 47 d_Mod_layGroups_65 rfl ?_
        refine ih _ (fun c hc => by rw [u2_off _ _ _ hc]; exact h1 c hc) (fun j hj => ?_)
        by_cases e : j = i
        · subst e; exact u2_at _ _ _ _
        · rw [u2_ix _ _ e]; exact h2 j (by omega)
  have cop : ∀ i, i ≤ 7 * Rs.length → ∀ A2 : FT, (∀ c, c ≠ b + 29 → A2 c = AI3 c) → (∀ j, j < i → A2 (b + 29) j = AI3 (b + 22) j) → G V m_Mod_layGroups (d + 4) 16 [some (.ref b), some (.int (nI t)), some (.int (nI n)), some (.int (nI i)), none, none, none] [] X FX A2 AL (fun r X' FI' AI' AL' => r = none ∧ X' = X ∧ AL' = AL ∧ FI' = FX ∧ (∀ c, c < b + 22 ∨ c = b + 27 ∨ b + 29 < c → AI' c = AI c) ∧ rwsG AI' b Rs ∧ ∃ lab, lbk Rs lab ∧ LabG Rs lab ∧ ∀ i, i < Rs.length → AI' (b + 28) i = nI (lab i)) := by
    refine upto ?_ ?_
    · intro A2 h1 h2
      refine G_iload3 17 d_Mod_layGroups_16 rfl ?_
      refine G_bipushN 7 19 d_Mod_layGroups_17 rfl rfl ?_
      refine G_aload0 20 d_Mod_layGroups_19 rfl ?_
      refine G_getIv 23 d_Mod_layGroups_20 rfl f_Mod_301 rfl h.sh f30' ?_
      first | refine G_imulN 24 d_Mod_layGroups_23 rfl ?_ | refine G_imul 24 d_Mod_layGroups_23 rfl ?_
      first | refine G_icgeN 45 27 d_Mod_layGroups_24 rfl rfl (by omega) (by omega) (fun h24 => ?_) (fun h24 => ?_) | refine G_icge 45 27 d_Mod_layGroups_24 rfl rfl (fun h24 => ?_) (fun h24 => ?_)
      · refine G_iconstN 0 46 d_Mod_layGroups_45 rfl rfl ?_
        refine G_istore3 47 d_Mod_layGroups_46 rfl (by decide) rfl ?_
        refine fin A2 h1 (fun j r hj g hg => ?_) none none none rfl rfl 0 (Nat.zero_le _) A2 (fun _ _ => rfl) (fun j hj => by omega)
        have := (List.getElem?_eq_some_iff.mp hj).1
        rw [h2 _ (by omega)]
        exact hN.2 j r hj g hg
      · omega
    · intro i hi ih A2 h1 h2
      have e0 : A2 (b + 22) i = AI3 (b + 22) i := by rw [h1 _ (by omega)]
      refine G_iload3 17 d_Mod_layGroups_16 rfl ?_
      refine G_bipushN 7 19 d_Mod_layGroups_17 rfl rfl ?_
      refine G_aload0 20 d_Mod_layGroups_19 rfl ?_
      refine G_getIv 23 d_Mod_layGroups_20 rfl f_Mod_301 rfl h.sh f30' ?_
      first | refine G_imulN 24 d_Mod_layGroups_23 rfl ?_ | refine G_imul 24 d_Mod_layGroups_23 rfl ?_
      first | refine G_icgeN 45 27 d_Mod_layGroups_24 rfl rfl (by omega) (by omega) (fun h24 => ?_) (fun h24 => ?_) | refine G_icge 45 27 d_Mod_layGroups_24 rfl rfl (fun h24 => ?_) (fun h24 => ?_)
      · omega
      · refine G_aload0 28 d_Mod_layGroups_27 rfl ?_
        refine G_getR 31 d_Mod_layGroups_28 rfl f_Mod_97 rfl h.sh h.f41 ?_
        refine G_iload3 32 d_Mod_layGroups_31 rfl ?_
        refine G_aload0 33 d_Mod_layGroups_32 rfl ?_
        refine G_getR 36 d_Mod_layGroups_33 rfl f_Mod_76 rfl h.sh h.f31 ?_
        refine G_iload3 37 d_Mod_layGroups_36 rfl ?_
        refine G_ialoadv 38 d_Mod_layGroups_37 rfl h.s31 (ix_nI (by omega) (by omega)) e0 ?_
        refine G_iastore 39 d_Mod_layGroups_38 rfl h.s41 (ix_nI (by omega) (by omega)) ?_
        first | refine G_iincN3 42 d_Mod_layGroups_39 rfl (by decide) rfl ?_ | refine G_iinc3 _ 42 d_Mod_layGroups_39 rfl (by decide) rfl rfl ?_
        refine G_goto 16 d_Mod_layGroups_42 rfl ?_
        refine ih _ (fun c hc => by rw [u2_off _ _ _ hc]; exact h1 c hc) (fun j hj => ?_)
        by_cases e : j = i
        · subst e; exact u2_at _ _ _ _
        · rw [u2_ix _ _ e]; exact h2 j (by omega)
  refine G_aload0 7 d_Mod_layGroups_6 rfl ?_
  refine G_aload0 8 d_Mod_layGroups_7 rfl ?_
  refine G_getIv 11 d_Mod_layGroups_8 rfl f_Mod_301 rfl h.sh f30 ?_
  refine G_putI 14 d_Mod_layGroups_11 rfl f_Mod_370 rfl (by intro C T N h; cases h; rfl) h.sh rfl rfl ?_
  refine G_iconstN 0 15 d_Mod_layGroups_14 rfl rfl ?_
  refine G_istore3 16 d_Mod_layGroups_15 rfl (by decide) rfl ?_
  rw [hFx]
  exact cop 0 (Nat.zero_le _) AI3 (fun _ _ => rfl) (fun j hj => by omega)
/-- RELATIONS of one TERM, behind row g -/
noncomputable def hds (Rs : List Nat) : Nat → Nat → List (Nat × Nat)
  | 0, _ => []
  | m + 1, g => (if @decide (isH Rs (g + 1)) (Classical.propDecidable _) = true then [(Rs.getD 0 0, Rs.getD (g + 1) 0)] else []) ++ hds Rs m (g + 1)
noncomputable def prsR (Rs : List Nat) : List (Nat × Nat) := hds Rs (Rs.length - 1) 0
/-- RELATIONS of the last m TERMS of ORDER, of DEGREE d at most -/
noncomputable def rlD (o : Nat) (Ls : List Nat) (d : Nat) : Nat → List (Nat × Nat)
  | 0 => []
  | m + 1 => (if eD (rk o (83 - m)) ≤ d then prsR (RN Ls (rk o (83 - m))) else []) ++ rlD o Ls d m
/-- the reference stands ahead of these RELATIONS -/
def NRs (FI AI : FT) (b o d : Nat) (Ls : List Nat) (L : List (Nat × Nat)) : Prop := ∃ (k g : Nat) (Rs : List Nat), k ≤ 85 ∧ (k = 85 → Rs = []) ∧ g ≤ Rs.length ∧ Rs.length ≤ 120 ∧ FI b 37 = dI k ∧ FI b 38 = nI g ∧ FI b 39 = nI Rs.length ∧ rwsG AI b Rs ∧ (∃ lab, lbk Rs lab ∧ LabG Rs lab ∧ ∀ i, i < Rs.length → AI (b + 28) i = nI (lab i)) ∧ L = hds Rs (Rs.length - (g + 1)) g ++ rlD o Ls d (84 - k)
def nrF (FI FI' AI AI' : FT) (b : Nat) : Prop := (∀ c j, ¬ (c = b ∧ (j = 30 ∨ j = 37 ∨ j = 38 ∨ j = 39)) → FI' c j = FI c j) ∧ (∀ c, c < b + 22 ∨ b + 29 < c → AI' c = AI c) ∧ ∀ j, 14 ≤ j → AI' (b + 27) j = AI (b + 27) j
theorem nrF.rf {FI AI : FT} {b : Nat} : nrF FI FI AI AI b := ⟨fun _ _ _ => rfl, fun _ _ => rfl, fun _ _ => rfl⟩
theorem nrF.tr {FI FI1 FI2 AI AI1 AI2 : FT} {b : Nat} (h : nrF FI FI1 AI AI1 b) (k : nrF FI1 FI2 AI1 AI2 b) : nrF FI FI2 AI AI2 b :=
  ⟨fun c j hc => (k.1 c j hc).trans (h.1 c j hc), fun c hc => (k.2.1 c hc).trans (h.2.1 c hc), fun j hj => (k.2.2 j hj).trans (h.2.2 j hj)⟩
theorem nrF.u {FI AI : FT} {b j : Nat} {v : Int32} (h : j = 30 ∨ j = 37 ∨ j = 38 ∨ j = 39) : nrF FI (u2 FI b j v) AI AI b :=
  ⟨fun c i hc => by
    by_cases e : c = b
    · subst e; exact u2_ix _ _ (fun e2 => hc ⟨rfl, by rw [e2]; exact h⟩)
    · exact u2_ne _ _ _ _ e, fun _ _ => rfl, fun _ _ => rfl⟩
theorem dI_lt84 : ∀ k, k < 85 → ¬ nI 84 ≤ dI k := by decide +kernel
theorem dI_p1 (k : Nat) : dI k + nI 1 = nI k := by
  cases k with
  | zero => decide
  | succ j => rw [dI_s, nI_add]
def nxP (X : XT) (FI AI : FT) (AL : LT) (b o d : Nat) (Ls : List Nat) (L : List (Nat × Nat)) : PT := fun r X' FI' AI' AL' => X' = X ∧ AL' = AL ∧ nrF FI FI' AI AI' b ∧ match L with
  | [] => r = some (.int 0) ∧ NRs FI' AI' b o d Ls []
  | q :: L' => r = some (.int 1) ∧ NRs FI' AI' b o d Ls L' ∧ WRw AI' b 0 q.1 ∧ WRw AI' b 1 q.2
theorem hds_s (Rs : List Nat) (m g : Nat) : hds Rs (m + 1) g = (if @decide (isH Rs (g + 1)) (Classical.propDecidable _) = true then [(Rs.getD 0 0, Rs.getD (g + 1) 0)] else []) ++ hds Rs m (g + 1) := by rw [hds]
theorem hds_y {Rs : List Nat} {m g : Nat} (h : isH Rs (g + 1)) : hds Rs (m + 1) g = (Rs.getD 0 0, Rs.getD (g + 1) 0) :: hds Rs m (g + 1) := by
  rw [hds_s, if_pos (@decide_eq_true _ (Classical.propDecidable _) h)]; rfl
theorem hds_n {Rs : List Nat} {m g : Nat} (h : ¬ isH Rs (g + 1)) : hds Rs (m + 1) g = hds Rs m (g + 1) := by
  rw [hds_s, if_neg (fun e => h (@of_decide_eq_true _ (Classical.propDecidable _) e))]; rfl
theorem MTb.nr {FI FI' AI AI' : FT} {b : Nat} (h : MTb AI b) (hv : nrF FI FI' AI AI' b) : MTb AI' b :=
  ⟨fun s hs => by rw [hv.2.1 _ (by omega), hv.2.1 _ (by omega), hv.2.1 _ (by omega)]; exact h.1 s hs, fun x y z hs => by rw [hv.2.1 _ (by omega)]; exact h.2 x y z hs⟩
theorem s_mNext {V : GV} {d0 b o d n : Nat} {gl : Nat → Nat} {L : List (Nat × Nat)} {X : XT} {FI AI : FT} {AL : LT} (h : MO X b) (hT : MTb AI b) (ho : o < 3) (hrk : ∀ k, k < 84 → AI (b + 7) k = nI (rk o k)) (hd : d ≤ 6) (hn : n ≤ 7) (hG : MGl AI b n gl) (hi : ∀ i j, i < n → j < n → gl i = gl j → i = j) (hS : NRs FI AI b o d (leadL gl n) L) :
    G V m_Mod_nextRelation (d0 + 5) 0 [some (.ref b), some (.int (nI d)), some (.int (nI n))] [] X FI AI AL (nxP X FI AI AL b o d (leadL gl n) L) := by
  have P : ∀ m, m ≤ 85 → ∀ (FJ AJ : FT) (g : Nat) (Rs : List Nat), (m = 0 → Rs = []) → nrF FI FJ AI AJ b → g ≤ Rs.length → Rs.length ≤ 120 → FJ b 37 = dI (85 - m) → FJ b 38 = nI g → FJ b 39 = nI Rs.length → rwsG AJ b Rs → (∃ lab, lbk Rs lab ∧ LabG Rs lab ∧ ∀ i, i < Rs.length → AJ (b + 28) i = nI (lab i)) → L = hds Rs (Rs.length - (g + 1)) g ++ rlD o (leadL gl n) d (84 - (85 - m)) →
      G V m_Mod_nextRelation (d0 + 5) 0 [some (.ref b), some (.int (nI d)), some (.int (nI n))] [] X FJ AJ AL (nxP X FI AI AL b o d (leadL gl n) L) := by
    refine downto ?_ ?_
    · intro _ FJ AJ g Rs hm0 hF hg hl f37 f38 f39 hrw hlab hL
      have hRs := hm0 rfl
      subst hRs
      have f37' : FJ b 37 = nI 84 := f37
      have hz : ∀ g, hds [] (([] : List Nat).length - (g + 1)) g ++ rlD o (leadL gl n) d (84 - 85) = [] := fun g => by rw [show ([] : List Nat).length - (g + 1) = 0 from Nat.zero_sub _]; rfl
      have hL0 : L = [] := hL.trans (hz g)
      refine G_aload0 1 d_Mod_nextRelation_0 rfl ?_
      refine G_getIv 4 d_Mod_nextRelation_1 rfl f_Mod_364 rfl h.sh f37' ?_
      refine G_bipushN 84 6 d_Mod_nextRelation_4 rfl rfl ?_
      first | refine G_icgeN 136 9 d_Mod_nextRelation_6 rfl rfl (by omega) (by omega) (fun h6 => ?_) (fun h6 => ?_) | refine G_icge 136 9 d_Mod_nextRelation_6 rfl rfl (fun h6 => ?_) (fun h6 => ?_)
      · refine G_iconstN 0 137 d_Mod_nextRelation_136 rfl rfl ?_
        refine G_zret d_Mod_nextRelation_137 rfl ?_ ?_
        · first | exact Or.inl rfl | exact Or.inr rfl
        · rw [hL0]
          exact ⟨rfl, rfl, hF, rfl, 85, g, [], by omega, fun _ => rfl, hg, by simp, f37, f38, f39, hrw, hlab, (hz g).symm⟩
      · omega
    · intro m ihm hm FJ0 AJ0 g0 Rs0 hm0 hF0 hg0 hl0 f370 f380 f390 hrw0 hlab0 hL0
      rw [show 85 - (m + 1) = 84 - m by omega] at f370 hL0
      have hk84 : 84 - m < 85 := by omega
      -- a TERM further on
      have I : ∀ g, g ≤ Rs0.length → ∀ FJ : FT, nrF FI FJ AI AJ0 b → FJ b 37 = dI (84 - m) → FJ b 38 = nI g → FJ b 39 = nI Rs0.length → L = hds Rs0 (Rs0.length - (g + 1)) g ++ rlD o (leadL gl n) d (84 - (84 - m)) → G V m_Mod_nextRelation (d0 + 5) 9 [some (.ref b), some (.int (nI d)), some (.int (nI n))] [] X FJ AJ0 AL (nxP X FI AI AL b o d (leadL gl n) L) := by
        have go : ∀ g, Rs0.length ≤ g + 1 → ∀ FJ : FT, nrF FI FJ AI AJ0 b → FJ b 37 = dI (84 - m) → L = hds Rs0 (Rs0.length - (g + 1)) g ++ rlD o (leadL gl n) d (84 - (84 - m)) → G V m_Mod_nextRelation (d0 + 5) 73 [some (.ref b), some (.int (nI d)), some (.int (nI n))] [] X FJ AJ0 AL (nxP X FI AI AL b o d (leadL gl n) L) := by
          intro g hg FJ hF f37 hL
          rw [show Rs0.length - (g + 1) = 0 by omega, hds, List.nil_append] at hL
          have hTJ := hT.nr hF
          have F3 : nrF FI (u2 (u2 (u2 FJ b 37 (nI (84 - m))) b 38 (nI 0)) b 39 (nI 0)) AI AJ0 b := ((hF.tr (nrF.u (by omega))).tr (nrF.u (by omega))).tr (nrF.u (by omega))
          have g37 : u2 (u2 (u2 FJ b 37 (nI (84 - m))) b 38 (nI 0)) b 39 (nI 0) b 37 = nI (84 - m) := by rw [u2_ix _ _ (by omega), u2_ix _ _ (by omega), u2_at]
          have g38 : u2 (u2 (u2 FJ b 37 (nI (84 - m))) b 38 (nI 0)) b 39 (nI 0) b 38 = nI 0 := by rw [u2_ix _ _ (by omega), u2_at]
          have g39 : u2 (u2 (u2 FJ b 37 (nI (84 - m))) b 38 (nI 0)) b 39 (nI 0) b 39 = nI 0 := u2_at _ _ _ _
          have p37 : dI (85 - m) = nI (84 - m) := by rw [show 85 - m = (84 - m) + 1 by omega, dI_s]
          refine G_aload0 74 d_Mod_nextRelation_73 rfl ?_
          refine G_dup 75 d_Mod_nextRelation_74 rfl rfl ?_
          refine G_getIv 78 d_Mod_nextRelation_75 rfl f_Mod_364 rfl h.sh f37 ?_
          refine G_iconstN 1 79 d_Mod_nextRelation_78 rfl rfl ?_
          refine G_iadd 80 d_Mod_nextRelation_79 rfl ?_
          rw [dI_p1]
          refine G_putI 83 d_Mod_nextRelation_80 rfl f_Mod_364 rfl (by intro C T N h; cases h; rfl) h.sh rfl rfl ?_
          refine G_aload0 84 d_Mod_nextRelation_83 rfl ?_
          refine G_iconstN 0 85 d_Mod_nextRelation_84 rfl rfl ?_
          refine G_putI 88 d_Mod_nextRelation_85 rfl f_Mod_367 rfl (by intro C T N h; cases h; rfl) h.sh rfl rfl ?_
          refine G_aload0 89 d_Mod_nextRelation_88 rfl ?_
          refine G_iconstN 0 90 d_Mod_nextRelation_89 rfl rfl ?_
          refine G_putI 93 d_Mod_nextRelation_90 rfl f_Mod_370 rfl (by intro C T N h; cases h; rfl) h.sh rfl rfl ?_
          generalize u2 (u2 (u2 FJ b 37 (nI (84 - m))) b 38 (nI 0)) b 39 (nI 0) = F4 at F3 g37 g38 g39
          have none_ : L = rlD o (leadL gl n) d (84 - (85 - m)) → G V m_Mod_nextRelation (d0 + 5) 0 [some (.ref b), some (.int (nI d)), some (.int (nI n))] [] X F4 AJ0 AL (nxP X FI AI AL b o d (leadL gl n) L) := fun e =>
            ihm (by omega) F4 AJ0 0 [] (fun _ => rfl) F3 (by simp) (by simp) (by rw [g37, p37]) g38 g39 (fun j r hj => by simp at hj) ⟨fun i => i, fun i j r s hi => by simp at hi, fun i hi => by simp at hi, fun i hi => by simp at hi⟩ (by rw [e]; rfl)
          by_cases h84 : 84 ≤ 84 - m
          · refine G_aload0 94 d_Mod_nextRelation_93 rfl ?_
            refine G_getIv 97 d_Mod_nextRelation_94 rfl f_Mod_364 rfl h.sh g37 ?_
            refine G_bipushN 84 99 d_Mod_nextRelation_97 rfl rfl ?_
            first | refine G_icgeN 0 102 d_Mod_nextRelation_99 rfl rfl (by omega) (by omega) (fun h99 => ?_) (fun h99 => ?_) | refine G_icge 0 102 d_Mod_nextRelation_99 rfl rfl (fun h99 => ?_) (fun h99 => ?_)
            · refine none_ ?_
              rw [hL, show 84 - (84 - m) = 0 by omega, show 84 - (85 - m) = 0 by omega]
            · omega
          · have e1 : AJ0 (b + 7) (84 - m) = nI (rk o (84 - m)) := by rw [hF.2.1 _ (by omega)]; exact hrk _ (by omega)
            have e2 := (rk_ok o ho (84 - m) (by omega)).2.2.1
            have e3 := e_le e2
            have hrl : rlD o (leadL gl n) d (84 - (84 - m)) = (if eD (rk o (84 - m)) ≤ d then prsR (RN (leadL gl n) (rk o (84 - m))) else []) ++ rlD o (leadL gl n) d (84 - (85 - m)) := by
              rw [show 84 - (84 - m) = (84 - (85 - m)) + 1 by omega, rlD, show 83 - (84 - (85 - m)) = 84 - m by omega]
            refine G_aload0 94 d_Mod_nextRelation_93 rfl ?_
            refine G_getIv 97 d_Mod_nextRelation_94 rfl f_Mod_364 rfl h.sh g37 ?_
            refine G_bipushN 84 99 d_Mod_nextRelation_97 rfl rfl ?_
            first | refine G_icgeN 0 102 d_Mod_nextRelation_99 rfl rfl (by omega) (by omega) (fun h99 => ?_) (fun h99 => ?_) | refine G_icge 0 102 d_Mod_nextRelation_99 rfl rfl (fun h99 => ?_) (fun h99 => ?_)
            · omega
            · refine G_aload0 103 d_Mod_nextRelation_102 rfl ?_
              refine G_aload0 104 d_Mod_nextRelation_103 rfl ?_
              refine G_getR 107 d_Mod_nextRelation_104 rfl f_Mod_31 rfl h.sh h.f6 ?_
              refine G_aload0 108 d_Mod_nextRelation_107 rfl ?_
              refine G_getIv 111 d_Mod_nextRelation_108 rfl f_Mod_364 rfl h.sh g37 ?_
              refine G_ialoadv 112 d_Mod_nextRelation_111 rfl h.s6 (ix_nI (by omega) (by omega)) e1 ?_
              refine G_invV1d 115 d_Mod_nextRelation_112 rfl e_Mod_147 M_Mod_degreeOf rfl h.sh (Nat.le_of_ble_eq_true rfl) (Nat.le_of_ble_eq_true rfl) rfl (s_mDegreeOf (by assumption) (by assumption) (by omega)) ?_
              refine G_iload1 116 d_Mod_nextRelation_115 rfl ?_
              first | refine G_icgtN 0 119 d_Mod_nextRelation_116 rfl rfl (by omega) (by omega) (fun h116 => ?_) (fun h116 => ?_) | refine G_icgt 0 119 d_Mod_nextRelation_116 rfl rfl (fun h116 => ?_) (fun h116 => ?_)
              · refine none_ ?_
                rw [hL, hrl, if_neg (by omega)]; rfl
              · have hlg := s_mLayGroups (V := V) (d := d0) (t := rk o (84 - m)) (FI := F4) (AL := AL) h hTJ e2 hn (fun i hi => by rw [hF.2.1 _ (by omega)]; exact hG i hi) hi
                have hlen : (RN (leadL gl n) (rk o (84 - m))).length ≤ 120 := by rw [RN, List.length_map]; exact RT_128 hn (fun i hi => (hG i hi).2) hi e2
                refine G_aload0 120 d_Mod_nextRelation_119 rfl ?_
                refine G_aload0 121 d_Mod_nextRelation_120 rfl ?_
                refine G_getR 124 d_Mod_nextRelation_121 rfl f_Mod_31 rfl h.sh h.f6 ?_
                refine G_aload0 125 d_Mod_nextRelation_124 rfl ?_
                refine G_getIv 128 d_Mod_nextRelation_125 rfl f_Mod_364 rfl h.sh g37 ?_
                refine G_ialoadv 129 d_Mod_nextRelation_128 rfl h.s6 (ix_nI (by omega) (by omega)) e1 ?_
                refine G_iload2 130 d_Mod_nextRelation_129 rfl ?_
                refine G_invV2 133 d_Mod_nextRelation_130 rfl e_Mod_376 M_Mod_layGroups rfl h.sh (Nat.le_of_ble_eq_true rfl) (Nat.le_of_ble_eq_true rfl) rfl (G.conseq (hlg) (fun r130 X130 FI130 AI130 AL130 h130 => ?_))
                obtain ⟨q1, q2, q3, q4, q5, q6, q7⟩ := h130
                replace q2 := q2.symm
                replace q3 := q3.symm
                subst q1 q2 q3 q4
                refine G_goto 0 d_Mod_nextRelation_133 rfl ?_
                refine ihm (by omega) _ AI130 0 (RN (leadL gl n) (rk o (84 - m))) (fun e => absurd e (by omega)) ?_ (Nat.zero_le _) hlen ?_ ?_ (u2_at _ _ _ _) q6 q7 ?_
                · exact F3.tr ⟨fun c j hc => by
                    by_cases e : c = b
                    · subst e
                      rw [u2_ix _ _ (fun e2 => hc ⟨rfl, by omega⟩), u2_ix _ _ (fun e2 => hc ⟨rfl, by omega⟩)]
                    · rw [u2_ne _ _ _ _ e, u2_ne _ _ _ _ e], fun c hc => q5 c (by omega), fun j _ => by rw [q5 _ (by omega)]⟩
                · rw [u2_ix _ _ (by omega), u2_ix _ _ (by omega), g37, p37]
                · rw [u2_ix _ _ (by omega), u2_ix _ _ (by omega), g38]
                · rw [hL, hrl, if_pos (by omega)]; rfl
        refine upto ?_ ?_
        · intro FJ hF f37 f38 f39 hL
          refine G_aload0 10 d_Mod_nextRelation_9 rfl ?_
          refine G_getIv 13 d_Mod_nextRelation_10 rfl f_Mod_367 rfl h.sh f38 ?_
          refine G_iconstN 1 14 d_Mod_nextRelation_13 rfl rfl ?_
          first | refine G_iaddN 15 d_Mod_nextRelation_14 rfl ?_ | refine G_iadd 15 d_Mod_nextRelation_14 rfl ?_
          refine G_aload0 16 d_Mod_nextRelation_15 rfl ?_
          refine G_getIv 19 d_Mod_nextRelation_16 rfl f_Mod_370 rfl h.sh f39 ?_
          first | refine G_icgeN 73 22 d_Mod_nextRelation_19 rfl rfl (by omega) (by omega) (fun h19 => ?_) (fun h19 => ?_) | refine G_icge 73 22 d_Mod_nextRelation_19 rfl rfl (fun h19 => ?_) (fun h19 => ?_)
          · exact go _ (by omega) FJ hF f37 hL
          · omega
        · intro g hg ih FJ hF f37 f38 f39 hL
          by_cases hlast : Rs0.length ≤ g + 1
          · refine G_aload0 10 d_Mod_nextRelation_9 rfl ?_
            refine G_getIv 13 d_Mod_nextRelation_10 rfl f_Mod_367 rfl h.sh f38 ?_
            refine G_iconstN 1 14 d_Mod_nextRelation_13 rfl rfl ?_
            first | refine G_iaddN 15 d_Mod_nextRelation_14 rfl ?_ | refine G_iadd 15 d_Mod_nextRelation_14 rfl ?_
            refine G_aload0 16 d_Mod_nextRelation_15 rfl ?_
            refine G_getIv 19 d_Mod_nextRelation_16 rfl f_Mod_370 rfl h.sh f39 ?_
            first | refine G_icgeN 73 22 d_Mod_nextRelation_19 rfl rfl (by omega) (by omega) (fun h19 => ?_) (fun h19 => ?_) | refine G_icge 73 22 d_Mod_nextRelation_19 rfl rfl (fun h19 => ?_) (fun h19 => ?_)
            · exact go _ (by omega) FJ hF f37 hL
            · omega
          · obtain ⟨lab, lb1, lb2, lb3⟩ := hlab0
            have hgl : g + 1 < Rs0.length := by omega
            have a28 := lb3 (g + 1) hgl
            have lle := (lb2 (g + 1) hgl).1
            have h38 : u2 FJ b 38 (nI (g + 1)) b 38 = nI (g + 1) := u2_at _ _ _ _
            have F2 : nrF FI (u2 FJ b 38 (nI (g + 1))) AI AJ0 b := hF.tr (nrF.u (by omega))
            rw [show Rs0.length - (g + 1) = (Rs0.length - (g + 1 + 1)) + 1 by omega] at hL
            refine G_aload0 10 d_Mod_nextRelation_9 rfl ?_
            refine G_getIv 13 d_Mod_nextRelation_10 rfl f_Mod_367 rfl h.sh f38 ?_
            refine G_iconstN 1 14 d_Mod_nextRelation_13 rfl rfl ?_
            first | refine G_iaddN 15 d_Mod_nextRelation_14 rfl ?_ | refine G_iadd 15 d_Mod_nextRelation_14 rfl ?_
            refine G_aload0 16 d_Mod_nextRelation_15 rfl ?_
            refine G_getIv 19 d_Mod_nextRelation_16 rfl f_Mod_370 rfl h.sh f39 ?_
            first | refine G_icgeN 73 22 d_Mod_nextRelation_19 rfl rfl (by omega) (by omega) (fun h19 => ?_) (fun h19 => ?_) | refine G_icge 73 22 d_Mod_nextRelation_19 rfl rfl (fun h19 => ?_) (fun h19 => ?_)
            · omega
            · refine G_aload0 23 d_Mod_nextRelation_22 rfl ?_
              refine G_dup 24 d_Mod_nextRelation_23 rfl rfl ?_
              refine G_getIv 27 d_Mod_nextRelation_24 rfl f_Mod_367 rfl h.sh f38 ?_
              refine G_iconstN 1 28 d_Mod_nextRelation_27 rfl rfl ?_
              first | refine G_iaddN 29 d_Mod_nextRelation_28 rfl ?_ | refine G_iadd 29 d_Mod_nextRelation_28 rfl ?_
              refine G_putI 32 d_Mod_nextRelation_29 rfl f_Mod_367 rfl (by intro C T N h; cases h; rfl) h.sh rfl rfl ?_
              refine G_aload0 33 d_Mod_nextRelation_32 rfl ?_
              refine G_getR 36 d_Mod_nextRelation_33 rfl f_Mod_94 rfl h.sh h.f40 ?_
              refine G_aload0 37 d_Mod_nextRelation_36 rfl ?_
              refine G_getIv 40 d_Mod_nextRelation_37 rfl f_Mod_367 rfl h.sh h38 ?_
              refine G_ialoadv 41 d_Mod_nextRelation_40 rfl h.s40 (ix_nI (by omega) (by omega)) a28 ?_
              refine G_aload0 42 d_Mod_nextRelation_41 rfl ?_
              refine G_getIv 45 d_Mod_nextRelation_42 rfl f_Mod_367 rfl h.sh h38 ?_
              first | refine G_icneN 9 48 d_Mod_nextRelation_45 rfl rfl (by omega) (by omega) (fun h45 => ?_) (fun h45 => ?_) | refine G_icne 9 48 d_Mod_nextRelation_45 rfl rfl (fun h45 => ?_) (fun h45 => ?_)
              · -- not the first of a GROUP
                rw [hds_n (fun e => h45 ((lab_isH lb1 lb2 hgl).mpr e))] at hL
                exact ih _ F2 (by rw [u2_ix _ _ (by omega)]; exact f37) h38 (by rw [u2_ix _ _ (by omega)]; exact f39) hL
              · rw [hds_y ((lab_isH lb1 lb2 hgl).mp h45)] at hL
                obtain ⟨r0, hr0⟩ : ∃ r, Rs0[0]? = some r := ⟨Rs0[0], List.getElem?_eq_getElem (by omega)⟩
                obtain ⟨r1, hr1⟩ : ∃ r, Rs0[g + 1]? = some r := ⟨Rs0[g + 1], List.getElem?_eq_getElem hgl⟩
                have gd0 : Rs0.getD 0 0 = r0 := by rw [List.getD_eq_getElem?_getD, hr0]; rfl
                have gd1 : Rs0.getD (g + 1) 0 = r1 := by rw [List.getD_eq_getElem?_getD, hr1]; rfl
                have t0 := s_mTakeRow (V := V) (d := d0 + 4) (c := b + 29) (n := 896) (i := 0) (w := 0) (FI := u2 FJ b 38 (nI (g + 1))) (AI := AJ0) (AL := AL) h h.s41 (by omega) (by omega) (by omega) (by omega)
                generalize hA1 : sr AJ0 (b + 27) (fun j => if 7 * 0 ≤ j ∧ j < 7 * 0 + 7 then AJ0 (b + 29) (7 * 0 + (j - 7 * 0)) else AJ0 (b + 27) j) = A1 at t0
                have t1 := s_mTakeRow (V := V) (d := d0 + 4) (c := b + 29) (n := 896) (i := g + 1) (w := 1) (FI := u2 FJ b 38 (nI (g + 1))) (AI := A1) (AL := AL) h h.s41 (by omega) (by omega) (by omega) (by omega)
                generalize hA2 : sr A1 (b + 27) (fun j => if 7 * 1 ≤ j ∧ j < 7 * 1 + 7 then A1 (b + 29) (7 * (g + 1) + (j - 7 * 1)) else A1 (b + 27) j) = A2 at t1
                have o1 : ∀ c, c ≠ b + 27 → A1 c = AJ0 c := fun c hc => by rw [← hA1]; exact sr_ne _ _ hc
                have o2 : ∀ c, c ≠ b + 27 → A2 c = AJ0 c := fun c hc => by rw [← hA2, sr_ne _ _ hc]; exact o1 c hc
                refine G_aload0 49 d_Mod_nextRelation_48 rfl ?_
                refine G_aload0 50 d_Mod_nextRelation_49 rfl ?_
                refine G_getR 53 d_Mod_nextRelation_50 rfl f_Mod_97 rfl h.sh h.f41 ?_
                refine G_iconstN 0 54 d_Mod_nextRelation_53 rfl rfl ?_
                refine G_iconstN 0 55 d_Mod_nextRelation_54 rfl rfl ?_
                refine G_invV3v 58 d_Mod_nextRelation_55 rfl e_Mod_334 M_Mod_takeRow rfl h.sh (Nat.le_of_ble_eq_true rfl) (Nat.le_of_ble_eq_true rfl) rfl (t0) ?_
                refine G_aload0 59 d_Mod_nextRelation_58 rfl ?_
                refine G_aload0 60 d_Mod_nextRelation_59 rfl ?_
                refine G_getR 63 d_Mod_nextRelation_60 rfl f_Mod_97 rfl h.sh h.f41 ?_
                refine G_aload0 64 d_Mod_nextRelation_63 rfl ?_
                refine G_getIv 67 d_Mod_nextRelation_64 rfl f_Mod_367 rfl h.sh h38 ?_
                refine G_iconstN 1 68 d_Mod_nextRelation_67 rfl rfl ?_
                refine G_invV3v 71 d_Mod_nextRelation_68 rfl e_Mod_334 M_Mod_takeRow rfl h.sh (Nat.le_of_ble_eq_true rfl) (Nat.le_of_ble_eq_true rfl) rfl (t1) ?_
                refine G_iconstN 1 72 d_Mod_nextRelation_71 rfl rfl ?_
                refine G_zret d_Mod_nextRelation_72 rfl ?_ ?_
                · first | exact Or.inl rfl | exact Or.inr rfl
                · rw [hL]
                  refine ⟨rfl, rfl, F2.tr ⟨fun _ _ _ => rfl, fun c hc => o2 c (by omega), fun j hj => ?_⟩, rfl, ⟨84 - m, g + 1, Rs0, by omega, fun e => absurd e (by omega), by omega, hl0, by rw [u2_ix _ _ (by omega)]; exact f37, h38, by rw [u2_ix _ _ (by omega)]; exact f39, fun j r hj f hf => by rw [o2 _ (by omega)]; exact hrw0 j r hj f hf, ⟨lab, lb1, lb2, fun i hi => by rw [o2 _ (by omega)]; exact lb3 i hi⟩, rfl⟩, fun f hf => ?_, fun f hf => ?_⟩
                  · rw [← hA2, sr_at, if_neg (by omega), ← hA1, sr_at, if_neg (by omega)]
                  · show A2 (b + 27) (7 * 0 + f) = nI (pw (Rs0.getD 0 0) f)
                    rw [gd0, ← hA2, sr_at, if_neg (by omega), ← hA1, sr_at, if_pos (by omega), show 7 * 0 + (7 * 0 + f - 7 * 0) = 7 * 0 + f by omega]
                    exact hrw0 0 r0 hr0 f hf
                  · show A2 (b + 27) (7 * 1 + f) = nI (pw (Rs0.getD (g + 1) 0) f)
                    rw [gd1, ← hA2, sr_at, if_pos (by omega), o1 _ (by omega), show 7 * 1 + f - 7 * 1 = f by omega]
                    exact hrw0 (g + 1) r1 hr1 f hf
      refine G_aload0 1 d_Mod_nextRelation_0 rfl ?_
      refine G_getIv 4 d_Mod_nextRelation_1 rfl f_Mod_364 rfl h.sh f370 ?_
      refine G_bipushN 84 6 d_Mod_nextRelation_4 rfl rfl ?_
      first | refine G_icgeN 136 9 d_Mod_nextRelation_6 rfl rfl (by omega) (by omega) (fun h6 => ?_) (fun h6 => ?_) | refine G_icge 136 9 d_Mod_nextRelation_6 rfl rfl (fun h6 => ?_) (fun h6 => ?_)
      · exact absurd h6 (dI_lt84 _ hk84)
      · exact I g0 hg0 FJ0 hF0 f370 f380 f390 hL0
  obtain ⟨k, g, Rs, k85, kR, hg, hl, f37, f38, f39, hrw, hlab, hL⟩ := hS
  exact P (85 - k) (by omega) FI AI g Rs (fun e => kR (by omega)) nrF.rf hg hl (by rw [show 85 - (85 - k) = k by omega]; exact f37) f38 f39 hrw hlab (by rw [show 85 - (85 - k) = k by omega]; exact hL)
