/-! ===== the reference: a RELATION by its number, DIFFERENCE ===== -/
theorem hds_len (Rs : List Nat) : ∀ m g, (hds Rs m g).length ≤ m
  | 0, g => by rw [hds]; exact Nat.le_refl _
  | m + 1, g => by
    have := hds_len Rs m (g + 1)
    by_cases e : isH Rs (g + 1)
    · rw [hds_y e, List.length_cons]; omega
    · rw [hds_n e]; omega
theorem rlD_len {o d : Nat} {Ls : List Nat} (ho : o < 3) (h : ∀ t, t < 84 → (RN Ls t).length ≤ 120) : ∀ m, m ≤ 84 → (rlD o Ls d m).length ≤ 120 * m
  | 0, _ => by rw [rlD]; exact Nat.le_refl _
  | m + 1, hm => by
    have h1 := rlD_len (d := d) ho h m (by omega)
    have h2 := h _ (rk_ok o ho (83 - m) (by omega)).2.2.1
    have h3 := hds_len (RN Ls (rk o (83 - m))) ((RN Ls (rk o (83 - m))).length - 1) 0
    rw [rlD, List.length_append]
    split
    · unfold prsR; omega
    · rw [List.length_nil]; omega
theorem s_mBegin {V : GV} {d0 b o d : Nat} {Ls : List Nat} {X : XT} {FI AI : FT} {AL : LT} (h : MO X b) : G V m_Mod_beginRelations d0 0 [some (.ref b)] [] X FI AI AL (fun r X' FI' AI' AL' => r = none ∧ X' = X ∧ AI' = AI ∧ AL' = AL ∧ nrF FI FI' AI AI b ∧ NRs FI' AI b o d Ls (rlD o Ls d 84)) := by
  refine G_aload0 1 d_Mod_beginRelations_0 rfl ?_
  refine G_iconst (-1) 2 d_Mod_beginRelations_1 rfl rfl ?_
  refine G_putI 5 d_Mod_beginRelations_2 rfl f_Mod_364 rfl (by intro C T N h; cases h; rfl) h.sh rfl rfl ?_
  refine G_aload0 6 d_Mod_beginRelations_5 rfl ?_
  refine G_iconstN 0 7 d_Mod_beginRelations_6 rfl rfl ?_
  refine G_putI 10 d_Mod_beginRelations_7 rfl f_Mod_367 rfl (by intro C T N h; cases h; rfl) h.sh rfl rfl ?_
  refine G_aload0 11 d_Mod_beginRelations_10 rfl ?_
  refine G_iconstN 0 12 d_Mod_beginRelations_11 rfl rfl ?_
  refine G_putI 15 d_Mod_beginRelations_12 rfl f_Mod_370 rfl (by intro C T N h; cases h; rfl) h.sh rfl rfl ?_
  refine G_vret d_Mod_beginRelations_15 rfl ?_
  refine ⟨rfl, rfl, rfl, rfl, ((nrF.u (by omega)).tr (nrF.u (by omega))).tr (nrF.u (by omega)), 0, 0, [], by omega, fun e => absurd e (by omega), by simp, by simp, ?_, ?_, u2_at _ _ _ _, fun j r hj => by simp at hj, ⟨fun i => i, fun i j r s hi => by simp at hi, fun i hi => by simp at hi, fun i hi => by simp at hi⟩, rfl⟩
  · rw [u2_ix _ _ (by omega), u2_ix _ _ (by omega), u2_at]; rfl
  · rw [u2_ix _ _ (by omega), u2_at]
theorem MGl.nr {FI FI' AI AI' : FT} {b n : Nat} {gl : Nat → Nat} (h : MGl AI b n gl) (hv : nrF FI FI' AI AI' b) : MGl AI' b n gl := fun i hi => by rw [hv.2.1 _ (by omega)]; exact h i hi
theorem s_mIsRelation {V : GV} {d0 b o d n : Nat} {x : Int32} {gl : Nat → Nat} {X : XT} {FI AI : FT} {AL : LT} (h : MO X b) (hT : MTb AI b) (ho : o < 3) (hrk : ∀ k, k < 84 → AI (b + 7) k = nI (rk o k)) (hd : d ≤ 6) (hn0 : FI b 9 = nI n) (hn : n ≤ 7) (hG : MGl AI b n gl) (hi : ∀ i j, i < n → j < n → gl i = gl j → i = j) :
    G V m_Mod_isRelation (d0 + 6) 0 [some (.ref b), some (.int (nI d)), some (.int x), none, none] [] X FI AI AL (fun r X' FI' AI' AL' => X' = X ∧ AL' = AL ∧ nrF FI FI' AI AI' b ∧ ((∃ (j : Nat) (q : Nat × Nat), x = nI j ∧ j < 2 ^ 31 ∧ (rlD o (leadL gl n) d 84)[j]? = some q ∧ r = some (.int 1) ∧ WRw AI' b 0 q.1 ∧ WRw AI' b 1 q.2) ∨ (r = some (.int 0) ∧ ∀ j : Nat, j < 2 ^ 31 → x = nI j → (rlD o (leadL gl n) d 84)[j]? = none))) := by
  have hb := s_mBegin (V := V) (d0 := d0 + 5) (o := o) (d := d) (Ls := leadL gl n) (FI := FI) (AI := AI) (AL := AL) h
  have hLn := rlD_len (o := o) (d := d) (Ls := leadL gl n) ho (fun t ht => by rw [RN, List.length_map]; exact RT_128 hn (fun i hi => (hG i hi).2) hi ht) 84 (Nat.le_refl _)
  generalize hLL : rlD o (leadL gl n) d 84 = LL at hb hLn
  refine G_aload0 1 d_Mod_isRelation_0 rfl ?_
  refine G_invV0 4 d_Mod_isRelation_1 rfl e_Mod_379 M_Mod_beginRelations rfl h.sh (Nat.le_of_ble_eq_true rfl) (Nat.le_of_ble_eq_true rfl) rfl (G.conseq (hb) (fun r1 X1 FI1 AI1 AL1 h1 => ?_))
  obtain ⟨q1, q2, q3, q4, q5, q6⟩ := h1
  replace q2 := q2.symm
  replace q3 := q3.symm
  replace q4 := q4.symm
  subst q1 q2 q3 q4
  refine G_iload2 5 d_Mod_isRelation_4 rfl ?_
  first | refine G_ifltD 12 8 d_Mod_isRelation_5 rfl rfl (by omega) (fun h5 => ?_) (fun j h5 => ?_) | refine G_iflt 12 8 d_Mod_isRelation_5 rfl rfl (fun h5 => ?_) (fun h5 => ?_)
  · -- below 0
    rw [lt0_iff] at h5
    refine G_iconstN 0 13 d_Mod_isRelation_12 rfl rfl ?_
    refine G_istore3 14 d_Mod_isRelation_13 rfl (by decide) rfl ?_
    refine G_iconstN 0 15 d_Mod_isRelation_14 rfl rfl ?_
    refine G_istore4 17 d_Mod_isRelation_15 rfl (by decide) rfl ?_
    refine G_iload4 19 d_Mod_isRelation_17 rfl ?_
    refine G_iload2 20 d_Mod_isRelation_19 rfl ?_
    refine G_icgt 43 23 d_Mod_isRelation_20 rfl rfl (fun h20 => ?_) (fun h20 => ?_)
    · refine G_iload3 44 d_Mod_isRelation_43 rfl ?_
      refine G_zret d_Mod_isRelation_44 rfl ?_ ?_
      · exact Or.inl rfl
      · exact ⟨rfl, rfl, q5, Or.inr ⟨rfl, fun j hj e => by rw [e, nI_toInt hj] at h5; omega⟩⟩
    · refine G_iload3 24 d_Mod_isRelation_23 rfl ?_
      refine G_ifeq 43 27 d_Mod_isRelation_24 rfl rfl (fun h24 => ?_) (fun h24 => ?_)
      · refine G_iload3 44 d_Mod_isRelation_43 rfl ?_
        refine G_zret d_Mod_isRelation_44 rfl ?_ ?_
        · exact Or.inl rfl
        · exact ⟨rfl, rfl, q5, Or.inr ⟨rfl, fun j hj e => by rw [e, nI_toInt hj] at h5; omega⟩⟩
      · exact absurd rfl h24
  · obtain ⟨xn, hx1, rfl⟩ := nI_of h5
    have hxl : ∀ (P : Nat → Prop), P xn → ∀ j : Nat, j < 2 ^ 31 → nI xn = nI j → P j := fun P hp j hj e => by
      have := (nI_eq hx1 hj).mp e
      rw [← this]; exact hp
    -- the loop: k have been told
    have L0 : ∀ (FJ AJ : FT) (k : Nat), k ≤ xn + 1 → nrF FI FJ AI AJ b → LL[xn]? = none → G V m_Mod_isRelation (d0 + 6) 17 [some (.ref b), some (.int (nI d)), some (.int (nI xn)), some (.int 0), some (.int (nI k))] [] X FJ AJ AL (fun r X' FI' AI' AL' => X' = X ∧ AL' = AL ∧ nrF FI FI' AI AI' b ∧ ((∃ (j : Nat) (q : Nat × Nat), nI xn = nI j ∧ j < 2 ^ 31 ∧ LL[j]? = some q ∧ r = some (.int 1) ∧ WRw AI' b 0 q.1 ∧ WRw AI' b 1 q.2) ∨ (r = some (.int 0) ∧ ∀ j : Nat, j < 2 ^ 31 → nI xn = nI j → LL[j]? = none))) := by
      intro FJ AJ k hk hF hno
      refine G_iload4 19 d_Mod_isRelation_17 rfl ?_
      refine G_iload2 20 d_Mod_isRelation_19 rfl ?_
      refine G_icgt 43 23 d_Mod_isRelation_20 rfl rfl (fun h20 => ?_) (fun h20 => ?_)
      · refine G_iload3 44 d_Mod_isRelation_43 rfl ?_
        refine G_zret d_Mod_isRelation_44 rfl ?_ ?_
        · exact Or.inl rfl
        · exact ⟨rfl, rfl, hF, Or.inr ⟨rfl, hxl (fun j => LL[j]? = none) hno⟩⟩
      · refine G_iload3 24 d_Mod_isRelation_23 rfl ?_
        refine G_ifeq 43 27 d_Mod_isRelation_24 rfl rfl (fun h24 => ?_) (fun h24 => ?_)
        · refine G_iload3 44 d_Mod_isRelation_43 rfl ?_
          refine G_zret d_Mod_isRelation_44 rfl ?_ ?_
          · exact Or.inl rfl
          · exact ⟨rfl, rfl, hF, Or.inr ⟨rfl, hxl (fun j => LL[j]? = none) hno⟩⟩
        · exact absurd rfl h24
    have L : ∀ k, k ≤ xn + 1 → ∀ (FJ AJ : FT), nrF FI FJ AI AJ b → NRs FJ AJ b o d (leadL gl n) (LL.drop k) → (k = 0 ∨ ∃ q, LL[k - 1]? = some q ∧ WRw AJ b 0 q.1 ∧ WRw AJ b 1 q.2) → G V m_Mod_isRelation (d0 + 6) 17 [some (.ref b), some (.int (nI d)), some (.int (nI xn)), some (.int 1), some (.int (nI k))] [] X FJ AJ AL (fun r X' FI' AI' AL' => X' = X ∧ AL' = AL ∧ nrF FI FI' AI AI' b ∧ ((∃ (j : Nat) (q : Nat × Nat), nI xn = nI j ∧ j < 2 ^ 31 ∧ LL[j]? = some q ∧ r = some (.int 1) ∧ WRw AI' b 0 q.1 ∧ WRw AI' b 1 q.2) ∨ (r = some (.int 0) ∧ ∀ j : Nat, j < 2 ^ 31 → nI xn = nI j → LL[j]? = none))) := by
      refine upto ?_ ?_
      · intro FJ AJ hF hS hq
        have hq2 : ∃ q, LL[xn]? = some q ∧ WRw AJ b 0 q.1 ∧ WRw AJ b 1 q.2 := by
          rcases hq with e | e
          · omega
          · exact e
        obtain ⟨q, z1, z2, z3⟩ := hq2
        refine G_iload4 19 d_Mod_isRelation_17 rfl ?_
        refine G_iload2 20 d_Mod_isRelation_19 rfl ?_
        refine G_icgt 43 23 d_Mod_isRelation_20 rfl rfl (fun h20 => ?_) (fun h20 => ?_)
        · refine G_iload3 44 d_Mod_isRelation_43 rfl ?_
          refine G_zret d_Mod_isRelation_44 rfl ?_ ?_
          · exact Or.inr rfl
          · exact ⟨rfl, rfl, hF, Or.inl ⟨xn, q, rfl, hx1, z1, rfl, z2, z3⟩⟩
        · exfalso
          apply h20
          have hp : nI (xn + 1) = nI xn + 1 := nI_succ xn
          by_cases hov : xn + 1 < 2 ^ 31
          · exact nI_lt (by omega) hov
          · exfalso
            have := (List.getElem?_eq_some_iff.mp z1).1
            omega
      · intro k hk ih FJ AJ hF hS hq
        have hnx := s_mNext (V := V) (d0 := d0) (FI := FJ) (AL := AL) h (hT.nr hF) ho (fun j hj => by rw [hF.2.1 _ (by omega)]; exact hrk j hj) hd hn (hG.nr hF) hi hS
        have fn : FJ b 9 = nI n := by rw [hF.1 b 9 (by omega)]; exact hn0
        refine G_iload4 19 d_Mod_isRelation_17 rfl ?_
        refine G_iload2 20 d_Mod_isRelation_19 rfl ?_
        first | refine G_icgtN 43 23 d_Mod_isRelation_20 rfl rfl (by omega) (by omega) (fun h20 => ?_) (fun h20 => ?_) | refine G_icgt 43 23 d_Mod_isRelation_20 rfl rfl (fun h20 => ?_) (fun h20 => ?_)
        · omega
        · refine G_iload3 24 d_Mod_isRelation_23 rfl ?_
          refine G_ifeq 43 27 d_Mod_isRelation_24 rfl rfl (fun h24 => ?_) (fun h24 => ?_)
          · exact absurd h24 (by decide)
          · refine G_aload0 28 d_Mod_isRelation_27 rfl ?_
            refine G_iload1 29 d_Mod_isRelation_28 rfl ?_
            refine G_aload0 30 d_Mod_isRelation_29 rfl ?_
            refine G_getIv 33 d_Mod_isRelation_30 rfl f_Mod_133 rfl h.sh fn ?_
            refine G_invV2 36 d_Mod_isRelation_33 rfl e_Mod_382 M_Mod_nextRelation rfl h.sh (Nat.le_of_ble_eq_true rfl) (Nat.le_of_ble_eq_true rfl) rfl (G.conseq (hnx) (fun r33 X33 FI33 AI33 AL33 h33 => ?_))
            obtain ⟨p1, p2, p3, p4⟩ := h33
            replace p1 := p1.symm
            replace p2 := p2.symm
            subst p1 p2
            have hF2 := hF.tr p3
            cases hdr : LL.drop k with
            | nil =>
              rw [hdr] at p4
              obtain ⟨rfl, p5⟩ := p4
              have hlen : LL.length ≤ k := List.drop_eq_nil_iff.mp hdr
              refine G_istore3 37 d_Mod_isRelation_36 rfl (by decide) rfl ?_
              first | refine G_iincN4 40 d_Mod_isRelation_37 rfl (by decide) rfl ?_ | refine G_iinc4 _ 40 d_Mod_isRelation_37 rfl (by decide) rfl rfl ?_
              refine G_goto 17 d_Mod_isRelation_40 rfl ?_
              exact L0 _ _ _ (by omega) hF2 (List.getElem?_eq_none (by omega))
            | cons q L' =>
              rw [hdr] at p4
              obtain ⟨rfl, p5, p6, p7⟩ := p4
              have hk' : LL[k]? = some q := by
                have := congrArg (fun l => l[0]?) hdr
                simpa using this
              have hd' : LL.drop (k + 1) = L' := by
                have := congrArg List.tail hdr
                simpa [List.tail_drop] using this
              refine G_istore3 37 d_Mod_isRelation_36 rfl (by decide) rfl ?_
              first | refine G_iincN4 40 d_Mod_isRelation_37 rfl (by decide) rfl ?_ | refine G_iinc4 _ 40 d_Mod_isRelation_37 rfl (by decide) rfl rfl ?_
              refine G_goto 17 d_Mod_isRelation_40 rfl ?_
              exact ih _ _ hF2 (by rw [hd']; exact p5) (Or.inr ⟨q, by rw [Nat.add_sub_cancel]; exact hk', p6, p7⟩)
    refine G_iconstN 1 9 d_Mod_isRelation_8 rfl rfl ?_
    refine G_goto 13 d_Mod_isRelation_9 rfl ?_
    refine G_istore3 14 d_Mod_isRelation_13 rfl (by decide) rfl ?_
    refine G_iconstN 0 15 d_Mod_isRelation_14 rfl rfl ?_
    refine G_istore4 17 d_Mod_isRelation_15 rfl (by decide) rfl ?_
    exact L 0 (by omega) FI1 AI q5 (by rw [List.drop_zero]; exact q6) (Or.inl rfl)
/-- DIFFERENCE of two ROWS; none: it is WIDE -/
def difP (n : Nat) (gp : Nat → Nat → Int64) (l r : Nat) : Option (Nat → Int64) := if sumA (cost (fun g => norm (gp g)) (pw l) n) (cost (fun g => norm (gp g)) (pw r) n) < 0 then none else some (addP (prodP gp (pw l) n) (prodP gp (pw r) n) (-1))
def dfF (AL AL' : LT) (b : Nat) : Prop := (∀ c, c ≠ b + 1 → AL' c = AL c) ∧ ∀ p, p < 20 → p ≠ 13 → p ≠ 14 → p ≠ 15 → p ≠ 18 → mp AL' b p = mp AL b p
theorem s_mDifference {V : GV} {d b o n w v l r : Nat} {gl : Nat → Nat} {gp : Nat → Nat → Int64} {X : XT} {FI AI : FT} {AL : LT} (h : MO X b) (hG : MGn FI AI AL b o n gl gp) (hw : w < 5) (hv : v < 5) (h1 : WRw AI b w l) (h2 : WRw AI b v r) (hl : rdeg gl l n ≤ 6) (hr : rdeg gl r n ≤ 6) :
    G V m_Mod_layDifference (d + 4) 0 [some (.ref b), some (.int (nI w)), some (.int (nI v))] [] X FI AI AL (fun q X' FI' AI' AL' => X' = X ∧ FI' = FI ∧ AI' = AI ∧ dfF AL AL' b ∧ match difP n gp l r with
      | none => q = some (.int 0)
      | some f => q = some (.int 1) ∧ mp AL' b 18 = f) := by
  obtain ⟨hT, hn, hn7, hgl, hgp, ho, hrk⟩ := hG
  have hcg : ∀ z, cost (fun g => norm (mp AL b (6 + g))) (pw z) n = cost (fun g => norm (gp g)) (pw z) n := fun z => cost_congr (fun i hi => by rw [(hgp i hi).1]) (fun _ _ => rfl)
  have c1 := s_mCost (V := V) (d := d + 1) (w := w) (P := pw l) (AL := AL) h hn hn7 hw (fun g hg => ⟨h1 g (by omega), pw_lt _ _⟩)
  have c2 := s_mCost (V := V) (d := d + 1) (w := v) (P := pw r) (AL := AL) h hn hn7 hv (fun g hg => ⟨h2 g (by omega), pw_lt _ _⟩)
  rw [hcg] at c1 c2
  have p1 := s_mProduct (V := V) (d := d) (p := 18) (w := w) (r := l) (gl := gl) (AL := AL) h hT hn hn7 hw (fun g hg => h1 g (by omega)) (by omega) (by omega) (by omega) (fun g hg => by rw [(hgp g hg).1]; exact (hgp g hg).2) hl
  rw [prodP_cu2 n (ps' := gp) (P' := pw l) (fun i hi => by rw [(hgp i hi).1]) (fun _ _ => rfl)] at p1
  unfold difP
  refine G_aload0 1 d_Mod_layDifference_0 rfl ?_
  refine G_iload1 2 d_Mod_layDifference_1 rfl ?_
  refine G_invV1d 5 d_Mod_layDifference_2 rfl e_Mod_338 M_Mod_costOf rfl h.sh (Nat.le_of_ble_eq_true rfl) (Nat.le_of_ble_eq_true rfl) rfl (c1) ?_
  refine G_aload0 6 d_Mod_layDifference_5 rfl ?_
  refine G_iload2 7 d_Mod_layDifference_6 rfl ?_
  refine G_invV1d 10 d_Mod_layDifference_7 rfl e_Mod_338 M_Mod_costOf rfl h.sh (Nat.le_of_ble_eq_true rfl) (Nat.le_of_ble_eq_true rfl) rfl (c2) ?_
  refine G_invS2d 13 d_Mod_layDifference_10 rfl e_Mod_198 M_Mod_plusUp (Nat.le_of_ble_eq_true rfl) (Nat.le_of_ble_eq_true rfl) rfl (s_mPlusUp) ?_
  refine G_lconst 0 14 d_Mod_layDifference_13 rfl rfl ?_
  refine G_lcge 20 18 d_Mod_layDifference_14 d_Mod_layDifference_15 rfl rfl (fun h14 => ?_) (fun h14 => ?_)
  · have hlt : ¬ sumA (cost (fun g => norm (gp g)) (pw l) n) (cost (fun g => norm (gp g)) (pw r) n) < 0 := h14
    rw [if_neg hlt]
    refine G_aload0 21 d_Mod_layDifference_20 rfl ?_
    refine G_iload1 22 d_Mod_layDifference_21 rfl ?_
    refine G_bipushN 18 24 d_Mod_layDifference_22 rfl rfl ?_
    refine G_invV2 27 d_Mod_layDifference_24 rfl e_Mod_341 M_Mod_productTo rfl h.sh (Nat.le_of_ble_eq_true rfl) (Nat.le_of_ble_eq_true rfl) rfl (G.conseq (p1) (fun r24 X24 FI24 AI24 AL24 h24 => ?_))
    obtain ⟨a1, a2, a3, a4, a5, a6⟩ := h24
    replace a2 := a2.symm
    replace a3 := a3.symm
    replace a4 := a4.symm
    subst a1 a2 a3 a4
    have hg24 : ∀ g, g < n → mp AL24 b (6 + g) = gp g := fun g hg => by rw [a5.2 _ (by omega) (by omega)]; exact (hgp g hg).1
    have p2 := s_mProduct (V := V) (d := d) (p := 13) (w := v) (r := r) (gl := gl) (AL := AL24) h hT hn hn7 hv (fun g hg => h2 g (by omega)) (by omega) (by omega) (by omega) (fun g hg => by rw [hg24 g hg]; exact (hgp g hg).2) hr
    rw [prodP_cu2 n (ps' := gp) (P' := pw r) (fun i hi => by rw [hg24 i hi]) (fun _ _ => rfl)] at p2
    refine G_aload0 28 d_Mod_layDifference_27 rfl ?_
    refine G_iload2 29 d_Mod_layDifference_28 rfl ?_
    refine G_bipushN 13 31 d_Mod_layDifference_29 rfl rfl ?_
    refine G_invV2 34 d_Mod_layDifference_31 rfl e_Mod_341 M_Mod_productTo rfl h.sh (Nat.le_of_ble_eq_true rfl) (Nat.le_of_ble_eq_true rfl) rfl (G.conseq (p2) (fun r31 X31 FI31 AI31 AL31 h31 => ?_))
    obtain ⟨b1, b2, b3, b4, b5, b6⟩ := h31
    replace b2 := b2.symm
    replace b3 := b3.symm
    replace b4 := b4.symm
    subst b1 b2 b3 b4
    have m18 : mp AL31 b 18 = prodP gp (pw l) n := by rw [b5.2 18 (by omega) (by omega)]; exact a6
    refine G_aload0 35 d_Mod_layDifference_34 rfl ?_
    refine G_bipushN 18 37 d_Mod_layDifference_35 rfl rfl ?_
    refine G_bipushN 13 39 d_Mod_layDifference_37 rfl rfl ?_
    refine G_ldc2 42 d_Mod_layDifference_39 rfl k_Mod_145 ?_
    refine G_invV3v 45 d_Mod_layDifference_42 rfl e_Mod_212 M_Mod_addTo rfl h.sh (Nat.le_of_ble_eq_true rfl) (Nat.le_of_ble_eq_true rfl) rfl (s_mAdd (by assumption) (by omega) (by omega)) ?_
    refine G_iconstN 1 46 d_Mod_layDifference_45 rfl rfl ?_
    refine G_zret d_Mod_layDifference_46 rfl ?_ ?_
    · first | exact Or.inl rfl | exact Or.inr rfl
    · refine ⟨rfl, rfl, rfl, ⟨fun c hc => by rw [sp_off hc, b5.1 c hc, a5.1 c hc], fun p q1 q2 q3 q4 q5 => by rw [mp_spn q5, b5.2 p q1 (by omega), a5.2 p q1 (by omega)]⟩, rfl, ?_⟩
      rw [mp_sp, m18, b6]
      have := cu_addP (prodP gp (pw l) n) (prodP gp (pw r) n) (-1)
      rw [prodP_cu, prodP_cu] at this
      exact this
  · have hlt : sumA (cost (fun g => norm (gp g)) (pw l) n) (cost (fun g => norm (gp g)) (pw r) n) < 0 := h14
    rw [if_pos hlt]
    refine G_iconstN 0 19 d_Mod_layDifference_18 rfl rfl ?_
    refine G_zret d_Mod_layDifference_19 rfl ?_ ?_
    · first | exact Or.inl rfl | exact Or.inr rfl
    · exact ⟨rfl, rfl, rfl, ⟨fun _ _ => rfl, fun _ _ _ _ _ _ => rfl⟩, rfl⟩
