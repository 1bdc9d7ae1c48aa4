/-! ===== the class: rank, lattice, span, index ===== -/
def cgB (S : ST) : LM := cgF (tG S)
def gRank (S : ST) (x : Int32) : Int32 × ST := if bN x 2 = true then (nI (if ni x = 0 then pvc (cgB S) 3 7 else pvc (cgB S) 0 3), S) else (-1, S)
def gLattice (S : ST) (x y : Int32) : Int64 × ST := if (bN y (gN (tG S)) && bN x (pvc (cgB S) 3 7)) = true then (cgB S (pcl (cgB S) (ni x) 7 3 0) (3 + ni y), S) else (NOl, S)
def gSpan (S : ST) (x y : Int32) : Int64 × ST := if (bN y 3 && bN x (pvc (cgB S) 0 3)) = true then (cgB S (pcl (cgB S) (ni x) 10 0 0) (ni y), S) else (NOl, S)
def gIndex (S : ST) : Int64 × ST := (cgB S 0 0 * cgB S 1 1 * cgB S 2 2, S)
theorem pvc_le (B : LM) (f : Nat) : ∀ k, pvc B f k ≤ k
  | 0 => Nat.le_refl _
  | k + 1 => by
    have := pvc_le B f k
    rw [pvc]
    split <;> omega
theorem s_gridR {V : GV} {d lo C E : Nat} {S : ST} {X : XT} {FI AI : FT} {AL : LT} (h : CO X lo) (hI : CIv C E S X FI AI AL lo) (hW : WS S) : G V m_Alg_gridNow (d + 3) 0 [some (.ref lo)] [] X FI AI AL (fun r X' FI' AI' AL' => r = some (.ref (lo + 41)) ∧ X' = X ∧ AI' = AI ∧ CIv C E S X FI' AI AL' lo ∧ cF X X FI FI' AI AI AL AL' lo ∧ LBo AL' (lo + 41) (cgB S) ∧ FI' (lo + 4) = FI (lo + 4)) := s_gridNow h hI hW
theorem c_gRank {V : GV} {d lo C E : Nat} {S : ST} {x : Int32} {X : XT} {FI AI : FT} {AL : LT} (h : CO X lo) (hI : CIv C E S X FI AI AL lo) (hW : WS S) : G V m_Alg_rank (d + 5) 0 [some (.ref lo), some (.int x)] [] X FI AI AL (fun r X' FI' AI' AL' => r = some (.int (gRank S x).1) ∧ CO X' lo ∧ CIv C E (gRank S x).2 X' FI' AI' AL' lo ∧ cF X X' FI FI' AI AI' AL AL' lo) := by
  have hg := s_gridR (V := V) (d := d + 1) h hI hW
  have la := h.la
  refine G_iload1 1 d_Alg_rank_0 rfl ?_
  first | refine G_ifltD 9 4 d_Alg_rank_1 rfl rfl (by omega) (fun h1 => ?_) (fun j h1 => ?_) | refine G_iflt 9 4 d_Alg_rank_1 rfl rfl (fun h1 => ?_) (fun h1 => ?_)
  · have q1 : bN x 2 = false := bN_f (fun e => by obtain ⟨j, hj, rfl⟩ := e; exact absurd h1 (nI_pos (by omega))) (by omega)
    simp only [gRank, q1, Bool.false_eq_true, if_false]
    refine G_iconst (-1) 10 d_Alg_rank_9 rfl rfl ?_
    refine G_iret d_Alg_rank_10 rfl ?_
    exact ⟨rfl, h, hI, cF.rf⟩
  · obtain ⟨k, hk31, rfl⟩ := nI_of h1
    refine G_iload1 5 d_Alg_rank_4 rfl ?_
    refine G_iconstN 1 6 d_Alg_rank_5 rfl rfl ?_
    first | refine G_icleN 11 9 d_Alg_rank_6 rfl rfl (by omega) (by omega) (fun h6 => ?_) (fun h6 => ?_) | refine G_icle 11 9 d_Alg_rank_6 rfl rfl (fun h6 => ?_) (fun h6 => ?_)
    · have hk : k < 2 := by omega
      have q1 := bN_t hk (show 2 < 2 ^ 31 by omega)
      have z1 := ni_nI hk31
      simp only [gRank, q1, z1, if_true]
      by_cases e : k = 0
      · rw [if_pos e]
        subst e
        refine G_iload1 12 d_Alg_rank_11 rfl ?_
        refine G_ifne 25 15 d_Alg_rank_12 rfl rfl (fun h12 => ?_) (fun h12 => ?_)
        · exact absurd rfl h12
        · refine G_aload0 16 d_Alg_rank_15 rfl ?_
          refine G_invV0 19 d_Alg_rank_16 rfl e_Alg_311 M_Alg_gridNow rfl h.sh (Nat.le_of_ble_eq_true rfl) (Nat.le_of_ble_eq_true rfl) rfl (G.conseq (hg) (fun r16 X16 FI16 AI16 AL16 h16 => ?_))
          obtain ⟨t1, t2, t3, t4, t5, t6, t7⟩ := h16
          replace t2 := t2.symm
          replace t3 := t3.symm
          subst t1 t2 t3
          refine G_invV0d 22 d_Alg_rank_19 rfl e_Alg_315 M_Lat_relationRank rfl h.s5 (Nat.le_of_ble_eq_true rfl) (Nat.le_of_ble_eq_true rfl) rfl (s_relationRank la t6) ?_
          refine G_goto 32 d_Alg_rank_22 rfl ?_
          refine G_iret d_Alg_rank_32 rfl ?_
          exact ⟨rfl, h, t4, t5⟩
      · rw [if_neg e]
        refine G_iload1 12 d_Alg_rank_11 rfl ?_
        refine G_ifne 25 15 d_Alg_rank_12 rfl rfl (fun h12 => ?_) (fun h12 => ?_)
        · refine G_aload0 26 d_Alg_rank_25 rfl ?_
          refine G_invV0 29 d_Alg_rank_26 rfl e_Alg_311 M_Alg_gridNow rfl h.sh (Nat.le_of_ble_eq_true rfl) (Nat.le_of_ble_eq_true rfl) rfl (G.conseq (hg) (fun r26 X26 FI26 AI26 AL26 h26 => ?_))
          obtain ⟨t1, t2, t3, t4, t5, t6, t7⟩ := h26
          replace t2 := t2.symm
          replace t3 := t3.symm
          subst t1 t2 t3
          refine G_invV0d 32 d_Alg_rank_29 rfl e_Alg_318 M_Lat_spanRank rfl h.s5 (Nat.le_of_ble_eq_true rfl) (Nat.le_of_ble_eq_true rfl) rfl (s_spanRank la t6) ?_
          refine G_iret d_Alg_rank_32 rfl ?_
          exact ⟨rfl, h, t4, t5⟩
        · exact absurd h12 (nI_ne0 (by omega) (by omega))
    · have q1 : bN (nI k) 2 = false := bN_f (fun e => by obtain ⟨j, hj, e2⟩ := e; have := (nI_eq (by omega) (by omega)).mp e2; omega) (by omega)
      simp only [gRank, q1, Bool.false_eq_true, if_false]
      refine G_iconst (-1) 10 d_Alg_rank_9 rfl rfl ?_
      refine G_iret d_Alg_rank_10 rfl ?_
      exact ⟨rfl, h, hI, cF.rf⟩
theorem c_gLattice {V : GV} {d lo C E : Nat} {S : ST} {x y : Int32} {X : XT} {FI AI : FT} {AL : LT} (h : CO X lo) (hI : CIv C E S X FI AI AL lo) (hW : WS S) : G V m_Alg_lattice (d + 5) 0 [some (.ref lo), some (.int x), some (.int y)] [] X FI AI AL (fun r X' FI' AI' AL' => r = some (.long (gLattice S x y).1) ∧ CO X' lo ∧ CIv C E (gLattice S x y).2 X' FI' AI' AL' lo ∧ cF X X' FI FI' AI AI' AL AL' lo) := by
  have hg := s_gridR (V := V) (d := d + 1) h hI hW
  have la := h.la
  have g0 := hI.2.2.1.1
  have hn7 : gN (tG S) ≤ 7 := hI.2.2.1.2.1
  have hpv := pvc_le (cgB S) 3 7
  refine G_iload1 1 d_Alg_lattice_0 rfl ?_
  first | refine G_ifltD 23 4 d_Alg_lattice_1 rfl rfl (by omega) (fun h1 => ?_) (fun j h1 => ?_) | refine G_iflt 23 4 d_Alg_lattice_1 rfl rfl (fun h1 => ?_) (fun h1 => ?_)
  · have q1 : bN x (pvc (cgB S) 3 7) = false := bN_f (fun e => by obtain ⟨j, hj, rfl⟩ := e; exact absurd h1 (nI_pos (by omega))) (by omega)
    simp only [gLattice, q1, Bool.and_false, Bool.false_eq_true, if_false]
    refine G_ldc2 26 d_Alg_lattice_23 rfl k_Alg_194 ?_
    refine G_lret d_Alg_lattice_26 rfl ?_
    exact ⟨rfl, h, hI, cF.rf⟩
  · obtain ⟨k, hk31, rfl⟩ := nI_of h1
    refine G_iload1 5 d_Alg_lattice_4 rfl ?_
    refine G_aload0 6 d_Alg_lattice_5 rfl ?_
    refine G_invV0 9 d_Alg_lattice_6 rfl e_Alg_311 M_Alg_gridNow rfl h.sh (Nat.le_of_ble_eq_true rfl) (Nat.le_of_ble_eq_true rfl) rfl (G.conseq (hg) (fun r6 X6 FI6 AI6 AL6 h6 => ?_))
    obtain ⟨t1, t2, t3, t4, t5, t6, t7⟩ := h6
    replace t2 := t2.symm
    replace t3 := t3.symm
    subst t1 t2 t3
    have g0' : FI6 (lo + 4) 0 = nI (gN (tG S)) := by rw [t7]; exact g0
    refine G_invV0d 12 d_Alg_lattice_9 rfl e_Alg_315 M_Lat_relationRank rfl h.s5 (Nat.le_of_ble_eq_true rfl) (Nat.le_of_ble_eq_true rfl) rfl (s_relationRank la t6) ?_
    first | refine G_icgeN 23 15 d_Alg_lattice_12 rfl rfl (by omega) (by omega) (fun h12 => ?_) (fun h12 => ?_) | refine G_icge 23 15 d_Alg_lattice_12 rfl rfl (fun h12 => ?_) (fun h12 => ?_)
    · have q1 : bN (nI k) (pvc (cgB S) 3 7) = false := bN_f (fun e => by obtain ⟨j, hj, e2⟩ := e; have := (nI_eq (by omega) (by omega)).mp e2; omega) (by omega)
      simp only [gLattice, q1, Bool.and_false, Bool.false_eq_true, if_false]
      refine G_ldc2 26 d_Alg_lattice_23 rfl k_Alg_194 ?_
      refine G_lret d_Alg_lattice_26 rfl ?_
      exact ⟨rfl, h, t4, t5⟩
    · have hk : k < pvc (cgB S) 3 7 := by omega
      have q1 := bN_t hk (show pvc (cgB S) 3 7 < 2 ^ 31 by omega)
      have z1 := ni_nI hk31
      refine G_aload0 16 d_Alg_lattice_15 rfl ?_
      refine G_iload2 17 d_Alg_lattice_16 rfl ?_
      refine G_invV1b 20 d_Alg_lattice_17 rfl e_Alg_248 M_Alg_isGenerator rfl h.sh (Nat.le_of_ble_eq_true rfl) (Nat.le_of_ble_eq_true rfl) rfl (s_isGen h g0' hn7) (fun h17 => G_ifne1 23 d_Alg_lattice_20 27 rfl rfl ?_) (fun h17 => G_ifne0 23 d_Alg_lattice_20 27 rfl rfl ?_)
      · obtain ⟨g, hgn, rfl⟩ := h17
        have q2 := bN_t hgn (show gN (tG S) < 2 ^ 31 by omega)
        have z2 := ni_nI (show g < 2 ^ 31 by omega)
        simp only [gLattice, q1, q2, z1, z2, Bool.and_self, if_true]
        refine G_aload0 28 d_Alg_lattice_27 rfl ?_
        refine G_getR 31 d_Alg_lattice_28 rfl f_Alg_48 rfl h.sh h.f5 ?_
        refine G_iload1 32 d_Alg_lattice_31 rfl ?_
        refine G_iload2 33 d_Alg_lattice_32 rfl ?_
        refine G_invV2d 36 d_Alg_lattice_33 rfl e_Alg_321 M_Lat_relationNumber rfl h.s5 (Nat.le_of_ble_eq_true rfl) (Nat.le_of_ble_eq_true rfl) rfl (s_relationNumber la t6 hk31 (by omega)) ?_
        refine G_lret d_Alg_lattice_36 rfl ?_
        exact ⟨rfl, h, t4, t5⟩
      · have q2 := bN_f h17 (show gN (tG S) < 2 ^ 31 by omega)
        simp only [gLattice, q2, Bool.false_and, Bool.false_eq_true, if_false]
        refine G_ldc2 26 d_Alg_lattice_23 rfl k_Alg_194 ?_
        refine G_lret d_Alg_lattice_26 rfl ?_
        exact ⟨rfl, h, t4, t5⟩
theorem c_gSpan {V : GV} {d lo C E : Nat} {S : ST} {x y : Int32} {X : XT} {FI AI : FT} {AL : LT} (h : CO X lo) (hI : CIv C E S X FI AI AL lo) (hW : WS S) : G V m_Alg_span (d + 5) 0 [some (.ref lo), some (.int x), some (.int y)] [] X FI AI AL (fun r X' FI' AI' AL' => r = some (.long (gSpan S x y).1) ∧ CO X' lo ∧ CIv C E (gSpan S x y).2 X' FI' AI' AL' lo ∧ cF X X' FI FI' AI AI' AL AL' lo) := by
  have hg := s_gridR (V := V) (d := d + 1) h hI hW
  have la := h.la
  have hpv := pvc_le (cgB S) 0 3
  refine G_iload1 1 d_Alg_span_0 rfl ?_
  first | refine G_ifltD 24 4 d_Alg_span_1 rfl rfl (by omega) (fun h1 => ?_) (fun j h1 => ?_) | refine G_iflt 24 4 d_Alg_span_1 rfl rfl (fun h1 => ?_) (fun h1 => ?_)
  · have q1 : bN x (pvc (cgB S) 0 3) = false := bN_f (fun e => by obtain ⟨j, hj, rfl⟩ := e; exact absurd h1 (nI_pos (by omega))) (by omega)
    simp only [gSpan, q1, Bool.and_false, Bool.false_eq_true, if_false]
    refine G_ldc2 27 d_Alg_span_24 rfl k_Alg_194 ?_
    refine G_lret d_Alg_span_27 rfl ?_
    exact ⟨rfl, h, hI, cF.rf⟩
  · obtain ⟨k, hk31, rfl⟩ := nI_of h1
    refine G_iload1 5 d_Alg_span_4 rfl ?_
    refine G_aload0 6 d_Alg_span_5 rfl ?_
    refine G_invV0 9 d_Alg_span_6 rfl e_Alg_311 M_Alg_gridNow rfl h.sh (Nat.le_of_ble_eq_true rfl) (Nat.le_of_ble_eq_true rfl) rfl (G.conseq (hg) (fun r6 X6 FI6 AI6 AL6 h6 => ?_))
    obtain ⟨t1, t2, t3, t4, t5, t6, t7⟩ := h6
    replace t2 := t2.symm
    replace t3 := t3.symm
    subst t1 t2 t3
    refine G_invV0d 12 d_Alg_span_9 rfl e_Alg_318 M_Lat_spanRank rfl h.s5 (Nat.le_of_ble_eq_true rfl) (Nat.le_of_ble_eq_true rfl) rfl (s_spanRank la t6) ?_
    first | refine G_icgeN 24 15 d_Alg_span_12 rfl rfl (by omega) (by omega) (fun h12 => ?_) (fun h12 => ?_) | refine G_icge 24 15 d_Alg_span_12 rfl rfl (fun h12 => ?_) (fun h12 => ?_)
    · have q1 : bN (nI k) (pvc (cgB S) 0 3) = false := bN_f (fun e => by obtain ⟨j, hj, e2⟩ := e; have := (nI_eq (by omega) (by omega)).mp e2; omega) (by omega)
      simp only [gSpan, q1, Bool.and_false, Bool.false_eq_true, if_false]
      refine G_ldc2 27 d_Alg_span_24 rfl k_Alg_194 ?_
      refine G_lret d_Alg_span_27 rfl ?_
      exact ⟨rfl, h, t4, t5⟩
    · have hk : k < pvc (cgB S) 0 3 := by omega
      have q1 := bN_t hk (show pvc (cgB S) 0 3 < 2 ^ 31 by omega)
      have z1 := ni_nI hk31
      refine G_iload2 16 d_Alg_span_15 rfl ?_
      first | refine G_ifltD 24 19 d_Alg_span_16 rfl rfl (by omega) (fun h16 => ?_) (fun j h16 => ?_) | refine G_iflt 24 19 d_Alg_span_16 rfl rfl (fun h16 => ?_) (fun h16 => ?_)
      · have q2 : bN y 3 = false := bN_f (fun e => by obtain ⟨j, hj, rfl⟩ := e; exact absurd h16 (nI_pos (by omega))) (by omega)
        simp only [gSpan, q2, Bool.false_and, Bool.false_eq_true, if_false]
        refine G_ldc2 27 d_Alg_span_24 rfl k_Alg_194 ?_
        refine G_lret d_Alg_span_27 rfl ?_
        exact ⟨rfl, h, t4, t5⟩
      · obtain ⟨g, hg31, rfl⟩ := nI_of h16
        refine G_iload2 20 d_Alg_span_19 rfl ?_
        refine G_iconstN 2 21 d_Alg_span_20 rfl rfl ?_
        first | refine G_icleN 28 24 d_Alg_span_21 rfl rfl (by omega) (by omega) (fun h21 => ?_) (fun h21 => ?_) | refine G_icle 28 24 d_Alg_span_21 rfl rfl (fun h21 => ?_) (fun h21 => ?_)
        · have q2 := bN_t (show g < 3 by omega) (show 3 < 2 ^ 31 by omega)
          have z2 := ni_nI hg31
          simp only [gSpan, q1, q2, z1, z2, Bool.and_self, if_true]
          refine G_aload0 29 d_Alg_span_28 rfl ?_
          refine G_getR 32 d_Alg_span_29 rfl f_Alg_48 rfl h.sh h.f5 ?_
          refine G_iload1 33 d_Alg_span_32 rfl ?_
          refine G_iload2 34 d_Alg_span_33 rfl ?_
          refine G_invV2d 37 d_Alg_span_34 rfl e_Alg_324 M_Lat_spanNumber rfl h.s5 (Nat.le_of_ble_eq_true rfl) (Nat.le_of_ble_eq_true rfl) rfl (s_spanNumber la t6 hk31 (by omega)) ?_
          refine G_lret d_Alg_span_37 rfl ?_
          exact ⟨rfl, h, t4, t5⟩
        · have q2 : bN (nI g) 3 = false := bN_f (fun e => by obtain ⟨j, hj, e2⟩ := e; have := (nI_eq (by omega) (by omega)).mp e2; omega) (by omega)
          simp only [gSpan, q2, Bool.false_and, Bool.false_eq_true, if_false]
          refine G_ldc2 27 d_Alg_span_24 rfl k_Alg_194 ?_
          refine G_lret d_Alg_span_27 rfl ?_
          exact ⟨rfl, h, t4, t5⟩
theorem c_gIndex {V : GV} {d lo C E : Nat} {S : ST} {X : XT} {FI AI : FT} {AL : LT} (h : CO X lo) (hI : CIv C E S X FI AI AL lo) (hW : WS S) : G V m_Alg_index (d + 4) 0 [some (.ref lo)] [] X FI AI AL (fun r X' FI' AI' AL' => r = some (.long (gIndex S).1) ∧ CO X' lo ∧ CIv C E (gIndex S).2 X' FI' AI' AL' lo ∧ cF X X' FI FI' AI AI' AL AL' lo) := by
  have hg := s_gridR (V := V) (d := d) h hI hW
  have la := h.la
  refine G_aload0 1 d_Alg_index_0 rfl ?_
  refine G_invV0 4 d_Alg_index_1 rfl e_Alg_311 M_Alg_gridNow rfl h.sh (Nat.le_of_ble_eq_true rfl) (Nat.le_of_ble_eq_true rfl) rfl (G.conseq (hg) (fun r1 X1 FI1 AI1 AL1 h1 => ?_))
  obtain ⟨t1, t2, t3, t4, t5, t6, t7⟩ := h1
  replace t2 := t2.symm
  replace t3 := t3.symm
  subst t1 t2 t3
  refine G_invV0d 7 d_Alg_index_4 rfl e_Alg_330 M_Lat_pivotProduct rfl h.s5 (Nat.le_of_ble_eq_true rfl) (Nat.le_of_ble_eq_true rfl) rfl (s_pivotProduct la t6) ?_
  refine G_lret d_Alg_index_7 rfl ?_
  exact ⟨rfl, h, t4, t5⟩
