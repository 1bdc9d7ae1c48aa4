/-! ===== the class: certified ===== -/
def sdF (v : Nat → Int64) (gl : Nat → Nat) : Nat → Int64
  | 0 => 0
  | k + 1 => sdF v gl k + lmax (v k) 0 * (nI (eD (gl k))).toInt64
def srF (t : Int64) (v : Nat → Int64) : Nat → Int32
  | 0 => nI 0
  | k + 1 => srF t v k + (lmax (t * v k) 0).toInt32 * nI (un k)
theorem s_sideDegree {V : GV} {d lo : Nat} {Gt : GT} {B : LM} {X : XT} {FI AI : FT} {AL : LT} (h : CO X lo) (hG : CGs Gt FI AI AL (lo + 4)) (hl : ∀ i, i < gN Gt → gL Gt i < 84) (hB : LBo AL (lo + 41) B) : G V m_Lat_sideDegree (d + 2) 0 [some (.ref (lo + 41)), some (.ref (lo + 4)), none, none, none] [] X FI AI AL (Pd (some (.long (sdF (fun g => B (pcl B 0 7 3 0) (3 + g)) (gL Gt) (gN Gt)))) X FI AI AL) := by
  have hla := h.la
  obtain ⟨o1, o2, o3, o4, o5, o6⟩ := id hla
  have g1 := h.go.1
  have gf2' : x_FR X (lo + 4) 2 = some (lo + 6) := h.go.2.2.1
  have gs2' : x_sh X (lo + 6) = some (0, 7) := h.go.2.2.2.2.2.2.2.2.2.2.1
  have hn7 := hG.2.1
  have g0 := hG.1
  have L : ∀ k, k ≤ gN Gt → G V m_Lat_sideDegree (d + 2) 5 [some (.ref (lo + 41)), some (.ref (lo + 4)), some (.long (sdF (fun g => B (pcl B 0 7 3 0) (3 + g)) (gL Gt) k)), none, some (.int (nI k))] [] X FI AI AL (Pd (some (.long (sdF (fun g => B (pcl B 0 7 3 0) (3 + g)) (gL Gt) (gN Gt)))) X FI AI AL) := by
    refine upto ?_ ?_
    · refine G_iload4 7 d_Lat_sideDegree_5 rfl ?_
      refine G_aload1 8 d_Lat_sideDegree_7 rfl ?_
      refine G_getIv 11 d_Lat_sideDegree_8 rfl f_Lat_26 rfl (by assumption) g0 ?_
      first | refine G_icgeN 47 14 d_Lat_sideDegree_11 rfl rfl (by omega) (by omega) (fun h11 => ?_) (fun h11 => ?_) | refine G_icge 47 14 d_Lat_sideDegree_11 rfl rfl (fun h11 => ?_) (fun h11 => ?_)
      · refine G_lload2 48 d_Lat_sideDegree_47 rfl ?_
        refine G_lret d_Lat_sideDegree_48 rfl ?_
        exact Pd.rf
      · omega
    · intro k hk ih
      have e1 : AI (lo + 6) k = nI (gL Gt k) := (hG.2.2 k hk).1
      have h84 := hl k hk
      have hrn := s_relationNumber (V := V) (d := d) (i := 0) (g := k) (FI := FI) (AI := AI) hla hB (by omega) (by omega)
      rw [sdF] at ih
      refine G_iload4 7 d_Lat_sideDegree_5 rfl ?_
      refine G_aload1 8 d_Lat_sideDegree_7 rfl ?_
      refine G_getIv 11 d_Lat_sideDegree_8 rfl f_Lat_26 rfl (by assumption) g0 ?_
      first | refine G_icgeN 47 14 d_Lat_sideDegree_11 rfl rfl (by omega) (by omega) (fun h11 => ?_) (fun h11 => ?_) | refine G_icge 47 14 d_Lat_sideDegree_11 rfl rfl (fun h11 => ?_) (fun h11 => ?_)
      · omega
      · refine G_lload2 15 d_Lat_sideDegree_14 rfl ?_
        refine G_aload0 16 d_Lat_sideDegree_15 rfl ?_
        refine G_iconstN 0 17 d_Lat_sideDegree_16 rfl rfl ?_
        refine G_iload4 19 d_Lat_sideDegree_17 rfl ?_
        refine G_invV2d 22 d_Lat_sideDegree_19 rfl e_Lat_72 M_Lat_relationNumber rfl (by assumption) (Nat.le_of_ble_eq_true rfl) (Nat.le_of_ble_eq_true rfl) rfl (hrn) ?_
        refine G_lconst 0 23 d_Lat_sideDegree_22 rfl rfl ?_
        refine G_invS2d 26 d_Lat_sideDegree_23 rfl e_Lat_76 M_Math_max_JJJ (Nat.le_of_ble_eq_true rfl) (Nat.le_of_ble_eq_true rfl) rfl (s_lmax) ?_
        refine G_gets 0 29 d_Lat_sideDegree_26 rfl rfl s_Lat_79 ?_
        refine G_aload1 30 d_Lat_sideDegree_29 rfl ?_
        refine G_getR 33 d_Lat_sideDegree_30 rfl f_Lat_30 rfl (by assumption) gf2' ?_
        refine G_iload4 35 d_Lat_sideDegree_33 rfl ?_
        refine G_ialoadv 36 d_Lat_sideDegree_35 rfl gs2' (ix_nI (by omega) (by omega)) e1 ?_
        refine G_st0 37 d_Lat_sideDegree_36 rfl (ix_nI (by omega) (by omega)) ?_
        refine G_i2l 38 d_Lat_sideDegree_37 rfl ?_
        refine G_lmul 39 d_Lat_sideDegree_38 rfl ?_
        refine G_ladd 40 d_Lat_sideDegree_39 rfl ?_
        refine G_lstore2 41 d_Lat_sideDegree_40 rfl (by decide) rfl ?_
        first | refine G_iincN4 44 d_Lat_sideDegree_41 rfl (by decide) rfl ?_ | refine G_iinc4 _ 44 d_Lat_sideDegree_41 rfl (by decide) rfl rfl ?_
        refine G_goto 5 d_Lat_sideDegree_44 rfl ?_
        exact ih
  refine G_lconst 0 1 d_Lat_sideDegree_0 rfl rfl ?_
  refine G_lstore2 2 d_Lat_sideDegree_1 rfl (by decide) rfl ?_
  refine G_iconstN 0 3 d_Lat_sideDegree_2 rfl rfl ?_
  refine G_istore4 5 d_Lat_sideDegree_3 rfl (by decide) rfl ?_
  exact L 0 (Nat.zero_le _)
theorem s_sideRow {V : GV} {d l : Nat} {t : Int32} {B : LM} {X : XT} {FI AI : FT} {AL : LT} (hla : LAo X l) (hB : LBo AL l B) : G V m_Lat_sideRow (d + 2) 0 [some (.ref l), some (.int t), none, none] [] X FI AI AL (Pd (some (.int (srF t.toInt64 (fun g => B (pcl B 0 7 3 0) (3 + g)) 7))) X FI AI AL) := by
  obtain ⟨o1, o2, o3, o4, o5, o6⟩ := id hla
  have L : ∀ k, k ≤ 7 → G V m_Lat_sideRow (d + 2) 4 [some (.ref l), some (.int t), some (.int (srF t.toInt64 (fun g => B (pcl B 0 7 3 0) (3 + g)) k)), some (.int (nI k))] [] X FI AI AL (Pd (some (.int (srF t.toInt64 (fun g => B (pcl B 0 7 3 0) (3 + g)) 7))) X FI AI AL) := by
    refine upto ?_ ?_
    · refine G_iload3 5 d_Lat_sideRow_4 rfl ?_
      refine G_bipushN 7 7 d_Lat_sideRow_5 rfl rfl ?_
      first | refine G_icgeN 38 10 d_Lat_sideRow_7 rfl rfl (by omega) (by omega) (fun h7 => ?_) (fun h7 => ?_) | refine G_icge 38 10 d_Lat_sideRow_7 rfl rfl (fun h7 => ?_) (fun h7 => ?_)
      · refine G_iload2 39 d_Lat_sideRow_38 rfl ?_
        refine G_iret d_Lat_sideRow_39 rfl ?_
        exact Pd.rf
      · omega
    · intro k hk ih
      have hrn := s_relationNumber (V := V) (d := d) (i := 0) (g := k) (FI := FI) (AI := AI) hla hB (by omega) hk
      rw [srF] at ih
      refine G_iload3 5 d_Lat_sideRow_4 rfl ?_
      refine G_bipushN 7 7 d_Lat_sideRow_5 rfl rfl ?_
      first | refine G_icgeN 38 10 d_Lat_sideRow_7 rfl rfl (by omega) (by omega) (fun h7 => ?_) (fun h7 => ?_) | refine G_icge 38 10 d_Lat_sideRow_7 rfl rfl (fun h7 => ?_) (fun h7 => ?_)
      · omega
      · refine G_iload2 11 d_Lat_sideRow_10 rfl ?_
        refine G_iload1 12 d_Lat_sideRow_11 rfl ?_
        refine G_i2l 13 d_Lat_sideRow_12 rfl ?_
        refine G_aload0 14 d_Lat_sideRow_13 rfl ?_
        refine G_iconst (0) 15 d_Lat_sideRow_14 rfl rfl ?_
        refine G_iload3 16 d_Lat_sideRow_15 rfl ?_
        refine G_invV2d 19 d_Lat_sideRow_16 rfl e_Lat_72 M_Lat_relationNumber rfl (by assumption) (Nat.le_of_ble_eq_true rfl) (Nat.le_of_ble_eq_true rfl) rfl (hrn) ?_
        refine G_lmul 20 d_Lat_sideRow_19 rfl ?_
        refine G_lconst 0 21 d_Lat_sideRow_20 rfl rfl ?_
        refine G_invS2d 24 d_Lat_sideRow_21 rfl e_Lat_76 M_Math_max_JJJ (Nat.le_of_ble_eq_true rfl) (Nat.le_of_ble_eq_true rfl) rfl (s_lmax) ?_
        refine G_l2i 25 d_Lat_sideRow_24 rfl ?_
        refine G_iload3 26 d_Lat_sideRow_25 rfl ?_
        refine G_invS1d 29 d_Lat_sideRow_26 rfl e_Lat_82 M_Gen_unit (Nat.le_of_ble_eq_true rfl) (Nat.le_of_ble_eq_true rfl) rfl (s_unit (by omega)) ?_
        refine G_imul 30 d_Lat_sideRow_29 rfl ?_
        refine G_iadd 31 d_Lat_sideRow_30 rfl ?_
        refine G_istore2 32 d_Lat_sideRow_31 rfl (by decide) rfl ?_
        first | refine G_iincN3 35 d_Lat_sideRow_32 rfl (by decide) rfl ?_ | refine G_iinc3 _ 35 d_Lat_sideRow_32 rfl (by decide) rfl rfl ?_
        refine G_goto 4 d_Lat_sideRow_35 rfl ?_
        exact ih
  refine G_iconstN 0 1 d_Lat_sideRow_0 rfl rfl ?_
  refine G_istore2 2 d_Lat_sideRow_1 rfl (by decide) rfl ?_
  refine G_iconstN 0 3 d_Lat_sideRow_2 rfl rfl ?_
  refine G_istore3 4 d_Lat_sideRow_3 rfl (by decide) rfl ?_
  exact L 0 (Nat.zero_le _)
theorem lmax0 (x : Int64) : (lmax x 0).toInt = (x.toInt.toNat : Int) := by
  unfold lmax
  by_cases h : x < 0
  · rw [if_pos h]
    rw [Int64.lt_iff_toInt_lt, show (0 : Int64).toInt = 0 from rfl] at h
    show (0 : Int) = _
    omega
  · rw [if_neg h]
    rw [Int64.lt_iff_toInt_lt, show (0 : Int64).toInt = 0 from rfl] at h
    omega
theorem sdF_dg {v : Nat → Int64} {gl : Nat → Nat} : ∀ k, k ≤ 7 → (∀ g, g < k → vlP v g * eD (gl g) ≤ 165888 ∧ eD (gl g) ≤ 6) → (sdF v gl k).toInt = (dgS (vlP v) gl k : Int) ∧ dgS (vlP v) gl k ≤ k * 165888
  | 0, _, _ => by rw [sdF, dgS]; exact ⟨rfl, by omega⟩
  | k + 1, hk, h => by
    obtain ⟨i1, i2⟩ := sdF_dg k (by omega) (fun g hg => h g (by omega))
    obtain ⟨h1, h2⟩ := h k (by omega)
    have hm : (lmax (v k) 0 * (nI (eD (gl k))).toInt64).toInt = ((vlP v k * eD (gl k) : Nat) : Int) := by
      rw [Int64.toInt_mul, lmax0, toL, nI_toInt (by omega), ← Int.natCast_mul, Int.bmod_eq_of_le_mul_two]
      · rfl
      · have : (v k).toInt.toNat * eD (gl k) ≤ 165888 := h1
        omega
      · have : (v k).toInt.toNat * eD (gl k) ≤ 165888 := h1
        omega
    rw [sdF, dgS, Int64.toInt_add, i1, hm]
    generalize hP : vlP v k * eD (gl k) = P at h1
    refine ⟨?_, by rw [Nat.succ_mul]; omega⟩
    rw [Int.bmod_eq_of_le_mul_two (by omega) (by omega)]
    omega
theorem cvB {a b : Nat} (h : a ≤ 27648) (k : b ≤ 6) : a * b ≤ 165888 := Nat.le_trans (Nat.mul_le_mul h k) (by decide)
theorem cv1 : (nI 1).toInt64 = 1 := by decide
theorem cv2 : (-1 : Int32).toInt64 = -1 := by decide
theorem cv3 : (-1 : Int64).toInt = -1 := by decide
theorem n7_lt {p : Nat → Nat} (h : ∀ g, g < 7 → p g < 8) : n7 p < 2 ^ 31 := by
  have := numL_lt [p 0, p 1, p 2, p 3, p 4, p 5, p 6] 0 (by simp) (fun x hx => by
    simp only [List.mem_cons, List.not_mem_nil, or_false] at hx
    rcases hx with rfl | rfl | rfl | rfl | rfl | rfl | rfl <;> exact h _ (by omega))
  have e2 : un 0 = 262144 := by decide
  unfold n7 num
  omega
theorem srF_n {t : Int64} {v : Nat → Int64} {p : Nat → Nat} (hp : ∀ g, g < 7 → p g ≤ 6 ∧ (lmax (t * v g) 0).toInt = (p g : Int)) : srF t v 7 = nI (n7 p) := by
  have h1 : ∀ g, g < 7 → (lmax (t * v g) 0).toInt32 = nI (p g) := fun g hg => by
    obtain ⟨a, b⟩ := hp g hg
    apply Int32.toInt_inj.mp
    rw [Int64.toInt_toInt32, b, nI_toInt (by omega), Int.bmod_eq_of_le_mul_two (by omega) (by omega)]
  simp only [srF, h1 0 (by omega), h1 1 (by omega), h1 2 (by omega), h1 3 (by omega), h1 4 (by omega), h1 5 (by omega), h1 6 (by omega)]
  simp only [pk_mul, nI_add]
  unfold n7 num
  simp only [numL, Nat.zero_add, Nat.reduceAdd]
  exact congrArg nI (by omega)
def fCe (S : ST) (a b : Nat) : Int32 × ST := match difP (gN (tG S)) (gP (tG S)) a b with
  | none => (-5, S)
  | some f => match aptS S f with
    | none => (-5, S)
    | some w => (if lead1 w.1 (tO S) = 0 then 1 else 0, S)
theorem cv_rn {S : ST} (hL : cgL (tG S)) : (laG (tG S) 1).1 = pvc (cgB S) 3 7 := by
  unfold cgB
  exact hL.2.1
theorem cv_v {S : ST} (hL : cgL (tG S)) (h : pvc (cgB S) 3 7 = 1) {g : Nat} (hg : g < 7) : cgB S (pcl (cgB S) 0 7 3 0) (3 + g) = laV S g := by
  unfold cgB at h ⊢
  unfold laV
  exact ((hL.2.2.2.1 0 (by omega)).2 g hg).symm
theorem cv_c {S : ST} (hn7 : gN (tG S) ≤ 7) (hl : ∀ g, g < gN (tG S) → gL (tG S) g < 84) (h : (laG (tG S) 1).1 = 1) : (∀ g, gN (tG S) ≤ g → g < 7 → laV S g = 0) ∧ (∀ g, g < 7 → (laV S g).toInt.natAbs ≤ 27648) ∧ si7 (fun g => (laV S g).toInt * (eD (gL (tG S) g) : Nat)) = 0 := by
  unfold laV
  exact cert_v hn7 hl (laG_ok hn7 hl 1) h
theorem fCe_eq {S : ST} {x : Int32} (h1 : bB x 1 6 = true) (h2 : (laG (tG S) 1).1 = 1) (h3 : ¬ ni x < dgS (vlP (laV S)) (gL (tG S)) 7) : fCertified S x = fCe S (n7 (vlP (laV S))) (n7 (vlM (laV S))) := by
  unfold fCertified fCe
  rw [if_pos h1, if_pos h2, if_neg h3]
  rfl
theorem c_certified {V : GV} {d lo C E : Nat} {S : ST} {x : Int32} {X : XT} {FI AI : FT} {AL : LT} (h : CO X lo) (hI : CIv C E S X FI AI AL lo) (hW : WS S) (hL : cgL (tG S)) : G V m_Alg_certified (d + 5) 0 [some (.ref lo), some (.int x), none] [] X FI AI AL (fun r X' FI' AI' AL' => r = some (.int (fCertified S x).1) ∧ CO X' lo ∧ CIv C E (fCertified S x).2 X' FI' AI' AL' lo ∧ cF X X' FI FI' AI AI' AL AL' lo) := by
  have ho := hW.1
  have hn7 := hW.2.1.1
  have hl2 : ∀ i, i < gN (tG S) → gL (tG S) i < 84 ∧ 1 ≤ eD (gL (tG S) i) := fun i hi => ⟨(hW.2.1.2.1 i hi).1, (hW.2.1.2.1 i hi).2.1⟩
  have la := h.la
  have hpv := pvc_le (cgB S) 3 7
  have ern := cv_rn hL
  have hg := s_gridR (V := V) (d := d + 1) h hI hW
  obtain ⟨w, v, hwv, r10, r11, -, -⟩ := hI.2.2.2.2.2.2.2.2.2.1
  refine G_iload1 1 d_Alg_certified_0 rfl ?_
  refine G_invS1b 4 d_Alg_certified_1 rfl e_Alg_333 M_Alg_isBound (Nat.le_of_ble_eq_true rfl) (Nat.le_of_ble_eq_true rfl) rfl (s_isBound) (fun h1 => G_ifne1 7 d_Alg_certified_4 9 rfl rfl ?_) (fun h1 => G_ifne0 7 d_Alg_certified_4 9 rfl rfl ?_)
  · obtain ⟨e, e1, e6, e31, rfl⟩ := isB_n (lo := 1) (hi := 6) h1
    have q0 : bB (nI e) 1 6 = true := bB_iff.mpr h1
    have z0 := ni_nI e31
    refine G_aload0 10 d_Alg_certified_9 rfl ?_
    refine G_invV0 13 d_Alg_certified_10 rfl e_Alg_311 M_Alg_gridNow rfl h.sh (Nat.le_of_ble_eq_true rfl) (Nat.le_of_ble_eq_true rfl) rfl (G.conseq (hg) (fun r10 X10 FI10 AI10 AL10 h10 => ?_))
    obtain ⟨t1, t2, t3, t4, t5, t6, t7⟩ := h10
    replace t2 := t2.symm
    replace t3 := t3.symm
    subst t1 t2 t3
    refine G_invV0d 16 d_Alg_certified_13 rfl e_Alg_315 M_Lat_relationRank rfl h.s5 (Nat.le_of_ble_eq_true rfl) (Nat.le_of_ble_eq_true rfl) rfl (s_relationRank la t6) ?_
    refine G_istore2 17 d_Alg_certified_16 rfl (by decide) rfl ?_
    by_cases hr1 : pvc (cgB S) 3 7 = 1
    · obtain ⟨v1, v2, v3⟩ := cv_c hn7 (fun g hg => (hl2 g hg).1) (by rw [ern]; exact hr1)
      have hvB : ∀ g, g < 7 → cgB S (pcl (cgB S) 0 7 3 0) (3 + g) = laV S g := fun g g7 => cv_v hL hr1 g7
      have hdeg := dg_eq v3
      have hpz : ∀ g, gN (tG S) ≤ g → g < 7 → vlP (laV S) g = 0 := fun g g1 g2 => by unfold vlP; rw [v1 g g1 g2]; rfl
      have hmz : ∀ g, gN (tG S) ≤ g → g < 7 → vlM (laV S) g = 0 := fun g g1 g2 => by unfold vlM; rw [v1 g g1 g2]; rfl
      have ePP : ∀ g, g < 7 → vlP (fun g => cgB S (pcl (cgB S) 0 7 3 0) (3 + g)) g = vlP (laV S) g := fun g g7 => by
        unfold vlP
        show (cgB S (pcl (cgB S) 0 7 3 0) (3 + g)).toInt.toNat = _
        rw [hvB g g7]
      have hdS : ∀ k, k ≤ 7 → dgS (vlP (fun g => cgB S (pcl (cgB S) 0 7 3 0) (3 + g))) (gL (tG S)) k = dgS (vlP (laV S)) (gL (tG S)) k := by
        intro k
        induction k with
        | zero => intro _; rw [dgS, dgS]
        | succ k ih => intro hk; rw [dgS, dgS, ih (by omega), ePP k (by omega)]
      have e7p := dgS_7 (p := vlP (laV S)) (gl := gL (tG S)) hn7 hpz 7 (by omega) hn7
      have e7m := dgS_7 (p := vlM (laV S)) (gl := gL (tG S)) hn7 hmz 7 (by omega) hn7
      have hsd := (sdF_dg (v := fun g => cgB S (pcl (cgB S) 0 7 3 0) (3 + g)) (gl := gL (tG S)) (gN (tG S)) hn7 (fun g hg => by
        have h6 := (e_le (hl2 g hg).1).2.2.2.1
        have h27 := v2 g (by omega)
        refine ⟨?_, h6⟩
        rw [ePP g (by omega)]
        exact cvB (show vlP (laV S) g ≤ 27648 by unfold vlP; omega) h6)).1
      rw [hdS _ hn7, ← e7p] at hsd
      have hs1 := s_sideDegree (V := V) (d := d + 2) h t4.2.2.1 (fun i hi => (hl2 i hi).1) t6
      have hr2 := s_sideRow (V := V) (d := d + 2) (t := nI 1) (FI := FI10) (AI := AI) la t6
      have hr3 := s_sideRow (V := V) (d := d + 2) (t := -1) (FI := FI10) (AI := AI) la t6
      rw [hr1]
      refine G_iload2 18 d_Alg_certified_17 rfl ?_
      refine G_ifne 23 21 d_Alg_certified_18 rfl rfl (fun h18 => ?_) (fun h18 => ?_)
      · refine G_iload2 24 d_Alg_certified_23 rfl ?_
        refine G_iconstN 1 25 d_Alg_certified_24 rfl rfl ?_
        first | refine G_icleN 30 28 d_Alg_certified_25 rfl rfl (by omega) (by omega) (fun h25 => ?_) (fun h25 => ?_) | refine G_icle 30 28 d_Alg_certified_25 rfl rfl (fun h25 => ?_) (fun h25 => ?_)
        · refine G_aload0 31 d_Alg_certified_30 rfl ?_
          refine G_getR 34 d_Alg_certified_31 rfl f_Alg_48 rfl h.sh h.f5 ?_
          refine G_aload0 35 d_Alg_certified_34 rfl ?_
          refine G_getR 38 d_Alg_certified_35 rfl f_Alg_27 rfl h.sh h.f2 ?_
          refine G_invV1d 41 d_Alg_certified_38 rfl e_Alg_369 M_Lat_sideDegree rfl h.s5 (Nat.le_of_ble_eq_true rfl) (Nat.le_of_ble_eq_true rfl) rfl (hs1) ?_
          refine G_iload1 42 d_Alg_certified_41 rfl ?_
          refine G_i2l 43 d_Alg_certified_42 rfl ?_
          refine G_lcle 49 47 d_Alg_certified_43 d_Alg_certified_44 rfl rfl (fun h43 => ?_) (fun h43 => ?_)
          · have hde : dgS (vlP (laV S)) (gL (tG S)) 7 ≤ e := by
              rw [Int64.lt_iff_toInt_lt, hsd, toL, nI_toInt (by omega)] at h43; omega
            have hg1 : ∀ i, i < gN (tG S) → 1 ≤ eD (gL (tG S) i) := fun i hi => (hl2 i hi).2
            have hp6 : ∀ g, g < 7 → vlP (laV S) g ≤ 6 := fun g g7 => by
              by_cases hgn : g < gN (tG S)
              · have := dgS_le (p := vlP (laV S)) hg1 (gN (tG S)) (Nat.le_refl _) hgn
                omega
              · rw [hpz g (by omega) g7]; omega
            have hm6 : ∀ g, g < 7 → vlM (laV S) g ≤ 6 := fun g g7 => by
              by_cases hgn : g < gN (tG S)
              · have := dgS_le (p := vlM (laV S)) hg1 (gN (tG S)) (Nat.le_refl _) hgn
                omega
              · rw [hmz g (by omega) g7]; omega
            have en1 : srF (nI 1).toInt64 (fun g => cgB S (pcl (cgB S) 0 7 3 0) (3 + g)) 7 = nI (n7 (vlP (laV S))) := srF_n (fun g g7 => ⟨hp6 g g7, by
              rw [hvB g g7, lmax0, cv1, Int64.one_mul]; rfl⟩)
            have en2 : srF (-1 : Int32).toInt64 (fun g => cgB S (pcl (cgB S) 0 7 3 0) (3 + g)) 7 = nI (n7 (vlM (laV S))) := srF_n (fun g g7 => ⟨hm6 g g7, by
              have h27 := v2 g g7
              rw [hvB g g7, lmax0, cv2, Int64.toInt_mul, cv3, Int.bmod_eq_of_le_mul_two (by omega) (by omega)]
              unfold vlM
              omega⟩)
            rw [en1] at hr2
            rw [en2] at hr3
            have hb1 : n7 (vlP (laV S)) < 2 ^ 31 := n7_lt (fun g g7 => by have := hp6 g g7; omega)
            have hb2 : n7 (vlM (laV S)) < 2 ^ 31 := n7_lt (fun g g7 => by have := hm6 g g7; omega)
            have eF : fCertified S (nI e) = fCe S (n7 (vlP (laV S))) (n7 (vlM (laV S))) := fCe_eq q0 (by rw [ern]; exact hr1) (by rw [z0]; omega)
            rw [eF]
            unfold fCe
            have htd := s_tdS (V := V) (d := d + 1) h t4 hW hb1 hb2
            refine G_aload0 50 d_Alg_certified_49 rfl ?_
            refine G_aload0 51 d_Alg_certified_50 rfl ?_
            refine G_getR 54 d_Alg_certified_51 rfl f_Alg_48 rfl h.sh h.f5 ?_
            refine G_iconstN 1 55 d_Alg_certified_54 rfl rfl ?_
            refine G_invV1d 58 d_Alg_certified_55 rfl e_Alg_373 M_Lat_sideRow rfl h.s5 (Nat.le_of_ble_eq_true rfl) (Nat.le_of_ble_eq_true rfl) rfl (hr2) ?_
            refine G_aload0 59 d_Alg_certified_58 rfl ?_
            refine G_getR 62 d_Alg_certified_59 rfl f_Alg_48 rfl h.sh h.f5 ?_
            refine G_iconst (-1) 63 d_Alg_certified_62 rfl rfl ?_
            refine G_invV1d 66 d_Alg_certified_63 rfl e_Alg_373 M_Lat_sideRow rfl h.s5 (Nat.le_of_ble_eq_true rfl) (Nat.le_of_ble_eq_true rfl) rfl (hr3) ?_
            refine G_invV2 69 d_Alg_certified_66 rfl e_Alg_357 M_Alg_takeDifference rfl h.sh (Nat.le_of_ble_eq_true rfl) (Nat.le_of_ble_eq_true rfl) rfl (G.conseq (htd) (fun r66 X66 FI66 AI66 AL66 h66 => ?_))
            obtain ⟨b1, b2, b3, b4, b5, b6⟩ := h66
            replace b1 := b1.symm
            replace b2 := b2.symm
            replace b3 := b3.symm
            subst b1 b2 b3
            have c1 := t5.tr (cF.al (fun c hc => b4 c (by omega) (by omega)) : cF X X FI10 FI10 AI AI AL10 AL66 lo)
            cases hd : difP (gN (tG S)) (gP (tG S)) (n7 (vlP (laV S))) (n7 (vlM (laV S))) with
            | none =>
              rw [hd] at b6
              subst b6
              refine G_ifeq 83 72 d_Alg_certified_69 rfl rfl (fun h69 => ?_) (fun h69 => ?_)
              · refine G_bipush (-5) 85 d_Alg_certified_83 rfl rfl ?_
                refine G_iret d_Alg_certified_85 rfl ?_
                exact ⟨rfl, h, b5, c1⟩
              · exact absurd rfl h69
            | some f =>
              rw [hd] at b6
              obtain ⟨rfl, b7⟩ := b6
              have hta := s_taS (V := V) (d := d) h b5 hW hwv r10
              rw [b7] at hta
              refine G_ifeq 83 72 d_Alg_certified_69 rfl rfl (fun h69 => ?_) (fun h69 => ?_)
              · exact absurd h69 (by decide)
              · refine G_aload0 73 d_Alg_certified_72 rfl ?_
                refine G_aload0 74 d_Alg_certified_73 rfl ?_
                refine G_getR 77 d_Alg_certified_74 rfl f_Alg_79 rfl h.sh r11 ?_
                refine G_invV1 80 d_Alg_certified_77 rfl e_Alg_360 M_Alg_takeApart rfl h.sh (Nat.le_of_ble_eq_true rfl) (Nat.le_of_ble_eq_true rfl) rfl (G.conseq (hta) (fun r77 X77 FI77 AI77 AL77 h77 => ?_))
                obtain ⟨d1, d2, d3, d4, d5, d6⟩ := h77
                have c2 := c1.tr d3
                have wk2 := d1.wk
                have wks2 := wk2.1
                dsimp only
                cases ha : aptS S f with
                | none =>
                  rw [ha] at d6
                  subst d6
                  refine G_ifne 86 83 d_Alg_certified_80 rfl rfl (fun h80 => ?_) (fun h80 => ?_)
                  · exact absurd rfl h80
                  · refine G_bipush (-5) 85 d_Alg_certified_83 rfl rfl ?_
                    refine G_iret d_Alg_certified_85 rfl ?_
                    exact ⟨rfl, d1, d2, c2⟩
                | some u =>
                  rw [ha] at d6
                  obtain ⟨rfl, m1, m2, m3⟩ := d6
                  dsimp only
                  refine G_ifne 86 83 d_Alg_certified_80 rfl rfl (fun h80 => ?_) (fun h80 => ?_)
                  · refine G_aload0 87 d_Alg_certified_86 rfl ?_
                    refine G_getR 90 d_Alg_certified_87 rfl f_Alg_65 rfl d1.sh d1.f8 ?_
                    refine G_invV0d 93 d_Alg_certified_90 rfl e_Alg_363 M_Poly_isZero rfl d1.s8 (Nat.le_of_ble_eq_true rfl) (Nat.le_of_ble_eq_true rfl) rfl (s_isZero (by assumption)) ?_
                    refine G_ifeq 100 96 d_Alg_certified_93 rfl rfl (fun h93 => ?_) (fun h93 => ?_)
                    · by_cases hz : lead1 u.1 (tO S) = 0
                      · rw [m1, if_pos ((deg_lead ho).mpr hz)] at h93
                        exact absurd h93 (by decide)
                      · rw [if_neg hz]
                        refine G_iconstN 0 101 d_Alg_certified_100 rfl rfl ?_
                        refine G_iret d_Alg_certified_101 rfl ?_
                        exact ⟨rfl, d1, d2, c2⟩
                    · by_cases hz : lead1 u.1 (tO S) = 0
                      · rw [if_pos hz]
                        refine G_iconstN 1 97 d_Alg_certified_96 rfl rfl ?_
                        refine G_goto 101 d_Alg_certified_97 rfl ?_
                        refine G_iret d_Alg_certified_101 rfl ?_
                        exact ⟨rfl, d1, d2, c2⟩
                      · rw [m1, if_neg (fun e => hz ((deg_lead ho).mp e))] at h93
                        exact absurd rfl h93
                  · exact absurd h80 (by decide)
          · have hde : e < dgS (vlP (laV S)) (gL (tG S)) 7 := by
              rw [Int64.lt_iff_toInt_lt, hsd, toL, nI_toInt (by omega)] at h43; omega
            have eF : fCertified S (nI e) = (0, S) := by
              unfold fCertified; rw [q0, z0, if_pos rfl, if_pos (by rw [ern]; exact hr1), if_pos hde]
            rw [eF]
            refine G_iconst (0) 48 d_Alg_certified_47 rfl rfl ?_
            refine G_iret d_Alg_certified_48 rfl ?_
            exact ⟨rfl, h, t4, t5⟩
        · omega
      · exact absurd h18 (by decide)
    · have eF : fCertified S (nI e) = (if pvc (cgB S) 3 7 = 0 then 1 else 0, S) := by
        unfold fCertified; rw [q0, if_pos rfl, ern, if_neg hr1]
      rw [eF]
      by_cases hr0 : pvc (cgB S) 3 7 = 0
      · rw [if_pos hr0, hr0]
        refine G_iload2 18 d_Alg_certified_17 rfl ?_
        refine G_ifne 23 21 d_Alg_certified_18 rfl rfl (fun h18 => ?_) (fun h18 => ?_)
        · exact absurd rfl h18
        · refine G_iconst (1) 22 d_Alg_certified_21 rfl rfl ?_
          refine G_iret d_Alg_certified_22 rfl ?_
          exact ⟨rfl, h, t4, t5⟩
      · rw [if_neg hr0]
        refine G_iload2 18 d_Alg_certified_17 rfl ?_
        refine G_ifne 23 21 d_Alg_certified_18 rfl rfl (fun h18 => ?_) (fun h18 => ?_)
        · refine G_iload2 24 d_Alg_certified_23 rfl ?_
          refine G_iconstN 1 25 d_Alg_certified_24 rfl rfl ?_
          first | refine G_icleN 30 28 d_Alg_certified_25 rfl rfl (by omega) (by omega) (fun h25 => ?_) (fun h25 => ?_) | refine G_icle 30 28 d_Alg_certified_25 rfl rfl (fun h25 => ?_) (fun h25 => ?_)
          · omega
          · refine G_iconst (0) 29 d_Alg_certified_28 rfl rfl ?_
            refine G_iret d_Alg_certified_29 rfl ?_
            exact ⟨rfl, h, t4, t5⟩
        · exact absurd h18 (nI_ne0 (by omega) (by omega))
  · have q0 := bB_f h1
    simp only [fCertified, q0, Bool.false_eq_true, if_false]
    refine G_iconst (-1) 8 d_Alg_certified_7 rfl rfl ?_
    refine G_iret d_Alg_certified_8 rfl ?_
    exact ⟨rfl, h, hI, cF.rf⟩
