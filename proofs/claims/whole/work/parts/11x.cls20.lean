/-! ===== the class: through, order, closed ===== -/
theorem rowsD_0 : (rowsD [] 6).length = 1 := rfl
theorem rlD_none {o d : Nat} : ∀ m, rlD o [] d m = []
  | 0 => rfl
  | m + 1 => by
    have h1 : (RN [] (rk o (83 - m))).length ≤ 1 := by
      unfold RN RT
      rw [List.length_map]
      exact Nat.le_trans (List.length_filter_le _ _) (Nat.le_of_eq rowsD_0)
    have h2 : prsR (RN [] (rk o (83 - m))) = [] := by
      unfold prsR
      rw [show (RN [] (rk o (83 - m))).length - 1 = 0 by omega]; rfl
    rw [rlD, h2, rlD_none m]
    split <;> rfl
theorem c_order {V : GV} {d lo C E : Nat} {S : ST} {x : Int32} {X : XT} {FI AI : FT} {AL : LT} (h : CO X lo) (hI : CIv C E S X FI AI AL lo) (hW : WS S) : G V m_Alg_order (d + 2) 0 [some (.ref lo), some (.int x), none] [] X FI AI AL (fun r X' FI' AI' AL' => r = some (.int (fOrder S x).1) ∧ CO X' lo ∧ CIv C E (fOrder S x).2 X' FI' AI' AL' lo ∧ cF X X' FI FI' AI AI' AL AL' lo) := by
  have g0 := hI.2.2.1.1
  have hn7 := hI.2.2.1.2.1
  have rkk := h.rk
  have rks := rkk.1
  have o0 := hI.2.1.1
  have bd : ¬ isN x 3 → G V m_Alg_order (d + 2) 9 [some (.ref lo), some (.int x), none] [] X FI AI AL (fun r X' FI' AI' AL' => r = some (.int (fOrder S x).1) ∧ CO X' lo ∧ CIv C E (fOrder S x).2 X' FI' AI' AL' lo ∧ cF X X' FI FI' AI AI' AL AL' lo) := by
    intro hn
    have eF : fOrder S x = (-1, S) := by unfold fOrder; rw [bN_f hn (by omega)]; rfl
    rw [eF]
    refine G_iconst (-1) 10 d_Alg_order_9 rfl rfl ?_
    refine G_iret d_Alg_order_10 rfl ?_
    exact ⟨rfl, h, hI, cF.rf⟩
  refine G_iload1 1 d_Alg_order_0 rfl ?_
  first | refine G_ifltD 9 4 d_Alg_order_1 rfl rfl (by omega) (fun h1 => ?_) (fun j h1 => ?_) | refine G_iflt 9 4 d_Alg_order_1 rfl rfl (fun h1 => ?_) (fun h1 => ?_)
  · exact bd (fun ⟨j, hj, ej⟩ => by rw [ej, lt0_iff, nI_toInt (by omega)] at h1; omega)
  · obtain ⟨k, hk31, rfl⟩ := nI_of h1
    refine G_iload1 5 d_Alg_order_4 rfl ?_
    refine G_iconstN 2 6 d_Alg_order_5 rfl rfl ?_
    first | refine G_icleN 11 9 d_Alg_order_6 rfl rfl (by omega) (by omega) (fun h6 => ?_) (fun h6 => ?_) | refine G_icle 11 9 d_Alg_order_6 rfl rfl (fun h6 => ?_) (fun h6 => ?_)
    · have hk : k < 3 := by omega
      have q1 := bN_t hk (show 3 < 2 ^ 31 by omega)
      have z1 := ni_nI hk31
      simp only [fOrder, q1, z1, if_true]
      by_cases hz : 0 < gN (tG S)
      · rw [if_pos hz]
        refine G_aload0 12 d_Alg_order_11 rfl ?_
        refine G_getR 15 d_Alg_order_12 rfl f_Alg_27 rfl h.sh h.f2 ?_
        refine G_getIv 18 d_Alg_order_15 rfl f_Alg_109 rfl h.s2 g0 ?_
        refine G_ifle 24 21 d_Alg_order_18 rfl rfl (fun h18 => ?_) (fun h18 => ?_)
        · exact absurd h18 (nI_nle hz (by omega))
        · refine G_bipush (-3) 23 d_Alg_order_21 rfl rfl ?_
          refine G_iret d_Alg_order_23 rfl ?_
          exact ⟨rfl, h, hI, cF.rf⟩
      · rw [if_neg hz]
        have hn0 : gN (tG S) = 0 := by omega
        have hle : nI (gN (tG S)) ≤ 0 := by rw [hn0]; decide
        have hrb := s_rankBecome (V := V) (d := d + 1) (FI := FI) (AI := AI) (AL := AL) rkk hk
        have eLs : cLs (tG S) = [] := by unfold cLs; rw [hn0]; rfl
        obtain ⟨a1, a2, a3, a4, a5, a6, a7, a8, a9, a10, a11, a12⟩ := hI
        have fi : ∀ c, c ≠ lo + 2 → u2 FI (lo + 2) 0 (nI k) c = FI c := fun c hc => u2_off _ _ _ hc
        have ai : ∀ c, c ≠ lo + 3 → sr AI (lo + 3) (fun j => nI (rk k j)) c = AI c := fun c hc => sr_ne _ _ hc
        have hI2 : CIv C E (stO S k) X (u2 FI (lo + 2) 0 (nI k)) (sr AI (lo + 3) (fun j => nI (rk k j))) AL lo := by
          refine ⟨a1, ⟨u2_at _ _ _ _, fun j _ => by rw [sr_at]; rfl⟩, a3.tr (fi _ (by omega)) (fun c _ _ => ai c (by omega)) (fun _ _ _ => rfl), a4.tr (ai _ (by omega)) (ai _ (by omega)), a5.tr (ai _ (by omega)) (fun _ _ => rfl), ?_, a7.tr (by rw [fi _ (by omega)]) (fun _ _ _ => rfl), a8.tr (fun c _ _ => fi c (by omega)) (fun c _ _ => ai c (by omega)), a9.tr hW.2.2.2.2.2.1.1 (by rw [fi _ (by omega)]) (fun c _ _ => fi c (by omega)) (fun _ _ _ => rfl), a10.tr (by rw [fi _ (by omega)]) (fun c _ _ => fi c (by omega)) (fun c _ _ => ai c (by omega)) (fun _ _ _ => rfl), a11.tr (fun c _ => fi c (by omega)) (fun c _ => ai c (by omega)) (fun _ _ => rfl), a12⟩
          show CRl k (tG S) _ _ lo
          unfold CRl at a6 ⊢
          rw [fi lo (by omega), ai (lo + 36) (by omega), ai (lo + 37) (by omega), ai (lo + 38) (by omega)]
          refine ⟨a6.1, fun e => ⟨fun i q hq => ?_, fun d' d1 d6 => ?_⟩⟩
          · rw [eLs, rlD_none] at hq; simp at hq
          · have := (a6.2 e).2 d' d1 d6
            rw [eLs, rlD_none] at this ⊢
            exact this
        refine G_aload0 12 d_Alg_order_11 rfl ?_
        refine G_getR 15 d_Alg_order_12 rfl f_Alg_27 rfl h.sh h.f2 ?_
        refine G_getIv 18 d_Alg_order_15 rfl f_Alg_109 rfl h.s2 g0 ?_
        refine G_ifle 24 21 d_Alg_order_18 rfl rfl (fun h18 => ?_) (fun h18 => ?_)
        · refine G_aload0 25 d_Alg_order_24 rfl ?_
          refine G_getR 28 d_Alg_order_25 rfl f_Alg_20 rfl h.sh h.f1 ?_
          refine G_getIv 31 d_Alg_order_28 rfl f_Alg_112 rfl h.s1 o0 ?_
          refine G_istore2 32 d_Alg_order_31 rfl (by decide) rfl ?_
          refine G_aload0 33 d_Alg_order_32 rfl ?_
          refine G_getR 36 d_Alg_order_33 rfl f_Alg_20 rfl h.sh h.f1 ?_
          refine G_iload1 37 d_Alg_order_36 rfl ?_
          refine G_invV1v 40 d_Alg_order_37 rfl e_Alg_115 M_Rank_become rfl h.s1 (Nat.le_of_ble_eq_true rfl) (Nat.le_of_ble_eq_true rfl) rfl (hrb) ?_
          refine G_iload2 41 d_Alg_order_40 rfl ?_
          refine G_iret d_Alg_order_41 rfl ?_
          exact ⟨rfl, h, hI2, cF.cl (fun c hc => fi c (by omega)) (fun c hc => ai c (by omega)) (fun _ _ => rfl)⟩
        · exact absurd hle h18
    · exact bd (fun ⟨j, hj, ej⟩ => by rw [nI_eq hk31 (by omega)] at ej; omega)
theorem anU_iff {p : Nat → Bool} : ∀ k, anU p k = true ↔ ∃ i, i < k ∧ p i = true
  | 0 => by simp [anU]
  | k + 1 => by
    rw [anU, Bool.or_eq_true, anU_iff k]
    constructor
    · rintro (⟨i, a, b⟩ | e)
      · exact ⟨i, by omega, b⟩
      · exact ⟨k, by omega, e⟩
    · rintro ⟨i, a, b⟩
      by_cases e : i = k
      · subst e; exact Or.inr b
      · exact Or.inl ⟨i, by omega, b⟩
theorem alU_f {p : Nat → Bool} {i : Nat} : ∀ k, i < k → p i = false → alU p k = false
  | 0, h, _ => by omega
  | k + 1, h, e => by
    rw [alU]
    by_cases e2 : i = k
    · subst e2; rw [e, Bool.and_false]
    · rw [alU_f k (by omega) e, Bool.false_and]
theorem alU_t {p : Nat → Bool} : ∀ k, (∀ i, i < k → p i = true) → alU p k = true
  | 0, _ => rfl
  | k + 1, h => by rw [alU, alU_t k (fun i hi => h i (by omega)), h k (by omega)]; rfl
theorem like_sy {f g : Nat → Int64} (h : like f g) : like g f := fun t ht => (h t ht).symm
theorem c_closed {V : GV} {d lo C E : Nat} {S : ST} {X : XT} {FI AI : FT} {AL : LT} (h : CO X lo) (hI : CIv C E S X FI AI AL lo) (hW : WS S) : G V m_Alg_closed (d + 3) 0 [some (.ref lo), none, none, none, none] [] X FI AI AL (fun r X' FI' AI' AL' => r = some (.int (fClosed S).1) ∧ CO X' lo ∧ CIv C E (fClosed S).2 X' FI' AI' AL' lo ∧ cF X X' FI FI' AI AI' AL AL' lo) := by
  have hgs := hI.2.2.1
  have g0 := hgs.1
  have hn7 := hgs.2.1
  have hT := hI.2.2.2.1
  obtain ⟨go0, gf1, gf2, gf3, gf4, gf5, gf6, gf7, gf8, gs1, gs2, gs3, gs4, gs5, gs6, gs7, gs8, gpo, -⟩ := h.go
  have gf1' : x_FR X (lo + 4) 1 = some (lo + 5) := gf1
  have gf2' : x_FR X (lo + 4) 2 = some (lo + 6) := gf2
  have gf4' : x_FR X (lo + 4) 4 = some (lo + 8) := gf4
  have gf5' : x_FR X (lo + 4) 5 = some (lo + 9) := gf5
  have gf6' : x_FR X (lo + 4) 6 = some (lo + 10) := gf6
  have gf7' : x_FR X (lo + 4) 7 = some (lo + 11) := gf7
  have gf8' : x_FR X (lo + 4) 8 = some (lo + 12) := gf8
  have gs1' : x_sh X (lo + 5) = some (3, 7) := gs1
  have gs2' : x_sh X (lo + 6) = some (0, 7) := gs2
  have gs4' : x_sh X (lo + 8) = some (0, 7) := gs4
  have gs5' : x_sh X (lo + 9) = some (0, 7) := gs5
  have gs6' : x_sh X (lo + 10) = some (1, 602) := gs6
  have gs7' : x_sh X (lo + 11) = some (0, 602) := gs7
  have gs8' : x_sh X (lo + 12) = some (1, 7) := gs8
  have hgl : ∀ i, i < gN (tG S) → gL (tG S) i < 84 ∧ 1 ≤ eD (gL (tG S) i) := fun i hi => ⟨(hW.2.1.2.1 i hi).1, (hW.2.1.2.1 i hi).2.1⟩
  have eRN : ∀ t, (tRN S t).length = (RT (cLs (tG S)) t).length := fun t => by show (RN (cLs (tG S)) t).length = _; unfold RN; rw [List.length_map]
  have h344 : ∀ t, t < 84 → (RT (cLs (tG S)) t).length ≤ 344 := fun t ht => by
    obtain ⟨S', hS'⟩ := hT
    have := (hS' t ht).2.2.1
    omega
  clear gf1 gf2 gf3 gf4 gf5 gf6 gf7 gf8 gs1 gs2 gs3 gs4 gs5 gs6 gs7 gs8
  have wk := h.wk
  have wks := wk.1
  have spp := h.sp
  have sps := spp.1
  show G V m_Alg_closed (d + 3) 0 _ [] X FI AI AL (fun r X' FI' AI' AL' => r = some (.int (clA (tG S) 6)) ∧ CO X' lo ∧ CIv C E S X' FI' AI' AL' lo ∧ cF X X' FI FI' AI AI' AL AL' lo)
  have O : ∀ k, k ≤ 6 → ∀ (v3 v4 : Option Value) (AJ : LT), (∀ c, c ≠ lo + 57 → c ≠ lo + 59 → AJ c = AL c) → G V m_Alg_closed (d + 3) 4 [some (.ref lo), some (.int (clA (tG S) k)), some (.int (nI k)), v3, v4] [] X FI AI AJ (fun r X' FI' AI' AL' => r = some (.int (clA (tG S) 6)) ∧ CO X' lo ∧ CIv C E S X' FI' AI' AL' lo ∧ cF X X' FI FI' AI AI' AL AL' lo) := by
    refine upto ?_ ?_
    · intro v3 v4 AJ k1
      refine G_iload2 5 d_Alg_closed_4 rfl ?_
      refine G_bipushN 6 7 d_Alg_closed_5 rfl rfl ?_
      first | refine G_icgeN 83 10 d_Alg_closed_7 rfl rfl (by omega) (by omega) (fun h7 => ?_) (fun h7 => ?_) | refine G_icge 83 10 d_Alg_closed_7 rfl rfl (fun h7 => ?_) (fun h7 => ?_)
      · refine G_iload1 84 d_Alg_closed_83 rfl ?_
        refine G_iret d_Alg_closed_84 rfl ?_
        exact ⟨rfl, h, hI.wk hW k1, cF.al (fun c hc => k1 c (by omega) (by omega))⟩
      · omega
    · intro k hk ih v3 v4 AJ k1
      rw [clA] at ih
      -- all were met
      have T : alU (clG (tG S) k) (gN (tG S)) = true → ∀ (v4 : Option Value) (AJ : LT), (∀ c, c ≠ lo + 57 → c ≠ lo + 59 → AJ c = AL c) → G V m_Alg_closed (d + 3) 67 [some (.ref lo), some (.int (clA (tG S) k)), some (.int (nI k)), some (.int (nI 1)), v4] [] X FI AI AJ (fun r X' FI' AI' AL' => r = some (.int (clA (tG S) 6)) ∧ CO X' lo ∧ CIv C E S X' FI' AI' AL' lo ∧ cF X X' FI FI' AI AI' AL AL' lo) := by
        intro ha v4 AJ k1
        rw [if_pos ha] at ih
        refine G_iload3 68 d_Alg_closed_67 rfl ?_
        refine G_ifeq 77 71 d_Alg_closed_68 rfl rfl (fun h68 => ?_) (fun h68 => ?_)
        · exact absurd h68 (by decide)
        · refine G_iload1 72 d_Alg_closed_71 rfl ?_
          refine G_iconstN 1 73 d_Alg_closed_72 rfl rfl ?_
          refine G_iload2 74 d_Alg_closed_73 rfl ?_
          refine G_ishl 75 d_Alg_closed_74 rfl ?_
          refine G_ior 76 d_Alg_closed_75 rfl ?_
          refine G_istore1 77 d_Alg_closed_76 rfl (by decide) rfl ?_
          first | refine G_iincN2 80 d_Alg_closed_77 rfl (by decide) rfl ?_ | refine G_iinc2 _ 80 d_Alg_closed_77 rfl (by decide) rfl rfl ?_
          refine G_goto 4 d_Alg_closed_80 rfl ?_
          exact ih _ _ AJ k1
      have F : alU (clG (tG S) k) (gN (tG S)) = false → ∀ (v4 : Option Value) (AJ : LT), (∀ c, c ≠ lo + 57 → c ≠ lo + 59 → AJ c = AL c) → G V m_Alg_closed (d + 3) 67 [some (.ref lo), some (.int (clA (tG S) k)), some (.int (nI k)), some (.int (nI 0)), v4] [] X FI AI AJ (fun r X' FI' AI' AL' => r = some (.int (clA (tG S) 6)) ∧ CO X' lo ∧ CIv C E S X' FI' AI' AL' lo ∧ cF X X' FI FI' AI AI' AL AL' lo) := by
        intro ha v4 AJ k1
        have e0 : clA (tG S) k ||| nI 0 = clA (tG S) k := by
          apply Int32.toBitVec_inj.mp
          show (clA (tG S) k).toBitVec ||| BitVec.ofNat 32 0 = _
          simp
        rw [if_neg (by rw [ha]; decide), e0] at ih
        refine G_iload3 68 d_Alg_closed_67 rfl ?_
        refine G_ifeq 77 71 d_Alg_closed_68 rfl rfl (fun h68 => ?_) (fun h68 => ?_)
        · first | refine G_iincN2 80 d_Alg_closed_77 rfl (by decide) rfl ?_ | refine G_iinc2 _ 80 d_Alg_closed_77 rfl (by decide) rfl rfl ?_
          refine G_goto 4 d_Alg_closed_80 rfl ?_
          exact ih _ _ AJ k1
        · exact absurd rfl h68
      have I : ∀ i, i ≤ gN (tG S) → ∀ (AJ : LT), (∀ c, c ≠ lo + 57 → c ≠ lo + 59 → AJ c = AL c) → (∀ j, j < i → clG (tG S) k j = true) → G V m_Alg_closed (d + 3) 15 [some (.ref lo), some (.int (clA (tG S) k)), some (.int (nI k)), some (.int (nI 1)), some (.int (nI i))] [] X FI AI AJ (fun r X' FI' AI' AL' => r = some (.int (clA (tG S) 6)) ∧ CO X' lo ∧ CIv C E S X' FI' AI' AL' lo ∧ cF X X' FI FI' AI AI' AL AL' lo) := by
        refine upto ?_ ?_
        · intro AJ k1 k2
          refine G_iload4 17 d_Alg_closed_15 rfl ?_
          refine G_aload0 18 d_Alg_closed_17 rfl ?_
          refine G_getR 21 d_Alg_closed_18 rfl f_Alg_27 rfl h.sh h.f2 ?_
          refine G_getIv 24 d_Alg_closed_21 rfl f_Alg_109 rfl h.s2 g0 ?_
          first | refine G_icgeN 67 27 d_Alg_closed_24 rfl rfl (by omega) (by omega) (fun h24 => ?_) (fun h24 => ?_) | refine G_icge 67 27 d_Alg_closed_24 rfl rfl (fun h24 => ?_) (fun h24 => ?_)
          · exact T (alU_t _ k2) _ AJ k1
          · omega
        · intro i hi ihi AJ k1 k2
          have ari : x_AR X (lo + 5) i = some (lo + 13 + 2 * i) := (gpo i (by omega)).1
          have poi : PO X (lo + 13 + 2 * i) (lo + 14 + 2 * i) := (gpo i (by omega)).2
          have w2 : ∀ j, j < gN (tG S) → AL (lo + 14 + 2 * j) = gP (tG S) j := fun j hj => by
            rw [show lo + 14 + 2 * j = lo + 4 + 10 + 2 * j by omega]; exact (hgs.2.2 j hj).2.1
          have eA : ∀ j, j < gN (tG S) → AJ (lo + 14 + 2 * j) = gP (tG S) j := fun j hj => by rw [k1 _ (by omega) (by omega)]; exact w2 j hj
          have hne : lo + 14 + 2 * i ≠ lo + 57 := by omega
          have hbt := s_becomeTurned (V := V) (d := d) (FI := FI) (AI := AI) (AL := AJ) wk poi hne hk
          rw [eA i hi] at hbt
          have hha := s_has (V := V) (d := d + 1) (AI := AI) (AL := sr AJ (lo + 57) (trn (gP (tG S) i) k)) h.go wk g0 hn7
          have ehas : (∃ j, j < gN (tG S) ∧ like (sr AJ (lo + 57) (trn (gP (tG S) i) k) (cqo lo j)) (sr AJ (lo + 57) (trn (gP (tG S) i) k) (lo + 57))) ↔ clG (tG S) k i = true := by
            unfold clG
            rw [anU_iff, sr_at]
            constructor
            · rintro ⟨j, a, b⟩
              have b' : like (sr AJ (lo + 57) (trn (gP (tG S) i) k) (lo + 14 + 2 * j)) (trn (gP (tG S) i) k) := b
              rw [sr_ne _ _ (by omega), eA j a] at b'
              exact ⟨j, a, lkB_iff.mpr (like_sy b')⟩
            · rintro ⟨j, a, b⟩
              refine ⟨j, a, ?_⟩
              show like (sr AJ (lo + 57) (trn (gP (tG S) i) k) (lo + 14 + 2 * j)) (trn (gP (tG S) i) k)
              rw [sr_ne _ _ (by omega), eA j a]
              exact like_sy (lkB_iff.mp b)
          refine G_iload4 17 d_Alg_closed_15 rfl ?_
          refine G_aload0 18 d_Alg_closed_17 rfl ?_
          refine G_getR 21 d_Alg_closed_18 rfl f_Alg_27 rfl h.sh h.f2 ?_
          refine G_getIv 24 d_Alg_closed_21 rfl f_Alg_109 rfl h.s2 g0 ?_
          first | refine G_icgeN 67 27 d_Alg_closed_24 rfl rfl (by omega) (by omega) (fun h24 => ?_) (fun h24 => ?_) | refine G_icge 67 27 d_Alg_closed_24 rfl rfl (fun h24 => ?_) (fun h24 => ?_)
          · omega
          · refine G_iload3 28 d_Alg_closed_27 rfl ?_
            refine G_ifeq 67 31 d_Alg_closed_28 rfl rfl (fun h28 => ?_) (fun h28 => ?_)
            · exact absurd h28 (by decide)
            · refine G_aload0 32 d_Alg_closed_31 rfl ?_
              refine G_getR 35 d_Alg_closed_32 rfl f_Alg_65 rfl h.sh h.f8 ?_
              refine G_aload0 36 d_Alg_closed_35 rfl ?_
              refine G_getR 39 d_Alg_closed_36 rfl f_Alg_27 rfl h.sh h.f2 ?_
              refine G_getR 42 d_Alg_closed_39 rfl f_Alg_251 rfl h.s2 gf1' ?_
              refine G_iload4 44 d_Alg_closed_42 rfl ?_
              refine G_aaload 45 d_Alg_closed_44 rfl (by assumption) (by decide) (by decide) (ix_nI (by omega) (by omega)) (by assumption) ?_
              refine G_iload2 46 d_Alg_closed_45 rfl ?_
              refine G_invV2v 49 d_Alg_closed_46 rfl e_Alg_184 M_Poly_becomeTurned rfl h.s8 (Nat.le_of_ble_eq_true rfl) (Nat.le_of_ble_eq_true rfl) rfl (hbt) ?_
              refine G_aload0 50 d_Alg_closed_49 rfl ?_
              refine G_getR 53 d_Alg_closed_50 rfl f_Alg_27 rfl h.sh h.f2 ?_
              refine G_aload0 54 d_Alg_closed_53 rfl ?_
              refine G_getR 57 d_Alg_closed_54 rfl f_Alg_65 rfl h.sh h.f8 ?_
              refine G_invV1b 60 d_Alg_closed_57 rfl e_Alg_291 M_Gen_has rfl h.s2 (Nat.le_of_ble_eq_true rfl) (Nat.le_of_ble_eq_true rfl) rfl (hha) (fun h57 => ?_) (fun h57 => ?_)
              · rw [ehas] at h57
                refine G_istore3 61 d_Alg_closed_60 rfl (by decide) rfl ?_
                first | refine G_iincN4 64 d_Alg_closed_61 rfl (by decide) rfl ?_ | refine G_iinc4 _ 64 d_Alg_closed_61 rfl (by decide) rfl rfl ?_
                refine G_goto 15 d_Alg_closed_64 rfl ?_
                refine ihi _ (fun c h1 h2 => by rw [sr_ne _ _ h1]; exact k1 c h1 h2) (fun j hj => ?_)
                by_cases e : j = i
                · rw [e]; exact h57
                · exact k2 j (by omega)
              · rw [ehas] at h57
                have hf : alU (clG (tG S) k) (gN (tG S)) = false := alU_f _ hi (Bool.eq_false_iff.mpr h57)
                refine G_istore3 61 d_Alg_closed_60 rfl (by decide) rfl ?_
                first | refine G_iincN4 64 d_Alg_closed_61 rfl (by decide) rfl ?_ | refine G_iinc4 _ 64 d_Alg_closed_61 rfl (by decide) rfl rfl ?_
                refine G_goto 15 d_Alg_closed_64 rfl ?_
                refine G_iload4 17 d_Alg_closed_15 rfl ?_
                refine G_aload0 18 d_Alg_closed_17 rfl ?_
                refine G_getR 21 d_Alg_closed_18 rfl f_Alg_27 rfl h.sh h.f2 ?_
                refine G_getIv 24 d_Alg_closed_21 rfl f_Alg_109 rfl h.s2 g0 ?_
                first | refine G_icgeN 67 27 d_Alg_closed_24 rfl rfl (by omega) (by omega) (fun h24 => ?_) (fun h24 => ?_) | refine G_icge 67 27 d_Alg_closed_24 rfl rfl (fun h24 => ?_) (fun h24 => ?_)
                · exact F hf _ _ (fun c h1 h2 => by rw [sr_ne _ _ h1]; exact k1 c h1 h2)
                · refine G_iload3 28 d_Alg_closed_27 rfl ?_
                  refine G_ifeq 67 31 d_Alg_closed_28 rfl rfl (fun h28 => ?_) (fun h28 => ?_)
                  · exact F hf _ _ (fun c h1 h2 => by rw [sr_ne _ _ h1]; exact k1 c h1 h2)
                  · exact absurd rfl h28
      refine G_iload2 5 d_Alg_closed_4 rfl ?_
      refine G_bipushN 6 7 d_Alg_closed_5 rfl rfl ?_
      first | refine G_icgeN 83 10 d_Alg_closed_7 rfl rfl (by omega) (by omega) (fun h7 => ?_) (fun h7 => ?_) | refine G_icge 83 10 d_Alg_closed_7 rfl rfl (fun h7 => ?_) (fun h7 => ?_)
      · omega
      · refine G_iconstN 1 11 d_Alg_closed_10 rfl rfl ?_
        refine G_istore3 12 d_Alg_closed_11 rfl (by decide) rfl ?_
        refine G_iconstN 0 13 d_Alg_closed_12 rfl rfl ?_
        refine G_istore4 15 d_Alg_closed_13 rfl (by decide) rfl ?_
        exact I 0 (Nat.zero_le _) AJ k1 (fun j hj => by omega)
  refine G_iconstN 0 1 d_Alg_closed_0 rfl rfl ?_
  refine G_istore1 2 d_Alg_closed_1 rfl (by decide) rfl ?_
  refine G_iconstN 0 3 d_Alg_closed_2 rfl rfl ?_
  refine G_istore2 4 d_Alg_closed_3 rfl (by decide) rfl ?_
  exact O 0 (by omega) _ _ AL (fun _ _ _ => rfl)
