/-! ===== SUBDUCTION: what it is, and how the reference does it ===== -/
theorem mp_row {AL AL' : LT} {b : Nat} (h : AL (b + 1) = AL' (b + 1)) (p : Nat) : mp AL b p = mp AL' b p := by
  funext t; unfold mp; rw [h]
def addP (f g : Nat → Int64) (c : Int64) : Nat → Int64 := fun j => f j + c * g j
theorem cu_addP (f g : Nat → Int64) (c : Int64) : cu (addP f g c) = addP (cu f) (cu g) c := by
  funext j
  show (if j < 84 then f j + c * g j else 0) = (if j < 84 then f j else 0) + c * (if j < 84 then g j else 0)
  split
  · rfl
  · rw [Int64.mul_zero, Int64.add_zero]
/-- from the places below k of ORDER on: what is left and the STEPS; none: it is WIDE -/
def apt (o n : Nat) (Ls : List Nat) (gp : Nat → Nat → Int64) : Nat → (Nat → Int64) → List (Int64 × Nat) → Option ((Nat → Int64) × List (Int64 × Nat))
  | 0, f, st => some (f, st)
  | k + 1, f, st => if f (rk o k) = 0 then apt o n Ls gp k f st else match RN Ls (rk o k) with
    | [] => apt o n Ls gp k f st
    | r :: _ => if sumA (norm f) (prodA (labs (f (rk o k))) (cost (fun g => norm (gp g)) (pw r) n)) < 0 then none else apt o n Ls gp k (addP f (prodP gp (pw r) n) (-f (rk o k))) (st ++ [(f (rk o k), r)])
theorem sumA_neg (x y : Int64) : sumA x y < 0 ↔ sumA x y = -1 := by
  constructor
  · intro h
    unfold sumA at h ⊢
    split at h
    · next c => rw [if_pos c]
    · next c =>
      exfalso
      have c1 : ¬ x < 0 := fun e => c (Or.inl e)
      have c2 : ¬ y < 0 := fun e => c (Or.inr (Or.inl e))
      have c3 : ¬ (9223372036854775807 - y < x) := fun e => c (Or.inr (Or.inr e))
      rw [Int64.lt_iff_toInt_lt] at h c1 c2 c3
      have h1 := Int64.toInt_lt x
      have h2 := Int64.toInt_lt y
      have z : (0 : Int64).toInt = 0 := rfl
      have m : (9223372036854775807 : Int64).toInt = 9223372036854775807 := rfl
      rw [Int64.toInt_sub, m, Int.bmod_eq_of_le_mul_two (by omega) (by omega)] at c3
      rw [Int64.toInt_add, Int.bmod_eq_of_le_mul_two (by omega) (by omega)] at h
      omega
  · intro h; rw [h]; decide
theorem vdeg_sum : ∀ (Ls v : List Nat), vdeg Ls v = vsum eD Ls v
  | [], _ => by cases ‹List Nat› <;> rfl
  | l :: Ls, [] => rfl
  | l :: Ls, p :: v => by
    show p * eD l + vdeg Ls v = p * eD l + vsum eD Ls v
    rw [vdeg_sum Ls v]
theorem rdeg_sm (gl : Nat → Nat) (r : Nat) : ∀ k, rdeg gl r k = sm (fun j => pw r j * eD (gl j)) k
  | 0 => rfl
  | k + 1 => by rw [rdeg, sm, rdeg_sm gl r k]
/-- what is known of a ROW, as a number -/
theorem RN_ok {gl : Nat → Nat} {n t i r : Nat} (hn : n ≤ 7) (hl : ∀ i, i < n → gl i < 84 ∧ 1 ≤ eD (gl i)) (h : (RN (leadL gl n) t)[i]? = some r) : r < 2097152 ∧ rdeg gl r n ≤ 6 ∧ (∀ g, n ≤ g → g < 7 → pw r g = 0) ∧ ∀ g, g < n → pw r g ≤ 6 := by
  obtain ⟨v, hv, rfl⟩ := RN_get h
  obtain ⟨a, b, c, d, e, f⟩ := RT_ok hn hl hv
  refine ⟨e, ?_, fun g h1 h2 => ?_, fun g hg => ?_⟩
  · rw [rdeg_sm, sm_congr (w' := fun j => v.getD j 0 * eD ((leadL gl n).getD j 0)) (fun j hj => by rw [f j (by omega), leadL_getD gl hj])]
    rw [vdeg_sum, vsum_sm _ _ _ (by rw [leadL_len]; exact a), leadL_len] at b
    exact b
  · rw [f g h2, List.getD_eq_getElem?_getD, List.getElem?_eq_none (by omega)]; rfl
  · rw [f g (by omega)]
    exact Nat.le_trans (vdeg_le1 (leadL gl n) v g (fun l hm => (leadL_all hl l hm).2) (by rw [leadL_len]; exact a)) b
/-- the STEPS lie in rows -/
def STs (AI : FT) (AL : LT) (ac ar : Nat) (st : List (Int64 × Nat)) : Prop := ∀ i q, st[i]? = some q → AL ac i = q.1 ∧ ∀ h, h < 7 → AI ar (7 * i + h) = nI (pw q.2 h)
/-- what SUBDUCTION leaves alone -/
def apF (FI FI' AI AI' : FT) (AL AL' : LT) (b : Nat) : Prop :=
  (∀ c j, ¬ (c = b ∧ (j = 20 ∨ j = 30)) → FI' c j = FI c j) ∧ (∀ c, c ≠ b + 17 → (c < b + 22 ∨ b + 27 < c) → AI' c = AI c) ∧ (∀ j, j < 14 ∨ 21 ≤ j → AI' (b + 27) j = AI (b + 27) j) ∧ (∀ c, c ≠ b + 1 → c ≠ b + 16 → AL' c = AL c) ∧ ∀ p, p < 20 → p ≠ 13 → p ≠ 14 → p ≠ 15 → p ≠ 18 → mp AL' b p = mp AL b p
theorem apF.rf {FI AI : FT} {AL : LT} {b : Nat} : apF FI FI AI AI AL AL b := ⟨fun _ _ _ => rfl, fun _ _ _ => rfl, fun _ _ => rfl, fun _ _ _ => rfl, fun _ _ _ _ _ _ => rfl⟩
theorem apF.tr {FI FI1 FI2 AI AI1 AI2 : FT} {AL AL1 AL65 : LT} {b : Nat} (h : apF FI FI1 AI AI1 AL AL1 b) (k : apF FI1 FI2 AI1 AI2 AL1 AL65 b) : apF FI FI2 AI AI2 AL AL65 b :=
  ⟨fun c j hc => (k.1 c j hc).trans (h.1 c j hc), fun c h1 h2 => (k.2.1 c h1 h2).trans (h.2.1 c h1 h2), fun j hj => (k.2.2.1 j hj).trans (h.2.2.1 j hj), fun c h1 h2 => (k.2.2.2.1 c h1 h2).trans (h.2.2.2.1 c h1 h2), fun p a1 a2 a3 a4 a5 => (k.2.2.2.2 p a1 a2 a3 a4 a5).trans (h.2.2.2.2 p a1 a2 a3 a4 a5)⟩
/-- GENERATORS as the reference has them, and ORDER -/
def MGn (FI AI : FT) (AL : LT) (b o n : Nat) (gl : Nat → Nat) (gp : Nat → Nat → Int64) : Prop :=
  MTb AI b ∧ FI b 9 = nI n ∧ n ≤ 7 ∧ MGl AI b n gl ∧ (∀ g, g < n → mp AL b (6 + g) = gp g ∧ dgb (gp g) (eD (gl g))) ∧ o < 3 ∧ ∀ k, k < 84 → AI (b + 7) k = nI (rk o k)
theorem MGn.ap {FI FI' AI AI' : FT} {AL AL' : LT} {b o n : Nat} {gl : Nat → Nat} {gp : Nat → Nat → Int64} (h : MGn FI AI AL b o n gl gp) (k : apF FI FI' AI AI' AL AL' b) : MGn FI' AI' AL' b o n gl gp := by
  obtain ⟨h1, h2, h3, h4, h5, h6, h7⟩ := h
  obtain ⟨k1, k2, k3, k4, k5⟩ := k
  refine ⟨⟨fun s hs => ?_, fun x y z hs => ?_⟩, ?_, h3, fun i hi => ?_, fun g hg => ?_, h6, fun j hj => ?_⟩
  · rw [k2 _ (by omega) (by omega), k2 _ (by omega) (by omega), k2 _ (by omega) (by omega)]; exact h1.1 s hs
  · rw [k2 _ (by omega) (by omega)]; exact h1.2 x y z hs
  · rw [k1 b 9 (by omega)]; exact h2
  · rw [k2 _ (by omega) (by omega)]; exact h4 i hi
  · rw [k5 _ (by omega) (by omega) (by omega) (by omega) (by omega)]; exact h5 g hg
  · rw [k2 _ (by omega) (by omega)]; exact h7 j hj
theorem s_mTakeStep {V : GV} {d b o n t k : Nat} {c : Int64} {gl : Nat → Nat} {gp : Nat → Nat → Int64} {st : List (Int64 × Nat)} {X : XT} {FI AI : FT} {AL : LT} (h : MO X b) (hG : MGn FI AI AL b o n gl gp) (ht : t < 84) (hk : st.length = k) (hk2 : k < 84) (hs : FI b 20 = nI k) (hst : STs AI AL (b + 16) (b + 17) st) :
    G V m_Mod_takeStep (d + 4) 0 [some (.ref b), some (.int (nI t)), some (.long c), none, none, none, none] [] X FI AI AL (fun r X' FI' AI' AL' => X' = X ∧ apF FI FI' AI AI' AL AL' b ∧ match RN (leadL gl n) t with
      | [] => r = some (.int 1) ∧ FI' b 20 = nI k ∧ STs AI' AL' (b + 16) (b + 17) st ∧ mp AL' b 18 = mp AL b 18
      | w :: _ => if sumA (norm (mp AL b 18)) (prodA (labs c) (cost (fun g => norm (gp g)) (pw w) n)) < 0 then r = some (.int 0) else r = some (.int 1) ∧ FI' b 20 = nI (k + 1) ∧ STs AI' AL' (b + 16) (b + 17) (st ++ [(c, w)]) ∧ mp AL' b 18 = addP (mp AL b 18) (prodP gp (pw w) n) (-c)) := by
  obtain ⟨hT, hn, hn7, hgl, hgp, ho, hrk⟩ := hG
  have hgl2 : ∀ i, i < n → gl i < 84 ∧ 1 ≤ eD (gl i) := fun i hi => (hgl i hi).2
  have hlay := s_mLayTo (V := V) (d := d + 1) (lim := 1) (FI := FI) (AL := AL) h hT ht hn7 (by omega) (by omega) hgl
  refine G_aload0 1 d_Mod_takeStep_0 rfl ?_
  refine G_iload1 2 d_Mod_takeStep_1 rfl ?_
  refine G_aload0 3 d_Mod_takeStep_2 rfl ?_
  refine G_getIv 6 d_Mod_takeStep_3 rfl f_Mod_133 rfl h.sh hn ?_
  refine G_iconstN 1 7 d_Mod_takeStep_6 rfl rfl ?_
  refine G_invV3 10 d_Mod_takeStep_7 rfl e_Mod_315 M_Mod_layRowsTo rfl h.sh (Nat.le_of_ble_eq_true rfl) (Nat.le_of_ble_eq_true rfl) rfl (G.conseq (hlay) (fun r X1 FI1 AI1 AL1 h7 => ?_))
  obtain ⟨hr7, hX7, hL7, hF7, hN7⟩ := h7
  replace hX7 := hX7.symm
  replace hL7 := hL7.symm
  subst hr7 hX7 hL7 hF7
  have ap1 : apF FI (u2 FI b 30 (nI ((RN (leadL gl n) t).take 1).length)) AI AI1 AL AL b :=
    ⟨fun c j hc => by
      by_cases e : c = b
      · subst e; exact u2_ix _ _ (fun e2 => hc ⟨rfl, Or.inr e2⟩)
      · exact u2_ne _ _ _ _ e, fun c h1 h2 => hN7.1 c (by omega), fun j _ => by rw [hN7.1 _ (by omega)], fun _ _ _ => rfl, fun _ _ _ _ _ _ => rfl⟩
  have fr : u2 FI b 30 (nI ((RN (leadL gl n) t).take 1).length) b 30 = nI ((RN (leadL gl n) t).take 1).length := u2_at _ _ _ _
  cases hR : RN (leadL gl n) t with
  | nil =>
    rw [hR] at ap1 fr
    simp only [List.take_nil, List.length_nil] at ap1 fr ⊢
    refine G_aload0 11 d_Mod_takeStep_10 rfl ?_
    refine G_getIv 14 d_Mod_takeStep_11 rfl f_Mod_301 rfl h.sh fr ?_
    refine G_ifne 19 17 d_Mod_takeStep_14 rfl rfl (fun h14 => ?_) (fun h14 => ?_)
    · exact absurd rfl h14
    · refine G_iconstN 1 18 d_Mod_takeStep_17 rfl rfl ?_
      refine G_zret d_Mod_takeStep_18 rfl ?_ ?_
      · first | exact Or.inl rfl | exact Or.inr rfl
      · exact ⟨rfl, ap1, rfl, by rw [u2_ix _ _ (by omega)]; exact hs, fun i q hq => ⟨(hst i q hq).1, fun f hf => by rw [hN7.1 _ (by omega)]; exact (hst i q hq).2 f hf⟩, rfl⟩
  | cons w ws =>
    have hw0 : (RN (leadL gl n) t)[0]? = some w := by rw [hR]; rfl
    obtain ⟨w1, w2, w3, w4⟩ := RN_ok hn7 hgl2 hw0
    rw [hR] at ap1 fr hN7
    simp only [List.take_succ_cons, List.take_zero, List.length_singleton] at ap1 fr hN7 ⊢
    have hrow : ∀ f, f < 7 → AI1 (b + 22) f = nI (pw w f) := fun f hf => by
      have := hN7.2 0 w rfl f hf
      rwa [Nat.mul_zero, Nat.zero_add] at this
    have htk := s_mTakeRow (V := V) (d := d + 3) (c := b + 22) (n := 896) (i := 0) (w := 2) (FI := u2 FI b 30 (nI 1)) (AI := AI1) (AL := AL) h h.s31 (by omega) (by omega) (by omega) (by omega)
    generalize hA2 : sr AI1 (b + 27) (fun j => if 7 * 2 ≤ j ∧ j < 7 * 2 + 7 then AI1 (b + 22) (7 * 0 + (j - 7 * 2)) else AI1 (b + 27) j) = AI2 at htk
    have hW : ∀ g, g < 7 → AI2 (b + 27) (7 * 2 + g) = nI (pw w g) := fun g hg => by
      rw [← hA2, sr_at, if_pos (by omega), show 7 * 0 + (7 * 2 + g - 7 * 2) = g by omega]
      exact hrow g hg
    have hA2o : ∀ c, c ≠ b + 27 → AI2 c = AI1 c := fun c hc => by rw [← hA2]; exact sr_ne _ _ hc
    have ap2 : apF FI (u2 FI b 30 (nI 1)) AI AI2 AL AL b := ap1.tr ⟨fun _ _ _ => rfl, fun c h1 h2 => hA2o c (by omega), fun j hj => by rw [← hA2, sr_at, if_neg (by omega)], fun _ _ _ => rfl, fun _ _ _ _ _ _ => rfl⟩
    have hG2 : MGn (u2 FI b 30 (nI 1)) AI2 AL b o n gl gp := MGn.ap ⟨hT, hn, hn7, hgl, hgp, ho, hrk⟩ ap2
    obtain ⟨hT2, hn2, -, -, hgp2, -, -⟩ := hG2
    have hco := s_mCost (V := V) (d := d + 1) (w := 2) (P := pw w) (AL := AL) h hn2 hn7 (by omega) (fun g hg => ⟨hW g (by omega), pw_lt _ _⟩)
    have hcg : cost (fun g => norm (mp AL b (6 + g))) (pw w) n = cost (fun g => norm (gp g)) (pw w) n := cost_congr (fun i hi => by rw [(hgp i hi).1]) (fun _ _ => rfl)
    rw [hcg] at hco
    have hpr := s_mProduct (V := V) (d := d) (p := 13) (w := 2) (r := w) (gl := gl) (AL := AL) h hT2 hn2 hn7 (by omega) (fun g hg => hW g (by omega)) (by omega) (by omega) (by omega) (fun g hg => by rw [(hgp g hg).1]; exact (hgp g hg).2) w2
    rw [prodP_cu2 n (ps' := gp) (P' := pw w) (fun i hi => by rw [(hgp i hi).1]) (fun _ _ => rfl)] at hpr
    refine G_aload0 11 d_Mod_takeStep_10 rfl ?_
    refine G_getIv 14 d_Mod_takeStep_11 rfl f_Mod_301 rfl h.sh fr ?_
    refine G_ifne 19 17 d_Mod_takeStep_14 rfl rfl (fun h14 => ?_) (fun h14 => ?_)
    · refine G_aload0 20 d_Mod_takeStep_19 rfl ?_
      refine G_aload0 21 d_Mod_takeStep_20 rfl ?_
      refine G_getR 24 d_Mod_takeStep_21 rfl f_Mod_76 rfl h.sh h.f31 ?_
      refine G_iconstN 0 25 d_Mod_takeStep_24 rfl rfl ?_
      refine G_iconstN 2 26 d_Mod_takeStep_25 rfl rfl ?_
      refine G_invV3v 29 d_Mod_takeStep_26 rfl e_Mod_334 M_Mod_takeRow rfl h.sh (Nat.le_of_ble_eq_true rfl) (Nat.le_of_ble_eq_true rfl) rfl (htk) ?_
      refine G_aload0 30 d_Mod_takeStep_29 rfl ?_
      refine G_bipushN 18 32 d_Mod_takeStep_30 rfl rfl ?_
      refine G_invV1d 35 d_Mod_takeStep_32 rfl e_Mod_194 M_Mod_normOf rfl h.sh (Nat.le_of_ble_eq_true rfl) (Nat.le_of_ble_eq_true rfl) rfl (s_mNorm (by assumption) (by omega)) ?_
      refine G_lload2 36 d_Mod_takeStep_35 rfl ?_
      refine G_invS1d 39 d_Mod_takeStep_36 rfl e_Mod_158 M_Mod_size (Nat.le_of_ble_eq_true rfl) (Nat.le_of_ble_eq_true rfl) rfl (s_mSize) ?_
      refine G_aload0 40 d_Mod_takeStep_39 rfl ?_
      refine G_iconstN 2 41 d_Mod_takeStep_40 rfl rfl ?_
      refine G_invV1d 44 d_Mod_takeStep_41 rfl e_Mod_338 M_Mod_costOf rfl h.sh (Nat.le_of_ble_eq_true rfl) (Nat.le_of_ble_eq_true rfl) rfl (hco) ?_
      refine G_invS2d 47 d_Mod_takeStep_44 rfl e_Mod_205 M_Mod_timesUp (Nat.le_of_ble_eq_true rfl) (Nat.le_of_ble_eq_true rfl) rfl (s_mTimesUp) ?_
      refine G_invS2d 50 d_Mod_takeStep_47 rfl e_Mod_198 M_Mod_plusUp (Nat.le_of_ble_eq_true rfl) (Nat.le_of_ble_eq_true rfl) rfl (s_mPlusUp) ?_
      refine G_lstore4 52 d_Mod_takeStep_50 rfl (by decide) rfl ?_
      refine G_lload4 54 d_Mod_takeStep_52 rfl ?_
      refine G_lconst 0 55 d_Mod_takeStep_54 rfl rfl ?_
      refine G_lcge 61 59 d_Mod_takeStep_55 d_Mod_takeStep_56 rfl rfl (fun h55 => ?_) (fun h55 => ?_)
      · -- it goes on
        have hlt : ¬ sumA (norm (mp AL b 18)) (prodA (labs c) (cost (fun g => norm (gp g)) (pw w) n)) < 0 := h55
        simp only [if_neg hlt]
        refine G_aload0 62 d_Mod_takeStep_61 rfl ?_
        refine G_iconstN 2 63 d_Mod_takeStep_62 rfl rfl ?_
        refine G_bipushN 13 65 d_Mod_takeStep_63 rfl rfl ?_
        refine G_invV2 68 d_Mod_takeStep_65 rfl e_Mod_341 M_Mod_productTo rfl h.sh (Nat.le_of_ble_eq_true rfl) (Nat.le_of_ble_eq_true rfl) rfl (G.conseq (hpr) (fun r65 X65 FI65 AI65 AL65 h65 => ?_))
        obtain ⟨hr, hX, hF, hA, hk5, h13⟩ := h65
        replace hX := hX.symm
        replace hF := hF.symm
        replace hA := hA.symm
        subst hr hX hF hA
        have fs : u2 FI b 30 (nI 1) b 20 = nI k := by rw [u2_ix _ _ (by omega)]; exact hs
        have m18 : mp AL65 b 18 = mp AL b 18 := hk5.2 18 (by omega) (by omega)
        have m13 : mp AL65 b 13 = prodP gp (pw w) n := h13
        refine G_aload0 69 d_Mod_takeStep_68 rfl ?_
        refine G_bipushN 18 71 d_Mod_takeStep_69 rfl rfl ?_
        refine G_bipushN 13 73 d_Mod_takeStep_71 rfl rfl ?_
        refine G_lload2 74 d_Mod_takeStep_73 rfl ?_
        refine G_lneg 75 d_Mod_takeStep_74 rfl ?_
        refine G_invV3v 78 d_Mod_takeStep_75 rfl e_Mod_212 M_Mod_addTo rfl h.sh (Nat.le_of_ble_eq_true rfl) (Nat.le_of_ble_eq_true rfl) rfl (s_mAdd (by assumption) (by omega) (by omega)) ?_
        refine G_aload0 79 d_Mod_takeStep_78 rfl ?_
        refine G_getR 82 d_Mod_takeStep_79 rfl f_Mod_58 rfl h.sh h.f21 ?_
        refine G_aload0 83 d_Mod_takeStep_82 rfl ?_
        refine G_getIv 86 d_Mod_takeStep_83 rfl f_Mod_327 rfl h.sh fs ?_
        refine G_lload2 87 d_Mod_takeStep_86 rfl ?_
        refine G_lastore 88 d_Mod_takeStep_87 rfl h.s21 (ix_nI (by omega) (by omega)) ?_
        rw [m18, m13]
        generalize hL3 : u2 (sp AL65 b 18 (fun j => mp AL b 18 j + -c * prodP gp (pw w) n j)) (b + 16) k c = AL3
        have hcL3 : ∀ q, q ≠ b + 16 → AL3 q = sp AL65 b 18 (fun j => mp AL b 18 j + -c * prodP gp (pw w) n j) q := fun q hq => by rw [← hL3]; exact u2_off _ _ _ hq
        have L : ∀ f, f ≤ 7 → ∀ AJ : FT, (∀ c, c ≠ b + 17 → AJ c = AI2 c) → (∀ j, j < 7 * k → AJ (b + 17) j = AI2 (b + 17) j) → (∀ g, g < f → AJ (b + 17) (7 * k + g) = nI (pw w g)) → G V m_Mod_takeStep (d + 4) 91 [some (.ref b), some (.int (nI t)), some (.long c), none, some (.long (sumA (norm (mp AL b 18)) (prodA (labs c) (cost (fun g => norm (gp g)) (pw w) n)))), none, some (.int (nI f))] [] X (u2 FI b 30 (nI 1)) AJ AL3 (fun r X' FI' AI' AL' => X' = X ∧ apF FI FI' AI AI' AL AL' b ∧ r = some (.int 1) ∧ FI' b 20 = nI (k + 1) ∧ STs AI' AL' (b + 16) (b + 17) (st ++ [(c, w)]) ∧ mp AL' b 18 = addP (mp AL b 18) (prodP gp (pw w) n) (-c)) := by
          refine upto ?_ ?_
          · intro AJ j1 j2 j3
            refine G_iload6 93 d_Mod_takeStep_91 rfl ?_
            refine G_bipushN 7 95 d_Mod_takeStep_93 rfl rfl ?_
            first | refine G_icgeN 129 98 d_Mod_takeStep_95 rfl rfl (by omega) (by omega) (fun h95 => ?_) (fun h95 => ?_) | refine G_icge 129 98 d_Mod_takeStep_95 rfl rfl (fun h95 => ?_) (fun h95 => ?_)
            · refine G_aload0 130 d_Mod_takeStep_129 rfl ?_
              refine G_dup 131 d_Mod_takeStep_130 rfl rfl ?_
              refine G_getIv 134 d_Mod_takeStep_131 rfl f_Mod_327 rfl h.sh fs ?_
              refine G_iconstN 1 135 d_Mod_takeStep_134 rfl rfl ?_
              first | refine G_iaddN 136 d_Mod_takeStep_135 rfl ?_ | refine G_iadd 136 d_Mod_takeStep_135 rfl ?_
              refine G_putI 139 d_Mod_takeStep_136 rfl f_Mod_327 rfl (by intro C T N h; cases h; rfl) h.sh rfl rfl ?_
              refine G_iconstN 1 140 d_Mod_takeStep_139 rfl rfl ?_
              refine G_zret d_Mod_takeStep_140 rfl ?_ ?_
              · first | exact Or.inl rfl | exact Or.inr rfl
              · refine ⟨rfl, ap2.tr ⟨fun c j hc => ?_, fun c h1 h2 => j1 c h1, fun j hj => by rw [j1 _ (by omega)], fun c h1 h2 => ?_, fun p q1 q2 q3 q4 q5 => ?_⟩, rfl, u2_at _ _ _ _, fun i q hq => ?_, ?_⟩
                · by_cases e : c = b
                  · subst e; exact u2_ix _ _ (fun e2 => hc ⟨rfl, Or.inl e2⟩)
                  · exact u2_ne _ _ _ _ e
                · rw [hcL3 c h2, sp_off h1]; exact hk5.1 c h1
                · have : mp AL3 b p = mp (sp AL65 b 18 (fun j => mp AL b 18 j + -c * prodP gp (pw w) n j)) b p := mp_row (hcL3 _ (by omega)) _
                  rw [this, mp_spn q5]
                  exact hk5.2 p q1 (by omega)
                · by_cases ci : i < k
                  · rw [List.getElem?_append_left (by omega)] at hq
                    obtain ⟨z1, z2⟩ := hst i q hq
                    refine ⟨?_, fun f hf => ?_⟩
                    · rw [← hL3, u2_ix _ _ (by omega), sp_off (by omega), hk5.1 _ (by omega)]; exact z1
                    · rw [j2 _ (by omega), hA2o _ (by omega), hN7.1 _ (by omega)]; exact z2 f hf
                  · rw [List.getElem?_append_right (by omega)] at hq
                    have hi0 : i - st.length = 0 := by
                      have := (List.getElem?_eq_some_iff.mp hq).1
                      simp only [List.length_singleton] at this
                      omega
                    rw [hi0] at hq
                    simp only [List.getElem?_cons_zero, Option.some.injEq] at hq
                    subst hq
                    rw [show i = k by omega]
                    exact ⟨by rw [← hL3, u2_at], fun f hf => j3 f hf⟩
                · have : mp AL3 b 18 = mp (sp AL65 b 18 (fun j => mp AL b 18 j + -c * prodP gp (pw w) n j)) b 18 := mp_row (hcL3 _ (by omega)) _
                  rw [this, mp_sp]
                  have := cu_addP (mp AL b 18) (prodP gp (pw w) n) (-c)
                  rw [mp_cu, prodP_cu] at this
                  exact this
            · omega
          · intro f hf ih AJ j1 j2 j3
            have e0 : AJ (b + 27) (14 + f) = nI (pw w f) := by rw [j1 _ (by omega)]; exact hW f hf
            refine G_iload6 93 d_Mod_takeStep_91 rfl ?_
            refine G_bipushN 7 95 d_Mod_takeStep_93 rfl rfl ?_
            first | refine G_icgeN 129 98 d_Mod_takeStep_95 rfl rfl (by omega) (by omega) (fun h95 => ?_) (fun h95 => ?_) | refine G_icge 129 98 d_Mod_takeStep_95 rfl rfl (fun h95 => ?_) (fun h95 => ?_)
            · omega
            · refine G_aload0 99 d_Mod_takeStep_98 rfl ?_
              refine G_getR 102 d_Mod_takeStep_99 rfl f_Mod_61 rfl h.sh h.f22 ?_
              refine G_bipushN 7 104 d_Mod_takeStep_102 rfl rfl ?_
              refine G_aload0 105 d_Mod_takeStep_104 rfl ?_
              refine G_getIv 108 d_Mod_takeStep_105 rfl f_Mod_327 rfl h.sh fs ?_
              first | refine G_imulN 109 d_Mod_takeStep_108 rfl ?_ | refine G_imul 109 d_Mod_takeStep_108 rfl ?_
              refine G_iload6 111 d_Mod_takeStep_109 rfl ?_
              first | refine G_iaddN 112 d_Mod_takeStep_111 rfl ?_ | refine G_iadd 112 d_Mod_takeStep_111 rfl ?_
              refine G_aload0 113 d_Mod_takeStep_112 rfl ?_
              refine G_getR 116 d_Mod_takeStep_113 rfl f_Mod_91 rfl h.sh h.f36 ?_
              refine G_bipushN 14 118 d_Mod_takeStep_116 rfl rfl ?_
              refine G_iload6 120 d_Mod_takeStep_118 rfl ?_
              first | refine G_iaddN 121 d_Mod_takeStep_120 rfl ?_ | refine G_iadd 121 d_Mod_takeStep_120 rfl ?_
              refine G_ialoadv 122 d_Mod_takeStep_121 rfl h.s36 (ix_nI (by omega) (by omega)) e0 ?_
              refine G_iastore 123 d_Mod_takeStep_122 rfl h.s22 (ix_nI (by omega) (by omega)) ?_
              first | refine G_iincN6 126 d_Mod_takeStep_123 rfl (by decide) rfl ?_ | refine G_iinc6 _ 126 d_Mod_takeStep_123 rfl (by decide) rfl rfl ?_
              refine G_goto 91 d_Mod_takeStep_126 rfl ?_
              refine ih _ (fun c hc => by rw [u2_off _ _ _ hc]; exact j1 c hc) (fun j hj => by rw [u2_ix _ _ (by omega)]; exact j2 j hj) (fun g hg => ?_)
              by_cases e : g = f
              · subst e; exact u2_at _ _ _ _
              · rw [u2_ix _ _ (by omega)]; exact j3 g (by omega)
        refine G_iconstN 0 89 d_Mod_takeStep_88 rfl rfl ?_
        refine G_istore6 91 d_Mod_takeStep_89 rfl (by decide) rfl ?_
        exact L 0 (Nat.zero_le _) AI2 (fun _ _ => rfl) (fun _ _ => rfl) (fun g hg => by omega)
      · have hlt : sumA (norm (mp AL b 18)) (prodA (labs c) (cost (fun g => norm (gp g)) (pw w) n)) < 0 := h55
        simp only [if_pos hlt]
        refine G_iconstN 0 60 d_Mod_takeStep_59 rfl rfl ?_
        refine G_zret d_Mod_takeStep_60 rfl ?_ ?_
        · first | exact Or.inl rfl | exact Or.inr rfl
        · exact ⟨rfl, ap2, rfl⟩
    · exact absurd h14 (by decide)
theorem s_mTakeApart {V : GV} {d b o n : Nat} {gl : Nat → Nat} {gp : Nat → Nat → Int64} {X : XT} {FI AI : FT} {AL : LT} (h : MO X b) (hG : MGn FI AI AL b o n gl gp) :
    G V m_Mod_takeApart (d + 5) 0 [some (.ref b), none, none, none, none] [] X FI AI AL (fun r X' FI' AI' AL' => X' = X ∧ apF FI FI' AI AI' AL AL' b ∧ match apt o n (leadL gl n) gp 84 (mp AL b 18) [] with
      | none => r = some (.int 0)
      | some q => r = some (.int 1) ∧ FI' b 20 = nI q.2.length ∧ STs AI' AL' (b + 16) (b + 17) q.2 ∧ mp AL' b 18 = q.1 ∧ q.2.length ≤ 84) := by
  have L : ∀ k, k ≤ 84 → ∀ (FJ AJ : FT) (BJ : LT) (st : List (Int64 × Nat)) (l2 l3 l4 : Option Value), apF FI FJ AI AJ AL BJ b → FJ b 20 = nI st.length → STs AJ BJ (b + 16) (b + 17) st → st.length + k ≤ 84 → apt o n (leadL gl n) gp k (mp BJ b 18) st = apt o n (leadL gl n) gp 84 (mp AL b 18) [] →
      G V m_Mod_takeApart (d + 5) 8 [some (.ref b), some (.int (dI k)), l2, l3, l4] [] X FJ AJ BJ (fun r X' FI' AI' AL' => X' = X ∧ apF FI FI' AI AI' AL AL' b ∧ match apt o n (leadL gl n) gp 84 (mp AL b 18) [] with
      | none => r = some (.int 0)
      | some q => r = some (.int 1) ∧ FI' b 20 = nI q.2.length ∧ STs AI' AL' (b + 16) (b + 17) q.2 ∧ mp AL' b 18 = q.1 ∧ q.2.length ≤ 84) := by
    refine downto ?_ ?_
    · intro _ FJ AJ BJ st l2 l3 l4 hF hs hst hlen hap
      rw [← hap]
      refine G_iload1 9 d_Mod_takeApart_8 rfl ?_
      first | refine G_ifltD 53 12 d_Mod_takeApart_9 rfl rfl (by omega) (fun h9 => ?_) (fun j h9 => ?_) | refine G_iflt 53 12 d_Mod_takeApart_9 rfl rfl (fun h9 => ?_) (fun h9 => ?_)
      · refine G_iconstN 1 54 d_Mod_takeApart_53 rfl rfl ?_
        refine G_zret d_Mod_takeApart_54 rfl ?_ ?_
        · first | exact Or.inl rfl | exact Or.inr rfl
        · exact ⟨rfl, hF, rfl, hs, hst, rfl, by simp only; omega⟩
      · omega
    · intro k ih hk FJ AJ BJ st l2 l3 l4 hF hs hst hlen hap
      have hGJ := hG.ap hF
      have hGJ0 := hGJ
      obtain ⟨hT, hn, hn7, hgl, hgp, ho, hrk⟩ := hGJ
      have e1 := hrk k (by omega)
      have e2 := (rk_ok o ho k (by omega)).2.2.1
      have e3 : BJ (b + 1) (1512 + rk o k) = mp BJ b 18 (rk o k) := by rw [mp_at e2]
      rw [apt] at hap
      rw [dI_s]
      by_cases hz : mp BJ b 18 (rk o k) = 0
      · rw [if_pos hz] at hap
        refine G_iload1 9 d_Mod_takeApart_8 rfl ?_
        first | refine G_ifltD 53 12 d_Mod_takeApart_9 rfl rfl (by omega) (fun h9 => ?_) (fun j h9 => ?_) | refine G_iflt 53 12 d_Mod_takeApart_9 rfl rfl (fun h9 => ?_) (fun h9 => ?_)
        · exact absurd h9 (nI_pos (by omega))
        · refine G_aload0 13 d_Mod_takeApart_12 rfl ?_
          refine G_getR 16 d_Mod_takeApart_13 rfl f_Mod_31 rfl h.sh h.f6 ?_
          refine G_iload1 17 d_Mod_takeApart_16 rfl ?_
          refine G_ialoadv 18 d_Mod_takeApart_17 rfl h.s6 (ix_nI (by omega) (by omega)) e1 ?_
          refine G_istore2 19 d_Mod_takeApart_18 rfl (by decide) rfl ?_
          refine G_aload0 20 d_Mod_takeApart_19 rfl ?_
          refine G_getR 23 d_Mod_takeApart_20 rfl f_Mod_9 rfl h.sh h.f0 ?_
          refine G_sipushN 1512 26 d_Mod_takeApart_23 rfl rfl ?_
          refine G_iload2 27 d_Mod_takeApart_26 rfl ?_
          first | refine G_iaddN 28 d_Mod_takeApart_27 rfl ?_ | refine G_iadd 28 d_Mod_takeApart_27 rfl ?_
          refine G_laloadv 29 d_Mod_takeApart_28 rfl h.s0 (ix_nI (by omega) (by omega)) e3 ?_
          refine G_lstore3 30 d_Mod_takeApart_29 rfl (by decide) rfl ?_
          refine G_lload3 31 d_Mod_takeApart_30 rfl ?_
          refine G_lconst 0 32 d_Mod_takeApart_31 rfl rfl ?_
          refine G_lceq 47 36 d_Mod_takeApart_32 d_Mod_takeApart_33 rfl rfl (fun h32 => ?_) (fun h32 => ?_)
          · first | refine G_iinc1 _ 50 d_Mod_takeApart_47 rfl (by decide) rfl (dI_m1 _) ?_ | refine G_iinc1 _ 50 d_Mod_takeApart_47 rfl (by decide) rfl rfl ?_
            refine G_goto 8 d_Mod_takeApart_50 rfl ?_
            exact ih (by omega) FJ AJ BJ st _ _ _ hF hs hst (by omega) hap
          · exact absurd hz h32
      · rw [if_neg hz] at hap
        have hts := s_mTakeStep (V := V) (d := d) (t := rk o k) (c := mp BJ b 18 (rk o k)) (st := st) h hGJ0 e2 rfl (by omega) hs hst
        refine G_iload1 9 d_Mod_takeApart_8 rfl ?_
        first | refine G_ifltD 53 12 d_Mod_takeApart_9 rfl rfl (by omega) (fun h9 => ?_) (fun j h9 => ?_) | refine G_iflt 53 12 d_Mod_takeApart_9 rfl rfl (fun h9 => ?_) (fun h9 => ?_)
        · exact absurd h9 (nI_pos (by omega))
        · refine G_aload0 13 d_Mod_takeApart_12 rfl ?_
          refine G_getR 16 d_Mod_takeApart_13 rfl f_Mod_31 rfl h.sh h.f6 ?_
          refine G_iload1 17 d_Mod_takeApart_16 rfl ?_
          refine G_ialoadv 18 d_Mod_takeApart_17 rfl h.s6 (ix_nI (by omega) (by omega)) e1 ?_
          refine G_istore2 19 d_Mod_takeApart_18 rfl (by decide) rfl ?_
          refine G_aload0 20 d_Mod_takeApart_19 rfl ?_
          refine G_getR 23 d_Mod_takeApart_20 rfl f_Mod_9 rfl h.sh h.f0 ?_
          refine G_sipushN 1512 26 d_Mod_takeApart_23 rfl rfl ?_
          refine G_iload2 27 d_Mod_takeApart_26 rfl ?_
          first | refine G_iaddN 28 d_Mod_takeApart_27 rfl ?_ | refine G_iadd 28 d_Mod_takeApart_27 rfl ?_
          refine G_laloadv 29 d_Mod_takeApart_28 rfl h.s0 (ix_nI (by omega) (by omega)) e3 ?_
          refine G_lstore3 30 d_Mod_takeApart_29 rfl (by decide) rfl ?_
          refine G_lload3 31 d_Mod_takeApart_30 rfl ?_
          refine G_lconst 0 32 d_Mod_takeApart_31 rfl rfl ?_
          refine G_lceq 47 36 d_Mod_takeApart_32 d_Mod_takeApart_33 rfl rfl (fun h32 => ?_) (fun h32 => ?_)
          · exact absurd h32 hz
          · refine G_aload0 37 d_Mod_takeApart_36 rfl ?_
            refine G_iload2 38 d_Mod_takeApart_37 rfl ?_
            refine G_lload3 39 d_Mod_takeApart_38 rfl ?_
            refine G_invV2 42 d_Mod_takeApart_39 rfl e_Mod_330 M_Mod_takeStep rfl h.sh (Nat.le_of_ble_eq_true rfl) (Nat.le_of_ble_eq_true rfl) rfl (G.conseq (hts) (fun r39 X39 FI39 AI39 AL39 h39 => ?_))
            obtain ⟨hX, hF2, hm⟩ := h39
            replace hX := hX.symm
            subst hX
            cases hR : RN (leadL gl n) (rk o k) with
            | nil =>
              rw [hR] at hm hap
              obtain ⟨rfl, m2, m3, m4⟩ := hm
              refine G_ifne 47 45 d_Mod_takeApart_42 rfl rfl (fun h42 => ?_) (fun h42 => ?_)
              · first | refine G_iinc1 _ 50 d_Mod_takeApart_47 rfl (by decide) rfl (dI_m1 _) ?_ | refine G_iinc1 _ 50 d_Mod_takeApart_47 rfl (by decide) rfl rfl ?_
                refine G_goto 8 d_Mod_takeApart_50 rfl ?_
                exact ih (by omega) _ _ _ st _ _ _ (hF.tr hF2) m2 m3 (by omega) (by rw [m4]; exact hap)
              · exact absurd h42 (by decide)
            | cons w ws =>
              rw [hR] at hm hap
              simp only at hm hap
              by_cases hc : sumA (norm (mp BJ b 18)) (prodA (labs (mp BJ b 18 (rk o k))) (cost (fun g => norm (gp g)) (pw w) n)) < 0
              · rw [if_pos hc] at hm hap
                subst hm
                rw [← hap]
                refine G_ifne 47 45 d_Mod_takeApart_42 rfl rfl (fun h42 => ?_) (fun h42 => ?_)
                · exact absurd rfl h42
                · refine G_iconstN 0 46 d_Mod_takeApart_45 rfl rfl ?_
                  refine G_zret d_Mod_takeApart_46 rfl ?_ ?_
                  · first | exact Or.inl rfl | exact Or.inr rfl
                  · exact ⟨rfl, hF.tr hF2, rfl⟩
              · rw [if_neg hc] at hm hap
                obtain ⟨rfl, m2, m3, m4⟩ := hm
                refine G_ifne 47 45 d_Mod_takeApart_42 rfl rfl (fun h42 => ?_) (fun h42 => ?_)
                · first | refine G_iinc1 _ 50 d_Mod_takeApart_47 rfl (by decide) rfl (dI_m1 _) ?_ | refine G_iinc1 _ 50 d_Mod_takeApart_47 rfl (by decide) rfl rfl ?_
                  refine G_goto 8 d_Mod_takeApart_50 rfl ?_
                  exact ih (by omega) _ _ _ (st ++ [(mp BJ b 18 (rk o k), w)]) _ _ _ (hF.tr hF2) (by rw [List.length_append]; exact m2) m3 (by rw [List.length_append, List.length_singleton]; omega) (by rw [m4]; exact hap)
                · exact absurd h42 (by decide)
  refine G_aload0 1 d_Mod_takeApart_0 rfl ?_
  refine G_iconstN 0 2 d_Mod_takeApart_1 rfl rfl ?_
  refine G_putI 5 d_Mod_takeApart_2 rfl f_Mod_327 rfl (by intro C T N h; cases h; rfl) h.sh rfl rfl ?_
  refine G_bipushN 83 7 d_Mod_takeApart_5 rfl rfl ?_
  refine G_istore1 8 d_Mod_takeApart_7 rfl (by decide) rfl ?_
  have hu : apF FI (u2 FI b 20 (nI 0)) AI AI AL AL b := ⟨fun c j hc => by
    by_cases e : c = b
    · subst e; exact u2_ix _ _ (fun e2 => hc ⟨rfl, Or.inl e2⟩)
    · exact u2_ne _ _ _ _ e, fun _ _ _ => rfl, fun _ _ => rfl, fun _ _ _ => rfl, fun _ _ _ _ _ _ => rfl⟩
  have := L 84 (Nat.le_refl _) (u2 FI b 20 (nI 0)) AI AL [] none none none hu (u2_at _ _ _ _) (fun i q hq => by simp at hq) (by simp) rfl
  rw [dI_s] at this
  exact this
