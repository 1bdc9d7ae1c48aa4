/-! ===== ROWS of a TERM as numbers ===== -/
def RN (Ls : List Nat) (t : Nat) : List Nat := (RT Ls t).map num
theorem RN_get {Ls : List Nat} {t i r : Nat} (h : (RN Ls t)[i]? = some r) : ∃ v, (RT Ls t)[i]? = some v ∧ num v = r := by
  rw [RN, List.getElem?_map] at h
  cases hv : (RT Ls t)[i]? with
  | none => rw [hv] at h; cases h
  | some v => rw [hv] at h; exact ⟨v, rfl, Option.some.inj h⟩
theorem vdeg_le1 : ∀ (Ls v : List Nat) (i : Nat), (∀ l ∈ Ls, 1 ≤ eD l) → v.length = Ls.length → v.getD i 0 ≤ vdeg Ls v
  | [], [], i, _, _ => by simp
  | [], _ :: _, _, _, h => by simp at h
  | _ :: _, [], _, _, h => by simp at h
  | l :: Ls, p :: v, i, hl, h => by
    have h1 : 1 ≤ eD l := hl l List.mem_cons_self
    have h2 : vdeg (l :: Ls) (p :: v) = p * eD l + vdeg Ls v := rfl
    rw [h2]
    cases i with
    | zero =>
      rw [List.getD_cons_zero]
      exact Nat.le_trans (Nat.le_mul_of_pos_right _ h1) (Nat.le_add_right _ _)
    | succ i =>
      rw [List.getD_cons_succ]
      exact Nat.le_trans (vdeg_le1 Ls v i (fun a ha => hl a (List.mem_cons_of_mem _ ha)) (by simpa using h)) (Nat.le_add_left _ _)
/-- what is known of a ROW -/
theorem RT_ok {gl : Nat → Nat} {n t i : Nat} {v : List Nat} (hn : n ≤ 7) (hl : ∀ i, i < n → gl i < 84 ∧ 1 ≤ eD (gl i)) (h : (RT (leadL gl n) t)[i]? = some v) : v.length = n ∧ vdeg (leadL gl n) v ≤ 6 ∧ vpl (leadL gl n) v = t ∧ (∀ p ∈ v, p < 8) ∧ num v < 2097152 ∧ ∀ g, g < 7 → pw (num v) g = v.getD g 0 := by
  have hm := List.mem_of_getElem? h
  unfold RT at hm
  rw [List.mem_filter] at hm
  obtain ⟨m1, m2⟩ := rowsD_mem _ _ _ hm.1
  rw [leadL_len] at m1
  have hl' : ∀ l ∈ leadL gl n, 1 ≤ eD l := fun l hm => by
    simp only [leadL, List.mem_map, List.mem_range] at hm
    obtain ⟨i, hi, rfl⟩ := hm
    exact (hl i hi).2
  have hp : ∀ p ∈ v, p < 8 := fun p hp => by
    obtain ⟨j, hj⟩ := List.getElem?_of_mem hp
    have := vdeg_le1 (leadL gl n) v j hl' (by rw [leadL_len]; exact m1)
    rw [List.getD_eq_getElem?_getD, hj] at this
    simp only [Option.getD_some] at this
    omega
  refine ⟨m1, m2, by simpa using hm.2, hp, ?_, fun g hg => ?_⟩
  · have := numL_lt v 0 (by omega) hp
    have e : un 0 = 262144 := by decide
    unfold num
    omega
  · have := pw_numL v 0 g (by omega) hp (Nat.zero_le _) hg
    rwa [Nat.sub_zero] at this
def LN (AI AJ : FT) (b : Nat) (Rs : List Nat) : Prop := (∀ c, c < b + 22 ∨ b + 26 < c → AJ c = AI c) ∧ ∀ j r, Rs[j]? = some r → ∀ h, h < 7 → AJ (b + 22) (7 * j + h) = nI (pw r h)
theorem LV.ln {AI AJ : FT} {b n t : Nat} {gl : Nat → Nat} {lim : Nat} (hn : n ≤ 7) (hl : ∀ i, i < n → gl i < 84 ∧ 1 ≤ eD (gl i)) (h : LV AI AJ b ((RT (leadL gl n) t).take lim)) : LN AI AJ b ((RN (leadL gl n) t).take lim) := by
  refine ⟨h.1, fun j r hr g hg => ?_⟩
  rw [List.getElem?_take] at hr
  split at hr
  · next hj =>
    obtain ⟨v, hv, rfl⟩ := RN_get hr
    rw [(RT_ok hn hl hv).2.2.2.2.2 g hg]
    exact h.2 j v (by rw [List.getElem?_take, if_pos hj]; exact hv) g hg
  · cases hr
theorem leadL_all {gl : Nat → Nat} {n : Nat} (hl : ∀ i, i < n → gl i < 84 ∧ 1 ≤ eD (gl i)) : ∀ l ∈ leadL gl n, l < 84 ∧ 1 ≤ eD l := fun l hm => by
  simp only [leadL, List.mem_map, List.mem_range] at hm
  obtain ⟨i, hi, rfl⟩ := hm
  exact hl i hi
theorem eD0 : ∀ t, t < 84 → (eD t = 0 ↔ t = 0) := by decide +kernel
theorem s_mLayTo {V : GV} {d b t n lim : Nat} {gl : Nat → Nat} {X : XT} {FI AI : FT} {AL : LT} (h : MO X b) (hT : MTb AI b) (ht : t < 84) (hn : n ≤ 7) (hlim : lim ≤ 128) (hl1 : 1 ≤ lim) (hG : MGl AI b n gl) :
    G V m_Mod_layRowsTo (d + 2) 0 [some (.ref b), some (.int (nI t)), some (.int (nI n)), some (.int (nI lim)), none] [] X FI AI AL (fun r X' FI' AI' AL' => r = none ∧ X' = X ∧ AL' = AL ∧ FI' = u2 FI b 30 (nI ((RN (leadL gl n) t).take lim).length) ∧ LN AI AI' b ((RN (leadL gl n) t).take lim)) := by
  have hgl : ∀ i, i < n → gl i < 84 ∧ 1 ≤ eD (gl i) := fun i hi => (hG i hi).2
  have et := e_le ht
  have T := hT.1 t ht
  have hRM := RT_M (t := t) (leadL_all hgl) ht
  suffices H : G V m_Mod_layRowsTo (d + 2) 0 [some (.ref b), some (.int (nI t)), some (.int (nI n)), some (.int (nI lim)), none] [] X FI AI AL (layP X FI AI AL b lim (RT (leadL gl n) t)) by
    refine H.conseq (fun r X' FI' AI' AL' ⟨e1, e2, e3, e4, e5⟩ => ⟨e1, e2, e3, ?_, e5.ln hn hgl⟩)
    rw [e4, List.length_take, List.length_take, RN, List.length_map]
  have a0 : ∀ v : Int32, u2 AI (b + 23) 0 v (b + 4) t = AI (b + 4) t := fun v => u2_ne _ _ _ _ (by omega)
  have a1 : ∀ v w : Int32, u2 (u2 AI (b + 23) 0 v) (b + 24) 0 w (b + 5) t = AI (b + 5) t := fun v w => by rw [u2_ne _ _ _ _ (by omega), u2_ne _ _ _ _ (by omega)]
  generalize hA : u2 (u2 (u2 AI (b + 23) 0 (nI (eX t))) (b + 24) 0 (nI (eY t))) (b + 25) 0 (nI (eZ t)) = A1
  have hout : ∀ c, c < b + 22 ∨ b + 26 < c → A1 c = AI c := fun c hc => by rw [← hA, u2_off _ _ _ (by omega), u2_off _ _ _ (by omega), u2_off _ _ _ (by omega)]
  have v0 : LV AI A1 b [] := ⟨hout, fun j v hv => by simp at hv⟩
  have x1 : A1 (b + 23) 0 = nI (eX t) := by rw [← hA, u2_ne _ _ _ _ (by omega), u2_ne _ _ _ _ (by omega), u2_at]
  have x2 : A1 (b + 24) 0 = nI (eY t) := by rw [← hA, u2_ne _ _ _ _ (by omega), u2_at]
  have x3 : A1 (b + 25) 0 = nI (eZ t) := by rw [← hA, u2_at]
  refine G_aload0 1 d_Mod_layRowsTo_0 rfl ?_
  refine G_iconstN 0 2 d_Mod_layRowsTo_1 rfl rfl ?_
  refine G_putI 5 d_Mod_layRowsTo_2 rfl f_Mod_301 rfl (by intro C T N h; cases h; rfl) h.sh rfl rfl ?_
  refine G_aload0 6 d_Mod_layRowsTo_5 rfl ?_
  refine G_getR 9 d_Mod_layRowsTo_6 rfl f_Mod_79 rfl h.sh h.f32 ?_
  refine G_iconstN 0 10 d_Mod_layRowsTo_9 rfl rfl ?_
  refine G_aload0 11 d_Mod_layRowsTo_10 rfl ?_
  refine G_getR 14 d_Mod_layRowsTo_11 rfl f_Mod_18 rfl h.sh h.f2 ?_
  refine G_iload1 15 d_Mod_layRowsTo_14 rfl ?_
  refine G_ialoadv 16 d_Mod_layRowsTo_15 rfl h.s2 (ix_nI (by omega) (by omega)) T.1 ?_
  refine G_iastore 17 d_Mod_layRowsTo_16 rfl h.s32 (ix_nI (by omega) (by omega)) ?_
  refine G_aload0 18 d_Mod_layRowsTo_17 rfl ?_
  refine G_getR 21 d_Mod_layRowsTo_18 rfl f_Mod_82 rfl h.sh h.f33 ?_
  refine G_iconstN 0 22 d_Mod_layRowsTo_21 rfl rfl ?_
  refine G_aload0 23 d_Mod_layRowsTo_22 rfl ?_
  refine G_getR 26 d_Mod_layRowsTo_23 rfl f_Mod_22 rfl h.sh h.f3 ?_
  refine G_iload1 27 d_Mod_layRowsTo_26 rfl ?_
  refine G_ialoadv 28 d_Mod_layRowsTo_27 rfl h.s3 (ix_nI (by omega) (by omega)) (by rw [a0]; exact T.2.1 : _ = nI (eY t)) ?_
  refine G_iastore 29 d_Mod_layRowsTo_28 rfl h.s33 (ix_nI (by omega) (by omega)) ?_
  refine G_aload0 30 d_Mod_layRowsTo_29 rfl ?_
  refine G_getR 33 d_Mod_layRowsTo_30 rfl f_Mod_85 rfl h.sh h.f34 ?_
  refine G_iconstN 0 34 d_Mod_layRowsTo_33 rfl rfl ?_
  refine G_aload0 35 d_Mod_layRowsTo_34 rfl ?_
  refine G_getR 38 d_Mod_layRowsTo_35 rfl f_Mod_25 rfl h.sh h.f4 ?_
  refine G_iload1 39 d_Mod_layRowsTo_38 rfl ?_
  refine G_ialoadv 40 d_Mod_layRowsTo_39 rfl h.s4 (ix_nI (by omega) (by omega)) (by rw [a1]; exact T.2.2 : _ = nI (eZ t)) ?_
  refine G_iastore 41 d_Mod_layRowsTo_40 rfl h.s34 (ix_nI (by omega) (by omega)) ?_
  rw [hA]
  have fr0 : u2 FI b 30 (nI 0) b 30 = nI 0 := u2_at _ _ _ _
  rcases Nat.eq_zero_or_pos n with hn0 | hn0
  · subst hn0
    have hno := s_mNote (V := V) (d := d + 1) (n := 0) (AI := A1) (AL := AL) h (by omega) fr0 (by omega)
    rw [u2_u2] at hno
    have hnil : leadL gl 0 = [] := rfl
    rw [hnil, rowsM] at hRM
    refine G_iload2 42 d_Mod_layRowsTo_41 rfl ?_
    refine G_ifne 55 45 d_Mod_layRowsTo_42 rfl rfl (fun h42 => ?_) (fun h42 => ?_)
    · exact absurd rfl h42
    · rcases Nat.eq_zero_or_pos t with t0 | t0
      · have ht9 := (eD0 t ht).mpr t0
        rw [if_pos (by omega)] at hRM
        rw [t0]
        refine G_iload1 46 d_Mod_layRowsTo_45 rfl ?_
        refine G_ifne 54 49 d_Mod_layRowsTo_46 rfl rfl (fun h46 => ?_) (fun h46 => ?_)
        · exact absurd rfl h46
        · refine G_aload0 50 d_Mod_layRowsTo_49 rfl ?_
          refine G_iconstN 0 51 d_Mod_layRowsTo_50 rfl rfl ?_
          refine G_invV1v 54 d_Mod_layRowsTo_51 rfl e_Mod_318 M_Mod_note rfl h.sh (Nat.le_of_ble_eq_true rfl) (Nat.le_of_ble_eq_true rfl) rfl (hno) ?_
          refine G_vret d_Mod_layRowsTo_54 rfl ?_
          rw [t0] at hRM
          rw [hnil, hRM]
          have htk : ([[]] : List (List Nat)).take lim = [[]] := List.take_of_length_le (by simpa using hl1)
          refine ⟨rfl, rfl, rfl, by rw [htk]; rfl, ?_⟩
          rw [htk]
          refine ⟨fun c hc => by rw [sr_ne _ _ (by omega)]; exact hout c hc, fun j v hv g hg => ?_⟩
          have hj0 : j = 0 := by
            have := (List.getElem?_eq_some_iff.mp hv).1
            simpa using this
          subst hj0
          simp only [List.getElem?_cons_zero, Option.some.injEq] at hv
          rw [sr_at, noteR, if_pos (by omega), if_neg (by omega), ← hv]
          rfl
      · have ht9 : ¬ eD t = 0 := fun e => by have := (eD0 t ht).mp e; omega
        rw [if_neg (by omega)] at hRM
        refine G_iload1 46 d_Mod_layRowsTo_45 rfl ?_
        refine G_ifne 54 49 d_Mod_layRowsTo_46 rfl rfl (fun h46 => ?_) (fun h46 => ?_)
        · refine G_vret d_Mod_layRowsTo_54 rfl ?_
          rw [hnil, hRM]
          exact ⟨rfl, rfl, rfl, by rw [List.take_nil]; rfl, by rw [List.take_nil]; exact v0⟩
        · exact absurd h46 (nI_ne0 t0 (by omega))
  · obtain ⟨g1, g2, g3⟩ := hG 0 hn0
    have hmo := s_mMost (V := V) (d := d) (FI := u2 FI b 30 (nI 0)) (AL := AL) h (hT.lv v0) (show 0 < 7 by omega) (by rw [hout _ (by omega)]; exact g1) g2 (by omega) x1 x2 x3
    have hm6 := mst_6 (gl 0) (eX t) (eY t) (eZ t) (by omega)
    have hdr := leadL_drop gl (n := n) (h := 0) hn0
    rw [List.drop_zero] at hdr
    have hw := layL (V := V) (d := d) (t := .int (nI t)) (FI := FI) (AL := AL) (all := RT (leadL gl n) t) h hT hn hlim hG (n - 1) 0 (by omega) (mst (gl 0) (eX t) (eY t) (eZ t) + 1) (eX t) (eY t) (eZ t) [] [] [] (u2 A1 (b + 26) 0 (nI (mst (gl 0) (eX t) (eY t) (eZ t) + 1))) rfl (by omega) (Nat.le_refl _) (v0.up (fun c hc => u2_off _ _ _ (by omega)) (u2_off _ _ _ (by omega))) (Nat.zero_le _)
      (by rw [u2_ne _ _ _ _ (by omega)]; exact x1) (by rw [u2_ne _ _ _ _ (by omega)]; exact x2) (by rw [u2_ne _ _ _ _ (by omega)]; exact x3) (u2_at _ _ _ _) (fun i hi => by omega)
      (by
        rw [hRM, List.nil_append, List.append_nil, hdr, rowsM, blk, dl_dn]
        rw [← hdr]
        rfl)
      (fun D' AK e1 e2 e3 e4 => by
        have ha : RT (leadL gl n) t = D' := by
          rw [e1, List.nil_append, hRM, hdr, rowsM, blk, dl_dn, ← hdr]
          rfl
        refine G_iload4 73 d_Mod_layRowsTo_71 rfl ?_
        first | refine G_ifltD 177 76 d_Mod_layRowsTo_73 rfl rfl (by omega) (fun h73 => ?_) (fun j h73 => ?_) | refine G_iflt 177 76 d_Mod_layRowsTo_73 rfl rfl (fun h73 => ?_) (fun h73 => ?_)
        · refine G_vret d_Mod_layRowsTo_177 rfl ?_
          refine ⟨rfl, rfl, rfl, ?_, ?_⟩
          · rw [ha, List.take_of_length_le (by omega)]
          · rw [ha, List.take_of_length_le (by omega)]; exact e2
        · omega)
    refine G_iload2 42 d_Mod_layRowsTo_41 rfl ?_
    refine G_ifne 55 45 d_Mod_layRowsTo_42 rfl rfl (fun h42 => ?_) (fun h42 => ?_)
    · refine G_iconstN 0 56 d_Mod_layRowsTo_55 rfl rfl ?_
      refine G_istore4 58 d_Mod_layRowsTo_56 rfl (by decide) rfl ?_
      refine G_aload0 59 d_Mod_layRowsTo_58 rfl ?_
      refine G_getR 62 d_Mod_layRowsTo_59 rfl f_Mod_88 rfl h.sh h.f35 ?_
      refine G_iconstN 0 63 d_Mod_layRowsTo_62 rfl rfl ?_
      refine G_aload0 64 d_Mod_layRowsTo_63 rfl ?_
      refine G_iconstN 0 65 d_Mod_layRowsTo_64 rfl rfl ?_
      refine G_invV1d 68 d_Mod_layRowsTo_65 rfl e_Mod_321 M_Mod_most rfl h.sh (Nat.le_of_ble_eq_true rfl) (Nat.le_of_ble_eq_true rfl) rfl (hmo) ?_
      refine G_iconstN 1 69 d_Mod_layRowsTo_68 rfl rfl ?_
      first | refine G_iaddN 70 d_Mod_layRowsTo_69 rfl ?_ | refine G_iadd 70 d_Mod_layRowsTo_69 rfl ?_
      refine G_iastore 71 d_Mod_layRowsTo_70 rfl h.s35 (ix_nI (by omega) (by omega)) ?_
      exact hw
    · exact absurd h42 (nI_ne0 hn0 (by omega))
theorem s_mLay {V : GV} {d b t n : Nat} {gl : Nat → Nat} {X : XT} {FI AI : FT} {AL : LT} (h : MO X b) (hT : MTb AI b) (ht : t < 84) (hn : n ≤ 7) (hG : MGl AI b n gl) (hi : ∀ i j, i < n → j < n → gl i = gl j → i = j) :
    G V m_Mod_layRows (d + 3) 0 [some (.ref b), some (.int (nI t)), some (.int (nI n))] [] X FI AI AL (fun r X' FI' AI' AL' => r = none ∧ X' = X ∧ AL' = AL ∧ FI' = u2 FI b 30 (nI (RN (leadL gl n) t).length) ∧ LN AI AI' b (RN (leadL gl n) t)) := by
  have h1 := RT_128 (t := t) hn (fun i hi => (hG i hi).2) hi ht
  have hw := s_mLayTo (V := V) (d := d) (lim := 128) (FI := FI) (AL := AL) h hT ht hn (by omega) (by omega) hG
  rw [List.take_of_length_le (by rw [RN, List.length_map]; omega)] at hw
  refine G_aload0 1 d_Mod_layRows_0 rfl ?_
  refine G_iload1 2 d_Mod_layRows_1 rfl ?_
  refine G_iload2 3 d_Mod_layRows_2 rfl ?_
  refine G_sipushN 128 6 d_Mod_layRows_3 rfl rfl ?_
  refine G_invV3 9 d_Mod_layRows_6 rfl e_Mod_315 M_Mod_layRowsTo rfl h.sh (Nat.le_of_ble_eq_true rfl) (Nat.le_of_ble_eq_true rfl) rfl (G.conseq (hw) (fun r X1 FI1 AI1 AL1 h6 => ?_))
  obtain ⟨rfl, rfl, rfl, rfl, e⟩ := h6
  refine G_vret d_Mod_layRows_9 rfl ?_
  exact ⟨rfl, rfl, rfl, rfl, e⟩
