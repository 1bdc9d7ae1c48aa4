/-! ===== the reference: generator, sheets ===== -/
def fSheet (S : ST) (s w n : Int32) : Int32 × ST := if (bN s 4 && bB w (-1) 1 && !(decide (0 ≤ w.toInt) && decide (40 < n.toInt))) = true then
    (if 0 ≤ w.toInt ∧ n.toInt < 0 then (-14, S) else (1, stH S (upn (tH S).1 (ni s) w, upn (tH S).2.1 (ni s) (if w.toInt < 0 then 0 else ni n), upn (tH S).2.2 (ni s) (fun _ => 0))))
  else (-1, S)
def fCell (S : ST) (s i v : Int32) : Int32 × ST := if bN s 4 = true then
    (if (tH S).1 (ni s) = -1 then (-11, S) else if bN i ((tH S).2.1 (ni s)) = true then (1, stH S ((tH S).1, (tH S).2.1, upn (tH S).2.2 (ni s) (fun j => if j = ni i then low ((tH S).1 (ni s)) v.toInt64 else (tH S).2.2 (ni s) j))) else (-12, S))
  else (-1, S)
def fItem (S : ST) (s i : Int32) : Int64 × ST := if (bN s 4 && bN i ((tH S).2.1 (ni s))) = true then (((tH S).2.2 (ni s) (ni i)).toInt64, S) else (NOl, S)
theorem inL {n : Nat} {i : Int32} (h : n < 2 ^ 31) : ((0 : Int64).toInt ≤ i.toInt64.toInt ∧ i.toInt64.toInt ≤ (nI n - nI 1).toInt64.toInt) ↔ isN i n := by
  have e : (nI n - nI 1).toInt = (n : Int) - 1 := by
    rw [Int32.toInt_sub, nI_toInt (by omega), nI_toInt (by omega), Int.bmod_eq_of_le_mul_two (by omega) (by omega)]; rfl
  rw [toL, toL, e, isN_iff (by omega), show (0 : Int64).toInt = 0 from rfl]; omega
theorem m_item {V : GV} {d b : Nat} {S : ST} {s i : Int32} {X : XT} {FI AI : FT} {AL : LT} (h : MO X b) (hI : MIv S FI AI AL b) (hW : WS S) : G V m_Mod_item (d + 1) 0 [some (.ref b), some (.int s), some (.int i)] [] X FI AI AL (fun r X' FI' AI' AL' => r = some (.long (fItem S s i).1) ∧ X' = X ∧ MIv (fItem S s i).2 FI' AI' AL' b ∧ fM FI FI' AI AI' AL AL' b) := by
  obtain ⟨g, a1, a2, a3, a4, a5, a6⟩ := hI.de
  refine G_iload1 1 d_Mod_item_0 rfl ?_
  refine G_invS1b 4 d_Mod_item_1 rfl e_Mod_261 M_Mod_isSheet (Nat.le_of_ble_eq_true rfl) (Nat.le_of_ble_eq_true rfl) rfl (s_mIsSheet) (fun h1 => G_ifeq1 7 d_Mod_item_4 40 rfl rfl ?_) (fun h1 => G_ifeq0 7 d_Mod_item_4 40 rfl rfl ?_)
  · obtain ⟨k, hk, rfl⟩ := h1
    have q1 := bN_t hk (show 4 < 2 ^ 31 by omega)
    have z1 := ni_nI (show k < 2 ^ 31 by omega)
    obtain ⟨c1, c2, c3⟩ := a4 k hk
    have hsz : (tH S).2.1 k ≤ 40 := by
      rcases hW.2.2.2.2.1 k hk with ⟨-, e⟩ | ⟨-, e⟩ <;> omega
    refine G_iload2 8 d_Mod_item_7 rfl ?_
    refine G_i2l 9 d_Mod_item_8 rfl ?_
    refine G_lconst 0 10 d_Mod_item_9 rfl rfl ?_
    refine G_aload0 11 d_Mod_item_10 rfl ?_
    refine G_getR 14 d_Mod_item_11 rfl f_Mod_124 rfl h.sh h.f53 ?_
    refine G_iload1 15 d_Mod_item_14 rfl ?_
    refine G_ialoadv 16 d_Mod_item_15 rfl h.s53 (ix_nI (by omega) (by omega)) c2 ?_
    refine G_iconstN 1 17 d_Mod_item_16 rfl rfl ?_
    refine G_isub 18 d_Mod_item_17 rfl ?_
    refine G_i2l 19 d_Mod_item_18 rfl ?_
    refine G_invS3b 22 d_Mod_item_19 rfl e_Mod_139 M_Mod_in (Nat.le_of_ble_eq_true rfl) (Nat.le_of_ble_eq_true rfl) rfl (s_mIn) (fun h19 => G_ifeq1 25 d_Mod_item_22 40 rfl rfl ?_) (fun h19 => G_ifeq0 25 d_Mod_item_22 40 rfl rfl ?_)
    · obtain ⟨l, hl, rfl⟩ := (inL (by omega)).mp h19
      have q2 := bN_t hl (show (tH S).2.1 k < 2 ^ 31 by omega)
      have z2 := ni_nI (show l < 2 ^ 31 by omega)
      simp only [fItem, q1, q2, z1, z2, Bool.and_self, if_true]
      refine G_aload0 26 d_Mod_item_25 rfl ?_
      refine G_getR 29 d_Mod_item_26 rfl f_Mod_127 rfl h.sh h.f54 ?_
      refine G_bipushN 40 31 d_Mod_item_29 rfl rfl ?_
      refine G_iload1 32 d_Mod_item_31 rfl ?_
      first | refine G_imulN 33 d_Mod_item_32 rfl ?_ | refine G_imul 33 d_Mod_item_32 rfl ?_
      refine G_iload2 34 d_Mod_item_33 rfl ?_
      first | refine G_iaddN 35 d_Mod_item_34 rfl ?_ | refine G_iadd 35 d_Mod_item_34 rfl ?_
      refine G_ialoadv 36 d_Mod_item_35 rfl h.s54 (ix_nI (by omega) (by omega)) (c3 l (by omega)) ?_
      refine G_i2l 37 d_Mod_item_36 rfl ?_
      refine G_goto 43 d_Mod_item_37 rfl ?_
      refine G_lret d_Mod_item_43 rfl ?_
      exact ⟨rfl, rfl, hI, fM.rf⟩
    · have q2 := bN_f (fun e => h19 ((inL (by omega)).mpr e)) (show (tH S).2.1 k < 2 ^ 31 by omega)
      simp only [fItem, q2, z1, Bool.and_false, Bool.false_eq_true, if_false]
      refine G_ldc2 43 d_Mod_item_40 rfl k_Mod_235 ?_
      refine G_lret d_Mod_item_43 rfl ?_
      exact ⟨rfl, rfl, hI, fM.rf⟩
  · have q1 := bN_f h1 (show 4 < 2 ^ 31 by omega)
    simp only [fItem, q1, Bool.false_and, Bool.false_eq_true, if_false]
    refine G_ldc2 43 d_Mod_item_40 rfl k_Mod_235 ?_
    refine G_lret d_Mod_item_43 rfl ?_
    exact ⟨rfl, rfl, hI, fM.rf⟩
theorem MIv.sh {S : ST} {H : (Nat → Int32) × (Nat → Nat) × (Nat → Nat → Int32)} {FI AI AI' : FT} {AL : LT} {b : Nat} (h : MIv S FI AI AL b) (k : ∀ c, c < b + 37 ∨ b + 39 < c → AI' c = AI c) (hH : MSh H AI' b) : MIv (stH S H) FI AI' AL b ∧ fM FI FI AI AI' AL AL b := by
  obtain ⟨g, a1, a2, a3, a4, a5, a6⟩ := h.de
  refine ⟨MIv.mk (S := stH S H) ⟨⟨fun s hs => ?_, fun x y z hs => ?_⟩, g.2.1, g.2.2.1, fun j hj => ?_, fun q hq => ?_⟩ a1 a2 (a3.tr rfl rfl (k _ (by omega)) rfl) hH (a5.tr rfl (k _ (by omega)) (k _ (by omega)) rfl) (a6.tr rfl rfl rfl (k _ (by omega)) (k _ (by omega)) rfl rfl), fun c hc => ⟨rfl, k c (by omega), rfl⟩⟩
  · rw [k _ (by omega), k _ (by omega), k _ (by omega)]; exact g.1.1 s hs
  · rw [k _ (by omega)]; exact g.1.2 x y z hs
  · rw [k _ (by omega)]; exact g.2.2.2.1 j hj
  · obtain ⟨b1, b2, b3, b4⟩ := g.2.2.2.2 q hq
    exact ⟨by rw [k _ (by omega)]; exact b1, b2, by rw [k _ (by omega)]; exact b3, fun i hi => ⟨(b4 i hi).1, fun f hf => by rw [k _ (by omega)]; exact (b4 i hi).2 f hf⟩⟩
theorem m_cell {V : GV} {d b : Nat} {S : ST} {s i v : Int32} {X : XT} {FI AI : FT} {AL : LT} (h : MO X b) (hI : MIv S FI AI AL b) (hW : WS S) : G V m_Mod_cell (d + 1) 0 [some (.ref b), some (.int s), some (.int i), some (.int v)] [] X FI AI AL (fun r X' FI' AI' AL' => r = some (.int (fCell S s i v).1) ∧ X' = X ∧ MIv (fCell S s i v).2 FI' AI' AL' b ∧ fM FI FI' AI AI' AL AL' b) := by
  obtain ⟨g, a1, a2, a3, a4, a5, a6⟩ := hI.de
  refine G_iload1 1 d_Mod_cell_0 rfl ?_
  refine G_invS1b 4 d_Mod_cell_1 rfl e_Mod_261 M_Mod_isSheet (Nat.le_of_ble_eq_true rfl) (Nat.le_of_ble_eq_true rfl) rfl (s_mIsSheet) (fun h1 => G_ifne1 7 d_Mod_cell_4 9 rfl rfl ?_) (fun h1 => G_ifne0 7 d_Mod_cell_4 9 rfl rfl ?_)
  · obtain ⟨k, hk, rfl⟩ := h1
    have q1 := bN_t hk (show 4 < 2 ^ 31 by omega)
    have z1 := ni_nI (show k < 2 ^ 31 by omega)
    obtain ⟨c1, c2, c3⟩ := a4 k hk
    have hws := hW.2.2.2.2.1 k hk
    simp only [fCell, q1, z1, if_true]
    by_cases hm : (tH S).1 k = -1
    · simp only [if_pos hm]
      have c1' : AI (b + 37) k = -1 := by rw [c1, hm]
      refine G_aload0 10 d_Mod_cell_9 rfl ?_
      refine G_getR 13 d_Mod_cell_10 rfl f_Mod_121 rfl h.sh h.f52 ?_
      refine G_iload1 14 d_Mod_cell_13 rfl ?_
      refine G_ialoadv 15 d_Mod_cell_14 rfl h.s52 (ix_nI (by omega) (by omega)) c1' ?_
      refine G_ifge 21 18 d_Mod_cell_15 rfl rfl (fun h15 => ?_) (fun h15 => ?_)
      · exact absurd h15 (by decide)
      · refine G_bipush (-11) 20 d_Mod_cell_18 rfl rfl ?_
        refine G_iret d_Mod_cell_20 rfl ?_
        exact ⟨rfl, rfl, hI, fM.rf⟩
    · simp only [if_neg hm]
      have hso : (tH S).1 k = 0 ∨ (tH S).1 k = 1 := by
        rcases hws with ⟨e, -⟩ | ⟨e, -⟩
        · exact absurd e hm
        · exact e
      have hsz : (tH S).2.1 k ≤ 40 := by rcases hws with ⟨e, -⟩ | ⟨-, e⟩ <;> first | exact absurd e hm | exact e
      have hge : (0 : Int32) ≤ (tH S).1 k := by rcases hso with e | e <;> rw [e] <;> decide
      refine G_aload0 10 d_Mod_cell_9 rfl ?_
      refine G_getR 13 d_Mod_cell_10 rfl f_Mod_121 rfl h.sh h.f52 ?_
      refine G_iload1 14 d_Mod_cell_13 rfl ?_
      refine G_ialoadv 15 d_Mod_cell_14 rfl h.s52 (ix_nI (by omega) (by omega)) c1 ?_
      refine G_ifge 21 18 d_Mod_cell_15 rfl rfl (fun h15 => ?_) (fun h15 => ?_)
      · refine G_iload2 22 d_Mod_cell_21 rfl ?_
        refine G_i2l 23 d_Mod_cell_22 rfl ?_
        refine G_lconst 0 24 d_Mod_cell_23 rfl rfl ?_
        refine G_aload0 25 d_Mod_cell_24 rfl ?_
        refine G_getR 28 d_Mod_cell_25 rfl f_Mod_124 rfl h.sh h.f53 ?_
        refine G_iload1 29 d_Mod_cell_28 rfl ?_
        refine G_ialoadv 30 d_Mod_cell_29 rfl h.s53 (ix_nI (by omega) (by omega)) c2 ?_
        refine G_iconstN 1 31 d_Mod_cell_30 rfl rfl ?_
        refine G_isub 32 d_Mod_cell_31 rfl ?_
        refine G_i2l 33 d_Mod_cell_32 rfl ?_
        refine G_invS3b 36 d_Mod_cell_33 rfl e_Mod_139 M_Mod_in (Nat.le_of_ble_eq_true rfl) (Nat.le_of_ble_eq_true rfl) rfl (s_mIn) (fun h33 => G_ifne1 39 d_Mod_cell_36 42 rfl rfl ?_) (fun h33 => G_ifne0 39 d_Mod_cell_36 42 rfl rfl ?_)
        · obtain ⟨l, hl, rfl⟩ := (inL (by omega)).mp h33
          have q2 := bN_t hl (show (tH S).2.1 k < 2 ^ 31 by omega)
          have z2 := ni_nI (show l < 2 ^ 31 by omega)
          simp only [q2, z2, if_true]
          refine G_aload0 43 d_Mod_cell_42 rfl ?_
          refine G_getR 46 d_Mod_cell_43 rfl f_Mod_127 rfl h.sh h.f54 ?_
          refine G_bipushN 40 48 d_Mod_cell_46 rfl rfl ?_
          refine G_iload1 49 d_Mod_cell_48 rfl ?_
          first | refine G_imulN 50 d_Mod_cell_49 rfl ?_ | refine G_imul 50 d_Mod_cell_49 rfl ?_
          refine G_iload2 51 d_Mod_cell_50 rfl ?_
          first | refine G_iaddN 52 d_Mod_cell_51 rfl ?_ | refine G_iadd 52 d_Mod_cell_51 rfl ?_
          refine G_aload0 53 d_Mod_cell_52 rfl ?_
          refine G_iload1 54 d_Mod_cell_53 rfl ?_
          refine G_iload3 55 d_Mod_cell_54 rfl ?_
          refine G_i2l 56 d_Mod_cell_55 rfl ?_
          refine G_invV2d 59 d_Mod_cell_56 rfl e_Mod_270 M_Mod_lowest rfl h.sh (Nat.le_of_ble_eq_true rfl) (Nat.le_of_ble_eq_true rfl) rfl (s_mLowest (by assumption) (by omega)) ?_
          rw [c1]
          refine G_iastore 60 d_Mod_cell_59 rfl h.s54 (ix_nI (by omega) (by omega)) ?_
          refine G_iconstN 1 61 d_Mod_cell_60 rfl rfl ?_
          refine G_iret d_Mod_cell_61 rfl ?_
          have := hI.sh (H := ((tH S).1, (tH S).2.1, upn (tH S).2.2 k (fun j => if j = l then low ((tH S).1 k) v.toInt64 else (tH S).2.2 k j))) (AI' := u2 AI (b + 39) (40 * k + l) (low ((tH S).1 k) v.toInt64)) (fun c hc => u2_off _ _ _ (by omega)) (fun m hm => by
            obtain ⟨d1, d2, d3⟩ := a4 m hm
            refine ⟨by rw [u2_off _ _ _ (by omega)]; exact d1, by rw [u2_off _ _ _ (by omega)]; exact d2, fun j hj => ?_⟩
            show _ = upn (tH S).2.2 k (fun j => if j = l then low ((tH S).1 k) v.toInt64 else (tH S).2.2 k j) m j
            by_cases e : m = k
            · subst e
              rw [upn_at]
              by_cases e2 : j = l
              · subst e2; rw [if_pos rfl, u2_at]
              · rw [if_neg e2, u2_ix _ _ (by omega)]; exact d3 j hj
            · rw [upn_ne _ _ e, u2_ix _ _ (by omega)]; exact d3 j hj)
          exact ⟨rfl, rfl, this.1, this.2⟩
        · have q2 := bN_f (fun e => h33 ((inL (by omega)).mpr e)) (show (tH S).2.1 k < 2 ^ 31 by omega)
          simp only [q2, Bool.false_eq_true, if_false]
          refine G_bipush (-12) 41 d_Mod_cell_39 rfl rfl ?_
          refine G_iret d_Mod_cell_41 rfl ?_
          exact ⟨rfl, rfl, hI, fM.rf⟩
      · exact absurd hge h15
  · have q1 := bN_f h1 (show 4 < 2 ^ 31 by omega)
    simp only [fCell, q1, Bool.false_eq_true, if_false]
    refine G_iconst (-1) 8 d_Mod_cell_7 rfl rfl ?_
    refine G_iret d_Mod_cell_8 rfl ?_
    exact ⟨rfl, rfl, hI, fM.rf⟩
theorem m_sheet {V : GV} {d b : Nat} {S : ST} {s w n : Int32} {X : XT} {FI AI : FT} {AL : LT} (h : MO X b) (hI : MIv S FI AI AL b) (hW : WS S) : G V m_Mod_sheet (d + 1) 0 [some (.ref b), some (.int s), some (.int w), some (.int n), none] [] X FI AI AL (fun r X' FI' AI' AL' => r = some (.int (fSheet S s w n).1) ∧ X' = X ∧ MIv (fSheet S s w n).2 FI' AI' AL' b ∧ fM FI FI' AI AI' AL AL' b) := by
  obtain ⟨g, a1, a2, a3, a4, a5, a6⟩ := hI.de
  have kc : ((-1 : Int64).toInt ≤ w.toInt64.toInt ∧ w.toInt64.toInt ≤ (1 : Int64).toInt) ↔ isB w (-1) 1 := by
    rw [toL]; exact Iff.rfl
  have bad : (bN s 4 && bB w (-1) 1 && !(decide (0 ≤ w.toInt) && decide (40 < n.toInt))) = false → G V m_Mod_sheet (d + 1) 29 [some (.ref b), some (.int s), some (.int w), some (.int n), none] [] X FI AI AL (fun r X' FI' AI' AL' => r = some (.int (fSheet S s w n).1) ∧ X' = X ∧ MIv (fSheet S s w n).2 FI' AI' AL' b ∧ fM FI FI' AI AI' AL AL' b) := fun hb => by
    simp only [fSheet, hb, Bool.false_eq_true, if_false]
    refine G_iconst (-1) 30 d_Mod_sheet_29 rfl rfl ?_
    refine G_iret d_Mod_sheet_30 rfl ?_
    exact ⟨rfl, rfl, hI, fM.rf⟩
  refine G_iload1 1 d_Mod_sheet_0 rfl ?_
  refine G_invS1b 4 d_Mod_sheet_1 rfl e_Mod_261 M_Mod_isSheet (Nat.le_of_ble_eq_true rfl) (Nat.le_of_ble_eq_true rfl) rfl (s_mIsSheet) (fun h1 => G_ifeq1 7 d_Mod_sheet_4 29 rfl rfl ?_) (fun h1 => G_ifeq0 7 d_Mod_sheet_4 29 rfl rfl ?_)
  · obtain ⟨k, hk, rfl⟩ := h1
    have q1 := bN_t hk (show 4 < 2 ^ 31 by omega)
    have z1 := ni_nI (show k < 2 ^ 31 by omega)
    refine G_iload2 8 d_Mod_sheet_7 rfl ?_
    refine G_i2l 9 d_Mod_sheet_8 rfl ?_
    refine G_ldc2 12 d_Mod_sheet_9 rfl k_Mod_145 ?_
    refine G_lconst 1 13 d_Mod_sheet_12 rfl rfl ?_
    refine G_invS3b 16 d_Mod_sheet_13 rfl e_Mod_139 M_Mod_in (Nat.le_of_ble_eq_true rfl) (Nat.le_of_ble_eq_true rfl) rfl (s_mIn) (fun h13 => G_ifeq1 19 d_Mod_sheet_16 29 rfl rfl ?_) (fun h13 => G_ifeq0 19 d_Mod_sheet_16 29 rfl rfl ?_)
    · have hb := kc.mp h13
      have q2 := bB_iff.mpr hb
      -- the sheet becomes another
      have fin : ∀ m : Nat, m ≤ 40 → (m = if w.toInt < 0 then 0 else ni n) → (bN (nI k) 4 && bB w (-1) 1 && !(decide (0 ≤ w.toInt) && decide (40 < n.toInt))) = true → ¬ (0 ≤ w.toInt ∧ n.toInt < 0) → G V m_Mod_sheet (d + 1) 63 [some (.ref b), some (.int (nI k)), some (.int w), some (.int n), none] [.int (nI m), .int (nI k), .ref (b + 38)] X FI (u2 AI (b + 37) k w) AL (fun r X' FI' AI' AL' => r = some (.int (fSheet S (nI k) w n).1) ∧ X' = X ∧ MIv (fSheet S (nI k) w n).2 FI' AI' AL' b ∧ fM FI FI' AI AI' AL AL' b) := by
        intro m hm hm2 hyes hno
        simp only [fSheet, hyes, z1, if_true, if_neg hno, ← hm2]
        have L : ∀ j, j ≤ 40 → ∀ AJ : FT, (∀ c, c < b + 37 ∨ b + 39 < c → AJ c = AI c) → (∀ i, i < 4 → AJ (b + 37) i = upn (tH S).1 k w i ∧ AJ (b + 38) i = nI (upn (tH S).2.1 k m i)) → (∀ i q, i < 4 → q < 40 → i ≠ k → AJ (b + 39) (40 * i + q) = (tH S).2.2 i q) → (∀ q, q < j → AJ (b + 39) (40 * k + q) = 0) → G V m_Mod_sheet (d + 1) 67 [some (.ref b), some (.int (nI k)), some (.int w), some (.int n), some (.int (nI j))] [] X FI AJ AL (fun r X' FI' AI' AL' => r = some (.int 1) ∧ X' = X ∧ MIv (stH S (upn (tH S).1 k w, upn (tH S).2.1 k m, upn (tH S).2.2 k (fun _ => 0))) FI' AI' AL' b ∧ fM FI FI' AI AI' AL AL' b) := by
          refine upto ?_ ?_
          · intro AJ j1 j2 j3 j4
            refine G_iload4 69 d_Mod_sheet_67 rfl ?_
            refine G_bipushN 40 71 d_Mod_sheet_69 rfl rfl ?_
            first | refine G_icgeN 93 74 d_Mod_sheet_71 rfl rfl (by omega) (by omega) (fun h71 => ?_) (fun h71 => ?_) | refine G_icge 93 74 d_Mod_sheet_71 rfl rfl (fun h71 => ?_) (fun h71 => ?_)
            · refine G_iconstN 1 94 d_Mod_sheet_93 rfl rfl ?_
              refine G_iret d_Mod_sheet_94 rfl ?_
              have := hI.sh (H := (upn (tH S).1 k w, upn (tH S).2.1 k m, upn (tH S).2.2 k (fun _ => 0))) j1 (fun i hi => ⟨(j2 i hi).1, (j2 i hi).2, fun q hq => by
                show _ = upn (tH S).2.2 k (fun _ => 0) i q
                by_cases e : i = k
                · subst e; rw [upn_at]; exact j4 q hq
                · rw [upn_ne _ _ e]; exact j3 i q hi hq e⟩)
              exact ⟨rfl, rfl, this.1, this.2⟩
            · omega
          · intro j hj ih AJ j1 j2 j3 j4
            refine G_iload4 69 d_Mod_sheet_67 rfl ?_
            refine G_bipushN 40 71 d_Mod_sheet_69 rfl rfl ?_
            first | refine G_icgeN 93 74 d_Mod_sheet_71 rfl rfl (by omega) (by omega) (fun h71 => ?_) (fun h71 => ?_) | refine G_icge 93 74 d_Mod_sheet_71 rfl rfl (fun h71 => ?_) (fun h71 => ?_)
            · omega
            · refine G_aload0 75 d_Mod_sheet_74 rfl ?_
              refine G_getR 78 d_Mod_sheet_75 rfl f_Mod_127 rfl h.sh h.f54 ?_
              refine G_bipushN 40 80 d_Mod_sheet_78 rfl rfl ?_
              refine G_iload1 81 d_Mod_sheet_80 rfl ?_
              first | refine G_imulN 82 d_Mod_sheet_81 rfl ?_ | refine G_imul 82 d_Mod_sheet_81 rfl ?_
              refine G_iload4 84 d_Mod_sheet_82 rfl ?_
              first | refine G_iaddN 85 d_Mod_sheet_84 rfl ?_ | refine G_iadd 85 d_Mod_sheet_84 rfl ?_
              refine G_iconstN 0 86 d_Mod_sheet_85 rfl rfl ?_
              refine G_iastore 87 d_Mod_sheet_86 rfl h.s54 (ix_nI (by omega) (by omega)) ?_
              first | refine G_iincN4 90 d_Mod_sheet_87 rfl (by decide) rfl ?_ | refine G_iinc4 _ 90 d_Mod_sheet_87 rfl (by decide) rfl rfl ?_
              refine G_goto 67 d_Mod_sheet_90 rfl ?_
              refine ih _ (fun c hc => by rw [u2_off _ _ _ (by omega)]; exact j1 c hc) (fun i hi => by rw [u2_off _ _ _ (by omega), u2_off _ _ _ (by omega)]; exact j2 i hi) (fun i q hi hq e => by rw [u2_ix _ _ (by omega)]; exact j3 i q hi hq e) (fun q hq => ?_)
              by_cases e : q = j
              · subst e; rw [u2_at]; rfl
              · rw [u2_ix _ _ (by omega)]; exact j4 q (by omega)
        refine G_iastore 64 d_Mod_sheet_63 rfl h.s53 (ix_nI (by omega) (by omega)) ?_
        refine G_iconstN 0 65 d_Mod_sheet_64 rfl rfl ?_
        refine G_istore4 67 d_Mod_sheet_65 rfl (by decide) rfl ?_
        refine L 0 (by omega) _ (fun c hc => by rw [u2_off _ _ _ (by omega), u2_off _ _ _ (by omega)]) (fun i hi => ?_) (fun i q hi hq e => by rw [u2_off _ _ _ (by omega), u2_off _ _ _ (by omega)]; exact (a4 i hi).2.2 q hq) (fun q hq => by omega)
        by_cases e : i = k
        · subst e
          rw [upn_at, upn_at, u2_ne _ _ _ _ (by omega), u2_at, u2_at]
          exact ⟨rfl, rfl⟩
        · rw [upn_ne _ _ e, upn_ne _ _ e, u2_ne _ _ _ _ (by omega), u2_ix _ _ e, u2_ix _ _ e, u2_ne _ _ _ _ (by omega)]
          exact ⟨(a4 i hi).1, (a4 i hi).2.1⟩
      by_cases hw0 : w.toInt < 0
      · -- it is gone
        have hlt : w < 0 := by rw [lt0_iff]; exact hw0
        have hyes : (bN (nI k) 4 && bB w (-1) 1 && !(decide (0 ≤ w.toInt) && decide (40 < n.toInt))) = true := by
          rw [q1, q2, decide_eq_false (show ¬ 0 ≤ w.toInt by omega)]; rfl
        refine G_iload2 20 d_Mod_sheet_19 rfl ?_
        first | refine G_ifltD 31 23 d_Mod_sheet_20 rfl rfl (by omega) (fun h20 => ?_) (fun j h20 => ?_) | refine G_iflt 31 23 d_Mod_sheet_20 rfl rfl (fun h20 => ?_) (fun h20 => ?_)
        · refine G_iload2 32 d_Mod_sheet_31 rfl ?_
          first | refine G_ifltD 42 35 d_Mod_sheet_32 rfl rfl (by omega) (fun h32 => ?_) (fun j h32 => ?_) | refine G_iflt 42 35 d_Mod_sheet_32 rfl rfl (fun h32 => ?_) (fun h32 => ?_)
          · refine G_aload0 43 d_Mod_sheet_42 rfl ?_
            refine G_getR 46 d_Mod_sheet_43 rfl f_Mod_121 rfl h.sh h.f52 ?_
            refine G_iload1 47 d_Mod_sheet_46 rfl ?_
            refine G_iload2 48 d_Mod_sheet_47 rfl ?_
            refine G_iastore 49 d_Mod_sheet_48 rfl h.s52 (ix_nI (by omega) (by omega)) ?_
            refine G_aload0 50 d_Mod_sheet_49 rfl ?_
            refine G_getR 53 d_Mod_sheet_50 rfl f_Mod_124 rfl h.sh h.f53 ?_
            refine G_iload1 54 d_Mod_sheet_53 rfl ?_
            refine G_iload2 55 d_Mod_sheet_54 rfl ?_
            refine G_ifge 62 58 d_Mod_sheet_55 rfl rfl (fun h55 => ?_) (fun h55 => ?_)
            · rw [Int32.le_iff_toInt_le] at h55
              have z : (0 : Int32).toInt = 0 := rfl
              omega
            · refine G_iconstN 0 59 d_Mod_sheet_58 rfl rfl ?_
              refine G_goto 63 d_Mod_sheet_59 rfl ?_
              exact fin 0 (by omega) (by rw [if_pos hw0]) hyes (by omega)
          · exact absurd hlt h32
        · exact absurd hlt h20
      · have hnl : ¬ w < 0 := by rw [lt0_iff]; exact hw0
        refine G_iload2 20 d_Mod_sheet_19 rfl ?_
        first | refine G_ifltD 31 23 d_Mod_sheet_20 rfl rfl (by omega) (fun h20 => ?_) (fun j h20 => ?_) | refine G_iflt 31 23 d_Mod_sheet_20 rfl rfl (fun h20 => ?_) (fun h20 => ?_)
        · exact absurd h20 hnl
        · refine G_iload3 24 d_Mod_sheet_23 rfl ?_
          refine G_bipushN 40 26 d_Mod_sheet_24 rfl rfl ?_
          first | refine G_icleN 31 29 d_Mod_sheet_26 rfl rfl (by omega) (by omega) (fun h26 => ?_) (fun h26 => ?_) | refine G_icle 31 29 d_Mod_sheet_26 rfl rfl (fun h26 => ?_) (fun h26 => ?_)
          · have h26' : n.toInt ≤ 40 := by
              rw [lec' (by omega)] at h26; exact h26
            have hyes : (bN (nI k) 4 && bB w (-1) 1 && !(decide (0 ≤ w.toInt) && decide (40 < n.toInt))) = true := by
              rw [q1, q2, decide_eq_false (show ¬ 40 < n.toInt by omega), Bool.and_false]; rfl
            refine G_iload2 32 d_Mod_sheet_31 rfl ?_
            first | refine G_ifltD 42 35 d_Mod_sheet_32 rfl rfl (by omega) (fun h32 => ?_) (fun j h32 => ?_) | refine G_iflt 42 35 d_Mod_sheet_32 rfl rfl (fun h32 => ?_) (fun h32 => ?_)
            · exact absurd h32 hnl
            · refine G_iload3 36 d_Mod_sheet_35 rfl ?_
              refine G_ifge 42 39 d_Mod_sheet_36 rfl rfl (fun h36 => ?_) (fun h36 => ?_)
              · rw [Int32.le_iff_toInt_le] at h36
                have z : (0 : Int32).toInt = 0 := rfl
                obtain ⟨nn, hn1, rfl⟩ : ∃ mm : Nat, mm < 2 ^ 31 ∧ n = nI mm := nI_of (fun e => by rw [lt0_iff] at e; omega)
                rw [nI_toInt hn1] at h26' h36
                refine G_aload0 43 d_Mod_sheet_42 rfl ?_
                refine G_getR 46 d_Mod_sheet_43 rfl f_Mod_121 rfl h.sh h.f52 ?_
                refine G_iload1 47 d_Mod_sheet_46 rfl ?_
                refine G_iload2 48 d_Mod_sheet_47 rfl ?_
                refine G_iastore 49 d_Mod_sheet_48 rfl h.s52 (ix_nI (by omega) (by omega)) ?_
                refine G_aload0 50 d_Mod_sheet_49 rfl ?_
                refine G_getR 53 d_Mod_sheet_50 rfl f_Mod_124 rfl h.sh h.f53 ?_
                refine G_iload1 54 d_Mod_sheet_53 rfl ?_
                refine G_iload2 55 d_Mod_sheet_54 rfl ?_
                refine G_ifge 62 58 d_Mod_sheet_55 rfl rfl (fun h55 => ?_) (fun h55 => ?_)
                · refine G_iload3 63 d_Mod_sheet_62 rfl ?_
                  exact fin nn (by omega) (by rw [if_neg hw0, ni_nI hn1]) hyes (by rw [nI_toInt hn1]; omega)
                · exfalso
                  apply h55
                  rw [Int32.le_iff_toInt_le]
                  omega
              · rw [Int32.le_iff_toInt_le] at h36
                have z : (0 : Int32).toInt = 0 := rfl
                have hno : 0 ≤ w.toInt ∧ n.toInt < 0 := by omega
                simp only [fSheet, hyes, if_true, if_pos hno]
                refine G_bipush (-14) 41 d_Mod_sheet_39 rfl rfl ?_
                refine G_iret d_Mod_sheet_41 rfl ?_
                exact ⟨rfl, rfl, hI, fM.rf⟩
          · have h26' : 40 < n.toInt := by
              rw [lec' (by omega)] at h26; omega
            exact bad (by rw [decide_eq_true (show 0 ≤ w.toInt by omega), decide_eq_true h26', Bool.and_self, Bool.not_true, Bool.and_false])
    · have q2 := bB_f (fun e => h13 (kc.mpr e))
      exact bad (by rw [q2, Bool.and_false, Bool.false_and])
  · have q1 := bN_f h1 (show 4 < 2 ^ 31 by omega)
    exact bad (by rw [q1, Bool.false_and, Bool.false_and])
theorem m_generator {V : GV} {d b : Nat} {S : ST} {s : Int32} {X : XT} {FI AI : FT} {AL : LT} (h : MO X b) (hI : MIv S FI AI AL b) (hW : WS S) : G V m_Mod_generator (d + 1) 0 [some (.ref b), some (.int s), none, none, none] [] X FI AI AL (fun r X' FI' AI' AL' => r = some (.int (fGenerator S s).1) ∧ X' = X ∧ MIv (fGenerator S s).2 FI' AI' AL' b ∧ fM FI FI' AI AI' AL AL' b) := by
  obtain ⟨hG, hO, hSl, -⟩ := id hI
  have hT := hG.1
  have hn9 := hG.2.1
  have ho := hG.2.2.1
  have hrk := hG.2.2.2.1
  have hn7 := hW.2.1.1
  have hgl := hG.gl hW.2.1
  have hinj := hW.2.1.2.2
  have hl2 : ∀ i, i < gN (tG S) → gL (tG S) i < 84 ∧ 1 ≤ eD (gL (tG S) i) := fun i hi => (hgl i hi).2
  have hlen : ∀ t, t < 84 → (RN (leadL (gL (tG S)) (gN (tG S))) t).length ≤ 120 := fun t ht => by rw [RN, List.length_map]; exact RT_128 hn7 hl2 hinj ht
  refine G_iload1 1 d_Mod_generator_0 rfl ?_
  refine G_invS1b 4 d_Mod_generator_1 rfl e_Mod_182 M_Mod_isSlot (Nat.le_of_ble_eq_true rfl) (Nat.le_of_ble_eq_true rfl) rfl (s_mIsSlot) (fun h1 => G_ifne1 7 d_Mod_generator_4 9 rfl rfl ?_) (fun h1 => G_ifne0 7 d_Mod_generator_4 9 rfl rfl ?_)
  · obtain ⟨k, hk, rfl⟩ := h1
    have q1 := bN_t hk (show 6 < 2 ^ 31 by omega)
    have z1 := ni_nI (show k < 2 ^ 31 by omega)
    obtain ⟨-, a1, a2, a3, a4, a5, a6⟩ := hI.de
    simp only [fGenerator, q1, z1, if_true, ← hSl k hk]
    have hls := pld_le (mp AL b k) ho 84 (Nat.le_refl _)
    generalize hf : mp AL b k = f at hls
    -- it can't be
    have no : (lead1 f (tO S) ≤ 1 ∨ ¬ f (lead1 f (tO S) - 1) = 1 ∨ (List.range (gN (tG S))).any (fun g => decide (gL (tG S) g = lead1 f (tO S) - 1)) = true) → ∀ (v2 l4 : Option Value), G V m_Mod_generator (d + 1) 80 [some (.ref b), some (.int (nI k)), v2, some (.int (nI 0)), l4] [] X FI AI AL (fun r X' FI' AI' AL' => r = some (.int (fGen1 S f).1) ∧ X' = X ∧ MIv (fGen1 S f).2 FI' AI' AL' b ∧ fM FI FI' AI AI' AL AL' b) := by
      intro hc v2 l4
      simp only [fGen1, if_pos hc]
      refine G_iload3 81 d_Mod_generator_80 rfl ?_
      refine G_ifne 87 84 d_Mod_generator_81 rfl rfl (fun h81 => ?_) (fun h81 => ?_)
      · exact absurd rfl h81
      · refine G_bipush (-3) 86 d_Mod_generator_84 rfl rfl ?_
        refine G_iret d_Mod_generator_86 rfl ?_
        exact ⟨rfl, rfl, hI, fM.rf⟩
    have no2 : (lead1 f (tO S) ≤ 1 ∨ ¬ f (lead1 f (tO S) - 1) = 1 ∨ (List.range (gN (tG S))).any (fun g => decide (gL (tG S) g = lead1 f (tO S) - 1)) = true) → ∀ (v2 : Option Value) (g : Nat), g ≤ 7 → G V m_Mod_generator (d + 1) 44 [some (.ref b), some (.int (nI k)), v2, some (.int (nI 0)), some (.int (nI g))] [] X FI AI AL (fun r X' FI' AI' AL' => r = some (.int (fGen1 S f).1) ∧ X' = X ∧ MIv (fGen1 S f).2 FI' AI' AL' b ∧ fM FI FI' AI AI' AL AL' b) := by
      intro hc v2 g hg
      refine G_iload4 46 d_Mod_generator_44 rfl ?_
      refine G_aload0 47 d_Mod_generator_46 rfl ?_
      refine G_getIv 50 d_Mod_generator_47 rfl f_Mod_133 rfl h.sh hn9 ?_
      first | refine G_icgeN 80 53 d_Mod_generator_50 rfl rfl (by omega) (by omega) (fun h50 => ?_) (fun h50 => ?_) | refine G_icge 80 53 d_Mod_generator_50 rfl rfl (fun h50 => ?_) (fun h50 => ?_)
      · exact no hc _ _
      · refine G_iload3 54 d_Mod_generator_53 rfl ?_
        refine G_ifeq 80 57 d_Mod_generator_54 rfl rfl (fun h54 => ?_) (fun h54 => ?_)
        · exact no hc _ _
        · exact absurd rfl h54
    have hld := s_mLeading (V := V) (d := d) (p := k) (FI := FI) (AL := AL) h (by omega) ho hrk
    rw [hf] at hld
    refine G_aload0 10 d_Mod_generator_9 rfl ?_
    refine G_iload1 11 d_Mod_generator_10 rfl ?_
    refine G_invV1d 14 d_Mod_generator_11 rfl e_Mod_239 M_Mod_leading rfl h.sh (Nat.le_of_ble_eq_true rfl) (Nat.le_of_ble_eq_true rfl) rfl (hld) ?_
    refine G_istore2 15 d_Mod_generator_14 rfl (by decide) rfl ?_
    by_cases hT1 : lead1 f (tO S) ≤ 1
    · have hle : dI (lead1 f (tO S)) ≤ 0 := by
        have : lead1 f (tO S) = 0 ∨ lead1 f (tO S) = 1 := by omega
        rcases this with e | e <;> rw [e] <;> decide
      refine G_iload2 16 d_Mod_generator_15 rfl ?_
      refine G_ifle 39 19 d_Mod_generator_16 rfl rfl (fun h16 => ?_) (fun h16 => ?_)
      · refine G_iconstN 0 40 d_Mod_generator_39 rfl rfl ?_
        refine G_istore3 41 d_Mod_generator_40 rfl (by decide) rfl ?_
        refine G_iconstN 0 42 d_Mod_generator_41 rfl rfl ?_
        refine G_istore4 44 d_Mod_generator_42 rfl (by decide) rfl ?_
        exact no2 (Or.inl hT1) _ 0 (by omega)
      · exact absurd hle h16
    · obtain ⟨t, ht⟩ : ∃ t, lead1 f (tO S) = t + 1 := ⟨lead1 f (tO S) - 1, by omega⟩
      obtain ⟨t84, -, -⟩ := lead_ok ho ht
      have e3 : AL (b + 1) (84 * k + t) = f t := by rw [← hf, mp_at t84]
      have htt : lead1 f (tO S) - 1 = t := by omega
      rw [ht, dI_s]
      refine G_iload2 16 d_Mod_generator_15 rfl ?_
      refine G_ifle 39 19 d_Mod_generator_16 rfl rfl (fun h16 => ?_) (fun h16 => ?_)
      · exact absurd h16 (nI_nle (by omega) (by omega))
      · refine G_aload0 20 d_Mod_generator_19 rfl ?_
        refine G_getR 23 d_Mod_generator_20 rfl f_Mod_9 rfl h.sh h.f0 ?_
        refine G_bipushN 84 25 d_Mod_generator_23 rfl rfl ?_
        refine G_iload1 26 d_Mod_generator_25 rfl ?_
        first | refine G_imulN 27 d_Mod_generator_26 rfl ?_ | refine G_imul 27 d_Mod_generator_26 rfl ?_
        refine G_iload2 28 d_Mod_generator_27 rfl ?_
        first | refine G_iaddN 29 d_Mod_generator_28 rfl ?_ | refine G_iadd 29 d_Mod_generator_28 rfl ?_
        refine G_laloadv 30 d_Mod_generator_29 rfl h.s0 (ix_nI (by omega) (by omega)) e3 ?_
        refine G_lconst 1 31 d_Mod_generator_30 rfl rfl ?_
        refine G_lcne 39 35 d_Mod_generator_31 d_Mod_generator_32 rfl rfl (fun h31 => ?_) (fun h31 => ?_)
        · refine G_iconstN 0 40 d_Mod_generator_39 rfl rfl ?_
          refine G_istore3 41 d_Mod_generator_40 rfl (by decide) rfl ?_
          refine G_iconstN 0 42 d_Mod_generator_41 rfl rfl ?_
          refine G_istore4 44 d_Mod_generator_42 rfl (by decide) rfl ?_
          exact no2 (Or.inr (Or.inl (by rw [htt]; exact h31))) _ 0 (by omega)
        · have hone : f t = 1 := h31
          have L : ∀ i, i ≤ gN (tG S) → (∀ j, j < i → gL (tG S) j ≠ t) → G V m_Mod_generator (d + 1) 44 [some (.ref b), some (.int (nI k)), some (.int (nI t)), some (.int (nI 1)), some (.int (nI i))] [] X FI AI AL (fun r X' FI' AI' AL' => r = some (.int (fGen1 S f).1) ∧ X' = X ∧ MIv (fGen1 S f).2 FI' AI' AL' b ∧ fM FI FI' AI AI' AL AL' b) := by
            refine upto ?_ ?_
            · intro hall
              have hc : ¬ (lead1 f (tO S) ≤ 1 ∨ ¬ f (lead1 f (tO S) - 1) = 1 ∨ (List.range (gN (tG S))).any (fun g => decide (gL (tG S) g = lead1 f (tO S) - 1)) = true) := by
                rw [htt]
                rintro (e | e | e)
                · exact hT1 e
                · exact e hone
                · rw [List.any_eq_true] at e
                  obtain ⟨j, hj, e⟩ := e
                  exact hall j (List.mem_range.mp hj) (of_decide_eq_true e)
              simp only [fGen1, if_neg hc]
              simp only [htt]
              refine G_iload4 46 d_Mod_generator_44 rfl ?_
              refine G_aload0 47 d_Mod_generator_46 rfl ?_
              refine G_getIv 50 d_Mod_generator_47 rfl f_Mod_133 rfl h.sh hn9 ?_
              first | refine G_icgeN 80 53 d_Mod_generator_50 rfl rfl (by omega) (by omega) (fun h50 => ?_) (fun h50 => ?_) | refine G_icge 80 53 d_Mod_generator_50 rfl rfl (fun h50 => ?_) (fun h50 => ?_)
              · refine G_iload3 81 d_Mod_generator_80 rfl ?_
                refine G_ifne 87 84 d_Mod_generator_81 rfl rfl (fun h81 => ?_) (fun h81 => ?_)
                · refine G_aload0 88 d_Mod_generator_87 rfl ?_
                  refine G_getIv 91 d_Mod_generator_88 rfl f_Mod_133 rfl h.sh hn9 ?_
                  refine G_bipushN 7 93 d_Mod_generator_91 rfl rfl ?_
                  first | refine G_icneN 99 96 d_Mod_generator_93 rfl rfl (by omega) (by omega) (fun h93 => ?_) (fun h93 => ?_) | refine G_icne 99 96 d_Mod_generator_93 rfl rfl (fun h93 => ?_) (fun h93 => ?_)
                  · have h93' : ¬ gN (tG S) = 7 := h93
                    simp only [if_neg h93']
                    have f9 : u2 FI b 9 (nI (gN (tG S) + 1)) b 9 = nI (gN (tG S) + 1) := u2_at _ _ _ _
                    have hu : ∀ j, j ≠ 9 → ∀ v, u2 FI b 9 v b j = FI b j := fun j hj v => u2_ix _ _ hj
                    refine G_aload0 100 d_Mod_generator_99 rfl ?_
                    refine G_iload1 101 d_Mod_generator_100 rfl ?_
                    refine G_bipushN 6 103 d_Mod_generator_101 rfl rfl ?_
                    refine G_aload0 104 d_Mod_generator_103 rfl ?_
                    refine G_getIv 107 d_Mod_generator_104 rfl f_Mod_133 rfl h.sh hn9 ?_
                    first | refine G_iaddN 108 d_Mod_generator_107 rfl ?_ | refine G_iadd 108 d_Mod_generator_107 rfl ?_
                    refine G_invV2v 111 d_Mod_generator_108 rfl e_Mod_208 M_Mod_copyTo rfl h.sh (Nat.le_of_ble_eq_true rfl) (Nat.le_of_ble_eq_true rfl) rfl (s_mCopy (by assumption) (by omega) (by omega)) ?_
                    refine G_aload0 112 d_Mod_generator_111 rfl ?_
                    refine G_getR 115 d_Mod_generator_112 rfl f_Mod_37 rfl h.sh h.f10 ?_
                    refine G_aload0 116 d_Mod_generator_115 rfl ?_
                    refine G_getIv 119 d_Mod_generator_116 rfl f_Mod_133 rfl h.sh hn9 ?_
                    refine G_iload2 120 d_Mod_generator_119 rfl ?_
                    refine G_iastore 121 d_Mod_generator_120 rfl h.s10 (ix_nI (by omega) (by omega)) ?_
                    refine G_aload0 122 d_Mod_generator_121 rfl ?_
                    refine G_getR 125 d_Mod_generator_122 rfl f_Mod_40 rfl h.sh h.f11 ?_
                    refine G_aload0 126 d_Mod_generator_125 rfl ?_
                    refine G_getIv 129 d_Mod_generator_126 rfl f_Mod_133 rfl h.sh hn9 ?_
                    refine G_iconstN 0 130 d_Mod_generator_129 rfl rfl ?_
                    refine G_iastore 131 d_Mod_generator_130 rfl h.s11 (ix_nI (by omega) (by omega)) ?_
                    refine G_aload0 132 d_Mod_generator_131 rfl ?_
                    refine G_dup 133 d_Mod_generator_132 rfl rfl ?_
                    refine G_getIv 136 d_Mod_generator_133 rfl f_Mod_133 rfl h.sh hn9 ?_
                    refine G_iconstN 1 137 d_Mod_generator_136 rfl rfl ?_
                    first | refine G_iaddN 138 d_Mod_generator_137 rfl ?_ | refine G_iadd 138 d_Mod_generator_137 rfl ?_
                    refine G_putI 141 d_Mod_generator_138 rfl f_Mod_133 rfl (by intro C T N h; cases h; rfl) h.sh rfl rfl ?_
                    refine G_aload0 142 d_Mod_generator_141 rfl ?_
                    refine G_getIv 145 d_Mod_generator_142 rfl f_Mod_133 rfl h.sh f9 ?_
                    refine G_iconstN 1 146 d_Mod_generator_145 rfl rfl ?_
                    first | refine G_isubN 147 d_Mod_generator_146 rfl (by omega) ?_ | refine G_isub 147 d_Mod_generator_146 rfl ?_
                    refine G_iret d_Mod_generator_147 rfl ?_
                    rw [hf]
                    have ao : ∀ c, c ≠ b + 9 → c ≠ b + 10 → ∀ v v', u2 (u2 AI (b + 9) (gN (tG S)) v) (b + 10) (gN (tG S)) v' c = AI c := fun c h1 h2 v v' => by rw [u2_off _ _ _ h2, u2_off _ _ _ h1]
                    refine ⟨by rw [Nat.add_sub_cancel], rfl, MIv.mk (S := stG S (gN (tG S) + 1, upn (gL (tG S)) (gN (tG S)) t, upn (gP (tG S)) (gN (tG S)) f, upn (gK (tG S)) (gN (tG S)) 0, gC (tG S), gR (tG S))) ⟨⟨fun s hs => ?_, fun x y z hs => ?_⟩, f9, ho, fun j hj => ?_, fun q hq => ?_⟩ (by rw [hu 8 (by omega)]; exact a1) (fun s hs => by rw [mp_spn (by omega)]; exact a2 s hs) (a3.tr (hu 23 (by omega) _) (hu 24 (by omega) _) (ao _ (by omega) (by omega) _ _) (sp_off (by omega))) (a4.tr (ao _ (by omega) (by omega) _ _) (ao _ (by omega) (by omega) _ _) (ao _ (by omega) (by omega) _ _)) (a5.tr (hu 48 (by omega) _) (ao _ (by omega) (by omega) _ _) (ao _ (by omega) (by omega) _ _) (sp_off (by omega))) (a6.tr (hu 19 (by omega) _) (hu 17 (by omega) _) (hu 18 (by omega) _) (ao _ (by omega) (by omega) _ _) (ao _ (by omega) (by omega) _ _) (sp_off (by omega)) (sp_off (by omega))), fun c hc => ⟨u2_off _ _ _ (by omega), ao c (by omega) (by omega) _ _, sp_off (by omega)⟩⟩
                    · rw [ao _ (by omega) (by omega), ao _ (by omega) (by omega), ao _ (by omega) (by omega)]; exact hT.1 s hs
                    · rw [ao _ (by omega) (by omega)]; exact hT.2 x y z hs
                    · rw [ao _ (by omega) (by omega)]; exact hrk j hj
                    · have hq' : q < gN (tG S) + 1 := hq
                      show _ = nI (upn (gL (tG S)) (gN (tG S)) t q) ∧ _ = upn (gP (tG S)) (gN (tG S)) f q ∧ _ = nI (upn (gK (tG S)) (gN (tG S)) 0 q) ∧ ∀ i, i < upn (gK (tG S)) (gN (tG S)) 0 q → _ = gC (tG S) q i ∧ ∀ h, h < 7 → _ = nI (pw (gR (tG S) q i) h)
                      by_cases e : q = gN (tG S)
                      · subst e
                        rw [upn_at, upn_at, upn_at, u2_ne _ _ _ _ (by omega), u2_at, u2_at, mp_sp]
                        exact ⟨rfl, by rw [← hf]; exact mp_cu _ _ _, rfl, fun i hi => by omega⟩
                      · rw [upn_ne _ _ e, upn_ne _ _ e, upn_ne _ _ e, u2_ne _ _ _ _ (by omega), u2_ix _ _ e, u2_ix _ _ e, u2_ne _ _ _ _ (by omega), mp_spn (by omega)]
                        obtain ⟨b1, b2, b3, b4⟩ := hG.2.2.2.2 q (by omega)
                        exact ⟨b1, b2, b3, fun i hi => ⟨by rw [sp_off (by omega)]; exact (b4 i hi).1, fun f hf => by rw [ao _ (by omega) (by omega)]; exact (b4 i hi).2 f hf⟩⟩
                  · simp only [if_pos h93]
                    refine G_bipush (-4) 98 d_Mod_generator_96 rfl rfl ?_
                    refine G_iret d_Mod_generator_98 rfl ?_
                    exact ⟨rfl, rfl, hI, fM.rf⟩
                · exact absurd h81 (by decide)
              · omega
            · intro i hi ih hall
              obtain ⟨g1, g2, g3⟩ := hgl i hi
              refine G_iload4 46 d_Mod_generator_44 rfl ?_
              refine G_aload0 47 d_Mod_generator_46 rfl ?_
              refine G_getIv 50 d_Mod_generator_47 rfl f_Mod_133 rfl h.sh hn9 ?_
              first | refine G_icgeN 80 53 d_Mod_generator_50 rfl rfl (by omega) (by omega) (fun h50 => ?_) (fun h50 => ?_) | refine G_icge 80 53 d_Mod_generator_50 rfl rfl (fun h50 => ?_) (fun h50 => ?_)
              · omega
              · refine G_iload3 54 d_Mod_generator_53 rfl ?_
                refine G_ifeq 80 57 d_Mod_generator_54 rfl rfl (fun h54 => ?_) (fun h54 => ?_)
                · exact absurd h54 (by decide)
                · refine G_aload0 58 d_Mod_generator_57 rfl ?_
                  refine G_getR 61 d_Mod_generator_58 rfl f_Mod_37 rfl h.sh h.f10 ?_
                  refine G_iload4 63 d_Mod_generator_61 rfl ?_
                  refine G_ialoadv 64 d_Mod_generator_63 rfl h.s10 (ix_nI (by omega) (by omega)) g1 ?_
                  refine G_iload2 65 d_Mod_generator_64 rfl ?_
                  first | refine G_iceqN 72 68 d_Mod_generator_65 rfl rfl (by omega) (by omega) (fun h65 => ?_) (fun h65 => ?_) | refine G_iceq 72 68 d_Mod_generator_65 rfl rfl (fun h65 => ?_) (fun h65 => ?_)
                  · refine G_iconstN 0 73 d_Mod_generator_72 rfl rfl ?_
                    refine G_istore3 74 d_Mod_generator_73 rfl (by decide) rfl ?_
                    first | refine G_iincN4 77 d_Mod_generator_74 rfl (by decide) rfl ?_ | refine G_iinc4 _ 77 d_Mod_generator_74 rfl (by decide) rfl rfl ?_
                    refine G_goto 44 d_Mod_generator_77 rfl ?_
                    refine no2 (Or.inr (Or.inr ?_)) _ (i + 1) (by omega)
                    rw [htt, List.any_eq_true]
                    exact ⟨i, List.mem_range.mpr hi, decide_eq_true h65⟩
                  · refine G_iconstN 1 69 d_Mod_generator_68 rfl rfl ?_
                    refine G_goto 73 d_Mod_generator_69 rfl ?_
                    refine G_istore3 74 d_Mod_generator_73 rfl (by decide) rfl ?_
                    first | refine G_iincN4 77 d_Mod_generator_74 rfl (by decide) rfl ?_ | refine G_iinc4 _ 77 d_Mod_generator_74 rfl (by decide) rfl rfl ?_
                    refine G_goto 44 d_Mod_generator_77 rfl ?_
                    refine ih (fun j hj => ?_)
                    by_cases e : j = i
                    · rw [e]; exact h65
                    · exact hall j (by omega)
          refine G_iconstN 1 36 d_Mod_generator_35 rfl rfl ?_
          refine G_goto 40 d_Mod_generator_36 rfl ?_
          refine G_istore3 41 d_Mod_generator_40 rfl (by decide) rfl ?_
          refine G_iconstN 0 42 d_Mod_generator_41 rfl rfl ?_
          refine G_istore4 44 d_Mod_generator_42 rfl (by decide) rfl ?_
          exact L 0 (Nat.zero_le _) (fun j hj => by omega)
  · have q1 := bN_f h1 (show 6 < 2 ^ 31 by omega)
    simp only [fGenerator, q1, Bool.false_eq_true, if_false]
    refine G_iconst (-1) 8 d_Mod_generator_7 rfl rfl ?_
    refine G_iret d_Mod_generator_8 rfl ?_
    exact ⟨rfl, rfl, hI, fM.rf⟩
