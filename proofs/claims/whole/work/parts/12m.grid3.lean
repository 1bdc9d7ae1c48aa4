/-! ===== the class: inSpan, part ===== -/
def sbR (B : LM) (c : Nat) (s : Nat → Int64) : Nat → Int64 := if 0 < B c c then (fun j => s j - s c / B c c * B c j) else s
def spL (B : LM) : Nat → Nat → (Nat → Int64) → Bool
  | 0, _, _ => true
  | f + 1, c, s => if sbR B c s c = 0 then spL B f (c + 1) (sbR B c s) else false
def rpF (B : LM) : Nat → Nat → (Nat → Int64) → Int64 → Int64
  | 0, _, _, q => q
  | f + 1, c, s, q => if 0 < B c c then rpF B f (c + 1) (fun j => s j - s c / B c c * B c j) (s c / B c c) else rpF B f (c + 1) s q
/-- next alone is other -/
theorem s3F_l {x y z : Int32} : (fun j => if j = 2 then z.toInt64 else if j = 1 then y.toInt64 else if j = 0 then x.toInt64 else 0) = s3F x y z := by
  funext j
  unfold s3F
  by_cases e0 : j = 0
  · subst e0; simp
  · by_cases e1 : j = 1
    · subst e1; simp
    · by_cases e2 : j = 2
      · subst e2; simp
      · simp [e0, e1, e2]
theorem s_spans {V : GV} {d l : Nat} {x y z : Int32} {B : LM} {X : XT} {FI AI : FT} {AL : LT} (h : LAo X l) (hB : LBo AL l B) : G V m_Lat_spans (d + 1) 0 [some (.ref l), some (.int x), some (.int y), some (.int z), none] [] X FI AI AL (fun r X' FI' AI' AL' => r = some (.int (nI (if spL B 3 0 (s3F x y z) = true then 1 else 0))) ∧ X' = X ∧ FI' = FI ∧ AI' = AI ∧ ∀ c, c ≠ l + 12 → AL' c = AL c) := by
  obtain ⟨o1, o2, o3, o4, o5, o6⟩ := id h
  have L : ∀ f, f ≤ 3 → ∀ s : Nat → Int64, spL B f (3 - f) s = spL B 3 0 (s3F x y z) → G V m_Lat_spans (d + 1) 35 [some (.ref l), some (.int x), some (.int y), some (.int z), some (.int (nI (3 - f)))] [] X FI AI (sr AL (l + 12) s) (fun r X' FI' AI' AL' => r = some (.int (nI (if spL B 3 0 (s3F x y z) = true then 1 else 0))) ∧ X' = X ∧ FI' = FI ∧ AI' = AI ∧ ∀ c, c ≠ l + 12 → AL' c = AL c) := by
    intro f
    induction f with
    | zero =>
      intro _ s e
      rw [← e, spL, if_pos rfl]
      refine G_iload4 37 d_Lat_spans_35 rfl ?_
      refine G_iconstN 3 38 d_Lat_spans_37 rfl rfl ?_
      first | refine G_icgeN 108 41 d_Lat_spans_38 rfl rfl (by omega) (by omega) (fun h38 => ?_) (fun h38 => ?_) | refine G_icge 108 41 d_Lat_spans_38 rfl rfl (fun h38 => ?_) (fun h38 => ?_)
      · refine G_iconstN 1 109 d_Lat_spans_108 rfl rfl ?_
        refine G_zret d_Lat_spans_109 rfl ?_ ?_
        · exact Or.inr rfl
        · exact ⟨rfl, rfl, rfl, rfl, fun c hc => sr_ne _ _ hc⟩
      · omega
    | succ f ih =>
      intro hf s e
      have hc : 3 - (f + 1) < 10 := by omega
      obtain ⟨ac, sc⟩ := o6 _ hc
      have ev : sr AL (l + 12) s (l + 2 + (3 - (f + 1))) (3 - (f + 1)) = B (3 - (f + 1)) (3 - (f + 1)) := by rw [sr_ne _ _ (by omega)]; exact hB _ _ hc hc
      rw [spL] at e
      have T : G V m_Lat_spans (d + 1) 88 [some (.ref l), some (.int x), some (.int y), some (.int z), some (.int (nI (3 - (f + 1))))] [] X FI AI (sr AL (l + 12) (sbR B (3 - (f + 1)) s)) (fun r X' FI' AI' AL' => r = some (.int (nI (if spL B 3 0 (s3F x y z) = true then 1 else 0))) ∧ X' = X ∧ FI' = FI ∧ AI' = AI ∧ ∀ c, c ≠ l + 12 → AL' c = AL c) := by
        have en : sr AL (l + 12) (sbR B (3 - (f + 1)) s) (l + 12) (3 - (f + 1)) = sbR B (3 - (f + 1)) s (3 - (f + 1)) := by rw [sr_at]
        by_cases hz : sbR B (3 - (f + 1)) s (3 - (f + 1)) = 0
        · rw [if_pos hz] at e
          have ih2 := ih (by omega) (sbR B (3 - (f + 1)) s) (by rw [← e, show 3 - (f + 1) + 1 = 3 - f by omega])
          rw [show 3 - f = 3 - (f + 1) + 1 by omega] at ih2
          refine G_aload0 89 d_Lat_spans_88 rfl ?_
          refine G_getR 92 d_Lat_spans_89 rfl f_Lat_16 rfl (by assumption) (by assumption) ?_
          refine G_iload4 94 d_Lat_spans_92 rfl ?_
          refine G_laloadv 95 d_Lat_spans_94 rfl (by assumption) (ix_nI (by omega) (by omega)) en ?_
          refine G_lconst 0 96 d_Lat_spans_95 rfl rfl ?_
          refine G_lceq 102 100 d_Lat_spans_96 d_Lat_spans_97 rfl rfl (fun h96 => ?_) (fun h96 => ?_)
          · first | refine G_iincN4 105 d_Lat_spans_102 rfl (by decide) rfl ?_ | refine G_iinc4 _ 105 d_Lat_spans_102 rfl (by decide) rfl rfl ?_
            refine G_goto 35 d_Lat_spans_105 rfl ?_
            exact ih2
          · exact absurd hz h96
        · rw [if_neg hz] at e
          rw [← e, if_neg (by decide)]
          refine G_aload0 89 d_Lat_spans_88 rfl ?_
          refine G_getR 92 d_Lat_spans_89 rfl f_Lat_16 rfl (by assumption) (by assumption) ?_
          refine G_iload4 94 d_Lat_spans_92 rfl ?_
          refine G_laloadv 95 d_Lat_spans_94 rfl (by assumption) (ix_nI (by omega) (by omega)) en ?_
          refine G_lconst 0 96 d_Lat_spans_95 rfl rfl ?_
          refine G_lceq 102 100 d_Lat_spans_96 d_Lat_spans_97 rfl rfl (fun h96 => ?_) (fun h96 => ?_)
          · exact absurd h96 hz
          · refine G_iconstN 0 101 d_Lat_spans_100 rfl rfl ?_
            refine G_zret d_Lat_spans_101 rfl ?_ ?_
            · exact Or.inl rfl
            · exact ⟨rfl, rfl, rfl, rfl, fun c hc => sr_ne _ _ hc⟩
      by_cases hz : 0 < B (3 - (f + 1)) (3 - (f + 1))
      · have hnz : ¬ B (3 - (f + 1)) (3 - (f + 1)) = 0 := fun e => by rw [e] at hz; exact absurd hz (by decide)
        have es : sbR B (3 - (f + 1)) s = fun j => s j - s (3 - (f + 1)) / B (3 - (f + 1)) (3 - (f + 1)) * B (3 - (f + 1)) j := if_pos hz
        have en : sr AL (l + 12) s (l + 12) (3 - (f + 1)) = s (3 - (f + 1)) := by rw [sr_at]
        have hsb := s_latSub (V := V) (d := d) (t := s (3 - (f + 1)) / B (3 - (f + 1)) (3 - (f + 1))) (FI := FI) (AI := AI) (AL := sr AL (l + 12) s) o5 sc (by omega)
        rw [sr_sr, sr_at, sr_ne _ _ (show l + 2 + (3 - (f + 1)) ≠ l + 12 by omega)] at hsb
        have T2 : G V m_Lat_spans (d + 1) 88 [some (.ref l), some (.int x), some (.int y), some (.int z), some (.int (nI (3 - (f + 1))))] [] X FI AI (sr AL (l + 12) (fun j => s j - s (3 - (f + 1)) / B (3 - (f + 1)) (3 - (f + 1)) * AL (l + 2 + (3 - (f + 1))) j)) (fun r X' FI' AI' AL' => r = some (.int (nI (if spL B 3 0 (s3F x y z) = true then 1 else 0))) ∧ X' = X ∧ FI' = FI ∧ AI' = AI ∧ ∀ c, c ≠ l + 12 → AL' c = AL c) := by
          refine G.row (sbR B (3 - (f + 1)) s) o5 (fun j hj => ?_) T
          rw [es, hB _ _ hc hj]
        refine G_iload4 37 d_Lat_spans_35 rfl ?_
        refine G_iconstN 3 38 d_Lat_spans_37 rfl rfl ?_
        first | refine G_icgeN 108 41 d_Lat_spans_38 rfl rfl (by omega) (by omega) (fun h38 => ?_) (fun h38 => ?_) | refine G_icge 108 41 d_Lat_spans_38 rfl rfl (fun h38 => ?_) (fun h38 => ?_)
        · omega
        · refine G_aload0 42 d_Lat_spans_41 rfl ?_
          refine G_getR 45 d_Lat_spans_42 rfl f_Lat_13 rfl (by assumption) (by assumption) ?_
          refine G_iload4 47 d_Lat_spans_45 rfl ?_
          refine G_aaload 48 d_Lat_spans_47 rfl (by assumption) (by decide) (by decide) (ix_nI (by omega) (by omega)) (by assumption) ?_
          refine G_iload4 50 d_Lat_spans_48 rfl ?_
          refine G_laloadv 51 d_Lat_spans_50 rfl (by assumption) (ix_nI (by omega) (by omega)) ev ?_
          refine G_lconst 0 52 d_Lat_spans_51 rfl rfl ?_
          refine G_lcle 88 56 d_Lat_spans_52 d_Lat_spans_53 rfl rfl (fun h52 => ?_) (fun h52 => ?_)
          · exact absurd hz h52
          · refine G_aload0 57 d_Lat_spans_56 rfl ?_
            refine G_getR 60 d_Lat_spans_57 rfl f_Lat_16 rfl (by assumption) (by assumption) ?_
            refine G_aload0 61 d_Lat_spans_60 rfl ?_
            refine G_getR 64 d_Lat_spans_61 rfl f_Lat_13 rfl (by assumption) (by assumption) ?_
            refine G_iload4 66 d_Lat_spans_64 rfl ?_
            refine G_aaload 67 d_Lat_spans_66 rfl (by assumption) (by decide) (by decide) (ix_nI (by omega) (by omega)) (by assumption) ?_
            refine G_aload0 68 d_Lat_spans_67 rfl ?_
            refine G_getR 71 d_Lat_spans_68 rfl f_Lat_16 rfl (by assumption) (by assumption) ?_
            refine G_iload4 73 d_Lat_spans_71 rfl ?_
            refine G_laloadv 74 d_Lat_spans_73 rfl (by assumption) (ix_nI (by omega) (by omega)) en ?_
            refine G_aload0 75 d_Lat_spans_74 rfl ?_
            refine G_getR 78 d_Lat_spans_75 rfl f_Lat_13 rfl (by assumption) (by assumption) ?_
            refine G_iload4 80 d_Lat_spans_78 rfl ?_
            refine G_aaload 81 d_Lat_spans_80 rfl (by assumption) (by decide) (by decide) (ix_nI (by omega) (by omega)) (by assumption) ?_
            refine G_iload4 83 d_Lat_spans_81 rfl ?_
            refine G_laloadv 84 d_Lat_spans_83 rfl (by assumption) (ix_nI (by omega) (by omega)) ev ?_
            refine G_ldiv 85 d_Lat_spans_84 rfl hnz ?_
            refine G_invS3v 88 d_Lat_spans_85 rfl e_Lat_46 M_Lat_subtract (Nat.le_of_ble_eq_true rfl) (Nat.le_of_ble_eq_true rfl) rfl (hsb) ?_
            exact T2
      · have es : sbR B (3 - (f + 1)) s = s := if_neg hz
        rw [es] at T
        refine G_iload4 37 d_Lat_spans_35 rfl ?_
        refine G_iconstN 3 38 d_Lat_spans_37 rfl rfl ?_
        first | refine G_icgeN 108 41 d_Lat_spans_38 rfl rfl (by omega) (by omega) (fun h38 => ?_) (fun h38 => ?_) | refine G_icge 108 41 d_Lat_spans_38 rfl rfl (fun h38 => ?_) (fun h38 => ?_)
        · omega
        · refine G_aload0 42 d_Lat_spans_41 rfl ?_
          refine G_getR 45 d_Lat_spans_42 rfl f_Lat_13 rfl (by assumption) (by assumption) ?_
          refine G_iload4 47 d_Lat_spans_45 rfl ?_
          refine G_aaload 48 d_Lat_spans_47 rfl (by assumption) (by decide) (by decide) (ix_nI (by omega) (by omega)) (by assumption) ?_
          refine G_iload4 50 d_Lat_spans_48 rfl ?_
          refine G_laloadv 51 d_Lat_spans_50 rfl (by assumption) (ix_nI (by omega) (by omega)) ev ?_
          refine G_lconst 0 52 d_Lat_spans_51 rfl rfl ?_
          refine G_lcle 88 56 d_Lat_spans_52 d_Lat_spans_53 rfl rfl (fun h52 => ?_) (fun h52 => ?_)
          · exact T
          · exact absurd h52 hz
  have hf := s_fillL (V := V) (d := d) (x := 0) (FI := FI) (AI := AI) (AL := AL) o5 (by omega)
  have ew : ∀ f v i, u2 (sr AL (l + 12) f) (l + 12) i v = sr AL (l + 12) (fun j => if j = i then v else f j) := fun f v i => u2_sr _ _ _ _ _
  have L0 := L 3 (Nat.le_refl _) (s3F x y z) rfl
  refine G_aload0 1 d_Lat_spans_0 rfl ?_
  refine G_getR 4 d_Lat_spans_1 rfl f_Lat_16 rfl (by assumption) (by assumption) ?_
  refine G_lconst 0 5 d_Lat_spans_4 rfl rfl ?_
  refine G_invS2v 8 d_Lat_spans_5 rfl e_Lat_20 M_Arr_fill_AJJV (Nat.le_of_ble_eq_true rfl) (Nat.le_of_ble_eq_true rfl) rfl (hf) ?_
  refine G_aload0 9 d_Lat_spans_8 rfl ?_
  refine G_getR 12 d_Lat_spans_9 rfl f_Lat_16 rfl (by assumption) (by assumption) ?_
  refine G_iconstN 0 13 d_Lat_spans_12 rfl rfl ?_
  refine G_iload1 14 d_Lat_spans_13 rfl ?_
  refine G_i2l 15 d_Lat_spans_14 rfl ?_
  refine G_lastore 16 d_Lat_spans_15 rfl (by assumption) (ix_nI (by omega) (by omega)) ?_
  refine G_aload0 17 d_Lat_spans_16 rfl ?_
  refine G_getR 20 d_Lat_spans_17 rfl f_Lat_16 rfl (by assumption) (by assumption) ?_
  refine G_iconstN 1 21 d_Lat_spans_20 rfl rfl ?_
  refine G_iload2 22 d_Lat_spans_21 rfl ?_
  refine G_i2l 23 d_Lat_spans_22 rfl ?_
  refine G_lastore 24 d_Lat_spans_23 rfl (by assumption) (ix_nI (by omega) (by omega)) ?_
  refine G_aload0 25 d_Lat_spans_24 rfl ?_
  refine G_getR 28 d_Lat_spans_25 rfl f_Lat_16 rfl (by assumption) (by assumption) ?_
  refine G_iconstN 2 29 d_Lat_spans_28 rfl rfl ?_
  refine G_iload3 30 d_Lat_spans_29 rfl ?_
  refine G_i2l 31 d_Lat_spans_30 rfl ?_
  refine G_lastore 32 d_Lat_spans_31 rfl (by assumption) (ix_nI (by omega) (by omega)) ?_
  rw [ew, ew, ew, s3F_l]
  refine G_iconstN 0 33 d_Lat_spans_32 rfl rfl ?_
  refine G_istore4 35 d_Lat_spans_33 rfl (by decide) rfl ?_
  exact L0
def dfR (l r : Nat) (j : Nat) : Int64 := if 3 ≤ j ∧ j < 10 then (nI (pw l (j - 3)) - nI (pw r (j - 3))).toInt64 else 0
theorem s_relationPart {V : GV} {d l a b i : Nat} {B : LM} {X : XT} {FI AI : FT} {AL : LT} (h : LAo X l) (hB : LBo AL l B) (ha : a < 2 ^ 31) (hb : b < 2 ^ 31) (hi : i < 2 ^ 31) : G V m_Lat_relationPart (d + 1) 0 [some (.ref l), some (.int (nI a)), some (.int (nI b)), some (.int (nI i)), none, none, none, none] [] X FI AI AL (fun r X' FI' AI' AL' => r = some (.long (rpF B (pcl B i 7 3 0 + 1 - 3) 3 (dfR a b) 0)) ∧ X' = X ∧ FI' = FI ∧ AI' = AI ∧ ∀ c, c ≠ l + 12 → AL' c = AL c) := by
  obtain ⟨o1, o2, o3, o4, o5, o6⟩ := id h
  have hw := pcl_lt B i 7 3 0 (by omega)
  have L2 : ∀ f, f ≤ pcl B i 7 3 0 + 1 - 3 → ∀ (s : Nat → Int64) (q : Int64), rpF B f (pcl B i 7 3 0 + 1 - f) s q = rpF B (pcl B i 7 3 0 + 1 - 3) 3 (dfR a b) 0 → 3 ≤ pcl B i 7 3 0 + 1 - f → G V m_Lat_relationPart (d + 1) 61 [some (.ref l), some (.int (nI a)), some (.int (nI b)), some (.int (nI i)), some (.int (nI (pcl B i 7 3 0))), some (.long q), none, some (.int (nI (pcl B i 7 3 0 + 1 - f)))] [] X FI AI (sr AL (l + 12) s) (fun r X' FI' AI' AL' => r = some (.long (rpF B (pcl B i 7 3 0 + 1 - 3) 3 (dfR a b) 0)) ∧ X' = X ∧ FI' = FI ∧ AI' = AI ∧ ∀ c, c ≠ l + 12 → AL' c = AL c) := by
    intro f
    induction f with
    | zero =>
      intro _ s q e _
      rw [← e, rpF]
      refine G_iload7 63 d_Lat_relationPart_61 rfl ?_
      refine G_iload4 65 d_Lat_relationPart_63 rfl ?_
      first | refine G_icgtN 125 68 d_Lat_relationPart_65 rfl rfl (by omega) (by omega) (fun h65 => ?_) (fun h65 => ?_) | refine G_icgt 125 68 d_Lat_relationPart_65 rfl rfl (fun h65 => ?_) (fun h65 => ?_)
      · refine G_lload5 127 d_Lat_relationPart_125 rfl ?_
        refine G_lret d_Lat_relationPart_127 rfl ?_
        exact ⟨rfl, rfl, rfl, rfl, fun c hc => sr_ne _ _ hc⟩
      · omega
    | succ f ih =>
      intro hf s q e h3
      have hc : pcl B i 7 3 0 + 1 - (f + 1) < 10 := by omega
      obtain ⟨ac, sc⟩ := o6 _ hc
      have ev : sr AL (l + 12) s (l + 2 + (pcl B i 7 3 0 + 1 - (f + 1))) (pcl B i 7 3 0 + 1 - (f + 1)) = B (pcl B i 7 3 0 + 1 - (f + 1)) (pcl B i 7 3 0 + 1 - (f + 1)) := by rw [sr_ne _ _ (by omega)]; exact hB _ _ hc hc
      rw [rpF, show pcl B i 7 3 0 + 1 - (f + 1) + 1 = pcl B i 7 3 0 + 1 - f by omega] at e
      by_cases hz : 0 < B (pcl B i 7 3 0 + 1 - (f + 1)) (pcl B i 7 3 0 + 1 - (f + 1))
      · rw [if_pos hz] at e
        have hnz : ¬ B (pcl B i 7 3 0 + 1 - (f + 1)) (pcl B i 7 3 0 + 1 - (f + 1)) = 0 := fun e => by rw [e] at hz; exact absurd hz (by decide)
        have en : sr AL (l + 12) s (l + 12) (pcl B i 7 3 0 + 1 - (f + 1)) = s (pcl B i 7 3 0 + 1 - (f + 1)) := by rw [sr_at]
        have hsb := s_latSub (V := V) (d := d) (t := s (pcl B i 7 3 0 + 1 - (f + 1)) / B (pcl B i 7 3 0 + 1 - (f + 1)) (pcl B i 7 3 0 + 1 - (f + 1))) (FI := FI) (AI := AI) (AL := sr AL (l + 12) s) o5 sc (by omega)
        rw [sr_sr, sr_at, sr_ne _ _ (show l + 2 + (pcl B i 7 3 0 + 1 - (f + 1)) ≠ l + 12 by omega)] at hsb
        have ih2 := ih (by omega) _ _ e (by omega)
        rw [show pcl B i 7 3 0 + 1 - f = pcl B i 7 3 0 + 1 - (f + 1) + 1 by omega] at ih2
        refine G_iload7 63 d_Lat_relationPart_61 rfl ?_
        refine G_iload4 65 d_Lat_relationPart_63 rfl ?_
        first | refine G_icgtN 125 68 d_Lat_relationPart_65 rfl rfl (by omega) (by omega) (fun h65 => ?_) (fun h65 => ?_) | refine G_icgt 125 68 d_Lat_relationPart_65 rfl rfl (fun h65 => ?_) (fun h65 => ?_)
        · omega
        · refine G_aload0 69 d_Lat_relationPart_68 rfl ?_
          refine G_getR 72 d_Lat_relationPart_69 rfl f_Lat_13 rfl (by assumption) (by assumption) ?_
          refine G_iload7 74 d_Lat_relationPart_72 rfl ?_
          refine G_aaload 75 d_Lat_relationPart_74 rfl (by assumption) (by decide) (by decide) (ix_nI (by omega) (by omega)) (by assumption) ?_
          refine G_iload7 77 d_Lat_relationPart_75 rfl ?_
          refine G_laloadv 78 d_Lat_relationPart_77 rfl (by assumption) (ix_nI (by omega) (by omega)) ev ?_
          refine G_lconst 0 79 d_Lat_relationPart_78 rfl rfl ?_
          refine G_lcle 119 83 d_Lat_relationPart_79 d_Lat_relationPart_80 rfl rfl (fun h79 => ?_) (fun h79 => ?_)
          · exact absurd hz h79
          · refine G_aload0 84 d_Lat_relationPart_83 rfl ?_
            refine G_getR 87 d_Lat_relationPart_84 rfl f_Lat_16 rfl (by assumption) (by assumption) ?_
            refine G_iload7 89 d_Lat_relationPart_87 rfl ?_
            refine G_laloadv 90 d_Lat_relationPart_89 rfl (by assumption) (ix_nI (by omega) (by omega)) en ?_
            refine G_aload0 91 d_Lat_relationPart_90 rfl ?_
            refine G_getR 94 d_Lat_relationPart_91 rfl f_Lat_13 rfl (by assumption) (by assumption) ?_
            refine G_iload7 96 d_Lat_relationPart_94 rfl ?_
            refine G_aaload 97 d_Lat_relationPart_96 rfl (by assumption) (by decide) (by decide) (ix_nI (by omega) (by omega)) (by assumption) ?_
            refine G_iload7 99 d_Lat_relationPart_97 rfl ?_
            refine G_laloadv 100 d_Lat_relationPart_99 rfl (by assumption) (ix_nI (by omega) (by omega)) ev ?_
            refine G_ldiv 101 d_Lat_relationPart_100 rfl hnz ?_
            refine G_lstore5 103 d_Lat_relationPart_101 rfl (by decide) rfl ?_
            refine G_aload0 104 d_Lat_relationPart_103 rfl ?_
            refine G_getR 107 d_Lat_relationPart_104 rfl f_Lat_16 rfl (by assumption) (by assumption) ?_
            refine G_aload0 108 d_Lat_relationPart_107 rfl ?_
            refine G_getR 111 d_Lat_relationPart_108 rfl f_Lat_13 rfl (by assumption) (by assumption) ?_
            refine G_iload7 113 d_Lat_relationPart_111 rfl ?_
            refine G_aaload 114 d_Lat_relationPart_113 rfl (by assumption) (by decide) (by decide) (ix_nI (by omega) (by omega)) (by assumption) ?_
            refine G_lload5 116 d_Lat_relationPart_114 rfl ?_
            refine G_invS3v 119 d_Lat_relationPart_116 rfl e_Lat_46 M_Lat_subtract (Nat.le_of_ble_eq_true rfl) (Nat.le_of_ble_eq_true rfl) rfl (hsb) ?_
            first | refine G_iincN7 122 d_Lat_relationPart_119 rfl (by decide) rfl ?_ | refine G_iinc7 _ 122 d_Lat_relationPart_119 rfl (by decide) rfl rfl ?_
            refine G_goto 61 d_Lat_relationPart_122 rfl ?_
            refine G.row _ o5 (fun j hj => ?_) ih2
            rw [hB _ _ hc hj]
      · rw [if_neg hz] at e
        have ih2 := ih (by omega) _ _ e (by omega)
        rw [show pcl B i 7 3 0 + 1 - f = pcl B i 7 3 0 + 1 - (f + 1) + 1 by omega] at ih2
        refine G_iload7 63 d_Lat_relationPart_61 rfl ?_
        refine G_iload4 65 d_Lat_relationPart_63 rfl ?_
        first | refine G_icgtN 125 68 d_Lat_relationPart_65 rfl rfl (by omega) (by omega) (fun h65 => ?_) (fun h65 => ?_) | refine G_icgt 125 68 d_Lat_relationPart_65 rfl rfl (fun h65 => ?_) (fun h65 => ?_)
        · omega
        · refine G_aload0 69 d_Lat_relationPart_68 rfl ?_
          refine G_getR 72 d_Lat_relationPart_69 rfl f_Lat_13 rfl (by assumption) (by assumption) ?_
          refine G_iload7 74 d_Lat_relationPart_72 rfl ?_
          refine G_aaload 75 d_Lat_relationPart_74 rfl (by assumption) (by decide) (by decide) (ix_nI (by omega) (by omega)) (by assumption) ?_
          refine G_iload7 77 d_Lat_relationPart_75 rfl ?_
          refine G_laloadv 78 d_Lat_relationPart_77 rfl (by assumption) (ix_nI (by omega) (by omega)) ev ?_
          refine G_lconst 0 79 d_Lat_relationPart_78 rfl rfl ?_
          refine G_lcle 119 83 d_Lat_relationPart_79 d_Lat_relationPart_80 rfl rfl (fun h79 => ?_) (fun h79 => ?_)
          · first | refine G_iincN7 122 d_Lat_relationPart_119 rfl (by decide) rfl ?_ | refine G_iinc7 _ 122 d_Lat_relationPart_119 rfl (by decide) rfl rfl ?_
            refine G_goto 61 d_Lat_relationPart_122 rfl ?_
            exact ih2
          · exact absurd h79 hz
  have L1 : ∀ g, g ≤ 7 → ∀ s : Nat → Int64, (∀ j, s j = if 3 ≤ j ∧ j < 3 + g then dfR a b j else 0) → G V m_Lat_relationPart (d + 1) 11 [some (.ref l), some (.int (nI a)), some (.int (nI b)), some (.int (nI i)), some (.int (nI g)), none, none, none] [] X FI AI (sr AL (l + 12) s) (fun r X' FI' AI' AL' => r = some (.long (rpF B (pcl B i 7 3 0 + 1 - 3) 3 (dfR a b) 0)) ∧ X' = X ∧ FI' = FI ∧ AI' = AI ∧ ∀ c, c ≠ l + 12 → AL' c = AL c) := by
    refine upto ?_ ?_
    · intro s hs
      have es : s = dfR a b := by
        funext j
        rw [hs j]
        by_cases e : 3 ≤ j ∧ j < 10
        · rw [if_pos (by omega)]
        · rw [if_neg (by omega)]; unfold dfR; rw [if_neg e]
      subst es
      have hpc := s_pivotColumn (V := V) (d := d) (f := 3) (i := i) (B := B) (FI := FI) (AI := AI) (AL := sr AL (l + 12) (dfR a b)) h (fun c j hc hj => by rw [sr_ne _ _ (by omega)]; exact hB c j hc hj) (by omega) hi
      refine G_iload4 13 d_Lat_relationPart_11 rfl ?_
      refine G_bipushN 7 15 d_Lat_relationPart_13 rfl rfl ?_
      first | refine G_icgeN 47 18 d_Lat_relationPart_15 rfl rfl (by omega) (by omega) (fun h15 => ?_) (fun h15 => ?_) | refine G_icge 47 18 d_Lat_relationPart_15 rfl rfl (fun h15 => ?_) (fun h15 => ?_)
      · refine G_aload0 48 d_Lat_relationPart_47 rfl ?_
        refine G_iconstN 3 49 d_Lat_relationPart_48 rfl rfl ?_
        refine G_iload3 50 d_Lat_relationPart_49 rfl ?_
        refine G_invV2d 53 d_Lat_relationPart_50 rfl e_Lat_66 M_Lat_pivotColumn rfl (by assumption) (Nat.le_of_ble_eq_true rfl) (Nat.le_of_ble_eq_true rfl) rfl (hpc) ?_
        refine G_istore4 55 d_Lat_relationPart_53 rfl (by decide) rfl ?_
        refine G_lconst 0 56 d_Lat_relationPart_55 rfl rfl ?_
        refine G_lstore5 58 d_Lat_relationPart_56 rfl (by decide) rfl ?_
        refine G_iconstN 3 59 d_Lat_relationPart_58 rfl rfl ?_
        refine G_istore7 61 d_Lat_relationPart_59 rfl (by decide) rfl ?_
        by_cases e : 3 ≤ pcl B i 7 3 0 + 1
        · have := L2 (pcl B i 7 3 0 + 1 - 3) (Nat.le_refl _) (dfR a b) 0 (by rw [show pcl B i 7 3 0 + 1 - (pcl B i 7 3 0 + 1 - 3) = 3 by omega]) (by omega)
          rw [show pcl B i 7 3 0 + 1 - (pcl B i 7 3 0 + 1 - 3) = 3 by omega] at this
          exact this
        · rw [show pcl B i 7 3 0 + 1 - 3 = 0 by omega, rpF]
          have hw' : pcl B i (10 - 3) 3 0 < 10 := hw
          have hw2 : pcl B i (10 - 3) 3 0 = pcl B i 7 3 0 := rfl
          refine G_iload7 63 d_Lat_relationPart_61 rfl ?_
          refine G_iload4 65 d_Lat_relationPart_63 rfl ?_
          first | refine G_icgtN 125 68 d_Lat_relationPart_65 rfl rfl (by omega) (by omega) (fun h65 => ?_) (fun h65 => ?_) | refine G_icgt 125 68 d_Lat_relationPart_65 rfl rfl (fun h65 => ?_) (fun h65 => ?_)
          · refine G_lload5 127 d_Lat_relationPart_125 rfl ?_
            refine G_lret d_Lat_relationPart_127 rfl ?_
            exact ⟨rfl, rfl, rfl, rfl, fun c hc => sr_ne _ _ hc⟩
          · omega
      · omega
    · intro g hg ih s hs
      refine G_iload4 13 d_Lat_relationPart_11 rfl ?_
      refine G_bipushN 7 15 d_Lat_relationPart_13 rfl rfl ?_
      first | refine G_icgeN 47 18 d_Lat_relationPart_15 rfl rfl (by omega) (by omega) (fun h15 => ?_) (fun h15 => ?_) | refine G_icge 47 18 d_Lat_relationPart_15 rfl rfl (fun h15 => ?_) (fun h15 => ?_)
      · omega
      · refine G_aload0 19 d_Lat_relationPart_18 rfl ?_
        refine G_getR 22 d_Lat_relationPart_19 rfl f_Lat_16 rfl (by assumption) (by assumption) ?_
        refine G_iconstN 3 23 d_Lat_relationPart_22 rfl rfl ?_
        refine G_iload4 25 d_Lat_relationPart_23 rfl ?_
        first | refine G_iaddN 26 d_Lat_relationPart_25 rfl ?_ | refine G_iadd 26 d_Lat_relationPart_25 rfl ?_
        refine G_iload1 27 d_Lat_relationPart_26 rfl ?_
        refine G_iload4 29 d_Lat_relationPart_27 rfl ?_
        refine G_invS2d 32 d_Lat_relationPart_29 rfl e_Lat_69 M_Gen_power (Nat.le_of_ble_eq_true rfl) (Nat.le_of_ble_eq_true rfl) rfl (s_power (by omega) (by omega)) ?_
        refine G_iload2 33 d_Lat_relationPart_32 rfl ?_
        refine G_iload4 35 d_Lat_relationPart_33 rfl ?_
        refine G_invS2d 38 d_Lat_relationPart_35 rfl e_Lat_69 M_Gen_power (Nat.le_of_ble_eq_true rfl) (Nat.le_of_ble_eq_true rfl) rfl (s_power (by omega) (by omega)) ?_
        refine G_isub 39 d_Lat_relationPart_38 rfl ?_
        refine G_i2l 40 d_Lat_relationPart_39 rfl ?_
        refine G_lastore 41 d_Lat_relationPart_40 rfl (by assumption) (ix_nI (by omega) (by omega)) ?_
        first | refine G_iincN4 44 d_Lat_relationPart_41 rfl (by decide) rfl ?_ | refine G_iinc4 _ 44 d_Lat_relationPart_41 rfl (by decide) rfl rfl ?_
        refine G_goto 11 d_Lat_relationPart_44 rfl ?_
        rw [u2_sr]
        refine ih _ (fun j => ?_)
        by_cases e : j = 3 + g
        · rw [if_pos e, if_pos (by omega)]
          unfold dfR
          rw [if_pos (by omega), show j - 3 = g by omega]
        · rw [if_neg e, hs j]
          by_cases e2 : 3 ≤ j ∧ j < 3 + g
          · rw [if_pos e2, if_pos (by omega)]
          · rw [if_neg e2, if_neg (by omega)]
  have hf := s_fillL (V := V) (d := d) (x := 0) (FI := FI) (AI := AI) (AL := AL) o5 (by omega)
  refine G_aload0 1 d_Lat_relationPart_0 rfl ?_
  refine G_getR 4 d_Lat_relationPart_1 rfl f_Lat_16 rfl (by assumption) (by assumption) ?_
  refine G_lconst 0 5 d_Lat_relationPart_4 rfl rfl ?_
  refine G_invS2v 8 d_Lat_relationPart_5 rfl e_Lat_20 M_Arr_fill_AJJV (Nat.le_of_ble_eq_true rfl) (Nat.le_of_ble_eq_true rfl) rfl (hf) ?_
  refine G_iconstN 0 9 d_Lat_relationPart_8 rfl rfl ?_
  refine G_istore4 11 d_Lat_relationPart_9 rfl (by decide) rfl ?_
  exact L1 0 (Nat.zero_le _) (fun _ => 0) (fun j => by rw [if_neg (by omega)])
def gInSpan (S : ST) (x y z : Int32) : Int32 × ST := if (bB x (-999) 999 && bB y (-999) 999 && bB z (-999) 999) = true then (nI (if spL (cgB S) 3 0 (s3F x y z) = true then 1 else 0), S) else (-1, S)
noncomputable def gPart (S : ST) (x y z : Int32) : Int64 × ST := if (bB x 1 6 && bN y (tRl S (ni x)).length && bN z (pvc (cgB S) 3 7)) = true then (rpF (cgB S) (pcl (cgB S) (ni z) 7 3 0 + 1 - 3) 3 (dfR ((tRl S (ni x)).getD (ni y) (0, 0)).1 ((tRl S (ni x)).getD (ni y) (0, 0)).2) 0, S) else (NOl, S)
theorem CIv.nx {C E lo : Nat} {S : ST} {X : XT} {FI AI : FT} {AL AL' : LT} (hI : CIv C E S X FI AI AL lo) (hW : WS S) (k : ∀ c, c ≠ lo + 41 + 12 → AL' c = AL c) : CIv C E S X FI AI AL' lo ∧ cF X X FI FI AI AI AL AL' lo := by
  have hg := hI.2.2.2.2.2.2.1
  exact hI.gr hW (fun _ _ _ => rfl) (fun c hc => k c (by omega)) ⟨hg.1, fun e c j hc hj => by rw [k _ (by omega)]; exact hg.2 e c j hc hj⟩
theorem c_gInSpan {V : GV} {d lo C E : Nat} {S : ST} {x y z : Int32} {X : XT} {FI AI : FT} {AL : LT} (h : CO X lo) (hI : CIv C E S X FI AI AL lo) (hW : WS S) : G V m_Alg_inSpan (d + 5) 0 [some (.ref lo), some (.int x), some (.int y), some (.int z)] [] X FI AI AL (fun r X' FI' AI' AL' => r = some (.int (gInSpan S x y z).1) ∧ CO X' lo ∧ CIv C E (gInSpan S x y z).2 X' FI' AI' AL' lo ∧ cF X X' FI FI' AI AI' AL AL' lo) := by
  have hg := s_gridR (V := V) (d := d + 1) h hI hW
  have la := h.la
  have bd : (bB x (-999) 999 && bB y (-999) 999 && bB z (-999) 999) = false → G V m_Alg_inSpan (d + 5) 21 [some (.ref lo), some (.int x), some (.int y), some (.int z)] [] X FI AI AL (fun r X' FI' AI' AL' => r = some (.int (gInSpan S x y z).1) ∧ CO X' lo ∧ CIv C E (gInSpan S x y z).2 X' FI' AI' AL' lo ∧ cF X X' FI FI' AI AI' AL AL' lo) := by
    intro e
    have eF : gInSpan S x y z = (-1, S) := by unfold gInSpan; rw [e]; rfl
    rw [eF]
    refine G_iconst (-1) 22 d_Alg_inSpan_21 rfl rfl ?_
    refine G_iret d_Alg_inSpan_22 rfl ?_
    exact ⟨rfl, h, hI, cF.rf⟩
  refine G_iload1 1 d_Alg_inSpan_0 rfl ?_
  refine G_invS1b 4 d_Alg_inSpan_1 rfl e_Alg_123 M_Alg_isFactor (Nat.le_of_ble_eq_true rfl) (Nat.le_of_ble_eq_true rfl) rfl (s_isFactor) (fun h1 => G_ifeq1 7 d_Alg_inSpan_4 21 rfl rfl ?_) (fun h1 => G_ifeq0 7 d_Alg_inSpan_4 21 rfl rfl ?_)
  · refine G_iload2 8 d_Alg_inSpan_7 rfl ?_
    refine G_invS1b 11 d_Alg_inSpan_8 rfl e_Alg_123 M_Alg_isFactor (Nat.le_of_ble_eq_true rfl) (Nat.le_of_ble_eq_true rfl) rfl (s_isFactor) (fun h8 => G_ifeq1 14 d_Alg_inSpan_11 21 rfl rfl ?_) (fun h8 => G_ifeq0 14 d_Alg_inSpan_11 21 rfl rfl ?_)
    · refine G_iload3 15 d_Alg_inSpan_14 rfl ?_
      refine G_invS1b 18 d_Alg_inSpan_15 rfl e_Alg_123 M_Alg_isFactor (Nat.le_of_ble_eq_true rfl) (Nat.le_of_ble_eq_true rfl) rfl (s_isFactor) (fun h15 => G_ifne1 21 d_Alg_inSpan_18 23 rfl rfl ?_) (fun h15 => G_ifne0 21 d_Alg_inSpan_18 23 rfl rfl ?_)
      · have q1 := bB_iff.mpr h1
        have q2 := bB_iff.mpr h8
        have q3 := bB_iff.mpr h15
        simp only [gInSpan, q1, q2, q3, Bool.and_self, if_true]
        refine G_aload0 24 d_Alg_inSpan_23 rfl ?_
        refine G_invV0 27 d_Alg_inSpan_24 rfl e_Alg_311 M_Alg_gridNow rfl h.sh (Nat.le_of_ble_eq_true rfl) (Nat.le_of_ble_eq_true rfl) rfl (G.conseq (hg) (fun r24 X24 FI24 AI24 AL24 h24 => ?_))
        obtain ⟨t1, t2, t3, t4, t5, t6, t7⟩ := h24
        replace t2 := t2.symm
        replace t3 := t3.symm
        subst t1 t2 t3
        have hsp := s_spans (V := V) (d := d + 3) (x := x) (y := y) (z := z) (FI := FI24) (AI := AI) la t6
        refine G_iload1 28 d_Alg_inSpan_27 rfl ?_
        refine G_iload2 29 d_Alg_inSpan_28 rfl ?_
        refine G_iload3 30 d_Alg_inSpan_29 rfl ?_
        refine G_invV3 33 d_Alg_inSpan_30 rfl e_Alg_327 M_Lat_spans rfl h.s5 (Nat.le_of_ble_eq_true rfl) (Nat.le_of_ble_eq_true rfl) rfl (G.conseq (hsp) (fun r30 X30 FI30 AI30 AL30 h30 => ?_))
        obtain ⟨u1, u2, u3, u4, u5⟩ := h30
        replace u2 := u2.symm
        replace u3 := u3.symm
        replace u4 := u4.symm
        subst u1 u2 u3 u4
        obtain ⟨v1, v2⟩ := t4.nx hW u5
        cases hz : spL (cgB S) 3 0 (s3F x y z) with
        | true =>
          simp only [if_true]
          refine G_ifeq 40 36 d_Alg_inSpan_33 rfl rfl (fun h33 => ?_) (fun h33 => ?_)
          · exact absurd h33 (by decide)
          · refine G_iconstN 1 37 d_Alg_inSpan_36 rfl rfl ?_
            refine G_goto 41 d_Alg_inSpan_37 rfl ?_
            refine G_iret d_Alg_inSpan_41 rfl ?_
            exact ⟨rfl, h, v1, t5.tr v2⟩
        | false =>
          simp only [Bool.false_eq_true, if_false]
          refine G_ifeq 40 36 d_Alg_inSpan_33 rfl rfl (fun h33 => ?_) (fun h33 => ?_)
          · refine G_iconstN 0 41 d_Alg_inSpan_40 rfl rfl ?_
            refine G_iret d_Alg_inSpan_41 rfl ?_
            exact ⟨rfl, h, v1, t5.tr v2⟩
          · exact absurd rfl h33
      · exact bd (by rw [bB_f h15, Bool.and_false])
    · exact bd (by rw [bB_f h8, Bool.and_false, Bool.false_and])
  · exact bd (by rw [bB_f h1, Bool.false_and, Bool.false_and])
theorem c_gPart {V : GV} {d lo C E : Nat} {S : ST} {x y z : Int32} {X : XT} {FI AI : FT} {AL : LT} (h : CO X lo) (hI : CIv C E S X FI AI AL lo) (hW : WS S) : G V m_Alg_part (d + 7) 0 [some (.ref lo), some (.int x), some (.int y), some (.int z)] [] X FI AI AL (fun r X' FI' AI' AL' => r = some (.long (gPart S x y z).1) ∧ CO X' lo ∧ CIv C E (gPart S x y z).2 X' FI' AI' AL' lo ∧ cF X X' FI FI' AI AI' AL AL' lo) := by
  obtain ⟨rx0, ⟨rx1, rx2, rx3, rx4, rx5⟩, ry1, ry2, -, -, -⟩ := h.rl
  have rz1 : x_FR X (lo + 35) 0 = some (lo + 36) := rx1
  have rz2 : x_FR X (lo + 35) 1 = some (lo + 37) := rx2
  have rw1 : x_sh X (lo + 36) = some (0, 344) := ry1
  have rw2 : x_sh X (lo + 37) = some (0, 344) := ry2
  clear rx1 rx2 rx3 rx4 rx5 ry1 ry2
  have hgl : ∀ i, i < gN (tG S) → gL (tG S) i < 84 ∧ 1 ≤ eD (gL (tG S) i) := fun i hi => ⟨(hW.2.1.2.1 i hi).1, (hW.2.1.2.1 i hi).2.1⟩
  have ho := hW.1
  have hn7 := hW.2.1.1
  have la := h.la
  have hpv := pvc_le (cgB S) 3 7
  have bd : ∀ x' y' z' : Int32, (bB x' 1 6 && bN y' (tRl S (ni x')).length && bN z' (pvc (cgB S) 3 7)) = false → ∀ (FJ AJ : FT) (BJ : LT), CIv C E S X FJ AJ BJ lo → cF X X FI FJ AI AJ AL BJ lo → G V m_Alg_part (d + 7) 31 [some (.ref lo), some (.int x'), some (.int y'), some (.int z')] [] X FJ AJ BJ (fun r X' FI' AI' AL' => r = some (.long (gPart S x' y' z').1) ∧ CO X' lo ∧ CIv C E (gPart S x' y' z').2 X' FI' AI' AL' lo ∧ cF X X' FI FI' AI AI' AL AL' lo) := by
    intro x' y' z' e FJ AJ BJ j1 j2
    have eF : gPart S x' y' z' = (NOl, S) := by unfold gPart; rw [e]; rfl
    rw [eF]
    refine G_ldc2 34 d_Alg_part_31 rfl k_Alg_194 ?_
    refine G_lret d_Alg_part_34 rfl ?_
    exact ⟨rfl, h, j1, j2⟩
  refine G_iload1 1 d_Alg_part_0 rfl ?_
  refine G_invS1b 4 d_Alg_part_1 rfl e_Alg_333 M_Alg_isBound (Nat.le_of_ble_eq_true rfl) (Nat.le_of_ble_eq_true rfl) rfl (s_isBound) (fun h1 => G_ifeq1 7 d_Alg_part_4 31 rfl rfl ?_) (fun h1 => G_ifeq0 7 d_Alg_part_4 31 rfl rfl ?_)
  · obtain ⟨e, e1, e6, e31, rfl⟩ := isB_n (lo := 1) (hi := 6) h1
    have q0 : bB (nI e) 1 6 = true := bB_iff.mpr h1
    have z0 := ni_nI e31
    have h344 := rl_344 hI hW e6
    have hir := s_isRel (V := V) (d := d) (x := y) h hI hW e1 e6
    refine G_aload0 8 d_Alg_part_7 rfl ?_
    refine G_iload1 9 d_Alg_part_8 rfl ?_
    refine G_iload2 10 d_Alg_part_9 rfl ?_
    refine G_invV2 13 d_Alg_part_10 rfl e_Alg_343 M_Alg_isRelation rfl h.sh (Nat.le_of_ble_eq_true rfl) (Nat.le_of_ble_eq_true rfl) rfl (G.conseq (hir) (fun r10 X10 FI10 AI10 AL10 h10 => ?_))
    obtain ⟨a2, a3, a4, a5, a6⟩ := h10
    replace a2 := a2.symm
    replace a3 := a3.symm
    subst a2 a3
    rcases a6 with ⟨rfl, ⟨i, hil, rfl⟩, hRL⟩ | ⟨rfl, hno⟩
    · have q4 := bN_t hil (show (tRl S e).length < 2 ^ 31 by omega)
      have z4 := ni_nI (show i < 2 ^ 31 by omega)
      have hq : (tRl S e)[i]? = some (tRl S e)[i] := List.getElem?_eq_getElem hil
      have gd : (tRl S e).getD i (0, 0) = (tRl S e)[i] := by rw [List.getD_eq_getElem?_getD, hq]; rfl
      obtain ⟨f1, f2⟩ := hRL.1 i _ (rl_pre ho e6 hq)
      obtain ⟨r1, -⟩ := rlD_ok ho hn7 hgl 84 (Nat.le_refl _) (List.mem_of_getElem? hq)
      have hg := s_gridR (V := V) (d := d + 3) h a4 hW
      refine G_ifeq 31 16 d_Alg_part_13 rfl rfl (fun h13 => ?_) (fun h13 => ?_)
      · exact absurd h13 (by decide)
      · refine G_iload3 17 d_Alg_part_16 rfl ?_
        first | refine G_ifltD 31 20 d_Alg_part_17 rfl rfl (by omega) (fun h17 => ?_) (fun j h17 => ?_) | refine G_iflt 31 20 d_Alg_part_17 rfl rfl (fun h17 => ?_) (fun h17 => ?_)
        · exact bd _ _ _ (by rw [bN_f (fun ⟨j, hj, ej⟩ => by rw [ej] at h17; exact absurd h17 (nI_pos (by omega))) (show pvc (cgB S) 3 7 < 2 ^ 31 by omega), Bool.and_false]) _ _ _ a4 a5
        · obtain ⟨k, hk31, rfl⟩ := nI_of h17
          refine G_iload3 21 d_Alg_part_20 rfl ?_
          refine G_aload0 22 d_Alg_part_21 rfl ?_
          refine G_invV0 25 d_Alg_part_22 rfl e_Alg_311 M_Alg_gridNow rfl h.sh (Nat.le_of_ble_eq_true rfl) (Nat.le_of_ble_eq_true rfl) rfl (G.conseq (hg) (fun r22 X22 FI22 AI22 AL22 h22 => ?_))
          obtain ⟨t1, t2, t3, t4, t5, t6, t7⟩ := h22
          replace t2 := t2.symm
          replace t3 := t3.symm
          subst t1 t2 t3
          refine G_invV0d 28 d_Alg_part_25 rfl e_Alg_315 M_Lat_relationRank rfl h.s5 (Nat.le_of_ble_eq_true rfl) (Nat.le_of_ble_eq_true rfl) rfl (s_relationRank la t6) ?_
          first | refine G_icltN 35 31 d_Alg_part_28 rfl rfl (by omega) (by omega) (fun h28 => ?_) (fun h28 => ?_) | refine G_iclt 35 31 d_Alg_part_28 rfl rfl (fun h28 => ?_) (fun h28 => ?_)
          · have hk : k < pvc (cgB S) 3 7 := by omega
            have q1 := bN_t hk (show pvc (cgB S) 3 7 < 2 ^ 31 by omega)
            have z1 := ni_nI hk31
            simp only [gPart, q0, q1, q4, z0, z1, z4, Bool.and_self, if_true, gd]
            have hrp := s_relationPart (V := V) (d := d + 5) (a := ((tRl S e)[i]).1) (b := ((tRl S e)[i]).2) (i := k) (FI := FI22) (AI := AI10) la t6 (by omega) (by omega) hk31
            refine G_aload0 36 d_Alg_part_35 rfl ?_
            refine G_getR 39 d_Alg_part_36 rfl f_Alg_48 rfl h.sh h.f5 ?_
            refine G_aload0 40 d_Alg_part_39 rfl ?_
            refine G_getR 43 d_Alg_part_40 rfl f_Alg_41 rfl h.sh h.f4 ?_
            refine G_getR 46 d_Alg_part_43 rfl f_Alg_347 rfl h.s4 rz1 ?_
            refine G_iload2 47 d_Alg_part_46 rfl ?_
            refine G_ialoadv 48 d_Alg_part_47 rfl (by assumption) (ix_nI (by omega) (by omega)) f1 ?_
            refine G_aload0 49 d_Alg_part_48 rfl ?_
            refine G_getR 52 d_Alg_part_49 rfl f_Alg_41 rfl h.sh h.f4 ?_
            refine G_getR 55 d_Alg_part_52 rfl f_Alg_350 rfl h.s4 rz2 ?_
            refine G_iload2 56 d_Alg_part_55 rfl ?_
            refine G_ialoadv 57 d_Alg_part_56 rfl (by assumption) (ix_nI (by omega) (by omega)) f2 ?_
            refine G_iload3 58 d_Alg_part_57 rfl ?_
            refine G_invV3 61 d_Alg_part_58 rfl e_Alg_353 M_Lat_relationPart rfl h.s5 (Nat.le_of_ble_eq_true rfl) (Nat.le_of_ble_eq_true rfl) rfl (G.conseq (hrp) (fun r58 X58 FI58 AI58 AL58 h58 => ?_))
            obtain ⟨u1, u2, u3, u4, u5⟩ := h58
            replace u2 := u2.symm
            replace u3 := u3.symm
            replace u4 := u4.symm
            subst u1 u2 u3 u4
            obtain ⟨v1, v2⟩ := t4.nx hW u5
            refine G_lret d_Alg_part_61 rfl ?_
            exact ⟨rfl, h, v1, (a5.tr t5).tr v2⟩
          · exact bd _ _ _ (by rw [bN_f (fun ⟨j, hj, ej⟩ => by have := (nI_eq (by omega) (by omega)).mp ej; omega) (show pvc (cgB S) 3 7 < 2 ^ 31 by omega), Bool.and_false]) _ _ _ t4 (a5.tr t5)
    · have q4 := bN_f hno (show (tRl S e).length < 2 ^ 31 by omega)
      refine G_ifeq 31 16 d_Alg_part_13 rfl rfl (fun h13 => ?_) (fun h13 => ?_)
      · exact bd _ _ _ (by rw [z0, q4, Bool.and_false, Bool.false_and]) _ _ _ a4 a5
      · exact absurd rfl h13
  · exact bd _ _ _ (by rw [bB_f h1, Bool.false_and, Bool.false_and]) _ _ _ hI cF.rf
