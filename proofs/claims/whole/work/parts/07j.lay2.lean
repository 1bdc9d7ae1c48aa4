/-! ===== the reference goes through all ROWS of a TERM ===== -/
def dl : Nat → List Nat
  | 0 => []
  | m + 1 => m :: dl m
theorem dl_dn : ∀ m, dl (m + 1) = dn m
  | 0 => rfl
  | m + 1 => by rw [dl, dl_dn m, dn]
/-- noted so far -/
def LV (AI AJ : FT) (b : Nat) (dn_ : List (List Nat)) : Prop := (∀ c, c < b + 22 ∨ b + 26 < c → AJ c = AI c) ∧ ∀ j v, dn_[j]? = some v → ∀ h, h < 7 → AJ (b + 22) (7 * j + h) = nI (v.getD h 0)
def blk (Ls : List Nat) (l x y z : Nat) (pre : List Nat) (m : Nat) : List (List Nat) := (dl m).flatMap (fun p => (rowsM Ls (x - p * eX l) (y - p * eY l) (z - p * eZ l)).map (fun v => pre ++ p :: v))
theorem blk_s (Ls : List Nat) (l x y z : Nat) (pre : List Nat) (m : Nat) : blk Ls l x y z pre (m + 1) = (rowsM Ls (x - m * eX l) (y - m * eY l) (z - m * eZ l)).map (fun v => pre ++ m :: v) ++ blk Ls l x y z pre m := by
  rw [blk, dl, List.flatMap_cons]; rfl
theorem blk_n (Ls : List Nat) (l l2 x y z : Nat) (pre : List Nat) (m : Nat) : (rowsM (l2 :: Ls) (x - m * eX l) (y - m * eY l) (z - m * eZ l)).map (fun v => pre ++ m :: v) = blk Ls l2 (x - m * eX l) (y - m * eY l) (z - m * eZ l) (pre ++ [m]) (mst l2 (x - m * eX l) (y - m * eY l) (z - m * eZ l) + 1) := by
  rw [rowsM, blk, dl_dn, List.map_flatMap]
  refine flatMap_congr' (fun p _ => ?_)
  rw [List.map_map]
  refine List.map_congr_left (fun v _ => ?_)
  simp only [Function.comp_apply, List.append_assoc, List.singleton_append]
theorem LV.up {AI AJ AK : FT} {b : Nat} {D : List (List Nat)} (h : LV AI AJ b D) (h1 : ∀ c, c < b + 22 ∨ b + 26 < c → AK c = AJ c) (h2 : AK (b + 22) = AJ (b + 22)) : LV AI AK b D :=
  ⟨fun c hc => by rw [h1 c hc]; exact h.1 c hc, fun j v hv g hg => by rw [h2]; exact h.2 j v hv g hg⟩
def layP (X : XT) (FI AI : FT) (AL : LT) (b lim : Nat) (all : List (List Nat)) : PT := fun r X' FI' AI' AL' => r = none ∧ X' = X ∧ AL' = AL ∧ FI' = u2 FI b 30 (nI (all.take lim).length) ∧ LV AI AI' b (all.take lim)
theorem MTb.lv {AI AJ : FT} {b : Nat} {D : List (List Nat)} (h : MTb AI b) (hv : LV AI AJ b D) : MTb AJ b :=
  ⟨fun s hs => by rw [hv.1 _ (by omega), hv.1 _ (by omega), hv.1 _ (by omega)]; exact h.1 s hs, fun x y z hs => by rw [hv.1 _ (by omega)]; exact h.2 x y z hs⟩
theorem layL {V : GV} {d b n lim : Nat} {t : Value} {gl : Nat → Nat} {X : XT} {FI AI : FT} {AL : LT} {all : List (List Nat)} (h : MO X b) (hT : MTb AI b) (hn : n ≤ 7) (hlim : lim ≤ 128) (hG : MGl AI b n gl) :
    ∀ r g, g + (r + 1) = n → ∀ (m x y z : Nat) (pre : List Nat) (D R : List (List Nat)) (AJ : FT), pre.length = g → x + y + z ≤ 6 → m ≤ mst (gl g) x y z + 1 → LV AI AJ b D → D.length ≤ lim →
      AJ (b + 23) g = nI x → AJ (b + 24) g = nI y → AJ (b + 25) g = nI z → AJ (b + 26) g = nI m → (∀ i, i < g → AJ (b + 26) i = nI (pre.getD i 0)) → all = D ++ (blk ((leadL gl n).drop (g + 1)) (gl g) x y z pre m ++ R) →
      (∀ (D' : List (List Nat)) (AK : FT), D' = D ++ blk ((leadL gl n).drop (g + 1)) (gl g) x y z pre m → LV AI AK b D' → D'.length ≤ lim → (∀ i, i < g → AK (b + 23) i = AJ (b + 23) i ∧ AK (b + 24) i = AJ (b + 24) i ∧ AK (b + 25) i = AJ (b + 25) i ∧ AK (b + 26) i = AJ (b + 26) i) → G V m_Mod_layRowsTo (d + 2) 71 [some (.ref b), some t, some (.int (nI n)), some (.int (nI lim)), some (.int (dI g))] [] X (u2 FI b 30 (nI D'.length)) AK AL (layP X FI AI AL b lim all)) →
      G V m_Mod_layRowsTo (d + 2) 71 [some (.ref b), some t, some (.int (nI n)), some (.int (nI lim)), some (.int (nI g))] [] X (u2 FI b 30 (nI D.length)) AJ AL (layP X FI AI AL b lim all) := by
  intro r
  induction r with
  | zero =>
    intro g hg m
    have hdrop : (leadL gl n).drop (g + 1) = [] := List.drop_eq_nil_of_le (by rw [leadL_len]; omega)
    obtain ⟨g1, g2, g3⟩ := hG g (by omega)
    rw [hdrop]
    induction m with
    | zero =>
      intro x y z pre D R AJ hpre hs hm hv hD ax ay az am ap hall K
      have fr : u2 FI b 30 (nI D.length) b 30 = nI D.length := u2_at _ _ _ _
      have ex : (nI 0 - nI 1 : Int32) = -1 := by decide
      refine G_iload4 73 d_Mod_layRowsTo_71 rfl ?_
      first | refine G_ifltD 177 76 d_Mod_layRowsTo_73 rfl rfl (by omega) (fun h73 => ?_) (fun j h73 => ?_) | refine G_iflt 177 76 d_Mod_layRowsTo_73 rfl rfl (fun h73 => ?_) (fun h73 => ?_)
      · exact absurd h73 (nI_pos (by omega))
      · refine G_aload0 77 d_Mod_layRowsTo_76 rfl ?_
        refine G_getIv 80 d_Mod_layRowsTo_77 rfl f_Mod_301 rfl h.sh fr ?_
        refine G_iload3 81 d_Mod_layRowsTo_80 rfl ?_
        first | refine G_icgeN 177 84 d_Mod_layRowsTo_81 rfl rfl (by omega) (by omega) (fun h81 => ?_) (fun h81 => ?_) | refine G_icge 177 84 d_Mod_layRowsTo_81 rfl rfl (fun h81 => ?_) (fun h81 => ?_)
        · refine G_vret d_Mod_layRowsTo_177 rfl ?_
          refine ⟨rfl, rfl, rfl, ?_, ?_⟩
          · rw [hall, List.take_append_of_le_length (by omega), List.take_of_length_le (by omega)]
          · rw [hall, List.take_append_of_le_length (by omega), List.take_of_length_le (by omega)]; exact hv
        · refine G_aload0 85 d_Mod_layRowsTo_84 rfl ?_
          refine G_getR 88 d_Mod_layRowsTo_85 rfl f_Mod_88 rfl h.sh h.f35 ?_
          refine G_iload4 90 d_Mod_layRowsTo_88 rfl ?_
          refine G_dup2 91 d_Mod_layRowsTo_90 rfl rfl rfl ?_
          refine G_ialoadv 92 d_Mod_layRowsTo_91 rfl h.s35 (ix_nI (by omega) (by omega)) am ?_
          refine G_iconst (1) 93 d_Mod_layRowsTo_92 rfl rfl ?_
          refine G_isub 94 d_Mod_layRowsTo_93 rfl ?_
          refine G_iastore 95 d_Mod_layRowsTo_94 rfl h.s35 (ix_nI (by omega) (by omega)) ?_
          refine G_aload0 96 d_Mod_layRowsTo_95 rfl ?_
          refine G_getR 99 d_Mod_layRowsTo_96 rfl f_Mod_88 rfl h.sh h.f35 ?_
          refine G_iload4 101 d_Mod_layRowsTo_99 rfl ?_
          refine G_ialoadv 102 d_Mod_layRowsTo_101 rfl h.s35 (ix_nI (by omega) (by omega)) (by rw [u2_at]; exact ex : _ = (-1 : Int32)) ?_
          refine G_ifge 111 105 d_Mod_layRowsTo_102 rfl rfl (fun h102 => ?_) (fun h102 => ?_)
          · exact absurd h102 (by decide)
          · first | refine G_iinc4 _ 108 d_Mod_layRowsTo_105 rfl (by decide) rfl (dI_m1 _) ?_ | refine G_iinc4 _ 108 d_Mod_layRowsTo_105 rfl (by decide) rfl rfl ?_
            refine G_goto 71 d_Mod_layRowsTo_108 rfl ?_
            refine K D _ (by rw [blk, dl, List.flatMap_nil, List.append_nil]) (hv.up (fun c hc => u2_off _ _ _ (by omega)) (u2_off _ _ _ (by omega))) hD (fun i hi => ?_)
            rw [u2_ne _ _ _ _ (by omega), u2_ne _ _ _ _ (by omega), u2_ne _ _ _ _ (by omega), u2_ix _ _ (by omega)]
            exact ⟨rfl, rfl, rfl, rfl⟩
    | succ q ih =>
      intro x y z pre D R AJ hpre hs hm hv hD ax ay az am ap hall K
      have fr : u2 FI b 30 (nI D.length) b 30 = nI D.length := u2_at _ _ _ _
      have hq6 := mst_6 (gl g) x y z hs
      obtain ⟨q1, q2, q3⟩ := (mst_le (p := q) (l := gl g) (by omega) hs).mp (by omega)
      have hTJ := hT.lv hv
      have e9 : AJ (b + 9) g = nI (gl g) := by rw [hv.1 _ (by omega)]; exact g1
      rw [blk_s, rowsM] at hall K
      generalize hA2 : u2 AJ (b + 26) g (nI q) = A2
      have z23 : A2 (b + 23) = AJ (b + 23) := by rw [← hA2]; exact u2_off _ _ _ (by omega)
      have z24 : A2 (b + 24) = AJ (b + 24) := by rw [← hA2]; exact u2_off _ _ _ (by omega)
      have z25 : A2 (b + 25) = AJ (b + 25) := by rw [← hA2]; exact u2_off _ _ _ (by omega)
      have z26 : A2 (b + 26) g = nI q := by rw [← hA2]; exact u2_at _ _ _ _
      have z26' : ∀ i, i < g → A2 (b + 26) i = AJ (b + 26) i := fun i hi => by rw [← hA2]; exact u2_ix _ _ (by omega)
      have v2 : LV AI A2 b D := hv.up (fun c hc => by rw [← hA2]; exact u2_off _ _ _ (by omega)) (by rw [← hA2]; exact u2_off _ _ _ (by omega))
      have hp := s_mPassOn (V := V) (d := d + 1) (FI := u2 FI b 30 (nI D.length)) (AL := AL) h (hT.lv v2) (show g < 7 by omega) (by rw [v2.1 _ (by omega)]; exact g1) g2 (by rw [z23]; exact ax) (by rw [z24]; exact ay) (by rw [z25]; exact az) z26 q1 q2 q3
      generalize hA3 : u2 (u2 (u2 A2 (b + 23) (g + 1) (nI (x - q * eX (gl g)))) (b + 24) (g + 1) (nI (y - q * eY (gl g)))) (b + 25) (g + 1) (nI (z - q * eZ (gl g))) = A3 at hp
      have w23 : ∀ i, i ≤ g → A3 (b + 23) i = AJ (b + 23) i := fun i hi => by rw [← hA3, u2_ne _ _ _ _ (by omega), u2_ne _ _ _ _ (by omega), u2_ix _ _ (by omega), z23]
      have w24 : ∀ i, i ≤ g → A3 (b + 24) i = AJ (b + 24) i := fun i hi => by rw [← hA3, u2_ne _ _ _ _ (by omega), u2_ix _ _ (by omega), u2_ne _ _ _ _ (by omega), z24]
      have w25 : ∀ i, i ≤ g → A3 (b + 25) i = AJ (b + 25) i := fun i hi => by rw [← hA3, u2_ix _ _ (by omega), u2_ne _ _ _ _ (by omega), u2_ne _ _ _ _ (by omega), z25]
      have w26 : A3 (b + 26) = A2 (b + 26) := by rw [← hA3, u2_off _ _ _ (by omega), u2_off _ _ _ (by omega), u2_off _ _ _ (by omega)]
      have n23 : A3 (b + 23) (g + 1) = nI (x - q * eX (gl g)) := by rw [← hA3, u2_ne _ _ _ _ (by omega), u2_ne _ _ _ _ (by omega), u2_at]
      have n24 : A3 (b + 24) (g + 1) = nI (y - q * eY (gl g)) := by rw [← hA3, u2_ne _ _ _ _ (by omega), u2_at]
      have n25 : A3 (b + 25) (g + 1) = nI (z - q * eZ (gl g)) := by rw [← hA3, u2_at]
      have v3 : LV AI A3 b D := v2.up (fun c hc => by rw [← hA3, u2_off _ _ _ (by omega), u2_off _ _ _ (by omega), u2_off _ _ _ (by omega)]) (by rw [← hA3, u2_off _ _ _ (by omega), u2_off _ _ _ (by omega), u2_off _ _ _ (by omega)])
      have eg : n = g + 1 := by omega
      refine G_iload4 73 d_Mod_layRowsTo_71 rfl ?_
      first | refine G_ifltD 177 76 d_Mod_layRowsTo_73 rfl rfl (by omega) (fun h73 => ?_) (fun j h73 => ?_) | refine G_iflt 177 76 d_Mod_layRowsTo_73 rfl rfl (fun h73 => ?_) (fun h73 => ?_)
      · exact absurd h73 (nI_pos (by omega))
      · refine G_aload0 77 d_Mod_layRowsTo_76 rfl ?_
        refine G_getIv 80 d_Mod_layRowsTo_77 rfl f_Mod_301 rfl h.sh fr ?_
        refine G_iload3 81 d_Mod_layRowsTo_80 rfl ?_
        first | refine G_icgeN 177 84 d_Mod_layRowsTo_81 rfl rfl (by omega) (by omega) (fun h81 => ?_) (fun h81 => ?_) | refine G_icge 177 84 d_Mod_layRowsTo_81 rfl rfl (fun h81 => ?_) (fun h81 => ?_)
        · refine G_vret d_Mod_layRowsTo_177 rfl ?_
          refine ⟨rfl, rfl, rfl, ?_, ?_⟩
          · rw [hall, List.take_append_of_le_length (by omega), List.take_of_length_le (by omega)]
          · rw [hall, List.take_append_of_le_length (by omega), List.take_of_length_le (by omega)]; exact hv
        · refine G_aload0 85 d_Mod_layRowsTo_84 rfl ?_
          refine G_getR 88 d_Mod_layRowsTo_85 rfl f_Mod_88 rfl h.sh h.f35 ?_
          refine G_iload4 90 d_Mod_layRowsTo_88 rfl ?_
          refine G_dup2 91 d_Mod_layRowsTo_90 rfl rfl rfl ?_
          refine G_ialoadv 92 d_Mod_layRowsTo_91 rfl h.s35 (ix_nI (by omega) (by omega)) am ?_
          refine G_iconstN 1 93 d_Mod_layRowsTo_92 rfl rfl ?_
          first | refine G_isubN 94 d_Mod_layRowsTo_93 rfl (by omega) ?_ | refine G_isub 94 d_Mod_layRowsTo_93 rfl ?_
          rw [show q + 1 - 1 = q by omega]
          refine G_iastore 95 d_Mod_layRowsTo_94 rfl h.s35 (ix_nI (by omega) (by omega)) ?_
          rw [hA2]
          refine G_aload0 96 d_Mod_layRowsTo_95 rfl ?_
          refine G_getR 99 d_Mod_layRowsTo_96 rfl f_Mod_88 rfl h.sh h.f35 ?_
          refine G_iload4 101 d_Mod_layRowsTo_99 rfl ?_
          refine G_ialoadv 102 d_Mod_layRowsTo_101 rfl h.s35 (ix_nI (by omega) (by omega)) z26 ?_
          refine G_ifge 111 105 d_Mod_layRowsTo_102 rfl rfl (fun h102 => ?_) (fun h102 => ?_)
          · refine G_aload0 112 d_Mod_layRowsTo_111 rfl ?_
            refine G_iload4 114 d_Mod_layRowsTo_112 rfl ?_
            refine G_invV1v 117 d_Mod_layRowsTo_114 rfl e_Mod_324 M_Mod_passOn rfl h.sh (Nat.le_of_ble_eq_true rfl) (Nat.le_of_ble_eq_true rfl) rfl (hp) ?_
            refine G_iload4 119 d_Mod_layRowsTo_117 rfl ?_
            refine G_iload2 120 d_Mod_layRowsTo_119 rfl ?_
            refine G_iconstN 1 121 d_Mod_layRowsTo_120 rfl rfl ?_
            first | refine G_isubN 122 d_Mod_layRowsTo_121 rfl (by omega) ?_ | refine G_isub 122 d_Mod_layRowsTo_121 rfl ?_
            first | refine G_icgeN 146 125 d_Mod_layRowsTo_122 rfl rfl (by omega) (by omega) (fun h122 => ?_) (fun h122 => ?_) | refine G_icge 146 125 d_Mod_layRowsTo_122 rfl rfl (fun h122 => ?_) (fun h122 => ?_)
            · subst eg
              refine G_aload0 147 d_Mod_layRowsTo_146 rfl ?_
              refine G_getR 150 d_Mod_layRowsTo_147 rfl f_Mod_79 rfl h.sh h.f32 ?_
              refine G_iload2 151 d_Mod_layRowsTo_150 rfl ?_
              refine G_ialoadv 152 d_Mod_layRowsTo_151 rfl h.s32 (ix_nI (by omega) (by omega)) n23 ?_
              refine G_aload0 153 d_Mod_layRowsTo_152 rfl ?_
              refine G_getR 156 d_Mod_layRowsTo_153 rfl f_Mod_82 rfl h.sh h.f33 ?_
              refine G_iload2 157 d_Mod_layRowsTo_156 rfl ?_
              refine G_ialoadv 158 d_Mod_layRowsTo_157 rfl h.s33 (ix_nI (by omega) (by omega)) n24 ?_
              first | refine G_iaddN 159 d_Mod_layRowsTo_158 rfl ?_ | refine G_iadd 159 d_Mod_layRowsTo_158 rfl ?_
              refine G_aload0 160 d_Mod_layRowsTo_159 rfl ?_
              refine G_getR 163 d_Mod_layRowsTo_160 rfl f_Mod_85 rfl h.sh h.f34 ?_
              refine G_iload2 164 d_Mod_layRowsTo_163 rfl ?_
              refine G_ialoadv 165 d_Mod_layRowsTo_164 rfl h.s34 (ix_nI (by omega) (by omega)) n25 ?_
              first | refine G_iaddN 166 d_Mod_layRowsTo_165 rfl ?_ | refine G_iadd 166 d_Mod_layRowsTo_165 rfl ?_
              refine G_ifne 71 169 d_Mod_layRowsTo_166 rfl rfl (fun h166 => ?_) (fun h166 => ?_)
              · rw [if_neg (fun e => h166 (by rw [e]; rfl)), List.map_nil, List.nil_append] at hall K
                exact ih x y z pre D R A3 hpre hs (by omega) v3 hD (by rw [w23 _ (Nat.le_refl _)]; exact ax) (by rw [w24 _ (Nat.le_refl _)]; exact ay) (by rw [w25 _ (Nat.le_refl _)]; exact az) (by rw [w26]; exact z26) (fun i hi => by rw [w26, z26' i hi]; exact ap i hi) hall (fun D' AK e1 e2 e3 e4 => K D' AK e1 e2 e3 (fun i hi => by
                  obtain ⟨a, b', c, d'⟩ := e4 i hi
                  exact ⟨by rw [a, w23 i (by omega)], by rw [b', w24 i (by omega)], by rw [c, w25 i (by omega)], by rw [d', w26, z26' i hi]⟩))
              · have hs0 : x - q * eX (gl g) + (y - q * eY (gl g)) + (z - q * eZ (gl g)) = 0 := by
                  rcases Nat.eq_zero_or_pos (x - q * eX (gl g) + (y - q * eY (gl g)) + (z - q * eZ (gl g))) with e | e
                  · exact e
                  · exact absurd h166 (nI_ne0 e (by omega))
                rw [if_pos hs0] at hall K
                have hall2 : all = (D ++ [pre ++ [q]]) ++ (blk [] (gl g) x y z pre q ++ R) := by
                  rw [hall]; simp only [List.map_cons, List.map_nil, List.append_assoc, List.cons_append, List.nil_append]
                have hno := s_mNote (V := V) (d := d + 1) (FI := u2 FI b 30 (nI D.length)) (AI := A3) (AL := AL) h hn fr (show D.length < 128 by omega)
                rw [u2_u2] at hno
                refine G_aload0 170 d_Mod_layRowsTo_169 rfl ?_
                refine G_iload2 171 d_Mod_layRowsTo_170 rfl ?_
                refine G_invV1v 174 d_Mod_layRowsTo_171 rfl e_Mod_318 M_Mod_note rfl h.sh (Nat.le_of_ble_eq_true rfl) (Nat.le_of_ble_eq_true rfl) rfl (hno) ?_
                refine G_goto 71 d_Mod_layRowsTo_174 rfl ?_
                have hlen : (D ++ [pre ++ [q]]).length = D.length + 1 := by rw [List.length_append, List.length_singleton]
                rw [← hlen]
                have v4 : LV AI (sr A3 (b + 22) (noteR A3 b (g + 1) D.length)) b (D ++ [pre ++ [q]]) := by
                  refine ⟨fun c hc => by rw [sr_ne _ _ (by omega)]; exact v3.1 c hc, fun j v hj f hf => ?_⟩
                  rw [sr_at]
                  by_cases cj : j < D.length
                  · rw [List.getElem?_append_left cj] at hj
                    rw [noteR, if_neg (by omega)]
                    exact v3.2 j v hj f hf
                  · rw [List.getElem?_append_right (by omega)] at hj
                    have hj0 : j - D.length = 0 := by
                      have := (List.getElem?_eq_some_iff.mp hj).1
                      simp only [List.length_singleton] at this
                      omega
                    rw [hj0] at hj
                    simp only [List.getElem?_cons_zero, Option.some.injEq] at hj
                    rw [← hj, noteR, if_pos (by omega), show 7 * j + f - 7 * D.length = f by omega, w26]
                    by_cases cf : f < g
                    · rw [if_pos (by omega), z26' f cf, ap f cf, List.getD_eq_getElem?_getD, List.getD_eq_getElem?_getD, List.getElem?_append_left (by omega)]
                    · by_cases cg : f = g
                      · subst cg
                        rw [if_pos (by omega), z26, List.getD_eq_getElem?_getD, List.getElem?_append_right (by omega), hpre, Nat.sub_self]; rfl
                      · rw [if_neg (by omega), List.getD_eq_getElem?_getD, List.getElem?_eq_none (by rw [List.length_append, List.length_singleton]; omega)]; rfl
                exact ih x y z pre _ R _ hpre hs (by omega) v4 (by rw [hlen]; omega) (by rw [sr_ne _ _ (by omega), w23 _ (Nat.le_refl _)]; exact ax) (by rw [sr_ne _ _ (by omega), w24 _ (Nat.le_refl _)]; exact ay) (by rw [sr_ne _ _ (by omega), w25 _ (Nat.le_refl _)]; exact az) (by rw [sr_ne _ _ (by omega), w26]; exact z26) (fun i hi => by rw [sr_ne _ _ (by omega), w26, z26' i hi]; exact ap i hi) hall2 (fun D' AK e1 e2 e3 e4 => K D' AK (by rw [e1]; simp only [List.map_cons, List.map_nil, List.append_assoc, List.cons_append, List.nil_append]) e2 e3 (fun i hi => by
                  obtain ⟨a, b', c, d'⟩ := e4 i hi
                  exact ⟨by rw [a, sr_ne _ _ (by omega), w23 i (by omega)], by rw [b', sr_ne _ _ (by omega), w24 i (by omega)], by rw [c, sr_ne _ _ (by omega), w25 i (by omega)], by rw [d', sr_ne _ _ (by omega), w26, z26' i hi]⟩))
            · omega
          · exact absurd (nI_pos' (by omega)) h102
  | succ r ihr =>
    intro g hg m
    obtain ⟨g1, g2, g3⟩ := hG g (by omega)
    obtain ⟨k1, k2, k3⟩ := hG (g + 1) (by omega)
    have hdrop := leadL_drop gl (n := n) (h := g + 1) (by omega)
    induction m with
    | zero =>
      intro x y z pre D R AJ hpre hs hm hv hD ax ay az am ap hall K
      have fr : u2 FI b 30 (nI D.length) b 30 = nI D.length := u2_at _ _ _ _
      have ex : (nI 0 - nI 1 : Int32) = -1 := by decide
      refine G_iload4 73 d_Mod_layRowsTo_71 rfl ?_
      first | refine G_ifltD 177 76 d_Mod_layRowsTo_73 rfl rfl (by omega) (fun h73 => ?_) (fun j h73 => ?_) | refine G_iflt 177 76 d_Mod_layRowsTo_73 rfl rfl (fun h73 => ?_) (fun h73 => ?_)
      · exact absurd h73 (nI_pos (by omega))
      · refine G_aload0 77 d_Mod_layRowsTo_76 rfl ?_
        refine G_getIv 80 d_Mod_layRowsTo_77 rfl f_Mod_301 rfl h.sh fr ?_
        refine G_iload3 81 d_Mod_layRowsTo_80 rfl ?_
        first | refine G_icgeN 177 84 d_Mod_layRowsTo_81 rfl rfl (by omega) (by omega) (fun h81 => ?_) (fun h81 => ?_) | refine G_icge 177 84 d_Mod_layRowsTo_81 rfl rfl (fun h81 => ?_) (fun h81 => ?_)
        · refine G_vret d_Mod_layRowsTo_177 rfl ?_
          refine ⟨rfl, rfl, rfl, ?_, ?_⟩
          · rw [hall, List.take_append_of_le_length (by omega), List.take_of_length_le (by omega)]
          · rw [hall, List.take_append_of_le_length (by omega), List.take_of_length_le (by omega)]; exact hv
        · refine G_aload0 85 d_Mod_layRowsTo_84 rfl ?_
          refine G_getR 88 d_Mod_layRowsTo_85 rfl f_Mod_88 rfl h.sh h.f35 ?_
          refine G_iload4 90 d_Mod_layRowsTo_88 rfl ?_
          refine G_dup2 91 d_Mod_layRowsTo_90 rfl rfl rfl ?_
          refine G_ialoadv 92 d_Mod_layRowsTo_91 rfl h.s35 (ix_nI (by omega) (by omega)) am ?_
          refine G_iconst (1) 93 d_Mod_layRowsTo_92 rfl rfl ?_
          refine G_isub 94 d_Mod_layRowsTo_93 rfl ?_
          refine G_iastore 95 d_Mod_layRowsTo_94 rfl h.s35 (ix_nI (by omega) (by omega)) ?_
          refine G_aload0 96 d_Mod_layRowsTo_95 rfl ?_
          refine G_getR 99 d_Mod_layRowsTo_96 rfl f_Mod_88 rfl h.sh h.f35 ?_
          refine G_iload4 101 d_Mod_layRowsTo_99 rfl ?_
          refine G_ialoadv 102 d_Mod_layRowsTo_101 rfl h.s35 (ix_nI (by omega) (by omega)) (by rw [u2_at]; exact ex : _ = (-1 : Int32)) ?_
          refine G_ifge 111 105 d_Mod_layRowsTo_102 rfl rfl (fun h102 => ?_) (fun h102 => ?_)
          · exact absurd h102 (by decide)
          · first | refine G_iinc4 _ 108 d_Mod_layRowsTo_105 rfl (by decide) rfl (dI_m1 _) ?_ | refine G_iinc4 _ 108 d_Mod_layRowsTo_105 rfl (by decide) rfl rfl ?_
            refine G_goto 71 d_Mod_layRowsTo_108 rfl ?_
            refine K D _ (by rw [blk, dl, List.flatMap_nil, List.append_nil]) (hv.up (fun c hc => u2_off _ _ _ (by omega)) (u2_off _ _ _ (by omega))) hD (fun i hi => ?_)
            rw [u2_ne _ _ _ _ (by omega), u2_ne _ _ _ _ (by omega), u2_ne _ _ _ _ (by omega), u2_ix _ _ (by omega)]
            exact ⟨rfl, rfl, rfl, rfl⟩
    | succ q ih =>
      intro x y z pre D R AJ hpre hs hm hv hD ax ay az am ap hall K
      have fr : u2 FI b 30 (nI D.length) b 30 = nI D.length := u2_at _ _ _ _
      have hq6 := mst_6 (gl g) x y z hs
      obtain ⟨q1, q2, q3⟩ := (mst_le (p := q) (l := gl g) (by omega) hs).mp (by omega)
      rw [blk_s, hdrop, blk_n, ← hdrop] at hall K
      generalize hA2 : u2 AJ (b + 26) g (nI q) = A2
      have z23 : A2 (b + 23) = AJ (b + 23) := by rw [← hA2]; exact u2_off _ _ _ (by omega)
      have z24 : A2 (b + 24) = AJ (b + 24) := by rw [← hA2]; exact u2_off _ _ _ (by omega)
      have z25 : A2 (b + 25) = AJ (b + 25) := by rw [← hA2]; exact u2_off _ _ _ (by omega)
      have z26 : A2 (b + 26) g = nI q := by rw [← hA2]; exact u2_at _ _ _ _
      have z26' : ∀ i, i < g → A2 (b + 26) i = AJ (b + 26) i := fun i hi => by rw [← hA2]; exact u2_ix _ _ (by omega)
      have v2 : LV AI A2 b D := hv.up (fun c hc => by rw [← hA2]; exact u2_off _ _ _ (by omega)) (by rw [← hA2]; exact u2_off _ _ _ (by omega))
      have hp := s_mPassOn (V := V) (d := d + 1) (FI := u2 FI b 30 (nI D.length)) (AL := AL) h (hT.lv v2) (show g < 7 by omega) (by rw [v2.1 _ (by omega)]; exact g1) g2 (by rw [z23]; exact ax) (by rw [z24]; exact ay) (by rw [z25]; exact az) z26 q1 q2 q3
      generalize hA3 : u2 (u2 (u2 A2 (b + 23) (g + 1) (nI (x - q * eX (gl g)))) (b + 24) (g + 1) (nI (y - q * eY (gl g)))) (b + 25) (g + 1) (nI (z - q * eZ (gl g))) = A3 at hp
      have w23 : ∀ i, i ≤ g → A3 (b + 23) i = AJ (b + 23) i := fun i hi => by rw [← hA3, u2_ne _ _ _ _ (by omega), u2_ne _ _ _ _ (by omega), u2_ix _ _ (by omega), z23]
      have w24 : ∀ i, i ≤ g → A3 (b + 24) i = AJ (b + 24) i := fun i hi => by rw [← hA3, u2_ne _ _ _ _ (by omega), u2_ix _ _ (by omega), u2_ne _ _ _ _ (by omega), z24]
      have w25 : ∀ i, i ≤ g → A3 (b + 25) i = AJ (b + 25) i := fun i hi => by rw [← hA3, u2_ix _ _ (by omega), u2_ne _ _ _ _ (by omega), u2_ne _ _ _ _ (by omega), z25]
      have w26 : A3 (b + 26) = A2 (b + 26) := by rw [← hA3, u2_off _ _ _ (by omega), u2_off _ _ _ (by omega), u2_off _ _ _ (by omega)]
      have n23 : A3 (b + 23) (g + 1) = nI (x - q * eX (gl g)) := by rw [← hA3, u2_ne _ _ _ _ (by omega), u2_ne _ _ _ _ (by omega), u2_at]
      have n24 : A3 (b + 24) (g + 1) = nI (y - q * eY (gl g)) := by rw [← hA3, u2_ne _ _ _ _ (by omega), u2_at]
      have n25 : A3 (b + 25) (g + 1) = nI (z - q * eZ (gl g)) := by rw [← hA3, u2_at]
      have v3 : LV AI A3 b D := v2.up (fun c hc => by rw [← hA3, u2_off _ _ _ (by omega), u2_off _ _ _ (by omega), u2_off _ _ _ (by omega)]) (by rw [← hA3, u2_off _ _ _ (by omega), u2_off _ _ _ (by omega), u2_off _ _ _ (by omega)])
      have hmo := s_mMost (V := V) (d := d) (FI := u2 FI b 30 (nI D.length)) (AL := AL) h (hT.lv v3) (show g + 1 < 7 by omega) (by rw [v3.1 _ (by omega)]; exact k1) k2 (by omega) n23 n24 n25
      have hm6 := mst_6 (gl (g + 1)) (x - q * eX (gl g)) (y - q * eY (gl g)) (z - q * eZ (gl g)) (by omega)
      have hw := ihr (g + 1) (by omega) (mst (gl (g + 1)) (x - q * eX (gl g)) (y - q * eY (gl g)) (z - q * eZ (gl g)) + 1) (x - q * eX (gl g)) (y - q * eY (gl g)) (z - q * eZ (gl g)) (pre ++ [q]) D (blk ((leadL gl n).drop (g + 1)) (gl g) x y z pre q ++ R) (u2 A3 (b + 26) (g + 1) (nI (mst (gl (g + 1)) (x - q * eX (gl g)) (y - q * eY (gl g)) (z - q * eZ (gl g)) + 1)))
        (by rw [List.length_append, List.length_singleton]; omega) (by omega) (Nat.le_refl _) (v3.up (fun c hc => u2_off _ _ _ (by omega)) (u2_off _ _ _ (by omega))) hD (by rw [u2_ne _ _ _ _ (by omega)]; exact n23) (by rw [u2_ne _ _ _ _ (by omega)]; exact n24) (by rw [u2_ne _ _ _ _ (by omega)]; exact n25) (u2_at _ _ _ _)
        (fun i hi => by
          rw [u2_ix _ _ (by omega), w26]
          by_cases cf : i < g
          · rw [z26' i cf, ap i cf, List.getD_eq_getElem?_getD, List.getD_eq_getElem?_getD, List.getElem?_append_left (by omega)]
          · rw [show i = g by omega, z26, List.getD_eq_getElem?_getD, List.getElem?_append_right (by omega), hpre, Nat.sub_self]; rfl)
        (by rw [hall]; simp only [List.append_assoc])
        (fun D' AK e1 e2 e3 e4 => by
          rw [dI_s]
          refine ih x y z pre D' R AK hpre hs (by omega) e2 e3 ?_ ?_ ?_ ?_ (fun i hi => ?_) (by rw [hall, e1]; simp only [List.append_assoc]) (fun D'' AK2 f1 f2 f3 f4 => K D'' AK2 (by rw [f1, e1]; simp only [List.append_assoc]) f2 f3 (fun i hi => ?_))
          · rw [(e4 g (by omega)).1, u2_ne _ _ _ _ (by omega), w23 _ (Nat.le_refl _)]; exact ax
          · rw [(e4 g (by omega)).2.1, u2_ne _ _ _ _ (by omega), w24 _ (Nat.le_refl _)]; exact ay
          · rw [(e4 g (by omega)).2.2.1, u2_ne _ _ _ _ (by omega), w25 _ (Nat.le_refl _)]; exact az
          · rw [(e4 g (by omega)).2.2.2, u2_ix _ _ (by omega), w26]; exact z26
          · rw [(e4 i (by omega)).2.2.2, u2_ix _ _ (by omega), w26, z26' i hi]; exact ap i hi
          · obtain ⟨a, b', c, d'⟩ := e4 i (by omega)
            obtain ⟨a2, b2, c2, d2⟩ := f4 i hi
            exact ⟨by rw [a2, a, u2_ne _ _ _ _ (by omega), w23 i (by omega)], by rw [b2, b', u2_ne _ _ _ _ (by omega), w24 i (by omega)], by rw [c2, c, u2_ne _ _ _ _ (by omega), w25 i (by omega)], by rw [d2, d', u2_ix _ _ (by omega), w26, z26' i hi]⟩)
      refine G_iload4 73 d_Mod_layRowsTo_71 rfl ?_
      first | refine G_ifltD 177 76 d_Mod_layRowsTo_73 rfl rfl (by omega) (fun h73 => ?_) (fun j h73 => ?_) | refine G_iflt 177 76 d_Mod_layRowsTo_73 rfl rfl (fun h73 => ?_) (fun h73 => ?_)
      · exact absurd h73 (nI_pos (by omega))
      · refine G_aload0 77 d_Mod_layRowsTo_76 rfl ?_
        refine G_getIv 80 d_Mod_layRowsTo_77 rfl f_Mod_301 rfl h.sh fr ?_
        refine G_iload3 81 d_Mod_layRowsTo_80 rfl ?_
        first | refine G_icgeN 177 84 d_Mod_layRowsTo_81 rfl rfl (by omega) (by omega) (fun h81 => ?_) (fun h81 => ?_) | refine G_icge 177 84 d_Mod_layRowsTo_81 rfl rfl (fun h81 => ?_) (fun h81 => ?_)
        · refine G_vret d_Mod_layRowsTo_177 rfl ?_
          refine ⟨rfl, rfl, rfl, ?_, ?_⟩
          · rw [hall, List.take_append_of_le_length (by omega), List.take_of_length_le (by omega)]
          · rw [hall, List.take_append_of_le_length (by omega), List.take_of_length_le (by omega)]; exact hv
        · refine G_aload0 85 d_Mod_layRowsTo_84 rfl ?_
          refine G_getR 88 d_Mod_layRowsTo_85 rfl f_Mod_88 rfl h.sh h.f35 ?_
          refine G_iload4 90 d_Mod_layRowsTo_88 rfl ?_
          refine G_dup2 91 d_Mod_layRowsTo_90 rfl rfl rfl ?_
          refine G_ialoadv 92 d_Mod_layRowsTo_91 rfl h.s35 (ix_nI (by omega) (by omega)) am ?_
          refine G_iconstN 1 93 d_Mod_layRowsTo_92 rfl rfl ?_
          first | refine G_isubN 94 d_Mod_layRowsTo_93 rfl (by omega) ?_ | refine G_isub 94 d_Mod_layRowsTo_93 rfl ?_
          rw [show q + 1 - 1 = q by omega]
          refine G_iastore 95 d_Mod_layRowsTo_94 rfl h.s35 (ix_nI (by omega) (by omega)) ?_
          rw [hA2]
          refine G_aload0 96 d_Mod_layRowsTo_95 rfl ?_
          refine G_getR 99 d_Mod_layRowsTo_96 rfl f_Mod_88 rfl h.sh h.f35 ?_
          refine G_iload4 101 d_Mod_layRowsTo_99 rfl ?_
          refine G_ialoadv 102 d_Mod_layRowsTo_101 rfl h.s35 (ix_nI (by omega) (by omega)) z26 ?_
          refine G_ifge 111 105 d_Mod_layRowsTo_102 rfl rfl (fun h102 => ?_) (fun h102 => ?_)
          · refine G_aload0 112 d_Mod_layRowsTo_111 rfl ?_
            refine G_iload4 114 d_Mod_layRowsTo_112 rfl ?_
            refine G_invV1v 117 d_Mod_layRowsTo_114 rfl e_Mod_324 M_Mod_passOn rfl h.sh (Nat.le_of_ble_eq_true rfl) (Nat.le_of_ble_eq_true rfl) rfl (hp) ?_
            refine G_iload4 119 d_Mod_layRowsTo_117 rfl ?_
            refine G_iload2 120 d_Mod_layRowsTo_119 rfl ?_
            refine G_iconstN 1 121 d_Mod_layRowsTo_120 rfl rfl ?_
            first | refine G_isubN 122 d_Mod_layRowsTo_121 rfl (by omega) ?_ | refine G_isub 122 d_Mod_layRowsTo_121 rfl ?_
            first | refine G_icgeN 146 125 d_Mod_layRowsTo_122 rfl rfl (by omega) (by omega) (fun h122 => ?_) (fun h122 => ?_) | refine G_icge 146 125 d_Mod_layRowsTo_122 rfl rfl (fun h122 => ?_) (fun h122 => ?_)
            · omega
            · first | refine G_iincN4 128 d_Mod_layRowsTo_125 rfl (by decide) rfl ?_ | refine G_iinc4 _ 128 d_Mod_layRowsTo_125 rfl (by decide) rfl rfl ?_
              refine G_aload0 129 d_Mod_layRowsTo_128 rfl ?_
              refine G_getR 132 d_Mod_layRowsTo_129 rfl f_Mod_88 rfl h.sh h.f35 ?_
              refine G_iload4 134 d_Mod_layRowsTo_132 rfl ?_
              refine G_aload0 135 d_Mod_layRowsTo_134 rfl ?_
              refine G_iload4 137 d_Mod_layRowsTo_135 rfl ?_
              refine G_invV1d 140 d_Mod_layRowsTo_137 rfl e_Mod_321 M_Mod_most rfl h.sh (Nat.le_of_ble_eq_true rfl) (Nat.le_of_ble_eq_true rfl) rfl (hmo) ?_
              refine G_iconstN 1 141 d_Mod_layRowsTo_140 rfl rfl ?_
              first | refine G_iaddN 142 d_Mod_layRowsTo_141 rfl ?_ | refine G_iadd 142 d_Mod_layRowsTo_141 rfl ?_
              refine G_iastore 143 d_Mod_layRowsTo_142 rfl h.s35 (ix_nI (by omega) (by omega)) ?_
              refine G_goto 71 d_Mod_layRowsTo_143 rfl ?_
              exact hw
          · exact absurd (nI_pos' (by omega)) h102
