/-! ===== the table of ROWS of the class ===== -/
def TO (X : XT) (t : Nat) (ta : Nat → Nat) : Prop :=
  x_sh X t = some (17, 7) ∧ x_FR X t 0 = some (ta 0) ∧ x_FR X t 1 = some (ta 1) ∧ x_FR X t 2 = some (ta 2) ∧ x_FR X t 3 = some (ta 3) ∧ x_FR X t 4 = some (ta 4) ∧ x_FR X t 5 = some (ta 5) ∧ x_FR X t 6 = some (ta 6) ∧
  x_sh X (ta 0) = some (0, 344) ∧ x_sh X (ta 1) = some (0, 85) ∧ x_sh X (ta 2) = some (0, 344) ∧ x_sh X (ta 3) = some (0, 344) ∧ x_sh X (ta 4) = some (0, 7) ∧ x_sh X (ta 5) = some (3, 84) ∧ x_sh X (ta 6) = some (2, 84) ∧
  ∀ i j, i < 7 → j < 7 → ta i = ta j → i = j
/-- the LEADING TERMS as a list -/
def leadL (gl : Nat → Nat) (n : Nat) : List Nat := (List.range n).map gl
theorem leadL_len (gl : Nat → Nat) (n : Nat) : (leadL gl n).length = n := by simp [leadL]
theorem leadL_get (gl : Nat → Nat) {n i : Nat} (h : i < n) : (leadL gl n)[i]? = some (gl i) := by simp [leadL, h]
theorem leadL_getD (gl : Nat → Nat) {n i : Nat} (h : i < n) : (leadL gl n).getD i 0 = gl i := by simp [leadL, h]
theorem leadL_drop (gl : Nat → Nat) {n h : Nat} (hh : h < n) : (leadL gl n).drop h = gl h :: (leadL gl n).drop (h + 1) := by
  rw [List.drop_eq_getElem_cons (by rw [leadL_len]; exact hh)]
  simp [leadL]
/-- what the class reads of GENERATORS here -/
def GLd (FI AI : FT) (g : Nat) (ga : Nat → Nat) (n : Nat) (gl : Nat → Nat) : Prop := FI g 0 = nI n ∧ n ≤ 7 ∧ ∀ i, i < n → AI (ga 2) i = nI (gl i) ∧ gl i < 84 ∧ 1 ≤ eD (gl i)
theorem s_fill {V : GV} {d t g n h0 room : Nat} {ta ga po qo gl : Nat → Nat} {X : XT} {FI AI : FT} {AL : LT} (hT : TO X t ta) (hG : GO X g ga po qo) (hL : GLd FI AI g ga n gl) (h24 : ga 2 ≠ ta 4) (hh : h0 ≤ n) (hroom : room ≤ 6) :
    G V m_Tab_fill d 0 [some (.ref t), some (.ref g), some (.int (nI h0)), some (.int (nI room)), none, none, none] [] X FI AI AL (Pd (some (.int (nI (fillR ((leadL gl n).drop h0) room)))) X FI (sr AI (ta 4) (fun j => if h0 ≤ j ∧ j < n then nI ((fillV ((leadL gl n).drop h0) room).getD (j - h0) 0) else AI (ta 4) j)) AL) := by
  obtain ⟨t0, r0, r1, r2, r3, r4, r5, r6, q0, q1, q2, q3, q4, q5, q6, hinj⟩ := hT
  obtain ⟨h1, f1, f2, f3, f4, f5, f6, f7, f8, s1, s2, -⟩ := hG
  obtain ⟨hn, hn7, hl⟩ := hL
  have L : ∀ h, h ≤ n → ∀ (left : Nat) (f : Nat → Int32) (l6 : Option Value), left ≤ 6 → G V m_Tab_fill d 6 [some (.ref t), some (.ref g), some (.int (nI h0)), some (.int (nI room)), some (.int (nI left)), some (.int (nI h)), l6] [] X FI (sr AI (ta 4) f) AL (Pd (some (.int (nI (fillR ((leadL gl n).drop h) left)))) X FI (sr AI (ta 4) (fun j => if h ≤ j ∧ j < n then nI ((fillV ((leadL gl n).drop h) left).getD (j - h) 0) else f j)) AL) := by
    refine upto ?_ ?_
    · intro left f l6 hleft
      refine G_iload5 8 d_Tab_fill_6 rfl ?_
      refine G_aload1 9 d_Tab_fill_8 rfl ?_
      refine G_getIv 12 d_Tab_fill_9 rfl f_Tab_64 rfl (by assumption) hn ?_
      first | refine G_icgeN 70 15 d_Tab_fill_12 rfl rfl (by omega) (by omega) (fun h12 => ?_) (fun h12 => ?_) | refine G_icge 70 15 d_Tab_fill_12 rfl rfl (fun h12 => ?_) (fun h12 => ?_)
      · refine G.rowI (fun j => if n ≤ j ∧ j < n then nI ((fillV ((leadL gl n).drop n) left).getD (j - n) 0) else f j) q4 (fun j hj => ?_) ?_
        · show f j = if n ≤ j ∧ j < n then _ else f j
          rw [if_neg (by omega)]
        · refine G_iload4 72 d_Tab_fill_70 rfl ?_
          refine G_iret d_Tab_fill_72 rfl ?_
          refine ⟨?_, rfl, rfl, rfl, rfl⟩
          rw [List.drop_eq_nil_of_le (by rw [leadL_len]; exact Nat.le_refl _)]
          rfl
      · omega
    · intro h hh2 ih left f l6 hleft
      obtain ⟨e1, e2, e3⟩ := hl h hh2
      have e2' := e_le e2
      have hnz : ¬ nI (eD (gl h)) = 0 := nI_ne0 (by omega) (by omega)
      have hdl : left / eD (gl h) ≤ left := Nat.div_le_self _ _
      have hml : left / eD (gl h) * eD (gl h) ≤ left := Nat.div_mul_le_self _ _
      have ihx := ih (left - left / eD (gl h) * eD (gl h)) (fun j => if j = h then nI (left / eD (gl h)) else f j) (some (.int (nI (eD (gl h))))) (by omega)
      have ea : (sr AI (ta 4) f) (ga 2) h = nI (gl h) := by rw [sr_ne _ _ h24]; exact e1
      refine G_iload5 8 d_Tab_fill_6 rfl ?_
      refine G_aload1 9 d_Tab_fill_8 rfl ?_
      refine G_getIv 12 d_Tab_fill_9 rfl f_Tab_64 rfl (by assumption) hn ?_
      first | refine G_icgeN 70 15 d_Tab_fill_12 rfl rfl (by omega) (by omega) (fun h12 => ?_) (fun h12 => ?_) | refine G_icge 70 15 d_Tab_fill_12 rfl rfl (fun h12 => ?_) (fun h12 => ?_)
      · omega
      · refine G_gets 0 18 d_Tab_fill_15 rfl rfl s_Tab_68 ?_
        refine G_aload1 19 d_Tab_fill_18 rfl ?_
        refine G_getR 22 d_Tab_fill_19 rfl f_Tab_71 rfl (by assumption) (by assumption) ?_
        refine G_iload5 24 d_Tab_fill_22 rfl ?_
        refine G_ialoadv 25 d_Tab_fill_24 rfl (by assumption) (ix_nI (by omega) (by omega)) ea ?_
        refine G_st0 26 d_Tab_fill_25 rfl (ix_nI (by omega) (by omega)) ?_
        refine G_istore6 28 d_Tab_fill_26 rfl (by decide) rfl ?_
        refine G_aload0 29 d_Tab_fill_28 rfl ?_
        refine G_getR 32 d_Tab_fill_29 rfl f_Tab_26 rfl (by assumption) (by assumption) ?_
        refine G_iload5 34 d_Tab_fill_32 rfl ?_
        refine G_iload6 36 d_Tab_fill_34 rfl ?_
        refine G_ifle 47 39 d_Tab_fill_36 rfl rfl (fun h36 => ?_) (fun h36 => ?_)
        · exact absurd h36 (nI_nle (by omega) (by omega))
        · refine G_iload4 41 d_Tab_fill_39 rfl ?_
          refine G_iload6 43 d_Tab_fill_41 rfl ?_
          refine G_idiv 44 d_Tab_fill_43 rfl (by assumption) ?_
          rw [pk_div (by omega) (by omega) (by omega)]
          refine G_goto 48 d_Tab_fill_44 rfl ?_
          refine G_iastore 49 d_Tab_fill_48 rfl (by assumption) (ix_nI (by omega) (by omega)) ?_
          rw [u2_sr]
          refine G_iload4 51 d_Tab_fill_49 rfl ?_
          refine G_aload0 52 d_Tab_fill_51 rfl ?_
          refine G_getR 55 d_Tab_fill_52 rfl f_Tab_26 rfl (by assumption) (by assumption) ?_
          refine G_iload5 57 d_Tab_fill_55 rfl ?_
          refine G_ialoadv 58 d_Tab_fill_57 rfl (by assumption) (ix_nI (by omega) (by omega)) (by rw [sr_at]; simp : _ = nI (left / eD (gl h))) ?_
          refine G_iload6 60 d_Tab_fill_58 rfl ?_
          first | refine G_imulN 61 d_Tab_fill_60 rfl ?_ | refine G_imul 61 d_Tab_fill_60 rfl ?_
          first | refine G_isubN 62 d_Tab_fill_61 rfl (by omega) ?_ | refine G_isub 62 d_Tab_fill_61 rfl ?_
          refine G_istore4 64 d_Tab_fill_62 rfl (by decide) rfl ?_
          first | refine G_iincN5 67 d_Tab_fill_64 rfl (by decide) rfl ?_ | refine G_iinc5 _ 67 d_Tab_fill_64 rfl (by decide) rfl rfl ?_
          refine G_goto 6 d_Tab_fill_67 rfl ?_
          rw [leadL_drop gl hh2]
          refine ihx.conseq (Pd.to ⟨rfl, rfl, rfl, ?_, rfl⟩)
          congr 1
          funext j
          by_cases c1 : j = h
          · subst c1
            rw [if_neg (by omega), if_pos rfl, if_pos (by omega)]
            simp [fillV]
          · by_cases c2 : h + 1 ≤ j ∧ j < n
            · rw [if_pos c2, if_pos (by omega), fillV, show j - h = (j - (h + 1)) + 1 by omega, List.getD_cons_succ]
            · rw [if_neg c2, if_neg c1, if_neg (by omega)]
  refine G_iload3 1 d_Tab_fill_0 rfl ?_
  refine G_istore4 3 d_Tab_fill_1 rfl (by decide) rfl ?_
  refine G_iload2 4 d_Tab_fill_3 rfl ?_
  refine G_istore5 6 d_Tab_fill_4 rfl (by decide) rfl ?_
  have := L h0 hh room (AI (ta 4)) none hroom
  rw [sr_self] at this
  exact this
/-- sums over the first k -/
def sm (w : Nat → Nat) : Nat → Nat
  | 0 => 0
  | k + 1 => sm w k + w k
theorem sm_le {w : Nat → Nat} {a b : Nat} (h : a ≤ b) : sm w a ≤ sm w b := by
  induction h with
  | refl => exact Nat.le_refl _
  | step h ih => exact Nat.le_trans ih (Nat.le_add_right _ _)
theorem sm_shift (w : Nat → Nat) : ∀ k, sm w (k + 1) = w 0 + sm (fun j => w (j + 1)) k
  | 0 => by simp [sm]
  | k + 1 => by rw [sm, sm_shift w k, sm]; omega
theorem numL_sm : ∀ (v : List Nat) (g : Nat), numL g v = sm (fun j => v.getD j 0 * un (g + j)) v.length
  | [], g => rfl
  | p :: v, g => by
    rw [numL, numL_sm v (g + 1), List.length_cons, sm_shift]
    simp only [List.getD_cons_zero, Nat.add_zero, List.getD_cons_succ]
    congr 2
    funext j
    rw [show g + 1 + j = g + (j + 1) by omega]
theorem vsum_sm (e : Nat → Nat) : ∀ (Ls v : List Nat), v.length = Ls.length → vsum e Ls v = sm (fun j => v.getD j 0 * e (Ls.getD j 0)) Ls.length
  | [], v, h => by simp [vsum, sm]
  | l :: Ls, [], h => by simp at h
  | l :: Ls, p :: v, h => by
    rw [vsum, vsum_sm e Ls v (by simpa using h), List.length_cons, sm_shift]
    simp only [List.getD_cons_zero, List.getD_cons_succ]
theorem sm_congr {w w' : Nat → Nat} : ∀ {k : Nat}, (∀ j, j < k → w j = w' j) → sm w k = sm w' k
  | 0, _ => rfl
  | k + 1, h => by rw [sm, sm, sm_congr (fun j hj => h j (by omega)), h k (by omega)]
/-- the place of a ROW's TERM -/
def vpl (Ls v : List Nat) : Nat := pl (vsum eX Ls v) (vsum eY Ls v) (vsum eZ Ls v)
theorem vdeg_xyz : ∀ (Ls v : List Nat), (∀ l ∈ Ls, l < 84) → vsum eX Ls v + vsum eY Ls v + vsum eZ Ls v = vdeg Ls v
  | [], v, _ => by simp [vsum, vdeg]
  | l :: Ls, [], _ => by simp [vsum, vdeg]
  | l :: Ls, p :: v, h => by
    have ih := vdeg_xyz Ls v (fun x hx => h x (List.mem_cons_of_mem _ hx))
    have e := (e_all l (h l List.mem_cons_self)).1
    simp only [vsum, vdeg]
    rw [← e, Nat.mul_add, Nat.mul_add]
    omega
theorem s_note {V : GV} {d t g n i : Nat} {v : List Nat} {ta ga po qo gl : Nat → Nat} {X : XT} {FI AI : FT} {AL : LT} (hT : TO X t ta) (hG : GO X g ga po qo) (hL : GLd FI AI g ga n gl) (hi : i < 344) (hv : v.length = n) (hp : ∀ j, j < n → AI (ta 4) j = nI (v.getD j 0)) (hd : vdeg (leadL gl n) v ≤ 6) :
    G V m_Tab_note (d + 1) 0 [some (.ref t), some (.ref g), some (.int (nI i)), none, none, none, none, none] [] X FI AI AL (Pd none X FI (u2 (u2 AI (ta 2) i (nI (num v))) (ta 3) i (nI (vpl (leadL gl n) v))) AL) := by
  obtain ⟨t0, r0, r1, r2, r3, r4, r5, r6, q0, q1, q2, q3, q4, q5, q6, hinj⟩ := hT
  obtain ⟨h1, f1, f2, f3, f4, f5, f6, f7, f8, s1, s2, -⟩ := hG
  obtain ⟨hn, hn7, hl⟩ := hL
  have hxyz := vdeg_xyz (leadL gl n) v (fun l hl2 => by
    obtain ⟨j, hj, rfl⟩ := List.mem_map.mp hl2
    exact (hl j (List.mem_range.mp hj)).2.1)
  have hsm : ∀ e : Nat → Nat, vsum e (leadL gl n) v = sm (fun j => v.getD j 0 * e (gl j)) n := fun e => by
    rw [vsum_sm e _ _ (by rw [hv, leadL_len]), leadL_len]
    exact sm_congr (fun j hj => by rw [leadL_getD gl hj])
  have L : ∀ k, k ≤ n → G V m_Tab_note (d + 1) 14 [some (.ref t), some (.ref g), some (.int (nI i)), some (.int (nI (sm (fun j => v.getD j 0 * un j) k))), some (.int (nI (sm (fun j => v.getD j 0 * eX (gl j)) k))), some (.int (nI (sm (fun j => v.getD j 0 * eY (gl j)) k))), some (.int (nI (sm (fun j => v.getD j 0 * eZ (gl j)) k))), some (.int (nI k))] [] X FI AI AL (Pd none X FI (u2 (u2 AI (ta 2) i (nI (num v))) (ta 3) i (nI (vpl (leadL gl n) v))) AL) := by
    refine upto ?_ ?_
    · have e1 := hsm eX
      have e2 := hsm eY
      have e3 := hsm eZ
      refine G_iload7 16 d_Tab_note_14 rfl ?_
      refine G_aload1 17 d_Tab_note_16 rfl ?_
      refine G_getIv 20 d_Tab_note_17 rfl f_Tab_64 rfl (by assumption) hn ?_
      first | refine G_icgeN 117 23 d_Tab_note_20 rfl rfl (by omega) (by omega) (fun h20 => ?_) (fun h20 => ?_) | refine G_icge 117 23 d_Tab_note_20 rfl rfl (fun h20 => ?_) (fun h20 => ?_)
      · refine G_aload0 118 d_Tab_note_117 rfl ?_
        refine G_getR 121 d_Tab_note_118 rfl f_Tab_18 rfl (by assumption) (by assumption) ?_
        refine G_iload2 122 d_Tab_note_121 rfl ?_
        refine G_iload3 123 d_Tab_note_122 rfl ?_
        refine G_iastore 124 d_Tab_note_123 rfl (by assumption) (ix_nI (by omega) (by omega)) ?_
        refine G_aload0 125 d_Tab_note_124 rfl ?_
        refine G_getR 128 d_Tab_note_125 rfl f_Tab_21 rfl (by assumption) (by assumption) ?_
        refine G_iload2 129 d_Tab_note_128 rfl ?_
        refine G_iload4 131 d_Tab_note_129 rfl ?_
        refine G_iload5 133 d_Tab_note_131 rfl ?_
        refine G_iload6 135 d_Tab_note_133 rfl ?_
        refine G_invS3d 138 d_Tab_note_135 rfl e_Tab_87 M_Terms_placeOf (Nat.le_of_ble_eq_true rfl) (Nat.le_of_ble_eq_true rfl) rfl (s_placeOf (by omega)) ?_
        refine G_iastore 139 d_Tab_note_138 rfl (by assumption) (ix_nI (by omega) (by omega)) ?_
        refine G_vret d_Tab_note_139 rfl ?_
        refine ⟨rfl, rfl, rfl, ?_, rfl⟩
        rw [vpl, e1, e2, e3, num, numL_sm, hv]
        simp only [Nat.zero_add]
      · omega
    · intro k hk ih
      obtain ⟨a1, a2, a3⟩ := hl k hk
      have hpk := hp k hk
      refine G_iload7 16 d_Tab_note_14 rfl ?_
      refine G_aload1 17 d_Tab_note_16 rfl ?_
      refine G_getIv 20 d_Tab_note_17 rfl f_Tab_64 rfl (by assumption) hn ?_
      first | refine G_icgeN 117 23 d_Tab_note_20 rfl rfl (by omega) (by omega) (fun h20 => ?_) (fun h20 => ?_) | refine G_icge 117 23 d_Tab_note_20 rfl rfl (fun h20 => ?_) (fun h20 => ?_)
      · omega
      · refine G_iload3 24 d_Tab_note_23 rfl ?_
        refine G_aload0 25 d_Tab_note_24 rfl ?_
        refine G_getR 28 d_Tab_note_25 rfl f_Tab_26 rfl (by assumption) (by assumption) ?_
        refine G_iload7 30 d_Tab_note_28 rfl ?_
        refine G_ialoadv 31 d_Tab_note_30 rfl (by assumption) (ix_nI (by omega) (by omega)) hpk ?_
        refine G_iload7 33 d_Tab_note_31 rfl ?_
        refine G_invS1d 36 d_Tab_note_33 rfl e_Tab_74 M_Gen_unit (Nat.le_of_ble_eq_true rfl) (Nat.le_of_ble_eq_true rfl) rfl (s_unit (by omega)) ?_
        first | refine G_imulN 37 d_Tab_note_36 rfl ?_ | refine G_imul 37 d_Tab_note_36 rfl ?_
        first | refine G_iaddN 38 d_Tab_note_37 rfl ?_ | refine G_iadd 38 d_Tab_note_37 rfl ?_
        refine G_istore3 39 d_Tab_note_38 rfl (by decide) rfl ?_
        refine G_iload4 41 d_Tab_note_39 rfl ?_
        refine G_aload0 42 d_Tab_note_41 rfl ?_
        refine G_getR 45 d_Tab_note_42 rfl f_Tab_26 rfl (by assumption) (by assumption) ?_
        refine G_iload7 47 d_Tab_note_45 rfl ?_
        refine G_ialoadv 48 d_Tab_note_47 rfl (by assumption) (ix_nI (by omega) (by omega)) hpk ?_
        refine G_gets 3 51 d_Tab_note_48 rfl rfl s_Tab_78 ?_
        refine G_aload1 52 d_Tab_note_51 rfl ?_
        refine G_getR 55 d_Tab_note_52 rfl f_Tab_71 rfl (by assumption) (by assumption) ?_
        refine G_iload7 57 d_Tab_note_55 rfl ?_
        refine G_ialoadv 58 d_Tab_note_57 rfl (by assumption) (ix_nI (by omega) (by omega)) a1 ?_
        refine G_st3 59 d_Tab_note_58 rfl (ix_nI (by omega) (by omega)) ?_
        first | refine G_imulN 60 d_Tab_note_59 rfl ?_ | refine G_imul 60 d_Tab_note_59 rfl ?_
        first | refine G_iaddN 61 d_Tab_note_60 rfl ?_ | refine G_iadd 61 d_Tab_note_60 rfl ?_
        refine G_istore4 63 d_Tab_note_61 rfl (by decide) rfl ?_
        refine G_iload5 65 d_Tab_note_63 rfl ?_
        refine G_aload0 66 d_Tab_note_65 rfl ?_
        refine G_getR 69 d_Tab_note_66 rfl f_Tab_26 rfl (by assumption) (by assumption) ?_
        refine G_iload7 71 d_Tab_note_69 rfl ?_
        refine G_ialoadv 72 d_Tab_note_71 rfl (by assumption) (ix_nI (by omega) (by omega)) hpk ?_
        refine G_gets 4 75 d_Tab_note_72 rfl rfl s_Tab_81 ?_
        refine G_aload1 76 d_Tab_note_75 rfl ?_
        refine G_getR 79 d_Tab_note_76 rfl f_Tab_71 rfl (by assumption) (by assumption) ?_
        refine G_iload7 81 d_Tab_note_79 rfl ?_
        refine G_ialoadv 82 d_Tab_note_81 rfl (by assumption) (ix_nI (by omega) (by omega)) a1 ?_
        refine G_st4 83 d_Tab_note_82 rfl (ix_nI (by omega) (by omega)) ?_
        first | refine G_imulN 84 d_Tab_note_83 rfl ?_ | refine G_imul 84 d_Tab_note_83 rfl ?_
        first | refine G_iaddN 85 d_Tab_note_84 rfl ?_ | refine G_iadd 85 d_Tab_note_84 rfl ?_
        refine G_istore5 87 d_Tab_note_85 rfl (by decide) rfl ?_
        refine G_iload6 89 d_Tab_note_87 rfl ?_
        refine G_aload0 90 d_Tab_note_89 rfl ?_
        refine G_getR 93 d_Tab_note_90 rfl f_Tab_26 rfl (by assumption) (by assumption) ?_
        refine G_iload7 95 d_Tab_note_93 rfl ?_
        refine G_ialoadv 96 d_Tab_note_95 rfl (by assumption) (ix_nI (by omega) (by omega)) hpk ?_
        refine G_gets 5 99 d_Tab_note_96 rfl rfl s_Tab_84 ?_
        refine G_aload1 100 d_Tab_note_99 rfl ?_
        refine G_getR 103 d_Tab_note_100 rfl f_Tab_71 rfl (by assumption) (by assumption) ?_
        refine G_iload7 105 d_Tab_note_103 rfl ?_
        refine G_ialoadv 106 d_Tab_note_105 rfl (by assumption) (ix_nI (by omega) (by omega)) a1 ?_
        refine G_st5 107 d_Tab_note_106 rfl (ix_nI (by omega) (by omega)) ?_
        first | refine G_imulN 108 d_Tab_note_107 rfl ?_ | refine G_imul 108 d_Tab_note_107 rfl ?_
        first | refine G_iaddN 109 d_Tab_note_108 rfl ?_ | refine G_iadd 109 d_Tab_note_108 rfl ?_
        refine G_istore6 111 d_Tab_note_109 rfl (by decide) rfl ?_
        first | refine G_iincN7 114 d_Tab_note_111 rfl (by decide) rfl ?_ | refine G_iinc7 _ 114 d_Tab_note_111 rfl (by decide) rfl rfl ?_
        refine G_goto 14 d_Tab_note_114 rfl ?_
        exact ih
  refine G_iconstN 0 1 d_Tab_note_0 rfl rfl ?_
  refine G_istore3 2 d_Tab_note_1 rfl (by decide) rfl ?_
  refine G_iconstN 0 3 d_Tab_note_2 rfl rfl ?_
  refine G_istore4 5 d_Tab_note_3 rfl (by decide) rfl ?_
  refine G_iconstN 0 6 d_Tab_note_5 rfl rfl ?_
  refine G_istore5 8 d_Tab_note_6 rfl (by decide) rfl ?_
  refine G_iconstN 0 9 d_Tab_note_8 rfl rfl ?_
  refine G_istore6 11 d_Tab_note_9 rfl (by decide) rfl ?_
  refine G_iconstN 0 12 d_Tab_note_11 rfl rfl ?_
  refine G_istore7 14 d_Tab_note_12 rfl (by decide) rfl ?_
  exact L 0 (by omega)
theorem vdeg_app : ∀ (A a B b : List Nat), a.length = A.length → vdeg (A ++ B) (a ++ b) = vdeg A a + vdeg B b
  | [], [], B, b, _ => by simp [vdeg]
  | [], _ :: _, _, _, h => by simp at h
  | _ :: _, [], _, _, h => by simp at h
  | l :: A, p :: a, B, b, h => by
    simp only [List.cons_append, vdeg]
    rw [vdeg_app A a B b (by simpa using h)]
    omega
theorem fillV_len : ∀ (Ls : List Nat) (room : Nat), (fillV Ls room).length = Ls.length
  | [], _ => rfl
  | l :: Ls, room => by simp [fillV, fillV_len Ls]
theorem fill_deg : ∀ (Ls : List Nat) (room : Nat), fillR Ls room + vdeg Ls (fillV Ls room) = room
  | [], room => by simp [fillR, fillV, vdeg]
  | l :: Ls, room => by
    have ih := fill_deg Ls (room - room / eD l * eD l)
    have := Nat.div_mul_le_self room (eD l)
    simp only [fillR, fillV, vdeg]
    omega
theorem vdeg_zero : ∀ (Ls v : List Nat), (∀ p ∈ v, p = 0) → vdeg Ls v = 0
  | [], _, _ => by simp [vdeg]
  | _ :: _, [], _ => by simp [vdeg]
  | l :: Ls, p :: v, h => by
    have hp := h p List.mem_cons_self
    subst hp
    simp only [vdeg]
    rw [vdeg_zero Ls v (fun q hq => h q (List.mem_cons_of_mem _ hq))]
    omega
/-- a vector is what stands ahead of j, its POWER at j, and 0 behind it -/
theorem vdeg_cut {Ls v : List Nat} {j p : Nat} (hl : v.length = Ls.length) (hj : v[j]? = some p) (hz : ∀ i q, j < i → v[i]? = some q → q = 0) : vdeg Ls v = vdeg (Ls.take j) (v.take j) + p * eD (Ls.getD j 0) := by
  have hjl : j < v.length := (List.getElem?_eq_some_iff.mp hj).1
  have e1 : v = v.take j ++ p :: v.drop (j + 1) := by
    conv => lhs; rw [← List.take_append_drop j v]
    rw [List.drop_eq_getElem_cons hjl]
    have : v[j] = p := (List.getElem?_eq_some_iff.mp hj).2
    rw [this]
  have e2 : Ls = Ls.take j ++ Ls.getD j 0 :: Ls.drop (j + 1) := by
    conv => lhs; rw [← List.take_append_drop j Ls]
    rw [List.drop_eq_getElem_cons (by omega)]
    simp [show j < Ls.length by omega]
  have e3 : vdeg Ls v = vdeg (Ls.take j ++ Ls.getD j 0 :: Ls.drop (j + 1)) (v.take j ++ p :: v.drop (j + 1)) := by rw [← e1, ← e2]
  rw [e3, vdeg_app _ _ _ _ (by simp; omega)]
  simp only [vdeg]
  rw [vdeg_zero (Ls.drop (j + 1)) (v.drop (j + 1)) (fun q hq => by
    obtain ⟨i, hi⟩ := List.getElem?_of_mem hq
    rw [List.getElem?_drop] at hi
    exact hz (j + 1 + i) q (by omega) hi)]
  omega
theorem vdeg_set {Ls v w : List Nat} {j q : Nat} (hj : j < Ls.length) (hl : v.length = Ls.length) : vdeg Ls (v.take j ++ q :: w) = vdeg (Ls.take j) (v.take j) + (q * eD (Ls.getD j 0) + vdeg (Ls.drop (j + 1)) w) := by
  have e2 : Ls = Ls.take j ++ Ls.getD j 0 :: Ls.drop (j + 1) := by
    conv => lhs; rw [← List.take_append_drop j Ls]
    rw [List.drop_eq_getElem_cons (by omega)]
    simp [hj]
  have e3 : vdeg Ls (v.take j ++ q :: w) = vdeg (Ls.take j ++ Ls.getD j 0 :: Ls.drop (j + 1)) (v.take j ++ q :: w) := by rw [← e2]
  rw [e3, vdeg_app _ _ _ _ (by simp; omega)]
  simp only [vdeg]
theorem getD_mid {v w : List Nat} {j q i : Nat} (hj : j ≤ v.length) : (v.take j ++ q :: w).getD i 0 = if i < j then v.getD i 0 else if i = j then q else w.getD (i - (j + 1)) 0 := by
  have hl : (v.take j).length = j := by simp; omega
  by_cases h1 : i < j
  · rw [if_pos h1]
    simp only [List.getD]
    rw [List.getElem?_append_left (by omega), List.getElem?_take_of_lt h1]
  · rw [if_neg h1]
    simp only [List.getD]
    rw [List.getElem?_append_right (by omega), hl]
    by_cases h2 : i = j
    · rw [if_pos h2, h2, Nat.sub_self]; rfl
    · rw [if_neg h2, show i - j = (i - (j + 1)) + 1 by omega, List.getElem?_cons_succ]
