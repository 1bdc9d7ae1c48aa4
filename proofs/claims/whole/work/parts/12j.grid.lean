/-! ===== the class: its grid ===== -/
def lyB (AL : LT) (l : Nat) (B : LM) (N : Nat → Int64) : LT := fun a => if l + 2 ≤ a ∧ a < l + 12 then B (a - (l + 2)) else if a = l + 12 then N else AL a
theorem lyB_r {AL : LT} {l c : Nat} {B : LM} {N : Nat → Int64} (hc : c < 10) : lyB AL l B N (l + 2 + c) = B c := by
  unfold lyB; rw [if_pos (by omega), show l + 2 + c - (l + 2) = c by omega]
theorem lyB_n {AL : LT} {l : Nat} {B : LM} {N : Nat → Int64} : lyB AL l B N (l + 12) = N := by
  unfold lyB; rw [if_neg (by omega), if_pos rfl]
theorem lyB_o {AL : LT} {l a : Nat} {B : LM} {N : Nat → Int64} (h : a < l + 2 ∨ l + 12 < a) : lyB AL l B N a = AL a := by
  unfold lyB; rw [if_neg (by omega), if_neg (by omega)]
theorem lyB_sr {AL : LT} {l c : Nat} {B : LM} {N f : Nat → Int64} (hc : c < 10) : sr (lyB AL l B N) (l + 2 + c) f = lyB AL l (upn B c f) N := by
  funext a
  by_cases e : a = l + 2 + c
  · rw [e, sr_at, lyB_r hc, upn_at]
  · rw [sr_ne _ _ e]
    unfold lyB
    by_cases h : l + 2 ≤ a ∧ a < l + 12
    · rw [if_pos h, if_pos h, upn_ne _ _ (by omega)]
    · rw [if_neg h, if_neg h]
theorem lyB_sn {AL : LT} {l : Nat} {B : LM} {N f : Nat → Int64} : sr (lyB AL l B N) (l + 12) f = lyB AL l B f := by
  funext a
  by_cases e : a = l + 12
  · rw [e, sr_at, lyB_n]
  · rw [sr_ne _ _ e]
    unfold lyB
    by_cases h : l + 2 ≤ a ∧ a < l + 12
    · rw [if_pos h, if_pos h]
    · rw [if_neg h, if_neg h, if_neg e, if_neg e]
theorem lyB_i (AL : LT) (l : Nat) : lyB AL l (fun c => AL (l + 2 + c)) (AL (l + 12)) = AL := by
  funext a
  unfold lyB
  by_cases h : l + 2 ≤ a ∧ a < l + 12
  · rw [if_pos h]
    show AL (l + 2 + (a - (l + 2))) = _
    rw [show l + 2 + (a - (l + 2)) = a by omega]
  · rw [if_neg h]
    by_cases e : a = l + 12
    · rw [if_pos e, e]
    · rw [if_neg e]
theorem upn_up {α : Type} (f : Nat → α) (n : Nat) (v w : α) : upn (upn f n v) n w = upn f n w := by
  funext i
  unfold upn
  split <;> rfl
theorem upn_self {α : Type} (f : Nat → α) (n : Nat) : upn f n (f n) = f := by
  funext i
  unfold upn
  split
  · rename_i e; rw [e]
  · rfl
theorem s_latSub {V : GV} {d a b : Nat} {t : Int64} {X : XT} {FI AI : FT} {AL : LT} (ha : x_sh X a = some (1, 10)) (hb : x_sh X b = some (1, 10)) (hne : a ≠ b) : G V m_Lat_subtract d 0 [some (.ref a), some (.ref b), some (.long t), none, none] [] X FI AI AL (Pd none X FI AI (sr AL a (fun j => AL a j - t * AL b j))) := by
  have L : ∀ k, k ≤ 10 → G V m_Lat_subtract d 3 [some (.ref a), some (.ref b), some (.long t), none, some (.int (nI k))] [] X FI AI (sr AL a (fun j => if j < k then AL a j - t * AL b j else AL a j)) (Pd none X FI AI (sr AL a (fun j => AL a j - t * AL b j))) := by
    refine upto ?_ ?_
    · refine G_iload4 5 d_Lat_subtract_3 rfl ?_
      refine G_bipushN 10 7 d_Lat_subtract_5 rfl rfl ?_
      first | refine G_icgeN 29 10 d_Lat_subtract_7 rfl rfl (by omega) (by omega) (fun h7 => ?_) (fun h7 => ?_) | refine G_icge 29 10 d_Lat_subtract_7 rfl rfl (fun h7 => ?_) (fun h7 => ?_)
      · refine G.row (fun j => AL a j - t * AL b j) ha (fun j hj => by simp [hj]) ?_
        refine G_vret d_Lat_subtract_29 rfl ?_
        exact Pd.rf
      · omega
    · intro k hk ih
      refine G_iload4 5 d_Lat_subtract_3 rfl ?_
      refine G_bipushN 10 7 d_Lat_subtract_5 rfl rfl ?_
      first | refine G_icgeN 29 10 d_Lat_subtract_7 rfl rfl (by omega) (by omega) (fun h7 => ?_) (fun h7 => ?_) | refine G_icge 29 10 d_Lat_subtract_7 rfl rfl (fun h7 => ?_) (fun h7 => ?_)
      · omega
      · refine G_aload0 11 d_Lat_subtract_10 rfl ?_
        refine G_iload4 13 d_Lat_subtract_11 rfl ?_
        refine G_dup2 14 d_Lat_subtract_13 rfl rfl rfl ?_
        refine G_laload 15 d_Lat_subtract_14 rfl (by assumption) (ix_nI (by omega) (by omega)) ?_
        refine G_lload2 16 d_Lat_subtract_15 rfl ?_
        refine G_aload1 17 d_Lat_subtract_16 rfl ?_
        refine G_iload4 19 d_Lat_subtract_17 rfl ?_
        refine G_laload 20 d_Lat_subtract_19 rfl (by assumption) (ix_nI (by omega) (by omega)) ?_
        refine G_lmul 21 d_Lat_subtract_20 rfl ?_
        refine G_lsub 22 d_Lat_subtract_21 rfl ?_
        refine G_lastore 23 d_Lat_subtract_22 rfl (by assumption) (ix_nI (by omega) (by omega)) ?_
        first | refine G_iincN4 26 d_Lat_subtract_23 rfl (by decide) rfl ?_ | refine G_iinc4 _ 26 d_Lat_subtract_23 rfl (by decide) rfl rfl ?_
        refine G_goto 3 d_Lat_subtract_26 rfl ?_
        rw [u2_sr, sr_at, sr_ne _ _ hne.symm]
        refine G.row _ ha (fun j hj => ?_) ih
        by_cases e : j = k
        · subst e; simp
        · by_cases e2 : j < k
          · simp [e, e2, Nat.lt_succ_of_lt e2]
          · simp [e, e2, show ¬ j < k + 1 by omega]
  refine G_iconstN 0 1 d_Lat_subtract_0 rfl rfl ?_
  refine G_istore4 3 d_Lat_subtract_1 rfl (by decide) rfl ?_
  have := L 0 (by omega)
  simp only [Nat.not_lt_zero, if_false, sr_self] at this
  exact this
theorem s_latNeg {V : GV} {d a : Nat} {X : XT} {FI AI : FT} {AL : LT} (ha : x_sh X a = some (1, 10)) : G V m_Lat_negate d 0 [some (.ref a), none] [] X FI AI AL (Pd none X FI AI (sr AL a (fun j => - AL a j))) := by
  have L : ∀ k, k ≤ 10 → G V m_Lat_negate d 2 [some (.ref a), some (.int (nI k))] [] X FI AI (sr AL a (fun j => if j < k then - AL a j else AL a j)) (Pd none X FI AI (sr AL a (fun j => - AL a j))) := by
    refine upto ?_ ?_
    · refine G_iload1 3 d_Lat_negate_2 rfl ?_
      refine G_bipushN 10 5 d_Lat_negate_3 rfl rfl ?_
      first | refine G_icgeN 21 8 d_Lat_negate_5 rfl rfl (by omega) (by omega) (fun h5 => ?_) (fun h5 => ?_) | refine G_icge 21 8 d_Lat_negate_5 rfl rfl (fun h5 => ?_) (fun h5 => ?_)
      · refine G.row (fun j => - AL a j) ha (fun j hj => by simp [hj]) ?_
        refine G_vret d_Lat_negate_21 rfl ?_
        exact Pd.rf
      · omega
    · intro k hk ih
      refine G_iload1 3 d_Lat_negate_2 rfl ?_
      refine G_bipushN 10 5 d_Lat_negate_3 rfl rfl ?_
      first | refine G_icgeN 21 8 d_Lat_negate_5 rfl rfl (by omega) (by omega) (fun h5 => ?_) (fun h5 => ?_) | refine G_icge 21 8 d_Lat_negate_5 rfl rfl (fun h5 => ?_) (fun h5 => ?_)
      · omega
      · refine G_aload0 9 d_Lat_negate_8 rfl ?_
        refine G_iload1 10 d_Lat_negate_9 rfl ?_
        refine G_aload0 11 d_Lat_negate_10 rfl ?_
        refine G_iload1 12 d_Lat_negate_11 rfl ?_
        refine G_laload 13 d_Lat_negate_12 rfl (by assumption) (ix_nI (by omega) (by omega)) ?_
        refine G_lneg 14 d_Lat_negate_13 rfl ?_
        refine G_lastore 15 d_Lat_negate_14 rfl (by assumption) (ix_nI (by omega) (by omega)) ?_
        first | refine G_iincN1 18 d_Lat_negate_15 rfl (by decide) rfl ?_ | refine G_iinc1 _ 18 d_Lat_negate_15 rfl (by decide) rfl rfl ?_
        refine G_goto 2 d_Lat_negate_18 rfl ?_
        rw [u2_sr, sr_at]
        refine G.row _ ha (fun j hj => ?_) ih
        by_cases e : j = k
        · subst e; simp
        · by_cases e2 : j < k
          · simp [e, e2, Nat.lt_succ_of_lt e2]
          · simp [e, e2, show ¬ j < k + 1 by omega]
  refine G_iconstN 0 1 d_Lat_negate_0 rfl rfl ?_
  refine G_istore1 2 d_Lat_negate_1 rfl (by decide) rfl ?_
  have := L 0 (by omega)
  simp only [Nat.not_lt_zero, if_false, sr_self] at this
  exact this
theorem sr_comm {α : Type} (F : Nat → Nat → α) {a b : Nat} (h : a ≠ b) (f g : Nat → α) : sr (sr F a f) b g = sr (sr F b g) a f := by
  funext c
  by_cases e1 : c = a
  · rw [e1, sr_ne _ _ h, sr_at, sr_at]
  · by_cases e2 : c = b
    · rw [sr_ne _ _ e1, e2, sr_at, sr_at]
    · rw [sr_ne _ _ e1, sr_ne _ _ e2, sr_ne _ _ e1, sr_ne _ _ e2]
theorem s_latEx {V : GV} {d l a : Nat} {X : XT} {FI AI : FT} {AL : LT} (h : LAo X l) (ha : x_sh X a = some (1, 10)) (hne : a ≠ l + 12) : G V m_Lat_exchangeNext d 0 [some (.ref l), some (.ref a), none, none, none] [] X FI AI AL (Pd none X FI AI (sr (sr AL a (AL (l + 12))) (l + 12) (AL a))) := by
  obtain ⟨o1, o2, o3, o4, o5, o6⟩ := h
  have L : ∀ k, k ≤ 10 → ∀ l3 l4 : Option Value, G V m_Lat_exchangeNext d 2 [some (.ref l), some (.ref a), some (.int (nI k)), l3, l4] [] X FI AI (sr (sr AL a (fun j => if j < k then AL (l + 12) j else AL a j)) (l + 12) (fun j => if j < k then AL a j else AL (l + 12) j)) (Pd none X FI AI (sr (sr AL a (AL (l + 12))) (l + 12) (AL a))) := by
    refine upto ?_ ?_
    · intro l3 l4
      refine G_iload2 3 d_Lat_exchangeNext_2 rfl ?_
      refine G_bipushN 10 5 d_Lat_exchangeNext_3 rfl rfl ?_
      first | refine G_icgeN 34 8 d_Lat_exchangeNext_5 rfl rfl (by omega) (by omega) (fun h5 => ?_) (fun h5 => ?_) | refine G_icge 34 8 d_Lat_exchangeNext_5 rfl rfl (fun h5 => ?_) (fun h5 => ?_)
      · refine G.row (AL a) o5 (fun j hj => by simp [hj]) ?_
        rw [sr_comm _ hne]
        refine G.row (AL (l + 12)) ha (fun j hj => by simp [hj]) ?_
        rw [sr_comm _ hne.symm]
        refine G_vret d_Lat_exchangeNext_34 rfl ?_
        exact Pd.rf
      · omega
    · intro k hk ih l3 l4
      have ea : sr (sr AL a (fun j => if j < k then AL (l + 12) j else AL a j)) (l + 12) (fun j => if j < k then AL a j else AL (l + 12) j) a k = AL a k := by
        rw [sr_ne _ _ hne, sr_at]; simp
      have eb : sr (sr AL a (fun j => if j < k then AL (l + 12) j else AL a j)) (l + 12) (fun j => if j < k then AL a j else AL (l + 12) j) (l + 12) k = AL (l + 12) k := by
        rw [sr_at]; simp
      refine G_iload2 3 d_Lat_exchangeNext_2 rfl ?_
      refine G_bipushN 10 5 d_Lat_exchangeNext_3 rfl rfl ?_
      first | refine G_icgeN 34 8 d_Lat_exchangeNext_5 rfl rfl (by omega) (by omega) (fun h5 => ?_) (fun h5 => ?_) | refine G_icge 34 8 d_Lat_exchangeNext_5 rfl rfl (fun h5 => ?_) (fun h5 => ?_)
      · omega
      · refine G_aload1 9 d_Lat_exchangeNext_8 rfl ?_
        refine G_iload2 10 d_Lat_exchangeNext_9 rfl ?_
        refine G_laloadv 11 d_Lat_exchangeNext_10 rfl (by assumption) (ix_nI (by omega) (by omega)) ea ?_
        refine G_lstore3 12 d_Lat_exchangeNext_11 rfl (by decide) rfl ?_
        refine G_aload1 13 d_Lat_exchangeNext_12 rfl ?_
        refine G_iload2 14 d_Lat_exchangeNext_13 rfl ?_
        refine G_aload0 15 d_Lat_exchangeNext_14 rfl ?_
        refine G_getR 18 d_Lat_exchangeNext_15 rfl f_Lat_16 rfl (by assumption) (by assumption) ?_
        refine G_iload2 19 d_Lat_exchangeNext_18 rfl ?_
        refine G_laloadv 20 d_Lat_exchangeNext_19 rfl (by assumption) (ix_nI (by omega) (by omega)) eb ?_
        refine G_lastore 21 d_Lat_exchangeNext_20 rfl (by assumption) (ix_nI (by omega) (by omega)) ?_
        refine G_aload0 22 d_Lat_exchangeNext_21 rfl ?_
        refine G_getR 25 d_Lat_exchangeNext_22 rfl f_Lat_16 rfl (by assumption) (by assumption) ?_
        refine G_iload2 26 d_Lat_exchangeNext_25 rfl ?_
        refine G_lload3 27 d_Lat_exchangeNext_26 rfl ?_
        refine G_lastore 28 d_Lat_exchangeNext_27 rfl (by assumption) (ix_nI (by omega) (by omega)) ?_
        first | refine G_iincN2 31 d_Lat_exchangeNext_28 rfl (by decide) rfl ?_ | refine G_iinc2 _ 31 d_Lat_exchangeNext_28 rfl (by decide) rfl rfl ?_
        refine G_goto 2 d_Lat_exchangeNext_31 rfl ?_
        rw [sr_comm _ hne, u2_sr, sr_comm _ hne.symm, u2_sr]
        refine G.row (fun j => if j < k + 1 then AL a j else AL (l + 12) j) o5 (fun j hj => ?_) ?_
        · by_cases e : j = k
          · subst e; simp
          · by_cases e2 : j < k
            · simp [e, e2, Nat.lt_succ_of_lt e2]
            · simp [e, e2, show ¬ j < k + 1 by omega]
        · rw [sr_comm _ hne]
          refine G.row (fun j => if j < k + 1 then AL (l + 12) j else AL a j) ha (fun j hj => ?_) ?_
          · by_cases e : j = k
            · subst e; simp
            · by_cases e2 : j < k
              · simp [e, e2, Nat.lt_succ_of_lt e2]
              · simp [e, e2, show ¬ j < k + 1 by omega]
          · rw [sr_comm _ hne.symm]
            exact ih _ _
  refine G_iconstN 0 1 d_Lat_exchangeNext_0 rfl rfl ?_
  refine G_istore2 2 d_Lat_exchangeNext_1 rfl (by decide) rfl ?_
  have := L 0 (by omega) none none
  simp only [Nat.not_lt_zero, if_false] at this
  rw [show (fun j => AL a j) = AL a from rfl, show (fun j => AL (l + 12) j) = AL (l + 12) from rfl, sr_self, sr_self] at this
  exact this
theorem s_latIns {V : GV} {d l : Nat} {B : LM} {N : Nat → Int64} {X : XT} {FI AI : FT} {AL : LT} (h : LAo X l) : G V m_Lat_insertNext (d + 1) 0 [some (.ref l), none, none] [] X FI AI (lyB AL l B N) (Pd none X FI AI (lyB AL l (inF 10 (B, N)).1 (inF 10 (B, N)).2)) := by
  obtain ⟨o1, o2, o3, o4, o5, o6⟩ := id h
  have L : ∀ c, c ≤ 10 → ∀ l2 : Option Value, G V m_Lat_insertNext (d + 1) 2 [some (.ref l), some (.int (nI c)), l2] [] X FI AI (lyB AL l (inF c (B, N)).1 (inF c (B, N)).2) (Pd none X FI AI (lyB AL l (inF 10 (B, N)).1 (inF 10 (B, N)).2)) := by
    refine upto ?_ ?_
    · intro l2
      refine G_iload1 3 d_Lat_insertNext_2 rfl ?_
      refine G_bipushN 10 5 d_Lat_insertNext_3 rfl rfl ?_
      first | refine G_icgeN 100 8 d_Lat_insertNext_5 rfl rfl (by omega) (by omega) (fun h5 => ?_) (fun h5 => ?_) | refine G_icge 100 8 d_Lat_insertNext_5 rfl rfl (fun h5 => ?_) (fun h5 => ?_)
      · refine G_vret d_Lat_insertNext_100 rfl ?_
        exact Pd.rf
      · omega
    · intro c hc ih l2
      obtain ⟨ac, sc⟩ := o6 c hc
      -- behind the division: the sign
      have Z : ∀ (P Q : Nat → Int64) (l2 : Option Value), euF c 200 ((inF c (B, N)).1 c) (inF c (B, N)).2 = (P, Q) → G V m_Lat_insertNext (d + 1) 72 [some (.ref l), some (.int (nI c)), l2] [] X FI AI (lyB AL l (upn (inF c (B, N)).1 c P) Q) (Pd none X FI AI (lyB AL l (inF 10 (B, N)).1 (inF 10 (B, N)).2)) := by
        intro P Q l2 e
        have ev : lyB AL l (upn (inF c (B, N)).1 c P) Q (l + 2 + c) c = P c := by rw [lyB_r hc, upn_at]
        have e1 : (inF (c + 1) (B, N)).1 = upn (inF c (B, N)).1 c (ngF P c) := by rw [inF, e]
        have e2 : (inF (c + 1) (B, N)).2 = Q := by rw [inF, e]
        have ih2 := ih l2
        rw [e1, e2] at ih2
        by_cases hz : P c < 0
        · have en : ngF P c = fun j => - P j := if_pos hz
          rw [en] at ih2
          have hng := s_latNeg (V := V) (d := d) (FI := FI) (AI := AI) (AL := lyB AL l (upn (inF c (B, N)).1 c P) Q) sc
          rw [lyB_sr hc, lyB_r hc, upn_up, upn_at] at hng
          refine G_aload0 73 d_Lat_insertNext_72 rfl ?_
          refine G_getR 76 d_Lat_insertNext_73 rfl f_Lat_13 rfl (by assumption) (by assumption) ?_
          refine G_iload1 77 d_Lat_insertNext_76 rfl ?_
          refine G_aaload 78 d_Lat_insertNext_77 rfl (by assumption) (by decide) (by decide) (ix_nI (by omega) (by omega)) (by assumption) ?_
          refine G_iload1 79 d_Lat_insertNext_78 rfl ?_
          refine G_laloadv 80 d_Lat_insertNext_79 rfl (by assumption) (ix_nI (by omega) (by omega)) ev ?_
          refine G_lconst 0 81 d_Lat_insertNext_80 rfl rfl ?_
          refine G_lcge 94 85 d_Lat_insertNext_81 d_Lat_insertNext_82 rfl rfl (fun h81 => ?_) (fun h81 => ?_)
          · exact absurd hz h81
          · refine G_aload0 86 d_Lat_insertNext_85 rfl ?_
            refine G_getR 89 d_Lat_insertNext_86 rfl f_Lat_13 rfl (by assumption) (by assumption) ?_
            refine G_iload1 90 d_Lat_insertNext_89 rfl ?_
            refine G_aaload 91 d_Lat_insertNext_90 rfl (by assumption) (by decide) (by decide) (ix_nI (by omega) (by omega)) (by assumption) ?_
            refine G_invS1v 94 d_Lat_insertNext_91 rfl e_Lat_54 M_Lat_negate (Nat.le_of_ble_eq_true rfl) (Nat.le_of_ble_eq_true rfl) rfl (hng) ?_
            first | refine G_iincN1 97 d_Lat_insertNext_94 rfl (by decide) rfl ?_ | refine G_iinc1 _ 97 d_Lat_insertNext_94 rfl (by decide) rfl rfl ?_
            refine G_goto 2 d_Lat_insertNext_97 rfl ?_
            exact ih2
        · have en : ngF P c = P := if_neg hz
          rw [en] at ih2
          refine G_aload0 73 d_Lat_insertNext_72 rfl ?_
          refine G_getR 76 d_Lat_insertNext_73 rfl f_Lat_13 rfl (by assumption) (by assumption) ?_
          refine G_iload1 77 d_Lat_insertNext_76 rfl ?_
          refine G_aaload 78 d_Lat_insertNext_77 rfl (by assumption) (by decide) (by decide) (ix_nI (by omega) (by omega)) (by assumption) ?_
          refine G_iload1 79 d_Lat_insertNext_78 rfl ?_
          refine G_laloadv 80 d_Lat_insertNext_79 rfl (by assumption) (ix_nI (by omega) (by omega)) ev ?_
          refine G_lconst 0 81 d_Lat_insertNext_80 rfl rfl ?_
          refine G_lcge 94 85 d_Lat_insertNext_81 d_Lat_insertNext_82 rfl rfl (fun h81 => ?_) (fun h81 => ?_)
          · first | refine G_iincN1 97 d_Lat_insertNext_94 rfl (by decide) rfl ?_ | refine G_iinc1 _ 97 d_Lat_insertNext_94 rfl (by decide) rfl rfl ?_
            refine G_goto 2 d_Lat_insertNext_97 rfl ?_
            exact ih2
          · exact absurd h81 hz
      have L2 : ∀ f, f ≤ 200 → ∀ P Q : Nat → Int64, euF c f P Q = euF c 200 ((inF c (B, N)).1 c) (inF c (B, N)).2 → G V m_Lat_insertNext (d + 1) 10 [some (.ref l), some (.int (nI c)), some (.int (nI (200 - f)))] [] X FI AI (lyB AL l (upn (inF c (B, N)).1 c P) Q) (Pd none X FI AI (lyB AL l (inF 10 (B, N)).1 (inF 10 (B, N)).2)) := by
        intro f
        induction f with
        | zero =>
          intro _ P Q e
          refine G_iload2 11 d_Lat_insertNext_10 rfl ?_
          refine G_sipushN 200 14 d_Lat_insertNext_11 rfl rfl ?_
          first | refine G_icgeN 72 17 d_Lat_insertNext_14 rfl rfl (by omega) (by omega) (fun h14 => ?_) (fun h14 => ?_) | refine G_icge 72 17 d_Lat_insertNext_14 rfl rfl (fun h14 => ?_) (fun h14 => ?_)
          · exact Z P Q _ e.symm
          · omega
        | succ f ihf =>
          intro hf P Q e
          have ev : lyB AL l (upn (inF c (B, N)).1 c P) Q (l + 2 + c) c = P c := by rw [lyB_r hc, upn_at]
          have en : lyB AL l (upn (inF c (B, N)).1 c P) Q (l + 12) c = Q c := by rw [lyB_n]
          by_cases hz : Q c = 0
          · have e2 : euF c (f + 1) P Q = (P, Q) := by rw [euF, if_pos hz]
            refine G_iload2 11 d_Lat_insertNext_10 rfl ?_
            refine G_sipushN 200 14 d_Lat_insertNext_11 rfl rfl ?_
            first | refine G_icgeN 72 17 d_Lat_insertNext_14 rfl rfl (by omega) (by omega) (fun h14 => ?_) (fun h14 => ?_) | refine G_icge 72 17 d_Lat_insertNext_14 rfl rfl (fun h14 => ?_) (fun h14 => ?_)
            · exact Z P Q _ (by rw [← e, e2])
            · refine G_aload0 18 d_Lat_insertNext_17 rfl ?_
              refine G_getR 21 d_Lat_insertNext_18 rfl f_Lat_16 rfl (by assumption) (by assumption) ?_
              refine G_iload1 22 d_Lat_insertNext_21 rfl ?_
              refine G_laloadv 23 d_Lat_insertNext_22 rfl (by assumption) (ix_nI (by omega) (by omega)) en ?_
              refine G_lconst 0 24 d_Lat_insertNext_23 rfl rfl ?_
              refine G_lceq 72 28 d_Lat_insertNext_24 d_Lat_insertNext_25 rfl rfl (fun h24 => ?_) (fun h24 => ?_)
              · exact Z P Q _ (by rw [← e, e2])
              · exact absurd hz h24
          · rw [euF, if_neg hz] at e
            have hsb := s_latSub (V := V) (d := d) (t := P c / Q c) (FI := FI) (AI := AI) (AL := lyB AL l (upn (inF c (B, N)).1 c P) Q) sc o5 (by omega)
            rw [lyB_sr hc, lyB_r hc, lyB_n, upn_up, upn_at] at hsb
            have hex := s_latEx (V := V) (d := d) (FI := FI) (AI := AI) (AL := lyB AL l (upn (inF c (B, N)).1 c (fun j => P j - P c / Q c * Q j)) Q) h sc (by omega)
            rw [lyB_sr hc, lyB_n, lyB_sn, lyB_r hc, upn_up, upn_at] at hex
            have ih2 := ihf (by omega) _ _ e
            rw [show 200 - f = 200 - (f + 1) + 1 by omega] at ih2
            refine G_iload2 11 d_Lat_insertNext_10 rfl ?_
            refine G_sipushN 200 14 d_Lat_insertNext_11 rfl rfl ?_
            first | refine G_icgeN 72 17 d_Lat_insertNext_14 rfl rfl (by omega) (by omega) (fun h14 => ?_) (fun h14 => ?_) | refine G_icge 72 17 d_Lat_insertNext_14 rfl rfl (fun h14 => ?_) (fun h14 => ?_)
            · omega
            · refine G_aload0 18 d_Lat_insertNext_17 rfl ?_
              refine G_getR 21 d_Lat_insertNext_18 rfl f_Lat_16 rfl (by assumption) (by assumption) ?_
              refine G_iload1 22 d_Lat_insertNext_21 rfl ?_
              refine G_laloadv 23 d_Lat_insertNext_22 rfl (by assumption) (ix_nI (by omega) (by omega)) en ?_
              refine G_lconst 0 24 d_Lat_insertNext_23 rfl rfl ?_
              refine G_lceq 72 28 d_Lat_insertNext_24 d_Lat_insertNext_25 rfl rfl (fun h24 => ?_) (fun h24 => ?_)
              · exact absurd h24 hz
              · refine G_aload0 29 d_Lat_insertNext_28 rfl ?_
                refine G_getR 32 d_Lat_insertNext_29 rfl f_Lat_13 rfl (by assumption) (by assumption) ?_
                refine G_iload1 33 d_Lat_insertNext_32 rfl ?_
                refine G_aaload 34 d_Lat_insertNext_33 rfl (by assumption) (by decide) (by decide) (ix_nI (by omega) (by omega)) (by assumption) ?_
                refine G_aload0 35 d_Lat_insertNext_34 rfl ?_
                refine G_getR 38 d_Lat_insertNext_35 rfl f_Lat_16 rfl (by assumption) (by assumption) ?_
                refine G_aload0 39 d_Lat_insertNext_38 rfl ?_
                refine G_getR 42 d_Lat_insertNext_39 rfl f_Lat_13 rfl (by assumption) (by assumption) ?_
                refine G_iload1 43 d_Lat_insertNext_42 rfl ?_
                refine G_aaload 44 d_Lat_insertNext_43 rfl (by assumption) (by decide) (by decide) (ix_nI (by omega) (by omega)) (by assumption) ?_
                refine G_iload1 45 d_Lat_insertNext_44 rfl ?_
                refine G_laloadv 46 d_Lat_insertNext_45 rfl (by assumption) (ix_nI (by omega) (by omega)) ev ?_
                refine G_aload0 47 d_Lat_insertNext_46 rfl ?_
                refine G_getR 50 d_Lat_insertNext_47 rfl f_Lat_16 rfl (by assumption) (by assumption) ?_
                refine G_iload1 51 d_Lat_insertNext_50 rfl ?_
                refine G_laloadv 52 d_Lat_insertNext_51 rfl (by assumption) (ix_nI (by omega) (by omega)) en ?_
                refine G_ldiv 53 d_Lat_insertNext_52 rfl hz ?_
                refine G_invS3v 56 d_Lat_insertNext_53 rfl e_Lat_46 M_Lat_subtract (Nat.le_of_ble_eq_true rfl) (Nat.le_of_ble_eq_true rfl) rfl (hsb) ?_
                refine G_aload0 57 d_Lat_insertNext_56 rfl ?_
                refine G_aload0 58 d_Lat_insertNext_57 rfl ?_
                refine G_getR 61 d_Lat_insertNext_58 rfl f_Lat_13 rfl (by assumption) (by assumption) ?_
                refine G_iload1 62 d_Lat_insertNext_61 rfl ?_
                refine G_aaload 63 d_Lat_insertNext_62 rfl (by assumption) (by decide) (by decide) (ix_nI (by omega) (by omega)) (by assumption) ?_
                refine G_invV1v 66 d_Lat_insertNext_63 rfl e_Lat_50 M_Lat_exchangeNext rfl (by assumption) (Nat.le_of_ble_eq_true rfl) (Nat.le_of_ble_eq_true rfl) rfl (hex) ?_
                first | refine G_iincN2 69 d_Lat_insertNext_66 rfl (by decide) rfl ?_ | refine G_iinc2 _ 69 d_Lat_insertNext_66 rfl (by decide) rfl rfl ?_
                refine G_goto 10 d_Lat_insertNext_69 rfl ?_
                exact ih2
      have ih3 := L2 200 (Nat.le_refl _) ((inF c (B, N)).1 c) (inF c (B, N)).2 rfl
      rw [upn_self, Nat.sub_self] at ih3
      refine G_iload1 3 d_Lat_insertNext_2 rfl ?_
      refine G_bipushN 10 5 d_Lat_insertNext_3 rfl rfl ?_
      first | refine G_icgeN 100 8 d_Lat_insertNext_5 rfl rfl (by omega) (by omega) (fun h5 => ?_) (fun h5 => ?_) | refine G_icge 100 8 d_Lat_insertNext_5 rfl rfl (fun h5 => ?_) (fun h5 => ?_)
      · omega
      · refine G_iconstN 0 9 d_Lat_insertNext_8 rfl rfl ?_
        refine G_istore2 10 d_Lat_insertNext_9 rfl (by decide) rfl ?_
        exact ih3
  refine G_iconstN 0 1 d_Lat_insertNext_0 rfl rfl ?_
  refine G_istore1 2 d_Lat_insertNext_1 rfl (by decide) rfl ?_
  exact L 0 (Nat.zero_le _) _
theorem raF_o {B : LM} {a : Nat} : ∀ q c, c ≠ a → raF B a q c = B c
  | 0, _, _ => rfl
  | q + 1, c, h => by
    rw [raF]
    split
    · rw [upn_ne _ _ h]; exact raF_o q c h
    · exact raF_o q c h
theorem s_latRed {V : GV} {d l : Nat} {B : LM} {N : Nat → Int64} {X : XT} {FI AI : FT} {AL : LT} (h : LAo X l) : G V m_Lat_reduceAll (d + 1) 0 [some (.ref l), none, none] [] X FI AI (lyB AL l B N) (Pd none X FI AI (lyB AL l (rlF B 10) N)) := by
  obtain ⟨o1, o2, o3, o4, o5, o6⟩ := id h
  have L : ∀ a, a ≤ 10 → ∀ l2 : Option Value, G V m_Lat_reduceAll (d + 1) 2 [some (.ref l), some (.int (nI a)), l2] [] X FI AI (lyB AL l (rlF B a) N) (Pd none X FI AI (lyB AL l (rlF B 10) N)) := by
    refine upto ?_ ?_
    · intro l2
      refine G_iload1 3 d_Lat_reduceAll_2 rfl ?_
      refine G_bipushN 10 5 d_Lat_reduceAll_3 rfl rfl ?_
      first | refine G_icgeN 77 8 d_Lat_reduceAll_5 rfl rfl (by omega) (by omega) (fun h5 => ?_) (fun h5 => ?_) | refine G_icge 77 8 d_Lat_reduceAll_5 rfl rfl (fun h5 => ?_) (fun h5 => ?_)
      · refine G_vret d_Lat_reduceAll_77 rfl ?_
        exact Pd.rf
      · omega
    · intro a ha ih l2
      obtain ⟨aa, sa⟩ := o6 a ha
      have L2 : ∀ q, q ≤ 9 - a → G V m_Lat_reduceAll (d + 1) 12 [some (.ref l), some (.int (nI a)), some (.int (nI (a + 1 + q)))] [] X FI AI (lyB AL l (raF (rlF B a) a q) N) (Pd none X FI AI (lyB AL l (rlF B 10) N)) := by
        refine upto ?_ ?_
        · refine G_iload2 13 d_Lat_reduceAll_12 rfl ?_
          refine G_bipushN 10 15 d_Lat_reduceAll_13 rfl rfl ?_
          first | refine G_icgeN 71 18 d_Lat_reduceAll_15 rfl rfl (by omega) (by omega) (fun h15 => ?_) (fun h15 => ?_) | refine G_icge 71 18 d_Lat_reduceAll_15 rfl rfl (fun h15 => ?_) (fun h15 => ?_)
          · first | refine G_iincN1 74 d_Lat_reduceAll_71 rfl (by decide) rfl ?_ | refine G_iinc1 _ 74 d_Lat_reduceAll_71 rfl (by decide) rfl rfl ?_
            refine G_goto 2 d_Lat_reduceAll_74 rfl ?_
            exact ih _
          · omega
        · intro q hq ihq
          have hc : a + 1 + q < 10 := by omega
          obtain ⟨ac, sc⟩ := o6 (a + 1 + q) hc
          have ec : lyB AL l (raF (rlF B a) a q) N (l + 2 + (a + 1 + q)) (a + 1 + q) = raF (rlF B a) a q (a + 1 + q) (a + 1 + q) := by rw [lyB_r hc]
          have ea : lyB AL l (raF (rlF B a) a q) N (l + 2 + a) (a + 1 + q) = raF (rlF B a) a q a (a + 1 + q) := by rw [lyB_r ha]
          rw [raF] at ihq
          rw [show a + 1 + (q + 1) = a + 1 + q + 1 by omega] at ihq
          by_cases hz : 0 < raF (rlF B a) a q (a + 1 + q) (a + 1 + q)
          · rw [if_pos hz] at ihq
            have hnz : ¬ raF (rlF B a) a q (a + 1 + q) (a + 1 + q) = 0 := fun e => by rw [e] at hz; exact absurd hz (by decide)
            have hsb := s_latSub (V := V) (d := d) (t := lfd (raF (rlF B a) a q a (a + 1 + q)) (raF (rlF B a) a q (a + 1 + q) (a + 1 + q))) (FI := FI) (AI := AI) (AL := lyB AL l (raF (rlF B a) a q) N) sa sc (by omega)
            rw [lyB_sr ha, lyB_r ha, lyB_r hc] at hsb
            refine G_iload2 13 d_Lat_reduceAll_12 rfl ?_
            refine G_bipushN 10 15 d_Lat_reduceAll_13 rfl rfl ?_
            first | refine G_icgeN 71 18 d_Lat_reduceAll_15 rfl rfl (by omega) (by omega) (fun h15 => ?_) (fun h15 => ?_) | refine G_icge 71 18 d_Lat_reduceAll_15 rfl rfl (fun h15 => ?_) (fun h15 => ?_)
            · omega
            · refine G_aload0 19 d_Lat_reduceAll_18 rfl ?_
              refine G_getR 22 d_Lat_reduceAll_19 rfl f_Lat_13 rfl (by assumption) (by assumption) ?_
              refine G_iload2 23 d_Lat_reduceAll_22 rfl ?_
              refine G_aaload 24 d_Lat_reduceAll_23 rfl (by assumption) (by decide) (by decide) (ix_nI (by omega) (by omega)) (by assumption) ?_
              refine G_iload2 25 d_Lat_reduceAll_24 rfl ?_
              refine G_laloadv 26 d_Lat_reduceAll_25 rfl (by assumption) (ix_nI (by omega) (by omega)) ec ?_
              refine G_lconst 0 27 d_Lat_reduceAll_26 rfl rfl ?_
              refine G_lcle 65 31 d_Lat_reduceAll_27 d_Lat_reduceAll_28 rfl rfl (fun h27 => ?_) (fun h27 => ?_)
              · exact absurd hz h27
              · refine G_aload0 32 d_Lat_reduceAll_31 rfl ?_
                refine G_getR 35 d_Lat_reduceAll_32 rfl f_Lat_13 rfl (by assumption) (by assumption) ?_
                refine G_iload1 36 d_Lat_reduceAll_35 rfl ?_
                refine G_aaload 37 d_Lat_reduceAll_36 rfl (by assumption) (by decide) (by decide) (ix_nI (by omega) (by omega)) (by assumption) ?_
                refine G_aload0 38 d_Lat_reduceAll_37 rfl ?_
                refine G_getR 41 d_Lat_reduceAll_38 rfl f_Lat_13 rfl (by assumption) (by assumption) ?_
                refine G_iload2 42 d_Lat_reduceAll_41 rfl ?_
                refine G_aaload 43 d_Lat_reduceAll_42 rfl (by assumption) (by decide) (by decide) (ix_nI (by omega) (by omega)) (by assumption) ?_
                refine G_aload0 44 d_Lat_reduceAll_43 rfl ?_
                refine G_getR 47 d_Lat_reduceAll_44 rfl f_Lat_13 rfl (by assumption) (by assumption) ?_
                refine G_iload1 48 d_Lat_reduceAll_47 rfl ?_
                refine G_aaload 49 d_Lat_reduceAll_48 rfl (by assumption) (by decide) (by decide) (ix_nI (by omega) (by omega)) (by assumption) ?_
                refine G_iload2 50 d_Lat_reduceAll_49 rfl ?_
                refine G_laloadv 51 d_Lat_reduceAll_50 rfl (by assumption) (ix_nI (by omega) (by omega)) ea ?_
                refine G_aload0 52 d_Lat_reduceAll_51 rfl ?_
                refine G_getR 55 d_Lat_reduceAll_52 rfl f_Lat_13 rfl (by assumption) (by assumption) ?_
                refine G_iload2 56 d_Lat_reduceAll_55 rfl ?_
                refine G_aaload 57 d_Lat_reduceAll_56 rfl (by assumption) (by decide) (by decide) (ix_nI (by omega) (by omega)) (by assumption) ?_
                refine G_iload2 58 d_Lat_reduceAll_57 rfl ?_
                refine G_laloadv 59 d_Lat_reduceAll_58 rfl (by assumption) (ix_nI (by omega) (by omega)) ec ?_
                refine G_invS2d 62 d_Lat_reduceAll_59 rfl e_Lat_57 M_Math_floorDiv (Nat.le_of_ble_eq_true rfl) (Nat.le_of_ble_eq_true rfl) rfl (s_floorDiv hnz) ?_
                refine G_invS3v 65 d_Lat_reduceAll_62 rfl e_Lat_46 M_Lat_subtract (Nat.le_of_ble_eq_true rfl) (Nat.le_of_ble_eq_true rfl) rfl (hsb) ?_
                first | refine G_iincN2 68 d_Lat_reduceAll_65 rfl (by decide) rfl ?_ | refine G_iinc2 _ 68 d_Lat_reduceAll_65 rfl (by decide) rfl rfl ?_
                refine G_goto 12 d_Lat_reduceAll_68 rfl ?_
                exact ihq
          · rw [if_neg hz] at ihq
            refine G_iload2 13 d_Lat_reduceAll_12 rfl ?_
            refine G_bipushN 10 15 d_Lat_reduceAll_13 rfl rfl ?_
            first | refine G_icgeN 71 18 d_Lat_reduceAll_15 rfl rfl (by omega) (by omega) (fun h15 => ?_) (fun h15 => ?_) | refine G_icge 71 18 d_Lat_reduceAll_15 rfl rfl (fun h15 => ?_) (fun h15 => ?_)
            · omega
            · refine G_aload0 19 d_Lat_reduceAll_18 rfl ?_
              refine G_getR 22 d_Lat_reduceAll_19 rfl f_Lat_13 rfl (by assumption) (by assumption) ?_
              refine G_iload2 23 d_Lat_reduceAll_22 rfl ?_
              refine G_aaload 24 d_Lat_reduceAll_23 rfl (by assumption) (by decide) (by decide) (ix_nI (by omega) (by omega)) (by assumption) ?_
              refine G_iload2 25 d_Lat_reduceAll_24 rfl ?_
              refine G_laloadv 26 d_Lat_reduceAll_25 rfl (by assumption) (ix_nI (by omega) (by omega)) ec ?_
              refine G_lconst 0 27 d_Lat_reduceAll_26 rfl rfl ?_
              refine G_lcle 65 31 d_Lat_reduceAll_27 d_Lat_reduceAll_28 rfl rfl (fun h27 => ?_) (fun h27 => ?_)
              · first | refine G_iincN2 68 d_Lat_reduceAll_65 rfl (by decide) rfl ?_ | refine G_iinc2 _ 68 d_Lat_reduceAll_65 rfl (by decide) rfl rfl ?_
                refine G_goto 12 d_Lat_reduceAll_68 rfl ?_
                exact ihq
              · exact absurd h27 hz
      refine G_iload1 3 d_Lat_reduceAll_2 rfl ?_
      refine G_bipushN 10 5 d_Lat_reduceAll_3 rfl rfl ?_
      first | refine G_icgeN 77 8 d_Lat_reduceAll_5 rfl rfl (by omega) (by omega) (fun h5 => ?_) (fun h5 => ?_) | refine G_icge 77 8 d_Lat_reduceAll_5 rfl rfl (fun h5 => ?_) (fun h5 => ?_)
      · omega
      · refine G_iload1 9 d_Lat_reduceAll_8 rfl ?_
        refine G_iconstN 1 10 d_Lat_reduceAll_9 rfl rfl ?_
        first | refine G_iaddN 11 d_Lat_reduceAll_10 rfl ?_ | refine G_iadd 11 d_Lat_reduceAll_10 rfl ?_
        refine G_istore2 12 d_Lat_reduceAll_11 rfl (by decide) rfl ?_
        exact L2 0 (Nat.zero_le _)
  refine G_iconstN 0 1 d_Lat_reduceAll_0 rfl rfl ?_
  refine G_istore1 2 d_Lat_reduceAll_1 rfl (by decide) rfl ?_
  exact L 0 (Nat.zero_le _) _
