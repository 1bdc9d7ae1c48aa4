/-! ===== GENERATORS of the class: what is put, copied, worth ===== -/
theorem s_append {V : GV} {d g n t p q : Nat} {ga po qo : Nat → Nat} {X : XT} {FI AI : FT} {AL : LT} (h : GO X g ga po qo) (hP : PO X p q) (hq : ∀ i, i < 7 → qo i ≠ q) (hn : FI g 0 = nI n) (hn7 : n < 7) (ht : t < 84) :
    G V m_Gen_append (d + 2) 0 [some (.ref g), some (.ref p), some (.int (nI t))] [] X FI AI AL (Pd none X (u2 FI g 0 (nI (n + 1))) (u2 (u2 (u2 AI (ga 2) n (nI t)) (ga 4) n (nI 0)) (ga 5) n (nI 0)) (u2 (sr AL (qo n) (AL q)) (ga 3) n (norm (AL q)))) := by
  obtain ⟨h1, f1, f2, f3, f4, f5, f6, f7, f8, s1, s2, s3, s4, s5, s6, s7, s8, hp, -⟩ := h
  have hP1 := hP.1
  obtain ⟨a1, a2⟩ := hp n hn7
  have a3 := a2.1
  have e : sr AL (qo n) (AL q) q = AL q := sr_ne _ _ (fun e => hq n hn7 e.symm)
  refine G_aload0 1 d_Gen_append_0 rfl ?_
  refine G_getR 4 d_Gen_append_1 rfl f_Gen_17 rfl (by assumption) (by assumption) ?_
  refine G_aload0 5 d_Gen_append_4 rfl ?_
  refine G_getIv 8 d_Gen_append_5 rfl f_Gen_9 rfl (by assumption) hn ?_
  refine G_aaload 9 d_Gen_append_8 rfl (by assumption) (by decide) (by decide) (ix_nI (by omega) (by omega)) (by assumption) ?_
  refine G_aload1 10 d_Gen_append_9 rfl ?_
  refine G_invV1v 13 d_Gen_append_10 rfl e_Gen_49 M_Poly_becomeLike rfl (by assumption) (Nat.le_of_ble_eq_true rfl) (Nat.le_of_ble_eq_true rfl) rfl (s_becomeLike (by assumption) (by assumption)) ?_
  refine G_aload0 14 d_Gen_append_13 rfl ?_
  refine G_getR 17 d_Gen_append_14 rfl f_Gen_21 rfl (by assumption) (by assumption) ?_
  refine G_aload0 18 d_Gen_append_17 rfl ?_
  refine G_getIv 21 d_Gen_append_18 rfl f_Gen_9 rfl (by assumption) hn ?_
  refine G_iload2 22 d_Gen_append_21 rfl ?_
  refine G_iastore 23 d_Gen_append_22 rfl (by assumption) (ix_nI (by omega) (by omega)) ?_
  refine G_aload0 24 d_Gen_append_23 rfl ?_
  refine G_getR 27 d_Gen_append_24 rfl f_Gen_25 rfl (by assumption) (by assumption) ?_
  refine G_aload0 28 d_Gen_append_27 rfl ?_
  refine G_getIv 31 d_Gen_append_28 rfl f_Gen_9 rfl (by assumption) hn ?_
  refine G_aload1 32 d_Gen_append_31 rfl ?_
  refine G_invV0d 35 d_Gen_append_32 rfl e_Gen_62 M_Poly_normNow rfl (by assumption) (Nat.le_of_ble_eq_true rfl) (Nat.le_of_ble_eq_true rfl) rfl (s_norm' (by assumption)) ?_
  rw [e]
  refine G_lastore 36 d_Gen_append_35 rfl (by assumption) (ix_nI (by omega) (by omega)) ?_
  refine G_aload0 37 d_Gen_append_36 rfl ?_
  refine G_getR 40 d_Gen_append_37 rfl f_Gen_29 rfl (by assumption) (by assumption) ?_
  refine G_aload0 41 d_Gen_append_40 rfl ?_
  refine G_getIv 44 d_Gen_append_41 rfl f_Gen_9 rfl (by assumption) hn ?_
  refine G_iconstN 0 45 d_Gen_append_44 rfl rfl ?_
  refine G_iastore 46 d_Gen_append_45 rfl (by assumption) (ix_nI (by omega) (by omega)) ?_
  refine G_aload0 47 d_Gen_append_46 rfl ?_
  refine G_getR 50 d_Gen_append_47 rfl f_Gen_32 rfl (by assumption) (by assumption) ?_
  refine G_aload0 51 d_Gen_append_50 rfl ?_
  refine G_getIv 54 d_Gen_append_51 rfl f_Gen_9 rfl (by assumption) hn ?_
  refine G_iconstN 0 55 d_Gen_append_54 rfl rfl ?_
  refine G_iastore 56 d_Gen_append_55 rfl (by assumption) (ix_nI (by omega) (by omega)) ?_
  refine G_aload0 57 d_Gen_append_56 rfl ?_
  refine G_dup 58 d_Gen_append_57 rfl rfl ?_
  refine G_getIv 61 d_Gen_append_58 rfl f_Gen_9 rfl (by assumption) hn ?_
  refine G_iconstN 1 62 d_Gen_append_61 rfl rfl ?_
  first | refine G_iaddN 63 d_Gen_append_62 rfl ?_ | refine G_iadd 63 d_Gen_append_62 rfl ?_
  refine G_putI 66 d_Gen_append_63 rfl f_Gen_9 rfl (by intro C T N h; cases h; rfl) (by assumption) rfl rfl ?_
  refine G_vret d_Gen_append_66 rfl ?_
  exact Pd.rf
/-- the height by the ROW r of one PART more -/
def hmx (ht : Nat → Nat) (r h0 : Nat) : Nat → Nat
  | 0 => h0
  | k + 1 => if 0 < pw r k then max (hmx ht r h0 k) (ht k + 1) else hmx ht r h0 k
theorem imax_nI {a b : Nat} (ha : a < 2 ^ 31) (hb : b < 2 ^ 31) : imax (nI a) (nI b) = nI (max a b) := by
  unfold imax
  by_cases h : a < b
  · rw [if_pos (nI_lt h hb), Nat.max_eq_right (by omega)]
  · rw [if_neg (nI_nlt (by omega) ha), Nat.max_eq_left (by omega)]
theorem hmx_le {ht : Nat → Nat} {r h0 B : Nat} (h1 : h0 ≤ B) : ∀ k, (∀ i, i < k → ht i + 1 ≤ B) → hmx ht r h0 k ≤ B
  | 0, _ => h1
  | k + 1, h => by
    have := hmx_le (r := r) h1 k (fun i hi => h i (by omega))
    have := h k (by omega)
    rw [hmx]
    split
    · exact Nat.max_le.mpr ⟨by assumption, by assumption⟩
    · assumption
theorem s_appendPart {V : GV} {d g gi c r h0 : Nat} {v : Int64} {ga po qo ht : Nat → Nat} {X : XT} {FI AI : FT} {AL : LT} (h : GO X g ga po qo) (hg : gi < 7) (hc : AI (ga 5) gi = nI c) (hc2 : c < 86) (hr : r < 2 ^ 31) (hh : ∀ i, i < gi → AI (ga 4) i = nI (ht i) ∧ ht i ≤ 100) (hh0 : AI (ga 4) gi = nI h0) (hh1 : h0 ≤ 101) :
    G V m_Gen_appendPart (d + 1) 0 [some (.ref g), some (.int (nI gi)), some (.long v), none, some (.int (nI r)), none, none] [] X FI AI AL (Pd none X FI (u2 (u2 (u2 AI (ga 7) (gi * 86 + c) (nI r)) (ga 5) gi (nI (c + 1))) (ga 4) gi (nI (hmx ht r h0 gi))) (u2 AL (ga 6) (gi * 86 + c) v)) := by
  obtain ⟨h1, f1, f2, f3, f4, f5, f6, f7, f8, s1, s2, s3, s4, s5, s6, s7, s8, hp, -, -, -, n24, n25, n27, n45, n47, n57⟩ := h
  have hb : ∀ k, k ≤ gi → hmx ht r h0 k ≤ 101 := fun k hk => hmx_le hh1 k (fun i hi => by have := (hh i (by omega)).2; omega)
  have L : ∀ k, k ≤ gi → G V m_Gen_appendPart (d + 1) 54 [some (.ref g), some (.int (nI gi)), some (.long v), none, some (.int (nI r)), some (.int (nI (gi * 86 + c))), some (.int (nI k))] [] X FI (u2 (u2 (u2 AI (ga 7) (gi * 86 + c) (nI r)) (ga 5) gi (nI (c + 1))) (ga 4) gi (nI (hmx ht r h0 k))) (u2 AL (ga 6) (gi * 86 + c) v) (Pd none X FI (u2 (u2 (u2 AI (ga 7) (gi * 86 + c) (nI r)) (ga 5) gi (nI (c + 1))) (ga 4) gi (nI (hmx ht r h0 gi))) (u2 AL (ga 6) (gi * 86 + c) v)) := by
    refine upto ?_ ?_
    · refine G_iload6 56 d_Gen_appendPart_54 rfl ?_
      refine G_iload1 57 d_Gen_appendPart_56 rfl ?_
      first | refine G_icgeN 100 60 d_Gen_appendPart_57 rfl rfl (by omega) (by omega) (fun h57 => ?_) (fun h57 => ?_) | refine G_icge 100 60 d_Gen_appendPart_57 rfl rfl (fun h57 => ?_) (fun h57 => ?_)
      · refine G_vret d_Gen_appendPart_100 rfl ?_
        exact Pd.rf
      · omega
    · intro k hk ih
      have hk1 := hb k (by omega)
      obtain ⟨k2, k3⟩ := hh k hk
      refine G_iload6 56 d_Gen_appendPart_54 rfl ?_
      refine G_iload1 57 d_Gen_appendPart_56 rfl ?_
      first | refine G_icgeN 100 60 d_Gen_appendPart_57 rfl rfl (by omega) (by omega) (fun h57 => ?_) (fun h57 => ?_) | refine G_icge 100 60 d_Gen_appendPart_57 rfl rfl (fun h57 => ?_) (fun h57 => ?_)
      · omega
      · refine G_iload4 62 d_Gen_appendPart_60 rfl ?_
        refine G_iload6 64 d_Gen_appendPart_62 rfl ?_
        refine G_invS2d 67 d_Gen_appendPart_64 rfl e_Gen_45 M_Gen_power (Nat.le_of_ble_eq_true rfl) (Nat.le_of_ble_eq_true rfl) rfl (s_power (by omega) (by omega)) ?_
        refine G_ifle 94 70 d_Gen_appendPart_67 rfl rfl (fun h67 => ?_) (fun h67 => ?_)
        · first | refine G_iincN6 97 d_Gen_appendPart_94 rfl (by decide) rfl ?_ | refine G_iinc6 _ 97 d_Gen_appendPart_94 rfl (by decide) rfl rfl ?_
          refine G_goto 54 d_Gen_appendPart_97 rfl ?_
          have e : ¬ 0 < pw r k := fun e => nI_nle e (by have := pw_lt r k; omega) h67
          simp only [hmx, e, if_false] at ih
          exact ih
        · have e : 0 < pw r k := by
            rcases Nat.eq_zero_or_pos (pw r k) with e | e
            · exact absurd (by rw [e]; decide) h67
            · exact e
          simp only [hmx, e, if_true] at ih
          refine G_aload0 71 d_Gen_appendPart_70 rfl ?_
          refine G_getR 74 d_Gen_appendPart_71 rfl f_Gen_29 rfl (by assumption) (by assumption) ?_
          refine G_iload1 75 d_Gen_appendPart_74 rfl ?_
          refine G_aload0 76 d_Gen_appendPart_75 rfl ?_
          refine G_getR 79 d_Gen_appendPart_76 rfl f_Gen_29 rfl (by assumption) (by assumption) ?_
          refine G_iload1 80 d_Gen_appendPart_79 rfl ?_
          refine G_ialoadv 81 d_Gen_appendPart_80 rfl (by assumption) (ix_nI (by omega) (by omega)) (u2_at _ _ _ _) ?_
          refine G_aload0 82 d_Gen_appendPart_81 rfl ?_
          refine G_getR 85 d_Gen_appendPart_82 rfl f_Gen_29 rfl (by assumption) (by assumption) ?_
          refine G_iload6 87 d_Gen_appendPart_85 rfl ?_
          refine G_ialoadv 88 d_Gen_appendPart_87 rfl (by assumption) (ix_nI (by omega) (by omega)) (by rw [u2_ix _ _ (by omega), u2_ne _ _ _ _ n45, u2_ne _ _ _ _ n47]; exact k2 : _ = nI (ht k)) ?_
          refine G_iconstN 1 89 d_Gen_appendPart_88 rfl rfl ?_
          first | refine G_iaddN 90 d_Gen_appendPart_89 rfl ?_ | refine G_iadd 90 d_Gen_appendPart_89 rfl ?_
          refine G_invS2d 93 d_Gen_appendPart_90 rfl e_Gen_79 M_Math_max_III (Nat.le_of_ble_eq_true rfl) (Nat.le_of_ble_eq_true rfl) rfl (s_imax) ?_
          rw [imax_nI (by omega) (by omega)]
          refine G_iastore 94 d_Gen_appendPart_93 rfl (by assumption) (ix_nI (by omega) (by omega)) ?_
          first | refine G_iincN6 97 d_Gen_appendPart_94 rfl (by decide) rfl ?_ | refine G_iinc6 _ 97 d_Gen_appendPart_94 rfl (by decide) rfl rfl ?_
          refine G_goto 54 d_Gen_appendPart_97 rfl ?_
          have e9 : u2 (u2 (u2 (u2 AI (ga 7) (gi * 86 + c) (nI r)) (ga 5) gi (nI (c + 1))) (ga 4) gi (nI (hmx ht r h0 k))) (ga 4) gi (nI (max (hmx ht r h0 k) (ht k + 1))) = u2 (u2 (u2 AI (ga 7) (gi * 86 + c) (nI r)) (ga 5) gi (nI (c + 1))) (ga 4) gi (nI (max (hmx ht r h0 k) (ht k + 1))) := by
            funext b j
            by_cases eb : b = ga 4 <;> by_cases ej : j = gi <;> simp [u2, eb, ej]
          rw [e9]
          exact ih
  refine G_aload0 1 d_Gen_appendPart_0 rfl ?_
  refine G_getR 4 d_Gen_appendPart_1 rfl f_Gen_32 rfl (by assumption) (by assumption) ?_
  refine G_iload1 5 d_Gen_appendPart_4 rfl ?_
  refine G_ialoadv 6 d_Gen_appendPart_5 rfl (by assumption) (ix_nI (by omega) (by omega)) hc ?_
  refine G_bipushN 86 8 d_Gen_appendPart_6 rfl rfl ?_
  first | refine G_icltN 12 11 d_Gen_appendPart_8 rfl rfl (by omega) (by omega) (fun h8 => ?_) (fun h8 => ?_) | refine G_iclt 12 11 d_Gen_appendPart_8 rfl rfl (fun h8 => ?_) (fun h8 => ?_)
  · refine G_iload1 13 d_Gen_appendPart_12 rfl ?_
    refine G_aload0 14 d_Gen_appendPart_13 rfl ?_
    refine G_getR 17 d_Gen_appendPart_14 rfl f_Gen_32 rfl (by assumption) (by assumption) ?_
    refine G_iload1 18 d_Gen_appendPart_17 rfl ?_
    refine G_ialoadv 19 d_Gen_appendPart_18 rfl (by assumption) (ix_nI (by omega) (by omega)) hc ?_
    refine G_invS2d 22 d_Gen_appendPart_19 rfl e_Gen_53 M_Gen_partPlace (Nat.le_of_ble_eq_true rfl) (Nat.le_of_ble_eq_true rfl) rfl (s_partPlace) ?_
    refine G_istore5 24 d_Gen_appendPart_22 rfl (by decide) rfl ?_
    refine G_aload0 25 d_Gen_appendPart_24 rfl ?_
    refine G_getR 28 d_Gen_appendPart_25 rfl f_Gen_35 rfl (by assumption) (by assumption) ?_
    refine G_iload5 30 d_Gen_appendPart_28 rfl ?_
    refine G_lload2 31 d_Gen_appendPart_30 rfl ?_
    refine G_lastore 32 d_Gen_appendPart_31 rfl (by assumption) (ix_nI (by omega) (by omega)) ?_
    refine G_aload0 33 d_Gen_appendPart_32 rfl ?_
    refine G_getR 36 d_Gen_appendPart_33 rfl f_Gen_38 rfl (by assumption) (by assumption) ?_
    refine G_iload5 38 d_Gen_appendPart_36 rfl ?_
    refine G_iload4 40 d_Gen_appendPart_38 rfl ?_
    refine G_iastore 41 d_Gen_appendPart_40 rfl (by assumption) (ix_nI (by omega) (by omega)) ?_
    refine G_aload0 42 d_Gen_appendPart_41 rfl ?_
    refine G_getR 45 d_Gen_appendPart_42 rfl f_Gen_32 rfl (by assumption) (by assumption) ?_
    refine G_iload1 46 d_Gen_appendPart_45 rfl ?_
    refine G_dup2 47 d_Gen_appendPart_46 rfl rfl rfl ?_
    refine G_ialoadv 48 d_Gen_appendPart_47 rfl (by assumption) (ix_nI (by omega) (by omega)) (by rw [u2_ne _ _ _ _ n57]; exact hc : _ = nI c) ?_
    refine G_iconstN 1 49 d_Gen_appendPart_48 rfl rfl ?_
    first | refine G_iaddN 50 d_Gen_appendPart_49 rfl ?_ | refine G_iadd 50 d_Gen_appendPart_49 rfl ?_
    refine G_iastore 51 d_Gen_appendPart_50 rfl (by assumption) (ix_nI (by omega) (by omega)) ?_
    refine G_iconstN 0 52 d_Gen_appendPart_51 rfl rfl ?_
    refine G_istore6 54 d_Gen_appendPart_52 rfl (by decide) rfl ?_
    have := L 0 (by omega)
    rw [hmx] at this
    have e9 : u2 (u2 (u2 AI (ga 7) (gi * 86 + c) (nI r)) (ga 5) gi (nI (c + 1))) (ga 4) gi (nI h0) = u2 (u2 AI (ga 7) (gi * 86 + c) (nI r)) (ga 5) gi (nI (c + 1)) := by
      funext b j
      by_cases eb : b = ga 4
      · subst eb
        by_cases ej : j = gi
        · subst ej
          rw [u2_at, u2_ne _ _ _ _ n45, u2_ne _ _ _ _ n47, hh0]
        · rw [u2_ix _ _ ej]
      · rw [u2_ne _ _ _ _ eb]
    rw [e9] at this
    exact this
  · omega
def pgc (pn : Nat → Nat) : Nat → Nat
  | 0 => 0
  | k + 1 => pgc pn k + (if 0 < pn k then 1 else 0)
theorem s_grownCount {V : GV} {d g n : Nat} {ga po qo pn : Nat → Nat} {X : XT} {FI AI : FT} {AL : LT} (h : GO X g ga po qo) (hn : FI g 0 = nI n) (hn7 : n ≤ 7) (hp : ∀ i, i < n → AI (ga 5) i = nI (pn i) ∧ pn i < 2 ^ 31) : G V m_Gen_grownCount (d + 1) 0 [some (.ref g), none, none] [] X FI AI AL (Pd (some (.int (nI (pgc pn n)))) X FI AI AL) := by
  have h1 := h.1
  have L : ∀ k, k ≤ n → G V m_Gen_grownCount (d + 1) 4 [some (.ref g), some (.int (nI (pgc pn k))), some (.int (nI k))] [] X FI AI AL (Pd (some (.int (nI (pgc pn n)))) X FI AI AL) := by
    refine upto ?_ ?_
    · refine G_iload2 5 d_Gen_grownCount_4 rfl ?_
      refine G_aload0 6 d_Gen_grownCount_5 rfl ?_
      refine G_getIv 9 d_Gen_grownCount_6 rfl f_Gen_9 rfl (by assumption) hn ?_
      first | refine G_icgeN 34 12 d_Gen_grownCount_9 rfl rfl (by omega) (by omega) (fun h9 => ?_) (fun h9 => ?_) | refine G_icge 34 12 d_Gen_grownCount_9 rfl rfl (fun h9 => ?_) (fun h9 => ?_)
      · refine G_iload1 35 d_Gen_grownCount_34 rfl ?_
        refine G_iret d_Gen_grownCount_35 rfl ?_
        exact Pd.rf
      · omega
    · intro k hk ih
      obtain ⟨e1, e2⟩ := hp k hk
      refine G_iload2 5 d_Gen_grownCount_4 rfl ?_
      refine G_aload0 6 d_Gen_grownCount_5 rfl ?_
      refine G_getIv 9 d_Gen_grownCount_6 rfl f_Gen_9 rfl (by assumption) hn ?_
      first | refine G_icgeN 34 12 d_Gen_grownCount_9 rfl rfl (by omega) (by omega) (fun h9 => ?_) (fun h9 => ?_) | refine G_icge 34 12 d_Gen_grownCount_9 rfl rfl (fun h9 => ?_) (fun h9 => ?_)
      · omega
      · refine G_iload1 13 d_Gen_grownCount_12 rfl ?_
        refine G_aload0 14 d_Gen_grownCount_13 rfl ?_
        refine G_iload2 15 d_Gen_grownCount_14 rfl ?_
        refine G_invV1b 18 d_Gen_grownCount_15 rfl e_Gen_84 M_Gen_isGrown rfl (by assumption) (Nat.le_of_ble_eq_true rfl) (Nat.le_of_ble_eq_true rfl) rfl (s_isGrown h (by omega) e1 e2) (fun h15 => G_ifeq1 21 d_Gen_grownCount_18 25 rfl rfl ?_) (fun h15 => G_ifeq0 21 d_Gen_grownCount_18 25 rfl rfl ?_)
        · refine G_iconstN 1 22 d_Gen_grownCount_21 rfl rfl ?_
          refine G_goto 26 d_Gen_grownCount_22 rfl ?_
          first | refine G_iaddN 27 d_Gen_grownCount_26 rfl ?_ | refine G_iadd 27 d_Gen_grownCount_26 rfl ?_
          refine G_istore1 28 d_Gen_grownCount_27 rfl (by decide) rfl ?_
          first | refine G_iincN2 31 d_Gen_grownCount_28 rfl (by decide) rfl ?_ | refine G_iinc2 _ 31 d_Gen_grownCount_28 rfl (by decide) rfl rfl ?_
          refine G_goto 4 d_Gen_grownCount_31 rfl ?_
          simp only [pgc, h15, if_true] at ih
          exact ih
        · refine G_iconstN 0 26 d_Gen_grownCount_25 rfl rfl ?_
          first | refine G_iaddN 27 d_Gen_grownCount_26 rfl ?_ | refine G_iadd 27 d_Gen_grownCount_26 rfl ?_
          refine G_istore1 28 d_Gen_grownCount_27 rfl (by decide) rfl ?_
          first | refine G_iincN2 31 d_Gen_grownCount_28 rfl (by decide) rfl ?_ | refine G_iinc2 _ 31 d_Gen_grownCount_28 rfl (by decide) rfl rfl ?_
          refine G_goto 4 d_Gen_grownCount_31 rfl ?_
          simp only [pgc, h15, if_false] at ih
          exact ih
  refine G_iconstN 0 1 d_Gen_grownCount_0 rfl rfl ?_
  refine G_istore1 2 d_Gen_grownCount_1 rfl (by decide) rfl ?_
  refine G_iconstN 0 3 d_Gen_grownCount_2 rfl rfl ?_
  refine G_istore2 4 d_Gen_grownCount_3 rfl (by decide) rfl ?_
  exact L 0 (by omega)
/-- a PART's worth, by the worths ws of those ahead: the first k of them -/
def ptw (c m : Nat) (ws P : Nat → Nat) : Nat → Nat
  | 0 => c
  | k + 1 => tp (ptw c m ws P k) (ws k) (P k) m
theorem ptw_lt {c m : Nat} {ws P : Nat → Nat} (h0 : 0 < m) (hc : c < m) : ∀ k, ptw c m ws P k < m
  | 0 => hc
  | k + 1 => tp_lt h0 (ptw_lt h0 hc k) _
def wop (cf : Nat → Int64) (rw_ : Nat → Nat) (ws : Nat → Nat) (gi m : Nat) : Nat → Nat
  | 0 => 0
  | k + 1 => (wop cf rw_ ws gi m k + ptw (md (cf k) m) m ws (pw (rw_ k)) gi) % m
theorem wop_lt {cf : Nat → Int64} {rw_ ws : Nat → Nat} {gi m : Nat} (h0 : 0 < m) : ∀ k, wop cf rw_ ws gi m k < m
  | 0 => h0
  | k + 1 => Nat.mod_lt _ h0
theorem md_lN {n m : Nat} (h : n < m) (hm : m < 2 ^ 63) : md (lN n) m = n := by
  unfold md
  rw [lN_ti (by omega), Int.emod_eq_of_lt (by omega) (by omega)]
  omega
theorem s_worthOfParts {V : GV} {d g gi m c : Nat} {ga po qo ws rw_ : Nat → Nat} {X : XT} {FI AI : FT} {AL : LT} (h : GO X g ga po qo) (hg : gi < 7) (h0 : 0 < m) (hm : m ≤ 1000000) (hc : AI (ga 5) gi = nI c) (hc2 : c ≤ 86) (hw : ∀ i, i < gi → AL (ga 8) i = lN (ws i) ∧ ws i < m) (hr : ∀ i, i < c → AI (ga 7) (gi * 86 + i) = nI (rw_ i) ∧ rw_ i < 2 ^ 31) :
    G V m_Gen_worthOfParts (d + 2) 0 [some (.ref g), some (.int (nI gi)), some (.int (nI m)), none, none, none, none, none, none, none] [] X FI AI AL (Pd (some (.long (lN (wop (fun i => AL (ga 6) (gi * 86 + i)) rw_ ws gi m c)))) X FI AI AL) := by
  obtain ⟨h1, f1, f2, f3, f4, f5, f6, f7, f8, s1, s2, s3, s4, s5, s6, s7, s8, hp, -⟩ := h
  have hml : (nI m).toInt64 = lN m := nI_l (by omega)
  have hm0 : ¬ lN m = 0 := lN_ne0 h0 (by omega)
  have L : ∀ k, k ≤ c → ∀ l6 l7 l8 l9 : Option Value, G V m_Gen_worthOfParts (d + 2) 5 [some (.ref g), some (.int (nI gi)), some (.int (nI m)), some (.long (lN (wop (fun i => AL (ga 6) (gi * 86 + i)) rw_ ws gi m k))), none, some (.int (nI k)), l6, l7, l8, l9] [] X FI AI AL (Pd (some (.long (lN (wop (fun i => AL (ga 6) (gi * 86 + i)) rw_ ws gi m c)))) X FI AI AL) := by
    refine upto ?_ ?_
    · intro l6 l7 l8 l9
      refine G_iload5 7 d_Gen_worthOfParts_5 rfl ?_
      refine G_aload0 8 d_Gen_worthOfParts_7 rfl ?_
      refine G_getR 11 d_Gen_worthOfParts_8 rfl f_Gen_32 rfl (by assumption) (by assumption) ?_
      refine G_iload1 12 d_Gen_worthOfParts_11 rfl ?_
      refine G_ialoadv 13 d_Gen_worthOfParts_12 rfl (by assumption) (ix_nI (by omega) (by omega)) hc ?_
      first | refine G_icgeN 94 16 d_Gen_worthOfParts_13 rfl rfl (by omega) (by omega) (fun h13 => ?_) (fun h13 => ?_) | refine G_icge 94 16 d_Gen_worthOfParts_13 rfl rfl (fun h13 => ?_) (fun h13 => ?_)
      · refine G_lload3 95 d_Gen_worthOfParts_94 rfl ?_
        refine G_lret d_Gen_worthOfParts_95 rfl ?_
        exact Pd.rf
      · omega
    · intro k hk ih l6 l7 l8 l9
      obtain ⟨r1, r2⟩ := hr k hk
      have hwl := wop_lt (cf := fun i => AL (ga 6) (gi * 86 + i)) (rw_ := rw_) (ws := ws) (gi := gi) h0 k
      have hcl := md_lt (AL (ga 6) (gi * 86 + k)) h0
      have hpl : ∀ j, ptw (md (AL (ga 6) (gi * 86 + k)) m) m ws (pw (rw_ k)) j < m := fun j => ptw_lt h0 hcl j
      have L2 : ∀ j, j ≤ gi → G V m_Gen_worthOfParts (d + 2) 41 [some (.ref g), some (.int (nI gi)), some (.int (nI m)), some (.long (lN (wop (fun i => AL (ga 6) (gi * 86 + i)) rw_ ws gi m k))), none, some (.int (nI k)), some (.int (nI (gi * 86 + k))), some (.long (lN (ptw (md (AL (ga 6) (gi * 86 + k)) m) m ws (pw (rw_ k)) j))), none, some (.int (nI j))] [] X FI AI AL (Pd (some (.long (lN (wop (fun i => AL (ga 6) (gi * 86 + i)) rw_ ws gi m c)))) X FI AI AL) := by
        refine upto ?_ ?_
        · have := hpl gi
          refine G_iload9 43 d_Gen_worthOfParts_41 rfl ?_
          refine G_iload1 44 d_Gen_worthOfParts_43 rfl ?_
          first | refine G_icgeN 80 47 d_Gen_worthOfParts_44 rfl rfl (by omega) (by omega) (fun h44 => ?_) (fun h44 => ?_) | refine G_icge 80 47 d_Gen_worthOfParts_44 rfl rfl (fun h44 => ?_) (fun h44 => ?_)
          · refine G_lload3 81 d_Gen_worthOfParts_80 rfl ?_
            refine G_lload7 83 d_Gen_worthOfParts_81 rfl ?_
            refine G_ladd 84 d_Gen_worthOfParts_83 rfl ?_
            refine G_iload2 85 d_Gen_worthOfParts_84 rfl ?_
            refine G_i2l 86 d_Gen_worthOfParts_85 rfl ?_
            rw [hml]
            refine G_lrem 87 d_Gen_worthOfParts_86 rfl (by assumption) ?_
            rw [lN_add, pk_lRem (by omega) h0 (by omega)]
            refine G_lstore3 88 d_Gen_worthOfParts_87 rfl (by decide) rfl ?_
            first | refine G_iincN5 91 d_Gen_worthOfParts_88 rfl (by decide) rfl ?_ | refine G_iinc5 _ 91 d_Gen_worthOfParts_88 rfl (by decide) rfl rfl ?_
            refine G_goto 5 d_Gen_worthOfParts_91 rfl ?_
            exact ih _ _ _ _
          · omega
        · intro j hj ih2
          obtain ⟨w1, w2⟩ := hw j hj
          have hj1 := hpl j
          have hpw := pw_lt (rw_ k) j
          refine G_iload9 43 d_Gen_worthOfParts_41 rfl ?_
          refine G_iload1 44 d_Gen_worthOfParts_43 rfl ?_
          first | refine G_icgeN 80 47 d_Gen_worthOfParts_44 rfl rfl (by omega) (by omega) (fun h44 => ?_) (fun h44 => ?_) | refine G_icge 80 47 d_Gen_worthOfParts_44 rfl rfl (fun h44 => ?_) (fun h44 => ?_)
          · omega
          · refine G_lload7 49 d_Gen_worthOfParts_47 rfl ?_
            refine G_aload0 50 d_Gen_worthOfParts_49 rfl ?_
            refine G_getR 53 d_Gen_worthOfParts_50 rfl f_Gen_41 rfl (by assumption) (by assumption) ?_
            refine G_iload9 55 d_Gen_worthOfParts_53 rfl ?_
            refine G_laloadv 56 d_Gen_worthOfParts_55 rfl (by assumption) (ix_nI (by omega) (by omega)) w1 ?_
            refine G_aload0 57 d_Gen_worthOfParts_56 rfl ?_
            refine G_getR 60 d_Gen_worthOfParts_57 rfl f_Gen_38 rfl (by assumption) (by assumption) ?_
            refine G_iload6 62 d_Gen_worthOfParts_60 rfl ?_
            refine G_ialoadv 63 d_Gen_worthOfParts_62 rfl (by assumption) (ix_nI (by omega) (by omega)) r1 ?_
            refine G_iload9 65 d_Gen_worthOfParts_63 rfl ?_
            refine G_invS2d 68 d_Gen_worthOfParts_65 rfl e_Gen_45 M_Gen_power (Nat.le_of_ble_eq_true rfl) (Nat.le_of_ble_eq_true rfl) rfl (s_power (by omega) (by omega)) ?_
            refine G_iload2 69 d_Gen_worthOfParts_68 rfl ?_
            refine G_invS4d 72 d_Gen_worthOfParts_69 rfl e_Gen_96 M_Poly_timesPower (Nat.le_of_ble_eq_true rfl) (Nat.le_of_ble_eq_true rfl) rfl (s_timesPower h0 hm hj1 (by omega)) ?_
            rw [md_lN w2 (by omega)]
            refine G_lstore7 74 d_Gen_worthOfParts_72 rfl (by decide) rfl ?_
            first | refine G_iincN9 77 d_Gen_worthOfParts_74 rfl (by decide) rfl ?_ | refine G_iinc9 _ 77 d_Gen_worthOfParts_74 rfl (by decide) rfl rfl ?_
            refine G_goto 41 d_Gen_worthOfParts_77 rfl ?_
            exact ih2
      refine G_iload5 7 d_Gen_worthOfParts_5 rfl ?_
      refine G_aload0 8 d_Gen_worthOfParts_7 rfl ?_
      refine G_getR 11 d_Gen_worthOfParts_8 rfl f_Gen_32 rfl (by assumption) (by assumption) ?_
      refine G_iload1 12 d_Gen_worthOfParts_11 rfl ?_
      refine G_ialoadv 13 d_Gen_worthOfParts_12 rfl (by assumption) (ix_nI (by omega) (by omega)) hc ?_
      first | refine G_icgeN 94 16 d_Gen_worthOfParts_13 rfl rfl (by omega) (by omega) (fun h13 => ?_) (fun h13 => ?_) | refine G_icge 94 16 d_Gen_worthOfParts_13 rfl rfl (fun h13 => ?_) (fun h13 => ?_)
      · omega
      · refine G_iload1 17 d_Gen_worthOfParts_16 rfl ?_
        refine G_iload5 19 d_Gen_worthOfParts_17 rfl ?_
        refine G_invS2d 22 d_Gen_worthOfParts_19 rfl e_Gen_53 M_Gen_partPlace (Nat.le_of_ble_eq_true rfl) (Nat.le_of_ble_eq_true rfl) rfl (s_partPlace) ?_
        refine G_istore6 24 d_Gen_worthOfParts_22 rfl (by decide) rfl ?_
        refine G_aload0 25 d_Gen_worthOfParts_24 rfl ?_
        refine G_getR 28 d_Gen_worthOfParts_25 rfl f_Gen_35 rfl (by assumption) (by assumption) ?_
        refine G_iload6 30 d_Gen_worthOfParts_28 rfl ?_
        refine G_laload 31 d_Gen_worthOfParts_30 rfl (by assumption) (ix_nI (by omega) (by omega)) ?_
        refine G_iload2 32 d_Gen_worthOfParts_31 rfl ?_
        refine G_i2l 33 d_Gen_worthOfParts_32 rfl ?_
        rw [hml]
        refine G_invS2d 36 d_Gen_worthOfParts_33 rfl e_Gen_92 M_Math_floorMod (Nat.le_of_ble_eq_true rfl) (Nat.le_of_ble_eq_true rfl) rfl (s_floorMod (by assumption)) ?_
        rw [lfm_md _ h0 (by omega)]
        refine G_lstore7 38 d_Gen_worthOfParts_36 rfl (by decide) rfl ?_
        refine G_iconstN 0 39 d_Gen_worthOfParts_38 rfl rfl ?_
        refine G_istore9 41 d_Gen_worthOfParts_39 rfl (by decide) rfl ?_
        exact L2 0 (by omega)
  refine G_lconst 0 1 d_Gen_worthOfParts_0 rfl rfl ?_
  refine G_lstore3 2 d_Gen_worthOfParts_1 rfl (by decide) rfl ?_
  refine G_iconstN 0 3 d_Gen_worthOfParts_2 rfl rfl ?_
  refine G_istore5 5 d_Gen_worthOfParts_3 rfl (by decide) rfl ?_
  exact L 0 (by omega) none none none none
