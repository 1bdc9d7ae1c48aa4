/-! ===== the reference: rows of the LATTICE ===== -/
abbrev LM : Type := Nat → Nat → Int64
def LMt (AL : LT) (b n : Nat) (R : LM) : Prop := ∀ q c, q < n → c < 10 → AL (b + 30) (10 * q + c) = R q c
def swR (R : LM) (i k : Nat) : LM := fun q => if q = i then R k else if q = k then R i else R q
def leR (R : LM) (i k : Nat) (t : Int64) : LM := upn R i (fun j => R i j - t * R k j)
def flr (x y : Int64) : Int64 := if ¬ (x - x / y * y = 0) ∧ x < 0 then x / y - 1 else x / y
def Q30 (X : XT) (FI AI : FT) (AL : LT) (b n : Nat) (R : LM) : PT := fun r X' FI' AI' AL' => r = none ∧ X' = X ∧ FI' = FI ∧ AI' = AI ∧ LMt AL' b n R ∧ ∀ c, c ≠ b + 30 → AL' c = AL c
theorem s_mEntry {V : GV} {d b n i j : Nat} {R : LM} {X : XT} {FI AI : FT} {AL : LT} (h : MO X b) (hL : LMt AL b n R) (hi : i < n) (hn : n ≤ 7) (hj : j < 10) : G V m_Mod_entry d 0 [some (.ref b), some (.int (nI i)), some (.int (nI j))] [] X FI AI AL (Pd (some (.long (R i j))) X FI AI AL) := by
  have e := hL i j hi hj
  refine G_aload0 1 d_Mod_entry_0 rfl ?_
  refine G_getR 4 d_Mod_entry_1 rfl f_Mod_100 rfl h.sh h.f43 ?_
  refine G_bipushN 10 6 d_Mod_entry_4 rfl rfl ?_
  refine G_iload1 7 d_Mod_entry_6 rfl ?_
  first | refine G_imulN 8 d_Mod_entry_7 rfl ?_ | refine G_imul 8 d_Mod_entry_7 rfl ?_
  refine G_iload2 9 d_Mod_entry_8 rfl ?_
  first | refine G_iaddN 10 d_Mod_entry_9 rfl ?_ | refine G_iadd 10 d_Mod_entry_9 rfl ?_
  refine G_laloadv 11 d_Mod_entry_10 rfl h.s43 (ix_nI (by omega) (by omega)) e ?_
  refine G_lret d_Mod_entry_11 rfl ?_
  exact Pd.rf
theorem s_mFloor {V : GV} {d : Nat} {x y : Int64} {X : XT} {FI AI : FT} {AL : LT} (hy : ¬ y = 0) : G V m_Mod_floor d 0 [some (.long x), none, some (.long y), none, none, none] [] X FI AI AL (Pd (some (.long (flr x y))) X FI AI AL) := by
  refine G_lload0 1 d_Mod_floor_0 rfl ?_
  refine G_lload2 2 d_Mod_floor_1 rfl ?_
  refine G_ldiv 3 d_Mod_floor_2 rfl (by assumption) ?_
  refine G_lstore4 5 d_Mod_floor_3 rfl (by decide) rfl ?_
  refine G_lload0 6 d_Mod_floor_5 rfl ?_
  refine G_lload2 7 d_Mod_floor_6 rfl ?_
  refine G_lrem 8 d_Mod_floor_7 rfl (by assumption) ?_
  refine G_lconst 0 9 d_Mod_floor_8 rfl rfl ?_
  refine G_lceq 26 13 d_Mod_floor_9 d_Mod_floor_10 rfl rfl (fun h9 => ?_) (fun h9 => ?_)
  · refine G_lload4 28 d_Mod_floor_26 rfl ?_
    refine G_lret d_Mod_floor_28 rfl ?_
    exact ⟨by unfold flr; simp [*], rfl, rfl, rfl, rfl⟩
  · refine G_lload0 14 d_Mod_floor_13 rfl ?_
    refine G_lconst 0 15 d_Mod_floor_14 rfl rfl ?_
    refine G_lcge 26 19 d_Mod_floor_15 d_Mod_floor_16 rfl rfl (fun h15 => ?_) (fun h15 => ?_)
    · refine G_lload4 28 d_Mod_floor_26 rfl ?_
      refine G_lret d_Mod_floor_28 rfl ?_
      exact ⟨by unfold flr; simp [*], rfl, rfl, rfl, rfl⟩
    · refine G_lload4 21 d_Mod_floor_19 rfl ?_
      refine G_lconst 1 22 d_Mod_floor_21 rfl rfl ?_
      refine G_lsub 23 d_Mod_floor_22 rfl ?_
      refine G_goto 28 d_Mod_floor_23 rfl ?_
      refine G_lret d_Mod_floor_28 rfl ?_
      exact ⟨by unfold flr; simp [*], rfl, rfl, rfl, rfl⟩
theorem s_mSwap {V : GV} {d b n i k : Nat} {R : LM} {X : XT} {FI AI : FT} {AL : LT} (h : MO X b) (hL : LMt AL b n R) (hi : i < n) (hk : k < n) (hn : n ≤ 7) : G V m_Mod_swap d 0 [some (.ref b), some (.int (nI i)), some (.int (nI k)), none, none, none] [] X FI AI AL (Q30 X FI AI AL b n (swR R i k)) := by
  have L : ∀ j, j ≤ 10 → ∀ (v4 : Option Value) (AJ : LT), (∀ c, c ≠ b + 30 → AJ c = AL c) → (∀ q c, q < n → c < 10 → AJ (b + 30) (10 * q + c) = if c < j then swR R i k q c else R q c) → G V m_Mod_swap d 2 [some (.ref b), some (.int (nI i)), some (.int (nI k)), some (.int (nI j)), v4, none] [] X FI AI AJ (Q30 X FI AI AL b n (swR R i k)) := by
    refine upto ?_ ?_
    · intro v4 AJ k1 k2
      refine G_iload3 3 d_Mod_swap_2 rfl ?_
      refine G_bipushN 10 5 d_Mod_swap_3 rfl rfl ?_
      first | refine G_icgeN 62 8 d_Mod_swap_5 rfl rfl (by omega) (by omega) (fun h5 => ?_) (fun h5 => ?_) | refine G_icge 62 8 d_Mod_swap_5 rfl rfl (fun h5 => ?_) (fun h5 => ?_)
      · refine G_vret d_Mod_swap_62 rfl ?_
        exact ⟨rfl, rfl, rfl, rfl, fun q c hq hc => by rw [k2 q c hq hc, if_pos hc], k1⟩
      · omega
    · intro j hj ih v4 AJ k1 k2
      have ei : AJ (b + 30) (10 * i + j) = R i j := by rw [k2 i j hi hj, if_neg (by omega)]
      have ek : AJ (b + 30) (10 * k + j) = R k j := by rw [k2 k j hk hj, if_neg (by omega)]
      refine G_iload3 3 d_Mod_swap_2 rfl ?_
      refine G_bipushN 10 5 d_Mod_swap_3 rfl rfl ?_
      first | refine G_icgeN 62 8 d_Mod_swap_5 rfl rfl (by omega) (by omega) (fun h5 => ?_) (fun h5 => ?_) | refine G_icge 62 8 d_Mod_swap_5 rfl rfl (fun h5 => ?_) (fun h5 => ?_)
      · omega
      · refine G_aload0 9 d_Mod_swap_8 rfl ?_
        refine G_getR 12 d_Mod_swap_9 rfl f_Mod_100 rfl h.sh h.f43 ?_
        refine G_bipushN 10 14 d_Mod_swap_12 rfl rfl ?_
        refine G_iload1 15 d_Mod_swap_14 rfl ?_
        first | refine G_imulN 16 d_Mod_swap_15 rfl ?_ | refine G_imul 16 d_Mod_swap_15 rfl ?_
        refine G_iload3 17 d_Mod_swap_16 rfl ?_
        first | refine G_iaddN 18 d_Mod_swap_17 rfl ?_ | refine G_iadd 18 d_Mod_swap_17 rfl ?_
        refine G_laloadv 19 d_Mod_swap_18 rfl h.s43 (ix_nI (by omega) (by omega)) ei ?_
        refine G_lstore4 21 d_Mod_swap_19 rfl (by decide) rfl ?_
        refine G_aload0 22 d_Mod_swap_21 rfl ?_
        refine G_getR 25 d_Mod_swap_22 rfl f_Mod_100 rfl h.sh h.f43 ?_
        refine G_bipushN 10 27 d_Mod_swap_25 rfl rfl ?_
        refine G_iload1 28 d_Mod_swap_27 rfl ?_
        first | refine G_imulN 29 d_Mod_swap_28 rfl ?_ | refine G_imul 29 d_Mod_swap_28 rfl ?_
        refine G_iload3 30 d_Mod_swap_29 rfl ?_
        first | refine G_iaddN 31 d_Mod_swap_30 rfl ?_ | refine G_iadd 31 d_Mod_swap_30 rfl ?_
        refine G_aload0 32 d_Mod_swap_31 rfl ?_
        refine G_getR 35 d_Mod_swap_32 rfl f_Mod_100 rfl h.sh h.f43 ?_
        refine G_bipushN 10 37 d_Mod_swap_35 rfl rfl ?_
        refine G_iload2 38 d_Mod_swap_37 rfl ?_
        first | refine G_imulN 39 d_Mod_swap_38 rfl ?_ | refine G_imul 39 d_Mod_swap_38 rfl ?_
        refine G_iload3 40 d_Mod_swap_39 rfl ?_
        first | refine G_iaddN 41 d_Mod_swap_40 rfl ?_ | refine G_iadd 41 d_Mod_swap_40 rfl ?_
        refine G_laloadv 42 d_Mod_swap_41 rfl h.s43 (ix_nI (by omega) (by omega)) ek ?_
        refine G_lastore 43 d_Mod_swap_42 rfl h.s43 (ix_nI (by omega) (by omega)) ?_
        refine G_aload0 44 d_Mod_swap_43 rfl ?_
        refine G_getR 47 d_Mod_swap_44 rfl f_Mod_100 rfl h.sh h.f43 ?_
        refine G_bipushN 10 49 d_Mod_swap_47 rfl rfl ?_
        refine G_iload2 50 d_Mod_swap_49 rfl ?_
        first | refine G_imulN 51 d_Mod_swap_50 rfl ?_ | refine G_imul 51 d_Mod_swap_50 rfl ?_
        refine G_iload3 52 d_Mod_swap_51 rfl ?_
        first | refine G_iaddN 53 d_Mod_swap_52 rfl ?_ | refine G_iadd 53 d_Mod_swap_52 rfl ?_
        refine G_lload4 55 d_Mod_swap_53 rfl ?_
        refine G_lastore 56 d_Mod_swap_55 rfl h.s43 (ix_nI (by omega) (by omega)) ?_
        first | refine G_iincN3 59 d_Mod_swap_56 rfl (by decide) rfl ?_ | refine G_iinc3 _ 59 d_Mod_swap_56 rfl (by decide) rfl rfl ?_
        refine G_goto 2 d_Mod_swap_59 rfl ?_
        refine ih _ _ (fun c hc => by rw [u2_off _ _ _ hc, u2_off _ _ _ hc]; exact k1 c hc) (fun q c hq hc => ?_)
        by_cases e1 : 10 * q + c = 10 * k + j
        · have e2 : q = k := by omega
          have e3 : c = j := by omega
          subst e2 e3
          rw [u2_at, if_pos (by omega)]
          unfold swR
          by_cases e4 : q = i
          · rw [if_pos e4, e4]
          · rw [if_neg e4, if_pos rfl]
        · rw [u2_ix _ _ e1]
          by_cases e5 : 10 * q + c = 10 * i + j
          · have e2 : q = i := by omega
            have e3 : c = j := by omega
            subst e2 e3
            rw [u2_at, if_pos (by omega)]
            unfold swR
            rw [if_pos rfl]
          · rw [u2_ix _ _ e5, k2 q c hq hc]
            by_cases e6 : c = j
            · have : q ≠ k := by omega
              have : q ≠ i := by omega
              rw [if_neg (by omega), if_pos (by omega)]
              unfold swR
              rw [if_neg (by omega), if_neg (by omega)]
            · by_cases e7 : c < j
              · rw [if_pos e7, if_pos (by omega)]
              · rw [if_neg e7, if_neg (by omega)]
  refine G_iconstN 0 1 d_Mod_swap_0 rfl rfl ?_
  refine G_istore3 2 d_Mod_swap_1 rfl (by decide) rfl ?_
  exact L 0 (by omega) _ AL (fun _ _ => rfl) (fun q c hq hc => by rw [if_neg (by omega)]; exact hL q c hq hc)
theorem s_mLess {V : GV} {d b n i k : Nat} {t : Int64} {R : LM} {X : XT} {FI AI : FT} {AL : LT} (h : MO X b) (hL : LMt AL b n R) (hi : i < n) (hk : k < n) (hn : n ≤ 7) : G V m_Mod_less d 0 [some (.ref b), some (.int (nI i)), some (.int (nI k)), some (.long t), none, none] [] X FI AI AL (Q30 X FI AI AL b n (leR R i k t)) := by
  have L : ∀ j, j ≤ 10 → ∀ (AJ : LT), (∀ c, c ≠ b + 30 → AJ c = AL c) → (∀ q c, q < n → c < 10 → AJ (b + 30) (10 * q + c) = if c < j then leR R i k t q c else R q c) → G V m_Mod_less d 3 [some (.ref b), some (.int (nI i)), some (.int (nI k)), some (.long t), none, some (.int (nI j))] [] X FI AI AJ (Q30 X FI AI AL b n (leR R i k t)) := by
    refine upto ?_ ?_
    · intro AJ k1 k2
      refine G_iload5 5 d_Mod_less_3 rfl ?_
      refine G_bipushN 10 7 d_Mod_less_5 rfl rfl ?_
      first | refine G_icgeN 45 10 d_Mod_less_7 rfl rfl (by omega) (by omega) (fun h7 => ?_) (fun h7 => ?_) | refine G_icge 45 10 d_Mod_less_7 rfl rfl (fun h7 => ?_) (fun h7 => ?_)
      · refine G_vret d_Mod_less_45 rfl ?_
        exact ⟨rfl, rfl, rfl, rfl, fun q c hq hc => by rw [k2 q c hq hc, if_pos hc], k1⟩
      · omega
    · intro j hj ih AJ k1 k2
      have ei : AJ (b + 30) (10 * i + j) = R i j := by rw [k2 i j hi hj, if_neg (by omega)]
      have ek : AJ (b + 30) (10 * k + j) = R k j := by rw [k2 k j hk hj, if_neg (by omega)]
      refine G_iload5 5 d_Mod_less_3 rfl ?_
      refine G_bipushN 10 7 d_Mod_less_5 rfl rfl ?_
      first | refine G_icgeN 45 10 d_Mod_less_7 rfl rfl (by omega) (by omega) (fun h7 => ?_) (fun h7 => ?_) | refine G_icge 45 10 d_Mod_less_7 rfl rfl (fun h7 => ?_) (fun h7 => ?_)
      · omega
      · refine G_aload0 11 d_Mod_less_10 rfl ?_
        refine G_getR 14 d_Mod_less_11 rfl f_Mod_100 rfl h.sh h.f43 ?_
        refine G_bipushN 10 16 d_Mod_less_14 rfl rfl ?_
        refine G_iload1 17 d_Mod_less_16 rfl ?_
        first | refine G_imulN 18 d_Mod_less_17 rfl ?_ | refine G_imul 18 d_Mod_less_17 rfl ?_
        refine G_iload5 20 d_Mod_less_18 rfl ?_
        first | refine G_iaddN 21 d_Mod_less_20 rfl ?_ | refine G_iadd 21 d_Mod_less_20 rfl ?_
        refine G_dup2 22 d_Mod_less_21 rfl rfl rfl ?_
        refine G_laloadv 23 d_Mod_less_22 rfl h.s43 (ix_nI (by omega) (by omega)) ei ?_
        refine G_lload3 24 d_Mod_less_23 rfl ?_
        refine G_aload0 25 d_Mod_less_24 rfl ?_
        refine G_getR 28 d_Mod_less_25 rfl f_Mod_100 rfl h.sh h.f43 ?_
        refine G_bipushN 10 30 d_Mod_less_28 rfl rfl ?_
        refine G_iload2 31 d_Mod_less_30 rfl ?_
        first | refine G_imulN 32 d_Mod_less_31 rfl ?_ | refine G_imul 32 d_Mod_less_31 rfl ?_
        refine G_iload5 34 d_Mod_less_32 rfl ?_
        first | refine G_iaddN 35 d_Mod_less_34 rfl ?_ | refine G_iadd 35 d_Mod_less_34 rfl ?_
        refine G_laloadv 36 d_Mod_less_35 rfl h.s43 (ix_nI (by omega) (by omega)) ek ?_
        refine G_lmul 37 d_Mod_less_36 rfl ?_
        refine G_lsub 38 d_Mod_less_37 rfl ?_
        refine G_lastore 39 d_Mod_less_38 rfl h.s43 (ix_nI (by omega) (by omega)) ?_
        first | refine G_iincN5 42 d_Mod_less_39 rfl (by decide) rfl ?_ | refine G_iinc5 _ 42 d_Mod_less_39 rfl (by decide) rfl rfl ?_
        refine G_goto 3 d_Mod_less_42 rfl ?_
        refine ih _ (fun c hc => by rw [u2_off _ _ _ hc]; exact k1 c hc) (fun q c hq hc => ?_)
        by_cases e1 : 10 * q + c = 10 * i + j
        · have e2 : q = i := by omega
          have e3 : c = j := by omega
          subst e2 e3
          rw [u2_at, if_pos (by omega)]
          unfold leR
          rw [upn_at]
        · rw [u2_ix _ _ e1, k2 q c hq hc]
          by_cases e6 : c = j
          · have e8 : q ≠ i := by omega
            rw [if_neg (by omega), if_pos (by omega)]
            unfold leR
            rw [upn_ne _ _ e8]
          · by_cases e7 : c < j
            · rw [if_pos e7, if_pos (by omega)]
            · rw [if_neg e7, if_neg (by omega)]
  refine G_iconstN 0 1 d_Mod_less_0 rfl rfl ?_
  refine G_istore5 3 d_Mod_less_1 rfl (by decide) rfl ?_
  exact L 0 (by omega) AL (fun _ _ => rfl) (fun q c hq hc => by rw [if_neg (by omega)]; exact hL q c hq hc)
