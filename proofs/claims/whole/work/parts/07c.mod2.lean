/-! ===== the reference: POLYNOMIALS are changed ===== -/
theorem sp_congr {AL : LT} {b p : Nat} {f g : Nat → Int64} (h : ∀ j, j < 84 → f j = g j) : sp AL b p f = sp AL b p g := by
  unfold sp; congr 1; funext j; split
  · exact h _ (by omega)
  · rfl
theorem sp_self (AL : LT) (b p : Nat) : sp AL b p (mp AL b p) = AL := by
  unfold sp
  rw [show (fun j => if 84 * p ≤ j ∧ j < 84 * p + 84 then mp AL b p (j - 84 * p) else AL (b + 1) j) = AL (b + 1) from funext (fun j => by
    split
    · rw [mp_at (by omega), show 84 * p + (j - 84 * p) = j by omega]
    · rfl)]
  exact sr_self _ _
theorem sp_sp (AL : LT) (b p : Nat) (f g : Nat → Int64) : sp (sp AL b p f) b p g = sp AL b p g := by
  unfold sp; rw [sr_sr]; congr 1; funext j; split
  · rfl
  · rename_i h; rw [sr_at, if_neg h]
theorem sp_u2 {AL : LT} {b p w : Nat} {f : Nat → Int64} {x : Int64} (hw : w < 84) : u2 (sp AL b p f) (b + 1) (84 * p + w) x = sp AL b p (fun j => if j = w then x else f j) := by
  unfold sp; rw [u2_sr]; congr 1; funext j
  by_cases e : j = 84 * p + w
  · rw [if_pos e, if_pos (by omega)]; show x = if j - 84 * p = w then x else f (j - 84 * p); rw [if_pos (by omega)]
  · rw [if_neg e]; split
    · show f (j - 84 * p) = if j - 84 * p = w then x else f (j - 84 * p); rw [if_neg (by omega)]
    · rfl
theorem sp_rd {AL : LT} {b p w : Nat} {f : Nat → Int64} (hw : w < 84) : sp AL b p f (b + 1) (84 * p + w) = f w := by
  unfold sp; rw [sr_at, if_pos (by omega), show 84 * p + w - 84 * p = w by omega]
theorem sp_rdn {AL : LT} {b p q w : Nat} {f : Nat → Int64} (hw : w < 84) (h : q ≠ p) : sp AL b p f (b + 1) (84 * q + w) = mp AL b q w := by
  unfold sp; rw [sr_at, if_neg (by omega), mp_at hw]
theorem s_mClear {V : GV} {d b p : Nat} {X : XT} {FI AI : FT} {AL : LT} (h : MO X b) (hp : p < 20) : G V m_Mod_clearAt d 0 [some (.ref b), some (.int (nI p)), none] [] X FI AI AL (Pd none X FI AI (sp AL b p (fun _ => 0))) := by
  have L : ∀ k, k ≤ 84 → G V m_Mod_clearAt d 2 [some (.ref b), some (.int (nI p)), some (.int (nI k))] [] X FI AI (sp AL b p (fun j => if j < k then 0 else mp AL b p j)) (Pd none X FI AI (sp AL b p (fun _ => 0))) := by
    refine upto ?_ ?_
    · rw [sp_congr (f := fun j => if j < 84 then 0 else mp AL b p j) (g := fun _ => 0) (fun j hj => if_pos hj)]
      refine G_iload2 3 d_Mod_clearAt_2 rfl ?_
      refine G_bipushN 84 5 d_Mod_clearAt_3 rfl rfl ?_
      first | refine G_icgeN 26 8 d_Mod_clearAt_5 rfl rfl (by omega) (by omega) (fun h5 => ?_) (fun h5 => ?_) | refine G_icge 26 8 d_Mod_clearAt_5 rfl rfl (fun h5 => ?_) (fun h5 => ?_)
      · refine G_vret d_Mod_clearAt_26 rfl ?_
        exact Pd.rf
      · omega
    · intro k hk ih
      have e : u2 (sp AL b p (fun j => if j < k then 0 else mp AL b p j)) (b + 1) (84 * p + k) 0 = sp AL b p (fun j => if j < k + 1 then 0 else mp AL b p j) := by
        rw [sp_u2 hk]
        refine sp_congr (fun j _ => ?_)
        by_cases c : j = k
        · rw [if_pos c, if_pos (by omega)]
        · rw [if_neg c]
          by_cases c2 : j < k
          · rw [if_pos c2, if_pos (by omega)]
          · rw [if_neg c2, if_neg (by omega)]
      refine G_iload2 3 d_Mod_clearAt_2 rfl ?_
      refine G_bipushN 84 5 d_Mod_clearAt_3 rfl rfl ?_
      first | refine G_icgeN 26 8 d_Mod_clearAt_5 rfl rfl (by omega) (by omega) (fun h5 => ?_) (fun h5 => ?_) | refine G_icge 26 8 d_Mod_clearAt_5 rfl rfl (fun h5 => ?_) (fun h5 => ?_)
      · omega
      · refine G_aload0 9 d_Mod_clearAt_8 rfl ?_
        refine G_getR 12 d_Mod_clearAt_9 rfl f_Mod_9 rfl h.sh h.f0 ?_
        refine G_bipushN 84 14 d_Mod_clearAt_12 rfl rfl ?_
        refine G_iload1 15 d_Mod_clearAt_14 rfl ?_
        first | refine G_imulN 16 d_Mod_clearAt_15 rfl ?_ | refine G_imul 16 d_Mod_clearAt_15 rfl ?_
        refine G_iload2 17 d_Mod_clearAt_16 rfl ?_
        first | refine G_iaddN 18 d_Mod_clearAt_17 rfl ?_ | refine G_iadd 18 d_Mod_clearAt_17 rfl ?_
        refine G_lconst 0 19 d_Mod_clearAt_18 rfl rfl ?_
        refine G_lastore 20 d_Mod_clearAt_19 rfl h.s0 (ix_nI (by omega) (by omega)) ?_
        first | refine G_iincN2 23 d_Mod_clearAt_20 rfl (by decide) rfl ?_ | refine G_iinc2 _ 23 d_Mod_clearAt_20 rfl (by decide) rfl rfl ?_
        refine G_goto 2 d_Mod_clearAt_23 rfl ?_
        rw [e]
        exact ih
  refine G_iconstN 0 1 d_Mod_clearAt_0 rfl rfl ?_
  refine G_istore2 2 d_Mod_clearAt_1 rfl (by decide) rfl ?_
  have := L 0 (by omega)
  rw [sp_congr (f := fun j => if j < 0 then 0 else mp AL b p j) (g := mp AL b p) (fun j hj => if_neg (by omega)), sp_self] at this
  exact this
theorem s_mCopy {V : GV} {d b p q : Nat} {X : XT} {FI AI : FT} {AL : LT} (h : MO X b) (hq : q < 20) (hp : p < 20) : G V m_Mod_copyTo d 0 [some (.ref b), some (.int (nI q)), some (.int (nI p)), none] [] X FI AI AL (Pd none X FI AI (sp AL b p (mp AL b q))) := by
  have L : ∀ k, k ≤ 84 → G V m_Mod_copyTo d 2 [some (.ref b), some (.int (nI q)), some (.int (nI p)), some (.int (nI k))] [] X FI AI (sp AL b p (fun j => if j < k then mp AL b q j else mp AL b p j)) (Pd none X FI AI (sp AL b p (mp AL b q))) := by
    refine upto ?_ ?_
    · rw [sp_congr (f := fun j => if j < 84 then mp AL b q j else mp AL b p j) (g := mp AL b q) (fun j hj => if_pos hj)]
      refine G_iload3 3 d_Mod_copyTo_2 rfl ?_
      refine G_bipushN 84 5 d_Mod_copyTo_3 rfl rfl ?_
      first | refine G_icgeN 36 8 d_Mod_copyTo_5 rfl rfl (by omega) (by omega) (fun h5 => ?_) (fun h5 => ?_) | refine G_icge 36 8 d_Mod_copyTo_5 rfl rfl (fun h5 => ?_) (fun h5 => ?_)
      · refine G_vret d_Mod_copyTo_36 rfl ?_
        exact Pd.rf
      · omega
    · intro k hk ih
      have e0 : sp AL b p (fun j => if j < k then mp AL b q j else mp AL b p j) (b + 1) (84 * q + k) = mp AL b q k := by
        by_cases c : q = p
        · subst c; rw [sp_rd hk, if_neg (Nat.lt_irrefl _)]
        · rw [sp_rdn hk c]
      have e : u2 (sp AL b p (fun j => if j < k then mp AL b q j else mp AL b p j)) (b + 1) (84 * p + k) (mp AL b q k) = sp AL b p (fun j => if j < k + 1 then mp AL b q j else mp AL b p j) := by
        rw [sp_u2 hk]
        refine sp_congr (fun j _ => ?_)
        by_cases c : j = k
        · rw [if_pos c, if_pos (by omega), c]
        · rw [if_neg c]
          by_cases c2 : j < k
          · rw [if_pos c2, if_pos (by omega)]
          · rw [if_neg c2, if_neg (by omega)]
      refine G_iload3 3 d_Mod_copyTo_2 rfl ?_
      refine G_bipushN 84 5 d_Mod_copyTo_3 rfl rfl ?_
      first | refine G_icgeN 36 8 d_Mod_copyTo_5 rfl rfl (by omega) (by omega) (fun h5 => ?_) (fun h5 => ?_) | refine G_icge 36 8 d_Mod_copyTo_5 rfl rfl (fun h5 => ?_) (fun h5 => ?_)
      · omega
      · refine G_aload0 9 d_Mod_copyTo_8 rfl ?_
        refine G_getR 12 d_Mod_copyTo_9 rfl f_Mod_9 rfl h.sh h.f0 ?_
        refine G_bipushN 84 14 d_Mod_copyTo_12 rfl rfl ?_
        refine G_iload2 15 d_Mod_copyTo_14 rfl ?_
        first | refine G_imulN 16 d_Mod_copyTo_15 rfl ?_ | refine G_imul 16 d_Mod_copyTo_15 rfl ?_
        refine G_iload3 17 d_Mod_copyTo_16 rfl ?_
        first | refine G_iaddN 18 d_Mod_copyTo_17 rfl ?_ | refine G_iadd 18 d_Mod_copyTo_17 rfl ?_
        refine G_aload0 19 d_Mod_copyTo_18 rfl ?_
        refine G_getR 22 d_Mod_copyTo_19 rfl f_Mod_9 rfl h.sh h.f0 ?_
        refine G_bipushN 84 24 d_Mod_copyTo_22 rfl rfl ?_
        refine G_iload1 25 d_Mod_copyTo_24 rfl ?_
        first | refine G_imulN 26 d_Mod_copyTo_25 rfl ?_ | refine G_imul 26 d_Mod_copyTo_25 rfl ?_
        refine G_iload3 27 d_Mod_copyTo_26 rfl ?_
        first | refine G_iaddN 28 d_Mod_copyTo_27 rfl ?_ | refine G_iadd 28 d_Mod_copyTo_27 rfl ?_
        refine G_laloadv 29 d_Mod_copyTo_28 rfl h.s0 (ix_nI (by omega) (by omega)) e0 ?_
        refine G_lastore 30 d_Mod_copyTo_29 rfl h.s0 (ix_nI (by omega) (by omega)) ?_
        first | refine G_iincN3 33 d_Mod_copyTo_30 rfl (by decide) rfl ?_ | refine G_iinc3 _ 33 d_Mod_copyTo_30 rfl (by decide) rfl rfl ?_
        refine G_goto 2 d_Mod_copyTo_33 rfl ?_
        rw [e]
        exact ih
  refine G_iconstN 0 1 d_Mod_copyTo_0 rfl rfl ?_
  refine G_istore3 2 d_Mod_copyTo_1 rfl (by decide) rfl ?_
  have := L 0 (by omega)
  rw [sp_congr (f := fun j => if j < 0 then mp AL b q j else mp AL b p j) (g := mp AL b p) (fun j hj => if_neg (by omega)), sp_self] at this
  exact this
theorem s_mAdd {V : GV} {d b p q : Nat} {c : Int64} {X : XT} {FI AI : FT} {AL : LT} (h : MO X b) (hp : p < 20) (hq : q < 20) : G V m_Mod_addTo d 0 [some (.ref b), some (.int (nI p)), some (.int (nI q)), some (.long c), none, none] [] X FI AI AL (Pd none X FI AI (sp AL b p (fun j => mp AL b p j + c * mp AL b q j))) := by
  have L : ∀ k, k ≤ 84 → G V m_Mod_addTo d 3 [some (.ref b), some (.int (nI p)), some (.int (nI q)), some (.long c), none, some (.int (nI k))] [] X FI AI (sp AL b p (fun j => if j < k then mp AL b p j + c * mp AL b q j else mp AL b p j)) (Pd none X FI AI (sp AL b p (fun j => mp AL b p j + c * mp AL b q j))) := by
    refine upto ?_ ?_
    · rw [sp_congr (f := fun j => if j < 84 then mp AL b p j + c * mp AL b q j else mp AL b p j) (g := fun j => mp AL b p j + c * mp AL b q j) (fun j hj => if_pos hj)]
      refine G_iload5 5 d_Mod_addTo_3 rfl ?_
      refine G_bipushN 84 7 d_Mod_addTo_5 rfl rfl ?_
      first | refine G_icgeN 45 10 d_Mod_addTo_7 rfl rfl (by omega) (by omega) (fun h7 => ?_) (fun h7 => ?_) | refine G_icge 45 10 d_Mod_addTo_7 rfl rfl (fun h7 => ?_) (fun h7 => ?_)
      · refine G_vret d_Mod_addTo_45 rfl ?_
        exact Pd.rf
      · omega
    · intro k hk ih
      have e0 : sp AL b p (fun j => if j < k then mp AL b p j + c * mp AL b q j else mp AL b p j) (b + 1) (84 * q + k) = mp AL b q k := by
        by_cases c : q = p
        · subst c; rw [sp_rd hk, if_neg (Nat.lt_irrefl _)]
        · rw [sp_rdn hk c]
      have e1 : sp AL b p (fun j => if j < k then mp AL b p j + c * mp AL b q j else mp AL b p j) (b + 1) (84 * p + k) = mp AL b p k := by
        rw [sp_rd hk, if_neg (Nat.lt_irrefl _)]
      have e : u2 (sp AL b p (fun j => if j < k then mp AL b p j + c * mp AL b q j else mp AL b p j)) (b + 1) (84 * p + k) (mp AL b p k + c * mp AL b q k) = sp AL b p (fun j => if j < k + 1 then mp AL b p j + c * mp AL b q j else mp AL b p j) := by
        rw [sp_u2 hk]
        refine sp_congr (fun j _ => ?_)
        by_cases c : j = k
        · rw [if_pos c, if_pos (by omega), c]
        · rw [if_neg c]
          by_cases c2 : j < k
          · rw [if_pos c2, if_pos (by omega)]
          · rw [if_neg c2, if_neg (by omega)]
      refine G_iload5 5 d_Mod_addTo_3 rfl ?_
      refine G_bipushN 84 7 d_Mod_addTo_5 rfl rfl ?_
      first | refine G_icgeN 45 10 d_Mod_addTo_7 rfl rfl (by omega) (by omega) (fun h7 => ?_) (fun h7 => ?_) | refine G_icge 45 10 d_Mod_addTo_7 rfl rfl (fun h7 => ?_) (fun h7 => ?_)
      · omega
      · refine G_aload0 11 d_Mod_addTo_10 rfl ?_
        refine G_getR 14 d_Mod_addTo_11 rfl f_Mod_9 rfl h.sh h.f0 ?_
        refine G_bipushN 84 16 d_Mod_addTo_14 rfl rfl ?_
        refine G_iload1 17 d_Mod_addTo_16 rfl ?_
        first | refine G_imulN 18 d_Mod_addTo_17 rfl ?_ | refine G_imul 18 d_Mod_addTo_17 rfl ?_
        refine G_iload5 20 d_Mod_addTo_18 rfl ?_
        first | refine G_iaddN 21 d_Mod_addTo_20 rfl ?_ | refine G_iadd 21 d_Mod_addTo_20 rfl ?_
        refine G_dup2 22 d_Mod_addTo_21 rfl rfl rfl ?_
        refine G_laloadv 23 d_Mod_addTo_22 rfl h.s0 (ix_nI (by omega) (by omega)) e1 ?_
        refine G_lload3 24 d_Mod_addTo_23 rfl ?_
        refine G_aload0 25 d_Mod_addTo_24 rfl ?_
        refine G_getR 28 d_Mod_addTo_25 rfl f_Mod_9 rfl h.sh h.f0 ?_
        refine G_bipushN 84 30 d_Mod_addTo_28 rfl rfl ?_
        refine G_iload2 31 d_Mod_addTo_30 rfl ?_
        first | refine G_imulN 32 d_Mod_addTo_31 rfl ?_ | refine G_imul 32 d_Mod_addTo_31 rfl ?_
        refine G_iload5 34 d_Mod_addTo_32 rfl ?_
        first | refine G_iaddN 35 d_Mod_addTo_34 rfl ?_ | refine G_iadd 35 d_Mod_addTo_34 rfl ?_
        refine G_laloadv 36 d_Mod_addTo_35 rfl h.s0 (ix_nI (by omega) (by omega)) e0 ?_
        refine G_lmul 37 d_Mod_addTo_36 rfl ?_
        refine G_ladd 38 d_Mod_addTo_37 rfl ?_
        refine G_lastore 39 d_Mod_addTo_38 rfl h.s0 (ix_nI (by omega) (by omega)) ?_
        first | refine G_iincN5 42 d_Mod_addTo_39 rfl (by decide) rfl ?_ | refine G_iinc5 _ 42 d_Mod_addTo_39 rfl (by decide) rfl rfl ?_
        refine G_goto 3 d_Mod_addTo_42 rfl ?_
        rw [e]
        exact ih
  refine G_iconstN 0 1 d_Mod_addTo_0 rfl rfl ?_
  refine G_istore5 3 d_Mod_addTo_1 rfl (by decide) rfl ?_
  have := L 0 (by omega)
  rw [sp_congr (f := fun j => if j < 0 then mp AL b p j + c * mp AL b q j else mp AL b p j) (g := mp AL b p) (fun j hj => if_neg (by omega)), sp_self] at this
  exact this
theorem s_mSame {V : GV} {d b p q : Nat} {X : XT} {FI AI : FT} {AL : LT} (h : MO X b) (hp : p < 20) (hq : q < 20) : G V m_Mod_areSame d 0 [some (.ref b), some (.int (nI p)), some (.int (nI q)), none, none] [] X FI AI AL (P01 (like (mp AL b p) (mp AL b q)) X FI AI AL) := by
  have L0 : ¬ like (mp AL b p) (mp AL b q) → ∀ k, k ≤ 84 → G V m_Mod_areSame d 5 [some (.ref b), some (.int (nI p)), some (.int (nI q)), some (.int (nI 0)), some (.int (nI k))] [] X FI AI AL (P01 (like (mp AL b p) (mp AL b q)) X FI AI AL) := by
    intro hn
    refine upto ?_ ?_
    · refine G_iload4 7 d_Mod_areSame_5 rfl ?_
      refine G_bipushN 84 9 d_Mod_areSame_7 rfl rfl ?_
      first | refine G_icgeN 56 12 d_Mod_areSame_9 rfl rfl (by omega) (by omega) (fun h9 => ?_) (fun h9 => ?_) | refine G_icge 56 12 d_Mod_areSame_9 rfl rfl (fun h9 => ?_) (fun h9 => ?_)
      · refine G_iload3 57 d_Mod_areSame_56 rfl ?_
        refine G_zret d_Mod_areSame_57 rfl ?_ ?_
        · first | exact Or.inl rfl | exact Or.inr rfl
        · exact P01.f hn
      · omega
    · intro k hk ih
      refine G_iload4 7 d_Mod_areSame_5 rfl ?_
      refine G_bipushN 84 9 d_Mod_areSame_7 rfl rfl ?_
      first | refine G_icgeN 56 12 d_Mod_areSame_9 rfl rfl (by omega) (by omega) (fun h9 => ?_) (fun h9 => ?_) | refine G_icge 56 12 d_Mod_areSame_9 rfl rfl (fun h9 => ?_) (fun h9 => ?_)
      · omega
      · refine G_iload3 13 d_Mod_areSame_12 rfl ?_
        refine G_ifeq 48 16 d_Mod_areSame_13 rfl rfl (fun h13 => ?_) (fun h13 => ?_)
        · refine G_iconstN 0 49 d_Mod_areSame_48 rfl rfl ?_
          refine G_istore3 50 d_Mod_areSame_49 rfl (by decide) rfl ?_
          first | refine G_iincN4 53 d_Mod_areSame_50 rfl (by decide) rfl ?_ | refine G_iinc4 _ 53 d_Mod_areSame_50 rfl (by decide) rfl rfl ?_
          refine G_goto 5 d_Mod_areSame_53 rfl ?_
          exact ih
        · exact absurd rfl h13
  have L : ∀ k, k ≤ 84 → (∀ j, j < k → mp AL b p j = mp AL b q j) → G V m_Mod_areSame d 5 [some (.ref b), some (.int (nI p)), some (.int (nI q)), some (.int (nI 1)), some (.int (nI k))] [] X FI AI AL (P01 (like (mp AL b p) (mp AL b q)) X FI AI AL) := by
    refine upto ?_ ?_
    · intro he
      refine G_iload4 7 d_Mod_areSame_5 rfl ?_
      refine G_bipushN 84 9 d_Mod_areSame_7 rfl rfl ?_
      first | refine G_icgeN 56 12 d_Mod_areSame_9 rfl rfl (by omega) (by omega) (fun h9 => ?_) (fun h9 => ?_) | refine G_icge 56 12 d_Mod_areSame_9 rfl rfl (fun h9 => ?_) (fun h9 => ?_)
      · refine G_iload3 57 d_Mod_areSame_56 rfl ?_
        refine G_zret d_Mod_areSame_57 rfl ?_ ?_
        · first | exact Or.inl rfl | exact Or.inr rfl
        · exact P01.t he
      · omega
    · intro k hk ih he
      refine G_iload4 7 d_Mod_areSame_5 rfl ?_
      refine G_bipushN 84 9 d_Mod_areSame_7 rfl rfl ?_
      first | refine G_icgeN 56 12 d_Mod_areSame_9 rfl rfl (by omega) (by omega) (fun h9 => ?_) (fun h9 => ?_) | refine G_icge 56 12 d_Mod_areSame_9 rfl rfl (fun h9 => ?_) (fun h9 => ?_)
      · omega
      · refine G_iload3 13 d_Mod_areSame_12 rfl ?_
        refine G_ifeq 48 16 d_Mod_areSame_13 rfl rfl (fun h13 => ?_) (fun h13 => ?_)
        · exact absurd h13 (by decide)
        · refine G_aload0 17 d_Mod_areSame_16 rfl ?_
          refine G_getR 20 d_Mod_areSame_17 rfl f_Mod_9 rfl h.sh h.f0 ?_
          refine G_bipushN 84 22 d_Mod_areSame_20 rfl rfl ?_
          refine G_iload1 23 d_Mod_areSame_22 rfl ?_
          first | refine G_imulN 24 d_Mod_areSame_23 rfl ?_ | refine G_imul 24 d_Mod_areSame_23 rfl ?_
          refine G_iload4 26 d_Mod_areSame_24 rfl ?_
          first | refine G_iaddN 27 d_Mod_areSame_26 rfl ?_ | refine G_iadd 27 d_Mod_areSame_26 rfl ?_
          refine G_laload 28 d_Mod_areSame_27 rfl h.s0 (ix_nI (by omega) (by omega)) ?_
          refine G_aload0 29 d_Mod_areSame_28 rfl ?_
          refine G_getR 32 d_Mod_areSame_29 rfl f_Mod_9 rfl h.sh h.f0 ?_
          refine G_bipushN 84 34 d_Mod_areSame_32 rfl rfl ?_
          refine G_iload2 35 d_Mod_areSame_34 rfl ?_
          first | refine G_imulN 36 d_Mod_areSame_35 rfl ?_ | refine G_imul 36 d_Mod_areSame_35 rfl ?_
          refine G_iload4 38 d_Mod_areSame_36 rfl ?_
          first | refine G_iaddN 39 d_Mod_areSame_38 rfl ?_ | refine G_iadd 39 d_Mod_areSame_38 rfl ?_
          refine G_laload 40 d_Mod_areSame_39 rfl h.s0 (ix_nI (by omega) (by omega)) ?_
          refine G_lcne 48 44 d_Mod_areSame_40 d_Mod_areSame_41 rfl rfl (fun h40 => ?_) (fun h40 => ?_)
          · rw [← mp_at (AL := AL) (b := b) (p := p) hk, ← mp_at (AL := AL) (b := b) (p := q) hk] at h40
            have hn : ¬ like (mp AL b p) (mp AL b q) := fun e => h40 (e k hk)
            refine G_iconstN 0 49 d_Mod_areSame_48 rfl rfl ?_
            refine G_istore3 50 d_Mod_areSame_49 rfl (by decide) rfl ?_
            first | refine G_iincN4 53 d_Mod_areSame_50 rfl (by decide) rfl ?_ | refine G_iinc4 _ 53 d_Mod_areSame_50 rfl (by decide) rfl rfl ?_
            refine G_goto 5 d_Mod_areSame_53 rfl ?_
            first | exact L0 hn _ (by omega) | exact ih (fun j hj => by by_cases c : j = k <;> first | (subst c; exact h40) | exact he j (by omega))
          · rw [← mp_at (AL := AL) (b := b) (p := p) hk, ← mp_at (AL := AL) (b := b) (p := q) hk] at h40
            refine G_iconstN 1 45 d_Mod_areSame_44 rfl rfl ?_
            refine G_goto 49 d_Mod_areSame_45 rfl ?_
            refine G_istore3 50 d_Mod_areSame_49 rfl (by decide) rfl ?_
            first | refine G_iincN4 53 d_Mod_areSame_50 rfl (by decide) rfl ?_ | refine G_iinc4 _ 53 d_Mod_areSame_50 rfl (by decide) rfl rfl ?_
            refine G_goto 5 d_Mod_areSame_53 rfl ?_
            first | exact L0 hn _ (by omega) | exact ih (fun j hj => by by_cases c : j = k <;> first | (subst c; exact h40) | exact he j (by omega))
  refine G_iconstN 1 1 d_Mod_areSame_0 rfl rfl ?_
  refine G_istore3 2 d_Mod_areSame_1 rfl (by decide) rfl ?_
  refine G_iconstN 0 3 d_Mod_areSame_2 rfl rfl ?_
  refine G_istore4 5 d_Mod_areSame_3 rfl (by decide) rfl ?_
  exact L 0 (by omega) (fun j hj => by omega)
theorem eD_mono0 : ((List.range 84).all fun i => (List.range 84).all fun j => decide (i ≤ j → eD i ≤ eD j)) = true := by decide +kernel
theorem eD_mono {i j : Nat} (h : i ≤ j) (hj : j < 84) : eD i ≤ eD j := of_decide_eq_true (all2 eD_mono0 (show i < 84 by omega) hj) h
theorem pdeg_eD (f : Nat → Int64) : ∀ k j, k ≤ j → j < 84 → pdeg f k ≤ eD j + 1
  | 0, _, _, _ => Nat.zero_le _
  | k + 1, j, h, hj => by
    rw [pdeg]
    split
    · exact pdeg_eD f k j (by omega) hj
    · have := eD_mono (i := k) (j := j) (by omega) hj
      omega
theorem s_mDegree {V : GV} {d b p : Nat} {X : XT} {FI AI : FT} {AL : LT} (h : MO X b) (hT : MTb AI b) (hp : p < 20) : G V m_Mod_degreeAt (d + 1) 0 [some (.ref b), some (.int (nI p)), none, none] [] X FI AI AL (Pd (some (.int (dI (deg1 (mp AL b p))))) X FI AI AL) := by
  have L : ∀ k, k ≤ 84 → G V m_Mod_degreeAt (d + 1) 4 [some (.ref b), some (.int (nI p)), some (.int (dI (pdeg (mp AL b p) k))), some (.int (nI k))] [] X FI AI AL (Pd (some (.int (dI (deg1 (mp AL b p))))) X FI AI AL) := by
    refine upto ?_ ?_
    · refine G_iload3 5 d_Mod_degreeAt_4 rfl ?_
      refine G_bipushN 84 7 d_Mod_degreeAt_5 rfl rfl ?_
      first | refine G_icgeN 51 10 d_Mod_degreeAt_7 rfl rfl (by omega) (by omega) (fun h7 => ?_) (fun h7 => ?_) | refine G_icge 51 10 d_Mod_degreeAt_7 rfl rfl (fun h7 => ?_) (fun h7 => ?_)
      · refine G_iload2 52 d_Mod_degreeAt_51 rfl ?_
        refine G_iret d_Mod_degreeAt_52 rfl ?_
        exact Pd.rf
      · omega
    · intro k hk ih
      have e1 := pdeg_eD (mp AL b p) k k (Nat.le_refl _) hk
      have e2 := e_le hk
      rw [pdeg, mp_at hk] at ih
      have e3 : ¬ AL (b + 1) (84 * p + k) = 0 → nI (eD k) ≤ dI (pdeg (mp AL b p) k) → dI (pdeg (mp AL b p) k) = nI (eD k) := by
        intro _ hle
        rcases Nat.eq_zero_or_pos (pdeg (mp AL b p) k) with z | z
        · rw [z, dI_0] at hle
          exact absurd (Int32.not_le.mpr (Int32.lt_of_lt_of_le (show (-1 : Int32) < 0 by decide) (Int32.not_lt.mp (nI_pos (n := eD k) (by omega))))) (not_not_intro hle)
        · obtain ⟨j, hj⟩ : ∃ j, pdeg (mp AL b p) k = j + 1 := ⟨pdeg (mp AL b p) k - 1, by omega⟩
          rw [hj, dI_s] at hle ⊢
          rw [nI_leI (by omega) (by omega)] at hle
          rw [show j = eD k by omega]
      refine G_iload3 5 d_Mod_degreeAt_4 rfl ?_
      refine G_bipushN 84 7 d_Mod_degreeAt_5 rfl rfl ?_
      first | refine G_icgeN 51 10 d_Mod_degreeAt_7 rfl rfl (by omega) (by omega) (fun h7 => ?_) (fun h7 => ?_) | refine G_icge 51 10 d_Mod_degreeAt_7 rfl rfl (fun h7 => ?_) (fun h7 => ?_)
      · omega
      · refine G_aload0 11 d_Mod_degreeAt_10 rfl ?_
        refine G_getR 14 d_Mod_degreeAt_11 rfl f_Mod_9 rfl h.sh h.f0 ?_
        refine G_bipushN 84 16 d_Mod_degreeAt_14 rfl rfl ?_
        refine G_iload1 17 d_Mod_degreeAt_16 rfl ?_
        first | refine G_imulN 18 d_Mod_degreeAt_17 rfl ?_ | refine G_imul 18 d_Mod_degreeAt_17 rfl ?_
        refine G_iload3 19 d_Mod_degreeAt_18 rfl ?_
        first | refine G_iaddN 20 d_Mod_degreeAt_19 rfl ?_ | refine G_iadd 20 d_Mod_degreeAt_19 rfl ?_
        refine G_laload 21 d_Mod_degreeAt_20 rfl h.s0 (ix_nI (by omega) (by omega)) ?_
        refine G_lconst 0 22 d_Mod_degreeAt_21 rfl rfl ?_
        refine G_lceq 43 26 d_Mod_degreeAt_22 d_Mod_degreeAt_23 rfl rfl (fun h22 => ?_) (fun h22 => ?_)
        · rw [if_pos h22] at ih
          refine G_iload2 44 d_Mod_degreeAt_43 rfl ?_
          refine G_istore2 45 d_Mod_degreeAt_44 rfl (by decide) rfl ?_
          first | refine G_iincN3 48 d_Mod_degreeAt_45 rfl (by decide) rfl ?_ | refine G_iinc3 _ 48 d_Mod_degreeAt_45 rfl (by decide) rfl rfl ?_
          refine G_goto 4 d_Mod_degreeAt_48 rfl ?_
          exact ih
        · rw [if_neg h22, dI_s] at ih
          refine G_aload0 27 d_Mod_degreeAt_26 rfl ?_
          refine G_iload3 28 d_Mod_degreeAt_27 rfl ?_
          refine G_invV1d 31 d_Mod_degreeAt_28 rfl e_Mod_147 M_Mod_degreeOf rfl h.sh (Nat.le_of_ble_eq_true rfl) (Nat.le_of_ble_eq_true rfl) rfl (s_mDegreeOf (by assumption) (by assumption) (by omega)) ?_
          refine G_iload2 32 d_Mod_degreeAt_31 rfl ?_
          first | refine G_icleN 43 35 d_Mod_degreeAt_32 rfl rfl (by omega) (by omega) (fun h32 => ?_) (fun h32 => ?_) | refine G_icle 43 35 d_Mod_degreeAt_32 rfl rfl (fun h32 => ?_) (fun h32 => ?_)
          · rw [e3 h22 h32]
            refine G_iload2 44 d_Mod_degreeAt_43 rfl ?_
            refine G_istore2 45 d_Mod_degreeAt_44 rfl (by decide) rfl ?_
            first | refine G_iincN3 48 d_Mod_degreeAt_45 rfl (by decide) rfl ?_ | refine G_iinc3 _ 48 d_Mod_degreeAt_45 rfl (by decide) rfl rfl ?_
            refine G_goto 4 d_Mod_degreeAt_48 rfl ?_
            exact ih
          · refine G_aload0 36 d_Mod_degreeAt_35 rfl ?_
            refine G_iload3 37 d_Mod_degreeAt_36 rfl ?_
            refine G_invV1d 40 d_Mod_degreeAt_37 rfl e_Mod_147 M_Mod_degreeOf rfl h.sh (Nat.le_of_ble_eq_true rfl) (Nat.le_of_ble_eq_true rfl) rfl (s_mDegreeOf (by assumption) (by assumption) (by omega)) ?_
            refine G_goto 44 d_Mod_degreeAt_40 rfl ?_
            refine G_istore2 45 d_Mod_degreeAt_44 rfl (by decide) rfl ?_
            first | refine G_iincN3 48 d_Mod_degreeAt_45 rfl (by decide) rfl ?_ | refine G_iinc3 _ 48 d_Mod_degreeAt_45 rfl (by decide) rfl rfl ?_
            refine G_goto 4 d_Mod_degreeAt_48 rfl ?_
            exact ih
  refine G_iconst (-1) 1 d_Mod_degreeAt_0 rfl rfl ?_
  refine G_istore2 2 d_Mod_degreeAt_1 rfl (by decide) rfl ?_
  refine G_iconstN 0 3 d_Mod_degreeAt_2 rfl rfl ?_
  refine G_istore3 4 d_Mod_degreeAt_3 rfl (by decide) rfl ?_
  exact L 0 (by omega)
