/-! ===== the reference: one entry of a told polynomial ===== -/
def tlB (row : Nat → Int32) (sz : Nat) (p : Int) : Int32 := if p < 0 ∨ (sz : Int) < p + 4 then -12 else if (bB (row p.toNat) (-999) 999 && bT (row (p.toNat + 1)) (row (p.toNat + 2)) (row (p.toNat + 3))) = true then 0 else -1
def tlT (row : Nat → Int32) (p : Int) : Nat := pl (ni (row (p.toNat + 1))) (ni (row (p.toNat + 2))) (ni (row (p.toNat + 3)))
theorem mp_u2 {AL : LT} {b p w : Nat} {v : Int64} (hw : w < 84) : mp (u2 AL (b + 1) (84 * p + w) v) b p = upn (mp AL b p) w v := by
  funext t
  unfold mp upn
  by_cases e2 : t = w
  · rw [if_pos (by omega), if_pos e2, e2, u2_at]
  · rw [if_neg e2, u2_ix _ _ (by omega)]
theorem mp_u2n {AL : LT} {b p q w : Nat} {v : Int64} (hw : w < 84) (hq : q ≠ p) : mp (u2 AL (b + 1) (84 * p + w) v) b q = mp AL b q := by
  funext t
  unfold mp
  by_cases e : t < 84
  · rw [if_pos e, if_pos e, u2_ix _ _ (by omega)]
  · rw [if_neg e, if_neg e]
theorem s_mTellOne {V : GV} {d b k sz n : Nat} {row : Nat → Int32} {p : Int} {pos : Int64} {X : XT} {FI AI : FT} {AL : LT} (h : MO X b) (hT : MTb AI b) (hk : k < 4) (es : AI (b + 38) k = nI sz) (hsz : sz ≤ 40) (er : ∀ j, j < 40 → AI (b + 39) (40 * k + j) = row j) (hp : pos.toInt = p) (hp1 : -4294967296 ≤ p) (hp2 : p < 4294967296) (ht : FI b 27 = nI n) : G V m_Mod_tellOne (d + 2) 0 [some (.ref b), some (.int (nI 13)), some (.int (nI k)), some (.long pos), none, none, none, none] [] X FI AI AL (fun r X' FI' AI' AL' => X' = X ∧ AI' = AI ∧ r = some (.int (tlB row sz p)) ∧ (tlB row sz p ≠ 0 → FI' = FI ∧ AL' = AL) ∧ (tlB row sz p = 0 → tlT row p < 84 ∧ FI' = u2 FI b 27 (nI (n + if mp AL b 14 (tlT row p) = 0 then 1 else 0)) ∧ (∀ c, c ≠ b + 1 → AL' c = AL c) ∧ mp AL' b 13 = upn (mp AL b 13) (tlT row p) (mp AL b 13 (tlT row p) + (row p.toNat).toInt64) ∧ mp AL' b 14 = upn (mp AL b 14) (tlT row p) 1 ∧ ∀ q, q < 13 → mp AL' b q = mp AL b q)) := by
  have l2 : pos < 0 ↔ p < 0 := by rw [Int64.lt_iff_toInt_lt, hp]; exact Iff.rfl
  have l18 : (nI sz).toInt64 < pos + 4 ↔ (sz : Int) < p + 4 := by
    rw [Int64.lt_iff_toInt_lt, Int64.toInt_add, hp, toL, nI_toInt (by omega), show (4 : Int64).toInt = 4 from rfl, Int.bmod_eq_of_le_mul_two (by omega) (by omega)]
  by_cases h0 : p < 0 ∨ (sz : Int) < p + 4
  · have hB : tlB row sz p = -12 := if_pos h0
    refine G_lload3 1 d_Mod_tellOne_0 rfl ?_
    refine G_lconst 0 2 d_Mod_tellOne_1 rfl rfl ?_
    refine G_lclt 22 6 d_Mod_tellOne_2 d_Mod_tellOne_3 rfl rfl (fun h2 => ?_) (fun h2 => ?_)
    · refine G_bipush (-12) 24 d_Mod_tellOne_22 rfl rfl ?_
      refine G_iret d_Mod_tellOne_24 rfl ?_
      exact ⟨rfl, rfl, by rw [hB], fun _ => ⟨rfl, rfl⟩, fun e => absurd e (by rw [hB]; decide)⟩
    · have h2' : ¬ p < 0 := fun e => h2 (l2.mpr e)
      refine G_lload3 7 d_Mod_tellOne_6 rfl ?_
      refine G_ldc2 10 d_Mod_tellOne_7 rfl k_Mod_237 ?_
      refine G_ladd 11 d_Mod_tellOne_10 rfl ?_
      refine G_aload0 12 d_Mod_tellOne_11 rfl ?_
      refine G_getR 15 d_Mod_tellOne_12 rfl f_Mod_124 rfl h.sh h.f53 ?_
      refine G_iload2 16 d_Mod_tellOne_15 rfl ?_
      refine G_ialoadv 17 d_Mod_tellOne_16 rfl h.s53 (ix_nI (by omega) (by omega)) es ?_
      refine G_i2l 18 d_Mod_tellOne_17 rfl ?_
      refine G_lcle 25 22 d_Mod_tellOne_18 d_Mod_tellOne_19 rfl rfl (fun h18 => ?_) (fun h18 => ?_)
      · have := mt l18.mpr h18
        omega
      · refine G_bipush (-12) 24 d_Mod_tellOne_22 rfl rfl ?_
        refine G_iret d_Mod_tellOne_24 rfl ?_
        exact ⟨rfl, rfl, by rw [hB], fun _ => ⟨rfl, rfl⟩, fun e => absurd e (by rw [hB]; decide)⟩
  · obtain ⟨m, rfl⟩ : ∃ m : Nat, p = (m : Int) := ⟨p.toNat, by omega⟩
    have hm : m + 4 ≤ sz := by omega
    have hl : pos.toInt32 = nI m := by
      apply Int32.toInt_inj.mp
      rw [Int64.toInt_toInt32, hp, nI_toInt (by omega), Int.bmod_eq_of_le_mul_two (by omega) (by omega)]
    have hB0 : tlB row sz (m : Int) = if (bB (row m) (-999) 999 && bT (row (m + 1)) (row (m + 2)) (row (m + 3))) = true then 0 else -1 := if_neg h0
    have r0 := er m (by omega)
    have r1 : AI (b + 39) (40 * k + m + 1) = row (m + 1) := er (m + 1) (by omega)
    have r2 : AI (b + 39) (40 * k + m + 2) = row (m + 2) := er (m + 2) (by omega)
    have r3 : AI (b + 39) (40 * k + m + 3) = row (m + 3) := er (m + 3) (by omega)
    have kc : ((-999 : Int64).toInt ≤ (row m).toInt64.toInt ∧ (row m).toInt64.toInt ≤ (999 : Int64).toInt) ↔ isB (row m) (-999) 999 := by
      rw [toL]; exact Iff.rfl
    refine G_lload3 1 d_Mod_tellOne_0 rfl ?_
    refine G_lconst 0 2 d_Mod_tellOne_1 rfl rfl ?_
    refine G_lclt 22 6 d_Mod_tellOne_2 d_Mod_tellOne_3 rfl rfl (fun h2 => ?_) (fun h2 => ?_)
    · have := l2.mp h2
      omega
    · refine G_lload3 7 d_Mod_tellOne_6 rfl ?_
      refine G_ldc2 10 d_Mod_tellOne_7 rfl k_Mod_237 ?_
      refine G_ladd 11 d_Mod_tellOne_10 rfl ?_
      refine G_aload0 12 d_Mod_tellOne_11 rfl ?_
      refine G_getR 15 d_Mod_tellOne_12 rfl f_Mod_124 rfl h.sh h.f53 ?_
      refine G_iload2 16 d_Mod_tellOne_15 rfl ?_
      refine G_ialoadv 17 d_Mod_tellOne_16 rfl h.s53 (ix_nI (by omega) (by omega)) es ?_
      refine G_i2l 18 d_Mod_tellOne_17 rfl ?_
      refine G_lcle 25 22 d_Mod_tellOne_18 d_Mod_tellOne_19 rfl rfl (fun h18 => ?_) (fun h18 => ?_)
      · refine G_bipushN 40 27 d_Mod_tellOne_25 rfl rfl ?_
        refine G_iload2 28 d_Mod_tellOne_27 rfl ?_
        first | refine G_imulN 29 d_Mod_tellOne_28 rfl ?_ | refine G_imul 29 d_Mod_tellOne_28 rfl ?_
        refine G_lload3 30 d_Mod_tellOne_29 rfl ?_
        refine G_l2i 31 d_Mod_tellOne_30 rfl ?_
        rw [hl]
        first | refine G_iaddN 32 d_Mod_tellOne_31 rfl ?_ | refine G_iadd 32 d_Mod_tellOne_31 rfl ?_
        refine G_istore5 34 d_Mod_tellOne_32 rfl (by decide) rfl ?_
        refine G_aload0 35 d_Mod_tellOne_34 rfl ?_
        refine G_getR 38 d_Mod_tellOne_35 rfl f_Mod_127 rfl h.sh h.f54 ?_
        refine G_iload5 40 d_Mod_tellOne_38 rfl ?_
        refine G_ialoadv 41 d_Mod_tellOne_40 rfl h.s54 (ix_nI (by omega) (by omega)) r0 ?_
        refine G_istore6 43 d_Mod_tellOne_41 rfl (by decide) rfl ?_
        refine G_iload6 45 d_Mod_tellOne_43 rfl ?_
        refine G_i2l 46 d_Mod_tellOne_45 rfl ?_
        refine G_ldc2 49 d_Mod_tellOne_46 rfl k_Mod_186 ?_
        refine G_ldc2 52 d_Mod_tellOne_49 rfl k_Mod_188 ?_
        refine G_invS3b 55 d_Mod_tellOne_52 rfl e_Mod_139 M_Mod_in (Nat.le_of_ble_eq_true rfl) (Nat.le_of_ble_eq_true rfl) rfl (s_mIn) (fun h52 => G_ifeq1 58 d_Mod_tellOne_55 91 rfl rfl ?_) (fun h52 => G_ifeq0 58 d_Mod_tellOne_55 91 rfl rfl ?_)
        · have q3 := bB_iff.mpr (kc.mp h52)
          refine G_aload0 59 d_Mod_tellOne_58 rfl ?_
          refine G_getR 62 d_Mod_tellOne_59 rfl f_Mod_127 rfl h.sh h.f54 ?_
          refine G_iload5 64 d_Mod_tellOne_62 rfl ?_
          refine G_iconstN 1 65 d_Mod_tellOne_64 rfl rfl ?_
          first | refine G_iaddN 66 d_Mod_tellOne_65 rfl ?_ | refine G_iadd 66 d_Mod_tellOne_65 rfl ?_
          refine G_ialoadv 67 d_Mod_tellOne_66 rfl h.s54 (ix_nI (by omega) (by omega)) r1 ?_
          refine G_aload0 68 d_Mod_tellOne_67 rfl ?_
          refine G_getR 71 d_Mod_tellOne_68 rfl f_Mod_127 rfl h.sh h.f54 ?_
          refine G_iload5 73 d_Mod_tellOne_71 rfl ?_
          refine G_iconstN 2 74 d_Mod_tellOne_73 rfl rfl ?_
          first | refine G_iaddN 75 d_Mod_tellOne_74 rfl ?_ | refine G_iadd 75 d_Mod_tellOne_74 rfl ?_
          refine G_ialoadv 76 d_Mod_tellOne_75 rfl h.s54 (ix_nI (by omega) (by omega)) r2 ?_
          refine G_aload0 77 d_Mod_tellOne_76 rfl ?_
          refine G_getR 80 d_Mod_tellOne_77 rfl f_Mod_127 rfl h.sh h.f54 ?_
          refine G_iload5 82 d_Mod_tellOne_80 rfl ?_
          refine G_iconstN 3 83 d_Mod_tellOne_82 rfl rfl ?_
          first | refine G_iaddN 84 d_Mod_tellOne_83 rfl ?_ | refine G_iadd 84 d_Mod_tellOne_83 rfl ?_
          refine G_ialoadv 85 d_Mod_tellOne_84 rfl h.s54 (ix_nI (by omega) (by omega)) r3 ?_
          refine G_invS3b 88 d_Mod_tellOne_85 rfl e_Mod_190 M_Mod_isTerm (Nat.le_of_ble_eq_true rfl) (Nat.le_of_ble_eq_true rfl) rfl (s_mIsTerm) (fun h85 => G_ifne1 91 d_Mod_tellOne_88 93 rfl rfl ?_) (fun h85 => G_ifne0 91 d_Mod_tellOne_88 93 rfl rfl ?_)
          · obtain ⟨x, y, z, hs, ex, ey, ez⟩ := h85
            have hw := pl_lt hs
            have q2 := bT_t hs
            rw [← ex, ← ey, ← ez] at q2
            have hB : tlB row sz (m : Int) = 0 := by rw [hB0, q3, q2]; rfl
            have hTt : tlT row (m : Int) = pl x y z := by
              show pl (ni (row (m + 1))) (ni (row (m + 2))) (ni (row (m + 3))) = pl x y z
              rw [ex, ey, ez, ni_nI (by omega), ni_nI (by omega), ni_nI (by omega)]
            have e13 : AL (b + 1) (84 * 13 + pl x y z) = mp AL b 13 (pl x y z) := by rw [mp_at hw]
            have e14 : ∀ v, u2 AL (b + 1) (84 * 13 + pl x y z) v (b + 1) (1176 + pl x y z) = mp AL b 14 (pl x y z) := fun v => by rw [u2_ix _ _ (by omega), mp_at hw]
            have g13 : ∀ v v', mp (u2 (u2 AL (b + 1) (84 * 13 + pl x y z) v) (b + 1) (84 * 14 + pl x y z) v') b 13 = upn (mp AL b 13) (pl x y z) v := fun v v' => by rw [mp_u2n hw (by omega), mp_u2 hw]
            have g14 : ∀ v v', mp (u2 (u2 AL (b + 1) (84 * 13 + pl x y z) v) (b + 1) (84 * 14 + pl x y z) v') b 14 = upn (mp AL b 14) (pl x y z) v' := fun v v' => by rw [mp_u2 hw, mp_u2n hw (by omega)]
            have g0 : ∀ v v' q, q < 13 → mp (u2 (u2 AL (b + 1) (84 * 13 + pl x y z) v) (b + 1) (84 * 14 + pl x y z) v') b q = mp AL b q := fun v v' q hq => by rw [mp_u2n hw (by omega), mp_u2n hw (by omega)]
            have gc : ∀ v v' c, c ≠ b + 1 → u2 (u2 AL (b + 1) (84 * 13 + pl x y z) v) (b + 1) (84 * 14 + pl x y z) v' c = AL c := fun v v' c hc => by rw [u2_off _ _ _ hc, u2_off _ _ _ hc]
            refine G_aload0 94 d_Mod_tellOne_93 rfl ?_
            refine G_aload0 95 d_Mod_tellOne_94 rfl ?_
            refine G_getR 98 d_Mod_tellOne_95 rfl f_Mod_127 rfl h.sh h.f54 ?_
            refine G_iload5 100 d_Mod_tellOne_98 rfl ?_
            refine G_iconstN 1 101 d_Mod_tellOne_100 rfl rfl ?_
            first | refine G_iaddN 102 d_Mod_tellOne_101 rfl ?_ | refine G_iadd 102 d_Mod_tellOne_101 rfl ?_
            refine G_ialoadv 103 d_Mod_tellOne_102 rfl h.s54 (ix_nI (by omega) (by omega)) (r1.trans ex) ?_
            refine G_aload0 104 d_Mod_tellOne_103 rfl ?_
            refine G_getR 107 d_Mod_tellOne_104 rfl f_Mod_127 rfl h.sh h.f54 ?_
            refine G_iload5 109 d_Mod_tellOne_107 rfl ?_
            refine G_iconstN 2 110 d_Mod_tellOne_109 rfl rfl ?_
            first | refine G_iaddN 111 d_Mod_tellOne_110 rfl ?_ | refine G_iadd 111 d_Mod_tellOne_110 rfl ?_
            refine G_ialoadv 112 d_Mod_tellOne_111 rfl h.s54 (ix_nI (by omega) (by omega)) (r2.trans ey) ?_
            refine G_aload0 113 d_Mod_tellOne_112 rfl ?_
            refine G_getR 116 d_Mod_tellOne_113 rfl f_Mod_127 rfl h.sh h.f54 ?_
            refine G_iload5 118 d_Mod_tellOne_116 rfl ?_
            refine G_iconstN 3 119 d_Mod_tellOne_118 rfl rfl ?_
            first | refine G_iaddN 120 d_Mod_tellOne_119 rfl ?_ | refine G_iadd 120 d_Mod_tellOne_119 rfl ?_
            refine G_ialoadv 121 d_Mod_tellOne_120 rfl h.s54 (ix_nI (by omega) (by omega)) (r3.trans ez) ?_
            refine G_invV3d 124 d_Mod_tellOne_121 rfl e_Mod_176 M_Mod_termOf rfl h.sh (Nat.le_of_ble_eq_true rfl) (Nat.le_of_ble_eq_true rfl) rfl (s_mTermOf (by assumption) (by assumption) (by omega)) ?_
            refine G_istore7 126 d_Mod_tellOne_124 rfl (by decide) rfl ?_
            refine G_aload0 127 d_Mod_tellOne_126 rfl ?_
            refine G_getR 130 d_Mod_tellOne_127 rfl f_Mod_9 rfl h.sh h.f0 ?_
            refine G_bipushN 84 132 d_Mod_tellOne_130 rfl rfl ?_
            refine G_iload1 133 d_Mod_tellOne_132 rfl ?_
            first | refine G_imulN 134 d_Mod_tellOne_133 rfl ?_ | refine G_imul 134 d_Mod_tellOne_133 rfl ?_
            refine G_iload7 136 d_Mod_tellOne_134 rfl ?_
            first | refine G_iaddN 137 d_Mod_tellOne_136 rfl ?_ | refine G_iadd 137 d_Mod_tellOne_136 rfl ?_
            refine G_dup2 138 d_Mod_tellOne_137 rfl rfl rfl ?_
            refine G_laloadv 139 d_Mod_tellOne_138 rfl h.s0 (ix_nI (by omega) (by omega)) e13 ?_
            refine G_iload6 141 d_Mod_tellOne_139 rfl ?_
            refine G_i2l 142 d_Mod_tellOne_141 rfl ?_
            refine G_ladd 143 d_Mod_tellOne_142 rfl ?_
            refine G_lastore 144 d_Mod_tellOne_143 rfl h.s0 (ix_nI (by omega) (by omega)) ?_
            refine G_aload0 145 d_Mod_tellOne_144 rfl ?_
            refine G_dup 146 d_Mod_tellOne_145 rfl rfl ?_
            refine G_getIv 149 d_Mod_tellOne_146 rfl f_Mod_258 rfl h.sh ht ?_
            refine G_aload0 150 d_Mod_tellOne_149 rfl ?_
            refine G_getR 153 d_Mod_tellOne_150 rfl f_Mod_9 rfl h.sh h.f0 ?_
            refine G_sipushN 1176 156 d_Mod_tellOne_153 rfl rfl ?_
            refine G_iload7 158 d_Mod_tellOne_156 rfl ?_
            first | refine G_iaddN 159 d_Mod_tellOne_158 rfl ?_ | refine G_iadd 159 d_Mod_tellOne_158 rfl ?_
            refine G_laloadv 160 d_Mod_tellOne_159 rfl h.s0 (ix_nI (by omega) (by omega)) (e14 _) ?_
            refine G_lconst 0 161 d_Mod_tellOne_160 rfl rfl ?_
            refine G_lcne 169 165 d_Mod_tellOne_161 d_Mod_tellOne_162 rfl rfl (fun h161 => ?_) (fun h161 => ?_)
            · have e : (if mp AL b 14 (pl x y z) = 0 then 1 else 0) = 0 := if_neg h161
              refine G_iconstN 0 170 d_Mod_tellOne_169 rfl rfl ?_
              first | refine G_iaddN 171 d_Mod_tellOne_170 rfl ?_ | refine G_iadd 171 d_Mod_tellOne_170 rfl ?_
              refine G_putI 174 d_Mod_tellOne_171 rfl f_Mod_258 rfl (by intro C T N h; cases h; rfl) h.sh rfl rfl ?_
              refine G_aload0 175 d_Mod_tellOne_174 rfl ?_
              refine G_getR 178 d_Mod_tellOne_175 rfl f_Mod_9 rfl h.sh h.f0 ?_
              refine G_sipushN 1176 181 d_Mod_tellOne_178 rfl rfl ?_
              refine G_iload7 183 d_Mod_tellOne_181 rfl ?_
              first | refine G_iaddN 184 d_Mod_tellOne_183 rfl ?_ | refine G_iadd 184 d_Mod_tellOne_183 rfl ?_
              refine G_lconst 1 185 d_Mod_tellOne_184 rfl rfl ?_
              refine G_lastore 186 d_Mod_tellOne_185 rfl h.s0 (ix_nI (by omega) (by omega)) ?_
              refine G_iconstN 0 187 d_Mod_tellOne_186 rfl rfl ?_
              refine G_iret d_Mod_tellOne_187 rfl ?_
              refine ⟨rfl, rfl, by rw [hB]; rfl, fun e => absurd hB e, fun _ => ?_⟩
              rw [hTt, e]
              exact ⟨hw, rfl, gc _ _, g13 _ _, g14 _ _, g0 _ _⟩
            · have e : (if mp AL b 14 (pl x y z) = 0 then 1 else 0) = 1 := if_pos h161
              refine G_iconstN 1 166 d_Mod_tellOne_165 rfl rfl ?_
              refine G_goto 170 d_Mod_tellOne_166 rfl ?_
              first | refine G_iaddN 171 d_Mod_tellOne_170 rfl ?_ | refine G_iadd 171 d_Mod_tellOne_170 rfl ?_
              refine G_putI 174 d_Mod_tellOne_171 rfl f_Mod_258 rfl (by intro C T N h; cases h; rfl) h.sh rfl rfl ?_
              refine G_aload0 175 d_Mod_tellOne_174 rfl ?_
              refine G_getR 178 d_Mod_tellOne_175 rfl f_Mod_9 rfl h.sh h.f0 ?_
              refine G_sipushN 1176 181 d_Mod_tellOne_178 rfl rfl ?_
              refine G_iload7 183 d_Mod_tellOne_181 rfl ?_
              first | refine G_iaddN 184 d_Mod_tellOne_183 rfl ?_ | refine G_iadd 184 d_Mod_tellOne_183 rfl ?_
              refine G_lconst 1 185 d_Mod_tellOne_184 rfl rfl ?_
              refine G_lastore 186 d_Mod_tellOne_185 rfl h.s0 (ix_nI (by omega) (by omega)) ?_
              refine G_iconstN 0 187 d_Mod_tellOne_186 rfl rfl ?_
              refine G_iret d_Mod_tellOne_187 rfl ?_
              refine ⟨rfl, rfl, by rw [hB]; rfl, fun e => absurd hB e, fun _ => ?_⟩
              rw [hTt, e]
              exact ⟨hw, rfl, gc _ _, g13 _ _, g14 _ _, g0 _ _⟩
          · have hB : tlB row sz (m : Int) = -1 := by rw [hB0, bT_f h85, Bool.and_false]; rfl
            refine G_iconst (-1) 92 d_Mod_tellOne_91 rfl rfl ?_
            refine G_iret d_Mod_tellOne_92 rfl ?_
            exact ⟨rfl, rfl, by rw [hB], fun _ => ⟨rfl, rfl⟩, fun e => absurd e (by rw [hB]; decide)⟩
        · have hB : tlB row sz (m : Int) = -1 := by rw [hB0, bB_f (fun e => h52 (kc.mpr e)), Bool.false_and]; rfl
          refine G_iconst (-1) 92 d_Mod_tellOne_91 rfl rfl ?_
          refine G_iret d_Mod_tellOne_92 rfl ?_
          exact ⟨rfl, rfl, by rw [hB], fun _ => ⟨rfl, rfl⟩, fun e => absurd e (by rw [hB]; decide)⟩
      · have := l18.mp h18
        omega
