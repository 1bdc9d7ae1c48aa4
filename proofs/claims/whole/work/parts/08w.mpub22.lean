/-! ===== the reference: spread ===== -/
def spA (f : Nat → Int64) (o : Nat) (so : Int32) (sz a : Nat) : Nat → Nat × (Nat → Int32) → Nat × (Nat → Int32)
  | 0, q => q
  | i + 1, q => spA f o so sz a i (if ¬ f (rk o i) = 0 ∧ a + 4 * q.1 + 4 ≤ sz then (q.1 + 1, upn (upn (upn (upn q.2 (a + 4 * q.1) (low so (f (rk o i)))) (a + 4 * q.1 + 1) (nI (eX (rk o i)))) (a + 4 * q.1 + 2) (nI (eY (rk o i)))) (a + 4 * q.1 + 3) (nI (eZ (rk o i)))) else q)
def spR (S : ST) (s k a : Nat) : Nat × (Nat → Int32) := spA (tS S s) (tO S) ((tH S).1 k) ((tH S).2.1 k) a 84 (0, (tH S).2.2 k)
def fSpread (S : ST) (s x a : Int32) : Int32 × ST := if (bN s 6 && bN x 4) = true then
    (if (tH S).1 (ni x) = -1 then (-11, S) else if bN a ((tH S).2.1 (ni x) + 1) = true then (nI (spR S (ni s) (ni x) (ni a)).1, stH S ((tH S).1, (tH S).2.1, upn (tH S).2.2 (ni x) (spR S (ni s) (ni x) (ni a)).2)) else (-12, S)) else (-1, S)
theorem sh_up {AJ : FT} {b k w n : Nat} {F : Nat → Nat → Int32} {g : Nat → Int32} {v : Int32} (hr : ∀ i j, i < 4 → j < 40 → AJ (b + 39) (40 * i + j) = upn F k g i j) (hw : w < 40) (hn : n = 40 * k + w) : ∀ i j, i < 4 → j < 40 → u2 AJ (b + 39) n v (b + 39) (40 * i + j) = upn F k (upn g w v) i j := by
  intro i j hi hj
  subst hn
  have h0 := hr i j hi hj
  by_cases e : i = k
  · subst e
    rw [upn_at] at h0 ⊢
    by_cases e2 : j = w
    · rw [e2, u2_at, upn_at]
    · rw [u2_ix _ _ (by omega), upn_ne _ _ e2]; exact h0
  · rw [upn_ne _ _ e] at h0 ⊢
    rw [u2_ix _ _ (by omega)]; exact h0
theorem m_spread {V : GV} {d b : Nat} {S : ST} {s x a : Int32} {X : XT} {FI AI : FT} {AL : LT} (h : MO X b) (hI : MIv S FI AI AL b) (hW : WS S) : G V m_Mod_spread (d + 1) 0 [some (.ref b), some (.int s), some (.int x), some (.int a), none, none, none, none] [] X FI AI AL (fun r X' FI' AI' AL' => r = some (.int (fSpread S s x a).1) ∧ X' = X ∧ MIv (fSpread S s x a).2 FI' AI' AL' b ∧ fM FI FI' AI AI' AL AL' b) := by
  obtain ⟨hG, hO, hSl, -⟩ := id hI
  have hT := hG.1
  have hn9 := hG.2.1
  have ho := hG.2.2.1
  have hrk := hG.2.2.2.1
  have hn7 := hW.2.1.1
  obtain ⟨-, -, -, -, a4, -, -⟩ := hI.de
  refine G_iload1 1 d_Mod_spread_0 rfl ?_
  refine G_invS1b 4 d_Mod_spread_1 rfl e_Mod_182 M_Mod_isSlot (Nat.le_of_ble_eq_true rfl) (Nat.le_of_ble_eq_true rfl) rfl (s_mIsSlot) (fun h1 => G_ifeq1 7 d_Mod_spread_4 14 rfl rfl ?_) (fun h1 => G_ifeq0 7 d_Mod_spread_4 14 rfl rfl ?_)
  · obtain ⟨s, hs, rfl⟩ := h1
    have q1 := bN_t hs (show 6 < 2 ^ 31 by omega)
    have z1 := ni_nI (show s < 2 ^ 31 by omega)
    refine G_iload2 8 d_Mod_spread_7 rfl ?_
    refine G_invS1b 11 d_Mod_spread_8 rfl e_Mod_261 M_Mod_isSheet (Nat.le_of_ble_eq_true rfl) (Nat.le_of_ble_eq_true rfl) rfl (s_mIsSheet) (fun h8 => G_ifne1 14 d_Mod_spread_11 16 rfl rfl ?_) (fun h8 => G_ifne0 14 d_Mod_spread_11 16 rfl rfl ?_)
    · obtain ⟨k, hk, rfl⟩ := h8
      have q2 := bN_t hk (show 4 < 2 ^ 31 by omega)
      have z2 := ni_nI (show k < 2 ^ 31 by omega)
      simp only [fSpread, q1, q2, z1, z2, Bool.and_self, if_true]
      obtain ⟨c1, c2, -⟩ := a4 k hk
      have hws := hW.2.2.2.2.1 k hk
      have hsz : (tH S).2.1 k ≤ 40 := by
        rcases hws with ⟨-, e⟩ | ⟨-, e⟩ <;> omega
      by_cases hm : (tH S).1 k = -1
      · simp only [if_pos hm]
        have c1' : AI (b + 37) k = -1 := by rw [c1, hm]
        refine G_aload0 17 d_Mod_spread_16 rfl ?_
        refine G_getR 20 d_Mod_spread_17 rfl f_Mod_121 rfl h.sh h.f52 ?_
        refine G_iload2 21 d_Mod_spread_20 rfl ?_
        refine G_ialoadv 22 d_Mod_spread_21 rfl h.s52 (ix_nI (by omega) (by omega)) c1' ?_
        refine G_ifge 28 25 d_Mod_spread_22 rfl rfl (fun h22 => ?_) (fun h22 => ?_)
        · exact absurd h22 (by decide)
        · refine G_bipush (-11) 27 d_Mod_spread_25 rfl rfl ?_
          refine G_iret d_Mod_spread_27 rfl ?_
          exact ⟨rfl, rfl, hI, fM.rf⟩
      · have pc : 0 ≤ (tH S).1 k := by
          rcases hws with ⟨e, -⟩ | ⟨e | e, -⟩
          · exact absurd e hm
          · rw [e]; decide
          · rw [e]; decide
        simp only [if_neg hm]
        have kw : ((0 : Int64).toInt ≤ a.toInt64.toInt ∧ a.toInt64.toInt ≤ (nI ((tH S).2.1 k)).toInt64.toInt) ↔ isN a ((tH S).2.1 k + 1) := by
          rw [toL, toL, nI_toInt (by omega), isN_iff (by omega), show (0 : Int64).toInt = 0 from rfl]; omega
        refine G_aload0 17 d_Mod_spread_16 rfl ?_
        refine G_getR 20 d_Mod_spread_17 rfl f_Mod_121 rfl h.sh h.f52 ?_
        refine G_iload2 21 d_Mod_spread_20 rfl ?_
        refine G_ialoadv 22 d_Mod_spread_21 rfl h.s52 (ix_nI (by omega) (by omega)) c1 ?_
        refine G_ifge 28 25 d_Mod_spread_22 rfl rfl (fun h22 => ?_) (fun h22 => ?_)
        · refine G_iload3 29 d_Mod_spread_28 rfl ?_
          refine G_i2l 30 d_Mod_spread_29 rfl ?_
          refine G_lconst 0 31 d_Mod_spread_30 rfl rfl ?_
          refine G_aload0 32 d_Mod_spread_31 rfl ?_
          refine G_getR 35 d_Mod_spread_32 rfl f_Mod_124 rfl h.sh h.f53 ?_
          refine G_iload2 36 d_Mod_spread_35 rfl ?_
          refine G_ialoadv 37 d_Mod_spread_36 rfl h.s53 (ix_nI (by omega) (by omega)) c2 ?_
          refine G_i2l 38 d_Mod_spread_37 rfl ?_
          refine G_invS3b 41 d_Mod_spread_38 rfl e_Mod_139 M_Mod_in (Nat.le_of_ble_eq_true rfl) (Nat.le_of_ble_eq_true rfl) rfl (s_mIn) (fun h38 => G_ifne1 44 d_Mod_spread_41 47 rfl rfl ?_) (fun h38 => G_ifne0 44 d_Mod_spread_41 47 rfl rfl ?_)
          · obtain ⟨a, ha, rfl⟩ := kw.mp h38
            have q3 := bN_t ha (show (tH S).2.1 k + 1 < 2 ^ 31 by omega)
            have z3 := ni_nI (show a < 2 ^ 31 by omega)
            simp only [q3, z3, if_true]
            clear kw h38
            have L : ∀ m, m ≤ 84 → ∀ (q : Nat × (Nat → Int32)) (AJ : FT) (v6 v7 : Option Value), (∀ c, c ≠ b + 39 → AJ c = AI c) → (∀ i j, i < 4 → j < 40 → AJ (b + 39) (40 * i + j) = upn (tH S).2.2 k q.2 i j) → a + 4 * q.1 ≤ (tH S).2.1 k → spA (tS S s) (tO S) ((tH S).1 k) ((tH S).2.1 k) a m q = spR S s k a → G V m_Mod_spread (d + 1) 54 [some (.ref b), some (.int (nI s)), some (.int (nI k)), some (.int (nI a)), some (.int (nI q.1)), some (.int (dI m)), v6, v7] [] X FI AJ AL (fun r X' FI' AI' AL' => r = some (.int (nI (spR S s k a).1)) ∧ X' = X ∧ MIv (stH S ((tH S).1, (tH S).2.1, upn (tH S).2.2 k (spR S s k a).2)) FI' AI' AL' b ∧ fM FI FI' AI AI' AL AL' b) := by
              refine downto ?_ ?_
              · intro _ q AJ v6 v7 k1 k2 k3 k4
                rw [spA] at k4
                subst k4
                refine G_iload5 56 d_Mod_spread_54 rfl ?_
                first | refine G_ifltD 196 59 d_Mod_spread_56 rfl rfl (by omega) (fun h56 => ?_) (fun j h56 => ?_) | refine G_iflt 196 59 d_Mod_spread_56 rfl rfl (fun h56 => ?_) (fun h56 => ?_)
                · refine G_iload4 198 d_Mod_spread_196 rfl ?_
                  refine G_iret d_Mod_spread_198 rfl ?_
                  have hsh : MSh ((tH S).1, (tH S).2.1, upn (tH S).2.2 k (spR S s k a).2) AJ b := fun i hi => ⟨by rw [k1 _ (by omega)]; exact (a4 i hi).1, by rw [k1 _ (by omega)]; exact (a4 i hi).2.1, fun j hj => k2 i j hi hj⟩
                  have := hI.sh (fun c hc => k1 c (by omega)) hsh
                  exact ⟨rfl, rfl, this.1, this.2⟩
                · omega
              · intro m ih hm84 q AJ v6 v7 k1 k2 k3 k4
                rw [dI_s]
                rw [spA] at k4
                have ht := (rk_ok (tO S) ho m (by omega)).2.2.1
                have e7 : AJ (b + 7) m = nI (rk (tO S) m) := by rw [k1 _ (by omega)]; exact hrk m (by omega)
                have e1 : AL (b + 1) (84 * s + rk (tO S) m) = tS S s (rk (tO S) m) := by rw [← hSl s hs, mp_at ht]
                have e38 : AJ (b + 38) k = nI ((tH S).2.1 k) := by rw [k1 _ (by omega)]; exact c2
                have T := hT.1 (rk (tO S) m) ht
                have hlow := s_mLowest (V := V) (d := d) (v := tS S s (rk (tO S) m)) (FI := FI) (AI := AJ) (AL := AL) h hk
                rw [k1 (b + 37) (by omega), c1] at hlow
                have tX1 : ∀ n v, u2 AJ (b + 39) n v (b + 3) (rk (tO S) m) = nI (eX (rk (tO S) m)) := fun n v => by rw [u2_off _ _ _ (by omega), k1 _ (by omega)]; exact T.1
                have tY1 : ∀ n v n' v', u2 (u2 AJ (b + 39) n v) (b + 39) n' v' (b + 4) (rk (tO S) m) = nI (eY (rk (tO S) m)) := fun n v n' v' => by rw [u2_off _ _ _ (by omega), u2_off _ _ _ (by omega), k1 _ (by omega)]; exact T.2.1
                have tZ1 : ∀ n v n' v' n'' v'', u2 (u2 (u2 AJ (b + 39) n v) (b + 39) n' v') (b + 39) n'' v'' (b + 5) (rk (tO S) m) = nI (eZ (rk (tO S) m)) := fun n v n' v' n'' v'' => by rw [u2_off _ _ _ (by omega), u2_off _ _ _ (by omega), u2_off _ _ _ (by omega), k1 _ (by omega)]; exact T.2.2
                refine G_iload5 56 d_Mod_spread_54 rfl ?_
                first | refine G_ifltD 196 59 d_Mod_spread_56 rfl rfl (by omega) (fun h56 => ?_) (fun j h56 => ?_) | refine G_iflt 196 59 d_Mod_spread_56 rfl rfl (fun h56 => ?_) (fun h56 => ?_)
                · exact absurd h56 (nI_pos (by omega))
                · refine G_aload0 60 d_Mod_spread_59 rfl ?_
                  refine G_getR 63 d_Mod_spread_60 rfl f_Mod_31 rfl h.sh h.f6 ?_
                  refine G_iload5 65 d_Mod_spread_63 rfl ?_
                  refine G_ialoadv 66 d_Mod_spread_65 rfl h.s6 (ix_nI (by omega) (by omega)) e7 ?_
                  refine G_istore6 68 d_Mod_spread_66 rfl (by decide) rfl ?_
                  refine G_aload0 69 d_Mod_spread_68 rfl ?_
                  refine G_getR 72 d_Mod_spread_69 rfl f_Mod_9 rfl h.sh h.f0 ?_
                  refine G_bipushN 84 74 d_Mod_spread_72 rfl rfl ?_
                  refine G_iload1 75 d_Mod_spread_74 rfl ?_
                  first | refine G_imulN 76 d_Mod_spread_75 rfl ?_ | refine G_imul 76 d_Mod_spread_75 rfl ?_
                  refine G_iload6 78 d_Mod_spread_76 rfl ?_
                  first | refine G_iaddN 79 d_Mod_spread_78 rfl ?_ | refine G_iadd 79 d_Mod_spread_78 rfl ?_
                  refine G_laloadv 80 d_Mod_spread_79 rfl h.s0 (ix_nI (by omega) (by omega)) e1 ?_
                  refine G_lconst 0 81 d_Mod_spread_80 rfl rfl ?_
                  refine G_lceq 190 85 d_Mod_spread_81 d_Mod_spread_82 rfl rfl (fun h81 => ?_) (fun h81 => ?_)
                  · rw [if_neg (fun e => e.1 h81)] at k4
                    first | refine G_iinc5 _ 193 d_Mod_spread_190 rfl (by decide) rfl (dI_m1 _) ?_ | refine G_iinc5 _ 193 d_Mod_spread_190 rfl (by decide) rfl rfl ?_
                    refine G_goto 54 d_Mod_spread_193 rfl ?_
                    exact ih (by omega) q AJ _ _ k1 k2 k3 k4
                  · refine G_iload3 86 d_Mod_spread_85 rfl ?_
                    refine G_iconstN 4 87 d_Mod_spread_86 rfl rfl ?_
                    refine G_iload4 89 d_Mod_spread_87 rfl ?_
                    first | refine G_imulN 90 d_Mod_spread_89 rfl ?_ | refine G_imul 90 d_Mod_spread_89 rfl ?_
                    first | refine G_iaddN 91 d_Mod_spread_90 rfl ?_ | refine G_iadd 91 d_Mod_spread_90 rfl ?_
                    refine G_iconstN 4 92 d_Mod_spread_91 rfl rfl ?_
                    first | refine G_iaddN 93 d_Mod_spread_92 rfl ?_ | refine G_iadd 93 d_Mod_spread_92 rfl ?_
                    refine G_aload0 94 d_Mod_spread_93 rfl ?_
                    refine G_getR 97 d_Mod_spread_94 rfl f_Mod_124 rfl h.sh h.f53 ?_
                    refine G_iload2 98 d_Mod_spread_97 rfl ?_
                    refine G_ialoadv 99 d_Mod_spread_98 rfl h.s53 (ix_nI (by omega) (by omega)) e38 ?_
                    first | refine G_icgtN 190 102 d_Mod_spread_99 rfl rfl (by omega) (by omega) (fun h99 => ?_) (fun h99 => ?_) | refine G_icgt 190 102 d_Mod_spread_99 rfl rfl (fun h99 => ?_) (fun h99 => ?_)
                    · rw [if_neg (fun e => by omega)] at k4
                      first | refine G_iinc5 _ 193 d_Mod_spread_190 rfl (by decide) rfl (dI_m1 _) ?_ | refine G_iinc5 _ 193 d_Mod_spread_190 rfl (by decide) rfl rfl ?_
                      refine G_goto 54 d_Mod_spread_193 rfl ?_
                      exact ih (by omega) q AJ _ _ k1 k2 k3 k4
                    · rw [if_pos ⟨h81, by omega⟩] at k4
                      refine G_bipushN 40 104 d_Mod_spread_102 rfl rfl ?_
                      refine G_iload2 105 d_Mod_spread_104 rfl ?_
                      first | refine G_imulN 106 d_Mod_spread_105 rfl ?_ | refine G_imul 106 d_Mod_spread_105 rfl ?_
                      refine G_iload3 107 d_Mod_spread_106 rfl ?_
                      first | refine G_iaddN 108 d_Mod_spread_107 rfl ?_ | refine G_iadd 108 d_Mod_spread_107 rfl ?_
                      refine G_iconstN 4 109 d_Mod_spread_108 rfl rfl ?_
                      refine G_iload4 111 d_Mod_spread_109 rfl ?_
                      first | refine G_imulN 112 d_Mod_spread_111 rfl ?_ | refine G_imul 112 d_Mod_spread_111 rfl ?_
                      first | refine G_iaddN 113 d_Mod_spread_112 rfl ?_ | refine G_iadd 113 d_Mod_spread_112 rfl ?_
                      refine G_istore7 115 d_Mod_spread_113 rfl (by decide) rfl ?_
                      refine G_aload0 116 d_Mod_spread_115 rfl ?_
                      refine G_getR 119 d_Mod_spread_116 rfl f_Mod_127 rfl h.sh h.f54 ?_
                      refine G_iload7 121 d_Mod_spread_119 rfl ?_
                      refine G_aload0 122 d_Mod_spread_121 rfl ?_
                      refine G_iload2 123 d_Mod_spread_122 rfl ?_
                      refine G_aload0 124 d_Mod_spread_123 rfl ?_
                      refine G_getR 127 d_Mod_spread_124 rfl f_Mod_9 rfl h.sh h.f0 ?_
                      refine G_bipushN 84 129 d_Mod_spread_127 rfl rfl ?_
                      refine G_iload1 130 d_Mod_spread_129 rfl ?_
                      first | refine G_imulN 131 d_Mod_spread_130 rfl ?_ | refine G_imul 131 d_Mod_spread_130 rfl ?_
                      refine G_iload6 133 d_Mod_spread_131 rfl ?_
                      first | refine G_iaddN 134 d_Mod_spread_133 rfl ?_ | refine G_iadd 134 d_Mod_spread_133 rfl ?_
                      refine G_laloadv 135 d_Mod_spread_134 rfl h.s0 (ix_nI (by omega) (by omega)) e1 ?_
                      refine G_invV2d 138 d_Mod_spread_135 rfl e_Mod_270 M_Mod_lowest rfl h.sh (Nat.le_of_ble_eq_true rfl) (Nat.le_of_ble_eq_true rfl) rfl (hlow) ?_
                      refine G_iastore 139 d_Mod_spread_138 rfl h.s54 (ix_nI (by omega) (by omega)) ?_
                      refine G_aload0 140 d_Mod_spread_139 rfl ?_
                      refine G_getR 143 d_Mod_spread_140 rfl f_Mod_127 rfl h.sh h.f54 ?_
                      refine G_iload7 145 d_Mod_spread_143 rfl ?_
                      refine G_iconstN 1 146 d_Mod_spread_145 rfl rfl ?_
                      first | refine G_iaddN 147 d_Mod_spread_146 rfl ?_ | refine G_iadd 147 d_Mod_spread_146 rfl ?_
                      refine G_aload0 148 d_Mod_spread_147 rfl ?_
                      refine G_getR 151 d_Mod_spread_148 rfl f_Mod_18 rfl h.sh h.f2 ?_
                      refine G_iload6 153 d_Mod_spread_151 rfl ?_
                      refine G_ialoadv 154 d_Mod_spread_153 rfl h.s2 (ix_nI (by omega) (by omega)) (tX1 _ _) ?_
                      refine G_iastore 155 d_Mod_spread_154 rfl h.s54 (ix_nI (by omega) (by omega)) ?_
                      refine G_aload0 156 d_Mod_spread_155 rfl ?_
                      refine G_getR 159 d_Mod_spread_156 rfl f_Mod_127 rfl h.sh h.f54 ?_
                      refine G_iload7 161 d_Mod_spread_159 rfl ?_
                      refine G_iconstN 2 162 d_Mod_spread_161 rfl rfl ?_
                      first | refine G_iaddN 163 d_Mod_spread_162 rfl ?_ | refine G_iadd 163 d_Mod_spread_162 rfl ?_
                      refine G_aload0 164 d_Mod_spread_163 rfl ?_
                      refine G_getR 167 d_Mod_spread_164 rfl f_Mod_22 rfl h.sh h.f3 ?_
                      refine G_iload6 169 d_Mod_spread_167 rfl ?_
                      refine G_ialoadv 170 d_Mod_spread_169 rfl h.s3 (ix_nI (by omega) (by omega)) (tY1 _ _ _ _) ?_
                      refine G_iastore 171 d_Mod_spread_170 rfl h.s54 (ix_nI (by omega) (by omega)) ?_
                      refine G_aload0 172 d_Mod_spread_171 rfl ?_
                      refine G_getR 175 d_Mod_spread_172 rfl f_Mod_127 rfl h.sh h.f54 ?_
                      refine G_iload7 177 d_Mod_spread_175 rfl ?_
                      refine G_iconstN 3 178 d_Mod_spread_177 rfl rfl ?_
                      first | refine G_iaddN 179 d_Mod_spread_178 rfl ?_ | refine G_iadd 179 d_Mod_spread_178 rfl ?_
                      refine G_aload0 180 d_Mod_spread_179 rfl ?_
                      refine G_getR 183 d_Mod_spread_180 rfl f_Mod_25 rfl h.sh h.f4 ?_
                      refine G_iload6 185 d_Mod_spread_183 rfl ?_
                      refine G_ialoadv 186 d_Mod_spread_185 rfl h.s4 (ix_nI (by omega) (by omega)) (tZ1 _ _ _ _ _ _) ?_
                      refine G_iastore 187 d_Mod_spread_186 rfl h.s54 (ix_nI (by omega) (by omega)) ?_
                      first | refine G_iincN4 190 d_Mod_spread_187 rfl (by decide) rfl ?_ | refine G_iinc4 _ 190 d_Mod_spread_187 rfl (by decide) rfl rfl ?_
                      first | refine G_iinc5 _ 193 d_Mod_spread_190 rfl (by decide) rfl (dI_m1 _) ?_ | refine G_iinc5 _ 193 d_Mod_spread_190 rfl (by decide) rfl rfl ?_
                      refine G_goto 54 d_Mod_spread_193 rfl ?_
                      refine ih (by omega) _ _ _ _ (fun c hc => by rw [u2_off _ _ _ hc, u2_off _ _ _ hc, u2_off _ _ _ hc, u2_off _ _ _ hc]; exact k1 c hc) ?_ ?_ k4
                      · exact sh_up (sh_up (sh_up (sh_up k2 (by omega) (by omega)) (by omega) (by omega)) (by omega) (by omega)) (by omega) (by omega)
                      · show a + 4 * (q.1 + 1) ≤ (tH S).2.1 k
                        omega
            refine G_iconstN 0 48 d_Mod_spread_47 rfl rfl ?_
            refine G_istore4 50 d_Mod_spread_48 rfl (by decide) rfl ?_
            refine G_bipushN 83 52 d_Mod_spread_50 rfl rfl ?_
            refine G_istore5 54 d_Mod_spread_52 rfl (by decide) rfl ?_
            have := L 84 (Nat.le_refl _) (0, (tH S).2.2 k) AI none none (fun _ _ => rfl) (fun i j hi hj => by
              rw [(a4 i hi).2.2 j hj]
              by_cases e : i = k
              · rw [e, upn_at]
              · rw [upn_ne _ _ e]) (by show a + 4 * 0 ≤ (tH S).2.1 k; omega) rfl
            rw [show (84 : Nat) = 83 + 1 from rfl, dI_s] at this
            exact this
          · have q3 := bN_f (fun e => h38 (kw.mpr e)) (show (tH S).2.1 k + 1 < 2 ^ 31 by omega)
            simp only [q3, Bool.false_eq_true, if_false]
            refine G_bipush (-12) 46 d_Mod_spread_44 rfl rfl ?_
            refine G_iret d_Mod_spread_46 rfl ?_
            exact ⟨rfl, rfl, hI, fM.rf⟩
        · exact absurd pc h22
    · have q2 := bN_f h8 (show 4 < 2 ^ 31 by omega)
      simp only [fSpread, q2, Bool.and_false, Bool.false_eq_true, if_false]
      refine G_iconst (-1) 15 d_Mod_spread_14 rfl rfl ?_
      refine G_iret d_Mod_spread_15 rfl ?_
      exact ⟨rfl, rfl, hI, fM.rf⟩
  · have q1 := bN_f h1 (show 6 < 2 ^ 31 by omega)
    simp only [fSpread, q1, Bool.false_and, Bool.false_eq_true, if_false]
    refine G_iconst (-1) 15 d_Mod_spread_14 rfl rfl ?_
    refine G_iret d_Mod_spread_15 rfl ?_
    exact ⟨rfl, rfl, hI, fM.rf⟩
