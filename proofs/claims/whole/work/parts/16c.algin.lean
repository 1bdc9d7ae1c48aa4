/-! ===== the class is made: its constructor, from its end ===== -/
theorem pK_m {n : Nat} {K : List (Nat × Nat × Nat)} {q : Nat × Nat × Nat} (h : q ∈ K) : ∀ k, q ∈ pK n K k
  | 0 => h
  | k + 1 => List.mem_cons_of_mem _ (pK_m h k)
theorem sK_m {n : Nat} {K : List (Nat × Nat × Nat)} {q : Nat × Nat × Nat} (h : q ∈ K) : ∀ k, q ∈ sK n K k
  | 0 => h
  | k + 1 => List.mem_cons_of_mem _ (sK_m h k)
theorem lK_m {n : Nat} {K : List (Nat × Nat × Nat)} {q : Nat × Nat × Nat} (h : q ∈ K) : ∀ k, q ∈ lK n K k
  | 0 => h
  | k + 1 => List.mem_cons_of_mem _ (List.mem_cons_of_mem _ (lK_m h k))
/-- what the class's constructor leaves -/
def AP (X0 : XT) (lo : Nat) : PT := fun r X' FI' AI' AL' => r = none ∧ LY algLL X0 X' lo 110 mAl akE aaE ∧ FI' = fS lo 4 ∧ AL' = zL0 ∧ (∀ b, (∀ i, i < 7 → b ≠ cta lo i) → AI' b = aR lo b) ∧ TBL AI' (cta lo) [] ∧ ∀ j, j < 84 → AI' (lo + 34) j = nI 0
theorem al_239 {V : GV} {d lo : Nat} {X0 X : XT} {v1 : Option Value} (y : LY algLL X0 X lo 110 mAl akE aaE) : G V m_Alg_init (d + 4) 239 [some (.ref lo), v1] [] X (fS lo 4) (aR lo) zL0 (AP X0 lo) := by
  have h := alg_co y
  have hb := s_build (V := V) (d := d) (AL := zL0) h.to h.go (⟨by rw [fS_o (by intro i hi; omega) 4 (by omega)]; rfl, by omega, fun i hi => by omega⟩ : GLd (fS lo 4) (aR lo) (lo + 4) (cga lo) 0 (fun _ => 0)) (fun i hi => by unfold cga cta; omega) (fun i j hi => by omega)
  refine G_aload0 240 d_Alg_init_239 rfl ?_
  refine G_getR 243 d_Alg_init_240 rfl f_Alg_34 rfl h.sh h.f3 ?_
  refine G_aload0 244 d_Alg_init_243 rfl ?_
  refine G_getR 247 d_Alg_init_244 rfl f_Alg_27 rfl h.sh h.f2 ?_
  refine G_invV1 250 d_Alg_init_247 rfl e_Alg_105 M_Tab_build rfl h.to.1 (Nat.le_of_ble_eq_true rfl) (Nat.le_of_ble_eq_true rfl) rfl (G.conseq (hb) (fun r247 X247 FI247 AI247 AL247 h247 => ?_))
  obtain ⟨h1, h2, h3, h4, h5, h6, h7⟩ := h247
  subst h1 h2 h3 h4
  refine G_vret d_Alg_init_250 rfl ?_
  exact ⟨rfl, y, rfl, rfl, h5, h6, h7⟩
theorem al_214 {V : GV} {d lo : Nat} {X0 : XT} : ∀ k, k ≤ 8 → ∀ X, LY algLL X0 X lo (86 + 3 * k) (5301 + 88 * k) (lK 86 (sK 78 (pK 66 ak14 6) 4) k) (lA 55 86 (pA 54 78 (pA 1 66 ak8 6) 4) k) → G V m_Alg_init (d + 4) 214 [some (.ref lo), some (.int (nI k))] [] X (fS lo 4) (aR lo) zL0 (AP X0 lo) := by
  refine upto ?_ ?_
  · intro X y
    refine G_iload1 215 d_Alg_init_214 rfl ?_
    refine G_bipushN 8 217 d_Alg_init_215 rfl rfl ?_
    first | refine G_icgeN 239 220 d_Alg_init_217 rfl rfl (by omega) (by omega) (fun h217 => ?_) (fun h217 => ?_) | refine G_icge 239 220 d_Alg_init_217 rfl rfl (fun h217 => ?_) (fun h217 => ?_)
    · exact al_239 y
    · omega
  · intro k hk ih X y
    have hz : ZZ (fS lo 4) (aR lo) zL0 (x_sz X) := zzS (by omega) (by rw [y.1]; omega)
    have hP := s_linkInit (V := V) (d := d + 1) y (fun i q hq => by
      rw [(show ∀ k, k < 8 → ∀ i, i < 3 → algLL[86 + 3 * k + i]? = linkLL[i]? by decide) k hk i (List.getElem?_eq_some_iff.mp hq).1]; exact hq) hz
    refine G_iload1 215 d_Alg_init_214 rfl ?_
    refine G_bipushN 8 217 d_Alg_init_215 rfl rfl ?_
    first | refine G_icgeN 239 220 d_Alg_init_217 rfl rfl (by omega) (by omega) (fun h217 => ?_) (fun h217 => ?_) | refine G_icge 239 220 d_Alg_init_217 rfl rfl (fun h217 => ?_) (fun h217 => ?_)
    · omega
    · refine G_aload0 221 d_Alg_init_220 rfl ?_
      refine G_getR 224 d_Alg_init_221 rfl f_Alg_60 rfl (y.shA 0 rfl (by omega) rfl) (y.frA 0 55 rfl rfl (lK_m (by decide) _)) ?_
      refine G_iload1 225 d_Alg_init_224 rfl ?_
      refine G_new0 (ci := 3) (T := T_Link) 228 d_Alg_init_225 rfl c_Alg_58 q_Link rfl (hz.1 _ (Nat.le_refl _)) ?_
      refine G_dup 229 d_Alg_init_228 rfl rfl ?_
      refine G_invIN0 232 d_Alg_init_229 rfl e_Alg_104 M_Link_init rfl (Nat.le_of_ble_eq_true rfl) (Nat.le_of_ble_eq_true rfl) rfl (G.conseq (hP) (fun r229 X229 FI229 AI229 AL229 h229 => ?_))
      obtain ⟨h1, y2, h3, h4, h5⟩ := h229
      subst h1 h3 h4 h5
      refine G_aastX (t := 5) (w := 8) (j0 := k) (ci := 3) (w2 := 3) 233 d_Alg_init_232 rfl (y2.shA 55 rfl (by omega) rfl) (by decide) (by decide) (ix_nI (by omega) (by omega)) (y2.shA (86 + 3 * k) y.1 (by omega) ((show ∀ k, k < 8 → algLL[86 + 3 * k]? = some (13, 3) by decide) k hk)) rfl rfl ?_
      have y3 := y2.arr (c := 55) (j := k) (v := 86 + 3 * k) (a := lo + 55) (x := some (x_sz X)) rfl (congrArg some y.1) (by omega) (lA_no (c := 0) (i := 0) (by decide) k)
      first | refine G_iincN1 236 d_Alg_init_233 rfl (by decide) rfl ?_ | refine G_iinc1 _ 236 d_Alg_init_233 rfl (by decide) rfl rfl ?_
      refine G_goto 214 d_Alg_init_236 rfl ?_
      exact ih _ y3
theorem al_188 {V : GV} {d lo : Nat} {X0 : XT} : ∀ k, k ≤ 4 → ∀ X, LY algLL X0 X lo (78 + 2 * k) (5129 + 43 * k) (sK 78 (pK 66 ak14 6) k) (pA 54 78 (pA 1 66 ak8 6) k) → G V m_Alg_init (d + 4) 188 [some (.ref lo), some (.int (nI k))] [] X (fS lo k) (aR lo) zL0 (AP X0 lo) := by
  refine upto ?_ ?_
  · intro X y
    refine G_iload1 189 d_Alg_init_188 rfl ?_
    refine G_iconstN 4 190 d_Alg_init_189 rfl rfl ?_
    first | refine G_icgeN 212 193 d_Alg_init_190 rfl rfl (by omega) (by omega) (fun h190 => ?_) (fun h190 => ?_) | refine G_icge 212 193 d_Alg_init_190 rfl rfl (fun h190 => ?_) (fun h190 => ?_)
    · refine G_iconstN 0 213 d_Alg_init_212 rfl rfl ?_
      refine G_istore1 214 d_Alg_init_213 rfl (by decide) rfl ?_
      exact al_214 0 (Nat.zero_le _) X y
    · omega
  · intro k hk ih X y
    have hz : ZZ (fS lo k) (aR lo) zL0 (x_sz X) := zzS (by omega) (by rw [y.1]; omega)
    have hP := s_sheetInit (V := V) (d := d + 2) y (fun i q hq => by
      rw [(show ∀ k, k < 4 → ∀ i, i < 2 → algLL[78 + 2 * k + i]? = sheetLL[i]? by decide) k hk i (List.getElem?_eq_some_iff.mp hq).1]; exact hq) hz
    refine G_iload1 189 d_Alg_init_188 rfl ?_
    refine G_iconstN 4 190 d_Alg_init_189 rfl rfl ?_
    first | refine G_icgeN 212 193 d_Alg_init_190 rfl rfl (by omega) (by omega) (fun h190 => ?_) (fun h190 => ?_) | refine G_icge 212 193 d_Alg_init_190 rfl rfl (fun h190 => ?_) (fun h190 => ?_)
    · omega
    · refine G_aload0 194 d_Alg_init_193 rfl ?_
      refine G_getR 197 d_Alg_init_194 rfl f_Alg_54 rfl (y.shA 0 rfl (by omega) rfl) (y.frA 0 54 rfl rfl (sK_m (by decide) _)) ?_
      refine G_iload1 198 d_Alg_init_197 rfl ?_
      refine G_new0 (ci := 8) (T := T_Sheet) 201 d_Alg_init_198 rfl c_Alg_52 q_Sheet rfl (hz.1 _ (Nat.le_refl _)) ?_
      refine G_dup 202 d_Alg_init_201 rfl rfl ?_
      refine G_invIN0 205 d_Alg_init_202 rfl e_Alg_103 M_Sheet_init rfl (Nat.le_of_ble_eq_true rfl) (Nat.le_of_ble_eq_true rfl) rfl (G.conseq (hP) (fun r202 X202 FI202 AI202 AL202 h202 => ?_))
      obtain ⟨h1, y2, h3, h4, h5⟩ := h202
      subst h1 h3 h4 h5
      refine G_aastX (t := 4) (w := 4) (j0 := k) (ci := 8) (w2 := 3) 206 d_Alg_init_205 rfl (y2.shA 54 rfl (by omega) rfl) (by decide) (by decide) (ix_nI (by omega) (by omega)) (y2.shA (78 + 2 * k) y.1 (by omega) ((show ∀ k, k < 4 → algLL[78 + 2 * k]? = some (18, 3) by decide) k hk)) rfl rfl ?_
      have y3 := y2.arr (c := 54) (j := k) (v := 78 + 2 * k) (a := lo + 54) (x := some (x_sz X)) rfl (congrArg some y.1) (by omega) (pA_no (c := 0) (i := 0) (by decide) k)
      first | refine G_iincN1 209 d_Alg_init_206 rfl (by decide) rfl ?_ | refine G_iinc1 _ 209 d_Alg_init_206 rfl (by decide) rfl rfl ?_
      refine G_goto 188 d_Alg_init_209 rfl ?_
      rw [show u2 (fS lo k) (x_sz X) 0 (-1) = fS lo (k + 1) by rw [y.1, ← Nat.add_assoc]; rfl]
      exact ih _ y3
theorem al_161 {V : GV} {d lo : Nat} {X0 : XT} : ∀ k, k ≤ 6 → ∀ X, LY algLL X0 X lo (66 + 2 * k) (4619 + 85 * k) (pK 66 ak14 k) (pA 1 66 ak8 k) → G V m_Alg_init (d + 4) 161 [some (.ref lo), some (.int (nI k))] [] X (fS lo 0) (aR lo) zL0 (AP X0 lo) := by
  refine upto ?_ ?_
  · intro X y
    refine G_iload1 162 d_Alg_init_161 rfl ?_
    refine G_bipushN 6 164 d_Alg_init_162 rfl rfl ?_
    first | refine G_icgeN 186 167 d_Alg_init_164 rfl rfl (by omega) (by omega) (fun h164 => ?_) (fun h164 => ?_) | refine G_icge 186 167 d_Alg_init_164 rfl rfl (fun h164 => ?_) (fun h164 => ?_)
    · refine G_iconstN 0 187 d_Alg_init_186 rfl rfl ?_
      refine G_istore1 188 d_Alg_init_187 rfl (by decide) rfl ?_
      exact al_188 0 (Nat.zero_le _) X y
    · omega
  · intro k hk ih X y
    have hz : ZZ (fS lo 0) (aR lo) zL0 (x_sz X) := zzA (by rw [y.1]; omega)
    have hP := s_polyI0 (V := V) (d := d + 2) y (fun i q hq => by
      rw [(show ∀ k, k < 6 → ∀ i, i < 2 → algLL[66 + 2 * k + i]? = polyLL[i]? by decide) k hk i (List.getElem?_eq_some_iff.mp hq).1]; exact hq) hz
    refine G_iload1 162 d_Alg_init_161 rfl ?_
    refine G_bipushN 6 164 d_Alg_init_162 rfl rfl ?_
    first | refine G_icgeN 186 167 d_Alg_init_164 rfl rfl (by omega) (by omega) (fun h164 => ?_) (fun h164 => ?_) | refine G_icge 186 167 d_Alg_init_164 rfl rfl (fun h164 => ?_) (fun h164 => ?_)
    · omega
    · refine G_aload0 168 d_Alg_init_167 rfl ?_
      refine G_getR 171 d_Alg_init_168 rfl f_Alg_13 rfl (y.shA 0 rfl (by omega) rfl) (y.frA 0 1 rfl rfl (pK_m (by decide) _)) ?_
      refine G_iload1 172 d_Alg_init_171 rfl ?_
      refine G_new0 (ci := 4) (T := T_Poly) 175 d_Alg_init_172 rfl c_Alg_11 q_Poly rfl (hz.1 _ (Nat.le_refl _)) ?_
      refine G_dup 176 d_Alg_init_175 rfl rfl ?_
      refine G_invIN0 179 d_Alg_init_176 rfl e_Alg_64 M_Poly_init rfl (Nat.le_of_ble_eq_true rfl) (Nat.le_of_ble_eq_true rfl) rfl (G.conseq (hP) (fun r176 X176 FI176 AI176 AL176 h176 => ?_))
      obtain ⟨h1, y2, h3, h4, h5⟩ := h176
      subst h1 h3 h4 h5
      refine G_aastX (t := 3) (w := 6) (j0 := k) (ci := 4) (w2 := 1) 180 d_Alg_init_179 rfl (y2.shA 1 rfl (by omega) rfl) (by decide) (by decide) (ix_nI (by omega) (by omega)) (y2.shA (66 + 2 * k) y.1 (by omega) ((show ∀ k, k < 6 → algLL[66 + 2 * k]? = some (14, 1) by decide) k hk)) rfl rfl ?_
      have y3 := y2.arr (c := 1) (j := k) (v := 66 + 2 * k) (a := lo + 1) (x := some (x_sz X)) rfl (congrArg some y.1) (by omega) (pA_no (c := 0) (i := 0) (by decide) k)
      first | refine G_iincN1 183 d_Alg_init_180 rfl (by decide) rfl ?_ | refine G_iinc1 _ 183 d_Alg_init_180 rfl (by decide) rfl rfl ?_
      refine G_goto 161 d_Alg_init_183 rfl ?_
      exact ih _ y3
theorem al_129 {V : GV} {d lo : Nat} {X0 X : XT} (y : LY algLL X0 X lo 66 4619 ak14 ak8) : G V m_Alg_init (d + 4) 129 [some (.ref lo), none] [] X zI0 (aR lo) zL0 (AP X0 lo) := by
  refine G_aload0 130 d_Alg_init_129 rfl ?_
  refine G_null 131 d_Alg_init_130 rfl ?_
  refine G_putX (x := none) false 134 d_Alg_init_131 rfl f_Alg_82 rfl rfl (by intro C T N h; cases h; rfl) (fun h => by cases h) (y.shA 0 rfl (by omega) rfl) rfl rfl ?_
  have y1 := y.pnull (c := 0) (j := 12) (a := lo) rfl (by omega) (by decide)
  refine G_aload0 135 d_Alg_init_134 rfl ?_
  refine G_iconstN 0 136 d_Alg_init_135 rfl rfl ?_
  refine G_putI0 139 d_Alg_init_136 rfl f_Alg_86 rfl (by intro C T N h; cases h; rfl) (y1.shA 0 rfl (by omega) rfl) rfl rfl rfl ?_
  refine G_aload0 140 d_Alg_init_139 rfl ?_
  refine G_iconstN 0 141 d_Alg_init_140 rfl rfl ?_
  refine G_putI0 144 d_Alg_init_141 rfl f_Alg_90 rfl (by intro C T N h; cases h; rfl) (y1.shA 0 rfl (by omega) rfl) rfl rfl rfl ?_
  refine G_aload0 145 d_Alg_init_144 rfl ?_
  refine G_iconstN 0 146 d_Alg_init_145 rfl rfl ?_
  refine G_putI0 149 d_Alg_init_146 rfl f_Alg_93 rfl (by intro C T N h; cases h; rfl) (y1.shA 0 rfl (by omega) rfl) rfl rfl rfl ?_
  refine G_aload0 150 d_Alg_init_149 rfl ?_
  refine G_iconstN 0 151 d_Alg_init_150 rfl rfl ?_
  refine G_putI0 154 d_Alg_init_151 rfl f_Alg_96 rfl (by intro C T N h; cases h; rfl) (y1.shA 0 rfl (by omega) rfl) rfl rfl rfl ?_
  refine G_aload0 155 d_Alg_init_154 rfl ?_
  refine G_iconstN 0 156 d_Alg_init_155 rfl rfl ?_
  refine G_putI0 159 d_Alg_init_156 rfl f_Alg_100 rfl (by intro C T N h; cases h; rfl) (y1.shA 0 rfl (by omega) rfl) rfl rfl rfl ?_
  refine G_iconstN 0 160 d_Alg_init_159 rfl rfl ?_
  refine G_istore1 161 d_Alg_init_160 rfl (by decide) rfl ?_
  exact al_161 0 (Nat.zero_le _) _ y1
theorem al_118 {V : GV} {d lo : Nat} {X0 X : XT} (y : LY algLL X0 X lo 63 4448 ak13 ak8) : G V m_Alg_init (d + 4) 118 [some (.ref lo), none] [] X zI0 (aR lo) zL0 (AP X0 lo) := by
  have hz : ZZ zI0 (aR lo) zL0 (x_sz X) := (zzA (by rw [y.1]; omega))
  have hP := s_stepsInit (V := V) (d := d + 2) y (fun i q hq => by rw [(show ∀ i, i < 3 → algLL[63 + i]? = stepsLL[i]? by decide) i (List.getElem?_eq_some_iff.mp hq).1]; exact hq) hz
  refine G_aload0 119 d_Alg_init_118 rfl ?_
  refine G_new0 (ci := 9) (T := T_Steps) 122 d_Alg_init_119 rfl c_Alg_72 q_Steps rfl (hz.1 _ (Nat.le_refl _)) ?_
  refine G_dup 123 d_Alg_init_122 rfl rfl ?_
  refine G_invIN0 126 d_Alg_init_123 rfl e_Alg_74 M_Steps_init rfl (Nat.le_of_ble_eq_true rfl) (Nat.le_of_ble_eq_true rfl) rfl (G.conseq (hP) (fun r123 X123 FI123 AI123 AL123 h123 => ?_))
  obtain ⟨h1, y2, h3, h4, h5⟩ := h123
  subst h1 h3 h4 h5
  refine G_putX (x := some _) false 129 d_Alg_init_126 rfl f_Alg_79 rfl rfl (by intro C T N h; cases h; rfl) (fun h => by cases h) (y2.shA 0 rfl (by omega) rfl) rfl rfl ?_
  have y3 := y2.put (c := 0) (j := 11) (v := 63) (a := lo) (x := some (x_sz X)) rfl (congrArg some y.1) (by omega) (by decide)
  exact al_129 y3
theorem al_107 {V : GV} {d lo : Nat} {X0 X : XT} (y : LY algLL X0 X lo 60 4277 ak12 ak8) : G V m_Alg_init (d + 4) 107 [some (.ref lo), none] [] X zI0 (aR lo) zL0 (AP X0 lo) := by
  have hz : ZZ zI0 (aR lo) zL0 (x_sz X) := (zzA (by rw [y.1]; omega))
  have hP := s_stepsInit (V := V) (d := d + 2) y (fun i q hq => by rw [(show ∀ i, i < 3 → algLL[60 + i]? = stepsLL[i]? by decide) i (List.getElem?_eq_some_iff.mp hq).1]; exact hq) hz
  refine G_aload0 108 d_Alg_init_107 rfl ?_
  refine G_new0 (ci := 9) (T := T_Steps) 111 d_Alg_init_108 rfl c_Alg_72 q_Steps rfl (hz.1 _ (Nat.le_refl _)) ?_
  refine G_dup 112 d_Alg_init_111 rfl rfl ?_
  refine G_invIN0 115 d_Alg_init_112 rfl e_Alg_74 M_Steps_init rfl (Nat.le_of_ble_eq_true rfl) (Nat.le_of_ble_eq_true rfl) rfl (G.conseq (hP) (fun r112 X112 FI112 AI112 AL112 h112 => ?_))
  obtain ⟨h1, y2, h3, h4, h5⟩ := h112
  subst h1 h3 h4 h5
  refine G_putX (x := some _) false 118 d_Alg_init_115 rfl f_Alg_75 rfl rfl (by intro C T N h; cases h; rfl) (fun h => by cases h) (y2.shA 0 rfl (by omega) rfl) rfl rfl ?_
  have y3 := y2.put (c := 0) (j := 10) (v := 60) (a := lo) (x := some (x_sz X)) rfl (congrArg some y.1) (by omega) (by decide)
  exact al_118 y3
theorem al_96 {V : GV} {d lo : Nat} {X0 X : XT} (y : LY algLL X0 X lo 58 4192 ak11 ak8) : G V m_Alg_init (d + 4) 96 [some (.ref lo), none] [] X zI0 (aR lo) zL0 (AP X0 lo) := by
  have hz : ZZ zI0 (aR lo) zL0 (x_sz X) := (zzA (by rw [y.1]; omega))
  have hP := s_polyI0 (V := V) (d := d + 2) y (fun i q hq => by rw [(show ∀ i, i < 2 → algLL[58 + i]? = polyLL[i]? by decide) i (List.getElem?_eq_some_iff.mp hq).1]; exact hq) hz
  refine G_aload0 97 d_Alg_init_96 rfl ?_
  refine G_new0 (ci := 4) (T := T_Poly) 100 d_Alg_init_97 rfl c_Alg_11 q_Poly rfl (hz.1 _ (Nat.le_refl _)) ?_
  refine G_dup 101 d_Alg_init_100 rfl rfl ?_
  refine G_invIN0 104 d_Alg_init_101 rfl e_Alg_64 M_Poly_init rfl (Nat.le_of_ble_eq_true rfl) (Nat.le_of_ble_eq_true rfl) rfl (G.conseq (hP) (fun r101 X101 FI101 AI101 AL101 h101 => ?_))
  obtain ⟨h1, y2, h3, h4, h5⟩ := h101
  subst h1 h3 h4 h5
  refine G_putX (x := some _) true 107 d_Alg_init_104 rfl f_Alg_69 rfl rfl (by intro C T N h; cases h; rfl) (fun _ => ⟨rfl, by intro C T N h; cases h; rfl⟩) (y2.shA 0 rfl (by omega) rfl) rfl rfl ?_
  have y3 := y2.put (c := 0) (j := 9) (v := 58) (a := lo) (x := some (x_sz X)) rfl (congrArg some y.1) (by omega) (by decide)
  exact al_107 y3
theorem al_85 {V : GV} {d lo : Nat} {X0 X : XT} (y : LY algLL X0 X lo 56 4107 ak10 ak8) : G V m_Alg_init (d + 4) 85 [some (.ref lo), none] [] X zI0 (aR lo) zL0 (AP X0 lo) := by
  have hz : ZZ zI0 (aR lo) zL0 (x_sz X) := (zzA (by rw [y.1]; omega))
  have hP := s_polyI0 (V := V) (d := d + 2) y (fun i q hq => by rw [(show ∀ i, i < 2 → algLL[56 + i]? = polyLL[i]? by decide) i (List.getElem?_eq_some_iff.mp hq).1]; exact hq) hz
  refine G_aload0 86 d_Alg_init_85 rfl ?_
  refine G_new0 (ci := 4) (T := T_Poly) 89 d_Alg_init_86 rfl c_Alg_11 q_Poly rfl (hz.1 _ (Nat.le_refl _)) ?_
  refine G_dup 90 d_Alg_init_89 rfl rfl ?_
  refine G_invIN0 93 d_Alg_init_90 rfl e_Alg_64 M_Poly_init rfl (Nat.le_of_ble_eq_true rfl) (Nat.le_of_ble_eq_true rfl) rfl (G.conseq (hP) (fun r90 X90 FI90 AI90 AL90 h90 => ?_))
  obtain ⟨h1, y2, h3, h4, h5⟩ := h90
  subst h1 h3 h4 h5
  refine G_putX (x := some _) true 96 d_Alg_init_93 rfl f_Alg_65 rfl rfl (by intro C T N h; cases h; rfl) (fun _ => ⟨rfl, by intro C T N h; cases h; rfl⟩) (y2.shA 0 rfl (by omega) rfl) rfl rfl ?_
  have y3 := y2.put (c := 0) (j := 8) (v := 56) (a := lo) (x := some (x_sz X)) rfl (congrArg some y.1) (by omega) (by decide)
  exact al_96 y3
theorem al_76 {V : GV} {d lo : Nat} {X0 X : XT} (y : LY algLL X0 X lo 55 4099 ak9 ak8) : G V m_Alg_init (d + 4) 76 [some (.ref lo), none] [] X zI0 (aR lo) zL0 (AP X0 lo) := by
  refine G_aload0 77 d_Alg_init_76 rfl ?_
  refine G_bipushN 8 79 d_Alg_init_77 rfl rfl ?_
  refine G_newR 5 8 82 d_Alg_init_79 rfl c_Alg_58 (by decide) (by decide) rfl rfl (by omega) ?_
  have y1 := y.new (t := 5) (w := 8) rfl
  refine G_putX (x := some _) true 85 d_Alg_init_82 rfl f_Alg_60 rfl rfl (by intro C T N h; cases h; rfl) (fun _ => ⟨rfl, by intro C T N h; cases h; rfl⟩) (y1.shA 0 rfl (by omega) rfl) rfl rfl ?_
  have y2 := y1.put (c := 0) (j := 7) (v := 55) (a := lo) (x := some (x_sz X)) rfl (congrArg some y.1) (by omega) (by decide)
  exact al_85 y2
theorem al_68 {V : GV} {d lo : Nat} {X0 X : XT} (y : LY algLL X0 X lo 54 4095 ak7 ak8) : G V m_Alg_init (d + 4) 68 [some (.ref lo), none] [] X zI0 (aR lo) zL0 (AP X0 lo) := by
  refine G_aload0 69 d_Alg_init_68 rfl ?_
  refine G_iconstN 4 70 d_Alg_init_69 rfl rfl ?_
  refine G_newR 4 4 73 d_Alg_init_70 rfl c_Alg_52 (by decide) (by decide) rfl rfl (by omega) ?_
  have y1 := y.new (t := 4) (w := 4) rfl
  refine G_putX (x := some _) true 76 d_Alg_init_73 rfl f_Alg_54 rfl rfl (by intro C T N h; cases h; rfl) (fun _ => ⟨rfl, by intro C T N h; cases h; rfl⟩) (y1.shA 0 rfl (by omega) rfl) rfl rfl ?_
  have y2 := y1.put (c := 0) (j := 6) (v := 54) (a := lo) (x := some (x_sz X)) rfl (congrArg some y.1) (by omega) (by decide)
  exact al_76 y2
theorem al_57 {V : GV} {d lo : Nat} {X0 X : XT} (y : LY algLL X0 X lo 41 3973 ak6 ak4) : G V m_Alg_init (d + 4) 57 [some (.ref lo), none] [] X zI0 (aR lo) zL0 (AP X0 lo) := by
  have hz : ZZ zI0 (aR lo) zL0 (x_sz X) := (zzA (by rw [y.1]; omega))
  have hP := s_latInit (V := V) (d := d + 2) y (fun i q hq => by rw [(show ∀ i, i < 13 → algLL[41 + i]? = latLL[i]? by decide) i (List.getElem?_eq_some_iff.mp hq).1]; exact hq) hz
  refine G_aload0 58 d_Alg_init_57 rfl ?_
  refine G_new0 (ci := 2) (T := T_Lat) 61 d_Alg_init_58 rfl c_Alg_45 q_Lat rfl (hz.1 _ (Nat.le_refl _)) ?_
  refine G_dup 62 d_Alg_init_61 rfl rfl ?_
  refine G_invIN0 65 d_Alg_init_62 rfl e_Alg_47 M_Lat_init rfl (Nat.le_of_ble_eq_true rfl) (Nat.le_of_ble_eq_true rfl) rfl (G.conseq (hP) (fun r62 X62 FI62 AI62 AL62 h62 => ?_))
  obtain ⟨h1, y2, h3, h4, h5⟩ := h62
  subst h1 h3 h4 h5
  refine G_putX (x := some _) true 68 d_Alg_init_65 rfl f_Alg_48 rfl rfl (by intro C T N h; cases h; rfl) (fun _ => ⟨rfl, by intro C T N h; cases h; rfl⟩) (y2.shA 0 rfl (by omega) rfl) rfl rfl ?_
  have y3 := y2.put (c := 0) (j := 5) (v := 41) (a := lo) (x := some (x_sz X)) rfl (congrArg some y.1) (by omega) (by decide)
  exact al_68 y3
theorem al_46 {V : GV} {d lo : Nat} {X0 X : XT} (y : LY algLL X0 X lo 35 3259 ak5 ak4) : G V m_Alg_init (d + 4) 46 [some (.ref lo), none] [] X zI0 (aR lo) zL0 (AP X0 lo) := by
  have hz : ZZ zI0 (aR lo) zL0 (x_sz X) := (zzA (by rw [y.1]; omega))
  have hP := s_relInit (V := V) (d := d + 2) y (fun i q hq => by rw [(show ∀ i, i < 6 → algLL[35 + i]? = relLL[i]? by decide) i (List.getElem?_eq_some_iff.mp hq).1]; exact hq) hz
  refine G_aload0 47 d_Alg_init_46 rfl ?_
  refine G_new0 (ci := 6) (T := T_Rel) 50 d_Alg_init_47 rfl c_Alg_38 q_Rel rfl (hz.1 _ (Nat.le_refl _)) ?_
  refine G_dup 51 d_Alg_init_50 rfl rfl ?_
  refine G_invIN0 54 d_Alg_init_51 rfl e_Alg_40 M_Rel_init rfl (Nat.le_of_ble_eq_true rfl) (Nat.le_of_ble_eq_true rfl) rfl (G.conseq (hP) (fun r51 X51 FI51 AI51 AL51 h51 => ?_))
  obtain ⟨h1, y2, h3, h4, h5⟩ := h51
  subst h1 h3 h4 h5
  refine G_putX (x := some _) true 57 d_Alg_init_54 rfl f_Alg_41 rfl rfl (by intro C T N h; cases h; rfl) (fun _ => ⟨rfl, by intro C T N h; cases h; rfl⟩) (y2.shA 0 rfl (by omega) rfl) rfl rfl ?_
  have y3 := y2.put (c := 0) (j := 4) (v := 35) (a := lo) (x := some (x_sz X)) rfl (congrArg some y.1) (by omega) (by decide)
  exact al_57 y3
theorem al_35 {V : GV} {d lo : Nat} {X0 X : XT} (y : LY algLL X0 X lo 27 1960 ak3 ak4) : G V m_Alg_init (d + 4) 35 [some (.ref lo), none] [] X zI0 (aR lo) zL0 (AP X0 lo) := by
  have hz : ZZ zI0 (aR lo) zL0 (x_sz X) := (zzA (by rw [y.1]; omega))
  have hP := s_tabInit (V := V) (d := d + 2) y (fun i q hq => by rw [(show ∀ i, i < 8 → algLL[27 + i]? = tabLL[i]? by decide) i (List.getElem?_eq_some_iff.mp hq).1]; exact hq) hz
  refine G_aload0 36 d_Alg_init_35 rfl ?_
  refine G_new0 (ci := 7) (T := T_Tab) 39 d_Alg_init_36 rfl c_Alg_31 q_Tab rfl (hz.1 _ (Nat.le_refl _)) ?_
  refine G_dup 40 d_Alg_init_39 rfl rfl ?_
  refine G_invIN0 43 d_Alg_init_40 rfl e_Alg_33 M_Tab_init rfl (Nat.le_of_ble_eq_true rfl) (Nat.le_of_ble_eq_true rfl) rfl (G.conseq (hP) (fun r40 X40 FI40 AI40 AL40 h40 => ?_))
  obtain ⟨h1, y2, h3, h4, h5⟩ := h40
  subst h1 h3 h4 h5
  refine G_putX (x := some _) true 46 d_Alg_init_43 rfl f_Alg_34 rfl rfl (by intro C T N h; cases h; rfl) (fun _ => ⟨rfl, by intro C T N h; cases h; rfl⟩) (y2.shA 0 rfl (by omega) rfl) rfl rfl ?_
  have y3 := y2.put (c := 0) (j := 3) (v := 27) (a := lo) (x := some (x_sz X)) rfl (congrArg some y.1) (by omega) (by decide)
  exact al_46 y3
theorem al_24 {V : GV} {d lo : Nat} {X0 X : XT} (y : LY algLL X0 X lo 4 110 ak2 []) : G V m_Alg_init (d + 4) 24 [some (.ref lo), none] [] X zI0 (aR lo) zL0 (AP X0 lo) := by
  have hz : ZZ zI0 (aR lo) zL0 (x_sz X) := (zzA (by rw [y.1]; omega))
  have hP := s_genInit (V := V) (d := d + 1) (X := X) (FI := zI0) (AI := (aR lo)) (AL := zL0)
  refine G_aload0 25 d_Alg_init_24 rfl ?_
  refine G_new0 (ci := 0) (T := T_Gen) 28 d_Alg_init_25 rfl c_Alg_24 q_Gen rfl (hz.1 _ (Nat.le_refl _)) ?_
  refine G_dup 29 d_Alg_init_28 rfl rfl ?_
  refine G_invI0 32 d_Alg_init_29 rfl e_Alg_26 M_Gen_init rfl (Nat.le_of_ble_eq_true rfl) (Nat.le_of_ble_eq_true rfl) rfl (G.conseq (hP) (fun r29 X29 FI29 AI29 AL29 h29 => ?_))
  obtain ⟨h1, h2, h3, h4, h5⟩ := h29
  have y2 := y.gen (fun i q hq => by rw [(show ∀ i, i < 23 → algLL[4 + i]? = genL[i]? by decide) i (List.getElem?_eq_some_iff.mp hq).1]; exact hq)
  rw [← h2] at y2
  have h3 := h3.id (fun c hc => by rw [u2_id (z := 0) rfl]; rfl)
  rw [u2_id (z := 0) rfl] at h3
  have h4 := h4.id (fun c hc => hz.2.1 c (by omega))
  have h5 := h5.id (fun c hc => hz.2.2 c (by omega))
  subst h1 h3 h4 h5
  refine G_putX (x := some _) true 35 d_Alg_init_32 rfl f_Alg_27 rfl rfl (by intro C T N h; cases h; rfl) (fun _ => ⟨rfl, by intro C T N h; cases h; rfl⟩) (y2.shA 0 rfl (by omega) rfl) rfl rfl ?_
  have y3 := y2.put (c := 0) (j := 2) (v := 4) (a := lo) (x := some (x_sz X)) rfl (congrArg some y.1) (by omega) (by decide)
  exact al_35 y3
theorem al_13 {V : GV} {d lo : Nat} {X0 X : XT} (y : LY algLL X0 X lo 2 24 ak1 []) : G V m_Alg_init (d + 4) 13 [some (.ref lo), none] [] X zI0 zI0 zL0 (AP X0 lo) := by
  have hz : ZZ zI0 zI0 zL0 (x_sz X) := (zz0 _)
  have hP := s_rankInit (V := V) (d := d + 2) y (fun i q hq => by rw [(show ∀ i, i < 2 → algLL[2 + i]? = rankLL[i]? by decide) i (List.getElem?_eq_some_iff.mp hq).1]; exact hq) hz
  refine G_aload0 14 d_Alg_init_13 rfl ?_
  refine G_new0 (ci := 5) (T := T_Rank) 17 d_Alg_init_14 rfl c_Alg_17 q_Rank rfl (hz.1 _ (Nat.le_refl _)) ?_
  refine G_dup 18 d_Alg_init_17 rfl rfl ?_
  refine G_invI0 21 d_Alg_init_18 rfl e_Alg_19 M_Rank_init rfl (Nat.le_of_ble_eq_true rfl) (Nat.le_of_ble_eq_true rfl) rfl (G.conseq (hP) (fun r18 X18 FI18 AI18 AL18 h18 => ?_))
  obtain ⟨h1, y2, h3, h4, h5⟩ := h18
  subst h1 h3 h4 h5
  refine G_putX (x := some _) true 24 d_Alg_init_21 rfl f_Alg_20 rfl rfl (by intro C T N h; cases h; rfl) (fun _ => ⟨rfl, by intro C T N h; cases h; rfl⟩) (y2.shA 0 rfl (by omega) rfl) rfl rfl ?_
  have y3 := y2.put (c := 0) (j := 1) (v := 2) (a := lo) (x := some (x_sz X)) rfl (congrArg some y.1) (by omega) (by decide)
  rw [show sr zI0 (x_sz X + 1) (fun k => nI (rk 0 k)) = aR lo by rw [y.1]; rfl]
  exact al_24 y3
theorem al_4 {V : GV} {d lo : Nat} {X0 X : XT} (y : LY algLL X0 X lo 1 18 [] []) : G V m_Alg_init (d + 4) 4 [some (.ref lo), none] [] X zI0 zI0 zL0 (AP X0 lo) := by
  refine G_aload0 5 d_Alg_init_4 rfl ?_
  refine G_bipushN 6 7 d_Alg_init_5 rfl rfl ?_
  refine G_newR 3 6 10 d_Alg_init_7 rfl c_Alg_11 (by decide) (by decide) rfl rfl (by omega) ?_
  have y1 := y.new (t := 3) (w := 6) rfl
  refine G_putX (x := some _) true 13 d_Alg_init_10 rfl f_Alg_13 rfl rfl (by intro C T N h; cases h; rfl) (fun _ => ⟨rfl, by intro C T N h; cases h; rfl⟩) (y1.shA 0 rfl (by omega) rfl) rfl rfl ?_
  have y2 := y1.put (c := 0) (j := 0) (v := 1) (a := lo) (x := some (x_sz X)) rfl (congrArg some y.1) (by omega) (by decide)
  exact al_13 y2
theorem s_algInit {V : GV} {d : Nat} {X : XT} : G V m_Alg_init (d + 4) 0 [some (.ref (x_sz X)), none] [] (xnew X 20 18) zI0 zI0 zL0 (AP X (x_sz X)) := by
  have y := (LY.o algLL (X := X) (lo := x_sz X) rfl).new (t := 20) (w := 18) rfl
  refine G_aload0 1 d_Alg_init_0 rfl ?_
  refine G_objInit 4 d_Alg_init_1 rfl e_Alg_3 (Nat.le_of_ble_eq_true rfl) ?_
  exact al_4 y
