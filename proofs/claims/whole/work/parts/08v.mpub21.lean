/-! ===== the reference: grown ===== -/
def pWr (ws : Nat → Nat) (r m a : Nat) : Nat → Nat
  | 0 => a
  | q + 1 => tp (pWr ws r m a q) (md (lN (ws q)) m) (pw r q) m
def grI (ws : Nat → Nat) (C : Nat → Int64) (R : Nat → Nat) (m a : Nat) : Nat → Nat
  | 0 => a
  | j + 1 => (grI ws C R m a j + pWr ws (R j) m (md (C j) m) 7) % m
def grS (G : GT) (bx by_ bz m : Nat) (ws : Nat → Nat) (i : Nat) : Nat := grI ws (gC G i) (gR G i) m (if gK G i = 0 then cw (gP G i) bx by_ bz m 84 else 0) (gK G i)
def grW (G : GT) (bx by_ bz m : Nat) : Nat → Nat → Nat
  | 0 => fun _ => 0
  | i + 1 => upn (grW G bx by_ bz m i) i (grS G bx by_ bz m (grW G bx by_ bz m i) i)
def fGrown (S : ST) (g x y z w : Int32) : Int64 × ST := if (bN g (gN (tG S)) && bB w 2 1000000) = true then (lN (grW (tG S) (md x.toInt64 (ni w)) (md y.toInt64 (ni w)) (md z.toInt64 (ni w)) (ni w) (ni g + 1) (ni g)), S) else (NOl, S)
theorem pWr_lt {ws : Nat → Nat} {r m a : Nat} (h0 : 0 < m) (ha : a < m) : ∀ q, pWr ws r m a q < m
  | 0 => ha
  | q + 1 => tp_lt h0 (pWr_lt h0 ha q) _
theorem grI_lt {ws : Nat → Nat} {C : Nat → Int64} {R : Nat → Nat} {m a : Nat} (h0 : 0 < m) (ha : a < m) : ∀ j, grI ws C R m a j < m
  | 0 => ha
  | _ + 1 => Nat.mod_lt _ h0
theorem MIv.l21 {S : ST} {FI AI : FT} {AL AL' : LT} {b : Nat} (h : MIv S FI AI AL b) (k : ∀ c, c ≠ b + 21 → AL' c = AL c) : MIv S FI AI AL' b ∧ fM FI FI AI AI AL AL' b := by
  obtain ⟨g, a1, a2, a3, a4, a5, a6⟩ := h.de
  refine ⟨MIv.mk (S := S) ⟨g.1, g.2.1, g.2.2.1, g.2.2.2.1, fun q hq => ?_⟩ a1 (fun s hs => by rw [mp_row (k _ (by omega))]; exact a2 s hs) (a3.tr rfl rfl rfl (k _ (by omega))) a4 (a5.tr rfl rfl rfl (k _ (by omega))) (a6.tr rfl rfl rfl rfl rfl (k _ (by omega)) (k _ (by omega))), fun c hc => ⟨rfl, rfl, k c (by omega)⟩⟩
  obtain ⟨b1, b2, b3, b4⟩ := g.2.2.2.2 q hq
  exact ⟨b1, by rw [mp_row (k _ (by omega))]; exact b2, b3, fun i hi => ⟨by rw [k _ (by omega)]; exact (b4 i hi).1, (b4 i hi).2⟩⟩
theorem s_mPartWorth {V : GV} {d b m ix r : Nat} {C : Int64} {ws : Nat → Nat} {X : XT} {FI AI : FT} {AL : LT} (h : MO X b) (hix : ix < 602) (h2 : 2 ≤ m) (hm : m ≤ 1000000) (eC : AL (b + 11) ix = C) (eR : ∀ q, q < 7 → AI (b + 12) (7 * ix + q) = nI (pw r q)) (eW : ∀ q, q < 7 → AL (b + 21) q = lN (ws q)) : G V m_Mod_partWorth (d + 2) 0 [some (.ref b), some (.int (nI ix)), some (.long (lN m)), none, none, none, none] [] X FI AI AL (Pd (some (.long (lN (pWr ws r m (md C m) 7)))) X FI AI AL) := by
  have h0 : 0 < m := by omega
  have hm0 : ¬ lN m = 0 := lN_ne0 h0 (by omega)
  have L : ∀ q, q ≤ 7 → G V m_Mod_partWorth (d + 2) 15 [some (.ref b), some (.int (nI ix)), some (.long (lN m)), none, some (.long (lN (pWr ws r m (md C m) q))), none, some (.int (nI q))] [] X FI AI AL (Pd (some (.long (lN (pWr ws r m (md C m) 7)))) X FI AI AL) := by
    refine upto ?_ ?_
    · refine G_iload6 17 d_Mod_partWorth_15 rfl ?_
      refine G_bipushN 7 19 d_Mod_partWorth_17 rfl rfl ?_
      first | refine G_icgeN 58 22 d_Mod_partWorth_19 rfl rfl (by omega) (by omega) (fun h19 => ?_) (fun h19 => ?_) | refine G_icge 58 22 d_Mod_partWorth_19 rfl rfl (fun h19 => ?_) (fun h19 => ?_)
      · refine G_lload4 60 d_Mod_partWorth_58 rfl ?_
        refine G_lret d_Mod_partWorth_60 rfl ?_
        exact Pd.rf
      · omega
    · intro q hq ih
      have e1 := eW q hq
      have e2 := eR q hq
      have hpw := pw_lt r q
      have ha := pWr_lt (ws := ws) (r := r) h0 (md_lt C h0) q
      have p1 := tp_lt (b := md (lN (ws q)) m) h0 (show 1 < m by omega) (pw r q)
      have q1 : pWr ws r m (md C m) q * tp 1 (md (lN (ws q)) m) (pw r q) m < 1000000 * 1000000 := Nat.mul_lt_mul_of_lt_of_le (by omega) (by omega) (by omega)
      rw [pWr] at ih
      refine G_iload6 17 d_Mod_partWorth_15 rfl ?_
      refine G_bipushN 7 19 d_Mod_partWorth_17 rfl rfl ?_
      first | refine G_icgeN 58 22 d_Mod_partWorth_19 rfl rfl (by omega) (by omega) (fun h19 => ?_) (fun h19 => ?_) | refine G_icge 58 22 d_Mod_partWorth_19 rfl rfl (fun h19 => ?_) (fun h19 => ?_)
      · omega
      · refine G_lload4 24 d_Mod_partWorth_22 rfl ?_
        refine G_aload0 25 d_Mod_partWorth_24 rfl ?_
        refine G_getR 28 d_Mod_partWorth_25 rfl f_Mod_73 rfl h.sh h.f29 ?_
        refine G_iload6 30 d_Mod_partWorth_28 rfl ?_
        refine G_laloadv 31 d_Mod_partWorth_30 rfl h.s29 (ix_nI (by omega) (by omega)) e1 ?_
        refine G_aload0 32 d_Mod_partWorth_31 rfl ?_
        refine G_getR 35 d_Mod_partWorth_32 rfl f_Mod_46 rfl h.sh h.f13 ?_
        refine G_bipushN 7 37 d_Mod_partWorth_35 rfl rfl ?_
        refine G_iload1 38 d_Mod_partWorth_37 rfl ?_
        first | refine G_imulN 39 d_Mod_partWorth_38 rfl ?_ | refine G_imul 39 d_Mod_partWorth_38 rfl ?_
        refine G_iload6 41 d_Mod_partWorth_39 rfl ?_
        first | refine G_iaddN 42 d_Mod_partWorth_41 rfl ?_ | refine G_iadd 42 d_Mod_partWorth_41 rfl ?_
        refine G_ialoadv 43 d_Mod_partWorth_42 rfl h.s13 (ix_nI (by omega) (by omega)) e2 ?_
        refine G_lload2 44 d_Mod_partWorth_43 rfl ?_
        refine G_invS3d 47 d_Mod_partWorth_44 rfl e_Mod_248 M_Mod_power (Nat.le_of_ble_eq_true rfl) (Nat.le_of_ble_eq_true rfl) rfl (s_mPower (by assumption) (by assumption) (by omega) (by omega)) ?_
        refine G_lmul 48 d_Mod_partWorth_47 rfl ?_
        refine G_lload2 49 d_Mod_partWorth_48 rfl ?_
        refine G_lrem 50 d_Mod_partWorth_49 rfl (by assumption) ?_
        rw [lN_mul, pk_lRem (by omega) h0 (by omega), tp_one ha]
        refine G_lstore4 52 d_Mod_partWorth_50 rfl (by decide) rfl ?_
        first | refine G_iincN6 55 d_Mod_partWorth_52 rfl (by decide) rfl ?_ | refine G_iinc6 _ 55 d_Mod_partWorth_52 rfl (by decide) rfl rfl ?_
        refine G_goto 15 d_Mod_partWorth_55 rfl ?_
        exact ih
  refine G_aload0 1 d_Mod_partWorth_0 rfl ?_
  refine G_getR 4 d_Mod_partWorth_1 rfl f_Mod_43 rfl h.sh h.f12 ?_
  refine G_iload1 5 d_Mod_partWorth_4 rfl ?_
  refine G_laloadv 6 d_Mod_partWorth_5 rfl h.s12 (ix_nI (by omega) (by omega)) eC ?_
  refine G_lload2 7 d_Mod_partWorth_6 rfl ?_
  refine G_invS2d 10 d_Mod_partWorth_7 rfl e_Mod_245 M_Mod_modulo (Nat.le_of_ble_eq_true rfl) (Nat.le_of_ble_eq_true rfl) rfl (s_mModulo (by assumption) (by omega)) ?_
  refine G_lstore4 12 d_Mod_partWorth_10 rfl (by decide) rfl ?_
  refine G_iconstN 0 13 d_Mod_partWorth_12 rfl rfl ?_
  refine G_istore6 15 d_Mod_partWorth_13 rfl (by decide) rfl ?_
  exact L 0 (by omega)
theorem m_grown {V : GV} {d b : Nat} {S : ST} {g x y z w : Int32} {X : XT} {FI AI : FT} {AL : LT} (h : MO X b) (hI : MIv S FI AI AL b) (hW : WS S) : G V m_Mod_grown (d + 3) 0 [some (.ref b), some (.int g), some (.int x), some (.int y), some (.int z), some (.int w), none, none, none, none] [] X FI AI AL (fun r X' FI' AI' AL' => r = some (.long (fGrown S g x y z w).1) ∧ X' = X ∧ MIv (fGrown S g x y z w).2 FI' AI' AL' b ∧ fM FI FI' AI AI' AL AL' b) := by
  obtain ⟨hG, hO, hSl, -⟩ := id hI
  have hT := hG.1
  have hn9 := hG.2.1
  have ho := hG.2.2.1
  have hrk := hG.2.2.2.1
  have hn7 := hW.2.1.1
  have kc : ((2 : Int64).toInt ≤ w.toInt64.toInt ∧ w.toInt64.toInt ≤ (1000000 : Int64).toInt) ↔ isB w 2 1000000 := by
    rw [toL]; exact Iff.rfl
  refine G_aload0 1 d_Mod_grown_0 rfl ?_
  refine G_iload1 2 d_Mod_grown_1 rfl ?_
  refine G_invV1b 5 d_Mod_grown_2 rfl e_Mod_287 M_Mod_isGenerator rfl h.sh (Nat.le_of_ble_eq_true rfl) (Nat.le_of_ble_eq_true rfl) rfl (s_mIsGenerator h hn9 hn7) (fun h2 => G_ifeq1 8 d_Mod_grown_5 23 rfl rfl ?_) (fun h2 => G_ifeq0 8 d_Mod_grown_5 23 rfl rfl ?_)
  · obtain ⟨k, hk, rfl⟩ := h2
    have q1 := bN_t hk (show gN (tG S) < 2 ^ 31 by omega)
    have z1 := ni_nI (show k < 2 ^ 31 by omega)
    refine G_iload5 10 d_Mod_grown_8 rfl ?_
    refine G_i2l 11 d_Mod_grown_10 rfl ?_
    refine G_ldc2 14 d_Mod_grown_11 rfl k_Mod_180 ?_
    refine G_ldc2 17 d_Mod_grown_14 rfl k_Mod_252 ?_
    refine G_invS3b 20 d_Mod_grown_17 rfl e_Mod_139 M_Mod_in (Nat.le_of_ble_eq_true rfl) (Nat.le_of_ble_eq_true rfl) rfl (s_mIn) (fun h17 => G_ifne1 23 d_Mod_grown_20 27 rfl rfl ?_) (fun h17 => G_ifne0 23 d_Mod_grown_20 27 rfl rfl ?_)
    · have hb := kc.mp h17
      have q3 := bB_iff.mpr hb
      obtain ⟨m, hm1, rfl⟩ : ∃ mm : Nat, mm < 2 ^ 31 ∧ w = nI mm := nI_of (fun e => by rw [lt0_iff] at e; have := hb.1; omega)
      have hb1 := hb.1
      have hb2 := hb.2
      rw [nI_toInt hm1] at hb1 hb2
      have h2 : 2 ≤ m := by omega
      have hm : m ≤ 1000000 := by omega
      have h0 : 0 < m := by omega
      have hm0 : ¬ lN m = 0 := lN_ne0 h0 (by omega)
      have hml : (nI m).toInt64 = lN m := nI_l (by omega)
      simp only [fGrown, q1, q3, z1, ni_nI hm1, Bool.and_self, if_true]
      clear kc h17 hb q3
      have L : ∀ i, i ≤ k + 1 → ∀ AJ : LT, (∀ c, c ≠ b + 21 → AJ c = AL c) → (∀ q, q < 7 → AJ (b + 21) q = lN ((grW (tG S) (md x.toInt64 m) (md y.toInt64 m) (md z.toInt64 m) m i) q)) → ∀ v7 v9 : Option Value, G V m_Mod_grown (d + 3) 54 [some (.ref b), some (.int (nI k)), some (.int x), some (.int y), some (.int z), some (.int (nI m)), some (.int (nI i)), v7, none, v9] [] X FI AI AJ (fun r X' FI' AI' AL' => r = some (.long (lN (grW (tG S) (md x.toInt64 m) (md y.toInt64 m) (md z.toInt64 m) m (k + 1) k))) ∧ X' = X ∧ MIv S FI' AI' AL' b ∧ fM FI FI' AI AI' AL AL' b) := by
        refine upto ?_ ?_
        · intro AJ k1 k2 v7 v9
          have e21 := k2 k (by omega)
          refine G_iload6 56 d_Mod_grown_54 rfl ?_
          refine G_iload1 57 d_Mod_grown_56 rfl ?_
          first | refine G_icgtN 152 60 d_Mod_grown_57 rfl rfl (by omega) (by omega) (fun h57 => ?_) (fun h57 => ?_) | refine G_icgt 152 60 d_Mod_grown_57 rfl rfl (fun h57 => ?_) (fun h57 => ?_)
          · refine G_aload0 153 d_Mod_grown_152 rfl ?_
            refine G_getR 156 d_Mod_grown_153 rfl f_Mod_73 rfl h.sh h.f29 ?_
            refine G_iload1 157 d_Mod_grown_156 rfl ?_
            refine G_laloadv 158 d_Mod_grown_157 rfl h.s29 (ix_nI (by omega) (by omega)) e21 ?_
            refine G_lret d_Mod_grown_158 rfl ?_
            exact ⟨rfl, rfl, (hI.l21 k1).1, (hI.l21 k1).2⟩
          · omega
        · intro i hi ih AJ k1 k2 v7 v9
          obtain ⟨b1, b2, b3, b4⟩ := hG.2.2.2.2 i (by omega)
          have h86 := (hW.2.1.2.1 i (by omega)).2.2.2.2.1
          have emp : mp AJ b (6 + i) = gP (tG S) i := by rw [mp_row (k1 _ (by omega))]; exact b2
          have hcw : (if gK (tG S) i = 0 then cw (gP (tG S) i) (md x.toInt64 m) (md y.toInt64 m) (md z.toInt64 m) m 84 else 0) < m := by
            split
            · exact cw_lt h0 84
            · exact h0
          have J : ∀ j, j ≤ gK (tG S) i → G V m_Mod_grown (d + 3) 95 [some (.ref b), some (.int (nI k)), some (.int x), some (.int y), some (.int z), some (.int (nI m)), some (.int (nI i)), some (.long (lN (grI (grW (tG S) (md x.toInt64 m) (md y.toInt64 m) (md z.toInt64 m) m i) (gC (tG S) i) (gR (tG S) i) m (if gK (tG S) i = 0 then cw (gP (tG S) i) (md x.toInt64 m) (md y.toInt64 m) (md z.toInt64 m) m 84 else 0) j))), none, some (.int (nI j))] [] X FI AI AJ (fun r X' FI' AI' AL' => r = some (.long (lN (grW (tG S) (md x.toInt64 m) (md y.toInt64 m) (md z.toInt64 m) m (k + 1) k))) ∧ X' = X ∧ MIv S FI' AI' AL' b ∧ fM FI FI' AI AI' AL AL' b) := by
            refine upto ?_ ?_
            · refine G_iload9 97 d_Mod_grown_95 rfl ?_
              refine G_aload0 98 d_Mod_grown_97 rfl ?_
              refine G_getR 101 d_Mod_grown_98 rfl f_Mod_40 rfl h.sh h.f11 ?_
              refine G_iload6 103 d_Mod_grown_101 rfl ?_
              refine G_ialoadv 104 d_Mod_grown_103 rfl h.s11 (ix_nI (by omega) (by omega)) b3 ?_
              first | refine G_icgeN 137 107 d_Mod_grown_104 rfl rfl (by omega) (by omega) (fun h104 => ?_) (fun h104 => ?_) | refine G_icge 137 107 d_Mod_grown_104 rfl rfl (fun h104 => ?_) (fun h104 => ?_)
              · refine G_aload0 138 d_Mod_grown_137 rfl ?_
                refine G_getR 141 d_Mod_grown_138 rfl f_Mod_73 rfl h.sh h.f29 ?_
                refine G_iload6 143 d_Mod_grown_141 rfl ?_
                refine G_lload7 145 d_Mod_grown_143 rfl ?_
                refine G_lastore 146 d_Mod_grown_145 rfl h.s29 (ix_nI (by omega) (by omega)) ?_
                first | refine G_iincN6 149 d_Mod_grown_146 rfl (by decide) rfl ?_ | refine G_iinc6 _ 149 d_Mod_grown_146 rfl (by decide) rfl rfl ?_
                refine G_goto 54 d_Mod_grown_149 rfl ?_
                refine ih _ (fun c hc => by rw [u2_off _ _ _ hc]; exact k1 c hc) (fun q hq => ?_) _ _
                by_cases e : q = i
                · subst e; rw [u2_at, grW, upn_at, grS]
                · rw [u2_ix _ _ e, k2 q hq, grW, upn_ne _ _ e]
              · omega
            · intro j hj ih2
              have hg := grI_lt (ws := (grW (tG S) (md x.toInt64 m) (md y.toInt64 m) (md z.toInt64 m) m i)) (C := gC (tG S) i) (R := gR (tG S) i) h0 hcw j
              have hp := pWr_lt (ws := (grW (tG S) (md x.toInt64 m) (md y.toInt64 m) (md z.toInt64 m) m i)) (r := gR (tG S) i j) h0 (md_lt (gC (tG S) i j) h0) 7
              have hpw := s_mPartWorth (V := V) (d := d) (m := m) (C := gC (tG S) i j) (r := gR (tG S) i j) (ws := (grW (tG S) (md x.toInt64 m) (md y.toInt64 m) (md z.toInt64 m) m i)) (FI := FI) (AI := AI) (AL := AJ) h (show 86 * i + j < 602 by omega) h2 hm (by rw [k1 _ (by omega)]; exact (b4 j hj).1) (b4 j hj).2 k2
              rw [grI] at ih2
              refine G_iload9 97 d_Mod_grown_95 rfl ?_
              refine G_aload0 98 d_Mod_grown_97 rfl ?_
              refine G_getR 101 d_Mod_grown_98 rfl f_Mod_40 rfl h.sh h.f11 ?_
              refine G_iload6 103 d_Mod_grown_101 rfl ?_
              refine G_ialoadv 104 d_Mod_grown_103 rfl h.s11 (ix_nI (by omega) (by omega)) b3 ?_
              first | refine G_icgeN 137 107 d_Mod_grown_104 rfl rfl (by omega) (by omega) (fun h104 => ?_) (fun h104 => ?_) | refine G_icge 137 107 d_Mod_grown_104 rfl rfl (fun h104 => ?_) (fun h104 => ?_)
              · omega
              · refine G_lload7 109 d_Mod_grown_107 rfl ?_
                refine G_aload0 110 d_Mod_grown_109 rfl ?_
                refine G_bipushN 86 112 d_Mod_grown_110 rfl rfl ?_
                refine G_iload6 114 d_Mod_grown_112 rfl ?_
                first | refine G_imulN 115 d_Mod_grown_114 rfl ?_ | refine G_imul 115 d_Mod_grown_114 rfl ?_
                refine G_iload9 117 d_Mod_grown_115 rfl ?_
                first | refine G_iaddN 118 d_Mod_grown_117 rfl ?_ | refine G_iadd 118 d_Mod_grown_117 rfl ?_
                refine G_iload5 120 d_Mod_grown_118 rfl ?_
                refine G_i2l 121 d_Mod_grown_120 rfl ?_
                rw [hml]
                refine G_invV2d 124 d_Mod_grown_121 rfl e_Mod_308 M_Mod_partWorth rfl h.sh (Nat.le_of_ble_eq_true rfl) (Nat.le_of_ble_eq_true rfl) rfl (hpw) ?_
                refine G_ladd 125 d_Mod_grown_124 rfl ?_
                refine G_iload5 127 d_Mod_grown_125 rfl ?_
                refine G_i2l 128 d_Mod_grown_127 rfl ?_
                rw [lN_add, hml]
                refine G_lrem 129 d_Mod_grown_128 rfl (by assumption) ?_
                rw [pk_lRem (by omega) h0 (by omega)]
                refine G_lstore7 131 d_Mod_grown_129 rfl (by decide) rfl ?_
                first | refine G_iincN9 134 d_Mod_grown_131 rfl (by decide) rfl ?_ | refine G_iinc9 _ 134 d_Mod_grown_131 rfl (by decide) rfl rfl ?_
                refine G_goto 95 d_Mod_grown_134 rfl ?_
                exact ih2
          refine G_iload6 56 d_Mod_grown_54 rfl ?_
          refine G_iload1 57 d_Mod_grown_56 rfl ?_
          first | refine G_icgtN 152 60 d_Mod_grown_57 rfl rfl (by omega) (by omega) (fun h57 => ?_) (fun h57 => ?_) | refine G_icgt 152 60 d_Mod_grown_57 rfl rfl (fun h57 => ?_) (fun h57 => ?_)
          · omega
          · by_cases hz : gK (tG S) i = 0
            · have b3' : AI (b + 10) i = 0 := by rw [b3, hz]; rfl
              have J0 := J 0 (by omega)
              rw [grI, if_pos hz, ← emp] at J0
              refine G_aload0 61 d_Mod_grown_60 rfl ?_
              refine G_getR 64 d_Mod_grown_61 rfl f_Mod_40 rfl h.sh h.f11 ?_
              refine G_iload6 66 d_Mod_grown_64 rfl ?_
              refine G_ialoadv 67 d_Mod_grown_66 rfl h.s11 (ix_nI (by omega) (by omega)) b3' ?_
              refine G_ifne 89 70 d_Mod_grown_67 rfl rfl (fun h67 => ?_) (fun h67 => ?_)
              · exact absurd rfl h67
              · refine G_aload0 71 d_Mod_grown_70 rfl ?_
                refine G_bipushN 6 73 d_Mod_grown_71 rfl rfl ?_
                refine G_iload6 75 d_Mod_grown_73 rfl ?_
                first | refine G_iaddN 76 d_Mod_grown_75 rfl ?_ | refine G_iadd 76 d_Mod_grown_75 rfl ?_
                refine G_iload2 77 d_Mod_grown_76 rfl ?_
                refine G_iload3 78 d_Mod_grown_77 rfl ?_
                refine G_iload4 80 d_Mod_grown_78 rfl ?_
                refine G_iload5 82 d_Mod_grown_80 rfl ?_
                refine G_i2l 83 d_Mod_grown_82 rfl ?_
                rw [hml]
                refine G_invV5d 86 d_Mod_grown_83 rfl e_Mod_254 M_Mod_worth rfl h.sh (Nat.le_of_ble_eq_true rfl) (Nat.le_of_ble_eq_true rfl) rfl (s_mWorth (by assumption) (by assumption) (by omega) (by assumption) (by omega)) ?_
                refine G_goto 90 d_Mod_grown_86 rfl ?_
                refine G_lstore7 92 d_Mod_grown_90 rfl (by decide) rfl ?_
                refine G_iconstN 0 93 d_Mod_grown_92 rfl rfl ?_
                refine G_istore9 95 d_Mod_grown_93 rfl (by decide) rfl ?_
                exact J0
            · have J0 := J 0 (by omega)
              rw [grI, if_neg hz] at J0
              refine G_aload0 61 d_Mod_grown_60 rfl ?_
              refine G_getR 64 d_Mod_grown_61 rfl f_Mod_40 rfl h.sh h.f11 ?_
              refine G_iload6 66 d_Mod_grown_64 rfl ?_
              refine G_ialoadv 67 d_Mod_grown_66 rfl h.s11 (ix_nI (by omega) (by omega)) b3 ?_
              refine G_ifne 89 70 d_Mod_grown_67 rfl rfl (fun h67 => ?_) (fun h67 => ?_)
              · refine G_lconst 0 90 d_Mod_grown_89 rfl rfl ?_
                refine G_lstore7 92 d_Mod_grown_90 rfl (by decide) rfl ?_
                refine G_iconstN 0 93 d_Mod_grown_92 rfl rfl ?_
                refine G_istore9 95 d_Mod_grown_93 rfl (by decide) rfl ?_
                exact J0
              · exact absurd h67 (nI_ne0 (by omega) (by omega))
      have Z : ∀ i, i ≤ 7 → ∀ AJ : LT, (∀ c, c ≠ b + 21 → AJ c = AL c) → (∀ q, q < i → AJ (b + 21) q = 0) → G V m_Mod_grown (d + 3) 30 [some (.ref b), some (.int (nI k)), some (.int x), some (.int y), some (.int z), some (.int (nI m)), some (.int (nI i)), none, none, none] [] X FI AI AJ (fun r X' FI' AI' AL' => r = some (.long (lN (grW (tG S) (md x.toInt64 m) (md y.toInt64 m) (md z.toInt64 m) m (k + 1) k))) ∧ X' = X ∧ MIv S FI' AI' AL' b ∧ fM FI FI' AI AI' AL AL' b) := by
        refine upto ?_ ?_
        · intro AJ k1 k2
          refine G_iload6 32 d_Mod_grown_30 rfl ?_
          refine G_bipushN 7 34 d_Mod_grown_32 rfl rfl ?_
          first | refine G_icgeN 51 37 d_Mod_grown_34 rfl rfl (by omega) (by omega) (fun h34 => ?_) (fun h34 => ?_) | refine G_icge 51 37 d_Mod_grown_34 rfl rfl (fun h34 => ?_) (fun h34 => ?_)
          · refine G_iconstN 0 52 d_Mod_grown_51 rfl rfl ?_
            refine G_istore6 54 d_Mod_grown_52 rfl (by decide) rfl ?_
            exact L 0 (by omega) AJ k1 (fun q hq => k2 q hq) _ _
          · omega
        · intro i hi ih AJ k1 k2
          refine G_iload6 32 d_Mod_grown_30 rfl ?_
          refine G_bipushN 7 34 d_Mod_grown_32 rfl rfl ?_
          first | refine G_icgeN 51 37 d_Mod_grown_34 rfl rfl (by omega) (by omega) (fun h34 => ?_) (fun h34 => ?_) | refine G_icge 51 37 d_Mod_grown_34 rfl rfl (fun h34 => ?_) (fun h34 => ?_)
          · omega
          · refine G_aload0 38 d_Mod_grown_37 rfl ?_
            refine G_getR 41 d_Mod_grown_38 rfl f_Mod_73 rfl h.sh h.f29 ?_
            refine G_iload6 43 d_Mod_grown_41 rfl ?_
            refine G_lconst 0 44 d_Mod_grown_43 rfl rfl ?_
            refine G_lastore 45 d_Mod_grown_44 rfl h.s29 (ix_nI (by omega) (by omega)) ?_
            first | refine G_iincN6 48 d_Mod_grown_45 rfl (by decide) rfl ?_ | refine G_iinc6 _ 48 d_Mod_grown_45 rfl (by decide) rfl rfl ?_
            refine G_goto 30 d_Mod_grown_48 rfl ?_
            refine ih _ (fun c hc => by rw [u2_off _ _ _ hc]; exact k1 c hc) (fun q hq => ?_)
            by_cases e : q = i
            · subst e; exact u2_at _ _ _ _
            · rw [u2_ix _ _ e]; exact k2 q (by omega)
      refine G_iconstN 0 28 d_Mod_grown_27 rfl rfl ?_
      refine G_istore6 30 d_Mod_grown_28 rfl (by decide) rfl ?_
      exact Z 0 (by omega) AL (fun _ _ => rfl) (fun q hq => by omega)
    · have q3 := bB_f (fun e => h17 (kc.mpr e))
      simp only [fGrown, q3, Bool.and_false, Bool.false_eq_true, if_false]
      refine G_ldc2 26 d_Mod_grown_23 rfl k_Mod_235 ?_
      refine G_lret d_Mod_grown_26 rfl ?_
      exact ⟨rfl, rfl, hI, fM.rf⟩
  · have q1 := bN_f h2 (show gN (tG S) < 2 ^ 31 by omega)
    simp only [fGrown, q1, Bool.false_and, Bool.false_eq_true, if_false]
    refine G_ldc2 26 d_Mod_grown_23 rfl k_Mod_235 ?_
    refine G_lret d_Mod_grown_26 rfl ?_
    exact ⟨rfl, rfl, hI, fM.rf⟩
