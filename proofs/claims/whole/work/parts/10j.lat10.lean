/-! ===== the reference: certified ===== -/
theorem MIv.w27 {S : ST} {FI AI AI' : FT} {AL : LT} {b : Nat} (h : MIv S FI AI AL b) (k : ∀ c, c ≠ b + 27 → AI' c = AI c) : MIv S FI AI' AL b ∧ fM FI FI AI AI' AL AL b := by
  obtain ⟨g, a1, a2, a3, a4, a5, a6⟩ := h.de
  refine ⟨MIv.mk (S := S) ⟨⟨fun s hs => ?_, fun x y z hs => ?_⟩, g.2.1, g.2.2.1, fun j hj => ?_, fun q hq => ?_⟩ a1 a2 (a3.tr rfl rfl (k _ (by omega)) rfl) (a4.tr (k _ (by omega)) (k _ (by omega)) (k _ (by omega))) (a5.tr rfl (k _ (by omega)) (k _ (by omega)) rfl) (a6.tr rfl rfl rfl (k _ (by omega)) (k _ (by omega)) rfl rfl), fun c hc => ⟨rfl, k c (by omega), rfl⟩⟩
  · rw [k _ (by omega), k _ (by omega), k _ (by omega)]; exact g.1.1 s hs
  · rw [k _ (by omega)]; exact g.1.2 x y z hs
  · rw [k _ (by omega)]; exact g.2.2.2.1 j hj
  · obtain ⟨b1, b2, b3, b4⟩ := g.2.2.2.2 q hq
    exact ⟨by rw [k _ (by omega)]; exact b1, b2, by rw [k _ (by omega)]; exact b3, fun i hi => ⟨(b4 i hi).1, fun f hf => by rw [k _ (by omega)]; exact (b4 i hi).2 f hf⟩⟩
/-- what is above 0, what is below -/
def vlP (v : Nat → Int64) (g : Nat) : Nat := (v g).toInt.toNat
def vlM (v : Nat → Int64) (g : Nat) : Nat := (-(v g).toInt).toNat
def dgS (p gl : Nat → Nat) : Nat → Nat
  | 0 => 0
  | k + 1 => dgS p gl k + p k * eD (gl k)
def n7 (p : Nat → Nat) : Nat := num [p 0, p 1, p 2, p 3, p 4, p 5, p 6]
theorem pw_n7 {p : Nat → Nat} (h : ∀ g, g < 7 → p g < 8) {g : Nat} (hg : g < 7) : pw (n7 p) g = p g := by
  unfold n7 num
  rw [pw_numL _ _ _ (by simp) (fun x hx => by
    simp only [List.mem_cons, List.not_mem_nil, or_false] at hx
    rcases hx with rfl | rfl | rfl | rfl | rfl | rfl | rfl <;> exact h _ (by omega)) (Nat.zero_le _) hg]
  have hh : g = 0 ∨ g = 1 ∨ g = 2 ∨ g = 3 ∨ g = 4 ∨ g = 5 ∨ g = 6 := by omega
  rcases hh with rfl | rfl | rfl | rfl | rfl | rfl | rfl <;> rfl
theorem dgS_7 {p gl : Nat → Nat} {n : Nat} (hn : n ≤ 7) (h : ∀ g, n ≤ g → g < 7 → p g = 0) : ∀ k, k ≤ 7 → n ≤ k → dgS p gl k = dgS p gl n
  | 0, _, h2 => by rw [show n = 0 by omega]
  | k + 1, h1, h2 => by
    by_cases e : n = k + 1
    · rw [e]
    · rw [dgS, h k (by omega) (by omega), Nat.zero_mul, Nat.add_zero]
      exact dgS_7 hn h k (by omega) (by omega)
theorem rdeg_n7 {p gl : Nat → Nat} (h : ∀ g, g < 7 → p g < 8) : ∀ n, n ≤ 7 → rdeg gl (n7 p) n = dgS p gl n
  | 0, _ => rfl
  | n + 1, hn => by rw [rdeg, dgS, rdeg_n7 h n (by omega), pw_n7 h (by omega)]
theorem dgS_le {p gl : Nat → Nat} {g n : Nat} (hd : ∀ i, i < n → 1 ≤ eD (gl i)) : ∀ k, k ≤ n → g < k → p g ≤ dgS p gl k
  | 0, _, h2 => by omega
  | k + 1, h1, h2 => by
    rw [dgS]
    by_cases e : g = k
    · subst e
      have : p g * 1 ≤ p g * eD (gl g) := Nat.mul_le_mul_left _ (hd g (by omega))
      omega
    · have := dgS_le (p := p) hd k (by omega) (show g < k by omega)
      omega
/-- both sides have one DEGREE -/
theorem dg_eq {v : Nat → Int64} {gl : Nat → Nat} (h : si7 (fun g => (v g).toInt * (eD (gl g) : Nat)) = 0) : dgS (vlP v) gl 7 = dgS (vlM v) gl 7 := by
  have e : ∀ g, (v g).toInt * (eD (gl g) : Nat) = ((vlP v g * eD (gl g) : Nat) : Int) - ((vlM v g * eD (gl g) : Nat) : Int) := fun g => by
    rw [Int.natCast_mul, Int.natCast_mul, ← Int.sub_mul]
    congr 1
    unfold vlP vlM
    omega
  rw [si7_c (fun g _ => e g)] at h
  unfold si7 at h
  dsimp only at h
  simp only [dgS]
  omega
def laV (S : ST) : Nat → Int64 := (laG (tG S) 1).2.1 0
def fCertified (S : ST) (x : Int32) : Int32 × ST := if bB x 1 6 = true then
    (if (laG (tG S) 1).1 = 1 then
      (if ni x < dgS (vlP (laV S)) (gL (tG S)) 7 then (0, S) else match difP (gN (tG S)) (gP (tG S)) (n7 (vlP (laV S))) (n7 (vlM (laV S))) with
        | none => (-5, S)
        | some f => match aptS S f with
          | none => (-5, S)
          | some w => (if lead1 w.1 (tO S) = 0 then 1 else 0, S))
    else (if (laG (tG S) 1).1 = 0 then 1 else 0, S))
  else (-1, S)
theorem dgS_b {p gl : Nat → Nat} {A : Nat} : ∀ k, (∀ g, g < k → p g * eD (gl g) ≤ A) → dgS p gl k ≤ k * A
  | 0, _ => by rw [dgS]; omega
  | k + 1, h => by
    have := dgS_b k (fun g hg => h g (by omega))
    have := h k (by omega)
    rw [dgS, Nat.succ_mul]
    omega
theorem m_certified {V : GV} {d b : Nat} {S : ST} {x : Int32} {X : XT} {FI AI : FT} {AL : LT} (h : MO X b) (hI : MIv S FI AI AL b) (hW : WS S) : G V m_Mod_certified (d + 7) 0 [some (.ref b), some (.int x), none, none, none, none, none] [] X FI AI AL (fun r X' FI' AI' AL' => r = some (.int (fCertified S x).1) ∧ X' = X ∧ MIv (fCertified S x).2 FI' AI' AL' b ∧ fM FI FI' AI AI' AL AL' b) := by
  obtain ⟨hG, hO, hSl, -⟩ := id hI
  have hT := hG.1
  have hn9 := hG.2.1
  have ho := hG.2.2.1
  have hrk := hG.2.2.2.1
  have hn7 := hW.2.1.1
  have hgl := hG.gl hW.2.1
  have hinj := hW.2.1.2.2
  have hl2 : ∀ i, i < gN (tG S) → gL (tG S) i < 84 ∧ 1 ≤ eD (gL (tG S) i) := fun i hi => (hgl i hi).2
  have hlen : ∀ t, t < 84 → (RN (leadL (gL (tG S)) (gN (tG S))) t).length ≤ 120 := fun t ht => by rw [RN, List.length_map]; exact RT_128 hn7 hl2 hinj ht
  refine G_iload1 1 d_Mod_certified_0 rfl ?_
  refine G_invS1b 4 d_Mod_certified_1 rfl e_Mod_385 M_Mod_isBound (Nat.le_of_ble_eq_true rfl) (Nat.le_of_ble_eq_true rfl) rfl (s_mIsBound) (fun h1 => G_ifne1 7 d_Mod_certified_4 9 rfl rfl ?_) (fun h1 => G_ifne0 7 d_Mod_certified_4 9 rfl rfl ?_)
  · obtain ⟨e, e1, e6, e31, rfl⟩ := isB_n (lo := 1) (hi := 6) h1
    have q0 : bB (nI e) 1 6 = true := bB_iff.mpr h1
    have z0 := ni_nI e31
    have hlb := s_layS (V := V) (d := d + 3) (w := 1) h hI hW (by omega)
    refine G_aload0 10 d_Mod_certified_9 rfl ?_
    refine G_iconstN 1 11 d_Mod_certified_10 rfl rfl ?_
    refine G_invV1 14 d_Mod_certified_11 rfl e_Mod_429 M_Mod_layBasis rfl h.sh (Nat.le_of_ble_eq_true rfl) (Nat.le_of_ble_eq_true rfl) rfl (G.conseq (hlb) (fun r11 X11 FI11 AI11 AL11 h11 => ?_))
    obtain ⟨a1, a2, k⟩ := h11
    replace a2 := a2.symm
    subst a1 a2
    have r46 := k.rk
    have hm7 := k.le
    obtain ⟨hI2, hF2⟩ := k.mi hI
    have hT2 := hI2.1.1
    by_cases hr1 : (laG (tG S) 1).1 = 1
    · have hok := laG_ok hn7 (fun g hg => (hl2 g hg).1) 1
      obtain ⟨v1, v2, v3⟩ := cert_v hn7 (fun g hg => (hl2 g hg).1) hok hr1
      have eV : ∀ g, (laG (tG S) 1).2.1 0 g = laV S g := fun _ => rfl
      simp only [eV] at v1 v2 v3
      have hdeg := dg_eq v3
      have hpz : ∀ g, gN (tG S) ≤ g → g < 7 → vlP (laV S) g = 0 := fun g g1 g2 => by unfold vlP; rw [v1 g g1 g2]; rfl
      have hmz : ∀ g, gN (tG S) ≤ g → g < 7 → vlM (laV S) g = 0 := fun g g1 g2 => by unfold vlM; rw [v1 g g1 g2]; rfl
      have hb1 : ∀ g, g < 7 → vlP (laV S) g * eD (gL (tG S) g) ≤ 27648 * 6 := fun g g7 => by
        by_cases hgn : g < gN (tG S)
        · have := v2 g g7
          exact Nat.mul_le_mul (by unfold vlP; omega) (e_le (hl2 g hgn).1).2.2.2.1
        · rw [hpz g (by omega) g7, Nat.zero_mul]; omega
      have hD : ∀ j, j ≤ 7 → dgS (vlP (laV S)) (gL (tG S)) j ≤ j * (27648 * 6) := fun j hj => dgS_b j (fun g hg => hb1 g (by omega))
      have L : ∀ j, j ≤ 7 → ∀ (v5 v6 : Option Value) (AJ : FT), (∀ c, c ≠ b + 27 → AJ c = AI11 c) → (∀ g, g < j → AJ (b + 27) (21 + g) = (if 0 < (laV S g).toInt then (laV S g).toInt32 else 0) ∧ AJ (b + 27) (28 + g) = (if (laV S g).toInt < 0 then (-(laV S g)).toInt32 else 0)) → G V m_Mod_certified (d + 7) 40 [some (.ref b), some (.int (nI e)), some (.long (lN (dgS (vlP (laV S)) (gL (tG S)) j))), none, some (.int (nI j)), v5, v6] [] X FI11 AJ AL11 (fun r X' FI' AI' AL' => r = some (.int (fCertified S (nI e)).1) ∧ X' = X ∧ MIv (fCertified S (nI e)).2 FI' AI' AL' b ∧ fM FI FI' AI AI' AL AL' b) := by
        refine upto ?_ ?_
        · intro v5 v6 AJ k1 k2
          obtain ⟨hI3, hF3⟩ := hI2.w27 k1
          have hF4 := hF2.tr hF3
          have hD7 := hD 7 (by omega)
          have tD : (lN (dgS (vlP (laV S)) (gL (tG S)) 7)).toInt = (dgS (vlP (laV S)) (gL (tG S)) 7 : Int) := lN_ti (by omega)
          refine G_iload4 42 d_Mod_certified_40 rfl ?_
          refine G_bipushN 7 44 d_Mod_certified_42 rfl rfl ?_
          first | refine G_icgeN 140 47 d_Mod_certified_44 rfl rfl (by omega) (by omega) (fun h44 => ?_) (fun h44 => ?_) | refine G_icge 140 47 d_Mod_certified_44 rfl rfl (fun h44 => ?_) (fun h44 => ?_)
          · refine G_lload2 141 d_Mod_certified_140 rfl ?_
            refine G_iload1 142 d_Mod_certified_141 rfl ?_
            refine G_i2l 143 d_Mod_certified_142 rfl ?_
            refine G_lcle 149 147 d_Mod_certified_143 d_Mod_certified_144 rfl rfl (fun h143 => ?_) (fun h143 => ?_)
            · -- low enough
              have hde : dgS (vlP (laV S)) (gL (tG S)) 7 ≤ e := by
                rw [Int64.lt_iff_toInt_lt, tD, toL, nI_toInt (by omega)] at h143; omega
              have hg1 : ∀ i, i < gN (tG S) → 1 ≤ eD (gL (tG S) i) := fun i hi => (hl2 i hi).2
              have e7p := dgS_7 (p := vlP (laV S)) (gl := gL (tG S)) hn7 hpz 7 (by omega) hn7
              have e7m := dgS_7 (p := vlM (laV S)) (gl := gL (tG S)) hn7 hmz 7 (by omega) hn7
              have hp6 : ∀ g, g < 7 → vlP (laV S) g ≤ 6 := fun g g7 => by
                by_cases hgn : g < gN (tG S)
                · have := dgS_le (p := vlP (laV S)) hg1 (gN (tG S)) (Nat.le_refl _) hgn
                  omega
                · rw [hpz g (by omega) g7]; omega
              have hm6 : ∀ g, g < 7 → vlM (laV S) g ≤ 6 := fun g g7 => by
                by_cases hgn : g < gN (tG S)
                · have := dgS_le (p := vlM (laV S)) hg1 (gN (tG S)) (Nat.le_refl _) hgn
                  omega
                · rw [hmz g (by omega) g7]; omega
              have w3 : WRw AJ b 3 (n7 (vlP (laV S))) := fun g g7 => by
                rw [pw_n7 (fun g g7 => by have := hp6 g g7; omega) g7]
                have hq := (k2 g g7).1
                have := hp6 g g7
                have h27 := v2 g g7
                show AJ (b + 27) (21 + g) = _
                rw [hq]
                apply Int32.toInt_inj.mp
                rw [nI_toInt (by omega)]
                unfold vlP
                split
                · rw [Int64.toInt_toInt32, Int.bmod_eq_of_le_mul_two (by omega) (by omega)]; omega
                · show (0 : Int) = _; omega
              have w4 : WRw AJ b 4 (n7 (vlM (laV S))) := fun g g7 => by
                rw [pw_n7 (fun g g7 => by have := hm6 g g7; omega) g7]
                have hq := (k2 g g7).2
                have := hm6 g g7
                have h27 := v2 g g7
                show AJ (b + 27) (28 + g) = _
                rw [hq]
                apply Int32.toInt_inj.mp
                rw [nI_toInt (by omega)]
                unfold vlM
                split
                · rw [Int64.toInt_toInt32, Int64.toInt_neg, Int.bmod_eq_of_le_mul_two (x := - (laV S g).toInt) (by omega) (by omega), Int.bmod_eq_of_le_mul_two (by omega) (by omega)]; omega
                · show (0 : Int) = _; omega
              have hdp : rdeg (gL (tG S)) (n7 (vlP (laV S))) (gN (tG S)) ≤ 6 := by rw [rdeg_n7 (fun g g7 => by have := hp6 g g7; omega) _ hn7]; omega
              have hdm : rdeg (gL (tG S)) (n7 (vlM (laV S))) (gN (tG S)) ≤ 6 := by rw [rdeg_n7 (fun g g7 => by have := hm6 g g7; omega) _ hn7]; omega
              have hdf := s_mDifference (V := V) (d := d + 2) (w := 3) (v := 4) h (hI3.1.gn hW.2.1) (by omega) (by omega) w3 w4 hdp hdm
              have eF : fCertified S (nI e) = (match difP (gN (tG S)) (gP (tG S)) (n7 (vlP (laV S))) (n7 (vlM (laV S))) with
                | none => (-5, S)
                | some f => match aptS S f with
                  | none => (-5, S)
                  | some w => (if lead1 w.1 (tO S) = 0 then 1 else 0, S)) := by
                unfold fCertified; rw [q0, z0, if_pos rfl, if_pos hr1, if_neg (by omega)]
              rw [eF]
              refine G_aload0 150 d_Mod_certified_149 rfl ?_
              refine G_iconstN 3 151 d_Mod_certified_150 rfl rfl ?_
              refine G_iconstN 4 152 d_Mod_certified_151 rfl rfl ?_
              refine G_invV2 155 d_Mod_certified_152 rfl e_Mod_391 M_Mod_layDifference rfl h.sh (Nat.le_of_ble_eq_true rfl) (Nat.le_of_ble_eq_true rfl) rfl (G.conseq (hdf) (fun r152 X152 FI152 AI152 AL152 h152 => ?_))
              obtain ⟨x1, x2, x3, x4, x5⟩ := h152
              replace x1 := x1.symm
              replace x2 := x2.symm
              replace x3 := x3.symm
              subst x1 x2 x3
              have hI4 := hI3.df hW x4
              have hF5 := hF4.tr (x4.fm (FI := FI11) (AI := AJ))
              cases hdd : difP (gN (tG S)) (gP (tG S)) (n7 (vlP (laV S))) (n7 (vlM (laV S))) with
              | none =>
                rw [hdd] at x5
                subst x5
                refine G_ifeq 165 158 d_Mod_certified_155 rfl rfl (fun h155 => ?_) (fun h155 => ?_)
                · refine G_bipush (-5) 167 d_Mod_certified_165 rfl rfl ?_
                  refine G_iret d_Mod_certified_167 rfl ?_
                  exact ⟨rfl, rfl, hI4, hF5⟩
                · exact absurd rfl h155
              | some f =>
                rw [hdd] at x5
                obtain ⟨rfl, m18⟩ := x5
                dsimp only
                have hap := s_mTakeApart (V := V) (d := d + 1) h (hI4.1.gn hW.2.1)
                rw [m18] at hap
                refine G_ifeq 165 158 d_Mod_certified_155 rfl rfl (fun h155 => ?_) (fun h155 => ?_)
                · exact absurd h155 (by decide)
                · refine G_aload0 159 d_Mod_certified_158 rfl ?_
                  refine G_invV0 162 d_Mod_certified_159 rfl e_Mod_344 M_Mod_takeApart rfl h.sh (Nat.le_of_ble_eq_true rfl) (Nat.le_of_ble_eq_true rfl) rfl (G.conseq (hap) (fun r159 X159 FI159 AI159 AL159 h159 => ?_))
                  obtain ⟨y1, y2, y3⟩ := h159
                  replace y1 := y1.symm
                  subst y1
                  have hI5 := hI4.ap hW y2
                  have hF6 := hF5.tr y2.fm
                  unfold aptS
                  cases ha : apt (tO S) (gN (tG S)) (leadL (gL (tG S)) (gN (tG S))) (gP (tG S)) 84 f [] with
                  | none =>
                    rw [ha] at y3
                    subst y3
                    refine G_ifne 168 165 d_Mod_certified_162 rfl rfl (fun h162 => ?_) (fun h162 => ?_)
                    · exact absurd rfl h162
                    · refine G_bipush (-5) 167 d_Mod_certified_165 rfl rfl ?_
                      refine G_iret d_Mod_certified_167 rfl ?_
                      exact ⟨rfl, rfl, hI5, hF6⟩
                  | some w =>
                    rw [ha] at y3
                    obtain ⟨rfl, s20, sts, w18, wl⟩ := y3
                    dsimp only
                    have hn := s_mIsNothing (V := V) (d := d + 5) (p := 18) (FI := FI159) (AL := AL159) h (by omega) ho hI5.1.2.2.2.1
                    rw [w18] at hn
                    refine G_ifne 168 165 d_Mod_certified_162 rfl rfl (fun h162 => ?_) (fun h162 => ?_)
                    · refine G_aload0 169 d_Mod_certified_168 rfl ?_
                      refine G_bipushN 18 171 d_Mod_certified_169 rfl rfl ?_
                      refine G_invV1b 174 d_Mod_certified_171 rfl e_Mod_351 M_Mod_isNothing rfl h.sh (Nat.le_of_ble_eq_true rfl) (Nat.le_of_ble_eq_true rfl) rfl (hn) (fun h171 => G_ifeq1 177 d_Mod_certified_174 181 rfl rfl ?_) (fun h171 => G_ifeq0 177 d_Mod_certified_174 181 rfl rfl ?_)
                      · simp only [if_pos h171]
                        refine G_iconstN 1 178 d_Mod_certified_177 rfl rfl ?_
                        refine G_goto 182 d_Mod_certified_178 rfl ?_
                        refine G_iret d_Mod_certified_182 rfl ?_
                        exact ⟨rfl, rfl, hI5, hF6⟩
                      · simp only [if_neg h171]
                        refine G_iconstN 0 182 d_Mod_certified_181 rfl rfl ?_
                        refine G_iret d_Mod_certified_182 rfl ?_
                        exact ⟨rfl, rfl, hI5, hF6⟩
                    · exact absurd h162 (by decide)
            · have hde : e < dgS (vlP (laV S)) (gL (tG S)) 7 := by
                rw [Int64.lt_iff_toInt_lt, tD, toL, nI_toInt (by omega)] at h143; omega
              have eF : fCertified S (nI e) = (0, S) := by unfold fCertified; rw [q0, z0, if_pos rfl, if_pos hr1, if_pos hde]
              rw [eF]
              refine G_iconstN 0 148 d_Mod_certified_147 rfl rfl ?_
              refine G_iret d_Mod_certified_148 rfl ?_
              exact ⟨rfl, rfl, hI3, hF4⟩
          · omega
        · intro j hj ih v5 v6 AJ k1 k2
          have ej : AL11 (b + 31) j = laV S j := by
            have := k.bs 0 j (by omega) hj
            rw [show 7 * 0 + j = j by omega] at this; exact this
          have hDj := hD j (by omega)
          have h27 := v2 j hj
          have fin : ∀ (x y : Int32) (z : Int64) (u5 u6 : Option Value), x = (if 0 < (laV S j).toInt then (laV S j).toInt32 else 0) → y = (if (laV S j).toInt < 0 then (-(laV S j)).toInt32 else 0) → z = lN (dgS (vlP (laV S)) (gL (tG S)) (j + 1)) → G V m_Mod_certified (d + 7) 40 [some (.ref b), some (.int (nI e)), some (.long z), none, some (.int (nI (j + 1))), u5, u6] [] X FI11 (u2 (u2 AJ (b + 27) (21 + j) x) (b + 27) (28 + j) y) AL11 (fun r X' FI' AI' AL' => r = some (.int (fCertified S (nI e)).1) ∧ X' = X ∧ MIv (fCertified S (nI e)).2 FI' AI' AL' b ∧ fM FI FI' AI AI' AL AL' b) := by
            intro x y z u5 u6 ex ey ez
            rw [ez]
            refine ih _ _ _ (fun c hc => by rw [u2_off _ _ _ hc, u2_off _ _ _ hc]; exact k1 c hc) (fun g hg => ?_)
            by_cases eg : g = j
            · subst eg
              refine ⟨?_, by rw [u2_at]; exact ey⟩
              rw [u2_ix _ _ (by omega), u2_at]; exact ex
            · refine ⟨?_, ?_⟩
              · rw [u2_ix _ _ (by omega), u2_ix _ _ (by omega)]; exact (k2 g (by omega)).1
              · rw [u2_ix _ _ (by omega), u2_ix _ _ (by omega)]; exact (k2 g (by omega)).2
          have zL : (0 : Int64).toInt = 0 := rfl
          refine G_iload4 42 d_Mod_certified_40 rfl ?_
          refine G_bipushN 7 44 d_Mod_certified_42 rfl rfl ?_
          first | refine G_icgeN 140 47 d_Mod_certified_44 rfl rfl (by omega) (by omega) (fun h44 => ?_) (fun h44 => ?_) | refine G_icge 140 47 d_Mod_certified_44 rfl rfl (fun h44 => ?_) (fun h44 => ?_)
          · omega
          · by_cases hp : 0 < (laV S j).toInt
            · have hjn : j < gN (tG S) := Classical.byContradiction fun hn => by rw [v1 j (by omega) hj] at hp; exact absurd hp (by decide)
              have hdo := s_mDegreeOf (V := V) (d := d + 6) (FI := FI11) (AL := AL11) h (AI := u2 (u2 AJ (b + 27) (21 + j) (laV S j).toInt32) (b + 27) (28 + j) (nI 0)) ⟨fun t ht => by rw [u2_off _ _ _ (by omega), u2_off _ _ _ (by omega), u2_off _ _ _ (by omega), u2_off _ _ _ (by omega), u2_off _ _ _ (by omega), u2_off _ _ _ (by omega), k1 _ (by omega), k1 _ (by omega), k1 _ (by omega)]; exact hT2.1 t ht, fun x y z hs => by rw [u2_off _ _ _ (by omega), u2_off _ _ _ (by omega), k1 _ (by omega)]; exact hT2.2 x y z hs⟩ (hl2 j hjn).1
              have e9 : u2 (u2 AJ (b + 27) (21 + j) (laV S j).toInt32) (b + 27) (28 + j) (nI 0) (b + 9) j = nI (gL (tG S) j) := by
                rw [u2_off _ _ _ (by omega), u2_off _ _ _ (by omega), k1 _ (by omega)]; exact (hI2.1.2.2.2.2 j hjn).1
              have hd6 := (e_le (hl2 j hjn).1).2.2.2.1
              have ez : lN (dgS (vlP (laV S)) (gL (tG S)) j) + laV S j * (nI (eD (gL (tG S) j))).toInt64 = lN (dgS (vlP (laV S)) (gL (tG S)) (j + 1)) := by
                apply Int64.toInt_inj.mp
                have hD1 := hD (j + 1) (by omega)
                have t1 := tm_x h27 (show ((nI (eD (gL (tG S) j))).toInt64).toInt.natAbs ≤ 6 by rw [toL, nI_toInt (by omega)]; omega) (by omega)
                have t2 := ad_x (show (lN (dgS (vlP (laV S)) (gL (tG S)) j)).toInt.natAbs ≤ 7 * (27648 * 6) by rw [lN_ti (by omega)]; omega) t1.2 (by omega)
                rw [t2.1, t1.1, lN_ti (by omega), lN_ti (by omega), toL, nI_toInt (by omega), dgS]
                have : ((vlP (laV S) j : Nat) : Int) = (laV S j).toInt := by unfold vlP; omega
                rw [Int.natCast_add, Int.natCast_mul, this]
              refine G_aload0 48 d_Mod_certified_47 rfl ?_
              refine G_getR 51 d_Mod_certified_48 rfl f_Mod_103 rfl h.sh h.f44 ?_
              refine G_iload4 53 d_Mod_certified_51 rfl ?_
              refine G_laloadv 54 d_Mod_certified_53 rfl h.s44 (ix_nI (by omega) (by omega)) ej ?_
              refine G_lstore5 56 d_Mod_certified_54 rfl (by decide) rfl ?_
              refine G_aload0 57 d_Mod_certified_56 rfl ?_
              refine G_getR 60 d_Mod_certified_57 rfl f_Mod_91 rfl h.sh h.f36 ?_
              refine G_bipushN 21 62 d_Mod_certified_60 rfl rfl ?_
              refine G_iload4 64 d_Mod_certified_62 rfl ?_
              first | refine G_iaddN 65 d_Mod_certified_64 rfl ?_ | refine G_iadd 65 d_Mod_certified_64 rfl ?_
              refine G_lload5 67 d_Mod_certified_65 rfl ?_
              refine G_lconst 0 68 d_Mod_certified_67 rfl rfl ?_
              refine G_lcle 78 72 d_Mod_certified_68 d_Mod_certified_69 rfl rfl (fun h68 => ?_) (fun h68 => ?_)
              · rw [Int64.lt_iff_toInt_lt, zL] at h68; omega
              · refine G_lload5 74 d_Mod_certified_72 rfl ?_
                refine G_l2i 75 d_Mod_certified_74 rfl ?_
                refine G_goto 79 d_Mod_certified_75 rfl ?_
                refine G_iastore 80 d_Mod_certified_79 rfl h.s36 (ix_nI (by omega) (by omega)) ?_
                refine G_aload0 81 d_Mod_certified_80 rfl ?_
                refine G_getR 84 d_Mod_certified_81 rfl f_Mod_91 rfl h.sh h.f36 ?_
                refine G_bipushN 28 86 d_Mod_certified_84 rfl rfl ?_
                refine G_iload4 88 d_Mod_certified_86 rfl ?_
                first | refine G_iaddN 89 d_Mod_certified_88 rfl ?_ | refine G_iadd 89 d_Mod_certified_88 rfl ?_
                refine G_lload5 91 d_Mod_certified_89 rfl ?_
                refine G_lconst 0 92 d_Mod_certified_91 rfl rfl ?_
                refine G_lcge 103 96 d_Mod_certified_92 d_Mod_certified_93 rfl rfl (fun h92 => ?_) (fun h92 => ?_)
                · refine G_iconstN 0 104 d_Mod_certified_103 rfl rfl ?_
                  refine G_iastore 105 d_Mod_certified_104 rfl h.s36 (ix_nI (by omega) (by omega)) ?_
                  refine G_lload2 106 d_Mod_certified_105 rfl ?_
                  refine G_lload5 108 d_Mod_certified_106 rfl ?_
                  refine G_lconst 0 109 d_Mod_certified_108 rfl rfl ?_
                  refine G_lcle 131 113 d_Mod_certified_109 d_Mod_certified_110 rfl rfl (fun h109 => ?_) (fun h109 => ?_)
                  · rw [Int64.lt_iff_toInt_lt, zL] at h109; omega
                  · refine G_lload5 115 d_Mod_certified_113 rfl ?_
                    refine G_aload0 116 d_Mod_certified_115 rfl ?_
                    refine G_aload0 117 d_Mod_certified_116 rfl ?_
                    refine G_getR 120 d_Mod_certified_117 rfl f_Mod_37 rfl h.sh h.f10 ?_
                    refine G_iload4 122 d_Mod_certified_120 rfl ?_
                    refine G_ialoadv 123 d_Mod_certified_122 rfl h.s10 (ix_nI (by omega) (by omega)) e9 ?_
                    refine G_invV1d 126 d_Mod_certified_123 rfl e_Mod_147 M_Mod_degreeOf rfl h.sh (Nat.le_of_ble_eq_true rfl) (Nat.le_of_ble_eq_true rfl) rfl (hdo) ?_
                    refine G_i2l 127 d_Mod_certified_126 rfl ?_
                    refine G_lmul 128 d_Mod_certified_127 rfl ?_
                    refine G_goto 132 d_Mod_certified_128 rfl ?_
                    refine G_ladd 133 d_Mod_certified_132 rfl ?_
                    refine G_lstore2 134 d_Mod_certified_133 rfl (by decide) rfl ?_
                    first | refine G_iincN4 137 d_Mod_certified_134 rfl (by decide) rfl ?_ | refine G_iinc4 _ 137 d_Mod_certified_134 rfl (by decide) rfl rfl ?_
                    refine G_goto 40 d_Mod_certified_137 rfl ?_
                    exact fin _ _ _ _ _ (if_pos hp).symm (if_neg (by omega)).symm ez
                · rw [Int64.lt_iff_toInt_lt, zL] at h92; omega
            · have ez : lN (dgS (vlP (laV S)) (gL (tG S)) j) + 0 = lN (dgS (vlP (laV S)) (gL (tG S)) (j + 1)) := by
                have : vlP (laV S) j = 0 := by unfold vlP; omega
                rw [dgS, this, Nat.zero_mul, Nat.add_zero, Int64.add_zero]
              refine G_aload0 48 d_Mod_certified_47 rfl ?_
              refine G_getR 51 d_Mod_certified_48 rfl f_Mod_103 rfl h.sh h.f44 ?_
              refine G_iload4 53 d_Mod_certified_51 rfl ?_
              refine G_laloadv 54 d_Mod_certified_53 rfl h.s44 (ix_nI (by omega) (by omega)) ej ?_
              refine G_lstore5 56 d_Mod_certified_54 rfl (by decide) rfl ?_
              refine G_aload0 57 d_Mod_certified_56 rfl ?_
              refine G_getR 60 d_Mod_certified_57 rfl f_Mod_91 rfl h.sh h.f36 ?_
              refine G_bipushN 21 62 d_Mod_certified_60 rfl rfl ?_
              refine G_iload4 64 d_Mod_certified_62 rfl ?_
              first | refine G_iaddN 65 d_Mod_certified_64 rfl ?_ | refine G_iadd 65 d_Mod_certified_64 rfl ?_
              refine G_lload5 67 d_Mod_certified_65 rfl ?_
              refine G_lconst 0 68 d_Mod_certified_67 rfl rfl ?_
              refine G_lcle 78 72 d_Mod_certified_68 d_Mod_certified_69 rfl rfl (fun h68 => ?_) (fun h68 => ?_)
              · by_cases hm : (laV S j).toInt < 0
                · refine G_iconstN 0 79 d_Mod_certified_78 rfl rfl ?_
                  refine G_iastore 80 d_Mod_certified_79 rfl h.s36 (ix_nI (by omega) (by omega)) ?_
                  refine G_aload0 81 d_Mod_certified_80 rfl ?_
                  refine G_getR 84 d_Mod_certified_81 rfl f_Mod_91 rfl h.sh h.f36 ?_
                  refine G_bipushN 28 86 d_Mod_certified_84 rfl rfl ?_
                  refine G_iload4 88 d_Mod_certified_86 rfl ?_
                  first | refine G_iaddN 89 d_Mod_certified_88 rfl ?_ | refine G_iadd 89 d_Mod_certified_88 rfl ?_
                  refine G_lload5 91 d_Mod_certified_89 rfl ?_
                  refine G_lconst 0 92 d_Mod_certified_91 rfl rfl ?_
                  refine G_lcge 103 96 d_Mod_certified_92 d_Mod_certified_93 rfl rfl (fun h92 => ?_) (fun h92 => ?_)
                  · rw [Int64.lt_iff_toInt_lt, zL] at h92; omega
                  · refine G_lload5 98 d_Mod_certified_96 rfl ?_
                    refine G_lneg 99 d_Mod_certified_98 rfl ?_
                    refine G_l2i 100 d_Mod_certified_99 rfl ?_
                    refine G_goto 104 d_Mod_certified_100 rfl ?_
                    refine G_iastore 105 d_Mod_certified_104 rfl h.s36 (ix_nI (by omega) (by omega)) ?_
                    refine G_lload2 106 d_Mod_certified_105 rfl ?_
                    refine G_lload5 108 d_Mod_certified_106 rfl ?_
                    refine G_lconst 0 109 d_Mod_certified_108 rfl rfl ?_
                    refine G_lcle 131 113 d_Mod_certified_109 d_Mod_certified_110 rfl rfl (fun h109 => ?_) (fun h109 => ?_)
                    · refine G_lconst 0 132 d_Mod_certified_131 rfl rfl ?_
                      refine G_ladd 133 d_Mod_certified_132 rfl ?_
                      refine G_lstore2 134 d_Mod_certified_133 rfl (by decide) rfl ?_
                      first | refine G_iincN4 137 d_Mod_certified_134 rfl (by decide) rfl ?_ | refine G_iinc4 _ 137 d_Mod_certified_134 rfl (by decide) rfl rfl ?_
                      refine G_goto 40 d_Mod_certified_137 rfl ?_
                      exact fin _ _ _ _ _ (if_neg hp).symm (if_pos hm).symm ez
                    · rw [Int64.lt_iff_toInt_lt, zL] at h109; omega
                · refine G_iconstN 0 79 d_Mod_certified_78 rfl rfl ?_
                  refine G_iastore 80 d_Mod_certified_79 rfl h.s36 (ix_nI (by omega) (by omega)) ?_
                  refine G_aload0 81 d_Mod_certified_80 rfl ?_
                  refine G_getR 84 d_Mod_certified_81 rfl f_Mod_91 rfl h.sh h.f36 ?_
                  refine G_bipushN 28 86 d_Mod_certified_84 rfl rfl ?_
                  refine G_iload4 88 d_Mod_certified_86 rfl ?_
                  first | refine G_iaddN 89 d_Mod_certified_88 rfl ?_ | refine G_iadd 89 d_Mod_certified_88 rfl ?_
                  refine G_lload5 91 d_Mod_certified_89 rfl ?_
                  refine G_lconst 0 92 d_Mod_certified_91 rfl rfl ?_
                  refine G_lcge 103 96 d_Mod_certified_92 d_Mod_certified_93 rfl rfl (fun h92 => ?_) (fun h92 => ?_)
                  · refine G_iconstN 0 104 d_Mod_certified_103 rfl rfl ?_
                    refine G_iastore 105 d_Mod_certified_104 rfl h.s36 (ix_nI (by omega) (by omega)) ?_
                    refine G_lload2 106 d_Mod_certified_105 rfl ?_
                    refine G_lload5 108 d_Mod_certified_106 rfl ?_
                    refine G_lconst 0 109 d_Mod_certified_108 rfl rfl ?_
                    refine G_lcle 131 113 d_Mod_certified_109 d_Mod_certified_110 rfl rfl (fun h109 => ?_) (fun h109 => ?_)
                    · refine G_lconst 0 132 d_Mod_certified_131 rfl rfl ?_
                      refine G_ladd 133 d_Mod_certified_132 rfl ?_
                      refine G_lstore2 134 d_Mod_certified_133 rfl (by decide) rfl ?_
                      first | refine G_iincN4 137 d_Mod_certified_134 rfl (by decide) rfl ?_ | refine G_iinc4 _ 137 d_Mod_certified_134 rfl (by decide) rfl rfl ?_
                      refine G_goto 40 d_Mod_certified_137 rfl ?_
                      exact fin _ _ _ _ _ (if_neg hp).symm (if_neg hm).symm ez
                    · rw [Int64.lt_iff_toInt_lt, zL] at h109; omega
                  · rw [Int64.lt_iff_toInt_lt, zL] at h92; omega
              · rw [Int64.lt_iff_toInt_lt, zL] at h68; omega
      refine G_aload0 15 d_Mod_certified_14 rfl ?_
      refine G_getIv 18 d_Mod_certified_15 rfl f_Mod_426 rfl h.sh r46 ?_
      refine G_iconstN 1 19 d_Mod_certified_18 rfl rfl ?_
      first | refine G_iceqN 35 22 d_Mod_certified_19 rfl rfl (by omega) (by omega) (fun h19 => ?_) (fun h19 => ?_) | refine G_iceq 35 22 d_Mod_certified_19 rfl rfl (fun h19 => ?_) (fun h19 => ?_)
      · refine G_lconst 0 36 d_Mod_certified_35 rfl rfl ?_
        refine G_lstore2 37 d_Mod_certified_36 rfl (by decide) rfl ?_
        refine G_iconstN 0 38 d_Mod_certified_37 rfl rfl ?_
        refine G_istore4 40 d_Mod_certified_38 rfl (by decide) rfl ?_
        exact L 0 (by omega) _ _ AI11 (fun _ _ => rfl) (fun g hg => by omega)
      · exact absurd hr1 h19
    · have eF : fCertified S (nI e) = (if (laG (tG S) 1).1 = 0 then 1 else 0, S) := by unfold fCertified; rw [q0, if_pos rfl, if_neg hr1]
      rw [eF]
      refine G_aload0 15 d_Mod_certified_14 rfl ?_
      refine G_getIv 18 d_Mod_certified_15 rfl f_Mod_426 rfl h.sh r46 ?_
      refine G_iconstN 1 19 d_Mod_certified_18 rfl rfl ?_
      first | refine G_iceqN 35 22 d_Mod_certified_19 rfl rfl (by omega) (by omega) (fun h19 => ?_) (fun h19 => ?_) | refine G_iceq 35 22 d_Mod_certified_19 rfl rfl (fun h19 => ?_) (fun h19 => ?_)
      · exact absurd h19 hr1
      · by_cases hr0 : (laG (tG S) 1).1 = 0
        · rw [if_pos hr0]
          have hz : nI (laG (tG S) 1).1 = 0 := by rw [hr0]; rfl
          refine G_aload0 23 d_Mod_certified_22 rfl ?_
          refine G_getIv 26 d_Mod_certified_23 rfl f_Mod_426 rfl h.sh r46 ?_
          refine G_ifne 33 29 d_Mod_certified_26 rfl rfl (fun h26 => ?_) (fun h26 => ?_)
          · exact absurd hz h26
          · refine G_iconstN 1 30 d_Mod_certified_29 rfl rfl ?_
            refine G_goto 34 d_Mod_certified_30 rfl ?_
            refine G_iret d_Mod_certified_34 rfl ?_
            exact ⟨rfl, rfl, hI2, hF2⟩
        · rw [if_neg hr0]
          refine G_aload0 23 d_Mod_certified_22 rfl ?_
          refine G_getIv 26 d_Mod_certified_23 rfl f_Mod_426 rfl h.sh r46 ?_
          refine G_ifne 33 29 d_Mod_certified_26 rfl rfl (fun h26 => ?_) (fun h26 => ?_)
          · refine G_iconstN 0 34 d_Mod_certified_33 rfl rfl ?_
            refine G_iret d_Mod_certified_34 rfl ?_
            exact ⟨rfl, rfl, hI2, hF2⟩
          · exact absurd h26 (nI_ne0 (by omega) (by omega))
  · have q0 := bB_f h1
    have eF : fCertified S x = (-1, S) := by unfold fCertified; rw [q0]; rfl
    rw [eF]
    refine G_iconst (-1) 8 d_Mod_certified_7 rfl rfl ?_
    refine G_iret d_Mod_certified_8 rfl ?_
    exact ⟨rfl, rfl, hI, fM.rf⟩
