/-! ===== the reference: ofGenerator ===== -/
def hfI (hs : Nat → Nat) (r a : Nat) : Nat → Nat
  | 0 => a
  | q + 1 => if 0 < pw r q ∧ hfI hs r a q < hs q + 1 then hs q + 1 else hfI hs r a q
def hfO (hs R : Nat → Nat) (g : Nat) : Nat → Nat
  | 0 => 0
  | i + 1 => hfI hs (R i) (hfO hs R g i) g
def hfH (hs R : Nat → Nat) (K g : Nat) : Nat := if 0 < K ∧ hfO hs R g K = 0 then 1 else hfO hs R g K
def hgA (G : GT) : Nat → Nat → Nat
  | 0 => fun _ => 0
  | g + 1 => upn (hgA G g) g (hfH (hgA G g) (gR G g) (gK G g) g)
def hgL (G : GT) : Nat → Nat
  | 0 => 0
  | g + 1 => hgA G (g + 1) g
theorem hfI_le {hs : Nat → Nat} {B r a : Nat} (h : ∀ q, hs q ≤ B) (ha : a ≤ B + 1) : ∀ q, hfI hs r a q ≤ B + 1
  | 0 => ha
  | q + 1 => by
    have := hfI_le (r := r) h ha q
    have := h q
    unfold hfI
    split <;> omega
theorem hfO_le {hs R : Nat → Nat} {B g : Nat} (h : ∀ q, hs q ≤ B) : ∀ i, hfO hs R g i ≤ B + 1
  | 0 => Nat.zero_le _
  | i + 1 => hfI_le h (hfO_le h i) g
theorem hgA_le (G : GT) : ∀ g q, hgA G g q ≤ g
  | 0, _ => Nat.le_refl _
  | g + 1, q => by
    unfold hgA
    by_cases e : q = g
    · rw [e, upn_at]
      have := hfO_le (R := gR G g) (g := g) (hgA_le G g) (gK G g)
      unfold hfH
      split <;> omega
    · rw [upn_ne _ _ e]
      have := hgA_le G g q
      omega
def ofG (S : ST) (g w : Nat) : Nat := if w = 4 then (if 0 < gK (tG S) g then 1 else 0) else if w = 5 then hgL (tG S) (g + 1) else if w = 6 then gK (tG S) g else if w = 7 then (if (tRN S (gL (tG S) g)).length ≤ 1 then 0 else 1) else if w = 8 then cnt (gP (tG S) g) else (if w = 3 then eD (gL (tG S) g) else ex (gL (tG S) g) w)
def fOfGen (S : ST) (x y : Int32) : Int32 × ST := if (bN x (gN (tG S)) && bN y 9) = true then (nI (ofG S (ni x) (ni y)), S) else (-1, S)
theorem MIv.h20 {S : ST} {FI AI AI' : FT} {AL : LT} {b : Nat} (h : MIv S FI AI AL b) (k : ∀ c, c ≠ b + 20 → AI' c = AI c) : MIv S FI AI' AL b ∧ fM FI FI AI AI' AL AL b := by
  obtain ⟨g, a1, a2, a3, a4, a5, a6⟩ := h.de
  refine ⟨MIv.mk (S := S) ⟨⟨fun s hs => ?_, fun x y z hs => ?_⟩, g.2.1, g.2.2.1, fun j hj => ?_, fun q hq => ?_⟩ a1 a2 (a3.tr rfl rfl (k _ (by omega)) rfl) (a4.tr (k _ (by omega)) (k _ (by omega)) (k _ (by omega))) (a5.tr rfl (k _ (by omega)) (k _ (by omega)) rfl) (a6.tr rfl rfl rfl (k _ (by omega)) (k _ (by omega)) rfl rfl), fun c hc => ⟨rfl, k c (by omega), rfl⟩⟩
  · rw [k _ (by omega), k _ (by omega), k _ (by omega)]; exact g.1.1 s hs
  · rw [k _ (by omega)]; exact g.1.2 x y z hs
  · rw [k _ (by omega)]; exact g.2.2.2.1 j hj
  · obtain ⟨b1, b2, b3, b4⟩ := g.2.2.2.2 q hq
    exact ⟨by rw [k _ (by omega)]; exact b1, b2, by rw [k _ (by omega)]; exact b3, fun i hi => ⟨(b4 i hi).1, fun f hf => by rw [k _ (by omega)]; exact (b4 i hi).2 f hf⟩⟩
theorem s_mHeightFrom {V : GV} {d b g K : Nat} {hs R : Nat → Nat} {X : XT} {FI AI : FT} {AL : LT} (h : MO X b) (hg : g < 7) (hK : K ≤ 86) (e10 : AI (b + 10) g = nI K) (eR : ∀ i, i < K → ∀ q, q < 7 → AI (b + 12) (7 * (86 * g + i) + q) = nI (pw (R i) q)) (eH : ∀ q, q < g → AI (b + 20) q = nI (hs q)) (h7 : ∀ q, hs q ≤ 7) : G V m_Mod_heightFrom d 0 [some (.ref b), some (.int (nI g)), none, none, none, none] [] X FI AI AL (Pd (some (.int (nI (hfH hs R K g)))) X FI AI AL) := by
  have hO := fun i => hfO_le (R := R) (g := g) h7 i
  have O : ∀ i, i ≤ K → ∀ v4 v5 : Option Value, G V m_Mod_heightFrom d 4 [some (.ref b), some (.int (nI g)), some (.int (nI (hfO hs R g i))), some (.int (nI i)), v4, v5] [] X FI AI AL (Pd (some (.int (nI (hfH hs R K g)))) X FI AI AL) := by
    refine upto ?_ ?_
    · intro v4 v5
      have hOK := hO K
      refine G_iload3 5 d_Mod_heightFrom_4 rfl ?_
      refine G_aload0 6 d_Mod_heightFrom_5 rfl ?_
      refine G_getR 9 d_Mod_heightFrom_6 rfl f_Mod_40 rfl h.sh h.f11 ?_
      refine G_iload1 10 d_Mod_heightFrom_9 rfl ?_
      refine G_ialoadv 11 d_Mod_heightFrom_10 rfl h.s11 (ix_nI (by omega) (by omega)) e10 ?_
      first | refine G_icgeN 94 14 d_Mod_heightFrom_11 rfl rfl (by omega) (by omega) (fun h11 => ?_) (fun h11 => ?_) | refine G_icge 94 14 d_Mod_heightFrom_11 rfl rfl (fun h11 => ?_) (fun h11 => ?_)
      · by_cases hz : 0 < K
        · by_cases hv : hfO hs R g K = 0
          · have e : nI (hfO hs R g K) = 0 := by rw [hv]; rfl
            have eq : hfH hs R K g = 1 := if_pos ⟨hz, hv⟩
            rw [eq]
            refine G_aload0 95 d_Mod_heightFrom_94 rfl ?_
            refine G_getR 98 d_Mod_heightFrom_95 rfl f_Mod_40 rfl h.sh h.f11 ?_
            refine G_iload1 99 d_Mod_heightFrom_98 rfl ?_
            refine G_ialoadv 100 d_Mod_heightFrom_99 rfl h.s11 (ix_nI (by omega) (by omega)) e10 ?_
            refine G_ifle 111 103 d_Mod_heightFrom_100 rfl rfl (fun h100 => ?_) (fun h100 => ?_)
            · exact absurd h100 (nI_nle hz (by omega))
            · refine G_iload2 104 d_Mod_heightFrom_103 rfl ?_
              refine G_ifne 111 107 d_Mod_heightFrom_104 rfl rfl (fun h104 => ?_) (fun h104 => ?_)
              · exact absurd e h104
              · refine G_iconstN 1 108 d_Mod_heightFrom_107 rfl rfl ?_
                refine G_goto 112 d_Mod_heightFrom_108 rfl ?_
                refine G_iret d_Mod_heightFrom_112 rfl ?_
                exact Pd.rf
          · have eq : hfH hs R K g = hfO hs R g K := if_neg (fun k => hv k.2)
            rw [eq]
            refine G_aload0 95 d_Mod_heightFrom_94 rfl ?_
            refine G_getR 98 d_Mod_heightFrom_95 rfl f_Mod_40 rfl h.sh h.f11 ?_
            refine G_iload1 99 d_Mod_heightFrom_98 rfl ?_
            refine G_ialoadv 100 d_Mod_heightFrom_99 rfl h.s11 (ix_nI (by omega) (by omega)) e10 ?_
            refine G_ifle 111 103 d_Mod_heightFrom_100 rfl rfl (fun h100 => ?_) (fun h100 => ?_)
            · exact absurd h100 (nI_nle hz (by omega))
            · refine G_iload2 104 d_Mod_heightFrom_103 rfl ?_
              refine G_ifne 111 107 d_Mod_heightFrom_104 rfl rfl (fun h104 => ?_) (fun h104 => ?_)
              · refine G_iload2 112 d_Mod_heightFrom_111 rfl ?_
                refine G_iret d_Mod_heightFrom_112 rfl ?_
                exact Pd.rf
              · exact absurd h104 (nI_ne0 (by omega) (by omega))
        · have eq : hfH hs R K g = hfO hs R g K := if_neg (fun k => hz k.1)
          have hle : nI K ≤ 0 := by rw [show K = 0 by omega]; decide
          rw [eq]
          refine G_aload0 95 d_Mod_heightFrom_94 rfl ?_
          refine G_getR 98 d_Mod_heightFrom_95 rfl f_Mod_40 rfl h.sh h.f11 ?_
          refine G_iload1 99 d_Mod_heightFrom_98 rfl ?_
          refine G_ialoadv 100 d_Mod_heightFrom_99 rfl h.s11 (ix_nI (by omega) (by omega)) e10 ?_
          refine G_ifle 111 103 d_Mod_heightFrom_100 rfl rfl (fun h100 => ?_) (fun h100 => ?_)
          · refine G_iload2 112 d_Mod_heightFrom_111 rfl ?_
            refine G_iret d_Mod_heightFrom_112 rfl ?_
            exact Pd.rf
          · exact absurd hle h100
      · omega
    · intro i hi ih v4 v5
      have hI := fun q => hfI_le (r := R i) h7 (hO i) q
      have I : ∀ q, q ≤ g → ∀ v5 : Option Value, G V m_Mod_heightFrom d 17 [some (.ref b), some (.int (nI g)), some (.int (nI (hfI hs (R i) (hfO hs R g i) q))), some (.int (nI i)), some (.int (nI q)), v5] [] X FI AI AL (Pd (some (.int (nI (hfH hs R K g)))) X FI AI AL) := by
        refine upto ?_ ?_
        · intro v5
          refine G_iload4 19 d_Mod_heightFrom_17 rfl ?_
          refine G_iload1 20 d_Mod_heightFrom_19 rfl ?_
          first | refine G_icgeN 88 23 d_Mod_heightFrom_20 rfl rfl (by omega) (by omega) (fun h20 => ?_) (fun h20 => ?_) | refine G_icge 88 23 d_Mod_heightFrom_20 rfl rfl (fun h20 => ?_) (fun h20 => ?_)
          · first | refine G_iincN3 91 d_Mod_heightFrom_88 rfl (by decide) rfl ?_ | refine G_iinc3 _ 91 d_Mod_heightFrom_88 rfl (by decide) rfl rfl ?_
            refine G_goto 4 d_Mod_heightFrom_91 rfl ?_
            exact ih _ _
          · omega
        · intro q hq ih2 v5
          have e0 := eR i hi q (by omega)
          have e20 := eH q hq
          have hq7 := h7 q
          have hIq := hI q
          have hpw := pw_lt (R i) q
          rw [hfI] at ih2
          refine G_iload4 19 d_Mod_heightFrom_17 rfl ?_
          refine G_iload1 20 d_Mod_heightFrom_19 rfl ?_
          first | refine G_icgeN 88 23 d_Mod_heightFrom_20 rfl rfl (by omega) (by omega) (fun h20 => ?_) (fun h20 => ?_) | refine G_icge 88 23 d_Mod_heightFrom_20 rfl rfl (fun h20 => ?_) (fun h20 => ?_)
          · omega
          · by_cases hz : 0 < pw (R i) q
            · refine G_aload0 24 d_Mod_heightFrom_23 rfl ?_
              refine G_getR 27 d_Mod_heightFrom_24 rfl f_Mod_46 rfl h.sh h.f13 ?_
              refine G_bipushN 7 29 d_Mod_heightFrom_27 rfl rfl ?_
              refine G_bipushN 86 31 d_Mod_heightFrom_29 rfl rfl ?_
              refine G_iload1 32 d_Mod_heightFrom_31 rfl ?_
              first | refine G_imulN 33 d_Mod_heightFrom_32 rfl ?_ | refine G_imul 33 d_Mod_heightFrom_32 rfl ?_
              refine G_iload3 34 d_Mod_heightFrom_33 rfl ?_
              first | refine G_iaddN 35 d_Mod_heightFrom_34 rfl ?_ | refine G_iadd 35 d_Mod_heightFrom_34 rfl ?_
              first | refine G_imulN 36 d_Mod_heightFrom_35 rfl ?_ | refine G_imul 36 d_Mod_heightFrom_35 rfl ?_
              refine G_iload4 38 d_Mod_heightFrom_36 rfl ?_
              first | refine G_iaddN 39 d_Mod_heightFrom_38 rfl ?_ | refine G_iadd 39 d_Mod_heightFrom_38 rfl ?_
              refine G_ialoadv 40 d_Mod_heightFrom_39 rfl h.s13 (ix_nI (by omega) (by omega)) e0 ?_
              refine G_ifle 47 43 d_Mod_heightFrom_40 rfl rfl (fun h40 => ?_) (fun h40 => ?_)
              · exact absurd h40 (nI_nle hz (by omega))
              · refine G_iconstN 1 44 d_Mod_heightFrom_43 rfl rfl ?_
                refine G_goto 48 d_Mod_heightFrom_44 rfl ?_
                refine G_istore5 50 d_Mod_heightFrom_48 rfl (by decide) rfl ?_
                refine G_iload5 52 d_Mod_heightFrom_50 rfl ?_
                refine G_ifeq 80 55 d_Mod_heightFrom_52 rfl rfl (fun h52 => ?_) (fun h52 => ?_)
                · exact absurd h52 (by decide)
                · refine G_aload0 56 d_Mod_heightFrom_55 rfl ?_
                  refine G_getR 59 d_Mod_heightFrom_56 rfl f_Mod_70 rfl h.sh h.f28 ?_
                  refine G_iload4 61 d_Mod_heightFrom_59 rfl ?_
                  refine G_ialoadv 62 d_Mod_heightFrom_61 rfl h.s28 (ix_nI (by omega) (by omega)) e20 ?_
                  refine G_iconstN 1 63 d_Mod_heightFrom_62 rfl rfl ?_
                  first | refine G_iaddN 64 d_Mod_heightFrom_63 rfl ?_ | refine G_iadd 64 d_Mod_heightFrom_63 rfl ?_
                  refine G_iload2 65 d_Mod_heightFrom_64 rfl ?_
                  first | refine G_icleN 80 68 d_Mod_heightFrom_65 rfl rfl (by omega) (by omega) (fun h65 => ?_) (fun h65 => ?_) | refine G_icle 80 68 d_Mod_heightFrom_65 rfl rfl (fun h65 => ?_) (fun h65 => ?_)
                  · rw [if_neg (fun k => by omega)] at ih2
                    refine G_iload2 81 d_Mod_heightFrom_80 rfl ?_
                    refine G_istore2 82 d_Mod_heightFrom_81 rfl (by decide) rfl ?_
                    first | refine G_iincN4 85 d_Mod_heightFrom_82 rfl (by decide) rfl ?_ | refine G_iinc4 _ 85 d_Mod_heightFrom_82 rfl (by decide) rfl rfl ?_
                    refine G_goto 17 d_Mod_heightFrom_85 rfl ?_
                    exact ih2 _
                  · rw [if_pos ⟨hz, by omega⟩] at ih2
                    refine G_aload0 69 d_Mod_heightFrom_68 rfl ?_
                    refine G_getR 72 d_Mod_heightFrom_69 rfl f_Mod_70 rfl h.sh h.f28 ?_
                    refine G_iload4 74 d_Mod_heightFrom_72 rfl ?_
                    refine G_ialoadv 75 d_Mod_heightFrom_74 rfl h.s28 (ix_nI (by omega) (by omega)) e20 ?_
                    refine G_iconstN 1 76 d_Mod_heightFrom_75 rfl rfl ?_
                    first | refine G_iaddN 77 d_Mod_heightFrom_76 rfl ?_ | refine G_iadd 77 d_Mod_heightFrom_76 rfl ?_
                    refine G_goto 81 d_Mod_heightFrom_77 rfl ?_
                    refine G_istore2 82 d_Mod_heightFrom_81 rfl (by decide) rfl ?_
                    first | refine G_iincN4 85 d_Mod_heightFrom_82 rfl (by decide) rfl ?_ | refine G_iinc4 _ 85 d_Mod_heightFrom_82 rfl (by decide) rfl rfl ?_
                    refine G_goto 17 d_Mod_heightFrom_85 rfl ?_
                    exact ih2 _
            · rw [if_neg (fun k => hz k.1)] at ih2
              have hle : nI (pw (R i) q) ≤ 0 := by rw [show pw (R i) q = 0 by omega]; decide
              refine G_aload0 24 d_Mod_heightFrom_23 rfl ?_
              refine G_getR 27 d_Mod_heightFrom_24 rfl f_Mod_46 rfl h.sh h.f13 ?_
              refine G_bipushN 7 29 d_Mod_heightFrom_27 rfl rfl ?_
              refine G_bipushN 86 31 d_Mod_heightFrom_29 rfl rfl ?_
              refine G_iload1 32 d_Mod_heightFrom_31 rfl ?_
              first | refine G_imulN 33 d_Mod_heightFrom_32 rfl ?_ | refine G_imul 33 d_Mod_heightFrom_32 rfl ?_
              refine G_iload3 34 d_Mod_heightFrom_33 rfl ?_
              first | refine G_iaddN 35 d_Mod_heightFrom_34 rfl ?_ | refine G_iadd 35 d_Mod_heightFrom_34 rfl ?_
              first | refine G_imulN 36 d_Mod_heightFrom_35 rfl ?_ | refine G_imul 36 d_Mod_heightFrom_35 rfl ?_
              refine G_iload4 38 d_Mod_heightFrom_36 rfl ?_
              first | refine G_iaddN 39 d_Mod_heightFrom_38 rfl ?_ | refine G_iadd 39 d_Mod_heightFrom_38 rfl ?_
              refine G_ialoadv 40 d_Mod_heightFrom_39 rfl h.s13 (ix_nI (by omega) (by omega)) e0 ?_
              refine G_ifle 47 43 d_Mod_heightFrom_40 rfl rfl (fun h40 => ?_) (fun h40 => ?_)
              · refine G_iconstN 0 48 d_Mod_heightFrom_47 rfl rfl ?_
                refine G_istore5 50 d_Mod_heightFrom_48 rfl (by decide) rfl ?_
                refine G_iload5 52 d_Mod_heightFrom_50 rfl ?_
                refine G_ifeq 80 55 d_Mod_heightFrom_52 rfl rfl (fun h52 => ?_) (fun h52 => ?_)
                · refine G_iload2 81 d_Mod_heightFrom_80 rfl ?_
                  refine G_istore2 82 d_Mod_heightFrom_81 rfl (by decide) rfl ?_
                  first | refine G_iincN4 85 d_Mod_heightFrom_82 rfl (by decide) rfl ?_ | refine G_iinc4 _ 85 d_Mod_heightFrom_82 rfl (by decide) rfl rfl ?_
                  refine G_goto 17 d_Mod_heightFrom_85 rfl ?_
                  exact ih2 _
                · exact absurd rfl h52
              · exact absurd hle h40
      refine G_iload3 5 d_Mod_heightFrom_4 rfl ?_
      refine G_aload0 6 d_Mod_heightFrom_5 rfl ?_
      refine G_getR 9 d_Mod_heightFrom_6 rfl f_Mod_40 rfl h.sh h.f11 ?_
      refine G_iload1 10 d_Mod_heightFrom_9 rfl ?_
      refine G_ialoadv 11 d_Mod_heightFrom_10 rfl h.s11 (ix_nI (by omega) (by omega)) e10 ?_
      first | refine G_icgeN 94 14 d_Mod_heightFrom_11 rfl rfl (by omega) (by omega) (fun h11 => ?_) (fun h11 => ?_) | refine G_icge 94 14 d_Mod_heightFrom_11 rfl rfl (fun h11 => ?_) (fun h11 => ?_)
      · omega
      · refine G_iconstN 0 15 d_Mod_heightFrom_14 rfl rfl ?_
        refine G_istore4 17 d_Mod_heightFrom_15 rfl (by decide) rfl ?_
        exact I 0 (by omega) _
  refine G_iconstN 0 1 d_Mod_heightFrom_0 rfl rfl ?_
  refine G_istore2 2 d_Mod_heightFrom_1 rfl (by decide) rfl ?_
  refine G_iconstN 0 3 d_Mod_heightFrom_2 rfl rfl ?_
  refine G_istore3 4 d_Mod_heightFrom_3 rfl (by decide) rfl ?_
  exact O 0 (by omega) _ _
theorem s_mHeightOf {V : GV} {d b k : Nat} {S : ST} {X : XT} {FI AI : FT} {AL : LT} (h : MO X b) (hI : MIv S FI AI AL b) (hW : WS S) (hk : k < gN (tG S)) : G V m_Mod_heightOf (d + 1) 0 [some (.ref b), some (.int (nI k)), none, none] [] X FI AI AL (fun r X' FI' AI' AL' => r = some (.int (nI (hgL (tG S) (k + 1)))) ∧ X' = X ∧ FI' = FI ∧ AL' = AL ∧ ∀ c, c ≠ b + 20 → AI' c = AI c) := by
  have hn7 := hW.2.1.1
  have L : ∀ i, i ≤ k + 1 → ∀ AJ : FT, (∀ c, c ≠ b + 20 → AJ c = AI c) → (∀ q, q < i → AJ (b + 20) q = nI (hgA (tG S) i q)) → G V m_Mod_heightOf (d + 1) 4 [some (.ref b), some (.int (nI k)), some (.int (nI (hgL (tG S) i))), some (.int (nI i))] [] X FI AJ AL (fun r X' FI' AI' AL' => r = some (.int (nI (hgL (tG S) (k + 1)))) ∧ X' = X ∧ FI' = FI ∧ AL' = AL ∧ ∀ c, c ≠ b + 20 → AI' c = AI c) := by
    refine upto ?_ ?_
    · intro AJ k1 k2
      refine G_iload3 5 d_Mod_heightOf_4 rfl ?_
      refine G_iload1 6 d_Mod_heightOf_5 rfl ?_
      first | refine G_icgtN 28 9 d_Mod_heightOf_6 rfl rfl (by omega) (by omega) (fun h6 => ?_) (fun h6 => ?_) | refine G_icgt 28 9 d_Mod_heightOf_6 rfl rfl (fun h6 => ?_) (fun h6 => ?_)
      · refine G_iload2 29 d_Mod_heightOf_28 rfl ?_
        refine G_iret d_Mod_heightOf_29 rfl ?_
        exact ⟨rfl, rfl, rfl, rfl, k1⟩
      · omega
    · intro i hi ih AJ k1 k2
      obtain ⟨b1, b2, b3, b4⟩ := hI.1.2.2.2.2 i (by omega)
      have h86 := (hW.2.1.2.1 i (by omega)).2.2.2.2.1
      have hhf := s_mHeightFrom (V := V) (d := d) (hs := hgA (tG S) i) (R := gR (tG S) i) (FI := FI) (AI := AJ) (AL := AL) h (show i < 7 by omega) h86 (by rw [k1 _ (by omega)]; exact b3) (fun j hj q hq => by rw [k1 _ (by omega)]; exact (b4 j hj).2 q hq) k2 (fun q => by have := hgA_le (tG S) i q; omega)
      have e : hfH (hgA (tG S) i) (gR (tG S) i) (gK (tG S) i) i = hgL (tG S) (i + 1) := by rw [hgL, hgA, upn_at]
      rw [e] at hhf
      refine G_iload3 5 d_Mod_heightOf_4 rfl ?_
      refine G_iload1 6 d_Mod_heightOf_5 rfl ?_
      first | refine G_icgtN 28 9 d_Mod_heightOf_6 rfl rfl (by omega) (by omega) (fun h6 => ?_) (fun h6 => ?_) | refine G_icgt 28 9 d_Mod_heightOf_6 rfl rfl (fun h6 => ?_) (fun h6 => ?_)
      · omega
      · refine G_aload0 10 d_Mod_heightOf_9 rfl ?_
        refine G_iload3 11 d_Mod_heightOf_10 rfl ?_
        refine G_invV1d 14 d_Mod_heightOf_11 rfl e_Mod_290 M_Mod_heightFrom rfl h.sh (Nat.le_of_ble_eq_true rfl) (Nat.le_of_ble_eq_true rfl) rfl (hhf) ?_
        refine G_istore2 15 d_Mod_heightOf_14 rfl (by decide) rfl ?_
        refine G_aload0 16 d_Mod_heightOf_15 rfl ?_
        refine G_getR 19 d_Mod_heightOf_16 rfl f_Mod_70 rfl h.sh h.f28 ?_
        refine G_iload3 20 d_Mod_heightOf_19 rfl ?_
        refine G_iload2 21 d_Mod_heightOf_20 rfl ?_
        refine G_iastore 22 d_Mod_heightOf_21 rfl h.s28 (ix_nI (by omega) (by omega)) ?_
        first | refine G_iincN3 25 d_Mod_heightOf_22 rfl (by decide) rfl ?_ | refine G_iinc3 _ 25 d_Mod_heightOf_22 rfl (by decide) rfl rfl ?_
        refine G_goto 4 d_Mod_heightOf_25 rfl ?_
        refine ih _ (fun c hc => by rw [u2_off _ _ _ hc]; exact k1 c hc) (fun q hq => ?_)
        by_cases e2 : q = i
        · subst e2; rw [u2_at]; rfl
        · rw [u2_ix _ _ e2, k2 q (by omega), hgA, upn_ne _ _ e2]
  refine G_iconstN 0 1 d_Mod_heightOf_0 rfl rfl ?_
  refine G_istore2 2 d_Mod_heightOf_1 rfl (by decide) rfl ?_
  refine G_iconstN 0 3 d_Mod_heightOf_2 rfl rfl ?_
  refine G_istore3 4 d_Mod_heightOf_3 rfl (by decide) rfl ?_
  exact L 0 (by omega) AI (fun _ _ => rfl) (fun q hq => by omega)
theorem m_ofGenerator {V : GV} {d b : Nat} {S : ST} {x y : Int32} {X : XT} {FI AI : FT} {AL : LT} (h : MO X b) (hI : MIv S FI AI AL b) (hW : WS S) : G V m_Mod_ofGenerator (d + 4) 0 [some (.ref b), some (.int x), some (.int y)] [] X FI AI AL (fun r X' FI' AI' AL' => r = some (.int (fOfGen S x y).1) ∧ X' = X ∧ MIv (fOfGen S x y).2 FI' AI' AL' b ∧ fM FI FI' AI AI' AL AL' b) := by
  obtain ⟨hG, hO, hSl, -⟩ := id hI
  have hT := hG.1
  have hn9 := hG.2.1
  have ho := hG.2.2.1
  have hrk := hG.2.2.2.1
  have hn7 := hW.2.1.1
  have hgl := hG.gl hW.2.1
  have hinj := hW.2.1.2.2
  have hl2 : ∀ i, i < gN (tG S) → gL (tG S) i < 84 ∧ 1 ≤ eD (gL (tG S) i) := fun i hi => (hgl i hi).2
  have hlen : ∀ t, t < 84 → (RN (leadL (gL (tG S)) (gN (tG S))) t).length ≤ 120 := fun t ht => by rw [RN, List.length_map]; exact RT_128 hn7 hl2 hinj ht
  have ky : ((0 : Int64).toInt ≤ y.toInt64.toInt ∧ y.toInt64.toInt ≤ (8 : Int64).toInt) ↔ isN y 9 := by
    rw [toL, isN_iff (by omega), show (0 : Int64).toInt = 0 from rfl, show (8 : Int64).toInt = 8 from rfl]; omega
  refine G_aload0 1 d_Mod_ofGenerator_0 rfl ?_
  refine G_iload1 2 d_Mod_ofGenerator_1 rfl ?_
  refine G_invV1b 5 d_Mod_ofGenerator_2 rfl e_Mod_287 M_Mod_isGenerator rfl h.sh (Nat.le_of_ble_eq_true rfl) (Nat.le_of_ble_eq_true rfl) rfl (s_mIsGenerator h hn9 hn7) (fun h2 => G_ifeq1 8 d_Mod_ofGenerator_5 20 rfl rfl ?_) (fun h2 => G_ifeq0 8 d_Mod_ofGenerator_5 20 rfl rfl ?_)
  · obtain ⟨k, hk, rfl⟩ := h2
    have q1 := bN_t hk (show gN (tG S) < 2 ^ 31 by omega)
    have z1 := ni_nI (show k < 2 ^ 31 by omega)
    obtain ⟨b1, b2, b3, b4⟩ := hG.2.2.2.2 k hk
    have h86 := (hW.2.1.2.1 k hk).2.2.2.2.1
    have ht := (hW.2.1.2.1 k hk).1
    refine G_iload2 9 d_Mod_ofGenerator_8 rfl ?_
    refine G_i2l 10 d_Mod_ofGenerator_9 rfl ?_
    refine G_lconst 0 11 d_Mod_ofGenerator_10 rfl rfl ?_
    refine G_ldc2 14 d_Mod_ofGenerator_11 rfl k_Mod_293 ?_
    refine G_invS3b 17 d_Mod_ofGenerator_14 rfl e_Mod_139 M_Mod_in (Nat.le_of_ble_eq_true rfl) (Nat.le_of_ble_eq_true rfl) rfl (s_mIn) (fun h14 => G_ifne1 20 d_Mod_ofGenerator_17 22 rfl rfl ?_) (fun h14 => G_ifne0 20 d_Mod_ofGenerator_17 22 rfl rfl ?_)
    · obtain ⟨w, hw, rfl⟩ := ky.mp h14
      have q2 := bN_t hw (show 9 < 2 ^ 31 by omega)
      have z2 := ni_nI (show w < 2 ^ 31 by omega)
      simp only [fOfGen, q1, q2, z1, z2, Bool.and_self, if_true]
      refine G_iload2 23 d_Mod_ofGenerator_22 rfl ?_
      have hw9 : w ≤ 3 ∨ w = 4 ∨ w = 5 ∨ w = 6 ∨ w = 7 ∨ w = 8 := by omega
      rcases hw9 with hw3 | rfl | rfl | rfl | rfl | rfl
      · refine G_tableOut 121 d_Mod_ofGenerator_23 (by rw [nI_toInt (by omega)]; omega) rfl ?_
        have e : ofG S k w = if w = 3 then eD (gL (tG S) k) else ex (gL (tG S) k) w := by
          unfold ofG; rw [if_neg (by omega), if_neg (by omega), if_neg (by omega), if_neg (by omega), if_neg (by omega)]
        rw [e]
        refine G_aload0 122 d_Mod_ofGenerator_121 rfl ?_
        refine G_aload0 123 d_Mod_ofGenerator_122 rfl ?_
        refine G_getR 126 d_Mod_ofGenerator_123 rfl f_Mod_37 rfl h.sh h.f10 ?_
        refine G_iload1 127 d_Mod_ofGenerator_126 rfl ?_
        refine G_ialoadv 128 d_Mod_ofGenerator_127 rfl h.s10 (ix_nI (by omega) (by omega)) b1 ?_
        refine G_iload2 129 d_Mod_ofGenerator_128 rfl ?_
        refine G_invV2d 132 d_Mod_ofGenerator_129 rfl e_Mod_242 M_Mod_ofTerm rfl h.sh (Nat.le_of_ble_eq_true rfl) (Nat.le_of_ble_eq_true rfl) rfl (s_mOfTerm (by assumption) (by assumption) (by omega) (by omega)) ?_
        refine G_iret d_Mod_ofGenerator_132 rfl ?_
        exact ⟨rfl, rfl, hI, fM.rf⟩
      · refine G_tableIn 56 d_Mod_ofGenerator_23 (by decide) (by decide) rfl rfl ?_
        by_cases hz : 0 < gK (tG S) k
        · have e : ofG S k 4 = 1 := if_pos hz
          rw [e]
          refine G_aload0 57 d_Mod_ofGenerator_56 rfl ?_
          refine G_getR 60 d_Mod_ofGenerator_57 rfl f_Mod_40 rfl h.sh h.f11 ?_
          refine G_iload1 61 d_Mod_ofGenerator_60 rfl ?_
          refine G_ialoadv 62 d_Mod_ofGenerator_61 rfl h.s11 (ix_nI (by omega) (by omega)) b3 ?_
          refine G_ifle 69 65 d_Mod_ofGenerator_62 rfl rfl (fun h62 => ?_) (fun h62 => ?_)
          · exact absurd h62 (nI_nle hz (by omega))
          · refine G_iconstN 1 66 d_Mod_ofGenerator_65 rfl rfl ?_
            refine G_goto 70 d_Mod_ofGenerator_66 rfl ?_
            refine G_iret d_Mod_ofGenerator_70 rfl ?_
            exact ⟨rfl, rfl, hI, fM.rf⟩
        · have e : ofG S k 4 = 0 := if_neg hz
          have hle : nI (gK (tG S) k) ≤ 0 := by rw [show gK (tG S) k = 0 by omega]; decide
          rw [e]
          refine G_aload0 57 d_Mod_ofGenerator_56 rfl ?_
          refine G_getR 60 d_Mod_ofGenerator_57 rfl f_Mod_40 rfl h.sh h.f11 ?_
          refine G_iload1 61 d_Mod_ofGenerator_60 rfl ?_
          refine G_ialoadv 62 d_Mod_ofGenerator_61 rfl h.s11 (ix_nI (by omega) (by omega)) b3 ?_
          refine G_ifle 69 65 d_Mod_ofGenerator_62 rfl rfl (fun h62 => ?_) (fun h62 => ?_)
          · refine G_iconstN 0 70 d_Mod_ofGenerator_69 rfl rfl ?_
            refine G_iret d_Mod_ofGenerator_70 rfl ?_
            exact ⟨rfl, rfl, hI, fM.rf⟩
          · exact absurd hle h62
      · refine G_tableIn 71 d_Mod_ofGenerator_23 (by decide) (by decide) rfl rfl ?_
        have hho := s_mHeightOf (V := V) (d := d + 2) h hI hW hk
        refine G_aload0 72 d_Mod_ofGenerator_71 rfl ?_
        refine G_iload1 73 d_Mod_ofGenerator_72 rfl ?_
        refine G_invV1 76 d_Mod_ofGenerator_73 rfl e_Mod_295 M_Mod_heightOf rfl h.sh (Nat.le_of_ble_eq_true rfl) (Nat.le_of_ble_eq_true rfl) rfl (G.conseq (hho) (fun r73 X73 FI73 AI73 AL73 h73 => ?_))
        obtain ⟨e1, e2, e3, e4, e5⟩ := h73
        replace e2 := e2.symm
        replace e3 := e3.symm
        replace e4 := e4.symm
        subst e1 e2 e3 e4
        refine G_iret d_Mod_ofGenerator_76 rfl ?_
        exact ⟨rfl, rfl, (hI.h20 e5).1, (hI.h20 e5).2⟩
      · refine G_tableIn 77 d_Mod_ofGenerator_23 (by decide) (by decide) rfl rfl ?_
        refine G_aload0 78 d_Mod_ofGenerator_77 rfl ?_
        refine G_getR 81 d_Mod_ofGenerator_78 rfl f_Mod_40 rfl h.sh h.f11 ?_
        refine G_iload1 82 d_Mod_ofGenerator_81 rfl ?_
        refine G_ialoadv 83 d_Mod_ofGenerator_82 rfl h.s11 (ix_nI (by omega) (by omega)) b3 ?_
        refine G_iret d_Mod_ofGenerator_83 rfl ?_
        exact ⟨rfl, rfl, hI, fM.rf⟩
      · refine G_tableIn 84 d_Mod_ofGenerator_23 (by decide) (by decide) rfl rfl ?_
        have hlay := s_mLay (V := V) (d := d) (FI := FI) (AL := AL) h hT ht hn7 hgl hinj
        have hl120 := hlen _ ht
        refine G_aload0 85 d_Mod_ofGenerator_84 rfl ?_
        refine G_aload0 86 d_Mod_ofGenerator_85 rfl ?_
        refine G_getR 89 d_Mod_ofGenerator_86 rfl f_Mod_37 rfl h.sh h.f10 ?_
        refine G_iload1 90 d_Mod_ofGenerator_89 rfl ?_
        refine G_ialoadv 91 d_Mod_ofGenerator_90 rfl h.s10 (ix_nI (by omega) (by omega)) b1 ?_
        refine G_aload0 92 d_Mod_ofGenerator_91 rfl ?_
        refine G_getIv 95 d_Mod_ofGenerator_92 rfl f_Mod_133 rfl h.sh hn9 ?_
        refine G_invV2 98 d_Mod_ofGenerator_95 rfl e_Mod_298 M_Mod_layRows rfl h.sh (Nat.le_of_ble_eq_true rfl) (Nat.le_of_ble_eq_true rfl) rfl (G.conseq (hlay) (fun r95 X95 FI95 AI95 AL95 h95 => ?_))
        obtain ⟨a1, a2, a3, a4, a5⟩ := h95
        replace a2 := a2.symm
        replace a3 := a3.symm
        subst a1 a2 a3 a4
        have fr : u2 FI b 30 (nI (RN (leadL (gL (tG S)) (gN (tG S))) (gL (tG S) k)).length) b 30 = nI (RN (leadL (gL (tG S)) (gN (tG S))) (gL (tG S) k)).length := u2_at _ _ _ _
        refine G_aload0 99 d_Mod_ofGenerator_98 rfl ?_
        refine G_getIv 102 d_Mod_ofGenerator_99 rfl f_Mod_301 rfl h.sh fr ?_
        refine G_iconstN 1 103 d_Mod_ofGenerator_102 rfl rfl ?_
        first | refine G_icleN 110 106 d_Mod_ofGenerator_103 rfl rfl (by omega) (by omega) (fun h103 => ?_) (fun h103 => ?_) | refine G_icle 110 106 d_Mod_ofGenerator_103 rfl rfl (fun h103 => ?_) (fun h103 => ?_)
        · have e : ofG S k 7 = 0 := if_pos h103
          rw [e]
          refine G_iconstN 0 111 d_Mod_ofGenerator_110 rfl rfl ?_
          refine G_iret d_Mod_ofGenerator_111 rfl ?_
          exact ⟨rfl, rfl, hI.nr (nrF.ln a5), (nrF.ln a5).fm⟩
        · have hn : ¬ (tRN S (gL (tG S) k)).length ≤ 1 := by
            show ¬ (RN (leadL (gL (tG S)) (gN (tG S))) (gL (tG S) k)).length ≤ 1
            omega
          have e : ofG S k 7 = 1 := if_neg hn
          rw [e]
          refine G_iconstN 1 107 d_Mod_ofGenerator_106 rfl rfl ?_
          refine G_goto 111 d_Mod_ofGenerator_107 rfl ?_
          refine G_iret d_Mod_ofGenerator_111 rfl ?_
          exact ⟨rfl, rfl, hI.nr (nrF.ln a5), (nrF.ln a5).fm⟩
      · refine G_tableIn 112 d_Mod_ofGenerator_23 (by decide) (by decide) rfl rfl ?_
        have e : ofG S k 8 = cnt (mp AL b (6 + k)) := by rw [b2]; rfl
        rw [e]
        refine G_aload0 113 d_Mod_ofGenerator_112 rfl ?_
        refine G_bipushN 6 115 d_Mod_ofGenerator_113 rfl rfl ?_
        refine G_iload1 116 d_Mod_ofGenerator_115 rfl ?_
        first | refine G_iaddN 117 d_Mod_ofGenerator_116 rfl ?_ | refine G_iadd 117 d_Mod_ofGenerator_116 rfl ?_
        refine G_invV1d 120 d_Mod_ofGenerator_117 rfl e_Mod_202 M_Mod_termsIn rfl h.sh (Nat.le_of_ble_eq_true rfl) (Nat.le_of_ble_eq_true rfl) rfl (s_mTerms (by assumption) (by omega)) ?_
        refine G_iret d_Mod_ofGenerator_120 rfl ?_
        exact ⟨rfl, rfl, hI, fM.rf⟩
    · have q2 := bN_f (fun e => h14 (ky.mpr e)) (show 9 < 2 ^ 31 by omega)
      simp only [fOfGen, q2, Bool.and_false, Bool.false_eq_true, if_false]
      refine G_iconst (-1) 21 d_Mod_ofGenerator_20 rfl rfl ?_
      refine G_iret d_Mod_ofGenerator_21 rfl ?_
      exact ⟨rfl, rfl, hI, fM.rf⟩
  · have q1 := bN_f h2 (show gN (tG S) < 2 ^ 31 by omega)
    simp only [fOfGen, q1, Bool.false_and, Bool.false_eq_true, if_false]
    refine G_iconst (-1) 21 d_Mod_ofGenerator_20 rfl rfl ?_
    refine G_iret d_Mod_ofGenerator_21 rfl ?_
    exact ⟨rfl, rfl, hI, fM.rf⟩
