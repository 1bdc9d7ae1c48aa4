/-! ===== the class: keep ===== -/
def xQ (X X' : XT) (lo : Nat) : Prop := x_sh X' = x_sh X ∧ x_AR X' = x_AR X ∧ (∀ c, c ≠ lo → x_FR X' c = x_FR X c) ∧ ∀ j, j < 10 → x_FR X' lo j = x_FR X lo j
theorem PO.xq {X X' : XT} {lo p q : Nat} (h : PO X p q) (k : xQ X X' lo) (hp : p ≠ lo) : PO X' p q := by
  unfold PO; rw [k.1, k.2.2.1 p hp]; exact h
theorem CO.xq {X X' : XT} {lo : Nat} (h : CO X lo) (k : xQ X X' lo) : CO X' lo := by
  obtain ⟨k1, k2, k4, k5⟩ := id k
  obtain ⟨h1, h2, h3, h4, h5, h6, h7, h8, h9, h10, h11, h12, h13⟩ := h
  refine ⟨?_, ⟨by rw [k1]; exact h2.1, fun s hs => ⟨by rw [k2]; exact (h2.2 s hs).1, (h2.2 s hs).2.xq k (by omega)⟩⟩, ?_, ?_, ?_, ?_, ?_, ⟨by rw [k1]; exact h8.1, fun s hs => ⟨by rw [k2]; exact (h8.2 s hs).1, ?_⟩⟩, ⟨by rw [k1]; exact h9.1, fun l hl => ⟨by rw [k2]; exact (h9.2 l hl).1, ?_⟩⟩, h10.xq k (by omega), h11.xq k (by omega), ?_, ?_⟩
  · rw [k1, k5 0 (by omega), k5 1 (by omega), k5 2 (by omega), k5 3 (by omega), k5 4 (by omega), k5 5 (by omega), k5 6 (by omega), k5 7 (by omega), k5 8 (by omega), k5 9 (by omega)]; exact h1
  · unfold RK; rw [k1, k4 _ (by omega)]; exact h3
  · obtain ⟨a1, f1, f2, f3, f4, f5, f6, f7, f8, s1, s2, s3, s4, s5, s6, s7, s8, b1, b2⟩ := h4
    have e := k4 (lo + 4) (by omega)
    exact ⟨by rw [k1]; exact a1, by rw [e]; exact f1, by rw [e]; exact f2, by rw [e]; exact f3, by rw [e]; exact f4, by rw [e]; exact f5, by rw [e]; exact f6, by rw [e]; exact f7, by rw [e]; exact f8, by rw [k1]; exact s1, by rw [k1]; exact s2, by rw [k1]; exact s3, by rw [k1]; exact s4, by rw [k1]; exact s5, by rw [k1]; exact s6, by rw [k1]; exact s7, by rw [k1]; exact s8, fun i hi => ⟨by rw [k2]; exact (b1 i hi).1, (b1 i hi).2.xq k (show lo + 13 + 2 * i ≠ lo by omega)⟩, b2⟩
  · unfold TO; rw [k1, k4 _ (by omega)]; exact h5
  · unfold RLo; rw [k1, k4 _ (by omega)]; exact h6
  · unfold LAo; rw [k1, k2, k4 _ (by omega)]; exact h7
  · unfold SH; rw [k1, k4 _ (by omega)]; exact (h8.2 s hs).2
  · obtain ⟨b1, b2, b3⟩ := (h9.2 l hl).2
    exact ⟨by rw [k1]; exact b1, by rw [k4 _ (by omega)]; exact b2, b3.xq k (by omega)⟩
  · unfold STp; rw [k1, k4 _ (by omega)]; exact h12
  · unfold STp; rw [k1, k4 _ (by omega)]; exact h13
theorem KOo.xq {X X' : XT} {lo kb : Nat} (h : KOo X kb) (k : xQ X X' lo) (hk : lo < kb) : KOo X' kb := by
  obtain ⟨e1, e2, e4, -⟩ := id k
  obtain ⟨b1, b2, b3, b4, b5, b6⟩ := h
  refine ⟨by rw [e1]; exact b1, by rw [e4 _ (by omega)]; exact b2, by rw [e4 _ (by omega)]; exact b3, by rw [e1]; exact b4, fun s hs => ⟨by rw [e2]; exact (b5 s hs).1, (b5 s hs).2.xq k (by omega)⟩, ?_⟩
  obtain ⟨g1, f1, f2, f3, f4, f5, f6, f7, f8, s1, s2, s3, s4, s5, s6, s7, s8, q1, q2⟩ := b6
  have e := e4 (kb + 2) (by omega)
  exact ⟨by rw [e1]; exact g1, by rw [e]; exact f1, by rw [e]; exact f2, by rw [e]; exact f3, by rw [e]; exact f4, by rw [e]; exact f5, by rw [e]; exact f6, by rw [e]; exact f7, by rw [e]; exact f8, by rw [e1]; exact s1, by rw [e1]; exact s2, by rw [e1]; exact s3, by rw [e1]; exact s4, by rw [e1]; exact s5, by rw [e1]; exact s6, by rw [e1]; exact s7, by rw [e1]; exact s8, fun i hi => ⟨by rw [e2]; exact (q1 i hi).1, (q1 i hi).2.xq k (show kb + 11 + 2 * i ≠ lo by omega)⟩, q2⟩
/-- all but the KEPT object's numbers -/
def CI0 (C E : Nat) (S : ST) (X : XT) (FI AI : FT) (AL : LT) (lo k : Nat) : Prop := CSl (tS S) AL lo ∧ COd (tO S) FI AI lo ∧ CGs (tG S) FI AI AL (lo + 4) ∧ CTb (tG S) AI lo ∧ CPr (tG S) X AI AL lo ∧ CRl (tO S) (tG S) FI AI lo ∧ CGr (tG S) FI AL lo ∧ CSh (tH S) FI AI lo ∧ CLk (tL S) FI AL lo ∧ CWt (tW S) X FI AI AL lo ∧ CRm C E X lo ∧ x_FR X lo 12 = some k ∧ lo + 150 ≤ k ∧ k + 36 < x_sz X ∧ KOo X k
theorem CI0.to {C E lo k : Nat} {S : ST} {X : XT} {FI FI' AI AI' : FT} {AL AL' : LT} (hI : CI0 C E S X FI AI AL lo k) (hW : WS S) (k1 : ∀ c, c < k ∨ k + 36 < c → FI' c = FI c) (k2 : ∀ c, c < k ∨ k + 36 < c → AI' c = AI c) (k3 : ∀ c, c < k ∨ k + 36 < c → AL' c = AL c) (K : (Nat → Nat → Int64) × Nat × GT) (c1 : FI' k 0 = nI K.2.1) (c2 : ∀ s, s < 6 → AL' (k + 26 + 2 * s) = K.1 s) (c3 : CGs K.2.2 FI' AI' AL' (k + 2)) : CIv C E (stX S (some K)) X FI' AI' AL' lo ∧ cF X X FI FI' AI AI' AL AL' lo := by
  obtain ⟨a1, a2, a3, a4, a5, a6, a7, a8, a9, a10, a12, b1, b2, b3, b4⟩ := hI
  refine ⟨⟨fun s hs => by rw [k3 _ (by omega)]; exact a1 s hs, a2.tr (k1 _ (by omega)) (k2 _ (by omega)), a3.tr (k1 _ (by omega)) (fun c _ _ => k2 c (by omega)) (fun c _ _ => k3 c (by omega)), a4.tr (k2 _ (by omega)) (k2 _ (by omega)), ⟨fun p hp => ?_, a5.2⟩, a6.tr (by rw [k1 _ (by omega)]) (k2 _ (by omega)) (k2 _ (by omega)) (k2 _ (by omega)), a7.tr (by rw [k1 _ (by omega)]) (fun c _ _ => k3 c (by omega)), a8.tr (fun c _ _ => k1 c (by omega)) (fun c _ _ => k2 c (by omega)), a9.tr hW.2.2.2.2.2.1.1 (by rw [k1 _ (by omega)]) (fun c _ _ => k1 c (by omega)) (fun c _ _ => k3 c (by omega)), a10.tr (by rw [k1 _ (by omega)]) (fun c _ _ => k1 c (by omega)) (fun c _ _ => k2 c (by omega)) (fun c _ _ => k3 c (by omega)), ⟨k, b1, b2, b3, b4, c1, c2, c3⟩, a12⟩, fun c hc => ⟨⟨k1 c (by omega), k2 c (by omega), k3 c (by omega)⟩, rfl, rfl, rfl⟩⟩
  obtain ⟨d1, d2, d3⟩ := a5.1 p hp
  rw [k2 _ (by omega)]
  refine ⟨d1, d2, fun a ha => ?_⟩
  obtain ⟨e1, e2, e3, e4⟩ := d3 a ha
  have := a5.2.2 p a k hp ha b1
  exact ⟨e1, e2, e3, fun h1 v hv => by rw [k3 _ (by omega)]; exact e4 h1 v hv⟩
theorem CIv.i0 {C E lo : Nat} {S : ST} {K : (Nat → Nat → Int64) × Nat × GT} {X : XT} {FI AI : FT} {AL : LT} (hI : CIv C E S X FI AI AL lo) (hx : tX S = some K) : ∃ k, CI0 C E S X FI AI AL lo k ∧ FI k 0 = nI K.2.1 ∧ (∀ s, s < 6 → AL (k + 26 + 2 * s) = K.1 s) ∧ CGs K.2.2 FI AI AL (k + 2) := by
  obtain ⟨a1, a2, a3, a4, a5, a6, a7, a8, a9, a10, a11, a12⟩ := hI
  rw [hx] at a11
  obtain ⟨k, h1, h2, h3, h4, h5, h6, h7⟩ := a11
  exact ⟨k, ⟨a1, a2, a3, a4, a5, a6, a7, a8, a9, a10, a12, h1, h2, h3, h4⟩, h5, h6, h7⟩
theorem CIv.n0 {C E lo : Nat} {S : ST} {X : XT} {FI FI' AI AI' : FT} {AL AL' : LT} (h : CO X lo) (hI : CIv C E S X FI AI AL lo) (hW : WS S) (hx : tX S = none) (kz : ∀ c, c < x_sz X → FI' c = FI c ∧ AI' c = AI c ∧ AL' c = AL c) : CO (xput (keptX X) lo 12 (some (x_sz X))) lo ∧ CI0 C E S (xput (keptX X) lo 12 (some (x_sz X))) FI' AI' AL' lo (x_sz X) ∧ cF X (xput (keptX X) lo 12 (some (x_sz X))) FI FI' AI AI' AL AL' lo := by
  obtain ⟨a1, a2, a3, a4, a5, a6, a7, a8, a9, a10, a11, a12⟩ := hI
  rw [hx] at a11
  have a11' : x_FR X lo 12 = none := a11
  have y := kept_ly X
  have hz := a12.1
  obtain ⟨y1, y2, y3, y4, y5, y6, y7, y8, y9⟩ := id y
  have xk : xK X (keptX X) lo := ⟨by omega, fun c hc => ⟨(y7 c hc).1, (y7 c hc).2.1, fun _ => (y7 c hc).2.2⟩⟩
  have xq : xQ (keptX X) (xput (keptX X) lo 12 (some (x_sz X))) lo := ⟨rfl, rfl, fun c hc => u2_off _ _ _ hc, fun j hj => u2_ix _ _ (by omega)⟩
  have hco := (h.xk xk hz).xq xq
  have eAR : x_AR (xput (keptX X) lo 12 (some (x_sz X))) = x_AR (keptX X) := rfl
  have eF12 : x_FR (xput (keptX X) lo 12 (some (x_sz X))) lo 12 = some (x_sz X) := u2_at _ _ _ _
  have eFR : ∀ c, c ≠ lo → x_FR (xput (keptX X) lo 12 (some (x_sz X))) c = x_FR (keptX X) c := fun c hc => u2_off _ _ _ hc
  have eFj : ∀ j, j ≠ 12 → x_FR (xput (keptX X) lo 12 (some (x_sz X))) lo j = x_FR (keptX X) lo j := fun j hj => u2_ix _ _ hj
  have esz : x_sz (xput (keptX X) lo 12 (some (x_sz X))) = x_sz X + 37 := y1
  have enc : x_nc (xput (keptX X) lo 12 (some (x_sz X))) = x_nc X + 37 := y8
  have ens : x_ns (xput (keptX X) lo 12 (some (x_sz X))) = x_ns X + 2369 := y9
  have eA : x_AR (keptX X) (lo + 33) = x_AR X (lo + 33) := (y7 _ (by omega)).2.2
  have fi : ∀ c, c < lo + 150 → FI' c = FI c := fun c hc => (kz c (by omega)).1
  have ai : ∀ c, c < lo + 150 → AI' c = AI c := fun c hc => (kz c (by omega)).2.1
  have al : ∀ c, c < lo + 150 → AL' c = AL c := fun c hc => (kz c (by omega)).2.2
  refine ⟨hco, ⟨fun s hs => by rw [al _ (by omega)]; exact a1 s hs, a2.tr (fi _ (by omega)) (ai _ (by omega)), a3.tr (fi _ (by omega)) (fun c _ _ => ai c (by omega)) (fun c _ _ => al c (by omega)), a4.tr (ai _ (by omega)) (ai _ (by omega)), ⟨fun p hp => ?_, fun p q a c hp hq hne h1 h2 => ?_, fun p a kk hp h1 h2 => ?_⟩, a6.tr (by rw [fi _ (by omega)]) (ai _ (by omega)) (ai _ (by omega)) (ai _ (by omega)), a7.tr (by rw [fi _ (by omega)]) (fun c _ _ => al c (by omega)), a8.tr (fun c _ _ => fi c (by omega)) (fun c _ _ => ai c (by omega)), a9.tr hW.2.2.2.2.2.1.1 (by rw [fi _ (by omega)]) (fun c _ _ => fi c (by omega)) (fun c _ _ => al c (by omega)), ?_, ⟨by omega, ?_, ?_⟩, eF12, by omega, by omega, (kept_ko X).xq xq (by omega)⟩, fun c hc => ⟨⟨fi c (by omega), ai c (by omega), al c (by omega)⟩, (y7 c (by omega)).1, by rw [eFR c (by omega)]; exact (y7 c (by omega)).2.1, by rw [eAR]; exact (y7 c (by omega)).2.2⟩⟩
  · obtain ⟨d1, d2, d3⟩ := a5.1 p hp
    rw [ai _ (by omega), eAR, eA]
    refine ⟨d1, d2, fun a ha => ?_⟩
    obtain ⟨e1, e2, e3, e4⟩ := d3 a ha
    exact ⟨e1, by omega, (e3.xk xk (by omega) (by omega)).xq xq (by omega), fun h1 v hv => by rw [(kz _ (by omega)).2.2]; exact e4 h1 v hv⟩
  · rw [eAR, eA] at h1 h2
    exact a5.2.1 p q a c hp hq hne h1 h2
  · rw [eAR, eA] at h1
    rw [eF12] at h2
    injection h2 with h2
    have := ((a5.1 p hp).2.2 a h1).2.1
    omega
  · have ten := a10
    obtain ⟨w, v, g1, g2, g3, g4, g5⟩ := ten
    refine ⟨w, v, g1, by rw [eFj 10 (by omega), (y7 lo (by omega)).2.1]; exact g2, by rw [eFj 11 (by omega), (y7 lo (by omega)).2.1]; exact g3, by rw [fi _ (by omega)]; exact g4, fun e => ?_⟩
    obtain ⟨f1, f2⟩ := g5 e
    refine ⟨by rw [fi _ (by omega)]; exact f1, fun i q hq => ?_⟩
    rw [al _ (by omega), ai _ (by omega)]
    exact f2 i q hq
  · rw [enc, nnF_c (X := X) 84 (fun q _ => by rw [eAR, eA]), eF12, if_neg (by simp)]
    have := a12.2.1
    rw [a11', if_pos rfl] at this
    omega
  · rw [ens, nnF_c (X := X) 84 (fun q _ => by rw [eAR, eA]), eF12, if_neg (by simp)]
    have := a12.2.2
    rw [a11', if_pos rfl] at this
    omega
theorem s_keep2 {V : GV} {d lo k C E : Nat} {S : ST} {X : XT} {FI AI : FT} {AL : LT} (h : CO X lo) (hI : CI0 C E S X FI AI AL lo k) (hW : WS S) : G V m_Alg_keep (d + 4) 18 [some (.ref lo), none] [] X FI AI AL (fun r X' FI' AI' AL' => r = some (.int (nI (gN (tG S)))) ∧ X' = X ∧ CIv C E (stX S (some (tS S, tO S, tG S))) X FI' AI' AL' lo ∧ cF X X FI FI' AI AI' AL AL' lo) := by
  obtain ⟨a1, a2, a3, a4, a5, a6, a7, a8, a9, a10, a12, b1, b2, b3, b4⟩ := id hI
  obtain ⟨ko1, ko2, ko3, ko4, ko5, ko6⟩ := id b4
  have hn7 := a3.2.1
  have L : ∀ i, i ≤ 6 → ∀ AJ : LT, (∀ c, c < k ∨ k + 36 < c → AJ c = AL c) → (∀ s, s < i → AJ (k + 26 + 2 * s) = tS S s) → G V m_Alg_keep (d + 4) 20 [some (.ref lo), some (.int (nI i))] [] X FI AI AJ (fun r X' FI' AI' AL' => r = some (.int (nI (gN (tG S)))) ∧ X' = X ∧ CIv C E (stX S (some (tS S, tO S, tG S))) X FI' AI' AL' lo ∧ cF X X FI FI' AI AI' AL AL' lo) := by
    refine upto ?_ ?_
    · intro AJ k1 k2
      have hG : CGs (tG S) (u2 FI k 0 (nI (tO S))) AI AJ (lo + 4) := a3.tr (u2_off _ _ _ (by omega)) (fun _ _ _ => rfl) (fun c _ _ => k1 c (by omega))
      have hgb := s_genBecomeLike (V := V) (d := d + 1) ko6 h.go hG.gs (fun i hi => (hW.2.1.2.1 i hi).2.2.2.2.1) (show lo + 4 ≠ k + 2 by omega) (fun i j _ _ _ _ => show lo + 4 + i ≠ k + 2 + j by omega) (fun i j _ _ => show lo + 14 + 2 * i ≠ k + 12 + 2 * j by omega) (fun i _ => show lo + 14 + 2 * i ≠ k + 2 + 3 ∧ lo + 14 + 2 * i ≠ k + 2 + 6 ∧ k + 12 + 2 * i ≠ lo + 4 + 3 ∧ k + 12 + 2 * i ≠ lo + 4 + 6 by omega)
      refine G_iload1 21 d_Alg_keep_20 rfl ?_
      refine G_bipushN 6 23 d_Alg_keep_21 rfl rfl ?_
      first | refine G_icgeN 50 26 d_Alg_keep_23 rfl rfl (by omega) (by omega) (fun h23 => ?_) (fun h23 => ?_) | refine G_icge 50 26 d_Alg_keep_23 rfl rfl (fun h23 => ?_) (fun h23 => ?_)
      · refine G_aload0 51 d_Alg_keep_50 rfl ?_
        refine G_getR 54 d_Alg_keep_51 rfl f_Alg_82 rfl h.sh b1 ?_
        refine G_aload0 55 d_Alg_keep_54 rfl ?_
        refine G_getR 58 d_Alg_keep_55 rfl f_Alg_20 rfl h.sh h.f1 ?_
        refine G_getIv 61 d_Alg_keep_58 rfl f_Alg_112 rfl h.s1 a2.1 ?_
        refine G_putI 64 d_Alg_keep_61 rfl f_Alg_420 rfl (by intro C T N h; cases h; rfl) ko1 rfl rfl ?_
        refine G_aload0 65 d_Alg_keep_64 rfl ?_
        refine G_getR 68 d_Alg_keep_65 rfl f_Alg_82 rfl h.sh b1 ?_
        refine G_getR 71 d_Alg_keep_68 rfl f_Alg_423 rfl ko1 ko3 ?_
        refine G_aload0 72 d_Alg_keep_71 rfl ?_
        refine G_getR 75 d_Alg_keep_72 rfl f_Alg_27 rfl h.sh h.f2 ?_
        refine G_invV1 78 d_Alg_keep_75 rfl e_Alg_424 M_Gen_becomeLike rfl ko6.1 (Nat.le_of_ble_eq_true rfl) (Nat.le_of_ble_eq_true rfl) rfl (G.conseq (hgb) (fun r75 X75 FI75 AI75 AL75 h75 => ?_))
        obtain ⟨rfl, q2, q3, q4⟩ := h75
        replace q2 := q2.symm
        subst q2
        obtain ⟨f1, f2, f3⟩ := q4
        have f1' : ∀ c, c ≠ k + 2 → FI75 c = u2 FI k 0 (nI (tO S)) c := fun c hc => funext fun j => f1 c j (by omega)
        have g0 : FI75 (lo + 4) 0 = nI (gN (tG S)) := by rw [f1' _ (by omega), u2_off _ _ _ (by omega)]; exact a3.1
        have f3' : ∀ c, (c < k + 2 ∨ k + 24 < c) → AL75 c = AJ c := fun c hc => f3 c (fun i hi => show c ≠ k + 12 + 2 * i by omega) (show c ≠ k + 2 + 3 by omega) (show c ≠ k + 2 + 6 by omega)
        obtain ⟨r1, r2⟩ := hI.to (FI' := FI75) (AI' := AI75) (AL' := AL75) hW (fun c hc => by rw [f1' c (by omega), u2_off _ _ _ (by omega)]) (fun c hc => f2 c (show c ≠ k + 2 + 2 by omega) (show c ≠ k + 2 + 4 by omega) (show c ≠ k + 2 + 5 by omega) (show c ≠ k + 2 + 7 by omega)) (fun c hc => by rw [f3' c (by omega)]; exact k1 c hc) (tS S, tO S, tG S) (by rw [f1' _ (by omega), u2_at]) (fun s hs => by rw [f3' _ (by omega)]; exact k2 s hs) (by
          refine ⟨q3.1, q3.2.1, fun i hi => ?_⟩
          have := q3.2.2 i hi
          rw [show k + 2 + 10 + 2 * i = k + 12 + 2 * i by omega]
          exact this)
        refine G_aload0 79 d_Alg_keep_78 rfl ?_
        refine G_getR 82 d_Alg_keep_79 rfl f_Alg_27 rfl h.sh h.f2 ?_
        refine G_getIv 85 d_Alg_keep_82 rfl f_Alg_109 rfl h.s2 g0 ?_
        refine G_iret d_Alg_keep_85 rfl ?_
        exact ⟨rfl, rfl, r1, r2⟩
      · omega
    · intro i hi ih AJ k1 k2
      obtain ⟨ari, poi⟩ := h.sl hi
      obtain ⟨ark, pok⟩ := ko5 i hi
      have poi1 := poi.1
      have pok1 := pok.1
      refine G_iload1 21 d_Alg_keep_20 rfl ?_
      refine G_bipushN 6 23 d_Alg_keep_21 rfl rfl ?_
      first | refine G_icgeN 50 26 d_Alg_keep_23 rfl rfl (by omega) (by omega) (fun h23 => ?_) (fun h23 => ?_) | refine G_icge 50 26 d_Alg_keep_23 rfl rfl (fun h23 => ?_) (fun h23 => ?_)
      · omega
      · refine G_aload0 27 d_Alg_keep_26 rfl ?_
        refine G_getR 30 d_Alg_keep_27 rfl f_Alg_82 rfl h.sh b1 ?_
        refine G_getR 33 d_Alg_keep_30 rfl f_Alg_419 rfl ko1 ko2 ?_
        refine G_iload1 34 d_Alg_keep_33 rfl ?_
        refine G_aaload 35 d_Alg_keep_34 rfl ko4 (by decide) (by decide) (ix_nI (by omega) (by omega)) ark ?_
        refine G_aload0 36 d_Alg_keep_35 rfl ?_
        refine G_getR 39 d_Alg_keep_36 rfl f_Alg_13 rfl h.sh h.f0 ?_
        refine G_iload1 40 d_Alg_keep_39 rfl ?_
        refine G_aaload 41 d_Alg_keep_40 rfl h.s0 (by decide) (by decide) (ix_nI (by omega) (by omega)) ari ?_
        refine G_invV1v 44 d_Alg_keep_41 rfl e_Alg_170 M_Poly_becomeLike rfl pok1 (Nat.le_of_ble_eq_true rfl) (Nat.le_of_ble_eq_true rfl) rfl (s_becomeLike pok poi) ?_
        first | refine G_iincN1 47 d_Alg_keep_44 rfl (by decide) rfl ?_ | refine G_iinc1 _ 47 d_Alg_keep_44 rfl (by decide) rfl rfl ?_
        refine G_goto 20 d_Alg_keep_47 rfl ?_
        refine ih _ (fun c hc => by rw [sr_ne _ _ (by omega)]; exact k1 c hc) (fun s hs => ?_)
        by_cases e : s = i
        · subst e
          rw [sr_at, k1 _ (by omega)]; exact a1 s (by omega)
        · rw [sr_ne _ _ (by omega)]; exact k2 s (by omega)
  refine G_iconstN 0 19 d_Alg_keep_18 rfl rfl ?_
  refine G_istore1 20 d_Alg_keep_19 rfl (by decide) rfl ?_
  exact L 0 (Nat.zero_le _) AL (fun _ _ => rfl) (fun s hs => by omega)
theorem c_keep {V : GV} {d lo C E : Nat} {S : ST} {X : XT} {FI AI : FT} {AL : LT} (h : CO X lo) (hI : CIv C E S X FI AI AL lo) (hW : WS S) : G V m_Alg_keep (d + 4) 0 [some (.ref lo), none] [] X FI AI AL (fun r X' FI' AI' AL' => r = some (.int (fKeep S).1) ∧ CO X' lo ∧ CIv C E (fKeep S).2 X' FI' AI' AL' lo ∧ cF X X' FI FI' AI AI' AL AL' lo) := by
  show G V m_Alg_keep (d + 4) 0 [some (.ref lo), none] [] X FI AI AL (fun r X' FI' AI' AL' => r = some (.int (nI (gN (tG S)))) ∧ CO X' lo ∧ CIv C E (stX S (some (tS S, tO S, tG S))) X' FI' AI' AL' lo ∧ cF X X' FI FI' AI AI' AL AL' lo)
  cases hx : tX S with
  | some K =>
    obtain ⟨k, i0, -, -, -⟩ := hI.i0 hx
    have b1 := i0.2.2.2.2.2.2.2.2.2.2.2.1
    refine G_aload0 1 d_Alg_keep_0 rfl ?_
    refine G_getR 4 d_Alg_keep_1 rfl f_Alg_82 rfl h.sh b1 ?_
    refine G_ifnonnull 18 d_Alg_keep_4 rfl ?_
    refine G.conseq (s_keep2 (d := d) h i0 hW) ?_
    rintro r X' FI' AI' AL' ⟨rfl, rfl, c1, c2⟩
    exact ⟨rfl, h, c1, c2⟩
  | none =>
    have hn : x_FR X lo 12 = none := by
      have := hI.2.2.2.2.2.2.2.2.2.2.1
      rw [hx] at this
      exact this
    refine G_aload0 1 d_Alg_keep_0 rfl ?_
    refine G_getR0 4 d_Alg_keep_1 rfl f_Alg_82 rfl h.sh ?_
    rw [hn]
    refine G_ifnonnullN (x := 0) 7 d_Alg_keep_4 rfl ?_
    refine G_aload0 8 d_Alg_keep_7 rfl ?_
    refine G_new (ci := 1) (T := T_Kept) 11 d_Alg_keep_8 rfl c_Alg_416 q_Kept rfl ?_
    refine G_dup 12 d_Alg_keep_11 rfl rfl ?_
    refine G_invI0 15 d_Alg_keep_12 rfl e_Alg_418 M_Kept_init rfl (Nat.le_of_ble_eq_true rfl) (Nat.le_of_ble_eq_true rfl) rfl (G.conseq (s_keptInit (d := d)) (fun r12 X12 FI12 AI12 AL12 h12 => ?_))
    obtain ⟨rfl, rfl, kz⟩ := h12
    obtain ⟨n1, n2, n3⟩ := hI.n0 (FI' := FI12) (AI' := AI12) (AL' := AL12) h hW hx (fun c hc => ⟨by rw [(kz c hc).1, z2_off _ _ (by omega)], (kz c hc).2⟩)
    have hz := hI.2.2.2.2.2.2.2.2.2.2.2.1
    refine G_putX (x := some (x_sz X)) (w := 18) false 18 d_Alg_keep_15 rfl f_Alg_82 rfl rfl (by intro C T N h; cases h; rfl) (fun e => by cases e) (((kept_ly X).2.2.2.2.2.2.1 lo (by omega)).1.trans h.sh) rfl rfl ?_
    refine G.conseq (s_keep2 (d := d) n1 n2 hW) ?_
    rintro r X' FI' AI' AL' ⟨rfl, rfl, c1, c2⟩
    exact ⟨rfl, n1, c1, n3.tr c2⟩
