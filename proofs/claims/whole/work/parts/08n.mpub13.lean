/-! ===== the reference: back ===== -/
theorem m_back {V : GV} {d b : Nat} {S : ST} {X : XT} {FI AI : FT} {AL : LT} (h : MO X b) (hI : MIv S FI AI AL b) (hW : WS S) : G V m_Mod_back (d + 3) 0 [some (.ref b), none] [] X FI AI AL (fun r X' FI' AI' AL' => r = some (.int (fBack S).1) ∧ X' = X ∧ MIv (fBack S).2 FI' AI' AL' b ∧ fM FI FI' AI AI' AL AL' b) := by
  obtain ⟨g, a1, a2, a3, a4, a5, a6⟩ := hI.de
  cases hx : tX S with
  | none =>
    rw [hx] at a6
    have f19 : FI b 19 = 0 := a6
    simp only [fBack, hx]
    refine G_aload0 1 d_Mod_back_0 rfl ?_
    refine G_getIv 4 d_Mod_back_1 rfl f_Mod_469 rfl h.sh f19 ?_
    refine G_ifne 10 7 d_Mod_back_4 rfl rfl (fun h4 => ?_) (fun h4 => ?_)
    · exact absurd rfl h4
    · refine G_bipush (-2) 9 d_Mod_back_7 rfl rfl ?_
      refine G_iret d_Mod_back_9 rfl ?_
      exact ⟨rfl, rfl, hI, fM.rf⟩
  | some k =>
    rw [hx] at a6
    obtain ⟨f19, c2, f17, f18, c5⟩ := a6
    obtain ⟨ko, kW, kcu⟩ := hW.2.2.2.2.2.2 k hx
    have hn7 := kW.1
    simp only [fBack, hx]
    have hmo := s_mMoveOut (V := V) (d := d + 2) (FI := FI) (AI := AI) (AL := AL) h
    refine G_aload0 1 d_Mod_back_0 rfl ?_
    refine G_getIv 4 d_Mod_back_1 rfl f_Mod_469 rfl h.sh f19 ?_
    refine G_ifne 10 7 d_Mod_back_4 rfl rfl (fun h4 => ?_) (fun h4 => ?_)
    · refine G_aload0 11 d_Mod_back_10 rfl ?_
      refine G_iconstN 1 12 d_Mod_back_11 rfl rfl ?_
      refine G_invV1 15 d_Mod_back_12 rfl e_Mod_459 M_Mod_moveKept rfl h.sh (Nat.le_of_ble_eq_true rfl) (Nat.le_of_ble_eq_true rfl) rfl (G.conseq (hmo) (fun r12 X12 FI12 AI12 AL12 h12 => ?_))
      obtain ⟨r1, r2, r3, r4, r5, r6, r7, r8, r9⟩ := h12
      replace r2 := r2.symm
      replace r3 := r3.symm
      subst r1 r2 r3
      have hmp : ∀ p f, cu f = f → p < 13 → (∀ t, t < 84 → AL (b + 2) (84 * p + t) = f t) → mp AL12 b p = f := by
        intro p f hc hp ht
        rw [← hc]
        funext t
        unfold mp cu
        by_cases e : t < 84
        · rw [if_pos e, if_pos e, r7 _ (by omega)]; exact ht t e
        · rw [if_neg e, if_neg e]
      have e18 : u2 FI b 8 (nI k.2.1) b 18 = nI (gN k.2.2) := by rw [u2_ix _ _ (by omega)]; exact f18
      have e8 : u2 (u2 FI b 8 (nI k.2.1)) b 9 (nI (gN k.2.2)) b 8 = nI k.2.1 := by rw [u2_ix _ _ (by omega), u2_at]
      have e9 : u2 (u2 FI b 8 (nI k.2.1)) b 9 (nI (gN k.2.2)) b 9 = nI (gN k.2.2) := u2_at _ _ _ _
      have hT2 : MTb AI12 b := ⟨fun s hs => by rw [r4 _ (by omega), r4 _ (by omega), r4 _ (by omega)]; exact g.1.1 s hs, fun x y z hs => by rw [r4 _ (by omega)]; exact g.1.2 x y z hs⟩
      have hr := s_mRanks (V := V) (d := d) (FI := u2 (u2 FI b 8 (nI k.2.1)) b 9 (nI (gN k.2.2))) (AL := AL12) h hT2 e8 ko
      refine G_aload0 16 d_Mod_back_15 rfl ?_
      refine G_aload0 17 d_Mod_back_16 rfl ?_
      refine G_getIv 20 d_Mod_back_17 rfl f_Mod_463 rfl h.sh f17 ?_
      refine G_putI 23 d_Mod_back_20 rfl f_Mod_151 rfl (by intro C T N h; cases h; rfl) h.sh rfl rfl ?_
      refine G_aload0 24 d_Mod_back_23 rfl ?_
      refine G_aload0 25 d_Mod_back_24 rfl ?_
      refine G_getIv 28 d_Mod_back_25 rfl f_Mod_466 rfl h.sh e18 ?_
      refine G_putI 31 d_Mod_back_28 rfl f_Mod_133 rfl (by intro C T N h; cases h; rfl) h.sh rfl rfl ?_
      refine G_aload0 32 d_Mod_back_31 rfl ?_
      refine G_invV0 35 d_Mod_back_32 rfl e_Mod_130 M_Mod_ranks rfl h.sh (Nat.le_of_ble_eq_true rfl) (Nat.le_of_ble_eq_true rfl) rfl (G.conseq (hr) (fun r32 X32 FI32 AI32 AL32 h32 => ?_))
      obtain ⟨s1, s2, s3, s4, s5, s6⟩ := h32
      replace s2 := s2.symm
      replace s3 := s3.symm
      replace s4 := s4.symm
      subst s1 s2 s3 s4
      have L2 : ∀ AK : FT, (∀ c, c ≠ b + 7 → c ≠ b + 8 → c ≠ b + 10 → c ≠ b + 12 → AK c = AI c) → (∀ j, j < 84 → AK (b + 7) j = nI (rk k.2.1 j)) → (∀ j, j < 7 → AK (b + 10) j = AI (b + 13) j) → (∀ j, j < 4214 → AK (b + 12) j = AI (b + 15) j) → ∀ i, i ≤ gN k.2.2 → ∀ AJ : FT, (∀ c, c ≠ b + 9 → AJ c = AK c) → (∀ j, j < i → AJ (b + 9) j = nI (gL k.2.2 j)) → G V m_Mod_back (d + 3) 63 [some (.ref b), some (.int (nI i))] [] X (u2 (u2 FI b 8 (nI k.2.1)) b 9 (nI (gN k.2.2))) AJ AL12 (fun r X' FI' AI' AL' => r = some (.int (nI (gN k.2.2))) ∧ X' = X ∧ MIv (stW (stG (stO (stS S k.1) k.2.1) k.2.2) (false, (tW S).2)) FI' AI' AL' b ∧ fM FI FI' AI AI' AL AL' b) := by
        intro AK k1 k2 k3 k4
        refine upto ?_ ?_
        · intro AJ m1 m2
          have z9 : u2 (u2 (u2 FI b 8 (nI k.2.1)) b 9 (nI (gN k.2.2))) b 23 (nI 0) b 9 = nI (gN k.2.2) := by rw [u2_ix _ _ (by omega)]; exact e9
          have hu : ∀ j, j ≠ 8 → j ≠ 9 → j ≠ 23 → u2 (u2 (u2 FI b 8 (nI k.2.1)) b 9 (nI (gN k.2.2))) b 23 (nI 0) b j = FI b j := fun j h1 h2 h3 => by rw [u2_ix _ _ h3, u2_ix _ _ h2, u2_ix _ _ h1]
          have kA : ∀ c, c ≠ b + 7 → c ≠ b + 8 → c ≠ b + 9 → c ≠ b + 10 → c ≠ b + 12 → AJ c = AI c := fun c h1 h2 h3 h4 h5 => by rw [m1 c h3]; exact k1 c h1 h2 h4 h5
          refine G_iload1 64 d_Mod_back_63 rfl ?_
          refine G_aload0 65 d_Mod_back_64 rfl ?_
          refine G_getIv 68 d_Mod_back_65 rfl f_Mod_133 rfl h.sh e9 ?_
          first | refine G_icgeN 91 71 d_Mod_back_68 rfl rfl (by omega) (by omega) (fun h68 => ?_) (fun h68 => ?_) | refine G_icge 91 71 d_Mod_back_68 rfl rfl (fun h68 => ?_) (fun h68 => ?_)
          · refine G_aload0 92 d_Mod_back_91 rfl ?_
            refine G_iconstN 0 93 d_Mod_back_92 rfl rfl ?_
            refine G_putI 96 d_Mod_back_93 rfl f_Mod_304 rfl (by intro C T N h; cases h; rfl) h.sh rfl rfl ?_
            refine G_aload0 97 d_Mod_back_96 rfl ?_
            refine G_getIv 100 d_Mod_back_97 rfl f_Mod_133 rfl h.sh z9 ?_
            refine G_iret d_Mod_back_100 rfl ?_
            refine ⟨rfl, rfl, MIv.mk (S := stW (stG (stO (stS S k.1) k.2.1) k.2.2) (false, (tW S).2)) ⟨⟨fun s hs => ?_, fun x y z hs => ?_⟩, z9, ko, fun j hj => ?_, fun q hq => ?_⟩ (by rw [u2_ix _ _ (by omega)]; exact e8) (fun s hs => hmp s _ (kcu s hs) (by omega) (fun t ht => c2 s t hs ht)) ⟨u2_at _ _ _ _, fun e => by cases e⟩ (a4.tr (kA _ (by omega) (by omega) (by omega) (by omega) (by omega)) (kA _ (by omega) (by omega) (by omega) (by omega) (by omega)) (kA _ (by omega) (by omega) (by omega) (by omega) (by omega))) (a5.tr (hu 48 (by omega) (by omega) (by omega)) (kA _ (by omega) (by omega) (by omega) (by omega) (by omega)) (kA _ (by omega) (by omega) (by omega) (by omega) (by omega)) (r6 _ (by omega) (by omega))) (MXk.tr (x := tX S) (by rw [hx]; exact ⟨f19, c2, f17, f18, c5⟩) (hu 19 (by omega) (by omega) (by omega)) (hu 17 (by omega) (by omega) (by omega)) (hu 18 (by omega) (by omega) (by omega)) (kA _ (by omega) (by omega) (by omega) (by omega) (by omega)) (kA _ (by omega) (by omega) (by omega) (by omega) (by omega)) (r6 _ (by omega) (by omega)) (r6 _ (by omega) (by omega))), fun c hc => ⟨?_, kA c (by omega) (by omega) (by omega) (by omega) (by omega), r6 c (by omega) (by omega)⟩⟩
            · rw [kA _ (by omega) (by omega) (by omega) (by omega) (by omega), kA _ (by omega) (by omega) (by omega) (by omega) (by omega), kA _ (by omega) (by omega) (by omega) (by omega) (by omega)]; exact g.1.1 s hs
            · rw [kA _ (by omega) (by omega) (by omega) (by omega) (by omega)]; exact g.1.2 x y z hs
            · rw [m1 _ (by omega)]; exact k2 j hj
            · have hq' : q < gN k.2.2 := hq
              obtain ⟨d1, d2, d3⟩ := c5 q hq'
              obtain ⟨w1, w2, w3, w4, w5, -⟩ := kW.2.1 q hq'
              refine ⟨m2 q hq', hmp _ _ w3 (by omega) d1, by rw [m1 _ (by omega), k3 _ (by omega)]; exact d2, fun i hi => ?_⟩
              have hi' : i < gK k.2.2 q := hi
              exact ⟨by rw [r9 _ (by omega)]; exact (d3 i hi').1, fun f hf => by rw [m1 _ (by omega), k4 _ (by omega)]; exact (d3 i hi').2 f hf⟩
            · rw [u2_off _ _ _ (by omega), u2_off _ _ _ (by omega), u2_off _ _ _ (by omega)]
          · omega
        · intro i hi ih AJ m1 m2
          obtain ⟨w1, w2, w3, w4, w5, -⟩ := kW.2.1 i hi
          have hld := s_mLeading (V := V) (d := d + 2) (p := 6 + i) (FI := u2 (u2 FI b 8 (nI k.2.1)) b 9 (nI (gN k.2.2))) (AI := AJ) (AL := AL12) h (by omega) ko (fun j hj => by rw [m1 _ (by omega)]; exact k2 j hj)
          rw [hmp _ _ w3 (by omega) (c5 i hi).1, (mon_dgb ko w1 w4).2, dI_s] at hld
          refine G_iload1 64 d_Mod_back_63 rfl ?_
          refine G_aload0 65 d_Mod_back_64 rfl ?_
          refine G_getIv 68 d_Mod_back_65 rfl f_Mod_133 rfl h.sh e9 ?_
          first | refine G_icgeN 91 71 d_Mod_back_68 rfl rfl (by omega) (by omega) (fun h68 => ?_) (fun h68 => ?_) | refine G_icge 91 71 d_Mod_back_68 rfl rfl (fun h68 => ?_) (fun h68 => ?_)
          · omega
          · refine G_aload0 72 d_Mod_back_71 rfl ?_
            refine G_getR 75 d_Mod_back_72 rfl f_Mod_37 rfl h.sh h.f10 ?_
            refine G_iload1 76 d_Mod_back_75 rfl ?_
            refine G_aload0 77 d_Mod_back_76 rfl ?_
            refine G_bipushN 6 79 d_Mod_back_77 rfl rfl ?_
            refine G_iload1 80 d_Mod_back_79 rfl ?_
            first | refine G_iaddN 81 d_Mod_back_80 rfl ?_ | refine G_iadd 81 d_Mod_back_80 rfl ?_
            refine G_invV1d 84 d_Mod_back_81 rfl e_Mod_239 M_Mod_leading rfl h.sh (Nat.le_of_ble_eq_true rfl) (Nat.le_of_ble_eq_true rfl) rfl (hld) ?_
            refine G_iastore 85 d_Mod_back_84 rfl h.s10 (ix_nI (by omega) (by omega)) ?_
            first | refine G_iincN1 88 d_Mod_back_85 rfl (by decide) rfl ?_ | refine G_iinc1 _ 88 d_Mod_back_85 rfl (by decide) rfl rfl ?_
            refine G_goto 63 d_Mod_back_88 rfl ?_
            refine ih _ (fun c hc => by rw [u2_off _ _ _ hc]; exact m1 c hc) (fun j hj => ?_)
            by_cases e : j = i
            · subst e; exact u2_at _ _ _ _
            · rw [u2_ix _ _ e]; exact m2 j (by omega)
      have L : ∀ i, i ≤ 7 → ∀ AJ : FT, (∀ c, c ≠ b + 10 → AJ c = AI32 c) → (∀ j, j < i → AJ (b + 10) j = AI (b + 13) j) → G V m_Mod_back (d + 3) 37 [some (.ref b), some (.int (nI i))] [] X (u2 (u2 FI b 8 (nI k.2.1)) b 9 (nI (gN k.2.2))) AJ AL12 (fun r X' FI' AI' AL' => r = some (.int (nI (gN k.2.2))) ∧ X' = X ∧ MIv (stW (stG (stO (stS S k.1) k.2.1) k.2.2) (false, (tW S).2)) FI' AI' AL' b ∧ fM FI FI' AI AI' AL AL' b) := by
        refine upto ?_ ?_
        · intro AJ k1 k2
          refine G_iload1 38 d_Mod_back_37 rfl ?_
          refine G_bipushN 7 40 d_Mod_back_38 rfl rfl ?_
          first | refine G_icgeN 61 43 d_Mod_back_40 rfl rfl (by omega) (by omega) (fun h40 => ?_) (fun h40 => ?_) | refine G_icge 61 43 d_Mod_back_40 rfl rfl (fun h40 => ?_) (fun h40 => ?_)
          · refine G_iconstN 0 62 d_Mod_back_61 rfl rfl ?_
            refine G_istore1 63 d_Mod_back_62 rfl (by decide) rfl ?_
            exact L2 AJ (fun c h1 h2 h3 h4 => by rw [k1 c h3, s5 c h1 h2]; exact r4 c h4) (fun j hj => by rw [k1 _ (by omega)]; exact s6 j hj) k2 (fun j hj => by rw [k1 _ (by omega), s5 _ (by omega) (by omega)]; exact r5 j hj) 0 (by omega) AJ (fun _ _ => rfl) (fun j hj => by omega)
          · omega
        · intro i hi ih AJ k1 k2
          have e0 : AJ (b + 13) i = AI (b + 13) i := by rw [k1 _ (by omega), s5 _ (by omega) (by omega), r4 _ (by omega)]
          refine G_iload1 38 d_Mod_back_37 rfl ?_
          refine G_bipushN 7 40 d_Mod_back_38 rfl rfl ?_
          first | refine G_icgeN 61 43 d_Mod_back_40 rfl rfl (by omega) (by omega) (fun h40 => ?_) (fun h40 => ?_) | refine G_icge 61 43 d_Mod_back_40 rfl rfl (fun h40 => ?_) (fun h40 => ?_)
          · omega
          · refine G_aload0 44 d_Mod_back_43 rfl ?_
            refine G_getR 47 d_Mod_back_44 rfl f_Mod_40 rfl h.sh h.f11 ?_
            refine G_iload1 48 d_Mod_back_47 rfl ?_
            refine G_aload0 49 d_Mod_back_48 rfl ?_
            refine G_getR 52 d_Mod_back_49 rfl f_Mod_49 rfl h.sh h.f14 ?_
            refine G_iload1 53 d_Mod_back_52 rfl ?_
            refine G_ialoadv 54 d_Mod_back_53 rfl h.s14 (ix_nI (by omega) (by omega)) e0 ?_
            refine G_iastore 55 d_Mod_back_54 rfl h.s11 (ix_nI (by omega) (by omega)) ?_
            first | refine G_iincN1 58 d_Mod_back_55 rfl (by decide) rfl ?_ | refine G_iinc1 _ 58 d_Mod_back_55 rfl (by decide) rfl rfl ?_
            refine G_goto 37 d_Mod_back_58 rfl ?_
            refine ih _ (fun c hc => by rw [u2_off _ _ _ hc]; exact k1 c hc) (fun j hj => ?_)
            by_cases e : j = i
            · subst e; exact u2_at _ _ _ _
            · rw [u2_ix _ _ e]; exact k2 j (by omega)
      refine G_iconstN 0 36 d_Mod_back_35 rfl rfl ?_
      refine G_istore1 37 d_Mod_back_36 rfl (by decide) rfl ?_
      exact L 0 (by omega) AI32 (fun _ _ => rfl) (fun j hj => by omega)
    · exact absurd h4 (by decide)
