/-! ===== the reference: link, made, root, monoid, count ===== -/
theorem s_mIsLink {V : GV} {d : Nat} {x n : Int32} {X : XT} {FI AI : FT} {AL : LT} : G V m_Mod_isLink (d + 1) 0 [some (.int x), some (.int n)] [] X FI AI AL (P01 (bLink x n = true) X FI AI AL) := by
  have k0 : ((0 : Int64).toInt ≤ n.toInt64.toInt ∧ n.toInt64.toInt ≤ (5 : Int64).toInt) ↔ isN n 6 := by
    rw [toL, isN_iff (by omega), show (0 : Int64).toInt = 0 from rfl, show (5 : Int64).toInt = 5 from rfl]; omega
  have k1 : ((-999 : Int64).toInt ≤ n.toInt64.toInt ∧ n.toInt64.toInt ≤ (999 : Int64).toInt) ↔ isB n (-999) 999 := by
    rw [toL]; exact Iff.rfl
  have slot : ∀ pc2, ¬ isN n 6 → bN n 6 = false := fun _ e => bN_f e (by omega)
  by_cases hx : isN x 7
  · obtain ⟨k, hk, rfl⟩ := hx
    have q := bN_t hk (show 7 < 2 ^ 31 by omega)
    have z := ni_nI (show k < 2 ^ 31 by omega)
    have hb : bLink (nI k) n = kLink (nI k) n := by unfold bLink; rw [q, Bool.true_and]
    rw [hb]
    unfold kLink
    rw [z]
    have kk : k = 0 ∨ k = 1 ∨ k = 2 ∨ k = 3 ∨ k = 4 ∨ k = 5 ∨ k = 6 := by omega
    refine G_iload0 1 d_Mod_isLink_0 rfl ?_
    rcases kk with rfl | rfl | rfl | rfl | rfl | rfl | rfl
    · refine G_tableIn 40 d_Mod_isLink_1 (by decide) (by decide) rfl rfl ?_
      refine G_iload1 41 d_Mod_isLink_40 rfl ?_
      refine G_i2l 42 d_Mod_isLink_41 rfl ?_
      refine G_lconst 0 43 d_Mod_isLink_42 rfl rfl ?_
      refine G_ldc2 46 d_Mod_isLink_43 rfl k_Mod_227 ?_
      refine G_invS3b 49 d_Mod_isLink_46 rfl e_Mod_139 M_Mod_in (Nat.le_of_ble_eq_true rfl) (Nat.le_of_ble_eq_true rfl) rfl (s_mIn) (fun h46 => ?_) (fun h46 => ?_)
      · refine G_zret d_Mod_isLink_49 rfl ?_ ?_
        · first | exact Or.inl rfl | exact Or.inr rfl
        · exact P01.t ((bN_iff (by omega)).mpr (k0.mp h46))
      · refine G_zret d_Mod_isLink_49 rfl ?_ ?_
        · first | exact Or.inl rfl | exact Or.inr rfl
        · exact P01.f (fun e => h46 (k0.mpr ((bN_iff (by omega)).mp e)))
    · refine G_tableIn 50 d_Mod_isLink_1 (by decide) (by decide) rfl rfl ?_
      refine G_iload1 51 d_Mod_isLink_50 rfl ?_
      refine G_i2l 52 d_Mod_isLink_51 rfl ?_
      refine G_ldc2 55 d_Mod_isLink_52 rfl k_Mod_186 ?_
      refine G_ldc2 58 d_Mod_isLink_55 rfl k_Mod_188 ?_
      refine G_invS3b 61 d_Mod_isLink_58 rfl e_Mod_139 M_Mod_in (Nat.le_of_ble_eq_true rfl) (Nat.le_of_ble_eq_true rfl) rfl (s_mIn) (fun h58 => ?_) (fun h58 => ?_)
      · refine G_zret d_Mod_isLink_61 rfl ?_ ?_
        · first | exact Or.inl rfl | exact Or.inr rfl
        · exact P01.t (bB_iff.mpr (k1.mp h58))
      · refine G_zret d_Mod_isLink_61 rfl ?_ ?_
        · first | exact Or.inl rfl | exact Or.inr rfl
        · exact P01.f (fun e => h58 (k1.mpr (bB_iff.mp e)))
    · refine G_tableIn 62 d_Mod_isLink_1 (by decide) (by decide) rfl rfl ?_
      refine G_iload1 63 d_Mod_isLink_62 rfl ?_
      refine G_invS1b 66 d_Mod_isLink_63 rfl e_Mod_182 M_Mod_isSlot (Nat.le_of_ble_eq_true rfl) (Nat.le_of_ble_eq_true rfl) rfl (s_mIsSlot) (fun h63 => ?_) (fun h63 => ?_)
      · refine G_zret d_Mod_isLink_66 rfl ?_ ?_
        · first | exact Or.inl rfl | exact Or.inr rfl
        · exact P01.t ((bN_iff (by omega)).mpr h63)
      · refine G_zret d_Mod_isLink_66 rfl ?_ ?_
        · first | exact Or.inl rfl | exact Or.inr rfl
        · exact P01.f (fun e => h63 ((bN_iff (by omega)).mp e))
    · refine G_tableIn 62 d_Mod_isLink_1 (by decide) (by decide) rfl rfl ?_
      refine G_iload1 63 d_Mod_isLink_62 rfl ?_
      refine G_invS1b 66 d_Mod_isLink_63 rfl e_Mod_182 M_Mod_isSlot (Nat.le_of_ble_eq_true rfl) (Nat.le_of_ble_eq_true rfl) rfl (s_mIsSlot) (fun h63 => ?_) (fun h63 => ?_)
      · refine G_zret d_Mod_isLink_66 rfl ?_ ?_
        · first | exact Or.inl rfl | exact Or.inr rfl
        · exact P01.t ((bN_iff (by omega)).mpr h63)
      · refine G_zret d_Mod_isLink_66 rfl ?_ ?_
        · first | exact Or.inl rfl | exact Or.inr rfl
        · exact P01.f (fun e => h63 ((bN_iff (by omega)).mp e))
    · refine G_tableIn 67 d_Mod_isLink_1 (by decide) (by decide) rfl rfl ?_
      refine G_iload0 68 d_Mod_isLink_67 rfl ?_
      refine G_iconstN 4 69 d_Mod_isLink_68 rfl rfl ?_
      first | refine G_iceqN 78 72 d_Mod_isLink_69 rfl rfl (by omega) (by omega) (fun h69 => ?_) (fun h69 => ?_) | refine G_iceq 78 72 d_Mod_isLink_69 rfl rfl (fun h69 => ?_) (fun h69 => ?_)
      · refine G_iconstN 1 79 d_Mod_isLink_78 rfl rfl ?_
        refine G_goto 83 d_Mod_isLink_79 rfl ?_
        refine G_zret d_Mod_isLink_83 rfl ?_ ?_
        · first | exact Or.inl rfl | exact Or.inr rfl
        · exact P01.t rfl
      · exact absurd rfl h69
    · refine G_tableIn 62 d_Mod_isLink_1 (by decide) (by decide) rfl rfl ?_
      refine G_iload1 63 d_Mod_isLink_62 rfl ?_
      refine G_invS1b 66 d_Mod_isLink_63 rfl e_Mod_182 M_Mod_isSlot (Nat.le_of_ble_eq_true rfl) (Nat.le_of_ble_eq_true rfl) rfl (s_mIsSlot) (fun h63 => ?_) (fun h63 => ?_)
      · refine G_zret d_Mod_isLink_66 rfl ?_ ?_
        · first | exact Or.inl rfl | exact Or.inr rfl
        · exact P01.t ((bN_iff (by omega)).mpr h63)
      · refine G_zret d_Mod_isLink_66 rfl ?_ ?_
        · first | exact Or.inl rfl | exact Or.inr rfl
        · exact P01.f (fun e => h63 ((bN_iff (by omega)).mp e))
    · refine G_tableOut 67 d_Mod_isLink_1 (Or.inr (by decide)) rfl ?_
      refine G_iload0 68 d_Mod_isLink_67 rfl ?_
      refine G_iconstN 4 69 d_Mod_isLink_68 rfl rfl ?_
      first | refine G_iceqN 78 72 d_Mod_isLink_69 rfl rfl (by omega) (by omega) (fun h69 => ?_) (fun h69 => ?_) | refine G_iceq 78 72 d_Mod_isLink_69 rfl rfl (fun h69 => ?_) (fun h69 => ?_)
      · exact absurd h69 (by decide)
      · refine G_iload0 73 d_Mod_isLink_72 rfl ?_
        refine G_bipushN 6 75 d_Mod_isLink_73 rfl rfl ?_
        first | refine G_icneN 82 78 d_Mod_isLink_75 rfl rfl (by omega) (by omega) (fun h75 => ?_) (fun h75 => ?_) | refine G_icne 82 78 d_Mod_isLink_75 rfl rfl (fun h75 => ?_) (fun h75 => ?_)
        · exact absurd rfl h75
        · refine G_iconstN 1 79 d_Mod_isLink_78 rfl rfl ?_
          refine G_goto 83 d_Mod_isLink_79 rfl ?_
          refine G_zret d_Mod_isLink_83 rfl ?_ ?_
          · first | exact Or.inl rfl | exact Or.inr rfl
          · exact P01.t rfl
  · have q := bN_f hx (show 7 < 2 ^ 31 by omega)
    have hb : bLink x n = false := by unfold bLink; rw [q, Bool.false_and]
    rw [hb]
    have hx2 : x.toInt < 0 ∨ 6 < x.toInt := by
      rw [isN_iff (by omega)] at hx; omega
    refine G_iload0 1 d_Mod_isLink_0 rfl ?_
    refine G_tableOut 67 d_Mod_isLink_1 (by omega) rfl ?_
    have n4 : ¬ x = nI 4 := fun e => by rw [e, nI_toInt (by omega)] at hx2; omega
    have n6 : ¬ x = nI 6 := fun e => by rw [e, nI_toInt (by omega)] at hx2; omega
    refine G_iload0 68 d_Mod_isLink_67 rfl ?_
    refine G_iconstN 4 69 d_Mod_isLink_68 rfl rfl ?_
    first | refine G_iceqN 78 72 d_Mod_isLink_69 rfl rfl (by omega) (by omega) (fun h69 => ?_) (fun h69 => ?_) | refine G_iceq 78 72 d_Mod_isLink_69 rfl rfl (fun h69 => ?_) (fun h69 => ?_)
    · exact absurd h69 n4
    · refine G_iload0 73 d_Mod_isLink_72 rfl ?_
      refine G_bipushN 6 75 d_Mod_isLink_73 rfl rfl ?_
      first | refine G_icneN 82 78 d_Mod_isLink_75 rfl rfl (by omega) (by omega) (fun h75 => ?_) (fun h75 => ?_) | refine G_icne 82 78 d_Mod_isLink_75 rfl rfl (fun h75 => ?_) (fun h75 => ?_)
      · refine G_iconstN 0 83 d_Mod_isLink_82 rfl rfl ?_
        refine G_zret d_Mod_isLink_83 rfl ?_ ?_
        · first | exact Or.inl rfl | exact Or.inr rfl
        · exact P01.f (by decide)
      · exact absurd h75 n6
theorem m_link {V : GV} {d b : Nat} {S : ST} {x n : Int32} {X : XT} {FI AI : FT} {AL : LT} (h : MO X b) (hI : MIv S FI AI AL b) (hW : WS S) : G V m_Mod_link (d + 2) 0 [some (.ref b), some (.int x), some (.int n), none] [] X FI AI AL (fun r X' FI' AI' AL' => r = some (.int (fLink S x n).1) ∧ X' = X ∧ MIv (fLink S x n).2 FI' AI' AL' b ∧ fM FI FI' AI AI' AL AL' b) := by
  obtain ⟨g, a1, a2, a3, a4, a5, a6⟩ := hI.de
  have f48 := a5.1
  have hl8 := hW.2.2.2.2.2.1.1
  have hcs := hW.2.2.1
  refine G_iload1 1 d_Mod_link_0 rfl ?_
  refine G_iload2 2 d_Mod_link_1 rfl ?_
  refine G_invS2b 5 d_Mod_link_2 rfl e_Mod_435 M_Mod_isLink (Nat.le_of_ble_eq_true rfl) (Nat.le_of_ble_eq_true rfl) rfl (s_mIsLink) (fun h2 => G_ifne1 8 d_Mod_link_5 10 rfl rfl ?_) (fun h2 => G_ifne0 8 d_Mod_link_5 10 rfl rfl ?_)
  · simp only [fLink, h2, if_true]
    have hx : isN x 7 := by
      unfold bLink at h2
      rw [Bool.and_eq_true] at h2
      exact (bN_iff (by omega)).mp h2.1
    obtain ⟨k, hk, rfl⟩ := hx
    have z := ni_nI (show k < 2 ^ 31 by omega)
    simp only [z]
    by_cases h8 : (tL S).1 = 8
    · simp only [if_pos h8]
      rw [h8] at f48
      refine G_aload0 11 d_Mod_link_10 rfl ?_
      refine G_getIv 14 d_Mod_link_11 rfl f_Mod_438 rfl h.sh f48 ?_
      refine G_bipushN 8 16 d_Mod_link_14 rfl rfl ?_
      first | refine G_icneN 22 19 d_Mod_link_16 rfl rfl (by omega) (by omega) (fun h16 => ?_) (fun h16 => ?_) | refine G_icne 22 19 d_Mod_link_16 rfl rfl (fun h16 => ?_) (fun h16 => ?_)
      · exact absurd rfl h16
      · refine G_bipush (-4) 21 d_Mod_link_19 rfl rfl ?_
        refine G_iret d_Mod_link_21 rfl ?_
        exact ⟨rfl, rfl, hI, fM.rf⟩
    · simp only [if_neg h8]
      have hsl : k = 2 ∨ k = 5 → ∃ m : Nat, m < 6 ∧ n = nI m := by
        intro e
        unfold bLink kLink at h2
        rw [Bool.and_eq_true, z] at h2
        rcases e with rfl | rfl
        · exact (bN_iff (by omega)).mp h2.2
        · exact (bN_iff (by omega)).mp h2.2
      generalize hgf : (if k = 2 ∨ k = 5 then tS S (ni n) else fun _ => (0 : Int64)) = gf
      have hu : ∀ j, j ≠ 48 → ∀ v, u2 FI b 48 v b j = FI b j := fun j hj v => u2_ix _ _ hj
      have L : ∀ t, t ≤ 84 → ∀ BJ : LT, (∀ c, c ≠ b + 36 → BJ c = AL c) → (∀ j, j < 84 * (tL S).1 → BJ (b + 36) j = AL (b + 36) j) → (∀ q, q < t → BJ (b + 36) (84 * (tL S).1 + q) = gf q) → G V m_Mod_link (d + 2) 44 [some (.ref b), some (.int (nI k)), some (.int n), some (.int (nI t))] [] X FI (u2 (u2 AI (b + 34) (tL S).1 (nI k)) (b + 35) (tL S).1 n) BJ (fun r X' FI' AI' AL' => r = some (.int (nI ((tL S).1 + 1))) ∧ X' = X ∧ MIv (stL S ((tL S).1 + 1, upn (tL S).2.1 (tL S).1 k, upn (tL S).2.2.1 (tL S).1 n, upn (tL S).2.2.2 (tL S).1 gf)) FI' AI' AL' b ∧ fM FI FI' AI AI' AL AL' b) := by
        refine upto ?_ ?_
        · intro BJ j1 j2 j3
          have f48' : u2 FI b 48 (nI ((tL S).1 + 1)) b 48 = nI ((tL S).1 + 1) := u2_at _ _ _ _
          have ao : ∀ c, c ≠ b + 34 → c ≠ b + 35 → u2 (u2 AI (b + 34) (tL S).1 (nI k)) (b + 35) (tL S).1 n c = AI c := fun c h1 h2 => by rw [u2_off _ _ _ h2, u2_off _ _ _ h1]
          refine G_iload3 45 d_Mod_link_44 rfl ?_
          refine G_bipushN 84 47 d_Mod_link_45 rfl rfl ?_
          first | refine G_icgeN 95 50 d_Mod_link_47 rfl rfl (by omega) (by omega) (fun h47 => ?_) (fun h47 => ?_) | refine G_icge 95 50 d_Mod_link_47 rfl rfl (fun h47 => ?_) (fun h47 => ?_)
          · refine G_aload0 96 d_Mod_link_95 rfl ?_
            refine G_dup 97 d_Mod_link_96 rfl rfl ?_
            refine G_getIv 100 d_Mod_link_97 rfl f_Mod_438 rfl h.sh f48 ?_
            refine G_iconstN 1 101 d_Mod_link_100 rfl rfl ?_
            first | refine G_iaddN 102 d_Mod_link_101 rfl ?_ | refine G_iadd 102 d_Mod_link_101 rfl ?_
            refine G_putI 105 d_Mod_link_102 rfl f_Mod_438 rfl (by intro C T N h; cases h; rfl) h.sh rfl rfl ?_
            refine G_aload0 106 d_Mod_link_105 rfl ?_
            refine G_getIv 109 d_Mod_link_106 rfl f_Mod_438 rfl h.sh f48' ?_
            refine G_iret d_Mod_link_109 rfl ?_
            refine ⟨rfl, rfl, MIv.mk (S := stL S ((tL S).1 + 1, upn (tL S).2.1 (tL S).1 k, upn (tL S).2.2.1 (tL S).1 n, upn (tL S).2.2.2 (tL S).1 gf)) ⟨⟨fun s hs => ?_, fun x y z hs => ?_⟩, by rw [hu 9 (by omega)]; exact g.2.1, g.2.2.1, fun j hj => ?_, fun q hq => ?_⟩ (by rw [hu 8 (by omega)]; exact a1) (fun s hs => by rw [mp_row (j1 _ (by omega))]; exact a2 s hs) (a3.tr (hu 23 (by omega) _) (hu 24 (by omega) _) (ao _ (by omega) (by omega)) (j1 _ (by omega))) (a4.tr (ao _ (by omega) (by omega)) (ao _ (by omega) (by omega)) (ao _ (by omega) (by omega))) ⟨f48', fun l hl => ?_⟩ (a6.tr (hu 19 (by omega) _) (hu 17 (by omega) _) (hu 18 (by omega) _) (ao _ (by omega) (by omega)) (ao _ (by omega) (by omega)) (j1 _ (by omega)) (j1 _ (by omega))), fun c hc => ⟨u2_off _ _ _ (by omega), ao c (by omega) (by omega), j1 c (by omega)⟩⟩
            · rw [ao _ (by omega) (by omega), ao _ (by omega) (by omega), ao _ (by omega) (by omega)]; exact g.1.1 s hs
            · rw [ao _ (by omega) (by omega)]; exact g.1.2 x y z hs
            · rw [ao _ (by omega) (by omega)]; exact g.2.2.2.1 j hj
            · obtain ⟨b1, b2, b3, b4⟩ := g.2.2.2.2 q hq
              exact ⟨by rw [ao _ (by omega) (by omega)]; exact b1, by rw [mp_row (j1 _ (by omega))]; exact b2, by rw [ao _ (by omega) (by omega)]; exact b3, fun i hi => ⟨by rw [j1 _ (by omega)]; exact (b4 i hi).1, fun f hf => by rw [ao _ (by omega) (by omega)]; exact (b4 i hi).2 f hf⟩⟩
            · have hl' : l < (tL S).1 + 1 := hl
              show _ = nI (upn (tL S).2.1 (tL S).1 k l) ∧ _ = upn (tL S).2.2.1 (tL S).1 n l ∧ (upn (tL S).2.1 (tL S).1 k l = 2 ∨ upn (tL S).2.1 (tL S).1 k l = 5 → ∀ t, t < 84 → _ = upn (tL S).2.2.2 (tL S).1 gf l t)
              by_cases e : l = (tL S).1
              · subst e
                rw [upn_at, upn_at, upn_at, u2_ne _ _ _ _ (by omega), u2_at, u2_at]
                exact ⟨rfl, rfl, fun _ t ht => j3 t ht⟩
              · obtain ⟨d1, d2, d3⟩ := a5.2 l (by omega)
                rw [upn_ne _ _ e, upn_ne _ _ e, upn_ne _ _ e, u2_ne _ _ _ _ (by omega), u2_ix _ _ e, u2_ix _ _ e, u2_ne _ _ _ _ (by omega)]
                exact ⟨d1, d2, fun c t ht => by rw [j2 _ (by omega)]; exact d3 c t ht⟩
          · omega
        · intro t ht ih BJ j1 j2 j3
          have nxt_ : ∀ v : Int64, v = gf t → G V m_Mod_link (d + 2) 44 [some (.ref b), some (.int (nI k)), some (.int n), some (.int (nI (t + 1)))] [] X FI (u2 (u2 AI (b + 34) (tL S).1 (nI k)) (b + 35) (tL S).1 n) (u2 BJ (b + 36) (84 * (tL S).1 + t) v) (fun r X' FI' AI' AL' => r = some (.int (nI ((tL S).1 + 1))) ∧ X' = X ∧ MIv (stL S ((tL S).1 + 1, upn (tL S).2.1 (tL S).1 k, upn (tL S).2.2.1 (tL S).1 n, upn (tL S).2.2.2 (tL S).1 gf)) FI' AI' AL' b ∧ fM FI FI' AI AI' AL AL' b) := fun v hv =>
            ih _ (fun c hc => by rw [u2_off _ _ _ hc]; exact j1 c hc) (fun j hj => by rw [u2_ix _ _ (by omega)]; exact j2 j hj) (fun q hq => by
              by_cases e : q = t
              · subst e; rw [u2_at]; exact hv
              · rw [u2_ix _ _ (by omega)]; exact j3 q (by omega))
          by_cases hc : k = 2 ∨ k = 5
          · obtain ⟨m, hm, hn⟩ := hsl hc
            rw [hn] at nxt_ ⊢
            have e0 : BJ (b + 1) (84 * m + t) = gf t := by
              rw [j1 _ (by omega), ← hgf, if_pos hc, hn, ni_nI (by omega), ← a2 m hm, mp_at ht]
            refine G_iload3 45 d_Mod_link_44 rfl ?_
            refine G_bipushN 84 47 d_Mod_link_45 rfl rfl ?_
            first | refine G_icgeN 95 50 d_Mod_link_47 rfl rfl (by omega) (by omega) (fun h47 => ?_) (fun h47 => ?_) | refine G_icge 95 50 d_Mod_link_47 rfl rfl (fun h47 => ?_) (fun h47 => ?_)
            · omega
            · refine G_aload0 51 d_Mod_link_50 rfl ?_
              refine G_getR 54 d_Mod_link_51 rfl f_Mod_118 rfl h.sh h.f51 ?_
              refine G_bipushN 84 56 d_Mod_link_54 rfl rfl ?_
              refine G_aload0 57 d_Mod_link_56 rfl ?_
              refine G_getIv 60 d_Mod_link_57 rfl f_Mod_438 rfl h.sh f48 ?_
              first | refine G_imulN 61 d_Mod_link_60 rfl ?_ | refine G_imul 61 d_Mod_link_60 rfl ?_
              refine G_iload3 62 d_Mod_link_61 rfl ?_
              first | refine G_iaddN 63 d_Mod_link_62 rfl ?_ | refine G_iadd 63 d_Mod_link_62 rfl ?_
              refine G_iload1 64 d_Mod_link_63 rfl ?_
              refine G_iconstN 2 65 d_Mod_link_64 rfl rfl ?_
              first | refine G_iceqN 73 68 d_Mod_link_65 rfl rfl (by omega) (by omega) (fun h65 => ?_) (fun h65 => ?_) | refine G_iceq 73 68 d_Mod_link_65 rfl rfl (fun h65 => ?_) (fun h65 => ?_)
              · refine G_aload0 74 d_Mod_link_73 rfl ?_
                refine G_getR 77 d_Mod_link_74 rfl f_Mod_9 rfl h.sh h.f0 ?_
                refine G_bipushN 84 79 d_Mod_link_77 rfl rfl ?_
                refine G_iload2 80 d_Mod_link_79 rfl ?_
                first | refine G_imulN 81 d_Mod_link_80 rfl ?_ | refine G_imul 81 d_Mod_link_80 rfl ?_
                refine G_iload3 82 d_Mod_link_81 rfl ?_
                first | refine G_iaddN 83 d_Mod_link_82 rfl ?_ | refine G_iadd 83 d_Mod_link_82 rfl ?_
                refine G_laloadv 84 d_Mod_link_83 rfl h.s0 (ix_nI (by omega) (by omega)) e0 ?_
                refine G_goto 88 d_Mod_link_84 rfl ?_
                refine G_lastore 89 d_Mod_link_88 rfl h.s51 (ix_nI (by omega) (by omega)) ?_
                first | refine G_iincN3 92 d_Mod_link_89 rfl (by decide) rfl ?_ | refine G_iinc3 _ 92 d_Mod_link_89 rfl (by decide) rfl rfl ?_
                refine G_goto 44 d_Mod_link_92 rfl ?_
                exact nxt_ _ rfl
              · refine G_iload1 69 d_Mod_link_68 rfl ?_
                refine G_iconstN 5 70 d_Mod_link_69 rfl rfl ?_
                first | refine G_icneN 87 73 d_Mod_link_70 rfl rfl (by omega) (by omega) (fun h70 => ?_) (fun h70 => ?_) | refine G_icne 87 73 d_Mod_link_70 rfl rfl (fun h70 => ?_) (fun h70 => ?_)
                · omega
                · refine G_aload0 74 d_Mod_link_73 rfl ?_
                  refine G_getR 77 d_Mod_link_74 rfl f_Mod_9 rfl h.sh h.f0 ?_
                  refine G_bipushN 84 79 d_Mod_link_77 rfl rfl ?_
                  refine G_iload2 80 d_Mod_link_79 rfl ?_
                  first | refine G_imulN 81 d_Mod_link_80 rfl ?_ | refine G_imul 81 d_Mod_link_80 rfl ?_
                  refine G_iload3 82 d_Mod_link_81 rfl ?_
                  first | refine G_iaddN 83 d_Mod_link_82 rfl ?_ | refine G_iadd 83 d_Mod_link_82 rfl ?_
                  refine G_laloadv 84 d_Mod_link_83 rfl h.s0 (ix_nI (by omega) (by omega)) e0 ?_
                  refine G_goto 88 d_Mod_link_84 rfl ?_
                  refine G_lastore 89 d_Mod_link_88 rfl h.s51 (ix_nI (by omega) (by omega)) ?_
                  first | refine G_iincN3 92 d_Mod_link_89 rfl (by decide) rfl ?_ | refine G_iinc3 _ 92 d_Mod_link_89 rfl (by decide) rfl rfl ?_
                  refine G_goto 44 d_Mod_link_92 rfl ?_
                  exact nxt_ _ rfl
          · clear hsl
            have e0 : (0 : Int64) = gf t := by rw [← hgf, if_neg hc]
            refine G_iload3 45 d_Mod_link_44 rfl ?_
            refine G_bipushN 84 47 d_Mod_link_45 rfl rfl ?_
            first | refine G_icgeN 95 50 d_Mod_link_47 rfl rfl (by omega) (by omega) (fun h47 => ?_) (fun h47 => ?_) | refine G_icge 95 50 d_Mod_link_47 rfl rfl (fun h47 => ?_) (fun h47 => ?_)
            · omega
            · refine G_aload0 51 d_Mod_link_50 rfl ?_
              refine G_getR 54 d_Mod_link_51 rfl f_Mod_118 rfl h.sh h.f51 ?_
              refine G_bipushN 84 56 d_Mod_link_54 rfl rfl ?_
              refine G_aload0 57 d_Mod_link_56 rfl ?_
              refine G_getIv 60 d_Mod_link_57 rfl f_Mod_438 rfl h.sh f48 ?_
              first | refine G_imulN 61 d_Mod_link_60 rfl ?_ | refine G_imul 61 d_Mod_link_60 rfl ?_
              refine G_iload3 62 d_Mod_link_61 rfl ?_
              first | refine G_iaddN 63 d_Mod_link_62 rfl ?_ | refine G_iadd 63 d_Mod_link_62 rfl ?_
              refine G_iload1 64 d_Mod_link_63 rfl ?_
              refine G_iconstN 2 65 d_Mod_link_64 rfl rfl ?_
              first | refine G_iceqN 73 68 d_Mod_link_65 rfl rfl (by omega) (by omega) (fun h65 => ?_) (fun h65 => ?_) | refine G_iceq 73 68 d_Mod_link_65 rfl rfl (fun h65 => ?_) (fun h65 => ?_)
              · exact absurd (Or.inl h65) hc
              · refine G_iload1 69 d_Mod_link_68 rfl ?_
                refine G_iconstN 5 70 d_Mod_link_69 rfl rfl ?_
                first | refine G_icneN 87 73 d_Mod_link_70 rfl rfl (by omega) (by omega) (fun h70 => ?_) (fun h70 => ?_) | refine G_icne 87 73 d_Mod_link_70 rfl rfl (fun h70 => ?_) (fun h70 => ?_)
                · refine G_lconst 0 88 d_Mod_link_87 rfl rfl ?_
                  refine G_lastore 89 d_Mod_link_88 rfl h.s51 (ix_nI (by omega) (by omega)) ?_
                  first | refine G_iincN3 92 d_Mod_link_89 rfl (by decide) rfl ?_ | refine G_iinc3 _ 92 d_Mod_link_89 rfl (by decide) rfl rfl ?_
                  refine G_goto 44 d_Mod_link_92 rfl ?_
                  exact nxt_ _ e0
                · exact absurd (Or.inr h70) hc
      refine G_aload0 11 d_Mod_link_10 rfl ?_
      refine G_getIv 14 d_Mod_link_11 rfl f_Mod_438 rfl h.sh f48 ?_
      refine G_bipushN 8 16 d_Mod_link_14 rfl rfl ?_
      first | refine G_icneN 22 19 d_Mod_link_16 rfl rfl (by omega) (by omega) (fun h16 => ?_) (fun h16 => ?_) | refine G_icne 22 19 d_Mod_link_16 rfl rfl (fun h16 => ?_) (fun h16 => ?_)
      · refine G_aload0 23 d_Mod_link_22 rfl ?_
        refine G_getR 26 d_Mod_link_23 rfl f_Mod_112 rfl h.sh h.f49 ?_
        refine G_aload0 27 d_Mod_link_26 rfl ?_
        refine G_getIv 30 d_Mod_link_27 rfl f_Mod_438 rfl h.sh f48 ?_
        refine G_iload1 31 d_Mod_link_30 rfl ?_
        refine G_iastore 32 d_Mod_link_31 rfl h.s49 (ix_nI (by omega) (by omega)) ?_
        refine G_aload0 33 d_Mod_link_32 rfl ?_
        refine G_getR 36 d_Mod_link_33 rfl f_Mod_115 rfl h.sh h.f50 ?_
        refine G_aload0 37 d_Mod_link_36 rfl ?_
        refine G_getIv 40 d_Mod_link_37 rfl f_Mod_438 rfl h.sh f48 ?_
        refine G_iload2 41 d_Mod_link_40 rfl ?_
        refine G_iastore 42 d_Mod_link_41 rfl h.s50 (ix_nI (by omega) (by omega)) ?_
        refine G_iconstN 0 43 d_Mod_link_42 rfl rfl ?_
        refine G_istore3 44 d_Mod_link_43 rfl (by decide) rfl ?_
        exact L 0 (by omega) AL (fun _ _ => rfl) (fun _ _ => rfl) (fun q hq => by omega)
      · exact absurd h16 h8
  · have hb : bLink x n = false := by cases e : bLink x n <;> first | rfl | exact absurd e h2
    simp only [fLink, hb, Bool.false_eq_true, if_false]
    refine G_iconst (-1) 9 d_Mod_link_8 rfl rfl ?_
    refine G_iret d_Mod_link_9 rfl ?_
    exact ⟨rfl, rfl, hI, fM.rf⟩
def fMade (S : ST) (g i w : Int32) : Int64 × ST := if (bN g (gN (tG S)) && bB w (-1) 6 && bN i (gK (tG S) (ni g))) = true then (if w.toInt < 0 then gC (tG S) (ni g) (ni i) else (nI (pw (gR (tG S) (ni g) (ni i)) (ni w))).toInt64, S) else (NOl, S)
def rtF (S : ST) (x y z : Nat) : Nat → Int32
  | 0 => -2
  | m + 1 => if (6 - m) * (x + y + z) ≤ 6 then (if (tRN S (pl ((6 - m) * x) ((6 - m) * y) ((6 - m) * z))).length = 0 then rtF S x y z m else nI (6 - m)) else -2
def fRoot (S : ST) (x y z : Int32) : Int32 × ST := if bT x y z = true then (rtF S (ni x) (ni y) (ni z) 6, S) else (-1, S)
theorem m_made {V : GV} {d b : Nat} {S : ST} {g i w : Int32} {X : XT} {FI AI : FT} {AL : LT} (h : MO X b) (hI : MIv S FI AI AL b) (hW : WS S) : G V m_Mod_made (d + 1) 0 [some (.ref b), some (.int g), some (.int i), some (.int w), none] [] X FI AI AL (fun r X' FI' AI' AL' => r = some (.long (fMade S g i w).1) ∧ X' = X ∧ MIv (fMade S g i w).2 FI' AI' AL' b ∧ fM FI FI' AI AI' AL AL' b) := by
  obtain ⟨hG, hO, hSl, -⟩ := id hI
  have hT := hG.1
  have hn9 := hG.2.1
  have ho := hG.2.2.1
  have hrk := hG.2.2.2.1
  have hn7 := hW.2.1.1
  have hgl := hG.gl hW.2.1
  have hinj := hW.2.1.2.2
  have hl2 : ∀ i, i < gN (tG S) → gL (tG S) i < 84 ∧ 1 ≤ eD (gL (tG S) i) := fun i hi => (hgl i hi).2
  have hlen : ∀ t, t < 84 → (RN (leadL (gL (tG S)) (gN (tG S))) t).length ≤ 120 := fun t ht => by rw [RN, List.length_map]; exact RT_128 hn7 hl2 hinj ht
  have kc : ((-1 : Int64).toInt ≤ w.toInt64.toInt ∧ w.toInt64.toInt ≤ (6 : Int64).toInt) ↔ isB w (-1) 6 := by
    rw [toL]; exact Iff.rfl
  refine G_aload0 1 d_Mod_made_0 rfl ?_
  refine G_iload1 2 d_Mod_made_1 rfl ?_
  refine G_invV1b 5 d_Mod_made_2 rfl e_Mod_287 M_Mod_isGenerator rfl h.sh (Nat.le_of_ble_eq_true rfl) (Nat.le_of_ble_eq_true rfl) rfl (s_mIsGenerator h hn9 hn7) (fun h2 => G_ifeq1 8 d_Mod_made_5 40 rfl rfl ?_) (fun h2 => G_ifeq0 8 d_Mod_made_5 40 rfl rfl ?_)
  · obtain ⟨k, hk, rfl⟩ := h2
    have q1 := bN_t hk (show gN (tG S) < 2 ^ 31 by omega)
    have z1 := ni_nI (show k < 2 ^ 31 by omega)
    obtain ⟨b1, b2, b3, b4⟩ := hG.2.2.2.2 k hk
    have hk86 := (hW.2.1.2.1 k hk).2.2.2.2.1
    refine G_iload3 9 d_Mod_made_8 rfl ?_
    refine G_i2l 10 d_Mod_made_9 rfl ?_
    refine G_ldc2 13 d_Mod_made_10 rfl k_Mod_145 ?_
    refine G_ldc2 16 d_Mod_made_13 rfl k_Mod_137 ?_
    refine G_invS3b 19 d_Mod_made_16 rfl e_Mod_139 M_Mod_in (Nat.le_of_ble_eq_true rfl) (Nat.le_of_ble_eq_true rfl) rfl (s_mIn) (fun h16 => G_ifeq1 22 d_Mod_made_19 40 rfl rfl ?_) (fun h16 => G_ifeq0 22 d_Mod_made_19 40 rfl rfl ?_)
    · have q2 := bB_iff.mpr (kc.mp h16)
      have hb := kc.mp h16
      refine G_iload2 23 d_Mod_made_22 rfl ?_
      refine G_i2l 24 d_Mod_made_23 rfl ?_
      refine G_lconst 0 25 d_Mod_made_24 rfl rfl ?_
      refine G_aload0 26 d_Mod_made_25 rfl ?_
      refine G_getR 29 d_Mod_made_26 rfl f_Mod_40 rfl h.sh h.f11 ?_
      refine G_iload1 30 d_Mod_made_29 rfl ?_
      refine G_ialoadv 31 d_Mod_made_30 rfl h.s11 (ix_nI (by omega) (by omega)) b3 ?_
      refine G_iconstN 1 32 d_Mod_made_31 rfl rfl ?_
      refine G_isub 33 d_Mod_made_32 rfl ?_
      refine G_i2l 34 d_Mod_made_33 rfl ?_
      refine G_invS3b 37 d_Mod_made_34 rfl e_Mod_139 M_Mod_in (Nat.le_of_ble_eq_true rfl) (Nat.le_of_ble_eq_true rfl) rfl (s_mIn) (fun h34 => G_ifne1 40 d_Mod_made_37 44 rfl rfl ?_) (fun h34 => G_ifne0 40 d_Mod_made_37 44 rfl rfl ?_)
      · obtain ⟨l, hl, rfl⟩ := (inL (by omega)).mp h34
        have q3 := bN_t hl (show gK (tG S) k < 2 ^ 31 by omega)
        have z3 := ni_nI (show l < 2 ^ 31 by omega)
        obtain ⟨s1, s2⟩ := b4 l hl
        simp only [fMade, q1, q2, q3, z1, z3, Bool.and_self, if_true]
        refine G_bipushN 86 46 d_Mod_made_44 rfl rfl ?_
        refine G_iload1 47 d_Mod_made_46 rfl ?_
        first | refine G_imulN 48 d_Mod_made_47 rfl ?_ | refine G_imul 48 d_Mod_made_47 rfl ?_
        refine G_iload2 49 d_Mod_made_48 rfl ?_
        first | refine G_iaddN 50 d_Mod_made_49 rfl ?_ | refine G_iadd 50 d_Mod_made_49 rfl ?_
        refine G_istore4 52 d_Mod_made_50 rfl (by decide) rfl ?_
        refine G_iload3 53 d_Mod_made_52 rfl ?_
        refine G_ifge 66 56 d_Mod_made_53 rfl rfl (fun h53 => ?_) (fun h53 => ?_)
        · have hw0 : ¬ w.toInt < 0 := by
            have := h53
            rw [Int32.le_iff_toInt_le] at this
            have z : (0 : Int32).toInt = 0 := rfl
            omega
          obtain ⟨wn, hw1, rfl⟩ : ∃ mm : Nat, mm < 2 ^ 31 ∧ w = nI mm := nI_of (fun e => by rw [lt0_iff] at e; omega)
          have hb2 := hb.2
          rw [nI_toInt hw1] at hb2
          simp only [if_neg hw0, ni_nI hw1]
          refine G_aload0 67 d_Mod_made_66 rfl ?_
          refine G_getR 70 d_Mod_made_67 rfl f_Mod_46 rfl h.sh h.f13 ?_
          refine G_bipushN 7 72 d_Mod_made_70 rfl rfl ?_
          refine G_iload4 74 d_Mod_made_72 rfl ?_
          first | refine G_imulN 75 d_Mod_made_74 rfl ?_ | refine G_imul 75 d_Mod_made_74 rfl ?_
          refine G_iload3 76 d_Mod_made_75 rfl ?_
          first | refine G_iaddN 77 d_Mod_made_76 rfl ?_ | refine G_iadd 77 d_Mod_made_76 rfl ?_
          refine G_ialoadv 78 d_Mod_made_77 rfl h.s13 (ix_nI (by omega) (by omega)) (s2 wn (by omega)) ?_
          refine G_i2l 79 d_Mod_made_78 rfl ?_
          refine G_lret d_Mod_made_79 rfl ?_
          exact ⟨rfl, rfl, hI, fM.rf⟩
        · have hw0 : w.toInt < 0 := by
            have := h53
            rw [Int32.le_iff_toInt_le] at this
            have z : (0 : Int32).toInt = 0 := rfl
            omega
          simp only [if_pos hw0]
          refine G_aload0 57 d_Mod_made_56 rfl ?_
          refine G_getR 60 d_Mod_made_57 rfl f_Mod_43 rfl h.sh h.f12 ?_
          refine G_iload4 62 d_Mod_made_60 rfl ?_
          refine G_laloadv 63 d_Mod_made_62 rfl h.s12 (ix_nI (by omega) (by omega)) s1 ?_
          refine G_goto 79 d_Mod_made_63 rfl ?_
          refine G_lret d_Mod_made_79 rfl ?_
          exact ⟨rfl, rfl, hI, fM.rf⟩
      · have q3 := bN_f (fun e => h34 ((inL (by omega)).mpr e)) (show gK (tG S) k < 2 ^ 31 by omega)
        simp only [fMade, z1, q3, Bool.and_false, Bool.false_eq_true, if_false]
        refine G_ldc2 43 d_Mod_made_40 rfl k_Mod_235 ?_
        refine G_lret d_Mod_made_43 rfl ?_
        exact ⟨rfl, rfl, hI, fM.rf⟩
    · have q2 := bB_f (fun e => h16 (kc.mpr e))
      simp only [fMade, q2, Bool.and_false, Bool.false_and, Bool.false_eq_true, if_false]
      refine G_ldc2 43 d_Mod_made_40 rfl k_Mod_235 ?_
      refine G_lret d_Mod_made_43 rfl ?_
      exact ⟨rfl, rfl, hI, fM.rf⟩
  · have q1 := bN_f h2 (show gN (tG S) < 2 ^ 31 by omega)
    simp only [fMade, q1, Bool.false_and, Bool.false_eq_true, if_false]
    refine G_ldc2 43 d_Mod_made_40 rfl k_Mod_235 ?_
    refine G_lret d_Mod_made_43 rfl ?_
    exact ⟨rfl, rfl, hI, fM.rf⟩
theorem m_root {V : GV} {d b : Nat} {S : ST} {x y z : Int32} {X : XT} {FI AI : FT} {AL : LT} (h : MO X b) (hI : MIv S FI AI AL b) (hW : WS S) : G V m_Mod_root (d + 3) 0 [some (.ref b), some (.int x), some (.int y), some (.int z), none] [] X FI AI AL (fun r X' FI' AI' AL' => r = some (.int (fRoot S x y z).1) ∧ X' = X ∧ MIv (fRoot S x y z).2 FI' AI' AL' b ∧ fM FI FI' AI AI' AL AL' b) := by
  obtain ⟨hG, hO, hSl, -⟩ := id hI
  have hT := hG.1
  have hn9 := hG.2.1
  have ho := hG.2.2.1
  have hrk := hG.2.2.2.1
  have hn7 := hW.2.1.1
  have hgl := hG.gl hW.2.1
  have hinj := hW.2.1.2.2
  have hl2 : ∀ i, i < gN (tG S) → gL (tG S) i < 84 ∧ 1 ≤ eD (gL (tG S) i) := fun i hi => (hgl i hi).2
  have hlen : ∀ t, t < 84 → (RN (leadL (gL (tG S)) (gN (tG S))) t).length ≤ 120 := fun t ht => by rw [RN, List.length_map]; exact RT_128 hn7 hl2 hinj ht
  refine G_iload1 1 d_Mod_root_0 rfl ?_
  refine G_iload2 2 d_Mod_root_1 rfl ?_
  refine G_iload3 3 d_Mod_root_2 rfl ?_
  refine G_invS3b 6 d_Mod_root_3 rfl e_Mod_190 M_Mod_isTerm (Nat.le_of_ble_eq_true rfl) (Nat.le_of_ble_eq_true rfl) rfl (s_mIsTerm) (fun h3 => G_ifne1 9 d_Mod_root_6 11 rfl rfl ?_) (fun h3 => G_ifne0 9 d_Mod_root_6 11 rfl rfl ?_)
  · obtain ⟨p, p', p'', hs, rfl, rfl, rfl⟩ := h3
    have q2 := bT_t hs
    simp only [fRoot, q2, ni_nI (show p < 2 ^ 31 by omega), ni_nI (show p' < 2 ^ 31 by omega), ni_nI (show p'' < 2 ^ 31 by omega), if_true]
    have L : ∀ m, m ≤ 6 → ∀ (FJ AJ : FT), nrF FI FJ AI AJ b → G V m_Mod_root (d + 3) 14 [some (.ref b), some (.int (nI p)), some (.int (nI p')), some (.int (nI p'')), some (.int (nI (7 - m)))] [] X FJ AJ AL (fun r X' FI' AI' AL' => r = some (.int (rtF S p p' p'' m)) ∧ X' = X ∧ MIv S FI' AI' AL' b ∧ fM FI FI' AI AI' AL AL' b) := by
      refine downto ?_ ?_
      · intro _ FJ AJ hF
        refine G_iload4 16 d_Mod_root_14 rfl ?_
        refine G_bipushN 6 18 d_Mod_root_16 rfl rfl ?_
        first | refine G_icgtN 75 21 d_Mod_root_18 rfl rfl (by omega) (by omega) (fun h18 => ?_) (fun h18 => ?_) | refine G_icgt 75 21 d_Mod_root_18 rfl rfl (fun h18 => ?_) (fun h18 => ?_)
        · refine G_bipush (-2) 77 d_Mod_root_75 rfl rfl ?_
          refine G_iret d_Mod_root_77 rfl ?_
          exact ⟨rfl, rfl, hI.nr hF, hF.fm⟩
        · omega
      · intro m ih hm FJ AJ hF
        rw [show 7 - (m + 1) = 6 - m by omega, rtF]
        have hb1 : (6 - m) * (p + p' + p'') ≤ 6 * 6 := Nat.mul_le_mul (by omega) hs
        have hmul : (6 - m) * (p + p' + p'') = (6 - m) * p + (6 - m) * p' + (6 - m) * p'' := by rw [Nat.mul_add, Nat.mul_add]
        have fn : FJ b 9 = nI (gN (tG S)) := by rw [hF.1 b 9 (by omega)]; exact hn9
        have hTJ := hT.nr hF
        refine G_iload4 16 d_Mod_root_14 rfl ?_
        refine G_bipushN 6 18 d_Mod_root_16 rfl rfl ?_
        first | refine G_icgtN 75 21 d_Mod_root_18 rfl rfl (by omega) (by omega) (fun h18 => ?_) (fun h18 => ?_) | refine G_icgt 75 21 d_Mod_root_18 rfl rfl (fun h18 => ?_) (fun h18 => ?_)
        · omega
        · refine G_iload4 23 d_Mod_root_21 rfl ?_
          refine G_iload1 24 d_Mod_root_23 rfl ?_
          refine G_iload2 25 d_Mod_root_24 rfl ?_
          first | refine G_iaddN 26 d_Mod_root_25 rfl ?_ | refine G_iadd 26 d_Mod_root_25 rfl ?_
          refine G_iload3 27 d_Mod_root_26 rfl ?_
          first | refine G_iaddN 28 d_Mod_root_27 rfl ?_ | refine G_iadd 28 d_Mod_root_27 rfl ?_
          first | refine G_imulN 29 d_Mod_root_28 rfl ?_ | refine G_imul 29 d_Mod_root_28 rfl ?_
          refine G_bipushN 6 31 d_Mod_root_29 rfl rfl ?_
          first | refine G_icgtN 75 34 d_Mod_root_31 rfl rfl (by omega) (by omega) (fun h31 => ?_) (fun h31 => ?_) | refine G_icgt 75 34 d_Mod_root_31 rfl rfl (fun h31 => ?_) (fun h31 => ?_)
          · have hno : ¬ (6 - m) * (p + p' + p'') ≤ 6 := by omega
            simp only [if_neg hno]
            refine G_bipush (-2) 77 d_Mod_root_75 rfl rfl ?_
            refine G_iret d_Mod_root_77 rfl ?_
            exact ⟨rfl, rfl, hI.nr hF, hF.fm⟩
          · have hyes : (6 - m) * (p + p' + p'') ≤ 6 := by omega
            simp only [if_pos hyes]
            have hp := pl_lt (x := (6 - m) * p) (y := (6 - m) * p') (z := (6 - m) * p'') (by omega)
            have hlay := s_mLayTo (V := V) (d := d) (lim := 1) (FI := FJ) (AL := AL) h hTJ hp hn7 (by omega) (by omega) (hgl.nr hF)
            refine G_aload0 35 d_Mod_root_34 rfl ?_
            refine G_aload0 36 d_Mod_root_35 rfl ?_
            refine G_iload4 38 d_Mod_root_36 rfl ?_
            refine G_iload1 39 d_Mod_root_38 rfl ?_
            first | refine G_imulN 40 d_Mod_root_39 rfl ?_ | refine G_imul 40 d_Mod_root_39 rfl ?_
            refine G_iload4 42 d_Mod_root_40 rfl ?_
            refine G_iload2 43 d_Mod_root_42 rfl ?_
            first | refine G_imulN 44 d_Mod_root_43 rfl ?_ | refine G_imul 44 d_Mod_root_43 rfl ?_
            refine G_iload4 46 d_Mod_root_44 rfl ?_
            refine G_iload3 47 d_Mod_root_46 rfl ?_
            first | refine G_imulN 48 d_Mod_root_47 rfl ?_ | refine G_imul 48 d_Mod_root_47 rfl ?_
            refine G_invV3d 51 d_Mod_root_48 rfl e_Mod_176 M_Mod_termOf rfl h.sh (Nat.le_of_ble_eq_true rfl) (Nat.le_of_ble_eq_true rfl) rfl (s_mTermOf (by assumption) (by assumption) (by omega)) ?_
            refine G_aload0 52 d_Mod_root_51 rfl ?_
            refine G_getIv 55 d_Mod_root_52 rfl f_Mod_133 rfl h.sh fn ?_
            refine G_iconstN 1 56 d_Mod_root_55 rfl rfl ?_
            refine G_invV3 59 d_Mod_root_56 rfl e_Mod_315 M_Mod_layRowsTo rfl h.sh (Nat.le_of_ble_eq_true rfl) (Nat.le_of_ble_eq_true rfl) rfl (G.conseq (hlay) (fun r56 X56 FI56 AI56 AL56 h56 => ?_))
            obtain ⟨r1, r2, r3, r4, r5⟩ := h56
            replace r2 := r2.symm
            replace r3 := r3.symm
            subst r1 r2 r3 r4
            have hF2 := hF.tr (nrF.ln (FI := FJ) (v := nI (List.take 1 (RN (leadL (gL (tG S)) (gN (tG S))) (pl ((6 - m) * p) ((6 - m) * p') ((6 - m) * p'')))).length) r5)
            have fr : u2 FJ b 30 (nI (List.take 1 (RN (leadL (gL (tG S)) (gN (tG S))) (pl ((6 - m) * p) ((6 - m) * p') ((6 - m) * p'')))).length) b 30 = nI (List.take 1 (RN (leadL (gL (tG S)) (gN (tG S))) (pl ((6 - m) * p) ((6 - m) * p') ((6 - m) * p'')))).length := u2_at _ _ _ _
            by_cases hz : (tRN S (pl ((6 - m) * p) ((6 - m) * p') ((6 - m) * p''))).length = 0
            · simp only [if_pos hz]
              have hl0 : (List.take 1 (RN (leadL (gL (tG S)) (gN (tG S))) (pl ((6 - m) * p) ((6 - m) * p') ((6 - m) * p'')))).length = 0 := by rw [List.length_take, hz]; rfl
              rw [hl0] at fr hF2 ⊢
              refine G_aload0 60 d_Mod_root_59 rfl ?_
              refine G_getIv 63 d_Mod_root_60 rfl f_Mod_301 rfl h.sh fr ?_
              refine G_ifle 69 66 d_Mod_root_63 rfl rfl (fun h63 => ?_) (fun h63 => ?_)
              · first | refine G_iincN4 72 d_Mod_root_69 rfl (by decide) rfl ?_ | refine G_iinc4 _ 72 d_Mod_root_69 rfl (by decide) rfl rfl ?_
                refine G_goto 14 d_Mod_root_72 rfl ?_
                rw [show 6 - m + 1 = 7 - m by omega]
                exact ih (by omega) _ _ hF2
              · exact absurd (by decide) h63
            · simp only [if_neg hz]
              have hl0 : (List.take 1 (RN (leadL (gL (tG S)) (gN (tG S))) (pl ((6 - m) * p) ((6 - m) * p') ((6 - m) * p'')))).length = 1 := by
                rw [List.length_take]
                have : ¬ (RN (leadL (gL (tG S)) (gN (tG S))) (pl ((6 - m) * p) ((6 - m) * p') ((6 - m) * p''))).length = 0 := hz
                omega
              rw [hl0] at fr hF2 ⊢
              refine G_aload0 60 d_Mod_root_59 rfl ?_
              refine G_getIv 63 d_Mod_root_60 rfl f_Mod_301 rfl h.sh fr ?_
              refine G_ifle 69 66 d_Mod_root_63 rfl rfl (fun h63 => ?_) (fun h63 => ?_)
              · exact absurd h63 (by decide)
              · refine G_iload4 68 d_Mod_root_66 rfl ?_
                refine G_iret d_Mod_root_68 rfl ?_
                exact ⟨rfl, rfl, hI.nr hF2, hF2.fm⟩
    refine G_iconstN 1 12 d_Mod_root_11 rfl rfl ?_
    refine G_istore4 14 d_Mod_root_12 rfl (by decide) rfl ?_
    exact L 6 (by omega) FI AI nrF.rf
  · have q2 := bT_f h3
    simp only [fRoot, q2, Bool.false_eq_true, if_false]
    refine G_iconst (-1) 10 d_Mod_root_9 rfl rfl ?_
    refine G_iret d_Mod_root_10 rfl ?_
    exact ⟨rfl, rfl, hI, fM.rf⟩
