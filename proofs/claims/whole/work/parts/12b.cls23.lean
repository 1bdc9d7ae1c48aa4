/-! ===== the class: move ===== -/
theorem s_holds {V : GV} {d s c z : Nat} {i n : Int32} {X : XT} {FI AI : FT} {AL : LT} (h : SH X s c) (hz : FI s 1 = nI z) (z40 : z ≤ 40) : G V m_Sheet_holds d 0 [some (.ref s), some (.int i), some (.int n)] [] X FI AI AL (P01 (0 ≤ n.toInt ∧ 0 ≤ i.toInt ∧ n.toInt + i.toInt ≤ (z : Int)) X FI AI AL) := by
  have h0 := h.1
  refine G_iload2 1 d_Sheet_holds_0 rfl ?_
  first | refine G_ifltD 30 4 d_Sheet_holds_1 rfl rfl (by omega) (fun h1 => ?_) (fun j h1 => ?_) | refine G_iflt 30 4 d_Sheet_holds_1 rfl rfl (fun h1 => ?_) (fun h1 => ?_)
  · refine G_iconst (0) 31 d_Sheet_holds_30 rfl rfl ?_
    refine G_zret d_Sheet_holds_31 rfl ?_ ?_
    · first | exact Or.inl rfl | exact Or.inr rfl
    · exact P01.f (fun e => (nn_iff.mpr e.1) h1)
  · obtain ⟨m, hm, rfl⟩ := nI_of h1
    refine G_iload1 5 d_Sheet_holds_4 rfl ?_
    first | refine G_ifltD 30 8 d_Sheet_holds_5 rfl rfl (by omega) (fun h5 => ?_) (fun j h5 => ?_) | refine G_iflt 30 8 d_Sheet_holds_5 rfl rfl (fun h5 => ?_) (fun h5 => ?_)
    · refine G_iconst (0) 31 d_Sheet_holds_30 rfl rfl ?_
      refine G_zret d_Sheet_holds_31 rfl ?_ ?_
      · first | exact Or.inl rfl | exact Or.inr rfl
      · exact P01.f (fun e => (nn_iff.mpr e.2.1) h5)
    · obtain ⟨j, hj, rfl⟩ := nI_of h5
      rw [nI_toInt hm, nI_toInt hj]
      refine G_iload1 9 d_Sheet_holds_8 rfl ?_
      refine G_aload0 10 d_Sheet_holds_9 rfl ?_
      refine G_getIv 13 d_Sheet_holds_10 rfl f_Sheet_13 rfl (by assumption) hz ?_
      first | refine G_icgtN 30 16 d_Sheet_holds_13 rfl rfl (by omega) (by omega) (fun h13 => ?_) (fun h13 => ?_) | refine G_icgt 30 16 d_Sheet_holds_13 rfl rfl (fun h13 => ?_) (fun h13 => ?_)
      · refine G_iconst (0) 31 d_Sheet_holds_30 rfl rfl ?_
        refine G_zret d_Sheet_holds_31 rfl ?_ ?_
        · first | exact Or.inl rfl | exact Or.inr rfl
        · exact P01.f (fun e => by omega)
      · refine G_iload2 17 d_Sheet_holds_16 rfl ?_
        refine G_aload0 18 d_Sheet_holds_17 rfl ?_
        refine G_getIv 21 d_Sheet_holds_18 rfl f_Sheet_13 rfl (by assumption) hz ?_
        refine G_iload1 22 d_Sheet_holds_21 rfl ?_
        refine G_isub 23 d_Sheet_holds_22 rfl ?_
        refine G_icgt 30 26 d_Sheet_holds_23 rfl rfl (fun h23 => ?_) (fun h23 => ?_)
        · rw [Int32.lt_iff_toInt_lt, mvS z40 hj, nI_toInt hm] at h23
          refine G_iconst (0) 31 d_Sheet_holds_30 rfl rfl ?_
          refine G_zret d_Sheet_holds_31 rfl ?_ ?_
          · first | exact Or.inl rfl | exact Or.inr rfl
          · exact P01.f (fun e => by omega)
        · rw [Int32.lt_iff_toInt_lt, mvS z40 hj, nI_toInt hm] at h23
          refine G_iconst (1) 27 d_Sheet_holds_26 rfl rfl ?_
          refine G_goto 31 d_Sheet_holds_27 rfl ?_
          refine G_zret d_Sheet_holds_31 rfl ?_ ?_
          · first | exact Or.inl rfl | exact Or.inr rfl
          · exact P01.t (by omega)
theorem c_move {V : GV} {d lo C E : Nat} {S : ST} {a i c j m : Int32} {X : XT} {FI AI : FT} {AL : LT} (h : CO X lo) (hI : CIv C E S X FI AI AL lo) (hW : WS S) : G V m_Alg_move (d + 2) 0 [some (.ref lo), some (.int a), some (.int i), some (.int c), some (.int j), some (.int m), none, none] [] X FI AI AL (fun r X' FI' AI' AL' => r = some (.int (fMove S a i c j m).1) ∧ CO X' lo ∧ CIv C E (fMove S a i c j m).2 X' FI' AI' AL' lo ∧ cF X X' FI FI' AI AI' AL AL' lo) := by
  refine G_iload1 1 d_Alg_move_0 rfl ?_
  refine G_invS1b 4 d_Alg_move_1 rfl e_Alg_214 M_Alg_isSheet (Nat.le_of_ble_eq_true rfl) (Nat.le_of_ble_eq_true rfl) rfl (s_isSheet) (fun h1 => G_ifeq1 7 d_Alg_move_4 14 rfl rfl ?_) (fun h1 => G_ifeq0 7 d_Alg_move_4 14 rfl rfl ?_)
  · obtain ⟨k, hk, rfl⟩ := h1
    have qk := bN_t hk (show 4 < 2 ^ 31 by omega)
    have zk := ni_nI (show k < 2 ^ 31 by omega)
    obtain ⟨ark, pok⟩ := h.shs hk
    have psk := pok.1
    have pfk := pok.2.1
    have prk := pok.2.2
    obtain ⟨sok, sik, cek⟩ := hI.2.2.2.2.2.2.2.1 k hk
    have wsk := hW.2.2.2.2.1 k hk
    have s4k : (tH S).2.1 k ≤ 40 := by
      rcases wsk with ⟨-, e⟩ | ⟨-, e⟩ <;> omega
    refine G_iload3 8 d_Alg_move_7 rfl ?_
    refine G_invS1b 11 d_Alg_move_8 rfl e_Alg_214 M_Alg_isSheet (Nat.le_of_ble_eq_true rfl) (Nat.le_of_ble_eq_true rfl) rfl (s_isSheet) (fun h8 => G_ifne1 14 d_Alg_move_11 16 rfl rfl ?_) (fun h8 => G_ifne0 14 d_Alg_move_11 16 rfl rfl ?_)
    · obtain ⟨l, hl, rfl⟩ := h8
      have ql := bN_t hl (show 4 < 2 ^ 31 by omega)
      have zl := ni_nI (show l < 2 ^ 31 by omega)
      obtain ⟨arl, pol⟩ := h.shs hl
      have psl := pol.1
      have pfl := pol.2.1
      have prl := pol.2.2
      obtain ⟨sol, sil, cel⟩ := hI.2.2.2.2.2.2.2.1 l hl
      have wsl := hW.2.2.2.2.1 l hl
      have s4l : (tH S).2.1 l ≤ 40 := by
        rcases wsl with ⟨-, e⟩ | ⟨-, e⟩ <;> omega
      simp only [fMove, qk, ql, zk, zl, Bool.and_self, if_true]
      refine G_aload0 17 d_Alg_move_16 rfl ?_
      refine G_getR 20 d_Alg_move_17 rfl f_Alg_54 rfl h.sh h.f6 ?_
      refine G_iload1 21 d_Alg_move_20 rfl ?_
      refine G_aaload 22 d_Alg_move_21 rfl h.s6 (by decide) (by decide) (ix_nI (by omega) (by omega)) (by assumption) ?_
      refine G_astore6 24 d_Alg_move_22 rfl (by decide) rfl ?_
      refine G_aload0 25 d_Alg_move_24 rfl ?_
      refine G_getR 28 d_Alg_move_25 rfl f_Alg_54 rfl h.sh h.f6 ?_
      refine G_iload3 29 d_Alg_move_28 rfl ?_
      refine G_aaload 30 d_Alg_move_29 rfl h.s6 (by decide) (by decide) (ix_nI (by omega) (by omega)) (by assumption) ?_
      refine G_astore7 32 d_Alg_move_30 rfl (by decide) rfl ?_
      refine G_aload6 34 d_Alg_move_32 rfl ?_
      refine G_invV0b 37 d_Alg_move_34 rfl e_Alg_217 M_Sheet_isMissing rfl (by assumption) (Nat.le_of_ble_eq_true rfl) (Nat.le_of_ble_eq_true rfl) rfl (s_isMissing (by assumption)) (fun h34 => G_ifne1 40 d_Alg_move_37 48 rfl rfl ?_) (fun h34 => G_ifne0 40 d_Alg_move_37 48 rfl rfl ?_)
      · rw [sok] at h34
        simp only [if_pos (Or.inl h34 : (tH S).1 k = -1 ∨ (tH S).1 l = -1)]
        refine G_bipush (-11) 50 d_Alg_move_48 rfl rfl ?_
        refine G_iret d_Alg_move_50 rfl ?_
        exact ⟨rfl, h, hI, cF.rf⟩
      · rw [sok] at h34
        refine G_aload7 42 d_Alg_move_40 rfl ?_
        refine G_invV0b 45 d_Alg_move_42 rfl e_Alg_217 M_Sheet_isMissing rfl (by assumption) (Nat.le_of_ble_eq_true rfl) (Nat.le_of_ble_eq_true rfl) rfl (s_isMissing (by assumption)) (fun h42 => G_ifeq1 48 d_Alg_move_45 51 rfl rfl ?_) (fun h42 => G_ifeq0 48 d_Alg_move_45 51 rfl rfl ?_)
        · rw [sol] at h42
          simp only [if_pos (Or.inr h42 : (tH S).1 k = -1 ∨ (tH S).1 l = -1)]
          refine G_bipush (-11) 50 d_Alg_move_48 rfl rfl ?_
          refine G_iret d_Alg_move_50 rfl ?_
          exact ⟨rfl, h, hI, cF.rf⟩
        · rw [sol] at h42
          have hno : ¬ ((tH S).1 k = -1 ∨ (tH S).1 l = -1) := fun e => e.elim h34 h42
          simp only [if_neg hno]
          have hk1 := s_holds (V := V) (d := d + 1) (i := i) (n := m) (AI := AI) (AL := AL) pok sik s4k
          have hk2 := s_holds (V := V) (d := d + 1) (i := j) (n := m) (AI := AI) (AL := AL) pol sil s4l
          refine G_aload6 53 d_Alg_move_51 rfl ?_
          refine G_getIv 56 d_Alg_move_53 rfl f_Alg_388 rfl (by assumption) sok ?_
          refine G_aload7 58 d_Alg_move_56 rfl ?_
          refine G_getIv 61 d_Alg_move_58 rfl f_Alg_388 rfl (by assumption) sol ?_
          first | refine G_iceqN 67 64 d_Alg_move_61 rfl rfl (by omega) (by omega) (fun h61 => ?_) (fun h61 => ?_) | refine G_iceq 67 64 d_Alg_move_61 rfl rfl (fun h61 => ?_) (fun h61 => ?_)
          · have hs' : ¬ ¬ (tH S).1 k = (tH S).1 l := fun e => e h61
            simp only [if_neg hs']
            refine G_aload6 69 d_Alg_move_67 rfl ?_
            refine G_iload2 70 d_Alg_move_69 rfl ?_
            refine G_iload5 72 d_Alg_move_70 rfl ?_
            refine G_invV2b 75 d_Alg_move_72 rfl e_Alg_391 M_Sheet_holds rfl (by assumption) (Nat.le_of_ble_eq_true rfl) (Nat.le_of_ble_eq_true rfl) rfl (hk1) (fun h72 => G_ifeq1 78 d_Alg_move_75 90 rfl rfl ?_) (fun h72 => G_ifeq0 78 d_Alg_move_75 90 rfl rfl ?_)
            · refine G_aload7 80 d_Alg_move_78 rfl ?_
              refine G_iload4 82 d_Alg_move_80 rfl ?_
              refine G_iload5 84 d_Alg_move_82 rfl ?_
              refine G_invV2b 87 d_Alg_move_84 rfl e_Alg_391 M_Sheet_holds rfl (by assumption) (Nat.le_of_ble_eq_true rfl) (Nat.le_of_ble_eq_true rfl) rfl (hk2) (fun h84 => G_ifne1 90 d_Alg_move_87 93 rfl rfl ?_) (fun h84 => G_ifne0 90 d_Alg_move_87 93 rfl rfl ?_)
              · have hc : (0 ≤ m.toInt ∧ 0 ≤ i.toInt ∧ 0 ≤ j.toInt ∧ m.toInt + i.toInt ≤ ((tH S).2.1 k : Int) ∧ m.toInt + j.toInt ≤ ((tH S).2.1 l : Int)) := ⟨h72.1, h72.2.1, h84.2.1, h72.2.2, h84.2.2⟩
                simp only [if_pos hc]
                obtain ⟨n, hn, rfl⟩ := nI_of (nn_iff.mpr h72.1)
                obtain ⟨p, hp, rfl⟩ := nI_of (nn_iff.mpr h72.2.1)
                obtain ⟨q, hq, rfl⟩ := nI_of (nn_iff.mpr h84.2.1)
                rw [nI_toInt hn, nI_toInt hp, nI_toInt hq] at hc
                rw [ni_nI hn, ni_nI hp, ni_nI hq]
                have b1 : p + n ≤ 40 := by omega
                have b2 : q + n ≤ 40 := by omega
                clear hc
                have hH : CSh (mvH (tH S) k p l q n) FI (cp2 AI (lo + 79 + 2 * k) p (lo + 79 + 2 * l) q n) lo := by
                  intro i hi
                  obtain ⟨e1, e2, e3⟩ := hI.2.2.2.2.2.2.2.1 i hi
                  refine ⟨e1, e2, fun y hy => ?_⟩
                  show _ = if i = l ∧ q ≤ y ∧ y < q + n then (tH S).2.2 k (p + (y - q)) else (tH S).2.2 i y
                  by_cases e : i = l
                  · subst e
                    rw [cp2_row, va_cpy]
                    by_cases e4 : q ≤ y ∧ y < q + n
                    · rw [if_pos e4, if_pos ⟨rfl, e4⟩]
                      exact cek _ (by omega)
                    · rw [if_neg e4, if_neg (fun e => e4 e.2)]
                      exact e3 y hy
                  · rw [cp2_off _ (by omega), if_neg (fun z => e z.1)]
                    exact e3 y hy
                obtain ⟨r1, r2⟩ := hI.sh (fun _ _ => rfl) (fun c hc => cp2_off _ (by omega)) hH hW
                refine G_aload6 95 d_Alg_move_93 rfl ?_
                refine G_getR 98 d_Alg_move_95 rfl f_Alg_385 rfl (by assumption) (by assumption) ?_
                refine G_iload2 99 d_Alg_move_98 rfl ?_
                refine G_aload7 101 d_Alg_move_99 rfl ?_
                refine G_getR 104 d_Alg_move_101 rfl f_Alg_385 rfl (by assumption) (by assumption) ?_
                refine G_iload4 106 d_Alg_move_104 rfl ?_
                refine G_iload5 108 d_Alg_move_106 rfl ?_
                refine G_copyI 111 d_Alg_move_108 rfl e_Alg_394 prk prl (by omega) (by omega) (by omega) (by omega) (Nat.le_of_ble_eq_true rfl) ?_
                refine G_iload5 113 d_Alg_move_111 rfl ?_
                refine G_iret d_Alg_move_113 rfl ?_
                exact ⟨rfl, h, r1, r2⟩
              · have hc : ¬ (0 ≤ m.toInt ∧ 0 ≤ i.toInt ∧ 0 ≤ j.toInt ∧ m.toInt + i.toInt ≤ ((tH S).2.1 k : Int) ∧ m.toInt + j.toInt ≤ ((tH S).2.1 l : Int)) := fun e => h84 ⟨e.1, e.2.2.1, e.2.2.2.2⟩
                simp only [if_neg hc]
                refine G_bipush (-12) 92 d_Alg_move_90 rfl rfl ?_
                refine G_iret d_Alg_move_92 rfl ?_
                exact ⟨rfl, h, hI, cF.rf⟩
            · have hc : ¬ (0 ≤ m.toInt ∧ 0 ≤ i.toInt ∧ 0 ≤ j.toInt ∧ m.toInt + i.toInt ≤ ((tH S).2.1 k : Int) ∧ m.toInt + j.toInt ≤ ((tH S).2.1 l : Int)) := fun e => h72 ⟨e.1, e.2.1, e.2.2.2.1⟩
              simp only [if_neg hc]
              refine G_bipush (-12) 92 d_Alg_move_90 rfl rfl ?_
              refine G_iret d_Alg_move_92 rfl ?_
              exact ⟨rfl, h, hI, cF.rf⟩
          · simp only [if_pos h61]
            refine G_bipush (-13) 66 d_Alg_move_64 rfl rfl ?_
            refine G_iret d_Alg_move_66 rfl ?_
            exact ⟨rfl, h, hI, cF.rf⟩
    · have q1 := bN_f h8 (show 4 < 2 ^ 31 by omega)
      simp only [fMove, q1, Bool.false_and, Bool.and_false, Bool.false_eq_true, if_false]
      refine G_iconst (-1) 15 d_Alg_move_14 rfl rfl ?_
      refine G_iret d_Alg_move_15 rfl ?_
      exact ⟨rfl, h, hI, cF.rf⟩
  · have q1 := bN_f h1 (show 4 < 2 ^ 31 by omega)
    simp only [fMove, q1, Bool.false_and, Bool.and_false, Bool.false_eq_true, if_false]
    refine G_iconst (-1) 15 d_Alg_move_14 rfl rfl ?_
    refine G_iret d_Alg_move_15 rfl ?_
    exact ⟨rfl, h, hI, cF.rf⟩
theorem spA_full {f : Nat → Int64} {o sz a : Nat} {so : Int32} {q : Nat × (Nat → Int32)} (hq : ¬ a + 4 * q.1 + 4 ≤ sz) : ∀ m, spA f o so sz a m q = q
  | 0 => rfl
  | m + 1 => by rw [spA, if_neg (fun e => hq e.2)]; exact spA_full hq m
theorem low_e : ∀ e, e < 7 → (nI e).toInt64.toInt32.toInt8.toInt32 = nI e ∧ (nI e).toInt64.toInt32 = nI e := by decide +kernel
theorem low_n {so : Int32} {e : Nat} (h : e ≤ 6) : low so (nI e).toInt64 = nI e := by
  unfold low
  split
  · exact (low_e e (by omega)).1
  · exact (low_e e (by omega)).2
theorem CSh.up {H : (Nat → Int32) × (Nat → Nat) × (Nat → Nat → Int32)} {FI AI : FT} {lo k w : Nat} {g : Nat → Int32} {v v' : Int32} (h : CSh (H.1, H.2.1, upn H.2.2 k g) FI AI lo) (e0 : v' = v) : CSh (H.1, H.2.1, upn H.2.2 k (upn g w v)) FI (u2 AI (lo + 79 + 2 * k) w v') lo := by
  subst e0
  intro i hi
  obtain ⟨b1, b2, b3⟩ := h i hi
  refine ⟨b1, b2, fun j hj => ?_⟩
  have b4 := b3 j hj
  show _ = upn H.2.2 k (upn g w v') i j
  by_cases e : i = k
  · subst e
    rw [upn_at]
    by_cases e2 : j = w
    · subst e2; rw [u2_at, upn_at]
    · rw [u2_ix _ _ e2, upn_ne _ _ e2, b4]
      show upn H.2.2 i g i j = _
      rw [upn_at]
  · rw [u2_off _ _ _ (by omega), upn_ne _ _ e, b4]
    show upn H.2.2 k g i j = _
    rw [upn_ne _ _ e]
theorem c_spread {V : GV} {d lo C E : Nat} {S : ST} {s x a : Int32} {X : XT} {FI AI : FT} {AL : LT} (h : CO X lo) (hI : CIv C E S X FI AI AL lo) (hW : WS S) : G V m_Alg_spread (d + 3) 0 [some (.ref lo), some (.int s), some (.int x), some (.int a), none, none, none, none, none] [] X FI AI AL (fun r X' FI' AI' AL' => r = some (.int (fSpread S s x a).1) ∧ CO X' lo ∧ CIv C E (fSpread S s x a).2 X' FI' AI' AL' lo ∧ cF X X' FI FI' AI AI' AL AL' lo) := by
  have ho := hW.1
  have rks := h.rk
  have rk1 := h.s1
  have hod := hI.2.1.2
  refine G_iload1 1 d_Alg_spread_0 rfl ?_
  refine G_invS1b 4 d_Alg_spread_1 rfl e_Alg_119 M_Alg_isSlot (Nat.le_of_ble_eq_true rfl) (Nat.le_of_ble_eq_true rfl) rfl (s_isSlot) (fun h1 => G_ifeq1 7 d_Alg_spread_4 14 rfl rfl ?_) (fun h1 => G_ifeq0 7 d_Alg_spread_4 14 rfl rfl ?_)
  · obtain ⟨k, hk, rfl⟩ := h1
    have qk := bN_t hk (show 6 < 2 ^ 31 by omega)
    have zk := ni_nI (show k < 2 ^ 31 by omega)
    obtain ⟨ark, pok⟩ := h.sl hk
    have psk := pok.1
    have ek := hI.1 k hk
    refine G_iload2 8 d_Alg_spread_7 rfl ?_
    refine G_invS1b 11 d_Alg_spread_8 rfl e_Alg_214 M_Alg_isSheet (Nat.le_of_ble_eq_true rfl) (Nat.le_of_ble_eq_true rfl) rfl (s_isSheet) (fun h8 => G_ifne1 14 d_Alg_spread_11 16 rfl rfl ?_) (fun h8 => G_ifne0 14 d_Alg_spread_11 16 rfl rfl ?_)
    · obtain ⟨l, hl, rfl⟩ := h8
      have ql := bN_t hl (show 4 < 2 ^ 31 by omega)
      have zl := ni_nI (show l < 2 ^ 31 by omega)
      obtain ⟨arl, pol⟩ := h.shs hl
      have psl := pol.1
      have pfl := pol.2.1
      have prl := pol.2.2
      obtain ⟨sol, sil, cel⟩ := hI.2.2.2.2.2.2.2.1 l hl
      have wsl := hW.2.2.2.2.1 l hl
      have s4l : (tH S).2.1 l ≤ 40 := by
        rcases wsl with ⟨-, e⟩ | ⟨-, e⟩ <;> omega
      simp only [fSpread, qk, ql, zk, zl, Bool.and_self, if_true]
      refine G_aload0 17 d_Alg_spread_16 rfl ?_
      refine G_getR 20 d_Alg_spread_17 rfl f_Alg_54 rfl h.sh h.f6 ?_
      refine G_iload2 21 d_Alg_spread_20 rfl ?_
      refine G_aaload 22 d_Alg_spread_21 rfl h.s6 (by decide) (by decide) (ix_nI (by omega) (by omega)) (by assumption) ?_
      refine G_astore4 24 d_Alg_spread_22 rfl (by decide) rfl ?_
      refine G_aload4 26 d_Alg_spread_24 rfl ?_
      refine G_invV0b 29 d_Alg_spread_26 rfl e_Alg_217 M_Sheet_isMissing rfl (by assumption) (Nat.le_of_ble_eq_true rfl) (Nat.le_of_ble_eq_true rfl) rfl (s_isMissing (by assumption)) (fun h26 => G_ifeq1 32 d_Alg_spread_29 35 rfl rfl ?_) (fun h26 => G_ifeq0 32 d_Alg_spread_29 35 rfl rfl ?_)
      · rw [sol] at h26
        simp only [if_pos h26]
        refine G_bipush (-11) 34 d_Alg_spread_32 rfl rfl ?_
        refine G_iret d_Alg_spread_34 rfl ?_
        exact ⟨rfl, h, hI, cF.rf⟩
      · rw [sol] at h26
        simp only [if_neg h26]
        have nop : ¬ isN a ((tH S).2.1 l + 1) → (if bN a ((tH S).2.1 l + 1) = true then (nI (spR S k l (ni a)).1, stH S ((tH S).1, (tH S).2.1, upn (tH S).2.2 l (spR S k l (ni a)).2)) else (-12, S)) = (-12, S) := fun e => by
          rw [bN_f e (show (tH S).2.1 l + 1 < 2 ^ 31 by omega), if_neg (by decide)]
        refine G_iload3 36 d_Alg_spread_35 rfl ?_
        first | refine G_ifltD 48 39 d_Alg_spread_36 rfl rfl (by omega) (fun h36 => ?_) (fun j h36 => ?_) | refine G_iflt 48 39 d_Alg_spread_36 rfl rfl (fun h36 => ?_) (fun h36 => ?_)
        · rw [nop (fun e => by obtain ⟨j, hj, rfl⟩ := e; exact absurd h36 (nI_pos (by omega)))]
          refine G_bipush (-12) 50 d_Alg_spread_48 rfl rfl ?_
          refine G_iret d_Alg_spread_50 rfl ?_
          exact ⟨rfl, h, hI, cF.rf⟩
        · obtain ⟨a, ha31, rfl⟩ := nI_of h36
          refine G_iload3 40 d_Alg_spread_39 rfl ?_
          refine G_aload4 42 d_Alg_spread_40 rfl ?_
          refine G_getIv 45 d_Alg_spread_42 rfl f_Alg_225 rfl (by assumption) sil ?_
          first | refine G_icleN 51 48 d_Alg_spread_45 rfl rfl (by omega) (by omega) (fun h45 => ?_) (fun h45 => ?_) | refine G_icle 51 48 d_Alg_spread_45 rfl rfl (fun h45 => ?_) (fun h45 => ?_)
          · have ha : a < (tH S).2.1 l + 1 := by omega
            have q3 := bN_t ha (show (tH S).2.1 l + 1 < 2 ^ 31 by omega)
            have z3 := ni_nI (show a < 2 ^ 31 by omega)
            simp only [q3, z3, if_true]
            have fin : ∀ (q : Nat × (Nat → Int32)) (AJ : FT), (∀ c, c ≠ lo + 79 + 2 * l → AJ c = AI c) → CSh ((tH S).1, (tH S).2.1, upn (tH S).2.2 l q.2) FI AJ lo → CIv C E (stH S ((tH S).1, (tH S).2.1, upn (tH S).2.2 l q.2)) X FI AJ AL lo ∧ cF X X FI FI AI AJ AL AL lo := fun q AJ k1 k2 => hI.sh (fun _ _ => rfl) (fun c hc => k1 c (by omega)) k2 hW
            have L : ∀ m, m ≤ 84 → ∀ (q : Nat × (Nat → Int32)) (AJ : FT) (v8 : Option Value), (∀ c, c ≠ lo + 79 + 2 * l → AJ c = AI c) → CSh ((tH S).1, (tH S).2.1, upn (tH S).2.2 l q.2) FI AJ lo → a + 4 * q.1 ≤ (tH S).2.1 l → spA (tS S k) (tO S) ((tH S).1 l) ((tH S).2.1 l) a m q = (spR S k l a) → G V m_Alg_spread (d + 3) 61 [some (.ref lo), some (.int (nI k)), some (.int (nI l)), some (.int (nI a)), some (.ref (lo + 78 + 2 * l)), some (.int (nI q.1)), some (.int (nI (a + 4 * q.1))), some (.int (dI m)), v8] [] X FI AJ AL (fun r X' FI' AI' AL' => r = some (.int (nI (spR S k l a).1)) ∧ CO X' lo ∧ CIv C E (stH S ((tH S).1, (tH S).2.1, upn (tH S).2.2 l (spR S k l a).2)) X' FI' AI' AL' lo ∧ cF X X' FI FI' AI AI' AL AL' lo) := by
              refine downto ?_ ?_
              · intro _ q AJ v8 k1 k2 k3 k4
                rw [spA] at k4
                subst k4
                obtain ⟨r1, r2⟩ := fin _ AJ k1 k2
                refine G_iload7 63 d_Alg_spread_61 rfl ?_
                first | refine G_ifltD 186 66 d_Alg_spread_63 rfl rfl (by omega) (fun h63 => ?_) (fun j h63 => ?_) | refine G_iflt 186 66 d_Alg_spread_63 rfl rfl (fun h63 => ?_) (fun h63 => ?_)
                · refine G_iload5 188 d_Alg_spread_186 rfl ?_
                  refine G_iret d_Alg_spread_188 rfl ?_
                  exact ⟨rfl, h, r1, r2⟩
                · omega
              · intro m ih hm q AJ v8 k1 k2 k3 k4
                rw [spA] at k4
                have rkl := (rk_ok (tO S) ho m (by omega)).2.2.1
                have er : AJ (lo + 3) m = nI (rk (tO S) m) := by rw [k1 _ (by omega)]; exact hod m (by omega)
                have ev : AL (lo + 67 + 2 * k) (rk (tO S) m) = tS S k (rk (tO S) m) := by rw [ek]
                have e0 : FI (lo + 78 + 2 * l) 0 = (tH S).1 l := sol
                rw [dI_s]
                refine G_iload7 63 d_Alg_spread_61 rfl ?_
                first | refine G_ifltD 186 66 d_Alg_spread_63 rfl rfl (by omega) (fun h63 => ?_) (fun j h63 => ?_) | refine G_iflt 186 66 d_Alg_spread_63 rfl rfl (fun h63 => ?_) (fun h63 => ?_)
                · exact absurd h63 (nI_pos (by omega))
                · refine G_iload6 68 d_Alg_spread_66 rfl ?_
                  refine G_iconstN 4 69 d_Alg_spread_68 rfl rfl ?_
                  first | refine G_iaddN 70 d_Alg_spread_69 rfl ?_ | refine G_iadd 70 d_Alg_spread_69 rfl ?_
                  refine G_aload4 72 d_Alg_spread_70 rfl ?_
                  refine G_getIv 75 d_Alg_spread_72 rfl f_Alg_225 rfl (by assumption) sil ?_
                  first | refine G_icgtN 186 78 d_Alg_spread_75 rfl rfl (by omega) (by omega) (fun h75 => ?_) (fun h75 => ?_) | refine G_icgt 186 78 d_Alg_spread_75 rfl rfl (fun h75 => ?_) (fun h75 => ?_)
                  · have hf : ¬ a + 4 * q.1 + 4 ≤ (tH S).2.1 l := by omega
                    rw [if_neg (fun e => hf e.2), spA_full hf] at k4
                    subst k4
                    obtain ⟨r1, r2⟩ := fin _ AJ k1 k2
                    refine G_iload5 188 d_Alg_spread_186 rfl ?_
                    refine G_iret d_Alg_spread_188 rfl ?_
                    exact ⟨rfl, h, r1, r2⟩
                  · have hf : a + 4 * q.1 + 4 ≤ (tH S).2.1 l := by omega
                    refine G_aload0 79 d_Alg_spread_78 rfl ?_
                    refine G_getR 82 d_Alg_spread_79 rfl f_Alg_20 rfl h.sh h.f1 ?_
                    refine G_getR 85 d_Alg_spread_82 rfl f_Alg_226 rfl h.s1 rks.2.1 ?_
                    refine G_iload7 87 d_Alg_spread_85 rfl ?_
                    refine G_ialoadv 88 d_Alg_spread_87 rfl rks.2.2 (ix_nI (by omega) (by omega)) er ?_
                    refine G_istore8 90 d_Alg_spread_88 rfl (by decide) rfl ?_
                    refine G_aload0 91 d_Alg_spread_90 rfl ?_
                    refine G_getR 94 d_Alg_spread_91 rfl f_Alg_13 rfl h.sh h.f0 ?_
                    refine G_iload1 95 d_Alg_spread_94 rfl ?_
                    refine G_aaload 96 d_Alg_spread_95 rfl h.s0 (by decide) (by decide) (ix_nI (by omega) (by omega)) (by assumption) ?_
                    refine G_getR 99 d_Alg_spread_96 rfl f_Alg_148 rfl (by assumption) pok.2.1 ?_
                    refine G_iload8 101 d_Alg_spread_99 rfl ?_
                    refine G_laloadv 102 d_Alg_spread_101 rfl pok.2.2 (ix_nI (by omega) (by omega)) ev ?_
                    refine G_lconst 0 103 d_Alg_spread_102 rfl rfl ?_
                    refine G_lceq 180 107 d_Alg_spread_103 d_Alg_spread_104 rfl rfl (fun h103 => ?_) (fun h103 => ?_)
                    · rw [if_neg (fun e => e.1 h103)] at k4
                      first | refine G_iinc7 _ 183 d_Alg_spread_180 rfl (by decide) rfl (dI_m1 _) ?_ | refine G_iinc7 _ 183 d_Alg_spread_180 rfl (by decide) rfl rfl ?_
                      refine G_goto 61 d_Alg_spread_183 rfl ?_
                      exact ih (by omega) q AJ _ k1 k2 k3 k4
                    · rw [if_pos ⟨h103, hf⟩] at k4
                      have l0 := e_le rkl
                      refine G_aload4 109 d_Alg_spread_107 rfl ?_
                      refine G_iload6 111 d_Alg_spread_109 rfl ?_
                      refine G_aload0 112 d_Alg_spread_111 rfl ?_
                      refine G_getR 115 d_Alg_spread_112 rfl f_Alg_13 rfl h.sh h.f0 ?_
                      refine G_iload1 116 d_Alg_spread_115 rfl ?_
                      refine G_aaload 117 d_Alg_spread_116 rfl h.s0 (by decide) (by decide) (ix_nI (by omega) (by omega)) (by assumption) ?_
                      refine G_getR 120 d_Alg_spread_117 rfl f_Alg_148 rfl (by assumption) pok.2.1 ?_
                      refine G_iload8 122 d_Alg_spread_120 rfl ?_
                      refine G_laloadv 123 d_Alg_spread_122 rfl pok.2.2 (ix_nI (by omega) (by omega)) ev ?_
                      refine G_invV2v 126 d_Alg_spread_123 rfl e_Alg_229 M_Sheet_put rfl (by assumption) (Nat.le_of_ble_eq_true rfl) (Nat.le_of_ble_eq_true rfl) rfl (s_sheetPut (by assumption) (by omega)) ?_
                      refine G_aload4 128 d_Alg_spread_126 rfl ?_
                      refine G_iload6 130 d_Alg_spread_128 rfl ?_
                      refine G_iconstN 1 131 d_Alg_spread_130 rfl rfl ?_
                      first | refine G_iaddN 132 d_Alg_spread_131 rfl ?_ | refine G_iadd 132 d_Alg_spread_131 rfl ?_
                      refine G_iload8 134 d_Alg_spread_132 rfl ?_
                      refine G_iconstN 0 135 d_Alg_spread_134 rfl rfl ?_
                      refine G_invS2d 138 d_Alg_spread_135 rfl e_Alg_203 M_Terms_exponent (Nat.le_of_ble_eq_true rfl) (Nat.le_of_ble_eq_true rfl) rfl (s_exponent (by omega) (by omega)) ?_
                      refine G_i2l 139 d_Alg_spread_138 rfl ?_
                      refine G_invV2v 142 d_Alg_spread_139 rfl e_Alg_229 M_Sheet_put rfl (by assumption) (Nat.le_of_ble_eq_true rfl) (Nat.le_of_ble_eq_true rfl) rfl (s_sheetPut (by assumption) (by omega)) ?_
                      refine G_aload4 144 d_Alg_spread_142 rfl ?_
                      refine G_iload6 146 d_Alg_spread_144 rfl ?_
                      refine G_iconstN 2 147 d_Alg_spread_146 rfl rfl ?_
                      first | refine G_iaddN 148 d_Alg_spread_147 rfl ?_ | refine G_iadd 148 d_Alg_spread_147 rfl ?_
                      refine G_iload8 150 d_Alg_spread_148 rfl ?_
                      refine G_iconstN 1 151 d_Alg_spread_150 rfl rfl ?_
                      refine G_invS2d 154 d_Alg_spread_151 rfl e_Alg_203 M_Terms_exponent (Nat.le_of_ble_eq_true rfl) (Nat.le_of_ble_eq_true rfl) rfl (s_exponent (by omega) (by omega)) ?_
                      refine G_i2l 155 d_Alg_spread_154 rfl ?_
                      refine G_invV2v 158 d_Alg_spread_155 rfl e_Alg_229 M_Sheet_put rfl (by assumption) (Nat.le_of_ble_eq_true rfl) (Nat.le_of_ble_eq_true rfl) rfl (s_sheetPut (by assumption) (by omega)) ?_
                      refine G_aload4 160 d_Alg_spread_158 rfl ?_
                      refine G_iload6 162 d_Alg_spread_160 rfl ?_
                      refine G_iconstN 3 163 d_Alg_spread_162 rfl rfl ?_
                      first | refine G_iaddN 164 d_Alg_spread_163 rfl ?_ | refine G_iadd 164 d_Alg_spread_163 rfl ?_
                      refine G_iload8 166 d_Alg_spread_164 rfl ?_
                      refine G_iconstN 2 167 d_Alg_spread_166 rfl rfl ?_
                      refine G_invS2d 170 d_Alg_spread_167 rfl e_Alg_203 M_Terms_exponent (Nat.le_of_ble_eq_true rfl) (Nat.le_of_ble_eq_true rfl) rfl (s_exponent (by omega) (by omega)) ?_
                      refine G_i2l 171 d_Alg_spread_170 rfl ?_
                      refine G_invV2v 174 d_Alg_spread_171 rfl e_Alg_229 M_Sheet_put rfl (by assumption) (Nat.le_of_ble_eq_true rfl) (Nat.le_of_ble_eq_true rfl) rfl (s_sheetPut (by assumption) (by omega)) ?_
                      first | refine G_iinc6 _ 177 d_Alg_spread_174 rfl (by decide) rfl (nI_add _ 4) ?_ | refine G_iinc6 _ 177 d_Alg_spread_174 rfl (by decide) rfl rfl ?_
                      first | refine G_iincN5 180 d_Alg_spread_177 rfl (by decide) rfl ?_ | refine G_iinc5 _ 180 d_Alg_spread_177 rfl (by decide) rfl rfl ?_
                      first | refine G_iinc7 _ 183 d_Alg_spread_180 rfl (by decide) rfl (dI_m1 _) ?_ | refine G_iinc7 _ 183 d_Alg_spread_180 rfl (by decide) rfl rfl ?_
                      refine G_goto 61 d_Alg_spread_183 rfl ?_
                      refine ih (by omega) (_, _) _ _ (fun c hc => by rw [u2_off _ _ _ hc, u2_off _ _ _ hc, u2_off _ _ _ hc, u2_off _ _ _ hc]; exact k1 c hc) ((((k2.up (by rw [e0])).up (by rw [e0]; exact low_n l0.1)).up (by rw [e0]; exact low_n l0.2.1)).up (by rw [e0]; exact low_n l0.2.2.1)) (by show a + 4 * (q.1 + 1) ≤ _; omega) k4
            refine G_iconstN 0 52 d_Alg_spread_51 rfl rfl ?_
            refine G_istore5 54 d_Alg_spread_52 rfl (by decide) rfl ?_
            refine G_iload3 55 d_Alg_spread_54 rfl ?_
            refine G_istore6 57 d_Alg_spread_55 rfl (by decide) rfl ?_
            refine G_bipushN 83 59 d_Alg_spread_57 rfl rfl ?_
            refine G_istore7 61 d_Alg_spread_59 rfl (by decide) rfl ?_
            refine L 84 (Nat.le_refl _) (0, (tH S).2.2 l) AI _ (fun _ _ => rfl) ?_ (by show a + 4 * 0 ≤ _; omega) rfl
            intro i hi
            obtain ⟨b1, b2, b3⟩ := hI.2.2.2.2.2.2.2.1 i hi
            refine ⟨b1, b2, fun j hj => ?_⟩
            rw [b3 j hj]
            show _ = upn (tH S).2.2 l ((tH S).2.2 l) i j
            by_cases e : i = l
            · subst e; rw [upn_at]
            · rw [upn_ne _ _ e]
          · rw [nop (fun e => by obtain ⟨j, hj, e2⟩ := e; have := (nI_eq (by omega) (by omega)).mp e2; omega)]
            refine G_bipush (-12) 50 d_Alg_spread_48 rfl rfl ?_
            refine G_iret d_Alg_spread_50 rfl ?_
            exact ⟨rfl, h, hI, cF.rf⟩
    · have q1 := bN_f h8 (show 4 < 2 ^ 31 by omega)
      simp only [fSpread, q1, Bool.false_and, Bool.and_false, Bool.false_eq_true, if_false]
      refine G_iconst (-1) 15 d_Alg_spread_14 rfl rfl ?_
      refine G_iret d_Alg_spread_15 rfl ?_
      exact ⟨rfl, h, hI, cF.rf⟩
  · have q1 := bN_f h1 (show 6 < 2 ^ 31 by omega)
    simp only [fSpread, q1, Bool.false_and, Bool.and_false, Bool.false_eq_true, if_false]
    refine G_iconst (-1) 15 d_Alg_spread_14 rfl rfl ?_
    refine G_iret d_Alg_spread_15 rfl ?_
    exact ⟨rfl, h, hI, cF.rf⟩
