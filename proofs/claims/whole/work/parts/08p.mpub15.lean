/-! ===== the reference: closed ===== -/
def anU (p : Nat → Bool) : Nat → Bool
  | 0 => false
  | k + 1 => anU p k || p k
def alU (p : Nat → Bool) : Nat → Bool
  | 0 => true
  | k + 1 => alU p k && p k
/-- a generator's turn is a generator -/
def clG (g : GT) (k i : Nat) : Bool := anU (fun q => lkB (trn (gP g i) k) (gP g q)) (gN g)
def clA (g : GT) : Nat → Int32
  | 0 => nI 0
  | k + 1 => clA g k ||| (if alU (clG g k) (gN g) = true then nI 1 <<< (nI k &&& 31) else nI 0)
def fClosed (S : ST) : Int32 × ST := (clA (tG S) 6, S)
theorem m_closed {V : GV} {d b : Nat} {S : ST} {X : XT} {FI AI : FT} {AL : LT} (h : MO X b) (hI : MIv S FI AI AL b) (hW : WS S) : G V m_Mod_closed (d + 3) 0 [some (.ref b), none, none, none, none, none, none] [] X FI AI AL (fun r X' FI' AI' AL' => r = some (.int (fClosed S).1) ∧ X' = X ∧ MIv (fClosed S).2 FI' AI' AL' b ∧ fM FI FI' AI AI' AL AL' b) := by
  obtain ⟨hG, hO, hSl, -⟩ := id hI
  have hT := hG.1
  have hn9 := hG.2.1
  have ho := hG.2.2.1
  have hrk := hG.2.2.2.1
  have hn7 := hW.2.1.1
  have hgp : ∀ q, q < gN (tG S) → mp AL b (6 + q) = gP (tG S) q := fun q hq => (hG.2.2.2.2 q hq).2.1
  show G V m_Mod_closed (d + 3) 0 _ [] X FI AI AL (fun r X' FI' AI' AL' => r = some (.int (clA (tG S) 6)) ∧ X' = X ∧ MIv S FI' AI' AL' b ∧ fM FI FI' AI AI' AL AL' b)
  have L : ∀ k, k ≤ 6 → ∀ AJ : LT, (∀ c, c ≠ b + 1 → AJ c = AL c) → (∀ p, p < 13 → mp AJ b p = mp AL b p) → ∀ v3 v4 v5 v6 : Option Value, G V m_Mod_closed (d + 3) 4 [some (.ref b), some (.int (clA (tG S) k)), some (.int (nI k)), v3, v4, v5, v6] [] X FI AI AJ (fun r X' FI' AI' AL' => r = some (.int (clA (tG S) 6)) ∧ X' = X ∧ MIv S FI' AI' AL' b ∧ fM FI FI' AI AI' AL AL' b) := by
    refine upto ?_ ?_
    · intro AJ k1 k2 v3 v4 v5 v6
      refine G_iload2 5 d_Mod_closed_4 rfl ?_
      refine G_bipushN 6 7 d_Mod_closed_5 rfl rfl ?_
      first | refine G_icgeN 124 10 d_Mod_closed_7 rfl rfl (by omega) (by omega) (fun h7 => ?_) (fun h7 => ?_) | refine G_icge 124 10 d_Mod_closed_7 rfl rfl (fun h7 => ?_) (fun h7 => ?_)
      · refine G_iload1 125 d_Mod_closed_124 rfl ?_
        refine G_iret d_Mod_closed_125 rfl ?_
        exact ⟨rfl, rfl, hI.wk hW k1 k2, fM.al k1⟩
      · omega
    · intro k hk nx AJ k1 k2 v3 v4 v5 v6
      have M : ∀ i, i ≤ gN (tG S) → ∀ AJ : LT, (∀ c, c ≠ b + 1 → AJ c = AL c) → (∀ p, p < 13 → mp AJ b p = mp AL b p) → ∀ w : Nat, w = (if alU (clG (tG S) k) i = true then 1 else 0) → ∀ v5 v6 : Option Value, G V m_Mod_closed (d + 3) 15 [some (.ref b), some (.int (clA (tG S) k)), some (.int (nI k)), some (.int (nI w)), some (.int (nI i)), v5, v6] [] X FI AI AJ (fun r X' FI' AI' AL' => r = some (.int (clA (tG S) 6)) ∧ X' = X ∧ MIv S FI' AI' AL' b ∧ fM FI FI' AI AI' AL AL' b) := by
        refine upto ?_ ?_
        · intro AJ k1 k2 w hw v5 v6
          have nx' := nx AJ k1 k2
          rw [clA] at nx'
          refine G_iload4 17 d_Mod_closed_15 rfl ?_
          refine G_aload0 18 d_Mod_closed_17 rfl ?_
          refine G_getIv 21 d_Mod_closed_18 rfl f_Mod_133 rfl h.sh hn9 ?_
          first | refine G_icgeN 104 24 d_Mod_closed_21 rfl rfl (by omega) (by omega) (fun h21 => ?_) (fun h21 => ?_) | refine G_icge 104 24 d_Mod_closed_21 rfl rfl (fun h21 => ?_) (fun h21 => ?_)
          · cases e : alU (clG (tG S) k) (gN (tG S)) with
            | true =>
              rw [e, if_pos rfl] at hw nx'
              subst hw
              refine G_iload1 105 d_Mod_closed_104 rfl ?_
              refine G_iload3 106 d_Mod_closed_105 rfl ?_
              refine G_ifeq 115 109 d_Mod_closed_106 rfl rfl (fun h106 => ?_) (fun h106 => ?_)
              · exact absurd h106 (by decide)
              · refine G_iconstN 1 110 d_Mod_closed_109 rfl rfl ?_
                refine G_iload2 111 d_Mod_closed_110 rfl ?_
                refine G_ishl 112 d_Mod_closed_111 rfl ?_
                refine G_goto 116 d_Mod_closed_112 rfl ?_
                refine G_ior 117 d_Mod_closed_116 rfl ?_
                refine G_istore1 118 d_Mod_closed_117 rfl (by decide) rfl ?_
                first | refine G_iincN2 121 d_Mod_closed_118 rfl (by decide) rfl ?_ | refine G_iinc2 _ 121 d_Mod_closed_118 rfl (by decide) rfl rfl ?_
                refine G_goto 4 d_Mod_closed_121 rfl ?_
                exact nx' _ _ _ _
            | false =>
              rw [e, if_neg (by decide)] at hw nx'
              subst hw
              refine G_iload1 105 d_Mod_closed_104 rfl ?_
              refine G_iload3 106 d_Mod_closed_105 rfl ?_
              refine G_ifeq 115 109 d_Mod_closed_106 rfl rfl (fun h106 => ?_) (fun h106 => ?_)
              · refine G_iconstN 0 116 d_Mod_closed_115 rfl rfl ?_
                refine G_ior 117 d_Mod_closed_116 rfl ?_
                refine G_istore1 118 d_Mod_closed_117 rfl (by decide) rfl ?_
                first | refine G_iincN2 121 d_Mod_closed_118 rfl (by decide) rfl ?_ | refine G_iinc2 _ 121 d_Mod_closed_118 rfl (by decide) rfl rfl ?_
                refine G_goto 4 d_Mod_closed_121 rfl ?_
                exact nx' _ _ _ _
              · exact absurd rfl h106
          · omega
        · intro i hi ih AJ k1 k2 w hw v5 v6
          have e13 : mp (sp AJ b 13 (trn (mp AJ b (6 + i)) k)) b 13 = trn (gP (tG S) i) k := by rw [mp_sp, k2 _ (by omega), hgp i hi, cu_trn]
          have j1 : ∀ c, c ≠ b + 1 → sp AJ b 13 (trn (mp AJ b (6 + i)) k) c = AL c := fun c hc => by rw [sp_off hc]; exact k1 c hc
          have j2 : ∀ p, p < 13 → mp (sp AJ b 13 (trn (mp AJ b (6 + i)) k)) b p = mp AL b p := fun p hp => by rw [mp_spn (by omega)]; exact k2 p hp
          have I : ∀ q, q ≤ gN (tG S) → ∀ v : Nat, v = (if anU (fun q => lkB (trn (gP (tG S) i) k) (gP (tG S) q)) q = true then 1 else 0) → G V m_Mod_closed (d + 3) 42 [some (.ref b), some (.int (clA (tG S) k)), some (.int (nI k)), some (.int (nI w)), some (.int (nI i)), some (.int (nI v)), some (.int (nI q))] [] X FI AI (sp AJ b 13 (trn (mp AJ b (6 + i)) k)) (fun r X' FI' AI' AL' => r = some (.int (clA (tG S) 6)) ∧ X' = X ∧ MIv S FI' AI' AL' b ∧ fM FI FI' AI AI' AL AL' b) := by
            refine upto ?_ ?_
            · intro v hv
              have ih' := ih _ j1 j2
              have hv' : v = (if clG (tG S) k i = true then 1 else 0) := hv
              rw [alU] at ih'
              clear hv
              refine G_iload6 44 d_Mod_closed_42 rfl ?_
              refine G_aload0 45 d_Mod_closed_44 rfl ?_
              refine G_getIv 48 d_Mod_closed_45 rfl f_Mod_133 rfl h.sh hn9 ?_
              first | refine G_icgeN 83 51 d_Mod_closed_48 rfl rfl (by omega) (by omega) (fun h48 => ?_) (fun h48 => ?_) | refine G_icge 83 51 d_Mod_closed_48 rfl rfl (fun h48 => ?_) (fun h48 => ?_)
              · cases e : alU (clG (tG S) k) i with
                | true =>
                  rw [e, if_pos rfl] at hw
                  rw [e, Bool.true_and] at ih'
                  subst hw
                  cases e2 : clG (tG S) k i with
                  | true =>
                    rw [e2, if_pos rfl] at hv' ih'
                    subst hv'
                    refine G_iload3 84 d_Mod_closed_83 rfl ?_
                    refine G_ifeq 96 87 d_Mod_closed_84 rfl rfl (fun h84 => ?_) (fun h84 => ?_)
                    · exact absurd h84 (by decide)
                    · refine G_iload5 89 d_Mod_closed_87 rfl ?_
                      refine G_ifeq 96 92 d_Mod_closed_89 rfl rfl (fun h89 => ?_) (fun h89 => ?_)
                      · exact absurd h89 (by decide)
                      · refine G_iconstN 1 93 d_Mod_closed_92 rfl rfl ?_
                        refine G_goto 97 d_Mod_closed_93 rfl ?_
                        refine G_istore3 98 d_Mod_closed_97 rfl (by decide) rfl ?_
                        first | refine G_iincN4 101 d_Mod_closed_98 rfl (by decide) rfl ?_ | refine G_iinc4 _ 101 d_Mod_closed_98 rfl (by decide) rfl rfl ?_
                        refine G_goto 15 d_Mod_closed_101 rfl ?_
                        exact ih' 1 rfl _ _
                  | false =>
                    rw [e2, if_neg (by decide)] at hv' ih'
                    subst hv'
                    refine G_iload3 84 d_Mod_closed_83 rfl ?_
                    refine G_ifeq 96 87 d_Mod_closed_84 rfl rfl (fun h84 => ?_) (fun h84 => ?_)
                    · exact absurd h84 (by decide)
                    · refine G_iload5 89 d_Mod_closed_87 rfl ?_
                      refine G_ifeq 96 92 d_Mod_closed_89 rfl rfl (fun h89 => ?_) (fun h89 => ?_)
                      · refine G_iconstN 0 97 d_Mod_closed_96 rfl rfl ?_
                        refine G_istore3 98 d_Mod_closed_97 rfl (by decide) rfl ?_
                        first | refine G_iincN4 101 d_Mod_closed_98 rfl (by decide) rfl ?_ | refine G_iinc4 _ 101 d_Mod_closed_98 rfl (by decide) rfl rfl ?_
                        refine G_goto 15 d_Mod_closed_101 rfl ?_
                        exact ih' 0 rfl _ _
                      · exact absurd rfl h89
                | false =>
                  rw [e, if_neg (by decide)] at hw
                  rw [e, Bool.false_and, if_neg (by decide)] at ih'
                  subst hw
                  refine G_iload3 84 d_Mod_closed_83 rfl ?_
                  refine G_ifeq 96 87 d_Mod_closed_84 rfl rfl (fun h84 => ?_) (fun h84 => ?_)
                  · refine G_iconstN 0 97 d_Mod_closed_96 rfl rfl ?_
                    refine G_istore3 98 d_Mod_closed_97 rfl (by decide) rfl ?_
                    first | refine G_iincN4 101 d_Mod_closed_98 rfl (by decide) rfl ?_ | refine G_iinc4 _ 101 d_Mod_closed_98 rfl (by decide) rfl rfl ?_
                    refine G_goto 15 d_Mod_closed_101 rfl ?_
                    exact ih' 0 rfl _ _
                  · exact absurd rfl h84
              · omega
            · intro q hq ih2 v hv
              have e6 : mp (sp AJ b 13 (trn (mp AJ b (6 + i)) k)) b (6 + q) = gP (tG S) q := by rw [j2 _ (by omega), hgp q hq]
              rw [anU] at ih2
              refine G_iload6 44 d_Mod_closed_42 rfl ?_
              refine G_aload0 45 d_Mod_closed_44 rfl ?_
              refine G_getIv 48 d_Mod_closed_45 rfl f_Mod_133 rfl h.sh hn9 ?_
              first | refine G_icgeN 83 51 d_Mod_closed_48 rfl rfl (by omega) (by omega) (fun h48 => ?_) (fun h48 => ?_) | refine G_icge 83 51 d_Mod_closed_48 rfl rfl (fun h48 => ?_) (fun h48 => ?_)
              · omega
              · cases e : anU (fun q => lkB (trn (gP (tG S) i) k) (gP (tG S) q)) q with
                | true =>
                  rw [e, if_pos rfl] at hv
                  rw [e, Bool.true_or, if_pos rfl] at ih2
                  subst hv
                  refine G_iload5 53 d_Mod_closed_51 rfl ?_
                  refine G_ifne 70 56 d_Mod_closed_53 rfl rfl (fun h53 => ?_) (fun h53 => ?_)
                  · refine G_iconstN 1 71 d_Mod_closed_70 rfl rfl ?_
                    refine G_goto 75 d_Mod_closed_71 rfl ?_
                    refine G_istore5 77 d_Mod_closed_75 rfl (by decide) rfl ?_
                    first | refine G_iincN6 80 d_Mod_closed_77 rfl (by decide) rfl ?_ | refine G_iinc6 _ 80 d_Mod_closed_77 rfl (by decide) rfl rfl ?_
                    refine G_goto 42 d_Mod_closed_80 rfl ?_
                    exact ih2 1 rfl
                  · exact absurd h53 (by decide)
                | false =>
                  rw [e, if_neg (by decide)] at hv
                  rw [e, Bool.false_or] at ih2
                  subst hv
                  refine G_iload5 53 d_Mod_closed_51 rfl ?_
                  refine G_ifne 70 56 d_Mod_closed_53 rfl rfl (fun h53 => ?_) (fun h53 => ?_)
                  · exact absurd rfl h53
                  · refine G_aload0 57 d_Mod_closed_56 rfl ?_
                    refine G_bipushN 13 59 d_Mod_closed_57 rfl rfl ?_
                    refine G_bipushN 6 61 d_Mod_closed_59 rfl rfl ?_
                    refine G_iload6 63 d_Mod_closed_61 rfl ?_
                    first | refine G_iaddN 64 d_Mod_closed_63 rfl ?_ | refine G_iadd 64 d_Mod_closed_63 rfl ?_
                    refine G_invV2b 67 d_Mod_closed_64 rfl e_Mod_232 M_Mod_areSame rfl h.sh (Nat.le_of_ble_eq_true rfl) (Nat.le_of_ble_eq_true rfl) rfl (s_mSame (by assumption) (by omega) (by omega)) (fun h64 => G_ifeq1 70 d_Mod_closed_67 74 rfl rfl ?_) (fun h64 => G_ifeq0 70 d_Mod_closed_67 74 rfl rfl ?_)
                    · rw [e13, e6] at h64
                      rw [if_pos (lkB_iff.mpr h64)] at ih2
                      refine G_iconstN 1 71 d_Mod_closed_70 rfl rfl ?_
                      refine G_goto 75 d_Mod_closed_71 rfl ?_
                      refine G_istore5 77 d_Mod_closed_75 rfl (by decide) rfl ?_
                      first | refine G_iincN6 80 d_Mod_closed_77 rfl (by decide) rfl ?_ | refine G_iinc6 _ 80 d_Mod_closed_77 rfl (by decide) rfl rfl ?_
                      refine G_goto 42 d_Mod_closed_80 rfl ?_
                      exact ih2 1 rfl
                    · rw [e13, e6] at h64
                      rw [if_neg (fun e => h64 (lkB_iff.mp e))] at ih2
                      refine G_iconstN 0 75 d_Mod_closed_74 rfl rfl ?_
                      refine G_istore5 77 d_Mod_closed_75 rfl (by decide) rfl ?_
                      first | refine G_iincN6 80 d_Mod_closed_77 rfl (by decide) rfl ?_ | refine G_iinc6 _ 80 d_Mod_closed_77 rfl (by decide) rfl rfl ?_
                      refine G_goto 42 d_Mod_closed_80 rfl ?_
                      exact ih2 0 rfl
          refine G_iload4 17 d_Mod_closed_15 rfl ?_
          refine G_aload0 18 d_Mod_closed_17 rfl ?_
          refine G_getIv 21 d_Mod_closed_18 rfl f_Mod_133 rfl h.sh hn9 ?_
          first | refine G_icgeN 104 24 d_Mod_closed_21 rfl rfl (by omega) (by omega) (fun h21 => ?_) (fun h21 => ?_) | refine G_icge 104 24 d_Mod_closed_21 rfl rfl (fun h21 => ?_) (fun h21 => ?_)
          · omega
          · refine G_aload0 25 d_Mod_closed_24 rfl ?_
            refine G_bipushN 6 27 d_Mod_closed_25 rfl rfl ?_
            refine G_iload4 29 d_Mod_closed_27 rfl ?_
            first | refine G_iaddN 30 d_Mod_closed_29 rfl ?_ | refine G_iadd 30 d_Mod_closed_29 rfl ?_
            refine G_iload2 31 d_Mod_closed_30 rfl ?_
            refine G_bipushN 13 33 d_Mod_closed_31 rfl rfl ?_
            refine G_invV3v 36 d_Mod_closed_33 rfl e_Mod_229 M_Mod_turnTo rfl h.sh (Nat.le_of_ble_eq_true rfl) (Nat.le_of_ble_eq_true rfl) rfl (s_mTurnTo (by assumption) (by assumption) (by omega) (by omega) (by omega) (by omega)) ?_
            refine G_iconstN 0 37 d_Mod_closed_36 rfl rfl ?_
            refine G_istore5 39 d_Mod_closed_37 rfl (by decide) rfl ?_
            refine G_iconstN 0 40 d_Mod_closed_39 rfl rfl ?_
            refine G_istore6 42 d_Mod_closed_40 rfl (by decide) rfl ?_
            exact I 0 (by omega) 0 rfl
      refine G_iload2 5 d_Mod_closed_4 rfl ?_
      refine G_bipushN 6 7 d_Mod_closed_5 rfl rfl ?_
      first | refine G_icgeN 124 10 d_Mod_closed_7 rfl rfl (by omega) (by omega) (fun h7 => ?_) (fun h7 => ?_) | refine G_icge 124 10 d_Mod_closed_7 rfl rfl (fun h7 => ?_) (fun h7 => ?_)
      · omega
      · refine G_iconstN 1 11 d_Mod_closed_10 rfl rfl ?_
        refine G_istore3 12 d_Mod_closed_11 rfl (by decide) rfl ?_
        refine G_iconstN 0 13 d_Mod_closed_12 rfl rfl ?_
        refine G_istore4 15 d_Mod_closed_13 rfl (by decide) rfl ?_
        exact M 0 (by omega) AJ k1 k2 1 rfl _ _
  refine G_iconstN 0 1 d_Mod_closed_0 rfl rfl ?_
  refine G_istore1 2 d_Mod_closed_1 rfl (by decide) rfl ?_
  refine G_iconstN 0 3 d_Mod_closed_2 rfl rfl ?_
  refine G_istore2 4 d_Mod_closed_3 rfl (by decide) rfl ?_
  exact L 0 (by omega) AL (fun _ _ => rfl) (fun _ _ => rfl) _ _ _ _
