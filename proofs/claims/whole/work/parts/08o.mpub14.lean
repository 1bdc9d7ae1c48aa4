/-! ===== the reference: orbit, closed ===== -/
/-- no turn before number i makes the same -/
def orB (f : Nat → Int64) (i : Nat) : Bool := (List.range i).all (fun j => !lkB (trn f i) (trn f j))
theorem orB_t {f : Nat → Int64} {i : Nat} (h : ∀ j, j < i → ¬ like (trn f i) (trn f j)) : orB f i = true := by
  unfold orB
  rw [List.all_eq_true]
  intro j hj
  rw [List.mem_range] at hj
  rw [Bool.not_eq_true', ← Bool.not_eq_true, lkB_iff]
  exact h j hj
theorem orB_f {f : Nat → Int64} {i j : Nat} (hj : j < i) (h : like (trn f i) (trn f j)) : orB f i = false := by
  cases e : orB f i with
  | false => rfl
  | true =>
    exfalso
    unfold orB at e
    rw [List.all_eq_true] at e
    have := e j (List.mem_range.mpr hj)
    rw [Bool.not_eq_true', ← Bool.not_eq_true, lkB_iff] at this
    exact this h
def orN (f : Nat → Int64) : Nat → Nat
  | 0 => 0
  | k + 1 => orN f k + (if orB f k = true then 1 else 0)
theorem orN_le (f : Nat → Int64) : ∀ k, orN f k ≤ k
  | 0 => Nat.le_refl _
  | k + 1 => by
    have := orN_le f k
    show orN f k + (if orB f k = true then 1 else 0) ≤ k + 1
    split <;> omega
def fOrbit (S : ST) (s : Int32) : Int32 × ST := if bN s 6 = true then (nI (orN (tS S (ni s)) 6), S) else (-1, S)
theorem m_orbit {V : GV} {d b : Nat} {S : ST} {s : Int32} {X : XT} {FI AI : FT} {AL : LT} (h : MO X b) (hI : MIv S FI AI AL b) (hW : WS S) : G V m_Mod_orbit (d + 3) 0 [some (.ref b), some (.int s), none, none, none, none] [] X FI AI AL (fun r X' FI' AI' AL' => r = some (.int (fOrbit S s).1) ∧ X' = X ∧ MIv (fOrbit S s).2 FI' AI' AL' b ∧ fM FI FI' AI AI' AL AL' b) := by
  obtain ⟨hG, hO, hSl, -⟩ := id hI
  have hT := hG.1
  have hn9 := hG.2.1
  have ho := hG.2.2.1
  have hrk := hG.2.2.2.1
  have hn7 := hW.2.1.1
  refine G_iload1 1 d_Mod_orbit_0 rfl ?_
  refine G_invS1b 4 d_Mod_orbit_1 rfl e_Mod_182 M_Mod_isSlot (Nat.le_of_ble_eq_true rfl) (Nat.le_of_ble_eq_true rfl) rfl (s_mIsSlot) (fun h1 => G_ifne1 7 d_Mod_orbit_4 9 rfl rfl ?_) (fun h1 => G_ifne0 7 d_Mod_orbit_4 9 rfl rfl ?_)
  · obtain ⟨k, hk, rfl⟩ := h1
    have q1 := bN_t hk (show 6 < 2 ^ 31 by omega)
    have z1 := ni_nI (show k < 2 ^ 31 by omega)
    simp only [fOrbit, q1, z1, if_true]
    have hL6 := orN_le (tS S k)
    have NX : ∀ i, i < 6 → (∀ AJ : LT, (∀ c, c ≠ b + 1 → AJ c = AL c) → (∀ p, p < 13 → mp AJ b p = mp AL b p) → ∀ v4 v5 : Int32, G V m_Mod_orbit (d + 3) 13 [some (.ref b), some (.int (nI k)), some (.int (nI (orN (tS S k) (i + 1)))), some (.int (nI (i + 1))), some (.int v4), some (.int v5)] [] X FI AI AJ (fun r X' FI' AI' AL' => r = some (.int (nI (orN (tS S k) 6))) ∧ X' = X ∧ MIv S FI' AI' AL' b ∧ fM FI FI' AI AI' AL AL' b)) →
        (orB (tS S k) i = false → ∀ j, j ≤ i → ∀ AJ : LT, (∀ c, c ≠ b + 1 → AJ c = AL c) → (∀ p, p < 13 → mp AJ b p = mp AL b p) → G V m_Mod_orbit (d + 3) 33 [some (.ref b), some (.int (nI k)), some (.int (nI (orN (tS S k) i))), some (.int (nI i)), some (.int (nI 0)), some (.int (nI j))] [] X FI AI AJ (fun r X' FI' AI' AL' => r = some (.int (nI (orN (tS S k) 6))) ∧ X' = X ∧ MIv S FI' AI' AL' b ∧ fM FI FI' AI AI' AL AL' b)) ∧
        (∀ j, j ≤ i → (∀ q, q < j → ¬ like (trn (tS S k) i) (trn (tS S k) q)) → ∀ AJ : LT, (∀ c, c ≠ b + 1 → AJ c = AL c) → (∀ p, p < 13 → mp AJ b p = mp AL b p) → mp AJ b 13 = trn (tS S k) i → G V m_Mod_orbit (d + 3) 33 [some (.ref b), some (.int (nI k)), some (.int (nI (orN (tS S k) i))), some (.int (nI i)), some (.int (nI 1)), some (.int (nI j))] [] X FI AI AJ (fun r X' FI' AI' AL' => r = some (.int (nI (orN (tS S k) 6))) ∧ X' = X ∧ MIv S FI' AI' AL' b ∧ fM FI FI' AI AI' AL AL' b)) := by
      intro i hi nx
      have hle := hL6 i
      have I0 : orB (tS S k) i = false → ∀ j, j ≤ i → ∀ AJ : LT, (∀ c, c ≠ b + 1 → AJ c = AL c) → (∀ p, p < 13 → mp AJ b p = mp AL b p) → G V m_Mod_orbit (d + 3) 33 [some (.ref b), some (.int (nI k)), some (.int (nI (orN (tS S k) i))), some (.int (nI i)), some (.int (nI 0)), some (.int (nI j))] [] X FI AI AJ (fun r X' FI' AI' AL' => r = some (.int (nI (orN (tS S k) 6))) ∧ X' = X ∧ MIv S FI' AI' AL' b ∧ fM FI FI' AI AI' AL AL' b) := by
        intro hb
        have hN : orN (tS S k) (i + 1) = orN (tS S k) i + 0 := by rw [orN, hb, if_neg (by decide)]
        rw [hN] at nx
        refine upto ?_ ?_
        · intro AJ k1 k2
          refine G_iload5 35 d_Mod_orbit_33 rfl ?_
          refine G_iload3 36 d_Mod_orbit_35 rfl ?_
          first | refine G_icgeN 77 39 d_Mod_orbit_36 rfl rfl (by omega) (by omega) (fun h36 => ?_) (fun h36 => ?_) | refine G_icge 77 39 d_Mod_orbit_36 rfl rfl (fun h36 => ?_) (fun h36 => ?_)
          · refine G_iload2 78 d_Mod_orbit_77 rfl ?_
            refine G_iload4 80 d_Mod_orbit_78 rfl ?_
            refine G_ifeq 87 83 d_Mod_orbit_80 rfl rfl (fun h80 => ?_) (fun h80 => ?_)
            · refine G_iconstN 0 88 d_Mod_orbit_87 rfl rfl ?_
              first | refine G_iaddN 89 d_Mod_orbit_88 rfl ?_ | refine G_iadd 89 d_Mod_orbit_88 rfl ?_
              refine G_istore2 90 d_Mod_orbit_89 rfl (by decide) rfl ?_
              first | refine G_iincN3 93 d_Mod_orbit_90 rfl (by decide) rfl ?_ | refine G_iinc3 _ 93 d_Mod_orbit_90 rfl (by decide) rfl rfl ?_
              refine G_goto 13 d_Mod_orbit_93 rfl ?_
              exact nx AJ k1 k2 _ _
            · exact absurd rfl h80
          · omega
        · intro j hj ih AJ k1 k2
          refine G_iload5 35 d_Mod_orbit_33 rfl ?_
          refine G_iload3 36 d_Mod_orbit_35 rfl ?_
          first | refine G_icgeN 77 39 d_Mod_orbit_36 rfl rfl (by omega) (by omega) (fun h36 => ?_) (fun h36 => ?_) | refine G_icge 77 39 d_Mod_orbit_36 rfl rfl (fun h36 => ?_) (fun h36 => ?_)
          · omega
          · refine G_aload0 40 d_Mod_orbit_39 rfl ?_
            refine G_iload1 41 d_Mod_orbit_40 rfl ?_
            refine G_iload5 43 d_Mod_orbit_41 rfl ?_
            refine G_bipushN 14 45 d_Mod_orbit_43 rfl rfl ?_
            refine G_invV3v 48 d_Mod_orbit_45 rfl e_Mod_229 M_Mod_turnTo rfl h.sh (Nat.le_of_ble_eq_true rfl) (Nat.le_of_ble_eq_true rfl) rfl (s_mTurnTo (by assumption) (by assumption) (by omega) (by omega) (by omega) (by omega)) ?_
            refine G_iload4 50 d_Mod_orbit_48 rfl ?_
            refine G_ifeq 68 53 d_Mod_orbit_50 rfl rfl (fun h50 => ?_) (fun h50 => ?_)
            · refine G_iconstN 0 69 d_Mod_orbit_68 rfl rfl ?_
              refine G_istore4 71 d_Mod_orbit_69 rfl (by decide) rfl ?_
              first | refine G_iincN5 74 d_Mod_orbit_71 rfl (by decide) rfl ?_ | refine G_iinc5 _ 74 d_Mod_orbit_71 rfl (by decide) rfl rfl ?_
              refine G_goto 33 d_Mod_orbit_74 rfl ?_
              exact ih _ (fun c hc => by rw [sp_off hc]; exact k1 c hc) (fun p hp => by rw [mp_spn (by omega)]; exact k2 p hp)
            · exact absurd rfl h50
      refine ⟨I0, ?_⟩
      refine upto ?_ ?_
      · intro hq AJ k1 k2 k3
        have hb := orB_t hq
        have hN : orN (tS S k) (i + 1) = orN (tS S k) i + 1 := by rw [orN, hb, if_pos rfl]
        rw [hN] at nx
        refine G_iload5 35 d_Mod_orbit_33 rfl ?_
        refine G_iload3 36 d_Mod_orbit_35 rfl ?_
        first | refine G_icgeN 77 39 d_Mod_orbit_36 rfl rfl (by omega) (by omega) (fun h36 => ?_) (fun h36 => ?_) | refine G_icge 77 39 d_Mod_orbit_36 rfl rfl (fun h36 => ?_) (fun h36 => ?_)
        · refine G_iload2 78 d_Mod_orbit_77 rfl ?_
          refine G_iload4 80 d_Mod_orbit_78 rfl ?_
          refine G_ifeq 87 83 d_Mod_orbit_80 rfl rfl (fun h80 => ?_) (fun h80 => ?_)
          · exact absurd h80 (by decide)
          · refine G_iconstN 1 84 d_Mod_orbit_83 rfl rfl ?_
            refine G_goto 88 d_Mod_orbit_84 rfl ?_
            first | refine G_iaddN 89 d_Mod_orbit_88 rfl ?_ | refine G_iadd 89 d_Mod_orbit_88 rfl ?_
            refine G_istore2 90 d_Mod_orbit_89 rfl (by decide) rfl ?_
            first | refine G_iincN3 93 d_Mod_orbit_90 rfl (by decide) rfl ?_ | refine G_iinc3 _ 93 d_Mod_orbit_90 rfl (by decide) rfl rfl ?_
            refine G_goto 13 d_Mod_orbit_93 rfl ?_
            exact nx AJ k1 k2 _ _
        · omega
      · intro j hj ih hq AJ k1 k2 k3
        have e13 : mp (sp AJ b 14 (trn (mp AJ b k) j)) b 13 = trn (tS S k) i := by rw [mp_spn (by omega)]; exact k3
        have e14 : mp (sp AJ b 14 (trn (mp AJ b k) j)) b 14 = trn (tS S k) j := by rw [mp_sp, k2 k (by omega), hSl k hk, cu_trn]
        refine G_iload5 35 d_Mod_orbit_33 rfl ?_
        refine G_iload3 36 d_Mod_orbit_35 rfl ?_
        first | refine G_icgeN 77 39 d_Mod_orbit_36 rfl rfl (by omega) (by omega) (fun h36 => ?_) (fun h36 => ?_) | refine G_icge 77 39 d_Mod_orbit_36 rfl rfl (fun h36 => ?_) (fun h36 => ?_)
        · omega
        · refine G_aload0 40 d_Mod_orbit_39 rfl ?_
          refine G_iload1 41 d_Mod_orbit_40 rfl ?_
          refine G_iload5 43 d_Mod_orbit_41 rfl ?_
          refine G_bipushN 14 45 d_Mod_orbit_43 rfl rfl ?_
          refine G_invV3v 48 d_Mod_orbit_45 rfl e_Mod_229 M_Mod_turnTo rfl h.sh (Nat.le_of_ble_eq_true rfl) (Nat.le_of_ble_eq_true rfl) rfl (s_mTurnTo (by assumption) (by assumption) (by omega) (by omega) (by omega) (by omega)) ?_
          refine G_iload4 50 d_Mod_orbit_48 rfl ?_
          refine G_ifeq 68 53 d_Mod_orbit_50 rfl rfl (fun h50 => ?_) (fun h50 => ?_)
          · exact absurd h50 (by decide)
          · refine G_aload0 54 d_Mod_orbit_53 rfl ?_
            refine G_bipushN 13 56 d_Mod_orbit_54 rfl rfl ?_
            refine G_bipushN 14 58 d_Mod_orbit_56 rfl rfl ?_
            refine G_invV2b 61 d_Mod_orbit_58 rfl e_Mod_232 M_Mod_areSame rfl h.sh (Nat.le_of_ble_eq_true rfl) (Nat.le_of_ble_eq_true rfl) rfl (s_mSame (by assumption) (by omega) (by omega)) (fun h58 => G_ifne1 64 d_Mod_orbit_61 68 rfl rfl ?_) (fun h58 => G_ifne0 64 d_Mod_orbit_61 68 rfl rfl ?_)
            · rw [e13, e14] at h58
              refine G_iconstN 0 69 d_Mod_orbit_68 rfl rfl ?_
              refine G_istore4 71 d_Mod_orbit_69 rfl (by decide) rfl ?_
              first | refine G_iincN5 74 d_Mod_orbit_71 rfl (by decide) rfl ?_ | refine G_iinc5 _ 74 d_Mod_orbit_71 rfl (by decide) rfl rfl ?_
              refine G_goto 33 d_Mod_orbit_74 rfl ?_
              exact I0 (orB_f hj h58) (j + 1) (by omega) _ (fun c hc => by rw [sp_off hc]; exact k1 c hc) (fun p hp => by rw [mp_spn (by omega)]; exact k2 p hp)
            · rw [e13, e14] at h58
              refine G_iconstN 1 65 d_Mod_orbit_64 rfl rfl ?_
              refine G_goto 69 d_Mod_orbit_65 rfl ?_
              refine G_istore4 71 d_Mod_orbit_69 rfl (by decide) rfl ?_
              first | refine G_iincN5 74 d_Mod_orbit_71 rfl (by decide) rfl ?_ | refine G_iinc5 _ 74 d_Mod_orbit_71 rfl (by decide) rfl rfl ?_
              refine G_goto 33 d_Mod_orbit_74 rfl ?_
              refine ih (fun q hq' => ?_) _ (fun c hc => by rw [sp_off hc]; exact k1 c hc) (fun p hp => by rw [mp_spn (by omega)]; exact k2 p hp) e13
              by_cases e : q = j
              · rw [e]; exact h58
              · exact hq q (by omega)
    have L : ∀ i, i ≤ 6 → ∀ AJ : LT, (∀ c, c ≠ b + 1 → AJ c = AL c) → (∀ p, p < 13 → mp AJ b p = mp AL b p) → ∀ v4 v5 : Int32, G V m_Mod_orbit (d + 3) 13 [some (.ref b), some (.int (nI k)), some (.int (nI (orN (tS S k) i))), some (.int (nI i)), some (.int v4), some (.int v5)] [] X FI AI AJ (fun r X' FI' AI' AL' => r = some (.int (nI (orN (tS S k) 6))) ∧ X' = X ∧ MIv S FI' AI' AL' b ∧ fM FI FI' AI AI' AL AL' b) := by
      refine upto ?_ ?_
      · intro AJ k1 k2 v4 v5
        refine G_iload3 14 d_Mod_orbit_13 rfl ?_
        refine G_bipushN 6 16 d_Mod_orbit_14 rfl rfl ?_
        first | refine G_icgeN 96 19 d_Mod_orbit_16 rfl rfl (by omega) (by omega) (fun h16 => ?_) (fun h16 => ?_) | refine G_icge 96 19 d_Mod_orbit_16 rfl rfl (fun h16 => ?_) (fun h16 => ?_)
        · refine G_iload2 97 d_Mod_orbit_96 rfl ?_
          refine G_iret d_Mod_orbit_97 rfl ?_
          exact ⟨rfl, rfl, hI.wk hW k1 k2, fM.al k1⟩
        · omega
      · intro i hi ih AJ k1 k2 v4 v5
        refine G_iload3 14 d_Mod_orbit_13 rfl ?_
        refine G_bipushN 6 16 d_Mod_orbit_14 rfl rfl ?_
        first | refine G_icgeN 96 19 d_Mod_orbit_16 rfl rfl (by omega) (by omega) (fun h16 => ?_) (fun h16 => ?_) | refine G_icge 96 19 d_Mod_orbit_16 rfl rfl (fun h16 => ?_) (fun h16 => ?_)
        · omega
        · refine G_aload0 20 d_Mod_orbit_19 rfl ?_
          refine G_iload1 21 d_Mod_orbit_20 rfl ?_
          refine G_iload3 22 d_Mod_orbit_21 rfl ?_
          refine G_bipushN 13 24 d_Mod_orbit_22 rfl rfl ?_
          refine G_invV3v 27 d_Mod_orbit_24 rfl e_Mod_229 M_Mod_turnTo rfl h.sh (Nat.le_of_ble_eq_true rfl) (Nat.le_of_ble_eq_true rfl) rfl (s_mTurnTo (by assumption) (by assumption) (by omega) (by omega) (by omega) (by omega)) ?_
          refine G_iconstN 1 28 d_Mod_orbit_27 rfl rfl ?_
          refine G_istore4 30 d_Mod_orbit_28 rfl (by decide) rfl ?_
          refine G_iconstN 0 31 d_Mod_orbit_30 rfl rfl ?_
          refine G_istore5 33 d_Mod_orbit_31 rfl (by decide) rfl ?_
          exact (NX i hi ih).2 0 (by omega) (fun q hq => by omega) _ (fun c hc => by rw [sp_off hc]; exact k1 c hc) (fun p hp => by rw [mp_spn (by omega)]; exact k2 p hp) (by rw [mp_sp, k2 k (by omega), hSl k hk, cu_trn])
    refine G_iconstN 0 10 d_Mod_orbit_9 rfl rfl ?_
    refine G_istore2 11 d_Mod_orbit_10 rfl (by decide) rfl ?_
    refine G_iconstN 0 12 d_Mod_orbit_11 rfl rfl ?_
    refine G_istore3 13 d_Mod_orbit_12 rfl (by decide) rfl ?_
    refine G_iload3 14 d_Mod_orbit_13 rfl ?_
    refine G_bipushN 6 16 d_Mod_orbit_14 rfl rfl ?_
    first | refine G_icgeN 96 19 d_Mod_orbit_16 rfl rfl (by omega) (by omega) (fun h16 => ?_) (fun h16 => ?_) | refine G_icge 96 19 d_Mod_orbit_16 rfl rfl (fun h16 => ?_) (fun h16 => ?_)
    · exact absurd h16 (by decide)
    · refine G_aload0 20 d_Mod_orbit_19 rfl ?_
      refine G_iload1 21 d_Mod_orbit_20 rfl ?_
      refine G_iload3 22 d_Mod_orbit_21 rfl ?_
      refine G_bipushN 13 24 d_Mod_orbit_22 rfl rfl ?_
      refine G_invV3v 27 d_Mod_orbit_24 rfl e_Mod_229 M_Mod_turnTo rfl h.sh (Nat.le_of_ble_eq_true rfl) (Nat.le_of_ble_eq_true rfl) rfl (s_mTurnTo (by assumption) (by assumption) (by omega) (by omega) (by omega) (by omega)) ?_
      refine G_iconstN 1 28 d_Mod_orbit_27 rfl rfl ?_
      refine G_istore4 30 d_Mod_orbit_28 rfl (by decide) rfl ?_
      refine G_iconstN 0 31 d_Mod_orbit_30 rfl rfl ?_
      refine G_istore5 33 d_Mod_orbit_31 rfl (by decide) rfl ?_
      exact (NX 0 (by omega) (L 1 (by omega))).2 0 (by omega) (fun q hq => by omega) _ (fun c hc => by rw [sp_off hc]) (fun p hp => by rw [mp_spn (by omega)]) (by rw [mp_sp, hSl k hk, cu_trn])
  · have q1 := bN_f h1 (show 6 < 2 ^ 31 by omega)
    simp only [fOrbit, q1, Bool.false_eq_true, if_false]
    refine G_iconst (-1) 8 d_Mod_orbit_7 rfl rfl ?_
    refine G_iret d_Mod_orbit_8 rfl ?_
    exact ⟨rfl, rfl, hI, fM.rf⟩
