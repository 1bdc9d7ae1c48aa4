/-! ===== the reference: GENERATORS put in for the letters ===== -/
def pr3 (t : Nat) : Nat := num [eX t, eY t, eZ t]
theorem pr3_pw {t g : Nat} (ht : t < 84) (hg : g < 7) : pw (pr3 t) g = [eX t, eY t, eZ t].getD g 0 := by
  have e := e_le ht
  have := pw_numL [eX t, eY t, eZ t] 0 g (by simp) (fun p hp => by
    simp only [List.mem_cons, List.not_mem_nil, or_false] at hp
    rcases hp with rfl | rfl | rfl <;> omega) (Nat.zero_le _) hg
  rwa [Nat.sub_zero] at this
theorem pr3_lt {t : Nat} (ht : t < 84) : pr3 t < 2097152 := by
  have e := e_le ht
  have := numL_lt [eX t, eY t, eZ t] 0 (by simp) (fun p hp => by
    simp only [List.mem_cons, List.not_mem_nil, or_false] at hp
    rcases hp with rfl | rfl | rfl <;> omega)
  have e2 : un 0 = 262144 := by decide
  unfold pr3 num
  omega
/-- the STEPS of the last m TERMS -/
def thR (f : Nat → Int64) : Nat → List (Int64 × Nat)
  | 0 => []
  | m + 1 => if f (83 - m) = 0 then thR f m else (f (83 - m), pr3 (83 - m)) :: thR f m
def thD (gl : Nat → Nat) (n : Nat) (L : List (Int64 × Nat)) : Bool := L.any (fun q => decide (6 < rdeg gl q.2 n))
def thF (S : ST) (k : Nat) (f : Nat → Int64) (dp : Bool) (L : List (Int64 × Nat)) (a : Int64) : Int32 × ST := if (dp || thD (gL (tG S)) (gN (tG S)) L) = true then (-6, S) else if smC (gN (tG S)) (gP (tG S)) L a < 0 then (-5, S) else (nI (cnt (smP (gN (tG S)) (gP (tG S)) (thR f 84) (fun _ => 0))), set1 S k (smP (gN (tG S)) (gP (tG S)) (thR f 84) (fun _ => 0)))
def fThrough (S : ST) (s : Int32) : Int32 × ST := if bN s 6 = true then (if gN (tG S) < 3 then (-3, S) else thF S (ni s) (tS S (ni s)) false (thR (tS S (ni s)) 84) 0) else (-1, S)
theorem rdeg3 {gl : Nat → Nat} {n t : Nat} (hn : 3 ≤ n) (hn7 : n ≤ 7) (ht : t < 84) : rdeg gl (pr3 t) n = eX t * eD (gl 0) + eY t * eD (gl 1) + eZ t * eD (gl 2) := by
  have h0 := pr3_pw ht (g := 0) (by omega)
  have h1 := pr3_pw ht (g := 1) (by omega)
  have h2 := pr3_pw ht (g := 2) (by omega)
  simp only [List.getD_cons_zero, List.getD_cons_succ] at h0 h1 h2
  have key : ∀ k, 3 ≤ k → k ≤ 7 → rdeg gl (pr3 t) k = eX t * eD (gl 0) + eY t * eD (gl 1) + eZ t * eD (gl 2) := by
    intro k hk
    induction hk with
    | refl => intro _; simp only [rdeg, h0, h1, h2, Nat.zero_add]
    | @step m hk ih =>
      intro hm
      have hm3 : 3 ≤ m := hk
      have hz := pr3_pw ht (g := m) (by omega)
      rw [List.getD_eq_getElem?_getD, List.getElem?_eq_none (by simp only [List.length_cons, List.length_nil]; omega)] at hz
      simp only [Option.getD_none] at hz
      rw [rdeg, ih (by omega), hz, Nat.zero_mul, Nat.add_zero]
  exact key n hn hn7
theorem s_mDepthBy {V : GV} {d b n t : Nat} {gl : Nat → Nat} {X : XT} {FI AI : FT} {AL : LT} (h : MO X b) (hT : MTb AI b) (hg : MGl AI b n gl) (hn : 3 ≤ n) (hn7 : n ≤ 7) (ht : t < 84) : G V m_Mod_depthBy (d + 1) 0 [some (.ref b), some (.int (nI t))] [] X FI AI AL (Pd (some (.int (nI (rdeg gl (pr3 t) n)))) X FI AI AL) := by
  obtain ⟨g0, g0', -⟩ := hg 0 (by omega)
  obtain ⟨g1, g1', -⟩ := hg 1 (by omega)
  obtain ⟨g2, g2', -⟩ := hg 2 (by omega)
  have T := hT.1 t ht
  rw [rdeg3 hn hn7 ht]
  refine G_aload0 1 d_Mod_depthBy_0 rfl ?_
  refine G_getR 4 d_Mod_depthBy_1 rfl f_Mod_18 rfl h.sh h.f2 ?_
  refine G_iload1 5 d_Mod_depthBy_4 rfl ?_
  refine G_ialoadv 6 d_Mod_depthBy_5 rfl h.s2 (ix_nI (by omega) (by omega)) T.1 ?_
  refine G_aload0 7 d_Mod_depthBy_6 rfl ?_
  refine G_aload0 8 d_Mod_depthBy_7 rfl ?_
  refine G_getR 11 d_Mod_depthBy_8 rfl f_Mod_37 rfl h.sh h.f10 ?_
  refine G_iconstN 0 12 d_Mod_depthBy_11 rfl rfl ?_
  refine G_ialoadv 13 d_Mod_depthBy_12 rfl h.s10 (ix_nI (by omega) (by omega)) g0 ?_
  refine G_invV1d 16 d_Mod_depthBy_13 rfl e_Mod_147 M_Mod_degreeOf rfl h.sh (Nat.le_of_ble_eq_true rfl) (Nat.le_of_ble_eq_true rfl) rfl (s_mDegreeOf (by assumption) (by assumption) (by omega)) ?_
  first | refine G_imulN 17 d_Mod_depthBy_16 rfl ?_ | refine G_imul 17 d_Mod_depthBy_16 rfl ?_
  refine G_aload0 18 d_Mod_depthBy_17 rfl ?_
  refine G_getR 21 d_Mod_depthBy_18 rfl f_Mod_22 rfl h.sh h.f3 ?_
  refine G_iload1 22 d_Mod_depthBy_21 rfl ?_
  refine G_ialoadv 23 d_Mod_depthBy_22 rfl h.s3 (ix_nI (by omega) (by omega)) T.2.1 ?_
  refine G_aload0 24 d_Mod_depthBy_23 rfl ?_
  refine G_aload0 25 d_Mod_depthBy_24 rfl ?_
  refine G_getR 28 d_Mod_depthBy_25 rfl f_Mod_37 rfl h.sh h.f10 ?_
  refine G_iconstN 1 29 d_Mod_depthBy_28 rfl rfl ?_
  refine G_ialoadv 30 d_Mod_depthBy_29 rfl h.s10 (ix_nI (by omega) (by omega)) g1 ?_
  refine G_invV1d 33 d_Mod_depthBy_30 rfl e_Mod_147 M_Mod_degreeOf rfl h.sh (Nat.le_of_ble_eq_true rfl) (Nat.le_of_ble_eq_true rfl) rfl (s_mDegreeOf (by assumption) (by assumption) (by omega)) ?_
  first | refine G_imulN 34 d_Mod_depthBy_33 rfl ?_ | refine G_imul 34 d_Mod_depthBy_33 rfl ?_
  first | refine G_iaddN 35 d_Mod_depthBy_34 rfl ?_ | refine G_iadd 35 d_Mod_depthBy_34 rfl ?_
  refine G_aload0 36 d_Mod_depthBy_35 rfl ?_
  refine G_getR 39 d_Mod_depthBy_36 rfl f_Mod_25 rfl h.sh h.f4 ?_
  refine G_iload1 40 d_Mod_depthBy_39 rfl ?_
  refine G_ialoadv 41 d_Mod_depthBy_40 rfl h.s4 (ix_nI (by omega) (by omega)) T.2.2 ?_
  refine G_aload0 42 d_Mod_depthBy_41 rfl ?_
  refine G_aload0 43 d_Mod_depthBy_42 rfl ?_
  refine G_getR 46 d_Mod_depthBy_43 rfl f_Mod_37 rfl h.sh h.f10 ?_
  refine G_iconstN 2 47 d_Mod_depthBy_46 rfl rfl ?_
  refine G_ialoadv 48 d_Mod_depthBy_47 rfl h.s10 (ix_nI (by omega) (by omega)) g2 ?_
  refine G_invV1d 51 d_Mod_depthBy_48 rfl e_Mod_147 M_Mod_degreeOf rfl h.sh (Nat.le_of_ble_eq_true rfl) (Nat.le_of_ble_eq_true rfl) rfl (s_mDegreeOf (by assumption) (by assumption) (by omega)) ?_
  first | refine G_imulN 52 d_Mod_depthBy_51 rfl ?_ | refine G_imul 52 d_Mod_depthBy_51 rfl ?_
  first | refine G_iaddN 53 d_Mod_depthBy_52 rfl ?_ | refine G_iadd 53 d_Mod_depthBy_52 rfl ?_
  refine G_iret d_Mod_depthBy_53 rfl ?_
  exact Pd.rf
theorem s_mLayPowers {V : GV} {d b t : Nat} {X : XT} {FI AI : FT} (h : MO X b) (hT : MTb AI b) (ht : t < 84) : ∃ AK, (∀ AL : LT, G V m_Mod_layPowers d 0 [some (.ref b), some (.int (nI t)), none] [] X FI AI AL (Pd none X FI AK AL)) ∧ w2F AI AK b ∧ ∀ f, f < 7 → AK (b + 27) (7 * 2 + f) = nI (pw (pr3 t) f) := by
  refine ⟨sr AI (b + 27) (fun j => if 14 ≤ j ∧ j < 21 then nI (pw (pr3 t) (j - 14)) else AI (b + 27) j), fun AL => ?_, w2F.sr (fun j hj => if_neg (by omega)), fun f hf => by rw [sr_at, if_pos (by omega), show 7 * 2 + f - 14 = f by omega]⟩
  have L : ∀ g, g ≤ 7 → G V m_Mod_layPowers d 2 [some (.ref b), some (.int (nI t)), some (.int (nI g))] [] X FI (sr AI (b + 27) (fun j => if 14 ≤ j ∧ j < 14 + g then nI (pw (pr3 t) (j - 14)) else AI (b + 27) j)) AL (Pd none X FI (sr AI (b + 27) (fun j => if 14 ≤ j ∧ j < 21 then nI (pw (pr3 t) (j - 14)) else AI (b + 27) j)) AL) := by
    refine upto ?_ ?_
    · refine G_iload2 3 d_Mod_layPowers_2 rfl ?_
      refine G_bipushN 7 5 d_Mod_layPowers_3 rfl rfl ?_
      first | refine G_icgeN 65 8 d_Mod_layPowers_5 rfl rfl (by omega) (by omega) (fun h5 => ?_) (fun h5 => ?_) | refine G_icge 65 8 d_Mod_layPowers_5 rfl rfl (fun h5 => ?_) (fun h5 => ?_)
      · refine G_vret d_Mod_layPowers_65 rfl ?_
        exact Pd.rf
      · omega
    · intro g hg ih
      have T := hT.1 t ht
      have ao : ∀ c, c ≠ b + 27 → (sr AI (b + 27) (fun j => if 14 ≤ j ∧ j < 14 + g then nI (pw (pr3 t) (j - 14)) else AI (b + 27) j)) c = AI c := fun c hc => sr_ne _ _ hc
      have e1 : ∀ v, v = nI (pw (pr3 t) g) → u2 (sr AI (b + 27) (fun j => if 14 ≤ j ∧ j < 14 + g then nI (pw (pr3 t) (j - 14)) else AI (b + 27) j)) (b + 27) (14 + g) v = sr AI (b + 27) (fun j => if 14 ≤ j ∧ j < 14 + (g + 1) then nI (pw (pr3 t) (j - 14)) else AI (b + 27) j) := by
        intro v hv
        rw [u2_sr]
        congr 1
        funext j
        by_cases q : j = 14 + g
        · rw [if_pos q, if_pos (by omega), show j - 14 = g by omega, hv]
        · rw [if_neg q]
          by_cases q2 : 14 ≤ j ∧ j < 14 + g
          · rw [if_pos q2, if_pos (by omega)]
          · rw [if_neg q2, if_neg (by omega)]
      have hpw := pr3_pw ht hg
      have tx : (sr AI (b + 27) (fun j => if 14 ≤ j ∧ j < 14 + g then nI (pw (pr3 t) (j - 14)) else AI (b + 27) j)) (b + 3) t = nI (eX t) := by rw [ao _ (by omega)]; exact T.1
      have ty : (sr AI (b + 27) (fun j => if 14 ≤ j ∧ j < 14 + g then nI (pw (pr3 t) (j - 14)) else AI (b + 27) j)) (b + 4) t = nI (eY t) := by rw [ao _ (by omega)]; exact T.2.1
      have tz : (sr AI (b + 27) (fun j => if 14 ≤ j ∧ j < 14 + g then nI (pw (pr3 t) (j - 14)) else AI (b + 27) j)) (b + 5) t = nI (eZ t) := by rw [ao _ (by omega)]; exact T.2.2
      have gg : g = 0 ∨ g = 1 ∨ g = 2 ∨ 3 ≤ g := by omega
      rcases gg with rfl | rfl | rfl | g3
      · refine G_iload2 3 d_Mod_layPowers_2 rfl ?_
        refine G_bipushN 7 5 d_Mod_layPowers_3 rfl rfl ?_
        first | refine G_icgeN 65 8 d_Mod_layPowers_5 rfl rfl (by omega) (by omega) (fun h5 => ?_) (fun h5 => ?_) | refine G_icge 65 8 d_Mod_layPowers_5 rfl rfl (fun h5 => ?_) (fun h5 => ?_)
        · omega
        · refine G_aload0 9 d_Mod_layPowers_8 rfl ?_
          refine G_getR 12 d_Mod_layPowers_9 rfl f_Mod_91 rfl h.sh h.f36 ?_
          refine G_bipushN 14 14 d_Mod_layPowers_12 rfl rfl ?_
          refine G_iload2 15 d_Mod_layPowers_14 rfl ?_
          first | refine G_iaddN 16 d_Mod_layPowers_15 rfl ?_ | refine G_iadd 16 d_Mod_layPowers_15 rfl ?_
          refine G_iload2 17 d_Mod_layPowers_16 rfl ?_
          refine G_ifne 29 20 d_Mod_layPowers_17 rfl rfl (fun h17 => ?_) (fun h17 => ?_)
          · exact absurd rfl h17
          · refine G_aload0 21 d_Mod_layPowers_20 rfl ?_
            refine G_getR 24 d_Mod_layPowers_21 rfl f_Mod_18 rfl h.sh h.f2 ?_
            refine G_iload1 25 d_Mod_layPowers_24 rfl ?_
            refine G_ialoadv 26 d_Mod_layPowers_25 rfl h.s2 (ix_nI (by omega) (by omega)) tx ?_
            refine G_goto 58 d_Mod_layPowers_26 rfl ?_
            refine G_iastore 59 d_Mod_layPowers_58 rfl h.s36 (ix_nI (by omega) (by omega)) ?_
            first | refine G_iincN2 62 d_Mod_layPowers_59 rfl (by decide) rfl ?_ | refine G_iinc2 _ 62 d_Mod_layPowers_59 rfl (by decide) rfl rfl ?_
            refine G_goto 2 d_Mod_layPowers_62 rfl ?_
            rw [e1 _ (by rw [hpw]; rfl)]
            exact ih
      · refine G_iload2 3 d_Mod_layPowers_2 rfl ?_
        refine G_bipushN 7 5 d_Mod_layPowers_3 rfl rfl ?_
        first | refine G_icgeN 65 8 d_Mod_layPowers_5 rfl rfl (by omega) (by omega) (fun h5 => ?_) (fun h5 => ?_) | refine G_icge 65 8 d_Mod_layPowers_5 rfl rfl (fun h5 => ?_) (fun h5 => ?_)
        · omega
        · refine G_aload0 9 d_Mod_layPowers_8 rfl ?_
          refine G_getR 12 d_Mod_layPowers_9 rfl f_Mod_91 rfl h.sh h.f36 ?_
          refine G_bipushN 14 14 d_Mod_layPowers_12 rfl rfl ?_
          refine G_iload2 15 d_Mod_layPowers_14 rfl ?_
          first | refine G_iaddN 16 d_Mod_layPowers_15 rfl ?_ | refine G_iadd 16 d_Mod_layPowers_15 rfl ?_
          refine G_iload2 17 d_Mod_layPowers_16 rfl ?_
          refine G_ifne 29 20 d_Mod_layPowers_17 rfl rfl (fun h17 => ?_) (fun h17 => ?_)
          · refine G_iload2 30 d_Mod_layPowers_29 rfl ?_
            refine G_iconstN 1 31 d_Mod_layPowers_30 rfl rfl ?_
            first | refine G_icneN 43 34 d_Mod_layPowers_31 rfl rfl (by omega) (by omega) (fun h31 => ?_) (fun h31 => ?_) | refine G_icne 43 34 d_Mod_layPowers_31 rfl rfl (fun h31 => ?_) (fun h31 => ?_)
            · exact absurd rfl h31
            · refine G_aload0 35 d_Mod_layPowers_34 rfl ?_
              refine G_getR 38 d_Mod_layPowers_35 rfl f_Mod_22 rfl h.sh h.f3 ?_
              refine G_iload1 39 d_Mod_layPowers_38 rfl ?_
              refine G_ialoadv 40 d_Mod_layPowers_39 rfl h.s3 (ix_nI (by omega) (by omega)) ty ?_
              refine G_goto 58 d_Mod_layPowers_40 rfl ?_
              refine G_iastore 59 d_Mod_layPowers_58 rfl h.s36 (ix_nI (by omega) (by omega)) ?_
              first | refine G_iincN2 62 d_Mod_layPowers_59 rfl (by decide) rfl ?_ | refine G_iinc2 _ 62 d_Mod_layPowers_59 rfl (by decide) rfl rfl ?_
              refine G_goto 2 d_Mod_layPowers_62 rfl ?_
              rw [e1 _ (by rw [hpw]; rfl)]
              exact ih
          · exact absurd h17 (by decide)
      · refine G_iload2 3 d_Mod_layPowers_2 rfl ?_
        refine G_bipushN 7 5 d_Mod_layPowers_3 rfl rfl ?_
        first | refine G_icgeN 65 8 d_Mod_layPowers_5 rfl rfl (by omega) (by omega) (fun h5 => ?_) (fun h5 => ?_) | refine G_icge 65 8 d_Mod_layPowers_5 rfl rfl (fun h5 => ?_) (fun h5 => ?_)
        · omega
        · refine G_aload0 9 d_Mod_layPowers_8 rfl ?_
          refine G_getR 12 d_Mod_layPowers_9 rfl f_Mod_91 rfl h.sh h.f36 ?_
          refine G_bipushN 14 14 d_Mod_layPowers_12 rfl rfl ?_
          refine G_iload2 15 d_Mod_layPowers_14 rfl ?_
          first | refine G_iaddN 16 d_Mod_layPowers_15 rfl ?_ | refine G_iadd 16 d_Mod_layPowers_15 rfl ?_
          refine G_iload2 17 d_Mod_layPowers_16 rfl ?_
          refine G_ifne 29 20 d_Mod_layPowers_17 rfl rfl (fun h17 => ?_) (fun h17 => ?_)
          · refine G_iload2 30 d_Mod_layPowers_29 rfl ?_
            refine G_iconstN 1 31 d_Mod_layPowers_30 rfl rfl ?_
            first | refine G_icneN 43 34 d_Mod_layPowers_31 rfl rfl (by omega) (by omega) (fun h31 => ?_) (fun h31 => ?_) | refine G_icne 43 34 d_Mod_layPowers_31 rfl rfl (fun h31 => ?_) (fun h31 => ?_)
            · refine G_iload2 44 d_Mod_layPowers_43 rfl ?_
              refine G_iconstN 2 45 d_Mod_layPowers_44 rfl rfl ?_
              first | refine G_icneN 57 48 d_Mod_layPowers_45 rfl rfl (by omega) (by omega) (fun h45 => ?_) (fun h45 => ?_) | refine G_icne 57 48 d_Mod_layPowers_45 rfl rfl (fun h45 => ?_) (fun h45 => ?_)
              · exact absurd rfl h45
              · refine G_aload0 49 d_Mod_layPowers_48 rfl ?_
                refine G_getR 52 d_Mod_layPowers_49 rfl f_Mod_25 rfl h.sh h.f4 ?_
                refine G_iload1 53 d_Mod_layPowers_52 rfl ?_
                refine G_ialoadv 54 d_Mod_layPowers_53 rfl h.s4 (ix_nI (by omega) (by omega)) tz ?_
                refine G_goto 58 d_Mod_layPowers_54 rfl ?_
                refine G_iastore 59 d_Mod_layPowers_58 rfl h.s36 (ix_nI (by omega) (by omega)) ?_
                first | refine G_iincN2 62 d_Mod_layPowers_59 rfl (by decide) rfl ?_ | refine G_iinc2 _ 62 d_Mod_layPowers_59 rfl (by decide) rfl rfl ?_
                refine G_goto 2 d_Mod_layPowers_62 rfl ?_
                rw [e1 _ (by rw [hpw]; rfl)]
                exact ih
            · exact absurd h31 (by decide)
          · exact absurd h17 (by decide)
      · have hz : pw (pr3 t) g = 0 := by
          rw [hpw, List.getD_eq_getElem?_getD, List.getElem?_eq_none (by simp only [List.length_cons, List.length_nil]; omega)]; rfl
        refine G_iload2 3 d_Mod_layPowers_2 rfl ?_
        refine G_bipushN 7 5 d_Mod_layPowers_3 rfl rfl ?_
        first | refine G_icgeN 65 8 d_Mod_layPowers_5 rfl rfl (by omega) (by omega) (fun h5 => ?_) (fun h5 => ?_) | refine G_icge 65 8 d_Mod_layPowers_5 rfl rfl (fun h5 => ?_) (fun h5 => ?_)
        · omega
        · refine G_aload0 9 d_Mod_layPowers_8 rfl ?_
          refine G_getR 12 d_Mod_layPowers_9 rfl f_Mod_91 rfl h.sh h.f36 ?_
          refine G_bipushN 14 14 d_Mod_layPowers_12 rfl rfl ?_
          refine G_iload2 15 d_Mod_layPowers_14 rfl ?_
          first | refine G_iaddN 16 d_Mod_layPowers_15 rfl ?_ | refine G_iadd 16 d_Mod_layPowers_15 rfl ?_
          refine G_iload2 17 d_Mod_layPowers_16 rfl ?_
          refine G_ifne 29 20 d_Mod_layPowers_17 rfl rfl (fun h17 => ?_) (fun h17 => ?_)
          · refine G_iload2 30 d_Mod_layPowers_29 rfl ?_
            refine G_iconstN 1 31 d_Mod_layPowers_30 rfl rfl ?_
            first | refine G_icneN 43 34 d_Mod_layPowers_31 rfl rfl (by omega) (by omega) (fun h31 => ?_) (fun h31 => ?_) | refine G_icne 43 34 d_Mod_layPowers_31 rfl rfl (fun h31 => ?_) (fun h31 => ?_)
            · refine G_iload2 44 d_Mod_layPowers_43 rfl ?_
              refine G_iconstN 2 45 d_Mod_layPowers_44 rfl rfl ?_
              first | refine G_icneN 57 48 d_Mod_layPowers_45 rfl rfl (by omega) (by omega) (fun h45 => ?_) (fun h45 => ?_) | refine G_icne 57 48 d_Mod_layPowers_45 rfl rfl (fun h45 => ?_) (fun h45 => ?_)
              · refine G_iconstN 0 58 d_Mod_layPowers_57 rfl rfl ?_
                refine G_iastore 59 d_Mod_layPowers_58 rfl h.s36 (ix_nI (by omega) (by omega)) ?_
                first | refine G_iincN2 62 d_Mod_layPowers_59 rfl (by decide) rfl ?_ | refine G_iinc2 _ 62 d_Mod_layPowers_59 rfl (by decide) rfl rfl ?_
                refine G_goto 2 d_Mod_layPowers_62 rfl ?_
                rw [e1 _ (by rw [hz])]
                exact ih
              · omega
            · omega
          · exact absurd h17 (nI_ne0 (by omega) (by omega))
  refine G_iconstN 0 1 d_Mod_layPowers_0 rfl rfl ?_
  refine G_istore2 2 d_Mod_layPowers_1 rfl (by decide) rfl ?_
  have := L 0 (by omega)
  rw [show (fun j => if 14 ≤ j ∧ j < 14 + 0 then nI (pw (pr3 t) (j - 14)) else AI (b + 27) j) = AI (b + 27) from funext (fun j => if_neg (by omega)), sr_self] at this
  exact this
theorem m_through {V : GV} {d b : Nat} {S : ST} {s : Int32} {X : XT} {FI AI : FT} {AL : LT} (h : MO X b) (hI : MIv S FI AI AL b) (hW : WS S) : G V m_Mod_through (d + 5) 0 [some (.ref b), some (.int s), none, none, none, none, none, none] [] X FI AI AL (fun r X' FI' AI' AL' => r = some (.int (fThrough S s).1) ∧ X' = X ∧ MIv (fThrough S s).2 FI' AI' AL' b ∧ fM FI FI' AI AI' AL AL' b) := by
  obtain ⟨hG, hO, hSl, -⟩ := id hI
  have hT := hG.1
  have hn9 := hG.2.1
  have ho := hG.2.2.1
  have hrk := hG.2.2.2.1
  have hn7 := hW.2.1.1
  have hgl := hG.gl hW.2.1
  have hinj := hW.2.1.2.2
  have hl2 : ∀ i, i < gN (tG S) → gL (tG S) i < 84 ∧ 1 ≤ eD (gL (tG S) i) := fun i hi => (hgl i hi).2
  have hlen : ∀ t, t < 84 → (RN (leadL (gL (tG S)) (gN (tG S))) t).length ≤ 120 := fun t ht => by rw [RN, List.length_map]; exact RT_128 hn7 hl2 hinj ht
  refine G_iload1 1 d_Mod_through_0 rfl ?_
  refine G_invS1b 4 d_Mod_through_1 rfl e_Mod_182 M_Mod_isSlot (Nat.le_of_ble_eq_true rfl) (Nat.le_of_ble_eq_true rfl) rfl (s_mIsSlot) (fun h1 => G_ifne1 7 d_Mod_through_4 9 rfl rfl ?_) (fun h1 => G_ifne0 7 d_Mod_through_4 9 rfl rfl ?_)
  · obtain ⟨k, hk, rfl⟩ := h1
    have q1 := bN_t hk (show 6 < 2 ^ 31 by omega)
    have z1 := ni_nI (show k < 2 ^ 31 by omega)
    simp only [fThrough, q1, z1, if_true]
    by_cases hn3 : gN (tG S) < 3
    · simp only [if_pos hn3]
      refine G_aload0 10 d_Mod_through_9 rfl ?_
      refine G_getIv 13 d_Mod_through_10 rfl f_Mod_133 rfl h.sh hn9 ?_
      refine G_iconstN 3 14 d_Mod_through_13 rfl rfl ?_
      first | refine G_icgeN 20 17 d_Mod_through_14 rfl rfl (by omega) (by omega) (fun h14 => ?_) (fun h14 => ?_) | refine G_icge 20 17 d_Mod_through_14 rfl rfl (fun h14 => ?_) (fun h14 => ?_)
      · omega
      · refine G_bipush (-3) 19 d_Mod_through_17 rfl rfl ?_
        refine G_iret d_Mod_through_19 rfl ?_
        exact ⟨rfl, rfl, hI, fM.rf⟩
    · simp only [if_neg hn3]
      rw [← hSl k hk]
      generalize hf : mp AL b k = f
      have hfat : ∀ t, t < 84 → AL (b + 1) (84 * k + t) = f t := fun t ht => by rw [← hf, mp_at ht]
      -- PRODUCTS are summed
      have L2 : (∀ q ∈ thR f 84, rdeg (gL (tG S)) q.2 (gN (tG S)) ≤ 6) → ∀ m, m ≤ 84 → ∀ (acc : Nat → Int64) (AJ : FT) (BJ : LT) (l2 : Option Value) (v4 : Int32) (l6 l7 : Option Value), cu acc = acc → w2F AI AJ b → pkF AL BJ b → mp BJ b 17 = acc → smP (gN (tG S)) (gP (tG S)) (thR f m) acc = smP (gN (tG S)) (gP (tG S)) (thR f 84) (fun _ => 0) → (∀ q ∈ thR f m, rdeg (gL (tG S)) q.2 (gN (tG S)) ≤ 6) → G V m_Mod_through (d + 5) 142 [some (.ref b), some (.int (nI k)), l2, none, some (.int v4), some (.int (nI (84 - m))), l6, l7] [] X FI AJ BJ (fun r X' FI' AI' AL' => r = some (.int (nI (cnt (smP (gN (tG S)) (gP (tG S)) (thR f 84) (fun _ => 0))))) ∧ X' = X ∧ MIv (set1 S k (smP (gN (tG S)) (gP (tG S)) (thR f 84) (fun _ => 0))) FI' AI' AL' b ∧ fM FI FI' AI AI' AL AL' b) := by
        intro hdeg
        refine downto ?_ ?_
        · intro _ acc AJ BJ l2 v4 l6 l7 hc hJ hB h17 hs _
          have hIJ : MIv S FI AJ BJ b := (hI.ap hW (hJ.ap (AL := AL))).wk hW hB.1 hB.2
          rw [← hs]
          refine G_iload5 144 d_Mod_through_142 rfl ?_
          refine G_bipushN 84 146 d_Mod_through_144 rfl rfl ?_
          first | refine G_icgeN 205 149 d_Mod_through_146 rfl rfl (by omega) (by omega) (fun h146 => ?_) (fun h146 => ?_) | refine G_icge 205 149 d_Mod_through_146 rfl rfl (fun h146 => ?_) (fun h146 => ?_)
          · refine G_aload0 206 d_Mod_through_205 rfl ?_
            refine G_bipushN 17 208 d_Mod_through_206 rfl rfl ?_
            refine G_iload1 209 d_Mod_through_208 rfl ?_
            refine G_invV2v 212 d_Mod_through_209 rfl e_Mod_208 M_Mod_copyTo rfl h.sh (Nat.le_of_ble_eq_true rfl) (Nat.le_of_ble_eq_true rfl) rfl (s_mCopy (by assumption) (by omega) (by omega)) ?_
            refine G_aload0 213 d_Mod_through_212 rfl ?_
            refine G_iload1 214 d_Mod_through_213 rfl ?_
            refine G_invV1d 217 d_Mod_through_214 rfl e_Mod_202 M_Mod_termsIn rfl h.sh (Nat.le_of_ble_eq_true rfl) (Nat.le_of_ble_eq_true rfl) rfl (s_mTerms (by assumption) (by omega)) ?_
            refine G_iret d_Mod_through_217 rfl ?_
            have e1 : mp (sp BJ b k (mp BJ b 17)) b k = acc := by rw [mp_sp, mp_cu, h17]
            exact ⟨by rw [e1]; rfl, rfl, hIJ.s1 hW hk (fun c hc => sp_off hc) e1 (fun p _ hp => mp_spn hp), ((hJ.ap (FI := FI) (AL := AL)).fm.tr (fM.al hB.1)).tr (fM.al (fun c hc => sp_off hc))⟩
          · omega
        · intro m ih hm acc AJ BJ l2 v4 l6 l7 hc hJ hB h17 hs hdg
          have ht : 83 - m < 84 := by omega
          have e0 : BJ (b + 1) (84 * k + (83 - m)) = f (83 - m) := by
            have := hB.2 k (by omega)
            rw [← hfat _ ht, ← mp_at (AL := BJ) ht, ← mp_at (AL := AL) ht, this]
          rw [show 84 - (m + 1) = 83 - m by omega]
          rw [thR] at hs hdg
          by_cases hz : f (83 - m) = 0
          · rw [if_pos hz] at hs hdg
            refine G_iload5 144 d_Mod_through_142 rfl ?_
            refine G_bipushN 84 146 d_Mod_through_144 rfl rfl ?_
            first | refine G_icgeN 205 149 d_Mod_through_146 rfl rfl (by omega) (by omega) (fun h146 => ?_) (fun h146 => ?_) | refine G_icge 205 149 d_Mod_through_146 rfl rfl (fun h146 => ?_) (fun h146 => ?_)
            · omega
            · refine G_aload0 150 d_Mod_through_149 rfl ?_
              refine G_getR 153 d_Mod_through_150 rfl f_Mod_9 rfl h.sh h.f0 ?_
              refine G_bipushN 84 155 d_Mod_through_153 rfl rfl ?_
              refine G_iload1 156 d_Mod_through_155 rfl ?_
              first | refine G_imulN 157 d_Mod_through_156 rfl ?_ | refine G_imul 157 d_Mod_through_156 rfl ?_
              refine G_iload5 159 d_Mod_through_157 rfl ?_
              first | refine G_iaddN 160 d_Mod_through_159 rfl ?_ | refine G_iadd 160 d_Mod_through_159 rfl ?_
              refine G_laloadv 161 d_Mod_through_160 rfl h.s0 (ix_nI (by omega) (by omega)) e0 ?_
              refine G_lconst 0 162 d_Mod_through_161 rfl rfl ?_
              refine G_lceq 199 166 d_Mod_through_162 d_Mod_through_163 rfl rfl (fun h162 => ?_) (fun h162 => ?_)
              · first | refine G_iincN5 202 d_Mod_through_199 rfl (by decide) rfl ?_ | refine G_iinc5 _ 202 d_Mod_through_199 rfl (by decide) rfl rfl ?_
                refine G_goto 142 d_Mod_through_202 rfl ?_
                rw [show 83 - m + 1 = 84 - m by omega]
                exact ih (by omega) acc AJ BJ _ _ _ _ hc hJ hB h17 hs hdg
              · exact absurd hz h162
          · rw [if_neg hz] at hs hdg
            have hd1 : rdeg (gL (tG S)) (pr3 (83 - m)) (gN (tG S)) ≤ 6 := hdg _ List.mem_cons_self
            have hTJ : MTb AJ b := ⟨fun s hs => by rw [hJ.1 _ (by omega), hJ.1 _ (by omega), hJ.1 _ (by omega)]; exact hT.1 s hs, fun x y z hs => by rw [hJ.1 _ (by omega)]; exact hT.2 x y z hs⟩
            obtain ⟨AK, lp, kJ0, kr⟩ := s_mLayPowers (V := V) (d := d + 4) (FI := FI) (AI := AJ) h hTJ ht
            have kJ := hJ.tr kJ0
            have hIJ : MIv S FI AK BJ b := (hI.ap hW (kJ.ap (AL := AL))).wk hW hB.1 hB.2
            have hGJ := hIJ.1
            have hpr := s_mProduct (V := V) (d := d + 1) (p := 13) (w := 2) (r := pr3 (83 - m)) (gl := gL (tG S)) (AL := BJ) h hGJ.1 hGJ.2.1 hn7 (by omega) (fun g hg => kr g (by omega)) (by omega) (by omega) (by omega) (fun g hg => (((hGJ.gn hW.2.1).2.2.2.2.1 g hg).1 ▸ ((hGJ.gn hW.2.1).2.2.2.2.1 g hg).2)) hd1
            rw [prodP_cu2 (gN (tG S)) (ps' := gP (tG S)) (P' := pw (pr3 (83 - m))) (fun i hi => by rw [(hGJ.2.2.2.2 i hi).2.1]) (fun _ _ => rfl)] at hpr
            refine G_iload5 144 d_Mod_through_142 rfl ?_
            refine G_bipushN 84 146 d_Mod_through_144 rfl rfl ?_
            first | refine G_icgeN 205 149 d_Mod_through_146 rfl rfl (by omega) (by omega) (fun h146 => ?_) (fun h146 => ?_) | refine G_icge 205 149 d_Mod_through_146 rfl rfl (fun h146 => ?_) (fun h146 => ?_)
            · omega
            · refine G_aload0 150 d_Mod_through_149 rfl ?_
              refine G_getR 153 d_Mod_through_150 rfl f_Mod_9 rfl h.sh h.f0 ?_
              refine G_bipushN 84 155 d_Mod_through_153 rfl rfl ?_
              refine G_iload1 156 d_Mod_through_155 rfl ?_
              first | refine G_imulN 157 d_Mod_through_156 rfl ?_ | refine G_imul 157 d_Mod_through_156 rfl ?_
              refine G_iload5 159 d_Mod_through_157 rfl ?_
              first | refine G_iaddN 160 d_Mod_through_159 rfl ?_ | refine G_iadd 160 d_Mod_through_159 rfl ?_
              refine G_laloadv 161 d_Mod_through_160 rfl h.s0 (ix_nI (by omega) (by omega)) e0 ?_
              refine G_lconst 0 162 d_Mod_through_161 rfl rfl ?_
              refine G_lceq 199 166 d_Mod_through_162 d_Mod_through_163 rfl rfl (fun h162 => ?_) (fun h162 => ?_)
              · exact absurd h162 hz
              · refine G_aload0 167 d_Mod_through_166 rfl ?_
                refine G_iload5 169 d_Mod_through_167 rfl ?_
                refine G_invV1v 172 d_Mod_through_169 rfl e_Mod_361 M_Mod_layPowers rfl h.sh (Nat.le_of_ble_eq_true rfl) (Nat.le_of_ble_eq_true rfl) rfl (lp BJ) ?_
                refine G_aload0 173 d_Mod_through_172 rfl ?_
                refine G_iconstN 2 174 d_Mod_through_173 rfl rfl ?_
                refine G_bipushN 13 176 d_Mod_through_174 rfl rfl ?_
                refine G_invV2 179 d_Mod_through_176 rfl e_Mod_341 M_Mod_productTo rfl h.sh (Nat.le_of_ble_eq_true rfl) (Nat.le_of_ble_eq_true rfl) rfl (G.conseq (hpr) (fun r176 X176 FI176 AI176 AL176 h176 => ?_))
                obtain ⟨b1, b2, b3, b4, b5, b6⟩ := h176
                replace b2 := b2.symm
                replace b3 := b3.symm
                replace b4 := b4.symm
                subst b1 b2 b3 b4
                have m17 : mp AL176 b 17 = acc := by rw [b5.2 17 (by omega) (by omega)]; exact h17
                have e5 : AL176 (b + 1) (84 * k + (83 - m)) = f (83 - m) := by
                  have := b5.2 k (by omega) (by omega)
                  rw [← mp_at (AL := AL176) ht, this, mp_at ht]; exact e0
                refine G_aload0 180 d_Mod_through_179 rfl ?_
                refine G_bipushN 17 182 d_Mod_through_180 rfl rfl ?_
                refine G_bipushN 13 184 d_Mod_through_182 rfl rfl ?_
                refine G_aload0 185 d_Mod_through_184 rfl ?_
                refine G_getR 188 d_Mod_through_185 rfl f_Mod_9 rfl h.sh h.f0 ?_
                refine G_bipushN 84 190 d_Mod_through_188 rfl rfl ?_
                refine G_iload1 191 d_Mod_through_190 rfl ?_
                first | refine G_imulN 192 d_Mod_through_191 rfl ?_ | refine G_imul 192 d_Mod_through_191 rfl ?_
                refine G_iload5 194 d_Mod_through_192 rfl ?_
                first | refine G_iaddN 195 d_Mod_through_194 rfl ?_ | refine G_iadd 195 d_Mod_through_194 rfl ?_
                refine G_laloadv 196 d_Mod_through_195 rfl h.s0 (ix_nI (by omega) (by omega)) e5 ?_
                refine G_invV3v 199 d_Mod_through_196 rfl e_Mod_212 M_Mod_addTo rfl h.sh (Nat.le_of_ble_eq_true rfl) (Nat.le_of_ble_eq_true rfl) rfl (s_mAdd (by assumption) (by omega) (by omega)) ?_
                first | refine G_iincN5 202 d_Mod_through_199 rfl (by decide) rfl ?_ | refine G_iinc5 _ 202 d_Mod_through_199 rfl (by decide) rfl rfl ?_
                refine G_goto 142 d_Mod_through_202 rfl ?_
                rw [m17, b6, show 83 - m + 1 = 84 - m by omega]
                refine ih (by omega) (addP acc (prodP (gP (tG S)) (pw (pr3 (83 - m))) (gN (tG S))) (f (83 - m))) AK _ _ _ _ _ (by rw [cu_addP, hc, prodP_cu]) kJ ⟨fun c hc => by rw [sp_off hc, b5.1 c hc]; exact hB.1 c hc, fun p hp => by rw [mp_spn (by omega), b5.2 p (by omega) (by omega)]; exact hB.2 p hp⟩ ?_ hs (fun q hq => hdg q (List.mem_cons_of_mem _ hq))
                rw [mp_sp]
                have := cu_addP acc (prodP (gP (tG S)) (pw (pr3 (83 - m))) (gN (tG S))) (f (83 - m))
                rw [hc, prodP_cu] at this
                exact this
      have L1 : ∀ m, m ≤ 84 → ∀ (dp : Bool) (a : Int64) (AJ : FT) (l6 l7 : Option Value), w2F AI AJ b → (dp = false → ∀ q ∈ thR f 84, q ∈ thR f m ∨ rdeg (gL (tG S)) q.2 (gN (tG S)) ≤ 6) → G V m_Mod_through (d + 5) 28 [some (.ref b), some (.int (nI k)), some (.long a), none, some (.int (nI (if dp = true then 1 else 0))), some (.int (nI (84 - m))), l6, l7] [] X FI AJ AL (fun r X' FI' AI' AL' => r = some (.int (thF S k f dp (thR f m) a).1) ∧ X' = X ∧ MIv (thF S k f dp (thR f m) a).2 FI' AI' AL' b ∧ fM FI FI' AI AI' AL AL' b) := by
        refine downto ?_ ?_
        · intro _ dp a AJ l6 l7 hJ hdd
          have hIJ : MIv S FI AJ AL b := hI.ap hW (hJ.ap (AL := AL))
          have hfm := (hJ.ap (FI := FI) (AL := AL)).fm
          cases dp with
          | true =>
            simp only [thF, Bool.true_or, if_true]
            refine G_iload5 30 d_Mod_through_28 rfl ?_
            refine G_bipushN 84 32 d_Mod_through_30 rfl rfl ?_
            first | refine G_icgeN 109 35 d_Mod_through_32 rfl rfl (by omega) (by omega) (fun h32 => ?_) (fun h32 => ?_) | refine G_icge 109 35 d_Mod_through_32 rfl rfl (fun h32 => ?_) (fun h32 => ?_)
            · refine G_iload4 111 d_Mod_through_109 rfl ?_
              refine G_ifne 120 114 d_Mod_through_111 rfl rfl (fun h111 => ?_) (fun h111 => ?_)
              · refine G_iload4 122 d_Mod_through_120 rfl ?_
                refine G_ifeq 130 125 d_Mod_through_122 rfl rfl (fun h122 => ?_) (fun h122 => ?_)
                · exact absurd h122 (by decide)
                · refine G_bipush (-6) 127 d_Mod_through_125 rfl rfl ?_
                  refine G_goto 132 d_Mod_through_127 rfl ?_
                  refine G_iret d_Mod_through_132 rfl ?_
                  exact ⟨rfl, rfl, hIJ, hfm⟩
              · exact absurd h111 (by decide)
            · omega
          | false =>
            have hz : (false || thD (gL (tG S)) (gN (tG S)) (thR f 0)) = false := rfl
            simp only [thF, hz, Bool.false_eq_true, if_false]
            refine G_iload5 30 d_Mod_through_28 rfl ?_
            refine G_bipushN 84 32 d_Mod_through_30 rfl rfl ?_
            first | refine G_icgeN 109 35 d_Mod_through_32 rfl rfl (by omega) (by omega) (fun h32 => ?_) (fun h32 => ?_) | refine G_icge 109 35 d_Mod_through_32 rfl rfl (fun h32 => ?_) (fun h32 => ?_)
            · refine G_iload4 111 d_Mod_through_109 rfl ?_
              refine G_ifne 120 114 d_Mod_through_111 rfl rfl (fun h111 => ?_) (fun h111 => ?_)
              · exact absurd rfl h111
              · refine G_lload2 115 d_Mod_through_114 rfl ?_
                refine G_lconst 0 116 d_Mod_through_115 rfl rfl ?_
                refine G_lcge 133 120 d_Mod_through_116 d_Mod_through_117 rfl rfl (fun h116 => ?_) (fun h116 => ?_)
                · have hlt : ¬ smC (gN (tG S)) (gP (tG S)) (thR f 0) a < 0 := h116
                  simp only [if_neg hlt]
                  have hall : ∀ q ∈ thR f 84, rdeg (gL (tG S)) q.2 (gN (tG S)) ≤ 6 := fun q hq => by
                    rcases hdd rfl q hq with c | c
                    · rw [thR] at c; simp at c
                    · exact c
                  refine G_aload0 134 d_Mod_through_133 rfl ?_
                  refine G_bipushN 17 136 d_Mod_through_134 rfl rfl ?_
                  refine G_invV1v 139 d_Mod_through_136 rfl e_Mod_162 M_Mod_clearAt rfl h.sh (Nat.le_of_ble_eq_true rfl) (Nat.le_of_ble_eq_true rfl) rfl (s_mClear (by assumption) (by omega)) ?_
                  refine G_iconstN 0 140 d_Mod_through_139 rfl rfl ?_
                  refine G_istore5 142 d_Mod_through_140 rfl (by decide) rfl ?_
                  exact L2 hall 84 (Nat.le_refl _) (fun _ => 0) AJ _ _ _ _ _ (by funext j; unfold cu; split <;> rfl) hJ ⟨fun c hc => sp_off hc, fun p hp => mp_spn (by omega)⟩ (by rw [mp_sp]; funext j; unfold cu; split <;> rfl) rfl hall
                · have hlt : smC (gN (tG S)) (gP (tG S)) (thR f 0) a < 0 := h116
                  simp only [if_pos hlt]
                  refine G_iload4 122 d_Mod_through_120 rfl ?_
                  refine G_ifeq 130 125 d_Mod_through_122 rfl rfl (fun h122 => ?_) (fun h122 => ?_)
                  · refine G_bipush (-5) 132 d_Mod_through_130 rfl rfl ?_
                    refine G_iret d_Mod_through_132 rfl ?_
                    exact ⟨rfl, rfl, hIJ, hfm⟩
                  · exact absurd rfl h122
            · omega
        · intro m ih hm dp a AJ l6 l7 hJ hdd
          have ht : 83 - m < 84 := by omega
          have e0 := hfat _ ht
          rw [show 84 - (m + 1) = 83 - m by omega]
          by_cases hz : f (83 - m) = 0
          · have hR : thR f (m + 1) = thR f m := by rw [thR, if_pos hz]
            rw [hR] at hdd ⊢
            refine G_iload5 30 d_Mod_through_28 rfl ?_
            refine G_bipushN 84 32 d_Mod_through_30 rfl rfl ?_
            first | refine G_icgeN 109 35 d_Mod_through_32 rfl rfl (by omega) (by omega) (fun h32 => ?_) (fun h32 => ?_) | refine G_icge 109 35 d_Mod_through_32 rfl rfl (fun h32 => ?_) (fun h32 => ?_)
            · omega
            · refine G_aload0 36 d_Mod_through_35 rfl ?_
              refine G_getR 39 d_Mod_through_36 rfl f_Mod_9 rfl h.sh h.f0 ?_
              refine G_bipushN 84 41 d_Mod_through_39 rfl rfl ?_
              refine G_iload1 42 d_Mod_through_41 rfl ?_
              first | refine G_imulN 43 d_Mod_through_42 rfl ?_ | refine G_imul 43 d_Mod_through_42 rfl ?_
              refine G_iload5 45 d_Mod_through_43 rfl ?_
              first | refine G_iaddN 46 d_Mod_through_45 rfl ?_ | refine G_iadd 46 d_Mod_through_45 rfl ?_
              refine G_laloadv 47 d_Mod_through_46 rfl h.s0 (ix_nI (by omega) (by omega)) e0 ?_
              refine G_lstore6 49 d_Mod_through_47 rfl (by decide) rfl ?_
              refine G_lload6 51 d_Mod_through_49 rfl ?_
              refine G_lconst 0 52 d_Mod_through_51 rfl rfl ?_
              refine G_lceq 103 56 d_Mod_through_52 d_Mod_through_53 rfl rfl (fun h52 => ?_) (fun h52 => ?_)
              · first | refine G_iincN5 106 d_Mod_through_103 rfl (by decide) rfl ?_ | refine G_iinc5 _ 106 d_Mod_through_103 rfl (by decide) rfl rfl ?_
                refine G_goto 28 d_Mod_through_106 rfl ?_
                rw [show 83 - m + 1 = 84 - m by omega]
                exact ih (by omega) dp a AJ _ _ hJ hdd
              · exact absurd hz h52
          · have hR : thR f (m + 1) = (f (83 - m), pr3 (83 - m)) :: thR f m := by rw [thR, if_neg hz]
            rw [hR] at hdd ⊢
            have hTJ : MTb AJ b := ⟨fun s hs => by rw [hJ.1 _ (by omega), hJ.1 _ (by omega), hJ.1 _ (by omega)]; exact hT.1 s hs, fun x y z hs => by rw [hJ.1 _ (by omega)]; exact hT.2 x y z hs⟩
            have hglJ : MGl AJ b (gN (tG S)) (gL (tG S)) := fun i hi => by rw [hJ.1 _ (by omega)]; exact hgl i hi
            obtain ⟨AK, lp, kJ0, kr⟩ := s_mLayPowers (V := V) (d := d + 4) (FI := FI) (AI := AJ) h hTJ ht
            have kJ := hJ.tr kJ0
            have hco := s_mCost (V := V) (d := d + 2) (w := 2) (P := pw (pr3 (83 - m))) (AI := AK) (AL := AL) h hn9 hn7 (by omega) (fun g hg => ⟨kr g (by omega), pw_lt _ _⟩)
            rw [cost_congr (nm' := fun g => norm (gP (tG S) g)) (P' := pw (pr3 (83 - m))) (fun i hi => by rw [(hG.2.2.2.2 i hi).2.1]) (fun _ _ => rfl)] at hco
            have hdb := s_mDepthBy (V := V) (d := d + 3) (FI := FI) (AL := AL) h hTJ hglJ (show 3 ≤ gN (tG S) by omega) hn7 ht
            have hdlt : rdeg (gL (tG S)) (pr3 (83 - m)) (gN (tG S)) < 2 ^ 31 := by
              rw [rdeg3 (by omega) hn7 ht]
              have e := e_le ht
              have d0 := (e_le (hgl 0 (by omega)).2.1).2.2.2.1
              have d1 := (e_le (hgl 1 (by omega)).2.1).2.2.2.1
              have d2 := (e_le (hgl 2 (by omega)).2.1).2.2.2.1
              have m0 : eX (83 - m) * eD (gL (tG S) 0) ≤ 6 * 6 := Nat.mul_le_mul e.1 d0
              have m1 : eY (83 - m) * eD (gL (tG S) 1) ≤ 6 * 6 := Nat.mul_le_mul e.2.1 d1
              have m2 : eZ (83 - m) * eD (gL (tG S) 2) ≤ 6 * 6 := Nat.mul_le_mul e.2.2.1 d2
              omega
            -- behind the test of depth
            have rest : ∀ dp' : Bool, (dp' = (dp || decide (6 < rdeg (gL (tG S)) (pr3 (83 - m)) (gN (tG S))))) → G V m_Mod_through (d + 5) 79 [some (.ref b), some (.int (nI k)), some (.long a), none, some (.int (nI (if dp' = true then 1 else 0))), some (.int (nI (83 - m))), some (.long (f (83 - m))), none] [] X FI AJ AL (fun r X' FI' AI' AL' => r = some (.int (thF S k f dp ((f (83 - m), pr3 (83 - m)) :: thR f m) a).1) ∧ X' = X ∧ MIv (thF S k f dp ((f (83 - m), pr3 (83 - m)) :: thR f m) a).2 FI' AI' AL' b ∧ fM FI FI' AI AI' AL AL' b) := by
              intro dp' hdp
              have heq : thF S k f dp ((f (83 - m), pr3 (83 - m)) :: thR f m) a = thF S k f dp' (thR f m) (sumA a (prodA (labs (f (83 - m))) (cost (fun g => norm (gP (tG S) g)) (pw (pr3 (83 - m))) (gN (tG S))))) := by
                unfold thF
                have : (dp || thD (gL (tG S)) (gN (tG S)) ((f (83 - m), pr3 (83 - m)) :: thR f m)) = (dp' || thD (gL (tG S)) (gN (tG S)) (thR f m)) := by
                  rw [hdp, thD, List.any_cons, Bool.or_assoc]; rfl
                rw [this]; rfl
              rw [heq]
              refine G_aload0 80 d_Mod_through_79 rfl ?_
              refine G_iload5 82 d_Mod_through_80 rfl ?_
              refine G_invV1v 85 d_Mod_through_82 rfl e_Mod_361 M_Mod_layPowers rfl h.sh (Nat.le_of_ble_eq_true rfl) (Nat.le_of_ble_eq_true rfl) rfl (lp AL) ?_
              refine G_lload2 86 d_Mod_through_85 rfl ?_
              refine G_lload6 88 d_Mod_through_86 rfl ?_
              refine G_invS1d 91 d_Mod_through_88 rfl e_Mod_158 M_Mod_size (Nat.le_of_ble_eq_true rfl) (Nat.le_of_ble_eq_true rfl) rfl (s_mSize) ?_
              refine G_aload0 92 d_Mod_through_91 rfl ?_
              refine G_iconstN 2 93 d_Mod_through_92 rfl rfl ?_
              refine G_invV1d 96 d_Mod_through_93 rfl e_Mod_338 M_Mod_costOf rfl h.sh (Nat.le_of_ble_eq_true rfl) (Nat.le_of_ble_eq_true rfl) rfl (hco) ?_
              refine G_invS2d 99 d_Mod_through_96 rfl e_Mod_205 M_Mod_timesUp (Nat.le_of_ble_eq_true rfl) (Nat.le_of_ble_eq_true rfl) rfl (s_mTimesUp) ?_
              refine G_invS2d 102 d_Mod_through_99 rfl e_Mod_198 M_Mod_plusUp (Nat.le_of_ble_eq_true rfl) (Nat.le_of_ble_eq_true rfl) rfl (s_mPlusUp) ?_
              refine G_lstore2 103 d_Mod_through_102 rfl (by decide) rfl ?_
              first | refine G_iincN5 106 d_Mod_through_103 rfl (by decide) rfl ?_ | refine G_iinc5 _ 106 d_Mod_through_103 rfl (by decide) rfl rfl ?_
              refine G_goto 28 d_Mod_through_106 rfl ?_
              rw [show 83 - m + 1 = 84 - m by omega]
              refine ih (by omega) dp' _ AK _ _ kJ (fun e q hq => ?_)
              rw [e] at hdp
              have hb := (Bool.or_eq_false_iff.mp hdp.symm)
              rcases hdd hb.1 q hq with c | c
              · rcases List.mem_cons.mp c with c2 | c2
                · right
                  rw [c2]
                  have := of_decide_eq_false hb.2
                  show rdeg (gL (tG S)) (pr3 (83 - m)) (gN (tG S)) ≤ 6
                  omega
                · exact Or.inl c2
              · exact Or.inr c
            refine G_iload5 30 d_Mod_through_28 rfl ?_
            refine G_bipushN 84 32 d_Mod_through_30 rfl rfl ?_
            first | refine G_icgeN 109 35 d_Mod_through_32 rfl rfl (by omega) (by omega) (fun h32 => ?_) (fun h32 => ?_) | refine G_icge 109 35 d_Mod_through_32 rfl rfl (fun h32 => ?_) (fun h32 => ?_)
            · omega
            · refine G_aload0 36 d_Mod_through_35 rfl ?_
              refine G_getR 39 d_Mod_through_36 rfl f_Mod_9 rfl h.sh h.f0 ?_
              refine G_bipushN 84 41 d_Mod_through_39 rfl rfl ?_
              refine G_iload1 42 d_Mod_through_41 rfl ?_
              first | refine G_imulN 43 d_Mod_through_42 rfl ?_ | refine G_imul 43 d_Mod_through_42 rfl ?_
              refine G_iload5 45 d_Mod_through_43 rfl ?_
              first | refine G_iaddN 46 d_Mod_through_45 rfl ?_ | refine G_iadd 46 d_Mod_through_45 rfl ?_
              refine G_laloadv 47 d_Mod_through_46 rfl h.s0 (ix_nI (by omega) (by omega)) e0 ?_
              refine G_lstore6 49 d_Mod_through_47 rfl (by decide) rfl ?_
              refine G_lload6 51 d_Mod_through_49 rfl ?_
              refine G_lconst 0 52 d_Mod_through_51 rfl rfl ?_
              refine G_lceq 103 56 d_Mod_through_52 d_Mod_through_53 rfl rfl (fun h52 => ?_) (fun h52 => ?_)
              · exact absurd h52 hz
              · cases dp with
                | true =>
                  refine G_iload4 58 d_Mod_through_56 rfl ?_
                  refine G_ifne 72 61 d_Mod_through_58 rfl rfl (fun h58 => ?_) (fun h58 => ?_)
                  · refine G_iconstN 1 73 d_Mod_through_72 rfl rfl ?_
                    refine G_goto 77 d_Mod_through_73 rfl ?_
                    refine G_istore4 79 d_Mod_through_77 rfl (by decide) rfl ?_
                    exact rest true (by simp)
                  · exact absurd h58 (by decide)
                | false =>
                  refine G_iload4 58 d_Mod_through_56 rfl ?_
                  refine G_ifne 72 61 d_Mod_through_58 rfl rfl (fun h58 => ?_) (fun h58 => ?_)
                  · exact absurd rfl h58
                  · refine G_aload0 62 d_Mod_through_61 rfl ?_
                    refine G_iload5 64 d_Mod_through_62 rfl ?_
                    refine G_invV1d 67 d_Mod_through_64 rfl e_Mod_358 M_Mod_depthBy rfl h.sh (Nat.le_of_ble_eq_true rfl) (Nat.le_of_ble_eq_true rfl) rfl (hdb) ?_
                    refine G_bipushN 6 69 d_Mod_through_67 rfl rfl ?_
                    first | refine G_icleN 76 72 d_Mod_through_69 rfl rfl (by omega) (by omega) (fun h69 => ?_) (fun h69 => ?_) | refine G_icle 76 72 d_Mod_through_69 rfl rfl (fun h69 => ?_) (fun h69 => ?_)
                    · refine G_iconstN 0 77 d_Mod_through_76 rfl rfl ?_
                      refine G_istore4 79 d_Mod_through_77 rfl (by decide) rfl ?_
                      exact rest false (by rw [decide_eq_false (by omega)]; rfl)
                    · refine G_iconstN 1 73 d_Mod_through_72 rfl rfl ?_
                      refine G_goto 77 d_Mod_through_73 rfl ?_
                      refine G_istore4 79 d_Mod_through_77 rfl (by decide) rfl ?_
                      exact rest true (by rw [decide_eq_true (by omega)]; rfl)
      refine G_aload0 10 d_Mod_through_9 rfl ?_
      refine G_getIv 13 d_Mod_through_10 rfl f_Mod_133 rfl h.sh hn9 ?_
      refine G_iconstN 3 14 d_Mod_through_13 rfl rfl ?_
      first | refine G_icgeN 20 17 d_Mod_through_14 rfl rfl (by omega) (by omega) (fun h14 => ?_) (fun h14 => ?_) | refine G_icge 20 17 d_Mod_through_14 rfl rfl (fun h14 => ?_) (fun h14 => ?_)
      · refine G_lconst 0 21 d_Mod_through_20 rfl rfl ?_
        refine G_lstore2 22 d_Mod_through_21 rfl (by decide) rfl ?_
        refine G_iconstN 0 23 d_Mod_through_22 rfl rfl ?_
        refine G_istore4 25 d_Mod_through_23 rfl (by decide) rfl ?_
        refine G_iconstN 0 26 d_Mod_through_25 rfl rfl ?_
        refine G_istore5 28 d_Mod_through_26 rfl (by decide) rfl ?_
        exact L1 84 (Nat.le_refl _) false 0 AI none none w2F.rf (fun _ q hq => Or.inl hq)
      · omega
  · have q1 := bN_f h1 (show 6 < 2 ^ 31 by omega)
    simp only [fThrough, q1, Bool.false_eq_true, if_false]
    refine G_iconst (-1) 8 d_Mod_through_7 rfl rfl ?_
    refine G_iret d_Mod_through_8 rfl ?_
    exact ⟨rfl, rfl, hI, fM.rf⟩
