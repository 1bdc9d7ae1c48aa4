/-! ===== constructors: GENERATORS, what is KEPT ===== -/
abbrev genL : List (Nat × Nat) := [(10, 9), (3, 7), (0, 7), (1, 7), (0, 7), (0, 7), (1, 602), (0, 602), (1, 7), (14, 1), (1, 84), (14, 1), (1, 84), (14, 1), (1, 84), (14, 1), (1, 84), (14, 1), (1, 84), (14, 1), (1, 84), (14, 1), (1, 84)]
def gnX (X : XT) : XT := (xput (xnew (xput (xnew (xput (xnew (xput (xnew (xput (xnew (xput (xnew (xput (xnew (xput (xnew (xnew X 10 9) 3 7) (x_sz X) 1 (some (x_sz X + 1))) 0 7) (x_sz X) 2 (some (x_sz X + 2))) 1 7) (x_sz X) 3 (some (x_sz X + 3))) 0 7) (x_sz X) 4 (some (x_sz X + 4))) 0 7) (x_sz X) 5 (some (x_sz X + 5))) 1 602) (x_sz X) 6 (some (x_sz X + 6))) 0 602) (x_sz X) 7 (some (x_sz X + 7))) 1 7) (x_sz X) 8 (some (x_sz X + 8)))
def genX (X : XT) : XT := plsX (gnX X) (x_sz X + 1) 7
theorem plsX_sz (X : XT) (a : Nat) : ∀ k, x_sz (plsX X a k) = x_sz X + 2 * k
  | 0 => rfl
  | k + 1 => by
    have := plsX_sz X a k
    show x_sz (plsX X a k) + 1 + 1 = _
    omega
theorem plsX_sh (X : XT) (a c : Nat) (hc : c < x_sz X) : ∀ k, x_sh (plsX X a k) c = x_sh X c
  | 0 => rfl
  | k + 1 => by
    have := plsX_sh X a c hc k
    have hz := plsX_sz X a k
    show x_sh (xnew (xnew (plsX X a k) 14 1) 1 84) c = _
    rw [xn_ne (by show c ≠ x_sz (plsX X a k) + 1; omega), xn_ne (by omega)]
    exact this
theorem plX_sh (X : XT) (a i : Nat) : x_sh (xput (xnew (xnew X 14 1) 1 84) (x_sz X) 0 (some (x_sz X + 1))) (x_sz X) = some (14, 1) := by
  show x_sh (xnew (xnew X 14 1) 1 84) (x_sz X) = _
  rw [xn_ne (by show x_sz X ≠ x_sz X + 1; omega), xn_at rfl]
theorem xput_sh (X : XT) (a j : Nat) (v : Option Nat) (c : Nat) : x_sh (xput X a j v) c = x_sh X c := rfl
theorem plX_sh2 (X : XT) (c : Nat) (hc : c < x_sz X) : x_sh (xput (xnew (xnew X 14 1) 1 84) (x_sz X) 0 (some (x_sz X + 1))) c = x_sh X c := by
  rw [xput_sh, xn_ne (by show c ≠ x_sz X + 1; omega), xn_ne (by omega)]
theorem s_genInit {V : GV} {d : Nat} {X : XT} {FI AI : FT} {AL : LT} : G V m_Gen_init (d + 2) 0 [some (.ref (x_sz X)), none] [] (xnew X 10 9) FI AI AL (fun r X' FI' AI' AL' => r = none ∧ X' = genX X ∧ zE 0 (u2 FI (x_sz X) 0 0) FI' (x_sz X + 1) ∧ zE 0 AI AI' (x_sz X + 1) ∧ zE 0 AL AL' (x_sz X + 1)) := by
  have y0 := LY.o genL (X := X) (lo := x_sz X) rfl
  have y1 := y0.new (t := 10) (w := 9) rfl
  refine G_aload0 1 d_Gen_init_0 rfl ?_
  refine G_objInit 4 d_Gen_init_1 rfl e_Gen_3 (Nat.le_of_ble_eq_true rfl) ?_
  refine G_aload0 5 d_Gen_init_4 rfl ?_
  refine G_iconstN 0 6 d_Gen_init_5 rfl rfl ?_
  refine G_putI 9 d_Gen_init_6 rfl f_Gen_9 rfl (by intro C T N h; cases h; rfl) (y1.sh 0 (by omega) rfl) rfl rfl ?_
  refine G_aload0 10 d_Gen_init_9 rfl ?_
  refine G_bipushN 7 12 d_Gen_init_10 rfl rfl ?_
  refine G_newR 3 7 15 d_Gen_init_12 rfl c_Gen_15 (by decide) (by decide) rfl rfl (by omega) ?_
  have y2 := y1.new (t := 3) (w := 7) rfl
  refine G_putX (x := some _) true 18 d_Gen_init_15 rfl f_Gen_17 rfl rfl (by intro C T N h; cases h; rfl) (fun _ => ⟨rfl, by intro C T N h; cases h; rfl⟩) (y2.sh 0 (by omega) rfl) rfl rfl ?_
  have y3 := y2.put (c := 0) (j := 1) (v := 1) rfl (congrArg some y1.1) (by omega) (by decide)
  refine G_aload0 19 d_Gen_init_18 rfl ?_
  refine G_bipushN 7 21 d_Gen_init_19 rfl rfl ?_
  refine G_newI 7 23 d_Gen_init_21 rfl ac_int rfl (by omega) ?_
  have y4 := y3.new (t := 0) (w := 7) rfl
  refine G_putX (x := some _) true 26 d_Gen_init_23 rfl f_Gen_21 rfl rfl (by intro C T N h; cases h; rfl) (fun _ => ⟨rfl, by intro C T N h; cases h; rfl⟩) (y4.sh 0 (by omega) rfl) rfl rfl ?_
  have y5 := y4.put (c := 0) (j := 2) (v := 2) rfl (congrArg some y3.1) (by omega) (by decide)
  refine G_aload0 27 d_Gen_init_26 rfl ?_
  refine G_bipushN 7 29 d_Gen_init_27 rfl rfl ?_
  refine G_newL 7 31 d_Gen_init_29 rfl ac_long rfl (by omega) ?_
  have y6 := y5.new (t := 1) (w := 7) rfl
  refine G_putX (x := some _) true 34 d_Gen_init_31 rfl f_Gen_25 rfl rfl (by intro C T N h; cases h; rfl) (fun _ => ⟨rfl, by intro C T N h; cases h; rfl⟩) (y6.sh 0 (by omega) rfl) rfl rfl ?_
  have y7 := y6.put (c := 0) (j := 3) (v := 3) rfl (congrArg some y5.1) (by omega) (by decide)
  refine G_aload0 35 d_Gen_init_34 rfl ?_
  refine G_bipushN 7 37 d_Gen_init_35 rfl rfl ?_
  refine G_newI 7 39 d_Gen_init_37 rfl ac_int rfl (by omega) ?_
  have y8 := y7.new (t := 0) (w := 7) rfl
  refine G_putX (x := some _) true 42 d_Gen_init_39 rfl f_Gen_29 rfl rfl (by intro C T N h; cases h; rfl) (fun _ => ⟨rfl, by intro C T N h; cases h; rfl⟩) (y8.sh 0 (by omega) rfl) rfl rfl ?_
  have y9 := y8.put (c := 0) (j := 4) (v := 4) rfl (congrArg some y7.1) (by omega) (by decide)
  refine G_aload0 43 d_Gen_init_42 rfl ?_
  refine G_bipushN 7 45 d_Gen_init_43 rfl rfl ?_
  refine G_newI 7 47 d_Gen_init_45 rfl ac_int rfl (by omega) ?_
  have y10 := y9.new (t := 0) (w := 7) rfl
  refine G_putX (x := some _) true 50 d_Gen_init_47 rfl f_Gen_32 rfl rfl (by intro C T N h; cases h; rfl) (fun _ => ⟨rfl, by intro C T N h; cases h; rfl⟩) (y10.sh 0 (by omega) rfl) rfl rfl ?_
  have y11 := y10.put (c := 0) (j := 5) (v := 5) rfl (congrArg some y9.1) (by omega) (by decide)
  refine G_aload0 51 d_Gen_init_50 rfl ?_
  refine G_sipushN 602 54 d_Gen_init_51 rfl rfl ?_
  refine G_newL 602 56 d_Gen_init_54 rfl ac_long rfl (by omega) ?_
  have y12 := y11.new (t := 1) (w := 602) rfl
  refine G_putX (x := some _) true 59 d_Gen_init_56 rfl f_Gen_35 rfl rfl (by intro C T N h; cases h; rfl) (fun _ => ⟨rfl, by intro C T N h; cases h; rfl⟩) (y12.sh 0 (by omega) rfl) rfl rfl ?_
  have y13 := y12.put (c := 0) (j := 6) (v := 6) rfl (congrArg some y11.1) (by omega) (by decide)
  refine G_aload0 60 d_Gen_init_59 rfl ?_
  refine G_sipushN 602 63 d_Gen_init_60 rfl rfl ?_
  refine G_newI 602 65 d_Gen_init_63 rfl ac_int rfl (by omega) ?_
  have y14 := y13.new (t := 0) (w := 602) rfl
  refine G_putX (x := some _) true 68 d_Gen_init_65 rfl f_Gen_38 rfl rfl (by intro C T N h; cases h; rfl) (fun _ => ⟨rfl, by intro C T N h; cases h; rfl⟩) (y14.sh 0 (by omega) rfl) rfl rfl ?_
  have y15 := y14.put (c := 0) (j := 7) (v := 7) rfl (congrArg some y13.1) (by omega) (by decide)
  refine G_aload0 69 d_Gen_init_68 rfl ?_
  refine G_bipushN 7 71 d_Gen_init_69 rfl rfl ?_
  refine G_newL 7 73 d_Gen_init_71 rfl ac_long rfl (by omega) ?_
  have y16 := y15.new (t := 1) (w := 7) rfl
  refine G_putX (x := some _) true 76 d_Gen_init_73 rfl f_Gen_41 rfl rfl (by intro C T N h; cases h; rfl) (fun _ => ⟨rfl, by intro C T N h; cases h; rfl⟩) (y16.sh 0 (by omega) rfl) rfl rfl ?_
  have y17 := y16.put (c := 0) (j := 8) (v := 8) rfl (congrArg some y15.1) (by omega) (by decide)
  have z0 := y17
  refine G_iconstN 0 77 d_Gen_init_76 rfl rfl ?_
  refine G_istore1 78 d_Gen_init_77 rfl (by decide) rfl ?_
  have e0 : x_sz (gnX X) = x_sz X + 9 := rfl
  have hs : x_sh (gnX X) (x_sz X + 1) = some (3, 7) := z0.sh 1 (by omega) rfl
  have hg : x_sh (gnX X) (x_sz X) = some (10, 9) := z0.sh 0 (by omega) rfl
  have hf : x_FR (gnX X) (x_sz X) 1 = some (x_sz X + 1) := z0.fr 0 1 1 (by decide)
  have hfp : ∀ k, x_FR (plsX (gnX X) (x_sz X + 1) k) (x_sz X) = x_FR (gnX X) (x_sz X) := by
    intro k
    induction k with
    | zero => rfl
    | succ k ih =>
      have hz := plsX_sz (gnX X) (x_sz X + 1) k
      show u2 (x_FR (xnew (xnew (plsX (gnX X) (x_sz X + 1) k) 14 1) 1 84)) _ _ _ (x_sz X) = _
      rw [u2_off _ _ _ (by omega), xn_fr (by show x_sz X ≠ x_sz (plsX (gnX X) (x_sz X + 1) k) + 1; omega), xn_fr (by omega)]
      exact ih
  have L : ∀ k, k ≤ 7 → ∀ (FJ : FT) (AJ : LT), zE 0 (u2 FI (x_sz X) 0 0) FJ (x_sz X + 1) → zE 0 AL AJ (x_sz X + 1) → ∀ BJ : FT, zE 0 AI BJ (x_sz X + 1) → G V m_Gen_init (d + 2) 78 [some (.ref (x_sz X)), some (.int (nI k))] [] (plsX (gnX X) (x_sz X + 1) k) FJ BJ AJ (fun r X' FI' AI' AL' => r = none ∧ X' = genX X ∧ zE 0 (u2 FI (x_sz X) 0 0) FI' (x_sz X + 1) ∧ zE 0 AI AI' (x_sz X + 1) ∧ zE 0 AL AL' (x_sz X + 1)) := by
    refine upto ?_ ?_
    · intro FJ AJ k1 k2 BJ k3
      refine G_iload1 79 d_Gen_init_78 rfl ?_
      refine G_bipushN 7 81 d_Gen_init_79 rfl rfl ?_
      first | refine G_icgeN 103 84 d_Gen_init_81 rfl rfl (by omega) (by omega) (fun h81 => ?_) (fun h81 => ?_) | refine G_icge 103 84 d_Gen_init_81 rfl rfl (fun h81 => ?_) (fun h81 => ?_)
      · refine G_vret d_Gen_init_103 rfl ?_
        exact ⟨rfl, rfl, k1, k3, k2⟩
      · omega
    · intro k hk ih FJ AJ k1 k2 BJ k3
      have hz := plsX_sz (gnX X) (x_sz X + 1) k
      have hs2 := plsX_sh (gnX X) (x_sz X + 1) (x_sz X + 1) (by omega) k
      have hg2 : x_sh (plsX (gnX X) (x_sz X + 1) k) (x_sz X) = some (10, 9) := (plsX_sh (gnX X) (x_sz X + 1) (x_sz X) (by omega) k).trans hg
      have hf2 : x_FR (plsX (gnX X) (x_sz X + 1) k) (x_sz X) 1 = some (x_sz X + 1) := by rw [hfp]; exact hf
      have hPi := s_polyInit (V := V) (d := d) (X := xnew (plsX (gnX X) (x_sz X + 1) k) 14 1) (FI := z2 FJ (x_sz (plsX (gnX X) (x_sz X + 1) k)) 0) (AI := BJ) (AL := AJ) (p := x_sz (plsX (gnX X) (x_sz X + 1) k)) (if_pos rfl) (show x_sz (plsX (gnX X) (x_sz X + 1) k) < x_sz (plsX (gnX X) (x_sz X + 1) k) + 1 by omega)
      refine G_iload1 79 d_Gen_init_78 rfl ?_
      refine G_bipushN 7 81 d_Gen_init_79 rfl rfl ?_
      first | refine G_icgeN 103 84 d_Gen_init_81 rfl rfl (by omega) (by omega) (fun h81 => ?_) (fun h81 => ?_) | refine G_icge 103 84 d_Gen_init_81 rfl rfl (fun h81 => ?_) (fun h81 => ?_)
      · omega
      · refine G_aload0 85 d_Gen_init_84 rfl ?_
        refine G_getR 88 d_Gen_init_85 rfl f_Gen_17 rfl (by assumption) (by assumption) ?_
        refine G_iload1 89 d_Gen_init_88 rfl ?_
        refine G_new (ci := 4) (T := T_Poly) 92 d_Gen_init_89 rfl c_Gen_15 q_Poly rfl ?_
        refine G_dup 93 d_Gen_init_92 rfl rfl ?_
        refine G_invIN0v 96 d_Gen_init_93 rfl e_Gen_44 M_Poly_init rfl (Nat.le_of_ble_eq_true rfl) (Nat.le_of_ble_eq_true rfl) rfl (hPi) ?_
        refine G_aastX (t := 3) (w := 7) (j0 := k) (ci := 4) (w2 := 1) 97 d_Gen_init_96 rfl ?_ (by decide) (by decide) (ix_nI (by omega) (by omega)) (plX_sh _ 0 0) rfl rfl ?_
        · exact (plX_sh2 (plsX (gnX X) (x_sz X + 1) k) (x_sz X + 1) (by omega)).trans (hs2.trans hs)
        · first | refine G_iincN1 100 d_Gen_init_97 rfl (by decide) rfl ?_ | refine G_iinc1 _ 100 d_Gen_init_97 rfl (by decide) rfl rfl ?_
          refine G_goto 78 d_Gen_init_100 rfl ?_
          exact ih _ _ (k1.z (by omega)) (k2.z (by show x_sz X + 1 ≤ x_sz (plsX (gnX X) (x_sz X + 1) k) + 1; omega)) _ k3
  exact L 0 (Nat.zero_le _) _ _ zE.rf (((zE.rf.z (by show x_sz X + 1 ≤ x_sz X + 3; omega)).z (by show x_sz X + 1 ≤ x_sz X + 6; omega)).z (by show x_sz X + 1 ≤ x_sz X + 8; omega)) _ ((((zE.rf.z (by show x_sz X + 1 ≤ x_sz X + 2; omega)).z (by show x_sz X + 1 ≤ x_sz X + 4; omega)).z (by show x_sz X + 1 ≤ x_sz X + 5; omega)).z (by show x_sz X + 1 ≤ x_sz X + 7; omega))
