/-! ===== constructors: what is KEPT ===== -/
def gnK (n : Nat) (K : List (Nat × Nat × Nat)) : List (Nat × Nat × Nat) := pK (n + 9) ((n, 8, n + 8) :: ((n, 7, n + 7) :: ((n, 6, n + 6) :: ((n, 5, n + 5) :: ((n, 4, n + 4) :: ((n, 3, n + 3) :: ((n, 2, n + 2) :: ((n, 1, n + 1) :: K)))))))) 7
theorem LY.gen {sl : List (Nat × Nat)} {X0 X : XT} {lo n m : Nat} {K A : List (Nat × Nat × Nat)} (h : LY sl X0 X lo n m K A) (hs : ∀ i q, genL[i]? = some q → sl[n + i]? = some q) : LY sl X0 (genX X) lo (n + 23) (m + 1850) (gnK n K) (pA (n + 1) (n + 9) A 7) := by
  have kn : ∀ j i, i < j → ∀ L : List (Nat × Nat × Nat), (∀ q ∈ L, q.1 = n ∧ q.2.1 ≤ i) → ∀ q ∈ L ++ K, ¬ (q.1 = n ∧ q.2.1 = j) := by
    intro j i hij L hL q hq e
    rcases List.mem_append.mp hq with e2 | e2
    · have := (hL q e2).2; omega
    · exact h.kn n j (Nat.le_refl _) q e2 e
  have y0 := h.new (t := 10) (w := 9) (hs 0 (10, 9) rfl)
  have w0 := y0.new (t := 3) (w := 7) (hs 1 (3, 7) rfl)
  have y1 := w0.put (c := n) (j := 1) (v := n + 1) (a := x_sz X) (x := some (x_sz X + 1)) h.1 (by rw [h.1]; rfl) (by omega) (kn 1 0 (by omega) [] (by simp))
  have w1 := y1.new (t := 0) (w := 7) (hs 2 (0, 7) rfl)
  have y2 := w1.put (c := n) (j := 2) (v := n + 2) (a := x_sz X) (x := some (x_sz X + 2)) h.1 (by rw [h.1]; rfl) (by omega) (kn 2 1 (by omega) [(n, 1, n + 1)] (by simp))
  have w2 := y2.new (t := 1) (w := 7) (hs 3 (1, 7) rfl)
  have y3 := w2.put (c := n) (j := 3) (v := n + 3) (a := x_sz X) (x := some (x_sz X + 3)) h.1 (by rw [h.1]; rfl) (by omega) (kn 3 2 (by omega) [(n, 2, n + 2), (n, 1, n + 1)] (by simp))
  have w3 := y3.new (t := 0) (w := 7) (hs 4 (0, 7) rfl)
  have y4 := w3.put (c := n) (j := 4) (v := n + 4) (a := x_sz X) (x := some (x_sz X + 4)) h.1 (by rw [h.1]; rfl) (by omega) (kn 4 3 (by omega) [(n, 3, n + 3), (n, 2, n + 2), (n, 1, n + 1)] (by simp))
  have w4 := y4.new (t := 0) (w := 7) (hs 5 (0, 7) rfl)
  have y5 := w4.put (c := n) (j := 5) (v := n + 5) (a := x_sz X) (x := some (x_sz X + 5)) h.1 (by rw [h.1]; rfl) (by omega) (kn 5 4 (by omega) [(n, 4, n + 4), (n, 3, n + 3), (n, 2, n + 2), (n, 1, n + 1)] (by simp))
  have w5 := y5.new (t := 1) (w := 602) (hs 6 (1, 602) rfl)
  have y6 := w5.put (c := n) (j := 6) (v := n + 6) (a := x_sz X) (x := some (x_sz X + 6)) h.1 (by rw [h.1]; rfl) (by omega) (kn 6 5 (by omega) [(n, 5, n + 5), (n, 4, n + 4), (n, 3, n + 3), (n, 2, n + 2), (n, 1, n + 1)] (by simp))
  have w6 := y6.new (t := 0) (w := 602) (hs 7 (0, 602) rfl)
  have y7 := w6.put (c := n) (j := 7) (v := n + 7) (a := x_sz X) (x := some (x_sz X + 7)) h.1 (by rw [h.1]; rfl) (by omega) (kn 7 6 (by omega) [(n, 6, n + 6), (n, 5, n + 5), (n, 4, n + 4), (n, 3, n + 3), (n, 2, n + 2), (n, 1, n + 1)] (by simp))
  have w7 := y7.new (t := 1) (w := 7) (hs 8 (1, 7) rfl)
  have y8 := w7.put (c := n) (j := 8) (v := n + 8) (a := x_sz X) (x := some (x_sz X + 8)) h.1 (by rw [h.1]; rfl) (by omega) (kn 8 7 (by omega) [(n, 7, n + 7), (n, 6, n + 6), (n, 5, n + 5), (n, 4, n + 4), (n, 3, n + 3), (n, 2, n + 2), (n, 1, n + 1)] (by simp))
  have hsz : ∀ i, i < 7 → sl[n + 9 + 2 * i]? = some (14, 1) ∧ sl[n + 9 + 2 * i + 1]? = some (1, 84) := by
    intro i hi
    have hl : ∀ i, i < 7 → genL[9 + 2 * i]? = some (14, 1) ∧ genL[9 + 2 * i + 1]? = some (1, 84) := by decide
    exact ⟨by rw [Nat.add_assoc]; exact hs _ _ (hl i hi).1, by rw [Nat.add_assoc, Nat.add_assoc, ← Nat.add_assoc 9]; exact hs _ _ (hl i hi).2⟩
  have := y8.pls (a := x_sz X + 1) (c := n + 1) (by rw [h.1]; omega) (by omega) (fun q hq e => by have := (h.2.2.2.1 q hq).1; omega) 7 hsz
  exact this
abbrev keptL : List (Nat × Nat) := [(11, 3), (3, 6), (10, 9), (3, 7), (0, 7), (1, 7), (0, 7), (0, 7), (1, 602), (0, 602), (1, 7), (14, 1), (1, 84), (14, 1), (1, 84), (14, 1), (1, 84), (14, 1), (1, 84), (14, 1), (1, 84), (14, 1), (1, 84), (14, 1), (1, 84), (14, 1), (1, 84), (14, 1), (1, 84), (14, 1), (1, 84), (14, 1), (1, 84), (14, 1), (1, 84), (14, 1), (1, 84)]
def kpX (X : XT) : XT := xput (genX (xput (xnew (xnew X 11 3) 3 6) (x_sz X) 1 (some (x_sz X + 1)))) (x_sz X) 2 (some (x_sz X + 2))
def keptX (X : XT) : XT := plsX (kpX X) (x_sz X + 1) 6
def kpK : List (Nat × Nat × Nat) := pK 25 ((0, 2, 2) :: gnK 2 [(0, 1, 1)]) 6
def kpA : List (Nat × Nat × Nat) := pA 1 25 (pA 3 11 [] 7) 6
theorem kp_ly (X : XT) : LY keptL X (kpX X) (x_sz X) 25 1859 ((0, 2, 2) :: gnK 2 [(0, 1, 1)]) (pA 3 11 [] 7) := by
  have y0 := LY.o keptL (X := X) (lo := x_sz X) rfl
  have y1 := y0.new (t := 11) (w := 3) rfl
  have y2 := y1.new (t := 3) (w := 6) rfl
  have y3 := y2.put (c := 0) (j := 1) (v := 1) (a := x_sz X) (x := some (x_sz X + 1)) rfl rfl (by omega) (by decide)
  have hl : ∀ i, i < 23 → keptL[2 + i]? = genL[i]? := by decide
  have y4 := y3.gen (fun i q hq => by
    have hi : i < 23 := (List.getElem?_eq_some_iff.mp hq).1
    rw [hl i hi]; exact hq)
  exact y4.put (c := 0) (j := 2) (v := 2) (a := x_sz X) (x := some (x_sz X + 2)) rfl rfl (by omega) (by decide)
theorem kept_ly (X : XT) : LY keptL X (keptX X) (x_sz X) 37 2369 kpK kpA :=
  (kp_ly X).pls (a := x_sz X + 1) (c := 1) rfl (by omega) (by decide) 6 (by decide)
theorem kept_ko (X : XT) : KOo (keptX X) (x_sz X) := by
  have y := kept_ly X
  refine ⟨y.sh 0 (by omega) rfl, y.fr 0 1 1 (by decide), y.fr 0 2 2 (by decide), y.sh 1 (by omega) rfl, fun s hs => ⟨y.arA 1 (25 + 2 * s) rfl (by omega) ((show ∀ s, s < 6 → (1, s, 25 + 2 * s) ∈ kpA by decide) s hs), ?_⟩, ?_⟩
  · refine ⟨y.shA (25 + 2 * s) (by omega) (by omega) ((show ∀ s, s < 6 → keptL[25 + 2 * s]? = some (14, 1) by decide) s hs), y.frA (25 + 2 * s) (26 + 2 * s) (by omega) (by omega) ((show ∀ s, s < 6 → (25 + 2 * s, 0, 26 + 2 * s) ∈ kpK by decide) s hs), y.shA (26 + 2 * s) (by omega) (by omega) ((show ∀ s, s < 6 → keptL[26 + 2 * s]? = some (1, 84) by decide) s hs)⟩
  · have ff : ∀ j, 1 ≤ j → j < 9 → x_FR (keptX X) (x_sz X + 2) j = some (x_sz X + 2 + j) := fun j h1 h2 =>
      y.frA 2 (2 + j) rfl (by omega) ((show ∀ j, j < 9 → 1 ≤ j → (2, j, 2 + j) ∈ kpK by decide) j h2 h1)
    refine ⟨y.sh 2 (by omega) rfl, ff 1 (by omega) (by omega), ff 2 (by omega) (by omega), ff 3 (by omega) (by omega), ff 4 (by omega) (by omega), ff 5 (by omega) (by omega), ff 6 (by omega) (by omega), ff 7 (by omega) (by omega), ff 8 (by omega) (by omega), y.sh 3 (by omega) rfl, y.sh 4 (by omega) rfl, y.sh 5 (by omega) rfl, y.sh 6 (by omega) rfl, y.sh 7 (by omega) rfl, y.sh 8 (by omega) rfl, y.sh 9 (by omega) rfl, y.sh 10 (by omega) rfl, fun i hi => ⟨?_, ?_⟩, fun i j _ _ e => by dsimp only at e; omega, fun i hi => by dsimp only; omega, by dsimp only; omega, by dsimp only; omega⟩
    · exact y.arA 3 (11 + 2 * i) rfl (by dsimp only; omega) ((show ∀ i, i < 7 → (3, i, 11 + 2 * i) ∈ kpA by decide) i hi)
    · exact ⟨y.shA (11 + 2 * i) (by dsimp only; omega) (by omega) ((show ∀ i, i < 7 → keptL[11 + 2 * i]? = some (14, 1) by decide) i hi), y.frA (11 + 2 * i) (12 + 2 * i) (by dsimp only; omega) (by dsimp only; omega) ((show ∀ i, i < 7 → (11 + 2 * i, 0, 12 + 2 * i) ∈ kpK by decide) i hi), y.shA (12 + 2 * i) (by dsimp only; omega) (by omega) ((show ∀ i, i < 7 → keptL[12 + 2 * i]? = some (1, 84) by decide) i hi)⟩
theorem s_keptInit {V : GV} {d : Nat} {X : XT} {FI AI : FT} {AL : LT} : G V m_Kept_init (d + 3) 0 [some (.ref (x_sz X)), none] [] (xnew X 11 3) FI AI AL (fun r X' FI' AI' AL' => r = none ∧ X' = keptX X ∧ ∀ c, c < x_sz X → FI' c = FI c ∧ AI' c = AI c ∧ AL' c = AL c) := by
  have y0 := LY.o keptL (X := X) (lo := x_sz X) rfl
  have y1 := y0.new (t := 11) (w := 3) rfl
  refine G_aload0 1 d_Kept_init_0 rfl ?_
  refine G_objInit 4 d_Kept_init_1 rfl e_Kept_3 (Nat.le_of_ble_eq_true rfl) ?_
  refine G_aload0 5 d_Kept_init_4 rfl ?_
  refine G_iconstN 0 6 d_Kept_init_5 rfl rfl ?_
  refine G_putI 9 d_Kept_init_6 rfl f_Kept_9 rfl (by intro C T N h; cases h; rfl) (y1.sh 0 (by omega) rfl) rfl rfl ?_
  refine G_aload0 10 d_Kept_init_9 rfl ?_
  refine G_bipushN 6 12 d_Kept_init_10 rfl rfl ?_
  refine G_newR 3 6 15 d_Kept_init_12 rfl c_Kept_15 (by decide) (by decide) rfl rfl (by omega) ?_
  have y2 := y1.new (t := 3) (w := 6) rfl
  refine G_putX (x := some _) true 18 d_Kept_init_15 rfl f_Kept_17 rfl rfl (by intro C T N h; cases h; rfl) (fun _ => ⟨rfl, by intro C T N h; cases h; rfl⟩) (y2.sh 0 (by omega) rfl) rfl rfl ?_
  have y3 := y2.put (c := 0) (j := 1) (v := 1) rfl (congrArg some y1.1) (by omega) (by decide)
  have z0 := y3
  refine G_aload0 19 d_Kept_init_18 rfl ?_
  refine G_new (ci := 0) (T := T_Gen) 22 d_Kept_init_19 rfl c_Kept_21 q_Gen rfl ?_
  refine G_dup 23 d_Kept_init_22 rfl rfl ?_
  refine G_invI0 26 d_Kept_init_23 rfl e_Kept_23 M_Gen_init rfl (Nat.le_of_ble_eq_true rfl) (Nat.le_of_ble_eq_true rfl) rfl (G.conseq (s_genInit (d := d)) (fun r23 X23 FI23 AI23 AL23 h23 => ?_))
  obtain ⟨rfl, rfl, i1, i2, i3⟩ := h23
  have hsz : x_sz (genX (xput (xnew (xnew X 11 3) 3 6) (x_sz X) 1 (some (x_sz X + 1)))) = x_sz X + 25 := rfl
  have yk := kp_ly X
  have hk0 : x_sh (kpX X) (x_sz X) = some (11, 3) := yk.sh 0 (by omega) rfl
  have hk1 : x_sh (kpX X) (x_sz X + 1) = some (3, 6) := yk.sh 1 (by omega) rfl
  have hkf : x_FR (kpX X) (x_sz X) 1 = some (x_sz X + 1) := yk.fr 0 1 1 (by decide)
  have hksz : x_sz (kpX X) = x_sz X + 25 := rfl
  refine G_putX (x := some (x_sz X + 2)) (w := 3) true 29 d_Kept_init_26 rfl f_Kept_24 rfl rfl (by intro C T N h; cases h; rfl) (fun _ => ⟨rfl, by intro C T N h; cases h; rfl⟩) hk0 rfl rfl ?_
  refine G_iconstN 0 30 d_Kept_init_29 rfl rfl ?_
  refine G_istore1 31 d_Kept_init_30 rfl (by decide) rfl ?_
  have hfp : ∀ k, x_FR (plsX (kpX X) (x_sz X + 1) k) (x_sz X) = x_FR (kpX X) (x_sz X) := by
    intro k
    induction k with
    | zero => rfl
    | succ k ih =>
      have hz := plsX_sz (kpX X) (x_sz X + 1) k
      show u2 (x_FR (xnew (xnew (plsX (kpX X) (x_sz X + 1) k) 14 1) 1 84)) _ _ _ (x_sz X) = _
      rw [u2_off _ _ _ (by omega), xn_fr (by show x_sz X ≠ x_sz (plsX (kpX X) (x_sz X + 1) k) + 1; omega), xn_fr (by omega)]
      exact ih
  have L : ∀ k, k ≤ 6 → ∀ (FJ BJ : FT) (AJ : LT), (∀ c, c < x_sz X → FJ c = FI c ∧ BJ c = AI c ∧ AJ c = AL c) → G V m_Kept_init (d + 3) 31 [some (.ref (x_sz X)), some (.int (nI k))] [] (plsX (kpX X) (x_sz X + 1) k) FJ BJ AJ (fun r X' FI' AI' AL' => r = none ∧ X' = keptX X ∧ ∀ c, c < x_sz X → FI' c = FI c ∧ AI' c = AI c ∧ AL' c = AL c) := by
    refine upto ?_ ?_
    · intro FJ BJ AJ k1
      refine G_iload1 32 d_Kept_init_31 rfl ?_
      refine G_bipushN 6 34 d_Kept_init_32 rfl rfl ?_
      first | refine G_icgeN 56 37 d_Kept_init_34 rfl rfl (by omega) (by omega) (fun h34 => ?_) (fun h34 => ?_) | refine G_icge 56 37 d_Kept_init_34 rfl rfl (fun h34 => ?_) (fun h34 => ?_)
      · refine G_vret d_Kept_init_56 rfl ?_
        exact ⟨rfl, rfl, k1⟩
      · omega
    · intro k hk ih FJ BJ AJ k1
      have hz := plsX_sz (kpX X) (x_sz X + 1) k
      have hs2 := plsX_sh (kpX X) (x_sz X + 1) (x_sz X + 1) (by omega) k
      have hg2 : x_sh (plsX (kpX X) (x_sz X + 1) k) (x_sz X) = some (11, 3) := (plsX_sh (kpX X) (x_sz X + 1) (x_sz X) (by omega) k).trans hk0
      have hf2 : x_FR (plsX (kpX X) (x_sz X + 1) k) (x_sz X) 1 = some (x_sz X + 1) := by rw [hfp]; exact hkf
      have hPi := s_polyInit (V := V) (d := d + 1) (X := xnew (plsX (kpX X) (x_sz X + 1) k) 14 1) (FI := z2 FJ (x_sz (plsX (kpX X) (x_sz X + 1) k)) 0) (AI := BJ) (AL := AJ) (p := x_sz (plsX (kpX X) (x_sz X + 1) k)) (if_pos rfl) (show x_sz (plsX (kpX X) (x_sz X + 1) k) < x_sz (plsX (kpX X) (x_sz X + 1) k) + 1 by omega)
      refine G_iload1 32 d_Kept_init_31 rfl ?_
      refine G_bipushN 6 34 d_Kept_init_32 rfl rfl ?_
      first | refine G_icgeN 56 37 d_Kept_init_34 rfl rfl (by omega) (by omega) (fun h34 => ?_) (fun h34 => ?_) | refine G_icge 56 37 d_Kept_init_34 rfl rfl (fun h34 => ?_) (fun h34 => ?_)
      · omega
      · refine G_aload0 38 d_Kept_init_37 rfl ?_
        refine G_getR 41 d_Kept_init_38 rfl f_Kept_17 rfl (by assumption) (by assumption) ?_
        refine G_iload1 42 d_Kept_init_41 rfl ?_
        refine G_new (ci := 4) (T := T_Poly) 45 d_Kept_init_42 rfl c_Kept_15 q_Poly rfl ?_
        refine G_dup 46 d_Kept_init_45 rfl rfl ?_
        refine G_invIN0v 49 d_Kept_init_46 rfl e_Kept_28 M_Poly_init rfl (Nat.le_of_ble_eq_true rfl) (Nat.le_of_ble_eq_true rfl) rfl (hPi) ?_
        refine G_aastX (t := 3) (w := 6) (j0 := k) (ci := 4) (w2 := 1) 50 d_Kept_init_49 rfl ?_ (by decide) (by decide) (ix_nI (by omega) (by omega)) (plX_sh _ 0 0) rfl rfl ?_
        · exact (plX_sh2 (plsX (kpX X) (x_sz X + 1) k) (x_sz X + 1) (by omega)).trans (hs2.trans hk1)
        · first | refine G_iincN1 53 d_Kept_init_50 rfl (by decide) rfl ?_ | refine G_iinc1 _ 53 d_Kept_init_50 rfl (by decide) rfl rfl ?_
          refine G_goto 31 d_Kept_init_53 rfl ?_
          exact ih _ _ _ (fun c hc => ⟨by rw [z2_off _ _ (by omega)]; exact (k1 c hc).1, (k1 c hc).2.1, by rw [z2_off _ _ (by show c ≠ x_sz (plsX (kpX X) (x_sz X + 1) k) + 1; omega)]; exact (k1 c hc).2.2⟩)
  have e3 : ∀ c, c < x_sz X → c < x_sz (xput (xnew (xnew X 11 3) 3 6) (x_sz X) 1 (some (x_sz X + 1))) + 1 := fun c hc => by show c < x_sz X + 2 + 1; omega
  refine L 0 (Nat.zero_le _) _ _ _ (fun c hc => ⟨?_, i2.1 c (e3 c hc), i3.1 c (e3 c hc)⟩)
  rw [i1.1 c (e3 c hc), u2_off _ _ _ (by show c ≠ x_sz X + 2; omega), z2_off _ _ (by show c ≠ x_sz X + 2; omega), u2_off _ _ _ (by omega)]
