/-! ===== constructors: what is new holds 0 where it held 0 ===== -/
theorem z2_id {α : Type} {F : Nat → Nat → α} {a : Nat} {z : α} (h : F a = fun _ => z) : z2 F a z = F := by
  funext b j
  unfold z2
  by_cases e : b = a
  · rw [if_pos e, e, h]
  · rw [if_neg e]
theorem u2_id {α : Type} {F : Nat → Nat → α} {a j : Nat} {z : α} (h : F a j = z) : u2 F a j z = F := by
  funext b i
  unfold u2
  by_cases e : b = a
  · by_cases e2 : i = j
    · rw [if_pos e, if_pos e2, e, e2, h]
    · rw [if_pos e, if_neg e2]
  · rw [if_neg e]
theorem mL_id {X : XT} {N : Nat} {AL : LT} (h : ∀ c, x_sz X ≤ c → AL c = fun _ => 0) : mL X N AL = AL := by
  funext b j
  unfold mL
  split
  · rename_i e; rw [h b (by omega)]
  · rfl
theorem G_newI0 {V : GV} {M : MT} {d pc : Nat} {ls : List (Option Value)} {st : List Value} {X : XT} {FI AI : FT} {AL : LT} {P : PT} {i : Int32} (w n : Nat) (hd : dec M pc = .ok (.newarray .int, 2)) (hn : pc + 2 = n) (hcl : Cond.arrayClass .int ∈ gw_tbl) (hi : i = nI w) (hb : w < 100000) (hz : AI (x_sz X) = fun _ => 0) (k : G V M d n ls (.ref (x_sz X) :: st) (xnew X 0 w) FI AI AL P) : G V M d pc ls (.int i :: st) X FI AI AL P :=
  G_newI w n hd hn hcl hi hb (by rw [z2_id hz]; exact k)
theorem G_newZ0 {V : GV} {M : MT} {d pc : Nat} {ls : List (Option Value)} {st : List Value} {X : XT} {FI AI : FT} {AL : LT} {P : PT} {i : Int32} (w n : Nat) (hd : dec M pc = .ok (.newarray .boolean, 2)) (hn : pc + 2 = n) (hcl : Cond.arrayClass .boolean ∈ gw_tbl) (hi : i = nI w) (hb : w < 100000) (hz : AI (x_sz X) = fun _ => 0) (k : G V M d n ls (.ref (x_sz X) :: st) (xnew X 2 w) FI AI AL P) : G V M d pc ls (.int i :: st) X FI AI AL P :=
  G_newZ w n hd hn hcl hi hb (by rw [z2_id hz]; exact k)
theorem G_newL0 {V : GV} {M : MT} {d pc : Nat} {ls : List (Option Value)} {st : List Value} {X : XT} {FI AI : FT} {AL : LT} {P : PT} {i : Int32} (w n : Nat) (hd : dec M pc = .ok (.newarray .long, 2)) (hn : pc + 2 = n) (hcl : Cond.arrayClass .long ∈ gw_tbl) (hi : i = nI w) (hb : w < 100000) (hz : AL (x_sz X) = fun _ => 0) (k : G V M d n ls (.ref (x_sz X) :: st) (xnew X 1 w) FI AI AL P) : G V M d pc ls (.int i :: st) X FI AI AL P :=
  G_newL w n hd hn hcl hi hb (by rw [z2_id hz]; exact k)
theorem G_new0 {V : GV} {M : MT} {d pc : Nat} {ls : List (Option Value)} {st : List Value} {X : XT} {FI AI : FT} {AL : LT} {P : PT} {idx ci N : Nat} {Cn : String} {T : u_T} (n : Nat) (hd : dec M pc = .ok (.new idx, 3)) (hn : pc + 3 = n) (hcl : Cond.classLink M.1.cls idx Cn ∈ gw_tbl) (hq : Cond.instantiable Cn N ∈ gw_tbl ∧ Cond.initialized Cn ∈ gw_tbl) (hc : Cls[ci]? = some (Cn, T, N)) (hz : FI (x_sz X) = fun _ => 0) (k : G V M d n ls (.ref (x_sz X) :: st) (xnew X (ci + 10) N) FI AI AL P) : G V M d pc ls st X FI AI AL P :=
  G_new n hd hn hcl hq hc (by rw [z2_id hz]; exact k)
theorem G_putI0 {V : GV} {M : MT} {d pc : Nat} {ls : List (Option Value)} {st : List Value} {X : XT} {FI AI : FT} {AL : LT} {P : PT} {idx ci j a w : Nat} {x : Int32} (n : Nat) (hd : dec M pc = .ok (.putfield idx, 3)) (hn : pc + 3 = n) (hf : FL M.1.cls idx ci j) (hr : isR ci j = false) (hfin : ∀ C T N, Cls[ci]? = some (C, T, N) → (T j).2.2.2 = false) (hsh : x_sh X a = some (ci + 10, w)) (hnr : narrow (tyOf ci j) (.int x) = .int x) (hft : fits (tyOf ci j) (.int x) = true) (hz : FI a j = x) (k : G V M d n ls st X FI AI AL P) : G V M d pc ls (.int x :: .ref a :: st) X FI AI AL P :=
  G_putI n hd hn hf hr hfin hsh hnr hft (by rw [u2_id hz]; exact k)
theorem knc {K : List (Nat × Nat × Nat)} {c j c' j' v : Nat} (h : ∀ q ∈ K, ¬ (q.1 = c ∧ q.2.1 = j)) (hn : ¬ (c' = c ∧ j' = j)) : ∀ q ∈ (c', j', v) :: K, ¬ (q.1 = c ∧ q.2.1 = j) := fun q hq => by
  rcases List.mem_cons.mp hq with e | e
  · rw [e]; exact hn
  · exact h q e
theorem zE.id {α : Type} {z : α} {F F' : Nat → Nat → α} {n : Nat} (h : zE z F F' n) (hz : ∀ c, n ≤ c → F c = fun _ => z) : F' = F := by
  funext c
  by_cases e : n ≤ c
  · rcases h.2 c e with q | q
    · exact q
    · rw [q, hz c e]
  · exact h.1 c (by omega)
/-- from here on all holds 0 -/
def ZZ (FI AI : FT) (AL : LT) (n : Nat) : Prop := (∀ c, n ≤ c → FI c = fun _ => 0) ∧ (∀ c, n ≤ c → AI c = fun _ => 0) ∧ ∀ c, n ≤ c → AL c = fun _ => 0
theorem ZZ.up {FI AI : FT} {AL : LT} {n k : Nat} (h : ZZ FI AI AL n) (hk : n ≤ k) : ZZ FI AI AL k := ⟨fun c hc => h.1 c (by omega), fun c hc => h.2.1 c (by omega), fun c hc => h.2.2 c (by omega)⟩
theorem LY.mul {sl : List (Nat × Nat)} {X0 X : XT} {lo n m : Nat} {K A : List (Nat × Nat × Nat)} (h : LY sl X0 X lo n m K A) (hq : sl[n]? = some (6, 10)) (hq2 : ∀ j, j < 10 → sl[n + 1 + j]? = some (1, 10)) : LY sl X0 (mX X 10 10) lo (n + 11) (m + 110) K ((n, 9, n + 10) :: (n, 8, n + 9) :: (n, 7, n + 8) :: (n, 6, n + 7) :: (n, 5, n + 6) :: (n, 4, n + 5) :: (n, 3, n + 4) :: (n, 2, n + 3) :: (n, 1, n + 2) :: (n, 0, n + 1) :: A) := by
  obtain ⟨h1, h2, h3, h4, h5, h6, h7, h8, h9⟩ := h
  have s0 : x_sh (mX X 10 10) (x_sz X) = some (6, 10) := if_pos rfl
  have s1 : ∀ b, x_sz X < b ∧ b ≤ x_sz X + 10 → x_sh (mX X 10 10) b = some (1, 10) := fun b hb => (if_neg (by omega)).trans (if_pos hb)
  have s2 : ∀ b, b ≠ x_sz X → ¬ (x_sz X < b ∧ b ≤ x_sz X + 10) → x_sh (mX X 10 10) b = x_sh X b := fun b g1 g2 => (if_neg g1).trans (if_neg g2)
  have r1 : ∀ b, ¬ (x_sz X ≤ b ∧ b ≤ x_sz X + 10) → x_FR (mX X 10 10) b = x_FR X b := fun b g => by funext j; exact if_neg g
  have r2 : ∀ b, ¬ (x_sz X ≤ b ∧ b ≤ x_sz X + 10) → x_AR (mX X 10 10) b = x_AR X b := fun b g => by funext j; exact (if_neg (by omega)).trans (if_neg (by omega))
  have r3 : ∀ b j, x_sz X ≤ b ∧ b ≤ x_sz X + 10 → x_FR (mX X 10 10) b j = none := fun b j g => if_pos g
  have a1 : ∀ j, j < 10 → x_AR (mX X 10 10) (x_sz X) j = some (x_sz X + 1 + j) := fun j hj => (if_pos rfl).trans (if_pos hj)
  have a2 : ∀ j, ¬ j < 10 → x_AR (mX X 10 10) (x_sz X) j = none := fun j hj => (if_pos rfl).trans (if_neg hj)
  have a3 : ∀ b j, x_sz X < b ∧ b ≤ x_sz X + 10 → x_AR (mX X 10 10) b j = none := fun b j g => (if_neg (by omega)).trans (if_pos g)
  refine ⟨by show x_sz X + 1 + 10 = _; omega, fun i hi => ?_, fun q hq => ?_, fun q hq => ?_, fun c j hc hk => ?_, fun c j hc hk => ?_, fun c hc => ?_, by show x_nc X + 1 + 10 = _; omega, by show x_ns X + 10 + 10 * 10 = _; omega⟩
  · by_cases e : i = n
    · rw [e, hq, ← h1]; exact s0
    · by_cases e2 : i < n
      · rw [s2 _ (by omega) (by omega)]; exact h2 i e2
      · rw [s1 _ (by omega)]
        have := hq2 (i - (n + 1)) (by omega)
        rw [show n + 1 + (i - (n + 1)) = i by omega] at this
        exact this.symm
  · have := h3 q hq
    exact ⟨by omega, by rw [r1 _ (by omega)]; exact this.2⟩
  · simp only [List.mem_cons] at hq
    rcases hq with e | e | e | e | e | e | e | e | e | e | e
    · subst e; exact ⟨by dsimp only; omega, by dsimp only; rw [← h1, a1 _ (by omega), h1]; congr 1⟩
    · subst e; exact ⟨by dsimp only; omega, by dsimp only; rw [← h1, a1 _ (by omega), h1]; congr 1⟩
    · subst e; exact ⟨by dsimp only; omega, by dsimp only; rw [← h1, a1 _ (by omega), h1]; congr 1⟩
    · subst e; exact ⟨by dsimp only; omega, by dsimp only; rw [← h1, a1 _ (by omega), h1]; congr 1⟩
    · subst e; exact ⟨by dsimp only; omega, by dsimp only; rw [← h1, a1 _ (by omega), h1]; congr 1⟩
    · subst e; exact ⟨by dsimp only; omega, by dsimp only; rw [← h1, a1 _ (by omega), h1]; congr 1⟩
    · subst e; exact ⟨by dsimp only; omega, by dsimp only; rw [← h1, a1 _ (by omega), h1]; congr 1⟩
    · subst e; exact ⟨by dsimp only; omega, by dsimp only; rw [← h1, a1 _ (by omega), h1]; congr 1⟩
    · subst e; exact ⟨by dsimp only; omega, by dsimp only; rw [← h1, a1 _ (by omega), h1]; congr 1⟩
    · subst e; exact ⟨by dsimp only; omega, by dsimp only; rw [← h1, a1 _ (by omega), h1]; congr 1⟩
    · have := h4 q e
      exact ⟨by omega, by rw [r2 _ (by omega)]; exact this.2⟩
  · by_cases e : n ≤ c
    · exact r3 _ _ (by omega)
    · rw [r1 _ (by omega)]; exact h5 c j (by omega) hk
  · have hkA : ∀ q ∈ A, ¬ (q.1 = c ∧ q.2.1 = j) := fun q hq => hk q (by simp only [List.mem_cons]; exact Or.inr (Or.inr (Or.inr (Or.inr (Or.inr (Or.inr (Or.inr (Or.inr (Or.inr (Or.inr hq))))))))))
    by_cases e : c = n
    · rw [e, ← h1]
      refine a2 j (fun hj => ?_)
      have hm : ∀ i v, (n, i, v) ∈ ((n, 9, n + 10) :: (n, 8, n + 9) :: (n, 7, n + 8) :: (n, 6, n + 7) :: (n, 5, n + 6) :: (n, 4, n + 5) :: (n, 3, n + 4) :: (n, 2, n + 3) :: (n, 1, n + 2) :: (n, 0, n + 1) :: A) → ¬ i = j := fun i v hi e3 => hk _ hi ⟨e.symm, e3⟩
      have m0 := hm 0 (n + 1) (by simp)
      have m1 := hm 1 (n + 2) (by simp)
      have m2 := hm 2 (n + 3) (by simp)
      have m3 := hm 3 (n + 4) (by simp)
      have m4 := hm 4 (n + 5) (by simp)
      have m5 := hm 5 (n + 6) (by simp)
      have m6 := hm 6 (n + 7) (by simp)
      have m7 := hm 7 (n + 8) (by simp)
      have m8 := hm 8 (n + 9) (by simp)
      have m9 := hm 9 (n + 10) (by simp)
      omega
    · by_cases e2 : c < n
      · rw [r2 _ (by omega)]; exact h6 c j e2 hkA
      · exact a3 _ _ (by omega)
  · obtain ⟨b1, b2, b3⟩ := h7 c hc
    exact ⟨by rw [s2 _ (by omega) (by omega)]; exact b1, by rw [r1 _ (by omega)]; exact b2, by rw [r2 _ (by omega)]; exact b3⟩
abbrev tabLL : List (Nat × Nat) := [(17, 7), (0, 344), (0, 85), (0, 344), (0, 344), (0, 7), (3, 84), (2, 84)]
theorem s_tabInit {V : GV} {d : Nat} {sl : List (Nat × Nat)} {X0 X : XT} {lo n m : Nat} {K A : List (Nat × Nat × Nat)} {FI AI : FT} {AL : LT} (y : LY sl X0 X lo n m K A) (hs : ∀ i q, tabLL[i]? = some q → sl[n + i]? = some q) (hz : ZZ FI AI AL (x_sz X)) : G V m_Tab_init (d + 1) 0 [some (.ref (x_sz X))] [] (xnew X 17 7) FI AI AL (fun r X' FI' AI' AL' => r = none ∧ LY sl X0 X' lo (n + 8) (m + 1299) ((n, 6, n + 7) :: (n, 5, n + 6) :: (n, 4, n + 5) :: (n, 3, n + 4) :: (n, 2, n + 3) :: (n, 1, n + 2) :: (n, 0, n + 1) :: K) A ∧ FI' = FI ∧ AI' = AI ∧ AL' = AL) := by
  have y1 := y.new (t := 17) (w := 7) (hs 0 (17, 7) rfl)
  refine G_aload0 1 d_Tab_init_0 rfl ?_
  refine G_objInit 4 d_Tab_init_1 rfl e_Tab_1 (Nat.le_of_ble_eq_true rfl) ?_
  refine G_aload0 5 d_Tab_init_4 rfl ?_
  refine G_sipushN 344 8 d_Tab_init_5 rfl rfl ?_
  refine G_newI0 344 10 d_Tab_init_8 rfl ac_int rfl (by omega) (hz.2.1 _ (by show x_sz X ≤ x_sz X + 1; omega)) ?_
  have y2 := y1.new (t := 0) (w := 344) (hs 1 (0, 344) rfl)
  refine G_putX (x := some _) true 13 d_Tab_init_10 rfl f_Tab_9 rfl rfl (by intro C T N h; cases h; rfl) (fun _ => ⟨rfl, by intro C T N h; cases h; rfl⟩) (y2.shA n y.1 (by omega) (hs 0 (17, 7) rfl)) rfl rfl ?_
  have y3 := y2.put (c := n) (j := 0) (v := n + 1) (a := x_sz X) (x := some (x_sz X + 1)) y.1 (by rw [y.1, Nat.add_assoc]) (by omega) (y.kn n 0 (Nat.le_refl _))
  refine G_aload0 14 d_Tab_init_13 rfl ?_
  refine G_bipushN 85 16 d_Tab_init_14 rfl rfl ?_
  refine G_newI0 85 18 d_Tab_init_16 rfl ac_int rfl (by omega) (hz.2.1 _ (by show x_sz X ≤ x_sz X + 2; omega)) ?_
  have y4 := y3.new (t := 0) (w := 85) (hs 2 (0, 85) rfl)
  refine G_putX (x := some _) true 21 d_Tab_init_18 rfl f_Tab_15 rfl rfl (by intro C T N h; cases h; rfl) (fun _ => ⟨rfl, by intro C T N h; cases h; rfl⟩) (y4.shA n y.1 (by omega) (hs 0 (17, 7) rfl)) rfl rfl ?_
  have y5 := y4.put (c := n) (j := 1) (v := n + 2) (a := x_sz X) (x := some (x_sz X + 2)) y.1 (by rw [y.1, Nat.add_assoc]) (by omega) (knc (y.kn n 1 (Nat.le_refl _)) (by omega))
  refine G_aload0 22 d_Tab_init_21 rfl ?_
  refine G_sipushN 344 25 d_Tab_init_22 rfl rfl ?_
  refine G_newI0 344 27 d_Tab_init_25 rfl ac_int rfl (by omega) (hz.2.1 _ (by show x_sz X ≤ x_sz X + 3; omega)) ?_
  have y6 := y5.new (t := 0) (w := 344) (hs 3 (0, 344) rfl)
  refine G_putX (x := some _) true 30 d_Tab_init_27 rfl f_Tab_18 rfl rfl (by intro C T N h; cases h; rfl) (fun _ => ⟨rfl, by intro C T N h; cases h; rfl⟩) (y6.shA n y.1 (by omega) (hs 0 (17, 7) rfl)) rfl rfl ?_
  have y7 := y6.put (c := n) (j := 2) (v := n + 3) (a := x_sz X) (x := some (x_sz X + 3)) y.1 (by rw [y.1, Nat.add_assoc]) (by omega) (knc (knc (y.kn n 2 (Nat.le_refl _)) (by omega)) (by omega))
  refine G_aload0 31 d_Tab_init_30 rfl ?_
  refine G_sipushN 344 34 d_Tab_init_31 rfl rfl ?_
  refine G_newI0 344 36 d_Tab_init_34 rfl ac_int rfl (by omega) (hz.2.1 _ (by show x_sz X ≤ x_sz X + 4; omega)) ?_
  have y8 := y7.new (t := 0) (w := 344) (hs 4 (0, 344) rfl)
  refine G_putX (x := some _) true 39 d_Tab_init_36 rfl f_Tab_21 rfl rfl (by intro C T N h; cases h; rfl) (fun _ => ⟨rfl, by intro C T N h; cases h; rfl⟩) (y8.shA n y.1 (by omega) (hs 0 (17, 7) rfl)) rfl rfl ?_
  have y9 := y8.put (c := n) (j := 3) (v := n + 4) (a := x_sz X) (x := some (x_sz X + 4)) y.1 (by rw [y.1, Nat.add_assoc]) (by omega) (knc (knc (knc (y.kn n 3 (Nat.le_refl _)) (by omega)) (by omega)) (by omega))
  refine G_aload0 40 d_Tab_init_39 rfl ?_
  refine G_bipushN 7 42 d_Tab_init_40 rfl rfl ?_
  refine G_newI0 7 44 d_Tab_init_42 rfl ac_int rfl (by omega) (hz.2.1 _ (by show x_sz X ≤ x_sz X + 5; omega)) ?_
  have y10 := y9.new (t := 0) (w := 7) (hs 5 (0, 7) rfl)
  refine G_putX (x := some _) true 47 d_Tab_init_44 rfl f_Tab_26 rfl rfl (by intro C T N h; cases h; rfl) (fun _ => ⟨rfl, by intro C T N h; cases h; rfl⟩) (y10.shA n y.1 (by omega) (hs 0 (17, 7) rfl)) rfl rfl ?_
  have y11 := y10.put (c := n) (j := 4) (v := n + 5) (a := x_sz X) (x := some (x_sz X + 5)) y.1 (by rw [y.1, Nat.add_assoc]) (by omega) (knc (knc (knc (knc (y.kn n 4 (Nat.le_refl _)) (by omega)) (by omega)) (by omega)) (by omega))
  refine G_aload0 48 d_Tab_init_47 rfl ?_
  refine G_bipushN 84 50 d_Tab_init_48 rfl rfl ?_
  refine G_newR 3 84 53 d_Tab_init_50 rfl c_Tab_29 (by decide) (by decide) rfl rfl (by omega) ?_
  have y12 := y11.new (t := 3) (w := 84) (hs 6 (3, 84) rfl)
  refine G_putX (x := some _) true 56 d_Tab_init_53 rfl f_Tab_31 rfl rfl (by intro C T N h; cases h; rfl) (fun _ => ⟨rfl, by intro C T N h; cases h; rfl⟩) (y12.shA n y.1 (by omega) (hs 0 (17, 7) rfl)) rfl rfl ?_
  have y13 := y12.put (c := n) (j := 5) (v := n + 6) (a := x_sz X) (x := some (x_sz X + 6)) y.1 (by rw [y.1, Nat.add_assoc]) (by omega) (knc (knc (knc (knc (knc (y.kn n 5 (Nat.le_refl _)) (by omega)) (by omega)) (by omega)) (by omega)) (by omega))
  refine G_aload0 57 d_Tab_init_56 rfl ?_
  refine G_bipushN 84 59 d_Tab_init_57 rfl rfl ?_
  refine G_newZ0 84 61 d_Tab_init_59 rfl ac_boolean rfl (by omega) (hz.2.1 _ (by show x_sz X ≤ x_sz X + 7; omega)) ?_
  have y14 := y13.new (t := 2) (w := 84) (hs 7 (2, 84) rfl)
  refine G_putX (x := some _) true 64 d_Tab_init_61 rfl f_Tab_35 rfl rfl (by intro C T N h; cases h; rfl) (fun _ => ⟨rfl, by intro C T N h; cases h; rfl⟩) (y14.shA n y.1 (by omega) (hs 0 (17, 7) rfl)) rfl rfl ?_
  have y15 := y14.put (c := n) (j := 6) (v := n + 7) (a := x_sz X) (x := some (x_sz X + 7)) y.1 (by rw [y.1, Nat.add_assoc]) (by omega) (knc (knc (knc (knc (knc (knc (y.kn n 6 (Nat.le_refl _)) (by omega)) (by omega)) (by omega)) (by omega)) (by omega)) (by omega))
  refine G_vret d_Tab_init_64 rfl ?_
  exact ⟨rfl, y15, rfl, rfl, rfl⟩
abbrev relLL : List (Nat × Nat) := [(16, 5), (0, 344), (0, 344), (0, 7), (0, 7), (0, 7)]
theorem s_relInit {V : GV} {d : Nat} {sl : List (Nat × Nat)} {X0 X : XT} {lo n m : Nat} {K A : List (Nat × Nat × Nat)} {FI AI : FT} {AL : LT} (y : LY sl X0 X lo n m K A) (hs : ∀ i q, relLL[i]? = some q → sl[n + i]? = some q) (hz : ZZ FI AI AL (x_sz X)) : G V m_Rel_init (d + 1) 0 [some (.ref (x_sz X))] [] (xnew X 16 5) FI AI AL (fun r X' FI' AI' AL' => r = none ∧ LY sl X0 X' lo (n + 6) (m + 714) ((n, 4, n + 5) :: (n, 3, n + 4) :: (n, 2, n + 3) :: (n, 1, n + 2) :: (n, 0, n + 1) :: K) A ∧ FI' = FI ∧ AI' = AI ∧ AL' = AL) := by
  have y1 := y.new (t := 16) (w := 5) (hs 0 (16, 5) rfl)
  refine G_aload0 1 d_Rel_init_0 rfl ?_
  refine G_objInit 4 d_Rel_init_1 rfl e_Rel_1 (Nat.le_of_ble_eq_true rfl) ?_
  refine G_aload0 5 d_Rel_init_4 rfl ?_
  refine G_sipushN 344 8 d_Rel_init_5 rfl rfl ?_
  refine G_newI0 344 10 d_Rel_init_8 rfl ac_int rfl (by omega) (hz.2.1 _ (by show x_sz X ≤ x_sz X + 1; omega)) ?_
  have y2 := y1.new (t := 0) (w := 344) (hs 1 (0, 344) rfl)
  refine G_putX (x := some _) true 13 d_Rel_init_10 rfl f_Rel_9 rfl rfl (by intro C T N h; cases h; rfl) (fun _ => ⟨rfl, by intro C T N h; cases h; rfl⟩) (y2.shA n y.1 (by omega) (hs 0 (16, 5) rfl)) rfl rfl ?_
  have y3 := y2.put (c := n) (j := 0) (v := n + 1) (a := x_sz X) (x := some (x_sz X + 1)) y.1 (by rw [y.1, Nat.add_assoc]) (by omega) (y.kn n 0 (Nat.le_refl _))
  refine G_aload0 14 d_Rel_init_13 rfl ?_
  refine G_sipushN 344 17 d_Rel_init_14 rfl rfl ?_
  refine G_newI0 344 19 d_Rel_init_17 rfl ac_int rfl (by omega) (hz.2.1 _ (by show x_sz X ≤ x_sz X + 2; omega)) ?_
  have y4 := y3.new (t := 0) (w := 344) (hs 2 (0, 344) rfl)
  refine G_putX (x := some _) true 22 d_Rel_init_19 rfl f_Rel_15 rfl rfl (by intro C T N h; cases h; rfl) (fun _ => ⟨rfl, by intro C T N h; cases h; rfl⟩) (y4.shA n y.1 (by omega) (hs 0 (16, 5) rfl)) rfl rfl ?_
  have y5 := y4.put (c := n) (j := 1) (v := n + 2) (a := x_sz X) (x := some (x_sz X + 2)) y.1 (by rw [y.1, Nat.add_assoc]) (by omega) (knc (y.kn n 1 (Nat.le_refl _)) (by omega))
  refine G_aload0 23 d_Rel_init_22 rfl ?_
  refine G_bipushN 7 25 d_Rel_init_23 rfl rfl ?_
  refine G_newI0 7 27 d_Rel_init_25 rfl ac_int rfl (by omega) (hz.2.1 _ (by show x_sz X ≤ x_sz X + 3; omega)) ?_
  have y6 := y5.new (t := 0) (w := 7) (hs 3 (0, 7) rfl)
  refine G_putX (x := some _) true 30 d_Rel_init_27 rfl f_Rel_20 rfl rfl (by intro C T N h; cases h; rfl) (fun _ => ⟨rfl, by intro C T N h; cases h; rfl⟩) (y6.shA n y.1 (by omega) (hs 0 (16, 5) rfl)) rfl rfl ?_
  have y7 := y6.put (c := n) (j := 2) (v := n + 3) (a := x_sz X) (x := some (x_sz X + 3)) y.1 (by rw [y.1, Nat.add_assoc]) (by omega) (knc (knc (y.kn n 2 (Nat.le_refl _)) (by omega)) (by omega))
  refine G_aload0 31 d_Rel_init_30 rfl ?_
  refine G_bipushN 7 33 d_Rel_init_31 rfl rfl ?_
  refine G_newI0 7 35 d_Rel_init_33 rfl ac_int rfl (by omega) (hz.2.1 _ (by show x_sz X ≤ x_sz X + 4; omega)) ?_
  have y8 := y7.new (t := 0) (w := 7) (hs 4 (0, 7) rfl)
  refine G_putX (x := some _) true 38 d_Rel_init_35 rfl f_Rel_25 rfl rfl (by intro C T N h; cases h; rfl) (fun _ => ⟨rfl, by intro C T N h; cases h; rfl⟩) (y8.shA n y.1 (by omega) (hs 0 (16, 5) rfl)) rfl rfl ?_
  have y9 := y8.put (c := n) (j := 3) (v := n + 4) (a := x_sz X) (x := some (x_sz X + 4)) y.1 (by rw [y.1, Nat.add_assoc]) (by omega) (knc (knc (knc (y.kn n 3 (Nat.le_refl _)) (by omega)) (by omega)) (by omega))
  refine G_aload0 39 d_Rel_init_38 rfl ?_
  refine G_bipushN 7 41 d_Rel_init_39 rfl rfl ?_
  refine G_newI0 7 43 d_Rel_init_41 rfl ac_int rfl (by omega) (hz.2.1 _ (by show x_sz X ≤ x_sz X + 5; omega)) ?_
  have y10 := y9.new (t := 0) (w := 7) (hs 5 (0, 7) rfl)
  refine G_putX (x := some _) true 46 d_Rel_init_43 rfl f_Rel_28 rfl rfl (by intro C T N h; cases h; rfl) (fun _ => ⟨rfl, by intro C T N h; cases h; rfl⟩) (y10.shA n y.1 (by omega) (hs 0 (16, 5) rfl)) rfl rfl ?_
  have y11 := y10.put (c := n) (j := 4) (v := n + 5) (a := x_sz X) (x := some (x_sz X + 5)) y.1 (by rw [y.1, Nat.add_assoc]) (by omega) (knc (knc (knc (knc (y.kn n 4 (Nat.le_refl _)) (by omega)) (by omega)) (by omega)) (by omega))
  refine G_vret d_Rel_init_46 rfl ?_
  exact ⟨rfl, y11, rfl, rfl, rfl⟩
abbrev stepsLL : List (Nat × Nat) := [(19, 3), (1, 84), (0, 84)]
theorem s_stepsInit {V : GV} {d : Nat} {sl : List (Nat × Nat)} {X0 X : XT} {lo n m : Nat} {K A : List (Nat × Nat × Nat)} {FI AI : FT} {AL : LT} (y : LY sl X0 X lo n m K A) (hs : ∀ i q, stepsLL[i]? = some q → sl[n + i]? = some q) (hz : ZZ FI AI AL (x_sz X)) : G V m_Steps_init (d + 1) 0 [some (.ref (x_sz X))] [] (xnew X 19 3) FI AI AL (fun r X' FI' AI' AL' => r = none ∧ LY sl X0 X' lo (n + 3) (m + 171) ((n, 2, n + 2) :: (n, 1, n + 1) :: K) A ∧ FI' = FI ∧ AI' = AI ∧ AL' = AL) := by
  have y1 := y.new (t := 19) (w := 3) (hs 0 (19, 3) rfl)
  refine G_aload0 1 d_Steps_init_0 rfl ?_
  refine G_objInit 4 d_Steps_init_1 rfl e_Steps_1 (Nat.le_of_ble_eq_true rfl) ?_
  refine G_aload0 5 d_Steps_init_4 rfl ?_
  refine G_iconstN 0 6 d_Steps_init_5 rfl rfl ?_
  refine G_putI0 9 d_Steps_init_6 rfl f_Steps_7 rfl (by intro C T N h; cases h; rfl) (y1.shA n y.1 (by omega) (hs 0 (19, 3) rfl)) rfl rfl (by rw [hz.1 _ (Nat.le_refl _)]; rfl) ?_
  refine G_aload0 10 d_Steps_init_9 rfl ?_
  refine G_bipushN 84 12 d_Steps_init_10 rfl rfl ?_
  refine G_newL0 84 14 d_Steps_init_12 rfl ac_long rfl (by omega) (hz.2.2 _ (by show x_sz X ≤ x_sz X + 1; omega)) ?_
  have y2 := y1.new (t := 1) (w := 84) (hs 1 (1, 84) rfl)
  refine G_putX (x := some _) true 17 d_Steps_init_14 rfl f_Steps_15 rfl rfl (by intro C T N h; cases h; rfl) (fun _ => ⟨rfl, by intro C T N h; cases h; rfl⟩) (y2.shA n y.1 (by omega) (hs 0 (19, 3) rfl)) rfl rfl ?_
  have y3 := y2.put (c := n) (j := 1) (v := n + 1) (a := x_sz X) (x := some (x_sz X + 1)) y.1 (by rw [y.1, Nat.add_assoc]) (by omega) (y.kn n 1 (Nat.le_refl _))
  refine G_aload0 18 d_Steps_init_17 rfl ?_
  refine G_bipushN 84 20 d_Steps_init_18 rfl rfl ?_
  refine G_newI0 84 22 d_Steps_init_20 rfl ac_int rfl (by omega) (hz.2.1 _ (by show x_sz X ≤ x_sz X + 2; omega)) ?_
  have y4 := y3.new (t := 0) (w := 84) (hs 2 (0, 84) rfl)
  refine G_putX (x := some _) true 25 d_Steps_init_22 rfl f_Steps_19 rfl rfl (by intro C T N h; cases h; rfl) (fun _ => ⟨rfl, by intro C T N h; cases h; rfl⟩) (y4.shA n y.1 (by omega) (hs 0 (19, 3) rfl)) rfl rfl ?_
  have y5 := y4.put (c := n) (j := 2) (v := n + 2) (a := x_sz X) (x := some (x_sz X + 2)) y.1 (by rw [y.1, Nat.add_assoc]) (by omega) (knc (y.kn n 2 (Nat.le_refl _)) (by omega))
  refine G_vret d_Steps_init_25 rfl ?_
  exact ⟨rfl, y5, rfl, rfl, rfl⟩
abbrev sheetLL : List (Nat × Nat) := [(18, 3), (0, 40)]
theorem s_sheetInit {V : GV} {d : Nat} {sl : List (Nat × Nat)} {X0 X : XT} {lo n m : Nat} {K A : List (Nat × Nat × Nat)} {FI AI : FT} {AL : LT} (y : LY sl X0 X lo n m K A) (hs : ∀ i q, sheetLL[i]? = some q → sl[n + i]? = some q) (hz : ZZ FI AI AL (x_sz X)) : G V m_Sheet_init (d + 1) 0 [some (.ref (x_sz X))] [] (xnew X 18 3) FI AI AL (fun r X' FI' AI' AL' => r = none ∧ LY sl X0 X' lo (n + 2) (m + 43) ((n, 2, n + 1) :: K) A ∧ FI' = u2 FI (x_sz X) 0 (-1) ∧ AI' = AI ∧ AL' = AL) := by
  have y1 := y.new (t := 18) (w := 3) (hs 0 (18, 3) rfl)
  refine G_aload0 1 d_Sheet_init_0 rfl ?_
  refine G_objInit 4 d_Sheet_init_1 rfl e_Sheet_1 (Nat.le_of_ble_eq_true rfl) ?_
  refine G_aload0 5 d_Sheet_init_4 rfl ?_
  refine G_iconst (-1) 6 d_Sheet_init_5 rfl rfl ?_
  refine G_putI 9 d_Sheet_init_6 rfl f_Sheet_9 rfl (by intro C T N h; cases h; rfl) (y1.shA n y.1 (by omega) (hs 0 (18, 3) rfl)) rfl rfl ?_
  refine G_aload0 10 d_Sheet_init_9 rfl ?_
  refine G_iconstN 0 11 d_Sheet_init_10 rfl rfl ?_
  refine G_putI0 14 d_Sheet_init_11 rfl f_Sheet_13 rfl (by intro C T N h; cases h; rfl) (y1.shA n y.1 (by omega) (hs 0 (18, 3) rfl)) rfl rfl (by rw [u2_ix _ _ (by decide), hz.1 _ (Nat.le_refl _)]; rfl) ?_
  refine G_aload0 15 d_Sheet_init_14 rfl ?_
  refine G_bipushN 40 17 d_Sheet_init_15 rfl rfl ?_
  refine G_newI0 40 19 d_Sheet_init_17 rfl ac_int rfl (by omega) (hz.2.1 _ (by show x_sz X ≤ x_sz X + 1; omega)) ?_
  have y2 := y1.new (t := 0) (w := 40) (hs 1 (0, 40) rfl)
  refine G_putX (x := some _) true 22 d_Sheet_init_19 rfl f_Sheet_16 rfl rfl (by intro C T N h; cases h; rfl) (fun _ => ⟨rfl, by intro C T N h; cases h; rfl⟩) (y2.shA n y.1 (by omega) (hs 0 (18, 3) rfl)) rfl rfl ?_
  have y3 := y2.put (c := n) (j := 2) (v := n + 1) (a := x_sz X) (x := some (x_sz X + 1)) y.1 (by rw [y.1, Nat.add_assoc]) (by omega) (y.kn n 2 (Nat.le_refl _))
  refine G_vret d_Sheet_init_22 rfl ?_
  exact ⟨rfl, y3, rfl, rfl, rfl⟩
abbrev latLL : List (Nat × Nat) := [(12, 2), (6, 10), (1, 10), (1, 10), (1, 10), (1, 10), (1, 10), (1, 10), (1, 10), (1, 10), (1, 10), (1, 10), (1, 10)]
theorem s_latInit {V : GV} {d : Nat} {sl : List (Nat × Nat)} {X0 X : XT} {lo n m : Nat} {K A : List (Nat × Nat × Nat)} {FI AI : FT} {AL : LT} (y : LY sl X0 X lo n m K A) (hs : ∀ i q, latLL[i]? = some q → sl[n + i]? = some q) (hz : ZZ FI AI AL (x_sz X)) : G V m_Lat_init (d + 1) 0 [some (.ref (x_sz X))] [] (xnew X 12 2) FI AI AL (fun r X' FI' AI' AL' => r = none ∧ LY sl X0 X' lo (n + 13) (m + 122) ((n, 1, n + 12) :: (n, 0, n + 1) :: K) ((n + 1, 9, n + 1 + 10) :: (n + 1, 8, n + 1 + 9) :: (n + 1, 7, n + 1 + 8) :: (n + 1, 6, n + 1 + 7) :: (n + 1, 5, n + 1 + 6) :: (n + 1, 4, n + 1 + 5) :: (n + 1, 3, n + 1 + 4) :: (n + 1, 2, n + 1 + 3) :: (n + 1, 1, n + 1 + 2) :: (n + 1, 0, n + 1 + 1) :: A) ∧ FI' = FI ∧ AI' = AI ∧ AL' = AL) := by
  have y1 := y.new (t := 12) (w := 2) (hs 0 (12, 2) rfl)
  refine G_aload0 1 d_Lat_init_0 rfl ?_
  refine G_objInit 4 d_Lat_init_1 rfl e_Lat_5 (Nat.le_of_ble_eq_true rfl) ?_
  refine G_aload0 5 d_Lat_init_4 rfl ?_
  refine G_bipushN 10 7 d_Lat_init_5 rfl rfl ?_
  refine G_bipushN 10 9 d_Lat_init_7 rfl rfl ?_
  refine G_mnew 10 10 13 d_Lat_init_9 rfl c_Lat_11 ac_long rfl rfl (by omega) (by omega) ?_
  rw [mL_id (fun c hc => hz.2.2 c (Nat.le_trans (by show x_sz X ≤ x_sz X + 1; omega) hc))]
  have y2 := y1.mul (hs 1 (6, 10) rfl) (fun j hj => by rw [Nat.add_assoc, Nat.add_assoc, ← Nat.add_assoc 1]; exact hs _ _ ((show ∀ j, j < 10 → latLL[1 + 1 + j]? = some (1, 10) by decide) j hj))
  refine G_putX (x := some _) true 16 d_Lat_init_13 rfl f_Lat_13 rfl rfl (by intro C T N h; cases h; rfl) (fun _ => ⟨rfl, by intro C T N h; cases h; rfl⟩) (y2.shA n y.1 (by omega) (hs 0 (12, 2) rfl)) rfl rfl ?_
  have y3 := y2.put (c := n) (j := 0) (v := n + 1) (a := x_sz X) (x := some (x_sz X + 1)) y.1 (by rw [y.1, Nat.add_assoc]) (by omega) (y.kn n 0 (Nat.le_refl _))
  refine G_aload0 17 d_Lat_init_16 rfl ?_
  refine G_bipushN 10 19 d_Lat_init_17 rfl rfl ?_
  refine G_newL0 10 21 d_Lat_init_19 rfl ac_long rfl (by omega) (hz.2.2 _ (by show x_sz X ≤ x_sz X + 12; omega)) ?_
  have y4 := y3.new (t := 1) (w := 10) (hs 12 (1, 10) rfl)
  refine G_putX (x := some _) true 24 d_Lat_init_21 rfl f_Lat_16 rfl rfl (by intro C T N h; cases h; rfl) (fun _ => ⟨rfl, by intro C T N h; cases h; rfl⟩) (y4.shA n y.1 (by omega) (hs 0 (12, 2) rfl)) rfl rfl ?_
  have y5 := y4.put (c := n) (j := 1) (v := n + 12) (a := x_sz X) (x := some (x_sz X + 12)) y.1 (by rw [y.1, Nat.add_assoc]) (by omega) (knc (y.kn n 1 (Nat.le_refl _)) (by omega))
  refine G_vret d_Lat_init_24 rfl ?_
  exact ⟨rfl, y5, rfl, rfl, rfl⟩
abbrev polyLL : List (Nat × Nat) := [(14, 1), (1, 84)]
theorem s_polyI0 {V : GV} {d : Nat} {sl : List (Nat × Nat)} {X0 X : XT} {lo n m : Nat} {K A : List (Nat × Nat × Nat)} {FI AI : FT} {AL : LT} (y : LY sl X0 X lo n m K A) (hs : ∀ i q, polyLL[i]? = some q → sl[n + i]? = some q) (hz : ZZ FI AI AL (x_sz X)) : G V m_Poly_init (d + 1) 0 [some (.ref (x_sz X))] [] (xnew X 14 1) FI AI AL (fun r X' FI' AI' AL' => r = none ∧ LY sl X0 X' lo (n + 2) (m + 85) ((n, 0, n + 1) :: K) A ∧ FI' = FI ∧ AI' = AI ∧ AL' = AL) := by
  have y1 := y.new (t := 14) (w := 1) (hs 0 (14, 1) rfl)
  refine G_aload0 1 d_Poly_init_0 rfl ?_
  refine G_objInit 4 d_Poly_init_1 rfl e_Poly_1 (Nat.le_of_ble_eq_true rfl) ?_
  refine G_aload0 5 d_Poly_init_4 rfl ?_
  refine G_bipushN 84 7 d_Poly_init_5 rfl rfl ?_
  refine G_newL0 84 9 d_Poly_init_7 rfl ac_long rfl (by omega) (hz.2.2 _ (by show x_sz X ≤ x_sz X + 1; omega)) ?_
  have y2 := y1.new (t := 1) (w := 84) (hs 1 (1, 84) rfl)
  refine G_putX (x := some _) true 12 d_Poly_init_9 rfl f_Poly_9 rfl rfl (by intro C T N h; cases h; rfl) (fun _ => ⟨rfl, by intro C T N h; cases h; rfl⟩) (y2.shA n y.1 (by omega) (hs 0 (14, 1) rfl)) rfl rfl ?_
  have y3 := y2.put (c := n) (j := 0) (v := n + 1) (a := x_sz X) (x := some (x_sz X + 1)) y.1 (by rw [y.1, Nat.add_assoc]) (by omega) (y.kn n 0 (Nat.le_refl _))
  refine G_vret d_Poly_init_12 rfl ?_
  exact ⟨rfl, y3, rfl, rfl, rfl⟩
abbrev rankLL : List (Nat × Nat) := [(15, 2), (0, 84)]
theorem s_rankInit {V : GV} {d : Nat} {sl : List (Nat × Nat)} {X0 X : XT} {lo n m : Nat} {K A : List (Nat × Nat × Nat)} {FI AI : FT} {AL : LT} (y : LY sl X0 X lo n m K A) (hs : ∀ i q, rankLL[i]? = some q → sl[n + i]? = some q) (hz : ZZ FI AI AL (x_sz X)) : G V m_Rank_init (d + 1) 0 [some (.ref (x_sz X))] [] (xnew X 15 2) FI AI AL (fun r X' FI' AI' AL' => r = none ∧ LY sl X0 X' lo (n + 2) (m + 86) ((n, 1, n + 1) :: K) A ∧ FI' = FI ∧ AI' = sr AI (x_sz X + 1) (fun k => nI (rk 0 k)) ∧ AL' = AL) := by
  have y1 := y.new (t := 15) (w := 2) (hs 0 (15, 2) rfl)
  refine G_aload0 1 d_Rank_init_0 rfl ?_
  refine G_objInit 4 d_Rank_init_1 rfl e_Rank_1 (Nat.le_of_ble_eq_true rfl) ?_
  refine G_aload0 5 d_Rank_init_4 rfl ?_
  refine G_iconstN 0 6 d_Rank_init_5 rfl rfl ?_
  refine G_putI0 9 d_Rank_init_6 rfl f_Rank_7 rfl (by intro C T N h; cases h; rfl) (y1.shA n y.1 (by omega) (hs 0 (15, 2) rfl)) rfl rfl (by rw [hz.1 _ (Nat.le_refl _)]; rfl) ?_
  refine G_aload0 10 d_Rank_init_9 rfl ?_
  refine G_bipushN 84 12 d_Rank_init_10 rfl rfl ?_
  refine G_newI0 84 14 d_Rank_init_12 rfl ac_int rfl (by omega) (hz.2.1 _ (by show x_sz X ≤ x_sz X + 1; omega)) ?_
  have y2 := y1.new (t := 0) (w := 84) (hs 1 (0, 84) rfl)
  refine G_putX (x := some _) true 17 d_Rank_init_14 rfl f_Rank_15 rfl rfl (by intro C T N h; cases h; rfl) (fun _ => ⟨rfl, by intro C T N h; cases h; rfl⟩) (y2.shA n y.1 (by omega) (hs 0 (15, 2) rfl)) rfl rfl ?_
  have y3 := y2.put (c := n) (j := 1) (v := n + 1) (a := x_sz X) (x := some (x_sz X + 1)) y.1 (by rw [y.1, Nat.add_assoc]) (by omega) (y.kn n 1 (Nat.le_refl _))
  have hRK : RK _ (x_sz X) (x_sz X + 1) := ⟨y3.shA n y.1 (by omega) (hs 0 (15, 2) rfl), y3.frA n (n + 1) y.1 (by rw [y.1, Nat.add_assoc]) List.mem_cons_self, y3.shA (n + 1) (by rw [y.1, Nat.add_assoc]) (by omega) (hs 1 (0, 84) rfl)⟩
  refine G_aload0 18 d_Rank_init_17 rfl ?_
  refine G_iconstN 0 19 d_Rank_init_18 rfl rfl ?_
  refine G_invV1v 22 d_Rank_init_19 rfl e_Rank_19 M_Rank_become rfl hRK.1 (Nat.le_of_ble_eq_true rfl) (Nat.le_of_ble_eq_true rfl) rfl (s_rankBecome hRK (by decide)) ?_
  refine G_vret d_Rank_init_22 rfl ?_
  exact ⟨rfl, y3, u2_id (by rw [hz.1 _ (Nat.le_refl _)]; rfl), rfl, rfl⟩
abbrev linkLL : List (Nat × Nat) := [(13, 3), (14, 1), (1, 84)]
theorem s_linkInit {V : GV} {d : Nat} {sl : List (Nat × Nat)} {X0 X : XT} {lo n m : Nat} {K A : List (Nat × Nat × Nat)} {FI AI : FT} {AL : LT} (y : LY sl X0 X lo n m K A) (hs : ∀ i q, linkLL[i]? = some q → sl[n + i]? = some q) (hz : ZZ FI AI AL (x_sz X)) : G V m_Link_init (d + 2) 0 [some (.ref (x_sz X))] [] (xnew X 13 3) FI AI AL (fun r X' FI' AI' AL' => r = none ∧ LY sl X0 X' lo (n + 3) (m + 88) ((n, 2, n + 1) :: (n + 1, 0, n + 1 + 1) :: K) A ∧ FI' = FI ∧ AI' = AI ∧ AL' = AL) := by
  have y1 := y.new (t := 13) (w := 3) (hs 0 (13, 3) rfl)
  refine G_aload0 1 d_Link_init_0 rfl ?_
  refine G_objInit 4 d_Link_init_1 rfl e_Link_1 (Nat.le_of_ble_eq_true rfl) ?_
  refine G_aload0 5 d_Link_init_4 rfl ?_
  refine G_iconstN 0 6 d_Link_init_5 rfl rfl ?_
  refine G_putI0 9 d_Link_init_6 rfl f_Link_7 rfl (by intro C T N h; cases h; rfl) (y1.shA n y.1 (by omega) (hs 0 (13, 3) rfl)) rfl rfl (by rw [hz.1 _ (Nat.le_refl _)]; rfl) ?_
  refine G_aload0 10 d_Link_init_9 rfl ?_
  refine G_iconstN 0 11 d_Link_init_10 rfl rfl ?_
  refine G_putI0 14 d_Link_init_11 rfl f_Link_13 rfl (by intro C T N h; cases h; rfl) (y1.shA n y.1 (by omega) (hs 0 (13, 3) rfl)) rfl rfl (by rw [hz.1 _ (Nat.le_refl _)]; rfl) ?_
  have hP := s_polyI0 (V := V) (d := d) y1 (fun i q hq => by rw [Nat.add_assoc]; exact hs (1 + i) q (by rw [Nat.add_comm]; exact hq)) (hz.up (k := x_sz (xnew X 13 3)) (by show x_sz X ≤ x_sz X + 1; omega))
  refine G_aload0 15 d_Link_init_14 rfl ?_
  refine G_new0 (ci := 4) (T := T_Poly) 18 d_Link_init_15 rfl c_Link_16 q_Poly rfl (hz.1 _ (by show x_sz X ≤ x_sz X + 1; omega)) ?_
  refine G_dup 19 d_Link_init_18 rfl rfl ?_
  refine G_invIN0 22 d_Link_init_19 rfl e_Link_18 M_Poly_init rfl (Nat.le_of_ble_eq_true rfl) (Nat.le_of_ble_eq_true rfl) rfl (G.conseq (hP) (fun r19 X19 FI19 AI19 AL19 h19 => ?_))
  obtain ⟨h1, y2, h3, h4, h5⟩ := h19
  subst h1
  refine G_putX (x := some _) true 25 d_Link_init_22 rfl f_Link_19 rfl rfl (by intro C T N h; cases h; rfl) (fun _ => ⟨rfl, by intro C T N h; cases h; rfl⟩) (y2.shA n y.1 (by omega) (hs 0 (13, 3) rfl)) rfl rfl ?_
  have y3 := y2.put (c := n) (j := 2) (v := n + 1) (a := x_sz X) (x := some (x_sz X + 1)) y.1 (by rw [y.1, Nat.add_assoc]) (by omega) (knc (y.kn n 2 (Nat.le_refl _)) (by omega))
  refine G_vret d_Link_init_25 rfl ?_
  exact ⟨rfl, y3, h3, h4, h5⟩
