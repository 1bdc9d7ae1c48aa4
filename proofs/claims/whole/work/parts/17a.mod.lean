/-! ===== the reference is made ===== -/
abbrev modLL : List (Nat × Nat) := [(21, 55), (1, 1680), (1, 1092), (0, 84), (0, 84), (0, 84), (0, 343), (0, 84), (0, 84), (0, 7), (0, 7), (1, 602), (0, 4214), (0, 7), (1, 602), (0, 4214), (1, 84), (0, 588), (1, 84), (0, 588), (0, 7), (1, 7), (0, 896), (0, 8), (0, 8), (0, 8), (0, 7), (0, 35), (0, 128), (0, 896), (1, 70), (1, 49), (0, 7), (1, 7), (0, 8), (0, 8), (1, 672), (0, 4), (0, 4), (0, 160)]
abbrev mk1 : List (Nat × Nat × Nat) := (0, 0, 1) :: []
abbrev mk2 : List (Nat × Nat × Nat) := (0, 1, 2) :: mk1
abbrev mk3 : List (Nat × Nat × Nat) := (0, 2, 3) :: mk2
abbrev mk4 : List (Nat × Nat × Nat) := (0, 3, 4) :: mk3
abbrev mk5 : List (Nat × Nat × Nat) := (0, 4, 5) :: mk4
abbrev mk6 : List (Nat × Nat × Nat) := (0, 5, 6) :: mk5
abbrev mk7 : List (Nat × Nat × Nat) := (0, 6, 7) :: mk6
abbrev mk8 : List (Nat × Nat × Nat) := (0, 7, 8) :: mk7
abbrev mk9 : List (Nat × Nat × Nat) := (0, 10, 9) :: mk8
abbrev mk10 : List (Nat × Nat × Nat) := (0, 11, 10) :: mk9
abbrev mk11 : List (Nat × Nat × Nat) := (0, 12, 11) :: mk10
abbrev mk12 : List (Nat × Nat × Nat) := (0, 13, 12) :: mk11
abbrev mk13 : List (Nat × Nat × Nat) := (0, 14, 13) :: mk12
abbrev mk14 : List (Nat × Nat × Nat) := (0, 15, 14) :: mk13
abbrev mk15 : List (Nat × Nat × Nat) := (0, 16, 15) :: mk14
abbrev mk16 : List (Nat × Nat × Nat) := (0, 21, 16) :: mk15
abbrev mk17 : List (Nat × Nat × Nat) := (0, 22, 17) :: mk16
abbrev mk18 : List (Nat × Nat × Nat) := (0, 25, 18) :: mk17
abbrev mk19 : List (Nat × Nat × Nat) := (0, 26, 19) :: mk18
abbrev mk20 : List (Nat × Nat × Nat) := (0, 28, 20) :: mk19
abbrev mk21 : List (Nat × Nat × Nat) := (0, 29, 21) :: mk20
abbrev mk22 : List (Nat × Nat × Nat) := (0, 31, 22) :: mk21
abbrev mk23 : List (Nat × Nat × Nat) := (0, 32, 23) :: mk22
abbrev mk24 : List (Nat × Nat × Nat) := (0, 33, 24) :: mk23
abbrev mk25 : List (Nat × Nat × Nat) := (0, 34, 25) :: mk24
abbrev mk26 : List (Nat × Nat × Nat) := (0, 35, 26) :: mk25
abbrev mk27 : List (Nat × Nat × Nat) := (0, 36, 27) :: mk26
abbrev mk28 : List (Nat × Nat × Nat) := (0, 40, 28) :: mk27
abbrev mk29 : List (Nat × Nat × Nat) := (0, 41, 29) :: mk28
abbrev mk30 : List (Nat × Nat × Nat) := (0, 43, 30) :: mk29
abbrev mk31 : List (Nat × Nat × Nat) := (0, 44, 31) :: mk30
abbrev mk32 : List (Nat × Nat × Nat) := (0, 45, 32) :: mk31
abbrev mk33 : List (Nat × Nat × Nat) := (0, 47, 33) :: mk32
abbrev mk34 : List (Nat × Nat × Nat) := (0, 49, 34) :: mk33
abbrev mk35 : List (Nat × Nat × Nat) := (0, 50, 35) :: mk34
abbrev mk36 : List (Nat × Nat × Nat) := (0, 51, 36) :: mk35
abbrev mk37 : List (Nat × Nat × Nat) := (0, 52, 37) :: mk36
abbrev mk38 : List (Nat × Nat × Nat) := (0, 53, 38) :: mk37
abbrev mk39 : List (Nat × Nat × Nat) := (0, 54, 39) :: mk38
def mMo : Nat := 17576
theorem mod_mo {X0 X : XT} {b : Nat} (y : LY modLL X0 X b 40 mMo mk39 []) : MO X b := by
  have hm : ∀ q ∈ mfl, (0, q.1, q.2.1) ∈ mk39 ∧ q.2.1 < 40 ∧ modLL[q.2.1]? = some (q.2.2.1, q.2.2.2) := by decide
  exact ⟨y.sh 0 (by omega) rfl, fun q hq => ⟨y.fr 0 q.1 q.2.1 (hm q hq).1, y.sh q.2.1 (hm q hq).2.1 (hm q hq).2.2⟩⟩
/-- tables: what is laid up to a TERM -/
def Tb (AI AI0 : FT) (b t : Nat) : Prop := (∀ k, k < t → AI (b + 3) k = nI (eX k) ∧ AI (b + 4) k = nI (eY k) ∧ AI (b + 5) k = nI (eZ k)) ∧ (∀ x y z, x + y + z ≤ 6 → pl x y z < t → AI (b + 6) (49 * x + 7 * y + z) = nI (pl x y z)) ∧ ∀ c, c ≠ b + 3 → c ≠ b + 4 → c ≠ b + 5 → c ≠ b + 6 → AI c = AI0 c
theorem Tb.s {AI AI0 : FT} {b t x y z i : Nat} (h : Tb AI AI0 b t) (hx : x + y + z ≤ 6) (e : pl x y z = t) (hi : i = 49 * x + 7 * y + z) : Tb (u2 (u2 (u2 (u2 AI (b + 3) t (nI x)) (b + 4) t (nI y)) (b + 5) t (nI z)) (b + 6) i (nI t)) AI0 b (t + 1) := by
  obtain ⟨g0, g1, g2, g3, g4⟩ := pl_all x (by omega) y (by omega) z (by omega) hx
  rw [e] at g1 g2 g3
  subst hi
  refine ⟨fun k hk => ?_, fun x' y' z' h1 h2 => ?_, fun c h3 h4 h5 h6 => ?_⟩
  · by_cases ek : k = t
    · subst ek
      refine ⟨?_, ?_, ?_⟩
      · rw [u2_off _ _ _ (by omega), u2_off _ _ _ (by omega), u2_off _ _ _ (by omega), u2_at, g1]
      · rw [u2_off _ _ _ (by omega), u2_off _ _ _ (by omega), u2_at, g2]
      · rw [u2_off _ _ _ (by omega), u2_at, g3]
    · obtain ⟨k1, k2, k3⟩ := h.1 k (by omega)
      refine ⟨?_, ?_, ?_⟩
      · rw [u2_off _ _ _ (by omega), u2_off _ _ _ (by omega), u2_off _ _ _ (by omega), u2_ix _ _ ek]; exact k1
      · rw [u2_off _ _ _ (by omega), u2_off _ _ _ (by omega), u2_ix _ _ ek, u2_off _ _ _ (by omega)]; exact k2
      · rw [u2_off _ _ _ (by omega), u2_ix _ _ ek, u2_off _ _ _ (by omega), u2_off _ _ _ (by omega)]; exact k3
  · obtain ⟨q0, q1, q2, q3, q4⟩ := pl_all x' (by omega) y' (by omega) z' (by omega) h1
    by_cases ek : pl x' y' z' = t
    · rw [ek] at q1 q2 q3
      have e1 : x' = x := by omega
      have e2 : y' = y := by omega
      have e3 : z' = z := by omega
      rw [e1, e2, e3, u2_at, e]
    · rw [u2_ix _ _ (fun q => ek (by
        have e1 : x' = x := by omega
        have e2 : y' = y := by omega
        have e3 : z' = z := by omega
        rw [e1, e2, e3, e])), u2_off _ _ _ (by omega), u2_off _ _ _ (by omega), u2_off _ _ _ (by omega)]
      exact h.2.1 x' y' z' h1 (by omega)
  · rw [u2_off _ _ _ h6, u2_off _ _ _ h5, u2_off _ _ _ h4, u2_off _ _ _ h3]
    exact h.2.2 c h3 h4 h5 h6
theorem tri_s : ∀ d, d ≤ 6 → eS d + eT d + (d + 1) = eS (d + 1) := by decide +kernel
theorem tri_t : ∀ k, k < 6 → eT k + (k + 1) = eT (k + 1) := by decide +kernel
theorem eT_0 : eT 0 = 0 := rfl
/-- what the reference's constructor leaves -/
def MP (X0 : XT) (FI AI0 : FT) (AL : LT) (b : Nat) : PT := fun r X' FI' AI' AL' => r = none ∧ LY modLL X0 X' b 40 mMo mk39 [] ∧ FI' = FI ∧ AL' = AL ∧ MTb AI' b ∧ (∀ k, k < 84 → AI' (b + 7) k = nI (rk 0 k)) ∧ ∀ c, (∀ i, 3 ≤ i → i ≤ 8 → c ≠ b + i) → AI' c = AI0 c
theorem mo_441 {V : GV} {d b : Nat} {X0 X : XT} {FI AI AI0 : FT} {AL : LT} {v1 v2 v3 v4 : Option Value} (y : LY modLL X0 X b 40 mMo mk39 []) (h8 : FI b 8 = nI 0) (hT : Tb AI AI0 b 84) : G V m_Mod_init (d + 3) 441 [some (.ref b), v1, v2, v3, v4] [] X FI AI AL (MP X0 FI AI0 AL b) := by
  have h := mod_mo y
  have hT2 : MTb AI b := ⟨hT.1, fun x y z q => hT.2.1 x y z q (pl_lt q)⟩
  have hr := s_mRanks (V := V) (d := d) (AL := AL) h hT2 h8 (by decide)
  refine G_aload0 442 d_Mod_init_441 rfl ?_
  refine G_invV0 445 d_Mod_init_442 rfl e_Mod_130 M_Mod_ranks rfl h.sh (Nat.le_of_ble_eq_true rfl) (Nat.le_of_ble_eq_true rfl) rfl (G.conseq (hr) (fun r442 X442 FI442 AI442 AL442 h442 => ?_))
  obtain ⟨h1, h2, h3, h4, h5, h6⟩ := h442
  subst h1 h2 h3 h4
  refine G_vret d_Mod_init_445 rfl ?_
  refine ⟨rfl, y, rfl, rfl, ⟨fun t ht => ?_, fun x y z q => ?_⟩, h6, fun c hc => ?_⟩
  · rw [h5 _ (by omega) (by omega), h5 _ (by omega) (by omega), h5 _ (by omega) (by omega)]; exact hT2.1 t ht
  · rw [h5 _ (by omega) (by omega)]; exact hT2.2 x y z q
  · rw [h5 _ (hc 7 (by omega) (by omega)) (hc 8 (by omega) (by omega))]
    exact hT.2.2 c (hc 3 (by omega) (by omega)) (hc 4 (by omega) (by omega)) (hc 5 (by omega) (by omega)) (hc 6 (by omega) (by omega))
theorem mo_365 {V : GV} {d b q x : Nat} {X : XT} {FI AI0 : FT} {AL : LT} {P : PT} (h : MO X b) (hq : q ≤ 6) (hx : x ≤ q) (kk : ∀ (AI : FT) (v4 : Option Value), Tb AI AI0 b (eS q + eT (q - x) + (q - x + 1)) → G V m_Mod_init (d + 3) 429 [some (.ref b), some (.int (nI (eS q + eT (q - x) + (q - x + 1)))), some (.int (nI q)), some (.int (nI x)), v4] [] X FI AI AL P) : ∀ k, k ≤ q - x + 1 → ∀ (t : Nat) (AI : FT), t + k = eS q + eT (q - x) + (q - x + 1) → Tb AI AI0 b t → G V m_Mod_init (d + 3) 365 [some (.ref b), some (.int (nI t)), some (.int (nI q)), some (.int (nI x)), some (.int (dI k))] [] X FI AI AL P := by
  refine downto ?_ ?_
  · intro _ t AI ht hT
    rw [Nat.add_zero] at ht
    subst ht
    refine G_iload4 367 d_Mod_init_365 rfl ?_
    refine G_ifltD 429 370 d_Mod_init_367 rfl rfl (by omega) (fun _ => ?_) (fun j h => by omega)
    exact kk _ _ hT
  · intro k ih hk t AI ht hT
    have e1 : pl x k (q - x - k) = t := by
      unfold pl
      rw [show x + k + (q - x - k) = q by omega, show k + (q - x - k) = q - x by omega]
      omega
    have htl : t < 84 := by rw [← e1]; exact pl_lt (by omega)
    refine G_iload4 367 d_Mod_init_365 rfl ?_
    refine G_ifltD 429 370 d_Mod_init_367 rfl rfl (by omega) (fun h => by omega) (fun j _ => ?_)
    rw [dI_s]
    refine G_aload0 371 d_Mod_init_370 rfl ?_
    refine G_getR 374 d_Mod_init_371 rfl f_Mod_18 rfl h.sh h.f2 ?_
    refine G_iload1 375 d_Mod_init_374 rfl ?_
    refine G_iload3 376 d_Mod_init_375 rfl ?_
    refine G_iastore 377 d_Mod_init_376 rfl h.s2 (ix_nI (by omega) (by omega)) ?_
    refine G_aload0 378 d_Mod_init_377 rfl ?_
    refine G_getR 381 d_Mod_init_378 rfl f_Mod_22 rfl h.sh h.f3 ?_
    refine G_iload1 382 d_Mod_init_381 rfl ?_
    refine G_iload4 384 d_Mod_init_382 rfl ?_
    refine G_iastore 385 d_Mod_init_384 rfl h.s3 (ix_nI (by omega) (by omega)) ?_
    refine G_aload0 386 d_Mod_init_385 rfl ?_
    refine G_getR 389 d_Mod_init_386 rfl f_Mod_25 rfl h.sh h.f4 ?_
    refine G_iload1 390 d_Mod_init_389 rfl ?_
    refine G_iload2 391 d_Mod_init_390 rfl ?_
    refine G_iload3 392 d_Mod_init_391 rfl ?_
    first | refine G_isubN 393 d_Mod_init_392 rfl (by omega) ?_ | refine G_isub 393 d_Mod_init_392 rfl ?_
    refine G_iload4 395 d_Mod_init_393 rfl ?_
    first | refine G_isubN 396 d_Mod_init_395 rfl (by omega) ?_ | refine G_isub 396 d_Mod_init_395 rfl ?_
    refine G_iastore 397 d_Mod_init_396 rfl h.s4 (ix_nI (by omega) (by omega)) ?_
    refine G_aload0 398 d_Mod_init_397 rfl ?_
    refine G_getR 401 d_Mod_init_398 rfl f_Mod_28 rfl h.sh h.f5 ?_
    refine G_bipushN 49 403 d_Mod_init_401 rfl rfl ?_
    refine G_iload3 404 d_Mod_init_403 rfl ?_
    first | refine G_imulN 405 d_Mod_init_404 rfl ?_ | refine G_imul 405 d_Mod_init_404 rfl ?_
    refine G_bipushN 7 407 d_Mod_init_405 rfl rfl ?_
    refine G_iload4 409 d_Mod_init_407 rfl ?_
    first | refine G_imulN 410 d_Mod_init_409 rfl ?_ | refine G_imul 410 d_Mod_init_409 rfl ?_
    first | refine G_iaddN 411 d_Mod_init_410 rfl ?_ | refine G_iadd 411 d_Mod_init_410 rfl ?_
    refine G_iload2 412 d_Mod_init_411 rfl ?_
    first | refine G_iaddN 413 d_Mod_init_412 rfl ?_ | refine G_iadd 413 d_Mod_init_412 rfl ?_
    refine G_iload3 414 d_Mod_init_413 rfl ?_
    first | refine G_isubN 415 d_Mod_init_414 rfl (by omega) ?_ | refine G_isub 415 d_Mod_init_414 rfl ?_
    refine G_iload4 417 d_Mod_init_415 rfl ?_
    first | refine G_isubN 418 d_Mod_init_417 rfl (by omega) ?_ | refine G_isub 418 d_Mod_init_417 rfl ?_
    refine G_iload1 419 d_Mod_init_418 rfl ?_
    refine G_iastore 420 d_Mod_init_419 rfl h.s5 (ix_nI (by omega) (by omega)) ?_
    first | refine G_iincN1 423 d_Mod_init_420 rfl (by decide) rfl ?_ | refine G_iinc1 _ 423 d_Mod_init_420 rfl (by decide) rfl rfl ?_
    first | refine G_iinc4 _ 426 d_Mod_init_423 rfl (by decide) rfl (dI_m1 _) ?_ | refine G_iinc4 _ 426 d_Mod_init_423 rfl (by decide) rfl rfl ?_
    refine G_goto 365 d_Mod_init_426 rfl ?_
    refine ih (by omega) (t + 1) _ (by omega) (hT.s (x := x) (y := k) (z := q - x - k) (by omega) e1 (by omega))
theorem mo_356 {V : GV} {d b q : Nat} {X : XT} {FI AI0 : FT} {AL : LT} {P : PT} (h : MO X b) (hq : q ≤ 6) (kk : ∀ (AI : FT) (v3 v4 : Option Value), Tb AI AI0 b (eS (q + 1)) → G V m_Mod_init (d + 3) 435 [some (.ref b), some (.int (nI (eS (q + 1)))), some (.int (nI q)), v3, v4] [] X FI AI AL P) : ∀ k, k ≤ q + 1 → ∀ (t : Nat) (AI : FT) (v4 : Option Value), (k = 0 → t = eS (q + 1)) → (1 ≤ k → t = eS q + eT (q + 1 - k)) → Tb AI AI0 b t → G V m_Mod_init (d + 3) 356 [some (.ref b), some (.int (nI t)), some (.int (nI q)), some (.int (dI k)), v4] [] X FI AI AL P := by
  refine downto ?_ ?_
  · intro _ t AI v4 ht _ hT
    have ht := ht rfl
    subst ht
    refine G_iload3 357 d_Mod_init_356 rfl ?_
    refine G_ifltD 435 360 d_Mod_init_357 rfl rfl (by omega) (fun _ => ?_) (fun j h => by omega)
    exact kk _ _ _ hT
  · intro k ih hk t AI v4 _ ht hT
    have ht := ht (by omega)
    rw [show q + 1 - (k + 1) = q - k by omega] at ht
    refine G_iload3 357 d_Mod_init_356 rfl ?_
    refine G_ifltD 435 360 d_Mod_init_357 rfl rfl (by omega) (fun h => by omega) (fun j _ => ?_)
    rw [dI_s]
    refine G_iload2 361 d_Mod_init_360 rfl ?_
    refine G_iload3 362 d_Mod_init_361 rfl ?_
    first | refine G_isubN 363 d_Mod_init_362 rfl (by omega) ?_ | refine G_isub 363 d_Mod_init_362 rfl ?_
    refine G_istore4 365 d_Mod_init_363 rfl (by decide) rfl ?_
    rw [show nI (q - k) = dI (q - k + 1) from (dI_s _).symm]
    refine mo_365 (x := k) h hq (by omega) (fun AI' v4' hT' => ?_) (q - k + 1) (Nat.le_refl _) t AI (by omega) hT
    first | refine G_iinc3 _ 432 d_Mod_init_429 rfl (by decide) rfl (dI_m1 _) ?_ | refine G_iinc3 _ 432 d_Mod_init_429 rfl (by decide) rfl rfl ?_
    refine G_goto 356 d_Mod_init_432 rfl ?_
    refine ih (by omega) _ AI' _ (fun e => ?_) (fun e => ?_) hT'
    · subst e
      rw [Nat.sub_zero]
      exact tri_s q hq
    · have := tri_t (q - k) (by omega)
      rw [show q + 1 - k = q - k + 1 by omega]
      omega
theorem mo_348 {V : GV} {d b : Nat} {X0 X : XT} {FI AI0 : FT} {AL : LT} (y : LY modLL X0 X b 40 mMo mk39 []) (h8 : FI b 8 = nI 0) : ∀ q, q ≤ 7 → ∀ (AI : FT) (v3 v4 : Option Value), Tb AI AI0 b (eS q) → G V m_Mod_init (d + 3) 348 [some (.ref b), some (.int (nI (eS q))), some (.int (nI q)), v3, v4] [] X FI AI AL (MP X0 FI AI0 AL b) := by
  have h := mod_mo y
  refine upto ?_ ?_
  · intro AI v3 v4 hT
    refine G_iload2 349 d_Mod_init_348 rfl ?_
    refine G_bipushN 6 351 d_Mod_init_349 rfl rfl ?_
    first | refine G_icgtN 441 354 d_Mod_init_351 rfl rfl (by omega) (by omega) (fun h351 => ?_) (fun h351 => ?_) | refine G_icgt 441 354 d_Mod_init_351 rfl rfl (fun h351 => ?_) (fun h351 => ?_)
    · exact mo_441 y h8 hT
    · omega
  · intro q hq ih AI v3 v4 hT
    refine G_iload2 349 d_Mod_init_348 rfl ?_
    refine G_bipushN 6 351 d_Mod_init_349 rfl rfl ?_
    first | refine G_icgtN 441 354 d_Mod_init_351 rfl rfl (by omega) (by omega) (fun h351 => ?_) (fun h351 => ?_) | refine G_icgt 441 354 d_Mod_init_351 rfl rfl (fun h351 => ?_) (fun h351 => ?_)
    · omega
    · refine G_iload2 355 d_Mod_init_354 rfl ?_
      refine G_istore3 356 d_Mod_init_355 rfl (by decide) rfl ?_
      have kk : ∀ (AI : FT) (v3 v4 : Option Value), Tb AI AI0 b (eS (q + 1)) → G V m_Mod_init (d + 3) 435 [some (.ref b), some (.int (nI (eS (q + 1)))), some (.int (nI q)), v3, v4] [] X FI AI AL (MP X0 FI AI0 AL b) := by
        intro AI' v3' v4' hT'
        first | refine G_iincN2 438 d_Mod_init_435 rfl (by decide) rfl ?_ | refine G_iinc2 _ 438 d_Mod_init_435 rfl (by decide) rfl rfl ?_
        refine G_goto 348 d_Mod_init_438 rfl ?_
        exact ih _ _ _ hT'
      have hh := mo_356 (q := q) h (by omega) kk (q + 1) (Nat.le_refl _) (eS q) AI v4 (fun e => by omega) (fun _ => by rw [Nat.sub_self, eT_0, Nat.add_zero]) hT
      rw [dI_s] at hh
      exact hh
