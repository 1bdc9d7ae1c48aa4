/-! ===== GENERATORS of the class: EXPRESSIONS, copies ===== -/
def exI (AI : FT) (ga : Nat → Nat) (gi : Nat) (rn hh : Nat → Nat) (i : Nat) : FT := fun b j =>
  if b = ga 7 then (if gi * 86 ≤ j ∧ j < gi * 86 + i then nI (rn (j - gi * 86)) else AI b j)
  else if b = ga 5 then (if j = gi then nI i else AI b j)
  else if b = ga 4 then (if j = gi then nI (hh i) else AI b j) else AI b j
def exL (AL : LT) (ga : Nat → Nat) (gi : Nat) (cf : Nat → Int64) (i : Nat) : LT := fun b j => if b = ga 6 then (if gi * 86 ≤ j ∧ j < gi * 86 + i then cf (j - gi * 86) else AL b j) else AL b j
theorem exI_0 {AI : FT} {ga : Nat → Nat} {gi : Nat} {rn hh : Nat → Nat} (h5 : AI (ga 5) gi = nI 0) (h4 : AI (ga 4) gi = nI (hh 0)) : exI AI ga gi rn hh 0 = AI := by
  funext b j
  unfold exI
  split
  · rw [if_neg (by omega)]
  · split
    · split
      · rename_i e1 e2 e3; rw [e2, e3, h5]
      · rfl
    · split
      · split
        · rename_i e1 e2 e3 e4; rw [e3, e4, h4]
        · rfl
      · rfl
theorem exL_0 {AL : LT} {ga : Nat → Nat} {gi : Nat} {cf : Nat → Int64} : exL AL ga gi cf 0 = AL := by
  funext b j
  unfold exL
  split
  · rw [if_neg (by omega)]
  · rfl
theorem exI_s {AI : FT} {ga : Nat → Nat} {gi i : Nat} {rn hh : Nat → Nat} (n47 : ga 4 ≠ ga 7) (n57 : ga 5 ≠ ga 7) (n45 : ga 4 ≠ ga 5) : u2 (u2 (u2 (exI AI ga gi rn hh i) (ga 7) (gi * 86 + i) (nI (rn i))) (ga 5) gi (nI (i + 1))) (ga 4) gi (nI (hh (i + 1))) = exI AI ga gi rn hh (i + 1) := by
  funext b j
  by_cases e7 : b = ga 7
  · subst e7
    rw [u2_ne _ _ _ _ n47.symm, u2_ne _ _ _ _ n57.symm]
    by_cases ej : j = gi * 86 + i
    · subst ej
      rw [u2_at]
      simp [exI]
    · rw [u2_ix _ _ ej]
      simp only [exI, if_true]
      by_cases c : gi * 86 ≤ j ∧ j < gi * 86 + i
      · rw [if_pos c, if_pos (by omega)]
      · rw [if_neg c, if_neg (by omega)]
  · by_cases e5 : b = ga 5
    · subst e5
      rw [u2_ne _ _ _ _ n45.symm]
      by_cases ej : j = gi
      · subst ej
        rw [u2_at]
        simp [exI, n57]
      · rw [u2_ix _ _ ej, u2_ne _ _ _ _ n57]
        simp [exI, n57, ej]
    · by_cases e4 : b = ga 4
      · subst e4
        by_cases ej : j = gi
        · subst ej
          rw [u2_at]
          simp [exI, n47, n45]
        · rw [u2_ix _ _ ej, u2_ne _ _ _ _ n45, u2_ne _ _ _ _ n47]
          simp [exI, n47, n45, ej]
      · rw [u2_ne _ _ _ _ e4, u2_ne _ _ _ _ e5, u2_ne _ _ _ _ e7]
        simp [exI, e7, e5, e4]
theorem exL_s {AL : LT} {ga : Nat → Nat} {gi i : Nat} {cf : Nat → Int64} : u2 (exL AL ga gi cf i) (ga 6) (gi * 86 + i) (cf i) = exL AL ga gi cf (i + 1) := by
  funext b j
  by_cases e7 : b = ga 6
  · subst e7
    by_cases ej : j = gi * 86 + i
    · subst ej
      rw [u2_at]
      simp [exL]
    · rw [u2_ix _ _ ej]
      simp only [exL, if_true]
      by_cases c : gi * 86 ≤ j ∧ j < gi * 86 + i
      · rw [if_pos c, if_pos (by omega)]
      · rw [if_neg c, if_neg (by omega)]
  · rw [u2_ne _ _ _ _ e7]
    simp [exL, e7]
/-- heights as the PARTS come -/
def hhx (ht rn : Nat → Nat) (gi : Nat) : Nat → Nat
  | 0 => 0
  | i + 1 => hmx ht (rn i) (hhx ht rn gi i) gi
def xcf (e : Int64) (sc : Nat → Int64) (i : Nat) : Int64 := if i = 0 then e else if i = 1 then -e else -e * sc (i - 2)
def xrn (l r : Nat) (sr_ : Nat → Nat) (i : Nat) : Nat := if i = 0 then l else if i = 1 then r else sr_ (i - 2)
theorem s_part1 {V : GV} {d g gi i : Nat} {ga po qo ht rn : Nat → Nat} {cf : Nat → Int64} {X : XT} {FI AI : FT} {AL : LT} (h : GO X g ga po qo) (hg : gi < 7) (hi : i < 86) (hrn : rn i < 2 ^ 31) (h4 : ∀ j, j < gi → AI (ga 4) j = nI (ht j) ∧ ht j ≤ 100) {v : Int64} {r : Nat} (hv : v = cf i) (hr : r = rn i) :
    G V m_Gen_appendPart (d + 1) 0 [some (.ref g), some (.int (nI gi)), some (.long v), none, some (.int (nI r)), none, none] [] X FI (exI AI ga gi rn (hhx ht rn gi) i) (exL AL ga gi cf i) (Pd none X FI (exI AI ga gi rn (hhx ht rn gi) (i + 1)) (exL AL ga gi cf (i + 1))) := by
  subst hv
  subst hr
  have h0 := h
  obtain ⟨h1, f1, f2, f3, f4, f5, f6, f7, f8, s1, s2, s3, s4, s5, s6, s7, s8, hp, -, -, -, n24, n25, n27, n45, n47, n57⟩ := h
  have hb : ∀ k, hhx ht rn gi k ≤ 101 := by
    intro k
    induction k with
    | zero => simp [hhx]
    | succ k ih => exact hmx_le ih gi (fun i hi => by have := (h4 i hi).2; omega)
  have key := s_appendPart (V := V) (d := d) (c := i) (r := rn i) (h0 := hhx ht rn gi i) (v := cf i) (ht := ht) (FI := FI) (AI := exI AI ga gi rn (hhx ht rn gi) i) (AL := exL AL ga gi cf i) h0 hg (by simp [exI, n57]) hi hrn (fun j hj => ⟨by simp [exI, n47, n45, show ¬ j = gi by omega]; exact (h4 j hj).1, (h4 j hj).2⟩) (by simp [exI, n47, n45]) (hb i)
  rw [show hmx ht (rn i) (hhx ht rn gi i) gi = hhx ht rn gi (i + 1) from rfl, exI_s n47 n57 n45, exL_s] at key
  exact key
theorem s_expressLast {V : GV} {d g gi l r ns s sc sw : Nat} {e : Int64} {ga po qo ht sn : Nat → Nat} {X : XT} {FI AI : FT} {AL : LT} (h : GO X g ga po qo) (hg : gi < 7) (hn : FI g 0 = nI (gi + 1)) (hl : l < 2 ^ 31) (hr : r < 2 ^ 31) (hS : STp X s sc sw) (hss : FI s 0 = nI ns) (hns : ns ≤ 84) (hsn : ∀ i, i < ns → AI sw i = nI (sn i) ∧ sn i < 2 ^ 31) (hd1 : sc ≠ ga 6) (hd2 : sw ≠ ga 7 ∧ sw ≠ ga 5 ∧ sw ≠ ga 4) (h5 : AI (ga 5) gi = nI 0) (h40 : AI (ga 4) gi = nI 0) (h4 : ∀ j, j < gi → AI (ga 4) j = nI (ht j) ∧ ht j ≤ 100) :
    G V m_Gen_expressLast (d + 2) 0 [some (.ref g), some (.long e), none, some (.int (nI l)), some (.int (nI r)), some (.ref s), none, none] [] X FI AI AL (Pd none X FI (exI AI ga gi (xrn l r sn) (hhx ht (xrn l r sn) gi) (2 + ns)) (exL AL ga gi (xcf e (AL sc)) (2 + ns))) := by
  have hsh := h.1
  obtain ⟨t1, t2, t3, t4, t5⟩ := hS
  have L : ∀ k, k ≤ ns → G V m_Gen_expressLast (d + 2) 29 [some (.ref g), some (.long e), none, some (.int (nI l)), some (.int (nI r)), some (.ref s), some (.int (nI gi)), some (.int (nI k))] [] X FI (exI AI ga gi (xrn l r sn) (hhx ht (xrn l r sn) gi) (2 + k)) (exL AL ga gi (xcf e (AL sc)) (2 + k)) (Pd none X FI (exI AI ga gi (xrn l r sn) (hhx ht (xrn l r sn) gi) (2 + ns)) (exL AL ga gi (xcf e (AL sc)) (2 + ns))) := by
    refine upto ?_ ?_
    · refine G_iload7 31 d_Gen_expressLast_29 rfl ?_
      refine G_aload5 33 d_Gen_expressLast_31 rfl ?_
      refine G_getIv 36 d_Gen_expressLast_33 rfl f_Gen_70 rfl (by assumption) hss ?_
      first | refine G_icgeN 70 39 d_Gen_expressLast_36 rfl rfl (by omega) (by omega) (fun h36 => ?_) (fun h36 => ?_) | refine G_icge 70 39 d_Gen_expressLast_36 rfl rfl (fun h36 => ?_) (fun h36 => ?_)
      · refine G_vret d_Gen_expressLast_70 rfl ?_
        exact Pd.rf
      · omega
    · intro k hk ih
      obtain ⟨k1, k2⟩ := hsn k hk
      have ec : exL AL ga gi (xcf e (AL sc)) (2 + k) sc k = AL sc k := by simp [exL, hd1]
      have er : exI AI ga gi (xrn l r sn) (hhx ht (xrn l r sn) gi) (2 + k) sw k = nI (sn k) := by simp [exI, hd2.1, hd2.2.1, hd2.2.2, k1]
      have x1 : xrn l r sn (2 + k) = sn k := by simp [xrn, show 2 + k ≠ 0 by omega, show 2 + k ≠ 1 by omega]
      have x2 : xcf e (AL sc) (2 + k) = -e * AL sc k := by simp [xcf, show 2 + k ≠ 0 by omega, show 2 + k ≠ 1 by omega]
      refine G_iload7 31 d_Gen_expressLast_29 rfl ?_
      refine G_aload5 33 d_Gen_expressLast_31 rfl ?_
      refine G_getIv 36 d_Gen_expressLast_33 rfl f_Gen_70 rfl (by assumption) hss ?_
      first | refine G_icgeN 70 39 d_Gen_expressLast_36 rfl rfl (by omega) (by omega) (fun h36 => ?_) (fun h36 => ?_) | refine G_icge 70 39 d_Gen_expressLast_36 rfl rfl (fun h36 => ?_) (fun h36 => ?_)
      · omega
      · refine G_aload0 40 d_Gen_expressLast_39 rfl ?_
        refine G_iload6 42 d_Gen_expressLast_40 rfl ?_
        refine G_lload1 43 d_Gen_expressLast_42 rfl ?_
        refine G_lneg 44 d_Gen_expressLast_43 rfl ?_
        refine G_aload5 46 d_Gen_expressLast_44 rfl ?_
        refine G_getR 49 d_Gen_expressLast_46 rfl f_Gen_73 rfl (by assumption) (by assumption) ?_
        refine G_iload7 51 d_Gen_expressLast_49 rfl ?_
        refine G_laloadv 52 d_Gen_expressLast_51 rfl (by assumption) (ix_nI (by omega) (by omega)) ec ?_
        refine G_lmul 53 d_Gen_expressLast_52 rfl ?_
        refine G_aload5 55 d_Gen_expressLast_53 rfl ?_
        refine G_getR 58 d_Gen_expressLast_55 rfl f_Gen_76 rfl (by assumption) (by assumption) ?_
        refine G_iload7 60 d_Gen_expressLast_58 rfl ?_
        refine G_ialoadv 61 d_Gen_expressLast_60 rfl (by assumption) (ix_nI (by omega) (by omega)) er ?_
        refine G_invV3v 64 d_Gen_expressLast_61 rfl e_Gen_66 M_Gen_appendPart rfl (by assumption) (Nat.le_of_ble_eq_true rfl) (Nat.le_of_ble_eq_true rfl) rfl (s_part1 h hg (by omega) (by rw [x1]; exact k2) h4 x2.symm x1.symm) ?_
        first | refine G_iincN7 67 d_Gen_expressLast_64 rfl (by decide) rfl ?_ | refine G_iinc7 _ 67 d_Gen_expressLast_64 rfl (by decide) rfl rfl ?_
        refine G_goto 29 d_Gen_expressLast_67 rfl ?_
        exact ih
  have p0 := s_part1 (V := V) (d := d) (i := 0) (rn := xrn l r sn) (cf := xcf e (AL sc)) (FI := FI) (AI := AI) (AL := AL) h hg (by omega) hl h4 (v := e) (r := l) rfl rfl
  rw [exI_0 h5 h40, exL_0] at p0
  have p1 := s_part1 (V := V) (d := d) (i := 1) (rn := xrn l r sn) (cf := xcf e (AL sc)) (FI := FI) (AI := AI) (AL := AL) h hg (by omega) hr h4 (v := -e) (r := r) rfl rfl
  refine G_aload0 1 d_Gen_expressLast_0 rfl ?_
  refine G_getIv 4 d_Gen_expressLast_1 rfl f_Gen_9 rfl (by assumption) hn ?_
  refine G_iconstN 1 5 d_Gen_expressLast_4 rfl rfl ?_
  first | refine G_isubN 6 d_Gen_expressLast_5 rfl (by omega) ?_ | refine G_isub 6 d_Gen_expressLast_5 rfl ?_
  rw [show gi + 1 - 1 = gi by omega]
  refine G_istore6 8 d_Gen_expressLast_6 rfl (by decide) rfl ?_
  refine G_aload0 9 d_Gen_expressLast_8 rfl ?_
  refine G_iload6 11 d_Gen_expressLast_9 rfl ?_
  refine G_lload1 12 d_Gen_expressLast_11 rfl ?_
  refine G_iload3 13 d_Gen_expressLast_12 rfl ?_
  refine G_invV3v 16 d_Gen_expressLast_13 rfl e_Gen_66 M_Gen_appendPart rfl (by assumption) (Nat.le_of_ble_eq_true rfl) (Nat.le_of_ble_eq_true rfl) rfl (p0) ?_
  refine G_aload0 17 d_Gen_expressLast_16 rfl ?_
  refine G_iload6 19 d_Gen_expressLast_17 rfl ?_
  refine G_lload1 20 d_Gen_expressLast_19 rfl ?_
  refine G_lneg 21 d_Gen_expressLast_20 rfl ?_
  refine G_iload4 23 d_Gen_expressLast_21 rfl ?_
  refine G_invV3v 26 d_Gen_expressLast_23 rfl e_Gen_66 M_Gen_appendPart rfl (by assumption) (Nat.le_of_ble_eq_true rfl) (Nat.le_of_ble_eq_true rfl) rfl (p1) ?_
  refine G_iconstN 0 27 d_Gen_expressLast_26 rfl rfl ?_
  refine G_istore7 29 d_Gen_expressLast_27 rfl (by decide) rfl ?_
  exact L 0 (by omega)
/-- GENERATORS as they are read: how many, LEADING TERMS, POLYNOMIALS, heights, PARTS -/
def GS (FI AI : FT) (AL : LT) (g : Nat) (ga qo : Nat → Nat) (n : Nat) (gl : Nat → Nat) (gp : Nat → Nat → Int64) (ht pn : Nat → Nat) (pc : Nat → Nat → Int64) (pr : Nat → Nat → Nat) : Prop :=
  FI g 0 = nI n ∧ n ≤ 7 ∧ ∀ i, i < n → AI (ga 2) i = nI (gl i) ∧ AL (qo i) = gp i ∧ AL (ga 3) i = norm (gp i) ∧ AI (ga 4) i = nI (ht i) ∧ AI (ga 5) i = nI (pn i) ∧ ∀ j, j < pn i → AL (ga 6) (i * 86 + j) = pc i j ∧ AI (ga 7) (i * 86 + j) = nI (pr i j)
/-- nothing changes but in these GENERATORS -/
def GF (FI FI' AI AI' : FT) (AL AL' : LT) (g : Nat) (ga qo : Nat → Nat) : Prop :=
  (∀ b j, ¬ (b = g ∧ j = 0) → FI' b j = FI b j) ∧ (∀ b, b ≠ ga 2 → b ≠ ga 4 → b ≠ ga 5 → b ≠ ga 7 → AI' b = AI b) ∧ ∀ b, (∀ i, i < 7 → b ≠ qo i) → b ≠ ga 3 → b ≠ ga 6 → AL' b = AL b
theorem s_genBecomeLike {V : GV} {d g g2 n : Nat} {ga po qo ga2 po2 qo2 gl ht pn : Nat → Nat} {gp : Nat → Nat → Int64} {pc : Nat → Nat → Int64} {pr : Nat → Nat → Nat} {X : XT} {FI AI : FT} {AL : LT} (h : GO X g ga po qo) (h2 : GO X g2 ga2 po2 qo2) (hS : GS FI AI AL g2 ga2 qo2 n gl gp ht pn pc pr) (hpn : ∀ i, i < n → pn i ≤ 86)
    (hg : g2 ≠ g) (ha : ∀ i j, 2 ≤ i → i ≤ 7 → 2 ≤ j → j ≤ 7 → ga2 i ≠ ga j) (hq : ∀ i j, i < 7 → j < 7 → qo2 i ≠ qo j) (hq3 : ∀ i, i < 7 → qo2 i ≠ ga 3 ∧ qo2 i ≠ ga 6 ∧ qo i ≠ ga2 3 ∧ qo i ≠ ga2 6) :
    G V m_Gen_becomeLike (d + 2) 0 [some (.ref g), some (.ref g2), none] [] X FI AI AL (fun r X' FI' AI' AL' => r = none ∧ X' = X ∧ GS FI' AI' AL' g ga qo n gl gp ht pn pc pr ∧ GF FI FI' AI AI' AL AL' g ga qo) := by
  have h0 := h
  have h20 := h2
  obtain ⟨h1, f1, f2, f3, f4, f5, f6, f7, f8, s1, s2, s3, s4, s5, s6, s7, s8, hp, hinj, hq1, ⟨m36, m38, m68⟩, n24, n25, n27, n45, n47, n57⟩ := h
  obtain ⟨h1', f1', f2', f3', f4', f5', f6', f7', f8', s1', s2', s3', s4', s5', s6', s7', s8', hp', hinj', hq1', ⟨m36', m38', m68'⟩, n24', n25', n27', n45', n47', n57'⟩ := h2
  obtain ⟨z1, z2_, z3⟩ := hS
  have L : ∀ k, k ≤ n → ∀ (FI1 AI1 : FT) (AL1 : LT), FI1 g 0 = nI n → GF FI FI1 AI AI1 AL AL1 g ga qo →
      (∀ i, i < k → AI1 (ga 2) i = nI (gl i) ∧ AL1 (qo i) = gp i ∧ AL1 (ga 3) i = norm (gp i) ∧ AI1 (ga 4) i = nI (ht i) ∧ AI1 (ga 5) i = nI (pn i) ∧ ∀ j, j < pn i → AL1 (ga 6) (i * 86 + j) = pc i j ∧ AI1 (ga 7) (i * 86 + j) = nI (pr i j)) →
      G V m_Gen_becomeLike (d + 2) 10 [some (.ref g), some (.ref g2), some (.int (nI k))] [] X FI1 AI1 AL1 (fun r X' FI' AI' AL' => r = none ∧ X' = X ∧ GS FI' AI' AL' g ga qo n gl gp ht pn pc pr ∧ GF FI FI' AI AI' AL AL' g ga qo) := by
    refine upto ?_ ?_
    · intro FI1 AI1 AL1 hn hF hD
      refine G_iload2 11 d_Gen_becomeLike_10 rfl ?_
      refine G_aload0 12 d_Gen_becomeLike_11 rfl ?_
      refine G_getIv 15 d_Gen_becomeLike_12 rfl f_Gen_9 rfl (by assumption) hn ?_
      first | refine G_icgeN 141 18 d_Gen_becomeLike_15 rfl rfl (by omega) (by omega) (fun h15 => ?_) (fun h15 => ?_) | refine G_icge 141 18 d_Gen_becomeLike_15 rfl rfl (fun h15 => ?_) (fun h15 => ?_)
      · refine G_vret d_Gen_becomeLike_141 rfl ?_
        exact ⟨rfl, rfl, ⟨hn, z2_, hD⟩, hF⟩
      · omega
    · intro k hk ih FI1 AI1 AL1 hn hF hD
      obtain ⟨a1, a2⟩ := hp k (by omega)
      obtain ⟨a1', a2'⟩ := hp' k (by omega)
      have a3 := a2.1
      obtain ⟨y1, y2, y3, y4, y5, y6⟩ := z3 k hk
      obtain ⟨F1, F2, F3⟩ := hF
      have hpk := hpn k hk
      have b2 : AI1 (ga2 2) = AI (ga2 2) := F2 _ (ha 2 2 (by omega) (by omega) (by omega) (by omega)) (ha 2 4 (by omega) (by omega) (by omega) (by omega)) (ha 2 5 (by omega) (by omega) (by omega) (by omega)) (ha 2 7 (by omega) (by omega) (by omega) (by omega))
      have b4 : AI1 (ga2 4) = AI (ga2 4) := F2 _ (ha 4 2 (by omega) (by omega) (by omega) (by omega)) (ha 4 4 (by omega) (by omega) (by omega) (by omega)) (ha 4 5 (by omega) (by omega) (by omega) (by omega)) (ha 4 7 (by omega) (by omega) (by omega) (by omega))
      have b5 : AI1 (ga2 5) = AI (ga2 5) := F2 _ (ha 5 2 (by omega) (by omega) (by omega) (by omega)) (ha 5 4 (by omega) (by omega) (by omega) (by omega)) (ha 5 5 (by omega) (by omega) (by omega) (by omega)) (ha 5 7 (by omega) (by omega) (by omega) (by omega))
      have b7 : AI1 (ga2 7) = AI (ga2 7) := F2 _ (ha 7 2 (by omega) (by omega) (by omega) (by omega)) (ha 7 4 (by omega) (by omega) (by omega) (by omega)) (ha 7 5 (by omega) (by omega) (by omega) (by omega)) (ha 7 7 (by omega) (by omega) (by omega) (by omega))
      have bq : AL1 (qo2 k) = gp k := by rw [F3 _ (fun i hi => hq k i (by omega) hi) (hq3 k (by omega)).1 (hq3 k (by omega)).2.1]; exact y2
      have b3 : AL1 (ga2 3) = AL (ga2 3) := F3 _ (fun i hi => (hq3 i hi).2.2.1.symm) (ha 3 3 (by omega) (by omega) (by omega) (by omega)) (ha 3 6 (by omega) (by omega) (by omega) (by omega))
      have b6 : AL1 (ga2 6) = AL (ga2 6) := F3 _ (fun i hi => (hq3 i hi).2.2.2.symm) (ha 6 3 (by omega) (by omega) (by omega) (by omega)) (ha 6 6 (by omega) (by omega) (by omega) (by omega))
      have a24 := (ha 4 2 (by omega) (by omega) (by omega) (by omega))
      have a25 := (ha 5 2 (by omega) (by omega) (by omega) (by omega))
      have a45 := (ha 5 4 (by omega) (by omega) (by omega) (by omega))
      have q3 : ga2 3 ≠ qo k := (hq3 k (by omega)).2.2.1.symm
      refine G_iload2 11 d_Gen_becomeLike_10 rfl ?_
      refine G_aload0 12 d_Gen_becomeLike_11 rfl ?_
      refine G_getIv 15 d_Gen_becomeLike_12 rfl f_Gen_9 rfl (by assumption) hn ?_
      first | refine G_icgeN 141 18 d_Gen_becomeLike_15 rfl rfl (by omega) (by omega) (fun h15 => ?_) (fun h15 => ?_) | refine G_icge 141 18 d_Gen_becomeLike_15 rfl rfl (fun h15 => ?_) (fun h15 => ?_)
      · omega
      · refine G_aload0 19 d_Gen_becomeLike_18 rfl ?_
        refine G_getR 22 d_Gen_becomeLike_19 rfl f_Gen_17 rfl (by assumption) (by assumption) ?_
        refine G_iload2 23 d_Gen_becomeLike_22 rfl ?_
        refine G_aaload 24 d_Gen_becomeLike_23 rfl (by assumption) (by decide) (by decide) (ix_nI (by omega) (by omega)) (by assumption) ?_
        refine G_aload1 25 d_Gen_becomeLike_24 rfl ?_
        refine G_getR 28 d_Gen_becomeLike_25 rfl f_Gen_17 rfl (by assumption) (by assumption) ?_
        refine G_iload2 29 d_Gen_becomeLike_28 rfl ?_
        refine G_aaload 30 d_Gen_becomeLike_29 rfl (by assumption) (by decide) (by decide) (ix_nI (by omega) (by omega)) (by assumption) ?_
        refine G_invV1v 33 d_Gen_becomeLike_30 rfl e_Gen_49 M_Poly_becomeLike rfl (by assumption) (Nat.le_of_ble_eq_true rfl) (Nat.le_of_ble_eq_true rfl) rfl (s_becomeLike (by assumption) (by assumption)) ?_
        rw [bq]
        refine G_aload0 34 d_Gen_becomeLike_33 rfl ?_
        refine G_getR 37 d_Gen_becomeLike_34 rfl f_Gen_21 rfl (by assumption) (by assumption) ?_
        refine G_iload2 38 d_Gen_becomeLike_37 rfl ?_
        refine G_aload1 39 d_Gen_becomeLike_38 rfl ?_
        refine G_getR 42 d_Gen_becomeLike_39 rfl f_Gen_21 rfl (by assumption) (by assumption) ?_
        refine G_iload2 43 d_Gen_becomeLike_42 rfl ?_
        refine G_ialoadv 44 d_Gen_becomeLike_43 rfl (by assumption) (ix_nI (by omega) (by omega)) (by rw [b2]; exact y1 : _ = nI (gl k)) ?_
        refine G_iastore 45 d_Gen_becomeLike_44 rfl (by assumption) (ix_nI (by omega) (by omega)) ?_
        refine G_aload0 46 d_Gen_becomeLike_45 rfl ?_
        refine G_getR 49 d_Gen_becomeLike_46 rfl f_Gen_25 rfl (by assumption) (by assumption) ?_
        refine G_iload2 50 d_Gen_becomeLike_49 rfl ?_
        refine G_aload1 51 d_Gen_becomeLike_50 rfl ?_
        refine G_getR 54 d_Gen_becomeLike_51 rfl f_Gen_25 rfl (by assumption) (by assumption) ?_
        refine G_iload2 55 d_Gen_becomeLike_54 rfl ?_
        refine G_laloadv 56 d_Gen_becomeLike_55 rfl (by assumption) (ix_nI (by omega) (by omega)) (by rw [sr_ne _ _ q3, b3]; exact y3 : _ = norm (gp k)) ?_
        refine G_lastore 57 d_Gen_becomeLike_56 rfl (by assumption) (ix_nI (by omega) (by omega)) ?_
        refine G_aload0 58 d_Gen_becomeLike_57 rfl ?_
        refine G_getR 61 d_Gen_becomeLike_58 rfl f_Gen_29 rfl (by assumption) (by assumption) ?_
        refine G_iload2 62 d_Gen_becomeLike_61 rfl ?_
        refine G_aload1 63 d_Gen_becomeLike_62 rfl ?_
        refine G_getR 66 d_Gen_becomeLike_63 rfl f_Gen_29 rfl (by assumption) (by assumption) ?_
        refine G_iload2 67 d_Gen_becomeLike_66 rfl ?_
        refine G_ialoadv 68 d_Gen_becomeLike_67 rfl (by assumption) (ix_nI (by omega) (by omega)) (by rw [u2_ne _ _ _ _ a24, b4]; exact y4 : _ = nI (ht k)) ?_
        refine G_iastore 69 d_Gen_becomeLike_68 rfl (by assumption) (ix_nI (by omega) (by omega)) ?_
        refine G_aload0 70 d_Gen_becomeLike_69 rfl ?_
        refine G_getR 73 d_Gen_becomeLike_70 rfl f_Gen_32 rfl (by assumption) (by assumption) ?_
        refine G_iload2 74 d_Gen_becomeLike_73 rfl ?_
        refine G_aload1 75 d_Gen_becomeLike_74 rfl ?_
        refine G_getR 78 d_Gen_becomeLike_75 rfl f_Gen_32 rfl (by assumption) (by assumption) ?_
        refine G_iload2 79 d_Gen_becomeLike_78 rfl ?_
        refine G_ialoadv 80 d_Gen_becomeLike_79 rfl (by assumption) (ix_nI (by omega) (by omega)) (by rw [u2_ne _ _ _ _ a45, u2_ne _ _ _ _ a25, b5]; exact y5 : _ = nI (pn k)) ?_
        refine G_iastore 81 d_Gen_becomeLike_80 rfl (by assumption) (ix_nI (by omega) (by omega)) ?_
        refine G_aload1 82 d_Gen_becomeLike_81 rfl ?_
        refine G_getR 85 d_Gen_becomeLike_82 rfl f_Gen_35 rfl (by assumption) (by assumption) ?_
        refine G_iload2 86 d_Gen_becomeLike_85 rfl ?_
        refine G_iconstN 0 87 d_Gen_becomeLike_86 rfl rfl ?_
        refine G_invS2d 90 d_Gen_becomeLike_87 rfl e_Gen_53 M_Gen_partPlace (Nat.le_of_ble_eq_true rfl) (Nat.le_of_ble_eq_true rfl) rfl (s_partPlace) ?_
        refine G_aload0 91 d_Gen_becomeLike_90 rfl ?_
        refine G_getR 94 d_Gen_becomeLike_91 rfl f_Gen_35 rfl (by assumption) (by assumption) ?_
        refine G_iload2 95 d_Gen_becomeLike_94 rfl ?_
        refine G_iconstN 0 96 d_Gen_becomeLike_95 rfl rfl ?_
        refine G_invS2d 99 d_Gen_becomeLike_96 rfl e_Gen_53 M_Gen_partPlace (Nat.le_of_ble_eq_true rfl) (Nat.le_of_ble_eq_true rfl) rfl (s_partPlace) ?_
        refine G_aload0 100 d_Gen_becomeLike_99 rfl ?_
        refine G_getR 103 d_Gen_becomeLike_100 rfl f_Gen_32 rfl (by assumption) (by assumption) ?_
        refine G_iload2 104 d_Gen_becomeLike_103 rfl ?_
        refine G_ialoadv 105 d_Gen_becomeLike_104 rfl (by assumption) (ix_nI (by omega) (by omega)) (u2_at _ _ _ _) ?_
        refine G_copyL 108 d_Gen_becomeLike_105 rfl e_Gen_56 s6' s6 (by omega) (by omega) (by omega) (by omega) (Nat.le_of_ble_eq_true rfl) ?_
        refine G_aload1 109 d_Gen_becomeLike_108 rfl ?_
        refine G_getR 112 d_Gen_becomeLike_109 rfl f_Gen_38 rfl (by assumption) (by assumption) ?_
        refine G_iload2 113 d_Gen_becomeLike_112 rfl ?_
        refine G_iconstN 0 114 d_Gen_becomeLike_113 rfl rfl ?_
        refine G_invS2d 117 d_Gen_becomeLike_114 rfl e_Gen_53 M_Gen_partPlace (Nat.le_of_ble_eq_true rfl) (Nat.le_of_ble_eq_true rfl) rfl (s_partPlace) ?_
        refine G_aload0 118 d_Gen_becomeLike_117 rfl ?_
        refine G_getR 121 d_Gen_becomeLike_118 rfl f_Gen_38 rfl (by assumption) (by assumption) ?_
        refine G_iload2 122 d_Gen_becomeLike_121 rfl ?_
        refine G_iconstN 0 123 d_Gen_becomeLike_122 rfl rfl ?_
        refine G_invS2d 126 d_Gen_becomeLike_123 rfl e_Gen_53 M_Gen_partPlace (Nat.le_of_ble_eq_true rfl) (Nat.le_of_ble_eq_true rfl) rfl (s_partPlace) ?_
        refine G_aload0 127 d_Gen_becomeLike_126 rfl ?_
        refine G_getR 130 d_Gen_becomeLike_127 rfl f_Gen_32 rfl (by assumption) (by assumption) ?_
        refine G_iload2 131 d_Gen_becomeLike_130 rfl ?_
        refine G_ialoadv 132 d_Gen_becomeLike_131 rfl (by assumption) (ix_nI (by omega) (by omega)) (u2_at _ _ _ _) ?_
        refine G_copyI 135 d_Gen_becomeLike_132 rfl e_Gen_56 s7' s7 (by omega) (by omega) (by omega) (by omega) (Nat.le_of_ble_eq_true rfl) ?_
        first | refine G_iincN2 138 d_Gen_becomeLike_135 rfl (by decide) rfl ?_ | refine G_iinc2 _ 138 d_Gen_becomeLike_135 rfl (by decide) rfl rfl ?_
        refine G_goto 10 d_Gen_becomeLike_138 rfl ?_
        generalize hAI : cp2 (u2 (u2 (u2 AI1 (ga 2) k (nI (gl k))) (ga 4) k (nI (ht k))) (ga 5) k (nI (pn k))) (ga2 7) (k * 86 + 0) (ga 7) (k * 86 + 0) (pn k) = AI5
        generalize hAL : cp2 (u2 (sr AL1 (qo k) (gp k)) (ga 3) k (norm (gp k))) (ga2 6) (k * 86 + 0) (ga 6) (k * 86 + 0) (pn k) = AL5
        have E2 : ∀ j, AI5 (ga 2) j = if j = k then nI (gl k) else AI1 (ga 2) j := fun j => by
          rw [← hAI, cp2_off _ n27, u2_ne _ _ _ _ n25, u2_ne _ _ _ _ n24]; by_cases e : j = k <;> simp [u2, e]
        have E4 : ∀ j, AI5 (ga 4) j = if j = k then nI (ht k) else AI1 (ga 4) j := fun j => by
          rw [← hAI, cp2_off _ n47, u2_ne _ _ _ _ n45]
          by_cases e : j = k
          · subst e; rw [u2_at]; simp
          · rw [u2_ix _ _ e, u2_ne _ _ _ _ n24.symm]; simp [e]
        have E5 : ∀ j, AI5 (ga 5) j = if j = k then nI (pn k) else AI1 (ga 5) j := fun j => by
          rw [← hAI, cp2_off _ n57]
          by_cases e : j = k
          · subst e; rw [u2_at]; simp
          · rw [u2_ix _ _ e, u2_ne _ _ _ _ n45.symm, u2_ne _ _ _ _ n25.symm]; simp [e]
        have E7 : ∀ j, AI5 (ga 7) j = if k * 86 ≤ j ∧ j < k * 86 + pn k then AI (ga2 7) j else AI1 (ga 7) j := fun j => by
          rw [← hAI, cp2_row, va_cpy, u2_off _ _ _ (ha 7 5 (by omega) (by omega) (by omega) (by omega)), u2_off _ _ _ (ha 7 4 (by omega) (by omega) (by omega) (by omega)), u2_off _ _ _ (ha 7 2 (by omega) (by omega) (by omega) (by omega)), u2_off _ _ _ n57.symm, u2_off _ _ _ n47.symm, u2_off _ _ _ n27.symm, b7]
          by_cases c : k * 86 ≤ j ∧ j < k * 86 + pn k
          · rw [if_pos (by omega), if_pos c, show k * 86 + 0 + (j - (k * 86 + 0)) = j by omega]
          · rw [if_neg (by omega), if_neg c]
        have EF : ∀ b, b ≠ ga 2 → b ≠ ga 4 → b ≠ ga 5 → b ≠ ga 7 → AI5 b = AI b := fun b c1 c2 c3 c4 => by
          rw [← hAI, cp2_off _ c4, u2_off _ _ _ c3, u2_off _ _ _ c2, u2_off _ _ _ c1]; exact F2 b c1 c2 c3 c4
        have EQ : ∀ i, i < 7 → AL5 (qo i) = if i = k then gp k else AL1 (qo i) := fun i hi => by
          rw [← hAL, cp2_off _ (hq1 i hi).2.1, u2_off _ _ _ (hq1 i hi).1]
          by_cases e : i = k
          · subst e; rw [sr_at]; simp
          · rw [sr_ne _ _ (fun e2 => e (hinj i k hi (by omega) e2))]; simp [e]
        have E3 : ∀ j, AL5 (ga 3) j = if j = k then norm (gp k) else AL1 (ga 3) j := fun j => by
          rw [← hAL, cp2_off _ m36]
          by_cases e : j = k
          · subst e; rw [u2_at]; simp
          · rw [u2_ix _ _ e, sr_ne _ _ (hq1 k (by omega)).1.symm]; simp [e]
        have E6 : ∀ j, AL5 (ga 6) j = if k * 86 ≤ j ∧ j < k * 86 + pn k then AL (ga2 6) j else AL1 (ga 6) j := fun j => by
          rw [← hAL, cp2_row, va_cpy, u2_off _ _ _ (ha 6 3 (by omega) (by omega) (by omega) (by omega)), sr_ne _ _ (hq3 k (by omega)).2.2.2.symm, u2_off _ _ _ m36.symm, sr_ne _ _ (hq1 k (by omega)).2.1.symm, b6]
          by_cases c : k * 86 ≤ j ∧ j < k * 86 + pn k
          · rw [if_pos (by omega), if_pos c, show k * 86 + 0 + (j - (k * 86 + 0)) = j by omega]
          · rw [if_neg (by omega), if_neg c]
        have EG : ∀ b, (∀ i, i < 7 → b ≠ qo i) → b ≠ ga 3 → b ≠ ga 6 → AL5 b = AL b := fun b c1 c2 c3 => by
          rw [← hAL, cp2_off _ c3, u2_off _ _ _ c2, sr_ne _ _ (c1 k (by omega))]; exact F3 b c1 c2 c3
        refine ih FI1 AI5 AL5 hn ⟨F1, EF, EG⟩ (fun i hi => ?_)
        by_cases e : i = k
        · subst e
          refine ⟨by rw [E2]; simp, by rw [EQ i (by omega)]; simp, by rw [E3]; simp, by rw [E4]; simp, by rw [E5]; simp, fun j hj => ?_⟩
          rw [E6, E7, if_pos (by omega), if_pos (by omega)]
          exact y6 j hj
        · obtain ⟨w1, w2, w3, w4, w5, w6⟩ := hD i (by omega)
          have hpi := hpn i (by omega)
          refine ⟨by rw [E2, if_neg e]; exact w1, by rw [EQ i (by omega), if_neg e]; exact w2, by rw [E3, if_neg e]; exact w3, by rw [E4, if_neg e]; exact w4, by rw [E5, if_neg e]; exact w5, fun j hj => ?_⟩
          rw [E6, E7, if_neg (by omega), if_neg (by omega)]
          exact w6 j hj
  refine G_aload0 1 d_Gen_becomeLike_0 rfl ?_
  refine G_aload1 2 d_Gen_becomeLike_1 rfl ?_
  refine G_getIv 5 d_Gen_becomeLike_2 rfl f_Gen_9 rfl (by assumption) z1 ?_
  refine G_putI 8 d_Gen_becomeLike_5 rfl f_Gen_9 rfl (by intro C T N h; cases h; rfl) (by assumption) rfl rfl ?_
  refine G_iconstN 0 9 d_Gen_becomeLike_8 rfl rfl ?_
  refine G_istore2 10 d_Gen_becomeLike_9 rfl (by decide) rfl ?_
  refine L 0 (by omega) _ _ _ (u2_at _ _ _ _) ⟨fun b j hbj => ?_, fun _ _ _ _ _ => rfl, fun _ _ _ _ => rfl⟩ (fun i hi => absurd hi (by omega))
  by_cases e : b = g
  · subst e
    exact u2_ix _ _ (fun e2 => hbj ⟨rfl, e2⟩)
  · exact u2_ne _ _ _ _ e
