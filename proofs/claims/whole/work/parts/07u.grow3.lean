/-! ===== COMPLETION by the reference ===== -/
def gwF (FI FI' AI AI' : FT) (AL AL' : LT) (b : Nat) : Prop :=
  (∀ c j, ¬ (c = b ∧ (j = 9 ∨ j = 20 ∨ j = 30 ∨ j = 37 ∨ j = 38 ∨ j = 39 ∨ j = 42)) → FI' c j = FI c j) ∧ (∀ c, c < b + 9 ∨ (b + 12 < c ∧ c < b + 17) ∨ (b + 17 < c ∧ c < b + 22) ∨ b + 29 < c → AI' c = AI c) ∧ (∀ c, c ≠ b + 1 → c ≠ b + 11 → c ≠ b + 16 → AL' c = AL c) ∧ ∀ p, p < 20 → p < 6 ∨ p = 16 ∨ p = 17 ∨ p = 19 → mp AL' b p = mp AL b p
theorem gwF.rf {FI AI : FT} {AL : LT} {b : Nat} : gwF FI FI AI AI AL AL b := ⟨fun _ _ _ => rfl, fun _ _ => rfl, fun _ _ _ _ => rfl, fun _ _ _ => rfl⟩
theorem gwF.tr {FI FI1 FI2 AI AI1 AI2 : FT} {AL AL1 AL2 : LT} {b : Nat} (h : gwF FI FI1 AI AI1 AL AL1 b) (k : gwF FI1 FI2 AI1 AI2 AL1 AL2 b) : gwF FI FI2 AI AI2 AL AL2 b :=
  ⟨fun c j hc => (k.1 c j hc).trans (h.1 c j hc), fun c hc => (k.2.1 c hc).trans (h.2.1 c hc), fun c a1 a2 a3 => (k.2.2.1 c a1 a2 a3).trans (h.2.2.1 c a1 a2 a3), fun p a1 a2 => (k.2.2.2 p a1 a2).trans (h.2.2.2 p a1 a2)⟩
theorem gwF.gb {FI FI' AI AI' : FT} {AL AL' : LT} {b : Nat} (h : gbF FI FI' AI AI' AL AL' b) : gwF FI FI' AI AI' AL AL' b :=
  ⟨fun c j hc => h.1 c j (fun e => hc ⟨e.1, by omega⟩), fun c hc => h.2.1 c (by omega), h.2.2.1, h.2.2.2⟩
theorem gwF.nr {FI FI' AI AI' : FT} {AL : LT} {b : Nat} (h : nrF FI FI' AI AI' b) : gwF FI FI' AI AI' AL AL b :=
  ⟨fun c j hc => h.1 c j (fun e => hc ⟨e.1, by omega⟩), fun c hc => h.2.1 c (by omega), fun _ _ _ _ => rfl, fun _ _ _ => rfl⟩
theorem gwF.u {FI AI : FT} {AL : LT} {b : Nat} {v : Int32} : gwF FI (u2 FI b 42 v) AI AI AL AL b :=
  ⟨fun c i hc => by
    by_cases e : c = b
    · subst e; exact u2_ix _ _ (fun e2 => hc ⟨rfl, by omega⟩)
    · exact u2_ne _ _ _ _ e, fun _ _ => rfl, fun _ _ _ _ => rfl, fun _ _ _ => rfl⟩
theorem MGs.nr {FI FI' AI AI' : FT} {AL : LT} {b o : Nat} {S : GT} (h : MGs FI AI AL b o S) (k : nrF FI FI' AI AI' b) : MGs FI' AI' AL b o S := by
  obtain ⟨h1, h2, h3, h4, h5⟩ := h
  refine ⟨h1.nr k, by rw [k.1 b 9 (by omega)]; exact h2, h3, fun j hj => by rw [k.2.1 _ (by omega)]; exact h4 j hj, fun g hg => ?_⟩
  obtain ⟨a1, a2, a3, a4⟩ := h5 g hg
  exact ⟨by rw [k.2.1 _ (by omega)]; exact a1, a2, by rw [k.2.1 _ (by omega)]; exact a3, fun i hi => ⟨(a4 i hi).1, fun f hf => by rw [k.2.1 _ (by omega)]; exact (a4 i hi).2 f hf⟩⟩
theorem MGs.u {FI AI : FT} {AL : LT} {b o : Nat} {S : GT} {v : Int32} (h : MGs FI AI AL b o S) : MGs (u2 FI b 42 v) AI AL b o S :=
  ⟨h.1, by rw [u2_ix _ _ (by omega)]; exact h.2.1, h.2.2⟩
theorem NRs.gb {FI FI' AI AI' : FT} {AL AL' : LT} {b o d : Nat} {Ls : List Nat} {L : List (Nat × Nat)} (h : NRs FI AI b o d Ls L) (k : gbF FI FI' AI AI' AL AL' b) : NRs FI' AI' b o d Ls L := by
  obtain ⟨i, g, Rs, a1, a2, a3, a4, a5, a6, a7, a8, ⟨lab, l1, l2, l3⟩, a10⟩ := h
  exact ⟨i, g, Rs, a1, a2, a3, a4, by rw [k.1 b 37 (by omega)]; exact a5, by rw [k.1 b 38 (by omega)]; exact a6, by rw [k.1 b 39 (by omega)]; exact a7, fun j r hj f hf => by rw [k.2.1 _ (by omega)]; exact a8 j r hj f hf, ⟨lab, l1, l2, fun i hi => by rw [k.2.1 _ (by omega)]; exact l3 i hi⟩, a10⟩
def enI (e : Option Nat) : Int32 := match e with
  | none => -1
  | some x => nI x
theorem stl_le {o : Nat} {S : GT} {q : Nat × Nat} {e : Nat} (h : (stl o S q).1 = some e) : e ≤ 3 := by
  unfold stl at h
  split at h
  · cases h; omega
  · split at h
    · cases h; omega
    · split at h
      · cases h
      · split at h
        · cases h; omega
        · split at h
          · cases h; omega
          · cases h
theorem rnd_le {o : Nat} : ∀ (L : List (Nat × Nat)) (S : GT) (e : Nat), (rnd o L S).1 = some e → e ≤ 3
  | [], S, e, h => by cases h
  | q :: L, S, e, h => by
    rw [rnd] at h
    cases hs : stl o S q with
    | mk x S' =>
      rw [hs] at h
      cases x with
      | some y => cases h; exact stl_le (S := S) (q := q) (by rw [hs])
      | none => exact rnd_le L S' e h
theorem s_mGrow {V : GV} {d0 b o d : Nat} {S0 : GT} {X : XT} {FI AI : FT} {AL : LT} (h : MO X b) (hW0 : WG o S0) (hG0 : MGs FI AI AL b o S0) (hd : d ≤ 6) :
    G V m_Mod_grow (d0 + 7) 0 [some (.ref b), some (.int (nI d)), none, none] [] X FI AI AL (fun r X' FI' AI' AL' => X' = X ∧ gwF FI FI' AI AI' AL AL' b ∧ MGs FI' AI' AL' b o (grw o d 8 S0 0).2.1 ∧ r = some (.int (nI (grw o d 8 S0 0).1)) ∧ FI' b 42 = nI (grw o d 8 S0 0).2.2) := by
  have ho := hG0.2.2.1
  -- one ROUND
  have I : ∀ (Pq : PT) (Ls : GT), WG o Ls → ∀ (L : List (Nat × Nat)) (S : GT) (FJ AJ : FT) (BJ : LT), gwF FI FJ AI AJ AL BJ b → MGs FJ AJ BJ b o S → WG o S → gN Ls ≤ gN S → (∀ i, i < gN Ls → gL S i = gL Ls i) → (∀ q ∈ L, relQ (gL S) (gN S) q) → NRs FJ AJ b o d (leadL (gL Ls) (gN Ls)) L → ∀ k, FJ b 42 = nI k →
      (∀ (FK AK : FT) (BK : LT), gwF FI FK AI AK AL BK b → MGs FK AK BK b o (rnd o L S).2 → WG o (rnd o L S).2 → FK b 42 = nI k → G V m_Mod_grow (d0 + 7) 53 [some (.ref b), some (.int (nI d)), some (.int (enI (rnd o L S).1)), some (.int (nI (gN Ls)))] [] X FK AK BK Pq) →
      G V m_Mod_grow (d0 + 7) 31 [some (.ref b), some (.int (nI d)), some (.int (-1)), some (.int (nI (gN Ls)))] [] X FJ AJ BJ Pq := by
    intro Pq Ls hWL L
    induction L with
    | nil =>
      intro S FJ AJ BJ hF hG hW hn hgl hL hN k f42 K
      have hnx := s_mNext (V := V) (d0 := d0 + 1) (gl := gL Ls) (n := gN Ls) (AL := BJ) h hG.1 ho hG.2.2.2.1 hd hWL.1 (fun i hi => ⟨by rw [← hgl i hi]; exact (hG.2.2.2.2 i (by omega)).1, (hWL.2.1 i hi).1, (hWL.2.1 i hi).2.1⟩) hWL.2.2 hN
      refine G_iload2 32 d_Mod_grow_31 rfl ?_
      refine G_iconst (-1) 33 d_Mod_grow_32 rfl rfl ?_
      refine G_icne 53 36 d_Mod_grow_33 rfl rfl (fun h33 => ?_) (fun h33 => ?_)
      · exact absurd rfl h33
      · refine G_aload0 37 d_Mod_grow_36 rfl ?_
        refine G_iload1 38 d_Mod_grow_37 rfl ?_
        refine G_iload3 39 d_Mod_grow_38 rfl ?_
        refine G_invV2 42 d_Mod_grow_39 rfl e_Mod_382 M_Mod_nextRelation rfl h.sh (Nat.le_of_ble_eq_true rfl) (Nat.le_of_ble_eq_true rfl) rfl (G.conseq (hnx) (fun r39 X39 FI39 AI39 AL39 h39 => ?_))
        obtain ⟨p1, p2, p3, p4, p5⟩ := h39
        replace p1 := p1.symm
        replace p2 := p2.symm
        subst p1 p2 p4
        refine G_ifeq 53 45 d_Mod_grow_42 rfl rfl (fun h42 => ?_) (fun h42 => ?_)
        · exact K _ _ _ (hF.tr (gwF.nr p3)) (hG.nr p3) hW (by rw [p3.1 b 42 (by omega)]; exact f42)
        · exact absurd rfl h42
    | cons q L ih =>
      intro S FJ AJ BJ hF hG hW hn hgl hL hN k f42 K
      have hnx := s_mNext (V := V) (d0 := d0 + 1) (gl := gL Ls) (n := gN Ls) (AL := BJ) h hG.1 ho hG.2.2.2.1 hd hWL.1 (fun i hi => ⟨by rw [← hgl i hi]; exact (hG.2.2.2.2 i (by omega)).1, (hWL.2.1 i hi).1, (hWL.2.1 i hi).2.1⟩) hWL.2.2 hN
      have hq := hL q List.mem_cons_self
      obtain ⟨w1, w2, w3⟩ := stl_ok ho hW hq
      rw [rnd] at K
      refine G_iload2 32 d_Mod_grow_31 rfl ?_
      refine G_iconst (-1) 33 d_Mod_grow_32 rfl rfl ?_
      refine G_icne 53 36 d_Mod_grow_33 rfl rfl (fun h33 => ?_) (fun h33 => ?_)
      · exact absurd rfl h33
      · refine G_aload0 37 d_Mod_grow_36 rfl ?_
        refine G_iload1 38 d_Mod_grow_37 rfl ?_
        refine G_iload3 39 d_Mod_grow_38 rfl ?_
        refine G_invV2 42 d_Mod_grow_39 rfl e_Mod_382 M_Mod_nextRelation rfl h.sh (Nat.le_of_ble_eq_true rfl) (Nat.le_of_ble_eq_true rfl) rfl (G.conseq (hnx) (fun r39 X39 FI39 AI39 AL39 h39 => ?_))
        obtain ⟨p1, p2, p3, p4, p5, p6, p7⟩ := h39
        replace p1 := p1.symm
        replace p2 := p2.symm
        subst p1 p2 p4
        have hG1 := hG.nr p3
        have hgb := s_mGrowBy (V := V) (d := d0) (q := q) h hW hG1 p6 p7 hq.2.1.1 hq.2.1.2
        refine G_ifeq 53 45 d_Mod_grow_42 rfl rfl (fun h42 => ?_) (fun h42 => ?_)
        · exact absurd h42 (by decide)
        · refine G_aload0 46 d_Mod_grow_45 rfl ?_
          refine G_invV0 49 d_Mod_grow_46 rfl e_Mod_401 M_Mod_growBy rfl h.sh (Nat.le_of_ble_eq_true rfl) (Nat.le_of_ble_eq_true rfl) rfl (G.conseq (hgb) (fun r46 X46 FI46 AI46 AL46 h46 => ?_))
          obtain ⟨s1, s2, s3, s4⟩ := h46
          replace s1 := s1.symm
          subst s1
          have hF3 := (hF.tr (gwF.nr p3)).tr (gwF.gb s2)
          have f42' : FI46 b 42 = nI k := by rw [s2.1 b 42 (by omega), p3.1 b 42 (by omega)]; exact f42
          cases hs : stl o S q with
          | mk e S' =>
            rw [hs] at s3 s4 w1 w2 w3 K
            cases e with
            | none =>
              dsimp only at s3 s4 w1 w2 w3 K
              subst s4
              refine G_istore2 50 d_Mod_grow_49 rfl (by decide) rfl ?_
              refine G_goto 31 d_Mod_grow_50 rfl ?_
              exact ih S' _ _ _ hF3 s3 w1 (by omega) (fun i hi => by rw [w3 i (by omega)]; exact hgl i hi) (fun p hp => (hL p (List.mem_cons_of_mem _ hp)).up w2 w1.1 w3) (p5.gb s2) k f42' K
            | some x =>
              dsimp only at s4 K
              subst s4
              have hx := stl_le (o := o) (S := S) (q := q) (e := x) (by rw [hs])
              refine G_istore2 50 d_Mod_grow_49 rfl (by decide) rfl ?_
              refine G_goto 31 d_Mod_grow_50 rfl ?_
              refine G_iload2 32 d_Mod_grow_31 rfl ?_
              refine G_iconst (-1) 33 d_Mod_grow_32 rfl rfl ?_
              refine G_icne 53 36 d_Mod_grow_33 rfl rfl (fun h33 => ?_) (fun h33 => ?_)
              · exact K _ _ _ hF3 s3 w1 f42'
              · exfalso
                have := congrArg Int32.toInt h33
                rw [nI_toInt (by omega)] at this
                have e1 : ((-1 : Int32)).toInt = -1 := by decide
                rw [e1] at this
                omega
  have O : ∀ (m : Nat) (S : GT) (k : Nat) (FJ AJ : FT) (BJ : LT) (l3 : Option Value), 8 ≤ m + gN S → k + m ≤ 8 → gwF FI FJ AI AJ AL BJ b → MGs FJ AJ BJ b o S → WG o S → FJ b 42 = nI k → G V m_Mod_grow (d0 + 7) 7 [some (.ref b), some (.int (nI d)), some (.int (-1)), l3] [] X FJ AJ BJ (fun r X' FI' AI' AL' => X' = X ∧ gwF FI FI' AI AI' AL AL' b ∧ MGs FI' AI' AL' b o (grw o d m S k).2.1 ∧ r = some (.int (nI (grw o d m S k).1)) ∧ FI' b 42 = nI (grw o d m S k).2.2) := by
    intro m
    induction m with
    | zero =>
      intro S k FJ AJ BJ l3 hm hk hF hG hW f42
      have := hW.1
      omega
    | succ m ih =>
      intro S k FJ AJ BJ l3 hm hk hF hG hW f42
      have fn := hG.2.1
      have hl : ∀ i, i < gN S → gL S i < 84 ∧ 1 ≤ eD (gL S i) := fun i hi => ⟨(hW.2.1 i hi).1, (hW.2.1 i hi).2.1⟩
      have fn2 : u2 FJ b 42 (nI (k + 1)) b 9 = nI (gN S) := by rw [u2_ix _ _ (by omega)]; exact fn
      have hbg := s_mBegin (V := V) (d0 := d0 + 6) (o := o) (d := d) (Ls := leadL (gL S) (gN S)) (FI := u2 FJ b 42 (nI (k + 1))) (AI := AJ) (AL := BJ) h
      rw [grw]
      refine G_iload2 8 d_Mod_grow_7 rfl ?_
      refine G_iconst (-1) 9 d_Mod_grow_8 rfl rfl ?_
      refine G_icne 75 12 d_Mod_grow_9 rfl rfl (fun h9 => ?_) (fun h9 => ?_)
      · exact absurd rfl h9
      · refine G_aload0 13 d_Mod_grow_12 rfl ?_
        refine G_dup 14 d_Mod_grow_13 rfl rfl ?_
        refine G_getIv 17 d_Mod_grow_14 rfl f_Mod_398 rfl h.sh f42 ?_
        refine G_iconstN 1 18 d_Mod_grow_17 rfl rfl ?_
        first | refine G_iaddN 19 d_Mod_grow_18 rfl ?_ | refine G_iadd 19 d_Mod_grow_18 rfl ?_
        refine G_putI 22 d_Mod_grow_19 rfl f_Mod_398 rfl (by intro C T N h; cases h; rfl) h.sh rfl rfl ?_
        refine G_aload0 23 d_Mod_grow_22 rfl ?_
        refine G_getIv 26 d_Mod_grow_23 rfl f_Mod_133 rfl h.sh fn2 ?_
        refine G_istore3 27 d_Mod_grow_26 rfl (by decide) rfl ?_
        refine G_aload0 28 d_Mod_grow_27 rfl ?_
        refine G_invV0 31 d_Mod_grow_28 rfl e_Mod_379 M_Mod_beginRelations rfl h.sh (Nat.le_of_ble_eq_true rfl) (Nat.le_of_ble_eq_true rfl) rfl (G.conseq (hbg) (fun r28 X28 FI28 AI28 AL28 h28 => ?_))
        obtain ⟨b1, b2, b3, b4, b5, b6⟩ := h28
        replace b2 := b2.symm
        replace b3 := b3.symm
        replace b4 := b4.symm
        subst b1 b2 b3 b4
        refine I _ S hW (rlD o (leadL (gL S) (gN S)) d 84) S FI28 AJ BJ ((hF.tr gwF.u).tr (gwF.nr b5)) (hG.u.nr b5) hW (Nat.le_refl _) (fun _ _ => rfl) (fun q hq => rlD_ok ho hW.1 hl 84 (Nat.le_refl _) hq) b6 (k + 1) (by rw [b5.1 b 42 (by omega)]; exact u2_at _ _ _ _) ?_
        intro FK AK BK hF2 hG2 hW2 f42'
        have fn3 := hG2.2.1
        cases hr : rnd o (rlD o (leadL (gL S) (gN S)) d 84) S with
        | mk e S' =>
          rw [hr] at hG2 hW2 fn3
          dsimp only at hG2 hW2 fn3
          have hn7 := hW.1
          obtain ⟨-, hmono⟩ := rnd_ok ho (rlD o (leadL (gL S) (gN S)) d 84) S hW (fun q hq => rlD_ok ho hW.1 hl 84 (Nat.le_refl _) hq)
          rw [hr] at hmono
          cases e with
          | some x =>
            have hx := rnd_le _ S x (by rw [hr])
            have ne1 : ¬ nI x = -1 := fun e => by
              have := congrArg Int32.toInt e
              rw [nI_toInt (by omega), show ((-1 : Int32)).toInt = -1 by decide] at this
              omega
            dsimp only [enI]
            refine G_iload2 54 d_Mod_grow_53 rfl ?_
            refine G_iconst (-1) 55 d_Mod_grow_54 rfl rfl ?_
            refine G_icne 70 58 d_Mod_grow_55 rfl rfl (fun h55 => ?_) (fun h55 => ?_)
            · refine G_iload2 71 d_Mod_grow_70 rfl ?_
              refine G_istore2 72 d_Mod_grow_71 rfl (by decide) rfl ?_
              refine G_goto 7 d_Mod_grow_72 rfl ?_
              refine G_iload2 8 d_Mod_grow_7 rfl ?_
              refine G_iconst (-1) 9 d_Mod_grow_8 rfl rfl ?_
              refine G_icne 75 12 d_Mod_grow_9 rfl rfl (fun h9 => ?_) (fun h9 => ?_)
              · refine G_iload2 76 d_Mod_grow_75 rfl ?_
                refine G_iret d_Mod_grow_76 rfl ?_
                exact ⟨rfl, hF2, hG2, rfl, f42'⟩
              · exact absurd h9 ne1
            · exact absurd h55 ne1
          | none =>
            dsimp only [enI] at hmono ⊢
            have n7 := hW2.1
            by_cases hc : gN S' = gN S
            · simp only [if_pos hc]
              refine G_iload2 54 d_Mod_grow_53 rfl ?_
              refine G_iconst (-1) 55 d_Mod_grow_54 rfl rfl ?_
              refine G_icne 70 58 d_Mod_grow_55 rfl rfl (fun h55 => ?_) (fun h55 => ?_)
              · exact absurd rfl h55
              · refine G_aload0 59 d_Mod_grow_58 rfl ?_
                refine G_getIv 62 d_Mod_grow_59 rfl f_Mod_133 rfl h.sh fn3 ?_
                refine G_iload3 63 d_Mod_grow_62 rfl ?_
                first | refine G_icneN 70 66 d_Mod_grow_63 rfl rfl (by omega) (by omega) (fun h63 => ?_) (fun h63 => ?_) | refine G_icne 70 66 d_Mod_grow_63 rfl rfl (fun h63 => ?_) (fun h63 => ?_)
                · exact absurd hc h63
                · refine G_iconstN 0 67 d_Mod_grow_66 rfl rfl ?_
                  refine G_goto 71 d_Mod_grow_67 rfl ?_
                  refine G_istore2 72 d_Mod_grow_71 rfl (by decide) rfl ?_
                  refine G_goto 7 d_Mod_grow_72 rfl ?_
                  refine G_iload2 8 d_Mod_grow_7 rfl ?_
                  refine G_iconst (-1) 9 d_Mod_grow_8 rfl rfl ?_
                  refine G_icne 75 12 d_Mod_grow_9 rfl rfl (fun h9 => ?_) (fun h9 => ?_)
                  · refine G_iload2 76 d_Mod_grow_75 rfl ?_
                    refine G_iret d_Mod_grow_76 rfl ?_
                    exact ⟨rfl, hF2, hG2, rfl, f42'⟩
                  · exact absurd h9 (by decide)
            · simp only [if_neg hc]
              refine G_iload2 54 d_Mod_grow_53 rfl ?_
              refine G_iconst (-1) 55 d_Mod_grow_54 rfl rfl ?_
              refine G_icne 70 58 d_Mod_grow_55 rfl rfl (fun h55 => ?_) (fun h55 => ?_)
              · exact absurd rfl h55
              · refine G_aload0 59 d_Mod_grow_58 rfl ?_
                refine G_getIv 62 d_Mod_grow_59 rfl f_Mod_133 rfl h.sh fn3 ?_
                refine G_iload3 63 d_Mod_grow_62 rfl ?_
                first | refine G_icneN 70 66 d_Mod_grow_63 rfl rfl (by omega) (by omega) (fun h63 => ?_) (fun h63 => ?_) | refine G_icne 70 66 d_Mod_grow_63 rfl rfl (fun h63 => ?_) (fun h63 => ?_)
                · refine G_iload2 71 d_Mod_grow_70 rfl ?_
                  refine G_istore2 72 d_Mod_grow_71 rfl (by decide) rfl ?_
                  refine G_goto 7 d_Mod_grow_72 rfl ?_
                  exact ih S' (k + 1) _ _ _ _ (by omega) (by omega) hF2 hG2 hW2 f42'
                · exact absurd h63 hc
  refine G_aload0 1 d_Mod_grow_0 rfl ?_
  refine G_iconst (0) 2 d_Mod_grow_1 rfl rfl ?_
  refine G_putI 5 d_Mod_grow_2 rfl f_Mod_398 rfl (by intro C T N h; cases h; rfl) h.sh rfl rfl ?_
  refine G_iconst (-1) 6 d_Mod_grow_5 rfl rfl ?_
  refine G_istore2 7 d_Mod_grow_6 rfl (by decide) rfl ?_
  exact O 8 S0 0 _ AI AL none (by omega) (by omega) gwF.u hG0.u hW0 (u2_at _ _ _ _)
