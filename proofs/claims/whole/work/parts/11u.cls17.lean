/-! ===== the class: COMPLETION ===== -/
theorem hgA_at {G : GT} {j : Nat} : ∀ n, j < n → hgA G n j = hgL G (j + 1)
  | 0, h => by omega
  | n + 1, h => by
    by_cases e : j = n
    · subst e; rfl
    · rw [hgA, upn_ne _ _ e]; exact hgA_at n (by omega)
theorem hmx_hf {ht hs : Nat → Nat} {r a : Nat} : ∀ k, (∀ j, j < k → ht j = hs j) → hmx ht r a k = hfI hs r a k
  | 0, _ => rfl
  | k + 1, h => by
    rw [hmx, hfI, hmx_hf k (fun j hj => h j (by omega)), h k (by omega)]
    by_cases p : 0 < pw r k
    · by_cases q : hfI hs r a k < hs k + 1
      · rw [if_pos p, if_pos ⟨p, q⟩, Nat.max_eq_right (by omega)]
      · rw [if_pos p, if_neg (fun c => q c.2), Nat.max_eq_left (by omega)]
    · rw [if_neg p, if_neg (fun c => p c.1)]
theorem hhx_hf {ht hs rn R : Nat → Nat} {g : Nat} (h : ∀ j, j < g → ht j = hs j) : ∀ i, (∀ j, j < i → rn j = R j) → hhx ht rn g i = hfO hs R g i
  | 0, _ => rfl
  | i + 1, hr => by rw [hhx, hfO, hhx_hf h i (fun j hj => hr j (by omega)), hr i (by omega)]; exact hmx_hf g h
theorem hfI_ge {hs : Nat → Nat} {r a : Nat} : ∀ k, a ≤ hfI hs r a k
  | 0 => Nat.le_refl _
  | k + 1 => by
    have := hfI_ge (hs := hs) (r := r) (a := a) k
    rw [hfI]
    split <;> omega
theorem hfI_p {hs : Nat → Nat} {r a h : Nat} : ∀ k, h < k → 0 < pw r h → 0 < hfI hs r a k
  | 0, hk, _ => by omega
  | k + 1, hk, hp => by
    rw [hfI]
    by_cases e : h = k
    · subst e
      split
      · omega
      · rename_i c
        rcases Nat.eq_zero_or_pos (hfI hs r a h) with z | z
        · exact absurd ⟨hp, by omega⟩ c
        · exact z
    · have := hfI_p (hs := hs) (a := a) k (by omega) hp
      split <;> omega
theorem hfO_p {hs R : Nat → Nat} {g h : Nat} (hh : h < g) (hp : 0 < pw (R 0) h) : ∀ i, 0 < i → 0 < hfO hs R g i
  | 0, hi => by omega
  | i + 1, _ => by
    rw [hfO]
    rcases Nat.eq_zero_or_pos i with z | z
    · subst z; exact hfI_p g hh hp
    · have := hfO_p (hs := hs) hh hp i z
      exact Nat.lt_of_lt_of_le this (hfI_ge g)
theorem stl_eq {o : Nat} {S : GT} {q : Nat × Nat} (h : gN (stl o S q).2 = gN S) : (stl o S q).2 = S := by
  unfold stl at h ⊢
  split
  · rfl
  · rename_i f hf
    rw [hf] at h
    dsimp only at h ⊢
    split
    · rfl
    · rename_i w hw
      rw [hw] at h
      dsimp only at h ⊢
      split
      · rfl
      · rename_i e1
        rw [if_neg e1] at h
        split
        · rfl
        · rename_i e2
          rw [if_neg e2] at h
          split
          · rfl
          · rename_i e3
            rw [if_neg e3] at h
            have : gN S + 1 = gN S := h
            omega
theorem rnd_eq {o : Nat} : ∀ (L : List (Nat × Nat)) (S : GT), gN (rnd o L S).2 = gN S → (rnd o L S).2 = S
  | [], S, _ => rfl
  | q :: L, S, h => by
    have hx := (stl_gx (o := o) (S := S) (q := q)).1
    have he := stl_eq (o := o) (S := S) (q := q)
    rw [rnd] at h ⊢
    cases hs : stl o S q with
    | mk e S' =>
      rw [hs] at h hx he
      cases e with
      | some x => exact he h
      | none =>
        have h1 := (rnd_gx (o := o) L S').1
        have h' : gN (rnd o L S').2 = gN S := h
        have hS : S' = S := he (by show gN S' = gN S; have : gN S ≤ gN S' := hx; omega)
        subst hS
        exact rnd_eq L S' h'
theorem grw_eq {o d : Nat} : ∀ (m : Nat) (S : GT) (k : Nat), gN (grw o d m S k).2.1 = gN S → (grw o d m S k).2.1 = S
  | 0, S, k, _ => rfl
  | m + 1, S, k, h => by
    have he := rnd_eq (o := o) (rlD o (leadL (gL S) (gN S)) d 84) S
    have hx := (rnd_gx (o := o) (rlD o (leadL (gL S) (gN S)) d 84) S).1
    rw [grw] at h ⊢
    cases hs : rnd o (rlD o (leadL (gL S) (gN S)) d 84) S with
    | mk e S' =>
      rw [hs] at h he hx
      cases e with
      | some x => exact he h
      | none =>
        dsimp only at h ⊢
        split
        · rename_i e1; exact he e1
        · rename_i e1
          rw [if_neg e1] at h
          have h1 := (grw_gx (o := o) (d := d) m S' (k + 1)).1
          have : gN S ≤ gN S' := hx
          exfalso
          exact e1 (by omega)
theorem s_settle {V : GV} {d lo C E : Nat} {q : Nat × Nat} {S : ST} {X : XT} {FI AI : FT} {AL : LT} (h : CO X lo) (hI : CIv C E S X FI AI AL lo) (hW : WS S) (hq : relQ (gL (tG S)) (gN (tG S)) q) : G V m_Alg_settle (d + 5) 0 [some (.ref lo), some (.int (nI q.1)), some (.int (nI q.2)), none, none, none] [] X FI AI AL (fun r X' FI' AI' AL' => r = some (.int (nI ((stl (tO S) (tG S) q).1.getD 0))) ∧ CO X' lo ∧ CIv C E (stG S (stl (tO S) (tG S) q).2) X' FI' AI' AL' lo ∧ cF X X' FI FI' AI AI' AL AL' lo ∧ (∀ c, lo + 35 ≤ c → c < lo + 60 → AI' c = AI c) ∧ x_FR X' lo = x_FR X lo ∧ FI' lo 17 = FI lo 17) := by
  have ho := hW.1
  have hn7 := hW.2.1.1
  obtain ⟨w, v, hwv, r10, r11, -, -⟩ := hI.2.2.2.2.2.2.2.2.2.1
  have sS : stG S (tG S) = S := rfl
  have htd := s_tdS (V := V) (d := d + 1) h hI hW (show q.1 < 2 ^ 31 by have := hq.1.1; omega) (show q.2 < 2 ^ 31 by have := hq.1.2; omega)
  refine G_aload0 1 d_Alg_settle_0 rfl ?_
  refine G_iload1 2 d_Alg_settle_1 rfl ?_
  refine G_iload2 3 d_Alg_settle_2 rfl ?_
  refine G_invV2 6 d_Alg_settle_3 rfl e_Alg_357 M_Alg_takeDifference rfl h.sh (Nat.le_of_ble_eq_true rfl) (Nat.le_of_ble_eq_true rfl) rfl (G.conseq (htd) (fun r3 X3 FI3 AI3 AL3 h3 => ?_))
  obtain ⟨b1, b2, b3, b4, b5, b6⟩ := h3
  replace b1 := b1.symm
  replace b2 := b2.symm
  replace b3 := b3.symm
  subst b1 b2 b3
  have c1 : cF X X FI FI AI AI AL AL3 lo := cF.al (fun c hc => b4 c (by omega) (by omega))
  cases hd : difP (gN (tG S)) (gP (tG S)) q.1 q.2 with
  | none =>
    rw [hd] at b6
    subst b6
    have eS : stl (tO S) (tG S) q = (some 3, tG S) := by unfold stl; rw [hd]
    rw [eS]
    refine G_ifeq 20 9 d_Alg_settle_6 rfl rfl (fun h6 => ?_) (fun h6 => ?_)
    · refine G_iconstN 3 21 d_Alg_settle_20 rfl rfl ?_
      refine G_iret d_Alg_settle_21 rfl ?_
      exact ⟨rfl, h, b5, c1, fun _ _ _ => rfl, rfl, rfl⟩
    · exact absurd rfl h6
  | some f =>
    rw [hd] at b6
    obtain ⟨rfl, b7⟩ := b6
    have hta := s_taS (V := V) (d := d) h b5 hW hwv r10
    rw [b7] at hta
    refine G_ifeq 20 9 d_Alg_settle_6 rfl rfl (fun h6 => ?_) (fun h6 => ?_)
    · exact absurd h6 (by decide)
    · refine G_aload0 10 d_Alg_settle_9 rfl ?_
      refine G_aload0 11 d_Alg_settle_10 rfl ?_
      refine G_getR 14 d_Alg_settle_11 rfl f_Alg_79 rfl h.sh r11 ?_
      refine G_invV1 17 d_Alg_settle_14 rfl e_Alg_360 M_Alg_takeApart rfl h.sh (Nat.le_of_ble_eq_true rfl) (Nat.le_of_ble_eq_true rfl) rfl (G.conseq (hta) (fun r14 X14 FI14 AI14 AL14 h14 => ?_))
      obtain ⟨d1, d2, d3, d4, d5, d6⟩ := h14
      have c2 := c1.tr d3
      have hz := hI.2.2.2.2.2.2.2.2.2.2.2.1
      have f17 : FI14 lo 17 = FI lo 17 := by rw [d4.2.2.2.1 lo (by omega) (by omega)]
      have ai14 : ∀ c, lo + 35 ≤ c → c < lo + 60 → AI14 c = AI c := fun c h1 h2 => d4.2.2.2.2.1 c (by omega) (by omega)
      cases ha : aptS S f with
      | none =>
        rw [ha] at d6
        subst d6
        have eS : stl (tO S) (tG S) q = (some 3, tG S) := by
          unfold stl; rw [hd]; dsimp only
          have ha' : apt (tO S) (gN (tG S)) (leadL (gL (tG S)) (gN (tG S))) (gP (tG S)) 84 f [] = none := ha
          rw [ha']
        rw [eS]
        refine G_ifne 22 20 d_Alg_settle_17 rfl rfl (fun h17 => ?_) (fun h17 => ?_)
        · exact absurd rfl h17
        · refine G_iconstN 3 21 d_Alg_settle_20 rfl rfl ?_
          refine G_iret d_Alg_settle_21 rfl ?_
          exact ⟨rfl, d1, d2, c2, ai14, d5, f17⟩
      | some u =>
        rw [ha] at d6
        obtain ⟨rfl, m1, m2, m3⟩ := d6
        have eS0 : stl (tO S) (tG S) q = if lead1 u.1 (tO S) = 0 then (none, tG S) else if ¬ labs (u.1 (lead1 u.1 (tO S) - 1)) = 1 then (some 2, tG S) else if gN (tG S) = 7 then (some 1, tG S) else (none, appG (tG S) (lead1 u.1 (tO S) - 1) (u.1 (lead1 u.1 (tO S) - 1)) u.1 q.1 q.2 u.2) := by
          unfold stl; rw [hd]; dsimp only
          have ha' : apt (tO S) (gN (tG S)) (leadL (gL (tG S)) (gN (tG S))) (gP (tG S)) 84 f [] = some u := ha
          rw [ha']
        have wk := d1.wk
        have wks := wk.1
        have wf := wk.2.1
        have wq := wk.2.2
        have l84 : lead1 u.1 (tO S) ≤ 84 := pld_le _ ho 84 (Nat.le_refl _)
        have hle := s_leadOf (V := V) (d := d + 4) (FI := FI14) (AL := AL14) d1.rk wk ho d2.2.1.2
        rw [m1] at hle
        refine G_ifne 22 20 d_Alg_settle_17 rfl rfl (fun h17 => ?_) (fun h17 => ?_)
        · refine G_aload0 23 d_Alg_settle_22 rfl ?_
          refine G_getR 26 d_Alg_settle_23 rfl f_Alg_20 rfl d1.sh d1.f1 ?_
          refine G_aload0 27 d_Alg_settle_26 rfl ?_
          refine G_getR 30 d_Alg_settle_27 rfl f_Alg_65 rfl d1.sh d1.f8 ?_
          refine G_invV1d 33 d_Alg_settle_30 rfl e_Alg_196 M_Rank_leadOf rfl d1.s1 (Nat.le_of_ble_eq_true rfl) (Nat.le_of_ble_eq_true rfl) rfl (hle) ?_
          rcases Nat.eq_zero_or_pos (lead1 u.1 (tO S)) with lz | lz
          · rw [if_pos lz] at eS0
            rw [eS0, lz]
            refine G_istore3 34 d_Alg_settle_33 rfl (by decide) rfl ?_
            refine G_iload3 35 d_Alg_settle_34 rfl ?_
            refine G_ifge 40 38 d_Alg_settle_35 rfl rfl (fun h35 => ?_) (fun h35 => ?_)
            · exact absurd h35 (by decide)
            · refine G_iconstN 0 39 d_Alg_settle_38 rfl rfl ?_
              refine G_iret d_Alg_settle_39 rfl ?_
              exact ⟨rfl, d1, d2, c2, ai14, d5, f17⟩
          · obtain ⟨t, lt⟩ : ∃ t, lead1 u.1 (tO S) = t + 1 := ⟨lead1 u.1 (tO S) - 1, by omega⟩
            have ht : t < 84 := by omega
            rw [if_neg (by omega), lt, show t + 1 - 1 = t by omega] at eS0
            rw [lt, dI_s]
            have ew : AL14 (lo + 57) t = u.1 t := by rw [m1]
            have hg0 := d2.2.2.1.1
            by_cases hone : labs (u.1 t) = 1
            · have he := labs1 hone
              rw [if_neg (fun c => c hone)] at eS0
              have go69 : ∀ (v3 v5 : Option Value), G V m_Alg_settle (d + 5) 69 [some (.ref lo), some (.int (nI q.1)), some (.int (nI q.2)), some (.int (nI t)), some (.long (u.1 t)), none] [] X14 FI14 AI14 AL14 (fun r X' FI' AI' AL' => r = some (.int (nI ((stl (tO S) (tG S) q).1.getD 0))) ∧ CO X' lo ∧ CIv C E (stG S (stl (tO S) (tG S) q).2) X' FI' AI' AL' lo ∧ cF X X' FI FI' AI AI' AL AL' lo ∧ (∀ c, lo + 35 ≤ c → c < lo + 60 → AI' c = AI c) ∧ x_FR X' lo = x_FR X lo ∧ FI' lo 17 = FI lo 17) := by
                intro v3 v5
                by_cases h7 : gN (tG S) = 7
                · rw [if_pos h7] at eS0
                  rw [eS0]
                  rw [h7] at hg0
                  refine G_aload0 70 d_Alg_settle_69 rfl ?_
                  refine G_getR 73 d_Alg_settle_70 rfl f_Alg_27 rfl d1.sh d1.f2 ?_
                  refine G_getIv 76 d_Alg_settle_73 rfl f_Alg_109 rfl d1.s2 hg0 ?_
                  refine G_bipushN 7 78 d_Alg_settle_76 rfl rfl ?_
                  first | refine G_icltN 83 81 d_Alg_settle_78 rfl rfl (by omega) (by omega) (fun h78 => ?_) (fun h78 => ?_) | refine G_iclt 83 81 d_Alg_settle_78 rfl rfl (fun h78 => ?_) (fun h78 => ?_)
                  · exact absurd h78 (by omega)
                  · refine G_iconstN 1 82 d_Alg_settle_81 rfl rfl ?_
                    refine G_iret d_Alg_settle_82 rfl ?_
                    exact ⟨rfl, d1, d2, c2, ai14, d5, f17⟩
                · have hn6 : gN (tG S) < 7 := by omega
                  rw [if_neg h7] at eS0
                  have hok := stl_ok ho hW.2.1 hq
                  have hgx := stl_gx (o := tO S) (S := tG S) (q := q)
                  rw [eS0] at hok hgx
                  have hWn : WS (stG S (appG (tG S) t (u.1 t) u.1 q.1 q.2 u.2)) := ws_gx hW hgx hok.1
                  rw [eS0]
                  have hgs := d2.2.2.1
                  have esc : (fun j => AL14 (lo + 57) j * u.1 t) = fun j => u.1 t * u.1 j := by
                    funext j; rw [m1, Int64.mul_comm]
                  -- the work, made one
                  have hap := s_append (V := V) (d := d + 2) (AI := AI14) (AL := sr AL14 (lo + 57) (fun j => u.1 t * u.1 j)) d1.go wk (fun i hi => show lo + 14 + 2 * i ≠ lo + 57 by omega) hg0 hn6 ht
                  rw [sr_at] at hap
                  have stp := d1.st (w := v) (by omega)
                  have hu31 : ∀ s ∈ u.2, s.2 < 2097152 := (apt_ok (fun r => r < 2097152) (fun t' w' ws' e => by
                    have hr0 : (RN (leadL (gL (tG S)) (gN (tG S))) t')[0]? = some w' := by rw [e]; rfl
                    exact (RN_ok hn7 (fun i hi => ⟨(hW.2.1.2.1 i hi).1, (hW.2.1.2.1 i hi).2.1⟩) hr0).1) 84 f [] u (by
                      unfold difP at hd
                      split at hd
                      · cases hd
                      · injection hd with hd
                        rw [← hd, cu_addP, prodP_cu, prodP_cu]) (fun _ hs => by simp at hs) ha).2.2
                  let sn : Nat → Nat := fun i => (u.2.getD i (0, 0)).2
                  have aiB : ∀ c, c ≠ lo + 6 → c ≠ lo + 8 → c ≠ lo + 9 → u2 (u2 (u2 AI14 (cga lo 2) (gN (tG S)) (nI t)) (cga lo 4) (gN (tG S)) (nI 0)) (cga lo 5) (gN (tG S)) (nI 0) c = AI14 c := fun c h1 h2 h3 => by
                    show u2 (u2 (u2 AI14 (lo + 4 + 2) _ _) (lo + 4 + 4) _ _) (lo + 4 + 5) _ _ c = _
                    rw [u2_off _ _ _ (by omega), u2_off _ _ _ (by omega), u2_off _ _ _ (by omega)]
                  have hel := s_expressLast (V := V) (d := d + 2) (gi := gN (tG S)) (l := q.1) (r := q.2) (ns := u.2.length) (s := lo + v) (sc := lo + v + 1) (sw := lo + v + 2) (e := u.1 t) (ht := fun i => hgL (tG S) (i + 1)) (sn := sn) (FI := u2 FI14 (lo + 4) 0 (nI (gN (tG S) + 1))) (AI := u2 (u2 (u2 AI14 (cga lo 2) (gN (tG S)) (nI t)) (cga lo 4) (gN (tG S)) (nI 0)) (cga lo 5) (gN (tG S)) (nI 0)) (AL := u2 (sr (sr AL14 (lo + 57) (fun j => u.1 t * u.1 j)) (cqo lo (gN (tG S))) (fun j => u.1 t * u.1 j)) (cga lo 3) (gN (tG S)) (norm (fun j => u.1 t * u.1 j))) d1.go hn6 (u2_at _ _ _ _) (by have := hq.1.1; omega) (by have := hq.1.2; omega) stp (by rw [u2_ne _ _ _ _ (by omega)]; exact m2.1) m3 (fun i hi => by
                    have hg : u.2[i]? = some u.2[i] := List.getElem?_eq_getElem hi
                    have e1 : sn i = u.2[i].2 := by show (u.2.getD i (0, 0)).2 = _; rw [List.getD_eq_getElem?_getD, hg]; rfl
                    rw [e1]
                    have := hu31 _ (List.getElem_mem hi)
                    refine ⟨?_, by omega⟩
                    rw [aiB _ (by omega) (by omega) (by omega)]; exact (m2.2 i _ hg).2) (show lo + v + 1 ≠ lo + 4 + 6 by omega) ⟨show lo + v + 2 ≠ lo + 4 + 7 by omega, show lo + v + 2 ≠ lo + 4 + 5 by omega, show lo + v + 2 ≠ lo + 4 + 4 by omega⟩ (u2_at _ _ _ _) (by
                      show u2 (u2 (u2 AI14 (lo + 4 + 2) _ _) (lo + 4 + 4) _ _) (lo + 4 + 5) _ _ (lo + 4 + 4) _ = _
                      rw [u2_ne _ _ _ _ (by omega), u2_at]) (fun j hj => ⟨by
                      show u2 (u2 (u2 AI14 (lo + 4 + 2) _ _) (lo + 4 + 4) _ _) (lo + 4 + 5) _ _ (lo + 4 + 4) _ = _
                      rw [u2_ne _ _ _ _ (by omega), u2_ix _ _ (by omega), u2_ne _ _ _ _ (by omega)]; exact (hgs.2.2 j hj).2.2.2.1, by
                      show hgA (tG S) (j + 1) j ≤ 100
                      have := hgA_le (tG S) (j + 1) j
                      omega⟩)
                  -- names for what stands then
                  generalize hFB : u2 FI14 (lo + 4) 0 (nI (gN (tG S) + 1)) = FB at hap hel
                  generalize hAB : u2 (u2 (u2 AI14 (cga lo 2) (gN (tG S)) (nI t)) (cga lo 4) (gN (tG S)) (nI 0)) (cga lo 5) (gN (tG S)) (nI 0) = AB at hap hel aiB
                  generalize hLB : u2 (sr (sr AL14 (lo + 57) (fun j => u.1 t * u.1 j)) (cqo lo (gN (tG S))) (fun j => u.1 t * u.1 j)) (cga lo 3) (gN (tG S)) (norm (fun j => u.1 t * u.1 j)) = LB at hap hel
                  have lbv : ∀ i, LB (lo + v + 1) i = AL14 (lo + v + 1) i := fun i => by
                    rw [← hLB]
                    show u2 (sr (sr AL14 (lo + 57) _) (lo + 14 + 2 * gN (tG S)) _) (lo + 4 + 3) _ _ (lo + v + 1) i = _
                    rw [u2_ne _ _ _ _ (by omega), sr_ne _ _ (by omega), sr_ne _ _ (by omega)]
                  have exi : ∀ c, c ≠ lo + 8 → c ≠ lo + 9 → c ≠ lo + 11 → exI AB (cga lo) (gN (tG S)) (xrn q.1 q.2 sn) (hhx (fun i => hgL (tG S) (i + 1)) (xrn q.1 q.2 sn) (gN (tG S))) (2 + u.2.length) c = AB c := fun c h1 h2 h3 => by
                    funext j
                    unfold exI
                    rw [if_neg (show c ≠ lo + 4 + 7 by omega), if_neg (show c ≠ lo + 4 + 5 by omega), if_neg (show c ≠ lo + 4 + 4 by omega)]
                  have exl : ∀ c, c ≠ lo + 10 → exL LB (cga lo) (gN (tG S)) (xcf (u.1 t) (LB (lo + v + 1))) (2 + u.2.length) c = LB c := fun c h1 => by
                    funext j
                    unfold exL
                    rw [if_neg (show c ≠ lo + 4 + 6 by omega)]
                  have hRf : ∀ j, xrn q.1 q.2 sn j = prf q.1 q.2 u.2 j := fun j => rfl
                  have hG1 : CGs (appG (tG S) t (u.1 t) u.1 q.1 q.2 u.2) FB (exI AB (cga lo) (gN (tG S)) (xrn q.1 q.2 sn) (hhx (fun i => hgL (tG S) (i + 1)) (xrn q.1 q.2 sn) (gN (tG S))) (2 + u.2.length)) (exL LB (cga lo) (gN (tG S)) (xcf (u.1 t) (LB (lo + v + 1))) (2 + u.2.length)) (lo + 4) := by
                    refine ⟨by rw [← hFB, u2_at]; rfl, by show gN (tG S) + 1 ≤ 7; omega, fun i hi => ?_⟩
                    have hi' : i < gN (tG S) + 1 := hi
                    show exI AB (cga lo) _ _ _ _ (lo + 4 + 2) i = nI (upn (gL (tG S)) (gN (tG S)) t i) ∧ exL LB (cga lo) _ _ _ (lo + 4 + 10 + 2 * i) = upn (gP (tG S)) (gN (tG S)) (fun j => u.1 t * u.1 j) i ∧ exL LB (cga lo) _ _ _ (lo + 4 + 3) i = norm (upn (gP (tG S)) (gN (tG S)) (fun j => u.1 t * u.1 j) i) ∧ exI AB (cga lo) _ _ _ _ (lo + 4 + 4) i = nI (hgL _ (i + 1)) ∧ exI AB (cga lo) _ _ _ _ (lo + 4 + 5) i = nI (upn (gK (tG S)) (gN (tG S)) (2 + u.2.length) i) ∧ ∀ j, j < upn (gK (tG S)) (gN (tG S)) (2 + u.2.length) i → exL LB (cga lo) _ _ _ (lo + 4 + 6) (i * 86 + j) = upn (gC (tG S)) (gN (tG S)) (pcf (u.1 t) u.2) i j ∧ exI AB (cga lo) _ _ _ _ (lo + 4 + 7) (i * 86 + j) = nI (upn (gR (tG S)) (gN (tG S)) (prf q.1 q.2 u.2) i j)
                    rw [exi (lo + 4 + 2) (by omega) (by omega) (by omega), exl (lo + 4 + 10 + 2 * i) (by omega), exl (lo + 4 + 3) (by omega)]
                    by_cases e : i = gN (tG S)
                    · subst e
                      rw [upn_at, upn_at, upn_at, upn_at, upn_at]
                      refine ⟨?_, ?_, ?_, ?_, ?_, fun j hj => ⟨?_, ?_⟩⟩
                      · rw [← hAB]
                        show u2 (u2 (u2 AI14 (lo + 4 + 2) _ _) (lo + 4 + 4) _ _) (lo + 4 + 5) _ _ (lo + 4 + 2) _ = _
                        rw [u2_ne _ _ _ _ (by omega), u2_ne _ _ _ _ (by omega), u2_at]
                      · rw [← hLB]
                        show u2 (sr (sr AL14 (lo + 57) _) (lo + 14 + 2 * gN (tG S)) _) (lo + 4 + 3) _ _ _ = _
                        rw [u2_off _ _ _ (by omega), show lo + 4 + 10 + 2 * gN (tG S) = lo + 14 + 2 * gN (tG S) by omega, sr_at]
                      · rw [← hLB]; exact u2_at _ _ _ _
                      · unfold exI
                        rw [if_neg (show lo + 4 + 4 ≠ lo + 4 + 7 by omega), if_neg (show lo + 4 + 4 ≠ lo + 4 + 5 by omega), if_pos rfl, if_pos rfl]
                        congr 1
                        show _ = hgA (appG (tG S) t (u.1 t) u.1 q.1 q.2 u.2) (gN (tG S) + 1) (gN (tG S))
                        rw [hgA, upn_at]
                        show _ = hfH (hgA (appG (tG S) t (u.1 t) u.1 q.1 q.2 u.2) (gN (tG S))) (upn (gR (tG S)) (gN (tG S)) (prf q.1 q.2 u.2) (gN (tG S))) (upn (gK (tG S)) (gN (tG S)) (2 + u.2.length) (gN (tG S))) (gN (tG S))
                        rw [upn_at, upn_at, hgA_c (G := tG S) (gN (tG S)) (fun i hi => ⟨upn_ne _ _ (by omega), upn_ne _ _ (by omega)⟩)]
                        rw [hhx_hf (hs := hgA (tG S) (gN (tG S))) (R := prf q.1 q.2 u.2) (fun j hj => (hgA_at _ hj).symm) _ (fun j _ => hRf j)]
                        obtain ⟨h', hh', hp'⟩ := hq.2.2.2
                        have := hfO_p (hs := hgA (tG S) (gN (tG S))) (R := prf q.1 q.2 u.2) hh' (show 0 < pw (prf q.1 q.2 u.2 0) h' from hp') (2 + u.2.length) (by omega)
                        unfold hfH
                        rw [if_neg (by omega)]
                      · unfold exI
                        rw [if_neg (show lo + 4 + 5 ≠ lo + 4 + 7 by omega), if_pos rfl, if_pos rfl]
                      · unfold exL
                        rw [if_pos rfl, if_pos (by omega), show gN (tG S) * 86 + j - gN (tG S) * 86 = j by omega]
                        unfold xcf pcf
                        by_cases j0 : j = 0
                        · rw [if_pos j0, if_pos j0]
                        · by_cases j1 : j = 1
                          · rw [if_neg j0, if_pos j1, if_neg j0, if_pos j1]
                          · rw [if_neg j0, if_neg j1, if_neg j0, if_neg j1, lbv]
                            have hjl : j - 2 < u.2.length := by omega
                            have hg : u.2[j - 2]? = some u.2[j - 2] := List.getElem?_eq_getElem hjl
                            rw [(m2.2 _ _ hg).1, List.getD_eq_getElem?_getD, hg]; rfl
                      · unfold exI
                        rw [if_pos rfl, if_pos (by omega), show gN (tG S) * 86 + j - gN (tG S) * 86 = j by omega, hRf]
                    · obtain ⟨g1, g2, g3, g4, g5, g6⟩ := hgs.2.2 i (by omega)
                      rw [upn_ne _ _ e, upn_ne _ _ e, upn_ne _ _ e, upn_ne _ _ e, upn_ne _ _ e]
                      refine ⟨?_, ?_, ?_, ?_, ?_, fun j hj => ⟨?_, ?_⟩⟩
                      · rw [← hAB]
                        show u2 (u2 (u2 AI14 (lo + 4 + 2) _ _) (lo + 4 + 4) _ _) (lo + 4 + 5) _ _ (lo + 4 + 2) _ = _
                        rw [u2_ne _ _ _ _ (by omega), u2_ne _ _ _ _ (by omega), u2_ix _ _ e]; exact g1
                      · rw [← hLB]
                        show u2 (sr (sr AL14 (lo + 57) _) (lo + 14 + 2 * gN (tG S)) _) (lo + 4 + 3) _ _ _ = _
                        rw [u2_off _ _ _ (by omega), sr_ne _ _ (by omega), sr_ne _ _ (by omega)]; exact g2
                      · rw [← hLB]
                        show u2 (sr (sr AL14 (lo + 57) _) (lo + 14 + 2 * gN (tG S)) _) (lo + 4 + 3) _ _ (lo + 4 + 3) i = _
                        rw [u2_ix _ _ e, sr_ne _ _ (by omega), sr_ne _ _ (by omega)]; exact g3
                      · unfold exI
                        rw [if_neg (show lo + 4 + 4 ≠ lo + 4 + 7 by omega), if_neg (show lo + 4 + 4 ≠ lo + 4 + 5 by omega), if_pos rfl, if_neg e, ← hAB]
                        show u2 (u2 (u2 AI14 (lo + 4 + 2) _ _) (lo + 4 + 4) _ _) (lo + 4 + 5) _ _ (lo + 4 + 4) i = _
                        rw [u2_ne _ _ _ _ (by omega), u2_ix _ _ e, u2_ne _ _ _ _ (by omega), g4]
                        exact congrArg nI (hgL_c (n := gN (tG S)) (by omega) (fun j hj => ⟨(upn_ne _ _ (by omega)).symm, (upn_ne _ _ (by omega)).symm⟩))
                      · unfold exI
                        rw [if_neg (show lo + 4 + 5 ≠ lo + 4 + 7 by omega), if_pos rfl, if_neg e, ← hAB]
                        show u2 (u2 (u2 AI14 (lo + 4 + 2) _ _) (lo + 4 + 4) _ _) (lo + 4 + 5) _ _ (lo + 4 + 5) i = _
                        rw [u2_ix _ _ e, u2_ne _ _ _ _ (by omega), u2_ne _ _ _ _ (by omega)]; exact g5
                      · have k86 := (hW.2.1.2.1 i (by omega)).2.2.2.2.1
                        unfold exL
                        rw [if_pos rfl, if_neg (by omega), ← hLB]
                        show u2 (sr (sr AL14 (lo + 57) _) (lo + 14 + 2 * gN (tG S)) _) (lo + 4 + 3) _ _ (lo + 4 + 6) _ = _
                        rw [u2_ne _ _ _ _ (by omega), sr_ne _ _ (by omega), sr_ne _ _ (by omega)]; exact (g6 j hj).1
                      · have k86 := (hW.2.1.2.1 i (by omega)).2.2.2.2.1
                        unfold exI
                        rw [if_pos rfl, if_neg (by omega), ← hAB]
                        show u2 (u2 (u2 AI14 (lo + 4 + 2) _ _) (lo + 4 + 4) _ _) (lo + 4 + 5) _ _ (lo + 4 + 7) _ = _
                        rw [u2_ne _ _ _ _ (by omega), u2_ne _ _ _ _ (by omega), u2_ne _ _ _ _ (by omega)]; exact (g6 j hj).2
                  have lbo : ∀ c, (c < lo + 4 ∨ lo + 27 ≤ c) → c ≠ lo + 57 → LB c = AL14 c := fun c h1 h2 => by
                    rw [← hLB]
                    show u2 (sr (sr AL14 (lo + 57) _) (lo + 14 + 2 * gN (tG S)) _) (lo + 4 + 3) _ _ c = _
                    rw [u2_off _ _ _ (by omega), sr_ne _ _ (by omega), sr_ne _ _ h2]
                  have hP1 : CPr (tG S) X14 (exI AB (cga lo) (gN (tG S)) (xrn q.1 q.2 sn) (hhx (fun i => hgL (tG S) (i + 1)) (xrn q.1 q.2 sn) (gN (tG S))) (2 + u.2.length)) (exL LB (cga lo) (gN (tG S)) (xcf (u.1 t) (LB (lo + v + 1))) (2 + u.2.length)) lo := d2.2.2.2.2.1.tr (by rw [exi _ (by omega) (by omega) (by omega), aiB _ (by omega) (by omega) (by omega)]) (fun c hc => by rw [exl _ (by omega), lbo c (by omega) (by omega)])
                  have hgc := s_genChanged (V := V) (d := d) d1 hG1 hP1 (fun i hi => ⟨(hWn.2.1.2.1 i hi).1, (hWn.2.1.2.1 i hi).2.1⟩) hWn.2.1.2.2
                  have hI0 : CIv C E S X14 FI14 AI14 (sr AL14 (lo + 57) (fun j => u.1 t * u.1 j)) lo := d2.wk hW (fun c h1 _ => sr_ne _ _ h1)
                  have hsc := s_scaleBy (V := V) (d := d + 4) (c := u.1 t) (FI := FI14) (AI := AI14) (AL := AL14) wk
                  rw [esc] at hsc
                  have e11 : x_FR X14 lo 11 = some (lo + v) := by rw [d5]; exact r11
                  refine G_aload0 70 d_Alg_settle_69 rfl ?_
                  refine G_getR 73 d_Alg_settle_70 rfl f_Alg_27 rfl d1.sh d1.f2 ?_
                  refine G_getIv 76 d_Alg_settle_73 rfl f_Alg_109 rfl d1.s2 hg0 ?_
                  refine G_bipushN 7 78 d_Alg_settle_76 rfl rfl ?_
                  first | refine G_icltN 83 81 d_Alg_settle_78 rfl rfl (by omega) (by omega) (fun h78 => ?_) (fun h78 => ?_) | refine G_iclt 83 81 d_Alg_settle_78 rfl rfl (fun h78 => ?_) (fun h78 => ?_)
                  · refine G_aload0 84 d_Alg_settle_83 rfl ?_
                    refine G_getR 87 d_Alg_settle_84 rfl f_Alg_65 rfl d1.sh d1.f8 ?_
                    refine G_lload4 89 d_Alg_settle_87 rfl ?_
                    refine G_invV1v 92 d_Alg_settle_89 rfl e_Alg_445 M_Poly_scaleBy rfl d1.s8 (Nat.le_of_ble_eq_true rfl) (Nat.le_of_ble_eq_true rfl) rfl (hsc) ?_
                    refine G_aload0 93 d_Alg_settle_92 rfl ?_
                    refine G_getR 96 d_Alg_settle_93 rfl f_Alg_27 rfl d1.sh d1.f2 ?_
                    refine G_aload0 97 d_Alg_settle_96 rfl ?_
                    refine G_getR 100 d_Alg_settle_97 rfl f_Alg_65 rfl d1.sh d1.f8 ?_
                    refine G_iload3 101 d_Alg_settle_100 rfl ?_
                    refine G_invV2v 104 d_Alg_settle_101 rfl e_Alg_242 M_Gen_append rfl d1.s2 (Nat.le_of_ble_eq_true rfl) (Nat.le_of_ble_eq_true rfl) rfl (hap) ?_
                    refine G_aload0 105 d_Alg_settle_104 rfl ?_
                    refine G_getR 108 d_Alg_settle_105 rfl f_Alg_27 rfl d1.sh d1.f2 ?_
                    refine G_lload4 110 d_Alg_settle_108 rfl ?_
                    refine G_iload1 111 d_Alg_settle_110 rfl ?_
                    refine G_iload2 112 d_Alg_settle_111 rfl ?_
                    refine G_aload0 113 d_Alg_settle_112 rfl ?_
                    refine G_getR 116 d_Alg_settle_113 rfl f_Alg_79 rfl d1.sh e11 ?_
                    refine G_invV4v 119 d_Alg_settle_116 rfl e_Alg_473 M_Gen_expressLast rfl d1.s2 (Nat.le_of_ble_eq_true rfl) (Nat.le_of_ble_eq_true rfl) rfl (hel) ?_
                    refine G_aload0 120 d_Alg_settle_119 rfl ?_
                    refine G_invV0 123 d_Alg_settle_120 rfl e_Alg_245 M_Alg_generatorsChanged rfl d1.sh (Nat.le_of_ble_eq_true rfl) (Nat.le_of_ble_eq_true rfl) rfl (G.conseq (hgc) (fun r120 X120 FI120 AI120 AL120 h120 => ?_))
                    obtain ⟨a1, a2, a3, a4, a5, a6, a7⟩ := h120
                    replace a2 := a2.symm
                    subst a1 a2 a3 a4
                    have fb : ∀ c, c ≠ lo + 4 → FB c = FI14 c := fun c hc => by rw [← hFB]; exact u2_off _ _ _ hc
                    obtain ⟨r1, r2⟩ := hI0.gn (b := true) (Gt' := appG (tG S) t (u.1 t) u.1 q.1 q.2 u.2) (FI' := u2 (u2 FB lo 14 (nI 0)) lo 15 (nI 0)) (AI' := AI120) (AL' := exL LB (cga lo) (gN (tG S)) (xcf (u.1 t) (LB (lo + v + 1))) (2 + u.2.length)) hW (fun c h1 h2 => by rw [u2_off _ _ _ h1, u2_off _ _ _ h1]; exact fb c h2) (fun j h1 h2 h3 => by rw [u2_ix _ _ h3, u2_ix _ _ h2, fb _ (by omega)]) (by rw [u2_ix _ _ (by omega), u2_ix _ _ (by omega), fb _ (by omega), if_pos rfl]) (by rw [u2_ix _ _ (by omega), u2_at]; rfl) (by rw [u2_at]; rfl) (fun c hc => by rw [a5 c (by omega), exi c (by omega) (by omega) (by omega)]; exact aiB c (by omega) (by omega) (by omega)) (fun c hc => by
                        rw [exl c (by omega), ← hLB]
                        show u2 (sr (sr AL14 (lo + 57) _) (lo + 14 + 2 * gN (tG S)) _) (lo + 4 + 3) _ _ c = _
                        rw [u2_off _ _ _ (by omega), sr_ne _ _ (by omega)]) (hG1.tr (by rw [u2_off _ _ _ (show lo + 4 ≠ lo by omega), u2_off _ _ _ (show lo + 4 ≠ lo by omega)]) (fun c _ _ => a5 c (by omega)) (fun _ _ _ => rfl)) a6 a7
                    have hcA : cF X14 X14 FI14 FI14 AI14 AI14 AL14 (sr AL14 (lo + 57) (fun j => u.1 t * u.1 j)) lo := cF.al (fun c hc => sr_ne _ _ (by omega))
                    refine G_iconstN 0 124 d_Alg_settle_123 rfl rfl ?_
                    refine G_iret d_Alg_settle_124 rfl ?_
                    exact ⟨rfl, d1, r1, (c2.tr hcA).tr r2, fun c h1 h2 => by rw [a5 c (by omega), exi c (by omega) (by omega) (by omega), aiB c (by omega) (by omega) (by omega)]; exact ai14 c h1 h2, d5, by rw [u2_ix _ _ (by omega), u2_ix _ _ (by omega), fb _ (by omega)]; exact f17⟩
                  · omega
              refine G_istore3 34 d_Alg_settle_33 rfl (by decide) rfl ?_
              refine G_iload3 35 d_Alg_settle_34 rfl ?_
              refine G_ifge 40 38 d_Alg_settle_35 rfl rfl (fun h35 => ?_) (fun h35 => ?_)
              · refine G_aload0 41 d_Alg_settle_40 rfl ?_
                refine G_getR 44 d_Alg_settle_41 rfl f_Alg_65 rfl d1.sh d1.f8 ?_
                refine G_getR 47 d_Alg_settle_44 rfl f_Alg_148 rfl d1.s8 (by assumption) ?_
                refine G_iload3 48 d_Alg_settle_47 rfl ?_
                refine G_laloadv 49 d_Alg_settle_48 rfl (by assumption) (ix_nI (by omega) (by omega)) ew ?_
                refine G_lstore4 51 d_Alg_settle_49 rfl (by decide) rfl ?_
                refine G_lload4 53 d_Alg_settle_51 rfl ?_
                refine G_lconst 1 54 d_Alg_settle_53 rfl rfl ?_
                refine G_lceq 69 58 d_Alg_settle_54 d_Alg_settle_55 rfl rfl (fun h54 => ?_) (fun h54 => ?_)
                · exact go69 none none
                · refine G_lload4 60 d_Alg_settle_58 rfl ?_
                  refine G_ldc2 63 d_Alg_settle_60 rfl k_Alg_146 ?_
                  refine G_lceq 69 67 d_Alg_settle_63 d_Alg_settle_64 rfl rfl (fun h63 => ?_) (fun h63 => ?_)
                  · exact go69 none none
                  · rcases he with he | he
                    · exact absurd he h54
                    · exact absurd he h63
              · exact absurd (by rw [Int32.le_iff_toInt_le, nI_toInt (by omega)]; show (0 : Int) ≤ _; omega) h35
            · rw [if_pos hone] at eS0
              rw [eS0]
              refine G_istore3 34 d_Alg_settle_33 rfl (by decide) rfl ?_
              refine G_iload3 35 d_Alg_settle_34 rfl ?_
              refine G_ifge 40 38 d_Alg_settle_35 rfl rfl (fun h35 => ?_) (fun h35 => ?_)
              · refine G_aload0 41 d_Alg_settle_40 rfl ?_
                refine G_getR 44 d_Alg_settle_41 rfl f_Alg_65 rfl d1.sh d1.f8 ?_
                refine G_getR 47 d_Alg_settle_44 rfl f_Alg_148 rfl d1.s8 (by assumption) ?_
                refine G_iload3 48 d_Alg_settle_47 rfl ?_
                refine G_laloadv 49 d_Alg_settle_48 rfl (by assumption) (ix_nI (by omega) (by omega)) ew ?_
                refine G_lstore4 51 d_Alg_settle_49 rfl (by decide) rfl ?_
                refine G_lload4 53 d_Alg_settle_51 rfl ?_
                refine G_lconst 1 54 d_Alg_settle_53 rfl rfl ?_
                refine G_lceq 69 58 d_Alg_settle_54 d_Alg_settle_55 rfl rfl (fun h54 => ?_) (fun h54 => ?_)
                · rw [h54] at hone; exact absurd (by decide) hone
                · refine G_lload4 60 d_Alg_settle_58 rfl ?_
                  refine G_ldc2 63 d_Alg_settle_60 rfl k_Alg_146 ?_
                  refine G_lceq 69 67 d_Alg_settle_63 d_Alg_settle_64 rfl rfl (fun h63 => ?_) (fun h63 => ?_)
                  · rw [h63] at hone; exact absurd (by decide) hone
                  · refine G_iconstN 2 68 d_Alg_settle_67 rfl rfl ?_
                    refine G_iret d_Alg_settle_68 rfl ?_
                    exact ⟨rfl, d1, d2, c2, ai14, d5, f17⟩
              · exact absurd (by rw [Int32.le_iff_toInt_le, nI_toInt (by omega)]; show (0 : Int) ≤ _; omega) h35
        · exact absurd h17 (by decide)
