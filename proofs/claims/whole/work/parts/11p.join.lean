/-! ===== the class: RELATIONS are found ===== -/
theorem psup_lt (r : Nat) : ∀ k, psup r k < 2 ^ k
  | 0 => by simp [psup]
  | k + 1 => by
    have := psup_lt r k
    have e : 2 ^ (k + 1) = 2 ^ k * 2 := Nat.pow_succ 2 k
    rw [psup]
    split
    · exact Nat.or_lt_two_pow (by omega) (by have := Nat.two_pow_pos k; omega)
    · omega
theorem sup_lt (r : Nat) : sup r < 128 := psup_lt r 7
theorem nI_and (a b : Nat) : nI a &&& nI b = nI (a &&& b) := by
  apply Int32.toBitVec_inj.mp
  show (BitVec.ofNat 32 a &&& BitVec.ofNat 32 b) = BitVec.ofNat 32 (a &&& b)
  apply BitVec.eq_of_toNat_eq
  simp [Nat.and_mod_two_pow]
theorem joS_lt {bits : Nat} : ∀ {L : List (Nat × Nat)}, (∀ q ∈ L, q.1 < 128) → (joS bits L).2 < 128 ∧ ∀ q ∈ (joS bits L).1, q.1 < 128
  | [], _ => by simp [joS]
  | p :: L, h => by
    obtain ⟨a, c⟩ := joS_lt (bits := bits) (L := L) (fun q hq => h q (List.mem_cons_of_mem _ hq))
    have hp := h p List.mem_cons_self
    rw [joS]
    split
    · exact ⟨Nat.or_lt_two_pow (n := 7) hp a, c⟩
    · refine ⟨a, fun q hq => ?_⟩
      rcases List.mem_cons.mp hq with e | e
      · rw [e]; exact hp
      · exact c q e
theorem joF_lt {bits i : Nat} (hb : bits < 128) : ∀ {L : List (Nat × Nat)}, (∀ q ∈ L, q.1 < 128) → ∀ q ∈ joF bits i L, q.1 < 128
  | [], _, q, hq => by
    have : q = (bits, i) := by simpa [joF] using hq
    rw [this]; exact hb
  | p :: L, h, q, hq => by
    have hp := h p List.mem_cons_self
    have hs := joS_lt (bits := bits) (L := L) (fun q hq => h q (List.mem_cons_of_mem _ hq))
    rw [joF] at hq
    split at hq
    · rcases List.mem_cons.mp hq with e | e
      · rw [e]; exact Nat.or_lt_two_pow (n := 7) (Nat.or_lt_two_pow (n := 7) hp hb) hs.1
      · exact hs.2 q e
    · rcases List.mem_cons.mp hq with e | e
      · rw [e]; exact hp
      · exact joF_lt hb (fun q hq => h q (List.mem_cons_of_mem _ hq)) q e
theorem gpF_lt (Rs : List Nat) : ∀ n, ∀ q ∈ gpF Rs n, q.1 < 128
  | 0, q, hq => by simp [gpF] at hq
  | n + 1, q, hq => joF_lt (sup_lt _) (gpF_lt Rs n) q hq
/-- GROUPS in their rows -/
def GLt (AI : FT) (r0 : Nat) (Rs : List Nat) (L : List (Nat × Nat)) : Prop := ∀ i q, L[i]? = some q → AI (r0 + 4) i = nI q.1 ∧ AI (r0 + 5) i = nI (Rs.getD q.2 0)
def GLr (AI : FT) (r0 : Nat) (Rs : List Nat) (k : Nat) (L : List (Nat × Nat)) : Prop := ∀ i q, L[i]? = some q → AI (r0 + 4) (k + i) = nI q.1 ∧ AI (r0 + 5) (k + i) = nI (Rs.getD q.2 0)
def jnP (X : XT) (FI AI : FT) (AL : LT) (r0 : Nat) (Rs : List Nat) (F : List (Nat × Nat)) : PT := fun r X' FI' AI' AL' => r = some (.int (nI F.length)) ∧ X' = X ∧ FI' = FI ∧ AL' = AL ∧ (∀ c, c ≠ r0 + 4 → c ≠ r0 + 5 → AI' c = AI c) ∧ GLt AI' r0 Rs F
theorem GLr.hd {AI : FT} {r0 k : Nat} {Rs : List Nat} {q : Nat × Nat} {L : List (Nat × Nat)} (h : GLr AI r0 Rs k (q :: L)) : (AI (r0 + 4) k = nI q.1 ∧ AI (r0 + 5) k = nI (Rs.getD q.2 0)) ∧ GLr AI r0 Rs (k + 1) L :=
  ⟨h 0 q rfl, fun i p hp => by
    have := h (i + 1) p (by rw [List.getElem?_cons_succ]; exact hp)
    rw [show k + 1 + i = k + (i + 1) by omega]; exact this⟩
/-- the last of a list -/
theorem get_snoc {α : Type} {L : List α} {x y : α} {i : Nat} (h : (L ++ [x])[i]? = some y) : (i < L.length ∧ L[i]? = some y) ∨ (i = L.length ∧ y = x) := by
  rcases Nat.lt_trichotomy i L.length with c | c | c
  · rw [List.getElem?_append_left c] at h; exact Or.inl ⟨c, h⟩
  · subst c
    rw [List.getElem?_append_right (Nat.le_refl _), Nat.sub_self] at h
    exact Or.inr ⟨rfl, by simpa using h.symm⟩
  · rw [List.getElem?_append_right (by omega), List.getElem?_eq_none (by simp; omega)] at h; cases h
theorem s_joinB {V : GV} {d r0 row m bits : Nat} {Rs : List Nat} {X : XT} {FI AI0 : FT} {AL : LT} (h : RLo X r0) (hm : m ≤ 7) (hbt : bits < 128) : ∀ (L2 O1 : List (Nat × Nat)) (s hd : Nat) (O2 : List (Nat × Nat)) (k : Nat) (AI : FT) (v7 : Option Value), k + L2.length = m → O1.length + 1 + O2.length ≤ k → GLt AI r0 Rs (O1 ++ (s, hd) :: O2) → GLr AI r0 Rs k L2 → (∀ q ∈ L2, q.1 < 128) → (∀ c, c ≠ r0 + 4 → c ≠ r0 + 5 → AI c = AI0 c) → G V m_Rel_join (d + 1) 14 [some (.ref r0), some (.int (nI row)), some (.int (nI m)), some (.int (nI bits)), some (.int (nI O1.length)), some (.int (nI (O1.length + 1 + O2.length))), some (.int (nI k)), v7] [] X FI AI AL (jnP X FI AI0 AL r0 Rs (O1 ++ (s ||| (joS bits L2).2, hd) :: (O2 ++ (joS bits L2).1)))
  | [], O1, s, hd, O2, k, AI, v7, hk, hle, hG, hR, hb, hA => by
    obtain ⟨x0, ⟨x1, x2, x3, x4, x5⟩, y1, y2, y3, y4, y5⟩ := h
    have hk' : k = m := by simpa using hk
    have e : O1 ++ (s ||| (joS bits []).2, hd) :: (O2 ++ (joS bits []).1) = O1 ++ (s, hd) :: O2 := by simp [joS]
    rw [e]
    have eL : (O1 ++ (s, hd) :: O2).length = O1.length + 1 + O2.length := by simp; omega
    refine G_iload6 16 d_Rel_join_14 rfl ?_
    refine G_iload2 17 d_Rel_join_16 rfl ?_
    first | refine G_icgeN 137 20 d_Rel_join_17 rfl rfl (by omega) (by omega) (fun h17 => ?_) (fun h17 => ?_) | refine G_icge 137 20 d_Rel_join_17 rfl rfl (fun h17 => ?_) (fun h17 => ?_)
    · refine G_iload4 139 d_Rel_join_137 rfl ?_
      refine G_ifge 168 142 d_Rel_join_139 rfl rfl (fun h139 => ?_) (fun h139 => ?_)
      · refine G_iload5 170 d_Rel_join_168 rfl ?_
        refine G_iret d_Rel_join_170 rfl ?_
        exact ⟨by rw [eL], rfl, rfl, rfl, hA, hG⟩
      · exact absurd (by rw [Int32.le_iff_toInt_le, nI_toInt (by omega)]; show (0 : Int) ≤ _; omega) h139
    · omega
  | q :: L3, O1, s, hd, O2, k, AI, v7, hk, hle, hG, hR, hb, hA => by
    obtain ⟨x0, ⟨x1, x2, x3, x4, x5⟩, y1, y2, y3, y4, y5⟩ := id h
    have hk2 : k + 1 + L3.length = m := by simp at hk; omega
    obtain ⟨⟨a1, a2⟩, hR2⟩ := hR.hd
    have hq := hb q List.mem_cons_self
    have hb3 := fun p hp => hb p (List.mem_cons_of_mem q hp)
    have hand : q.1 &&& bits < 2 ^ 31 := Nat.lt_of_le_of_lt Nat.and_le_left (by omega)
    have go1 : AI (r0 + 4) O1.length = nI s := (hG O1.length (s, hd) (by rw [List.getElem?_append_right (Nat.le_refl _), Nat.sub_self]; rfl)).1
    by_cases hj : q.1 &&& bits = 0
    · have ej : joS bits (q :: L3) = (q :: (joS bits L3).1, (joS bits L3).2) := by rw [joS, if_neg (fun c => c hj)]
      rw [ej]
      have en : nI (q.1 &&& bits) = 0 := by rw [hj]; rfl
      have eA : O1 ++ (s ||| (joS bits L3).2, hd) :: (O2 ++ q :: (joS bits L3).1) = O1 ++ (s ||| (joS bits L3).2, hd) :: ((O2 ++ [q]) ++ (joS bits L3).1) := by rw [List.append_assoc]; rfl
      show G V m_Rel_join (d + 1) 14 _ [] X FI AI AL (jnP X FI AI0 AL r0 Rs (O1 ++ (s ||| (joS bits L3).2, hd) :: (O2 ++ q :: (joS bits L3).1)))
      rw [eA]
      have ih := fun AI v7 => s_joinB (V := V) (d := d) (row := row) (Rs := Rs) (FI := FI) (AI0 := AI0) (AL := AL) h hm hbt L3 O1 s hd (O2 ++ [q]) (k + 1) AI v7 hk2 (by simp; omega)
      have eLn : O1.length + 1 + (O2 ++ [q]).length = O1.length + 1 + O2.length + 1 := by simp; omega
      rw [eLn] at ih
      have a2' : u2 AI (r0 + 4) (O1.length + 1 + O2.length) (nI q.1) (r0 + 5) k = nI (Rs.getD q.2 0) := by rw [u2_ne _ _ _ _ (by omega)]; exact a2
      refine G_iload6 16 d_Rel_join_14 rfl ?_
      refine G_iload2 17 d_Rel_join_16 rfl ?_
      first | refine G_icgeN 137 20 d_Rel_join_17 rfl rfl (by omega) (by omega) (fun h17 => ?_) (fun h17 => ?_) | refine G_icge 137 20 d_Rel_join_17 rfl rfl (fun h17 => ?_) (fun h17 => ?_)
      · omega
      · refine G_aload0 21 d_Rel_join_20 rfl ?_
        refine G_getR 24 d_Rel_join_21 rfl f_Rel_25 rfl (by assumption) (by assumption) ?_
        refine G_iload6 26 d_Rel_join_24 rfl ?_
        refine G_ialoadv 27 d_Rel_join_26 rfl (by assumption) (ix_nI (by omega) (by omega)) a1 ?_
        refine G_iload3 28 d_Rel_join_27 rfl ?_
        refine G_iand 29 d_Rel_join_28 rfl ?_
        rw [nI_and, en]
        refine G_ifeq 36 32 d_Rel_join_29 rfl rfl (fun h29 => ?_) (fun h29 => ?_)
        · refine G_iconstN 0 37 d_Rel_join_36 rfl rfl ?_
          refine G_istore7 39 d_Rel_join_37 rfl (by decide) rfl ?_
          refine G_iload7 41 d_Rel_join_39 rfl ?_
          refine G_ifeq 69 44 d_Rel_join_41 rfl rfl (fun h41 => ?_) (fun h41 => ?_)
          · refine G_aload0 70 d_Rel_join_69 rfl ?_
            refine G_getR 73 d_Rel_join_70 rfl f_Rel_25 rfl (by assumption) (by assumption) ?_
            refine G_iload5 75 d_Rel_join_73 rfl ?_
            refine G_iload7 77 d_Rel_join_75 rfl ?_
            refine G_ifeq 92 80 d_Rel_join_77 rfl rfl (fun h77 => ?_) (fun h77 => ?_)
            · refine G_aload0 93 d_Rel_join_92 rfl ?_
              refine G_getR 96 d_Rel_join_93 rfl f_Rel_25 rfl (by assumption) (by assumption) ?_
              refine G_iload6 98 d_Rel_join_96 rfl ?_
              refine G_ialoadv 99 d_Rel_join_98 rfl (by assumption) (ix_nI (by omega) (by omega)) a1 ?_
              refine G_iastore 100 d_Rel_join_99 rfl (by assumption) (ix_nI (by omega) (by omega)) ?_
              refine G_aload0 101 d_Rel_join_100 rfl ?_
              refine G_getR 104 d_Rel_join_101 rfl f_Rel_28 rfl (by assumption) (by assumption) ?_
              refine G_iload5 106 d_Rel_join_104 rfl ?_
              refine G_aload0 107 d_Rel_join_106 rfl ?_
              refine G_getR 110 d_Rel_join_107 rfl f_Rel_28 rfl (by assumption) (by assumption) ?_
              refine G_iload6 112 d_Rel_join_110 rfl ?_
              refine G_ialoadv 113 d_Rel_join_112 rfl (by assumption) (ix_nI (by omega) (by omega)) a2' ?_
              refine G_iastore 114 d_Rel_join_113 rfl (by assumption) (ix_nI (by omega) (by omega)) ?_
              refine G_iload7 116 d_Rel_join_114 rfl ?_
              refine G_ifeq 124 119 d_Rel_join_116 rfl rfl (fun h116 => ?_) (fun h116 => ?_)
              · refine G_iload4 126 d_Rel_join_124 rfl ?_
                refine G_istore4 128 d_Rel_join_126 rfl (by decide) rfl ?_
                first | refine G_iincN5 131 d_Rel_join_128 rfl (by decide) rfl ?_ | refine G_iinc5 _ 131 d_Rel_join_128 rfl (by decide) rfl rfl ?_
                first | refine G_iincN6 134 d_Rel_join_131 rfl (by decide) rfl ?_ | refine G_iinc6 _ 134 d_Rel_join_131 rfl (by decide) rfl rfl ?_
                refine G_goto 14 d_Rel_join_134 rfl ?_
                refine ih _ _ ?_ ?_ hb3 (fun c c1 c2 => by rw [u2_off _ _ _ c2, u2_off _ _ _ c1]; exact hA c c1 c2)
                · intro i p hp
                  have eq2 : O1 ++ (s, hd) :: (O2 ++ [q]) = (O1 ++ (s, hd) :: O2) ++ [q] := by rw [List.append_assoc]; rfl
                  rw [eq2] at hp
                  have eL : (O1 ++ (s, hd) :: O2).length = O1.length + 1 + O2.length := by simp; omega
                  rcases get_snoc hp with ⟨c1, c2⟩ | ⟨c1, c2⟩
                  · rw [eL] at c1
                    refine ⟨?_, ?_⟩
                    · rw [u2_ne _ _ _ _ (by omega), u2_ix _ _ (by omega)]; exact (hG i p c2).1
                    · rw [u2_ix _ _ (by omega), u2_ne _ _ _ _ (by omega)]; exact (hG i p c2).2
                  · rw [eL] at c1
                    subst c1 c2
                    exact ⟨by rw [u2_ne _ _ _ _ (by omega), u2_at], by rw [u2_at]⟩
                · intro i p hp
                  refine ⟨?_, ?_⟩
                  · rw [u2_ne _ _ _ _ (by omega), u2_ix _ _ (by omega)]; exact (hR2 i p hp).1
                  · rw [u2_ix _ _ (by omega), u2_ne _ _ _ _ (by omega)]; exact (hR2 i p hp).2
              · exact absurd rfl h116
            · exact absurd rfl h77
          · exact absurd rfl h41
        · exact absurd rfl h29
    · have ej : joS bits (q :: L3) = ((joS bits L3).1, q.1 ||| (joS bits L3).2) := by rw [joS, if_pos hj]
      rw [ej]
      show G V m_Rel_join (d + 1) 14 _ [] X FI AI AL (jnP X FI AI0 AL r0 Rs (O1 ++ (s ||| (q.1 ||| (joS bits L3).2), hd) :: (O2 ++ (joS bits L3).1)))
      rw [← Nat.or_assoc]
      have ih := fun AI v7 => s_joinB (V := V) (d := d) (row := row) (Rs := Rs) (FI := FI) (AI0 := AI0) (AL := AL) h hm hbt L3 O1 (s ||| q.1) hd O2 (k + 1) AI v7 hk2 (by omega)
      have ene : ¬ nI (q.1 &&& bits) = 0 := nI_ne0 (by omega) hand
      refine G_iload6 16 d_Rel_join_14 rfl ?_
      refine G_iload2 17 d_Rel_join_16 rfl ?_
      first | refine G_icgeN 137 20 d_Rel_join_17 rfl rfl (by omega) (by omega) (fun h17 => ?_) (fun h17 => ?_) | refine G_icge 137 20 d_Rel_join_17 rfl rfl (fun h17 => ?_) (fun h17 => ?_)
      · omega
      · refine G_aload0 21 d_Rel_join_20 rfl ?_
        refine G_getR 24 d_Rel_join_21 rfl f_Rel_25 rfl (by assumption) (by assumption) ?_
        refine G_iload6 26 d_Rel_join_24 rfl ?_
        refine G_ialoadv 27 d_Rel_join_26 rfl (by assumption) (ix_nI (by omega) (by omega)) a1 ?_
        refine G_iload3 28 d_Rel_join_27 rfl ?_
        refine G_iand 29 d_Rel_join_28 rfl ?_
        rw [nI_and]
        refine G_ifeq 36 32 d_Rel_join_29 rfl rfl (fun h29 => ?_) (fun h29 => ?_)
        · exact absurd h29 ene
        · refine G_iconstN 1 33 d_Rel_join_32 rfl rfl ?_
          refine G_goto 37 d_Rel_join_33 rfl ?_
          refine G_istore7 39 d_Rel_join_37 rfl (by decide) rfl ?_
          refine G_iload7 41 d_Rel_join_39 rfl ?_
          refine G_ifeq 69 44 d_Rel_join_41 rfl rfl (fun h41 => ?_) (fun h41 => ?_)
          · exact absurd h41 (by decide)
          · refine G_iload4 46 d_Rel_join_44 rfl ?_
            first | refine G_ifltD 69 49 d_Rel_join_46 rfl rfl (by omega) (fun h46 => ?_) (fun j h46 => ?_) | refine G_iflt 69 49 d_Rel_join_46 rfl rfl (fun h46 => ?_) (fun h46 => ?_)
            · exact absurd h46 (nI_pos (by omega))
            · refine G_aload0 50 d_Rel_join_49 rfl ?_
              refine G_getR 53 d_Rel_join_50 rfl f_Rel_25 rfl (by assumption) (by assumption) ?_
              refine G_iload4 55 d_Rel_join_53 rfl ?_
              refine G_dup2 56 d_Rel_join_55 rfl rfl rfl ?_
              refine G_ialoadv 57 d_Rel_join_56 rfl (by assumption) (ix_nI (by omega) (by omega)) go1 ?_
              refine G_aload0 58 d_Rel_join_57 rfl ?_
              refine G_getR 61 d_Rel_join_58 rfl f_Rel_25 rfl (by assumption) (by assumption) ?_
              refine G_iload6 63 d_Rel_join_61 rfl ?_
              refine G_ialoadv 64 d_Rel_join_63 rfl (by assumption) (ix_nI (by omega) (by omega)) a1 ?_
              refine G_ior 65 d_Rel_join_64 rfl ?_
              rw [nI_or]
              refine G_iastore 66 d_Rel_join_65 rfl (by assumption) (ix_nI (by omega) (by omega)) ?_
              refine G_goto 131 d_Rel_join_66 rfl ?_
              first | refine G_iincN6 134 d_Rel_join_131 rfl (by decide) rfl ?_ | refine G_iinc6 _ 134 d_Rel_join_131 rfl (by decide) rfl rfl ?_
              refine G_goto 14 d_Rel_join_134 rfl ?_
              refine ih _ _ ?_ ?_ hb3 (fun c c1 c2 => by rw [u2_off _ _ _ c1]; exact hA c c1 c2)
              · intro i p hp
                by_cases ei : i = O1.length
                · subst ei
                  rw [List.getElem?_append_right (Nat.le_refl _), Nat.sub_self] at hp
                  have ep : (s ||| q.1, hd) = p := by simpa using hp
                  rw [← ep]
                  refine ⟨by rw [u2_at], ?_⟩
                  rw [u2_ne _ _ _ _ (by omega)]
                  exact (hG O1.length (s, hd) (by rw [List.getElem?_append_right (Nat.le_refl _), Nat.sub_self]; rfl)).2
                · have hp2 : (O1 ++ (s, hd) :: O2)[i]? = some p := by
                    rcases Nat.lt_or_ge i O1.length with c | c
                    · rw [List.getElem?_append_left c] at hp ⊢; exact hp
                    · rw [List.getElem?_append_right c] at hp ⊢
                      obtain ⟨j, ej⟩ : ∃ j, i - O1.length = j + 1 := ⟨i - O1.length - 1, by omega⟩
                      rw [ej, List.getElem?_cons_succ] at hp ⊢; exact hp
                  exact ⟨by rw [u2_ix _ _ ei]; exact (hG i p hp2).1, by rw [u2_ne _ _ _ _ (by omega)]; exact (hG i p hp2).2⟩
              · intro i p hp
                exact ⟨by rw [u2_ix _ _ (by omega)]; exact (hR2 i p hp).1, by rw [u2_ne _ _ _ _ (by omega)]; exact (hR2 i p hp).2⟩
theorem s_joinA {V : GV} {d r0 row m bits n : Nat} {Rs : List Nat} {X : XT} {FI AI0 : FT} {AL : LT} (h : RLo X r0) (hm : m ≤ 7) (hbt : bits < 128) (hrow : Rs.getD n 0 = row) : ∀ (L2 O1 : List (Nat × Nat)) (AI : FT) (v7 : Option Value), O1.length + L2.length = m → (O1 ++ joF bits n L2).length ≤ 7 → GLt AI r0 Rs (O1 ++ L2) → (∀ q ∈ L2, q.1 < 128) → (∀ c, c ≠ r0 + 4 → c ≠ r0 + 5 → AI c = AI0 c) → G V m_Rel_join (d + 1) 14 [some (.ref r0), some (.int (nI row)), some (.int (nI m)), some (.int (nI bits)), some (.int (-1)), some (.int (nI O1.length)), some (.int (nI O1.length)), v7] [] X FI AI AL (jnP X FI AI0 AL r0 Rs (O1 ++ joF bits n L2))
  | [], O1, AI, v7, hk, h7, hG, hb, hA => by
    obtain ⟨x0, ⟨x1, x2, x3, x4, x5⟩, y1, y2, y3, y4, y5⟩ := h
    have hk' : O1.length = m := by simpa using hk
    have e : O1 ++ joF bits n [] = O1 ++ [(bits, n)] := rfl
    rw [e] at h7 ⊢
    have eL : (O1 ++ [(bits, n)]).length = O1.length + 1 := by simp
    rw [eL] at h7
    rw [List.append_nil] at hG
    refine G_iload6 16 d_Rel_join_14 rfl ?_
    refine G_iload2 17 d_Rel_join_16 rfl ?_
    first | refine G_icgeN 137 20 d_Rel_join_17 rfl rfl (by omega) (by omega) (fun h17 => ?_) (fun h17 => ?_) | refine G_icge 137 20 d_Rel_join_17 rfl rfl (fun h17 => ?_) (fun h17 => ?_)
    · refine G_iload4 139 d_Rel_join_137 rfl ?_
      refine G_ifge 168 142 d_Rel_join_139 rfl rfl (fun h139 => ?_) (fun h139 => ?_)
      · exact absurd h139 (by decide)
      · refine G_iload5 144 d_Rel_join_142 rfl ?_
        refine G_bipushN 7 146 d_Rel_join_144 rfl rfl ?_
        first | refine G_icgeN 168 149 d_Rel_join_146 rfl rfl (by omega) (by omega) (fun h146 => ?_) (fun h146 => ?_) | refine G_icge 168 149 d_Rel_join_146 rfl rfl (fun h146 => ?_) (fun h146 => ?_)
        · omega
        · refine G_aload0 150 d_Rel_join_149 rfl ?_
          refine G_getR 153 d_Rel_join_150 rfl f_Rel_25 rfl (by assumption) (by assumption) ?_
          refine G_iload5 155 d_Rel_join_153 rfl ?_
          refine G_iload3 156 d_Rel_join_155 rfl ?_
          refine G_iastore 157 d_Rel_join_156 rfl (by assumption) (ix_nI (by omega) (by omega)) ?_
          refine G_aload0 158 d_Rel_join_157 rfl ?_
          refine G_getR 161 d_Rel_join_158 rfl f_Rel_28 rfl (by assumption) (by assumption) ?_
          refine G_iload5 163 d_Rel_join_161 rfl ?_
          refine G_iload1 164 d_Rel_join_163 rfl ?_
          refine G_iastore 165 d_Rel_join_164 rfl (by assumption) (ix_nI (by omega) (by omega)) ?_
          first | refine G_iincN5 168 d_Rel_join_165 rfl (by decide) rfl ?_ | refine G_iinc5 _ 168 d_Rel_join_165 rfl (by decide) rfl rfl ?_
          refine G_iload5 170 d_Rel_join_168 rfl ?_
          refine G_iret d_Rel_join_170 rfl ?_
          refine ⟨by rw [eL], rfl, rfl, rfl, fun c c1 c2 => by rw [u2_off _ _ _ c2, u2_off _ _ _ c1]; exact hA c c1 c2, fun i p hp => ?_⟩
          rcases get_snoc hp with ⟨c1, c2⟩ | ⟨c1, c2⟩
          · refine ⟨?_, ?_⟩
            · rw [u2_ne _ _ _ _ (by omega), u2_ix _ _ (by omega)]; exact (hG i p c2).1
            · rw [u2_ix _ _ (by omega), u2_ne _ _ _ _ (by omega)]; exact (hG i p c2).2
          · subst c1 c2
            exact ⟨by rw [u2_ne _ _ _ _ (by omega), u2_at], by rw [u2_at, hrow]⟩
    · omega
  | q :: L3, O1, AI, v7, hk, h7, hG, hb, hA => by
    obtain ⟨x0, ⟨x1, x2, x3, x4, x5⟩, y1, y2, y3, y4, y5⟩ := id h
    have hk2 : O1.length + 1 + L3.length = m := by simp at hk; omega
    have hq := hb q List.mem_cons_self
    have hb3 := fun p hp => hb p (List.mem_cons_of_mem q hp)
    have hand : q.1 &&& bits < 2 ^ 31 := Nat.lt_of_le_of_lt Nat.and_le_left (by omega)
    obtain ⟨a1, a2⟩ := hG O1.length q (by rw [List.getElem?_append_right (Nat.le_refl _), Nat.sub_self]; rfl)
    have tail : ∀ i p, L3[i]? = some p → AI (r0 + 4) (O1.length + 1 + i) = nI p.1 ∧ AI (r0 + 5) (O1.length + 1 + i) = nI (Rs.getD p.2 0) := fun i p hp => hG (O1.length + 1 + i) p (by
      rw [List.getElem?_append_right (by omega), show O1.length + 1 + i - O1.length = i + 1 by omega, List.getElem?_cons_succ]; exact hp)
    by_cases hj : q.1 &&& bits = 0
    · have ej : joF bits n (q :: L3) = q :: joF bits n L3 := by rw [joF, if_neg (fun c => c hj)]
      rw [ej] at h7 ⊢
      have en : nI (q.1 &&& bits) = 0 := by rw [hj]; rfl
      have eA : O1 ++ q :: joF bits n L3 = (O1 ++ [q]) ++ joF bits n L3 := by rw [List.append_assoc]; rfl
      rw [eA] at h7 ⊢
      have ih := fun AI v7 => s_joinA (V := V) (d := d) (Rs := Rs) (FI := FI) (AI0 := AI0) (AL := AL) h hm hbt hrow L3 (O1 ++ [q]) AI v7 (by simp; omega) h7
      have eLn : (O1 ++ [q]).length = O1.length + 1 := by simp
      rw [eLn] at ih
      have a2' : u2 AI (r0 + 4) O1.length (nI q.1) (r0 + 5) O1.length = nI (Rs.getD q.2 0) := by rw [u2_ne _ _ _ _ (by omega)]; exact a2
      have eq2 : (O1 ++ [q]) ++ L3 = O1 ++ q :: L3 := by rw [List.append_assoc]; rfl
      refine G_iload6 16 d_Rel_join_14 rfl ?_
      refine G_iload2 17 d_Rel_join_16 rfl ?_
      first | refine G_icgeN 137 20 d_Rel_join_17 rfl rfl (by omega) (by omega) (fun h17 => ?_) (fun h17 => ?_) | refine G_icge 137 20 d_Rel_join_17 rfl rfl (fun h17 => ?_) (fun h17 => ?_)
      · omega
      · refine G_aload0 21 d_Rel_join_20 rfl ?_
        refine G_getR 24 d_Rel_join_21 rfl f_Rel_25 rfl (by assumption) (by assumption) ?_
        refine G_iload6 26 d_Rel_join_24 rfl ?_
        refine G_ialoadv 27 d_Rel_join_26 rfl (by assumption) (ix_nI (by omega) (by omega)) a1 ?_
        refine G_iload3 28 d_Rel_join_27 rfl ?_
        refine G_iand 29 d_Rel_join_28 rfl ?_
        rw [nI_and, en]
        refine G_ifeq 36 32 d_Rel_join_29 rfl rfl (fun h29 => ?_) (fun h29 => ?_)
        · refine G_iconstN 0 37 d_Rel_join_36 rfl rfl ?_
          refine G_istore7 39 d_Rel_join_37 rfl (by decide) rfl ?_
          refine G_iload7 41 d_Rel_join_39 rfl ?_
          refine G_ifeq 69 44 d_Rel_join_41 rfl rfl (fun h41 => ?_) (fun h41 => ?_)
          · refine G_aload0 70 d_Rel_join_69 rfl ?_
            refine G_getR 73 d_Rel_join_70 rfl f_Rel_25 rfl (by assumption) (by assumption) ?_
            refine G_iload5 75 d_Rel_join_73 rfl ?_
            refine G_iload7 77 d_Rel_join_75 rfl ?_
            refine G_ifeq 92 80 d_Rel_join_77 rfl rfl (fun h77 => ?_) (fun h77 => ?_)
            · refine G_aload0 93 d_Rel_join_92 rfl ?_
              refine G_getR 96 d_Rel_join_93 rfl f_Rel_25 rfl (by assumption) (by assumption) ?_
              refine G_iload6 98 d_Rel_join_96 rfl ?_
              refine G_ialoadv 99 d_Rel_join_98 rfl (by assumption) (ix_nI (by omega) (by omega)) a1 ?_
              refine G_iastore 100 d_Rel_join_99 rfl (by assumption) (ix_nI (by omega) (by omega)) ?_
              refine G_aload0 101 d_Rel_join_100 rfl ?_
              refine G_getR 104 d_Rel_join_101 rfl f_Rel_28 rfl (by assumption) (by assumption) ?_
              refine G_iload5 106 d_Rel_join_104 rfl ?_
              refine G_aload0 107 d_Rel_join_106 rfl ?_
              refine G_getR 110 d_Rel_join_107 rfl f_Rel_28 rfl (by assumption) (by assumption) ?_
              refine G_iload6 112 d_Rel_join_110 rfl ?_
              refine G_ialoadv 113 d_Rel_join_112 rfl (by assumption) (ix_nI (by omega) (by omega)) a2' ?_
              refine G_iastore 114 d_Rel_join_113 rfl (by assumption) (ix_nI (by omega) (by omega)) ?_
              refine G_iload7 116 d_Rel_join_114 rfl ?_
              refine G_ifeq 124 119 d_Rel_join_116 rfl rfl (fun h116 => ?_) (fun h116 => ?_)
              · refine G_iload4 126 d_Rel_join_124 rfl ?_
                refine G_istore4 128 d_Rel_join_126 rfl (by decide) rfl ?_
                first | refine G_iincN5 131 d_Rel_join_128 rfl (by decide) rfl ?_ | refine G_iinc5 _ 131 d_Rel_join_128 rfl (by decide) rfl rfl ?_
                first | refine G_iincN6 134 d_Rel_join_131 rfl (by decide) rfl ?_ | refine G_iinc6 _ 134 d_Rel_join_131 rfl (by decide) rfl rfl ?_
                refine G_goto 14 d_Rel_join_134 rfl ?_
                refine ih _ _ (fun i p hp => ?_) hb3 (fun c c1 c2 => by rw [u2_off _ _ _ c2, u2_off _ _ _ c1]; exact hA c c1 c2)
                rw [eq2] at hp
                have hg := hG i p hp
                by_cases ei : i = O1.length
                · subst ei
                  rw [List.getElem?_append_right (Nat.le_refl _), Nat.sub_self] at hp
                  have ep : q = p := by simpa using hp
                  rw [← ep]
                  exact ⟨by rw [u2_ne _ _ _ _ (by omega), u2_at], by rw [u2_at]⟩
                · exact ⟨by rw [u2_ne _ _ _ _ (by omega), u2_ix _ _ ei]; exact hg.1, by rw [u2_ix _ _ ei, u2_ne _ _ _ _ (by omega)]; exact hg.2⟩
              · exact absurd rfl h116
            · exact absurd rfl h77
          · exact absurd rfl h41
        · exact absurd rfl h29
    · have ej : joF bits n (q :: L3) = (q.1 ||| bits ||| (joS bits L3).2, q.2) :: (joS bits L3).1 := by rw [joF, if_pos hj]
      rw [ej]
      have ene : ¬ nI (q.1 &&& bits) = 0 := nI_ne0 (by omega) hand
      have ih := fun AI v7 => s_joinB (V := V) (d := d) (row := row) (Rs := Rs) (FI := FI) (AI0 := AI0) (AL := AL) h hm hbt L3 O1 (q.1 ||| bits) q.2 [] (O1.length + 1) AI v7 hk2 (by simp)
      rw [List.nil_append] at ih
      have a2' : u2 AI (r0 + 4) O1.length (nI (q.1 ||| bits)) (r0 + 5) O1.length = nI (Rs.getD q.2 0) := by rw [u2_ne _ _ _ _ (by omega)]; exact a2
      refine G_iload6 16 d_Rel_join_14 rfl ?_
      refine G_iload2 17 d_Rel_join_16 rfl ?_
      first | refine G_icgeN 137 20 d_Rel_join_17 rfl rfl (by omega) (by omega) (fun h17 => ?_) (fun h17 => ?_) | refine G_icge 137 20 d_Rel_join_17 rfl rfl (fun h17 => ?_) (fun h17 => ?_)
      · omega
      · refine G_aload0 21 d_Rel_join_20 rfl ?_
        refine G_getR 24 d_Rel_join_21 rfl f_Rel_25 rfl (by assumption) (by assumption) ?_
        refine G_iload6 26 d_Rel_join_24 rfl ?_
        refine G_ialoadv 27 d_Rel_join_26 rfl (by assumption) (ix_nI (by omega) (by omega)) a1 ?_
        refine G_iload3 28 d_Rel_join_27 rfl ?_
        refine G_iand 29 d_Rel_join_28 rfl ?_
        rw [nI_and]
        refine G_ifeq 36 32 d_Rel_join_29 rfl rfl (fun h29 => ?_) (fun h29 => ?_)
        · exact absurd h29 ene
        · refine G_iconstN 1 33 d_Rel_join_32 rfl rfl ?_
          refine G_goto 37 d_Rel_join_33 rfl ?_
          refine G_istore7 39 d_Rel_join_37 rfl (by decide) rfl ?_
          refine G_iload7 41 d_Rel_join_39 rfl ?_
          refine G_ifeq 69 44 d_Rel_join_41 rfl rfl (fun h41 => ?_) (fun h41 => ?_)
          · exact absurd h41 (by decide)
          · refine G_iload4 46 d_Rel_join_44 rfl ?_
            first | refine G_ifltD 69 49 d_Rel_join_46 rfl rfl (by omega) (fun h46 => ?_) (fun j h46 => ?_) | refine G_iflt 69 49 d_Rel_join_46 rfl rfl (fun h46 => ?_) (fun h46 => ?_)
            · refine G_aload0 70 d_Rel_join_69 rfl ?_
              refine G_getR 73 d_Rel_join_70 rfl f_Rel_25 rfl (by assumption) (by assumption) ?_
              refine G_iload5 75 d_Rel_join_73 rfl ?_
              refine G_iload7 77 d_Rel_join_75 rfl ?_
              refine G_ifeq 92 80 d_Rel_join_77 rfl rfl (fun h77 => ?_) (fun h77 => ?_)
              · exact absurd h77 (by decide)
              · refine G_aload0 81 d_Rel_join_80 rfl ?_
                refine G_getR 84 d_Rel_join_81 rfl f_Rel_25 rfl (by assumption) (by assumption) ?_
                refine G_iload6 86 d_Rel_join_84 rfl ?_
                refine G_ialoadv 87 d_Rel_join_86 rfl (by assumption) (ix_nI (by omega) (by omega)) a1 ?_
                refine G_iload3 88 d_Rel_join_87 rfl ?_
                refine G_ior 89 d_Rel_join_88 rfl ?_
                rw [nI_or]
                refine G_goto 99 d_Rel_join_89 rfl ?_
                refine G_iastore 100 d_Rel_join_99 rfl (by assumption) (ix_nI (by omega) (by omega)) ?_
                refine G_aload0 101 d_Rel_join_100 rfl ?_
                refine G_getR 104 d_Rel_join_101 rfl f_Rel_28 rfl (by assumption) (by assumption) ?_
                refine G_iload5 106 d_Rel_join_104 rfl ?_
                refine G_aload0 107 d_Rel_join_106 rfl ?_
                refine G_getR 110 d_Rel_join_107 rfl f_Rel_28 rfl (by assumption) (by assumption) ?_
                refine G_iload6 112 d_Rel_join_110 rfl ?_
                refine G_ialoadv 113 d_Rel_join_112 rfl (by assumption) (ix_nI (by omega) (by omega)) a2' ?_
                refine G_iastore 114 d_Rel_join_113 rfl (by assumption) (ix_nI (by omega) (by omega)) ?_
                refine G_iload7 116 d_Rel_join_114 rfl ?_
                refine G_ifeq 124 119 d_Rel_join_116 rfl rfl (fun h116 => ?_) (fun h116 => ?_)
                · exact absurd h116 (by decide)
                · refine G_iload5 121 d_Rel_join_119 rfl ?_
                  refine G_goto 126 d_Rel_join_121 rfl ?_
                  refine G_istore4 128 d_Rel_join_126 rfl (by decide) rfl ?_
                  first | refine G_iincN5 131 d_Rel_join_128 rfl (by decide) rfl ?_ | refine G_iinc5 _ 131 d_Rel_join_128 rfl (by decide) rfl rfl ?_
                  first | refine G_iincN6 134 d_Rel_join_131 rfl (by decide) rfl ?_ | refine G_iinc6 _ 134 d_Rel_join_131 rfl (by decide) rfl rfl ?_
                  refine G_goto 14 d_Rel_join_134 rfl ?_
                  refine ih _ _ (fun i p hp => ?_) (fun i p hp => ?_) hb3 (fun c c1 c2 => by rw [u2_off _ _ _ c2, u2_off _ _ _ c1]; exact hA c c1 c2)
                  · rcases get_snoc hp with ⟨c1, c2⟩ | ⟨c1, c2⟩
                    · have hg := hG i p (by rw [List.getElem?_append_left c1]; exact c2)
                      exact ⟨by rw [u2_ne _ _ _ _ (by omega), u2_ix _ _ (by omega)]; exact hg.1, by rw [u2_ix _ _ (by omega), u2_ne _ _ _ _ (by omega)]; exact hg.2⟩
                    · subst c1 c2
                      exact ⟨by rw [u2_ne _ _ _ _ (by omega), u2_at], by rw [u2_at]⟩
                  · have ht := tail i p hp
                    exact ⟨by rw [u2_ne _ _ _ _ (by omega), u2_ix _ _ (by omega)]; exact ht.1, by rw [u2_ix _ _ (by omega), u2_ne _ _ _ _ (by omega)]; exact ht.2⟩
            · exact absurd (by decide) h46
theorem s_join {V : GV} {d r0 row n : Nat} {Rs : List Nat} {L : List (Nat × Nat)} {X : XT} {FI AI : FT} {AL : LT} (h : RLo X r0) (h7 : L.length ≤ 7) (hr31 : row < 2 ^ 31) (hrow : Rs.getD n 0 = row) (h7' : (joF (sup row) n L).length ≤ 7) (hG : GLt AI r0 Rs L) (hb : ∀ q ∈ L, q.1 < 128) : G V m_Rel_join (d + 2) 0 [some (.ref r0), some (.int (nI row)), some (.int (nI L.length)), none, none, none, none, none] [] X FI AI AL (jnP X FI AI AL r0 Rs (joF (sup row) n L)) := by
  refine G_iload1 1 d_Rel_join_0 rfl ?_
  refine G_invS1d 4 d_Rel_join_1 rfl e_Rel_54 M_Gen_support (Nat.le_of_ble_eq_true rfl) (Nat.le_of_ble_eq_true rfl) rfl (s_support (by omega)) ?_
  refine G_istore3 5 d_Rel_join_4 rfl (by decide) rfl ?_
  refine G_iconst (-1) 6 d_Rel_join_5 rfl rfl ?_
  refine G_istore4 8 d_Rel_join_6 rfl (by decide) rfl ?_
  refine G_iconstN 0 9 d_Rel_join_8 rfl rfl ?_
  refine G_istore5 11 d_Rel_join_9 rfl (by decide) rfl ?_
  refine G_iconstN 0 12 d_Rel_join_11 rfl rfl ?_
  refine G_istore6 14 d_Rel_join_12 rfl (by decide) rfl ?_
  exact s_joinA (V := V) (d := d + 1) h h7 (sup_lt _) hrow L [] AI _ (by simp) h7' hG hb (fun _ _ _ => rfl)
