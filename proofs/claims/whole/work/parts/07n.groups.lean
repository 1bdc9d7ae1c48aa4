/-! ===== GROUPS of ROWS ===== -/
def shr (r s : Nat) : Prop := ∃ g, g < 7 ∧ 0 < pw r g ∧ 0 < pw s g
theorem shr_symm {r s : Nat} : shr r s → shr s r := fun ⟨g, a, b, c⟩ => ⟨g, a, c, b⟩
/-- labels that are the same where ROWS have a GENERATOR in common -/
def lbk (Rs : List Nat) (lab : Nat → Nat) : Prop := ∀ i j r s, Rs[i]? = some r → Rs[j]? = some s → shr r s → lab i = lab j
def Conn (Rs : List Nat) (i j : Nat) : Prop := ∀ lab, lbk Rs lab → lab i = lab j
theorem Conn.rf {Rs : List Nat} {i : Nat} : Conn Rs i i := fun _ _ => rfl
theorem Conn.tr {Rs : List Nat} {i j k : Nat} (h : Conn Rs i j) (h' : Conn Rs j k) : Conn Rs i k := fun lab hl => (h lab hl).trans (h' lab hl)
theorem Conn.sy {Rs : List Nat} {i j : Nat} (h : Conn Rs i j) : Conn Rs j i := fun lab hl => (h lab hl).symm
theorem Conn.sh {Rs : List Nat} {i j r s : Nat} (hi : Rs[i]? = some r) (hj : Rs[j]? = some s) (h : shr r s) : Conn Rs i j := fun _ hl => hl i j r s hi hj h
/-- row i is the first of its GROUP -/
def isH (Rs : List Nat) (i : Nat) : Prop := ∀ j, j < i → ¬ Conn Rs i j
def LabG (Rs : List Nat) (lab : Nat → Nat) : Prop := ∀ i, i < Rs.length → lab i ≤ i ∧ Conn Rs i (lab i)
theorem lab_isH {Rs : List Nat} {lab : Nat → Nat} (h1 : lbk Rs lab) (h2 : LabG Rs lab) {i : Nat} (hi : i < Rs.length) : lab i = i ↔ isH Rs i := by
  constructor
  · intro e j hj hc
    have := hc lab h1
    have := (h2 j (by omega)).1
    omega
  · intro hh
    obtain ⟨a, b⟩ := h2 i hi
    rcases Nat.lt_or_ge (lab i) i with c | c
    · exact absurd b (hh _ c)
    · omega
theorem s_mShare {V : GV} {d b i j r s : Nat} {X : XT} {FI AI : FT} {AL : LT} (h : MO X b) (hi : i < 128) (hj : j < 128) (hr : ∀ g, g < 7 → AI (b + 29) (7 * i + g) = nI (pw r g)) (hs : ∀ g, g < 7 → AI (b + 29) (7 * j + g) = nI (pw s g)) : G V m_Mod_share d 0 [some (.ref b), some (.int (nI i)), some (.int (nI j)), none, none] [] X FI AI AL (P01 (shr r s) X FI AI AL) := by
  have L1 : shr r s → ∀ k, k ≤ 7 → G V m_Mod_share d 5 [some (.ref b), some (.int (nI i)), some (.int (nI j)), some (.int (nI 1)), some (.int (nI k))] [] X FI AI AL (P01 (shr r s) X FI AI AL) := by
    intro hy
    refine upto ?_ ?_
    · refine G_iload4 7 d_Mod_share_5 rfl ?_
      refine G_bipushN 7 9 d_Mod_share_7 rfl rfl ?_
      first | refine G_icgeN 58 12 d_Mod_share_9 rfl rfl (by omega) (by omega) (fun h9 => ?_) (fun h9 => ?_) | refine G_icge 58 12 d_Mod_share_9 rfl rfl (fun h9 => ?_) (fun h9 => ?_)
      · refine G_iload3 59 d_Mod_share_58 rfl ?_
        refine G_zret d_Mod_share_59 rfl ?_ ?_
        · first | exact Or.inl rfl | exact Or.inr rfl
        · exact P01.t hy
      · omega
    · intro k hk ih
      refine G_iload4 7 d_Mod_share_5 rfl ?_
      refine G_bipushN 7 9 d_Mod_share_7 rfl rfl ?_
      first | refine G_icgeN 58 12 d_Mod_share_9 rfl rfl (by omega) (by omega) (fun h9 => ?_) (fun h9 => ?_) | refine G_icge 58 12 d_Mod_share_9 rfl rfl (fun h9 => ?_) (fun h9 => ?_)
      · omega
      · refine G_iload3 13 d_Mod_share_12 rfl ?_
        refine G_ifne 46 16 d_Mod_share_13 rfl rfl (fun h13 => ?_) (fun h13 => ?_)
        · refine G_iconstN 1 47 d_Mod_share_46 rfl rfl ?_
          refine G_goto 51 d_Mod_share_47 rfl ?_
          refine G_istore3 52 d_Mod_share_51 rfl (by decide) rfl ?_
          first | refine G_iincN4 55 d_Mod_share_52 rfl (by decide) rfl ?_ | refine G_iinc4 _ 55 d_Mod_share_52 rfl (by decide) rfl rfl ?_
          refine G_goto 5 d_Mod_share_55 rfl ?_
          exact ih
        · exact absurd h13 (by decide)
  have L : ∀ k, k ≤ 7 → (∀ g, g < k → ¬ (0 < pw r g ∧ 0 < pw s g)) → G V m_Mod_share d 5 [some (.ref b), some (.int (nI i)), some (.int (nI j)), some (.int (nI 0)), some (.int (nI k))] [] X FI AI AL (P01 (shr r s) X FI AI AL) := by
    refine upto ?_ ?_
    · intro he
      refine G_iload4 7 d_Mod_share_5 rfl ?_
      refine G_bipushN 7 9 d_Mod_share_7 rfl rfl ?_
      first | refine G_icgeN 58 12 d_Mod_share_9 rfl rfl (by omega) (by omega) (fun h9 => ?_) (fun h9 => ?_) | refine G_icge 58 12 d_Mod_share_9 rfl rfl (fun h9 => ?_) (fun h9 => ?_)
      · refine G_iload3 59 d_Mod_share_58 rfl ?_
        refine G_zret d_Mod_share_59 rfl ?_ ?_
        · first | exact Or.inl rfl | exact Or.inr rfl
        · exact P01.f (fun ⟨g, a, e⟩ => he g a e)
      · omega
    · intro k hk ih he
      have p1 := pw_lt r k
      have p2 := pw_lt s k
      have z1 : nI (pw r k) ≤ 0 → ¬ (0 < pw r k ∧ 0 < pw s k) := fun e c => nI_nle c.1 (by omega) e
      have z2 : nI (pw s k) ≤ 0 → ¬ (0 < pw r k ∧ 0 < pw s k) := fun e c => nI_nle c.2 (by omega) e
      have y1 : ¬ nI (pw r k) ≤ 0 → 0 < pw r k := fun e => Nat.pos_of_ne_zero (fun c => e (by rw [c]; decide))
      have y2 : ¬ nI (pw s k) ≤ 0 → 0 < pw s k := fun e => Nat.pos_of_ne_zero (fun c => e (by rw [c]; decide))
      have nx : ¬ (0 < pw r k ∧ 0 < pw s k) → ∀ g, g < k + 1 → ¬ (0 < pw r g ∧ 0 < pw s g) := fun e g hg => by
        by_cases c : g = k
        · rw [c]; exact e
        · exact he g (by omega)
      refine G_iload4 7 d_Mod_share_5 rfl ?_
      refine G_bipushN 7 9 d_Mod_share_7 rfl rfl ?_
      first | refine G_icgeN 58 12 d_Mod_share_9 rfl rfl (by omega) (by omega) (fun h9 => ?_) (fun h9 => ?_) | refine G_icge 58 12 d_Mod_share_9 rfl rfl (fun h9 => ?_) (fun h9 => ?_)
      · omega
      · refine G_iload3 13 d_Mod_share_12 rfl ?_
        refine G_ifne 46 16 d_Mod_share_13 rfl rfl (fun h13 => ?_) (fun h13 => ?_)
        · exact absurd rfl h13
        · refine G_aload0 17 d_Mod_share_16 rfl ?_
          refine G_getR 20 d_Mod_share_17 rfl f_Mod_97 rfl h.sh h.f41 ?_
          refine G_bipushN 7 22 d_Mod_share_20 rfl rfl ?_
          refine G_iload1 23 d_Mod_share_22 rfl ?_
          first | refine G_imulN 24 d_Mod_share_23 rfl ?_ | refine G_imul 24 d_Mod_share_23 rfl ?_
          refine G_iload4 26 d_Mod_share_24 rfl ?_
          first | refine G_iaddN 27 d_Mod_share_26 rfl ?_ | refine G_iadd 27 d_Mod_share_26 rfl ?_
          refine G_ialoadv 28 d_Mod_share_27 rfl h.s41 (ix_nI (by omega) (by omega)) (hr k hk) ?_
          refine G_ifle 50 31 d_Mod_share_28 rfl rfl (fun h28 => ?_) (fun h28 => ?_)
          · refine G_iconstN 0 51 d_Mod_share_50 rfl rfl ?_
            refine G_istore3 52 d_Mod_share_51 rfl (by decide) rfl ?_
            first | refine G_iincN4 55 d_Mod_share_52 rfl (by decide) rfl ?_ | refine G_iinc4 _ 55 d_Mod_share_52 rfl (by decide) rfl rfl ?_
            refine G_goto 5 d_Mod_share_55 rfl ?_
            first | exact ih (nx (z1 h28)) | exact ih (nx (z2 h43)) | exact L1 ⟨k, hk, y1 h28, y2 h43⟩ _ (by omega)
          · refine G_aload0 32 d_Mod_share_31 rfl ?_
            refine G_getR 35 d_Mod_share_32 rfl f_Mod_97 rfl h.sh h.f41 ?_
            refine G_bipushN 7 37 d_Mod_share_35 rfl rfl ?_
            refine G_iload2 38 d_Mod_share_37 rfl ?_
            first | refine G_imulN 39 d_Mod_share_38 rfl ?_ | refine G_imul 39 d_Mod_share_38 rfl ?_
            refine G_iload4 41 d_Mod_share_39 rfl ?_
            first | refine G_iaddN 42 d_Mod_share_41 rfl ?_ | refine G_iadd 42 d_Mod_share_41 rfl ?_
            refine G_ialoadv 43 d_Mod_share_42 rfl h.s41 (ix_nI (by omega) (by omega)) (hs k hk) ?_
            refine G_ifle 50 46 d_Mod_share_43 rfl rfl (fun h43 => ?_) (fun h43 => ?_)
            · refine G_iconstN 0 51 d_Mod_share_50 rfl rfl ?_
              refine G_istore3 52 d_Mod_share_51 rfl (by decide) rfl ?_
              first | refine G_iincN4 55 d_Mod_share_52 rfl (by decide) rfl ?_ | refine G_iinc4 _ 55 d_Mod_share_52 rfl (by decide) rfl rfl ?_
              refine G_goto 5 d_Mod_share_55 rfl ?_
              first | exact ih (nx (z1 h28)) | exact ih (nx (z2 h43)) | exact L1 ⟨k, hk, y1 h28, y2 h43⟩ _ (by omega)
            · refine G_iconstN 1 47 d_Mod_share_46 rfl rfl ?_
              refine G_goto 51 d_Mod_share_47 rfl ?_
              refine G_istore3 52 d_Mod_share_51 rfl (by decide) rfl ?_
              first | refine G_iincN4 55 d_Mod_share_52 rfl (by decide) rfl ?_ | refine G_iinc4 _ 55 d_Mod_share_52 rfl (by decide) rfl rfl ?_
              refine G_goto 5 d_Mod_share_55 rfl ?_
              first | exact ih (nx (z1 h28)) | exact ih (nx (z2 h43)) | exact L1 ⟨k, hk, y1 h28, y2 h43⟩ _ (by omega)
  refine G_iconstN 0 1 d_Mod_share_0 rfl rfl ?_
  refine G_istore3 2 d_Mod_share_1 rfl (by decide) rfl ?_
  refine G_iconstN 0 3 d_Mod_share_2 rfl rfl ?_
  refine G_istore4 5 d_Mod_share_3 rfl (by decide) rfl ?_
  exact L 0 (by omega) (fun g hg => by omega)
theorem sm_u1 {lab : Nat → Nat} {i v : Nat} : ∀ {k : Nat}, i < k → v ≤ lab i → sm (fun j => if j = i then v else lab j) k + (lab i - v) = sm lab k
  | 0, h, _ => absurd h (by omega)
  | k + 1, h, hv => by
    rw [sm, sm]
    by_cases e : i = k
    · subst e
      rw [if_pos rfl, sm_congr (w' := lab) (fun j hj => if_neg (by omega))]
      omega
    · have := sm_u1 (k := k) (by omega) hv
      rw [if_neg (fun c => e c.symm)]
      omega
def rwsG (AJ : FT) (b : Nat) (Rs : List Nat) : Prop := ∀ j r, Rs[j]? = some r → ∀ g, g < 7 → AJ (b + 29) (7 * j + g) = nI (pw r g)
def grpP (X : XT) (FI AI : FT) (AL : LT) (b : Nat) (Rs : List Nat) : PT := fun r X' FI' AI' AL' => r = none ∧ X' = X ∧ AL' = AL ∧ FI' = FI ∧ (∀ c, c ≠ b + 28 → AI' c = AI c) ∧ ∃ lab, lbk Rs lab ∧ LabG Rs lab ∧ ∀ i, i < Rs.length → AI' (b + 28) i = nI (lab i)
theorem grpL {V : GV} {d b : Nat} {y1 y2 : Int32} {Rs : List Nat} {X : XT} {FI AI : FT} {AL : LT} (h : MO X b) (hlen : Rs.length ≤ 128) (hR : rwsG AI b Rs) (hf : FI b 39 = nI Rs.length) :
    ∀ (N : Nat) (lab : Nat → Nat) (AJ : FT) (l4 l5 l6 : Option Value), LabG Rs lab → (∀ i, i < Rs.length → AJ (b + 28) i = nI (lab i)) → (∀ c, c ≠ b + 28 → AJ c = AI c) → sm lab Rs.length = N → ncat l4 = true → ncat l5 = true → G V m_Mod_layGroups (d + 1) 70 [some (.ref b), some (.int y1), some (.int y2), some (.int (nI 1)), l4, l5, l6] [] X FI AJ AL (grpP X FI AI AL b Rs) := by
  intro N
  induction N using Nat.strongRecOn with
  | _ N IH =>
  -- a whole pass
  have Q : ∀ i, i ≤ Rs.length → ∀ (lab : Nat → Nat) (AJ : FT) (m : Nat) (l5 l6 : Option Value), LabG Rs lab → (∀ i, i < Rs.length → AJ (b + 28) i = nI (lab i)) → (∀ c, c ≠ b + 28 → AJ c = AI c) → (m = 0 ∧ sm lab Rs.length = N ∧ (∀ i' j' r s, i' < i → j' < i' → Rs[i']? = some r → Rs[j']? = some s → shr r s → lab i' = lab j')) ∨ (m = 1 ∧ sm lab Rs.length < N) → ncat l5 = true → G V m_Mod_layGroups (d + 1) 79 [some (.ref b), some (.int y1), some (.int y2), some (.int (nI m)), some (.int (nI i)), l5, l6] [] X FI AJ AL (grpP X FI AI AL b Rs) := by
    refine upto ?_ ?_
    · intro lab AJ m l5 l6 hl hA hc hm hn5
      refine G_iload4 81 d_Mod_layGroups_79 rfl ?_
      refine G_aload0 82 d_Mod_layGroups_81 rfl ?_
      refine G_getIv 85 d_Mod_layGroups_82 rfl f_Mod_370 rfl h.sh hf ?_
      first | refine G_icgeN 194 88 d_Mod_layGroups_85 rfl rfl (by omega) (by omega) (fun h85 => ?_) (fun h85 => ?_) | refine G_icge 194 88 d_Mod_layGroups_85 rfl rfl (fun h85 => ?_) (fun h85 => ?_)
      · refine G_goto 70 d_Mod_layGroups_194 rfl ?_
        rcases hm with ⟨rfl, -, hs⟩ | ⟨rfl, hlt⟩
        · refine G_iload3 71 d_Mod_layGroups_70 rfl ?_
          refine G_ifeq 197 74 d_Mod_layGroups_71 rfl rfl (fun h71 => ?_) (fun h71 => ?_)
          · refine G_vret d_Mod_layGroups_197 rfl ?_
            refine ⟨rfl, rfl, rfl, rfl, hc, lab, fun i j r s hi hj hsh => ?_, hl, hA⟩
            have hi' := (List.getElem?_eq_some_iff.mp hi).1
            have hj' := (List.getElem?_eq_some_iff.mp hj).1
            rcases Nat.lt_trichotomy i j with c | c | c
            · exact (hs j i s r hj' c hj hi (shr_symm hsh)).symm
            · rw [c]
            · exact hs i j r s hi' c hi hj hsh
          · exact absurd rfl h71
        · exact IH _ hlt lab AJ _ _ _ hl hA hc rfl rfl hn5
      · omega
    · intro i hi ih lab0 AJ0 m0 l50 l60 hl0 hA0 hc0 hm0 hn50
      obtain ⟨ri, hri⟩ : ∃ r, Rs[i]? = some r := ⟨Rs[i], List.getElem?_eq_getElem hi⟩
      have R : ∀ j, j ≤ i → ∀ (lab : Nat → Nat) (AJ : FT) (m : Nat) (l6 : Option Value), LabG Rs lab → (∀ i, i < Rs.length → AJ (b + 28) i = nI (lab i)) → (∀ c, c ≠ b + 28 → AJ c = AI c) → (m = 0 ∧ sm lab Rs.length = N ∧ (∀ i' j' r s, i' < i → j' < i' → Rs[i']? = some r → Rs[j']? = some s → shr r s → lab i' = lab j') ∧ (∀ j' s, j' < j → Rs[j']? = some s → shr ri s → lab i = lab j')) ∨ (m = 1 ∧ sm lab Rs.length < N) → G V m_Mod_layGroups (d + 1) 91 [some (.ref b), some (.int y1), some (.int y2), some (.int (nI m)), some (.int (nI i)), some (.int (nI j)), l6] [] X FI AJ AL (grpP X FI AI AL b Rs) := by
        refine upto ?_ ?_
        · intro lab AJ m l6 hl hA hc hm
          refine G_iload5 93 d_Mod_layGroups_91 rfl ?_
          refine G_iload4 95 d_Mod_layGroups_93 rfl ?_
          first | refine G_icgeN 188 98 d_Mod_layGroups_95 rfl rfl (by omega) (by omega) (fun h95 => ?_) (fun h95 => ?_) | refine G_icge 188 98 d_Mod_layGroups_95 rfl rfl (fun h95 => ?_) (fun h95 => ?_)
          · first | refine G_iincN4 191 d_Mod_layGroups_188 rfl (by decide) rfl ?_ | refine G_iinc4 _ 191 d_Mod_layGroups_188 rfl (by decide) rfl rfl ?_
            refine G_goto 79 d_Mod_layGroups_191 rfl ?_
            refine ih lab AJ m _ _ hl hA hc ?_ rfl
            rcases hm with ⟨m0, sN, s1, s2⟩ | hm
            · refine Or.inl ⟨m0, sN, fun i' j' r s hi' hj' e1 e2 e3 => ?_⟩
              by_cases c : i' = i
              · subst c
                rw [hri] at e1
                cases e1
                exact s2 j' s hj' e2 e3
              · exact s1 i' j' r s (by omega) hj' e1 e2 e3
            · exact Or.inr hm
          · omega
        · intro j hj ihj lab AJ m l6 hl hA hc hm
          have hjl : j < Rs.length := by omega
          obtain ⟨rj, hrj⟩ : ∃ r, Rs[j]? = some r := ⟨Rs[j], List.getElem?_eq_getElem hjl⟩
          have ai := hA i hi
          have aj := hA j hjl
          have li := (hl i hi).1
          have lj := (hl j hjl).1
          have hsh := s_mShare (V := V) (d := d) (i := i) (j := j) (r := ri) (s := rj) (FI := FI) (AI := AJ) (AL := AL) h (by omega) (by omega) (fun g hg => by rw [hc _ (by omega)]; exact hR i ri hri g hg) (fun g hg => by rw [hc _ (by omega)]; exact hR j rj hrj g hg)
          have same : (m = 0 ∧ sm lab Rs.length = N ∧ (∀ i' j' r s, i' < i → j' < i' → Rs[i']? = some r → Rs[j']? = some s → shr r s → lab i' = lab j') ∧ (∀ j' s, j' < j → Rs[j']? = some s → shr ri s → lab i = lab j')) ∨ (m = 1 ∧ sm lab Rs.length < N) → (shr ri rj → lab i = lab j) → (m = 0 ∧ sm lab Rs.length = N ∧ (∀ i' j' r s, i' < i → j' < i' → Rs[i']? = some r → Rs[j']? = some s → shr r s → lab i' = lab j') ∧ (∀ j' s, j' < j + 1 → Rs[j']? = some s → shr ri s → lab i = lab j')) ∨ (m = 1 ∧ sm lab Rs.length < N) := by
            rintro (⟨m0, sN, s1, s2⟩ | hm) hq
            · refine Or.inl ⟨m0, sN, s1, fun j' s hj' e2 e3 => ?_⟩
              by_cases c : j' = j
              · subst c
                rw [hrj] at e2
                cases e2
                exact hq e3
              · exact s2 j' s (by omega) e2 e3
            · exact Or.inr hm
          have hle : sm lab Rs.length ≤ N := by rcases hm with ⟨-, e, -⟩ | ⟨-, e⟩ <;> omega
          -- two labels become the lesser one
          have both : ∀ v, (v = lab i ∨ v = lab j) → v ≤ lab i → v ≤ lab j → lab i ≠ lab j → shr ri rj → ∀ l6' : Option Value, G V m_Mod_layGroups (d + 1) 91 [some (.ref b), some (.int y1), some (.int y2), some (.int (nI 1)), some (.int (nI i)), some (.int (nI (j + 1))), l6'] [] X FI (u2 (u2 AJ (b + 28) i (nI v)) (b + 28) j (nI v)) AL (grpP X FI AI AL b Rs) := by
            intro v hv v1 v2 hne hshr l6'
            have cij : Conn Rs i j := Conn.sh hri hrj hshr
            have cv : Conn Rs i v := by
              rcases hv with rfl | rfl
              · exact (hl i hi).2
              · exact cij.tr (hl j hjl).2
            refine ihj (fun q => if q = j then v else (if q = i then v else lab q)) _ 1 _ (fun q hq => ?_) (fun q hq => ?_) (fun c hcc => by rw [u2_off _ _ _ hcc, u2_off _ _ _ hcc]; exact hc c hcc) (Or.inr ⟨rfl, ?_⟩)
            · show (if q = j then v else (if q = i then v else lab q)) ≤ q ∧ Conn Rs q (if q = j then v else (if q = i then v else lab q))
              by_cases c1 : q = j
              · rw [if_pos c1, c1]; exact ⟨by omega, cij.sy.tr cv⟩
              · rw [if_neg c1]
                by_cases c2 : q = i
                · rw [if_pos c2, c2]; exact ⟨by omega, cv⟩
                · rw [if_neg c2]; exact hl q hq
            · show _ = nI (if q = j then v else (if q = i then v else lab q))
              by_cases c1 : q = j
              · rw [if_pos c1, c1, u2_at]
              · rw [if_neg c1, u2_ix _ _ c1]
                by_cases c2 : q = i
                · rw [if_pos c2, c2, u2_at]
                · rw [if_neg c2, u2_ix _ _ c2]; exact hA q hq
            · have e1 := sm_u1 (lab := lab) (i := i) (v := v) (k := Rs.length) hi v1
              have e2 := sm_u1 (lab := fun q => if q = i then v else lab q) (i := j) (v := v) (k := Rs.length) hjl (by show v ≤ if j = i then v else lab j; rw [if_neg (by omega)]; exact v2)
              have e3 : (if j = i then v else lab j) = lab j := if_neg (by omega)
              simp only [e3] at e2
              have : v < lab i ∨ v < lab j := by rcases hv with rfl | rfl <;> omega
              omega
          refine G_iload5 93 d_Mod_layGroups_91 rfl ?_
          refine G_iload4 95 d_Mod_layGroups_93 rfl ?_
          first | refine G_icgeN 188 98 d_Mod_layGroups_95 rfl rfl (by omega) (by omega) (fun h95 => ?_) (fun h95 => ?_) | refine G_icge 188 98 d_Mod_layGroups_95 rfl rfl (fun h95 => ?_) (fun h95 => ?_)
          · omega
          · refine G_aload0 99 d_Mod_layGroups_98 rfl ?_
            refine G_getR 102 d_Mod_layGroups_99 rfl f_Mod_94 rfl h.sh h.f40 ?_
            refine G_iload4 104 d_Mod_layGroups_102 rfl ?_
            refine G_ialoadv 105 d_Mod_layGroups_104 rfl h.s40 (ix_nI (by omega) (by omega)) ai ?_
            refine G_aload0 106 d_Mod_layGroups_105 rfl ?_
            refine G_getR 109 d_Mod_layGroups_106 rfl f_Mod_94 rfl h.sh h.f40 ?_
            refine G_iload5 111 d_Mod_layGroups_109 rfl ?_
            refine G_ialoadv 112 d_Mod_layGroups_111 rfl h.s40 (ix_nI (by omega) (by omega)) aj ?_
            first | refine G_iceqN 182 115 d_Mod_layGroups_112 rfl rfl (by omega) (by omega) (fun h112 => ?_) (fun h112 => ?_) | refine G_iceq 182 115 d_Mod_layGroups_112 rfl rfl (fun h112 => ?_) (fun h112 => ?_)
            · first | refine G_iincN5 185 d_Mod_layGroups_182 rfl (by decide) rfl ?_ | refine G_iinc5 _ 185 d_Mod_layGroups_182 rfl (by decide) rfl rfl ?_
              refine G_goto 91 d_Mod_layGroups_185 rfl ?_
              exact ihj lab AJ m _ hl hA hc (same hm (fun _ => h112))
            · refine G_aload0 116 d_Mod_layGroups_115 rfl ?_
              refine G_iload4 118 d_Mod_layGroups_116 rfl ?_
              refine G_iload5 120 d_Mod_layGroups_118 rfl ?_
              refine G_invV2b 123 d_Mod_layGroups_120 rfl e_Mod_373 M_Mod_share rfl h.sh (Nat.le_of_ble_eq_true rfl) (Nat.le_of_ble_eq_true rfl) rfl (hsh) (fun h120 => G_ifeq1 126 d_Mod_layGroups_123 182 rfl rfl ?_) (fun h120 => G_ifeq0 126 d_Mod_layGroups_123 182 rfl rfl ?_)
              · refine G_aload0 127 d_Mod_layGroups_126 rfl ?_
                refine G_getR 130 d_Mod_layGroups_127 rfl f_Mod_94 rfl h.sh h.f40 ?_
                refine G_iload4 132 d_Mod_layGroups_130 rfl ?_
                refine G_ialoadv 133 d_Mod_layGroups_132 rfl h.s40 (ix_nI (by omega) (by omega)) ai ?_
                refine G_aload0 134 d_Mod_layGroups_133 rfl ?_
                refine G_getR 137 d_Mod_layGroups_134 rfl f_Mod_94 rfl h.sh h.f40 ?_
                refine G_iload5 139 d_Mod_layGroups_137 rfl ?_
                refine G_ialoadv 140 d_Mod_layGroups_139 rfl h.s40 (ix_nI (by omega) (by omega)) aj ?_
                first | refine G_icgeN 153 143 d_Mod_layGroups_140 rfl rfl (by omega) (by omega) (fun h140 => ?_) (fun h140 => ?_) | refine G_icge 153 143 d_Mod_layGroups_140 rfl rfl (fun h140 => ?_) (fun h140 => ?_)
                · refine G_aload0 154 d_Mod_layGroups_153 rfl ?_
                  refine G_getR 157 d_Mod_layGroups_154 rfl f_Mod_94 rfl h.sh h.f40 ?_
                  refine G_iload5 159 d_Mod_layGroups_157 rfl ?_
                  refine G_ialoadv 160 d_Mod_layGroups_159 rfl h.s40 (ix_nI (by omega) (by omega)) aj ?_
                  refine G_istore6 162 d_Mod_layGroups_160 rfl (by decide) rfl ?_
                  refine G_aload0 163 d_Mod_layGroups_162 rfl ?_
                  refine G_getR 166 d_Mod_layGroups_163 rfl f_Mod_94 rfl h.sh h.f40 ?_
                  refine G_iload4 168 d_Mod_layGroups_166 rfl ?_
                  refine G_iload6 170 d_Mod_layGroups_168 rfl ?_
                  refine G_iastore 171 d_Mod_layGroups_170 rfl h.s40 (ix_nI (by omega) (by omega)) ?_
                  refine G_aload0 172 d_Mod_layGroups_171 rfl ?_
                  refine G_getR 175 d_Mod_layGroups_172 rfl f_Mod_94 rfl h.sh h.f40 ?_
                  refine G_iload5 177 d_Mod_layGroups_175 rfl ?_
                  refine G_iload6 179 d_Mod_layGroups_177 rfl ?_
                  refine G_iastore 180 d_Mod_layGroups_179 rfl h.s40 (ix_nI (by omega) (by omega)) ?_
                  refine G_iconstN 1 181 d_Mod_layGroups_180 rfl rfl ?_
                  refine G_istore3 182 d_Mod_layGroups_181 rfl (by decide) rfl ?_
                  first | refine G_iincN5 185 d_Mod_layGroups_182 rfl (by decide) rfl ?_ | refine G_iinc5 _ 185 d_Mod_layGroups_182 rfl (by decide) rfl rfl ?_
                  refine G_goto 91 d_Mod_layGroups_185 rfl ?_
                  exact both (lab j) (Or.inr rfl) (by omega) (by omega) h112 h120 _
                · refine G_aload0 144 d_Mod_layGroups_143 rfl ?_
                  refine G_getR 147 d_Mod_layGroups_144 rfl f_Mod_94 rfl h.sh h.f40 ?_
                  refine G_iload4 149 d_Mod_layGroups_147 rfl ?_
                  refine G_ialoadv 150 d_Mod_layGroups_149 rfl h.s40 (ix_nI (by omega) (by omega)) ai ?_
                  refine G_goto 160 d_Mod_layGroups_150 rfl ?_
                  refine G_istore6 162 d_Mod_layGroups_160 rfl (by decide) rfl ?_
                  refine G_aload0 163 d_Mod_layGroups_162 rfl ?_
                  refine G_getR 166 d_Mod_layGroups_163 rfl f_Mod_94 rfl h.sh h.f40 ?_
                  refine G_iload4 168 d_Mod_layGroups_166 rfl ?_
                  refine G_iload6 170 d_Mod_layGroups_168 rfl ?_
                  refine G_iastore 171 d_Mod_layGroups_170 rfl h.s40 (ix_nI (by omega) (by omega)) ?_
                  refine G_aload0 172 d_Mod_layGroups_171 rfl ?_
                  refine G_getR 175 d_Mod_layGroups_172 rfl f_Mod_94 rfl h.sh h.f40 ?_
                  refine G_iload5 177 d_Mod_layGroups_175 rfl ?_
                  refine G_iload6 179 d_Mod_layGroups_177 rfl ?_
                  refine G_iastore 180 d_Mod_layGroups_179 rfl h.s40 (ix_nI (by omega) (by omega)) ?_
                  refine G_iconstN 1 181 d_Mod_layGroups_180 rfl rfl ?_
                  refine G_istore3 182 d_Mod_layGroups_181 rfl (by decide) rfl ?_
                  first | refine G_iincN5 185 d_Mod_layGroups_182 rfl (by decide) rfl ?_ | refine G_iinc5 _ 185 d_Mod_layGroups_182 rfl (by decide) rfl rfl ?_
                  refine G_goto 91 d_Mod_layGroups_185 rfl ?_
                  exact both (lab i) (Or.inl rfl) (by omega) (by omega) h112 h120 _
              · first | refine G_iincN5 185 d_Mod_layGroups_182 rfl (by decide) rfl ?_ | refine G_iinc5 _ 185 d_Mod_layGroups_182 rfl (by decide) rfl rfl ?_
                refine G_goto 91 d_Mod_layGroups_185 rfl ?_
                exact ihj lab AJ m _ hl hA hc (same hm (fun e => absurd e h120))
      refine G_iload4 81 d_Mod_layGroups_79 rfl ?_
      refine G_aload0 82 d_Mod_layGroups_81 rfl ?_
      refine G_getIv 85 d_Mod_layGroups_82 rfl f_Mod_370 rfl h.sh hf ?_
      first | refine G_icgeN 194 88 d_Mod_layGroups_85 rfl rfl (by omega) (by omega) (fun h85 => ?_) (fun h85 => ?_) | refine G_icge 194 88 d_Mod_layGroups_85 rfl rfl (fun h85 => ?_) (fun h85 => ?_)
      · omega
      · refine G_iconstN 0 89 d_Mod_layGroups_88 rfl rfl ?_
        refine G_istore5 91 d_Mod_layGroups_89 rfl (by decide) rfl ?_
        refine R 0 (Nat.zero_le _) lab0 AJ0 m0 _ hl0 hA0 hc0 ?_
        rcases hm0 with ⟨m0, sN, s1⟩ | hm
        · exact Or.inl ⟨m0, sN, s1, fun j' s hj' => absurd hj' (by omega)⟩
        · exact Or.inr hm
  intro lab AJ l4 l5 l6 hl hA hc hN hn4 hn5
  refine G_iload3 71 d_Mod_layGroups_70 rfl ?_
  refine G_ifeq 197 74 d_Mod_layGroups_71 rfl rfl (fun h71 => ?_) (fun h71 => ?_)
  · exact absurd h71 (by decide)
  · refine G_iconstN 0 75 d_Mod_layGroups_74 rfl rfl ?_
    refine G_istore3 76 d_Mod_layGroups_75 rfl (by decide) rfl ?_
    refine G_iconstN 0 77 d_Mod_layGroups_76 rfl rfl ?_
    refine G_istore4 79 d_Mod_layGroups_77 rfl (by decide) rfl ?_
    exact Q 0 (Nat.zero_le _) lab AJ 0 _ _ hl hA hc (Or.inl ⟨rfl, hN, fun i' j' r s hi' => absurd hi' (by omega)⟩) hn5
