/-! ===== the reference settles a RELATION ===== -/
def PRT (AJ : FT) (BJ : LT) (b n : Nat) (e : Int64) (l r : Nat) (st : List (Int64 × Nat)) (m : Nat) : Prop := ∀ p, p < m → BJ (b + 11) (86 * n + p) = pcf e st p ∧ ∀ f, f < 7 → AJ (b + 12) (7 * (86 * n + p) + f) = nI (pw (prf l r st p) f)
theorem PRT.s {AJ : FT} {BJ : LT} {b n c row : Nat} {e v : Int64} {l r : Nat} {st : List (Int64 × Nat)} {m : Nat} (h : PRT AJ BJ b n e l r st m) (hv : v = pcf e st m) (hr : ∀ f, f < 7 → AJ c (7 * row + f) = nI (pw (prf l r st m) f)) : PRT (sr AJ (b + 12) (fun j => if 7 * (86 * n + m) ≤ j ∧ j < 7 * (86 * n + m) + 7 then AJ c (7 * row + (j - 7 * (86 * n + m))) else AJ (b + 12) j)) (u2 BJ (b + 11) (86 * n + m) v) b n e l r st (m + 1) := by
  intro p hp
  by_cases c1 : p = m
  · subst c1
    refine ⟨by rw [u2_at]; exact hv, fun f hf => ?_⟩
    rw [sr_at, if_pos (by omega), show 7 * (86 * n + p) + f - 7 * (86 * n + p) = f by omega]
    exact hr f hf
  · obtain ⟨a, b'⟩ := h p (by omega)
    exact ⟨by rw [u2_ix _ _ (by omega)]; exact a, fun f hf => by rw [sr_at, if_neg (by omega)]; exact b' f hf⟩
/-- outside the new GENERATOR's PARTS nothing changes -/
def PRF (AJ AJ' : FT) (BJ BJ' : LT) (b n : Nat) : Prop := (∀ c, c ≠ b + 12 → AJ' c = AJ c) ∧ (∀ j, j < 7 * (86 * n) → AJ' (b + 12) j = AJ (b + 12) j) ∧ (∀ c, c ≠ b + 11 → BJ' c = BJ c) ∧ ∀ j, j < 86 * n → BJ' (b + 11) j = BJ (b + 11) j
theorem PRF.rf {AJ : FT} {BJ : LT} {b n : Nat} : PRF AJ AJ BJ BJ b n := ⟨fun _ _ => rfl, fun _ _ => rfl, fun _ _ => rfl, fun _ _ => rfl⟩
theorem PRF.s {AJ AJ' : FT} {BJ BJ' : LT} {b n m : Nat} {g : Nat → Int32} {v : Int64} (h : PRF AJ AJ' BJ BJ' b n) (hg : ∀ j, j < 7 * (86 * n) → g j = AJ' (b + 12) j) : PRF AJ (sr AJ' (b + 12) g) BJ (u2 BJ' (b + 11) (86 * n + m) v) b n :=
  ⟨fun c hc => by rw [sr_ne _ _ hc]; exact h.1 c hc, fun j hj => by rw [sr_at, hg j hj]; exact h.2.1 j hj, fun c hc => by rw [u2_off _ _ _ hc]; exact h.2.2.1 c hc, fun j hj => by rw [u2_ix _ _ (by omega)]; exact h.2.2.2 j hj⟩
theorem labs1 {e : Int64} (h : labs e = 1) : e = 1 ∨ e = -1 := by
  unfold labs at h
  split at h
  · right; rw [← h, Int64.neg_neg]
  · left; exact h
def gbP (X : XT) (FI AI : FT) (AL : LT) (b o : Nat) (w : Option Nat × GT) : PT := fun r X' FI' AI' AL' => X' = X ∧ gbF FI FI' AI AI' AL AL' b ∧ MGs FI' AI' AL' b o w.2 ∧ match w.1 with
  | none => r = some (.int (-1))
  | some e => r = some (.int (nI e))
theorem s_mGrowBy {V : GV} {d b o : Nat} {S : GT} {q : Nat × Nat} {X : XT} {FI AI : FT} {AL : LT} (h : MO X b) (hW : WG o S) (hG : MGs FI AI AL b o S) (h1 : WRw AI b 0 q.1) (h2 : WRw AI b 1 q.2) (hl : rdeg (gL S) q.1 (gN S) ≤ 6) (hr : rdeg (gL S) q.2 (gN S) ≤ 6) :
    G V m_Mod_growBy (d + 6) 0 [some (.ref b), none, none, none, none] [] X FI AI AL (gbP X FI AI AL b o (stl o S q)) := by
  have hn7 := hW.1
  have ho := hG.2.2.1
  have hdf := s_mDifference (V := V) (d := d + 1) (w := 0) (v := 1) h (hG.gn hW) (by omega) (by omega) h1 h2 hl hr
  unfold stl
  refine G_aload0 1 d_Mod_growBy_0 rfl ?_
  refine G_iconstN 0 2 d_Mod_growBy_1 rfl rfl ?_
  refine G_iconstN 1 3 d_Mod_growBy_2 rfl rfl ?_
  refine G_invV2 6 d_Mod_growBy_3 rfl e_Mod_391 M_Mod_layDifference rfl h.sh (Nat.le_of_ble_eq_true rfl) (Nat.le_of_ble_eq_true rfl) rfl (G.conseq (hdf) (fun r3 X3 FI3 AI3 AL3 h3 => ?_))
  obtain ⟨x1, x2, x3, x4, x5⟩ := h3
  replace x1 := x1.symm
  replace x2 := x2.symm
  replace x3 := x3.symm
  subst x1 x2 x3
  have hG1 := hG.df hn7 x4
  cases hd : difP (gN S) (gP S) q.1 q.2 with
  | none =>
    rw [hd] at x5
    subst x5
    refine G_ifeq 16 9 d_Mod_growBy_6 rfl rfl (fun h6 => ?_) (fun h6 => ?_)
    · refine G_iconstN 3 17 d_Mod_growBy_16 rfl rfl ?_
      refine G_iret d_Mod_growBy_17 rfl ?_
      exact ⟨rfl, gbF.df x4, hG1, rfl⟩
    · exact absurd rfl h6
  | some f =>
    rw [hd] at x5
    obtain ⟨rfl, m18⟩ := x5
    dsimp only
    have hap := s_mTakeApart (V := V) (d := d) h (hG1.gn hW)
    rw [m18] at hap
    refine G_ifeq 16 9 d_Mod_growBy_6 rfl rfl (fun h6 => ?_) (fun h6 => ?_)
    · exact absurd h6 (by decide)
    · refine G_aload0 10 d_Mod_growBy_9 rfl ?_
      refine G_invV0 13 d_Mod_growBy_10 rfl e_Mod_344 M_Mod_takeApart rfl h.sh (Nat.le_of_ble_eq_true rfl) (Nat.le_of_ble_eq_true rfl) rfl (G.conseq (hap) (fun r10 X10 FI10 AI10 AL10 h10 => ?_))
      obtain ⟨y1, y2, y3⟩ := h10
      replace y1 := y1.symm
      subst y1
      have hG2 := hG1.ap hn7 y2
      have hF2 := (gbF.df (FI := FI) (AI := AI) x4).tr (gbF.ap y2)
      cases ha : apt o (gN S) (leadL (gL S) (gN S)) (gP S) 84 f [] with
      | none =>
        rw [ha] at y3
        subst y3
        refine G_ifne 18 16 d_Mod_growBy_13 rfl rfl (fun h13 => ?_) (fun h13 => ?_)
        · exact absurd rfl h13
        · refine G_iconstN 3 17 d_Mod_growBy_16 rfl rfl ?_
          refine G_iret d_Mod_growBy_17 rfl ?_
          exact ⟨rfl, hF2, hG2, rfl⟩
      | some w =>
        rw [ha] at y3
        dsimp only
        obtain ⟨rfl, s20, sts, w18, wl⟩ := y3
        have hrk2 := hG2.2.2.2.1
        have hls := pld_le w.1 ho 84 (Nat.le_refl _)
        have hld := s_mLeading (V := V) (d := d + 5) (p := 18) (FI := FI10) (AL := AL10) h (by omega) ho hrk2
        rw [w18] at hld
        refine G_ifne 18 16 d_Mod_growBy_13 rfl rfl (fun h13 => ?_) (fun h13 => ?_)
        · refine G_aload0 19 d_Mod_growBy_18 rfl ?_
          refine G_bipushN 18 21 d_Mod_growBy_19 rfl rfl ?_
          refine G_invV1d 24 d_Mod_growBy_21 rfl e_Mod_239 M_Mod_leading rfl h.sh (Nat.le_of_ble_eq_true rfl) (Nat.le_of_ble_eq_true rfl) rfl (hld) ?_
          refine G_istore1 25 d_Mod_growBy_24 rfl (by decide) rfl ?_
          rcases Nat.eq_zero_or_pos (lead1 w.1 o) with z | z
          · simp only [z, if_true]
            refine G_iload1 26 d_Mod_growBy_25 rfl ?_
            refine G_ifge 31 29 d_Mod_growBy_26 rfl rfl (fun h26 => ?_) (fun h26 => ?_)
            · exact absurd h26 (by decide)
            · refine G_iconst (-1) 30 d_Mod_growBy_29 rfl rfl ?_
              refine G_iret d_Mod_growBy_30 rfl ?_
              exact ⟨rfl, hF2, hG2, rfl⟩
          · obtain ⟨t, ht⟩ : ∃ t, lead1 w.1 o = t + 1 := ⟨lead1 w.1 o - 1, by omega⟩
            obtain ⟨t84, -, -⟩ := lead_ok ho ht
            simp only [ht, Nat.add_sub_cancel, if_neg (Nat.succ_ne_zero t)]
            rw [dI_s]
            have e0 : AL10 (b + 1) (1512 + t) = w.1 t := by rw [← w18, mp_at t84]
            have fn := hG2.2.1
            refine G_iload1 26 d_Mod_growBy_25 rfl ?_
            refine G_ifge 31 29 d_Mod_growBy_26 rfl rfl (fun h26 => ?_) (fun h26 => ?_)
            · refine G_aload0 32 d_Mod_growBy_31 rfl ?_
              refine G_getR 35 d_Mod_growBy_32 rfl f_Mod_9 rfl h.sh h.f0 ?_
              refine G_sipushN 1512 38 d_Mod_growBy_35 rfl rfl ?_
              refine G_iload1 39 d_Mod_growBy_38 rfl ?_
              first | refine G_iaddN 40 d_Mod_growBy_39 rfl ?_ | refine G_iadd 40 d_Mod_growBy_39 rfl ?_
              refine G_laloadv 41 d_Mod_growBy_40 rfl h.s0 (ix_nI (by omega) (by omega)) e0 ?_
              refine G_lstore2 42 d_Mod_growBy_41 rfl (by decide) rfl ?_
              refine G_lload2 43 d_Mod_growBy_42 rfl ?_
              refine G_invS1d 46 d_Mod_growBy_43 rfl e_Mod_158 M_Mod_size (Nat.le_of_ble_eq_true rfl) (Nat.le_of_ble_eq_true rfl) rfl (s_mSize) ?_
              refine G_lconst 1 47 d_Mod_growBy_46 rfl rfl ?_
              refine G_lceq 53 51 d_Mod_growBy_47 d_Mod_growBy_48 rfl rfl (fun h47 => ?_) (fun h47 => ?_)
              · -- it is 1 or -1
                have e1 : labs (w.1 t) = 1 := h47
                simp only [e1, not_true, if_false]
                refine G_aload0 54 d_Mod_growBy_53 rfl ?_
                refine G_getIv 57 d_Mod_growBy_54 rfl f_Mod_133 rfl h.sh fn ?_
                refine G_bipushN 7 59 d_Mod_growBy_57 rfl rfl ?_
                first | refine G_icneN 64 62 d_Mod_growBy_59 rfl rfl (by omega) (by omega) (fun h59 => ?_) (fun h59 => ?_) | refine G_icne 64 62 d_Mod_growBy_59 rfl rfl (fun h59 => ?_) (fun h59 => ?_)
                · have hn6 : gN S < 7 := by omega
                  have e2 : ¬ gN S = 7 := h59
                  simp only [if_neg e2]
                  -- the new GENERATOR
                  have st2 : STs AI10 AL10 (b + 16) (b + 17) w.2 := sts
                  refine G_aload0 65 d_Mod_growBy_64 rfl ?_
                  refine G_bipushN 6 67 d_Mod_growBy_65 rfl rfl ?_
                  refine G_aload0 68 d_Mod_growBy_67 rfl ?_
                  refine G_getIv 71 d_Mod_growBy_68 rfl f_Mod_133 rfl h.sh fn ?_
                  first | refine G_iaddN 72 d_Mod_growBy_71 rfl ?_ | refine G_iadd 72 d_Mod_growBy_71 rfl ?_
                  refine G_invV1v 75 d_Mod_growBy_72 rfl e_Mod_162 M_Mod_clearAt rfl h.sh (Nat.le_of_ble_eq_true rfl) (Nat.le_of_ble_eq_true rfl) rfl (s_mClear (by assumption) (by omega)) ?_
                  refine G_aload0 76 d_Mod_growBy_75 rfl ?_
                  refine G_bipushN 6 78 d_Mod_growBy_76 rfl rfl ?_
                  refine G_aload0 79 d_Mod_growBy_78 rfl ?_
                  refine G_getIv 82 d_Mod_growBy_79 rfl f_Mod_133 rfl h.sh fn ?_
                  first | refine G_iaddN 83 d_Mod_growBy_82 rfl ?_ | refine G_iadd 83 d_Mod_growBy_82 rfl ?_
                  refine G_bipushN 18 85 d_Mod_growBy_83 rfl rfl ?_
                  refine G_lload2 86 d_Mod_growBy_85 rfl ?_
                  refine G_invV3v 89 d_Mod_growBy_86 rfl e_Mod_212 M_Mod_addTo rfl h.sh (Nat.le_of_ble_eq_true rfl) (Nat.le_of_ble_eq_true rfl) rfl (s_mAdd (by assumption) (by omega) (by omega)) ?_
                  refine G_aload0 90 d_Mod_growBy_89 rfl ?_
                  refine G_getR 93 d_Mod_growBy_90 rfl f_Mod_37 rfl h.sh h.f10 ?_
                  refine G_aload0 94 d_Mod_growBy_93 rfl ?_
                  refine G_getIv 97 d_Mod_growBy_94 rfl f_Mod_133 rfl h.sh fn ?_
                  refine G_iload1 98 d_Mod_growBy_97 rfl ?_
                  refine G_iastore 99 d_Mod_growBy_98 rfl h.s10 (ix_nI (by omega) (by omega)) ?_
                  generalize hB1 : sp (sp AL10 b (6 + gN S) (fun _ => 0)) b (6 + gN S) (fun j => mp (sp AL10 b (6 + gN S) (fun _ => 0)) b (6 + gN S) j + w.1 t * mp (sp AL10 b (6 + gN S) (fun _ => 0)) b 18 j) = B1
                  generalize hA1 : u2 AI10 (b + 9) (gN S) (nI t) = A1
                  have b1o : ∀ c, c ≠ b + 1 → B1 c = AL10 c := fun c hc => by rw [← hB1, sp_off hc, sp_off hc]
                  have b1p : ∀ p, p ≠ 6 + gN S → mp B1 b p = mp AL10 b p := fun p hp => by rw [← hB1, mp_spn hp, mp_spn hp]
                  have b1n : mp B1 b (6 + gN S) = fun j => w.1 t * w.1 j := by
                    rw [← hB1, mp_sp, mp_sp, mp_spn (by omega), w18]
                    have hw0 : cu w.1 = w.1 := by rw [← w18]; exact mp_cu _ _ _
                    funext j
                    show (if j < 84 then (if j < 84 then (0 : Int64) else 0) + w.1 t * w.1 j else 0) = w.1 t * w.1 j
                    by_cases c : j < 84
                    · rw [if_pos c, if_pos c, Int64.zero_add]
                    · rw [if_neg c, ← hw0]
                      unfold cu
                      rw [if_neg c, Int64.mul_zero]
                  have a1o : ∀ c, c ≠ b + 9 → A1 c = AI10 c := fun c hc => by rw [← hA1]; exact u2_off _ _ _ hc
                  have w27 : ∀ c j, (c = 0 ∨ c = 1) → j < 7 → A1 (b + 27) (7 * c + j) = AI (b + 27) (7 * c + j) := fun c j hc hj => by
                    rw [a1o _ (by omega)]; exact y2.2.2.1 _ (by omega)
                  have p0 := s_mLayPart (V := V) (d := d + 5) (c := b + 27) (len := 35) (i := 0) (row := 0) (v := w.1 t) (AI := A1) (AL := B1) h fn hn6 (by omega) h.s36 (by omega) (by omega) (by omega)
                  have q0 := (show PRT A1 B1 b (gN S) (w.1 t) q.1 q.2 w.2 0 from fun p hp => by omega).s (c := b + 27) (row := 0) (v := w.1 t) rfl (fun f hf => by rw [w27 0 f (Or.inl rfl) hf]; exact h1 f hf)
                  have r0 := (PRF.rf (AJ := A1) (BJ := B1) (b := b) (n := gN S)).s (m := 0) (v := w.1 t) (g := fun j => if 7 * (86 * gN S + 0) ≤ j ∧ j < 7 * (86 * gN S + 0) + 7 then A1 (b + 27) (7 * 0 + (j - 7 * (86 * gN S + 0))) else A1 (b + 12) j) (fun j hj => if_neg (by omega))
                  generalize hA2 : sr A1 (b + 12) (fun j => if 7 * (86 * gN S + 0) ≤ j ∧ j < 7 * (86 * gN S + 0) + 7 then A1 (b + 27) (7 * 0 + (j - 7 * (86 * gN S + 0))) else A1 (b + 12) j) = A2 at p0 q0 r0
                  generalize hB2 : u2 B1 (b + 11) (86 * gN S + 0) (w.1 t) = B2 at p0 q0 r0
                  have p1 := s_mLayPart (V := V) (d := d + 5) (c := b + 27) (len := 35) (i := 1) (row := 1) (v := -w.1 t) (AI := A2) (AL := B2) h fn hn6 (by omega) h.s36 (by omega) (by omega) (by omega)
                  have q1 := q0.s (c := b + 27) (row := 1) (v := -w.1 t) rfl (fun f hf => by rw [r0.1 _ (by omega), w27 1 f (Or.inr rfl) hf]; exact h2 f hf)
                  have r1 := r0.s (m := 0 + 1) (v := -w.1 t) (g := fun j => if 7 * (86 * gN S + (0 + 1)) ≤ j ∧ j < 7 * (86 * gN S + (0 + 1)) + 7 then A2 (b + 27) (7 * 1 + (j - 7 * (86 * gN S + (0 + 1)))) else A2 (b + 12) j) (fun j hj => if_neg (by omega))
                  rw [Nat.zero_add] at q1 r1
                  generalize hA3 : sr A2 (b + 12) (fun j => if 7 * (86 * gN S + 1) ≤ j ∧ j < 7 * (86 * gN S + 1) + 7 then A2 (b + 27) (7 * 1 + (j - 7 * (86 * gN S + 1))) else A2 (b + 12) j) = A3 at p1 q1 r1
                  generalize hB3 : u2 B2 (b + 11) (86 * gN S + 1) (-w.1 t) = B3 at p1 q1 r1
                  have L : ∀ i, i ≤ w.2.length → ∀ (AK : FT) (BK : LT), PRT AK BK b (gN S) (w.1 t) q.1 q.2 w.2 (i + 2) → PRF A1 AK B1 BK b (gN S) → G V m_Mod_growBy (d + 6) 125 [some (.ref b), some (.int (nI t)), some (.long (w.1 t)), none, some (.int (nI i))] [] X FI10 AK BK (gbP X FI AI AL b o (none, appG S t (w.1 t) w.1 q.1 q.2 w.2)) := by
                    refine upto ?_ ?_
                    · intro AK BK hP hQ
                      refine G_iload4 127 d_Mod_growBy_125 rfl ?_
                      refine G_aload0 128 d_Mod_growBy_127 rfl ?_
                      refine G_getIv 131 d_Mod_growBy_128 rfl f_Mod_327 rfl h.sh s20 ?_
                      first | refine G_icgeN 164 134 d_Mod_growBy_131 rfl rfl (by omega) (by omega) (fun h131 => ?_) (fun h131 => ?_) | refine G_icge 164 134 d_Mod_growBy_131 rfl rfl (fun h131 => ?_) (fun h131 => ?_)
                      · refine G_aload0 165 d_Mod_growBy_164 rfl ?_
                        refine G_getR 168 d_Mod_growBy_165 rfl f_Mod_40 rfl h.sh h.f11 ?_
                        refine G_aload0 169 d_Mod_growBy_168 rfl ?_
                        refine G_getIv 172 d_Mod_growBy_169 rfl f_Mod_133 rfl h.sh fn ?_
                        refine G_iconstN 2 173 d_Mod_growBy_172 rfl rfl ?_
                        refine G_aload0 174 d_Mod_growBy_173 rfl ?_
                        refine G_getIv 177 d_Mod_growBy_174 rfl f_Mod_327 rfl h.sh s20 ?_
                        first | refine G_iaddN 178 d_Mod_growBy_177 rfl ?_ | refine G_iadd 178 d_Mod_growBy_177 rfl ?_
                        refine G_iastore 179 d_Mod_growBy_178 rfl h.s11 (ix_nI (by omega) (by omega)) ?_
                        refine G_aload0 180 d_Mod_growBy_179 rfl ?_
                        refine G_dup 181 d_Mod_growBy_180 rfl rfl ?_
                        refine G_getIv 184 d_Mod_growBy_181 rfl f_Mod_133 rfl h.sh fn ?_
                        refine G_iconstN 1 185 d_Mod_growBy_184 rfl rfl ?_
                        first | refine G_iaddN 186 d_Mod_growBy_185 rfl ?_ | refine G_iadd 186 d_Mod_growBy_185 rfl ?_
                        refine G_putI 189 d_Mod_growBy_186 rfl f_Mod_133 rfl (by intro C T N h; cases h; rfl) h.sh rfl rfl ?_
                        refine G_iconst (-1) 190 d_Mod_growBy_189 rfl rfl ?_
                        refine G_iret d_Mod_growBy_190 rfl ?_
                        refine ⟨rfl, hF2.tr ⟨fun c j hc => ?_, fun c hc => ?_, fun c a1 a2 a3 => ?_, fun p a1 a2 => ?_⟩, ⟨⟨fun s hs => ?_, fun x y z hs => ?_⟩, u2_at _ _ _ _, ho, fun k hk => ?_, fun g hg => ?_⟩, rfl⟩
                        · by_cases e : c = b
                          · subst e; exact u2_ix _ _ (fun e2 => hc ⟨rfl, by omega⟩)
                          · exact u2_ne _ _ _ _ e
                        · rw [u2_off _ _ _ (by omega), hQ.1 c (by omega), a1o c (by omega)]
                        · rw [hQ.2.2.1 c a2, b1o c a1]
                        · rw [mp_row (hQ.2.2.1 _ (by omega)), b1p p (by omega)]
                        · have := hG2.1.1 s hs
                          rw [u2_off _ _ _ (by omega), u2_off _ _ _ (by omega), u2_off _ _ _ (by omega), hQ.1 _ (by omega), hQ.1 _ (by omega), hQ.1 _ (by omega), a1o _ (by omega), a1o _ (by omega), a1o _ (by omega)]
                          exact this
                        · rw [u2_off _ _ _ (by omega), hQ.1 _ (by omega), a1o _ (by omega)]; exact hG2.1.2 x y z hs
                        · rw [u2_off _ _ _ (by omega), hQ.1 _ (by omega), a1o _ (by omega)]; exact hrk2 k hk
                        · by_cases e : g = gN S
                          · subst e
                            refine ⟨?_, ?_, ?_, fun i hi => ?_⟩
                            · show _ = nI (upn (gL S) (gN S) t (gN S))
                              rw [upn_at, u2_off _ _ _ (by omega), hQ.1 _ (by omega), ← hA1, u2_at]
                            · show _ = upn (gP S) (gN S) _ (gN S)
                              rw [upn_at, mp_row (hQ.2.2.1 _ (by omega))]; exact b1n
                            · show _ = nI (upn (gK S) (gN S) (2 + w.2.length) (gN S))
                              rw [upn_at, u2_at]
                            · have hi' : i < upn (gK S) (gN S) (2 + w.2.length) (gN S) := hi
                              rw [upn_at] at hi'
                              show _ = upn (gC S) (gN S) (pcf (w.1 t) w.2) (gN S) i ∧ ∀ f, f < 7 → _ = nI (pw (upn (gR S) (gN S) (prf q.1 q.2 w.2) (gN S) i) f)
                              rw [upn_at, upn_at]
                              obtain ⟨u1, u2'⟩ := hP i (by omega)
                              exact ⟨u1, fun f hf => by rw [u2_off _ _ _ (by omega)]; exact u2' f hf⟩
                          · have hg' : g < gN S := by have : g < gN S + 1 := hg; omega
                            obtain ⟨u1, u3, u4, u5⟩ := hG2.2.2.2.2 g hg'
                            refine ⟨?_, ?_, ?_, fun i hi => ?_⟩
                            · show _ = nI (upn (gL S) (gN S) t g)
                              rw [upn_ne _ _ e, u2_off _ _ _ (by omega), hQ.1 _ (by omega), ← hA1, u2_ix _ _ e]; exact u1
                            · show _ = upn (gP S) (gN S) _ g
                              rw [upn_ne _ _ e, mp_row (hQ.2.2.1 _ (by omega)), b1p _ (by omega)]; exact u3
                            · show _ = nI (upn (gK S) (gN S) (2 + w.2.length) g)
                              rw [upn_ne _ _ e, u2_ix _ _ e, hQ.1 _ (by omega), a1o _ (by omega)]; exact u4
                            · have hi' : i < upn (gK S) (gN S) (2 + w.2.length) g := hi
                              rw [upn_ne _ _ e] at hi'
                              have hk86 := (hW.2.1 g hg').2.2.2.2.1
                              show _ = upn (gC S) (gN S) (pcf (w.1 t) w.2) g i ∧ ∀ f, f < 7 → _ = nI (pw (upn (gR S) (gN S) (prf q.1 q.2 w.2) g i) f)
                              rw [upn_ne _ _ e, upn_ne _ _ e]
                              obtain ⟨v1, v2⟩ := u5 i hi'
                              exact ⟨by rw [hQ.2.2.2 _ (by omega), b1o _ (by omega)]; exact v1, fun f hf => by rw [u2_off _ _ _ (by omega), hQ.2.1 _ (by omega), a1o _ (by omega)]; exact v2 f hf⟩
                      · omega
                    · intro i hi ih AK BK hP hQ
                      obtain ⟨qi, hqi⟩ : ∃ z, w.2[i]? = some z := ⟨w.2[i], List.getElem?_eq_getElem hi⟩
                      obtain ⟨z1, z2⟩ := st2 i qi hqi
                      have gd : w.2.getD i (0, 0) = qi := by rw [List.getD_eq_getElem?_getD, hqi]; rfl
                      have e16 : BK (b + 16) i = qi.1 := by rw [hQ.2.2.1 _ (by omega), b1o _ (by omega)]; exact z1
                      have pi_ := s_mLayPart (V := V) (d := d + 5) (c := b + 17) (len := 588) (i := 2 + i) (row := i) (v := -w.1 t * qi.1) (AI := AK) (AL := BK) h fn hn6 (by omega) h.s22 (by omega) (by omega) (by omega)
                      have hq := hP.s (c := b + 17) (row := i) (v := -w.1 t * qi.1) (by unfold pcf; rw [if_neg (by omega), if_neg (by omega), show i + 2 - 2 = i by omega, gd]) (fun f hf => by
                        unfold prf
                        rw [if_neg (by omega), if_neg (by omega), show i + 2 - 2 = i by omega, gd, hQ.1 _ (by omega), a1o _ (by omega)]
                        exact z2 f hf)
                      have hf := hQ.s (m := i + 2) (v := -w.1 t * qi.1) (g := fun j => if 7 * (86 * gN S + (i + 2)) ≤ j ∧ j < 7 * (86 * gN S + (i + 2)) + 7 then AK (b + 17) (7 * i + (j - 7 * (86 * gN S + (i + 2)))) else AK (b + 12) j) (fun j hj => if_neg (by omega))
                      rw [Nat.add_comm 2 i] at pi_
                      refine G_iload4 127 d_Mod_growBy_125 rfl ?_
                      refine G_aload0 128 d_Mod_growBy_127 rfl ?_
                      refine G_getIv 131 d_Mod_growBy_128 rfl f_Mod_327 rfl h.sh s20 ?_
                      first | refine G_icgeN 164 134 d_Mod_growBy_131 rfl rfl (by omega) (by omega) (fun h131 => ?_) (fun h131 => ?_) | refine G_icge 164 134 d_Mod_growBy_131 rfl rfl (fun h131 => ?_) (fun h131 => ?_)
                      · omega
                      · refine G_aload0 135 d_Mod_growBy_134 rfl ?_
                        refine G_iconstN 2 136 d_Mod_growBy_135 rfl rfl ?_
                        refine G_iload4 138 d_Mod_growBy_136 rfl ?_
                        first | refine G_iaddN 139 d_Mod_growBy_138 rfl ?_ | refine G_iadd 139 d_Mod_growBy_138 rfl ?_
                        refine G_lload2 140 d_Mod_growBy_139 rfl ?_
                        refine G_lneg 141 d_Mod_growBy_140 rfl ?_
                        refine G_aload0 142 d_Mod_growBy_141 rfl ?_
                        refine G_getR 145 d_Mod_growBy_142 rfl f_Mod_58 rfl h.sh h.f21 ?_
                        refine G_iload4 147 d_Mod_growBy_145 rfl ?_
                        refine G_laloadv 148 d_Mod_growBy_147 rfl h.s21 (ix_nI (by omega) (by omega)) e16 ?_
                        refine G_lmul 149 d_Mod_growBy_148 rfl ?_
                        refine G_aload0 150 d_Mod_growBy_149 rfl ?_
                        refine G_getR 153 d_Mod_growBy_150 rfl f_Mod_61 rfl h.sh h.f22 ?_
                        refine G_iload4 155 d_Mod_growBy_153 rfl ?_
                        rw [Nat.add_comm 2 i]
                        refine G_invV4v 158 d_Mod_growBy_155 rfl e_Mod_394 M_Mod_layPart rfl h.sh (Nat.le_of_ble_eq_true rfl) (Nat.le_of_ble_eq_true rfl) rfl (pi_) ?_
                        first | refine G_iincN4 161 d_Mod_growBy_158 rfl (by decide) rfl ?_ | refine G_iinc4 _ 161 d_Mod_growBy_158 rfl (by decide) rfl rfl ?_
                        refine G_goto 125 d_Mod_growBy_161 rfl ?_
                        exact ih _ _ hq hf
                  refine G_aload0 100 d_Mod_growBy_99 rfl ?_
                  refine G_iconstN 0 101 d_Mod_growBy_100 rfl rfl ?_
                  refine G_lload2 102 d_Mod_growBy_101 rfl ?_
                  refine G_aload0 103 d_Mod_growBy_102 rfl ?_
                  refine G_getR 106 d_Mod_growBy_103 rfl f_Mod_91 rfl h.sh h.f36 ?_
                  refine G_iconstN 0 107 d_Mod_growBy_106 rfl rfl ?_
                  refine G_invV4v 110 d_Mod_growBy_107 rfl e_Mod_394 M_Mod_layPart rfl h.sh (Nat.le_of_ble_eq_true rfl) (Nat.le_of_ble_eq_true rfl) rfl (p0) ?_
                  refine G_aload0 111 d_Mod_growBy_110 rfl ?_
                  refine G_iconstN 1 112 d_Mod_growBy_111 rfl rfl ?_
                  refine G_lload2 113 d_Mod_growBy_112 rfl ?_
                  refine G_lneg 114 d_Mod_growBy_113 rfl ?_
                  refine G_aload0 115 d_Mod_growBy_114 rfl ?_
                  refine G_getR 118 d_Mod_growBy_115 rfl f_Mod_91 rfl h.sh h.f36 ?_
                  refine G_iconstN 1 119 d_Mod_growBy_118 rfl rfl ?_
                  refine G_invV4v 122 d_Mod_growBy_119 rfl e_Mod_394 M_Mod_layPart rfl h.sh (Nat.le_of_ble_eq_true rfl) (Nat.le_of_ble_eq_true rfl) rfl (p1) ?_
                  refine G_iconstN 0 123 d_Mod_growBy_122 rfl rfl ?_
                  refine G_istore4 125 d_Mod_growBy_123 rfl (by decide) rfl ?_
                  exact L 0 (Nat.zero_le _) A3 B3 q1 r1
                · simp only [h59, if_true]
                  refine G_iconstN 1 63 d_Mod_growBy_62 rfl rfl ?_
                  refine G_iret d_Mod_growBy_63 rfl ?_
                  exact ⟨rfl, hF2, hG2, rfl⟩
              · have e1 : ¬ labs (w.1 t) = 1 := h47
                simp only [e1, not_false_eq_true, if_true]
                refine G_iconstN 2 52 d_Mod_growBy_51 rfl rfl ?_
                refine G_iret d_Mod_growBy_52 rfl ?_
                exact ⟨rfl, hF2, hG2, rfl⟩
            · exact absurd (nI_pos' (by omega)) h26
        · exact absurd h13 (by decide)
