/-! ===== the reference: reduce, layBasis ===== -/
abbrev RS : Type := LM × Nat × (Nat → Nat)
def abQ (R : LM) (fr i j k : Nat) : LM := fun q => if fr ≤ q ∧ q < k then (fun c => R q c - flr (R q j) (R i j) * R i c) else R q
def rcS (n fr low fu j : Nat) (s : RS) : Option RS :=
  if s.2.1 < n then (match clF s.2.1 j n fu s.1 with
    | none => none
    | some p => some (if p.1 = true then (abQ p.2 fr s.2.1 j s.2.1, s.2.1 + 1, upn s.2.2 (s.2.1 - fr) (j - low)) else (p.2, s.2.1, s.2.2)))
  else some s
def rcF (n fr low fu : Nat) : Nat → Nat → RS → Option RS
  | 0, _, s => some s
  | q + 1, j, s => match rcS n fr low fu j s with
    | none => none
    | some u => rcF n fr low fu q (j + 1) u
theorem rcF_id {n fr low fu : Nat} {s : RS} (h : ¬ s.2.1 < n) : ∀ q j, rcF n fr low fu q j s = some s
  | 0, _ => rfl
  | q + 1, j => by
    unfold rcF rcS
    rw [if_neg h]
    exact rcF_id h q (j + 1)
theorem neg2 {x : Int64} (h : ¬ x = 0) : ¬ x - 2 * x = 0 := by grind
theorem clF_ne {i j n : Nat} {R2 : LM} : ∀ f R, clF i j n f R = some (true, R2) → ¬ R2 i j = 0
  | 0, R, e => by unfold clF at e; exact absurd e (by simp)
  | f + 1, R, e => by
    unfold clF at e
    cases hl : lsF R i j (n - i) with
    | zero => rw [if_pos hl] at e; exact absurd e (by simp)
    | succ m =>
      obtain ⟨m1, m2, m3⟩ := lsF_b _ _ hl
      rw [if_neg (by omega), hl, show m + 1 - 1 = m by omega] at e
      split at e
      · exact clF_ne f _ e
      · have y : rdQ (swR R i m) i j n i = R m := by
          unfold rdQ swR
          rw [if_neg (by omega), if_pos rfl]
        injection e with e1
        injection e1 with e2 e3
        rw [← e3]
        split
        · unfold leR
          rw [upn_at, y]
          exact neg2 m3
        · rw [y]; exact m3
def QR (X : XT) (FI AI : FT) (AL : LT) (b n fr : Nat) (s : RS) : PT := fun r X' FI' AI' AL' => r = some (.int (nI (s.2.1 - fr))) ∧ X' = X ∧ FI' = FI ∧ (∀ q, q < s.2.1 - fr → AI' (b + 32) q = nI (s.2.2 q)) ∧ (∀ c, c ≠ b + 32 → AI' c = AI c) ∧ LMt AL' b n s.1 ∧ ∀ c, c ≠ b + 30 → AL' c = AL c
theorem s_reduceL {V : GV} {d b n fr low hi fu : Nat} {u : RS} {X : XT} {FI AI0 : FT} {AL0 : LT} (h : MO X b) (hm9 : FI b 9 = nI n) (hn : n ≤ 7) (hh : hi < 10) : ∀ (q j : Nat) (s : RS) (AI : FT) (AL : LT) (v6 : Option Value), rcF n fr low fu q j s = some u → j + q = hi + 1 → low ≤ j → fr ≤ s.2.1 → s.2.1 ≤ n → (∀ q, q < s.2.1 - fr → AI (b + 32) q = nI (s.2.2 q)) → (∀ c, c ≠ b + 32 → AI c = AI0 c) → LMt AL b n s.1 → (∀ c, c ≠ b + 30 → AL c = AL0 c) → G V m_Mod_reduce (d + 2) 6 [some (.ref b), some (.int (nI fr)), some (.int (nI low)), some (.int (nI hi)), some (.int (nI s.2.1)), some (.int (nI j)), v6] [] X FI AI AL (QR X FI AI0 AL0 b n fr u)
  | 0, j, s, AI, AL, v6, e, ej, hlj, hfs, hsn, hp, hA, hL, hF => by
    unfold rcF at e
    cases e
    refine G_iload5 8 d_Mod_reduce_6 rfl ?_
    refine G_iload3 9 d_Mod_reduce_8 rfl ?_
    first | refine G_icgtN 97 12 d_Mod_reduce_9 rfl rfl (by omega) (by omega) (fun h9 => ?_) (fun h9 => ?_) | refine G_icgt 97 12 d_Mod_reduce_9 rfl rfl (fun h9 => ?_) (fun h9 => ?_)
    · refine G_iload4 99 d_Mod_reduce_97 rfl ?_
      refine G_iload1 100 d_Mod_reduce_99 rfl ?_
      first | refine G_isubN 101 d_Mod_reduce_100 rfl (by omega) ?_ | refine G_isub 101 d_Mod_reduce_100 rfl ?_
      refine G_iret d_Mod_reduce_101 rfl ?_
      exact ⟨rfl, rfl, rfl, hp, hA, hL, hF⟩
    · omega
  | q + 1, j, s, AI, AL, v6, e, ej, hlj, hfs, hsn, hp, hA, hL, hF => by
    by_cases hs : s.2.1 < n
    · unfold rcF rcS at e
      rw [if_pos hs] at e
      cases hc : clF s.2.1 j n fu s.1 with
      | none => rw [hc] at e; exact absurd e (by simp)
      | some p =>
        obtain ⟨t, R⟩ := p
        rw [hc] at e
        have hcl := s_mClears (V := V) (d := d) (FI := FI) (AI := AI) h hm9 hL hs hn (show j < 10 by omega) hc
        refine G_iload5 8 d_Mod_reduce_6 rfl ?_
        refine G_iload3 9 d_Mod_reduce_8 rfl ?_
        first | refine G_icgtN 97 12 d_Mod_reduce_9 rfl rfl (by omega) (by omega) (fun h9 => ?_) (fun h9 => ?_) | refine G_icgt 97 12 d_Mod_reduce_9 rfl rfl (fun h9 => ?_) (fun h9 => ?_)
        · omega
        · refine G_iload4 14 d_Mod_reduce_12 rfl ?_
          refine G_aload0 15 d_Mod_reduce_14 rfl ?_
          refine G_getIv 18 d_Mod_reduce_15 rfl f_Mod_133 rfl h.sh hm9 ?_
          first | refine G_icgeN 97 21 d_Mod_reduce_18 rfl rfl (by omega) (by omega) (fun h18 => ?_) (fun h18 => ?_) | refine G_icge 97 21 d_Mod_reduce_18 rfl rfl (fun h18 => ?_) (fun h18 => ?_)
          · omega
          · refine G_aload0 22 d_Mod_reduce_21 rfl ?_
            refine G_iload4 24 d_Mod_reduce_22 rfl ?_
            refine G_iload5 26 d_Mod_reduce_24 rfl ?_
            refine G_invV2 29 d_Mod_reduce_26 rfl e_Mod_417 M_Mod_clears rfl h.sh (Nat.le_of_ble_eq_true rfl) (Nat.le_of_ble_eq_true rfl) rfl (G.conseq (hcl) (fun r26 X26 FI26 AI26 AL26 h26 => ?_))
            obtain ⟨a1, a2, a3, a4, a5, a6⟩ := h26
            replace a2 := a2.symm
            replace a3 := a3.symm
            replace a4 := a4.symm
            subst a1 a2 a3 a4
            cases t with
            | false =>
              refine G_ifeq 91 32 d_Mod_reduce_29 rfl rfl (fun h29 => ?_) (fun h29 => ?_)
              · first | refine G_iincN5 94 d_Mod_reduce_91 rfl (by decide) rfl ?_ | refine G_iinc5 _ 94 d_Mod_reduce_91 rfl (by decide) rfl rfl ?_
                refine G_goto 6 d_Mod_reduce_94 rfl ?_
                exact s_reduceL h hm9 hn hh q (j + 1) (R, s.2.1, s.2.2) _ _ _ e (by omega) (by omega) hfs hsn hp hA a5 (fun c hc => by rw [a6 c hc]; exact hF c hc)
              · exact absurd rfl h29
            | true =>
              have hne := clF_ne _ _ hc
              have L : ∀ k, k ≤ s.2.1 → ∀ AJ : LT, fr ≤ k → LMt AJ b n (abQ R fr s.2.1 j k) → (∀ c, c ≠ b + 30 → AJ c = AL0 c) → G V m_Mod_reduce (d + 2) 35 [some (.ref b), some (.int (nI fr)), some (.int (nI low)), some (.int (nI hi)), some (.int (nI s.2.1)), some (.int (nI j)), some (.int (nI k))] [] X FI AI AJ (QR X FI AI0 AL0 b n fr u) := by
                refine upto ?_ ?_
                · intro AJ fk k1 k2
                  refine G_iload6 37 d_Mod_reduce_35 rfl ?_
                  refine G_iload4 39 d_Mod_reduce_37 rfl ?_
                  first | refine G_icgeN 75 42 d_Mod_reduce_39 rfl rfl (by omega) (by omega) (fun h39 => ?_) (fun h39 => ?_) | refine G_icge 75 42 d_Mod_reduce_39 rfl rfl (fun h39 => ?_) (fun h39 => ?_)
                  · refine G_aload0 76 d_Mod_reduce_75 rfl ?_
                    refine G_getR 79 d_Mod_reduce_76 rfl f_Mod_106 rfl h.sh h.f45 ?_
                    refine G_iload4 81 d_Mod_reduce_79 rfl ?_
                    refine G_iload1 82 d_Mod_reduce_81 rfl ?_
                    first | refine G_isubN 83 d_Mod_reduce_82 rfl (by omega) ?_ | refine G_isub 83 d_Mod_reduce_82 rfl ?_
                    refine G_iload5 85 d_Mod_reduce_83 rfl ?_
                    refine G_iload2 86 d_Mod_reduce_85 rfl ?_
                    first | refine G_isubN 87 d_Mod_reduce_86 rfl (by omega) ?_ | refine G_isub 87 d_Mod_reduce_86 rfl ?_
                    refine G_iastore 88 d_Mod_reduce_87 rfl h.s45 (ix_nI (by omega) (by omega)) ?_
                    first | refine G_iincN4 91 d_Mod_reduce_88 rfl (by decide) rfl ?_ | refine G_iinc4 _ 91 d_Mod_reduce_88 rfl (by decide) rfl rfl ?_
                    first | refine G_iincN5 94 d_Mod_reduce_91 rfl (by decide) rfl ?_ | refine G_iinc5 _ 94 d_Mod_reduce_91 rfl (by decide) rfl rfl ?_
                    refine G_goto 6 d_Mod_reduce_94 rfl ?_
                    exact s_reduceL h hm9 hn hh q (j + 1) _ _ _ _ e (by omega) (by omega) (show fr ≤ s.2.1 + 1 by omega) (show s.2.1 + 1 ≤ n by omega) (fun x hx => by
                      have hx2 : x < s.2.1 + 1 - fr := hx
                      show _ = nI (upn s.2.2 (s.2.1 - fr) (j - low) x)
                      by_cases e1 : x = s.2.1 - fr
                      · subst e1; rw [u2_at, upn_at]
                      · rw [u2_ix _ _ e1, upn_ne _ _ e1]; exact hp x (by omega)) (fun c hc => by rw [u2_off _ _ _ hc]; exact hA c hc) k1 k2
                  · omega
                · intro k hk ih AJ fk k1 k2
                  have x1 := s_mEntry (V := V) (d := d + 1) (FI := FI) (AI := AI) h k1 (show k < n by omega) hn (show j < 10 by omega)
                  have x2 := s_mEntry (V := V) (d := d + 1) (FI := FI) (AI := AI) h k1 hs hn (show j < 10 by omega)
                  have y1 : abQ R fr s.2.1 j k k = R k := if_neg (by omega)
                  have y2 : abQ R fr s.2.1 j k s.2.1 = R s.2.1 := if_neg (by omega)
                  rw [y1] at x1
                  rw [y2] at x2
                  have x3 := s_mFloor (V := V) (d := d + 1) (x := R k j) (X := X) (FI := FI) (AI := AI) (AL := AJ) hne
                  have x4 := s_mLess (V := V) (d := d + 1) (FI := FI) (AI := AI) (t := flr (R k j) (R s.2.1 j)) h k1 (show k < n by omega) hs hn
                  refine G_iload6 37 d_Mod_reduce_35 rfl ?_
                  refine G_iload4 39 d_Mod_reduce_37 rfl ?_
                  first | refine G_icgeN 75 42 d_Mod_reduce_39 rfl rfl (by omega) (by omega) (fun h39 => ?_) (fun h39 => ?_) | refine G_icge 75 42 d_Mod_reduce_39 rfl rfl (fun h39 => ?_) (fun h39 => ?_)
                  · omega
                  · refine G_aload0 43 d_Mod_reduce_42 rfl ?_
                    refine G_iload6 45 d_Mod_reduce_43 rfl ?_
                    refine G_iload4 47 d_Mod_reduce_45 rfl ?_
                    refine G_aload0 48 d_Mod_reduce_47 rfl ?_
                    refine G_iload6 50 d_Mod_reduce_48 rfl ?_
                    refine G_iload5 52 d_Mod_reduce_50 rfl ?_
                    refine G_invV2d 55 d_Mod_reduce_52 rfl e_Mod_407 M_Mod_entry rfl h.sh (Nat.le_of_ble_eq_true rfl) (Nat.le_of_ble_eq_true rfl) rfl (x1) ?_
                    refine G_aload0 56 d_Mod_reduce_55 rfl ?_
                    refine G_iload4 58 d_Mod_reduce_56 rfl ?_
                    refine G_iload5 60 d_Mod_reduce_58 rfl ?_
                    refine G_invV2d 63 d_Mod_reduce_60 rfl e_Mod_407 M_Mod_entry rfl h.sh (Nat.le_of_ble_eq_true rfl) (Nat.le_of_ble_eq_true rfl) rfl (x2) ?_
                    refine G_invS2d 66 d_Mod_reduce_63 rfl e_Mod_420 M_Mod_floor (Nat.le_of_ble_eq_true rfl) (Nat.le_of_ble_eq_true rfl) rfl (x3) ?_
                    refine G_invV3 69 d_Mod_reduce_66 rfl e_Mod_414 M_Mod_less rfl h.sh (Nat.le_of_ble_eq_true rfl) (Nat.le_of_ble_eq_true rfl) rfl (G.conseq (x4) (fun r66 X66 FI66 AI66 AL66 h66 => ?_))
                    obtain ⟨b1, b2, b3, b4, b5, b6⟩ := h66
                    replace b2 := b2.symm
                    replace b3 := b3.symm
                    replace b4 := b4.symm
                    subst b1 b2 b3 b4
                    first | refine G_iincN6 72 d_Mod_reduce_69 rfl (by decide) rfl ?_ | refine G_iinc6 _ 72 d_Mod_reduce_69 rfl (by decide) rfl rfl ?_
                    refine G_goto 35 d_Mod_reduce_72 rfl ?_
                    refine ih _ (by omega) (fun x c hx hc => ?_) (fun c hc => by rw [b6 c hc]; exact k2 c hc)
                    rw [b5 x c hx hc]
                    unfold leR
                    by_cases e1 : x = k
                    · subst e1
                      rw [upn_at, y1, y2]
                      unfold abQ
                      rw [if_pos ⟨fk, by omega⟩]
                    · rw [upn_ne _ _ e1]
                      unfold abQ
                      by_cases e2 : fr ≤ x ∧ x < k
                      · rw [if_pos e2, if_pos ⟨e2.1, by omega⟩]
                      · rw [if_neg e2, if_neg (by omega)]
              refine G_ifeq 91 32 d_Mod_reduce_29 rfl rfl (fun h29 => ?_) (fun h29 => ?_)
              · exact absurd h29 (by decide)
              · refine G_iload1 33 d_Mod_reduce_32 rfl ?_
                refine G_istore6 35 d_Mod_reduce_33 rfl (by decide) rfl ?_
                exact L fr hfs _ (Nat.le_refl _) (fun x c hx hc => by rw [a5 x c hx hc]; unfold abQ; rw [if_neg (by omega)]) (fun c hc => by rw [a6 c hc]; exact hF c hc)
    · rw [rcF_id hs] at e
      cases e
      refine G_iload5 8 d_Mod_reduce_6 rfl ?_
      refine G_iload3 9 d_Mod_reduce_8 rfl ?_
      first | refine G_icgtN 97 12 d_Mod_reduce_9 rfl rfl (by omega) (by omega) (fun h9 => ?_) (fun h9 => ?_) | refine G_icgt 97 12 d_Mod_reduce_9 rfl rfl (fun h9 => ?_) (fun h9 => ?_)
      · omega
      · refine G_iload4 14 d_Mod_reduce_12 rfl ?_
        refine G_aload0 15 d_Mod_reduce_14 rfl ?_
        refine G_getIv 18 d_Mod_reduce_15 rfl f_Mod_133 rfl h.sh hm9 ?_
        first | refine G_icgeN 97 21 d_Mod_reduce_18 rfl rfl (by omega) (by omega) (fun h18 => ?_) (fun h18 => ?_) | refine G_icge 97 21 d_Mod_reduce_18 rfl rfl (fun h18 => ?_) (fun h18 => ?_)
        · refine G_iload4 99 d_Mod_reduce_97 rfl ?_
          refine G_iload1 100 d_Mod_reduce_99 rfl ?_
          first | refine G_isubN 101 d_Mod_reduce_100 rfl (by omega) ?_ | refine G_isub 101 d_Mod_reduce_100 rfl ?_
          refine G_iret d_Mod_reduce_101 rfl ?_
          exact ⟨rfl, rfl, rfl, hp, hA, hL, hF⟩
        · omega
theorem s_mReduce {V : GV} {d b n fr low hi q fu : Nat} {R : LM} {pv : Nat → Nat} {u : RS} {X : XT} {FI AI : FT} {AL : LT} (h : MO X b) (hm9 : FI b 9 = nI n) (hn : n ≤ 7) (hh : hi < 10) (hL : LMt AL b n R) (e : rcF n fr low fu q low (R, fr, pv) = some u) (eq : low + q = hi + 1) (hf : fr ≤ n) : G V m_Mod_reduce (d + 2) 0 [some (.ref b), some (.int (nI fr)), some (.int (nI low)), some (.int (nI hi)), none, none, none] [] X FI AI AL (QR X FI AI AL b n fr u) := by
  refine G_iload1 1 d_Mod_reduce_0 rfl ?_
  refine G_istore4 3 d_Mod_reduce_1 rfl (by decide) rfl ?_
  refine G_iload2 4 d_Mod_reduce_3 rfl ?_
  refine G_istore5 6 d_Mod_reduce_4 rfl (by decide) rfl ?_
  exact s_reduceL h hm9 hn hh q low (R, fr, pv) AI AL _ e eq (Nat.le_refl _) (Nat.le_refl _) hf (fun x hx => by have : x < fr - fr := hx; omega) (fun _ _ => rfl) hL (fun _ _ => rfl)
theorem rcF_le {n fr low fu : Nat} {u : RS} : ∀ q j (s : RS), rcF n fr low fu q j s = some u → s.2.1 ≤ n → s.2.1 ≤ u.2.1 ∧ u.2.1 ≤ n ∧ u.2.1 ≤ s.2.1 + q
  | 0, j, s, e, hs => by unfold rcF at e; cases e; exact ⟨Nat.le_refl _, hs, Nat.le_refl _⟩
  | q + 1, j, s, e, hs => by
    by_cases h : s.2.1 < n
    · unfold rcF rcS at e
      rw [if_pos h] at e
      cases hc : clF s.2.1 j n fu s.1 with
      | none => rw [hc] at e; exact absurd e (by simp)
      | some p =>
        obtain ⟨t, R⟩ := p
        rw [hc] at e
        cases t with
        | false =>
          obtain ⟨a, c, x⟩ := rcF_le q (j + 1) (R, s.2.1, s.2.2) e hs
          exact ⟨a, c, by have : u.2.1 ≤ s.2.1 + q := x; omega⟩
        | true =>
          obtain ⟨a, c, x⟩ := rcF_le q (j + 1) (abQ R fr s.2.1 j s.2.1, s.2.1 + 1, upn s.2.2 (s.2.1 - fr) (j - low)) e (show s.2.1 + 1 ≤ n by omega)
          have a' : s.2.1 + 1 ≤ u.2.1 := a
          have x' : u.2.1 ≤ s.2.1 + 1 + q := x
          exact ⟨by omega, c, by omega⟩
    · rw [rcF_id h] at e
      cases e
      exact ⟨Nat.le_refl _, hs, by omega⟩
def laM (Gt : GT) : LM := fun g j => if j < 3 then (nI (ex (gL Gt g) j)).toInt64 else if j - 3 = g then 1 else 0
def fuC : Nat := 2 ^ 64
def laF (Gt : GT) (w : Nat) : Option (Nat × LM × (Nat → Nat)) :=
  match rcF (gN Gt) 0 0 fuC 3 0 (laM Gt, 0, fun _ => 0) with
  | none => none
  | some s => if w = 0 then some (s.2.1, fun i j => if j < 3 then s.1 i j else 0, s.2.2) else
    match rcF (gN Gt) s.2.1 3 fuC 7 3 s with
    | none => none
    | some u => some (u.2.1 - s.2.1, fun i j => u.1 (s.2.1 + i) (3 + j), u.2.2)
def QL (X : XT) (FI AI : FT) (AL : LT) (b : Nat) (L : Nat × LM × (Nat → Nat)) : PT := fun r X' FI' AI' AL' => r = none ∧ X' = X ∧ FI' = u2 FI b 46 (nI L.1) ∧ (∀ c, c ≠ b + 32 → AI' c = AI c) ∧ (∀ q, q < L.1 → AI' (b + 32) q = nI (L.2.2 q)) ∧ (∀ i j, i < L.1 → j < 7 → AL' (b + 31) (7 * i + j) = L.2.1 i j) ∧ ∀ c, c ≠ b + 30 → c ≠ b + 31 → AL' c = AL c
theorem s_layB {V : GV} {d b n sp m w : Nat} {R : LM} {B : LM} {pv : Nat → Nat} {X : XT} {FI0 AI AI0 : FT} {AL AL0 : LT} (h : MO X b) (hn : n ≤ 7) (hL : LMt AL b n R) (hw : w = 0 ∧ m ≤ n ∧ B = (fun i j => if j < 3 then R i j else 0) ∨ w = 1 ∧ sp + m ≤ n ∧ B = (fun i j => R (sp + i) (3 + j))) (hA : ∀ c, c ≠ b + 32 → AI c = AI0 c) (hp : ∀ q, q < m → AI (b + 32) q = nI (pv q)) (hF : ∀ c, c ≠ b + 30 → AL c = AL0 c) (v3 v4 : Option Value) : G V m_Mod_layBasis (d + 3) 101 [some (.ref b), some (.int (nI w)), some (.int (nI sp)), v3, v4] [] X (u2 FI0 b 46 (nI m)) AI AL (QL X FI0 AI0 AL0 b (m, B, pv)) := by
  have hm : m ≤ 7 := by omega
  have f46 : u2 FI0 b 46 (nI m) b 46 = nI m := u2_at _ _ _ _
  have O : ∀ i, i ≤ m → ∀ (v4 : Option Value) (AJ : LT), LMt AJ b n R → (∀ c, c ≠ b + 30 → c ≠ b + 31 → AJ c = AL0 c) → (∀ x c, x < i → c < 7 → AJ (b + 31) (7 * x + c) = B x c) → G V m_Mod_layBasis (d + 3) 103 [some (.ref b), some (.int (nI w)), some (.int (nI sp)), some (.int (nI i)), v4] [] X (u2 FI0 b 46 (nI m)) AI AJ (QL X FI0 AI0 AL0 b (m, B, pv)) := by
    refine upto ?_ ?_
    · intro v4 AJ k0 k1 k2
      refine G_iload3 104 d_Mod_layBasis_103 rfl ?_
      refine G_aload0 105 d_Mod_layBasis_104 rfl ?_
      refine G_getIv 108 d_Mod_layBasis_105 rfl f_Mod_426 rfl h.sh f46 ?_
      first | refine G_icgeN 180 111 d_Mod_layBasis_108 rfl rfl (by omega) (by omega) (fun h108 => ?_) (fun h108 => ?_) | refine G_icge 180 111 d_Mod_layBasis_108 rfl rfl (fun h108 => ?_) (fun h108 => ?_)
      · refine G_vret d_Mod_layBasis_180 rfl ?_
        exact ⟨rfl, rfl, rfl, hA, hp, k2, k1⟩
      · omega
    · intro i hi ih v4 AJ k0 k1 k2
      have I : ∀ j, j ≤ 7 → ∀ AJ : LT, LMt AJ b n R → (∀ c, c ≠ b + 30 → c ≠ b + 31 → AJ c = AL0 c) → (∀ x c, x < i ∧ c < 7 ∨ x = i ∧ c < j → AJ (b + 31) (7 * x + c) = B x c) → G V m_Mod_layBasis (d + 3) 114 [some (.ref b), some (.int (nI w)), some (.int (nI sp)), some (.int (nI i)), some (.int (nI j))] [] X (u2 FI0 b 46 (nI m)) AI AJ (QL X FI0 AI0 AL0 b (m, B, pv)) := by
        refine upto ?_ ?_
        · intro AJ k0 k1 k2
          refine G_iload4 116 d_Mod_layBasis_114 rfl ?_
          refine G_bipushN 7 118 d_Mod_layBasis_116 rfl rfl ?_
          first | refine G_icgeN 174 121 d_Mod_layBasis_118 rfl rfl (by omega) (by omega) (fun h118 => ?_) (fun h118 => ?_) | refine G_icge 174 121 d_Mod_layBasis_118 rfl rfl (fun h118 => ?_) (fun h118 => ?_)
          · first | refine G_iincN3 177 d_Mod_layBasis_174 rfl (by decide) rfl ?_ | refine G_iinc3 _ 177 d_Mod_layBasis_174 rfl (by decide) rfl rfl ?_
            refine G_goto 103 d_Mod_layBasis_177 rfl ?_
            exact ih _ _ k0 k1 (fun x c hx hc => k2 x c (by omega))
          · omega
        · intro j hj ih2 AJ k0 k1 k2
          have fin : ∀ v : Int64, v = B i j → G V m_Mod_layBasis (d + 3) 114 [some (.ref b), some (.int (nI w)), some (.int (nI sp)), some (.int (nI i)), some (.int (nI (j + 1)))] [] X (u2 FI0 b 46 (nI m)) AI (u2 AJ (b + 31) (7 * i + j) v) (QL X FI0 AI0 AL0 b (m, B, pv)) := by
            intro v ev
            refine ih2 _ (fun x c hx hc => by rw [u2_off _ _ _ (by omega)]; exact k0 x c hx hc) (fun c h1 h2 => by rw [u2_off _ _ _ h2]; exact k1 c h1 h2) (fun x c hx => ?_)
            by_cases e1 : 7 * x + c = 7 * i + j
            · have e2 : x = i := by omega
              have e3 : c = j := by omega
              subst e2 e3
              rw [u2_at]; exact ev
            · rw [u2_ix _ _ e1]; exact k2 x c (by omega)
          rcases hw with ⟨rfl, hmn, rfl⟩ | ⟨rfl, hmn, rfl⟩
          · have x1 := s_mEntry (V := V) (d := d + 2) (FI := u2 FI0 b 46 (nI m)) (AI := AI) h k0 (show i < n by omega) hn (show j < 10 by omega)
            refine G_iload4 116 d_Mod_layBasis_114 rfl ?_
            refine G_bipushN 7 118 d_Mod_layBasis_116 rfl rfl ?_
            first | refine G_icgeN 174 121 d_Mod_layBasis_118 rfl rfl (by omega) (by omega) (fun h118 => ?_) (fun h118 => ?_) | refine G_icge 174 121 d_Mod_layBasis_118 rfl rfl (fun h118 => ?_) (fun h118 => ?_)
            · omega
            · refine G_aload0 122 d_Mod_layBasis_121 rfl ?_
              refine G_getR 125 d_Mod_layBasis_122 rfl f_Mod_103 rfl h.sh h.f44 ?_
              refine G_bipushN 7 127 d_Mod_layBasis_125 rfl rfl ?_
              refine G_iload3 128 d_Mod_layBasis_127 rfl ?_
              first | refine G_imulN 129 d_Mod_layBasis_128 rfl ?_ | refine G_imul 129 d_Mod_layBasis_128 rfl ?_
              refine G_iload4 131 d_Mod_layBasis_129 rfl ?_
              first | refine G_iaddN 132 d_Mod_layBasis_131 rfl ?_ | refine G_iadd 132 d_Mod_layBasis_131 rfl ?_
              refine G_iload1 133 d_Mod_layBasis_132 rfl ?_
              refine G_ifne 156 136 d_Mod_layBasis_133 rfl rfl (fun h133 => ?_) (fun h133 => ?_)
              · exact absurd rfl h133
              · refine G_iload4 138 d_Mod_layBasis_136 rfl ?_
                refine G_iconstN 3 139 d_Mod_layBasis_138 rfl rfl ?_
                first | refine G_icgeN 152 142 d_Mod_layBasis_139 rfl rfl (by omega) (by omega) (fun h139 => ?_) (fun h139 => ?_) | refine G_icge 152 142 d_Mod_layBasis_139 rfl rfl (fun h139 => ?_) (fun h139 => ?_)
                · refine G_lconst 0 153 d_Mod_layBasis_152 rfl rfl ?_
                  refine G_goto 167 d_Mod_layBasis_153 rfl ?_
                  refine G_lastore 168 d_Mod_layBasis_167 rfl h.s44 (ix_nI (by omega) (by omega)) ?_
                  first | refine G_iincN4 171 d_Mod_layBasis_168 rfl (by decide) rfl ?_ | refine G_iinc4 _ 171 d_Mod_layBasis_168 rfl (by decide) rfl rfl ?_
                  refine G_goto 114 d_Mod_layBasis_171 rfl ?_
                  exact fin _ (if_neg (by omega)).symm
                · refine G_aload0 143 d_Mod_layBasis_142 rfl ?_
                  refine G_iload3 144 d_Mod_layBasis_143 rfl ?_
                  refine G_iload4 146 d_Mod_layBasis_144 rfl ?_
                  refine G_invV2d 149 d_Mod_layBasis_146 rfl e_Mod_407 M_Mod_entry rfl h.sh (Nat.le_of_ble_eq_true rfl) (Nat.le_of_ble_eq_true rfl) rfl (x1) ?_
                  refine G_goto 167 d_Mod_layBasis_149 rfl ?_
                  refine G_lastore 168 d_Mod_layBasis_167 rfl h.s44 (ix_nI (by omega) (by omega)) ?_
                  first | refine G_iincN4 171 d_Mod_layBasis_168 rfl (by decide) rfl ?_ | refine G_iinc4 _ 171 d_Mod_layBasis_168 rfl (by decide) rfl rfl ?_
                  refine G_goto 114 d_Mod_layBasis_171 rfl ?_
                  exact fin _ (if_pos (by omega)).symm
          · have x1 := s_mEntry (V := V) (d := d + 2) (FI := u2 FI0 b 46 (nI m)) (AI := AI) h k0 (show sp + i < n by omega) hn (show 3 + j < 10 by omega)
            refine G_iload4 116 d_Mod_layBasis_114 rfl ?_
            refine G_bipushN 7 118 d_Mod_layBasis_116 rfl rfl ?_
            first | refine G_icgeN 174 121 d_Mod_layBasis_118 rfl rfl (by omega) (by omega) (fun h118 => ?_) (fun h118 => ?_) | refine G_icge 174 121 d_Mod_layBasis_118 rfl rfl (fun h118 => ?_) (fun h118 => ?_)
            · omega
            · refine G_aload0 122 d_Mod_layBasis_121 rfl ?_
              refine G_getR 125 d_Mod_layBasis_122 rfl f_Mod_103 rfl h.sh h.f44 ?_
              refine G_bipushN 7 127 d_Mod_layBasis_125 rfl rfl ?_
              refine G_iload3 128 d_Mod_layBasis_127 rfl ?_
              first | refine G_imulN 129 d_Mod_layBasis_128 rfl ?_ | refine G_imul 129 d_Mod_layBasis_128 rfl ?_
              refine G_iload4 131 d_Mod_layBasis_129 rfl ?_
              first | refine G_iaddN 132 d_Mod_layBasis_131 rfl ?_ | refine G_iadd 132 d_Mod_layBasis_131 rfl ?_
              refine G_iload1 133 d_Mod_layBasis_132 rfl ?_
              refine G_ifne 156 136 d_Mod_layBasis_133 rfl rfl (fun h133 => ?_) (fun h133 => ?_)
              · refine G_aload0 157 d_Mod_layBasis_156 rfl ?_
                refine G_iload2 158 d_Mod_layBasis_157 rfl ?_
                refine G_iload3 159 d_Mod_layBasis_158 rfl ?_
                first | refine G_iaddN 160 d_Mod_layBasis_159 rfl ?_ | refine G_iadd 160 d_Mod_layBasis_159 rfl ?_
                refine G_iconstN 3 161 d_Mod_layBasis_160 rfl rfl ?_
                refine G_iload4 163 d_Mod_layBasis_161 rfl ?_
                first | refine G_iaddN 164 d_Mod_layBasis_163 rfl ?_ | refine G_iadd 164 d_Mod_layBasis_163 rfl ?_
                refine G_invV2d 167 d_Mod_layBasis_164 rfl e_Mod_407 M_Mod_entry rfl h.sh (Nat.le_of_ble_eq_true rfl) (Nat.le_of_ble_eq_true rfl) rfl (x1) ?_
                refine G_lastore 168 d_Mod_layBasis_167 rfl h.s44 (ix_nI (by omega) (by omega)) ?_
                first | refine G_iincN4 171 d_Mod_layBasis_168 rfl (by decide) rfl ?_ | refine G_iinc4 _ 171 d_Mod_layBasis_168 rfl (by decide) rfl rfl ?_
                refine G_goto 114 d_Mod_layBasis_171 rfl ?_
                exact fin _ rfl
              · exact absurd h133 (by decide)
      refine G_iload3 104 d_Mod_layBasis_103 rfl ?_
      refine G_aload0 105 d_Mod_layBasis_104 rfl ?_
      refine G_getIv 108 d_Mod_layBasis_105 rfl f_Mod_426 rfl h.sh f46 ?_
      first | refine G_icgeN 180 111 d_Mod_layBasis_108 rfl rfl (by omega) (by omega) (fun h108 => ?_) (fun h108 => ?_) | refine G_icge 180 111 d_Mod_layBasis_108 rfl rfl (fun h108 => ?_) (fun h108 => ?_)
      · omega
      · refine G_iconstN 0 112 d_Mod_layBasis_111 rfl rfl ?_
        refine G_istore4 114 d_Mod_layBasis_112 rfl (by decide) rfl ?_
        exact I 0 (by omega) AJ k0 k1 (fun x c hx => k2 x c (by omega) (by omega))
  refine G_iconstN 0 102 d_Mod_layBasis_101 rfl rfl ?_
  refine G_istore3 103 d_Mod_layBasis_102 rfl (by decide) rfl ?_
  exact O 0 (by omega) _ AL hL (fun c h1 _ => hF c h1) (fun x c hx => by omega)
theorem s_mLayBasis {V : GV} {d b w : Nat} {Gt : GT} {L : Nat × LM × (Nat → Nat)} {X : XT} {FI AI : FT} {AL : LT} (h : MO X b) (hT : MTb AI b) (hm9 : FI b 9 = nI (gN Gt)) (hn : gN Gt ≤ 7) (hG : ∀ g, g < gN Gt → AI (b + 9) g = nI (gL Gt g) ∧ gL Gt g < 84) (hw : w ≤ 1) (e : laF Gt w = some L) : G V m_Mod_layBasis (d + 3) 0 [some (.ref b), some (.int (nI w)), none, none, none] [] X FI AI AL (QL X FI AI AL b L) := by
  have O : ∀ g, g ≤ gN Gt → ∀ (v3 v4 : Option Value) (AJ : LT), (∀ c, c ≠ b + 30 → AJ c = AL c) → (∀ x c, x < g → c < 10 → AJ (b + 30) (10 * x + c) = laM Gt x c) → G V m_Mod_layBasis (d + 3) 2 [some (.ref b), some (.int (nI w)), some (.int (nI g)), v3, v4] [] X FI AI AJ (QL X FI AI AL b L) := by
    refine upto ?_ ?_
    · intro v3 v4 AJ k1 k2
      unfold laF at e
      cases h1 : rcF (gN Gt) 0 0 fuC 3 0 (laM Gt, 0, fun _ => 0) with
      | none => rw [h1] at e; exact absurd e (by simp)
      | some s =>
        rw [h1] at e
        have hle := rcF_le _ _ _ h1 (Nat.zero_le _)
        have hr := s_mReduce (V := V) (d := d) (FI := FI) (AI := AI) h hm9 hn (show 2 < 10 by omega) k2 h1 rfl (Nat.zero_le _)
        refine G_iload2 3 d_Mod_layBasis_2 rfl ?_
        refine G_aload0 4 d_Mod_layBasis_3 rfl ?_
        refine G_getIv 7 d_Mod_layBasis_4 rfl f_Mod_133 rfl h.sh hm9 ?_
        first | refine G_icgeN 73 10 d_Mod_layBasis_7 rfl rfl (by omega) (by omega) (fun h7 => ?_) (fun h7 => ?_) | refine G_icge 73 10 d_Mod_layBasis_7 rfl rfl (fun h7 => ?_) (fun h7 => ?_)
        · refine G_aload0 74 d_Mod_layBasis_73 rfl ?_
          refine G_iconstN 0 75 d_Mod_layBasis_74 rfl rfl ?_
          refine G_iconstN 0 76 d_Mod_layBasis_75 rfl rfl ?_
          refine G_iconstN 2 77 d_Mod_layBasis_76 rfl rfl ?_
          refine G_invV3 80 d_Mod_layBasis_77 rfl e_Mod_423 M_Mod_reduce rfl h.sh (Nat.le_of_ble_eq_true rfl) (Nat.le_of_ble_eq_true rfl) rfl (G.conseq (hr) (fun r77 X77 FI77 AI77 AL77 h77 => ?_))
          obtain ⟨a1, a2, a3, a4, a5, a6, a7⟩ := h77
          replace a2 := a2.symm
          replace a3 := a3.symm
          subst a1 a2 a3
          rw [show s.2.1 - 0 = s.2.1 from Nat.sub_zero _] at *
          have hw2 : w = 0 ∨ w = 1 := by omega
          rcases hw2 with rfl | rfl
          · have e' : some (s.2.1, (fun i j => if j < 3 then s.1 i j else 0 : LM), s.2.2) = some L := e
            injection e' with e'
            rw [← e']
            refine G_istore2 81 d_Mod_layBasis_80 rfl (by decide) rfl ?_
            refine G_aload0 82 d_Mod_layBasis_81 rfl ?_
            refine G_iload1 83 d_Mod_layBasis_82 rfl ?_
            refine G_ifne 90 86 d_Mod_layBasis_83 rfl rfl (fun h83 => ?_) (fun h83 => ?_)
            · exact absurd rfl h83
            · refine G_iload2 87 d_Mod_layBasis_86 rfl ?_
              refine G_goto 98 d_Mod_layBasis_87 rfl ?_
              refine G_putI 101 d_Mod_layBasis_98 rfl f_Mod_426 rfl (by intro C T N h; cases h; rfl) h.sh rfl rfl ?_
              exact s_layB h hn a6 (Or.inl ⟨rfl, hle.2.1, rfl⟩) a5 a4 (fun c hc => by rw [a7 c hc]; exact k1 c hc) _ _
          · cases h2 : rcF (gN Gt) s.2.1 3 fuC 7 3 s with
            | none =>
              have e' : (match rcF (gN Gt) s.2.1 3 fuC 7 3 s with
                | none => none
                | some u => some (u.2.1 - s.2.1, (fun i j => u.1 (s.2.1 + i) (3 + j) : LM), u.2.2)) = some L := e
              rw [h2] at e'; exact absurd e' (by simp)
            | some u =>
              have e' : (match rcF (gN Gt) s.2.1 3 fuC 7 3 s with
                | none => none
                | some u => some (u.2.1 - s.2.1, (fun i j => u.1 (s.2.1 + i) (3 + j) : LM), u.2.2)) = some L := e
              rw [h2] at e'
              injection e' with e'
              rw [← e']
              have hl2 := rcF_le _ _ _ h2 hle.2.1
              have hr2 := s_mReduce (V := V) (d := d) (FI := FI) (AI := AI77) h hm9 hn (show 9 < 10 by omega) a6 h2 rfl hle.2.1
              refine G_istore2 81 d_Mod_layBasis_80 rfl (by decide) rfl ?_
              refine G_aload0 82 d_Mod_layBasis_81 rfl ?_
              refine G_iload1 83 d_Mod_layBasis_82 rfl ?_
              refine G_ifne 90 86 d_Mod_layBasis_83 rfl rfl (fun h83 => ?_) (fun h83 => ?_)
              · refine G_aload0 91 d_Mod_layBasis_90 rfl ?_
                refine G_iload2 92 d_Mod_layBasis_91 rfl ?_
                refine G_iconstN 3 93 d_Mod_layBasis_92 rfl rfl ?_
                refine G_bipushN 9 95 d_Mod_layBasis_93 rfl rfl ?_
                refine G_invV3 98 d_Mod_layBasis_95 rfl e_Mod_423 M_Mod_reduce rfl h.sh (Nat.le_of_ble_eq_true rfl) (Nat.le_of_ble_eq_true rfl) rfl (G.conseq (hr2) (fun r95 X95 FI95 AI95 AL95 h95 => ?_))
                obtain ⟨c1, c2, c3, c4, c5, c6, c7⟩ := h95
                replace c2 := c2.symm
                replace c3 := c3.symm
                subst c1 c2 c3
                refine G_putI 101 d_Mod_layBasis_98 rfl f_Mod_426 rfl (by intro C T N h; cases h; rfl) h.sh rfl rfl ?_
                exact s_layB h hn c6 (Or.inr ⟨rfl, by omega, rfl⟩) (fun c hc => by rw [c5 c hc]; exact a5 c hc) c4 (fun c hc => by rw [c7 c hc, a7 c hc]; exact k1 c hc) _ _
              · exact absurd h83 (by decide)
        · omega
    · intro g hg ih v3 v4 AJ k1 k2
      obtain ⟨g1, g2⟩ := hG g hg
      have I : ∀ j, j ≤ 10 → ∀ (AJ : LT), (∀ c, c ≠ b + 30 → AJ c = AL c) → (∀ x c, x < g ∧ c < 10 ∨ x = g ∧ c < j → AJ (b + 30) (10 * x + c) = laM Gt x c) → G V m_Mod_layBasis (d + 3) 12 [some (.ref b), some (.int (nI w)), some (.int (nI g)), some (.int (nI j)), v4] [] X FI AI AJ (QL X FI AI AL b L) := by
        refine upto ?_ ?_
        · intro AJ k1 k2
          refine G_iload3 13 d_Mod_layBasis_12 rfl ?_
          refine G_bipushN 10 15 d_Mod_layBasis_13 rfl rfl ?_
          first | refine G_icgeN 67 18 d_Mod_layBasis_15 rfl rfl (by omega) (by omega) (fun h15 => ?_) (fun h15 => ?_) | refine G_icge 67 18 d_Mod_layBasis_15 rfl rfl (fun h15 => ?_) (fun h15 => ?_)
          · first | refine G_iincN2 70 d_Mod_layBasis_67 rfl (by decide) rfl ?_ | refine G_iinc2 _ 70 d_Mod_layBasis_67 rfl (by decide) rfl rfl ?_
            refine G_goto 2 d_Mod_layBasis_70 rfl ?_
            exact ih _ _ _ k1 (fun x c hx hc => k2 x c (by omega))
          · omega
        · intro j hj ih2 AJ k1 k2
          have fin : ∀ v : Int64, v = laM Gt g j → G V m_Mod_layBasis (d + 3) 12 [some (.ref b), some (.int (nI w)), some (.int (nI g)), some (.int (nI (j + 1))), v4] [] X FI AI (u2 AJ (b + 30) (10 * g + j) v) (QL X FI AI AL b L) := by
            intro v ev
            refine ih2 _ (fun c h1 => by rw [u2_off _ _ _ h1]; exact k1 c h1) (fun x c hx => ?_)
            by_cases e1 : 10 * x + c = 10 * g + j
            · have e2 : x = g := by omega
              have e3 : c = j := by omega
              subst e2 e3
              rw [u2_at]; exact ev
            · rw [u2_ix _ _ e1]; exact k2 x c (by omega)
          refine G_iload3 13 d_Mod_layBasis_12 rfl ?_
          refine G_bipushN 10 15 d_Mod_layBasis_13 rfl rfl ?_
          first | refine G_icgeN 67 18 d_Mod_layBasis_15 rfl rfl (by omega) (by omega) (fun h15 => ?_) (fun h15 => ?_) | refine G_icge 67 18 d_Mod_layBasis_15 rfl rfl (fun h15 => ?_) (fun h15 => ?_)
          · omega
          · refine G_aload0 19 d_Mod_layBasis_18 rfl ?_
            refine G_getR 22 d_Mod_layBasis_19 rfl f_Mod_100 rfl h.sh h.f43 ?_
            refine G_bipushN 10 24 d_Mod_layBasis_22 rfl rfl ?_
            refine G_iload2 25 d_Mod_layBasis_24 rfl ?_
            first | refine G_imulN 26 d_Mod_layBasis_25 rfl ?_ | refine G_imul 26 d_Mod_layBasis_25 rfl ?_
            refine G_iload3 27 d_Mod_layBasis_26 rfl ?_
            first | refine G_iaddN 28 d_Mod_layBasis_27 rfl ?_ | refine G_iadd 28 d_Mod_layBasis_27 rfl ?_
            refine G_iload3 29 d_Mod_layBasis_28 rfl ?_
            refine G_iconstN 3 30 d_Mod_layBasis_29 rfl rfl ?_
            first | refine G_icgeN 48 33 d_Mod_layBasis_30 rfl rfl (by omega) (by omega) (fun h30 => ?_) (fun h30 => ?_) | refine G_icge 48 33 d_Mod_layBasis_30 rfl rfl (fun h30 => ?_) (fun h30 => ?_)
            · refine G_iload3 49 d_Mod_layBasis_48 rfl ?_
              refine G_iconstN 3 50 d_Mod_layBasis_49 rfl rfl ?_
              first | refine G_isubN 51 d_Mod_layBasis_50 rfl (by omega) ?_ | refine G_isub 51 d_Mod_layBasis_50 rfl ?_
              refine G_iload2 52 d_Mod_layBasis_51 rfl ?_
              first | refine G_icneN 59 55 d_Mod_layBasis_52 rfl rfl (by omega) (by omega) (fun h52 => ?_) (fun h52 => ?_) | refine G_icne 59 55 d_Mod_layBasis_52 rfl rfl (fun h52 => ?_) (fun h52 => ?_)
              · refine G_lconst 0 60 d_Mod_layBasis_59 rfl rfl ?_
                refine G_lastore 61 d_Mod_layBasis_60 rfl h.s43 (ix_nI (by omega) (by omega)) ?_
                first | refine G_iincN3 64 d_Mod_layBasis_61 rfl (by decide) rfl ?_ | refine G_iinc3 _ 64 d_Mod_layBasis_61 rfl (by decide) rfl rfl ?_
                refine G_goto 12 d_Mod_layBasis_64 rfl ?_
                exact fin _ (by unfold laM; rw [if_neg (by omega), if_neg h52])
              · refine G_lconst 1 56 d_Mod_layBasis_55 rfl rfl ?_
                refine G_goto 60 d_Mod_layBasis_56 rfl ?_
                refine G_lastore 61 d_Mod_layBasis_60 rfl h.s43 (ix_nI (by omega) (by omega)) ?_
                first | refine G_iincN3 64 d_Mod_layBasis_61 rfl (by decide) rfl ?_ | refine G_iinc3 _ 64 d_Mod_layBasis_61 rfl (by decide) rfl rfl ?_
                refine G_goto 12 d_Mod_layBasis_64 rfl ?_
                exact fin _ (by unfold laM; rw [if_neg (by omega), if_pos h52])
            · have ho := s_mOfTerm (V := V) (d := d + 1) (FI := FI) (AL := AJ) h hT g2 (show j ≤ 3 by omega)
              rw [if_neg (show ¬ j = 3 by omega)] at ho
              refine G_aload0 34 d_Mod_layBasis_33 rfl ?_
              refine G_aload0 35 d_Mod_layBasis_34 rfl ?_
              refine G_getR 38 d_Mod_layBasis_35 rfl f_Mod_37 rfl h.sh h.f10 ?_
              refine G_iload2 39 d_Mod_layBasis_38 rfl ?_
              refine G_ialoadv 40 d_Mod_layBasis_39 rfl h.s10 (ix_nI (by omega) (by omega)) g1 ?_
              refine G_iload3 41 d_Mod_layBasis_40 rfl ?_
              refine G_invV2d 44 d_Mod_layBasis_41 rfl e_Mod_242 M_Mod_ofTerm rfl h.sh (Nat.le_of_ble_eq_true rfl) (Nat.le_of_ble_eq_true rfl) rfl (ho) ?_
              refine G_i2l 45 d_Mod_layBasis_44 rfl ?_
              refine G_goto 60 d_Mod_layBasis_45 rfl ?_
              refine G_lastore 61 d_Mod_layBasis_60 rfl h.s43 (ix_nI (by omega) (by omega)) ?_
              first | refine G_iincN3 64 d_Mod_layBasis_61 rfl (by decide) rfl ?_ | refine G_iinc3 _ 64 d_Mod_layBasis_61 rfl (by decide) rfl rfl ?_
              refine G_goto 12 d_Mod_layBasis_64 rfl ?_
              exact fin _ (by unfold laM; rw [if_pos (by omega)])
      refine G_iload2 3 d_Mod_layBasis_2 rfl ?_
      refine G_aload0 4 d_Mod_layBasis_3 rfl ?_
      refine G_getIv 7 d_Mod_layBasis_4 rfl f_Mod_133 rfl h.sh hm9 ?_
      first | refine G_icgeN 73 10 d_Mod_layBasis_7 rfl rfl (by omega) (by omega) (fun h7 => ?_) (fun h7 => ?_) | refine G_icge 73 10 d_Mod_layBasis_7 rfl rfl (fun h7 => ?_) (fun h7 => ?_)
      · omega
      · refine G_iconstN 0 11 d_Mod_layBasis_10 rfl rfl ?_
        refine G_istore3 12 d_Mod_layBasis_11 rfl (by decide) rfl ?_
        exact I 0 (by omega) AJ k1 (fun x c hx => k2 x c (by omega) (by omega))
  refine G_iconstN 0 1 d_Mod_layBasis_0 rfl rfl ?_
  refine G_istore2 2 d_Mod_layBasis_1 rfl (by decide) rfl ?_
  exact O 0 (by omega) _ _ AL (fun _ _ => rfl) (fun x c hx => by omega)
