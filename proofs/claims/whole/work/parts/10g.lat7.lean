/-! ===== the reference: PIVOTS; rank, lattice, span, index, inSpan ===== -/
theorem less0 {x y p : Int64} (hx : x = 0) (hp : ¬ p = 0) : x - x / p * p = 0 := by
  subst hx
  have h := self_tv (a := 0) (p := p) (by decide) hp
  rw [show (0 : Int64).toInt = 0 from rfl, Int.zero_tmod] at h
  exact Int64.toInt_inj.mp h
theorem clF_zero {i j n : Nat} {R2 : LM} (hin : i < n) : ∀ f R, clF i j n f R = some (true, R2) → ∀ k, i < k → k < n → R2 k j = 0
  | 0, R, e, _, _, _ => by unfold clF at e; exact absurd e (by simp)
  | f + 1, R, e, k, c1, c2 => by
    unfold clF at e
    cases hl : lsF R i j (n - i) with
    | zero => rw [if_pos hl] at e; exact absurd e (by simp)
    | succ m =>
      obtain ⟨m1, m2, m3⟩ := lsF_b _ _ hl
      rw [if_neg (by omega), hl, show m + 1 - 1 = m by omega] at e
      split at e
      · exact clF_zero hin f _ e k c1 c2
      · rename_i h3
        have hz : swR R i m k j = 0 := by
          rw [sw_o (show k ≠ i by omega)]
          by_cases e1 : k = m
          · rw [if_pos e1]
            exact smF_2 _ (Nat.le_of_not_lt h3) m i m1 (by omega) (Nat.le_refl _) (by omega) m3 (by omega)
          · rw [if_neg e1]
            exact smF_2 _ (Nat.le_of_not_lt h3) m k m1 (by omega) (by omega) (by omega) m3 e1
        have y : rdQ (swR R i m) i j n k j = 0 := by
          rw [rd_k c1 c2]
          exact less0 (y := 0) hz (by rw [sw_i]; exact m3)
        injection e with e1
        injection e1 with e2 e3
        rw [← e3]
        split
        · unfold leR
          rw [upn_ne _ _ (by omega)]; exact y
        · exact y
/-- rows ahead stay; a column of 0 stays -/
theorem clF_keep {i j n : Nat} {t : Bool} {R2 : LM} (hin : i < n) : ∀ f R, clF i j n f R = some (t, R2) → (∀ k, k < i → R2 k = R k) ∧ ∀ c, (∀ k, i ≤ k → k < n → R k c = 0) → ∀ k, i ≤ k → k < n → R2 k c = 0
  | 0, R, e => by unfold clF at e; exact absurd e (by simp)
  | f + 1, R, e => by
    unfold clF at e
    cases hl : lsF R i j (n - i) with
    | zero =>
      rw [if_pos hl] at e
      cases e
      exact ⟨fun _ _ => rfl, fun c h => h⟩
    | succ m =>
      obtain ⟨m1, m2, m3⟩ := lsF_b _ _ hl
      rw [if_neg (by omega), hl, show m + 1 - 1 = m by omega] at e
      have y1 : ∀ k, k < i → rdQ (swR R i m) i j n k = R k := fun k hk => by
        unfold rdQ
        rw [if_neg (by omega), sw_o (by omega), if_neg (by omega)]
      have y2 : ∀ c, (∀ k, i ≤ k → k < n → R k c = 0) → ∀ k, i ≤ k → k < n → rdQ (swR R i m) i j n k c = 0 := fun c h k h1 h2 => by
        have hs : ∀ k, i ≤ k → k < n → swR R i m k c = 0 := fun k h1 h2 => by
          obtain ⟨k', d1, d2, d3⟩ := sw_row (R := R) m1 (show m < n by omega) h1 h2
          rw [d3]; exact h k' d1 d2
        by_cases e1 : k = i
        · rw [e1, rd_i]; exact hs i (Nat.le_refl _) hin
        · rw [rd_k (by omega) h2]
          show swR R i m k c - _ * swR R i m i c = 0
          rw [hs k h1 h2, hs i (Nat.le_refl _) hin]
          grind
      split at e
      · obtain ⟨z1, z2⟩ := clF_keep hin f _ e
        exact ⟨fun k hk => (z1 k hk).trans (y1 k hk), fun c h => z2 c (y2 c h)⟩
      · injection e with e1
        injection e1 with e2 e3
        rw [← e3]
        refine ⟨fun k hk => ?_, fun c h k h1 h2 => ?_⟩
        · split
          · unfold leR; rw [upn_ne _ _ (by omega)]; exact y1 k hk
          · exact y1 k hk
        · have := y2 c h k h1 h2
          split
          · unfold leR
            by_cases e4 : k = i
            · subst e4
              rw [upn_at, this]
              decide
            · rw [upn_ne _ _ e4]; exact this
          · exact this
def LPv (n fr low j : Nat) (s : RS) : Prop := ∀ x, fr ≤ x → x < s.2.1 → low + s.2.2 (x - fr) < j ∧ ¬ s.1 x (low + s.2.2 (x - fr)) = 0 ∧ ∀ k, x < k → k < n → s.1 k (low + s.2.2 (x - fr)) = 0
theorem rc_pv {n fr low fu : Nat} {u : RS} : ∀ q j (s : RS), rcF n fr low fu q j s = some u → fr ≤ s.2.1 → low ≤ j → LPv n fr low j s → LPv n fr low (j + q) u
  | 0, j, s, e, _, _, h => by unfold rcF at e; cases e; exact h
  | q + 1, j, s, e, hfr, hlj, h => by
    rw [show j + (q + 1) = j + 1 + q by omega]
    by_cases hs : s.2.1 < n
    · unfold rcF rcS at e
      rw [if_pos hs] at e
      cases hc : clF s.2.1 j n fu s.1 with
      | none => rw [hc] at e; exact absurd e (by simp)
      | some p =>
        obtain ⟨t, R⟩ := p
        rw [hc] at e
        obtain ⟨z1, z2⟩ := clF_keep hs _ _ hc
        have hk : ∀ x, fr ≤ x → x < s.2.1 → low + s.2.2 (x - fr) < j + 1 ∧ ¬ R x (low + s.2.2 (x - fr)) = 0 ∧ ∀ k, x < k → k < n → R k (low + s.2.2 (x - fr)) = 0 := fun x a b => by
          obtain ⟨h1, h2, h3⟩ := h x a b
          refine ⟨by omega, by rw [z1 x b]; exact h2, fun k k1 k2 => ?_⟩
          by_cases e1 : k < s.2.1
          · rw [z1 k e1]; exact h3 k k1 k2
          · exact z2 _ (fun k' k3 k4 => h3 k' (by omega) k4) k (by omega) k2
        cases t with
        | false => exact rc_pv q (j + 1) (R, s.2.1, s.2.2) e hfr (by omega) hk
        | true =>
          refine rc_pv q (j + 1) (abQ R fr s.2.1 j s.2.1, s.2.1 + 1, upn s.2.2 (s.2.1 - fr) (j - low)) e (show fr ≤ s.2.1 + 1 by omega) (by omega) ?_
          intro x a b
          have b' : x < s.2.1 + 1 := b
          show low + upn s.2.2 (s.2.1 - fr) (j - low) (x - fr) < j + 1 ∧ ¬ abQ R fr s.2.1 j s.2.1 x (low + upn s.2.2 (s.2.1 - fr) (j - low) (x - fr)) = 0 ∧ ∀ k, x < k → k < n → abQ R fr s.2.1 j s.2.1 k (low + upn s.2.2 (s.2.1 - fr) (j - low) (x - fr)) = 0
          by_cases e1 : x = s.2.1
          · subst e1
            rw [upn_at, show low + (j - low) = j by omega]
            refine ⟨by omega, by rw [ab_k (Nat.le_refl _)]; exact clF_ne _ _ hc, fun k k1 k2 => by rw [ab_k (by omega)]; exact clF_zero hs _ _ hc k k1 k2⟩
          · rw [upn_ne _ _ (by omega)]
            obtain ⟨h1, h2, h3⟩ := hk x a (by omega)
            have hz := h3 s.2.1 (by omega) hs
            refine ⟨h1, ?_, fun k k1 k2 => ?_⟩
            · unfold abQ
              rw [if_pos ⟨a, by omega⟩]
              show ¬ R x (low + s.2.2 (x - fr)) - _ * R s.2.1 (low + s.2.2 (x - fr)) = 0
              rw [hz]
              grind
            · unfold abQ
              by_cases e2 : fr ≤ k ∧ k < s.2.1
              · rw [if_pos e2]
                show R k (low + s.2.2 (x - fr)) - _ * R s.2.1 (low + s.2.2 (x - fr)) = 0
                rw [hz, h3 k k1 k2]
                grind
              · rw [if_neg e2]; exact h3 k k1 k2
    · rw [rcF_id hs] at e
      cases e
      exact fun x a b => ⟨by have := (h x a b).1; omega, (h x a b).2⟩
theorem laF_pv {Gt : GT} {w : Nat} {L : Nat × LM × (Nat → Nat)} (e : laF Gt w = some L) : L.1 ≤ gN Gt ∧ ∀ x, x < L.1 → L.2.2 x < 7 ∧ ¬ L.2.1 x (L.2.2 x) = 0 := by
  unfold laF at e
  cases h1 : rcF (gN Gt) 0 0 fuC 3 0 (laM Gt, 0, fun _ => 0) with
  | none => rw [h1] at e; exact absurd e (by simp)
  | some s =>
    rw [h1] at e
    have hle := rcF_le _ _ _ h1 (Nat.zero_le _)
    have hp := rc_pv _ _ _ h1 (Nat.le_refl _) (Nat.le_refl _) (fun x a b => absurd b (Nat.not_lt_zero _))
    by_cases hw : w = 0
    · have e' : some (s.2.1, (fun i j => if j < 3 then s.1 i j else 0 : LM), s.2.2) = some L := by
        rw [← e]; exact (if_pos hw).symm
      injection e' with e'
      rw [← e']
      refine ⟨hle.2.1, fun x hx => ?_⟩
      obtain ⟨a, c, _⟩ := hp x (Nat.zero_le _) hx
      rw [Nat.zero_add, Nat.sub_zero] at a c
      refine ⟨by show s.2.2 x < 7; omega, ?_⟩
      show ¬ (if s.2.2 x < 3 then s.1 x (s.2.2 x) else 0) = 0
      rw [if_pos (by omega)]; exact c
    · have e' : (match rcF (gN Gt) s.2.1 3 fuC 7 3 s with
        | none => none
        | some u => some (u.2.1 - s.2.1, (fun i j => u.1 (s.2.1 + i) (3 + j) : LM), u.2.2)) = some L := by
        rw [← e]; exact (if_neg hw).symm
      cases h2 : rcF (gN Gt) s.2.1 3 fuC 7 3 s with
      | none => rw [h2] at e'; exact absurd e' (by simp)
      | some u =>
        rw [h2] at e'
        injection e' with e'
        rw [← e']
        have hl2 := rcF_le _ _ _ h2 hle.2.1
        have hp2 := rc_pv _ _ _ h2 (Nat.le_refl _) (Nat.le_refl _) (fun x a b => by have : x < s.2.1 := b; omega)
        refine ⟨by show u.2.1 - s.2.1 ≤ _; omega, fun x hx => ?_⟩
        have hx' : x < u.2.1 - s.2.1 := hx
        obtain ⟨a, c, _⟩ := hp2 (s.2.1 + x) (by omega) (by omega)
        rw [show s.2.1 + x - s.2.1 = x by omega] at a c
        exact ⟨by show u.2.2 x < 7; omega, c⟩
def laG (Gt : GT) (w : Nat) : Nat × LM × (Nat → Nat) := (laF Gt w).getD (0, fun _ _ => 0, fun _ => 0)
theorem laG_ok {Gt : GT} (hn : gN Gt ≤ 7) (h : ∀ g, g < gN Gt → gL Gt g < 84) (w : Nat) : laF Gt w = some (laG Gt w) := by
  obtain ⟨L, e⟩ := laF_some hn h w
  unfold laG
  rw [e]; rfl
/-- the cells of the LATTICE may be anything -/
theorem MIv.la {S : ST} {FI FI' AI AI' : FT} {AL AL' : LT} {b : Nat} (h : MIv S FI AI AL b) (k1 : ∀ c j, ¬ (c = b ∧ j = 46) → FI' c j = FI c j) (k2 : ∀ c, c ≠ b + 32 → AI' c = AI c) (k3 : ∀ c, c ≠ b + 30 → c ≠ b + 31 → c ≠ b + 33 → AL' c = AL c) : MIv S FI' AI' AL' b ∧ fM FI FI' AI AI' AL AL' b := by
  obtain ⟨g, a1, a2, a3, a4, a5, a6⟩ := h.de
  have ka : ∀ c, c ≤ b + 29 ∨ b + 34 ≤ c → AL' c = AL c := fun c hc => k3 c (by omega) (by omega) (by omega)
  have mr : ∀ p, mp AL' b p = mp AL b p := fun p => mp_row (ka _ (by omega)) p
  refine ⟨MIv.mk (S := S) ⟨⟨fun s hs => ?_, fun x y z hs => ?_⟩, ?_, g.2.2.1, fun j hj => ?_, fun q hq => ?_⟩ (by rw [k1 _ _ (by omega)]; exact a1) (fun s hs => by rw [mr]; exact a2 s hs) (a3.tr (k1 _ _ (by omega)) (k1 _ _ (by omega)) (k2 _ (by omega)) (ka _ (by omega))) (a4.tr (k2 _ (by omega)) (k2 _ (by omega)) (k2 _ (by omega))) (a5.tr (k1 _ _ (by omega)) (k2 _ (by omega)) (k2 _ (by omega)) (ka _ (by omega))) (a6.tr (k1 _ _ (by omega)) (k1 _ _ (by omega)) (k1 _ _ (by omega)) (k2 _ (by omega)) (k2 _ (by omega)) (ka _ (by omega)) (ka _ (by omega))), fun c hc => ⟨funext fun j => k1 c j (by omega), k2 c (by omega), ka c (by omega)⟩⟩
  · rw [k2 _ (by omega), k2 _ (by omega), k2 _ (by omega)]; exact g.1.1 s hs
  · rw [k2 _ (by omega)]; exact g.1.2 x y z hs
  · rw [k1 _ _ (by omega)]; exact g.2.1
  · rw [k2 _ (by omega)]; exact g.2.2.2.1 j hj
  · obtain ⟨b1, b2, b3, b4⟩ := g.2.2.2.2 q hq
    exact ⟨by rw [k2 _ (by omega)]; exact b1, by rw [mr]; exact b2, by rw [k2 _ (by omega)]; exact b3, fun i hi => ⟨by rw [ka _ (by omega)]; exact (b4 i hi).1, fun f hf => by rw [k2 _ (by omega)]; exact (b4 i hi).2 f hf⟩⟩
/-- what layBasis leaves -/
def LAs (S : ST) (w b : Nat) (FI FI' AI AI' : FT) (AL AL' : LT) : Prop := (FI' = u2 FI b 46 (nI (laG (tG S) w).1)) ∧ (∀ c, c ≠ b + 32 → AI' c = AI c) ∧ (∀ q, q < (laG (tG S) w).1 → AI' (b + 32) q = nI ((laG (tG S) w).2.2 q) ∧ (laG (tG S) w).2.2 q < 7 ∧ ¬ (laG (tG S) w).2.1 q ((laG (tG S) w).2.2 q) = 0) ∧ (∀ i j, i < (laG (tG S) w).1 → j < 7 → AL' (b + 31) (7 * i + j) = (laG (tG S) w).2.1 i j) ∧ (∀ c, c ≠ b + 30 → c ≠ b + 31 → AL' c = AL c) ∧ ((laG (tG S) w).1 ≤ 7)
theorem LAs.fi {S : ST} {w b : Nat} {FI FI' AI AI' : FT} {AL AL' : LT} (k : LAs S w b FI FI' AI AI' AL AL') : FI' = u2 FI b 46 (nI (laG (tG S) w).1) := k.1
theorem LAs.ai {S : ST} {w b : Nat} {FI FI' AI AI' : FT} {AL AL' : LT} (k : LAs S w b FI FI' AI AI' AL AL') : ∀ c, c ≠ b + 32 → AI' c = AI c := k.2.1
theorem LAs.pv {S : ST} {w b : Nat} {FI FI' AI AI' : FT} {AL AL' : LT} (k : LAs S w b FI FI' AI AI' AL AL') : ∀ q, q < (laG (tG S) w).1 → AI' (b + 32) q = nI ((laG (tG S) w).2.2 q) ∧ (laG (tG S) w).2.2 q < 7 ∧ ¬ (laG (tG S) w).2.1 q ((laG (tG S) w).2.2 q) = 0 := k.2.2.1
theorem LAs.bs {S : ST} {w b : Nat} {FI FI' AI AI' : FT} {AL AL' : LT} (k : LAs S w b FI FI' AI AI' AL AL') : ∀ i j, i < (laG (tG S) w).1 → j < 7 → AL' (b + 31) (7 * i + j) = (laG (tG S) w).2.1 i j := k.2.2.2.1
theorem LAs.al {S : ST} {w b : Nat} {FI FI' AI AI' : FT} {AL AL' : LT} (k : LAs S w b FI FI' AI AI' AL AL') : ∀ c, c ≠ b + 30 → c ≠ b + 31 → AL' c = AL c := k.2.2.2.2.1
theorem LAs.le {S : ST} {w b : Nat} {FI FI' AI AI' : FT} {AL AL' : LT} (k : LAs S w b FI FI' AI AI' AL AL') : (laG (tG S) w).1 ≤ 7 := k.2.2.2.2.2
theorem s_layS {V : GV} {d b w : Nat} {S : ST} {X : XT} {FI AI : FT} {AL : LT} (h : MO X b) (hI : MIv S FI AI AL b) (hW : WS S) (hw : w ≤ 1) : G V m_Mod_layBasis (d + 3) 0 [some (.ref b), some (.int (nI w)), none, none, none] [] X FI AI AL (fun r X' FI' AI' AL' => r = none ∧ X' = X ∧ LAs S w b FI FI' AI AI' AL AL') := by
  have hG := hI.1
  have hn7 := hW.2.1.1
  have e := laG_ok hn7 (fun g hg => (hW.2.1.2.1 g hg).1) w
  have hp := laF_pv e
  refine G.conseq (s_mLayBasis (L := laG (tG S) w) h hG.1 hG.2.1 hn7 (fun g hg => ⟨(hG.2.2.2.2 g hg).1, (hW.2.1.2.1 g hg).1⟩) hw e) (fun r X' FI' AI' AL' q => ?_)
  obtain ⟨q1, q2, q3, q4, q5, q6, q7⟩ := q
  exact ⟨q1, q2, q3, q4, fun x hx => ⟨q5 x hx, hp.2 x hx⟩, q6, q7, by have := hp.1; omega⟩
theorem LAs.mi {S : ST} {w b : Nat} {FI FI' AI AI' : FT} {AL AL' : LT} (k : LAs S w b FI FI' AI AI' AL AL') (h : MIv S FI AI AL b) : MIv S FI' AI' AL' b ∧ fM FI FI' AI AI' AL AL' b :=
  h.la (fun c j hcj => by rw [k.fi]; unfold u2; exact (by split <;> rename_i e; exact if_neg (fun e2 => hcj ⟨e, e2⟩); rfl)) k.ai (fun c a1 a2 _ => k.al c a1 a2)
theorem LAs.rk {S : ST} {w b : Nat} {FI FI' AI AI' : FT} {AL AL' : LT} (k : LAs S w b FI FI' AI AI' AL AL') : FI' b 46 = nI (laG (tG S) w).1 := by rw [k.fi]; exact u2_at _ _ _ _
theorem inR {x : Int32} {m : Nat} (hm : m ≤ 7) : ((0 : Int64).toInt ≤ x.toInt64.toInt ∧ x.toInt64.toInt ≤ (nI m - nI 1).toInt64.toInt) ↔ isN x m := by
  rw [toL, toL, Int32.toInt_sub, nI_toInt (by omega), nI_toInt (by omega), Int.bmod_eq_of_le_mul_two (by omega) (by omega), isN_iff (by omega), show (0 : Int64).toInt = 0 from rfl]; omega
theorem inR2 {x : Int32} {m : Nat} (hm : m ≤ 7) : ((0 : Int64).toInt ≤ x.toInt64.toInt ∧ x.toInt64.toInt ≤ (nI (m - 1)).toInt64.toInt) ∧ 1 ≤ m ↔ isN x m := by
  rw [toL, toL, nI_toInt (by omega), isN_iff (by omega), show (0 : Int64).toInt = 0 from rfl]; omega
def fRank (S : ST) (x : Int32) : Int32 × ST := if bN x 2 = true then (nI (laG (tG S) (1 - ni x)).1, S) else (-1, S)
def fLattice (S : ST) (x y : Int32) : Int64 × ST := if (bN y (gN (tG S)) && bN x (laG (tG S) 1).1) = true then ((laG (tG S) 1).2.1 (ni x) (ni y), S) else (NOl, S)
def fSpan (S : ST) (x y : Int32) : Int64 × ST := if (bN y 3 && bN x (laG (tG S) 0).1) = true then ((laG (tG S) 0).2.1 (ni x) (ni y), S) else (NOl, S)
def pdF (B : LM) (pv : Nat → Nat) : Nat → Int64
  | 0 => 1
  | k + 1 => pdF B pv k * B k (pv k)
def fIndex (S : ST) : Int64 × ST := (if (laG (tG S) 0).1 = 3 then pdF (laG (tG S) 0).2.1 (laG (tG S) 0).2.2 3 else 0, S)
theorem m_rank {V : GV} {d b : Nat} {S : ST} {x : Int32} {X : XT} {FI AI : FT} {AL : LT} (h : MO X b) (hI : MIv S FI AI AL b) (hW : WS S) : G V m_Mod_rank (d + 4) 0 [some (.ref b), some (.int x)] [] X FI AI AL (fun r X' FI' AI' AL' => r = some (.int (fRank S x).1) ∧ X' = X ∧ MIv (fRank S x).2 FI' AI' AL' b ∧ fM FI FI' AI AI' AL AL' b) := by
  have kx : ((0 : Int64).toInt ≤ x.toInt64.toInt ∧ x.toInt64.toInt ≤ (1 : Int64).toInt) ↔ isN x 2 := by
    rw [toL, isN_iff (by omega), show (0 : Int64).toInt = 0 from rfl, show (1 : Int64).toInt = 1 from rfl]; omega
  refine G_iload1 1 d_Mod_rank_0 rfl ?_
  refine G_i2l 2 d_Mod_rank_1 rfl ?_
  refine G_lconst 0 3 d_Mod_rank_2 rfl rfl ?_
  refine G_lconst 1 4 d_Mod_rank_3 rfl rfl ?_
  refine G_invS3b 7 d_Mod_rank_4 rfl e_Mod_139 M_Mod_in (Nat.le_of_ble_eq_true rfl) (Nat.le_of_ble_eq_true rfl) rfl (s_mIn) (fun h4 => G_ifne1 10 d_Mod_rank_7 12 rfl rfl ?_) (fun h4 => G_ifne0 10 d_Mod_rank_7 12 rfl rfl ?_)
  · obtain ⟨l, hl, rfl⟩ := kx.mp h4
    have q1 := bN_t hl (show 2 < 2 ^ 31 by omega)
    have z1 := ni_nI (show l < 2 ^ 31 by omega)
    simp only [fRank, q1, z1, if_true]
    have hlb := s_layS (V := V) (d := d) (w := 1 - l) h hI hW (by omega)
    refine G_aload0 13 d_Mod_rank_12 rfl ?_
    refine G_iconstN 1 14 d_Mod_rank_13 rfl rfl ?_
    refine G_iload1 15 d_Mod_rank_14 rfl ?_
    first | refine G_isubN 16 d_Mod_rank_15 rfl (by omega) ?_ | refine G_isub 16 d_Mod_rank_15 rfl ?_
    refine G_invV1 19 d_Mod_rank_16 rfl e_Mod_429 M_Mod_layBasis rfl h.sh (Nat.le_of_ble_eq_true rfl) (Nat.le_of_ble_eq_true rfl) rfl (G.conseq (hlb) (fun r16 X16 FI16 AI16 AL16 h16 => ?_))
    obtain ⟨a1, a2, k⟩ := h16
    replace a2 := a2.symm
    subst a1 a2
    obtain ⟨hI2, hF2⟩ := k.mi hI
    have r46 := k.rk
    have hm7 := k.le
    refine G_aload0 20 d_Mod_rank_19 rfl ?_
    refine G_getIv 23 d_Mod_rank_20 rfl f_Mod_426 rfl h.sh r46 ?_
    refine G_iret d_Mod_rank_23 rfl ?_
    exact ⟨rfl, rfl, hI2, hF2⟩
  · have q1 := bN_f (fun e => h4 (kx.mpr e)) (show 2 < 2 ^ 31 by omega)
    simp only [fRank, q1, Bool.false_eq_true, if_false]
    refine G_iconst (-1) 11 d_Mod_rank_10 rfl rfl ?_
    refine G_iret d_Mod_rank_11 rfl ?_
    exact ⟨rfl, rfl, hI, fM.rf⟩
theorem m_lattice {V : GV} {d b : Nat} {S : ST} {x y : Int32} {X : XT} {FI AI : FT} {AL : LT} (h : MO X b) (hI : MIv S FI AI AL b) (hW : WS S) : G V m_Mod_lattice (d + 4) 0 [some (.ref b), some (.int x), some (.int y)] [] X FI AI AL (fun r X' FI' AI' AL' => r = some (.long (fLattice S x y).1) ∧ X' = X ∧ MIv (fLattice S x y).2 FI' AI' AL' b ∧ fM FI FI' AI AI' AL AL' b) := by
  have hn7 := hW.2.1.1
  have hlb := s_layS (V := V) (d := d) (w := 1) h hI hW (by omega)
  refine G_aload0 1 d_Mod_lattice_0 rfl ?_
  refine G_iconstN 1 2 d_Mod_lattice_1 rfl rfl ?_
  refine G_invV1 5 d_Mod_lattice_2 rfl e_Mod_429 M_Mod_layBasis rfl h.sh (Nat.le_of_ble_eq_true rfl) (Nat.le_of_ble_eq_true rfl) rfl (G.conseq (hlb) (fun r2 X2 FI2 AI2 AL2 h2 => ?_))
  obtain ⟨a1, a2, k⟩ := h2
  replace a2 := a2.symm
  subst a1 a2
  obtain ⟨hI2, hF2⟩ := k.mi hI
  have r46 := k.rk
  have hm7 := k.le
  have hn9 := hI2.1.2.1
  refine G_aload0 6 d_Mod_lattice_5 rfl ?_
  refine G_iload2 7 d_Mod_lattice_6 rfl ?_
  refine G_invV1b 10 d_Mod_lattice_7 rfl e_Mod_287 M_Mod_isGenerator rfl h.sh (Nat.le_of_ble_eq_true rfl) (Nat.le_of_ble_eq_true rfl) rfl (s_mIsGenerator h hn9 hn7) (fun h7 => G_ifeq1 13 d_Mod_lattice_10 43 rfl rfl ?_) (fun h7 => G_ifeq0 13 d_Mod_lattice_10 43 rfl rfl ?_)
  · obtain ⟨g, hg, rfl⟩ := h7
    have q1 := bN_t hg (show gN (tG S) < 2 ^ 31 by omega)
    have z1 := ni_nI (show g < 2 ^ 31 by omega)
    refine G_iload1 14 d_Mod_lattice_13 rfl ?_
    refine G_i2l 15 d_Mod_lattice_14 rfl ?_
    refine G_lconst 0 16 d_Mod_lattice_15 rfl rfl ?_
    refine G_aload0 17 d_Mod_lattice_16 rfl ?_
    refine G_getIv 20 d_Mod_lattice_17 rfl f_Mod_426 rfl h.sh r46 ?_
    refine G_iconstN 1 21 d_Mod_lattice_20 rfl rfl ?_
    first | refine G_isubN 22 d_Mod_lattice_21 rfl (by omega) ?_ | refine G_isub 22 d_Mod_lattice_21 rfl ?_
    refine G_i2l 23 d_Mod_lattice_22 rfl ?_
    refine G_invS3b 26 d_Mod_lattice_23 rfl e_Mod_139 M_Mod_in (Nat.le_of_ble_eq_true rfl) (Nat.le_of_ble_eq_true rfl) rfl (s_mIn) (fun h23 => G_ifeq1 29 d_Mod_lattice_26 43 rfl rfl ?_) (fun h23 => G_ifeq0 29 d_Mod_lattice_26 43 rfl rfl ?_)
    · obtain ⟨l, hl, rfl⟩ := (inR hm7).mp h23
      have q2 := bN_t hl (show (laG (tG S) 1).1 < 2 ^ 31 by omega)
      have z2 := ni_nI (show l < 2 ^ 31 by omega)
      have eb := k.bs l g hl (by omega)
      simp only [fLattice, q1, q2, z1, z2, Bool.and_self, if_true]
      refine G_aload0 30 d_Mod_lattice_29 rfl ?_
      refine G_getR 33 d_Mod_lattice_30 rfl f_Mod_103 rfl h.sh h.f44 ?_
      refine G_bipushN 7 35 d_Mod_lattice_33 rfl rfl ?_
      refine G_iload1 36 d_Mod_lattice_35 rfl ?_
      first | refine G_imulN 37 d_Mod_lattice_36 rfl ?_ | refine G_imul 37 d_Mod_lattice_36 rfl ?_
      refine G_iload2 38 d_Mod_lattice_37 rfl ?_
      first | refine G_iaddN 39 d_Mod_lattice_38 rfl ?_ | refine G_iadd 39 d_Mod_lattice_38 rfl ?_
      refine G_laloadv 40 d_Mod_lattice_39 rfl h.s44 (ix_nI (by omega) (by omega)) eb ?_
      refine G_goto 46 d_Mod_lattice_40 rfl ?_
      refine G_lret d_Mod_lattice_46 rfl ?_
      exact ⟨rfl, rfl, hI2, hF2⟩
    · have q2 := bN_f (fun e => h23 ((inR hm7).mpr e)) (show (laG (tG S) 1).1 < 2 ^ 31 by omega)
      simp only [fLattice, q2, Bool.and_false, Bool.false_eq_true, if_false]
      refine G_ldc2 46 d_Mod_lattice_43 rfl k_Mod_235 ?_
      refine G_lret d_Mod_lattice_46 rfl ?_
      exact ⟨rfl, rfl, hI2, hF2⟩
  · have q1 := bN_f h7 (show gN (tG S) < 2 ^ 31 by omega)
    simp only [fLattice, q1, Bool.false_and, Bool.false_eq_true, if_false]
    refine G_ldc2 46 d_Mod_lattice_43 rfl k_Mod_235 ?_
    refine G_lret d_Mod_lattice_46 rfl ?_
    exact ⟨rfl, rfl, hI2, hF2⟩
theorem m_span {V : GV} {d b : Nat} {S : ST} {x y : Int32} {X : XT} {FI AI : FT} {AL : LT} (h : MO X b) (hI : MIv S FI AI AL b) (hW : WS S) : G V m_Mod_span (d + 4) 0 [some (.ref b), some (.int x), some (.int y)] [] X FI AI AL (fun r X' FI' AI' AL' => r = some (.long (fSpan S x y).1) ∧ X' = X ∧ MIv (fSpan S x y).2 FI' AI' AL' b ∧ fM FI FI' AI AI' AL AL' b) := by
  have ky : ((0 : Int64).toInt ≤ y.toInt64.toInt ∧ y.toInt64.toInt ≤ (2 : Int64).toInt) ↔ isN y 3 := by
    rw [toL, isN_iff (by omega), show (0 : Int64).toInt = 0 from rfl, show (2 : Int64).toInt = 2 from rfl]; omega
  have hlb := s_layS (V := V) (d := d) (w := 0) h hI hW (by omega)
  refine G_aload0 1 d_Mod_span_0 rfl ?_
  refine G_iconstN 0 2 d_Mod_span_1 rfl rfl ?_
  refine G_invV1 5 d_Mod_span_2 rfl e_Mod_429 M_Mod_layBasis rfl h.sh (Nat.le_of_ble_eq_true rfl) (Nat.le_of_ble_eq_true rfl) rfl (G.conseq (hlb) (fun r2 X2 FI2 AI2 AL2 h2 => ?_))
  obtain ⟨a1, a2, k⟩ := h2
  replace a2 := a2.symm
  subst a1 a2
  obtain ⟨hI2, hF2⟩ := k.mi hI
  have r46 := k.rk
  have hm7 := k.le
  refine G_iload2 6 d_Mod_span_5 rfl ?_
  refine G_i2l 7 d_Mod_span_6 rfl ?_
  refine G_lconst 0 8 d_Mod_span_7 rfl rfl ?_
  refine G_ldc2 11 d_Mod_span_8 rfl k_Mod_180 ?_
  refine G_invS3b 14 d_Mod_span_11 rfl e_Mod_139 M_Mod_in (Nat.le_of_ble_eq_true rfl) (Nat.le_of_ble_eq_true rfl) rfl (s_mIn) (fun h11 => G_ifeq1 17 d_Mod_span_14 47 rfl rfl ?_) (fun h11 => G_ifeq0 17 d_Mod_span_14 47 rfl rfl ?_)
  · obtain ⟨g, hg, rfl⟩ := ky.mp h11
    have q1 := bN_t hg (show 3 < 2 ^ 31 by omega)
    have z1 := ni_nI (show g < 2 ^ 31 by omega)
    refine G_iload1 18 d_Mod_span_17 rfl ?_
    refine G_i2l 19 d_Mod_span_18 rfl ?_
    refine G_lconst 0 20 d_Mod_span_19 rfl rfl ?_
    refine G_aload0 21 d_Mod_span_20 rfl ?_
    refine G_getIv 24 d_Mod_span_21 rfl f_Mod_426 rfl h.sh r46 ?_
    refine G_iconstN 1 25 d_Mod_span_24 rfl rfl ?_
    first | refine G_isubN 26 d_Mod_span_25 rfl (by omega) ?_ | refine G_isub 26 d_Mod_span_25 rfl ?_
    refine G_i2l 27 d_Mod_span_26 rfl ?_
    refine G_invS3b 30 d_Mod_span_27 rfl e_Mod_139 M_Mod_in (Nat.le_of_ble_eq_true rfl) (Nat.le_of_ble_eq_true rfl) rfl (s_mIn) (fun h27 => G_ifeq1 33 d_Mod_span_30 47 rfl rfl ?_) (fun h27 => G_ifeq0 33 d_Mod_span_30 47 rfl rfl ?_)
    · obtain ⟨l, hl, rfl⟩ := (inR hm7).mp h27
      have q2 := bN_t hl (show (laG (tG S) 0).1 < 2 ^ 31 by omega)
      have z2 := ni_nI (show l < 2 ^ 31 by omega)
      have eb := k.bs l g hl (by omega)
      simp only [fSpan, q1, q2, z1, z2, Bool.and_self, if_true]
      refine G_aload0 34 d_Mod_span_33 rfl ?_
      refine G_getR 37 d_Mod_span_34 rfl f_Mod_103 rfl h.sh h.f44 ?_
      refine G_bipushN 7 39 d_Mod_span_37 rfl rfl ?_
      refine G_iload1 40 d_Mod_span_39 rfl ?_
      first | refine G_imulN 41 d_Mod_span_40 rfl ?_ | refine G_imul 41 d_Mod_span_40 rfl ?_
      refine G_iload2 42 d_Mod_span_41 rfl ?_
      first | refine G_iaddN 43 d_Mod_span_42 rfl ?_ | refine G_iadd 43 d_Mod_span_42 rfl ?_
      refine G_laloadv 44 d_Mod_span_43 rfl h.s44 (ix_nI (by omega) (by omega)) eb ?_
      refine G_goto 50 d_Mod_span_44 rfl ?_
      refine G_lret d_Mod_span_50 rfl ?_
      exact ⟨rfl, rfl, hI2, hF2⟩
    · have q2 := bN_f (fun e => h27 ((inR hm7).mpr e)) (show (laG (tG S) 0).1 < 2 ^ 31 by omega)
      simp only [fSpan, q2, Bool.and_false, Bool.false_eq_true, if_false]
      refine G_ldc2 50 d_Mod_span_47 rfl k_Mod_235 ?_
      refine G_lret d_Mod_span_50 rfl ?_
      exact ⟨rfl, rfl, hI2, hF2⟩
  · have q1 := bN_f (fun e => h11 (ky.mpr e)) (show 3 < 2 ^ 31 by omega)
    simp only [fSpan, q1, Bool.false_and, Bool.false_eq_true, if_false]
    refine G_ldc2 50 d_Mod_span_47 rfl k_Mod_235 ?_
    refine G_lret d_Mod_span_50 rfl ?_
    exact ⟨rfl, rfl, hI2, hF2⟩
theorem m_index {V : GV} {d b : Nat} {S : ST} {X : XT} {FI AI : FT} {AL : LT} (h : MO X b) (hI : MIv S FI AI AL b) (hW : WS S) : G V m_Mod_index (d + 4) 0 [some (.ref b), none, none, none] [] X FI AI AL (fun r X' FI' AI' AL' => r = some (.long (fIndex S).1) ∧ X' = X ∧ MIv (fIndex S).2 FI' AI' AL' b ∧ fM FI FI' AI AI' AL AL' b) := by
  have hlb := s_layS (V := V) (d := d) (w := 0) h hI hW (by omega)
  refine G_aload0 1 d_Mod_index_0 rfl ?_
  refine G_iconstN 0 2 d_Mod_index_1 rfl rfl ?_
  refine G_invV1 5 d_Mod_index_2 rfl e_Mod_429 M_Mod_layBasis rfl h.sh (Nat.le_of_ble_eq_true rfl) (Nat.le_of_ble_eq_true rfl) rfl (G.conseq (hlb) (fun r2 X2 FI2 AI2 AL2 h2 => ?_))
  obtain ⟨a1, a2, k⟩ := h2
  replace a2 := a2.symm
  subst a1 a2
  obtain ⟨hI2, hF2⟩ := k.mi hI
  have r46 := k.rk
  have hm7 := k.le
  have L : ∀ i, i ≤ (laG (tG S) 0).1 → G V m_Mod_index (d + 4) 9 [some (.ref b), some (.long (pdF (laG (tG S) 0).2.1 (laG (tG S) 0).2.2 i)), none, some (.int (nI i))] [] X FI2 AI2 AL2 (fun r X' FI' AI' AL' => r = some (.long (fIndex S).1) ∧ X' = X ∧ MIv (fIndex S).2 FI' AI' AL' b ∧ fM FI FI' AI AI' AL AL' b) := by
    refine upto ?_ ?_
    · refine G_iload3 10 d_Mod_index_9 rfl ?_
      refine G_aload0 11 d_Mod_index_10 rfl ?_
      refine G_getIv 14 d_Mod_index_11 rfl f_Mod_426 rfl h.sh r46 ?_
      first | refine G_icgeN 42 17 d_Mod_index_14 rfl rfl (by omega) (by omega) (fun h14 => ?_) (fun h14 => ?_) | refine G_icge 42 17 d_Mod_index_14 rfl rfl (fun h14 => ?_) (fun h14 => ?_)
      · refine G_aload0 43 d_Mod_index_42 rfl ?_
        refine G_getIv 46 d_Mod_index_43 rfl f_Mod_426 rfl h.sh r46 ?_
        refine G_iconstN 3 47 d_Mod_index_46 rfl rfl ?_
        first | refine G_icneN 54 50 d_Mod_index_47 rfl rfl (by omega) (by omega) (fun h47 => ?_) (fun h47 => ?_) | refine G_icne 54 50 d_Mod_index_47 rfl rfl (fun h47 => ?_) (fun h47 => ?_)
        · have e : (fIndex S).1 = 0 := if_neg h47
          refine G_lconst 0 55 d_Mod_index_54 rfl rfl ?_
          refine G_lret d_Mod_index_55 rfl ?_
          exact ⟨by rw [e], rfl, hI2, hF2⟩
        · have e : (fIndex S).1 = pdF (laG (tG S) 0).2.1 (laG (tG S) 0).2.2 (laG (tG S) 0).1 := by unfold fIndex; rw [if_pos h47, h47]
          refine G_lload1 51 d_Mod_index_50 rfl ?_
          refine G_goto 55 d_Mod_index_51 rfl ?_
          refine G_lret d_Mod_index_55 rfl ?_
          exact ⟨by rw [e], rfl, hI2, hF2⟩
      · omega
    · intro i hi ih
      obtain ⟨p1, p2, p3⟩ := k.pv i hi
      have eb := k.bs i _ hi p2
      refine G_iload3 10 d_Mod_index_9 rfl ?_
      refine G_aload0 11 d_Mod_index_10 rfl ?_
      refine G_getIv 14 d_Mod_index_11 rfl f_Mod_426 rfl h.sh r46 ?_
      first | refine G_icgeN 42 17 d_Mod_index_14 rfl rfl (by omega) (by omega) (fun h14 => ?_) (fun h14 => ?_) | refine G_icge 42 17 d_Mod_index_14 rfl rfl (fun h14 => ?_) (fun h14 => ?_)
      · omega
      · refine G_lload1 18 d_Mod_index_17 rfl ?_
        refine G_aload0 19 d_Mod_index_18 rfl ?_
        refine G_getR 22 d_Mod_index_19 rfl f_Mod_103 rfl h.sh h.f44 ?_
        refine G_bipushN 7 24 d_Mod_index_22 rfl rfl ?_
        refine G_iload3 25 d_Mod_index_24 rfl ?_
        first | refine G_imulN 26 d_Mod_index_25 rfl ?_ | refine G_imul 26 d_Mod_index_25 rfl ?_
        refine G_aload0 27 d_Mod_index_26 rfl ?_
        refine G_getR 30 d_Mod_index_27 rfl f_Mod_106 rfl h.sh h.f45 ?_
        refine G_iload3 31 d_Mod_index_30 rfl ?_
        refine G_ialoadv 32 d_Mod_index_31 rfl h.s45 (ix_nI (by omega) (by omega)) p1 ?_
        first | refine G_iaddN 33 d_Mod_index_32 rfl ?_ | refine G_iadd 33 d_Mod_index_32 rfl ?_
        refine G_laloadv 34 d_Mod_index_33 rfl h.s44 (ix_nI (by omega) (by omega)) eb ?_
        refine G_lmul 35 d_Mod_index_34 rfl ?_
        refine G_lstore1 36 d_Mod_index_35 rfl (by decide) rfl ?_
        first | refine G_iincN3 39 d_Mod_index_36 rfl (by decide) rfl ?_ | refine G_iinc3 _ 39 d_Mod_index_36 rfl (by decide) rfl rfl ?_
        refine G_goto 9 d_Mod_index_39 rfl ?_
        exact ih
  refine G_lconst 1 6 d_Mod_index_5 rfl rfl ?_
  refine G_lstore1 7 d_Mod_index_6 rfl (by decide) rfl ?_
  refine G_iconstN 0 8 d_Mod_index_7 rfl rfl ?_
  refine G_istore3 9 d_Mod_index_8 rfl (by decide) rfl ?_
  exact L 0 (by omega)
