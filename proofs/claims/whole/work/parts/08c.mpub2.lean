/-! ===== the reference: further calls on POLYNOMIALS ===== -/
theorem MIv.gw {S : ST} {G' : GT} {FI FI' AI AI' : FT} {AL AL' : LT} {b : Nat} (h : MIv S FI AI AL b) (k : gwF FI FI' AI AI' AL AL' b) (hG : MGs FI' AI' AL' b (tO S) G') : MIv (stG S G') FI' AI' AL' b := by
  obtain ⟨-, a1, a2, a3, a4, a5, a6⟩ := h
  obtain ⟨k1, k2, k3, k4⟩ := k
  refine ⟨hG, by rw [k1 b 8 (by omega)]; exact a1, fun s hs => by rw [k4 s (by omega) (by omega)]; exact a2 s hs, ⟨by rw [k1 b 23 (by omega)]; exact a3.1, fun e => ⟨by rw [k1 b 24 (by omega)]; exact (a3.2 e).1, fun i q hq => ?_⟩⟩, fun i hi => ⟨by rw [k2 _ (by omega)]; exact (a4 i hi).1, by rw [k2 _ (by omega)]; exact (a4 i hi).2.1, fun j hj => by rw [k2 _ (by omega)]; exact (a4 i hi).2.2 j hj⟩, ⟨by rw [k1 b 48 (by omega)]; exact a5.1, fun l hl => ⟨by rw [k2 _ (by omega)]; exact (a5.2 l hl).1, by rw [k2 _ (by omega)]; exact (a5.2 l hl).2.1, fun e t ht => by rw [k3 _ (by omega) (by omega) (by omega)]; exact (a5.2 l hl).2.2 e t ht⟩⟩, ?_⟩
  · have := (a3.2 e).2 i q hq
    exact ⟨by rw [k3 _ (by omega) (by omega) (by omega)]; exact this.1, fun f hf => by rw [k2 _ (by omega)]; exact this.2 f hf⟩
  · show match tX S with
      | none => _
      | some k => _
    cases hk : tX S with
    | none => rw [hk] at a6; rw [k1 b 19 (by omega)]; exact a6
    | some q =>
      rw [hk] at a6
      obtain ⟨c1, c2, c3, c4, c5⟩ := a6
      refine ⟨by rw [k1 b 19 (by omega)]; exact c1, fun s t hs ht => by rw [k3 _ (by omega) (by omega) (by omega)]; exact c2 s t hs ht, by rw [k1 b 17 (by omega)]; exact c3, by rw [k1 b 18 (by omega)]; exact c4, fun g hg => ⟨fun t ht => by rw [k3 _ (by omega) (by omega) (by omega)]; exact (c5 g hg).1 t ht, by rw [k2 _ (by omega)]; exact (c5 g hg).2.1, fun i hi => ⟨by rw [k3 _ (by omega) (by omega) (by omega)]; exact ((c5 g hg).2.2 i hi).1, fun f hf => by rw [k2 _ (by omega)]; exact ((c5 g hg).2.2 i hi).2 f hf⟩⟩⟩
theorem gwF.fm {FI FI' AI AI' : FT} {AL AL' : LT} {b : Nat} (k : gwF FI FI' AI AI' AL AL' b) : fM FI FI' AI AI' AL AL' b := fun c hc => ⟨funext (fun j => k.1 c j (by omega)), k.2.1 c (by omega), k.2.2.1 c (by omega) (by omega) (by omega)⟩
theorem prodA_neg (x y : Int64) : prodA x y < 0 ↔ prodA x y = -1 := by
  constructor
  · intro h
    unfold prodA at h ⊢
    split at h
    · exact absurd h (by decide)
    · next c0 =>
      rw [if_neg c0]
      split at h
      · next c => rw [if_pos c]
      · next c =>
        exfalso
        have c1 : ¬ x < 0 := fun e => c (Or.inl e)
        have c2 : ¬ y < 0 := fun e => c (Or.inr (Or.inl e))
        have c3 : ¬ (9223372036854775807 / y < x) := fun e => c (Or.inr (Or.inr e))
        have y0 : y ≠ 0 := fun e => c0 (Or.inr e)
        rw [Int64.lt_iff_toInt_lt] at h c1 c2 c3
        have z : (0 : Int64).toInt = 0 := rfl
        have m : (9223372036854775807 : Int64).toInt = 9223372036854775807 := rfl
        rw [z] at h c1 c2
        have hy : 0 < y.toInt := by
          rcases Int.lt_or_eq_of_le (Int.not_lt.mp c2) with e | e
          · exact e
          · exact absurd (Int64.toInt_inj.mp (by rw [z]; exact e.symm)) y0
        rw [Int64.toInt_div, m] at c3
        have hq : (9223372036854775807 : Int).tdiv y.toInt = 9223372036854775807 / y.toInt := Int.tdiv_eq_ediv_of_nonneg (by omega)
        have hq1 : 9223372036854775807 / y.toInt ≤ 9223372036854775807 := Int.ediv_le_self _ (by omega)
        have hq0 : 0 ≤ 9223372036854775807 / y.toInt := Int.ediv_nonneg (by omega) (by omega)
        rw [hq, Int.bmod_eq_of_le_mul_two (by omega) (by omega)] at c3
        have h1 : x.toInt * y.toInt ≤ 9223372036854775807 := by
          have := (Int.le_ediv_iff_mul_le hy).mp (Int.not_lt.mp c3)
          exact this
        have h0 : 0 ≤ x.toInt * y.toInt := Int.mul_nonneg (by omega) (by omega)
        rw [Int64.toInt_mul, Int.bmod_eq_of_le_mul_two (by omega) (by omega)] at h
        omega
  · intro h; rw [h]; decide
def fTimes (S : ST) (s t : Int32) : Int32 × ST := if (bN s 6 && bN t 6) = true then
    (if 0 < deg1 (tS S (ni s)) ∧ 0 < deg1 (tS S (ni t)) ∧ 8 < deg1 (tS S (ni s)) + deg1 (tS S (ni t)) then (-6, S) else
      if prodA (norm (tS S (ni s))) (norm (tS S (ni t))) < 0 then (-5, S) else
        (nI (cnt (mulP (tS S (ni s)) (tS S (ni t)))), set1 S (ni s) (mulP (tS S (ni s)) (tS S (ni t)))))
  else (-1, S)
def evP (f : Nat → Int64) : Nat → Nat → Int64
  | 0 => fun _ => 0
  | k + 1 => addP (evP f k) (trn f k) 1
theorem cu_evP (f : Nat → Int64) : ∀ k, cu (evP f k) = evP f k
  | 0 => by funext j; unfold cu evP; split <;> rfl
  | k + 1 => by rw [evP, cu_addP, cu_evP f k, cu_trn]
def fEven (S : ST) (s : Int32) : Int32 × ST := if bN s 6 = true then
    (if prodA 6 (norm (tS S (ni s))) < 0 then (-5, S) else (nI (cnt (evP (tS S (ni s)) 6)), set1 S (ni s) (evP (tS S (ni s)) 6)))
  else (-1, S)
def lkB (f g : Nat → Int64) : Bool := (List.range 84).all (fun j => decide (f j = g j))
theorem lkB_iff {f g : Nat → Int64} : lkB f g = true ↔ like f g := by
  unfold lkB like
  rw [List.all_eq_true]
  exact ⟨fun h j hj => of_decide_eq_true (h j (List.mem_range.mpr hj)), fun h j hj => decide_eq_true (h j (List.mem_range.mp hj))⟩
theorem lkB_f {f g : Nat → Int64} (h : ¬ like f g) : lkB f g = false := by
  cases e : lkB f g
  · rfl
  · exact absurd (lkB_iff.mp e) h
/-- the first slot that is like slot s, of the last m + 1 ahead of it -/
def lkS (sl : Nat → Nat → Int64) (s : Nat) : Nat → Nat
  | 0 => s
  | m + 1 => if lkB (sl (s - (m + 1))) (sl s) = true then s - (m + 1) else lkS sl s m
def fLike (S : ST) (s : Int32) : Int32 × ST := if bN s 6 = true then (nI (lkS (tS S) (ni s) (ni s)), S) else (-1, S)
def fOrder (S : ST) (o : Int32) : Int32 × ST := if bN o 3 = true then (if 0 < gN (tG S) then (-3, S) else (nI (tO S), stO S (ni o))) else (-1, S)
theorem m_times {V : GV} {d b : Nat} {S : ST} {s t : Int32} {X : XT} {FI AI : FT} {AL : LT} (h : MO X b) (hI : MIv S FI AI AL b) (hW : WS S) : G V m_Mod_times (d + 3) 0 [some (.ref b), some (.int s), some (.int t)] [] X FI AI AL (fun r X' FI' AI' AL' => r = some (.int (fTimes S s t).1) ∧ X' = X ∧ MIv (fTimes S s t).2 FI' AI' AL' b ∧ fM FI FI' AI AI' AL AL' b) := by
  obtain ⟨hG, hO, hSl, -⟩ := id hI
  have hT := hG.1
  have hn9 := hG.2.1
  have ho := hG.2.2.1
  have hrk := hG.2.2.2.1
  have hn7 := hW.2.1.1
  refine G_iload1 1 d_Mod_times_0 rfl ?_
  refine G_invS1b 4 d_Mod_times_1 rfl e_Mod_182 M_Mod_isSlot (Nat.le_of_ble_eq_true rfl) (Nat.le_of_ble_eq_true rfl) rfl (s_mIsSlot) (fun h1 => G_ifeq1 7 d_Mod_times_4 14 rfl rfl ?_) (fun h1 => G_ifeq0 7 d_Mod_times_4 14 rfl rfl ?_)
  · obtain ⟨k, hk, rfl⟩ := h1
    have q1 := bN_t hk (show 6 < 2 ^ 31 by omega)
    have z1 := ni_nI (show k < 2 ^ 31 by omega)
    refine G_iload2 8 d_Mod_times_7 rfl ?_
    refine G_invS1b 11 d_Mod_times_8 rfl e_Mod_182 M_Mod_isSlot (Nat.le_of_ble_eq_true rfl) (Nat.le_of_ble_eq_true rfl) rfl (s_mIsSlot) (fun h8 => G_ifne1 14 d_Mod_times_11 16 rfl rfl ?_) (fun h8 => G_ifne0 14 d_Mod_times_11 16 rfl rfl ?_)
    · obtain ⟨l, hl, rfl⟩ := h8
      have q2 := bN_t hl (show 6 < 2 ^ 31 by omega)
      have z2 := ni_nI (show l < 2 ^ 31 by omega)
      simp only [fTimes, q1, q2, z1, z2, Bool.and_self, if_true, ← hSl k hk, ← hSl l hl]
      have dk := pdeg_le (mp AL b k) 84 (by omega)
      have dl' := pdeg_le (mp AL b l) 84 (by omega)
      have rest : ¬ (0 < deg1 (mp AL b k) ∧ 0 < deg1 (mp AL b l) ∧ 8 < deg1 (mp AL b k) + deg1 (mp AL b l)) → G V m_Mod_times (d + 3) 51 [some (.ref b), some (.int (nI k)), some (.int (nI l))] [] X FI AI AL (fun r X' FI' AI' AL' => r = some (.int (if prodA (norm (mp AL b k)) (norm (mp AL b l)) < 0 then (-5, S) else (nI (cnt (mulP (mp AL b k) (mp AL b l))), set1 S k (mulP (mp AL b k) (mp AL b l)))).1) ∧ X' = X ∧ MIv (if prodA (norm (mp AL b k)) (norm (mp AL b l)) < 0 then (-5, S) else (nI (cnt (mulP (mp AL b k) (mp AL b l))), set1 S k (mulP (mp AL b k) (mp AL b l)))).2 FI' AI' AL' b ∧ fM FI FI' AI AI' AL AL' b) := by
        intro hdg
        have hmul : ∀ t u, t < 84 → u < 84 → mp AL b k t ≠ 0 → mp AL b l u ≠ 0 → eD t + eD u ≤ 6 := fun t u ht hu a1 a2 => by
          have b1 := deg1_lt 84 t (Nat.le_refl _) ht a1
          have b2 := deg1_lt 84 u (Nat.le_refl _) hu a2
          unfold deg1 at hdg
          omega
        have hm := s_mMultiply (V := V) (d := d) (p := k) (q := l) (r := 13) (FI := FI) (AL := AL) h hT (by omega) (by omega) (by omega) (by omega) (by omega) hmul
        refine G_aload0 52 d_Mod_times_51 rfl ?_
        refine G_iload1 53 d_Mod_times_52 rfl ?_
        refine G_invV1d 56 d_Mod_times_53 rfl e_Mod_194 M_Mod_normOf rfl h.sh (Nat.le_of_ble_eq_true rfl) (Nat.le_of_ble_eq_true rfl) rfl (s_mNorm (by assumption) (by omega)) ?_
        refine G_aload0 57 d_Mod_times_56 rfl ?_
        refine G_iload2 58 d_Mod_times_57 rfl ?_
        refine G_invV1d 61 d_Mod_times_58 rfl e_Mod_194 M_Mod_normOf rfl h.sh (Nat.le_of_ble_eq_true rfl) (Nat.le_of_ble_eq_true rfl) rfl (s_mNorm (by assumption) (by omega)) ?_
        refine G_invS2d 64 d_Mod_times_61 rfl e_Mod_205 M_Mod_timesUp (Nat.le_of_ble_eq_true rfl) (Nat.le_of_ble_eq_true rfl) rfl (s_mTimesUp) ?_
        refine G_lconst 0 65 d_Mod_times_64 rfl rfl ?_
        refine G_lcge 72 69 d_Mod_times_65 d_Mod_times_66 rfl rfl (fun h65 => ?_) (fun h65 => ?_)
        · have hlt : ¬ prodA (norm (mp AL b k)) (norm (mp AL b l)) < 0 := h65
          simp only [if_neg hlt]
          refine G_aload0 73 d_Mod_times_72 rfl ?_
          refine G_iload1 74 d_Mod_times_73 rfl ?_
          refine G_iload2 75 d_Mod_times_74 rfl ?_
          refine G_bipushN 13 77 d_Mod_times_75 rfl rfl ?_
          refine G_invV3v 80 d_Mod_times_77 rfl e_Mod_216 M_Mod_multiply rfl h.sh (Nat.le_of_ble_eq_true rfl) (Nat.le_of_ble_eq_true rfl) rfl (hm) ?_
          refine G_aload0 81 d_Mod_times_80 rfl ?_
          refine G_bipushN 13 83 d_Mod_times_81 rfl rfl ?_
          refine G_iload1 84 d_Mod_times_83 rfl ?_
          refine G_invV2v 87 d_Mod_times_84 rfl e_Mod_208 M_Mod_copyTo rfl h.sh (Nat.le_of_ble_eq_true rfl) (Nat.le_of_ble_eq_true rfl) rfl (s_mCopy (by assumption) (by omega) (by omega)) ?_
          refine G_aload0 88 d_Mod_times_87 rfl ?_
          refine G_iload1 89 d_Mod_times_88 rfl ?_
          refine G_invV1d 92 d_Mod_times_89 rfl e_Mod_202 M_Mod_termsIn rfl h.sh (Nat.le_of_ble_eq_true rfl) (Nat.le_of_ble_eq_true rfl) rfl (s_mTerms (by assumption) (by omega)) ?_
          refine G_iret d_Mod_times_92 rfl ?_
          have e1 : mp (sp (sp AL b 13 (mulP (mp AL b k) (mp AL b l))) b k (mp (sp AL b 13 (mulP (mp AL b k) (mp AL b l))) b 13)) b k = mulP (mp AL b k) (mp AL b l) := by rw [mp_sp, mp_cu, mp_sp, cu_mulP]
          exact ⟨by rw [e1], rfl, hI.s1 hW hk (fun c hc => by rw [sp_off hc, sp_off hc]) e1 (fun p h13 hp => by rw [mp_spn hp, mp_spn (by omega)]), fM.al (fun c hc => by rw [sp_off hc, sp_off hc])⟩
        · have hlt : prodA (norm (mp AL b k)) (norm (mp AL b l)) < 0 := h65
          simp only [if_pos hlt]
          refine G_bipush (-5) 71 d_Mod_times_69 rfl rfl ?_
          refine G_iret d_Mod_times_71 rfl ?_
          exact ⟨rfl, rfl, hI, fM.rf⟩
      refine G_aload0 17 d_Mod_times_16 rfl ?_
      refine G_iload1 18 d_Mod_times_17 rfl ?_
      refine G_invV1d 21 d_Mod_times_18 rfl e_Mod_166 M_Mod_degreeAt rfl h.sh (Nat.le_of_ble_eq_true rfl) (Nat.le_of_ble_eq_true rfl) rfl (s_mDegree (by assumption) (by assumption) (by omega)) ?_
      rcases Nat.eq_zero_or_pos (deg1 (mp AL b k)) with c1 | c1
      · have hno : ¬ (0 < deg1 (mp AL b k) ∧ 0 < deg1 (mp AL b l) ∧ 8 < deg1 (mp AL b k) + deg1 (mp AL b l)) := by omega
        simp only [if_neg hno]
        rw [c1, dI_0]
        first | refine G_ifltD 51 24 d_Mod_times_21 rfl rfl (by omega) (fun h21 => ?_) (fun j h21 => ?_) | refine G_iflt 51 24 d_Mod_times_21 rfl rfl (fun h21 => ?_) (fun h21 => ?_)
        · exact rest hno
        · exact absurd (by decide) h21
      · obtain ⟨i, hi⟩ : ∃ i, deg1 (mp AL b k) = i + 1 := ⟨deg1 (mp AL b k) - 1, by omega⟩
        rw [hi, dI_s]
        first | refine G_ifltD 51 24 d_Mod_times_21 rfl rfl (by omega) (fun h21 => ?_) (fun j h21 => ?_) | refine G_iflt 51 24 d_Mod_times_21 rfl rfl (fun h21 => ?_) (fun h21 => ?_)
        · exact absurd h21 (nI_pos (by unfold deg1 at hi; omega))
        · refine G_aload0 25 d_Mod_times_24 rfl ?_
          refine G_iload2 26 d_Mod_times_25 rfl ?_
          refine G_invV1d 29 d_Mod_times_26 rfl e_Mod_166 M_Mod_degreeAt rfl h.sh (Nat.le_of_ble_eq_true rfl) (Nat.le_of_ble_eq_true rfl) rfl (s_mDegree (by assumption) (by assumption) (by omega)) ?_
          rcases Nat.eq_zero_or_pos (deg1 (mp AL b l)) with c2 | c2
          · have hno : ¬ (0 < i + 1 ∧ 0 < deg1 (mp AL b l) ∧ 8 < i + 1 + deg1 (mp AL b l)) := by omega
            simp only [if_neg hno]
            rw [c2, dI_0]
            first | refine G_ifltD 51 32 d_Mod_times_29 rfl rfl (by omega) (fun h29 => ?_) (fun j h29 => ?_) | refine G_iflt 51 32 d_Mod_times_29 rfl rfl (fun h29 => ?_) (fun h29 => ?_)
            · exact rest (by omega)
            · exact absurd (by decide) h29
          · obtain ⟨j, hj⟩ : ∃ j, deg1 (mp AL b l) = j + 1 := ⟨deg1 (mp AL b l) - 1, by omega⟩
            have hi7 : i + 1 ≤ 7 := by rw [← hi]; exact dk
            have hj7 : j + 1 ≤ 7 := by rw [← hj]; exact dl'
            rw [hj, dI_s]
            first | refine G_ifltD 51 32 d_Mod_times_29 rfl rfl (by omega) (fun h29 => ?_) (fun j h29 => ?_) | refine G_iflt 51 32 d_Mod_times_29 rfl rfl (fun h29 => ?_) (fun h29 => ?_)
            · exact absurd h29 (nI_pos (by omega))
            · refine G_aload0 33 d_Mod_times_32 rfl ?_
              refine G_iload1 34 d_Mod_times_33 rfl ?_
              refine G_invV1d 37 d_Mod_times_34 rfl e_Mod_166 M_Mod_degreeAt rfl h.sh (Nat.le_of_ble_eq_true rfl) (Nat.le_of_ble_eq_true rfl) rfl (s_mDegree (by assumption) (by assumption) (by omega)) ?_
              rw [hi, dI_s]
              refine G_aload0 38 d_Mod_times_37 rfl ?_
              refine G_iload2 39 d_Mod_times_38 rfl ?_
              refine G_invV1d 42 d_Mod_times_39 rfl e_Mod_166 M_Mod_degreeAt rfl h.sh (Nat.le_of_ble_eq_true rfl) (Nat.le_of_ble_eq_true rfl) rfl (s_mDegree (by assumption) (by assumption) (by omega)) ?_
              rw [hj, dI_s]
              first | refine G_iaddN 43 d_Mod_times_42 rfl ?_ | refine G_iadd 43 d_Mod_times_42 rfl ?_
              refine G_bipushN 6 45 d_Mod_times_43 rfl rfl ?_
              first | refine G_icleN 51 48 d_Mod_times_45 rfl rfl (by omega) (by omega) (fun h45 => ?_) (fun h45 => ?_) | refine G_icle 51 48 d_Mod_times_45 rfl rfl (fun h45 => ?_) (fun h45 => ?_)
              · have hno : ¬ (0 < i + 1 ∧ 0 < j + 1 ∧ 8 < i + 1 + (j + 1)) := by omega
                simp only [if_neg hno]
                exact rest (by omega)
              · have hyes : 0 < i + 1 ∧ 0 < j + 1 ∧ 8 < i + 1 + (j + 1) := by omega
                simp only [if_pos hyes]
                refine G_bipush (-6) 50 d_Mod_times_48 rfl rfl ?_
                refine G_iret d_Mod_times_50 rfl ?_
                exact ⟨rfl, rfl, hI, fM.rf⟩
    · have q2 := bN_f h8 (show 6 < 2 ^ 31 by omega)
      simp only [fTimes, q2, Bool.and_false, Bool.false_eq_true, if_false]
      refine G_iconst (-1) 15 d_Mod_times_14 rfl rfl ?_
      refine G_iret d_Mod_times_15 rfl ?_
      exact ⟨rfl, rfl, hI, fM.rf⟩
  · have q1 := bN_f h1 (show 6 < 2 ^ 31 by omega)
    simp only [fTimes, q1, Bool.false_and, Bool.false_eq_true, if_false]
    refine G_iconst (-1) 15 d_Mod_times_14 rfl rfl ?_
    refine G_iret d_Mod_times_15 rfl ?_
    exact ⟨rfl, rfl, hI, fM.rf⟩
theorem m_even {V : GV} {d b : Nat} {S : ST} {s : Int32} {X : XT} {FI AI : FT} {AL : LT} (h : MO X b) (hI : MIv S FI AI AL b) (hW : WS S) : G V m_Mod_even (d + 3) 0 [some (.ref b), some (.int s), none] [] X FI AI AL (fun r X' FI' AI' AL' => r = some (.int (fEven S s).1) ∧ X' = X ∧ MIv (fEven S s).2 FI' AI' AL' b ∧ fM FI FI' AI AI' AL AL' b) := by
  obtain ⟨hG, hO, hSl, -⟩ := id hI
  have hT := hG.1
  have hn9 := hG.2.1
  have ho := hG.2.2.1
  have hrk := hG.2.2.2.1
  have hn7 := hW.2.1.1
  refine G_iload1 1 d_Mod_even_0 rfl ?_
  refine G_invS1b 4 d_Mod_even_1 rfl e_Mod_182 M_Mod_isSlot (Nat.le_of_ble_eq_true rfl) (Nat.le_of_ble_eq_true rfl) rfl (s_mIsSlot) (fun h1 => G_ifne1 7 d_Mod_even_4 9 rfl rfl ?_) (fun h1 => G_ifne0 7 d_Mod_even_4 9 rfl rfl ?_)
  · obtain ⟨k, hk, rfl⟩ := h1
    have q1 := bN_t hk (show 6 < 2 ^ 31 by omega)
    have z1 := ni_nI (show k < 2 ^ 31 by omega)
    simp only [fEven, q1, z1, if_true, ← hSl k hk]
    refine G_ldc2 12 d_Mod_even_9 rfl k_Mod_137 ?_
    refine G_aload0 13 d_Mod_even_12 rfl ?_
    refine G_iload1 14 d_Mod_even_13 rfl ?_
    refine G_invV1d 17 d_Mod_even_14 rfl e_Mod_194 M_Mod_normOf rfl h.sh (Nat.le_of_ble_eq_true rfl) (Nat.le_of_ble_eq_true rfl) rfl (s_mNorm (by assumption) (by omega)) ?_
    refine G_invS2d 20 d_Mod_even_17 rfl e_Mod_205 M_Mod_timesUp (Nat.le_of_ble_eq_true rfl) (Nat.le_of_ble_eq_true rfl) rfl (s_mTimesUp) ?_
    refine G_lconst 0 21 d_Mod_even_20 rfl rfl ?_
    refine G_lcge 28 25 d_Mod_even_21 d_Mod_even_22 rfl rfl (fun h21 => ?_) (fun h21 => ?_)
    · have hlt : ¬ prodA 6 (norm (mp AL b k)) < 0 := h21
      simp only [if_neg hlt]
      have L : ∀ i, i ≤ 6 → ∀ AJ : LT, (∀ c, c ≠ b + 1 → AJ c = AL c) → (∀ p, p < 13 → mp AJ b p = mp AL b p) → mp AJ b 14 = evP (mp AL b k) i → G V m_Mod_even (d + 3) 36 [some (.ref b), some (.int (nI k)), some (.int (nI i))] [] X FI AI AJ (fun r X' FI' AI' AL' => r = some (.int (nI (cnt (evP (mp AL b k) 6)))) ∧ X' = X ∧ MIv (set1 S k (evP (mp AL b k) 6)) FI' AI' AL' b ∧ fM FI FI' AI AI' AL AL' b) := by
        refine upto ?_ ?_
        · intro AJ j1 j2 j3
          refine G_iload2 37 d_Mod_even_36 rfl ?_
          refine G_bipushN 6 39 d_Mod_even_37 rfl rfl ?_
          first | refine G_icgeN 65 42 d_Mod_even_39 rfl rfl (by omega) (by omega) (fun h39 => ?_) (fun h39 => ?_) | refine G_icge 65 42 d_Mod_even_39 rfl rfl (fun h39 => ?_) (fun h39 => ?_)
          · refine G_aload0 66 d_Mod_even_65 rfl ?_
            refine G_bipushN 14 68 d_Mod_even_66 rfl rfl ?_
            refine G_iload1 69 d_Mod_even_68 rfl ?_
            refine G_invV2v 72 d_Mod_even_69 rfl e_Mod_208 M_Mod_copyTo rfl h.sh (Nat.le_of_ble_eq_true rfl) (Nat.le_of_ble_eq_true rfl) rfl (s_mCopy (by assumption) (by omega) (by omega)) ?_
            refine G_aload0 73 d_Mod_even_72 rfl ?_
            refine G_iload1 74 d_Mod_even_73 rfl ?_
            refine G_invV1d 77 d_Mod_even_74 rfl e_Mod_202 M_Mod_termsIn rfl h.sh (Nat.le_of_ble_eq_true rfl) (Nat.le_of_ble_eq_true rfl) rfl (s_mTerms (by assumption) (by omega)) ?_
            refine G_iret d_Mod_even_77 rfl ?_
            have e1 : mp (sp AJ b k (mp AJ b 14)) b k = evP (mp AL b k) 6 := by rw [mp_sp, mp_cu, j3]
            exact ⟨by rw [e1], rfl, hI.s1 hW hk (fun c hc => by rw [sp_off hc]; exact j1 c hc) e1 (fun p h13 hp => by rw [mp_spn hp]; exact j2 p h13), fM.al (fun c hc => by rw [sp_off hc]; exact j1 c hc)⟩
          · omega
        · intro i hi ih AJ j1 j2 j3
          refine G_iload2 37 d_Mod_even_36 rfl ?_
          refine G_bipushN 6 39 d_Mod_even_37 rfl rfl ?_
          first | refine G_icgeN 65 42 d_Mod_even_39 rfl rfl (by omega) (by omega) (fun h39 => ?_) (fun h39 => ?_) | refine G_icge 65 42 d_Mod_even_39 rfl rfl (fun h39 => ?_) (fun h39 => ?_)
          · omega
          · refine G_aload0 43 d_Mod_even_42 rfl ?_
            refine G_iload1 44 d_Mod_even_43 rfl ?_
            refine G_iload2 45 d_Mod_even_44 rfl ?_
            refine G_bipushN 13 47 d_Mod_even_45 rfl rfl ?_
            refine G_invV3v 50 d_Mod_even_47 rfl e_Mod_229 M_Mod_turnTo rfl h.sh (Nat.le_of_ble_eq_true rfl) (Nat.le_of_ble_eq_true rfl) rfl (s_mTurnTo (by assumption) (by assumption) (by omega) (by omega) (by omega) (by omega)) ?_
            refine G_aload0 51 d_Mod_even_50 rfl ?_
            refine G_bipushN 14 53 d_Mod_even_51 rfl rfl ?_
            refine G_bipushN 13 55 d_Mod_even_53 rfl rfl ?_
            refine G_lconst 1 56 d_Mod_even_55 rfl rfl ?_
            refine G_invV3v 59 d_Mod_even_56 rfl e_Mod_212 M_Mod_addTo rfl h.sh (Nat.le_of_ble_eq_true rfl) (Nat.le_of_ble_eq_true rfl) rfl (s_mAdd (by assumption) (by omega) (by omega)) ?_
            first | refine G_iincN2 62 d_Mod_even_59 rfl (by decide) rfl ?_ | refine G_iinc2 _ 62 d_Mod_even_59 rfl (by decide) rfl rfl ?_
            refine G_goto 36 d_Mod_even_62 rfl ?_
            refine ih _ (fun c hc => by rw [sp_off hc, sp_off hc]; exact j1 c hc) (fun p hp => by rw [mp_spn (by omega), mp_spn (by omega)]; exact j2 p hp) ?_
            rw [mp_sp, mp_sp, cu_trn, mp_spn (by omega), j3, j2 k (by omega)]
            have := cu_addP (evP (mp AL b k) i) (trn (mp AL b k) i) 1
            rw [cu_evP, cu_trn] at this
            exact this
      refine G_aload0 29 d_Mod_even_28 rfl ?_
      refine G_bipushN 14 31 d_Mod_even_29 rfl rfl ?_
      refine G_invV1v 34 d_Mod_even_31 rfl e_Mod_162 M_Mod_clearAt rfl h.sh (Nat.le_of_ble_eq_true rfl) (Nat.le_of_ble_eq_true rfl) rfl (s_mClear (by assumption) (by omega)) ?_
      refine G_iconstN 0 35 d_Mod_even_34 rfl rfl ?_
      refine G_istore2 36 d_Mod_even_35 rfl (by decide) rfl ?_
      exact L 0 (by omega) _ (fun c hc => sp_off hc) (fun p hp => mp_spn (by omega)) (by rw [mp_sp]; exact cu_evP (mp AL b k) 0)
    · have hlt : prodA 6 (norm (mp AL b k)) < 0 := h21
      simp only [if_pos hlt]
      refine G_bipush (-5) 27 d_Mod_even_25 rfl rfl ?_
      refine G_iret d_Mod_even_27 rfl ?_
      exact ⟨rfl, rfl, hI, fM.rf⟩
  · have q1 := bN_f h1 (show 6 < 2 ^ 31 by omega)
    simp only [fEven, q1, Bool.false_eq_true, if_false]
    refine G_iconst (-1) 8 d_Mod_even_7 rfl rfl ?_
    refine G_iret d_Mod_even_8 rfl ?_
    exact ⟨rfl, rfl, hI, fM.rf⟩
theorem m_like {V : GV} {d b : Nat} {S : ST} {s : Int32} {X : XT} {FI AI : FT} {AL : LT} (h : MO X b) (hI : MIv S FI AI AL b) (hW : WS S) : G V m_Mod_like (d + 1) 0 [some (.ref b), some (.int s), none, none] [] X FI AI AL (fun r X' FI' AI' AL' => r = some (.int (fLike S s).1) ∧ X' = X ∧ MIv (fLike S s).2 FI' AI' AL' b ∧ fM FI FI' AI AI' AL AL' b) := by
  obtain ⟨hG, hO, hSl, -⟩ := id hI
  have hT := hG.1
  have hn9 := hG.2.1
  have ho := hG.2.2.1
  have hrk := hG.2.2.2.1
  have hn7 := hW.2.1.1
  refine G_iload1 1 d_Mod_like_0 rfl ?_
  refine G_invS1b 4 d_Mod_like_1 rfl e_Mod_182 M_Mod_isSlot (Nat.le_of_ble_eq_true rfl) (Nat.le_of_ble_eq_true rfl) rfl (s_mIsSlot) (fun h1 => G_ifne1 7 d_Mod_like_4 9 rfl rfl ?_) (fun h1 => G_ifne0 7 d_Mod_like_4 9 rfl rfl ?_)
  · obtain ⟨k, hk, rfl⟩ := h1
    have q1 := bN_t hk (show 6 < 2 ^ 31 by omega)
    have z1 := ni_nI (show k < 2 ^ 31 by omega)
    simp only [fLike, q1, z1, if_true]
    have L : ∀ m, m ≤ k + 1 → ∀ r0 : Nat, (m = k + 1 → r0 = k) → (m ≤ k → r0 = lkS (tS S) k (k - m)) → G V m_Mod_like (d + 1) 13 [some (.ref b), some (.int (nI k)), some (.int (nI r0)), some (.int (dI m))] [] X FI AI AL (fun r X' FI' AI' AL' => r = some (.int (nI (lkS (tS S) k k))) ∧ X' = X ∧ MIv S FI' AI' AL' b ∧ fM FI FI' AI AI' AL AL' b) := by
      refine downto ?_ ?_
      · intro _ r0 _ hr
        refine G_iload3 14 d_Mod_like_13 rfl ?_
        first | refine G_ifltD 38 17 d_Mod_like_14 rfl rfl (by omega) (fun h14 => ?_) (fun j h14 => ?_) | refine G_iflt 38 17 d_Mod_like_14 rfl rfl (fun h14 => ?_) (fun h14 => ?_)
        · refine G_iload2 39 d_Mod_like_38 rfl ?_
          refine G_iret d_Mod_like_39 rfl ?_
          exact ⟨by rw [hr (Nat.zero_le _), Nat.sub_zero], rfl, hI, fM.rf⟩
        · omega
      · intro m ih hm r0 h1' h2'
        rw [dI_s]
        have hnew : ∀ r1 : Nat, (r1 = if lkB (tS S m) (tS S k) = true then m else r0) → r1 = lkS (tS S) k (k - m) := by
          intro r1 hr1
          by_cases c : m = k
          · subst c
            rw [Nat.sub_self, lkS, hr1, if_pos (lkB_iff.mpr (fun _ _ => rfl))]
          · rw [show k - m = (k - (m + 1)) + 1 by omega, lkS, show k - (k - (m + 1) + 1) = m by omega, hr1, h2' (by omega)]
        refine G_iload3 14 d_Mod_like_13 rfl ?_
        first | refine G_ifltD 38 17 d_Mod_like_14 rfl rfl (by omega) (fun h14 => ?_) (fun j h14 => ?_) | refine G_iflt 38 17 d_Mod_like_14 rfl rfl (fun h14 => ?_) (fun h14 => ?_)
        · exact absurd h14 (nI_pos (by omega))
        · refine G_aload0 18 d_Mod_like_17 rfl ?_
          refine G_iload3 19 d_Mod_like_18 rfl ?_
          refine G_iload1 20 d_Mod_like_19 rfl ?_
          refine G_invV2b 23 d_Mod_like_20 rfl e_Mod_232 M_Mod_areSame rfl h.sh (Nat.le_of_ble_eq_true rfl) (Nat.le_of_ble_eq_true rfl) rfl (s_mSame (by assumption) (by omega) (by omega)) (fun h20 => G_ifeq1 26 d_Mod_like_23 30 rfl rfl ?_) (fun h20 => G_ifeq0 26 d_Mod_like_23 30 rfl rfl ?_)
          · have hb : lkB (tS S m) (tS S k) = true := lkB_iff.mpr (by rw [← hSl m (by omega), ← hSl k hk]; exact h20)
            refine G_iload3 27 d_Mod_like_26 rfl ?_
            refine G_goto 31 d_Mod_like_27 rfl ?_
            refine G_istore2 32 d_Mod_like_31 rfl (by decide) rfl ?_
            first | refine G_iinc3 _ 35 d_Mod_like_32 rfl (by decide) rfl (dI_m1 _) ?_ | refine G_iinc3 _ 35 d_Mod_like_32 rfl (by decide) rfl rfl ?_
            refine G_goto 13 d_Mod_like_35 rfl ?_
            exact ih (by omega) _ (fun e => by omega) (fun _ => hnew m (by rw [if_pos hb]))
          · have hb : ¬ lkB (tS S m) (tS S k) = true := fun e => h20 (by rw [hSl m (by omega), hSl k hk]; exact lkB_iff.mp e)
            refine G_iload2 31 d_Mod_like_30 rfl ?_
            refine G_istore2 32 d_Mod_like_31 rfl (by decide) rfl ?_
            first | refine G_iinc3 _ 35 d_Mod_like_32 rfl (by decide) rfl (dI_m1 _) ?_ | refine G_iinc3 _ 35 d_Mod_like_32 rfl (by decide) rfl rfl ?_
            refine G_goto 13 d_Mod_like_35 rfl ?_
            exact ih (by omega) _ (fun e => by omega) (fun _ => hnew r0 (by rw [if_neg hb]))
    refine G_iload1 10 d_Mod_like_9 rfl ?_
    refine G_istore2 11 d_Mod_like_10 rfl (by decide) rfl ?_
    refine G_iload1 12 d_Mod_like_11 rfl ?_
    refine G_istore3 13 d_Mod_like_12 rfl (by decide) rfl ?_
    have := L (k + 1) (Nat.le_refl _) k (fun _ => rfl) (fun e => by omega)
    rw [dI_s] at this
    exact this
  · have q1 := bN_f h1 (show 6 < 2 ^ 31 by omega)
    simp only [fLike, q1, Bool.false_eq_true, if_false]
    refine G_iconst (-1) 8 d_Mod_like_7 rfl rfl ?_
    refine G_iret d_Mod_like_8 rfl ?_
    exact ⟨rfl, rfl, hI, fM.rf⟩
theorem m_lead {V : GV} {d b : Nat} {S : ST} {s w : Int32} {X : XT} {FI AI : FT} {AL : LT} (h : MO X b) (hI : MIv S FI AI AL b) (hW : WS S) : G V m_Mod_lead (d + 2) 0 [some (.ref b), some (.int s), some (.int w), none] [] X FI AI AL (fun r X' FI' AI' AL' => r = some (.int (fLead S s w).1) ∧ X' = X ∧ MIv (fLead S s w).2 FI' AI' AL' b ∧ fM FI FI' AI AI' AL AL' b) := by
  obtain ⟨hG, hO, hSl, -⟩ := id hI
  have hT := hG.1
  have hn9 := hG.2.1
  have ho := hG.2.2.1
  have hrk := hG.2.2.2.1
  have hn7 := hW.2.1.1
  have kw : ((0 : Int64).toInt ≤ w.toInt64.toInt ∧ w.toInt64.toInt ≤ (4 : Int64).toInt) ↔ isN w 5 := by
    rw [toL, isN_iff (by omega), show (0 : Int64).toInt = 0 from rfl, show (4 : Int64).toInt = 4 from rfl]; omega
  refine G_iload1 1 d_Mod_lead_0 rfl ?_
  refine G_invS1b 4 d_Mod_lead_1 rfl e_Mod_182 M_Mod_isSlot (Nat.le_of_ble_eq_true rfl) (Nat.le_of_ble_eq_true rfl) rfl (s_mIsSlot) (fun h1 => G_ifeq1 7 d_Mod_lead_4 19 rfl rfl ?_) (fun h1 => G_ifeq0 7 d_Mod_lead_4 19 rfl rfl ?_)
  · obtain ⟨k, hk, rfl⟩ := h1
    have q1 := bN_t hk (show 6 < 2 ^ 31 by omega)
    have z1 := ni_nI (show k < 2 ^ 31 by omega)
    refine G_iload2 8 d_Mod_lead_7 rfl ?_
    refine G_i2l 9 d_Mod_lead_8 rfl ?_
    refine G_lconst 0 10 d_Mod_lead_9 rfl rfl ?_
    refine G_ldc2 13 d_Mod_lead_10 rfl k_Mod_237 ?_
    refine G_invS3b 16 d_Mod_lead_13 rfl e_Mod_139 M_Mod_in (Nat.le_of_ble_eq_true rfl) (Nat.le_of_ble_eq_true rfl) rfl (s_mIn) (fun h13 => G_ifne1 19 d_Mod_lead_16 21 rfl rfl ?_) (fun h13 => G_ifne0 19 d_Mod_lead_16 21 rfl rfl ?_)
    · obtain ⟨l, hl, rfl⟩ := kw.mp h13
      have q2 := bN_t hl (show 5 < 2 ^ 31 by omega)
      have z2 := ni_nI (show l < 2 ^ 31 by omega)
      simp only [fLead, q1, q2, z1, z2, Bool.and_self, if_true, ← hSl k hk]
      have hls := pld_le (mp AL b k) ho 84 (Nat.le_refl _)
      refine G_iload2 22 d_Mod_lead_21 rfl ?_
      refine G_iconstN 4 23 d_Mod_lead_22 rfl rfl ?_
      first | refine G_icneN 32 26 d_Mod_lead_23 rfl rfl (by omega) (by omega) (fun h23 => ?_) (fun h23 => ?_) | refine G_icne 32 26 d_Mod_lead_23 rfl rfl (fun h23 => ?_) (fun h23 => ?_)
      · have hne : ¬ l = 4 := h23
        simp only [if_neg hne]
        refine G_aload0 33 d_Mod_lead_32 rfl ?_
        refine G_iload1 34 d_Mod_lead_33 rfl ?_
        refine G_invV1d 37 d_Mod_lead_34 rfl e_Mod_239 M_Mod_leading rfl h.sh (Nat.le_of_ble_eq_true rfl) (Nat.le_of_ble_eq_true rfl) rfl (s_mLeading (by assumption) (by omega) (by assumption) (by assumption)) ?_
        refine G_istore3 38 d_Mod_lead_37 rfl (by decide) rfl ?_
        rcases Nat.eq_zero_or_pos (lead1 (mp AL b k) (tO S)) with c | c
        · simp only [if_pos c]
          rw [c, dI_0]
          refine G_iload3 39 d_Mod_lead_38 rfl ?_
          refine G_ifge 47 42 d_Mod_lead_39 rfl rfl (fun h39 => ?_) (fun h39 => ?_)
          · exact absurd h39 (by decide)
          · refine G_bipush (-2) 44 d_Mod_lead_42 rfl rfl ?_
            refine G_goto 53 d_Mod_lead_44 rfl ?_
            refine G_iret d_Mod_lead_53 rfl ?_
            exact ⟨rfl, rfl, hI, fM.rf⟩
        · have hc : ¬ lead1 (mp AL b k) (tO S) = 0 := by omega
          simp only [if_neg hc]
          obtain ⟨t, ht⟩ : ∃ t, lead1 (mp AL b k) (tO S) = t + 1 := ⟨lead1 (mp AL b k) (tO S) - 1, by omega⟩
          obtain ⟨t84, -, -⟩ := lead_ok ho ht
          rw [ht, dI_s, Nat.add_sub_cancel]
          refine G_iload3 39 d_Mod_lead_38 rfl ?_
          refine G_ifge 47 42 d_Mod_lead_39 rfl rfl (fun h39 => ?_) (fun h39 => ?_)
          · refine G_aload0 48 d_Mod_lead_47 rfl ?_
            refine G_iload3 49 d_Mod_lead_48 rfl ?_
            refine G_iload2 50 d_Mod_lead_49 rfl ?_
            refine G_invV2d 53 d_Mod_lead_50 rfl e_Mod_242 M_Mod_ofTerm rfl h.sh (Nat.le_of_ble_eq_true rfl) (Nat.le_of_ble_eq_true rfl) rfl (s_mOfTerm (by assumption) (by assumption) (by omega) (by omega)) ?_
            refine G_iret d_Mod_lead_53 rfl ?_
            exact ⟨rfl, rfl, hI, fM.rf⟩
          · exact absurd (nI_pos' (by omega)) h39
      · simp only [if_pos h23]
        refine G_aload0 27 d_Mod_lead_26 rfl ?_
        refine G_iload1 28 d_Mod_lead_27 rfl ?_
        refine G_invV1d 31 d_Mod_lead_28 rfl e_Mod_202 M_Mod_termsIn rfl h.sh (Nat.le_of_ble_eq_true rfl) (Nat.le_of_ble_eq_true rfl) rfl (s_mTerms (by assumption) (by omega)) ?_
        refine G_iret d_Mod_lead_31 rfl ?_
        exact ⟨rfl, rfl, hI, fM.rf⟩
    · have q2 := bN_f (fun e => h13 (kw.mpr e)) (show 5 < 2 ^ 31 by omega)
      simp only [fLead, q2, Bool.and_false, Bool.false_eq_true, if_false]
      refine G_iconst (-1) 20 d_Mod_lead_19 rfl rfl ?_
      refine G_iret d_Mod_lead_20 rfl ?_
      exact ⟨rfl, rfl, hI, fM.rf⟩
  · have q1 := bN_f h1 (show 6 < 2 ^ 31 by omega)
    simp only [fLead, q1, Bool.false_and, Bool.false_eq_true, if_false]
    refine G_iconst (-1) 20 d_Mod_lead_19 rfl rfl ?_
    refine G_iret d_Mod_lead_20 rfl ?_
    exact ⟨rfl, rfl, hI, fM.rf⟩
