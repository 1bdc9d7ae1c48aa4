/-! ===== the reference: COST and PRODUCT of a ROW ===== -/
theorem tm_cu {f g : Nat → Int64} {j t : Nat} (hj : j < 84) (ht : t < 84) : tm (cu f) (cu g) j t = tm f g j t := by
  unfold tm
  split
  · next e => rw [cu_at ht, cu_at (quo_ok ht hj e).1]
  · rfl
theorem mulP_cu (f g : Nat → Int64) : mulP (cu f) (cu g) = mulP f g := by
  funext j
  unfold mulP
  split
  · next hj => rw [dsum_r, dsum_r]; exact rsum_congr (fun i hi => tm_cu hj (by omega))
  · rfl
theorem cu_mulP (f g : Nat → Int64) : cu (mulP f g) = mulP f g := by
  funext j; unfold cu mulP; split <;> rfl
theorem cu_one : cu one = one := by
  funext j; unfold cu one; split
  · rfl
  · rw [if_neg (by omega)]
theorem powP_cu {c b : Nat → Int64} (hc : cu c = c) : ∀ k, cu (powP c b k) = powP c b k
  | 0 => hc
  | k + 1 => cu_mulP _ _
theorem powP_cu2 {c b : Nat → Int64} (hc : cu c = c) : ∀ k, powP c (cu b) k = powP c b k
  | 0 => rfl
  | k + 1 => by
    rw [powP, powP, powP_cu2 hc k]
    have h := powP_cu (b := b) hc k
    rw [← mulP_cu, cu_cu, mulP_cu]
theorem prodP_cu (ps : Nat → Nat → Int64) (P : Nat → Nat) : ∀ k, cu (prodP ps P k) = prodP ps P k
  | 0 => cu_one
  | k + 1 => powP_cu (prodP_cu ps P k) _
theorem prodP_cu2 {ps ps' : Nat → Nat → Int64} {P P' : Nat → Nat} : ∀ k, (∀ i, i < k → cu (ps i) = cu (ps' i)) → (∀ i, i < k → P i = P' i) → prodP ps P k = prodP ps' P' k
  | 0, _, _ => rfl
  | k + 1, h, h' => by
    rw [prodP, prodP, prodP_cu2 k (fun i hi => h i (by omega)) (fun i hi => h' i (by omega)), h' k (by omega), ← powP_cu2 (prodP_cu ps' P' k), h k (by omega), powP_cu2 (prodP_cu ps' P' k)]
theorem cost_congr {nm nm' : Nat → Int64} {P P' : Nat → Nat} : ∀ {k : Nat}, (∀ i, i < k → nm i = nm' i) → (∀ i, i < k → P i = P' i) → cost nm P k = cost nm' P' k
  | 0, _, _ => rfl
  | k + 1, h, h' => by rw [cost, cost, h k (by omega), h' k (by omega), cost_congr (fun i hi => h i (by omega)) (fun i hi => h' i (by omega))]
theorem psum_cu (f : Nat → Int64) : ∀ k, k ≤ 84 → psum (cu f) k = psum f k
  | 0, _ => rfl
  | k + 1, h => by rw [psum, psum, psum_cu f k (by omega), cu_at (by omega)]
theorem norm_cu (f : Nat → Int64) : norm (cu f) = norm f := psum_cu f 84 (Nat.le_refl _)
theorem pcnt_cu (f : Nat → Int64) : ∀ k, k ≤ 84 → pcnt (cu f) k = pcnt f k
  | 0, _ => rfl
  | k + 1, h => by rw [pcnt, pcnt, pcnt_cu f k (by omega), cu_at (by omega)]
theorem cnt_cu (f : Nat → Int64) : cnt (cu f) = cnt f := pcnt_cu f 84 (Nat.le_refl _)
theorem pdeg_cu (f : Nat → Int64) : ∀ k, k ≤ 84 → pdeg (cu f) k = pdeg f k
  | 0, _ => rfl
  | k + 1, h => by rw [pdeg, pdeg, pdeg_cu f k (by omega), cu_at (by omega)]
theorem deg1_cu (f : Nat → Int64) : deg1 (cu f) = deg1 f := pdeg_cu f 84 (Nat.le_refl _)
theorem pld_cu (f : Nat → Int64) {o : Nat} (ho : o < 3) : ∀ k, k ≤ 84 → pld (cu f) o k = pld f o k
  | 0, _ => rfl
  | k + 1, h => by rw [pld, pld, pld_cu f ho k (by omega), cu_at (rk_ok o ho k (by omega)).2.2.1]
theorem lead1_cu (f : Nat → Int64) {o : Nat} (ho : o < 3) : lead1 (cu f) o = lead1 f o := pld_cu f ho 84 (Nat.le_refl _)
theorem cw_cu (f : Nat → Int64) {x y z m : Nat} : ∀ k, k ≤ 84 → cw (cu f) x y z m k = cw f x y z m k
  | 0, _ => rfl
  | k + 1, h => by rw [cw, cw, cw_cu f k (by omega), cu_at (by omega)]
theorem trn_cu (f : Nat → Int64) {k : Nat} (hk : k < 6) : trn (cu f) k = trn f k := by
  funext j; unfold trn; split
  · next hj => rw [cu_at (turn_ok k hk j hj).2.2.2]
  · rfl
theorem cu_trn (f : Nat → Int64) (k : Nat) : cu (trn f k) = trn f k := by
  funext j; unfold cu trn; split <;> rfl
theorem like_cu {f g : Nat → Int64} : like f g ↔ cu f = cu g :=
  ⟨fun h => cu_eq h, fun h j hj => by rw [← cu_at (f := f) hj, h, cu_at hj]⟩
/-- of DEGREE d at most -/
def dgb (f : Nat → Int64) (d : Nat) : Prop := ∀ u, u < 84 → f u ≠ 0 → eD u ≤ d
theorem rsum_zero {w : Nat → Int64} : ∀ {n : Nat}, (∀ i, i < n → w i = 0) → rsum w n = 0
  | 0, _ => rfl
  | n + 1, h => by rw [rsum, h n (by omega), rsum_zero (fun i hi => h i (by omega)), Int64.add_zero]
theorem dv_deg {t j : Nat} (ht : t < 84) (hj : j < 84) (h : dv t j = true) : eD j = eD t + eD (quo t j) := by
  obtain ⟨a, b, c⟩ := quo_ok ht hj h
  obtain ⟨-, -, -, x, y, z⟩ := mul_ok ht a b
  rw [c] at x y z
  have e1 := e_le hj
  have e2 := e_le ht
  have e3 := e_le a
  omega
theorem dgb_mul {f g : Nat → Int64} {a b : Nat} (hf : dgb f a) (hg : dgb g b) : dgb (mulP f g) (a + b) := by
  intro u hu hz
  refine Classical.byContradiction (fun hn => hz ?_)
  rw [mulP, if_pos hu, dsum_r]
  refine rsum_zero (fun i hi => ?_)
  unfold tm
  split
  · next e =>
    have hd := dv_deg (t := 83 - i) (by omega) hu e
    by_cases c1 : f (83 - i) = 0
    · rw [c1, Int64.zero_mul]
    · by_cases c2 : g (quo (83 - i) u) = 0
      · rw [c2, Int64.mul_zero]
      · have h1 := hf _ (by omega) c1
        have h2 := hg _ (quo_ok (by omega) hu e).1 c2
        omega
  · rfl
theorem dgb_one : dgb one 0 := by
  intro u hu hz
  have : u = 0 := Classical.byContradiction (fun e => hz (if_neg e))
  subst this
  decide
theorem dgb_pow {c f : Nat → Int64} {a b : Nat} (hc : dgb c a) (hf : dgb f b) : ∀ k, dgb (powP c f k) (a + k * b)
  | 0 => by rw [Nat.zero_mul, Nat.add_zero]; exact hc
  | k + 1 => by
    have := dgb_mul (dgb_pow hc hf k) hf
    rw [Nat.succ_mul, ← Nat.add_assoc]
    exact this
theorem dgb_prod {ps : Nat → Nat → Int64} {gl : Nat → Nat} {r : Nat} : ∀ k, (∀ i, i < k → dgb (ps i) (eD (gl i))) → dgb (prodP ps (pw r) k) (rdeg gl r k)
  | 0, _ => dgb_one
  | k + 1, h => dgb_pow (dgb_prod k (fun i hi => h i (by omega))) (h k (by omega)) _
def WRw (AI : FT) (b w r : Nat) : Prop := ∀ g, g < 7 → AI (b + 27) (7 * w + g) = nI (pw r g)
theorem s_mTakeRow {V : GV} {d b c n i w : Nat} {X : XT} {FI AI : FT} {AL : LT} (h : MO X b) (hc : x_sh X c = some (0, n)) (hn : n < 100000) (hi : 7 * i + 7 ≤ n) (hw : w < 5) (hcb : c ≠ b + 27) : G V m_Mod_takeRow d 0 [some (.ref b), some (.ref c), some (.int (nI i)), some (.int (nI w)), none] [] X FI AI AL (Pd none X FI (sr AI (b + 27) (fun j => if 7 * w ≤ j ∧ j < 7 * w + 7 then AI c (7 * i + (j - 7 * w)) else AI (b + 27) j)) AL) := by
  have L : ∀ g, g ≤ 7 → G V m_Mod_takeRow d 3 [some (.ref b), some (.ref c), some (.int (nI i)), some (.int (nI w)), some (.int (nI g))] [] X FI (sr AI (b + 27) (fun j => if 7 * w ≤ j ∧ j < 7 * w + g then AI c (7 * i + (j - 7 * w)) else AI (b + 27) j)) AL (Pd none X FI (sr AI (b + 27) (fun j => if 7 * w ≤ j ∧ j < 7 * w + 7 then AI c (7 * i + (j - 7 * w)) else AI (b + 27) j)) AL) := by
    refine upto ?_ ?_
    · refine G_iload4 5 d_Mod_takeRow_3 rfl ?_
      refine G_bipushN 7 7 d_Mod_takeRow_5 rfl rfl ?_
      first | refine G_icgeN 37 10 d_Mod_takeRow_7 rfl rfl (by omega) (by omega) (fun h7 => ?_) (fun h7 => ?_) | refine G_icge 37 10 d_Mod_takeRow_7 rfl rfl (fun h7 => ?_) (fun h7 => ?_)
      · refine G_vret d_Mod_takeRow_37 rfl ?_
        exact Pd.rf
      · omega
    · intro g hg ih
      have e0 : (sr AI (b + 27) (fun j => if 7 * w ≤ j ∧ j < 7 * w + g then AI c (7 * i + (j - 7 * w)) else AI (b + 27) j)) c (7 * i + g) = AI c (7 * i + g) := by rw [sr_ne _ _ hcb]
      have e1 : u2 (sr AI (b + 27) (fun j => if 7 * w ≤ j ∧ j < 7 * w + g then AI c (7 * i + (j - 7 * w)) else AI (b + 27) j)) (b + 27) (7 * w + g) (AI c (7 * i + g)) = sr AI (b + 27) (fun j => if 7 * w ≤ j ∧ j < 7 * w + (g + 1) then AI c (7 * i + (j - 7 * w)) else AI (b + 27) j) := by
        rw [u2_sr]
        congr 1
        funext j
        by_cases q : j = 7 * w + g
        · rw [if_pos q, if_pos (by omega), show j - 7 * w = g by omega]
        · rw [if_neg q]
          by_cases q2 : 7 * w ≤ j ∧ j < 7 * w + g
          · rw [if_pos q2, if_pos (by omega)]
          · rw [if_neg q2, if_neg (by omega)]
      refine G_iload4 5 d_Mod_takeRow_3 rfl ?_
      refine G_bipushN 7 7 d_Mod_takeRow_5 rfl rfl ?_
      first | refine G_icgeN 37 10 d_Mod_takeRow_7 rfl rfl (by omega) (by omega) (fun h7 => ?_) (fun h7 => ?_) | refine G_icge 37 10 d_Mod_takeRow_7 rfl rfl (fun h7 => ?_) (fun h7 => ?_)
      · omega
      · refine G_aload0 11 d_Mod_takeRow_10 rfl ?_
        refine G_getR 14 d_Mod_takeRow_11 rfl f_Mod_91 rfl h.sh h.f36 ?_
        refine G_bipushN 7 16 d_Mod_takeRow_14 rfl rfl ?_
        refine G_iload3 17 d_Mod_takeRow_16 rfl ?_
        first | refine G_imulN 18 d_Mod_takeRow_17 rfl ?_ | refine G_imul 18 d_Mod_takeRow_17 rfl ?_
        refine G_iload4 20 d_Mod_takeRow_18 rfl ?_
        first | refine G_iaddN 21 d_Mod_takeRow_20 rfl ?_ | refine G_iadd 21 d_Mod_takeRow_20 rfl ?_
        refine G_aload1 22 d_Mod_takeRow_21 rfl ?_
        refine G_bipushN 7 24 d_Mod_takeRow_22 rfl rfl ?_
        refine G_iload2 25 d_Mod_takeRow_24 rfl ?_
        first | refine G_imulN 26 d_Mod_takeRow_25 rfl ?_ | refine G_imul 26 d_Mod_takeRow_25 rfl ?_
        refine G_iload4 28 d_Mod_takeRow_26 rfl ?_
        first | refine G_iaddN 29 d_Mod_takeRow_28 rfl ?_ | refine G_iadd 29 d_Mod_takeRow_28 rfl ?_
        refine G_ialoadv 30 d_Mod_takeRow_29 rfl hc (ix_nI (by omega) (by omega)) e0 ?_
        refine G_iastore 31 d_Mod_takeRow_30 rfl h.s36 (ix_nI (by omega) (by omega)) ?_
        first | refine G_iincN4 34 d_Mod_takeRow_31 rfl (by decide) rfl ?_ | refine G_iinc4 _ 34 d_Mod_takeRow_31 rfl (by decide) rfl rfl ?_
        refine G_goto 3 d_Mod_takeRow_34 rfl ?_
        rw [e1]
        exact ih
  refine G_iconstN 0 1 d_Mod_takeRow_0 rfl rfl ?_
  refine G_istore4 3 d_Mod_takeRow_1 rfl (by decide) rfl ?_
  have := L 0 (by omega)
  rw [show (fun j => if 7 * w ≤ j ∧ j < 7 * w + 0 then AI c (7 * i + (j - 7 * w)) else AI (b + 27) j) = AI (b + 27) from funext (fun j => if_neg (by omega)), sr_self] at this
  exact this
theorem s_mCost {V : GV} {d b n w : Nat} {P : Nat → Nat} {X : XT} {FI AI : FT} {AL : LT} (h : MO X b) (hn : FI b 9 = nI n) (hn7 : n ≤ 7) (hw : w < 5) (hP : ∀ g, g < n → AI (b + 27) (7 * w + g) = nI (P g) ∧ P g < 8) : G V m_Mod_costOf (d + 2) 0 [some (.ref b), some (.int (nI w)), none, none, none, none] [] X FI AI AL (Pd (some (.long (cost (fun g => norm (mp AL b (6 + g))) P n))) X FI AI AL) := by
  have L : ∀ k, k ≤ n → ∀ l5 : Option Value, G V m_Mod_costOf (d + 2) 5 [some (.ref b), some (.int (nI w)), some (.long (cost (fun g => norm (mp AL b (6 + g))) P k)), none, some (.int (nI k)), l5] [] X FI AI AL (Pd (some (.long (cost (fun g => norm (mp AL b (6 + g))) P n))) X FI AI AL) := by
    refine upto ?_ ?_
    · intro l5
      refine G_iload4 7 d_Mod_costOf_5 rfl ?_
      refine G_aload0 8 d_Mod_costOf_7 rfl ?_
      refine G_getIv 11 d_Mod_costOf_8 rfl f_Mod_133 rfl h.sh hn ?_
      first | refine G_icgeN 60 14 d_Mod_costOf_11 rfl rfl (by omega) (by omega) (fun h11 => ?_) (fun h11 => ?_) | refine G_icge 60 14 d_Mod_costOf_11 rfl rfl (fun h11 => ?_) (fun h11 => ?_)
      · refine G_lload2 61 d_Mod_costOf_60 rfl ?_
        refine G_lret d_Mod_costOf_61 rfl ?_
        exact Pd.rf
      · omega
    · intro k hk ih l5
      obtain ⟨p1, p2⟩ := hP k hk
      have L2 : ∀ i, i ≤ P k → G V m_Mod_costOf (d + 2) 17 [some (.ref b), some (.int (nI w)), some (.long (powA (cost (fun g => norm (mp AL b (6 + g))) P k) (norm (mp AL b (6 + k))) i)), none, some (.int (nI k)), some (.int (nI i))] [] X FI AI AL (Pd (some (.long (cost (fun g => norm (mp AL b (6 + g))) P n))) X FI AI AL) := by
        refine upto ?_ ?_
        · refine G_iload5 19 d_Mod_costOf_17 rfl ?_
          refine G_aload0 20 d_Mod_costOf_19 rfl ?_
          refine G_getR 23 d_Mod_costOf_20 rfl f_Mod_91 rfl h.sh h.f36 ?_
          refine G_bipushN 7 25 d_Mod_costOf_23 rfl rfl ?_
          refine G_iload1 26 d_Mod_costOf_25 rfl ?_
          first | refine G_imulN 27 d_Mod_costOf_26 rfl ?_ | refine G_imul 27 d_Mod_costOf_26 rfl ?_
          refine G_iload4 29 d_Mod_costOf_27 rfl ?_
          first | refine G_iaddN 30 d_Mod_costOf_29 rfl ?_ | refine G_iadd 30 d_Mod_costOf_29 rfl ?_
          refine G_ialoadv 31 d_Mod_costOf_30 rfl h.s36 (ix_nI (by omega) (by omega)) p1 ?_
          first | refine G_icgeN 54 34 d_Mod_costOf_31 rfl rfl (by omega) (by omega) (fun h31 => ?_) (fun h31 => ?_) | refine G_icge 54 34 d_Mod_costOf_31 rfl rfl (fun h31 => ?_) (fun h31 => ?_)
          · first | refine G_iincN4 57 d_Mod_costOf_54 rfl (by decide) rfl ?_ | refine G_iinc4 _ 57 d_Mod_costOf_54 rfl (by decide) rfl rfl ?_
            refine G_goto 5 d_Mod_costOf_57 rfl ?_
            exact ih _
          · omega
        · intro i hi ih2
          refine G_iload5 19 d_Mod_costOf_17 rfl ?_
          refine G_aload0 20 d_Mod_costOf_19 rfl ?_
          refine G_getR 23 d_Mod_costOf_20 rfl f_Mod_91 rfl h.sh h.f36 ?_
          refine G_bipushN 7 25 d_Mod_costOf_23 rfl rfl ?_
          refine G_iload1 26 d_Mod_costOf_25 rfl ?_
          first | refine G_imulN 27 d_Mod_costOf_26 rfl ?_ | refine G_imul 27 d_Mod_costOf_26 rfl ?_
          refine G_iload4 29 d_Mod_costOf_27 rfl ?_
          first | refine G_iaddN 30 d_Mod_costOf_29 rfl ?_ | refine G_iadd 30 d_Mod_costOf_29 rfl ?_
          refine G_ialoadv 31 d_Mod_costOf_30 rfl h.s36 (ix_nI (by omega) (by omega)) p1 ?_
          first | refine G_icgeN 54 34 d_Mod_costOf_31 rfl rfl (by omega) (by omega) (fun h31 => ?_) (fun h31 => ?_) | refine G_icge 54 34 d_Mod_costOf_31 rfl rfl (fun h31 => ?_) (fun h31 => ?_)
          · omega
          · refine G_lload2 35 d_Mod_costOf_34 rfl ?_
            refine G_aload0 36 d_Mod_costOf_35 rfl ?_
            refine G_bipushN 6 38 d_Mod_costOf_36 rfl rfl ?_
            refine G_iload4 40 d_Mod_costOf_38 rfl ?_
            first | refine G_iaddN 41 d_Mod_costOf_40 rfl ?_ | refine G_iadd 41 d_Mod_costOf_40 rfl ?_
            refine G_invV1d 44 d_Mod_costOf_41 rfl e_Mod_194 M_Mod_normOf rfl h.sh (Nat.le_of_ble_eq_true rfl) (Nat.le_of_ble_eq_true rfl) rfl (s_mNorm (by assumption) (by omega)) ?_
            refine G_invS2d 47 d_Mod_costOf_44 rfl e_Mod_205 M_Mod_timesUp (Nat.le_of_ble_eq_true rfl) (Nat.le_of_ble_eq_true rfl) rfl (s_mTimesUp) ?_
            refine G_lstore2 48 d_Mod_costOf_47 rfl (by decide) rfl ?_
            first | refine G_iincN5 51 d_Mod_costOf_48 rfl (by decide) rfl ?_ | refine G_iinc5 _ 51 d_Mod_costOf_48 rfl (by decide) rfl rfl ?_
            refine G_goto 17 d_Mod_costOf_51 rfl ?_
            exact ih2
      refine G_iload4 7 d_Mod_costOf_5 rfl ?_
      refine G_aload0 8 d_Mod_costOf_7 rfl ?_
      refine G_getIv 11 d_Mod_costOf_8 rfl f_Mod_133 rfl h.sh hn ?_
      first | refine G_icgeN 60 14 d_Mod_costOf_11 rfl rfl (by omega) (by omega) (fun h11 => ?_) (fun h11 => ?_) | refine G_icge 60 14 d_Mod_costOf_11 rfl rfl (fun h11 => ?_) (fun h11 => ?_)
      · omega
      · refine G_iconstN 0 15 d_Mod_costOf_14 rfl rfl ?_
        refine G_istore5 17 d_Mod_costOf_15 rfl (by decide) rfl ?_
        exact L2 0 (by omega)
  refine G_lconst 1 1 d_Mod_costOf_0 rfl rfl ?_
  refine G_lstore2 2 d_Mod_costOf_1 rfl (by decide) rfl ?_
  refine G_iconstN 0 3 d_Mod_costOf_2 rfl rfl ?_
  refine G_istore4 5 d_Mod_costOf_3 rfl (by decide) rfl ?_
  exact L 0 (by omega) none
/-- only these places of the reference's cells change -/
def mpk (AL AL' : LT) (b : Nat) (Z : Nat → Prop) : Prop := (∀ c, c ≠ b + 1 → AL' c = AL c) ∧ ∀ p, p < 20 → ¬ Z p → mp AL' b p = mp AL b p
theorem mpk.rf {AL : LT} {b : Nat} {Z : Nat → Prop} : mpk AL AL b Z := ⟨fun _ _ => rfl, fun _ _ _ => rfl⟩
theorem mpk.sp {AL AL' : LT} {b p : Nat} {Z : Nat → Prop} {f : Nat → Int64} (h : mpk AL AL' b Z) (hp : Z p) : mpk AL (sp AL' b p f) b Z :=
  ⟨fun c hc => by rw [sp_off hc]; exact h.1 c hc, fun q hq hz => by rw [mp_spn (fun e => hz (by rw [e]; exact hp))]; exact h.2 q hq hz⟩
theorem rdeg_mono {gl : Nat → Nat} {r k m : Nat} (h : k ≤ m) : rdeg gl r k ≤ rdeg gl r m := by
  induction h with
  | refl => exact Nat.le_refl _
  | step _ ih => exact Nat.le_trans ih (Nat.le_add_right _ _)
theorem s_mProduct {V : GV} {d b n w r p : Nat} {gl : Nat → Nat} {X : XT} {FI AI : FT} {AL : LT} (h : MO X b) (hT : MTb AI b) (hn : FI b 9 = nI n) (hn7 : n ≤ 7) (hw : w < 5) (hP : ∀ g, g < n → AI (b + 27) (7 * w + g) = nI (pw r g)) (hp : p < 20) (hp2 : p ≠ 14) (hp3 : p ≠ 15) (hd : ∀ g, g < n → dgb (mp AL b (6 + g)) (eD (gl g))) (hr : rdeg gl r n ≤ 6) :
    G V m_Mod_productTo (d + 3) 0 [some (.ref b), some (.int (nI w)), some (.int (nI p)), none, none] [] X FI AI AL (fun q X' FI' AI' AL' => q = none ∧ X' = X ∧ FI' = FI ∧ AI' = AI ∧ mpk AL AL' b (fun z => z = 14 ∨ z = 15 ∨ z = p) ∧ mp AL' b p = prodP (fun g => mp AL b (6 + g)) (pw r) n) := by
  have rmono : ∀ k, k ≤ n → rdeg gl r k ≤ 6 := fun k hk => Nat.le_trans (rdeg_mono hk) hr
  have L : ∀ k, k ≤ n → ∀ (AJ : LT) (l4 : Option Value), mpk AL AJ b (fun z => z = 14 ∨ z = 15 ∨ z = p) → (∀ g, g < n → mp AJ b (6 + g) = mp AL b (6 + g)) → mp AJ b 14 = prodP (fun g => mp AL b (6 + g)) (pw r) k → G V m_Mod_productTo (d + 3) 17 [some (.ref b), some (.int (nI w)), some (.int (nI p)), some (.int (nI k)), l4] [] X FI AI AJ (fun q X' FI' AI' AL' => q = none ∧ X' = X ∧ FI' = FI ∧ AI' = AI ∧ mpk AL AL' b (fun z => z = 14 ∨ z = 15 ∨ z = p) ∧ mp AL' b p = prodP (fun g => mp AL b (6 + g)) (pw r) n) := by
    refine upto ?_ ?_
    · intro AJ l4 hk hg h14
      refine G_iload3 18 d_Mod_productTo_17 rfl ?_
      refine G_aload0 19 d_Mod_productTo_18 rfl ?_
      refine G_getIv 22 d_Mod_productTo_19 rfl f_Mod_133 rfl h.sh hn ?_
      first | refine G_icgeN 76 25 d_Mod_productTo_22 rfl rfl (by omega) (by omega) (fun h22 => ?_) (fun h22 => ?_) | refine G_icge 76 25 d_Mod_productTo_22 rfl rfl (fun h22 => ?_) (fun h22 => ?_)
      · refine G_aload0 77 d_Mod_productTo_76 rfl ?_
        refine G_bipushN 14 79 d_Mod_productTo_77 rfl rfl ?_
        refine G_iload2 80 d_Mod_productTo_79 rfl ?_
        refine G_invV2v 83 d_Mod_productTo_80 rfl e_Mod_208 M_Mod_copyTo rfl h.sh (Nat.le_of_ble_eq_true rfl) (Nat.le_of_ble_eq_true rfl) rfl (s_mCopy (by assumption) (by omega) (by omega)) ?_
        refine G_vret d_Mod_productTo_83 rfl ?_
        exact ⟨rfl, rfl, rfl, rfl, hk.sp (Or.inr (Or.inr rfl)), by rw [mp_sp, mp_cu, h14]⟩
      · omega
    · intro k hk ih AJ l4 hkk hg h14
      have hpl := pw_lt r k
      have hrk := rmono (k + 1) hk
      have p1 := hP k hk
      have L2 : ∀ i, i ≤ pw r k → ∀ AK : LT, mpk AL AK b (fun z => z = 14 ∨ z = 15 ∨ z = p) → (∀ g, g < n → mp AK b (6 + g) = mp AL b (6 + g)) → mp AK b 14 = powP (prodP (fun g => mp AL b (6 + g)) (pw r) k) (mp AL b (6 + k)) i → G V m_Mod_productTo (d + 3) 28 [some (.ref b), some (.int (nI w)), some (.int (nI p)), some (.int (nI k)), some (.int (nI i))] [] X FI AI AK (fun q X' FI' AI' AL' => q = none ∧ X' = X ∧ FI' = FI ∧ AI' = AI ∧ mpk AL AL' b (fun z => z = 14 ∨ z = 15 ∨ z = p) ∧ mp AL' b p = prodP (fun g => mp AL b (6 + g)) (pw r) n) := by
        refine upto ?_ ?_
        · intro AK hk2 hg2 h142
          refine G_iload4 30 d_Mod_productTo_28 rfl ?_
          refine G_aload0 31 d_Mod_productTo_30 rfl ?_
          refine G_getR 34 d_Mod_productTo_31 rfl f_Mod_91 rfl h.sh h.f36 ?_
          refine G_bipushN 7 36 d_Mod_productTo_34 rfl rfl ?_
          refine G_iload1 37 d_Mod_productTo_36 rfl ?_
          first | refine G_imulN 38 d_Mod_productTo_37 rfl ?_ | refine G_imul 38 d_Mod_productTo_37 rfl ?_
          refine G_iload3 39 d_Mod_productTo_38 rfl ?_
          first | refine G_iaddN 40 d_Mod_productTo_39 rfl ?_ | refine G_iadd 40 d_Mod_productTo_39 rfl ?_
          refine G_ialoadv 41 d_Mod_productTo_40 rfl h.s36 (ix_nI (by omega) (by omega)) p1 ?_
          first | refine G_icgeN 70 44 d_Mod_productTo_41 rfl rfl (by omega) (by omega) (fun h41 => ?_) (fun h41 => ?_) | refine G_icge 70 44 d_Mod_productTo_41 rfl rfl (fun h41 => ?_) (fun h41 => ?_)
          · first | refine G_iincN3 73 d_Mod_productTo_70 rfl (by decide) rfl ?_ | refine G_iinc3 _ 73 d_Mod_productTo_70 rfl (by decide) rfl rfl ?_
            refine G_goto 17 d_Mod_productTo_73 rfl ?_
            exact ih AK _ hk2 hg2 h142
          · omega
        · intro i hi ih2 AK hk2 hg2 h142
          have hdeg : ∀ t u, t < 84 → u < 84 → mp AK b 14 t ≠ 0 → mp AK b (6 + k) u ≠ 0 → eD t + eD u ≤ 6 := by
            intro t u ht hu a1 a2
            rw [h142] at a1
            rw [hg2 k hk] at a2
            have b1 := dgb_pow (dgb_prod (ps := fun g => mp AL b (6 + g)) (gl := gl) (r := r) k (fun j hj => hd j (by omega))) (hd k hk) i t ht a1
            have b2 := hd k hk u hu a2
            have b3 : (i + 1) * eD (gl k) ≤ pw r k * eD (gl k) := Nat.mul_le_mul_right _ hi
            rw [Nat.succ_mul] at b3
            rw [rdeg] at hrk
            omega
          have hm := s_mMultiply (V := V) (d := d) (p := 14) (q := 6 + k) (r := 15) (FI := FI) (AL := AK) h hT (by omega) (by omega) (by omega) (by omega) (by omega) hdeg
          have e1 : mp (sp AK b 15 (mulP (mp AK b 14) (mp AK b (6 + k)))) b 15 = mulP (mp AK b 14) (mp AK b (6 + k)) := by rw [mp_sp, cu_mulP]
          refine G_iload4 30 d_Mod_productTo_28 rfl ?_
          refine G_aload0 31 d_Mod_productTo_30 rfl ?_
          refine G_getR 34 d_Mod_productTo_31 rfl f_Mod_91 rfl h.sh h.f36 ?_
          refine G_bipushN 7 36 d_Mod_productTo_34 rfl rfl ?_
          refine G_iload1 37 d_Mod_productTo_36 rfl ?_
          first | refine G_imulN 38 d_Mod_productTo_37 rfl ?_ | refine G_imul 38 d_Mod_productTo_37 rfl ?_
          refine G_iload3 39 d_Mod_productTo_38 rfl ?_
          first | refine G_iaddN 40 d_Mod_productTo_39 rfl ?_ | refine G_iadd 40 d_Mod_productTo_39 rfl ?_
          refine G_ialoadv 41 d_Mod_productTo_40 rfl h.s36 (ix_nI (by omega) (by omega)) p1 ?_
          first | refine G_icgeN 70 44 d_Mod_productTo_41 rfl rfl (by omega) (by omega) (fun h41 => ?_) (fun h41 => ?_) | refine G_icge 70 44 d_Mod_productTo_41 rfl rfl (fun h41 => ?_) (fun h41 => ?_)
          · omega
          · refine G_aload0 45 d_Mod_productTo_44 rfl ?_
            refine G_bipushN 14 47 d_Mod_productTo_45 rfl rfl ?_
            refine G_bipushN 6 49 d_Mod_productTo_47 rfl rfl ?_
            refine G_iload3 50 d_Mod_productTo_49 rfl ?_
            first | refine G_iaddN 51 d_Mod_productTo_50 rfl ?_ | refine G_iadd 51 d_Mod_productTo_50 rfl ?_
            refine G_bipushN 15 53 d_Mod_productTo_51 rfl rfl ?_
            refine G_invV3v 56 d_Mod_productTo_53 rfl e_Mod_216 M_Mod_multiply rfl h.sh (Nat.le_of_ble_eq_true rfl) (Nat.le_of_ble_eq_true rfl) rfl (hm) ?_
            refine G_aload0 57 d_Mod_productTo_56 rfl ?_
            refine G_bipushN 15 59 d_Mod_productTo_57 rfl rfl ?_
            refine G_bipushN 14 61 d_Mod_productTo_59 rfl rfl ?_
            refine G_invV2v 64 d_Mod_productTo_61 rfl e_Mod_208 M_Mod_copyTo rfl h.sh (Nat.le_of_ble_eq_true rfl) (Nat.le_of_ble_eq_true rfl) rfl (s_mCopy (by assumption) (by omega) (by omega)) ?_
            first | refine G_iincN4 67 d_Mod_productTo_64 rfl (by decide) rfl ?_ | refine G_iinc4 _ 67 d_Mod_productTo_64 rfl (by decide) rfl rfl ?_
            refine G_goto 28 d_Mod_productTo_67 rfl ?_
            refine ih2 _ ((hk2.sp (Or.inr (Or.inl rfl))).sp (Or.inl rfl)) (fun g hg3 => by rw [mp_spn (by omega), mp_spn (by omega)]; exact hg2 g hg3) ?_
            rw [mp_sp, mp_cu, e1, h142, hg2 k hk]
            rfl
      refine G_iload3 18 d_Mod_productTo_17 rfl ?_
      refine G_aload0 19 d_Mod_productTo_18 rfl ?_
      refine G_getIv 22 d_Mod_productTo_19 rfl f_Mod_133 rfl h.sh hn ?_
      first | refine G_icgeN 76 25 d_Mod_productTo_22 rfl rfl (by omega) (by omega) (fun h22 => ?_) (fun h22 => ?_) | refine G_icge 76 25 d_Mod_productTo_22 rfl rfl (fun h22 => ?_) (fun h22 => ?_)
      · omega
      · refine G_iconstN 0 26 d_Mod_productTo_25 rfl rfl ?_
        refine G_istore4 28 d_Mod_productTo_26 rfl (by decide) rfl ?_
        exact L2 0 (Nat.zero_le _) AJ hkk hg h14
  have e2 : u2 (sp AL b 14 (fun _ => 0)) (b + 1) 1176 1 = sp AL b 14 one := by
    have := sp_u2 (AL := AL) (b := b) (p := 14) (w := 0) (f := fun _ => 0) (x := 1) (by omega)
    rw [show 84 * 14 + 0 = 1176 from rfl] at this
    rw [this]
    rfl
  refine G_aload0 1 d_Mod_productTo_0 rfl ?_
  refine G_bipushN 14 3 d_Mod_productTo_1 rfl rfl ?_
  refine G_invV1v 6 d_Mod_productTo_3 rfl e_Mod_162 M_Mod_clearAt rfl h.sh (Nat.le_of_ble_eq_true rfl) (Nat.le_of_ble_eq_true rfl) rfl (s_mClear (by assumption) (by omega)) ?_
  refine G_aload0 7 d_Mod_productTo_6 rfl ?_
  refine G_getR 10 d_Mod_productTo_7 rfl f_Mod_9 rfl h.sh h.f0 ?_
  refine G_sipushN 1176 13 d_Mod_productTo_10 rfl rfl ?_
  refine G_lconst 1 14 d_Mod_productTo_13 rfl rfl ?_
  refine G_lastore 15 d_Mod_productTo_14 rfl h.s0 (ix_nI (by omega) (by omega)) ?_
  rw [e2]
  refine G_iconstN 0 16 d_Mod_productTo_15 rfl rfl ?_
  refine G_istore3 17 d_Mod_productTo_16 rfl (by decide) rfl ?_
  exact L 0 (Nat.zero_le _) _ none (mpk.rf.sp (Or.inl rfl)) (fun g hg => mp_spn (by omega)) (by rw [mp_sp, cu_one]; rfl)
