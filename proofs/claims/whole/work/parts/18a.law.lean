/-! ===== the law: its beginning, its loop ===== -/
def gt0 : GT := (0, fun _ => 0, fun _ _ => 0, fun _ => 0, fun _ _ => 0, fun _ _ => 0)
def st0 : ST := (fun _ _ => 0, 0, gt0, (false, []), (fun _ => -1, fun _ => 0, fun _ _ => 0), (0, fun _ => 0, fun _ => 0, fun _ _ => 0), none)
theorem ws0 : WS st0 := by
  have c0 : cu (fun _ => 0) = fun _ => (0 : Int64) := by funext t; unfold cu; split <;> rfl
  refine ⟨by decide, ⟨Nat.zero_le _, fun i hi => absurd hi (Nat.not_lt_zero i), fun i j hi => absurd hi (Nat.not_lt_zero i)⟩, fun s _ => c0, (fun h => by cases h), fun i _ => Or.inl ⟨rfl, rfl⟩, ⟨Nat.zero_le _, fun l hl => absurd hl (Nat.not_lt_zero l)⟩, fun k h => by cases h⟩
theorem ns0 : NS st0 := by
  have c0 : nb (fun _ => (0 : Int64)) := by unfold nb; decide +kernel
  exact ⟨fun s _ => c0, fun g hg => absurd hg (Nat.not_lt_zero g), fun l hl => absurd hl (Nat.not_lt_zero l), fun k h => by cases h⟩
theorem nnF_le (X : XT) (lo : Nat) : ∀ k, nnF X lo k ≤ k
  | 0 => Nat.le_refl _
  | k + 1 => by
    have := nnF_le X lo k
    rw [nnF]
    split <;> omega
theorem li0 {X0 X1 X2 : XT} {AI1 AI2 : FT} {lo : Nat} (hx : x_sz X0 = lo) (y : LY algLL X0 X1 lo 110 mAl akE aaE) (a1 : ∀ b, (∀ i, i < 7 → b ≠ cta lo i) → AI1 b = aR lo b) (a2 : TBL AI1 (cta lo) []) (a3 : ∀ j, j < 84 → AI1 (lo + 34) j = nI 0) (z : LY modLL X1 X2 (lo + 110) 40 mMo mk39 []) (b1 : MTb AI2 (lo + 110)) (b2 : ∀ k, k < 84 → AI2 (lo + 110 + 7) k = nI (rk 0 k)) (b3 : ∀ c, (∀ i, 3 ≤ i → i ≤ 8 → c ≠ lo + 110 + i) → AI2 c = sA AI1 (lo + 110) c) :
    ∃ C E, LI C E st0 X2 (fS lo 4) AI2 zL0 lo ∧ C ≤ x_nc X0 + 355 ∧ E ≤ x_ns X0 + 40000 := by
  have fr : ∀ c, c < lo + 110 → x_sh X2 c = x_sh X1 c ∧ x_FR X2 c = x_FR X1 c ∧ x_AR X2 c = x_AR X1 c := z.2.2.2.2.2.2.1
  have y' : LY algLL X0 (x_sh X2, x_FR X2, x_AR X2, x_sz X1, x_nc X1, x_ns X1) lo 110 mAl akE aaE := by
    obtain ⟨h1, h2, h3, h4, h5, h6, h7, h8, h9⟩ := y
    refine ⟨h1, fun i hi => ?_, fun q hq => ⟨(h3 q hq).1, ?_⟩, fun q hq => ⟨(h4 q hq).1, ?_⟩, fun c j hc hk => ?_, fun c j hc hk => ?_, fun c hc => ?_, h8, h9⟩
    · exact (fr _ (by omega)).1.trans (h2 i hi)
    · have hq2 := (h3 q hq).1
      show x_FR X2 (lo + q.1) q.2.1 = _
      rw [(fr _ (by omega)).2.1]; exact (h3 q hq).2
    · have hq2 := (h4 q hq).1
      show x_AR X2 (lo + q.1) q.2.1 = _
      rw [(fr _ (by omega)).2.2]; exact (h4 q hq).2
    · show x_FR X2 (lo + c) j = _
      rw [(fr _ (by omega)).2.1]; exact h5 c j hc hk
    · show x_AR X2 (lo + c) j = _
      rw [(fr _ (by omega)).2.2]; exact h6 c j hc hk
    · obtain ⟨g1, g2, g3⟩ := fr c (by omega)
      exact ⟨g1.trans (h7 c hc).1, g2.trans (h7 c hc).2.1, g3.trans (h7 c hc).2.2⟩
  have hC0 := alg_co y'
  have hC : CO X2 lo := hC0
  have hM : MO X2 (lo + 110) := mod_mo z
  have hn : ∀ p, x_AR X2 (lo + 33) p = none := fun p => y'.2.2.2.2.2.1 33 p (by omega) (fun q hq e => (show ∀ q ∈ aaE, ¬ q.1 = 33 by decide) q hq e.1)
  have hk : x_FR X2 lo 12 = none := y'.2.2.2.2.1 0 12 (by omega) (by decide)
  have ai : ∀ c, c < lo + 110 → AI2 c = AI1 c := fun c hc => by rw [b3 c (fun i _ _ => by omega), sA_o (by omega)]
  have az : ∀ c, lo + 35 ≤ c → AI1 c = fun _ => 0 := fun c hc => by
    rw [a1 c (fun i hi => by unfold cta; omega)]
    exact if_neg (by omega)
  have f0 : ∀ c, (∀ i, i < 4 → c ≠ lo + 78 + 2 * i) → fS lo 4 c = fun _ => 0 := fun c hc => fS_o hc 4 (Nat.le_refl _)
  have fl : fS lo 4 lo = fun _ => 0 := f0 lo (fun i _ => by omega)
  have fb : fS lo 4 (lo + 110) = fun _ => 0 := f0 _ (fun i _ => by omega)
  have hz2 := z.1
  have hc2 := z.2.2.2.2.2.2.2.1
  have hs2 := z.2.2.2.2.2.2.2.2
  have hc1 := y.2.2.2.2.2.2.2.1
  have hs1 := y.2.2.2.2.2.2.2.2
  have nn := nnF_le X2 lo 84
  have eA : mAl = 0 + mAl := (Nat.zero_add _).symm
  refine ⟨_, _, ⟨hC, hM, ⟨fun s _ => rfl, ⟨?_, fun k hk => ?_⟩, ⟨?_, Nat.zero_le _, fun i hi => absurd hi (Nat.not_lt_zero i)⟩, ?_, ⟨fun p hp => ⟨Or.inl ?_, fun _ => ?_, fun a ha => ?_⟩, fun p q a c _ _ _ h => ?_, fun p a k _ h => ?_⟩, ⟨Or.inl (by rw [fl]), fun h => ?_⟩, ⟨Or.inl (by rw [fl]), fun h => ?_⟩, fun i hi => ⟨fS_0 4 hi, fS_1 (Nat.le_refl _) 4, fun j hj => ?_⟩, ⟨by rw [fl]; rfl, fun l hl => absurd hl (Nat.not_lt_zero l)⟩, ⟨60, 63, Or.inl ⟨rfl, rfl⟩, y'.fr 0 10 60 (by decide), y'.fr 0 11 63 (by decide), by rw [fl]; rfl, (fun h => by cases h)⟩, hk, ⟨by omega, rfl, rfl⟩⟩, MIv.mk ⟨b1, by rw [fb]; rfl, by decide, b2, fun g hg => absurd hg (Nat.not_lt_zero g)⟩ (by rw [fb]; rfl) (fun s hs => ?_) ⟨by rw [fb]; rfl, (fun h => by cases h)⟩ (fun i hi => ⟨?_, ?_, fun j hj => ?_⟩) ⟨by rw [fb]; rfl, fun l hl => absurd hl (Nat.not_lt_zero l)⟩ (by show fS lo 4 (lo + 110) 19 = 0; rw [fb]), ws0, ns0⟩, ?_, ?_⟩
  · rw [f0 _ (fun i _ => by omega)]; rfl
  · rw [ai _ (by omega), a1 _ (fun i hi => by unfold cta; omega)]
    exact congrFun (if_pos rfl : aR lo (lo + 3) = fun k => nI (rk 0 k)) k
  · rw [f0 _ (fun i _ => by omega)]; rfl
  · have ht : CTb gt0 AI1 lo := a2
    exact ht.tr (ai _ (by omega)) (ai _ (by omega))
  · rw [ai _ (by omega), a3 p hp]; rfl
  · rw [ai _ (by omega), a3 p hp]; rfl
  · rw [hn p] at ha; cases ha
  · rw [hn] at h; cases h
  · rw [hn] at h; cases h
  · rw [fl] at h; exact absurd h (by decide)
  · rw [fl] at h; exact absurd h (by decide)
  · rw [ai _ (by omega), az _ (by omega)]; rfl
  · funext t
    unfold mp
    split <;> rfl
  · rw [b3 _ (fun i _ _ => by omega), sA_i hi]; rfl
  · rw [b3 _ (fun i _ _ => by omega), sA_o (by omega), az _ (by omega)]; rfl
  · rw [b3 _ (fun i _ _ => by omega), sA_o (by omega), az _ (by omega)]; rfl
  · rw [hk, if_pos rfl]
    omega
  · rw [hk, if_pos rfl]
    have e1 : mAl = 6005 := rfl
    have e2 : mMo = 17576 := rfl
    omega
theorem lw_gt {n i : Nat} (hn : n ≤ 3072) (hi : i ≤ 3078) (h : n < i + 6) : nI n - 6 < nI i := by
  have e1 : (nI n).toInt = n := nI_toInt (by omega)
  have e2 : (nI i).toInt = i := nI_toInt (by omega)
  have e3 : (6 : Int32).toInt = 6 := rfl
  rw [Int32.lt_iff_toInt_lt, Int32.toInt_sub, e1, e2, e3, Int.bmod_eq_of_le_mul_two (by omega) (by omega)]
  omega
theorem and63 (x : Int32) : ∃ j, j < 64 ∧ x &&& 63 = nI j := by
  refine ⟨(x.toBitVec &&& 63#32).toNat, ?_, ?_⟩
  · rw [BitVec.toNat_and]
    exact Nat.lt_of_le_of_lt Nat.and_le_right (by decide)
  · refine Int32.toBitVec_inj.mp ?_
    show (x &&& 63).toBitVec = BitVec.ofNat 32 _
    rw [Int32.toBitVec_and, BitVec.ofNat_toNat, BitVec.setWidth_eq]
    rfl
theorem law_sw {V : GV} {d lo C E i : Nat} {S : ST} {X : XT} {FI AI : FT} {AL : LT} {P : PT} (hcg : CGL) (hL : LI C E S X FI AI AL lo) (hi : i + 6 ≤ v_sn V) (hn : v_sn V ≤ 3072) (k : LK V d lo C E i P) : ∀ j, j < 64 → G V m_Law_law (d + 11) 33 [some (.ref (v_sb V)), some (.ref lo), some (.ref (lo + 110)), some (.int (nI i))] [.int (nI j)] X FI AI AL P
  | 0, _ => G_tableIn 268 d_Law_law_33 (by decide) (by decide) rfl rfl (l_order hcg hL hi hn k)
  | 1, _ => G_tableIn 291 d_Law_law_33 (by decide) (by decide) rfl rfl (l_term hcg hL hi hn k)
  | 2, _ => G_tableIn 354 d_Law_law_33 (by decide) (by decide) rfl rfl (l_clear hcg hL hi hn k)
  | 3, _ => G_tableIn 377 d_Law_law_33 (by decide) (by decide) rfl rfl (l_add hcg hL hi hn k)
  | 4, _ => G_tableIn 420 d_Law_law_33 (by decide) (by decide) rfl rfl (l_times hcg hL hi hn k)
  | 5, _ => G_tableIn 453 d_Law_law_33 (by decide) (by decide) rfl rfl (l_turn hcg hL hi hn k)
  | 6, _ => G_tableIn 486 d_Law_law_33 (by decide) (by decide) rfl rfl (l_even hcg hL hi hn k)
  | 7, _ => G_tableIn 509 d_Law_law_33 (by decide) (by decide) rfl rfl (l_orbit hcg hL hi hn k)
  | 8, _ => G_tableIn 532 d_Law_law_33 (by decide) (by decide) rfl rfl (l_like hcg hL hi hn k)
  | 9, _ => G_tableIn 555 d_Law_law_33 (by decide) (by decide) rfl rfl (l_coefficient hcg hL hi hn k)
  | 10, _ => G_tableIn 609 d_Law_law_33 (by decide) (by decide) rfl rfl (l_lead hcg hL hi hn k)
  | 11, _ => G_tableIn 642 d_Law_law_33 (by decide) (by decide) rfl rfl (l_norm hcg hL hi hn k)
  | 12, _ => G_tableIn 666 d_Law_law_33 (by decide) (by decide) rfl rfl (l_at hcg hL hi hn k)
  | 13, _ => G_tableIn 730 d_Law_law_33 (by decide) (by decide) rfl rfl (l_poly hcg hL hi hn k)
  | 14, _ => G_tableIn 783 d_Law_law_33 (by decide) (by decide) rfl rfl (l_spread hcg hL hi hn k)
  | 15, _ => G_tableIn 826 d_Law_law_33 (by decide) (by decide) rfl rfl (l_family hcg hL hi hn k)
  | 16, _ => G_tableIn 849 d_Law_law_33 (by decide) (by decide) rfl rfl (l_generator hcg hL hi hn k)
  | 17, _ => G_tableIn 872 d_Law_law_33 (by decide) (by decide) rfl rfl (l_give hcg hL hi hn k)
  | 18, _ => G_tableIn 905 d_Law_law_33 (by decide) (by decide) rfl rfl (l_ofGenerator hcg hL hi hn k)
  | 19, _ => G_tableIn 938 d_Law_law_33 (by decide) (by decide) rfl rfl (l_drop hcg hL hi hn k)
  | 20, _ => G_tableIn 951 d_Law_law_33 (by decide) (by decide) rfl rfl (l_made hcg hL hi hn k)
  | 21, _ => G_tableIn 995 d_Law_law_33 (by decide) (by decide) rfl rfl (l_grown hcg hL hi hn k)
  | 22, _ => G_tableIn 1059 d_Law_law_33 (by decide) (by decide) rfl rfl (l_closed hcg hL hi hn k)
  | 23, _ => G_tableIn 1072 d_Law_law_33 (by decide) (by decide) rfl rfl (l_through hcg hL hi hn k)
  | 24, _ => G_tableIn 1095 d_Law_law_33 (by decide) (by decide) rfl rfl (l_rows hcg hL hi hn k)
  | 25, _ => G_tableIn 1138 d_Law_law_33 (by decide) (by decide) rfl rfl (l_row hcg hL hi hn k)
  | 26, _ => G_tableIn 1201 d_Law_law_33 (by decide) (by decide) rfl rfl (l_monoid hcg hL hi hn k)
  | 27, _ => G_tableIn 1234 d_Law_law_33 (by decide) (by decide) rfl rfl (l_root hcg hL hi hn k)
  | 28, _ => G_tableIn 1277 d_Law_law_33 (by decide) (by decide) rfl rfl (l_rank hcg hL hi hn k)
  | 29, _ => G_tableIn 1300 d_Law_law_33 (by decide) (by decide) rfl rfl (l_lattice hcg hL hi hn k)
  | 30, _ => G_tableIn 1334 d_Law_law_33 (by decide) (by decide) rfl rfl (l_span hcg hL hi hn k)
  | 31, _ => G_tableIn 1368 d_Law_law_33 (by decide) (by decide) rfl rfl (l_inSpan hcg hL hi hn k)
  | 32, _ => G_tableIn 1411 d_Law_law_33 (by decide) (by decide) rfl rfl (l_index hcg hL hi hn k)
  | 33, _ => G_tableIn 1425 d_Law_law_33 (by decide) (by decide) rfl rfl (l_relations hcg hL hi hn k)
  | 34, _ => G_tableIn 1448 d_Law_law_33 (by decide) (by decide) rfl rfl (l_relation hcg hL hi hn k)
  | 35, _ => G_tableIn 1501 d_Law_law_33 (by decide) (by decide) rfl rfl (l_part hcg hL hi hn k)
  | 36, _ => G_tableIn 1545 d_Law_law_33 (by decide) (by decide) rfl rfl (l_difference hcg hL hi hn k)
  | 37, _ => G_tableIn 1588 d_Law_law_33 (by decide) (by decide) rfl rfl (l_open hcg hL hi hn k)
  | 38, _ => G_tableIn 1611 d_Law_law_33 (by decide) (by decide) rfl rfl (l_complete hcg hL hi hn k)
  | 39, _ => G_tableIn 1634 d_Law_law_33 (by decide) (by decide) rfl rfl (l_wouldGrow hcg hL hi hn k)
  | 40, _ => G_tableIn 1667 d_Law_law_33 (by decide) (by decide) rfl rfl (l_certified hcg hL hi hn k)
  | 41, _ => G_tableIn 1690 d_Law_law_33 (by decide) (by decide) rfl rfl (l_subduct hcg hL hi hn k)
  | 42, _ => G_tableIn 1713 d_Law_law_33 (by decide) (by decide) rfl rfl (l_member hcg hL hi hn k)
  | 43, _ => G_tableIn 1736 d_Law_law_33 (by decide) (by decide) rfl rfl (l_step hcg hL hi hn k)
  | 44, _ => G_tableIn 1770 d_Law_law_33 (by decide) (by decide) rfl rfl (l_witness hcg hL hi hn k)
  | 45, _ => G_tableIn 1793 d_Law_law_33 (by decide) (by decide) rfl rfl (l_sheet hcg hL hi hn k)
  | 46, _ => G_tableIn 1836 d_Law_law_33 (by decide) (by decide) rfl rfl (l_cell hcg hL hi hn k)
  | 47, _ => G_tableIn 1879 d_Law_law_33 (by decide) (by decide) rfl rfl (l_item hcg hL hi hn k)
  | 48, _ => G_tableIn 1913 d_Law_law_33 (by decide) (by decide) rfl rfl (l_move hcg hL hi hn k)
  | 49, _ => G_tableIn 1976 d_Law_law_33 (by decide) (by decide) rfl rfl (l_link hcg hL hi hn k)
  | 50, _ => G_tableIn 2009 d_Law_law_33 (by decide) (by decide) rfl rfl (l_run hcg hL hi hn k)
  | 51, _ => G_tableIn 2042 d_Law_law_33 (by decide) (by decide) rfl rfl (l_loosen hcg hL hi hn k)
  | 52, _ => G_tableIn 2055 d_Law_law_33 (by decide) (by decide) rfl rfl (l_keep hcg hL hi hn k)
  | 53, _ => G_tableIn 2068 d_Law_law_33 (by decide) (by decide) rfl rfl (l_back hcg hL hi hn k)
  | 54, _ => G_tableIn 2081 d_Law_law_33 (by decide) (by decide) rfl rfl (l_count hcg hL hi hn k)
  | j + 55, h => by
    refine G_tableOut 2104 d_Law_law_33 (Or.inr ?_) rfl (k _ _ _ _ _ hL)
    have : (nI (j + 55)).toInt = (j + 55 : Nat) := nI_toInt (by omega)
    rw [this]
    omega
/-- the whole loop -/
def LPo (C E : Nat) : PT := fun r X' _ _ _ => r = some (.int 1) ∧ x_nc X' ≤ C ∧ x_ns X' ≤ E
theorem law_18 {V : GV} {d lo C E : Nat} (hcg : CGL) (hn : v_sn V ≤ 3072) : ∀ f i, v_sn V ≤ i + f → i ≤ 3078 → ∀ (S : ST) (X : XT) (FI AI : FT) (AL : LT), LI C E S X FI AI AL lo → G V m_Law_law (d + 11) 18 [some (.ref (v_sb V)), some (.ref lo), some (.ref (lo + 110)), some (.int (nI i))] [] X FI AI AL (LPo C E) := by
  intro f
  induction f with
  | zero =>
    intro i hf hi S X FI AI AL hL
    refine G_iload3 19 d_Law_law_18 rfl ?_
    refine G_aload0 20 d_Law_law_19 rfl ?_
    refine G_sclen 21 d_Law_law_20 rfl ?_
    refine G_bipush (6) 23 d_Law_law_21 rfl rfl ?_
    refine G_isub 24 d_Law_law_23 rfl ?_
    refine G_icgt 2110 27 d_Law_law_24 rfl rfl (fun _ => ?_) (fun h => ?_)
    · refine G_iconst 1 2111 d_Law_law_2110 rfl rfl ?_
      refine G_zret d_Law_law_2111 rfl (Or.inr rfl) ⟨rfl, ?_, ?_⟩
      · have := hL.2.2.1.2.2.2.2.2.2.2.2.2.2.2.2.1
        omega
      · have := hL.2.2.1.2.2.2.2.2.2.2.2.2.2.2.2.2
        omega
    · exact absurd (lw_gt hn hi (by omega)) h
  | succ f ih =>
    intro i hf hi S X FI AI AL hL
    refine G_iload3 19 d_Law_law_18 rfl ?_
    refine G_aload0 20 d_Law_law_19 rfl ?_
    refine G_sclen 21 d_Law_law_20 rfl ?_
    refine G_bipush (6) 23 d_Law_law_21 rfl rfl ?_
    refine G_isub 24 d_Law_law_23 rfl ?_
    refine G_icgt 2110 27 d_Law_law_24 rfl rfl (fun _ => ?_) (fun h => ?_)
    · refine G_iconst 1 2111 d_Law_law_2110 rfl rfl ?_
      refine G_zret d_Law_law_2111 rfl (Or.inr rfl) ⟨rfl, ?_, ?_⟩
      · have := hL.2.2.1.2.2.2.2.2.2.2.2.2.2.2.2.1
        omega
      · have := hL.2.2.1.2.2.2.2.2.2.2.2.2.2.2.2.2
        omega
    · have h6 : i + 6 ≤ v_sn V := Nat.not_lt.mp (fun q => h (lw_gt hn hi q))
      refine G_aload0 28 d_Law_law_27 rfl ?_
      refine G_iload3 29 d_Law_law_28 rfl ?_
      refine G_scald 30 d_Law_law_29 rfl (ix_nI (by omega) (by omega)) ?_
      refine G_bipushN 63 32 d_Law_law_30 rfl rfl ?_
      refine G_iand 33 d_Law_law_32 rfl ?_
      obtain ⟨j, hj, ej⟩ := and63 (v_sx V i)
      first | rw [ej] | rw [show v_sx V i &&& nI 63 = nI j from ej]
      refine law_sw hcg hL h6 hn (fun S' X' FI' AI' AL' hL' => ?_) j hj
      first | refine G_iinc3 _ 2107 d_Law_law_2104 rfl (by decide) rfl (nI_add _ 6) ?_ | refine G_iinc3 _ 2107 d_Law_law_2104 rfl (by decide) rfl rfl ?_
      refine G_goto 18 d_Law_law_2107 rfl ?_
      exact ih (i + 6) (by omega) (by omega) S' X' FI' AI' AL' hL'
set_option maxRecDepth 20000 in
theorem s_law {V : GV} {d : Nat} {X : XT} (hcg : CGL) (hn : v_sn V ≤ 3072) : G V m_Law_law (d + 11) 0 [some (.ref (v_sb V)), none, none, none] [] X zI0 zI0 zL0 (fun r X' _ _ _ => r = some (.int 1) ∧ x_nc X' ≤ x_nc X + 355 ∧ x_ns X' ≤ x_ns X + 40000) := by
  refine G_new0 (ci := 10) (T := T_Alg) 3 d_Law_law_0 rfl c_Law_7 q_Alg rfl rfl ?_
  have hA := s_algInit (V := V) (d := d + 6) (X := X)
  refine G_dup 4 d_Law_law_3 rfl rfl ?_
  refine G_invI0 7 d_Law_law_4 rfl e_Law_9 M_Alg_init rfl (Nat.le_of_ble_eq_true rfl) (Nat.le_of_ble_eq_true rfl) rfl (G.conseq (hA) (fun r4 X4 FI4 AI4 AL4 h4 => ?_))
  obtain ⟨h1, y, h3, h4, h5, h6, h7⟩ := h4
  subst h1 h3 h4
  refine G_astore1 8 d_Law_law_7 rfl (by decide) rfl ?_
  have hz : ZZ (fS (x_sz X) 4) AI4 zL0 (x_sz X4) := by
    refine ⟨fS_n 4 (Nat.le_refl _) (by rw [y.1]; omega), fun c hc => ?_, fun _ _ => rfl⟩
    rw [y.1] at hc
    rw [h5 c (fun i hi => by unfold cta; omega)]
    exact if_neg (by omega)
  have hB := s_modInit (V := V) (d := d + 7) hz
  refine G_new0 (ci := 11) (T := T_Mod) 11 d_Law_law_8 rfl c_Law_10 q_Mod rfl (hz.1 _ (Nat.le_refl _)) ?_
  refine G_dup 12 d_Law_law_11 rfl rfl ?_
  refine G_invI0 15 d_Law_law_12 rfl e_Law_12 M_Mod_init rfl (Nat.le_of_ble_eq_true rfl) (Nat.le_of_ble_eq_true rfl) rfl (G.conseq (hB) (fun r12 X12 FI12 AI12 AL12 h12 => ?_))
  obtain ⟨g1, z, g3, g4, g5, g6, g7⟩ := h12
  subst g1 g3 g4
  refine G_astore2 16 d_Law_law_15 rfl (by decide) rfl ?_
  refine G_iconstN 0 17 d_Law_law_16 rfl rfl ?_
  refine G_istore3 18 d_Law_law_17 rfl (by decide) rfl ?_
  rw [y.1] at z g5 g6 g7
  obtain ⟨C, E, hL, hC, hE⟩ := li0 rfl y h5 h6 h7 z g5 g6 g7
  rw [y.1]
  exact (law_18 hcg hn (v_sn V) 0 (by omega) (by omega) st0 X12 _ AI12 zL0 hL).conseq (fun r X' _ _ _ h => ⟨h.1, Nat.le_trans h.2.1 hC, Nat.le_trans h.2.2 hE⟩)
