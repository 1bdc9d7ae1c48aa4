/-! ===== a pass: what its minors come to ===== -/
def HPc (hs : Nat → Nat) (u s Pm : Nat) : Prop := ∀ P, P ≤ Pm → u ≤ hs P ∧ ∀ P2, 1 ≤ P2 → P2 < P → (min (P2 - 1) (P - P2) + (s - 2) * min (P2 - 1) (P - 1 - P2)) * hs P2 ≤ P2 * hs P ∧ hs P2 ≤ hs P
def KG (hs : Nat → Nat) (u Pm F i n j : Nat) (cs : List Nat) (Z : LZ) : Prop := ∃ P D, P ≤ Pm ∧ (Z i j).natAbs ≤ P ∧ (∀ k, i < k → k < n → (Z k j).natAbs + 1 ≤ P) ∧ D * hs P < u * (F + 1) ∧ ∀ σ : Nat → Nat, (∀ x, x < cs.length + 1 → i ≤ σ x ∧ σ x < n) → (mn (j :: cs) (fun x => Z (σ x))).natAbs ≤ D
def KQ (F i n j : Nat) (cs : List Nat) (Z : LZ) : Prop := (∃ hs u Pm, 1 ≤ u ∧ 1 ≤ cs.length ∧ HPc hs u (cs.length + 1) Pm ∧ KG hs u Pm F i n j cs Z) ∨ (∃ S T0, CK S F T0 ∧ cs.length + 2 = n - i ∧ KW S F T0 (n - i) (fun x => Z (i + x) j) (cofZ (j :: cs) (fun x => Z (i + x)))) ∨ (cs.length + 1 = n - i ∧ ∀ σ : Nat → Nat, (∀ x, x < cs.length + 1 → i ≤ σ x ∧ σ x < n) → (mn (j :: cs) (fun x => Z (σ x))).natAbs ≤ F)
theorem KW.cg {S C T0 m : Nat} {a a' w w' : Nat → Int} (h : KW S C T0 m a w) (e1 : ∀ x, x < m → a x = a' x) (e2 : ∀ x, x < m → w x = w' x) : KW S C T0 m a' w' := by
  obtain ⟨t, h1, h2, h3, h4, h5, h6, h7⟩ := h
  have k1 : xWs m a' w' = xWs m a w := sg_c _ (fun x hx => by show (if 0 < a' x * w' x then ((w' x).natAbs : Int) else 0) = _; rw [e1 x hx, e2 x hx])
  have k2 : yWs m a' w' = yWs m a w := sg_c _ (fun x hx => by show (if a' x * w' x < 0 then ((w' x).natAbs : Int) else 0) = _; rw [e1 x hx, e2 x hx])
  have k3 : pWs m a' w' = pWs m a w := sg_c _ (fun x hx => by show (if 0 < a' x * w' x then a' x * w' x else 0) = _; rw [e1 x hx, e2 x hx])
  have k4 : nWs m a' w' = nWs m a w := sg_c _ (fun x hx => by show (if a' x * w' x < 0 then - (a' x * w' x) else 0) = _; rw [e1 x hx, e2 x hx])
  exact ⟨t, fun x hx => by rw [← e2 x hx]; exact h1 x hx, by rw [k1]; exact h2, by rw [k2]; exact h3, by rw [k1, k2]; exact h4, by rw [k3]; exact h5, by rw [k4]; exact h6, by rw [← h7]; exact sg_c _ (fun x hx => by rw [e1 x hx, e2 x hx])⟩
def swN (i m k : Nat) : Nat := if k = i then m else if k = m then i else k
theorem swN_b {i m n k : Nat} (h1 : i ≤ m) (h2 : m < n) (h3 : i ≤ k) (h4 : k < n) : i ≤ swN i m k ∧ swN i m k < n := by
  unfold swN
  split
  · omega
  · split <;> omega
theorem swN_tr {i m x : Nat} (h : i ≤ m) : swN i m (i + x) = i + trN (m - i) x := by
  unfold swN trN
  by_cases e : x = 0
  · rw [if_pos (by omega), if_pos e]; omega
  · rw [if_neg (by omega), if_neg e]
    by_cases q : x = m - i
    · rw [if_pos (by omega), if_pos q]; omega
    · rw [if_neg (by omega), if_neg q]
theorem trN_0 (x : Nat) : trN 0 x = x := by
  unfold trN
  by_cases q : x = 0
  · rw [if_pos q, q]
  · rw [if_neg q, if_neg q]
theorem tm_le {a p : Int} {A : Nat} (hp : p ≠ 0) (hl : a ≠ 0 → p.natAbs ≤ a.natAbs) (ha : a.natAbs ≤ A) : (a.tmod p).natAbs ≤ min (p.natAbs - 1) (A - p.natAbs) := by
  have h1 := tmod_lt (a := a) hp
  have h2 : (a.tmod p).natAbs ≤ A - p.natAbs := by
    rw [Int.natAbs_tmod]
    by_cases e : a = 0
    · rw [e]; simp
    · have h0 : 0 < p.natAbs := by omega
      have g2 := Nat.div_add_mod a.natAbs p.natAbs
      have g3 : 1 ≤ a.natAbs / p.natAbs := (Nat.le_div_iff_mul_le h0).mpr (by have := hl e; omega)
      have g4 : p.natAbs * 1 ≤ p.natAbs * (a.natAbs / p.natAbs) := Nat.mul_le_mul_left _ g3
      omega
  omega
theorem KQ.st {F i n j m : Nat} {cs : List Nat} {Z Z1 Z' : LZ} (hin : i < n) (hm1 : i ≤ m) (hm2 : m < n) (hj : j < 10) (hc : ∀ c, c ∈ cs → c < 10) (h1 : ∀ k, Z1 k = Z (swN i m k)) (hp : Z1 i j ≠ 0) (hl : ∀ k, i ≤ k → k < n → Z1 k j ≠ 0 → (Z1 i j).natAbs ≤ (Z1 k j).natAbs) (hZ : ∀ k, i < k → k < n → ∀ c, c ∈ j :: cs → Z' k c = Z1 k c - (Z1 k j).tdiv (Z1 i j) * Z1 i c) (hZi : Z' i = Z1 i) (h : KQ F i n j cs Z) : KQ F i n j cs Z' := by
  have hZ2 : ∀ k, i ≤ k → k < n → ∀ c, c ∈ j :: cs → Z' k c = Z1 k c - (if k = i then 0 else (Z1 k j).tdiv (Z1 i j)) * Z1 i c := fun k h1 h2 c hc => by
    by_cases e : k = i
    · rw [if_pos e, e, hZi]; omega
    · rw [if_neg e]; exact hZ k (by omega) h2 c hc
  have s1 : ∀ {D : Nat}, (∀ σ : Nat → Nat, (∀ x, x < cs.length + 1 → i ≤ σ x ∧ σ x < n) → (mn (j :: cs) (fun x => Z (σ x))).natAbs ≤ D) → ∀ σ : Nat → Nat, (∀ x, x < cs.length + 1 → i ≤ σ x ∧ σ x < n) → (mn (j :: cs) (fun x => Z1 (σ x))).natAbs ≤ D := fun hD σ hs => by
    have e : (fun x => Z1 (σ x)) = fun x => Z (swN i m (σ x)) := by funext x; exact h1 _
    rw [e]
    exact hD (fun x => swN i m (σ x)) (fun x hx => swN_b hm1 hm2 (hs x hx).1 (hs x hx).2)
  have zk : ∀ k, i < k → k < n → Z' k j = (Z1 k j).tmod (Z1 i j) := fun k a b => by
    rw [hZ k a b j List.mem_cons_self]; exact sub_tmod _ _
  rcases h with ⟨hs, u, Pm, hu, hL, hH, P, D, p1, p2, p3, p4, p5⟩ | ⟨S, T0, hck, hL, hk⟩ | ⟨hL, hk⟩
  · left
    refine ⟨hs, u, Pm, hu, hL, hH, ?_⟩
    have e1 : Z1 i = Z m := by rw [h1]; unfold swN; rw [if_pos rfl]
    have hP2 : (Z1 i j).natAbs ≤ P := by
      rw [e1]
      by_cases q : m = i
      · rw [q]; exact p2
      · have := p3 m (by omega) hm2; omega
    have szo : ∀ k, i < k → k < n → k ≠ m → (Z1 k j).natAbs + 1 ≤ P := fun k a b c => by
      rw [h1]; unfold swN; rw [if_neg (by omega), if_neg c]; exact p3 k a b
    have szm : ∀ k, i < k → k < n → (Z1 k j).natAbs ≤ P := fun k a b => by
      by_cases q : k = m
      · rw [h1]; unfold swN; rw [if_neg (by omega), if_pos q]; exact p2
      · have := szo k a b q; omega
    have key : ∃ D', D' * hs (Z1 i j).natAbs < u * (F + 1) ∧ ∀ σ : Nat → Nat, (∀ x, x < cs.length + 1 → i ≤ σ x ∧ σ x < n) → (mn (j :: cs) (fun x => Z' (σ x))).natAbs ≤ D' := by
      by_cases hlt : (Z1 i j).natAbs < P
      · obtain ⟨hu2, hH2⟩ := hH P p1
        obtain ⟨t1, t2⟩ := hH2 (Z1 i j).natAbs (by omega) hlt
        have hP0 : 0 < (Z1 i j).natAbs := by omega
        rw [show cs.length + 1 - 2 = cs.length - 1 by omega] at t1
        generalize hf : min ((Z1 i j).natAbs - 1) (P - (Z1 i j).natAbs) + (cs.length - 1) * min ((Z1 i j).natAbs - 1) (P - 1 - (Z1 i j).natAbs) = f at t1
        have hd : (f * D) / (Z1 i j).natAbs * hs (Z1 i j).natAbs ≤ D * hs P := by
          refine Nat.le_of_mul_le_mul_left (?_ : (Z1 i j).natAbs * ((f * D) / (Z1 i j).natAbs * hs (Z1 i j).natAbs) ≤ (Z1 i j).natAbs * (D * hs P)) hP0
          have a1 : (Z1 i j).natAbs * ((f * D) / (Z1 i j).natAbs) ≤ f * D := Nat.mul_div_le _ _
          have a2 := Nat.mul_le_mul_right (hs (Z1 i j).natAbs) a1
          have a3 := Nat.mul_le_mul_left D t1
          have a4 : (Z1 i j).natAbs * ((f * D) / (Z1 i j).natAbs) * hs (Z1 i j).natAbs = (Z1 i j).natAbs * ((f * D) / (Z1 i j).natAbs * hs (Z1 i j).natAbs) := Nat.mul_assoc _ _ _
          have a5 : f * D * hs (Z1 i j).natAbs = D * (f * hs (Z1 i j).natAbs) := by grind
          have a6 : D * ((Z1 i j).natAbs * hs P) = (Z1 i j).natAbs * (D * hs P) := by grind
          omega
        have he : D * hs (Z1 i j).natAbs ≤ D * hs P := Nat.mul_le_mul_left D t2
        refine ⟨max D ((f * D) / (Z1 i j).natAbs), ?_, fun σ hσ => ?_⟩
        · by_cases q : D ≤ (f * D) / (Z1 i j).natAbs
          · rw [Nat.max_eq_right q]; omega
          · rw [Nat.max_eq_left (by omega)]; omega
        · rcases mn_gr (m0 := m) (ro := min ((Z1 i j).natAbs - 1) (P - 1 - (Z1 i j).natAbs)) (rp := min ((Z1 i j).natAbs - 1) (P - (Z1 i j).natAbs)) hp hin hZ hZi (fun k a b c => tm_le hp (hl k (by omega) b) (by have := szo k a b c; omega)) (fun k a b => tm_le hp (hl k (by omega) b) (szm k a b)) (by omega) (s1 p5) hσ hL with g | g
          · omega
          · rw [hf] at g
            have := (Nat.le_div_iff_mul_le hP0).mpr g
            omega
      · have hPe : (Z1 i j).natAbs = P := by omega
        have hmi : m = i := by
          by_cases q : m = i
          · exact q
          · have := p3 m (by omega) hm2
            rw [e1] at hPe; omega
        have hz : ∀ k, i < k → k < n → Z1 k j = 0 := fun k a b => by
          by_cases q : Z1 k j = 0
          · exact q
          · have := hl k (by omega) b q
            have := szo k a b (by omega)
            omega
        refine ⟨D, by rw [hPe]; exact p4, fun σ hσ => ?_⟩
        rcases mn_gr (m0 := m) (ro := 0) (rp := 0) hp hin hZ hZi (fun k a b _ => by rw [hz k a b]; simp) (fun k a b => by rw [hz k a b]; simp) (Nat.le_refl _) (s1 p5) hσ hL with g | g
        · exact g
        · have : (mn (j :: cs) (fun x => Z' (σ x))).natAbs * (Z1 i j).natAbs = 0 := by
            rw [Nat.mul_zero, Nat.add_zero, Nat.zero_mul] at g; omega
          rcases Nat.mul_eq_zero.mp this with g2 | g2
          · omega
          · omega
    obtain ⟨D', k1, k2⟩ := key
    refine ⟨(Z1 i j).natAbs, D', by omega, by rw [hZi]; exact Nat.le_refl _, fun k a b => ?_, k1, k2⟩
    rw [zk k a b]
    exact tmod_lt hp
  · right; left
    refine ⟨S, T0, hck, hL, ?_⟩
    have hZ1 : ∀ x, Z1 (i + x) = Z (i + trN (m - i) x) := fun x => by rw [h1, swN_tr hm1]
    have hcl : ∀ c, c ∈ j :: cs → c < 10 := fun c hm => by
      rcases List.mem_cons.mp hm with e | e
      · rw [e]; exact hj
      · exact hc c e
    have hk1 : KW S F T0 (n - i) (fun x => Z1 (i + x) j) (cofZ (j :: cs) (fun x => Z1 (i + x))) := by
      by_cases hb : m - i = 0
      · refine hk.cg (fun x _ => ?_) (fun x _ => ?_)
        · show Z (i + x) j = Z1 (i + x) j
          rw [hZ1, hb, trN_0]
        · refine congrArg (fun r => cofZ (j :: cs) r x) ?_
          funext y
          rw [hZ1, hb, trN_0]
      · refine ((hk.sw (b := m - i) (by omega)).ng).cg (fun x _ => ?_) (fun x hx => ?_)
        · show Z (i + trN (m - i) x) j = Z1 (i + x) j
          rw [hZ1]
        · show - cofZ (j :: cs) (fun x => Z (i + x)) (trN (m - i) x) = cofZ (j :: cs) (fun x => Z1 (i + x)) x
          have e : (fun x => Z1 (i + x)) = fun x => (fun y => Z (i + y)) (trN (m - i) x) := by funext x; exact hZ1 x
          rw [e]
          exact (cof_tr (ρ := fun y => Z (i + y)) hcl (by rw [List.length_cons]; omega) hb (by rw [List.length_cons]; omega)).symm
    refine hk1.st (by omega) hck hp ?_ (fun x hx h0 => ?_) (fun x hx h0 => ?_) (fun x hx h0 => ?_) ?_
    · show Z' (i + 0) j = Z1 (i + 0) j
      rw [Nat.add_zero, hZi]
    · exact zk (i + x) (by omega) (by omega)
    · exact hl (i + x) (by omega) (by omega)
    · refine cof_st (n := n - i) (t := fun x => if x = 0 then 0 else (Z1 (i + x) j).tdiv (Z1 i j)) hp (fun k hk c hm => ?_) (if_pos rfl) (by omega) (by omega) h0
      show Z' (i + k) c = Z1 (i + k) c - (if k = 0 then 0 else (Z1 (i + k) j).tdiv (Z1 i j)) * Z1 (i + 0) c
      rw [hZ2 (i + k) (by omega) (by omega) c hm, Nat.add_zero]
      by_cases q : k = 0
      · rw [if_pos q, if_pos (by omega)]
      · rw [if_neg q, if_neg (by omega)]
    · have := cof_bl j cs (fun x => Z' (i + x))
      rw [List.length_cons, show cs.length + 1 + 1 = n - i by omega] at this
      exact this
  · right; right
    refine ⟨hL, fun σ hσ => ?_⟩
    refine mn_c0 (lo := i) (n := n) (by rw [List.length_cons]; exact hL) ?_ (fun x hx => hσ x (by rw [List.length_cons] at hx; exact hx))
    have e := mn_in (cs := cs) (Z := Z1) (Z' := Z') (t := fun k => if k = i then 0 else (Z1 k j).tdiv (Z1 i j)) hp hZ2 (if_pos rfl) (σ := fun x => i + x) (fun x hx => by omega) (x := 0) (by omega) (Nat.add_zero i)
    rw [e]
    exact s1 hk (fun x => i + x) (fun x hx => by omega)
theorem KQ.fin {F i n j : Nat} {cs : List Nat} {Z : LZ} (h : KQ F i n j cs Z) {σ : Nat → Nat} (hσ : ∀ x, x < cs.length + 1 → i ≤ σ x ∧ σ x < n) : (mn (j :: cs) (fun x => Z (σ x))).natAbs ≤ F := by
  rcases h with ⟨hs, u, Pm, hu, hL, hH, P, D, p1, p2, p3, p4, p5⟩ | ⟨S, T0, hck, hL, t, hk, _⟩ | ⟨hL, hk⟩
  · refine Nat.le_trans (p5 σ hσ) ?_
    have h1 := Nat.mul_le_mul_left D (hH P p1).1
    have h2 : D * u < (F + 1) * u := by rw [Nat.mul_comm (F + 1)]; omega
    have := Nat.lt_of_mul_lt_mul_right h2
    omega
  · refine mn_c1 (lo := i) (n := n) (by rw [List.length_cons]; omega) (fun z hz => ?_) (fun x hx => hσ x (by rw [List.length_cons] at hx; exact hx))
    have := hk z (by rw [List.length_cons] at hz; omega)
    unfold cofZ at this
    rwa [sg1_na] at this
  · exact hk σ hσ
/-- what is left of it for the rows below -/
theorem mn_dn {i n j F : Nat} {cs : List Nat} {Z : LZ} (hin : i < n) (h : KQ F i n j cs Z) (hp : Z i j ≠ 0) (h0 : ∀ k, i < k → k < n → Z k j = 0) {σ : Nat → Nat} (hσ : ∀ x, x < cs.length → i < σ x ∧ σ x < n) : (mn cs (fun x => Z (σ x))).natAbs ≤ F := by
  have k := h.fin (σ := fun x => if x = 0 then i else σ (x - 1)) (fun x hx => by
    by_cases q : x = 0
    · rw [if_pos q]; omega
    · rw [if_neg q]; have := hσ (x - 1) (by omega); omega)
  rw [mn, sg_1 (k := 0) _ (by omega) (fun x hx q => by
    have := hσ (x - 1) (by omega)
    show sg1 x * Z (if x = 0 then i else σ (x - 1)) j * _ = 0
    rw [if_neg q, h0 _ this.1 this.2]; grind), Int.natAbs_mul] at k
  have e : sk 0 (fun x => Z (if x = 0 then i else σ (x - 1))) = fun x => Z (σ x) := by
    funext x
    rw [sk_ge _ (Nat.zero_le _), if_neg (by omega)]; rfl
  rw [e] at k
  have g : 1 ≤ (sg1 0 * Z (if 0 = 0 then i else σ (0 - 1)) j).natAbs := by
    rw [sg1_na, if_pos rfl]; omega
  have := Nat.mul_le_mul_right (mn cs (fun x => Z (σ x))).natAbs g
  omega
