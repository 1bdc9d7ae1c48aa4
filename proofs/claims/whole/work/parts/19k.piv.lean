/-! ===== the class's grid: its pivots ===== -/
theorem mn_zr {cs : List Nat} {ρ : LZ} {i : Nat} (hi : i < cs.length) (h : ∀ c, c ∈ cs → ρ i c = 0) : mn cs ρ = 0 := by
  have e := mn_l cs ρ i (ρ i) (ρ i) 0 0 hi
  rw [mn_c cs ρ (upn ρ i (fun c => 0 * ρ i c + 0 * ρ i c)) (fun k hk c hc => by
    by_cases q : k = i
    · rw [q, upn_at, h c hc]; rfl
    · rw [upn_ne _ _ q]), e]
  omega
theorem mn_sum {cs : List Nat} {ρ : LZ} {m : Nat} (hm : m < cs.length) (z : Nat → Int) (y : LZ) : ∀ w, mn cs (upn ρ m (fun j => sgZ w (fun c => z c * y c j))) = sgZ w (fun c => z c * mn cs (upn ρ m (y c)))
  | 0 => mn_zr (i := m) hm (fun c _ => by rw [upn_at]; rfl)
  | w + 1 => by
    have e : (fun j => sgZ (w + 1) (fun c => z c * y c j)) = fun j => 1 * sgZ w (fun c => z c * y c j) + z w * y w j := by funext j; rw [sgZ]; omega
    have l := mn_l cs ρ m (fun j => sgZ w (fun c => z c * y c j)) (y w) 1 (z w) hm
    rw [e, sgZ, ← mn_sum hm z y w]
    have l : mn cs (upn ρ m (fun j => 1 * sgZ w (fun c => z c * y c j) + z w * y w j)) = _ := l
    rw [l]; omega
theorem sg_dv {D : Int} {f : Nat → Int} : ∀ n, (∀ c, c < n → D ∣ f c) → D ∣ sgZ n f
  | 0, _ => ⟨0, by rw [sgZ]; omega⟩
  | n + 1, h => by
    rw [sgZ]
    exact Int.dvd_add (sg_dv n (fun c hc => h c (by omega))) (h n (by omega))
theorem dv_sp {D : Int} {w : Nat} {cs : List Nat} {x y : LZ} (hc : ∀ c, c ∈ cs → c < 10) (hy : ∀ h : Nat → Nat, (∀ k, k < cs.length → h k < w) → D ∣ mn cs (fun k => y (h k))) (hx : ∀ k, k < cs.length → ∃ z : Nat → Int, ∀ j, j < 10 → x k j = sgZ w (fun c => z c * y c j)) (hw : 0 < w) : D ∣ mn cs x := by
  have key : ∀ m, m ≤ cs.length → ∀ h : Nat → Nat, (∀ k, k < cs.length → h k < w) → D ∣ mn cs (fun k => if k < m then x k else y (h k)) := by
    intro m
    induction m with
    | zero => intro _ h hh; exact hy h hh
    | succ m ih =>
      intro hm h hh
      obtain ⟨z, hz⟩ := hx m (by omega)
      rw [mn_c cs (fun k => if k < m + 1 then x k else y (h k)) (upn (fun k => if k < m then x k else y (h k)) m (fun j => sgZ w (fun c => z c * y c j))) (fun k hk c hcm => by
        by_cases q : k = m
        · rw [q, upn_at]
          show (if m < m + 1 then x m else y (h m)) c = _
          rw [if_pos (by omega), hz c (hc c hcm)]
        · rw [upn_ne _ _ q]
          by_cases q2 : k < m
          · rw [if_pos q2, if_pos (by omega)]
          · rw [if_neg q2, if_neg (by omega)]), mn_sum (by omega)]
      refine sg_dv w (fun c hcw => Int.dvd_trans ?_ (Int.dvd_mul_left _ _))
      have e : upn (fun k => if k < m then x k else y (h k)) m (y c) = fun k => if k < m then x k else y (upn h m c k) := by
        funext k
        by_cases q : k = m
        · rw [q, upn_at, if_neg (by omega), upn_at]
        · rw [upn_ne _ _ q, upn_ne _ _ q]
      rw [e]
      exact ih (by omega) _ (fun k hk => by
        by_cases q : k = m
        · rw [q, upn_at]; exact hcw
        · rw [upn_ne _ _ q]; exact hh k hk)
  have := key cs.length (Nat.le_refl _) (fun _ => 0) (fun _ _ => hw)
  rwa [mn_c cs (fun k => if k < cs.length then x k else y 0) x (fun k hk c _ => by rw [if_pos hk])] at this
def pvl (B : LZ) : Nat → Nat → List Nat
  | 0, _ => []
  | f + 1, c => if 0 < B c c then c :: pvl B f (c + 1) else pvl B f (c + 1)
def pvD (B : LZ) : Nat → Nat → Nat
  | 0, _ => 1
  | f + 1, c => (if 0 < B c c then (B c c).toNat else 1) * pvD B f (c + 1)
theorem pvl_b {B : LZ} : ∀ f c d, d ∈ pvl B f c → c ≤ d ∧ d < c + f ∧ 0 < B d d
  | 0, c, d, h => by simp [pvl] at h
  | f + 1, c, d, h => by
    rw [pvl] at h
    by_cases e : 0 < B c c
    · rw [if_pos e] at h
      rcases List.mem_cons.mp h with q | q
      · rw [q]; exact ⟨Nat.le_refl _, by omega, e⟩
      · have := pvl_b f (c + 1) d q; omega
    · rw [if_neg e] at h
      have := pvl_b f (c + 1) d h; omega
theorem pvl_w {B : LZ} : ∀ f c, wtc (pvl B f c) ≤ 6 ^ (3 - c)
  | 0, c => Nat.pow_pos (by omega)
  | f + 1, c => by
    have ih := pvl_w (B := B) f (c + 1)
    rw [pvl]
    by_cases q : c < 3
    · have e6 : 6 ^ (3 - c) = 6 * 6 ^ (3 - (c + 1)) := by
        rw [show 3 - c = (3 - (c + 1)) + 1 by omega, Nat.pow_succ, Nat.mul_comm]
      split
      · show (if c < 3 then 6 else 1) * wtc (pvl B f (c + 1)) ≤ _
        rw [if_pos q, e6]
        exact Nat.mul_le_mul_left _ ih
      · omega
    · rw [show 3 - (c + 1) = 3 - c by omega] at ih
      split
      · show (if c < 3 then 6 else 1) * wtc (pvl B f (c + 1)) ≤ _
        rw [if_neg q, Nat.one_mul]; exact ih
      · exact ih
theorem HT.r0 {B : LZ} (h : HT 10 B) {c : Nat} (hc : c < 10) (hp : ¬ 0 < B c c) : ∀ j, j < 10 → B c j = 0 := h.2.2 c hc (by have := h.2.1 c hc; omega)
theorem pvl_dv {B : LZ} (hB : HT 10 B) : ∀ f c, c + f = 10 → ∀ h : Nat → Nat, (∀ k, k < (pvl B f c).length → c ≤ h k ∧ h k < 10) → ((pvD B f c : Nat) : Int) ∣ mn (pvl B f c) (fun k => B (h k))
  | 0, c, _, h, _ => Int.one_dvd _
  | f + 1, c, hcf, h, hh => by
    rw [pvl, pvD]
    by_cases e : 0 < B c c
    · rw [pvl, if_pos e, List.length_cons] at hh
      rw [if_pos e, if_pos e]
      have h0 : ∀ k, k < (pvl B f (c + 1)).length + 1 → h k ≠ c → B (h k) c = 0 := fun k hk q => hB.1 (h k) c (hh k hk).2 (by have := (hh k hk).1; omega)
      by_cases hx : ∃ k, k < (pvl B f (c + 1)).length + 1 ∧ h k = c
      · obtain ⟨k, hk, ek⟩ := hx
        by_cases hx2 : ∃ l, l < (pvl B f (c + 1)).length + 1 ∧ l ≠ k ∧ h l = c
        · obtain ⟨l, hl, hne, el⟩ := hx2
          rw [mn_rr (i := l) (j := k) (by rw [List.length_cons]; exact hl) (by rw [List.length_cons]; exact hk) hne (by show B (h l) = B (h k); rw [el, ek])]
          exact Int.dvd_zero _
        · rw [mn, sg_1 (k := k) _ hk (fun l hl hne => by
            show sg1 l * B (h l) c * _ = 0
            rw [h0 l hl (fun q => hx2 ⟨l, hl, hne, q⟩)]; grind)]
          have ih := pvl_dv hB f (c + 1) (by omega) (sk k h) (fun l hl => by
            have hne : ∀ x, x < (pvl B f (c + 1)).length + 1 → x ≠ k → c + 1 ≤ h x ∧ h x < 10 := fun x hx q => by
              have := hh x hx
              have : h x ≠ c := fun z => hx2 ⟨x, hx, q, z⟩
              omega
            by_cases q : l < k
            · rw [sk_lt _ q]; exact hne l (by omega) (by omega)
            · rw [sk_ge _ (by omega)]; exact hne (l + 1) (by omega) (by omega))
          rw [sk_cm, Int.natCast_mul]
          have et : ((B c c).toNat : Int) = B c c := Int.toNat_of_nonneg (by omega)
          rw [et]
          show B c c * _ ∣ sg1 k * B (h k) c * _
          rw [ek]
          obtain ⟨q, eq⟩ := ih
          exact ⟨sg1 k * q, by rw [eq]; grind⟩
      · rw [mn_z (fun k hk => h0 k (by omega) (fun q => hx ⟨k, by omega, q⟩))]
        exact Int.dvd_zero _
    · rw [pvl, if_neg e] at hh
      rw [if_neg e, if_neg e, Nat.one_mul]
      by_cases hx : ∃ k, k < (pvl B f (c + 1)).length ∧ h k = c
      · obtain ⟨k, hk, ek⟩ := hx
        rw [mn_zr (i := k) hk (fun d hd => by
          show B (h k) d = 0
          rw [ek]
          exact hB.r0 (by omega) e d (by have := pvl_b f (c + 1) d hd; omega))]
        exact Int.dvd_zero _
      · exact pvl_dv hB f (c + 1) (by omega) h (fun k hk => by
          have := hh k hk
          have : h k ≠ c := fun z => hx ⟨k, hk, z⟩
          omega)
theorem pvl_gd {B : LZ} (f c k : Nat) (hk : k < (pvl B f c).length) : c ≤ (pvl B f c).getD k 0 ∧ (pvl B f c).getD k 0 < c + f ∧ 0 < B ((pvl B f c).getD k 0) ((pvl B f c).getD k 0) := by
  have e : (pvl B f c).getD k 0 = (pvl B f c)[k] := by rw [List.getD_eq_getElem?_getD, List.getElem?_eq_getElem hk]; rfl
  rw [e]
  exact pvl_b f c _ (List.getElem_mem hk)
theorem pvl_eq {B : LZ} (hB : HT 10 B) : ∀ f c, c + f = 10 → mn (pvl B f c) (fun k => B ((pvl B f c).getD k 0)) = ((pvD B f c : Nat) : Int)
  | 0, c, _ => rfl
  | f + 1, c, hcf => by
    have ih := pvl_eq hB f (c + 1) (by omega)
    rw [pvl, pvD]
    by_cases e : 0 < B c c
    · rw [if_pos e, if_pos e, mn, sg_1 (k := 0) _ (by omega) (fun k hk hne => by
        obtain ⟨l, rfl⟩ : ∃ l, k = l + 1 := ⟨k - 1, by omega⟩
        have := pvl_gd (B := B) f (c + 1) l (by omega)
        show sg1 (l + 1) * B ((pvl B f (c + 1)).getD l 0) c * _ = 0
        rw [hB.1 _ c (by omega) (by omega)]; grind)]
      have es : sk 0 (fun k => B ((c :: pvl B f (c + 1)).getD k 0)) = fun k => B ((pvl B f (c + 1)).getD k 0) := by
        funext k
        rw [sk_ge _ (Nat.zero_le _)]
        rfl
      rw [es, ih, Int.natCast_mul, Int.toNat_of_nonneg (by omega)]
      show sg1 0 * B c c * _ = _
      rw [show sg1 0 = 1 from rfl, Int.one_mul]
    · rw [if_neg e, if_neg e, Nat.one_mul]
      exact ih
theorem pvD_1 {B : LZ} : ∀ f c, 1 ≤ pvD B f c
  | 0, _ => Nat.le_refl _
  | f + 1, c => by
    rw [pvD]
    refine Nat.mul_pos ?_ (pvD_1 f (c + 1))
    split <;> omega
theorem pv_216 {n g : Nat} {B M : LZ} (hB : HT 10 B) (hM : EI n M) (hg : g ≤ n) (h0 : 0 < g) (h1 : ∀ c, c < 10 → spMz M g (B c)) (h2 : ∀ q, q < g → spL0 10 B (M q)) : pvD B 10 0 ≤ 216 ∧ (pvl B 10 0).length ≤ g ∧ ∃ f : Nat → Nat, (∀ k, k < (pvl B 10 0).length → f k < g) ∧ mn (pvl B 10 0) (fun k => M (f k)) ≠ 0 := by
  have hcol : ∀ c, c ∈ pvl B 10 0 → c < 10 := fun c hc => by have := pvl_b 10 0 c hc; omega
  have hex : ∃ f : Nat → Nat, (∀ k, k < (pvl B 10 0).length → f k < g) ∧ mn (pvl B 10 0) (fun k => M (f k)) ≠ 0 := by
    by_cases e : ∃ f : Nat → Nat, (∀ k, k < (pvl B 10 0).length → f k < g) ∧ mn (pvl B 10 0) (fun k => M (f k)) ≠ 0
    · exact e
    · exfalso
      have z := dv_sp (D := 0) (w := g) (cs := pvl B 10 0) (x := fun k => B ((pvl B 10 0).getD k 0)) (y := M) hcol (fun h hh => by
        by_cases q : mn (pvl B 10 0) (fun k => M (h k)) = 0
        · rw [q]; exact Int.dvd_zero _
        · exact absurd ⟨h, hh, q⟩ e) (fun k hk => h1 _ (by have := pvl_gd (B := B) 10 0 k hk; omega)) h0
      rw [pvl_eq hB 10 0 rfl] at z
      have := Int.zero_dvd.mp z
      have := pvD_1 (B := B) 10 0
      omega
  obtain ⟨f, f1, f2⟩ := hex
  refine ⟨?_, ?_, f, f1, f2⟩
  · have d := dv_sp (D := ((pvD B 10 0 : Nat) : Int)) (w := 10) (cs := pvl B 10 0) (x := fun k => M (f k)) (y := B) hcol (fun h hh => pvl_dv hB 10 0 rfl h (fun k hk => ⟨Nat.zero_le _, hh k hk⟩)) (fun k hk => h2 _ (f1 k hk)) (by omega)
    have b := hM.bd _ (pvl B 10 0) f rfl hcol (fun k hk => by have := f1 k hk; omega)
    have w := pvl_w (B := B) 10 0
    have := Int.natAbs_dvd_natAbs.mpr d
    have := Nat.le_of_dvd (by omega) this
    rw [Int.natAbs_natCast] at this
    have : (6 : Nat) ^ (3 - 0) = 216 := by decide
    omega
  · by_cases q : (pvl B 10 0).length ≤ g
    · exact q
    · exfalso
      rcases mn_so (Z := M) (lo := 0) (n := g) ((pvl B 10 0).length * ((pvl B 10 0).length * g)) f (fun x hx => ⟨Nat.zero_le _, f1 x hx⟩) (by
        have := sg_le (f := fun _ => 0) (g := fun y => (y : Int) * (f y : Int)) (pvl B 10 0).length (fun k _ => by rw [← Int.natCast_mul]; omega)
        rw [sg_ct] at this
        omega) with z | ⟨τ, t1, t2, -⟩
      · exact f2 z
      · have a := inc_lo (lo := 0) (fun x _ => Nat.zero_le _) t2 g (by omega)
        have := (t1 g (by omega)).2
        omega
theorem pvl_0 {B : LZ} (hB : HT 10 B) {c0 : Nat} (hc0 : c0 < 10) : ∀ f c, c + f = 10 → ∀ h : Nat → Nat, (∀ k, k < (pvl B f c).length + 1 → c ≤ h k ∧ h k < 10) → mn (c0 :: pvl B f c) (fun k => B (h k)) = 0
  | 0, c, hcf, h, hh => by
    have := hh 0 (by omega)
    omega
  | f + 1, c, hcf, h, hh => by
    rw [pvl]
    by_cases e : 0 < B c c
    · rw [pvl, if_pos e, List.length_cons] at hh
      rw [if_pos e]
      have sw := mn_cw c0 c (pvl B f (c + 1)) (fun k => B (h k))
      have h0 : ∀ k, k < (pvl B f (c + 1)).length + 1 + 1 → h k ≠ c → B (h k) c = 0 := fun k hk q => hB.1 (h k) c (hh k hk).2 (by have := (hh k hk).1; omega)
      have z : mn (c :: c0 :: pvl B f (c + 1)) (fun k => B (h k)) = 0 := by
        by_cases hx : ∃ k, k < (pvl B f (c + 1)).length + 1 + 1 ∧ h k = c
        · obtain ⟨k, hk, ek⟩ := hx
          by_cases hx2 : ∃ l, l < (pvl B f (c + 1)).length + 1 + 1 ∧ l ≠ k ∧ h l = c
          · obtain ⟨l, hl, hne, el⟩ := hx2
            exact mn_rr (i := l) (j := k) (by rw [List.length_cons, List.length_cons]; exact hl) (by rw [List.length_cons, List.length_cons]; exact hk) hne (by show B (h l) = B (h k); rw [el, ek])
          · rw [mn, List.length_cons, sg_1 (k := k) _ hk (fun l hl hne => by
              show sg1 l * B (h l) c * _ = 0
              rw [h0 l hl (fun q => hx2 ⟨l, hl, hne, q⟩)]; grind), sk_cm, pvl_0 hB hc0 f (c + 1) (by omega) (sk k h) (fun l hl => by
              have hne : ∀ x, x < (pvl B f (c + 1)).length + 1 + 1 → x ≠ k → c + 1 ≤ h x ∧ h x < 10 := fun x hx q => by
                have := hh x hx
                have : h x ≠ c := fun z => hx2 ⟨x, hx, q, z⟩
                omega
              by_cases q : l < k
              · rw [sk_lt _ q]; exact hne l (by omega) (by omega)
              · rw [sk_ge _ (by omega)]; exact hne (l + 1) (by omega) (by omega)), Int.mul_zero]
        · exact mn_z (fun k hk => h0 k (by rw [List.length_cons] at hk; omega) (fun q => hx ⟨k, by rw [List.length_cons] at hk; omega, q⟩))
      omega
    · rw [pvl, if_neg e] at hh
      rw [if_neg e]
      by_cases hx : ∃ k, k < (pvl B f (c + 1)).length + 1 ∧ h k = c
      · obtain ⟨k, hk, ek⟩ := hx
        exact mn_zr (i := k) (by rw [List.length_cons]; exact hk) (fun d hd => by
          show B (h k) d = 0
          rw [ek]
          refine hB.r0 (by omega) e d ?_
          rcases List.mem_cons.mp hd with q | q
          · omega
          · have := pvl_b f (c + 1) d q; omega)
      · exact pvl_0 hB hc0 f (c + 1) (by omega) h (fun k hk => by
          have := hh k hk
          have : h k ≠ c := fun z => hx ⟨k, hk, z⟩
          omega)
/-- along a row -/
def cnR (y : Nat → Int) (ρ : LZ) : LZ
  | 0 => y
  | k + 1 => ρ k
theorem sg_sh (f : Nat → Int) (n : Nat) : sgZ (n + 1) f = f 0 + sgZ n (fun k => f (k + 1)) := by
  have := sg_split f 1 n
  rw [Nat.add_comm n 1, this]
  have e : (fun c => f (1 + c)) = fun k => f (k + 1) := by funext c; rw [Nat.add_comm]
  rw [e]
  show 0 + f 0 + _ = _
  omega
theorem sg_s2 (f : Nat → Nat → Int) (m : Nat) : ∀ n, sgZ n (fun i => sgZ m (fun j => f i j)) = sgZ m (fun j => sgZ n (fun i => f i j))
  | 0 => (sg_z m (fun _ _ => rfl)).symm
  | n + 1 => by
    rw [sgZ, sg_s2 f m n, ← sg_add]
    rfl
theorem mn_rl (y : Nat → Int) : ∀ (cs : List Nat) (ρ : LZ), cs ≠ [] → mn cs (cnR y ρ) = sgZ cs.length (fun x => sg1 x * y (cs.getD x 0) * mn (cs.eraseIdx x) ρ)
  | [], _, h => absurd rfl h
  | [c], ρ, _ => by
    rw [mn_1]
    show y c = 0 + sg1 0 * y c * mn [] ρ
    rw [show sg1 0 = 1 from rfl, mn]; omega
  | c :: d :: cs, ρ, _ => by
    have ih := mn_rl y (d :: cs)
    have s0 : sk 0 (cnR y ρ) = ρ := by funext k; rw [sk_ge _ (Nat.zero_le _)]; rfl
    have s1 : ∀ k, sk (k + 1) (cnR y ρ) = cnR y (sk k ρ) := fun k => by
      funext l
      cases l with
      | zero => rw [sk_lt _ (by omega)]; rfl
      | succ l =>
        by_cases q : l < k
        · rw [sk_lt _ (by omega)]; show ρ l = sk k ρ l; rw [sk_lt _ q]
        · rw [sk_ge _ (by omega)]; show ρ (l + 1) = sk k ρ l; rw [sk_ge _ (by omega)]
    rw [mn, sg_sh, s0]
    have e1 : (fun k => sg1 (k + 1) * cnR y ρ (k + 1) c * mn (d :: cs) (sk (k + 1) (cnR y ρ))) = fun k => sgZ (d :: cs).length (fun x => - (sg1 k * ρ k c) * (sg1 x * y ((d :: cs).getD x 0) * mn ((d :: cs).eraseIdx x) (sk k ρ))) := by
      funext k
      rw [s1, ih _ (by simp), sg_mul, sg1_s]
      show - sg1 k * ρ k c * _ = _
      grind
    rw [e1, sg_s2, List.length_cons (a := c), sg_sh]
    have e2 : sgZ (d :: cs).length (fun x => sg1 (x + 1) * y ((c :: d :: cs).getD (x + 1) 0) * mn ((c :: d :: cs).eraseIdx (x + 1)) ρ) = sgZ (d :: cs).length (fun j => sgZ (d :: cs).length (fun i => - (sg1 i * ρ i c) * (sg1 j * y ((d :: cs).getD j 0) * mn ((d :: cs).eraseIdx j) (sk i ρ)))) := by
      refine sg_c _ (fun x hx => ?_)
      show sg1 (x + 1) * y ((d :: cs).getD x 0) * mn (c :: (d :: cs).eraseIdx x) ρ = _
      rw [mn, List.length_eraseIdx_of_lt hx, show (d :: cs).length - 1 + 1 = (d :: cs).length by rw [List.length_cons]; omega, ← sg_mul, sg1_s]
      exact sg_c _ (fun i _ => by grind)
    rw [e2]
    show sg1 0 * y c * mn (d :: cs) ρ + _ = sg1 0 * y c * mn (d :: cs) ρ + _
    rfl
theorem wtc_er : ∀ (cs : List Nat) x, wtc (cs.eraseIdx x) ≤ wtc cs
  | [], _ => Nat.le_refl _
  | c :: cs, 0 => by
    show wtc cs ≤ (if c < 3 then 6 else 1) * wtc cs
    have : 1 * wtc cs ≤ (if c < 3 then 6 else 1) * wtc cs := Nat.mul_le_mul_right _ (by split <;> omega)
    omega
  | c :: cs, x + 1 => Nat.mul_le_mul_left _ (wtc_er cs x)
theorem sg_na {f : Nat → Int} : ∀ n, (sgZ n f).natAbs ≤ (sgZ n (fun k => ((f k).natAbs : Int))).natAbs
  | 0 => Nat.le_refl _
  | n + 1 => by
    have ih := sg_na (f := f) n
    have p := sg_le (f := fun _ => 0) (g := fun k => ((f k).natAbs : Int)) n (fun k _ => by omega)
    rw [sg_ct] at p
    rw [sgZ, sgZ]
    omega
/-- a number off the pivots, by those on them -/
theorem y_off {n g V : Nat} {B M : LZ} {Y : Nat → Int} {c0 : Nat} (hB : HT 10 B) (hM : EI n M) (hg : g ≤ n) (h0 : 0 < g) (h1 : ∀ c, c < 10 → spMz M g (B c)) (h2 : ∀ q, q < g → spL0 10 B (M q)) (hc0 : c0 < 10) (hY : spL0 10 B Y) (hV : ∀ c, c < 10 → 0 < B c c → (Y c).natAbs ≤ V) : (Y c0).natAbs ≤ g * (1296 * V) := by
  obtain ⟨-, hlen, f, f1, f2⟩ := pv_216 hB hM hg h0 h1 h2
  have hcol : ∀ c, c ∈ c0 :: pvl B 10 0 → c < 10 := fun c hc => by
    rcases List.mem_cons.mp hc with q | q
    · omega
    · have := pvl_b 10 0 c q; omega
  have z := dv_sp (D := 0) (w := 10) (cs := c0 :: pvl B 10 0) (x := cnR Y (fun k => M (f k))) (y := B) hcol (fun h hh => by
    rw [pvl_0 hB hc0 10 0 rfl h (fun k hk => ⟨Nat.zero_le _, hh k (by rw [List.length_cons]; exact hk)⟩)]
    exact Int.dvd_zero _) (fun k hk => by
    cases k with
    | zero => exact hY
    | succ k => exact h2 _ (f1 k (by rw [List.length_cons] at hk; omega))) (by omega)
  have z := Int.zero_dvd.mp z
  rw [mn_rl Y _ _ (by simp), List.length_cons, sg_sh] at z
  have z : sg1 0 * Y c0 * mn (pvl B 10 0) (fun k => M (f k)) + sgZ (pvl B 10 0).length (fun x => sg1 (x + 1) * Y ((pvl B 10 0).getD x 0) * mn (c0 :: (pvl B 10 0).eraseIdx x) (fun k => M (f k))) = 0 := z
  have hs : (sgZ (pvl B 10 0).length (fun x => sg1 (x + 1) * Y ((pvl B 10 0).getD x 0) * mn (c0 :: (pvl B 10 0).eraseIdx x) (fun k => M (f k)))).natAbs ≤ g * (1296 * V) := by
    refine Nat.le_trans (sg_na _) ?_
    have hle := sg_le (f := fun x => ((sg1 (x + 1) * Y ((pvl B 10 0).getD x 0) * mn (c0 :: (pvl B 10 0).eraseIdx x) (fun k => M (f k))).natAbs : Int)) (g := fun _ => ((1296 * V : Nat) : Int)) (pvl B 10 0).length (fun x hx => by
      have a1 := pvl_gd (B := B) 10 0 x hx
      have a2 := hV _ (by omega) a1.2.2
      have a3 := hM.bd _ (c0 :: (pvl B 10 0).eraseIdx x) f rfl (fun c hc => by
        rcases List.mem_cons.mp hc with q | q
        · omega
        · exact hcol c (List.mem_cons_of_mem _ (List.mem_of_mem_eraseIdx q))) (fun k hk => by
        rw [List.length_cons, List.length_eraseIdx_of_lt hx] at hk
        have := f1 k (by omega); omega)
      have a4 : wtc (c0 :: (pvl B 10 0).eraseIdx x) ≤ 1296 := by
        have b1 := wtc_er (pvl B 10 0) x
        have b2 := pvl_w (B := B) 10 0
        have b3 : (6 : Nat) ^ (3 - 0) = 216 := by decide
        show (if c0 < 3 then 6 else 1) * wtc ((pvl B 10 0).eraseIdx x) ≤ 1296
        split <;> omega
      have a5 := mul_ab a2 (Nat.le_trans a3 a4)
      rw [Int.mul_assoc, sg1_na]
      have : V * 1296 = 1296 * V := Nat.mul_comm _ _
      omega)
    rw [sg_ct, ← Int.natCast_mul] at hle
    have p := sg_le (f := fun _ => 0) (g := fun x => ((sg1 (x + 1) * Y ((pvl B 10 0).getD x 0) * mn (c0 :: (pvl B 10 0).eraseIdx x) (fun k => M (f k))).natAbs : Int)) (pvl B 10 0).length (fun x _ => by omega)
    rw [sg_ct] at p
    have := Nat.mul_le_mul_right (1296 * V) hlen
    omega
  have hm : (Y c0).natAbs * 1 ≤ (Y c0).natAbs * (mn (pvl B 10 0) (fun k => M (f k))).natAbs := Nat.mul_le_mul_left _ (by omega)
  have e : (sg1 0 * Y c0 * mn (pvl B 10 0) (fun k => M (f k))).natAbs = (Y c0).natAbs * (mn (pvl B 10 0) (fun k => M (f k))).natAbs := by
    rw [Int.mul_assoc, sg1_na, Int.natAbs_mul]
  omega
