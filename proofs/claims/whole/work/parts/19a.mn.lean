/-! ===== minors on a list of columns ===== -/
def sk {α : Type} (i : Nat) (ρ : Nat → α) : Nat → α := fun k => if k < i then ρ k else ρ (k + 1)
theorem sk_lt {α : Type} {i k : Nat} (ρ : Nat → α) (h : k < i) : sk i ρ k = ρ k := if_pos h
theorem sk_ge {α : Type} {i k : Nat} (ρ : Nat → α) (h : i ≤ k) : sk i ρ k = ρ (k + 1) := if_neg (by omega)
def sg1 (i : Nat) : Int := if i % 2 = 0 then 1 else -1
theorem sg1_s (i : Nat) : sg1 (i + 1) = - sg1 i := by unfold sg1; split <;> split <;> omega
theorem sg1_sq (i : Nat) : sg1 i * sg1 i = 1 := by unfold sg1; split <;> rfl
theorem sg1_na (i : Nat) (x : Int) : (sg1 i * x).natAbs = x.natAbs := by unfold sg1; split <;> omega
def mn : List Nat → (Nat → Nat → Int) → Int
  | [], _ => 1
  | c :: cs, ρ => sgZ (cs.length + 1) (fun i => sg1 i * ρ i c * mn cs (sk i ρ))
theorem mn_c : ∀ (cs : List Nat) (ρ ρ' : LZ), (∀ k, k < cs.length → ∀ c, c ∈ cs → ρ k c = ρ' k c) → mn cs ρ = mn cs ρ'
  | [], _, _, _ => rfl
  | c :: cs, ρ, ρ', h => by
    rw [mn, mn]
    refine sg_c _ (fun i hi => ?_)
    rw [h i (by rw [List.length_cons]; exact hi) c List.mem_cons_self]
    rw [mn_c cs (sk i ρ) (sk i ρ') (fun k hk d hd => by
      by_cases e : k < i
      · rw [sk_lt _ e, sk_lt _ e]; exact h k (by rw [List.length_cons]; omega) d (List.mem_cons_of_mem _ hd)
      · rw [sk_ge _ (by omega), sk_ge _ (by omega)]; exact h (k + 1) (by rw [List.length_cons]; omega) d (List.mem_cons_of_mem _ hd))]
theorem upn_sf {α : Type} (f : Nat → α) (i : Nat) : upn f i (f i) = f := by
  funext k
  by_cases e : k = i
  · rw [e, upn_at]
  · rw [upn_ne _ _ e]
theorem upn_cm {α : Type} (f : Nat → α) {i j : Nat} (x y : α) (h : i ≠ j) : upn (upn f i x) j y = upn (upn f j y) i x := by
  funext k
  by_cases e : k = j
  · rw [e, upn_at, upn_ne _ _ (fun q => h q.symm), upn_at]
  · rw [upn_ne _ _ e]
    by_cases e2 : k = i
    · rw [e2, upn_at, upn_at]
    · rw [upn_ne _ _ e2, upn_ne _ _ e2, upn_ne _ _ e]
theorem sk_u0 {α : Type} (ρ : Nat → α) (i : Nat) (x : α) : sk i (upn ρ i x) = sk i ρ := by
  funext k
  by_cases e : k < i
  · rw [sk_lt _ e, sk_lt _ e, upn_ne _ _ (by omega)]
  · rw [sk_ge _ (by omega), sk_ge _ (by omega), upn_ne _ _ (by omega)]
theorem sk_u1 {α : Type} (ρ : Nat → α) {k i : Nat} (x : α) (h : k < i) : sk k (upn ρ i x) = upn (sk k ρ) (i - 1) x := by
  funext l
  by_cases e : l < k
  · rw [sk_lt _ e, upn_ne _ _ (by omega), upn_ne _ _ (by omega), sk_lt _ e]
  · rw [sk_ge _ (by omega)]
    by_cases e2 : l = i - 1
    · rw [e2, upn_at, show i - 1 + 1 = i by omega, upn_at]
    · rw [upn_ne _ _ (by omega), upn_ne _ _ e2, sk_ge _ (by omega)]
theorem sk_u2 {α : Type} (ρ : Nat → α) {k i : Nat} (x : α) (h : i < k) : sk k (upn ρ i x) = upn (sk k ρ) i x := by
  funext l
  by_cases e : l < k
  · rw [sk_lt _ e]
    by_cases e2 : l = i
    · rw [e2, upn_at, upn_at]
    · rw [upn_ne _ _ e2, upn_ne _ _ e2, sk_lt _ e]
  · rw [sk_ge _ (by omega), upn_ne _ _ (by omega), upn_ne _ _ (by omega), sk_ge _ (by omega)]
theorem sk_sk {α : Type} (ρ : Nat → α) {i k : Nat} (h : i ≤ k) : sk i (sk (k + 1) ρ) = sk k (sk i ρ) := by
  funext l
  by_cases e : l < i
  · rw [sk_lt _ e, sk_lt _ (by omega), sk_lt _ (by omega), sk_lt _ e]
  · rw [sk_ge _ (by omega)]
    by_cases e2 : l < k
    · rw [sk_lt _ (by omega), sk_lt _ e2, sk_ge _ (by omega)]
    · rw [sk_ge _ (by omega), sk_ge _ (by omega), sk_ge _ (by omega)]
theorem mn_l : ∀ (cs : List Nat) (ρ : LZ) (i : Nat) (x y : Nat → Int) (a b : Int), i < cs.length → mn cs (upn ρ i (fun c => a * x c + b * y c)) = a * mn cs (upn ρ i x) + b * mn cs (upn ρ i y)
  | [], _, i, _, _, _, _, h => by simp at h
  | c :: cs, ρ, i, x, y, a, b, h => by
    rw [List.length_cons] at h
    rw [mn, mn, mn, ← sg_mul, ← sg_mul, ← sg_add]
    refine sg_c _ (fun k hk => ?_)
    by_cases e : k = i
    · subst e
      rw [upn_at, upn_at, upn_at, sk_u0, sk_u0, sk_u0]; grind
    · rw [upn_ne _ _ e, upn_ne _ _ e, upn_ne _ _ e]
      by_cases e2 : k < i
      · rw [sk_u1 _ _ e2, sk_u1 _ _ e2, sk_u1 _ _ e2, mn_l cs (sk k ρ) (i - 1) x y a b (by omega)]; grind
      · rw [sk_u2 _ _ (by omega), sk_u2 _ _ (by omega), sk_u2 _ _ (by omega), mn_l cs (sk k ρ) i x y a b (by omega)]; grind
theorem sg_2 {f : Nat → Int} {k : Nat} : ∀ n, k + 1 < n → (∀ c, c < n → c ≠ k → c ≠ k + 1 → f c = 0) → sgZ n f = f k + f (k + 1)
  | 0, h, _ => by omega
  | n + 1, h, hz => by
    rw [sgZ]
    by_cases e : k + 1 = n
    · rw [← e, sg_1 (k := k) (k + 1) (by omega) (fun c hc he => hz c (by omega) he (by omega))]
    · rw [sg_2 n (by omega) (fun c hc => hz c (by omega)), hz n (by omega) (by omega) (by omega)]; omega
theorem mn_e : ∀ (cs : List Nat) (ρ : LZ) (i : Nat), i + 1 < cs.length → ρ i = ρ (i + 1) → mn cs ρ = 0
  | [], _, _, h, _ => by simp at h
  | c :: cs, ρ, i, h, he => by
    rw [List.length_cons] at h
    rw [mn, sg_2 (k := i) _ (by omega) (fun k hk h1 h2 => ?_)]
    · have e : sk i ρ = sk (i + 1) ρ := by
        funext l
        by_cases q : l < i
        · rw [sk_lt _ q, sk_lt _ (by omega)]
        · by_cases q2 : l = i
          · rw [q2, sk_ge _ (Nat.le_refl _), sk_lt _ (by omega), he]
          · rw [sk_ge _ (by omega), sk_ge _ (by omega)]
      rw [e, he, sg1_s]; grind
    · have : mn cs (sk k ρ) = 0 := by
        by_cases q : k < i
        · refine mn_e cs (sk k ρ) (i - 1) (by omega) ?_
          rw [sk_ge _ (by omega), show i - 1 + 1 = i by omega, sk_ge _ (by omega)]; exact he
        · refine mn_e cs (sk k ρ) i (by omega) ?_
          rw [sk_lt _ (by omega), sk_lt _ (by omega)]; exact he
      rw [this, Int.mul_zero]
def swp {α : Type} (i : Nat) (ρ : Nat → α) : Nat → α := upn (upn ρ i (ρ (i + 1))) (i + 1) (ρ i)
theorem mn_s {cs : List Nat} {ρ : LZ} {i : Nat} (h : i + 1 < cs.length) : mn cs (swp i ρ) = - mn cs ρ := by
  have lx : ∀ (x y z : Nat → Int), mn cs (upn (upn ρ i (fun c => 1 * x c + 1 * y c)) (i + 1) z) = mn cs (upn (upn ρ i x) (i + 1) z) + mn cs (upn (upn ρ i y) (i + 1) z) := fun x y z => by
    rw [upn_cm _ _ _ (by omega), mn_l cs _ i x y 1 1 (by omega), upn_cm _ _ _ (by omega), upn_cm _ y z (by omega)]; omega
  have ly : ∀ (x y z : Nat → Int), mn cs (upn (upn ρ i z) (i + 1) (fun c => 1 * x c + 1 * y c)) = mn cs (upn (upn ρ i z) (i + 1) x) + mn cs (upn (upn ρ i z) (i + 1) y) := fun x y z => by
    rw [mn_l cs _ (i + 1) x y 1 1 h]; omega
  have zz : ∀ x : Nat → Int, mn cs (upn (upn ρ i x) (i + 1) x) = 0 := fun x => mn_e cs _ i h (by rw [upn_at, upn_ne _ _ (by omega), upn_at])
  have k := zz (fun c => 1 * ρ i c + 1 * ρ (i + 1) c)
  rw [lx, ly, ly, zz, zz, upn_sf, show upn ρ (i + 1) (ρ (i + 1)) = ρ from upn_sf ρ (i + 1)] at k
  unfold swp
  omega
theorem mn_r {cs : List Nat} : ∀ d (ρ : LZ) i, i + 1 + d < cs.length → ρ i = ρ (i + 1 + d) → mn cs ρ = 0
  | 0, ρ, i, h, he => mn_e cs ρ i h he
  | d + 1, ρ, i, h, he => by
    have h2 : (i + 1 + d) + 1 < cs.length := by omega
    have := mn_r (cs := cs) d (swp (i + 1 + d) ρ) i (by omega) (by
      unfold swp
      rw [upn_ne _ _ (by omega), upn_ne _ _ (by omega), upn_ne _ _ (by omega), upn_at, he]; rfl)
    rw [mn_s h2] at this
    omega
theorem mn_rr {cs : List Nat} {ρ : LZ} {i j : Nat} (h1 : i < cs.length) (h2 : j < cs.length) (hn : i ≠ j) (he : ρ i = ρ j) : mn cs ρ = 0 := by
  by_cases e : i < j
  · exact mn_r (j - i - 1) ρ i (by omega) (by rw [show i + 1 + (j - i - 1) = j by omega]; exact he)
  · exact mn_r (i - j - 1) ρ j (by omega) (by rw [show j + 1 + (i - j - 1) = i by omega]; exact he.symm)
theorem mn_o {cs : List Nat} {ρ : LZ} {k p : Nat} (a b : Int) (h1 : k < cs.length) (h2 : p < cs.length) (hn : k ≠ p) : mn cs (upn ρ k (fun c => a * ρ k c + b * ρ p c)) = a * mn cs ρ := by
  rw [mn_l cs ρ k (ρ k) (ρ p) a b h1, upn_sf, mn_rr (ρ := upn ρ k (ρ p)) h1 h2 hn (by rw [upn_at, upn_ne _ _ (fun q => hn q.symm)])]
  omega
theorem sg_alt (f : Nat → Nat → Int) : ∀ n, (∀ i k, i ≤ k → k < n → f (k + 1) i = - f i k) → sgZ (n + 1) (fun i => sgZ n (fun k => f i k)) = 0
  | 0, _ => rfl
  | n + 1, h => by
    have e : (fun i => sgZ (n + 1) (fun k => f i k)) = fun i => sgZ n (fun k => f i k) + f i n := rfl
    rw [e, sg_add, sgZ, sg_alt f n (fun i k h1 h2 => h i k h1 (by omega)), sgZ]
    have z := sg_z (f := fun i => f (n + 1) i + f i n) (n + 1) (fun i hi => by show f (n + 1) i + f i n = 0; rw [h i n (by omega) (by omega)]; omega)
    rw [sg_add, sgZ] at z
    show 0 + sgZ n (fun k => f (n + 1) k) + (sgZ (n + 1) (fun i => f i n) + f (n + 1) n) = 0
    have z : sgZ n (fun i => f (n + 1) i) + f (n + 1) n + sgZ (n + 1) (fun i => f i n) = 0 := z
    generalize sgZ n (fun k => f (n + 1) k) = a at z ⊢
    generalize sgZ (n + 1) (fun i => f i n) = b at z ⊢
    omega
theorem mn_cw (c d : Nat) (cs : List Nat) (ρ : LZ) : mn (c :: d :: cs) ρ + mn (d :: c :: cs) ρ = 0 := by
  have ex : ∀ c d, mn (c :: d :: cs) ρ = sgZ (cs.length + 1 + 1) (fun i => sgZ (cs.length + 1) (fun k => sg1 i * sg1 k * (ρ i c * sk i ρ k d) * mn cs (sk k (sk i ρ)))) := fun c d => by
    rw [mn, List.length_cons]
    refine sg_c _ (fun i _ => ?_)
    rw [mn, ← sg_mul]
    exact sg_c _ (fun k _ => by grind)
  rw [ex, ex, ← sg_add]
  have e2 : ∀ i, sgZ (cs.length + 1) (fun k => sg1 i * sg1 k * (ρ i c * sk i ρ k d) * mn cs (sk k (sk i ρ))) + sgZ (cs.length + 1) (fun k => sg1 i * sg1 k * (ρ i d * sk i ρ k c) * mn cs (sk k (sk i ρ))) = sgZ (cs.length + 1) (fun k => sg1 i * sg1 k * (ρ i c * sk i ρ k d) * mn cs (sk k (sk i ρ)) + sg1 i * sg1 k * (ρ i d * sk i ρ k c) * mn cs (sk k (sk i ρ))) := fun i => (sg_add _).symm
  rw [sg_c _ (fun i _ => e2 i)]
  refine sg_alt _ (cs.length + 1) (fun i k h1 h2 => ?_)
  rw [sk_sk ρ h1, sk_lt ρ (show i < k + 1 by omega), sk_ge ρ h1, sg1_s]
  grind
theorem mn_cc (c : Nat) (cs : List Nat) (ρ : LZ) : mn (c :: c :: cs) ρ = 0 := by
  have := mn_cw c c cs ρ
  omega
theorem mn_z {c : Nat} {cs : List Nat} {ρ : LZ} (h : ∀ k, k ≤ cs.length → ρ k c = 0) : mn (c :: cs) ρ = 0 := by
  rw [mn]
  exact sg_z _ (fun i hi => by rw [h i (by omega)]; grind)
/-- cofactors of one more column -/
def cofZ (cs : List Nat) (ρ : LZ) (i : Nat) : Int := sg1 i * mn cs (sk i ρ)
theorem mn_cof (c : Nat) (cs : List Nat) (ρ : LZ) : mn (c :: cs) ρ = sgZ (cs.length + 1) (fun i => ρ i c * cofZ cs ρ i) := by
  rw [mn]
  exact sg_c _ (fun i _ => by unfold cofZ; grind)
/-- rows ahead of m turned by one row -/
def tuR (α : Int) (β : Nat → Int) (r : Nat → Int) (ρ : LZ) (m : Nat) : LZ := fun k => if k < m then (fun c => α * ρ k c + β k * r c) else ρ k
theorem tuR_s {α : Int} {β : Nat → Int} {r : Nat → Int} {ρ : LZ} (m : Nat) : tuR α β r ρ (m + 1) = upn (tuR α β r ρ m) m (fun c => α * ρ m c + β m * r c) := by
  funext k
  unfold tuR
  by_cases e : k = m
  · rw [e, upn_at, if_pos (by omega)]
  · rw [upn_ne _ _ e]
    by_cases e2 : k < m
    · rw [if_pos e2, if_pos (by omega)]
    · rw [if_neg e2, if_neg (by omega)]
theorem tuR_at {α : Int} {β : Nat → Int} {r : Nat → Int} {ρ : LZ} {m k : Nat} (h : m ≤ k) : tuR α β r ρ m k = ρ k := if_neg (by omega)
theorem tu_x {cs : List Nat} {α : Int} {β : Nat → Int} {r : Nat → Int} {ρ : LZ} {i : Nat} (hi : i < cs.length) : ∀ m, m ≤ i → mn cs (upn (tuR α β r ρ m) i r) = α ^ m * mn cs (upn ρ i r)
  | 0, _ => by
    have e : tuR α β r ρ 0 = ρ := by funext k; exact tuR_at (by omega)
    rw [e, Int.pow_zero, Int.one_mul]
  | m + 1, hm => by
    rw [tuR_s, upn_cm _ _ _ (by omega), mn_l cs _ m (ρ m) r α (β m) (by omega)]
    have z : mn cs (upn (upn (tuR α β r ρ m) i r) m r) = 0 := mn_rr (i := m) (j := i) (by omega) hi (by omega) (by rw [upn_at, upn_ne _ _ (by omega), upn_at])
    have e : upn (upn (tuR α β r ρ m) i r) m (ρ m) = upn (tuR α β r ρ m) i r := by
      have k := upn_sf (upn (tuR α β r ρ m) i r) m
      rw [upn_ne _ _ (show m ≠ i by omega), tuR_at (Nat.le_refl _)] at k
      exact k
    rw [z, e, tu_x hi m (by omega), Int.pow_succ]
    grind
theorem tu_g {cs : List Nat} {α : Int} {β : Nat → Int} {r : Nat → Int} {ρ : LZ} : ∀ m, m ≤ cs.length → α * mn cs (tuR α β r ρ m) = α ^ m * (α * mn cs ρ + sgZ m (fun i => β i * mn cs (upn ρ i r)))
  | 0, _ => by
    have e : tuR α β r ρ 0 = ρ := by funext k; exact tuR_at (by omega)
    rw [e, Int.pow_zero, sgZ]; omega
  | m + 1, hm => by
    have x := tu_x (cs := cs) (α := α) (β := β) (r := r) (ρ := ρ) (i := m) (by omega) m (Nat.le_refl _)
    have g := tu_g (cs := cs) (α := α) (β := β) (r := r) (ρ := ρ) m (by omega)
    have e : upn (tuR α β r ρ m) m (ρ m) = tuR α β r ρ m := by
      have k := upn_sf (tuR α β r ρ m) m
      rw [tuR_at (Nat.le_refl _)] at k
      exact k
    rw [tuR_s, mn_l cs _ m (ρ m) r α (β m) (by omega), e, x, sgZ, Int.mul_add, g, Int.pow_succ]
    grind
theorem pw_z {x : Int} : ∀ n, x ^ n = 0 → x = 0
  | 0, h => by rw [Int.pow_zero] at h; omega
  | n + 1, h => by
    rw [Int.pow_succ] at h
    rcases Int.mul_eq_zero.mp h with h | h
    · exact pw_z n h
    · exact h
/-- one row takes the others' places in turn -/
theorem mn_pl {j : Nat} {cs : List Nat} {ρ : LZ} {r : Nat → Int} (hr : r j ≠ 0) : r j * mn (j :: cs) ρ = sgZ (cs.length + 1) (fun i => ρ i j * mn (j :: cs) (upn ρ i r)) := by
  have g := tu_g (cs := j :: cs) (α := r j) (β := fun k => - ρ k j) (r := r) (ρ := ρ) (cs.length + 1) (by rw [List.length_cons]; omega)
  rw [mn_z (c := j) (cs := cs) (ρ := tuR (r j) (fun k => - ρ k j) r ρ (cs.length + 1)) (fun k hk => by
    unfold tuR
    rw [if_pos (by omega)]
    show r j * ρ k j + - ρ k j * r j = 0
    grind), Int.mul_zero] at g
  have h := (Int.mul_eq_zero.mp g.symm).resolve_left (by
    intro q
    exact hr (pw_z _ q))
  have e : sgZ (cs.length + 1) (fun i => - ρ i j * mn (j :: cs) (upn ρ i r)) = - sgZ (cs.length + 1) (fun i => ρ i j * mn (j :: cs) (upn ρ i r)) := by
    have := sg_mul (f := fun i => ρ i j * mn (j :: cs) (upn ρ i r)) (-1) (cs.length + 1)
    rw [sg_c (g := fun i => -1 * (ρ i j * mn (j :: cs) (upn ρ i r))) _ (fun i _ => by grind), this]
    omega
  rw [e] at h
  omega
/-- all rows turned by one row: what is left of their numbers counts -/
theorem mn_st {j : Nat} {cs : List Nat} {ρ : LZ} {r t : Nat → Int} (hr : r j ≠ 0) : r j * mn (j :: cs) (fun k c => ρ k c - t k * r c) = sgZ (cs.length + 1) (fun i => (ρ i j - t i * r j) * mn (j :: cs) (upn ρ i r)) := by
  have g := tu_g (cs := j :: cs) (α := 1) (β := fun k => - t k) (r := r) (ρ := ρ) (cs.length + 1) (by rw [List.length_cons]; omega)
  have e : mn (j :: cs) (tuR 1 (fun k => - t k) r ρ (cs.length + 1)) = mn (j :: cs) (fun k c => ρ k c - t k * r c) := by
    refine mn_c _ _ _ (fun k hk c _ => ?_)
    rw [List.length_cons] at hk
    unfold tuR
    rw [if_pos hk]
    show 1 * ρ k c + - t k * r c = ρ k c - t k * r c
    grind
  have one : (1 : Int) ^ (cs.length + 1) = 1 := Int.one_pow
  rw [e, one, Int.one_mul, Int.one_mul, Int.one_mul] at g
  rw [g, Int.mul_add, mn_pl hr, ← sg_mul, ← sg_add]
  exact sg_c _ (fun i _ => by grind)
