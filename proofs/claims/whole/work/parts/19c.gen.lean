/-! ===== a step of a pass: minors with the column at hand ===== -/
theorem sg_le {f g : Nat → Int} : ∀ n, (∀ k, k < n → f k ≤ g k) → sgZ n f ≤ sgZ n g
  | 0, _ => Int.le_refl _
  | n + 1, h => by
    have a := sg_le (f := f) (g := g) n (fun k hk => h k (by omega))
    have b := h n (by omega)
    rw [sgZ, sgZ]; omega
theorem sg_ct (a : Int) : ∀ n : Nat, sgZ n (fun _ => a) = n * a
  | 0 => by rw [sgZ]; omega
  | n + 1 => by
    rw [sgZ, sg_ct a n, Int.natCast_add, Int.add_mul]; omega
/-- terms that only come nearer to 0: all of one sign, or one may be left out -/
theorem sg_sw {u v c : Nat → Int} {s : Nat} {V B : Int} (h1 : ∀ k, k < s → swdI (u k) (v k)) (h2 : ∀ k, k < s → u k ≤ c k) (hv : sgZ s v ≤ V) (hB : ∀ k, k < s → sgZ s c - c k ≤ B) : sgZ s u ≤ V ∨ sgZ s u ≤ B := by
  by_cases e : ∃ k, k < s ∧ u k ≤ 0
  · obtain ⟨k, hk, hu⟩ := e
    right
    have a := sg_le (f := u) (g := upn c k 0) s (fun l hl => by
      by_cases q : l = k
      · rw [q, upn_at]; exact hu
      · rw [upn_ne _ _ q]; exact h2 l hl)
    have b := sg_set (f := upn c k 0) (g := c) (k := k) s hk (fun l _ q => upn_ne _ _ q)
    rw [upn_at] at b
    have := hB k hk
    omega
  · left
    refine Int.le_trans (sg_le s (fun k hk => ?_)) hv
    have hu : 0 < u k := by
      by_cases q : u k ≤ 0
      · exact absurd ⟨k, hk, q⟩ e
      · omega
    have := h1 k hk
    unfold swdI at this
    omega
theorem sg_ng (f : Nat → Int) (n : Nat) : sgZ n (fun k => - f k) = - sgZ n f := by
  have := sg_mul (f := f) (-1) n
  rw [sg_c (g := fun k => -1 * f k) n (fun k _ => by omega), this]; omega
theorem sg_sa {u v c : Nat → Int} {s : Nat} {V B : Int} (h1 : ∀ k, k < s → swdI (u k) (v k)) (h2 : ∀ k, k < s → ((u k).natAbs : Int) ≤ c k) (hv : ((sgZ s v).natAbs : Int) ≤ V) (hB : ∀ k, k < s → sgZ s c - c k ≤ B) : ((sgZ s u).natAbs : Int) ≤ V ∨ ((sgZ s u).natAbs : Int) ≤ B := by
  have a := sg_sw (u := u) (v := v) (c := c) (V := V) (B := B) h1 (fun k hk => by have := h2 k hk; omega) (by omega) hB
  have b := sg_sw (u := fun k => - u k) (v := fun k => - v k) (c := c) (V := V) (B := B) (fun k hk => by
    have := h1 k hk
    unfold swdI at this ⊢
    show 0 ≤ - u k ∧ - u k ≤ - v k ∨ - v k ≤ - u k ∧ - u k ≤ 0
    omega) (fun k hk => by have := h2 k hk; show - u k ≤ c k; omega) (by rw [sg_ng]; omega) hB
  rw [sg_ng] at b
  omega
theorem upn_cmp {α : Type} (Z : Nat → α) (σ : Nat → Nat) (x i : Nat) : upn (fun k => Z (σ k)) x (Z i) = fun k => Z (upn σ x i k) := by
  funext k
  by_cases e : k = x
  · rw [e, upn_at, upn_at]
  · rw [upn_ne _ _ e, upn_ne _ _ e]
/-- the row at hand is among them: nothing changes -/
theorem mn_in {i n j : Nat} {cs : List Nat} {Z Z' : LZ} {t : Nat → Int} (hp : Z i j ≠ 0) (hZ : ∀ k, i ≤ k → k < n → ∀ c, c ∈ j :: cs → Z' k c = Z k c - t k * Z i c) (ht : t i = 0) {σ : Nat → Nat} (hs : ∀ x, x < cs.length + 1 → i ≤ σ x ∧ σ x < n) {x : Nat} (hx : x < cs.length + 1) (hi : σ x = i) : mn (j :: cs) (fun k => Z' (σ k)) = mn (j :: cs) (fun k => Z (σ k)) := by
  have e1 : mn (j :: cs) (fun k => Z' (σ k)) = mn (j :: cs) (fun k c => Z (σ k) c - t (σ k) * Z i c) := mn_c _ _ _ (fun k hk c hc => by
    rw [List.length_cons] at hk
    exact hZ (σ k) (hs k hk).1 (hs k hk).2 c hc)
  have e2 := mn_st (cs := cs) (ρ := fun k => Z (σ k)) (r := Z i) (t := fun k => t (σ k)) hp
  rw [sg_1 (k := x) _ hx (fun y hy hne => by
    rw [mn_rr (cs := j :: cs) (i := y) (j := x) (by rw [List.length_cons]; exact hy) (by rw [List.length_cons]; exact hx) hne (by rw [upn_at, upn_ne _ _ (fun q => hne q.symm), hi]), Int.mul_zero])] at e2
  have e3 : upn (fun k => Z (σ k)) x (Z i) = fun k => Z (σ k) := by
    have := upn_self (fun k => Z (σ k)) x
    rwa [hi] at this
  rw [e3, hi, ht, Int.zero_mul, Int.sub_zero] at e2
  rw [e1]
  exact Int.eq_of_mul_eq_mul_left hp e2
theorem mn_gr {i n j m0 ro rp D : Nat} {cs : List Nat} {Z Z' : LZ} (hp : Z i j ≠ 0) (hin : i < n) (hZ : ∀ k, i < k → k < n → ∀ c, c ∈ j :: cs → Z' k c = Z k c - (Z k j).tdiv (Z i j) * Z i c) (hZi : Z' i = Z i) (hro : ∀ k, i < k → k < n → k ≠ m0 → ((Z k j).tmod (Z i j)).natAbs ≤ ro) (hrp : ∀ k, i < k → k < n → ((Z k j).tmod (Z i j)).natAbs ≤ rp) (hrr : ro ≤ rp) (hD : ∀ σ : Nat → Nat, (∀ x, x < cs.length + 1 → i ≤ σ x ∧ σ x < n) → (mn (j :: cs) (fun k => Z (σ k))).natAbs ≤ D) {σ : Nat → Nat} (hs : ∀ x, x < cs.length + 1 → i ≤ σ x ∧ σ x < n) (hl : 1 ≤ cs.length) : (mn (j :: cs) (fun k => Z' (σ k))).natAbs ≤ D ∨ (mn (j :: cs) (fun k => Z' (σ k))).natAbs * (Z i j).natAbs ≤ (rp + (cs.length - 1) * ro) * D := by
  have hZ2 : ∀ k, i ≤ k → k < n → ∀ c, c ∈ j :: cs → Z' k c = Z k c - (if k = i then 0 else (Z k j).tdiv (Z i j)) * Z i c := fun k h1 h2 c hc => by
    by_cases e : k = i
    · rw [if_pos e, e, hZi]; omega
    · rw [if_neg e]; exact hZ k (by omega) h2 c hc
  by_cases hx : ∃ x, x < cs.length + 1 ∧ σ x = i
  · obtain ⟨x, hx, hi⟩ := hx
    left
    rw [mn_in hp hZ2 (if_pos rfl) hs hx hi]
    exact hD σ hs
  · have hσ : ∀ x, x < cs.length + 1 → i < σ x := fun x h => by
      have := (hs x h).1
      by_cases q : σ x = i
      · exact absurd ⟨x, h, q⟩ hx
      · omega
    by_cases hinj : ∃ x y, x < cs.length + 1 ∧ y < cs.length + 1 ∧ x ≠ y ∧ σ x = σ y
    · obtain ⟨x, y, h1, h2, h3, h4⟩ := hinj
      left
      rw [mn_rr (cs := j :: cs) (i := x) (j := y) (by rw [List.length_cons]; exact h1) (by rw [List.length_cons]; exact h2) h3 (by show Z' (σ x) = Z' (σ y); rw [h4])]
      exact Nat.zero_le _
    · have e1 : mn (j :: cs) (fun k => Z' (σ k)) = mn (j :: cs) (fun k c => Z (σ k) c - (Z (σ k) j).tdiv (Z i j) * Z i c) := mn_c _ _ _ (fun k hk c hc => by
        rw [List.length_cons] at hk
        exact hZ (σ k) (hσ k hk) (hs k hk).2 c hc)
      have e2 := mn_st (cs := cs) (ρ := fun k => Z (σ k)) (r := Z i) (t := fun k => (Z (σ k) j).tdiv (Z i j)) hp
      have e3 := mn_pl (cs := cs) (ρ := fun k => Z (σ k)) (r := Z i) hp
      rw [← e1] at e2
      have hX : ∀ x, x < cs.length + 1 → (mn (j :: cs) (upn (fun k => Z (σ k)) x (Z i))).natAbs ≤ D := fun x hx => by
        rw [upn_cmp]
        refine hD _ (fun y hy => ?_)
        by_cases q : y = x
        · rw [q, upn_at]; exact ⟨Nat.le_refl _, hin⟩
        · rw [upn_ne _ _ q]; exact hs y hy
      have hV := mul_ab (Nat.le_refl (Z i j).natAbs) (hD σ hs)
      rw [e3] at hV
      have tm : ∀ x, Z (σ x) j - (Z (σ x) j).tdiv (Z i j) * Z i j = (Z (σ x) j).tmod (Z i j) := fun x => sub_tmod _ _
      have key := sg_sa (u := fun x => (Z (σ x) j).tmod (Z i j) * mn (j :: cs) (upn (fun k => Z (σ k)) x (Z i))) (v := fun x => Z (σ x) j * mn (j :: cs) (upn (fun k => Z (σ k)) x (Z i))) (c := fun x => if σ x = m0 then (rp : Int) * D else (ro : Int) * D) (s := cs.length + 1) (V := ((Z i j).natAbs : Int) * D) (B := (rp : Int) * D + ((cs.length - 1 : Nat) : Int) * (ro * D)) (fun x _ => swd_mul (swd_tmod _ _) _) (fun x hx => by
        by_cases q : σ x = m0
        · show (((Z (σ x) j).tmod (Z i j) * mn (j :: cs) (upn (fun k => Z (σ k)) x (Z i))).natAbs : Int) ≤ if σ x = m0 then (rp : Int) * D else (ro : Int) * D
          rw [if_pos q]
          have := mul_ab (hrp _ (hσ x hx) (hs x hx).2) (hX x hx)
          rw [← Int.natCast_mul]; omega
        · show (((Z (σ x) j).tmod (Z i j) * mn (j :: cs) (upn (fun k => Z (σ k)) x (Z i))).natAbs : Int) ≤ if σ x = m0 then (rp : Int) * D else (ro : Int) * D
          rw [if_neg q]
          have := mul_ab (hro _ (hσ x hx) (hs x hx).2 q) (hX x hx)
          rw [← Int.natCast_mul]; omega) (by rw [← Int.natCast_mul]; omega) (fun k hk => by
        have hrD : (ro : Int) * D ≤ rp * D := Int.mul_le_mul_of_nonneg_right (by omega) (by omega)
        have hck : (ro : Int) * D ≤ if σ k = m0 then (rp : Int) * D else (ro : Int) * D := by split <;> omega
        have hsum : sgZ (cs.length + 1) (fun x => if σ x = m0 then (rp : Int) * D else (ro : Int) * D) ≤ rp * D + (cs.length : Int) * (ro * D) := by
          by_cases q : ∃ x, x < cs.length + 1 ∧ σ x = m0
          · obtain ⟨x, hx, hm⟩ := q
            rw [sg_set (g := fun _ => (ro : Int) * D) (k := x) _ hx (fun y hy hne => if_neg (fun z => hinj ⟨y, x, hy, hx, hne, by rw [z, hm]⟩)), sg_ct, if_pos hm, Int.natCast_add, Int.add_mul]
            omega
          · rw [sg_c (g := fun _ => (ro : Int) * D) _ (fun x hx => if_neg (fun z => q ⟨x, hx, z⟩)), sg_ct, Int.natCast_add, Int.add_mul]
            omega
        have hL : ((cs.length - 1 : Nat) : Int) * (ro * D) = (cs.length : Int) * (ro * D) - ro * D := by
          have : ((cs.length - 1 : Nat) : Int) = (cs.length : Int) - 1 := by omega
          rw [this, Int.sub_mul]; omega
        show sgZ (cs.length + 1) (fun x => if σ x = m0 then (rp : Int) * D else (ro : Int) * D) - (if σ k = m0 then (rp : Int) * D else (ro : Int) * D) ≤ _
        omega)
      rw [sg_c (f := fun x => (Z (σ x) j).tmod (Z i j) * mn (j :: cs) (upn (fun k => Z (σ k)) x (Z i))) (g := fun x => (Z (σ x) j - (Z (σ x) j).tdiv (Z i j) * Z i j) * mn (j :: cs) (upn (fun k => Z (σ k)) x (Z i))) _ (fun x _ => by rw [tm]), ← e2, Int.natAbs_mul] at key
      have hpz : 0 < (Z i j).natAbs := by omega
      rcases key with key | key
      · left
        rw [← Int.natCast_mul] at key
        exact Nat.le_of_mul_le_mul_left (by omega) hpz
      · right
        have e5 : ((((rp + (cs.length - 1) * ro) * D : Nat)) : Int) = (rp : Int) * D + ((cs.length - 1 : Nat) : Int) * (ro * D) := by
          rw [Int.natCast_mul, Int.natCast_add, Int.natCast_mul, Int.add_mul, Int.mul_assoc]
        rw [Nat.mul_comm]
        omega
