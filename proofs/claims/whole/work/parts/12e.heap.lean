/-! ===== what constructors lay out ===== -/
theorem G_putX {V : GV} {M : MT} {d pc : Nat} {ls : List (Option Value)} {st : List Value} {X : XT} {FI AI : FT} {AL : LT} {P : PT} {idx ci j a w : Nat} {x : Option Nat} {v : Value} (tf : Bool) (n : Nat) (hd : dec M pc = .ok (.putfield idx, 3)) (hn : pc + 3 = n) (hf : FL M.1.cls idx ci j) (hr : isR ci j = true) (hv : v = va_rf x) (hfin : ∀ C T N, Cls[ci]? = some (C, T, N) → (T j).2.2.2 = tf) (hin : tf = true → M.1.name = "<init>" ∧ ∀ C T N, Cls[ci]? = some (C, T, N) → C = M.1.cls) (hsh : x_sh X a = some (ci + 10, w)) (hnr : narrow (tyOf ci j) v = v) (hft : fits (tyOf ci j) v = true) (k : G V M d n ls st (xput X a j x) FI AI AL P) : G V M d pc ls (v :: .ref a :: st) X FI AI AL P :=
  G_putR (sh := x_sh X) (FR := x_FR X) (AR := x_AR X) (zz := X.2.2.2) tf n hd hn hf hr hv hfin hin hsh hnr hft k
theorem G_aastX {V : GV} {M : MT} {d pc : Nat} {ls : List (Option Value)} {st : List Value} {X : XT} {FI AI : FT} {AL : LT} {P : PT} {i : Int32} {a b w j0 t ci w2 : Nat} {r0 : vw_C} (n : Nat) (hd : dec M pc = .ok (.aastore, 1)) (hn : pc + 1 = n) (hsh : x_sh X a = some (t, w)) (ht : 3 ≤ t) (ht2 : t < 10) (hi : ix i w j0) (hb : x_sh X b = some (ci + 10, w2)) (hc : Cls[ci]? = some r0) (hC : tagTy t = .object r0.1) (k : G V M d n ls st (xarr X a j0 (some b)) FI AI AL P) : G V M d pc ls (.ref b :: .int i :: .ref a :: st) X FI AI AL P :=
  G_aastore (sh := x_sh X) (FR := x_FR X) (AR := x_AR X) (zz := X.2.2.2) n hd hn hsh ht ht2 hi hb hc hC k
theorem xn_at {X : XT} {t w c : Nat} (h : c = x_sz X) : x_sh (xnew X t w) c = some (t, w) := if_pos h
theorem xn_ne {X : XT} {t w c : Nat} (h : c ≠ x_sz X) : x_sh (xnew X t w) c = x_sh X c := if_neg h
theorem xn_fr {X : XT} {t w c : Nat} (h : c ≠ x_sz X) : x_FR (xnew X t w) c = x_FR X c := z2_off _ _ h
theorem xn_ar {X : XT} {t w c : Nat} (h : c ≠ x_sz X) : x_AR (xnew X t w) c = x_AR X c := z2_off _ _ h
/-- from lo on: shapes, fields, rows as listed, and nothing else -/
def LY (sl : List (Nat × Nat)) (X0 X : XT) (lo n m : Nat) (K A : List (Nat × Nat × Nat)) : Prop :=
  x_sz X = lo + n ∧ (∀ i, i < n → x_sh X (lo + i) = sl[i]?) ∧ (∀ q ∈ K, q.1 < n ∧ x_FR X (lo + q.1) q.2.1 = some (lo + q.2.2)) ∧ (∀ q ∈ A, q.1 < n ∧ x_AR X (lo + q.1) q.2.1 = some (lo + q.2.2)) ∧ (∀ c j, c < n → (∀ q ∈ K, ¬ (q.1 = c ∧ q.2.1 = j)) → x_FR X (lo + c) j = none) ∧ (∀ c j, c < n → (∀ q ∈ A, ¬ (q.1 = c ∧ q.2.1 = j)) → x_AR X (lo + c) j = none) ∧ (∀ c, c < lo → x_sh X c = x_sh X0 c ∧ x_FR X c = x_FR X0 c ∧ x_AR X c = x_AR X0 c) ∧ x_nc X = x_nc X0 + n ∧ x_ns X = x_ns X0 + m
theorem LY.o (sl : List (Nat × Nat)) {X : XT} {lo : Nat} (h : x_sz X = lo) : LY sl X X lo 0 0 [] [] :=
  ⟨h, fun i hi => by omega, fun q hq => by simp at hq, fun q hq => by simp at hq, fun c j hc => by omega, fun c j hc => by omega, fun c _ => ⟨rfl, rfl, rfl⟩, rfl, rfl⟩
theorem LY.new {sl : List (Nat × Nat)} {X0 X : XT} {lo n m t w : Nat} {K A : List (Nat × Nat × Nat)} (h : LY sl X0 X lo n m K A) (hq : sl[n]? = some (t, w)) : LY sl X0 (xnew X t w) lo (n + 1) (m + w) K A := by
  obtain ⟨h1, h2, h3, h4, h5, h6, h7, h8, h9⟩ := h
  have hz : x_sz (xnew X t w) = x_sz X + 1 := rfl
  have hnc : x_nc (xnew X t w) = x_nc X + 1 := rfl
  have hns : x_ns (xnew X t w) = x_ns X + w := rfl
  refine ⟨by omega, fun i hi => ?_, fun q hq => ?_, fun q hq => ?_, fun c j hc hk => ?_, fun c j hc hk => ?_, fun c hc => ?_, by omega, by omega⟩
  · by_cases e : i = n
    · rw [e, hq]; exact xn_at h1.symm
    · rw [xn_ne (by omega)]; exact h2 i (by omega)
  · have := h3 q hq
    exact ⟨by omega, by rw [xn_fr (by omega)]; exact this.2⟩
  · have := h4 q hq
    exact ⟨by omega, by rw [xn_ar (by omega)]; exact this.2⟩
  · by_cases e : c = n
    · rw [e, ← h1]; show z2 (x_FR X) (x_sz X) none (x_sz X) j = none; rw [z2_row]
    · rw [xn_fr (by omega)]; exact h5 c j (by omega) hk
  · by_cases e : c = n
    · rw [e, ← h1]; show z2 (x_AR X) (x_sz X) none (x_sz X) j = none; rw [z2_row]
    · rw [xn_ar (by omega)]; exact h6 c j (by omega) hk
  · obtain ⟨b1, b2, b3⟩ := h7 c hc
    exact ⟨by rw [xn_ne (by omega)]; exact b1, by rw [xn_fr (by omega)]; exact b2, by rw [xn_ar (by omega)]; exact b3⟩
theorem LY.put {sl : List (Nat × Nat)} {X0 X : XT} {lo n m c j v a : Nat} {x : Option Nat} {K A : List (Nat × Nat × Nat)} (h : LY sl X0 X lo n m K A) (ha : a = lo + c) (hx : x = some (lo + v)) (hc : c < n) (hn : ∀ q ∈ K, ¬ (q.1 = c ∧ q.2.1 = j)) : LY sl X0 (xput X a j x) lo n m ((c, j, v) :: K) A := by
  obtain ⟨h1, h2, h3, h4, h5, h6, h7, h8, h9⟩ := h
  subst ha hx
  refine ⟨h1, h2, fun q hq => ?_, h4, fun c' j' hc' hk => ?_, h6, fun c' hc' => ⟨(h7 c' hc').1, ?_, (h7 c' hc').2.2⟩, h8, h9⟩
  · show q.1 < n ∧ u2 (x_FR X) (lo + c) j (some (lo + v)) (lo + q.1) q.2.1 = _
    rcases List.mem_cons.mp hq with e | e
    · subst e; exact ⟨hc, u2_at _ _ _ _⟩
    · refine ⟨(h3 q e).1, ?_⟩
      have := hn q e
      by_cases e2 : q.1 = c
      · rw [e2, u2_ix _ _ (fun e3 => this ⟨e2, e3⟩), ← e2]; exact (h3 q e).2
      · rw [u2_off _ _ _ (by omega)]; exact (h3 q e).2
  · show u2 (x_FR X) (lo + c) j (some (lo + v)) (lo + c') j' = _
    have k1 := hk (c, j, v) (List.mem_cons_self)
    have k2 := h5 c' j' hc' (fun q hq => hk q (List.mem_cons_of_mem _ hq))
    by_cases e2 : c' = c
    · rw [e2, u2_ix _ _ (fun e3 => k1 ⟨e2.symm, e3.symm⟩), ← e2]; exact k2
    · rw [u2_off _ _ _ (by omega)]; exact k2
  · show u2 (x_FR X) (lo + c) j (some (lo + v)) c' = _
    rw [u2_off _ _ _ (by omega)]; exact (h7 c' hc').2.1
theorem LY.pnull {sl : List (Nat × Nat)} {X0 X : XT} {lo n m c j a : Nat} {K A : List (Nat × Nat × Nat)} (h : LY sl X0 X lo n m K A) (ha : a = lo + c) (hc : c < n) (hn : ∀ q ∈ K, ¬ (q.1 = c ∧ q.2.1 = j)) : LY sl X0 (xput X a j none) lo n m K A := by
  obtain ⟨h1, h2, h3, h4, h5, h6, h7, h8, h9⟩ := h
  subst ha
  refine ⟨h1, h2, fun q hq => ⟨(h3 q hq).1, ?_⟩, h4, fun c' j' hc' hk => ?_, h6, fun c' hc' => ⟨(h7 c' hc').1, ?_, (h7 c' hc').2.2⟩, h8, h9⟩
  · show u2 (x_FR X) (lo + c) j none (lo + q.1) q.2.1 = _
    have := hn q hq
    by_cases e2 : q.1 = c
    · rw [e2, u2_ix _ _ (fun e3 => this ⟨e2, e3⟩), ← e2]; exact (h3 q hq).2
    · rw [u2_off _ _ _ (by omega)]; exact (h3 q hq).2
  · show u2 (x_FR X) (lo + c) j none (lo + c') j' = _
    have k2 := h5 c' j' hc' hk
    by_cases e2 : c' = c
    · by_cases e3 : j' = j
      · rw [e2, e3, u2_at]
      · rw [e2, u2_ix _ _ e3, ← e2]; exact k2
    · rw [u2_off _ _ _ (by omega)]; exact k2
  · show u2 (x_FR X) (lo + c) j none c' = _
    rw [u2_off _ _ _ (by omega)]; exact (h7 c' hc').2.1
theorem LY.arr {sl : List (Nat × Nat)} {X0 X : XT} {lo n m c j v a : Nat} {x : Option Nat} {K A : List (Nat × Nat × Nat)} (h : LY sl X0 X lo n m K A) (ha : a = lo + c) (hx : x = some (lo + v)) (hc : c < n) (hn : ∀ q ∈ A, ¬ (q.1 = c ∧ q.2.1 = j)) : LY sl X0 (xarr X a j x) lo n m K ((c, j, v) :: A) := by
  obtain ⟨h1, h2, h3, h4, h5, h6, h7, h8, h9⟩ := h
  subst ha hx
  refine ⟨h1, h2, h3, fun q hq => ?_, h5, fun c' j' hc' hk => ?_, fun c' hc' => ⟨(h7 c' hc').1, (h7 c' hc').2.1, ?_⟩, h8, h9⟩
  · show q.1 < n ∧ u2 (x_AR X) (lo + c) j (some (lo + v)) (lo + q.1) q.2.1 = _
    rcases List.mem_cons.mp hq with e | e
    · subst e; exact ⟨hc, u2_at _ _ _ _⟩
    · refine ⟨(h4 q e).1, ?_⟩
      have := hn q e
      by_cases e2 : q.1 = c
      · rw [e2, u2_ix _ _ (fun e3 => this ⟨e2, e3⟩), ← e2]; exact (h4 q e).2
      · rw [u2_off _ _ _ (by omega)]; exact (h4 q e).2
  · show u2 (x_AR X) (lo + c) j (some (lo + v)) (lo + c') j' = _
    have k1 := hk (c, j, v) (List.mem_cons_self)
    have k2 := h6 c' j' hc' (fun q hq => hk q (List.mem_cons_of_mem _ hq))
    by_cases e2 : c' = c
    · rw [e2, u2_ix _ _ (fun e3 => k1 ⟨e2.symm, e3.symm⟩), ← e2]; exact k2
    · rw [u2_off _ _ _ (by omega)]; exact k2
  · show u2 (x_AR X) (lo + c) j (some (lo + v)) c' = _
    rw [u2_off _ _ _ (by omega)]; exact (h7 c' hc').2.2
theorem LY.kn {sl : List (Nat × Nat)} {X0 X : XT} {lo n m : Nat} {K A : List (Nat × Nat × Nat)} (h : LY sl X0 X lo n m K A) (c j : Nat) (hc : n ≤ c) : ∀ q ∈ K, ¬ (q.1 = c ∧ q.2.1 = j) := fun q hq e => by
  have := (h.2.2.1 q hq).1
  omega
theorem LY.an {sl : List (Nat × Nat)} {X0 X : XT} {lo n m : Nat} {K A : List (Nat × Nat × Nat)} (h : LY sl X0 X lo n m K A) (c j : Nat) (hc : n ≤ c) : ∀ q ∈ A, ¬ (q.1 = c ∧ q.2.1 = j) := fun q hq e => by
  have := (h.2.2.2.1 q hq).1
  omega
theorem LY.sh {sl : List (Nat × Nat)} {X0 X : XT} {lo n m : Nat} {K A : List (Nat × Nat × Nat)} {q : Nat × Nat} (h : LY sl X0 X lo n m K A) (i : Nat) (hi : i < n) (hq : sl[i]? = some q) : x_sh X (lo + i) = some q := (h.2.1 i hi).trans hq
theorem LY.fr {sl : List (Nat × Nat)} {X0 X : XT} {lo n m : Nat} {K A : List (Nat × Nat × Nat)} (h : LY sl X0 X lo n m K A) (c j v : Nat) (hq : (c, j, v) ∈ K) : x_FR X (lo + c) j = some (lo + v) := (h.2.2.1 _ hq).2
theorem LY.ar {sl : List (Nat × Nat)} {X0 X : XT} {lo n m : Nat} {K A : List (Nat × Nat × Nat)} (h : LY sl X0 X lo n m K A) (c j v : Nat) (hq : (c, j, v) ∈ A) : x_AR X (lo + c) j = some (lo + v) := (h.2.2.2.1 _ hq).2
theorem LY.shA {sl : List (Nat × Nat)} {X0 X : XT} {lo n m a : Nat} {K A : List (Nat × Nat × Nat)} {q : Nat × Nat} (h : LY sl X0 X lo n m K A) (i : Nat) (ha : a = lo + i) (hi : i < n) (hq : sl[i]? = some q) : x_sh X a = some q := by rw [ha]; exact h.sh i hi hq
theorem LY.frA {sl : List (Nat × Nat)} {X0 X : XT} {lo n m a b j : Nat} {K A : List (Nat × Nat × Nat)} (h : LY sl X0 X lo n m K A) (c v : Nat) (ha : a = lo + c) (hb : b = lo + v) (hq : (c, j, v) ∈ K) : x_FR X a j = some b := by rw [ha, hb]; exact h.fr c j v hq
theorem LY.arA {sl : List (Nat × Nat)} {X0 X : XT} {lo n m a b j : Nat} {K A : List (Nat × Nat × Nat)} (h : LY sl X0 X lo n m K A) (c v : Nat) (ha : a = lo + c) (hb : b = lo + v) (hq : (c, j, v) ∈ A) : x_AR X a j = some b := by rw [ha, hb]; exact h.ar c j v hq
/-! numbers: what was stays, what is new is 0 -/
def zE {α : Type} (z : α) (F F' : Nat → Nat → α) (n : Nat) : Prop := (∀ c, c < n → F' c = F c) ∧ ∀ c, n ≤ c → F' c = F c ∨ F' c = fun _ => z
theorem zE.rf {α : Type} {z : α} {F : Nat → Nat → α} {n : Nat} : zE z F F n := ⟨fun _ _ => rfl, fun _ _ => Or.inl rfl⟩
theorem zE.z {α : Type} {z : α} {F F' : Nat → Nat → α} {n k : Nat} (h : zE z F F' n) (hk : n ≤ k) : zE z F (z2 F' k z) n := by
  refine ⟨fun c hc => by rw [z2_off _ _ (by omega)]; exact h.1 c hc, fun c hc => ?_⟩
  by_cases e : c = k
  · right; rw [e, z2_row]
  · rw [z2_off _ _ e]; exact h.2 c hc
theorem zE.tr {α : Type} {z : α} {F F1 F2 : Nat → Nat → α} {n k : Nat} (h : zE z F F1 n) (h2 : zE z F1 F2 k) (hk : n ≤ k) : zE z F F2 n := by
  refine ⟨fun c hc => (h2.1 c (by omega)).trans (h.1 c hc), fun c hc => ?_⟩
  by_cases e : k ≤ c
  · rcases h2.2 c e with q | q
    · rw [q]; exact h.2 c hc
    · exact Or.inr q
  · rw [h2.1 c (by omega)]; exact h.2 c hc
/-! polynomials in a row -/
def plX (X : XT) (a i : Nat) : XT := xarr (xput (xnew (xnew X 14 1) 1 84) (x_sz X) 0 (some (x_sz X + 1))) a i (some (x_sz X))
def plsX (X : XT) (a : Nat) : Nat → XT
  | 0 => X
  | i + 1 => plX (plsX X a i) a i
def pK (n : Nat) (K : List (Nat × Nat × Nat)) : Nat → List (Nat × Nat × Nat)
  | 0 => K
  | i + 1 => (n + 2 * i, 0, n + 2 * i + 1) :: pK n K i
def pA (a n : Nat) (A : List (Nat × Nat × Nat)) : Nat → List (Nat × Nat × Nat)
  | 0 => A
  | i + 1 => (a, i, n + 2 * i) :: pA a n A i
theorem LY.pl {sl : List (Nat × Nat)} {X0 X : XT} {lo n m a c i : Nat} {K A : List (Nat × Nat × Nat)} (h : LY sl X0 X lo n m K A) (ha : a = lo + c) (hc : c < n) (h1 : sl[n]? = some (14, 1)) (h2 : sl[n + 1]? = some (1, 84)) (hA : ∀ q ∈ A, ¬ (q.1 = c ∧ q.2.1 = i)) : LY sl X0 (plX X a i) lo (n + 2) (m + 85) ((n, 0, n + 1) :: K) ((c, i, n) :: A) := by
  have hz := h.1
  have := ((h.new h1).new h2).put (c := n) (j := 0) (v := n + 1) (a := x_sz X) (x := some (x_sz X + 1)) hz (by rw [hz]; rfl) (by omega) (h.kn n 0 (Nat.le_refl _))
  exact this.arr ha (by rw [hz]) (by omega) hA
theorem pA_no {a n c i : Nat} {A : List (Nat × Nat × Nat)} (hA : ∀ q ∈ A, ¬ q.1 = a) : ∀ k, ∀ q ∈ pA a n A k, ¬ (q.1 = a ∧ q.2.1 = k + i)
  | 0 => fun q hq e => hA q hq e.1
  | k + 1 => fun q hq e => by
    rw [pA] at hq
    rcases List.mem_cons.mp hq with e2 | e2
    · subst e2; have := e.2; simp only at this; omega
    · exact pA_no (c := c) (i := i + 1) hA k q e2 ⟨e.1, by have := e.2; omega⟩
theorem LY.pls {sl : List (Nat × Nat)} {X0 X : XT} {lo n m a c : Nat} {K A : List (Nat × Nat × Nat)} (h : LY sl X0 X lo n m K A) (ha : a = lo + c) (hc : c < n) (hA : ∀ q ∈ A, ¬ q.1 = c) : ∀ k, (∀ i, i < k → sl[n + 2 * i]? = some (14, 1) ∧ sl[n + 2 * i + 1]? = some (1, 84)) → LY sl X0 (plsX X a k) lo (n + 2 * k) (m + 85 * k) (pK n K k) (pA c n A k)
  | 0, _ => h
  | k + 1, hs => by
    have ih := LY.pls h ha hc hA k (fun i hi => hs i (by omega))
    exact ih.pl ha (by omega) (hs k (by omega)).1 (hs k (by omega)).2 (pA_no (c := c) (i := 0) hA k)
