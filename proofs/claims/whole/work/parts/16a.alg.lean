/-! ===== the class is made ===== -/
abbrev algLL : List (Nat × Nat) := [(20, 18), (3, 6), (15, 2), (0, 84), (10, 9), (3, 7), (0, 7), (1, 7), (0, 7), (0, 7), (1, 602), (0, 602), (1, 7), (14, 1), (1, 84), (14, 1), (1, 84), (14, 1), (1, 84), (14, 1), (1, 84), (14, 1), (1, 84), (14, 1), (1, 84), (14, 1), (1, 84), (17, 7), (0, 344), (0, 85), (0, 344), (0, 344), (0, 7), (3, 84), (2, 84), (16, 5), (0, 344), (0, 344), (0, 7), (0, 7), (0, 7), (12, 2), (6, 10), (1, 10), (1, 10), (1, 10), (1, 10), (1, 10), (1, 10), (1, 10), (1, 10), (1, 10), (1, 10), (1, 10), (4, 4), (5, 8), (14, 1), (1, 84), (14, 1), (1, 84), (19, 3), (1, 84), (0, 84), (19, 3), (1, 84), (0, 84), (14, 1), (1, 84), (14, 1), (1, 84), (14, 1), (1, 84), (14, 1), (1, 84), (14, 1), (1, 84), (14, 1), (1, 84), (18, 3), (0, 40), (18, 3), (0, 40), (18, 3), (0, 40), (18, 3), (0, 40), (13, 3), (14, 1), (1, 84), (13, 3), (14, 1), (1, 84), (13, 3), (14, 1), (1, 84), (13, 3), (14, 1), (1, 84), (13, 3), (14, 1), (1, 84), (13, 3), (14, 1), (1, 84), (13, 3), (14, 1), (1, 84), (13, 3), (14, 1), (1, 84)]
def zI0 : FT := fun _ _ => 0
def zL0 : LT := fun _ _ => 0
def aR (lo : Nat) : FT := sr zI0 (lo + 3) (fun k => nI (rk 0 k))
def fS (lo : Nat) : Nat → FT
  | 0 => zI0
  | k + 1 => u2 (fS lo k) (lo + 78 + 2 * k) 0 (-1)
def sK (n : Nat) (K : List (Nat × Nat × Nat)) : Nat → List (Nat × Nat × Nat)
  | 0 => K
  | i + 1 => (n + 2 * i, 2, n + 2 * i + 1) :: sK n K i
def lK (n : Nat) (K : List (Nat × Nat × Nat)) : Nat → List (Nat × Nat × Nat)
  | 0 => K
  | i + 1 => (n + 3 * i, 2, n + 3 * i + 1) :: (n + 3 * i + 1, 0, n + 3 * i + 1 + 1) :: lK n K i
def lA (a n : Nat) (A : List (Nat × Nat × Nat)) : Nat → List (Nat × Nat × Nat)
  | 0 => A
  | i + 1 => (a, i, n + 3 * i) :: lA a n A i
theorem lA_no {a n c i : Nat} {A : List (Nat × Nat × Nat)} (hA : ∀ q ∈ A, ¬ q.1 = a) : ∀ k, ∀ q ∈ lA a n A k, ¬ (q.1 = a ∧ q.2.1 = k + i)
  | 0 => fun q hq e => hA q hq e.1
  | k + 1 => fun q hq e => by
    rw [lA] at hq
    rcases List.mem_cons.mp hq with e2 | e2
    · subst e2; have := e.2; simp only at this; omega
    · exact lA_no (c := c) (i := i + 1) hA k q e2 ⟨e.1, by have := e.2; omega⟩
theorem zz0 (n : Nat) : ZZ zI0 zI0 zL0 n := ⟨fun _ _ => rfl, fun _ _ => rfl, fun _ _ => rfl⟩
theorem zzA {lo n : Nat} (h : lo + 4 ≤ n) : ZZ zI0 (aR lo) zL0 n := ⟨fun _ _ => rfl, fun c hc => if_neg (by omega), fun _ _ => rfl⟩
theorem fS_o {lo c : Nat} (h : ∀ i, i < 4 → c ≠ lo + 78 + 2 * i) : ∀ k, k ≤ 4 → fS lo k c = fun _ => 0
  | 0, _ => rfl
  | k + 1, hk => by
    rw [fS, u2_off _ _ _ (h k (by omega))]
    exact fS_o h k (by omega)
theorem fS_1 {lo i j : Nat} (hj : 1 ≤ j) : ∀ k, fS lo k (lo + 78 + 2 * i) j = 0
  | 0 => rfl
  | k + 1 => by
    rw [fS]
    by_cases e : lo + 78 + 2 * i = lo + 78 + 2 * k
    · rw [e, u2_ix _ _ (by omega), ← e]; exact fS_1 hj k
    · rw [u2_off _ _ _ e]; exact fS_1 hj k
theorem fS_0 {lo i : Nat} : ∀ k, i < k → fS lo k (lo + 78 + 2 * i) 0 = -1
  | 0, h => by omega
  | k + 1, h => by
    rw [fS]
    by_cases e : i = k
    · rw [e, u2_at]
    · rw [u2_off _ _ _ (by omega)]; exact fS_0 k (by omega)
theorem fS_n {lo n : Nat} : ∀ k, k ≤ 4 → lo + 78 + 2 * k ≤ n → ∀ c, n ≤ c → fS lo k c = fun _ => 0
  | 0, _, _ => fun _ _ => rfl
  | k + 1, hk, hn => fun c hc => by
    rw [fS, u2_off _ _ _ (by omega)]
    exact fS_n k (by omega) (by omega) c hc
theorem zzS {lo n k : Nat} (hk : k ≤ 4) (h : lo + 78 + 2 * k ≤ n) : ZZ (fS lo k) (aR lo) zL0 n := ⟨fS_n k hk h, fun c hc => if_neg (by omega), fun _ _ => rfl⟩
abbrev ak1 : List (Nat × Nat × Nat) := (0, 0, 1) :: []
abbrev ak2 : List (Nat × Nat × Nat) := (0, 1, 2) :: (2, 1, 2 + 1) :: ak1
abbrev ak3 : List (Nat × Nat × Nat) := (0, 2, 4) :: gnK 4 ak2
abbrev ak4 : List (Nat × Nat × Nat) := pA (4 + 1) (4 + 9) [] 7
abbrev ak5 : List (Nat × Nat × Nat) := (0, 3, 27) :: (27, 6, 27 + 7) :: (27, 5, 27 + 6) :: (27, 4, 27 + 5) :: (27, 3, 27 + 4) :: (27, 2, 27 + 3) :: (27, 1, 27 + 2) :: (27, 0, 27 + 1) :: ak3
abbrev ak6 : List (Nat × Nat × Nat) := (0, 4, 35) :: (35, 4, 35 + 5) :: (35, 3, 35 + 4) :: (35, 2, 35 + 3) :: (35, 1, 35 + 2) :: (35, 0, 35 + 1) :: ak5
abbrev ak7 : List (Nat × Nat × Nat) := (0, 5, 41) :: (41, 1, 41 + 12) :: (41, 0, 41 + 1) :: ak6
abbrev ak8 : List (Nat × Nat × Nat) := (41 + 1, 9, 41 + 1 + 10) :: (41 + 1, 8, 41 + 1 + 9) :: (41 + 1, 7, 41 + 1 + 8) :: (41 + 1, 6, 41 + 1 + 7) :: (41 + 1, 5, 41 + 1 + 6) :: (41 + 1, 4, 41 + 1 + 5) :: (41 + 1, 3, 41 + 1 + 4) :: (41 + 1, 2, 41 + 1 + 3) :: (41 + 1, 1, 41 + 1 + 2) :: (41 + 1, 0, 41 + 1 + 1) :: ak4
abbrev ak9 : List (Nat × Nat × Nat) := (0, 6, 54) :: ak7
abbrev ak10 : List (Nat × Nat × Nat) := (0, 7, 55) :: ak9
abbrev ak11 : List (Nat × Nat × Nat) := (0, 8, 56) :: (56, 0, 56 + 1) :: ak10
abbrev ak12 : List (Nat × Nat × Nat) := (0, 9, 58) :: (58, 0, 58 + 1) :: ak11
abbrev ak13 : List (Nat × Nat × Nat) := (0, 10, 60) :: (60, 2, 60 + 2) :: (60, 1, 60 + 1) :: ak12
abbrev ak14 : List (Nat × Nat × Nat) := (0, 11, 63) :: (63, 2, 63 + 2) :: (63, 1, 63 + 1) :: ak13
abbrev akE : List (Nat × Nat × Nat) := lK 86 (sK 78 (pK 66 ak14 6) 4) 8
abbrev aaE : List (Nat × Nat × Nat) := lA 55 86 (pA 54 78 (pA 1 66 ak8 6) 4) 8
def mAl : Nat := 6005
