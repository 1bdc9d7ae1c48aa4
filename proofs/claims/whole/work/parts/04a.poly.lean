/-! ===== Math, and the POLYNOMIALS of the class ===== -/
def labs (x : Int64) : Int64 := if x < 0 then -x else x
def iabs (x : Int32) : Int32 := if x < 0 then -x else x
theorem s_labs {V : GV} {d : Nat} {x : Int64} {X : XT} {FI AI : FT} {AL : LT} : G V m_Math_abs_JJ d 0 [some (.long x), none] [] X FI AI AL (Pd (some (.long (labs x))) X FI AI AL) := by
  refine G_lload0 1 d_Math_abs_JJ_0 rfl ?_
  refine G_lconst 0 2 d_Math_abs_JJ_1 rfl rfl ?_
  refine G_lcge 11 6 d_Math_abs_JJ_2 d_Math_abs_JJ_3 rfl rfl (fun h2 => ?_) (fun h2 => ?_)
  · refine G_lload0 12 d_Math_abs_JJ_11 rfl ?_
    refine G_lret d_Math_abs_JJ_12 rfl ?_
    exact ⟨by simp only [labs, h2, if_false], rfl, rfl, rfl, rfl⟩
  · refine G_lload0 7 d_Math_abs_JJ_6 rfl ?_
    refine G_lneg 8 d_Math_abs_JJ_7 rfl ?_
    refine G_goto 12 d_Math_abs_JJ_8 rfl ?_
    refine G_lret d_Math_abs_JJ_12 rfl ?_
    exact ⟨by simp only [labs, h2, if_true], rfl, rfl, rfl, rfl⟩
theorem s_iabs {V : GV} {d : Nat} {x : Int32} {X : XT} {FI AI : FT} {AL : LT} : G V m_Math_abs_II d 0 [some (.int x)] [] X FI AI AL (Pd (some (.int (iabs x))) X FI AI AL) := by
  refine G_iload0 1 d_Math_abs_II_0 rfl ?_
  refine G_ifge 9 4 d_Math_abs_II_1 rfl rfl (fun h1 => ?_) (fun h1 => ?_)
  · refine G_iload0 10 d_Math_abs_II_9 rfl ?_
    refine G_iret d_Math_abs_II_10 rfl ?_
    exact ⟨by simp only [iabs, Int32.not_lt.mpr h1, if_false], rfl, rfl, rfl, rfl⟩
  · refine G_iload0 5 d_Math_abs_II_4 rfl ?_
    refine G_ineg 6 d_Math_abs_II_5 rfl ?_
    refine G_goto 10 d_Math_abs_II_6 rfl ?_
    refine G_iret d_Math_abs_II_10 rfl ?_
    exact ⟨by simp only [iabs, Int32.not_le.mp h1, if_true], rfl, rfl, rfl, rfl⟩
def imax (x y : Int32) : Int32 := if x < y then y else x
def lmax (x y : Int64) : Int64 := if x < y then y else x
theorem s_imax {V : GV} {d : Nat} {x y : Int32} {X : XT} {FI AI : FT} {AL : LT} : G V m_Math_max_III d 0 [some (.int x), some (.int y)] [] X FI AI AL (Pd (some (.int (imax x y))) X FI AI AL) := by
  refine G_iload0 1 d_Math_max_III_0 rfl ?_
  refine G_iload1 2 d_Math_max_III_1 rfl ?_
  refine G_iclt 9 5 d_Math_max_III_2 rfl rfl (fun h2 => ?_) (fun h2 => ?_)
  · refine G_iload1 10 d_Math_max_III_9 rfl ?_
    refine G_iret d_Math_max_III_10 rfl ?_
    exact ⟨by simp only [imax, h2, if_true], rfl, rfl, rfl, rfl⟩
  · refine G_iload0 6 d_Math_max_III_5 rfl ?_
    refine G_goto 10 d_Math_max_III_6 rfl ?_
    refine G_iret d_Math_max_III_10 rfl ?_
    exact ⟨by simp only [imax, h2, if_false], rfl, rfl, rfl, rfl⟩
theorem s_lmax {V : GV} {d : Nat} {x y : Int64} {X : XT} {FI AI : FT} {AL : LT} : G V m_Math_max_JJJ d 0 [some (.long x), none, some (.long y), none] [] X FI AI AL (Pd (some (.long (lmax x y))) X FI AI AL) := by
  refine G_lload0 1 d_Math_max_JJJ_0 rfl ?_
  refine G_lload2 2 d_Math_max_JJJ_1 rfl ?_
  refine G_lclt 10 6 d_Math_max_JJJ_2 d_Math_max_JJJ_3 rfl rfl (fun h2 => ?_) (fun h2 => ?_)
  · refine G_lload2 11 d_Math_max_JJJ_10 rfl ?_
    refine G_lret d_Math_max_JJJ_11 rfl ?_
    exact ⟨by simp only [lmax, h2, if_true], rfl, rfl, rfl, rfl⟩
  · refine G_lload0 7 d_Math_max_JJJ_6 rfl ?_
    refine G_goto 11 d_Math_max_JJJ_7 rfl ?_
    refine G_lret d_Math_max_JJJ_11 rfl ?_
    exact ⟨by simp only [lmax, h2, if_false], rfl, rfl, rfl, rfl⟩
/-- Math.floorMod, floorDiv, as the code has them -/
def lfm (x y : Int64) : Int64 := if x ^^^ y < 0 ∧ ¬ (x - x / y * y) = 0 then x - x / y * y + y else x - x / y * y
def lfd (x y : Int64) : Int64 := if x ^^^ y < 0 ∧ ¬ (x / y * y) = x then x / y - 1 else x / y
theorem s_floorMod {V : GV} {d : Nat} {x y : Int64} {X : XT} {FI AI : FT} {AL : LT} (hy : ¬ y = 0) : G V m_Math_floorMod d 0 [some (.long x), none, some (.long y), none, none, none] [] X FI AI AL (Pd (some (.long (lfm x y))) X FI AI AL) := by
  refine G_lload0 1 d_Math_floorMod_0 rfl ?_
  refine G_lload2 2 d_Math_floorMod_1 rfl ?_
  refine G_lrem 3 d_Math_floorMod_2 rfl (by assumption) ?_
  refine G_lstore4 5 d_Math_floorMod_3 rfl (by decide) rfl ?_
  refine G_lload0 6 d_Math_floorMod_5 rfl ?_
  refine G_lload2 7 d_Math_floorMod_6 rfl ?_
  refine G_lxor 8 d_Math_floorMod_7 rfl ?_
  refine G_lconst 0 9 d_Math_floorMod_8 rfl rfl ?_
  refine G_lcge 25 13 d_Math_floorMod_9 d_Math_floorMod_10 rfl rfl (fun h9 => ?_) (fun h9 => ?_)
  · refine G_lload4 27 d_Math_floorMod_25 rfl ?_
    refine G_lret d_Math_floorMod_27 rfl ?_
    exact ⟨by simp only [lfm, h9, false_and, if_false], rfl, rfl, rfl, rfl⟩
  · refine G_lload4 15 d_Math_floorMod_13 rfl ?_
    refine G_lconst 0 16 d_Math_floorMod_15 rfl rfl ?_
    refine G_lceq 25 20 d_Math_floorMod_16 d_Math_floorMod_17 rfl rfl (fun h16 => ?_) (fun h16 => ?_)
    · refine G_lload4 27 d_Math_floorMod_25 rfl ?_
      refine G_lret d_Math_floorMod_27 rfl ?_
      exact ⟨by simp only [lfm, h16, not_true, and_false, if_false], rfl, rfl, rfl, rfl⟩
    · refine G_lload4 22 d_Math_floorMod_20 rfl ?_
      refine G_lload2 23 d_Math_floorMod_22 rfl ?_
      refine G_ladd 24 d_Math_floorMod_23 rfl ?_
      refine G_lret d_Math_floorMod_24 rfl ?_
      exact ⟨by simp only [lfm, h9, h16, not_false_eq_true, and_self, if_true], rfl, rfl, rfl, rfl⟩
theorem s_floorDiv {V : GV} {d : Nat} {x y : Int64} {X : XT} {FI AI : FT} {AL : LT} (hy : ¬ y = 0) : G V m_Math_floorDiv d 0 [some (.long x), none, some (.long y), none, none, none] [] X FI AI AL (Pd (some (.long (lfd x y))) X FI AI AL) := by
  refine G_lload0 1 d_Math_floorDiv_0 rfl ?_
  refine G_lload2 2 d_Math_floorDiv_1 rfl ?_
  refine G_ldiv 3 d_Math_floorDiv_2 rfl (by assumption) ?_
  refine G_lstore4 5 d_Math_floorDiv_3 rfl (by decide) rfl ?_
  refine G_lload0 6 d_Math_floorDiv_5 rfl ?_
  refine G_lload2 7 d_Math_floorDiv_6 rfl ?_
  refine G_lxor 8 d_Math_floorDiv_7 rfl ?_
  refine G_lconst 0 9 d_Math_floorDiv_8 rfl rfl ?_
  refine G_lcge 27 13 d_Math_floorDiv_9 d_Math_floorDiv_10 rfl rfl (fun h9 => ?_) (fun h9 => ?_)
  · refine G_lload4 29 d_Math_floorDiv_27 rfl ?_
    refine G_lret d_Math_floorDiv_29 rfl ?_
    exact ⟨by simp only [lfd, h9, false_and, if_false], rfl, rfl, rfl, rfl⟩
  · refine G_lload4 15 d_Math_floorDiv_13 rfl ?_
    refine G_lload2 16 d_Math_floorDiv_15 rfl ?_
    refine G_lmul 17 d_Math_floorDiv_16 rfl ?_
    refine G_lload0 18 d_Math_floorDiv_17 rfl ?_
    refine G_lceq 27 22 d_Math_floorDiv_18 d_Math_floorDiv_19 rfl rfl (fun h18 => ?_) (fun h18 => ?_)
    · refine G_lload4 29 d_Math_floorDiv_27 rfl ?_
      refine G_lret d_Math_floorDiv_29 rfl ?_
      exact ⟨by simp only [lfd, h18, not_true, and_false, if_false], rfl, rfl, rfl, rfl⟩
    · refine G_lload4 24 d_Math_floorDiv_22 rfl ?_
      refine G_lconst 1 25 d_Math_floorDiv_24 rfl rfl ?_
      refine G_lsub 26 d_Math_floorDiv_25 rfl ?_
      refine G_lret d_Math_floorDiv_26 rfl ?_
      exact ⟨by simp only [lfd, h9, h18, not_false_eq_true, and_self, if_true], rfl, rfl, rfl, rfl⟩
/-- a row of one address is another -/
def sr {α : Type} (F : Nat → Nat → α) (a : Nat) (f : Nat → α) : Nat → Nat → α := fun b => if b = a then f else F b
theorem sr_at {α : Type} (F : Nat → Nat → α) (a : Nat) (f : Nat → α) : sr F a f a = f := by simp [sr]
theorem sr_ne {α : Type} (F : Nat → Nat → α) {a b : Nat} (f : Nat → α) (h : b ≠ a) : sr F a f b = F b := by simp [sr, h]
theorem sr_sr {α : Type} (F : Nat → Nat → α) (a : Nat) (f g : Nat → α) : sr (sr F a f) a g = sr F a g := by
  funext b; by_cases h : b = a <;> simp [sr, h]
theorem u2_sr {α : Type} (F : Nat → Nat → α) (a i : Nat) (f : Nat → α) (x : α) : u2 (sr F a f) a i x = sr F a (fun j => if j = i then x else f j) := by
  funext b j; by_cases h : b = a <;> simp [sr, u2, h]
theorem sr_self {α : Type} (F : Nat → Nat → α) (a : Nat) : sr F a (F a) = F := by
  funext b; by_cases h : b = a <;> simp [sr, h]
/-- what stands beyond a row's end doesn't matter -/
theorem cont_al {X : XT} {AI AI2 : FT} {AL AL2 : LT} {a t n : Nat} (cA : ClassId) (hI : ∀ j, j < n → AI a j = AI2 a j) (hL : ∀ j, j < n → AL a j = AL2 a j) : vp_cell cA (cont X AI AL a t n) = vp_cell cA (cont X AI2 AL2 a t n) := by
  have e1 : ∀ (f g : Nat → Value), (∀ j, j < n → f j = g j) → arrV cA n f = arrV cA n g := by
    intro f g h
    unfold arrV
    congr 1
    apply Array.ext
    · simp
    · intro i h1 h2
      simp at h1
      simp [h i h1]
  unfold cont
  split
  · rw [vp_cell_i, vp_cell_i]; exact e1 (fun j => .int (AI a j)) (fun j => .int (AI2 a j)) (fun j hj => by simp only [hI j hj])
  · rw [vp_cell_l, vp_cell_l]; exact e1 (fun j => .long (AL a j)) (fun j => .long (AL2 a j)) (fun j hj => by simp only [hL j hj])
  · rw [vp_cell_i, vp_cell_i]; exact e1 (fun j => .int (AI a j)) (fun j => .int (AI2 a j)) (fun j hj => by simp only [hI j hj])
  · rfl
theorem G.al {V : GV} {M : MT} {d pc : Nat} {ls : List (Option Value)} {st : List Value} {X : XT} {FI AI : FT} {AL : LT} {P : PT} (AL2 : LT) (h : ∀ a n, x_sh X a = some (1, n) → ∀ j, j < n → AL a j = AL2 a j) (k : G V M d pc ls st X FI AI AL2 P) : G V M d pc ls st X FI AI AL P := by
  obtain ⟨r, X', FI', AI', AL', h1, h2, h3, h4⟩ := k
  refine ⟨r, X', FI', AI', AL', h1, h2, h3, ?_⟩
  intro p e R s m args below meth c H locs n0 k0 cells slots arr C hR hS hL e1 e2 e3 e4
  refine h4 p e R s m args below meth c H locs n0 k0 cells slots arr C ⟨hR.1, hR.2.1, fun a t n q1 q2 => ?_, hR.2.2.2⟩ hS hL e1 e2 e3 e4
  obtain ⟨cA, g1, g2, g3⟩ := hR.2.2.1 a t n q1 q2
  refine ⟨cA, g1, g2, g3.trans ?_⟩
  by_cases ht : t = 1
  · subst ht; rw [cont_al cA (fun _ _ => rfl) (h a n q1)]
  · congr 2
    unfold cont
    split <;> first | rfl | exact absurd rfl ht
theorem G.ai {V : GV} {M : MT} {d pc : Nat} {ls : List (Option Value)} {st : List Value} {X : XT} {FI AI : FT} {AL : LT} {P : PT} (AI2 : FT) (h : ∀ a t n, x_sh X a = some (t, n) → t = 0 ∨ t = 2 → ∀ j, j < n → AI a j = AI2 a j) (k : G V M d pc ls st X FI AI2 AL P) : G V M d pc ls st X FI AI AL P := by
  obtain ⟨r, X', FI', AI', AL', h1, h2, h3, h4⟩ := k
  refine ⟨r, X', FI', AI', AL', h1, h2, h3, ?_⟩
  intro p e R s m args below meth c H locs n0 k0 cells slots arr C hR hS hL e1 e2 e3 e4
  refine h4 p e R s m args below meth c H locs n0 k0 cells slots arr C ⟨hR.1, hR.2.1, fun a t n q1 q2 => ?_, hR.2.2.2⟩ hS hL e1 e2 e3 e4
  obtain ⟨cA, g1, g2, g3⟩ := hR.2.2.1 a t n q1 q2
  refine ⟨cA, g1, g2, g3.trans ?_⟩
  by_cases ht : t = 0 ∨ t = 2
  · rw [cont_al cA (h a t n q1 ht) (fun _ _ => rfl)]
  · congr 2
    unfold cont
    split <;> first | rfl | exact absurd (Or.inl rfl) ht | exact absurd (Or.inr rfl) ht
/-- one row of longs, of which nothing beyond its end matters -/
theorem G.row {V : GV} {M : MT} {d pc : Nat} {ls : List (Option Value)} {st : List Value} {X : XT} {FI AI : FT} {AL : LT} {P : PT} {a n : Nat} {f : Nat → Int64} (g : Nat → Int64) (hs : x_sh X a = some (1, n)) (h : ∀ j, j < n → f j = g j) (k : G V M d pc ls st X FI AI (sr AL a g) P) : G V M d pc ls st X FI AI (sr AL a f) P := by
  refine G.al _ (fun b m hb j hj => ?_) k
  by_cases e : b = a
  · subst e
    rw [hs] at hb
    cases hb
    rw [sr_at, sr_at]; exact h j hj
  · rw [sr_ne _ _ e, sr_ne _ _ e]
theorem G.rowI {V : GV} {M : MT} {d pc : Nat} {ls : List (Option Value)} {st : List Value} {X : XT} {FI AI : FT} {AL : LT} {P : PT} {a t n : Nat} {f : Nat → Int32} (g : Nat → Int32) (hs : x_sh X a = some (t, n)) (h : ∀ j, j < n → f j = g j) (k : G V M d pc ls st X FI (sr AI a g) AL P) : G V M d pc ls st X FI (sr AI a f) AL P := by
  refine G.ai _ (fun b t2 m hb _ j hj => ?_) k
  by_cases e : b = a
  · subst e
    rw [hs] at hb
    cases hb
    rw [sr_at, sr_at]; exact h j hj
  · rw [sr_ne _ _ e, sr_ne _ _ e]
theorem s_fillL {V : GV} {d q n : Nat} {x : Int64} {X : XT} {FI AI : FT} {AL : LT} (h3 : x_sh X q = some (1, n)) (hn : n < 100000) : G V m_Arr_fill_AJJV d 0 [some (.ref q), some (.long x), none, none, none] [] X FI AI AL (Pd none X FI AI (sr AL q (fun _ => x))) := by
  have L : ∀ k, k ≤ n → G V m_Arr_fill_AJJV d 6 [some (.ref q), some (.long x), none, some (.int (nI k)), some (.int (nI n))] [] X FI AI (sr AL q (fun j => if j < k then x else AL q j)) (Pd none X FI AI (sr AL q (fun _ => x))) := by
    refine upto ?_ ?_
    · refine G_iload3 7 d_Arr_fill_AJJV_6 rfl ?_
      refine G_iload4 9 d_Arr_fill_AJJV_7 rfl ?_
      first | refine G_icgeN 22 12 d_Arr_fill_AJJV_9 rfl rfl (by omega) (by omega) (fun h9 => ?_) (fun h9 => ?_) | refine G_icge 22 12 d_Arr_fill_AJJV_9 rfl rfl (fun h9 => ?_) (fun h9 => ?_)
      · refine G.row (fun _ => x) h3 (fun j hj => by simp [hj]) ?_
        refine G_vret d_Arr_fill_AJJV_22 rfl ?_
        exact Pd.rf
      · omega
    · intro k hk ih
      refine G_iload3 7 d_Arr_fill_AJJV_6 rfl ?_
      refine G_iload4 9 d_Arr_fill_AJJV_7 rfl ?_
      first | refine G_icgeN 22 12 d_Arr_fill_AJJV_9 rfl rfl (by omega) (by omega) (fun h9 => ?_) (fun h9 => ?_) | refine G_icge 22 12 d_Arr_fill_AJJV_9 rfl rfl (fun h9 => ?_) (fun h9 => ?_)
      · omega
      · refine G_aload0 13 d_Arr_fill_AJJV_12 rfl ?_
        refine G_iload3 14 d_Arr_fill_AJJV_13 rfl ?_
        refine G_lload1 15 d_Arr_fill_AJJV_14 rfl ?_
        refine G_lastore 16 d_Arr_fill_AJJV_15 rfl (by assumption) (ix_nI (by omega) (by omega)) ?_
        first | refine G_iincN3 19 d_Arr_fill_AJJV_16 rfl (by decide) rfl ?_ | refine G_iinc3 _ 19 d_Arr_fill_AJJV_16 rfl (by decide) rfl rfl ?_
        refine G_goto 6 d_Arr_fill_AJJV_19 rfl ?_
        rw [u2_sr]
        refine G.row _ h3 (fun j hj => ?_) ih
        by_cases e : j = k <;> by_cases e2 : j < k <;> simp [e, e2] <;> omega
  refine G_iconstN 0 1 d_Arr_fill_AJJV_0 rfl rfl ?_
  refine G_istore3 2 d_Arr_fill_AJJV_1 rfl (by decide) rfl ?_
  refine G_aload0 3 d_Arr_fill_AJJV_2 rfl ?_
  refine G_alen 4 d_Arr_fill_AJJV_3 rfl (by assumption) (by decide) ?_
  refine G_istore4 6 d_Arr_fill_AJJV_4 rfl (by decide) rfl ?_
  have := L 0 (by omega)
  simp only [Nat.not_lt_zero, if_false, sr_self] at this
  exact this
theorem s_fillI {V : GV} {d q n : Nat} {x : Int32} {X : XT} {FI AI : FT} {AL : LT} (h3 : x_sh X q = some (0, n)) (hn : n < 100000) : G V m_Arr_fill_AIIV d 0 [some (.ref q), some (.int x), none, none] [] X FI AI AL (Pd none X FI (sr AI q (fun _ => x)) AL) := by
  have L : ∀ k, k ≤ n → G V m_Arr_fill_AIIV d 5 [some (.ref q), some (.int x), some (.int (nI k)), some (.int (nI n))] [] X FI (sr AI q (fun j => if j < k then x else AI q j)) AL (Pd none X FI (sr AI q (fun _ => x)) AL) := by
    refine upto ?_ ?_
    · refine G_iload2 6 d_Arr_fill_AIIV_5 rfl ?_
      refine G_iload3 7 d_Arr_fill_AIIV_6 rfl ?_
      first | refine G_icgeN 20 10 d_Arr_fill_AIIV_7 rfl rfl (by omega) (by omega) (fun h7 => ?_) (fun h7 => ?_) | refine G_icge 20 10 d_Arr_fill_AIIV_7 rfl rfl (fun h7 => ?_) (fun h7 => ?_)
      · refine G.rowI (fun _ => x) h3 (fun j hj => by simp [hj]) ?_
        refine G_vret d_Arr_fill_AIIV_20 rfl ?_
        exact Pd.rf
      · omega
    · intro k hk ih
      refine G_iload2 6 d_Arr_fill_AIIV_5 rfl ?_
      refine G_iload3 7 d_Arr_fill_AIIV_6 rfl ?_
      first | refine G_icgeN 20 10 d_Arr_fill_AIIV_7 rfl rfl (by omega) (by omega) (fun h7 => ?_) (fun h7 => ?_) | refine G_icge 20 10 d_Arr_fill_AIIV_7 rfl rfl (fun h7 => ?_) (fun h7 => ?_)
      · omega
      · refine G_aload0 11 d_Arr_fill_AIIV_10 rfl ?_
        refine G_iload2 12 d_Arr_fill_AIIV_11 rfl ?_
        refine G_iload1 13 d_Arr_fill_AIIV_12 rfl ?_
        refine G_iastore 14 d_Arr_fill_AIIV_13 rfl (by assumption) (ix_nI (by omega) (by omega)) ?_
        first | refine G_iincN2 17 d_Arr_fill_AIIV_14 rfl (by decide) rfl ?_ | refine G_iinc2 _ 17 d_Arr_fill_AIIV_14 rfl (by decide) rfl rfl ?_
        refine G_goto 5 d_Arr_fill_AIIV_17 rfl ?_
        rw [u2_sr]
        refine G.rowI _ h3 (fun j hj => ?_) ih
        by_cases e : j = k <;> by_cases e2 : j < k <;> simp [e, e2] <;> omega
  refine G_iconstN 0 1 d_Arr_fill_AIIV_0 rfl rfl ?_
  refine G_istore2 2 d_Arr_fill_AIIV_1 rfl (by decide) rfl ?_
  refine G_aload0 3 d_Arr_fill_AIIV_2 rfl ?_
  refine G_alen 4 d_Arr_fill_AIIV_3 rfl (by assumption) (by decide) ?_
  refine G_istore3 5 d_Arr_fill_AIIV_4 rfl (by decide) rfl ?_
  have := L 0 (by omega)
  simp only [Nat.not_lt_zero, if_false, sr_self] at this
  exact this
/-- NORM, as both sides add it up -/
def psum (f : Nat → Int64) : Nat → Int64
  | 0 => 0
  | k + 1 => psum f k + labs (f k)
def norm (f : Nat → Int64) : Int64 := psum f 84
theorem s_norm {V : GV} {d p q : Nat} {X : XT} {FI AI : FT} {AL : LT} (h1 : x_sh X p = some (14, 1)) (h2 : x_FR X p 0 = some q) (h3 : x_sh X q = some (1, 84)) : G V m_Poly_normNow (d + 1) 0 [some (.ref p), none, none, none] [] X FI AI AL (Pd (some (.long (norm (AL q)))) X FI AI AL) := by
  have L : ∀ k, k ≤ 84 → G V m_Poly_normNow (d + 1) 4 [some (.ref p), some (.long (psum (AL q) k)), none, some (.int (nI k))] [] X FI AI AL (Pd (some (.long (norm (AL q)))) X FI AI AL) := by
    refine upto ?_ ?_
    · refine G_iload3 5 d_Poly_normNow_4 rfl ?_
      refine G_bipushN 84 7 d_Poly_normNow_5 rfl rfl ?_
      first | refine G_icgeN 28 10 d_Poly_normNow_7 rfl rfl (by omega) (by omega) (fun h7 => ?_) (fun h7 => ?_) | refine G_icge 28 10 d_Poly_normNow_7 rfl rfl (fun h7 => ?_) (fun h7 => ?_)
      · refine G_lload1 29 d_Poly_normNow_28 rfl ?_
        refine G_lret d_Poly_normNow_29 rfl ?_
        exact Pd.rf
      · omega
    · intro k hk ih
      refine G_iload3 5 d_Poly_normNow_4 rfl ?_
      refine G_bipushN 84 7 d_Poly_normNow_5 rfl rfl ?_
      first | refine G_icgeN 28 10 d_Poly_normNow_7 rfl rfl (by omega) (by omega) (fun h7 => ?_) (fun h7 => ?_) | refine G_icge 28 10 d_Poly_normNow_7 rfl rfl (fun h7 => ?_) (fun h7 => ?_)
      · omega
      · refine G_lload1 11 d_Poly_normNow_10 rfl ?_
        refine G_aload0 12 d_Poly_normNow_11 rfl ?_
        refine G_getR 15 d_Poly_normNow_12 rfl f_Poly_9 rfl (by assumption) (by assumption) ?_
        refine G_iload3 16 d_Poly_normNow_15 rfl ?_
        refine G_laload 17 d_Poly_normNow_16 rfl (by assumption) (ix_nI (by omega) (by omega)) ?_
        refine G_invS1d 20 d_Poly_normNow_17 rfl e_Poly_39 M_Math_abs_JJ (Nat.le_of_ble_eq_true rfl) (Nat.le_of_ble_eq_true rfl) rfl (s_labs) ?_
        refine G_ladd 21 d_Poly_normNow_20 rfl ?_
        refine G_lstore1 22 d_Poly_normNow_21 rfl (by decide) rfl ?_
        first | refine G_iincN3 25 d_Poly_normNow_22 rfl (by decide) rfl ?_ | refine G_iinc3 _ 25 d_Poly_normNow_22 rfl (by decide) rfl rfl ?_
        refine G_goto 4 d_Poly_normNow_25 rfl ?_
        exact ih
  refine G_lconst 0 1 d_Poly_normNow_0 rfl rfl ?_
  refine G_lstore1 2 d_Poly_normNow_1 rfl (by decide) rfl ?_
  refine G_iconstN 0 3 d_Poly_normNow_2 rfl rfl ?_
  refine G_istore3 4 d_Poly_normNow_3 rfl (by decide) rfl ?_
  exact L 0 (by omega)
