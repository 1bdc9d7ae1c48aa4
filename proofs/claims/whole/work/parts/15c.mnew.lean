/-! ===== a row of rows: the rule ===== -/
def mX (X : XT) (N M : Nat) : XT := (fun b => if b = x_sz X then some (6, N) else if x_sz X < b ∧ b ≤ x_sz X + N then some (1, M) else x_sh X b, fun b j => if x_sz X ≤ b ∧ b ≤ x_sz X + N then none else x_FR X b j, fun b j => if b = x_sz X then (if j < N then some (x_sz X + 1 + j) else none) else if x_sz X < b ∧ b ≤ x_sz X + N then none else x_AR X b j, x_sz X + 1 + N, x_nc X + 1 + N, x_ns X + N + N * M)
def mL (X : XT) (N : Nat) (AL : LT) : LT := fun b j => if x_sz X < b ∧ b ≤ x_sz X + N then 0 else AL b j
theorem mX_rel {V : GV} {s : State} {X : XT} {FI AI : FT} {AL : LT} {H H' : Heap} {N M : Nat} {cA cI : ClassId} (h : Rel V s X FI AI AL H) (hlo : v_lo V ≤ H.size) (z : H'.size = H.size + 1 + N) (ho : H'[H.size]? = some (arrV cA N (mwV H.size N))) (hi : ∀ j, j < N → H'[H.size + 1 + j]? = some (arrV cI M (fun _ => .long 0))) (oq : ∀ a : Nat, a < H.size → H'[a]? = H[a]?) (a1 : ArrOfT s cA (.array .long)) (a2 : va_RA s cA (.array .long)) (b1 : ArrOfT s cI .long) (b2 : va_RA s cI .long) : Rel V s (mX X N M) FI AI (mL X N AL) H' := by
  have hs := h.1
  rw [hs] at z ho hlo
  have hi' : ∀ j, j < N → H'[x_sz X + 1 + j]? = some (arrV cI M (fun _ => .long 0)) := fun j hj => by rw [← hs]; exact hi j hj
  have sh0 : x_sh (mX X N M) (x_sz X) = some (6, N) := if_pos rfl
  have sh1 : ∀ b, x_sz X < b ∧ b ≤ x_sz X + N → x_sh (mX X N M) b = some (1, M) := fun b hb => (if_neg (by omega)).trans (if_pos hb)
  have sh2 : ∀ b, b ≠ x_sz X → ¬ (x_sz X < b ∧ b ≤ x_sz X + N) → x_sh (mX X N M) b = x_sh X b := fun b h1 h2 => (if_neg h1).trans (if_neg h2)
  refine ⟨z, fun b t n hb => ?_, fun b t n hb ht => ?_, fun b ci n hb => ?_⟩
  · show v_lo V ≤ b ∧ b < x_sz X + 1 + N
    by_cases e : b = x_sz X
    · omega
    · by_cases e2 : x_sz X < b ∧ b ≤ x_sz X + N
      · omega
      · rw [sh2 b e e2] at hb
        have := h.2.1 b t n hb
        omega
  · by_cases e : b = x_sz X
    · subst e
      rw [sh0] at hb
      cases hb
      refine ⟨cA, a1, a2, ?_⟩
      rw [ho, cont_ref (by decide)]
      show _ = some (arrV cA N (fun j => va_rf (x_AR (mX X N M) (x_sz X) j)))
      congr 2
      funext j
      show mwV (x_sz X) N j = va_rf (if x_sz X = x_sz X then (if j < N then some (x_sz X + 1 + j) else none) else _)
      rw [if_pos rfl]
      unfold mwV
      split <;> rfl
    · by_cases e2 : x_sz X < b ∧ b ≤ x_sz X + N
      · rw [sh1 b e2] at hb
        cases hb
        refine ⟨cI, b1, b2, ?_⟩
        have := hi' (b - (x_sz X + 1)) (by omega)
        rw [show x_sz X + 1 + (b - (x_sz X + 1)) = b by omega] at this
        rw [this]
        show _ = some (arrV cI M (fun j => .long (mL X N AL b j)))
        congr 2
        funext j
        unfold mL
        rw [if_pos e2]
      · rw [sh2 b e e2] at hb
        obtain ⟨c0, h1, h2, h3⟩ := h.2.2.1 b t n hb ht
        refine ⟨c0, h1, h2, ?_⟩
        rw [oq b (by rw [hs]; exact (h.2.1 b t n hb).2), h3]
        have r2 : x_AR (mX X N M) b = x_AR X b := by
          funext j
          exact (if_neg e).trans (if_neg e2)
        have r3 : mL X N AL b = AL b := by
          funext j
          exact if_neg e2
        simp only [cont, r2, r3]
  · have e : b ≠ x_sz X := fun e => by
      subst e
      rw [sh0] at hb
      simp at hb
    have e2 : ¬ (x_sz X < b ∧ b ≤ x_sz X + N) := fun e2 => by
      rw [sh1 b e2] at hb
      simp at hb
    rw [sh2 b e e2] at hb
    obtain ⟨r, h1, h2, h3⟩ := h.2.2.2 b ci n hb
    have r1 : x_FR (mX X N M) b = x_FR X b := by
      funext j
      exact if_neg (by omega)
    have hlt := (h.2.1 b _ n hb).2
    refine ⟨r, h1, h2, ?_⟩
    have e3 : fval (mX X N M) FI ci b = fval X FI ci b := by
      funext k
      unfold fval
      rw [r1]
    rw [e3]
    exact h3.kept (oq b (by rw [hs]; exact hlt))
theorem G_mnew {V : GV} {M : MT} {d pc : Nat} {ls : List (Option Value)} {st : List Value} {X : XT} {FI AI : FT} {AL : LT} {P : PT} {idx : Nat} {i k : Int32} (N K n : Nat) (hd : dec M pc = .ok (.multianewarray idx 2, 4)) (hn : pc + 4 = n) (hcl : Cond.classLink M.1.cls idx "[[J" ∈ gw_tbl) (hac : Cond.arrayClass .long ∈ gw_tbl) (hi : i = nI N) (hk : k = nI K) (hb : N < 100000) (hb2 : K < 100000) (kk : G V M d n ls (.ref (x_sz X) :: st) (mX X N K) FI AI (mL X N AL) P) : G V M d pc ls (.int k :: .int i :: st) X FI AI AL P := by
  subst hn
  refine G.step (by show x_nc X ≤ x_nc X + 1 + N; omega) (by show x_ns X ≤ x_ns X + N + N * K; omega) ?_ kk
  intro r X' FI' AI' AL' q1 q2 hw p e R s m args below meth c H locs n0 k0 cells slots arr C hR hS hL e1 e2 e3 e4
  have q1 : x_nc X + 1 + N ≤ x_nc X' := q1
  have q2 : x_ns X + N + N * K ≤ x_ns X' := q2
  have hlo : v_lo V ≤ H.size := Nat.le_trans C.2.2.2.2.2.2.2.2.2.2.2.2.2 hS.1
  have hAO : AOA s := C.2.2.2.2.2.2.2.2.2.2.2.2.1.2.2.2.2
  refine W.mnew (N := N) (M := K) C.1 C.2.1 C.2.2.2.2.1 (C.2.2.2.2.2.2.2.1 _ hcl) hAO (C.2.2.2.2.2.2.2.1 _ hac) rfl hd rfl (by rw [hi]; exact nI_pos (by omega)) (by rw [hk]; exact nI_pos (by omega)) (by rw [hi]; exact nI_clamp (by omega)) (by rw [hk]; exact nI_clamp (by omega)) (by omega) (by omega) (by omega) (by omega) fun cA kA cI kI cL f1 f2 f3 f4 f5 f6 H' g1 g2 g3 g4 => ?_
  have hR' := mX_rel (M := K) hR hlo g1 g2 g3 g4 (fun N z => ⟨(fun k h => by cases h), kA, f2, cI, f3⟩) f1 (fun N z => ⟨(fun k h => by cases h), kI, f5, cL, f6⟩) f4
  rw [hR.1]
  refine hw p e R s m args below meth c H' _ n0 k0 _ _ arr C hR' ⟨?_, fun x h1 h2 => ?_, fun l hl => ?_⟩ hL (by show n0 + (cells + 1 + N) = x_nc X + 1 + N; omega) (by show k0 + (slots + N + N * K) = x_ns X + N + N * K; omega) e3 e4
  · have := hS.1
    omega
  · exact (g4 x (Nat.lt_of_lt_of_le h1 hS.1)).trans (hS.2.1 x h1 h2)
  · rcases List.mem_append.mp hl with h | h
    · exact hS.2.2 l h
    · obtain ⟨j, -, rfl⟩ := List.mem_map.mp h
      show v_lo V ≤ x_sz X
      rw [← hR.1]; exact hlo
