/-! ===== COMPLETION keeps GENERATORS as they must be ===== -/
theorem rowsM_zero : ∀ Ls : List Nat, ∃ v, v ∈ rowsM Ls 0 0 0
  | [] => ⟨[], by rw [rowsM]; simp⟩
  | l :: Ls => by
    obtain ⟨v, hv⟩ := rowsM_zero Ls
    refine ⟨0 :: v, ?_⟩
    rw [rowsM, List.mem_flatMap]
    refine ⟨0, (mem_dn _ _).mpr (Nat.zero_le _), List.mem_map.mpr ⟨v, ?_, rfl⟩⟩
    simpa using hv
theorem rowsM_unit {l : Nat} (hl : l < 84) : ∀ Ls : List Nat, l ∈ Ls → ∃ v, v ∈ rowsM Ls (eX l) (eY l) (eZ l)
  | [], h => by simp at h
  | a :: Ls, h => by
    have el := e_le hl
    by_cases e : a = l
    · subst e
      obtain ⟨v, hv⟩ := rowsM_zero Ls
      refine ⟨1 :: v, ?_⟩
      rw [rowsM, List.mem_flatMap]
      refine ⟨1, (mem_dn _ _).mpr ((mst_le (by omega) (by omega)).mpr ⟨by omega, by omega, by omega⟩), List.mem_map.mpr ⟨v, ?_, rfl⟩⟩
      simpa using hv
    · obtain ⟨v, hv⟩ := rowsM_unit hl Ls (by
        rcases List.mem_cons.mp h with c | c
        · exact absurd c.symm e
        · exact c)
      refine ⟨0 :: v, ?_⟩
      rw [rowsM, List.mem_flatMap]
      refine ⟨0, (mem_dn _ _).mpr (Nat.zero_le _), List.mem_map.mpr ⟨v, ?_, rfl⟩⟩
      simpa using hv
theorem RN_ne0 {gl : Nat → Nat} {n : Nat} (hl : ∀ i, i < n → gl i < 84 ∧ 1 ≤ eD (gl i)) : RN (leadL gl n) 0 ≠ [] := by
  obtain ⟨v, hv⟩ := rowsM_zero (leadL gl n)
  intro e
  rw [RN, RT_M (leadL_all hl) (by omega), List.map_eq_nil_iff] at e
  have z : eX 0 = 0 ∧ eY 0 = 0 ∧ eZ 0 = 0 := by decide
  rw [z.1, z.2.1, z.2.2] at e
  rw [e] at hv
  simp at hv
theorem RN_neU {gl : Nat → Nat} {n i : Nat} (hl : ∀ i, i < n → gl i < 84 ∧ 1 ≤ eD (gl i)) (hi : i < n) : RN (leadL gl n) (gl i) ≠ [] := by
  obtain ⟨v, hv⟩ := rowsM_unit (hl i hi).1 (leadL gl n) (by simp only [leadL, List.mem_map, List.mem_range]; exact ⟨i, hi, rfl⟩)
  intro e
  rw [RN, RT_M (leadL_all hl) (hl i hi).1, List.map_eq_nil_iff] at e
  rw [e] at hv
  simp at hv
theorem apt_ok {o n : Nat} {Ls : List Nat} {gp : Nat → Nat → Int64} (P : Nat → Prop) (hP : ∀ t w ws, RN Ls t = w :: ws → P w) : ∀ (k : Nat) (f : Nat → Int64) (st : List (Int64 × Nat)) (q : (Nat → Int64) × List (Int64 × Nat)), cu f = f → (∀ s ∈ st, P s.2) → apt o n Ls gp k f st = some q → cu q.1 = q.1 ∧ q.2.length ≤ st.length + k ∧ ∀ s ∈ q.2, P s.2
  | 0, f, st, q, hc, hs, ha => by
    rw [apt] at ha
    cases ha
    exact ⟨hc, Nat.le_refl _, hs⟩
  | k + 1, f, st, q, hc, hs, ha => by
    rw [apt] at ha
    split at ha
    · obtain ⟨a, b, c⟩ := apt_ok P hP k f st q hc hs ha
      exact ⟨a, by omega, c⟩
    · split at ha
      · obtain ⟨a, b, c⟩ := apt_ok P hP k f st q hc hs ha
        exact ⟨a, by omega, c⟩
      · next w ws hR =>
        split at ha
        · cases ha
        · obtain ⟨a, b, c⟩ := apt_ok P hP k _ _ q (by rw [cu_addP, hc, prodP_cu]) (fun s hm => by
            rcases List.mem_append.mp hm with c | c
            · exact hs s c
            · rw [List.mem_singleton.mp c]; exact hP _ w ws hR) ha
          rw [List.length_append, List.length_singleton] at b
          exact ⟨a, by omega, c⟩
def relQ (gl : Nat → Nat) (n : Nat) (q : Nat × Nat) : Prop := (q.1 < 2097152 ∧ q.2 < 2097152) ∧ (rdeg gl q.1 n ≤ 6 ∧ rdeg gl q.2 n ≤ 6) ∧ (∀ h, n ≤ h → h < 7 → pw q.1 h = 0 ∧ pw q.2 h = 0) ∧ ∃ h, h < n ∧ 0 < pw q.1 h
theorem hds_mem {Rs : List Nat} {q : Nat × Nat} : ∀ m g, q ∈ hds Rs m g → g + m < Rs.length → ∃ i, g < i ∧ i ≤ g + m ∧ q = (Rs.getD 0 0, Rs.getD i 0)
  | 0, g, h, _ => by rw [hds] at h; simp at h
  | m + 1, g, h, hl => by
    by_cases e : isH Rs (g + 1)
    · rw [hds_y e] at h
      rcases List.mem_cons.mp h with c | c
      · exact ⟨g + 1, by omega, by omega, c⟩
      · obtain ⟨i, a, b, d⟩ := hds_mem m (g + 1) c (by omega)
        exact ⟨i, by omega, by omega, d⟩
    · rw [hds_n e] at h
      obtain ⟨i, a, b, d⟩ := hds_mem m (g + 1) h (by omega)
      exact ⟨i, by omega, by omega, d⟩
theorem rowsM_one : ∀ Ls : List Nat, (∀ l ∈ Ls, l < 84 ∧ 1 ≤ eD l) → (rowsM Ls 0 0 0).length ≤ 1
  | [], _ => by rw [rowsM]; simp
  | l :: Ls, h => by
    obtain ⟨l1, l2⟩ := h l List.mem_cons_self
    have el := e_le l1
    have hm : mst l 0 0 0 = 0 := by
      rcases Nat.eq_zero_or_pos (mst l 0 0 0) with c | c
      · exact c
      · exfalso
        have := (mst_le (p := 1) (l := l) (x := 0) (y := 0) (z := 0) (by omega) (by omega)).mp c
        omega
    rw [rowsM, hm]
    simp only [dn, List.flatMap_cons, List.flatMap_nil, List.append_nil, List.length_map, Nat.zero_mul, Nat.sub_zero]
    exact rowsM_one Ls (fun a ha => h a (List.mem_cons_of_mem _ ha))
theorem rlD_ok {o d n : Nat} {gl : Nat → Nat} (ho : o < 3) (hn : n ≤ 7) (hl : ∀ i, i < n → gl i < 84 ∧ 1 ≤ eD (gl i)) {q : Nat × Nat} : ∀ m, m ≤ 84 → q ∈ rlD o (leadL gl n) d m → relQ gl n q
  | 0, _, h => by rw [rlD] at h; simp at h
  | m + 1, hm, h => by
    rw [rlD] at h
    rcases List.mem_append.mp h with c | c
    · split at c
      · have ht := (rk_ok o ho (83 - m) (by omega)).2.2.1
        generalize rk o (83 - m) = t at c ht
        unfold prsR at c
        have hlen : (RN (leadL gl n) t).length = 0 ∨ 0 < (RN (leadL gl n) t).length := Nat.eq_zero_or_pos _
        rcases hlen with z | z
        · rw [z, Nat.zero_sub, hds] at c; simp at c
        · obtain ⟨i, i1, i2, i3⟩ := hds_mem _ _ c (by omega)
          obtain ⟨r0, hr0⟩ : ∃ r, (RN (leadL gl n) t)[0]? = some r := ⟨(RN (leadL gl n) t)[0], List.getElem?_eq_getElem z⟩
          obtain ⟨r1, hr1⟩ : ∃ r, (RN (leadL gl n) t)[i]? = some r := ⟨(RN (leadL gl n) t)[i], List.getElem?_eq_getElem (by omega)⟩
          rw [List.getD_eq_getElem?_getD, List.getD_eq_getElem?_getD, hr0, hr1] at i3
          simp only [Option.getD_some] at i3
          subst i3
          obtain ⟨a1, a2, a3, a4⟩ := RN_ok hn hl hr0
          obtain ⟨b1, b2, b3, b4⟩ := RN_ok hn hl hr1
          refine ⟨⟨a1, b1⟩, ⟨a2, b2⟩, fun h h1 h2 => ⟨a3 h h1 h2, b3 h h1 h2⟩, Classical.byContradiction (fun hno => ?_)⟩
          -- a ROW of nothing is the TERM 1, which has one ROW alone
          obtain ⟨v, hv, hvn⟩ := RN_get hr0
          obtain ⟨c1, c2, c3, c4, c5, c6⟩ := RT_ok hn hl hv
          have hz : ∀ p ∈ v, p = 0 := fun p hp => by
            obtain ⟨j, hj⟩ := List.getElem?_of_mem hp
            have hj' := (List.getElem?_eq_some_iff.mp hj).1
            have := c6 j (by omega)
            rw [hvn, List.getD_eq_getElem?_getD, hj] at this
            simp only [Option.getD_some] at this
            rcases Nat.eq_zero_or_pos p with q | q
            · exact q
            · exact absurd ⟨j, by omega, by show 0 < pw r0 j; omega⟩ hno
          have hd0 := vdeg_zero (leadL gl n) v hz
          have hx := vdeg_xyz (leadL gl n) v (fun l hm => (leadL_all hl l hm).1)
          have ht0 : t = 0 := by
            rw [← c3]; unfold vpl
            rw [show vsum eX (leadL gl n) v = 0 by omega, show vsum eY (leadL gl n) v = 0 by omega, show vsum eZ (leadL gl n) v = 0 by omega]
            decide
          have hone := rowsM_one (leadL gl n) (leadL_all hl)
          have z0 : eX 0 = 0 ∧ eY 0 = 0 ∧ eZ 0 = 0 := by decide
          have hRT := RT_M (leadL_all hl) ht
          rw [ht0, z0.1, z0.2.1, z0.2.2] at hRT
          have hi := (List.getElem?_eq_some_iff.mp hr1).1
          rw [RN, List.length_map, ht0, hRT] at hi
          omega
      · simp at c
    · exact rlD_ok ho hn hl m (by omega) c
theorem rdeg_congr {gl gl' : Nat → Nat} {r : Nat} : ∀ {k : Nat}, (∀ i, i < k → gl i = gl' i) → rdeg gl r k = rdeg gl' r k
  | 0, _ => rfl
  | k + 1, h => by rw [rdeg, rdeg, h k (by omega), rdeg_congr (fun i hi => h i (by omega))]
theorem stl_ok {o : Nat} {S : GT} {q : Nat × Nat} (ho : o < 3) (hW : WG o S) (hq : relQ (gL S) (gN S) q) : WG o (stl o S q).2 ∧ (gN S ≤ gN (stl o S q).2) ∧ (∀ i, i < gN S → gL (stl o S q).2 i = gL S i) := by
  obtain ⟨hn7, hg, hinj⟩ := hW
  have hl : ∀ i, i < gN S → gL S i < 84 ∧ 1 ≤ eD (gL S i) := fun i hi => ⟨(hg i hi).1, (hg i hi).2.1⟩
  have hm : ∀ i, i < gN S → mon o (gP S i) (eX (gL S i)) (eY (gL S i)) (eZ (gL S i)) := fun i hi => (hg i hi).2.2.2.1
  have same : WG o S ∧ gN S ≤ gN S ∧ ∀ i, i < gN S → gL S i = gL S i := ⟨⟨hn7, hg, hinj⟩, Nat.le_refl _, fun _ _ => rfl⟩
  unfold stl
  cases hd : difP (gN S) (gP S) q.1 q.2 with
  | none => exact same
  | some f =>
    dsimp only
    cases ha : apt o (gN S) (leadL (gL S) (gN S)) (gP S) 84 f [] with
    | none => exact same
    | some w =>
      dsimp only
      split
      · exact same
      · next hz =>
        split
        · exact same
        · next hle =>
          split
          · exact same
          · next h7 =>
            obtain ⟨t, ht⟩ : ∃ t, lead1 w.1 o = t + 1 := ⟨lead1 w.1 o - 1, by omega⟩
            rw [ht, Nat.add_sub_cancel] at hle ⊢
            have hlab : labs (w.1 t) = 1 := Classical.not_not.mp hle
            obtain ⟨t1, t2, t3⟩ := lead_ok ho ht
            have hfc : cu f = f := by
              unfold difP at hd
              split at hd
              · cases hd
              · cases hd; rw [cu_addP, prodP_cu, prodP_cu]
            obtain ⟨wc, wl, wr⟩ := apt_ok (fun r => r < 2097152 ∧ ∀ h, gN S ≤ h → h < 7 → pw r h = 0) (fun t w ws hR => by
              obtain ⟨a, b, c, d⟩ := RN_ok (gl := gL S) (n := gN S) (t := t) (i := 0) (r := w) hn7 hl (by rw [hR]; rfl)
              exact ⟨a, c⟩) 84 f [] w hfc (fun s hs => by simp at hs) ha
            have hcl := apt_clear ho hn7 hl hm 84 f [] w (Nat.le_refl _) (fun i h1 h2 => by omega) ha
            obtain ⟨u1, u2, -, -⟩ := rk_ok o ho t t1
            have hRt : RN (leadL (gL S) (gN S)) t = [] := by
              have := hcl (rnk o t) u1 (by rw [u2]; exact t2)
              rwa [u2] at this
            have htne : ∀ i, i < gN S → gL S i ≠ t := fun i hi e => RN_neU hl hi (by rw [e]; exact hRt)
            have ht0 : t ≠ 0 := fun e => RN_ne0 hl (by rw [← e]; exact hRt)
            have hd1 : 1 ≤ eD t := by
              rcases Nat.eq_zero_or_pos (eD t) with c | c
              · exact absurd ((eD0 t t1).mp c) ht0
              · exact c
            have hee : w.1 t * w.1 t = 1 := by
              rcases labs1 hlab with c | c <;> rw [c] <;> decide
            have prw : ∀ j, j < 2 + w.2.length → prf q.1 q.2 w.2 j < 2097152 ∧ ∀ h, gN S ≤ h → h < 7 → pw (prf q.1 q.2 w.2 j) h = 0 := by
              intro j hj
              unfold prf
              split
              · exact ⟨hq.1.1, fun h h1 h2 => (hq.2.2.1 h h1 h2).1⟩
              · split
                · exact ⟨hq.1.2, fun h h1 h2 => (hq.2.2.1 h h1 h2).2⟩
                · have hj2 : j - 2 < w.2.length := by omega
                  have : w.2.getD (j - 2) (0, 0) = w.2[j - 2] := by rw [List.getD_eq_getElem?_getD, List.getElem?_eq_getElem hj2]; rfl
                  rw [this]
                  exact wr _ (List.getElem_mem _)
            refine ⟨⟨by show gN S + 1 ≤ 7; omega, fun i hi => ?_, fun i j hi hj => ?_⟩, Nat.le_succ _, fun i hi => upn_ne _ _ (by omega)⟩
            · show upn (gL S) (gN S) t i < 84 ∧ 1 ≤ eD (upn (gL S) (gN S) t i) ∧ cu (upn (gP S) (gN S) _ i) = upn (gP S) (gN S) _ i ∧ mon o (upn (gP S) (gN S) _ i) (eX (upn (gL S) (gN S) t i)) (eY (upn (gL S) (gN S) t i)) (eZ (upn (gL S) (gN S) t i)) ∧ upn (gK S) (gN S) (2 + w.2.length) i ≤ 86 ∧ (∀ j, j < upn (gK S) (gN S) (2 + w.2.length) i → upn (gR S) (gN S) (prf q.1 q.2 w.2) i j < 2097152 ∧ ∀ h, i ≤ h → h < 7 → pw (upn (gR S) (gN S) (prf q.1 q.2 w.2) i j) h = 0) ∧ (0 < upn (gK S) (gN S) (2 + w.2.length) i → ∃ h, h < i ∧ 0 < pw (upn (gR S) (gN S) (prf q.1 q.2 w.2) i 0) h)
              by_cases e : i = gN S
              · subst e
                simp only [upn_at]
                refine ⟨t1, hd1, ?_, ⟨?_, fun u hu hg => ?_⟩, ?_, prw, fun _ => hq.2.2.2⟩
                · funext j
                  show (if j < 84 then w.1 t * w.1 j else 0) = w.1 t * w.1 j
                  split
                  · rfl
                  · next c => rw [← wc]; unfold cu; rw [if_neg c, Int64.mul_zero]
                · rw [(e_all t t1).2.2]; exact hee
                · show w.1 t * w.1 u = 0
                  rw [t3 u hu hg, Int64.mul_zero]
                · simp only [List.length_nil] at wl; omega
              · simp only [upn_ne _ _ e]
                exact hg i (by have : i < gN S + 1 := hi; omega)
            · show upn (gL S) (gN S) t i = upn (gL S) (gN S) t j → i = j
              have hi' : i < gN S + 1 := hi
              have hj' : j < gN S + 1 := hj
              intro e
              by_cases c1 : i = gN S
              · by_cases c2 : j = gN S
                · omega
                · rw [c1, upn_at, upn_ne _ _ c2] at e
                  exact absurd e.symm (htne j (by omega))
              · by_cases c2 : j = gN S
                · rw [c2, upn_at, upn_ne _ _ c1] at e
                  exact absurd e (htne i (by omega))
                · rw [upn_ne _ _ c1, upn_ne _ _ c2] at e
                  exact hinj i j (by omega) (by omega) e
theorem relQ.up {gl gl' : Nat → Nat} {n m : Nat} {q : Nat × Nat} (h : relQ gl n q) (hm : n ≤ m) (h7 : m ≤ 7) (hg : ∀ i, i < n → gl' i = gl i) : relQ gl' m q := by
  obtain ⟨a, b, c, d⟩ := h
  have key : ∀ r, (∀ h, n ≤ h → h < 7 → pw r h = 0) → rdeg gl' r m = rdeg gl r n := by
    intro r hr
    have : ∀ k, n ≤ k → k ≤ 7 → rdeg gl' r k = rdeg gl r n := by
      intro k hk
      induction hk with
      | refl => intro _; exact rdeg_congr hg
      | step hk ih => intro h8; rw [rdeg, ih (by omega), hr _ hk (by omega), Nat.zero_mul, Nat.add_zero]
    exact this m hm h7
  refine ⟨a, ⟨?_, ?_⟩, fun h h1 h2 => c h (by omega) h2, ?_⟩
  · rw [key _ (fun h h1 h2 => (c h h1 h2).1)]; exact b.1
  · rw [key _ (fun h h1 h2 => (c h h1 h2).2)]; exact b.2
  · obtain ⟨h, h1, h2⟩ := d
    exact ⟨h, by omega, h2⟩
theorem rnd_ok {o : Nat} (ho : o < 3) : ∀ (L : List (Nat × Nat)) (S : GT), WG o S → (∀ q ∈ L, relQ (gL S) (gN S) q) → WG o (rnd o L S).2 ∧ gN S ≤ gN (rnd o L S).2
  | [], S, hW, _ => ⟨hW, Nat.le_refl _⟩
  | q :: L, S, hW, hL => by
    obtain ⟨a, b, c⟩ := stl_ok ho hW (hL q List.mem_cons_self)
    rw [rnd]
    cases hs : stl o S q with
    | mk e S' =>
      rw [hs] at a b c
      cases e with
      | some x => exact ⟨a, b⟩
      | none =>
        obtain ⟨d, f⟩ := rnd_ok ho L S' a (fun p hp => (hL p (List.mem_cons_of_mem _ hp)).up b a.1 c)
        exact ⟨d, Nat.le_trans b f⟩
