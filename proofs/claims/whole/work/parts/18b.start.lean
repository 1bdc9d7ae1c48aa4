/-! ===== the law: from the Statement's start ===== -/
def fl1 : List Cond := flatC (Cond.and given_1 narrow_1)
theorem fe_0 : ∀ k, k < 84 → fl1[7 + k]? = some (Cond.eq (.elem (.static "GrownAlgebra$Terms" "DEGREES" "[I") (.int (Int32.ofNat k))) (.int (tab0.getD k 0))) := by decide +kernel
theorem fs_0 {args : Array Value} {s : State} (h : (Cond.and given_1 narrow_1).before args s = true) (hts : ∀ w ∈ lw_tbl, w.before args s = true) : ∃ t : Nat, va_Z "GrownAlgebra$Terms" "DEGREES" "[I" (.ref t) (fun q => s.heap.size ≤ q) s s.heap ∧ va_T .int t 84 (fun k => .int (tab0.getD k 0)) (fun q => s.heap.size ≤ q) s s.heap := by
  have hf := flat_of_before _ h
  have hA : ∀ a : Nat, a < s.heap.size → ¬ s.heap.size ≤ a := fun a ha hb => Nat.lt_irrefl _ (Nat.lt_of_lt_of_le ha hb)
  obtain ⟨t, ht, hT⟩ := va_Tof (tm := .static "GrownAlgebra$Terms" "DEGREES" "[I") (ty := .int) (N := 84) (f := fun k => .int (tab0.getD k 0)) (A := fun q => s.heap.size ≤ q) (by decide) (hf _ (List.mem_of_getElem? (i := 5) (by decide +kernel))) (va_eqt (hf _ (List.mem_of_getElem? (i := 6) (by decide +kernel)))) (fun k hk => va_eqt (hf _ (List.mem_of_getElem? (fe_0 k hk)))) hA
  exact ⟨t, va_Zref (hts _ (List.mem_append_right _ (List.mem_of_getElem? (i := 38) (by decide +kernel)))) (hts _ (List.mem_append_right _ (List.mem_of_getElem? (i := 3) (by decide +kernel)))) ht hA, hT⟩
theorem fe_1 : ∀ k, k < 8 → fl1[94 + k]? = some (Cond.eq (.elem (.static "GrownAlgebra$Terms" "STARTS" "[I") (.int (Int32.ofNat k))) (.int (tab1.getD k 0))) := by decide +kernel
theorem fs_1 {args : Array Value} {s : State} (h : (Cond.and given_1 narrow_1).before args s = true) (hts : ∀ w ∈ lw_tbl, w.before args s = true) : ∃ t : Nat, va_Z "GrownAlgebra$Terms" "STARTS" "[I" (.ref t) (fun q => s.heap.size ≤ q) s s.heap ∧ va_T .int t 8 (fun k => .int (tab1.getD k 0)) (fun q => s.heap.size ≤ q) s s.heap := by
  have hf := flat_of_before _ h
  have hA : ∀ a : Nat, a < s.heap.size → ¬ s.heap.size ≤ a := fun a ha hb => Nat.lt_irrefl _ (Nat.lt_of_lt_of_le ha hb)
  obtain ⟨t, ht, hT⟩ := va_Tof (tm := .static "GrownAlgebra$Terms" "STARTS" "[I") (ty := .int) (N := 8) (f := fun k => .int (tab1.getD k 0)) (A := fun q => s.heap.size ≤ q) (by decide) (hf _ (List.mem_of_getElem? (i := 92) (by decide +kernel))) (va_eqt (hf _ (List.mem_of_getElem? (i := 93) (by decide +kernel)))) (fun k hk => va_eqt (hf _ (List.mem_of_getElem? (fe_1 k hk)))) hA
  exact ⟨t, va_Zref (hts _ (List.mem_append_right _ (List.mem_of_getElem? (i := 40) (by decide +kernel)))) (hts _ (List.mem_append_right _ (List.mem_of_getElem? (i := 3) (by decide +kernel)))) ht hA, hT⟩
theorem fe_2 : ∀ k, k < 7 → fl1[105 + k]? = some (Cond.eq (.elem (.static "GrownAlgebra$Terms" "TRIANGLES" "[I") (.int (Int32.ofNat k))) (.int (tab2.getD k 0))) := by decide +kernel
theorem fs_2 {args : Array Value} {s : State} (h : (Cond.and given_1 narrow_1).before args s = true) (hts : ∀ w ∈ lw_tbl, w.before args s = true) : ∃ t : Nat, va_Z "GrownAlgebra$Terms" "TRIANGLES" "[I" (.ref t) (fun q => s.heap.size ≤ q) s s.heap ∧ va_T .int t 7 (fun k => .int (tab2.getD k 0)) (fun q => s.heap.size ≤ q) s s.heap := by
  have hf := flat_of_before _ h
  have hA : ∀ a : Nat, a < s.heap.size → ¬ s.heap.size ≤ a := fun a ha hb => Nat.lt_irrefl _ (Nat.lt_of_lt_of_le ha hb)
  obtain ⟨t, ht, hT⟩ := va_Tof (tm := .static "GrownAlgebra$Terms" "TRIANGLES" "[I") (ty := .int) (N := 7) (f := fun k => .int (tab2.getD k 0)) (A := fun q => s.heap.size ≤ q) (by decide) (hf _ (List.mem_of_getElem? (i := 103) (by decide +kernel))) (va_eqt (hf _ (List.mem_of_getElem? (i := 104) (by decide +kernel)))) (fun k hk => va_eqt (hf _ (List.mem_of_getElem? (fe_2 k hk)))) hA
  exact ⟨t, va_Zref (hts _ (List.mem_append_right _ (List.mem_of_getElem? (i := 42) (by decide +kernel)))) (hts _ (List.mem_append_right _ (List.mem_of_getElem? (i := 3) (by decide +kernel)))) ht hA, hT⟩
theorem fe_3 : ∀ k, k < 84 → fl1[115 + k]? = some (Cond.eq (.elem (.static "GrownAlgebra$Terms" "X" "[I") (.int (Int32.ofNat k))) (.int (tab3.getD k 0))) := by decide +kernel
theorem fs_3 {args : Array Value} {s : State} (h : (Cond.and given_1 narrow_1).before args s = true) (hts : ∀ w ∈ lw_tbl, w.before args s = true) : ∃ t : Nat, va_Z "GrownAlgebra$Terms" "X" "[I" (.ref t) (fun q => s.heap.size ≤ q) s s.heap ∧ va_T .int t 84 (fun k => .int (tab3.getD k 0)) (fun q => s.heap.size ≤ q) s s.heap := by
  have hf := flat_of_before _ h
  have hA : ∀ a : Nat, a < s.heap.size → ¬ s.heap.size ≤ a := fun a ha hb => Nat.lt_irrefl _ (Nat.lt_of_lt_of_le ha hb)
  obtain ⟨t, ht, hT⟩ := va_Tof (tm := .static "GrownAlgebra$Terms" "X" "[I") (ty := .int) (N := 84) (f := fun k => .int (tab3.getD k 0)) (A := fun q => s.heap.size ≤ q) (by decide) (hf _ (List.mem_of_getElem? (i := 113) (by decide +kernel))) (va_eqt (hf _ (List.mem_of_getElem? (i := 114) (by decide +kernel)))) (fun k hk => va_eqt (hf _ (List.mem_of_getElem? (fe_3 k hk)))) hA
  exact ⟨t, va_Zref (hts _ (List.mem_append_right _ (List.mem_of_getElem? (i := 44) (by decide +kernel)))) (hts _ (List.mem_append_right _ (List.mem_of_getElem? (i := 3) (by decide +kernel)))) ht hA, hT⟩
theorem fe_4 : ∀ k, k < 84 → fl1[202 + k]? = some (Cond.eq (.elem (.static "GrownAlgebra$Terms" "Y" "[I") (.int (Int32.ofNat k))) (.int (tab4.getD k 0))) := by decide +kernel
theorem fs_4 {args : Array Value} {s : State} (h : (Cond.and given_1 narrow_1).before args s = true) (hts : ∀ w ∈ lw_tbl, w.before args s = true) : ∃ t : Nat, va_Z "GrownAlgebra$Terms" "Y" "[I" (.ref t) (fun q => s.heap.size ≤ q) s s.heap ∧ va_T .int t 84 (fun k => .int (tab4.getD k 0)) (fun q => s.heap.size ≤ q) s s.heap := by
  have hf := flat_of_before _ h
  have hA : ∀ a : Nat, a < s.heap.size → ¬ s.heap.size ≤ a := fun a ha hb => Nat.lt_irrefl _ (Nat.lt_of_lt_of_le ha hb)
  obtain ⟨t, ht, hT⟩ := va_Tof (tm := .static "GrownAlgebra$Terms" "Y" "[I") (ty := .int) (N := 84) (f := fun k => .int (tab4.getD k 0)) (A := fun q => s.heap.size ≤ q) (by decide) (hf _ (List.mem_of_getElem? (i := 200) (by decide +kernel))) (va_eqt (hf _ (List.mem_of_getElem? (i := 201) (by decide +kernel)))) (fun k hk => va_eqt (hf _ (List.mem_of_getElem? (fe_4 k hk)))) hA
  exact ⟨t, va_Zref (hts _ (List.mem_append_right _ (List.mem_of_getElem? (i := 46) (by decide +kernel)))) (hts _ (List.mem_append_right _ (List.mem_of_getElem? (i := 3) (by decide +kernel)))) ht hA, hT⟩
theorem fe_5 : ∀ k, k < 84 → fl1[289 + k]? = some (Cond.eq (.elem (.static "GrownAlgebra$Terms" "Z" "[I") (.int (Int32.ofNat k))) (.int (tab5.getD k 0))) := by decide +kernel
theorem fs_5 {args : Array Value} {s : State} (h : (Cond.and given_1 narrow_1).before args s = true) (hts : ∀ w ∈ lw_tbl, w.before args s = true) : ∃ t : Nat, va_Z "GrownAlgebra$Terms" "Z" "[I" (.ref t) (fun q => s.heap.size ≤ q) s s.heap ∧ va_T .int t 84 (fun k => .int (tab5.getD k 0)) (fun q => s.heap.size ≤ q) s s.heap := by
  have hf := flat_of_before _ h
  have hA : ∀ a : Nat, a < s.heap.size → ¬ s.heap.size ≤ a := fun a ha hb => Nat.lt_irrefl _ (Nat.lt_of_lt_of_le ha hb)
  obtain ⟨t, ht, hT⟩ := va_Tof (tm := .static "GrownAlgebra$Terms" "Z" "[I") (ty := .int) (N := 84) (f := fun k => .int (tab5.getD k 0)) (A := fun q => s.heap.size ≤ q) (by decide) (hf _ (List.mem_of_getElem? (i := 287) (by decide +kernel))) (va_eqt (hf _ (List.mem_of_getElem? (i := 288) (by decide +kernel)))) (fun k hk => va_eqt (hf _ (List.mem_of_getElem? (fe_5 k hk)))) hA
  exact ⟨t, va_Zref (hts _ (List.mem_append_right _ (List.mem_of_getElem? (i := 48) (by decide +kernel)))) (hts _ (List.mem_append_right _ (List.mem_of_getElem? (i := 3) (by decide +kernel)))) ht hA, hT⟩
theorem fe_6 : ∀ k, k < 18 → fl1[376 + k]? = some (Cond.eq (.elem (.static "GrownAlgebra$Terms" "TURN_SOURCES" "[I") (.int (Int32.ofNat k))) (.int (tab6.getD k 0))) := by decide +kernel
theorem fs_6 {args : Array Value} {s : State} (h : (Cond.and given_1 narrow_1).before args s = true) (hts : ∀ w ∈ lw_tbl, w.before args s = true) : ∃ t : Nat, va_Z "GrownAlgebra$Terms" "TURN_SOURCES" "[I" (.ref t) (fun q => s.heap.size ≤ q) s s.heap ∧ va_T .int t 18 (fun k => .int (tab6.getD k 0)) (fun q => s.heap.size ≤ q) s s.heap := by
  have hf := flat_of_before _ h
  have hA : ∀ a : Nat, a < s.heap.size → ¬ s.heap.size ≤ a := fun a ha hb => Nat.lt_irrefl _ (Nat.lt_of_lt_of_le ha hb)
  obtain ⟨t, ht, hT⟩ := va_Tof (tm := .static "GrownAlgebra$Terms" "TURN_SOURCES" "[I") (ty := .int) (N := 18) (f := fun k => .int (tab6.getD k 0)) (A := fun q => s.heap.size ≤ q) (by decide) (hf _ (List.mem_of_getElem? (i := 374) (by decide +kernel))) (va_eqt (hf _ (List.mem_of_getElem? (i := 375) (by decide +kernel)))) (fun k hk => va_eqt (hf _ (List.mem_of_getElem? (fe_6 k hk)))) hA
  exact ⟨t, va_Zref (hts _ (List.mem_append_right _ (List.mem_of_getElem? (i := 459) (by decide +kernel)))) (hts _ (List.mem_append_right _ (List.mem_of_getElem? (i := 3) (by decide +kernel)))) ht hA, hT⟩
theorem fe_7 : ∀ k, k < 6 → fl1[397 + k]? = some (Cond.eq (.elem (.static "GrownAlgebra" "FAMILY_SIZES" "[I") (.int (Int32.ofNat k))) (.int (tab7.getD k 0))) := by decide +kernel
theorem fs_7 {args : Array Value} {s : State} (h : (Cond.and given_1 narrow_1).before args s = true) (hts : ∀ w ∈ lw_tbl, w.before args s = true) : ∃ t : Nat, va_Z "GrownAlgebra" "FAMILY_SIZES" "[I" (.ref t) (fun q => s.heap.size ≤ q) s s.heap ∧ va_T .int t 6 (fun k => .int (tab7.getD k 0)) (fun q => s.heap.size ≤ q) s s.heap := by
  have hf := flat_of_before _ h
  have hA : ∀ a : Nat, a < s.heap.size → ¬ s.heap.size ≤ a := fun a ha hb => Nat.lt_irrefl _ (Nat.lt_of_lt_of_le ha hb)
  obtain ⟨t, ht, hT⟩ := va_Tof (tm := .static "GrownAlgebra" "FAMILY_SIZES" "[I") (ty := .int) (N := 6) (f := fun k => .int (tab7.getD k 0)) (A := fun q => s.heap.size ≤ q) (by decide) (hf _ (List.mem_of_getElem? (i := 395) (by decide +kernel))) (va_eqt (hf _ (List.mem_of_getElem? (i := 396) (by decide +kernel)))) (fun k hk => va_eqt (hf _ (List.mem_of_getElem? (fe_7 k hk)))) hA
  exact ⟨t, va_Zref (hts _ (List.mem_append_right _ (List.mem_of_getElem? (i := 550) (by decide +kernel)))) (hts _ (List.mem_append_right _ (List.mem_of_getElem? (i := 1) (by decide +kernel)))) ht hA, hT⟩
theorem fe_8 : ∀ k, k < 240 → fl1[406 + k]? = some (Cond.eq (.elem (.static "GrownAlgebra" "FAMILY_TERMS" "[I") (.int (Int32.ofNat k))) (.int (tab8.getD k 0))) := by decide +kernel
theorem fs_8 {args : Array Value} {s : State} (h : (Cond.and given_1 narrow_1).before args s = true) (hts : ∀ w ∈ lw_tbl, w.before args s = true) : ∃ t : Nat, va_Z "GrownAlgebra" "FAMILY_TERMS" "[I" (.ref t) (fun q => s.heap.size ≤ q) s s.heap ∧ va_T .int t 240 (fun k => .int (tab8.getD k 0)) (fun q => s.heap.size ≤ q) s s.heap := by
  have hf := flat_of_before _ h
  have hA : ∀ a : Nat, a < s.heap.size → ¬ s.heap.size ≤ a := fun a ha hb => Nat.lt_irrefl _ (Nat.lt_of_lt_of_le ha hb)
  obtain ⟨t, ht, hT⟩ := va_Tof (tm := .static "GrownAlgebra" "FAMILY_TERMS" "[I") (ty := .int) (N := 240) (f := fun k => .int (tab8.getD k 0)) (A := fun q => s.heap.size ≤ q) (by decide) (hf _ (List.mem_of_getElem? (i := 404) (by decide +kernel))) (va_eqt (hf _ (List.mem_of_getElem? (i := 405) (by decide +kernel)))) (fun k hk => va_eqt (hf _ (List.mem_of_getElem? (fe_8 k hk)))) hA
  exact ⟨t, va_Zref (hts _ (List.mem_append_right _ (List.mem_of_getElem? (i := 552) (by decide +kernel)))) (hts _ (List.mem_append_right _ (List.mem_of_getElem? (i := 1) (by decide +kernel)))) ht hA, hT⟩
theorem CIn : ∀ (ci : Nat) (C : String) (T : u_T) (N : Nat), Cls[ci]? = some (C, T, N) → Cond.instantiable C N ∈ gw_tbl
  | 0, C, T, N, h => by cases h; exact q_Gen.1
  | 1, C, T, N, h => by cases h; exact q_Kept.1
  | 2, C, T, N, h => by cases h; exact q_Lat.1
  | 3, C, T, N, h => by cases h; exact q_Link.1
  | 4, C, T, N, h => by cases h; exact q_Poly.1
  | 5, C, T, N, h => by cases h; exact q_Rank.1
  | 6, C, T, N, h => by cases h; exact q_Rel.1
  | 7, C, T, N, h => by cases h; exact q_Tab.1
  | 8, C, T, N, h => by cases h; exact q_Sheet.1
  | 9, C, T, N, h => by cases h; exact q_Steps.1
  | 10, C, T, N, h => by cases h; exact q_Alg.1
  | 11, C, T, N, h => by cases h; exact q_Mod.1
  | n + 12, C, T, N, h => by cases h
theorem nest_tab : ∀ w ∈ nestW, w.onTables = true := by decide +kernel
def R_law : String := "GrownAlgebraLaw"
def lw_Q (_ : Array Value) (s : State) (o : Outcome) (t : State) : Prop := o = .returned (some (.int 1)) ∧ Framed s o t [] 600000 7302250
def lw_Z (below : List Frame) (a : Array Value) (s : State) : State → Prop := fun t => ∃ o, t.status = .running ∧ Ended t below o ∧ lw_Q a s o t
def lw_At (p : Program) (s : State) (m : MethodId) (meth : Method) (c : Code) (b L : Nat) (xs : Nat → Int32) : Prop :=
  p.tables.exec = Jvm.exec ∧ c.code = code ∧ meth.sig.returnType = ret ∧ c.maxLocals = 4 ∧ s.vm.findClass R_law = some m.cls ∧ (∀ w ∈ lw_tbl, w.before #[Value.ref b] s = true) ∧ va_X b L xs s s.heap ∧ b < s.heap.size ∧ meth.locks = false ∧ (Jvm.Cond.and given_1 narrow_1).before #[Value.ref b] s = true
theorem whole_start (hcg : CGL) {p : Program} {e : Env} {s : State} {m : MethodId} {below : List Frame} {meth : Method} {c : Code} (l : Launch) (hflags : l.flags = flags0) {b L : Nat} {xs : Nat → Int32} (hL : L ≤ 3072) (hnm : meth.name = "law") (C0 : lw_At p s m meth c b L xs) : W p l e room_1 s m #[Value.ref b] below meth c s.heap [] 0 0 (lw_Z below #[Value.ref b] s) (entryFrame m ([Value.ref b] : List Value).toArray 4) := by
  obtain ⟨hx, hb, hr, hml, hown, hts, hX, hbl, hlk, hgv⟩ := C0
  have hg : ∀ w ∈ gw_tbl, w.before #[Value.ref b] s = true := fun w hw => hts w (gw_good w hw).1
  have hD : ∀ ci : Nat, ∃ q : ClassId × (Nat → Nat), ∀ r : vw_C, Cls[ci]? = some r → u_Kn s r.1 r.2.1 r.2.2 q.1 q.2 := by
    intro ci
    cases hc : Cls[ci]? with
    | none => exact ⟨(0, fun _ => 0), fun r hr => by cases hr⟩
    | some r =>
      obtain ⟨C, T, N⟩ := r
      obtain ⟨cC, iS, hk⟩ := u_known hg (CF ci C T N hc).1 (hg _ (CIn ci C T N hc))
      exact ⟨(cC, iS), fun r hr => by cases hr; exact hk⟩
  obtain ⟨t0, z0, x0⟩ := fs_0 hgv hts
  obtain ⟨t1, z1, x1⟩ := fs_1 hgv hts
  obtain ⟨t2, z2, x2⟩ := fs_2 hgv hts
  obtain ⟨t3, z3, x3⟩ := fs_3 hgv hts
  obtain ⟨t4, z4, x4⟩ := fs_4 hgv hts
  obtain ⟨t5, z5, x5⟩ := fs_5 hgv hts
  obtain ⟨t6, z6, x6⟩ := fs_6 hgv hts
  obtain ⟨t7, z7, x7⟩ := fs_7 hgv hts
  obtain ⟨t8, z8, x8⟩ := fs_8 hgv hts
  let V : GV := (l, (fun ci => (Classical.choose (hD ci)).1, fun ci => (Classical.choose (hD ci)).2), s.heap.size, fun j => [t0, t1, t2, t3, t4, t5, t6, t7, t8].getD j 0, b, L, xs)
  have hK : va_K V.2.1 Cls [] s := ⟨fun ci q hq => Classical.choose_spec (hD ci) q hq, fun k q hq => by simp at hq⟩
  have hS1 : ∀ (j : Nat) (q : String × String), statT[j]? = some q → va_Z q.1 q.2 "[I" (.ref (v_ad V j)) (AV V) s s.heap := by
    intro j q hq
    match j, hq with
    | 0, hq => cases hq; exact z0
    | 1, hq => cases hq; exact z1
    | 2, hq => cases hq; exact z2
    | 3, hq => cases hq; exact z3
    | 4, hq => cases hq; exact z4
    | 5, hq => cases hq; exact z5
    | 6, hq => cases hq; exact z6
    | 7, hq => cases hq; exact z7
    | 8, hq => cases hq; exact z8
    | j + 9, hq => cases hq
  have hS2 : ∀ (j : Nat) (t : List Int32), tabL[j]? = some t → va_T .int (v_ad V j) t.length (fun k => .int (t.getD k 0)) (AV V) s s.heap := by
    intro j t ht
    match j, ht with
    | 0, hq => cases hq; exact x0
    | 1, hq => cases hq; exact x1
    | 2, hq => cases hq; exact x2
    | 3, hq => cases hq; exact x3
    | 4, hq => cases hq; exact x4
    | 5, hq => cases hq; exact x5
    | 6, hq => cases hq; exact x6
    | 7, hq => cases hq; exact x7
    | 8, hq => cases hq; exact x8
    | j + 9, hq => cases hq
  have hS3 : va_T .int (v_sb V) (v_sn V) (fun k => .int (v_sx V k)) (AV V) s s.heap := by
    obtain ⟨scr, h1, h2, h3, h4, h5⟩ := hX
    exact ⟨scr, h1, h2, h3, Nat.le_of_eq h4.symm, by rw [h4], h5, Nat.not_le.mpr hbl⟩
  have hA4 : (Cond.arrayOver (.array .long)).before #[Value.ref b] s = true := hts _ (List.mem_append_right _ (List.mem_of_getElem? (i := 181) (by decide +kernel)))
  have hN : NW s := ⟨fun w hw => va_Nw.of (nest_tab w hw) (hts w (List.mem_append_right _ (nestW_in w hw))), va_AO.of (hts _ (List.mem_append_right _ (List.mem_of_getElem? (i := 26) (by decide +kernel)))), va_AO.of (hts _ (List.mem_append_right _ (List.mem_of_getElem? (i := 190) (by decide +kernel)))), va_AO.of (hts _ (List.mem_append_right _ (List.mem_of_getElem? (i := 192) (by decide +kernel)))), hA4⟩
  obtain ⟨r, X', FI', AI', AL', ⟨h1, h2, h3⟩, -, -, hw⟩ := s_law (V := V) (d := 0) (X := (fun _ => none, fun _ _ => none, fun _ _ => none, s.heap.size, 0, 0)) hcg hL
  subst h1
  have h2 : x_nc X' ≤ 0 + 355 := h2
  have h3 : x_ns X' ≤ 0 + 40000 := h3
  rw [lg_entry_eq]
  have hR : Rel V s (fun _ => none, fun _ _ => none, fun _ _ => none, s.heap.size, 0, 0) zI0 zI0 zL0 s.heap := ⟨rfl, fun a t n h => (by cases h), fun a t n h => (by cases h), fun a ci n h => (by cases h)⟩
  have hrun := hw p e room_1 s m #[Value.ref b] below meth c s.heap [] 0 0 0 0 _ ⟨hx, hb, hr, hml, hown, hlk, hnm, hg, by decide, by decide, hK, ⟨hS1, hS2, hS3⟩, hN, Nat.le_refl _⟩ hR va_S.rf (by
    have h1 := lv_entry [Value.ref b] (n := 4) (show 1 ≤ 4 by decide)
    exact h1) rfl rfl (by show x_nc X' ≤ 0 + 600000; omega) (by show x_ns X' ≤ 0 + 7302250; omega)
  intro T hT X
  obtain ⟨t, a1, o, b1, b2, ⟨rfl, -, -⟩, Lc, hF, hfree⟩ := hrun T hT X
  refine ⟨t, a1, _, b1, b2, rfl, ⟨_, rfl⟩, hF.2.1, hF.2.2.weaken (fun x hx hlt => absurd hlt (Nat.not_lt.mpr (hfree x hx))) ?_ ?_⟩
  · omega
  · omega
