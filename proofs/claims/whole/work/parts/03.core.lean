/-! ===== the machine seen from one heap: shapes, fields, arrays as functions; a judgement G over them ===== -/
/-- shape of each address (tag, size), reference fields, reference arrays, heap size, cells and slots made -/
abbrev XT : Type := (Nat → Option (Nat × Nat)) × (Nat → Nat → Option Nat) × (Nat → Nat → Option Nat) × Nat × Nat × Nat
abbrev FT : Type := Nat → Nat → Int32
abbrev LT : Type := Nat → Nat → Int64
abbrev x_sh (X : XT) : Nat → Option (Nat × Nat) := X.1
abbrev x_FR (X : XT) : Nat → Nat → Option Nat := X.2.1
abbrev x_AR (X : XT) : Nat → Nat → Option Nat := X.2.2.1
abbrev x_sz (X : XT) : Nat := X.2.2.2.1
abbrev x_nc (X : XT) : Nat := X.2.2.2.2.1
abbrev x_ns (X : XT) : Nat := X.2.2.2.2.2
/-- launch, class ids and slots, the first address of ours, addresses of static arrays, the script: address, length, content -/
abbrev GV : Type := Launch × va_G × Nat × (Nat → Nat) × Nat × Nat × (Nat → Int32)
abbrev v_lo (V : GV) : Nat := V.2.2.1
abbrev v_ad (V : GV) : Nat → Nat := V.2.2.2.1
abbrev v_sb (V : GV) : Nat := V.2.2.2.2.1
abbrev v_sn (V : GV) : Nat := V.2.2.2.2.2.1
abbrev v_sx (V : GV) : Nat → Int32 := V.2.2.2.2.2.2
def AV (V : GV) : Nat → Prop := fun q => v_lo V ≤ q
def tagTy (t : Nat) : FieldType := match t with
  | 0 => .int
  | 1 => .long
  | 2 => .boolean
  | 3 => .object "GrownAlgebra$Poly"
  | 4 => .object "GrownAlgebra$Sheet"
  | 5 => .object "GrownAlgebra$Link"
  | _ => .array .long
def cont (X : XT) (AI : FT) (AL : LT) (a t n : Nat) : vp_A := match t with
  | 0 => (n, .inl (AI a))
  | 1 => (n, .inr (.inl (AL a)))
  | 2 => (n, .inl (AI a))
  | _ => (n, .inr (.inr (.inr (.inr (x_AR X a)))))
def fval (X : XT) (FI : FT) (ci a k : Nat) : Value := if isR ci k = true then va_rf (x_FR X a k) else .int (FI a k)
def cokA (s : State) (X : XT) (AI : FT) (AL : LT) (H : Heap) (a t n : Nat) : Prop := ∃ cA : ClassId, ArrOfT s cA (tagTy t) ∧ va_RA s cA (tagTy t) ∧ H[a]? = some (vp_cell cA (cont X AI AL a t n))
def cokO (D : va_G) (X : XT) (FI : FT) (H : Heap) (a ci n : Nat) : Prop := ∃ r : vw_C, Cls[ci]? = some r ∧ r.2.2 = n ∧ t_OB a (D.1 ci) n (D.2 ci) H (fval X FI ci a)
def Rel (V : GV) (s : State) (X : XT) (FI AI : FT) (AL : LT) (H : Heap) : Prop :=
  H.size = x_sz X ∧ (∀ a t n, x_sh X a = some (t, n) → v_lo V ≤ a ∧ a < x_sz X) ∧ (∀ a t n, x_sh X a = some (t, n) → t < 10 → cokA s X AI AL H a t n) ∧ ∀ a ci n, x_sh X a = some (ci + 10, n) → cokO V.2.1 X FI H a ci n
def AOA (U : State) : Prop := (Cond.arrayOver (.array .long)).before #[] U = true
def Sta (V : GV) (U : State) : Prop :=
  (∀ (j : Nat) (q : String × String), statT[j]? = some q → va_Z q.1 q.2 "[I" (.ref (v_ad V j)) (AV V) U U.heap) ∧ (∀ (j : Nat) (l : List Int32), tabL[j]? = some l → va_T .int (v_ad V j) l.length (fun k => .int (l.getD k 0)) (AV V) U U.heap) ∧
  va_T .int (v_sb V) (v_sn V) (fun k => .int (v_sx V k)) (AV V) U U.heap
def NW (U : State) : Prop := (∀ w ∈ nestW, va_Nw w U) ∧ va_AO "GrownAlgebra$Poly" U ∧ va_AO "GrownAlgebra$Sheet" U ∧ va_AO "GrownAlgebra$Link" U ∧ AOA U
def Sta2 (V : GV) (U : State) : Prop := va_K V.2.1 Cls [] U ∧ Sta V U ∧ NW U ∧ v_lo V ≤ U.heap.size
def Cx (V : GV) (M : MT) (d : Nat) (p : Program) (R : Room) (s : State) (m : MethodId) (args : Array Value) (meth : Method) (c : Code) : Prop :=
  p.tables.exec = Jvm.exec ∧ c.code = M.2.1 ∧ meth.sig.returnType = M.2.2.2 ∧ c.maxLocals = M.2.2.1 ∧ s.vm.findClass M.1.cls = some m.cls ∧ meth.locks = false ∧ meth.name = M.1.name ∧ (∀ w ∈ gw_tbl, w.before args s = true) ∧ d ≤ R.frames ∧ 41 * d ≤ R.locals ∧ Sta2 V s
/-- locals: a list of what is known in each place -/
def prs : Nat → List (Option Value) → List (Nat × Value)
  | _, [] => []
  | i, none :: l => prs (i + 1) l
  | i, some v :: l => (i, v) :: prs (i + 1) l
def LR (arr : Array Slot) (n : Nat) (ls : List (Option Value)) : Prop := lv_has arr n (prs 0 ls)
def Qz (V : GV) (r : Option Value) (X : XT) (FI AI : FT) (AL : LT) : Array Value → State → Outcome → State → Prop := fun _ s0 o t => o = .returned r ∧ Rel V t X FI AI AL t.heap ∧ va_F (AV V) s0 t
def GW (V : GV) (M : MT) (d pc : Nat) (ls : List (Option Value)) (st : List Value) (X : XT) (FI AI : FT) (AL : LT) (r : Option Value) (X' : XT) (FI' AI' : FT) (AL' : LT) : Prop :=
  ∀ (p : Program) (e : Env) (R : Room) (s : State) (m : MethodId) (args : Array Value) (below : List Frame) (meth : Method) (c : Code) (H : Heap) (locs : List Loc) (n0 k0 cells slots : Nat) (arr : Array Slot),
    Cx V M d p R s m args meth c → Rel V s X FI AI AL H → va_S (AV V) s.heap H locs → LR arr M.2.2.1 ls → n0 + cells = x_nc X → k0 + slots = x_ns X → x_nc X' ≤ n0 + R.cells → x_ns X' ≤ k0 + R.slots →
    W p V.1 e R s m args below meth c H locs cells slots (MQ below (Qz V r X' FI' AI' AL') args s (x_nc X' - n0) (x_ns X' - k0) (AV V)) (F0 m pc arr st)
abbrev PT : Type := Option Value → XT → FT → FT → LT → Prop
/-- from here the method returns, and what it returns and leaves is as P says -/
def G (V : GV) (M : MT) (d pc : Nat) (ls : List (Option Value)) (st : List Value) (X : XT) (FI AI : FT) (AL : LT) (P : PT) : Prop :=
  ∃ (r : Option Value) (X' : XT) (FI' AI' : FT) (AL' : LT), P r X' FI' AI' AL' ∧ x_nc X ≤ x_nc X' ∧ x_ns X ≤ x_ns X' ∧ GW V M d pc ls st X FI AI AL r X' FI' AI' AL'
def u2 {α : Type} (F : Nat → Nat → α) (a i : Nat) (x : α) : Nat → Nat → α := fun b j => if b = a then (if j = i then x else F b j) else F b j
/-- an index: it is k, and k is within -/
def ix (i : Int32) (n k : Nat) : Prop := i = nI k ∧ k < n ∧ n < 2147483648
def pu (r : Option Value) (l : List Value) : List Value := match r with
  | some v => v :: l
  | none => l
theorem ix_nI {n k : Nat} (h : k < n) (hn : n < 2147483648) : ix (nI k) n k := ⟨rfl, h, hn⟩
theorem ix_in {i : Int32} {n k : Nat} (h : ix i n k) : vp_in i n := by
  rw [h.1]; exact vp_in_nI h.2.1 h.2.2
theorem ix_cl {i : Int32} {n k : Nat} (h : ix i n k) : i.toNatClampNeg = k := by
  rw [h.1]; exact nI_clamp (Nat.lt_trans h.2.1 h.2.2)
theorem pu_eq (r : Option Value) (l : List Value) : r.toList ++ l = pu r l := by cases r <;> rfl
theorem u2_row {α : Type} (F : Nat → Nat → α) (a i : Nat) (x : α) : u2 F a i x a = fun j => if j = i then x else F a j := by
  funext j; simp [u2]
theorem u2_off {α : Type} (F : Nat → Nat → α) {a b : Nat} (i : Nat) (x : α) (h : b ≠ a) : u2 F a i x b = F b := by
  funext j; simp [u2, h]
theorem prs_mem : ∀ (ls : List (Option Value)) (i : Nat) (q : Nat × Value), q ∈ prs i ls ↔ i ≤ q.1 ∧ ls[q.1 - i]? = some (some q.2)
  | [], i, q => by simp [prs]
  | none :: l, i, q => by
    rw [prs, prs_mem l (i + 1) q]
    constructor
    · rintro ⟨h1, h2⟩
      refine ⟨by omega, ?_⟩
      rw [show q.1 - i = (q.1 - (i + 1)) + 1 by omega, List.getElem?_cons_succ]; exact h2
    · rintro ⟨h1, h2⟩
      by_cases e : q.1 = i
      · rw [e, Nat.sub_self] at h2; simp at h2
      · refine ⟨by omega, ?_⟩
        rw [show q.1 - i = (q.1 - (i + 1)) + 1 by omega, List.getElem?_cons_succ] at h2; exact h2
  | some v :: l, i, q => by
    rw [prs, List.mem_cons, prs_mem l (i + 1) q]
    constructor
    · rintro (rfl | ⟨h1, h2⟩)
      · simp
      · refine ⟨by omega, ?_⟩
        rw [show q.1 - i = (q.1 - (i + 1)) + 1 by omega, List.getElem?_cons_succ]; exact h2
    · rintro ⟨h1, h2⟩
      by_cases e : q.1 = i
      · rw [e, Nat.sub_self] at h2
        simp at h2
        left
        exact Prod.ext e h2.symm
      · right
        refine ⟨by omega, ?_⟩
        rw [show q.1 - i = (q.1 - (i + 1)) + 1 by omega, List.getElem?_cons_succ] at h2; exact h2
theorem LR.get {arr : Array Slot} {n : Nat} {ls : List (Option Value)} (h : LR arr n ls) {i : Nat} {v : Value} (hi : ls[i]? = some (some v)) : arr[i]? = some (.val v) :=
  h.2.2 (i, v) ((prs_mem ls 0 (i, v)).mpr ⟨Nat.zero_le _, by simpa using hi⟩)
def ncat : Option Value → Bool
  | some (.long _) => false
  | some (.double _) => false
  | _ => true
theorem ncat_of {v : Value} (h : ncat (some v) = true) : ¬ v.category = 2 := by
  cases v <;> simp_all [ncat, Value.category]
theorem LR.st1 {arr' : Array Slot} {n i : Nat} {ls : List (Option Value)} {v : Value} (h' : lv_has arr' n ((i, v) :: (prs 0 ls).filter (fun q => !(q.1 == i) && !(q.1 + 1 == i && q.2.category == 2)))) (hp : ∀ o, 0 < i → ls[i - 1]? = some o → ncat o = true) : LR arr' n (ls.set i (some v)) := by
  refine ⟨h'.1, h'.2.1, fun q hq => h'.2.2 q ?_⟩
  obtain ⟨-, hq⟩ := (prs_mem _ 0 q).mp hq
  rw [Nat.sub_zero, List.getElem?_set] at hq
  split at hq
  next e =>
    split at hq
    · have h3 : v = q.2 := by simpa using hq
      exact List.mem_cons.mpr (Or.inl (Prod.ext e.symm h3.symm))
    · cases hq
  next e =>
    refine List.mem_cons_of_mem _ (List.mem_filter.mpr ⟨(prs_mem _ 0 q).mpr ⟨Nat.zero_le _, by simpa using hq⟩, ?_⟩)
    simp only [Bool.and_eq_true, Bool.not_eq_true', beq_eq_false_iff_ne, ne_eq, Bool.and_eq_false_iff]
    refine ⟨fun z => e z.symm, ?_⟩
    by_cases z : q.1 + 1 = i
    · right
      have := hp (some q.2) (by omega) (by rw [show i - 1 = q.1 by omega]; exact hq)
      exact fun y => ncat_of this y
    · left; exact z

theorem cokA.moved {u U : State} (hvm : u.vm.Alike U.vm) {X : XT} {AI : FT} {AL : LT} {H : Heap} {a t n : Nat} (h : cokA u X AI AL H a t n) : cokA U X AI AL H a t n := by
  obtain ⟨cA, h1, h2, h3⟩ := h
  exact ⟨cA, arrOfT_moved hvm h1, h2.moved hvm, h3⟩
theorem Rel.moved {V : GV} {u U : State} (hvm : u.vm.Alike U.vm) {X : XT} {FI AI : FT} {AL : LT} {H : Heap} (h : Rel V u X FI AI AL H) : Rel V U X FI AI AL H :=
  ⟨h.1, h.2.1, fun a t n h1 h2 => (h.2.2.1 a t n h1 h2).moved hvm, h.2.2.2⟩
theorem AOA.moved {u U : State} (hvm : u.vm.Alike U.vm) (h : AOA u) : AOA U := by
  unfold AOA Cond.before Cond.holds at h ⊢
  simp only [Cond.value, beq_iff_eq, Option.bind_eq_some_iff, Option.map_eq_some_iff] at h ⊢
  obtain ⟨comp, hc, c, hi, k, hk, hb⟩ := h
  have hi1 : (u.vm.classes.findIdx? fun (x : Class) => match x.kind with | .array component _ => component == comp | _ => false) = some c := hi
  have hi2 : (U.vm.classes.findIdx? fun (x : Class) => match x.kind with | .array component _ => component == comp | _ => false) = some c := by
    have e : U.vm.bare = u.vm.bare := by first | exact hvm.bare_eq | exact hvm.bare_eq.symm
    have h3 := va_idx_bare U.vm comp
    rw [e] at h3
    exact h3.symm.trans ((va_idx_bare u.vm comp).trans hi1)
  obtain ⟨k', hk', he⟩ := hvm.2.2 _ _ hk
  have hkk : k'.kind = k.kind := by rw [he]
  have f2 : U.vm.findClass ("[" ++ (FieldType.array .long).toString) = u.vm.findClass ("[" ++ (FieldType.array .long).toString) := by rw [hvm.findClass]
  refine ⟨comp, by rw [hvm.findClass]; exact hc, c, hi2, k', hk', ?_⟩
  simp only [hkk, f2]
  exact hb
theorem Sta.move {V : GV} {u U : State} (hvm : u.vm.Alike U.vm) (hk : ∀ a : Nat, a < u.heap.size → ¬ AV V a → U.heap[a]? = u.heap[a]?) (h : Sta V u) : Sta V U :=
  ⟨fun j q hq => ((h.1 j q hq).moved hvm).kept hk, fun j l hl => ((h.2.1 j l hl).moved hvm).kept hk, (h.2.2.moved hvm).kept hk⟩
theorem NW.warm {s U : State} (hW : s.WarmedH U.vm) (h : NW s) : NW U := by
  refine ⟨fun w hw => ?_, h.2.1.moved hW.alike, h.2.2.1.moved hW.alike, h.2.2.2.1.moved hW.alike, h.2.2.2.2.moved hW.alike⟩
  have h1 := h.1 w hw
  have hn : ∃ a i x q, w = Cond.methodLinkNest a i x q := by
    have : nestW.all (fun w => match w with | .methodLinkNest _ _ _ _ => true | _ => false) = true := by decide +kernel
    have h2 := List.all_eq_true.mp this w hw
    cases w <;> simp at h2
    exact ⟨_, _, _, _, rfl⟩
  obtain ⟨a, i, x, q, rfl⟩ := hn
  exact h1.warmM hW
theorem NW.same {u U : State} (hv : u.vm = U.vm) (h : NW u) : NW U := NW.warm (by rw [← hv]; exact State.WarmedH.refl u) h
theorem Sta2.warm {V : GV} {s U : State} {H : Heap} {locs : List Loc} (hW : s.WarmedH U.vm) (hU : U.heap = H) (hS : va_S (AV V) s.heap H locs) (h : Sta2 V s) : Sta2 V U :=
  ⟨h.1.moved hW.alike, h.2.1.move hW.alike (fun a h1 h2 => by rw [hU]; exact hS.2.1 a h1 h2), h.2.2.1.warm hW, by rw [hU]; exact Nat.le_trans h.2.2.2 hS.1⟩
theorem Sta2.same {V : GV} {u U : State} (hv : u.vm = U.vm) (hh : U.heap = u.heap) (h : Sta2 V u) : Sta2 V U :=
  ⟨h.1.moved (by rw [← hv]; exact Vm.Alike.refl _), h.2.1.move (by rw [← hv]; exact Vm.Alike.refl _) (fun a _ _ => by rw [hh]), h.2.2.1.same hv, by rw [hh]; exact h.2.2.2⟩
/-- what holds as a method begins -/
def Strt (V : GV) (X : XT) (FI AI : FT) (AL : LT) (U : State) : Prop := Rel V U X FI AI AL U.heap ∧ Sta2 V U
theorem Strt.blind {V : GV} {X : XT} {FI AI : FT} {AL : LT} (vs : List Value) : FrameBlind (va_Pc vs (Strt V X FI AI AL)) := by
  intro a U g mk h
  exact ⟨h.1, h.2.1.moved (u := U) (U := U.calling g mk a) (Vm.Alike.refl U.vm), h.2.2.same (u := U) (U := U.calling g mk a) rfl rfl⟩
theorem G.conseq {V : GV} {M : MT} {d pc : Nat} {ls : List (Option Value)} {st : List Value} {X : XT} {FI AI : FT} {AL : LT} {P P' : PT} (h : G V M d pc ls st X FI AI AL P) (k : ∀ r X' FI' AI' AL', P r X' FI' AI' AL' → P' r X' FI' AI' AL') : G V M d pc ls st X FI AI AL P' := by
  obtain ⟨r, X', FI', AI', AL', h1, h2⟩ := h
  exact ⟨r, X', FI', AI', AL', k _ _ _ _ _ h1, h2⟩
theorem G.step {V : GV} {M : MT} {d pc pc' : Nat} {ls ls' : List (Option Value)} {st st' : List Value} {X X1 : XT} {FI AI FI1 AI1 : FT} {AL AL1 : LT} {P : PT}
    (hc : x_nc X ≤ x_nc X1) (hs : x_ns X ≤ x_ns X1) (h : ∀ r X' FI' AI' AL', x_nc X1 ≤ x_nc X' → x_ns X1 ≤ x_ns X' → GW V M d pc' ls' st' X1 FI1 AI1 AL1 r X' FI' AI' AL' → GW V M d pc ls st X FI AI AL r X' FI' AI' AL')
    (k : G V M d pc' ls' st' X1 FI1 AI1 AL1 P) : G V M d pc ls st X FI AI AL P := by
  obtain ⟨r, X', FI', AI', AL', h1, h2, h3, h4⟩ := k
  exact ⟨r, X', FI', AI', AL', h1, Nat.le_trans hc h2, Nat.le_trans hs h3, h _ _ _ _ _ h2 h3 h4⟩
theorem G.step0 {V : GV} {M : MT} {d pc pc' : Nat} {ls ls' : List (Option Value)} {st st' : List Value} {X : XT} {FI AI : FT} {AL : LT} {P : PT}
    (h : ∀ r X' FI' AI' AL', GW V M d pc' ls' st' X FI AI AL r X' FI' AI' AL' → GW V M d pc ls st X FI AI AL r X' FI' AI' AL')
    (k : G V M d pc' ls' st' X FI AI AL P) : G V M d pc ls st X FI AI AL P := G.step (Nat.le_refl _) (Nat.le_refl _) (fun r X' FI' AI' AL' _ _ h1 => h r X' FI' AI' AL' h1) k
theorem LR.at {arr : Array Slot} {n i : Nat} {ls : List (Option Value)} (hL : LR arr n ls) : lv_has arr n (prs 0 ls) := hL
theorem LR.st2 {arr' : Array Slot} {n i : Nat} {ls : List (Option Value)} {v : Value} (h' : lv_has arr' n ((i, v) :: (prs 0 ls).filter (fun q => !(q.1 == i) && (!(q.1 == i + 1) && !(q.1 + 1 == i && q.2.category == 2))))) (hp : ∀ o, 0 < i → ls[i - 1]? = some o → ncat o = true) : LR arr' n ((ls.set i (some v)).set (i + 1) none) := by
  refine ⟨h'.1, h'.2.1, fun q hq => h'.2.2 q ?_⟩
  obtain ⟨-, hq⟩ := (prs_mem _ 0 q).mp hq
  rw [Nat.sub_zero, List.getElem?_set] at hq
  split at hq
  next e => split at hq <;> cases hq
  next e1 =>
    rw [List.getElem?_set] at hq
    split at hq
    next e =>
      split at hq
      · have h3 : v = q.2 := by simpa using hq
        exact List.mem_cons.mpr (Or.inl (Prod.ext e.symm h3.symm))
      · cases hq
    next e =>
      refine List.mem_cons_of_mem _ (List.mem_filter.mpr ⟨(prs_mem _ 0 q).mpr ⟨Nat.zero_le _, by simpa using hq⟩, ?_⟩)
      simp only [Bool.and_eq_true, Bool.not_eq_true', beq_eq_false_iff_ne, ne_eq, Bool.and_eq_false_iff]
      refine ⟨fun z => e z.symm, fun z => e1 z.symm, ?_⟩
      by_cases z : q.1 + 1 = i
      · right
        have := hp (some q.2) (by omega) (by rw [show i - 1 = q.1 by omega]; exact hq)
        exact fun y => ncat_of this y
      · left; exact z
/-- the locals with which a method begins -/
def entL : List Value → List (Option Value)
  | [] => []
  | .long x :: vs => some (.long x) :: none :: entL vs
  | .double x :: vs => some (.double x) :: none :: entL vs
  | v :: vs => some v :: entL vs
def ent (n : Nat) (vs : List Value) : List (Option Value) := entL vs ++ List.replicate (n - (entL vs).length) none
theorem prs_none : ∀ (k i : Nat), prs i (List.replicate k none) = []
  | 0, i => rfl
  | k + 1, i => by rw [List.replicate_succ, prs, prs_none k]
theorem ent_args (k : Nat) : ∀ (vs : List Value) (i : Nat), prs i (entL vs ++ List.replicate k none) = lv_args i vs
  | [], i => by rw [entL, List.nil_append, prs_none]; rfl
  | v :: vs, i => by
    have ih1 := ent_args k vs (i + 1)
    have ih2 := ent_args k vs (i + 2)
    cases v <;> simp [entL, prs, lv_args, Value.category, ih1, ih2]
theorem ent_len : ∀ vs : List Value, (entL vs).length = (lg_sl vs).length
  | [] => rfl
  | v :: vs => by
    have ih := ent_len vs
    cases v <;> simp_all [entL, lg_sl, Value.category]
theorem GoodIn.code {M : MT} (hM : MB M) : GoodIn gw_tbl (Cond.code M.1 M.2.1 M.2.2.1 M.2.2.2 :: gw_tbl) := by
  intro w hw
  have h : w ∈ gw_tbl := (List.mem_cons.mp hw).elim (fun e => by rw [e]; exact hM.1) id
  exact ⟨h, good_of_word (gw_good w h).2⟩
/-- the room of a method that has d frames below it -/
def rmz (d mc ms : Nat) : Room := { frames := d, cells := mc, slots := ms, locals := 41 * d }
theorem Met.ofG {V : GV} {M : MT} {d : Nat} {vs : List Value} {X X' : XT} {FI AI FI' AI' : FT} {AL AL' : LT} {r : Option Value} {ls : List (Option Value)} (hM : MB M) (hl : (entL vs).length ≤ M.2.2.1) (he : ent M.2.2.1 vs = ls)
    (hc : x_nc X ≤ x_nc X') (hs : x_ns X ≤ x_ns X') (h : GW V M d 0 ls [] X FI AI AL r X' FI' AI' AL') :
    Met V.1 M.1 (Cond.code M.1 M.2.1 M.2.2.1 M.2.2.2 :: gw_tbl) (rmz d (x_nc X' - x_nc X) (x_ns X' - x_ns X)) (va_Pc vs (Strt V X FI AI AL)) (Qz V r X' FI' AI' AL') (x_nc X' - x_nc X) (x_ns X' - x_ns X) (AV V) := by
  subst he
  refine va_MetF (cc := M.2.1) (maxL := M.2.2.1) (ret := M.2.2.2) hM.2.2.2.1 rfl ?_
  intro p e s m args below meth c s₁ B hml hv
  obtain ⟨rfl, hR, hT⟩ := hv
  have hts := atoms_spec (ws := Cond.code M.1 M.2.1 M.2.2.1 M.2.2.2 :: gw_tbl) B.pre
  rw [lg_entry_eq]
  refine h p e _ s m _ below meth c s.heap [] (x_nc X) (x_ns X) 0 0 _ ⟨B.exec, B.bytes, B.returns, hml, findClass_of_methodNamed B.named, B.notSynchronized, (name_of_methodNamed B.named B.method).1, fun w hw => hts w (List.mem_cons_of_mem _ hw), Nat.le_refl _, Nat.le_refl _, hT⟩ hR va_S.rf ?_ rfl rfl ?_ ?_
  · have h1 := lv_entry vs (n := M.2.2.1) (by rw [← ent_len]; exact hl)
    show lv_has _ _ (prs 0 (ent M.2.2.1 vs))
    rw [ent, ent_args]
    exact h1
  · show x_nc X' ≤ x_nc X + (x_nc X' - x_nc X); omega
  · show x_ns X' ≤ x_ns X + (x_ns X' - x_ns X); omega
section WC
variable {p : Program} {l : Launch} {e : Env} {R : Room} {s : State} {m : MethodId} {args : Array Value} {below : List Frame} {meth : Method} {c : Code} {H : Heap} {locs : List Loc} {cells slots : Nat} {Q : State → Prop}
theorem W_call {V : GV} {mc ms pc : Nat} {arr : Array Slot} {st0 rest : List Value} {r : Option Value} {X' : XT} {FI' AI' : FT} {AL' : LT} {a : Array Value}
    (hr : va_Run p l e R s m args below meth c H locs cells slots mc ms (F0 m pc arr st0) rest (Qz V r X' FI' AI' AL' a) (AV V)) (hS : va_S (AV V) s.heap H locs)
    (kk : ∀ (H1 : Heap) (locs1 : List Loc), Rel V s X' FI' AI' AL' H1 → va_S (AV V) s.heap H1 locs1 → W p l e R s m args below meth c H1 locs1 (cells + mc) (slots + ms) Q (F0 m (pc + 3) arr (pu r rest))) : W p l e R s m args below meth c H locs cells slots Q (F0 m pc arr st0) := by
  intro T hT X
  obtain ⟨v, st₀, t, T', L, h0, X', hL, e1, e2, ⟨hv, hR, hz, hk⟩, st⟩ := hr T hT X
  cases hv
  rw [h0] at hz hk
  have hal : s.vm.Alike t.vm := by rw [← e2]; exact X'.warmed.alike
  obtain ⟨t2, a1, b1⟩ := kk T'.heap (locs ++ L) (by rw [e1]; exact hR.moved hal.symm) ⟨Nat.le_trans hS.1 (by rw [e1]; exact hz), fun q h1 h2 => by rw [e1, hk q (Nat.lt_of_lt_of_le h1 hS.1) h2]; exact hS.2.1 q h1 h2, fun q hq => by
      rcases List.mem_append.mp hq with h | h
      · exact hS.2.2 q h
      · exact hL q h⟩ T' rfl X'
  refine ⟨t2, st t2 ?_, b1⟩
  rw [pu_eq]
  exact a1
end WC

theorem G_iconst {V : GV} {M : MT} {d pc : Nat} {ls : List (Option Value)} {st : List Value} {X : XT} {FI AI : FT} {AL : LT} {P : PT} {q : Int} (v : Int32) (n : Nat) (hd : dec M pc = .ok (.iconst q, 1)) (hn : pc + 1 = n) (hv : Int32.ofInt q = v) (k : G V M d n ls (.int v :: st) X FI AI AL P) : G V M d pc ls (st) X FI AI AL P := by
  subst hn
  refine G.step0 ?_ k
  intro r X' FI' AI' AL' hw p e R s m args below meth c H locs n0 k0 cells slots arr C hR hS hL e1 e2 e3 e4
  exact lv_iconst C.1 C.2.1 hd hv (hw p e R s m args below meth c H locs n0 k0 cells slots arr C hR hS hL e1 e2 e3 e4)
theorem G_bipush {V : GV} {M : MT} {d pc : Nat} {ls : List (Option Value)} {st : List Value} {X : XT} {FI AI : FT} {AL : LT} {P : PT} {q : Int} (v : Int32) (n : Nat) (hd : dec M pc = .ok (.bipush q, 2)) (hn : pc + 2 = n) (hv : (Int8.ofInt q).toInt32 = v) (k : G V M d n ls (.int v :: st) X FI AI AL P) : G V M d pc ls (st) X FI AI AL P := by
  subst hn
  refine G.step0 ?_ k
  intro r X' FI' AI' AL' hw p e R s m args below meth c H locs n0 k0 cells slots arr C hR hS hL e1 e2 e3 e4
  exact lv_bipush C.1 C.2.1 hd hv (hw p e R s m args below meth c H locs n0 k0 cells slots arr C hR hS hL e1 e2 e3 e4)
theorem G_sipush {V : GV} {M : MT} {d pc : Nat} {ls : List (Option Value)} {st : List Value} {X : XT} {FI AI : FT} {AL : LT} {P : PT} {q : Int} (v : Int32) (n : Nat) (hd : dec M pc = .ok (.sipush q, 3)) (hn : pc + 3 = n) (hv : (Int16.ofInt q).toInt32 = v) (k : G V M d n ls (.int v :: st) X FI AI AL P) : G V M d pc ls (st) X FI AI AL P := by
  subst hn
  refine G.step0 ?_ k
  intro r X' FI' AI' AL' hw p e R s m args below meth c H locs n0 k0 cells slots arr C hR hS hL e1 e2 e3 e4
  exact lv_sipush C.1 C.2.1 hd hv (hw p e R s m args below meth c H locs n0 k0 cells slots arr C hR hS hL e1 e2 e3 e4)
theorem G_lconst {V : GV} {M : MT} {d pc : Nat} {ls : List (Option Value)} {st : List Value} {X : XT} {FI AI : FT} {AL : LT} {P : PT} {q : Fin 2} (v : Int64) (n : Nat) (hd : dec M pc = .ok (.lconst q, 1)) (hn : pc + 1 = n) (hv : Int64.ofNat (q : Nat) = v) (k : G V M d n ls (.long v :: st) X FI AI AL P) : G V M d pc ls (st) X FI AI AL P := by
  subst hn
  refine G.step0 ?_ k
  intro r X' FI' AI' AL' hw p e R s m args below meth c H locs n0 k0 cells slots arr C hR hS hL e1 e2 e3 e4
  exact lv_lconst C.1 C.2.1 hd hv (hw p e R s m args below meth c H locs n0 k0 cells slots arr C hR hS hL e1 e2 e3 e4)
theorem G_null {V : GV} {M : MT} {d pc : Nat} {ls : List (Option Value)} {st : List Value} {X : XT} {FI AI : FT} {AL : LT} {P : PT}  (n : Nat) (hd : dec M pc = .ok (.aconst_null, 1)) (hn : pc + 1 = n)  (k : G V M d n ls (.null :: st) X FI AI AL P) : G V M d pc ls (st) X FI AI AL P := by
  subst hn
  refine G.step0 ?_ k
  intro r X' FI' AI' AL' hw p e R s m args below meth c H locs n0 k0 cells slots arr C hR hS hL e1 e2 e3 e4
  exact lv_null C.1 C.2.1 hd  (hw p e R s m args below meth c H locs n0 k0 cells slots arr C hR hS hL e1 e2 e3 e4)
theorem G_iadd {V : GV} {M : MT} {d pc : Nat} {ls : List (Option Value)} {st : List Value} {X : XT} {FI AI : FT} {AL : LT} {P : PT} {x y : Int32} (n : Nat) (hd : dec M pc = .ok (.iadd, 1)) (hn : pc + 1 = n)  (k : G V M d n ls (.int (x + y) :: st) X FI AI AL P) : G V M d pc ls (.int y :: .int x :: st) X FI AI AL P := by
  subst hn
  refine G.step0 ?_ k
  intro r X' FI' AI' AL' hw p e R s m args below meth c H locs n0 k0 cells slots arr C hR hS hL e1 e2 e3 e4
  exact lv_iadd C.1 C.2.1 hd  (hw p e R s m args below meth c H locs n0 k0 cells slots arr C hR hS hL e1 e2 e3 e4)
theorem G_isub {V : GV} {M : MT} {d pc : Nat} {ls : List (Option Value)} {st : List Value} {X : XT} {FI AI : FT} {AL : LT} {P : PT} {x y : Int32} (n : Nat) (hd : dec M pc = .ok (.isub, 1)) (hn : pc + 1 = n)  (k : G V M d n ls (.int (x - y) :: st) X FI AI AL P) : G V M d pc ls (.int y :: .int x :: st) X FI AI AL P := by
  subst hn
  refine G.step0 ?_ k
  intro r X' FI' AI' AL' hw p e R s m args below meth c H locs n0 k0 cells slots arr C hR hS hL e1 e2 e3 e4
  exact lv_isub C.1 C.2.1 hd  (hw p e R s m args below meth c H locs n0 k0 cells slots arr C hR hS hL e1 e2 e3 e4)
theorem G_imul {V : GV} {M : MT} {d pc : Nat} {ls : List (Option Value)} {st : List Value} {X : XT} {FI AI : FT} {AL : LT} {P : PT} {x y : Int32} (n : Nat) (hd : dec M pc = .ok (.imul, 1)) (hn : pc + 1 = n)  (k : G V M d n ls (.int (x * y) :: st) X FI AI AL P) : G V M d pc ls (.int y :: .int x :: st) X FI AI AL P := by
  subst hn
  refine G.step0 ?_ k
  intro r X' FI' AI' AL' hw p e R s m args below meth c H locs n0 k0 cells slots arr C hR hS hL e1 e2 e3 e4
  exact lv_imul C.1 C.2.1 hd  (hw p e R s m args below meth c H locs n0 k0 cells slots arr C hR hS hL e1 e2 e3 e4)
theorem G_iand {V : GV} {M : MT} {d pc : Nat} {ls : List (Option Value)} {st : List Value} {X : XT} {FI AI : FT} {AL : LT} {P : PT} {x y : Int32} (n : Nat) (hd : dec M pc = .ok (.iand, 1)) (hn : pc + 1 = n)  (k : G V M d n ls (.int (x &&& y) :: st) X FI AI AL P) : G V M d pc ls (.int y :: .int x :: st) X FI AI AL P := by
  subst hn
  refine G.step0 ?_ k
  intro r X' FI' AI' AL' hw p e R s m args below meth c H locs n0 k0 cells slots arr C hR hS hL e1 e2 e3 e4
  exact lv_iand C.1 C.2.1 hd  (hw p e R s m args below meth c H locs n0 k0 cells slots arr C hR hS hL e1 e2 e3 e4)
theorem G_ior {V : GV} {M : MT} {d pc : Nat} {ls : List (Option Value)} {st : List Value} {X : XT} {FI AI : FT} {AL : LT} {P : PT} {x y : Int32} (n : Nat) (hd : dec M pc = .ok (.ior, 1)) (hn : pc + 1 = n)  (k : G V M d n ls (.int (x ||| y) :: st) X FI AI AL P) : G V M d pc ls (.int y :: .int x :: st) X FI AI AL P := by
  subst hn
  refine G.step0 ?_ k
  intro r X' FI' AI' AL' hw p e R s m args below meth c H locs n0 k0 cells slots arr C hR hS hL e1 e2 e3 e4
  exact lv_ior C.1 C.2.1 hd  (hw p e R s m args below meth c H locs n0 k0 cells slots arr C hR hS hL e1 e2 e3 e4)
theorem G_ishl {V : GV} {M : MT} {d pc : Nat} {ls : List (Option Value)} {st : List Value} {X : XT} {FI AI : FT} {AL : LT} {P : PT} {x y : Int32} (n : Nat) (hd : dec M pc = .ok (.ishl, 1)) (hn : pc + 1 = n)  (k : G V M d n ls (.int (x <<< (y &&& 31)) :: st) X FI AI AL P) : G V M d pc ls (.int y :: .int x :: st) X FI AI AL P := by
  subst hn
  refine G.step0 ?_ k
  intro r X' FI' AI' AL' hw p e R s m args below meth c H locs n0 k0 cells slots arr C hR hS hL e1 e2 e3 e4
  exact lv_ishl C.1 C.2.1 hd  (hw p e R s m args below meth c H locs n0 k0 cells slots arr C hR hS hL e1 e2 e3 e4)
theorem G_ishr {V : GV} {M : MT} {d pc : Nat} {ls : List (Option Value)} {st : List Value} {X : XT} {FI AI : FT} {AL : LT} {P : PT} {x y : Int32} (n : Nat) (hd : dec M pc = .ok (.ishr, 1)) (hn : pc + 1 = n)  (k : G V M d n ls (.int (x >>> (y &&& 31)) :: st) X FI AI AL P) : G V M d pc ls (.int y :: .int x :: st) X FI AI AL P := by
  subst hn
  refine G.step0 ?_ k
  intro r X' FI' AI' AL' hw p e R s m args below meth c H locs n0 k0 cells slots arr C hR hS hL e1 e2 e3 e4
  exact lv_ishr C.1 C.2.1 hd  (hw p e R s m args below meth c H locs n0 k0 cells slots arr C hR hS hL e1 e2 e3 e4)
theorem G_idiv {V : GV} {M : MT} {d pc : Nat} {ls : List (Option Value)} {st : List Value} {X : XT} {FI AI : FT} {AL : LT} {P : PT} {x y : Int32} (n : Nat) (hd : dec M pc = .ok (.idiv, 1)) (hn : pc + 1 = n) (hne : ¬ y = 0) (k : G V M d n ls (.int (x / y) :: st) X FI AI AL P) : G V M d pc ls (.int y :: .int x :: st) X FI AI AL P := by
  subst hn
  refine G.step0 ?_ k
  intro r X' FI' AI' AL' hw p e R s m args below meth c H locs n0 k0 cells slots arr C hR hS hL e1 e2 e3 e4
  exact lv_idiv C.1 C.2.1 hd hne (hw p e R s m args below meth c H locs n0 k0 cells slots arr C hR hS hL e1 e2 e3 e4)
theorem G_irem {V : GV} {M : MT} {d pc : Nat} {ls : List (Option Value)} {st : List Value} {X : XT} {FI AI : FT} {AL : LT} {P : PT} {x y : Int32} (n : Nat) (hd : dec M pc = .ok (.irem, 1)) (hn : pc + 1 = n) (hne : ¬ y = 0) (k : G V M d n ls (.int (x - x / y * y) :: st) X FI AI AL P) : G V M d pc ls (.int y :: .int x :: st) X FI AI AL P := by
  subst hn
  refine G.step0 ?_ k
  intro r X' FI' AI' AL' hw p e R s m args below meth c H locs n0 k0 cells slots arr C hR hS hL e1 e2 e3 e4
  exact lv_irem C.1 C.2.1 hd hne (hw p e R s m args below meth c H locs n0 k0 cells slots arr C hR hS hL e1 e2 e3 e4)
theorem G_ladd {V : GV} {M : MT} {d pc : Nat} {ls : List (Option Value)} {st : List Value} {X : XT} {FI AI : FT} {AL : LT} {P : PT} {x y : Int64} (n : Nat) (hd : dec M pc = .ok (.ladd, 1)) (hn : pc + 1 = n)  (k : G V M d n ls (.long (x + y) :: st) X FI AI AL P) : G V M d pc ls (.long y :: .long x :: st) X FI AI AL P := by
  subst hn
  refine G.step0 ?_ k
  intro r X' FI' AI' AL' hw p e R s m args below meth c H locs n0 k0 cells slots arr C hR hS hL e1 e2 e3 e4
  exact lv_ladd C.1 C.2.1 hd  (hw p e R s m args below meth c H locs n0 k0 cells slots arr C hR hS hL e1 e2 e3 e4)
theorem G_lsub {V : GV} {M : MT} {d pc : Nat} {ls : List (Option Value)} {st : List Value} {X : XT} {FI AI : FT} {AL : LT} {P : PT} {x y : Int64} (n : Nat) (hd : dec M pc = .ok (.lsub, 1)) (hn : pc + 1 = n)  (k : G V M d n ls (.long (x - y) :: st) X FI AI AL P) : G V M d pc ls (.long y :: .long x :: st) X FI AI AL P := by
  subst hn
  refine G.step0 ?_ k
  intro r X' FI' AI' AL' hw p e R s m args below meth c H locs n0 k0 cells slots arr C hR hS hL e1 e2 e3 e4
  exact lv_lsub C.1 C.2.1 hd  (hw p e R s m args below meth c H locs n0 k0 cells slots arr C hR hS hL e1 e2 e3 e4)
theorem G_lmul {V : GV} {M : MT} {d pc : Nat} {ls : List (Option Value)} {st : List Value} {X : XT} {FI AI : FT} {AL : LT} {P : PT} {x y : Int64} (n : Nat) (hd : dec M pc = .ok (.lmul, 1)) (hn : pc + 1 = n)  (k : G V M d n ls (.long (x * y) :: st) X FI AI AL P) : G V M d pc ls (.long y :: .long x :: st) X FI AI AL P := by
  subst hn
  refine G.step0 ?_ k
  intro r X' FI' AI' AL' hw p e R s m args below meth c H locs n0 k0 cells slots arr C hR hS hL e1 e2 e3 e4
  exact lv_lmul C.1 C.2.1 hd  (hw p e R s m args below meth c H locs n0 k0 cells slots arr C hR hS hL e1 e2 e3 e4)
theorem G_lxor {V : GV} {M : MT} {d pc : Nat} {ls : List (Option Value)} {st : List Value} {X : XT} {FI AI : FT} {AL : LT} {P : PT} {x y : Int64} (n : Nat) (hd : dec M pc = .ok (.lxor, 1)) (hn : pc + 1 = n)  (k : G V M d n ls (.long (x ^^^ y) :: st) X FI AI AL P) : G V M d pc ls (.long y :: .long x :: st) X FI AI AL P := by
  subst hn
  refine G.step0 ?_ k
  intro r X' FI' AI' AL' hw p e R s m args below meth c H locs n0 k0 cells slots arr C hR hS hL e1 e2 e3 e4
  exact lv_lxor C.1 C.2.1 hd  (hw p e R s m args below meth c H locs n0 k0 cells slots arr C hR hS hL e1 e2 e3 e4)
theorem G_ldiv {V : GV} {M : MT} {d pc : Nat} {ls : List (Option Value)} {st : List Value} {X : XT} {FI AI : FT} {AL : LT} {P : PT} {x y : Int64} (n : Nat) (hd : dec M pc = .ok (.ldiv, 1)) (hn : pc + 1 = n) (hne : ¬ y = 0) (k : G V M d n ls (.long (x / y) :: st) X FI AI AL P) : G V M d pc ls (.long y :: .long x :: st) X FI AI AL P := by
  subst hn
  refine G.step0 ?_ k
  intro r X' FI' AI' AL' hw p e R s m args below meth c H locs n0 k0 cells slots arr C hR hS hL e1 e2 e3 e4
  exact lv_ldiv C.1 C.2.1 hd hne (hw p e R s m args below meth c H locs n0 k0 cells slots arr C hR hS hL e1 e2 e3 e4)
theorem G_lrem {V : GV} {M : MT} {d pc : Nat} {ls : List (Option Value)} {st : List Value} {X : XT} {FI AI : FT} {AL : LT} {P : PT} {x y : Int64} (n : Nat) (hd : dec M pc = .ok (.lrem, 1)) (hn : pc + 1 = n) (hne : ¬ y = 0) (k : G V M d n ls (.long (x - x / y * y) :: st) X FI AI AL P) : G V M d pc ls (.long y :: .long x :: st) X FI AI AL P := by
  subst hn
  refine G.step0 ?_ k
  intro r X' FI' AI' AL' hw p e R s m args below meth c H locs n0 k0 cells slots arr C hR hS hL e1 e2 e3 e4
  exact lv_lrem C.1 C.2.1 hd hne (hw p e R s m args below meth c H locs n0 k0 cells slots arr C hR hS hL e1 e2 e3 e4)
theorem G_lneg {V : GV} {M : MT} {d pc : Nat} {ls : List (Option Value)} {st : List Value} {X : XT} {FI AI : FT} {AL : LT} {P : PT} {x : Int64} (n : Nat) (hd : dec M pc = .ok (.lneg, 1)) (hn : pc + 1 = n)  (k : G V M d n ls (.long (-x) :: st) X FI AI AL P) : G V M d pc ls (.long x :: st) X FI AI AL P := by
  subst hn
  refine G.step0 ?_ k
  intro r X' FI' AI' AL' hw p e R s m args below meth c H locs n0 k0 cells slots arr C hR hS hL e1 e2 e3 e4
  exact lv_lneg C.1 C.2.1 hd  (hw p e R s m args below meth c H locs n0 k0 cells slots arr C hR hS hL e1 e2 e3 e4)
theorem G_ineg {V : GV} {M : MT} {d pc : Nat} {ls : List (Option Value)} {st : List Value} {X : XT} {FI AI : FT} {AL : LT} {P : PT} {x : Int32} (n : Nat) (hd : dec M pc = .ok (.ineg, 1)) (hn : pc + 1 = n)  (k : G V M d n ls (.int (-x) :: st) X FI AI AL P) : G V M d pc ls (.int x :: st) X FI AI AL P := by
  subst hn
  refine G.step0 ?_ k
  intro r X' FI' AI' AL' hw p e R s m args below meth c H locs n0 k0 cells slots arr C hR hS hL e1 e2 e3 e4
  exact lv_ineg C.1 C.2.1 hd  (hw p e R s m args below meth c H locs n0 k0 cells slots arr C hR hS hL e1 e2 e3 e4)
theorem G_lcmp {V : GV} {M : MT} {d pc : Nat} {ls : List (Option Value)} {st : List Value} {X : XT} {FI AI : FT} {AL : LT} {P : PT} {x y : Int64} (n : Nat) (hd : dec M pc = .ok (.lcmp, 1)) (hn : pc + 1 = n)  (k : G V M d n ls (.int (lg_cmp x y) :: st) X FI AI AL P) : G V M d pc ls (.long y :: .long x :: st) X FI AI AL P := by
  subst hn
  refine G.step0 ?_ k
  intro r X' FI' AI' AL' hw p e R s m args below meth c H locs n0 k0 cells slots arr C hR hS hL e1 e2 e3 e4
  exact W.lcmp C.1 C.2.1 hd  (hw p e R s m args below meth c H locs n0 k0 cells slots arr C hR hS hL e1 e2 e3 e4)
theorem G_i2l {V : GV} {M : MT} {d pc : Nat} {ls : List (Option Value)} {st : List Value} {X : XT} {FI AI : FT} {AL : LT} {P : PT} {x : Int32} (n : Nat) (hd : dec M pc = .ok (.i2l, 1)) (hn : pc + 1 = n)  (k : G V M d n ls (.long x.toInt64 :: st) X FI AI AL P) : G V M d pc ls (.int x :: st) X FI AI AL P := by
  subst hn
  refine G.step0 ?_ k
  intro r X' FI' AI' AL' hw p e R s m args below meth c H locs n0 k0 cells slots arr C hR hS hL e1 e2 e3 e4
  exact lv_i2l C.1 C.2.1 hd rfl (hw p e R s m args below meth c H locs n0 k0 cells slots arr C hR hS hL e1 e2 e3 e4)
theorem G_l2i {V : GV} {M : MT} {d pc : Nat} {ls : List (Option Value)} {st : List Value} {X : XT} {FI AI : FT} {AL : LT} {P : PT} {x : Int64} (n : Nat) (hd : dec M pc = .ok (.l2i, 1)) (hn : pc + 1 = n)  (k : G V M d n ls (.int x.toInt32 :: st) X FI AI AL P) : G V M d pc ls (.long x :: st) X FI AI AL P := by
  subst hn
  refine G.step0 ?_ k
  intro r X' FI' AI' AL' hw p e R s m args below meth c H locs n0 k0 cells slots arr C hR hS hL e1 e2 e3 e4
  exact lv_l2i C.1 C.2.1 hd rfl (hw p e R s m args below meth c H locs n0 k0 cells slots arr C hR hS hL e1 e2 e3 e4)
theorem G_i2b {V : GV} {M : MT} {d pc : Nat} {ls : List (Option Value)} {st : List Value} {X : XT} {FI AI : FT} {AL : LT} {P : PT} {x : Int32} (n : Nat) (hd : dec M pc = .ok (.i2b, 1)) (hn : pc + 1 = n)  (k : G V M d n ls (.int x.toInt8.toInt32 :: st) X FI AI AL P) : G V M d pc ls (.int x :: st) X FI AI AL P := by
  subst hn
  refine G.step0 ?_ k
  intro r X' FI' AI' AL' hw p e R s m args below meth c H locs n0 k0 cells slots arr C hR hS hL e1 e2 e3 e4
  exact lv_i2b C.1 C.2.1 hd rfl (hw p e R s m args below meth c H locs n0 k0 cells slots arr C hR hS hL e1 e2 e3 e4)
theorem G_dup {V : GV} {M : MT} {d pc : Nat} {ls : List (Option Value)} {st : List Value} {X : XT} {FI AI : FT} {AL : LT} {P : PT} {v : Value} (n : Nat) (hd : dec M pc = .ok (.dup, 1)) (hn : pc + 1 = n) (hv : v.category = 1) (k : G V M d n ls (v :: v :: st) X FI AI AL P) : G V M d pc ls (v :: st) X FI AI AL P := by
  subst hn
  refine G.step0 ?_ k
  intro r X' FI' AI' AL' hw p e R s m args below meth c H locs n0 k0 cells slots arr C hR hS hL e1 e2 e3 e4
  exact lv_dup C.1 C.2.1 hd hv (hw p e R s m args below meth c H locs n0 k0 cells slots arr C hR hS hL e1 e2 e3 e4)
theorem G_dup2 {V : GV} {M : MT} {d pc : Nat} {ls : List (Option Value)} {st : List Value} {X : XT} {FI AI : FT} {AL : LT} {P : PT} {v w : Value} (n : Nat) (hd : dec M pc = .ok (.dup2, 1)) (hn : pc + 1 = n) (hv : v.category = 1) (hw0 : w.category = 1) (k : G V M d n ls (v :: w :: v :: w :: st) X FI AI AL P) : G V M d pc ls (v :: w :: st) X FI AI AL P := by
  subst hn
  refine G.step0 ?_ k
  intro r X' FI' AI' AL' hw p e R s m args below meth c H locs n0 k0 cells slots arr C hR hS hL e1 e2 e3 e4
  exact lv_dup2_11 C.1 C.2.1 hd hv hw0 (hw p e R s m args below meth c H locs n0 k0 cells slots arr C hR hS hL e1 e2 e3 e4)
theorem G_dup2L {V : GV} {M : MT} {d pc : Nat} {ls : List (Option Value)} {st : List Value} {X : XT} {FI AI : FT} {AL : LT} {P : PT} {v : Value} (n : Nat) (hd : dec M pc = .ok (.dup2, 1)) (hn : pc + 1 = n) (hv : v.category = 2) (k : G V M d n ls (v :: v :: st) X FI AI AL P) : G V M d pc ls (v :: st) X FI AI AL P := by
  subst hn
  refine G.step0 ?_ k
  intro r X' FI' AI' AL' hw p e R s m args below meth c H locs n0 k0 cells slots arr C hR hS hL e1 e2 e3 e4
  exact lv_dup2_2 C.1 C.2.1 hd hv (hw p e R s m args below meth c H locs n0 k0 cells slots arr C hR hS hL e1 e2 e3 e4)
theorem G_pop {V : GV} {M : MT} {d pc : Nat} {ls : List (Option Value)} {st : List Value} {X : XT} {FI AI : FT} {AL : LT} {P : PT} {v : Value} (n : Nat) (hd : dec M pc = .ok (.pop, 1)) (hn : pc + 1 = n) (hv : v.category = 1) (k : G V M d n ls (st) X FI AI AL P) : G V M d pc ls (v :: st) X FI AI AL P := by
  subst hn
  refine G.step0 ?_ k
  intro r X' FI' AI' AL' hw p e R s m args below meth c H locs n0 k0 cells slots arr C hR hS hL e1 e2 e3 e4
  exact lv_pop C.1 C.2.1 hd hv (hw p e R s m args below meth c H locs n0 k0 cells slots arr C hR hS hL e1 e2 e3 e4)
theorem G_iconstN {V : GV} {M : MT} {d pc : Nat} {ls : List (Option Value)} {st : List Value} {X : XT} {FI AI : FT} {AL : LT} {P : PT} {q : Int} (v : Nat) (n : Nat) (hd : dec M pc = .ok (.iconst q, 1)) (hn : pc + 1 = n) (hv : Int32.ofInt q = nI v) (k : G V M d n ls (.int (nI v) :: st) X FI AI AL P) : G V M d pc ls (st) X FI AI AL P := by
  subst hn
  refine G.step0 ?_ k
  intro r X' FI' AI' AL' hw p e R s m args below meth c H locs n0 k0 cells slots arr C hR hS hL e1 e2 e3 e4
  exact lv_iconst C.1 C.2.1 hd hv (hw p e R s m args below meth c H locs n0 k0 cells slots arr C hR hS hL e1 e2 e3 e4)
theorem G_bipushN {V : GV} {M : MT} {d pc : Nat} {ls : List (Option Value)} {st : List Value} {X : XT} {FI AI : FT} {AL : LT} {P : PT} {q : Int} (v : Nat) (n : Nat) (hd : dec M pc = .ok (.bipush q, 2)) (hn : pc + 2 = n) (hv : (Int8.ofInt q).toInt32 = nI v) (k : G V M d n ls (.int (nI v) :: st) X FI AI AL P) : G V M d pc ls (st) X FI AI AL P := by
  subst hn
  refine G.step0 ?_ k
  intro r X' FI' AI' AL' hw p e R s m args below meth c H locs n0 k0 cells slots arr C hR hS hL e1 e2 e3 e4
  exact lv_bipush C.1 C.2.1 hd hv (hw p e R s m args below meth c H locs n0 k0 cells slots arr C hR hS hL e1 e2 e3 e4)
theorem G_sipushN {V : GV} {M : MT} {d pc : Nat} {ls : List (Option Value)} {st : List Value} {X : XT} {FI AI : FT} {AL : LT} {P : PT} {q : Int} (v : Nat) (n : Nat) (hd : dec M pc = .ok (.sipush q, 3)) (hn : pc + 3 = n) (hv : (Int16.ofInt q).toInt32 = nI v) (k : G V M d n ls (.int (nI v) :: st) X FI AI AL P) : G V M d pc ls (st) X FI AI AL P := by
  subst hn
  refine G.step0 ?_ k
  intro r X' FI' AI' AL' hw p e R s m args below meth c H locs n0 k0 cells slots arr C hR hS hL e1 e2 e3 e4
  exact lv_sipush C.1 C.2.1 hd hv (hw p e R s m args below meth c H locs n0 k0 cells slots arr C hR hS hL e1 e2 e3 e4)
theorem G_iaddN {V : GV} {M : MT} {d pc : Nat} {ls : List (Option Value)} {st : List Value} {X : XT} {FI AI : FT} {AL : LT} {P : PT} {a b : Nat} (n : Nat) (hd : dec M pc = .ok (.iadd, 1)) (hn : pc + 1 = n)  (k : G V M d n ls (.int (nI (a + b)) :: st) X FI AI AL P) : G V M d pc ls (.int (nI b) :: .int (nI a) :: st) X FI AI AL P := G_iadd n hd hn (by rw [nI_add]; exact k)
theorem G_imulN {V : GV} {M : MT} {d pc : Nat} {ls : List (Option Value)} {st : List Value} {X : XT} {FI AI : FT} {AL : LT} {P : PT} {a b : Nat} (n : Nat) (hd : dec M pc = .ok (.imul, 1)) (hn : pc + 1 = n)  (k : G V M d n ls (.int (nI (a * b)) :: st) X FI AI AL P) : G V M d pc ls (.int (nI b) :: .int (nI a) :: st) X FI AI AL P := G_imul n hd hn (by rw [pk_mul]; exact k)
theorem G_isubN {V : GV} {M : MT} {d pc : Nat} {ls : List (Option Value)} {st : List Value} {X : XT} {FI AI : FT} {AL : LT} {P : PT} {a b : Nat} (n : Nat) (hd : dec M pc = .ok (.isub, 1)) (hn : pc + 1 = n) (hab : b ≤ a) (k : G V M d n ls (.int (nI (a - b)) :: st) X FI AI AL P) : G V M d pc ls (.int (nI b) :: .int (nI a) :: st) X FI AI AL P := G_isub n hd hn (by rw [pk_sub hab]; exact k)
theorem G_iload0 {V : GV} {M : MT} {d pc : Nat} {ls : List (Option Value)} {st : List Value} {X : XT} {FI AI : FT} {AL : LT} {P : PT}  {x : Int32} (n : Nat) (hd : dec M pc = .ok (.iload_n 0, 1)) (hn : pc + 1 = n) (k : G V M d n (some (.int x) :: ls) (.int x :: st) X FI AI AL P) : G V M d pc (some (.int x) :: ls) st X FI AI AL P := by
  subst hn
  refine G.step0 ?_ k
  intro r X' FI' AI' AL' hw p e R s m args below meth c H locs n0 k0 cells slots arr C hR hS hL e1 e2 e3 e4
  exact lv_iload_n C.1 C.2.1 hd rfl (hL.get (i := 0) rfl) (hw p e R s m args below meth c H locs n0 k0 cells slots arr C hR hS hL e1 e2 e3 e4)
theorem G_istore0 {V : GV} {M : MT} {d pc : Nat} {ls : List (Option Value)} {st : List Value} {X : XT} {FI AI : FT} {AL : LT} {P : PT}  {z : Option Value} {x : Int32} (n : Nat) (hd : dec M pc = .ok (.istore_n 0, 1)) (hn : pc + 1 = n) (hb : 0 < M.2.2.1)  (k : G V M d n (some (.int x) :: ls) st X FI AI AL P) : G V M d pc (z :: ls) (.int x :: st) X FI AI AL P := by
  subst hn
  refine G.step0 ?_ k
  intro r X' FI' AI' AL' hw p e R s m args below meth c H locs n0 k0 cells slots arr C hR hS hL e1 e2 e3 e4
  exact lv_istore_n C.1 C.2.1 hd rfl hL hb rfl (fun arr hl => hw p e R s m args below meth c H locs n0 k0 cells slots arr C hR hS (LR.st1 (ls := z :: ls) hl (fun o h _ => absurd h (Nat.lt_irrefl 0))) e1 e2 e3 e4)
theorem G_iload0w {V : GV} {M : MT} {d pc : Nat} {ls : List (Option Value)} {st : List Value} {X : XT} {FI AI : FT} {AL : LT} {P : PT}  {x : Int32} (n : Nat) (hd : dec M pc = .ok (.iload 0, 2)) (hn : pc + 2 = n) (k : G V M d n (some (.int x) :: ls) (.int x :: st) X FI AI AL P) : G V M d pc (some (.int x) :: ls) st X FI AI AL P := by
  subst hn
  refine G.step0 ?_ k
  intro r X' FI' AI' AL' hw p e R s m args below meth c H locs n0 k0 cells slots arr C hR hS hL e1 e2 e3 e4
  exact lv_iload C.1 C.2.1 hd (hL.get (i := 0) rfl) (hw p e R s m args below meth c H locs n0 k0 cells slots arr C hR hS hL e1 e2 e3 e4)
theorem G_istore0w {V : GV} {M : MT} {d pc : Nat} {ls : List (Option Value)} {st : List Value} {X : XT} {FI AI : FT} {AL : LT} {P : PT}  {z : Option Value} {x : Int32} (n : Nat) (hd : dec M pc = .ok (.istore 0, 2)) (hn : pc + 2 = n) (hb : 0 < M.2.2.1)  (k : G V M d n (some (.int x) :: ls) st X FI AI AL P) : G V M d pc (z :: ls) (.int x :: st) X FI AI AL P := by
  subst hn
  refine G.step0 ?_ k
  intro r X' FI' AI' AL' hw p e R s m args below meth c H locs n0 k0 cells slots arr C hR hS hL e1 e2 e3 e4
  exact lv_istore C.1 C.2.1 hd hL hb rfl (fun arr hl => hw p e R s m args below meth c H locs n0 k0 cells slots arr C hR hS (LR.st1 (ls := z :: ls) hl (fun o h _ => absurd h (Nat.lt_irrefl 0))) e1 e2 e3 e4)
theorem G_lload0 {V : GV} {M : MT} {d pc : Nat} {ls : List (Option Value)} {st : List Value} {X : XT} {FI AI : FT} {AL : LT} {P : PT}  {x : Int64} (n : Nat) (hd : dec M pc = .ok (.lload_n 0, 1)) (hn : pc + 1 = n) (k : G V M d n (some (.long x) :: ls) (.long x :: st) X FI AI AL P) : G V M d pc (some (.long x) :: ls) st X FI AI AL P := by
  subst hn
  refine G.step0 ?_ k
  intro r X' FI' AI' AL' hw p e R s m args below meth c H locs n0 k0 cells slots arr C hR hS hL e1 e2 e3 e4
  exact lv_lload_n C.1 C.2.1 hd rfl (hL.get (i := 0) rfl) (hw p e R s m args below meth c H locs n0 k0 cells slots arr C hR hS hL e1 e2 e3 e4)
theorem G_lstore0 {V : GV} {M : MT} {d pc : Nat} {ls : List (Option Value)} {st : List Value} {X : XT} {FI AI : FT} {AL : LT} {P : PT}  {z1 z2 : Option Value} {x : Int64} (n : Nat) (hd : dec M pc = .ok (.lstore_n 0, 1)) (hn : pc + 1 = n) (hb : 0 + 1 < M.2.2.1)  (k : G V M d n (some (.long x) :: none :: ls) st X FI AI AL P) : G V M d pc (z1 :: z2 :: ls) (.long x :: st) X FI AI AL P := by
  subst hn
  refine G.step0 ?_ k
  intro r X' FI' AI' AL' hw p e R s m args below meth c H locs n0 k0 cells slots arr C hR hS hL e1 e2 e3 e4
  exact lv_lstore_n C.1 C.2.1 hd rfl hL hb rfl (fun arr hl => hw p e R s m args below meth c H locs n0 k0 cells slots arr C hR hS (LR.st2 (ls := z1 :: z2 :: ls) hl (fun o h _ => absurd h (Nat.lt_irrefl 0))) e1 e2 e3 e4)
theorem G_lload0w {V : GV} {M : MT} {d pc : Nat} {ls : List (Option Value)} {st : List Value} {X : XT} {FI AI : FT} {AL : LT} {P : PT}  {x : Int64} (n : Nat) (hd : dec M pc = .ok (.lload 0, 2)) (hn : pc + 2 = n) (k : G V M d n (some (.long x) :: ls) (.long x :: st) X FI AI AL P) : G V M d pc (some (.long x) :: ls) st X FI AI AL P := by
  subst hn
  refine G.step0 ?_ k
  intro r X' FI' AI' AL' hw p e R s m args below meth c H locs n0 k0 cells slots arr C hR hS hL e1 e2 e3 e4
  exact lv_lload C.1 C.2.1 hd (hL.get (i := 0) rfl) (hw p e R s m args below meth c H locs n0 k0 cells slots arr C hR hS hL e1 e2 e3 e4)
theorem G_lstore0w {V : GV} {M : MT} {d pc : Nat} {ls : List (Option Value)} {st : List Value} {X : XT} {FI AI : FT} {AL : LT} {P : PT}  {z1 z2 : Option Value} {x : Int64} (n : Nat) (hd : dec M pc = .ok (.lstore 0, 2)) (hn : pc + 2 = n) (hb : 0 + 1 < M.2.2.1)  (k : G V M d n (some (.long x) :: none :: ls) st X FI AI AL P) : G V M d pc (z1 :: z2 :: ls) (.long x :: st) X FI AI AL P := by
  subst hn
  refine G.step0 ?_ k
  intro r X' FI' AI' AL' hw p e R s m args below meth c H locs n0 k0 cells slots arr C hR hS hL e1 e2 e3 e4
  exact lv_lstore C.1 C.2.1 hd hL hb rfl (fun arr hl => hw p e R s m args below meth c H locs n0 k0 cells slots arr C hR hS (LR.st2 (ls := z1 :: z2 :: ls) hl (fun o h _ => absurd h (Nat.lt_irrefl 0))) e1 e2 e3 e4)
theorem G_aload0 {V : GV} {M : MT} {d pc : Nat} {ls : List (Option Value)} {st : List Value} {X : XT} {FI AI : FT} {AL : LT} {P : PT}  {x : Nat} (n : Nat) (hd : dec M pc = .ok (.aload_n 0, 1)) (hn : pc + 1 = n) (k : G V M d n (some (.ref x) :: ls) (.ref x :: st) X FI AI AL P) : G V M d pc (some (.ref x) :: ls) st X FI AI AL P := by
  subst hn
  refine G.step0 ?_ k
  intro r X' FI' AI' AL' hw p e R s m args below meth c H locs n0 k0 cells slots arr C hR hS hL e1 e2 e3 e4
  exact lv_aload_n C.1 C.2.1 hd rfl (hL.get (i := 0) rfl) (hw p e R s m args below meth c H locs n0 k0 cells slots arr C hR hS hL e1 e2 e3 e4)
theorem G_astore0 {V : GV} {M : MT} {d pc : Nat} {ls : List (Option Value)} {st : List Value} {X : XT} {FI AI : FT} {AL : LT} {P : PT}  {z : Option Value} {x : Nat} (n : Nat) (hd : dec M pc = .ok (.astore_n 0, 1)) (hn : pc + 1 = n) (hb : 0 < M.2.2.1)  (k : G V M d n (some (.ref x) :: ls) st X FI AI AL P) : G V M d pc (z :: ls) (.ref x :: st) X FI AI AL P := by
  subst hn
  refine G.step0 ?_ k
  intro r X' FI' AI' AL' hw p e R s m args below meth c H locs n0 k0 cells slots arr C hR hS hL e1 e2 e3 e4
  exact lv_astore_n C.1 C.2.1 hd rfl hL hb rfl (fun arr hl => hw p e R s m args below meth c H locs n0 k0 cells slots arr C hR hS (LR.st1 (ls := z :: ls) hl (fun o h _ => absurd h (Nat.lt_irrefl 0))) e1 e2 e3 e4)
theorem G_aload0w {V : GV} {M : MT} {d pc : Nat} {ls : List (Option Value)} {st : List Value} {X : XT} {FI AI : FT} {AL : LT} {P : PT}  {x : Nat} (n : Nat) (hd : dec M pc = .ok (.aload 0, 2)) (hn : pc + 2 = n) (k : G V M d n (some (.ref x) :: ls) (.ref x :: st) X FI AI AL P) : G V M d pc (some (.ref x) :: ls) st X FI AI AL P := by
  subst hn
  refine G.step0 ?_ k
  intro r X' FI' AI' AL' hw p e R s m args below meth c H locs n0 k0 cells slots arr C hR hS hL e1 e2 e3 e4
  exact lv_aload C.1 C.2.1 hd (hL.get (i := 0) rfl) (hw p e R s m args below meth c H locs n0 k0 cells slots arr C hR hS hL e1 e2 e3 e4)
theorem G_astore0w {V : GV} {M : MT} {d pc : Nat} {ls : List (Option Value)} {st : List Value} {X : XT} {FI AI : FT} {AL : LT} {P : PT}  {z : Option Value} {x : Nat} (n : Nat) (hd : dec M pc = .ok (.astore 0, 2)) (hn : pc + 2 = n) (hb : 0 < M.2.2.1)  (k : G V M d n (some (.ref x) :: ls) st X FI AI AL P) : G V M d pc (z :: ls) (.ref x :: st) X FI AI AL P := by
  subst hn
  refine G.step0 ?_ k
  intro r X' FI' AI' AL' hw p e R s m args below meth c H locs n0 k0 cells slots arr C hR hS hL e1 e2 e3 e4
  exact lv_astore C.1 C.2.1 hd hL hb rfl (fun arr hl => hw p e R s m args below meth c H locs n0 k0 cells slots arr C hR hS (LR.st1 (ls := z :: ls) hl (fun o h _ => absurd h (Nat.lt_irrefl 0))) e1 e2 e3 e4)
theorem G_iinc0 {V : GV} {M : MT} {d pc : Nat} {ls : List (Option Value)} {st : List Value} {X : XT} {FI AI : FT} {AL : LT} {P : PT}  {x : Int32} {q : Int} (v : Int32) (n : Nat) (hd : dec M pc = .ok (.iinc 0 q, 3)) (hn : pc + 3 = n) (hb : 0 < M.2.2.1)  (hv : x + Int32.ofInt q = v) (k : G V M d n (some (.int v) :: ls) st X FI AI AL P) : G V M d pc (some (.int x) :: ls) st X FI AI AL P := by
  subst hn
  refine G.step0 ?_ k
  intro r X' FI' AI' AL' hw p e R s m args below meth c H locs n0 k0 cells slots arr C hR hS hL e1 e2 e3 e4
  obtain ⟨q0, hq0⟩ := List.getElem?_of_mem ((prs_mem (some (.int x) :: ls) 0 (0, Value.int x)).mpr ⟨Nat.zero_le _, rfl⟩)
  exact lv_iinc C.1 C.2.1 hd hL hq0 hv hb rfl (fun arr hl => hw p e R s m args below meth c H locs n0 k0 cells slots arr C hR hS (LR.st1 (ls := some (.int x) :: ls) hl (fun o h _ => absurd h (Nat.lt_irrefl 0))) e1 e2 e3 e4)
theorem G_iincN0 {V : GV} {M : MT} {d pc : Nat} {ls : List (Option Value)} {st : List Value} {X : XT} {FI AI : FT} {AL : LT} {P : PT}  {a : Nat} (n : Nat) (hd : dec M pc = .ok (.iinc 0 1, 3)) (hn : pc + 3 = n) (hb : 0 < M.2.2.1)  (k : G V M d n (some (.int (nI (a + 1))) :: ls) st X FI AI AL P) : G V M d pc (some (.int (nI a)) :: ls) st X FI AI AL P := G_iinc0 _ n hd hn hb  (nI_1 a) k
theorem G_iload1 {V : GV} {M : MT} {d pc : Nat} {ls : List (Option Value)} {st : List Value} {X : XT} {FI AI : FT} {AL : LT} {P : PT} {a0 : Option Value} {x : Int32} (n : Nat) (hd : dec M pc = .ok (.iload_n 1, 1)) (hn : pc + 1 = n) (k : G V M d n (a0 :: some (.int x) :: ls) (.int x :: st) X FI AI AL P) : G V M d pc (a0 :: some (.int x) :: ls) st X FI AI AL P := by
  subst hn
  refine G.step0 ?_ k
  intro r X' FI' AI' AL' hw p e R s m args below meth c H locs n0 k0 cells slots arr C hR hS hL e1 e2 e3 e4
  exact lv_iload_n C.1 C.2.1 hd rfl (hL.get (i := 1) rfl) (hw p e R s m args below meth c H locs n0 k0 cells slots arr C hR hS hL e1 e2 e3 e4)
theorem G_istore1 {V : GV} {M : MT} {d pc : Nat} {ls : List (Option Value)} {st : List Value} {X : XT} {FI AI : FT} {AL : LT} {P : PT} {a0 : Option Value} {z : Option Value} {x : Int32} (n : Nat) (hd : dec M pc = .ok (.istore_n 1, 1)) (hn : pc + 1 = n) (hb : 1 < M.2.2.1) (hc : ncat a0 = true) (k : G V M d n (a0 :: some (.int x) :: ls) st X FI AI AL P) : G V M d pc (a0 :: z :: ls) (.int x :: st) X FI AI AL P := by
  subst hn
  refine G.step0 ?_ k
  intro r X' FI' AI' AL' hw p e R s m args below meth c H locs n0 k0 cells slots arr C hR hS hL e1 e2 e3 e4
  exact lv_istore_n C.1 C.2.1 hd rfl hL hb rfl (fun arr hl => hw p e R s m args below meth c H locs n0 k0 cells slots arr C hR hS (LR.st1 (ls := a0 :: z :: ls) hl (fun o _ h => by cases h; exact hc)) e1 e2 e3 e4)
theorem G_iload1w {V : GV} {M : MT} {d pc : Nat} {ls : List (Option Value)} {st : List Value} {X : XT} {FI AI : FT} {AL : LT} {P : PT} {a0 : Option Value} {x : Int32} (n : Nat) (hd : dec M pc = .ok (.iload 1, 2)) (hn : pc + 2 = n) (k : G V M d n (a0 :: some (.int x) :: ls) (.int x :: st) X FI AI AL P) : G V M d pc (a0 :: some (.int x) :: ls) st X FI AI AL P := by
  subst hn
  refine G.step0 ?_ k
  intro r X' FI' AI' AL' hw p e R s m args below meth c H locs n0 k0 cells slots arr C hR hS hL e1 e2 e3 e4
  exact lv_iload C.1 C.2.1 hd (hL.get (i := 1) rfl) (hw p e R s m args below meth c H locs n0 k0 cells slots arr C hR hS hL e1 e2 e3 e4)
theorem G_istore1w {V : GV} {M : MT} {d pc : Nat} {ls : List (Option Value)} {st : List Value} {X : XT} {FI AI : FT} {AL : LT} {P : PT} {a0 : Option Value} {z : Option Value} {x : Int32} (n : Nat) (hd : dec M pc = .ok (.istore 1, 2)) (hn : pc + 2 = n) (hb : 1 < M.2.2.1) (hc : ncat a0 = true) (k : G V M d n (a0 :: some (.int x) :: ls) st X FI AI AL P) : G V M d pc (a0 :: z :: ls) (.int x :: st) X FI AI AL P := by
  subst hn
  refine G.step0 ?_ k
  intro r X' FI' AI' AL' hw p e R s m args below meth c H locs n0 k0 cells slots arr C hR hS hL e1 e2 e3 e4
  exact lv_istore C.1 C.2.1 hd hL hb rfl (fun arr hl => hw p e R s m args below meth c H locs n0 k0 cells slots arr C hR hS (LR.st1 (ls := a0 :: z :: ls) hl (fun o _ h => by cases h; exact hc)) e1 e2 e3 e4)
theorem G_lload1 {V : GV} {M : MT} {d pc : Nat} {ls : List (Option Value)} {st : List Value} {X : XT} {FI AI : FT} {AL : LT} {P : PT} {a0 : Option Value} {x : Int64} (n : Nat) (hd : dec M pc = .ok (.lload_n 1, 1)) (hn : pc + 1 = n) (k : G V M d n (a0 :: some (.long x) :: ls) (.long x :: st) X FI AI AL P) : G V M d pc (a0 :: some (.long x) :: ls) st X FI AI AL P := by
  subst hn
  refine G.step0 ?_ k
  intro r X' FI' AI' AL' hw p e R s m args below meth c H locs n0 k0 cells slots arr C hR hS hL e1 e2 e3 e4
  exact lv_lload_n C.1 C.2.1 hd rfl (hL.get (i := 1) rfl) (hw p e R s m args below meth c H locs n0 k0 cells slots arr C hR hS hL e1 e2 e3 e4)
theorem G_lstore1 {V : GV} {M : MT} {d pc : Nat} {ls : List (Option Value)} {st : List Value} {X : XT} {FI AI : FT} {AL : LT} {P : PT} {a0 : Option Value} {z1 z2 : Option Value} {x : Int64} (n : Nat) (hd : dec M pc = .ok (.lstore_n 1, 1)) (hn : pc + 1 = n) (hb : 1 + 1 < M.2.2.1) (hc : ncat a0 = true) (k : G V M d n (a0 :: some (.long x) :: none :: ls) st X FI AI AL P) : G V M d pc (a0 :: z1 :: z2 :: ls) (.long x :: st) X FI AI AL P := by
  subst hn
  refine G.step0 ?_ k
  intro r X' FI' AI' AL' hw p e R s m args below meth c H locs n0 k0 cells slots arr C hR hS hL e1 e2 e3 e4
  exact lv_lstore_n C.1 C.2.1 hd rfl hL hb rfl (fun arr hl => hw p e R s m args below meth c H locs n0 k0 cells slots arr C hR hS (LR.st2 (ls := a0 :: z1 :: z2 :: ls) hl (fun o _ h => by cases h; exact hc)) e1 e2 e3 e4)
theorem G_lload1w {V : GV} {M : MT} {d pc : Nat} {ls : List (Option Value)} {st : List Value} {X : XT} {FI AI : FT} {AL : LT} {P : PT} {a0 : Option Value} {x : Int64} (n : Nat) (hd : dec M pc = .ok (.lload 1, 2)) (hn : pc + 2 = n) (k : G V M d n (a0 :: some (.long x) :: ls) (.long x :: st) X FI AI AL P) : G V M d pc (a0 :: some (.long x) :: ls) st X FI AI AL P := by
  subst hn
  refine G.step0 ?_ k
  intro r X' FI' AI' AL' hw p e R s m args below meth c H locs n0 k0 cells slots arr C hR hS hL e1 e2 e3 e4
  exact lv_lload C.1 C.2.1 hd (hL.get (i := 1) rfl) (hw p e R s m args below meth c H locs n0 k0 cells slots arr C hR hS hL e1 e2 e3 e4)
theorem G_lstore1w {V : GV} {M : MT} {d pc : Nat} {ls : List (Option Value)} {st : List Value} {X : XT} {FI AI : FT} {AL : LT} {P : PT} {a0 : Option Value} {z1 z2 : Option Value} {x : Int64} (n : Nat) (hd : dec M pc = .ok (.lstore 1, 2)) (hn : pc + 2 = n) (hb : 1 + 1 < M.2.2.1) (hc : ncat a0 = true) (k : G V M d n (a0 :: some (.long x) :: none :: ls) st X FI AI AL P) : G V M d pc (a0 :: z1 :: z2 :: ls) (.long x :: st) X FI AI AL P := by
  subst hn
  refine G.step0 ?_ k
  intro r X' FI' AI' AL' hw p e R s m args below meth c H locs n0 k0 cells slots arr C hR hS hL e1 e2 e3 e4
  exact lv_lstore C.1 C.2.1 hd hL hb rfl (fun arr hl => hw p e R s m args below meth c H locs n0 k0 cells slots arr C hR hS (LR.st2 (ls := a0 :: z1 :: z2 :: ls) hl (fun o _ h => by cases h; exact hc)) e1 e2 e3 e4)
theorem G_aload1 {V : GV} {M : MT} {d pc : Nat} {ls : List (Option Value)} {st : List Value} {X : XT} {FI AI : FT} {AL : LT} {P : PT} {a0 : Option Value} {x : Nat} (n : Nat) (hd : dec M pc = .ok (.aload_n 1, 1)) (hn : pc + 1 = n) (k : G V M d n (a0 :: some (.ref x) :: ls) (.ref x :: st) X FI AI AL P) : G V M d pc (a0 :: some (.ref x) :: ls) st X FI AI AL P := by
  subst hn
  refine G.step0 ?_ k
  intro r X' FI' AI' AL' hw p e R s m args below meth c H locs n0 k0 cells slots arr C hR hS hL e1 e2 e3 e4
  exact lv_aload_n C.1 C.2.1 hd rfl (hL.get (i := 1) rfl) (hw p e R s m args below meth c H locs n0 k0 cells slots arr C hR hS hL e1 e2 e3 e4)
theorem G_astore1 {V : GV} {M : MT} {d pc : Nat} {ls : List (Option Value)} {st : List Value} {X : XT} {FI AI : FT} {AL : LT} {P : PT} {a0 : Option Value} {z : Option Value} {x : Nat} (n : Nat) (hd : dec M pc = .ok (.astore_n 1, 1)) (hn : pc + 1 = n) (hb : 1 < M.2.2.1) (hc : ncat a0 = true) (k : G V M d n (a0 :: some (.ref x) :: ls) st X FI AI AL P) : G V M d pc (a0 :: z :: ls) (.ref x :: st) X FI AI AL P := by
  subst hn
  refine G.step0 ?_ k
  intro r X' FI' AI' AL' hw p e R s m args below meth c H locs n0 k0 cells slots arr C hR hS hL e1 e2 e3 e4
  exact lv_astore_n C.1 C.2.1 hd rfl hL hb rfl (fun arr hl => hw p e R s m args below meth c H locs n0 k0 cells slots arr C hR hS (LR.st1 (ls := a0 :: z :: ls) hl (fun o _ h => by cases h; exact hc)) e1 e2 e3 e4)
theorem G_aload1w {V : GV} {M : MT} {d pc : Nat} {ls : List (Option Value)} {st : List Value} {X : XT} {FI AI : FT} {AL : LT} {P : PT} {a0 : Option Value} {x : Nat} (n : Nat) (hd : dec M pc = .ok (.aload 1, 2)) (hn : pc + 2 = n) (k : G V M d n (a0 :: some (.ref x) :: ls) (.ref x :: st) X FI AI AL P) : G V M d pc (a0 :: some (.ref x) :: ls) st X FI AI AL P := by
  subst hn
  refine G.step0 ?_ k
  intro r X' FI' AI' AL' hw p e R s m args below meth c H locs n0 k0 cells slots arr C hR hS hL e1 e2 e3 e4
  exact lv_aload C.1 C.2.1 hd (hL.get (i := 1) rfl) (hw p e R s m args below meth c H locs n0 k0 cells slots arr C hR hS hL e1 e2 e3 e4)
theorem G_astore1w {V : GV} {M : MT} {d pc : Nat} {ls : List (Option Value)} {st : List Value} {X : XT} {FI AI : FT} {AL : LT} {P : PT} {a0 : Option Value} {z : Option Value} {x : Nat} (n : Nat) (hd : dec M pc = .ok (.astore 1, 2)) (hn : pc + 2 = n) (hb : 1 < M.2.2.1) (hc : ncat a0 = true) (k : G V M d n (a0 :: some (.ref x) :: ls) st X FI AI AL P) : G V M d pc (a0 :: z :: ls) (.ref x :: st) X FI AI AL P := by
  subst hn
  refine G.step0 ?_ k
  intro r X' FI' AI' AL' hw p e R s m args below meth c H locs n0 k0 cells slots arr C hR hS hL e1 e2 e3 e4
  exact lv_astore C.1 C.2.1 hd hL hb rfl (fun arr hl => hw p e R s m args below meth c H locs n0 k0 cells slots arr C hR hS (LR.st1 (ls := a0 :: z :: ls) hl (fun o _ h => by cases h; exact hc)) e1 e2 e3 e4)
theorem G_iinc1 {V : GV} {M : MT} {d pc : Nat} {ls : List (Option Value)} {st : List Value} {X : XT} {FI AI : FT} {AL : LT} {P : PT} {a0 : Option Value} {x : Int32} {q : Int} (v : Int32) (n : Nat) (hd : dec M pc = .ok (.iinc 1 q, 3)) (hn : pc + 3 = n) (hb : 1 < M.2.2.1) (hc : ncat a0 = true) (hv : x + Int32.ofInt q = v) (k : G V M d n (a0 :: some (.int v) :: ls) st X FI AI AL P) : G V M d pc (a0 :: some (.int x) :: ls) st X FI AI AL P := by
  subst hn
  refine G.step0 ?_ k
  intro r X' FI' AI' AL' hw p e R s m args below meth c H locs n0 k0 cells slots arr C hR hS hL e1 e2 e3 e4
  obtain ⟨q0, hq0⟩ := List.getElem?_of_mem ((prs_mem (a0 :: some (.int x) :: ls) 0 (1, Value.int x)).mpr ⟨Nat.zero_le _, rfl⟩)
  exact lv_iinc C.1 C.2.1 hd hL hq0 hv hb rfl (fun arr hl => hw p e R s m args below meth c H locs n0 k0 cells slots arr C hR hS (LR.st1 (ls := a0 :: some (.int x) :: ls) hl (fun o _ h => by cases h; exact hc)) e1 e2 e3 e4)
theorem G_iincN1 {V : GV} {M : MT} {d pc : Nat} {ls : List (Option Value)} {st : List Value} {X : XT} {FI AI : FT} {AL : LT} {P : PT} {a0 : Option Value} {a : Nat} (n : Nat) (hd : dec M pc = .ok (.iinc 1 1, 3)) (hn : pc + 3 = n) (hb : 1 < M.2.2.1) (hc : ncat a0 = true) (k : G V M d n (a0 :: some (.int (nI (a + 1))) :: ls) st X FI AI AL P) : G V M d pc (a0 :: some (.int (nI a)) :: ls) st X FI AI AL P := G_iinc1 _ n hd hn hb hc (nI_1 a) k
theorem G_iload2 {V : GV} {M : MT} {d pc : Nat} {ls : List (Option Value)} {st : List Value} {X : XT} {FI AI : FT} {AL : LT} {P : PT} {a0 a1 : Option Value} {x : Int32} (n : Nat) (hd : dec M pc = .ok (.iload_n 2, 1)) (hn : pc + 1 = n) (k : G V M d n (a0 :: a1 :: some (.int x) :: ls) (.int x :: st) X FI AI AL P) : G V M d pc (a0 :: a1 :: some (.int x) :: ls) st X FI AI AL P := by
  subst hn
  refine G.step0 ?_ k
  intro r X' FI' AI' AL' hw p e R s m args below meth c H locs n0 k0 cells slots arr C hR hS hL e1 e2 e3 e4
  exact lv_iload_n C.1 C.2.1 hd rfl (hL.get (i := 2) rfl) (hw p e R s m args below meth c H locs n0 k0 cells slots arr C hR hS hL e1 e2 e3 e4)
theorem G_istore2 {V : GV} {M : MT} {d pc : Nat} {ls : List (Option Value)} {st : List Value} {X : XT} {FI AI : FT} {AL : LT} {P : PT} {a0 a1 : Option Value} {z : Option Value} {x : Int32} (n : Nat) (hd : dec M pc = .ok (.istore_n 2, 1)) (hn : pc + 1 = n) (hb : 2 < M.2.2.1) (hc : ncat a1 = true) (k : G V M d n (a0 :: a1 :: some (.int x) :: ls) st X FI AI AL P) : G V M d pc (a0 :: a1 :: z :: ls) (.int x :: st) X FI AI AL P := by
  subst hn
  refine G.step0 ?_ k
  intro r X' FI' AI' AL' hw p e R s m args below meth c H locs n0 k0 cells slots arr C hR hS hL e1 e2 e3 e4
  exact lv_istore_n C.1 C.2.1 hd rfl hL hb rfl (fun arr hl => hw p e R s m args below meth c H locs n0 k0 cells slots arr C hR hS (LR.st1 (ls := a0 :: a1 :: z :: ls) hl (fun o _ h => by cases h; exact hc)) e1 e2 e3 e4)
theorem G_iload2w {V : GV} {M : MT} {d pc : Nat} {ls : List (Option Value)} {st : List Value} {X : XT} {FI AI : FT} {AL : LT} {P : PT} {a0 a1 : Option Value} {x : Int32} (n : Nat) (hd : dec M pc = .ok (.iload 2, 2)) (hn : pc + 2 = n) (k : G V M d n (a0 :: a1 :: some (.int x) :: ls) (.int x :: st) X FI AI AL P) : G V M d pc (a0 :: a1 :: some (.int x) :: ls) st X FI AI AL P := by
  subst hn
  refine G.step0 ?_ k
  intro r X' FI' AI' AL' hw p e R s m args below meth c H locs n0 k0 cells slots arr C hR hS hL e1 e2 e3 e4
  exact lv_iload C.1 C.2.1 hd (hL.get (i := 2) rfl) (hw p e R s m args below meth c H locs n0 k0 cells slots arr C hR hS hL e1 e2 e3 e4)
theorem G_istore2w {V : GV} {M : MT} {d pc : Nat} {ls : List (Option Value)} {st : List Value} {X : XT} {FI AI : FT} {AL : LT} {P : PT} {a0 a1 : Option Value} {z : Option Value} {x : Int32} (n : Nat) (hd : dec M pc = .ok (.istore 2, 2)) (hn : pc + 2 = n) (hb : 2 < M.2.2.1) (hc : ncat a1 = true) (k : G V M d n (a0 :: a1 :: some (.int x) :: ls) st X FI AI AL P) : G V M d pc (a0 :: a1 :: z :: ls) (.int x :: st) X FI AI AL P := by
  subst hn
  refine G.step0 ?_ k
  intro r X' FI' AI' AL' hw p e R s m args below meth c H locs n0 k0 cells slots arr C hR hS hL e1 e2 e3 e4
  exact lv_istore C.1 C.2.1 hd hL hb rfl (fun arr hl => hw p e R s m args below meth c H locs n0 k0 cells slots arr C hR hS (LR.st1 (ls := a0 :: a1 :: z :: ls) hl (fun o _ h => by cases h; exact hc)) e1 e2 e3 e4)
theorem G_lload2 {V : GV} {M : MT} {d pc : Nat} {ls : List (Option Value)} {st : List Value} {X : XT} {FI AI : FT} {AL : LT} {P : PT} {a0 a1 : Option Value} {x : Int64} (n : Nat) (hd : dec M pc = .ok (.lload_n 2, 1)) (hn : pc + 1 = n) (k : G V M d n (a0 :: a1 :: some (.long x) :: ls) (.long x :: st) X FI AI AL P) : G V M d pc (a0 :: a1 :: some (.long x) :: ls) st X FI AI AL P := by
  subst hn
  refine G.step0 ?_ k
  intro r X' FI' AI' AL' hw p e R s m args below meth c H locs n0 k0 cells slots arr C hR hS hL e1 e2 e3 e4
  exact lv_lload_n C.1 C.2.1 hd rfl (hL.get (i := 2) rfl) (hw p e R s m args below meth c H locs n0 k0 cells slots arr C hR hS hL e1 e2 e3 e4)
theorem G_lstore2 {V : GV} {M : MT} {d pc : Nat} {ls : List (Option Value)} {st : List Value} {X : XT} {FI AI : FT} {AL : LT} {P : PT} {a0 a1 : Option Value} {z1 z2 : Option Value} {x : Int64} (n : Nat) (hd : dec M pc = .ok (.lstore_n 2, 1)) (hn : pc + 1 = n) (hb : 2 + 1 < M.2.2.1) (hc : ncat a1 = true) (k : G V M d n (a0 :: a1 :: some (.long x) :: none :: ls) st X FI AI AL P) : G V M d pc (a0 :: a1 :: z1 :: z2 :: ls) (.long x :: st) X FI AI AL P := by
  subst hn
  refine G.step0 ?_ k
  intro r X' FI' AI' AL' hw p e R s m args below meth c H locs n0 k0 cells slots arr C hR hS hL e1 e2 e3 e4
  exact lv_lstore_n C.1 C.2.1 hd rfl hL hb rfl (fun arr hl => hw p e R s m args below meth c H locs n0 k0 cells slots arr C hR hS (LR.st2 (ls := a0 :: a1 :: z1 :: z2 :: ls) hl (fun o _ h => by cases h; exact hc)) e1 e2 e3 e4)
theorem G_lload2w {V : GV} {M : MT} {d pc : Nat} {ls : List (Option Value)} {st : List Value} {X : XT} {FI AI : FT} {AL : LT} {P : PT} {a0 a1 : Option Value} {x : Int64} (n : Nat) (hd : dec M pc = .ok (.lload 2, 2)) (hn : pc + 2 = n) (k : G V M d n (a0 :: a1 :: some (.long x) :: ls) (.long x :: st) X FI AI AL P) : G V M d pc (a0 :: a1 :: some (.long x) :: ls) st X FI AI AL P := by
  subst hn
  refine G.step0 ?_ k
  intro r X' FI' AI' AL' hw p e R s m args below meth c H locs n0 k0 cells slots arr C hR hS hL e1 e2 e3 e4
  exact lv_lload C.1 C.2.1 hd (hL.get (i := 2) rfl) (hw p e R s m args below meth c H locs n0 k0 cells slots arr C hR hS hL e1 e2 e3 e4)
theorem G_lstore2w {V : GV} {M : MT} {d pc : Nat} {ls : List (Option Value)} {st : List Value} {X : XT} {FI AI : FT} {AL : LT} {P : PT} {a0 a1 : Option Value} {z1 z2 : Option Value} {x : Int64} (n : Nat) (hd : dec M pc = .ok (.lstore 2, 2)) (hn : pc + 2 = n) (hb : 2 + 1 < M.2.2.1) (hc : ncat a1 = true) (k : G V M d n (a0 :: a1 :: some (.long x) :: none :: ls) st X FI AI AL P) : G V M d pc (a0 :: a1 :: z1 :: z2 :: ls) (.long x :: st) X FI AI AL P := by
  subst hn
  refine G.step0 ?_ k
  intro r X' FI' AI' AL' hw p e R s m args below meth c H locs n0 k0 cells slots arr C hR hS hL e1 e2 e3 e4
  exact lv_lstore C.1 C.2.1 hd hL hb rfl (fun arr hl => hw p e R s m args below meth c H locs n0 k0 cells slots arr C hR hS (LR.st2 (ls := a0 :: a1 :: z1 :: z2 :: ls) hl (fun o _ h => by cases h; exact hc)) e1 e2 e3 e4)
theorem G_aload2 {V : GV} {M : MT} {d pc : Nat} {ls : List (Option Value)} {st : List Value} {X : XT} {FI AI : FT} {AL : LT} {P : PT} {a0 a1 : Option Value} {x : Nat} (n : Nat) (hd : dec M pc = .ok (.aload_n 2, 1)) (hn : pc + 1 = n) (k : G V M d n (a0 :: a1 :: some (.ref x) :: ls) (.ref x :: st) X FI AI AL P) : G V M d pc (a0 :: a1 :: some (.ref x) :: ls) st X FI AI AL P := by
  subst hn
  refine G.step0 ?_ k
  intro r X' FI' AI' AL' hw p e R s m args below meth c H locs n0 k0 cells slots arr C hR hS hL e1 e2 e3 e4
  exact lv_aload_n C.1 C.2.1 hd rfl (hL.get (i := 2) rfl) (hw p e R s m args below meth c H locs n0 k0 cells slots arr C hR hS hL e1 e2 e3 e4)
theorem G_astore2 {V : GV} {M : MT} {d pc : Nat} {ls : List (Option Value)} {st : List Value} {X : XT} {FI AI : FT} {AL : LT} {P : PT} {a0 a1 : Option Value} {z : Option Value} {x : Nat} (n : Nat) (hd : dec M pc = .ok (.astore_n 2, 1)) (hn : pc + 1 = n) (hb : 2 < M.2.2.1) (hc : ncat a1 = true) (k : G V M d n (a0 :: a1 :: some (.ref x) :: ls) st X FI AI AL P) : G V M d pc (a0 :: a1 :: z :: ls) (.ref x :: st) X FI AI AL P := by
  subst hn
  refine G.step0 ?_ k
  intro r X' FI' AI' AL' hw p e R s m args below meth c H locs n0 k0 cells slots arr C hR hS hL e1 e2 e3 e4
  exact lv_astore_n C.1 C.2.1 hd rfl hL hb rfl (fun arr hl => hw p e R s m args below meth c H locs n0 k0 cells slots arr C hR hS (LR.st1 (ls := a0 :: a1 :: z :: ls) hl (fun o _ h => by cases h; exact hc)) e1 e2 e3 e4)
theorem G_aload2w {V : GV} {M : MT} {d pc : Nat} {ls : List (Option Value)} {st : List Value} {X : XT} {FI AI : FT} {AL : LT} {P : PT} {a0 a1 : Option Value} {x : Nat} (n : Nat) (hd : dec M pc = .ok (.aload 2, 2)) (hn : pc + 2 = n) (k : G V M d n (a0 :: a1 :: some (.ref x) :: ls) (.ref x :: st) X FI AI AL P) : G V M d pc (a0 :: a1 :: some (.ref x) :: ls) st X FI AI AL P := by
  subst hn
  refine G.step0 ?_ k
  intro r X' FI' AI' AL' hw p e R s m args below meth c H locs n0 k0 cells slots arr C hR hS hL e1 e2 e3 e4
  exact lv_aload C.1 C.2.1 hd (hL.get (i := 2) rfl) (hw p e R s m args below meth c H locs n0 k0 cells slots arr C hR hS hL e1 e2 e3 e4)
theorem G_astore2w {V : GV} {M : MT} {d pc : Nat} {ls : List (Option Value)} {st : List Value} {X : XT} {FI AI : FT} {AL : LT} {P : PT} {a0 a1 : Option Value} {z : Option Value} {x : Nat} (n : Nat) (hd : dec M pc = .ok (.astore 2, 2)) (hn : pc + 2 = n) (hb : 2 < M.2.2.1) (hc : ncat a1 = true) (k : G V M d n (a0 :: a1 :: some (.ref x) :: ls) st X FI AI AL P) : G V M d pc (a0 :: a1 :: z :: ls) (.ref x :: st) X FI AI AL P := by
  subst hn
  refine G.step0 ?_ k
  intro r X' FI' AI' AL' hw p e R s m args below meth c H locs n0 k0 cells slots arr C hR hS hL e1 e2 e3 e4
  exact lv_astore C.1 C.2.1 hd hL hb rfl (fun arr hl => hw p e R s m args below meth c H locs n0 k0 cells slots arr C hR hS (LR.st1 (ls := a0 :: a1 :: z :: ls) hl (fun o _ h => by cases h; exact hc)) e1 e2 e3 e4)
theorem G_iinc2 {V : GV} {M : MT} {d pc : Nat} {ls : List (Option Value)} {st : List Value} {X : XT} {FI AI : FT} {AL : LT} {P : PT} {a0 a1 : Option Value} {x : Int32} {q : Int} (v : Int32) (n : Nat) (hd : dec M pc = .ok (.iinc 2 q, 3)) (hn : pc + 3 = n) (hb : 2 < M.2.2.1) (hc : ncat a1 = true) (hv : x + Int32.ofInt q = v) (k : G V M d n (a0 :: a1 :: some (.int v) :: ls) st X FI AI AL P) : G V M d pc (a0 :: a1 :: some (.int x) :: ls) st X FI AI AL P := by
  subst hn
  refine G.step0 ?_ k
  intro r X' FI' AI' AL' hw p e R s m args below meth c H locs n0 k0 cells slots arr C hR hS hL e1 e2 e3 e4
  obtain ⟨q0, hq0⟩ := List.getElem?_of_mem ((prs_mem (a0 :: a1 :: some (.int x) :: ls) 0 (2, Value.int x)).mpr ⟨Nat.zero_le _, rfl⟩)
  exact lv_iinc C.1 C.2.1 hd hL hq0 hv hb rfl (fun arr hl => hw p e R s m args below meth c H locs n0 k0 cells slots arr C hR hS (LR.st1 (ls := a0 :: a1 :: some (.int x) :: ls) hl (fun o _ h => by cases h; exact hc)) e1 e2 e3 e4)
theorem G_iincN2 {V : GV} {M : MT} {d pc : Nat} {ls : List (Option Value)} {st : List Value} {X : XT} {FI AI : FT} {AL : LT} {P : PT} {a0 a1 : Option Value} {a : Nat} (n : Nat) (hd : dec M pc = .ok (.iinc 2 1, 3)) (hn : pc + 3 = n) (hb : 2 < M.2.2.1) (hc : ncat a1 = true) (k : G V M d n (a0 :: a1 :: some (.int (nI (a + 1))) :: ls) st X FI AI AL P) : G V M d pc (a0 :: a1 :: some (.int (nI a)) :: ls) st X FI AI AL P := G_iinc2 _ n hd hn hb hc (nI_1 a) k
theorem G_iload3 {V : GV} {M : MT} {d pc : Nat} {ls : List (Option Value)} {st : List Value} {X : XT} {FI AI : FT} {AL : LT} {P : PT} {a0 a1 a2 : Option Value} {x : Int32} (n : Nat) (hd : dec M pc = .ok (.iload_n 3, 1)) (hn : pc + 1 = n) (k : G V M d n (a0 :: a1 :: a2 :: some (.int x) :: ls) (.int x :: st) X FI AI AL P) : G V M d pc (a0 :: a1 :: a2 :: some (.int x) :: ls) st X FI AI AL P := by
  subst hn
  refine G.step0 ?_ k
  intro r X' FI' AI' AL' hw p e R s m args below meth c H locs n0 k0 cells slots arr C hR hS hL e1 e2 e3 e4
  exact lv_iload_n C.1 C.2.1 hd rfl (hL.get (i := 3) rfl) (hw p e R s m args below meth c H locs n0 k0 cells slots arr C hR hS hL e1 e2 e3 e4)
theorem G_istore3 {V : GV} {M : MT} {d pc : Nat} {ls : List (Option Value)} {st : List Value} {X : XT} {FI AI : FT} {AL : LT} {P : PT} {a0 a1 a2 : Option Value} {z : Option Value} {x : Int32} (n : Nat) (hd : dec M pc = .ok (.istore_n 3, 1)) (hn : pc + 1 = n) (hb : 3 < M.2.2.1) (hc : ncat a2 = true) (k : G V M d n (a0 :: a1 :: a2 :: some (.int x) :: ls) st X FI AI AL P) : G V M d pc (a0 :: a1 :: a2 :: z :: ls) (.int x :: st) X FI AI AL P := by
  subst hn
  refine G.step0 ?_ k
  intro r X' FI' AI' AL' hw p e R s m args below meth c H locs n0 k0 cells slots arr C hR hS hL e1 e2 e3 e4
  exact lv_istore_n C.1 C.2.1 hd rfl hL hb rfl (fun arr hl => hw p e R s m args below meth c H locs n0 k0 cells slots arr C hR hS (LR.st1 (ls := a0 :: a1 :: a2 :: z :: ls) hl (fun o _ h => by cases h; exact hc)) e1 e2 e3 e4)
theorem G_iload3w {V : GV} {M : MT} {d pc : Nat} {ls : List (Option Value)} {st : List Value} {X : XT} {FI AI : FT} {AL : LT} {P : PT} {a0 a1 a2 : Option Value} {x : Int32} (n : Nat) (hd : dec M pc = .ok (.iload 3, 2)) (hn : pc + 2 = n) (k : G V M d n (a0 :: a1 :: a2 :: some (.int x) :: ls) (.int x :: st) X FI AI AL P) : G V M d pc (a0 :: a1 :: a2 :: some (.int x) :: ls) st X FI AI AL P := by
  subst hn
  refine G.step0 ?_ k
  intro r X' FI' AI' AL' hw p e R s m args below meth c H locs n0 k0 cells slots arr C hR hS hL e1 e2 e3 e4
  exact lv_iload C.1 C.2.1 hd (hL.get (i := 3) rfl) (hw p e R s m args below meth c H locs n0 k0 cells slots arr C hR hS hL e1 e2 e3 e4)
theorem G_istore3w {V : GV} {M : MT} {d pc : Nat} {ls : List (Option Value)} {st : List Value} {X : XT} {FI AI : FT} {AL : LT} {P : PT} {a0 a1 a2 : Option Value} {z : Option Value} {x : Int32} (n : Nat) (hd : dec M pc = .ok (.istore 3, 2)) (hn : pc + 2 = n) (hb : 3 < M.2.2.1) (hc : ncat a2 = true) (k : G V M d n (a0 :: a1 :: a2 :: some (.int x) :: ls) st X FI AI AL P) : G V M d pc (a0 :: a1 :: a2 :: z :: ls) (.int x :: st) X FI AI AL P := by
  subst hn
  refine G.step0 ?_ k
  intro r X' FI' AI' AL' hw p e R s m args below meth c H locs n0 k0 cells slots arr C hR hS hL e1 e2 e3 e4
  exact lv_istore C.1 C.2.1 hd hL hb rfl (fun arr hl => hw p e R s m args below meth c H locs n0 k0 cells slots arr C hR hS (LR.st1 (ls := a0 :: a1 :: a2 :: z :: ls) hl (fun o _ h => by cases h; exact hc)) e1 e2 e3 e4)
theorem G_lload3 {V : GV} {M : MT} {d pc : Nat} {ls : List (Option Value)} {st : List Value} {X : XT} {FI AI : FT} {AL : LT} {P : PT} {a0 a1 a2 : Option Value} {x : Int64} (n : Nat) (hd : dec M pc = .ok (.lload_n 3, 1)) (hn : pc + 1 = n) (k : G V M d n (a0 :: a1 :: a2 :: some (.long x) :: ls) (.long x :: st) X FI AI AL P) : G V M d pc (a0 :: a1 :: a2 :: some (.long x) :: ls) st X FI AI AL P := by
  subst hn
  refine G.step0 ?_ k
  intro r X' FI' AI' AL' hw p e R s m args below meth c H locs n0 k0 cells slots arr C hR hS hL e1 e2 e3 e4
  exact lv_lload_n C.1 C.2.1 hd rfl (hL.get (i := 3) rfl) (hw p e R s m args below meth c H locs n0 k0 cells slots arr C hR hS hL e1 e2 e3 e4)
theorem G_lstore3 {V : GV} {M : MT} {d pc : Nat} {ls : List (Option Value)} {st : List Value} {X : XT} {FI AI : FT} {AL : LT} {P : PT} {a0 a1 a2 : Option Value} {z1 z2 : Option Value} {x : Int64} (n : Nat) (hd : dec M pc = .ok (.lstore_n 3, 1)) (hn : pc + 1 = n) (hb : 3 + 1 < M.2.2.1) (hc : ncat a2 = true) (k : G V M d n (a0 :: a1 :: a2 :: some (.long x) :: none :: ls) st X FI AI AL P) : G V M d pc (a0 :: a1 :: a2 :: z1 :: z2 :: ls) (.long x :: st) X FI AI AL P := by
  subst hn
  refine G.step0 ?_ k
  intro r X' FI' AI' AL' hw p e R s m args below meth c H locs n0 k0 cells slots arr C hR hS hL e1 e2 e3 e4
  exact lv_lstore_n C.1 C.2.1 hd rfl hL hb rfl (fun arr hl => hw p e R s m args below meth c H locs n0 k0 cells slots arr C hR hS (LR.st2 (ls := a0 :: a1 :: a2 :: z1 :: z2 :: ls) hl (fun o _ h => by cases h; exact hc)) e1 e2 e3 e4)
theorem G_lload3w {V : GV} {M : MT} {d pc : Nat} {ls : List (Option Value)} {st : List Value} {X : XT} {FI AI : FT} {AL : LT} {P : PT} {a0 a1 a2 : Option Value} {x : Int64} (n : Nat) (hd : dec M pc = .ok (.lload 3, 2)) (hn : pc + 2 = n) (k : G V M d n (a0 :: a1 :: a2 :: some (.long x) :: ls) (.long x :: st) X FI AI AL P) : G V M d pc (a0 :: a1 :: a2 :: some (.long x) :: ls) st X FI AI AL P := by
  subst hn
  refine G.step0 ?_ k
  intro r X' FI' AI' AL' hw p e R s m args below meth c H locs n0 k0 cells slots arr C hR hS hL e1 e2 e3 e4
  exact lv_lload C.1 C.2.1 hd (hL.get (i := 3) rfl) (hw p e R s m args below meth c H locs n0 k0 cells slots arr C hR hS hL e1 e2 e3 e4)
theorem G_lstore3w {V : GV} {M : MT} {d pc : Nat} {ls : List (Option Value)} {st : List Value} {X : XT} {FI AI : FT} {AL : LT} {P : PT} {a0 a1 a2 : Option Value} {z1 z2 : Option Value} {x : Int64} (n : Nat) (hd : dec M pc = .ok (.lstore 3, 2)) (hn : pc + 2 = n) (hb : 3 + 1 < M.2.2.1) (hc : ncat a2 = true) (k : G V M d n (a0 :: a1 :: a2 :: some (.long x) :: none :: ls) st X FI AI AL P) : G V M d pc (a0 :: a1 :: a2 :: z1 :: z2 :: ls) (.long x :: st) X FI AI AL P := by
  subst hn
  refine G.step0 ?_ k
  intro r X' FI' AI' AL' hw p e R s m args below meth c H locs n0 k0 cells slots arr C hR hS hL e1 e2 e3 e4
  exact lv_lstore C.1 C.2.1 hd hL hb rfl (fun arr hl => hw p e R s m args below meth c H locs n0 k0 cells slots arr C hR hS (LR.st2 (ls := a0 :: a1 :: a2 :: z1 :: z2 :: ls) hl (fun o _ h => by cases h; exact hc)) e1 e2 e3 e4)
theorem G_aload3 {V : GV} {M : MT} {d pc : Nat} {ls : List (Option Value)} {st : List Value} {X : XT} {FI AI : FT} {AL : LT} {P : PT} {a0 a1 a2 : Option Value} {x : Nat} (n : Nat) (hd : dec M pc = .ok (.aload_n 3, 1)) (hn : pc + 1 = n) (k : G V M d n (a0 :: a1 :: a2 :: some (.ref x) :: ls) (.ref x :: st) X FI AI AL P) : G V M d pc (a0 :: a1 :: a2 :: some (.ref x) :: ls) st X FI AI AL P := by
  subst hn
  refine G.step0 ?_ k
  intro r X' FI' AI' AL' hw p e R s m args below meth c H locs n0 k0 cells slots arr C hR hS hL e1 e2 e3 e4
  exact lv_aload_n C.1 C.2.1 hd rfl (hL.get (i := 3) rfl) (hw p e R s m args below meth c H locs n0 k0 cells slots arr C hR hS hL e1 e2 e3 e4)
theorem G_astore3 {V : GV} {M : MT} {d pc : Nat} {ls : List (Option Value)} {st : List Value} {X : XT} {FI AI : FT} {AL : LT} {P : PT} {a0 a1 a2 : Option Value} {z : Option Value} {x : Nat} (n : Nat) (hd : dec M pc = .ok (.astore_n 3, 1)) (hn : pc + 1 = n) (hb : 3 < M.2.2.1) (hc : ncat a2 = true) (k : G V M d n (a0 :: a1 :: a2 :: some (.ref x) :: ls) st X FI AI AL P) : G V M d pc (a0 :: a1 :: a2 :: z :: ls) (.ref x :: st) X FI AI AL P := by
  subst hn
  refine G.step0 ?_ k
  intro r X' FI' AI' AL' hw p e R s m args below meth c H locs n0 k0 cells slots arr C hR hS hL e1 e2 e3 e4
  exact lv_astore_n C.1 C.2.1 hd rfl hL hb rfl (fun arr hl => hw p e R s m args below meth c H locs n0 k0 cells slots arr C hR hS (LR.st1 (ls := a0 :: a1 :: a2 :: z :: ls) hl (fun o _ h => by cases h; exact hc)) e1 e2 e3 e4)
theorem G_aload3w {V : GV} {M : MT} {d pc : Nat} {ls : List (Option Value)} {st : List Value} {X : XT} {FI AI : FT} {AL : LT} {P : PT} {a0 a1 a2 : Option Value} {x : Nat} (n : Nat) (hd : dec M pc = .ok (.aload 3, 2)) (hn : pc + 2 = n) (k : G V M d n (a0 :: a1 :: a2 :: some (.ref x) :: ls) (.ref x :: st) X FI AI AL P) : G V M d pc (a0 :: a1 :: a2 :: some (.ref x) :: ls) st X FI AI AL P := by
  subst hn
  refine G.step0 ?_ k
  intro r X' FI' AI' AL' hw p e R s m args below meth c H locs n0 k0 cells slots arr C hR hS hL e1 e2 e3 e4
  exact lv_aload C.1 C.2.1 hd (hL.get (i := 3) rfl) (hw p e R s m args below meth c H locs n0 k0 cells slots arr C hR hS hL e1 e2 e3 e4)
theorem G_astore3w {V : GV} {M : MT} {d pc : Nat} {ls : List (Option Value)} {st : List Value} {X : XT} {FI AI : FT} {AL : LT} {P : PT} {a0 a1 a2 : Option Value} {z : Option Value} {x : Nat} (n : Nat) (hd : dec M pc = .ok (.astore 3, 2)) (hn : pc + 2 = n) (hb : 3 < M.2.2.1) (hc : ncat a2 = true) (k : G V M d n (a0 :: a1 :: a2 :: some (.ref x) :: ls) st X FI AI AL P) : G V M d pc (a0 :: a1 :: a2 :: z :: ls) (.ref x :: st) X FI AI AL P := by
  subst hn
  refine G.step0 ?_ k
  intro r X' FI' AI' AL' hw p e R s m args below meth c H locs n0 k0 cells slots arr C hR hS hL e1 e2 e3 e4
  exact lv_astore C.1 C.2.1 hd hL hb rfl (fun arr hl => hw p e R s m args below meth c H locs n0 k0 cells slots arr C hR hS (LR.st1 (ls := a0 :: a1 :: a2 :: z :: ls) hl (fun o _ h => by cases h; exact hc)) e1 e2 e3 e4)
theorem G_iinc3 {V : GV} {M : MT} {d pc : Nat} {ls : List (Option Value)} {st : List Value} {X : XT} {FI AI : FT} {AL : LT} {P : PT} {a0 a1 a2 : Option Value} {x : Int32} {q : Int} (v : Int32) (n : Nat) (hd : dec M pc = .ok (.iinc 3 q, 3)) (hn : pc + 3 = n) (hb : 3 < M.2.2.1) (hc : ncat a2 = true) (hv : x + Int32.ofInt q = v) (k : G V M d n (a0 :: a1 :: a2 :: some (.int v) :: ls) st X FI AI AL P) : G V M d pc (a0 :: a1 :: a2 :: some (.int x) :: ls) st X FI AI AL P := by
  subst hn
  refine G.step0 ?_ k
  intro r X' FI' AI' AL' hw p e R s m args below meth c H locs n0 k0 cells slots arr C hR hS hL e1 e2 e3 e4
  obtain ⟨q0, hq0⟩ := List.getElem?_of_mem ((prs_mem (a0 :: a1 :: a2 :: some (.int x) :: ls) 0 (3, Value.int x)).mpr ⟨Nat.zero_le _, rfl⟩)
  exact lv_iinc C.1 C.2.1 hd hL hq0 hv hb rfl (fun arr hl => hw p e R s m args below meth c H locs n0 k0 cells slots arr C hR hS (LR.st1 (ls := a0 :: a1 :: a2 :: some (.int x) :: ls) hl (fun o _ h => by cases h; exact hc)) e1 e2 e3 e4)
theorem G_iincN3 {V : GV} {M : MT} {d pc : Nat} {ls : List (Option Value)} {st : List Value} {X : XT} {FI AI : FT} {AL : LT} {P : PT} {a0 a1 a2 : Option Value} {a : Nat} (n : Nat) (hd : dec M pc = .ok (.iinc 3 1, 3)) (hn : pc + 3 = n) (hb : 3 < M.2.2.1) (hc : ncat a2 = true) (k : G V M d n (a0 :: a1 :: a2 :: some (.int (nI (a + 1))) :: ls) st X FI AI AL P) : G V M d pc (a0 :: a1 :: a2 :: some (.int (nI a)) :: ls) st X FI AI AL P := G_iinc3 _ n hd hn hb hc (nI_1 a) k
theorem G_iload4 {V : GV} {M : MT} {d pc : Nat} {ls : List (Option Value)} {st : List Value} {X : XT} {FI AI : FT} {AL : LT} {P : PT} {a0 a1 a2 a3 : Option Value} {x : Int32} (n : Nat) (hd : dec M pc = .ok (.iload 4, 2)) (hn : pc + 2 = n) (k : G V M d n (a0 :: a1 :: a2 :: a3 :: some (.int x) :: ls) (.int x :: st) X FI AI AL P) : G V M d pc (a0 :: a1 :: a2 :: a3 :: some (.int x) :: ls) st X FI AI AL P := by
  subst hn
  refine G.step0 ?_ k
  intro r X' FI' AI' AL' hw p e R s m args below meth c H locs n0 k0 cells slots arr C hR hS hL e1 e2 e3 e4
  exact lv_iload C.1 C.2.1 hd (hL.get (i := 4) rfl) (hw p e R s m args below meth c H locs n0 k0 cells slots arr C hR hS hL e1 e2 e3 e4)
theorem G_istore4 {V : GV} {M : MT} {d pc : Nat} {ls : List (Option Value)} {st : List Value} {X : XT} {FI AI : FT} {AL : LT} {P : PT} {a0 a1 a2 a3 : Option Value} {z : Option Value} {x : Int32} (n : Nat) (hd : dec M pc = .ok (.istore 4, 2)) (hn : pc + 2 = n) (hb : 4 < M.2.2.1) (hc : ncat a3 = true) (k : G V M d n (a0 :: a1 :: a2 :: a3 :: some (.int x) :: ls) st X FI AI AL P) : G V M d pc (a0 :: a1 :: a2 :: a3 :: z :: ls) (.int x :: st) X FI AI AL P := by
  subst hn
  refine G.step0 ?_ k
  intro r X' FI' AI' AL' hw p e R s m args below meth c H locs n0 k0 cells slots arr C hR hS hL e1 e2 e3 e4
  exact lv_istore C.1 C.2.1 hd hL hb rfl (fun arr hl => hw p e R s m args below meth c H locs n0 k0 cells slots arr C hR hS (LR.st1 (ls := a0 :: a1 :: a2 :: a3 :: z :: ls) hl (fun o _ h => by cases h; exact hc)) e1 e2 e3 e4)
theorem G_lload4 {V : GV} {M : MT} {d pc : Nat} {ls : List (Option Value)} {st : List Value} {X : XT} {FI AI : FT} {AL : LT} {P : PT} {a0 a1 a2 a3 : Option Value} {x : Int64} (n : Nat) (hd : dec M pc = .ok (.lload 4, 2)) (hn : pc + 2 = n) (k : G V M d n (a0 :: a1 :: a2 :: a3 :: some (.long x) :: ls) (.long x :: st) X FI AI AL P) : G V M d pc (a0 :: a1 :: a2 :: a3 :: some (.long x) :: ls) st X FI AI AL P := by
  subst hn
  refine G.step0 ?_ k
  intro r X' FI' AI' AL' hw p e R s m args below meth c H locs n0 k0 cells slots arr C hR hS hL e1 e2 e3 e4
  exact lv_lload C.1 C.2.1 hd (hL.get (i := 4) rfl) (hw p e R s m args below meth c H locs n0 k0 cells slots arr C hR hS hL e1 e2 e3 e4)
theorem G_lstore4 {V : GV} {M : MT} {d pc : Nat} {ls : List (Option Value)} {st : List Value} {X : XT} {FI AI : FT} {AL : LT} {P : PT} {a0 a1 a2 a3 : Option Value} {z1 z2 : Option Value} {x : Int64} (n : Nat) (hd : dec M pc = .ok (.lstore 4, 2)) (hn : pc + 2 = n) (hb : 4 + 1 < M.2.2.1) (hc : ncat a3 = true) (k : G V M d n (a0 :: a1 :: a2 :: a3 :: some (.long x) :: none :: ls) st X FI AI AL P) : G V M d pc (a0 :: a1 :: a2 :: a3 :: z1 :: z2 :: ls) (.long x :: st) X FI AI AL P := by
  subst hn
  refine G.step0 ?_ k
  intro r X' FI' AI' AL' hw p e R s m args below meth c H locs n0 k0 cells slots arr C hR hS hL e1 e2 e3 e4
  exact lv_lstore C.1 C.2.1 hd hL hb rfl (fun arr hl => hw p e R s m args below meth c H locs n0 k0 cells slots arr C hR hS (LR.st2 (ls := a0 :: a1 :: a2 :: a3 :: z1 :: z2 :: ls) hl (fun o _ h => by cases h; exact hc)) e1 e2 e3 e4)
theorem G_aload4 {V : GV} {M : MT} {d pc : Nat} {ls : List (Option Value)} {st : List Value} {X : XT} {FI AI : FT} {AL : LT} {P : PT} {a0 a1 a2 a3 : Option Value} {x : Nat} (n : Nat) (hd : dec M pc = .ok (.aload 4, 2)) (hn : pc + 2 = n) (k : G V M d n (a0 :: a1 :: a2 :: a3 :: some (.ref x) :: ls) (.ref x :: st) X FI AI AL P) : G V M d pc (a0 :: a1 :: a2 :: a3 :: some (.ref x) :: ls) st X FI AI AL P := by
  subst hn
  refine G.step0 ?_ k
  intro r X' FI' AI' AL' hw p e R s m args below meth c H locs n0 k0 cells slots arr C hR hS hL e1 e2 e3 e4
  exact lv_aload C.1 C.2.1 hd (hL.get (i := 4) rfl) (hw p e R s m args below meth c H locs n0 k0 cells slots arr C hR hS hL e1 e2 e3 e4)
theorem G_astore4 {V : GV} {M : MT} {d pc : Nat} {ls : List (Option Value)} {st : List Value} {X : XT} {FI AI : FT} {AL : LT} {P : PT} {a0 a1 a2 a3 : Option Value} {z : Option Value} {x : Nat} (n : Nat) (hd : dec M pc = .ok (.astore 4, 2)) (hn : pc + 2 = n) (hb : 4 < M.2.2.1) (hc : ncat a3 = true) (k : G V M d n (a0 :: a1 :: a2 :: a3 :: some (.ref x) :: ls) st X FI AI AL P) : G V M d pc (a0 :: a1 :: a2 :: a3 :: z :: ls) (.ref x :: st) X FI AI AL P := by
  subst hn
  refine G.step0 ?_ k
  intro r X' FI' AI' AL' hw p e R s m args below meth c H locs n0 k0 cells slots arr C hR hS hL e1 e2 e3 e4
  exact lv_astore C.1 C.2.1 hd hL hb rfl (fun arr hl => hw p e R s m args below meth c H locs n0 k0 cells slots arr C hR hS (LR.st1 (ls := a0 :: a1 :: a2 :: a3 :: z :: ls) hl (fun o _ h => by cases h; exact hc)) e1 e2 e3 e4)
theorem G_iinc4 {V : GV} {M : MT} {d pc : Nat} {ls : List (Option Value)} {st : List Value} {X : XT} {FI AI : FT} {AL : LT} {P : PT} {a0 a1 a2 a3 : Option Value} {x : Int32} {q : Int} (v : Int32) (n : Nat) (hd : dec M pc = .ok (.iinc 4 q, 3)) (hn : pc + 3 = n) (hb : 4 < M.2.2.1) (hc : ncat a3 = true) (hv : x + Int32.ofInt q = v) (k : G V M d n (a0 :: a1 :: a2 :: a3 :: some (.int v) :: ls) st X FI AI AL P) : G V M d pc (a0 :: a1 :: a2 :: a3 :: some (.int x) :: ls) st X FI AI AL P := by
  subst hn
  refine G.step0 ?_ k
  intro r X' FI' AI' AL' hw p e R s m args below meth c H locs n0 k0 cells slots arr C hR hS hL e1 e2 e3 e4
  obtain ⟨q0, hq0⟩ := List.getElem?_of_mem ((prs_mem (a0 :: a1 :: a2 :: a3 :: some (.int x) :: ls) 0 (4, Value.int x)).mpr ⟨Nat.zero_le _, rfl⟩)
  exact lv_iinc C.1 C.2.1 hd hL hq0 hv hb rfl (fun arr hl => hw p e R s m args below meth c H locs n0 k0 cells slots arr C hR hS (LR.st1 (ls := a0 :: a1 :: a2 :: a3 :: some (.int x) :: ls) hl (fun o _ h => by cases h; exact hc)) e1 e2 e3 e4)
theorem G_iincN4 {V : GV} {M : MT} {d pc : Nat} {ls : List (Option Value)} {st : List Value} {X : XT} {FI AI : FT} {AL : LT} {P : PT} {a0 a1 a2 a3 : Option Value} {a : Nat} (n : Nat) (hd : dec M pc = .ok (.iinc 4 1, 3)) (hn : pc + 3 = n) (hb : 4 < M.2.2.1) (hc : ncat a3 = true) (k : G V M d n (a0 :: a1 :: a2 :: a3 :: some (.int (nI (a + 1))) :: ls) st X FI AI AL P) : G V M d pc (a0 :: a1 :: a2 :: a3 :: some (.int (nI a)) :: ls) st X FI AI AL P := G_iinc4 _ n hd hn hb hc (nI_1 a) k
theorem G_iload5 {V : GV} {M : MT} {d pc : Nat} {ls : List (Option Value)} {st : List Value} {X : XT} {FI AI : FT} {AL : LT} {P : PT} {a0 a1 a2 a3 a4 : Option Value} {x : Int32} (n : Nat) (hd : dec M pc = .ok (.iload 5, 2)) (hn : pc + 2 = n) (k : G V M d n (a0 :: a1 :: a2 :: a3 :: a4 :: some (.int x) :: ls) (.int x :: st) X FI AI AL P) : G V M d pc (a0 :: a1 :: a2 :: a3 :: a4 :: some (.int x) :: ls) st X FI AI AL P := by
  subst hn
  refine G.step0 ?_ k
  intro r X' FI' AI' AL' hw p e R s m args below meth c H locs n0 k0 cells slots arr C hR hS hL e1 e2 e3 e4
  exact lv_iload C.1 C.2.1 hd (hL.get (i := 5) rfl) (hw p e R s m args below meth c H locs n0 k0 cells slots arr C hR hS hL e1 e2 e3 e4)
theorem G_istore5 {V : GV} {M : MT} {d pc : Nat} {ls : List (Option Value)} {st : List Value} {X : XT} {FI AI : FT} {AL : LT} {P : PT} {a0 a1 a2 a3 a4 : Option Value} {z : Option Value} {x : Int32} (n : Nat) (hd : dec M pc = .ok (.istore 5, 2)) (hn : pc + 2 = n) (hb : 5 < M.2.2.1) (hc : ncat a4 = true) (k : G V M d n (a0 :: a1 :: a2 :: a3 :: a4 :: some (.int x) :: ls) st X FI AI AL P) : G V M d pc (a0 :: a1 :: a2 :: a3 :: a4 :: z :: ls) (.int x :: st) X FI AI AL P := by
  subst hn
  refine G.step0 ?_ k
  intro r X' FI' AI' AL' hw p e R s m args below meth c H locs n0 k0 cells slots arr C hR hS hL e1 e2 e3 e4
  exact lv_istore C.1 C.2.1 hd hL hb rfl (fun arr hl => hw p e R s m args below meth c H locs n0 k0 cells slots arr C hR hS (LR.st1 (ls := a0 :: a1 :: a2 :: a3 :: a4 :: z :: ls) hl (fun o _ h => by cases h; exact hc)) e1 e2 e3 e4)
theorem G_lload5 {V : GV} {M : MT} {d pc : Nat} {ls : List (Option Value)} {st : List Value} {X : XT} {FI AI : FT} {AL : LT} {P : PT} {a0 a1 a2 a3 a4 : Option Value} {x : Int64} (n : Nat) (hd : dec M pc = .ok (.lload 5, 2)) (hn : pc + 2 = n) (k : G V M d n (a0 :: a1 :: a2 :: a3 :: a4 :: some (.long x) :: ls) (.long x :: st) X FI AI AL P) : G V M d pc (a0 :: a1 :: a2 :: a3 :: a4 :: some (.long x) :: ls) st X FI AI AL P := by
  subst hn
  refine G.step0 ?_ k
  intro r X' FI' AI' AL' hw p e R s m args below meth c H locs n0 k0 cells slots arr C hR hS hL e1 e2 e3 e4
  exact lv_lload C.1 C.2.1 hd (hL.get (i := 5) rfl) (hw p e R s m args below meth c H locs n0 k0 cells slots arr C hR hS hL e1 e2 e3 e4)
theorem G_lstore5 {V : GV} {M : MT} {d pc : Nat} {ls : List (Option Value)} {st : List Value} {X : XT} {FI AI : FT} {AL : LT} {P : PT} {a0 a1 a2 a3 a4 : Option Value} {z1 z2 : Option Value} {x : Int64} (n : Nat) (hd : dec M pc = .ok (.lstore 5, 2)) (hn : pc + 2 = n) (hb : 5 + 1 < M.2.2.1) (hc : ncat a4 = true) (k : G V M d n (a0 :: a1 :: a2 :: a3 :: a4 :: some (.long x) :: none :: ls) st X FI AI AL P) : G V M d pc (a0 :: a1 :: a2 :: a3 :: a4 :: z1 :: z2 :: ls) (.long x :: st) X FI AI AL P := by
  subst hn
  refine G.step0 ?_ k
  intro r X' FI' AI' AL' hw p e R s m args below meth c H locs n0 k0 cells slots arr C hR hS hL e1 e2 e3 e4
  exact lv_lstore C.1 C.2.1 hd hL hb rfl (fun arr hl => hw p e R s m args below meth c H locs n0 k0 cells slots arr C hR hS (LR.st2 (ls := a0 :: a1 :: a2 :: a3 :: a4 :: z1 :: z2 :: ls) hl (fun o _ h => by cases h; exact hc)) e1 e2 e3 e4)
theorem G_aload5 {V : GV} {M : MT} {d pc : Nat} {ls : List (Option Value)} {st : List Value} {X : XT} {FI AI : FT} {AL : LT} {P : PT} {a0 a1 a2 a3 a4 : Option Value} {x : Nat} (n : Nat) (hd : dec M pc = .ok (.aload 5, 2)) (hn : pc + 2 = n) (k : G V M d n (a0 :: a1 :: a2 :: a3 :: a4 :: some (.ref x) :: ls) (.ref x :: st) X FI AI AL P) : G V M d pc (a0 :: a1 :: a2 :: a3 :: a4 :: some (.ref x) :: ls) st X FI AI AL P := by
  subst hn
  refine G.step0 ?_ k
  intro r X' FI' AI' AL' hw p e R s m args below meth c H locs n0 k0 cells slots arr C hR hS hL e1 e2 e3 e4
  exact lv_aload C.1 C.2.1 hd (hL.get (i := 5) rfl) (hw p e R s m args below meth c H locs n0 k0 cells slots arr C hR hS hL e1 e2 e3 e4)
theorem G_astore5 {V : GV} {M : MT} {d pc : Nat} {ls : List (Option Value)} {st : List Value} {X : XT} {FI AI : FT} {AL : LT} {P : PT} {a0 a1 a2 a3 a4 : Option Value} {z : Option Value} {x : Nat} (n : Nat) (hd : dec M pc = .ok (.astore 5, 2)) (hn : pc + 2 = n) (hb : 5 < M.2.2.1) (hc : ncat a4 = true) (k : G V M d n (a0 :: a1 :: a2 :: a3 :: a4 :: some (.ref x) :: ls) st X FI AI AL P) : G V M d pc (a0 :: a1 :: a2 :: a3 :: a4 :: z :: ls) (.ref x :: st) X FI AI AL P := by
  subst hn
  refine G.step0 ?_ k
  intro r X' FI' AI' AL' hw p e R s m args below meth c H locs n0 k0 cells slots arr C hR hS hL e1 e2 e3 e4
  exact lv_astore C.1 C.2.1 hd hL hb rfl (fun arr hl => hw p e R s m args below meth c H locs n0 k0 cells slots arr C hR hS (LR.st1 (ls := a0 :: a1 :: a2 :: a3 :: a4 :: z :: ls) hl (fun o _ h => by cases h; exact hc)) e1 e2 e3 e4)
theorem G_iinc5 {V : GV} {M : MT} {d pc : Nat} {ls : List (Option Value)} {st : List Value} {X : XT} {FI AI : FT} {AL : LT} {P : PT} {a0 a1 a2 a3 a4 : Option Value} {x : Int32} {q : Int} (v : Int32) (n : Nat) (hd : dec M pc = .ok (.iinc 5 q, 3)) (hn : pc + 3 = n) (hb : 5 < M.2.2.1) (hc : ncat a4 = true) (hv : x + Int32.ofInt q = v) (k : G V M d n (a0 :: a1 :: a2 :: a3 :: a4 :: some (.int v) :: ls) st X FI AI AL P) : G V M d pc (a0 :: a1 :: a2 :: a3 :: a4 :: some (.int x) :: ls) st X FI AI AL P := by
  subst hn
  refine G.step0 ?_ k
  intro r X' FI' AI' AL' hw p e R s m args below meth c H locs n0 k0 cells slots arr C hR hS hL e1 e2 e3 e4
  obtain ⟨q0, hq0⟩ := List.getElem?_of_mem ((prs_mem (a0 :: a1 :: a2 :: a3 :: a4 :: some (.int x) :: ls) 0 (5, Value.int x)).mpr ⟨Nat.zero_le _, rfl⟩)
  exact lv_iinc C.1 C.2.1 hd hL hq0 hv hb rfl (fun arr hl => hw p e R s m args below meth c H locs n0 k0 cells slots arr C hR hS (LR.st1 (ls := a0 :: a1 :: a2 :: a3 :: a4 :: some (.int x) :: ls) hl (fun o _ h => by cases h; exact hc)) e1 e2 e3 e4)
theorem G_iincN5 {V : GV} {M : MT} {d pc : Nat} {ls : List (Option Value)} {st : List Value} {X : XT} {FI AI : FT} {AL : LT} {P : PT} {a0 a1 a2 a3 a4 : Option Value} {a : Nat} (n : Nat) (hd : dec M pc = .ok (.iinc 5 1, 3)) (hn : pc + 3 = n) (hb : 5 < M.2.2.1) (hc : ncat a4 = true) (k : G V M d n (a0 :: a1 :: a2 :: a3 :: a4 :: some (.int (nI (a + 1))) :: ls) st X FI AI AL P) : G V M d pc (a0 :: a1 :: a2 :: a3 :: a4 :: some (.int (nI a)) :: ls) st X FI AI AL P := G_iinc5 _ n hd hn hb hc (nI_1 a) k
theorem G_iload6 {V : GV} {M : MT} {d pc : Nat} {ls : List (Option Value)} {st : List Value} {X : XT} {FI AI : FT} {AL : LT} {P : PT} {a0 a1 a2 a3 a4 a5 : Option Value} {x : Int32} (n : Nat) (hd : dec M pc = .ok (.iload 6, 2)) (hn : pc + 2 = n) (k : G V M d n (a0 :: a1 :: a2 :: a3 :: a4 :: a5 :: some (.int x) :: ls) (.int x :: st) X FI AI AL P) : G V M d pc (a0 :: a1 :: a2 :: a3 :: a4 :: a5 :: some (.int x) :: ls) st X FI AI AL P := by
  subst hn
  refine G.step0 ?_ k
  intro r X' FI' AI' AL' hw p e R s m args below meth c H locs n0 k0 cells slots arr C hR hS hL e1 e2 e3 e4
  exact lv_iload C.1 C.2.1 hd (hL.get (i := 6) rfl) (hw p e R s m args below meth c H locs n0 k0 cells slots arr C hR hS hL e1 e2 e3 e4)
theorem G_istore6 {V : GV} {M : MT} {d pc : Nat} {ls : List (Option Value)} {st : List Value} {X : XT} {FI AI : FT} {AL : LT} {P : PT} {a0 a1 a2 a3 a4 a5 : Option Value} {z : Option Value} {x : Int32} (n : Nat) (hd : dec M pc = .ok (.istore 6, 2)) (hn : pc + 2 = n) (hb : 6 < M.2.2.1) (hc : ncat a5 = true) (k : G V M d n (a0 :: a1 :: a2 :: a3 :: a4 :: a5 :: some (.int x) :: ls) st X FI AI AL P) : G V M d pc (a0 :: a1 :: a2 :: a3 :: a4 :: a5 :: z :: ls) (.int x :: st) X FI AI AL P := by
  subst hn
  refine G.step0 ?_ k
  intro r X' FI' AI' AL' hw p e R s m args below meth c H locs n0 k0 cells slots arr C hR hS hL e1 e2 e3 e4
  exact lv_istore C.1 C.2.1 hd hL hb rfl (fun arr hl => hw p e R s m args below meth c H locs n0 k0 cells slots arr C hR hS (LR.st1 (ls := a0 :: a1 :: a2 :: a3 :: a4 :: a5 :: z :: ls) hl (fun o _ h => by cases h; exact hc)) e1 e2 e3 e4)
theorem G_lload6 {V : GV} {M : MT} {d pc : Nat} {ls : List (Option Value)} {st : List Value} {X : XT} {FI AI : FT} {AL : LT} {P : PT} {a0 a1 a2 a3 a4 a5 : Option Value} {x : Int64} (n : Nat) (hd : dec M pc = .ok (.lload 6, 2)) (hn : pc + 2 = n) (k : G V M d n (a0 :: a1 :: a2 :: a3 :: a4 :: a5 :: some (.long x) :: ls) (.long x :: st) X FI AI AL P) : G V M d pc (a0 :: a1 :: a2 :: a3 :: a4 :: a5 :: some (.long x) :: ls) st X FI AI AL P := by
  subst hn
  refine G.step0 ?_ k
  intro r X' FI' AI' AL' hw p e R s m args below meth c H locs n0 k0 cells slots arr C hR hS hL e1 e2 e3 e4
  exact lv_lload C.1 C.2.1 hd (hL.get (i := 6) rfl) (hw p e R s m args below meth c H locs n0 k0 cells slots arr C hR hS hL e1 e2 e3 e4)
theorem G_lstore6 {V : GV} {M : MT} {d pc : Nat} {ls : List (Option Value)} {st : List Value} {X : XT} {FI AI : FT} {AL : LT} {P : PT} {a0 a1 a2 a3 a4 a5 : Option Value} {z1 z2 : Option Value} {x : Int64} (n : Nat) (hd : dec M pc = .ok (.lstore 6, 2)) (hn : pc + 2 = n) (hb : 6 + 1 < M.2.2.1) (hc : ncat a5 = true) (k : G V M d n (a0 :: a1 :: a2 :: a3 :: a4 :: a5 :: some (.long x) :: none :: ls) st X FI AI AL P) : G V M d pc (a0 :: a1 :: a2 :: a3 :: a4 :: a5 :: z1 :: z2 :: ls) (.long x :: st) X FI AI AL P := by
  subst hn
  refine G.step0 ?_ k
  intro r X' FI' AI' AL' hw p e R s m args below meth c H locs n0 k0 cells slots arr C hR hS hL e1 e2 e3 e4
  exact lv_lstore C.1 C.2.1 hd hL hb rfl (fun arr hl => hw p e R s m args below meth c H locs n0 k0 cells slots arr C hR hS (LR.st2 (ls := a0 :: a1 :: a2 :: a3 :: a4 :: a5 :: z1 :: z2 :: ls) hl (fun o _ h => by cases h; exact hc)) e1 e2 e3 e4)
theorem G_aload6 {V : GV} {M : MT} {d pc : Nat} {ls : List (Option Value)} {st : List Value} {X : XT} {FI AI : FT} {AL : LT} {P : PT} {a0 a1 a2 a3 a4 a5 : Option Value} {x : Nat} (n : Nat) (hd : dec M pc = .ok (.aload 6, 2)) (hn : pc + 2 = n) (k : G V M d n (a0 :: a1 :: a2 :: a3 :: a4 :: a5 :: some (.ref x) :: ls) (.ref x :: st) X FI AI AL P) : G V M d pc (a0 :: a1 :: a2 :: a3 :: a4 :: a5 :: some (.ref x) :: ls) st X FI AI AL P := by
  subst hn
  refine G.step0 ?_ k
  intro r X' FI' AI' AL' hw p e R s m args below meth c H locs n0 k0 cells slots arr C hR hS hL e1 e2 e3 e4
  exact lv_aload C.1 C.2.1 hd (hL.get (i := 6) rfl) (hw p e R s m args below meth c H locs n0 k0 cells slots arr C hR hS hL e1 e2 e3 e4)
theorem G_astore6 {V : GV} {M : MT} {d pc : Nat} {ls : List (Option Value)} {st : List Value} {X : XT} {FI AI : FT} {AL : LT} {P : PT} {a0 a1 a2 a3 a4 a5 : Option Value} {z : Option Value} {x : Nat} (n : Nat) (hd : dec M pc = .ok (.astore 6, 2)) (hn : pc + 2 = n) (hb : 6 < M.2.2.1) (hc : ncat a5 = true) (k : G V M d n (a0 :: a1 :: a2 :: a3 :: a4 :: a5 :: some (.ref x) :: ls) st X FI AI AL P) : G V M d pc (a0 :: a1 :: a2 :: a3 :: a4 :: a5 :: z :: ls) (.ref x :: st) X FI AI AL P := by
  subst hn
  refine G.step0 ?_ k
  intro r X' FI' AI' AL' hw p e R s m args below meth c H locs n0 k0 cells slots arr C hR hS hL e1 e2 e3 e4
  exact lv_astore C.1 C.2.1 hd hL hb rfl (fun arr hl => hw p e R s m args below meth c H locs n0 k0 cells slots arr C hR hS (LR.st1 (ls := a0 :: a1 :: a2 :: a3 :: a4 :: a5 :: z :: ls) hl (fun o _ h => by cases h; exact hc)) e1 e2 e3 e4)
theorem G_iinc6 {V : GV} {M : MT} {d pc : Nat} {ls : List (Option Value)} {st : List Value} {X : XT} {FI AI : FT} {AL : LT} {P : PT} {a0 a1 a2 a3 a4 a5 : Option Value} {x : Int32} {q : Int} (v : Int32) (n : Nat) (hd : dec M pc = .ok (.iinc 6 q, 3)) (hn : pc + 3 = n) (hb : 6 < M.2.2.1) (hc : ncat a5 = true) (hv : x + Int32.ofInt q = v) (k : G V M d n (a0 :: a1 :: a2 :: a3 :: a4 :: a5 :: some (.int v) :: ls) st X FI AI AL P) : G V M d pc (a0 :: a1 :: a2 :: a3 :: a4 :: a5 :: some (.int x) :: ls) st X FI AI AL P := by
  subst hn
  refine G.step0 ?_ k
  intro r X' FI' AI' AL' hw p e R s m args below meth c H locs n0 k0 cells slots arr C hR hS hL e1 e2 e3 e4
  obtain ⟨q0, hq0⟩ := List.getElem?_of_mem ((prs_mem (a0 :: a1 :: a2 :: a3 :: a4 :: a5 :: some (.int x) :: ls) 0 (6, Value.int x)).mpr ⟨Nat.zero_le _, rfl⟩)
  exact lv_iinc C.1 C.2.1 hd hL hq0 hv hb rfl (fun arr hl => hw p e R s m args below meth c H locs n0 k0 cells slots arr C hR hS (LR.st1 (ls := a0 :: a1 :: a2 :: a3 :: a4 :: a5 :: some (.int x) :: ls) hl (fun o _ h => by cases h; exact hc)) e1 e2 e3 e4)
theorem G_iincN6 {V : GV} {M : MT} {d pc : Nat} {ls : List (Option Value)} {st : List Value} {X : XT} {FI AI : FT} {AL : LT} {P : PT} {a0 a1 a2 a3 a4 a5 : Option Value} {a : Nat} (n : Nat) (hd : dec M pc = .ok (.iinc 6 1, 3)) (hn : pc + 3 = n) (hb : 6 < M.2.2.1) (hc : ncat a5 = true) (k : G V M d n (a0 :: a1 :: a2 :: a3 :: a4 :: a5 :: some (.int (nI (a + 1))) :: ls) st X FI AI AL P) : G V M d pc (a0 :: a1 :: a2 :: a3 :: a4 :: a5 :: some (.int (nI a)) :: ls) st X FI AI AL P := G_iinc6 _ n hd hn hb hc (nI_1 a) k
theorem G_iload7 {V : GV} {M : MT} {d pc : Nat} {ls : List (Option Value)} {st : List Value} {X : XT} {FI AI : FT} {AL : LT} {P : PT} {a0 a1 a2 a3 a4 a5 a6 : Option Value} {x : Int32} (n : Nat) (hd : dec M pc = .ok (.iload 7, 2)) (hn : pc + 2 = n) (k : G V M d n (a0 :: a1 :: a2 :: a3 :: a4 :: a5 :: a6 :: some (.int x) :: ls) (.int x :: st) X FI AI AL P) : G V M d pc (a0 :: a1 :: a2 :: a3 :: a4 :: a5 :: a6 :: some (.int x) :: ls) st X FI AI AL P := by
  subst hn
  refine G.step0 ?_ k
  intro r X' FI' AI' AL' hw p e R s m args below meth c H locs n0 k0 cells slots arr C hR hS hL e1 e2 e3 e4
  exact lv_iload C.1 C.2.1 hd (hL.get (i := 7) rfl) (hw p e R s m args below meth c H locs n0 k0 cells slots arr C hR hS hL e1 e2 e3 e4)
theorem G_istore7 {V : GV} {M : MT} {d pc : Nat} {ls : List (Option Value)} {st : List Value} {X : XT} {FI AI : FT} {AL : LT} {P : PT} {a0 a1 a2 a3 a4 a5 a6 : Option Value} {z : Option Value} {x : Int32} (n : Nat) (hd : dec M pc = .ok (.istore 7, 2)) (hn : pc + 2 = n) (hb : 7 < M.2.2.1) (hc : ncat a6 = true) (k : G V M d n (a0 :: a1 :: a2 :: a3 :: a4 :: a5 :: a6 :: some (.int x) :: ls) st X FI AI AL P) : G V M d pc (a0 :: a1 :: a2 :: a3 :: a4 :: a5 :: a6 :: z :: ls) (.int x :: st) X FI AI AL P := by
  subst hn
  refine G.step0 ?_ k
  intro r X' FI' AI' AL' hw p e R s m args below meth c H locs n0 k0 cells slots arr C hR hS hL e1 e2 e3 e4
  exact lv_istore C.1 C.2.1 hd hL hb rfl (fun arr hl => hw p e R s m args below meth c H locs n0 k0 cells slots arr C hR hS (LR.st1 (ls := a0 :: a1 :: a2 :: a3 :: a4 :: a5 :: a6 :: z :: ls) hl (fun o _ h => by cases h; exact hc)) e1 e2 e3 e4)
theorem G_lload7 {V : GV} {M : MT} {d pc : Nat} {ls : List (Option Value)} {st : List Value} {X : XT} {FI AI : FT} {AL : LT} {P : PT} {a0 a1 a2 a3 a4 a5 a6 : Option Value} {x : Int64} (n : Nat) (hd : dec M pc = .ok (.lload 7, 2)) (hn : pc + 2 = n) (k : G V M d n (a0 :: a1 :: a2 :: a3 :: a4 :: a5 :: a6 :: some (.long x) :: ls) (.long x :: st) X FI AI AL P) : G V M d pc (a0 :: a1 :: a2 :: a3 :: a4 :: a5 :: a6 :: some (.long x) :: ls) st X FI AI AL P := by
  subst hn
  refine G.step0 ?_ k
  intro r X' FI' AI' AL' hw p e R s m args below meth c H locs n0 k0 cells slots arr C hR hS hL e1 e2 e3 e4
  exact lv_lload C.1 C.2.1 hd (hL.get (i := 7) rfl) (hw p e R s m args below meth c H locs n0 k0 cells slots arr C hR hS hL e1 e2 e3 e4)
theorem G_lstore7 {V : GV} {M : MT} {d pc : Nat} {ls : List (Option Value)} {st : List Value} {X : XT} {FI AI : FT} {AL : LT} {P : PT} {a0 a1 a2 a3 a4 a5 a6 : Option Value} {z1 z2 : Option Value} {x : Int64} (n : Nat) (hd : dec M pc = .ok (.lstore 7, 2)) (hn : pc + 2 = n) (hb : 7 + 1 < M.2.2.1) (hc : ncat a6 = true) (k : G V M d n (a0 :: a1 :: a2 :: a3 :: a4 :: a5 :: a6 :: some (.long x) :: none :: ls) st X FI AI AL P) : G V M d pc (a0 :: a1 :: a2 :: a3 :: a4 :: a5 :: a6 :: z1 :: z2 :: ls) (.long x :: st) X FI AI AL P := by
  subst hn
  refine G.step0 ?_ k
  intro r X' FI' AI' AL' hw p e R s m args below meth c H locs n0 k0 cells slots arr C hR hS hL e1 e2 e3 e4
  exact lv_lstore C.1 C.2.1 hd hL hb rfl (fun arr hl => hw p e R s m args below meth c H locs n0 k0 cells slots arr C hR hS (LR.st2 (ls := a0 :: a1 :: a2 :: a3 :: a4 :: a5 :: a6 :: z1 :: z2 :: ls) hl (fun o _ h => by cases h; exact hc)) e1 e2 e3 e4)
theorem G_aload7 {V : GV} {M : MT} {d pc : Nat} {ls : List (Option Value)} {st : List Value} {X : XT} {FI AI : FT} {AL : LT} {P : PT} {a0 a1 a2 a3 a4 a5 a6 : Option Value} {x : Nat} (n : Nat) (hd : dec M pc = .ok (.aload 7, 2)) (hn : pc + 2 = n) (k : G V M d n (a0 :: a1 :: a2 :: a3 :: a4 :: a5 :: a6 :: some (.ref x) :: ls) (.ref x :: st) X FI AI AL P) : G V M d pc (a0 :: a1 :: a2 :: a3 :: a4 :: a5 :: a6 :: some (.ref x) :: ls) st X FI AI AL P := by
  subst hn
  refine G.step0 ?_ k
  intro r X' FI' AI' AL' hw p e R s m args below meth c H locs n0 k0 cells slots arr C hR hS hL e1 e2 e3 e4
  exact lv_aload C.1 C.2.1 hd (hL.get (i := 7) rfl) (hw p e R s m args below meth c H locs n0 k0 cells slots arr C hR hS hL e1 e2 e3 e4)
theorem G_astore7 {V : GV} {M : MT} {d pc : Nat} {ls : List (Option Value)} {st : List Value} {X : XT} {FI AI : FT} {AL : LT} {P : PT} {a0 a1 a2 a3 a4 a5 a6 : Option Value} {z : Option Value} {x : Nat} (n : Nat) (hd : dec M pc = .ok (.astore 7, 2)) (hn : pc + 2 = n) (hb : 7 < M.2.2.1) (hc : ncat a6 = true) (k : G V M d n (a0 :: a1 :: a2 :: a3 :: a4 :: a5 :: a6 :: some (.ref x) :: ls) st X FI AI AL P) : G V M d pc (a0 :: a1 :: a2 :: a3 :: a4 :: a5 :: a6 :: z :: ls) (.ref x :: st) X FI AI AL P := by
  subst hn
  refine G.step0 ?_ k
  intro r X' FI' AI' AL' hw p e R s m args below meth c H locs n0 k0 cells slots arr C hR hS hL e1 e2 e3 e4
  exact lv_astore C.1 C.2.1 hd hL hb rfl (fun arr hl => hw p e R s m args below meth c H locs n0 k0 cells slots arr C hR hS (LR.st1 (ls := a0 :: a1 :: a2 :: a3 :: a4 :: a5 :: a6 :: z :: ls) hl (fun o _ h => by cases h; exact hc)) e1 e2 e3 e4)
theorem G_iinc7 {V : GV} {M : MT} {d pc : Nat} {ls : List (Option Value)} {st : List Value} {X : XT} {FI AI : FT} {AL : LT} {P : PT} {a0 a1 a2 a3 a4 a5 a6 : Option Value} {x : Int32} {q : Int} (v : Int32) (n : Nat) (hd : dec M pc = .ok (.iinc 7 q, 3)) (hn : pc + 3 = n) (hb : 7 < M.2.2.1) (hc : ncat a6 = true) (hv : x + Int32.ofInt q = v) (k : G V M d n (a0 :: a1 :: a2 :: a3 :: a4 :: a5 :: a6 :: some (.int v) :: ls) st X FI AI AL P) : G V M d pc (a0 :: a1 :: a2 :: a3 :: a4 :: a5 :: a6 :: some (.int x) :: ls) st X FI AI AL P := by
  subst hn
  refine G.step0 ?_ k
  intro r X' FI' AI' AL' hw p e R s m args below meth c H locs n0 k0 cells slots arr C hR hS hL e1 e2 e3 e4
  obtain ⟨q0, hq0⟩ := List.getElem?_of_mem ((prs_mem (a0 :: a1 :: a2 :: a3 :: a4 :: a5 :: a6 :: some (.int x) :: ls) 0 (7, Value.int x)).mpr ⟨Nat.zero_le _, rfl⟩)
  exact lv_iinc C.1 C.2.1 hd hL hq0 hv hb rfl (fun arr hl => hw p e R s m args below meth c H locs n0 k0 cells slots arr C hR hS (LR.st1 (ls := a0 :: a1 :: a2 :: a3 :: a4 :: a5 :: a6 :: some (.int x) :: ls) hl (fun o _ h => by cases h; exact hc)) e1 e2 e3 e4)
theorem G_iincN7 {V : GV} {M : MT} {d pc : Nat} {ls : List (Option Value)} {st : List Value} {X : XT} {FI AI : FT} {AL : LT} {P : PT} {a0 a1 a2 a3 a4 a5 a6 : Option Value} {a : Nat} (n : Nat) (hd : dec M pc = .ok (.iinc 7 1, 3)) (hn : pc + 3 = n) (hb : 7 < M.2.2.1) (hc : ncat a6 = true) (k : G V M d n (a0 :: a1 :: a2 :: a3 :: a4 :: a5 :: a6 :: some (.int (nI (a + 1))) :: ls) st X FI AI AL P) : G V M d pc (a0 :: a1 :: a2 :: a3 :: a4 :: a5 :: a6 :: some (.int (nI a)) :: ls) st X FI AI AL P := G_iinc7 _ n hd hn hb hc (nI_1 a) k
theorem G_iload8 {V : GV} {M : MT} {d pc : Nat} {ls : List (Option Value)} {st : List Value} {X : XT} {FI AI : FT} {AL : LT} {P : PT} {a0 a1 a2 a3 a4 a5 a6 a7 : Option Value} {x : Int32} (n : Nat) (hd : dec M pc = .ok (.iload 8, 2)) (hn : pc + 2 = n) (k : G V M d n (a0 :: a1 :: a2 :: a3 :: a4 :: a5 :: a6 :: a7 :: some (.int x) :: ls) (.int x :: st) X FI AI AL P) : G V M d pc (a0 :: a1 :: a2 :: a3 :: a4 :: a5 :: a6 :: a7 :: some (.int x) :: ls) st X FI AI AL P := by
  subst hn
  refine G.step0 ?_ k
  intro r X' FI' AI' AL' hw p e R s m args below meth c H locs n0 k0 cells slots arr C hR hS hL e1 e2 e3 e4
  exact lv_iload C.1 C.2.1 hd (hL.get (i := 8) rfl) (hw p e R s m args below meth c H locs n0 k0 cells slots arr C hR hS hL e1 e2 e3 e4)
theorem G_istore8 {V : GV} {M : MT} {d pc : Nat} {ls : List (Option Value)} {st : List Value} {X : XT} {FI AI : FT} {AL : LT} {P : PT} {a0 a1 a2 a3 a4 a5 a6 a7 : Option Value} {z : Option Value} {x : Int32} (n : Nat) (hd : dec M pc = .ok (.istore 8, 2)) (hn : pc + 2 = n) (hb : 8 < M.2.2.1) (hc : ncat a7 = true) (k : G V M d n (a0 :: a1 :: a2 :: a3 :: a4 :: a5 :: a6 :: a7 :: some (.int x) :: ls) st X FI AI AL P) : G V M d pc (a0 :: a1 :: a2 :: a3 :: a4 :: a5 :: a6 :: a7 :: z :: ls) (.int x :: st) X FI AI AL P := by
  subst hn
  refine G.step0 ?_ k
  intro r X' FI' AI' AL' hw p e R s m args below meth c H locs n0 k0 cells slots arr C hR hS hL e1 e2 e3 e4
  exact lv_istore C.1 C.2.1 hd hL hb rfl (fun arr hl => hw p e R s m args below meth c H locs n0 k0 cells slots arr C hR hS (LR.st1 (ls := a0 :: a1 :: a2 :: a3 :: a4 :: a5 :: a6 :: a7 :: z :: ls) hl (fun o _ h => by cases h; exact hc)) e1 e2 e3 e4)
theorem G_lload8 {V : GV} {M : MT} {d pc : Nat} {ls : List (Option Value)} {st : List Value} {X : XT} {FI AI : FT} {AL : LT} {P : PT} {a0 a1 a2 a3 a4 a5 a6 a7 : Option Value} {x : Int64} (n : Nat) (hd : dec M pc = .ok (.lload 8, 2)) (hn : pc + 2 = n) (k : G V M d n (a0 :: a1 :: a2 :: a3 :: a4 :: a5 :: a6 :: a7 :: some (.long x) :: ls) (.long x :: st) X FI AI AL P) : G V M d pc (a0 :: a1 :: a2 :: a3 :: a4 :: a5 :: a6 :: a7 :: some (.long x) :: ls) st X FI AI AL P := by
  subst hn
  refine G.step0 ?_ k
  intro r X' FI' AI' AL' hw p e R s m args below meth c H locs n0 k0 cells slots arr C hR hS hL e1 e2 e3 e4
  exact lv_lload C.1 C.2.1 hd (hL.get (i := 8) rfl) (hw p e R s m args below meth c H locs n0 k0 cells slots arr C hR hS hL e1 e2 e3 e4)
theorem G_lstore8 {V : GV} {M : MT} {d pc : Nat} {ls : List (Option Value)} {st : List Value} {X : XT} {FI AI : FT} {AL : LT} {P : PT} {a0 a1 a2 a3 a4 a5 a6 a7 : Option Value} {z1 z2 : Option Value} {x : Int64} (n : Nat) (hd : dec M pc = .ok (.lstore 8, 2)) (hn : pc + 2 = n) (hb : 8 + 1 < M.2.2.1) (hc : ncat a7 = true) (k : G V M d n (a0 :: a1 :: a2 :: a3 :: a4 :: a5 :: a6 :: a7 :: some (.long x) :: none :: ls) st X FI AI AL P) : G V M d pc (a0 :: a1 :: a2 :: a3 :: a4 :: a5 :: a6 :: a7 :: z1 :: z2 :: ls) (.long x :: st) X FI AI AL P := by
  subst hn
  refine G.step0 ?_ k
  intro r X' FI' AI' AL' hw p e R s m args below meth c H locs n0 k0 cells slots arr C hR hS hL e1 e2 e3 e4
  exact lv_lstore C.1 C.2.1 hd hL hb rfl (fun arr hl => hw p e R s m args below meth c H locs n0 k0 cells slots arr C hR hS (LR.st2 (ls := a0 :: a1 :: a2 :: a3 :: a4 :: a5 :: a6 :: a7 :: z1 :: z2 :: ls) hl (fun o _ h => by cases h; exact hc)) e1 e2 e3 e4)
theorem G_aload8 {V : GV} {M : MT} {d pc : Nat} {ls : List (Option Value)} {st : List Value} {X : XT} {FI AI : FT} {AL : LT} {P : PT} {a0 a1 a2 a3 a4 a5 a6 a7 : Option Value} {x : Nat} (n : Nat) (hd : dec M pc = .ok (.aload 8, 2)) (hn : pc + 2 = n) (k : G V M d n (a0 :: a1 :: a2 :: a3 :: a4 :: a5 :: a6 :: a7 :: some (.ref x) :: ls) (.ref x :: st) X FI AI AL P) : G V M d pc (a0 :: a1 :: a2 :: a3 :: a4 :: a5 :: a6 :: a7 :: some (.ref x) :: ls) st X FI AI AL P := by
  subst hn
  refine G.step0 ?_ k
  intro r X' FI' AI' AL' hw p e R s m args below meth c H locs n0 k0 cells slots arr C hR hS hL e1 e2 e3 e4
  exact lv_aload C.1 C.2.1 hd (hL.get (i := 8) rfl) (hw p e R s m args below meth c H locs n0 k0 cells slots arr C hR hS hL e1 e2 e3 e4)
theorem G_astore8 {V : GV} {M : MT} {d pc : Nat} {ls : List (Option Value)} {st : List Value} {X : XT} {FI AI : FT} {AL : LT} {P : PT} {a0 a1 a2 a3 a4 a5 a6 a7 : Option Value} {z : Option Value} {x : Nat} (n : Nat) (hd : dec M pc = .ok (.astore 8, 2)) (hn : pc + 2 = n) (hb : 8 < M.2.2.1) (hc : ncat a7 = true) (k : G V M d n (a0 :: a1 :: a2 :: a3 :: a4 :: a5 :: a6 :: a7 :: some (.ref x) :: ls) st X FI AI AL P) : G V M d pc (a0 :: a1 :: a2 :: a3 :: a4 :: a5 :: a6 :: a7 :: z :: ls) (.ref x :: st) X FI AI AL P := by
  subst hn
  refine G.step0 ?_ k
  intro r X' FI' AI' AL' hw p e R s m args below meth c H locs n0 k0 cells slots arr C hR hS hL e1 e2 e3 e4
  exact lv_astore C.1 C.2.1 hd hL hb rfl (fun arr hl => hw p e R s m args below meth c H locs n0 k0 cells slots arr C hR hS (LR.st1 (ls := a0 :: a1 :: a2 :: a3 :: a4 :: a5 :: a6 :: a7 :: z :: ls) hl (fun o _ h => by cases h; exact hc)) e1 e2 e3 e4)
theorem G_iinc8 {V : GV} {M : MT} {d pc : Nat} {ls : List (Option Value)} {st : List Value} {X : XT} {FI AI : FT} {AL : LT} {P : PT} {a0 a1 a2 a3 a4 a5 a6 a7 : Option Value} {x : Int32} {q : Int} (v : Int32) (n : Nat) (hd : dec M pc = .ok (.iinc 8 q, 3)) (hn : pc + 3 = n) (hb : 8 < M.2.2.1) (hc : ncat a7 = true) (hv : x + Int32.ofInt q = v) (k : G V M d n (a0 :: a1 :: a2 :: a3 :: a4 :: a5 :: a6 :: a7 :: some (.int v) :: ls) st X FI AI AL P) : G V M d pc (a0 :: a1 :: a2 :: a3 :: a4 :: a5 :: a6 :: a7 :: some (.int x) :: ls) st X FI AI AL P := by
  subst hn
  refine G.step0 ?_ k
  intro r X' FI' AI' AL' hw p e R s m args below meth c H locs n0 k0 cells slots arr C hR hS hL e1 e2 e3 e4
  obtain ⟨q0, hq0⟩ := List.getElem?_of_mem ((prs_mem (a0 :: a1 :: a2 :: a3 :: a4 :: a5 :: a6 :: a7 :: some (.int x) :: ls) 0 (8, Value.int x)).mpr ⟨Nat.zero_le _, rfl⟩)
  exact lv_iinc C.1 C.2.1 hd hL hq0 hv hb rfl (fun arr hl => hw p e R s m args below meth c H locs n0 k0 cells slots arr C hR hS (LR.st1 (ls := a0 :: a1 :: a2 :: a3 :: a4 :: a5 :: a6 :: a7 :: some (.int x) :: ls) hl (fun o _ h => by cases h; exact hc)) e1 e2 e3 e4)
theorem G_iincN8 {V : GV} {M : MT} {d pc : Nat} {ls : List (Option Value)} {st : List Value} {X : XT} {FI AI : FT} {AL : LT} {P : PT} {a0 a1 a2 a3 a4 a5 a6 a7 : Option Value} {a : Nat} (n : Nat) (hd : dec M pc = .ok (.iinc 8 1, 3)) (hn : pc + 3 = n) (hb : 8 < M.2.2.1) (hc : ncat a7 = true) (k : G V M d n (a0 :: a1 :: a2 :: a3 :: a4 :: a5 :: a6 :: a7 :: some (.int (nI (a + 1))) :: ls) st X FI AI AL P) : G V M d pc (a0 :: a1 :: a2 :: a3 :: a4 :: a5 :: a6 :: a7 :: some (.int (nI a)) :: ls) st X FI AI AL P := G_iinc8 _ n hd hn hb hc (nI_1 a) k
theorem G_iload9 {V : GV} {M : MT} {d pc : Nat} {ls : List (Option Value)} {st : List Value} {X : XT} {FI AI : FT} {AL : LT} {P : PT} {a0 a1 a2 a3 a4 a5 a6 a7 a8 : Option Value} {x : Int32} (n : Nat) (hd : dec M pc = .ok (.iload 9, 2)) (hn : pc + 2 = n) (k : G V M d n (a0 :: a1 :: a2 :: a3 :: a4 :: a5 :: a6 :: a7 :: a8 :: some (.int x) :: ls) (.int x :: st) X FI AI AL P) : G V M d pc (a0 :: a1 :: a2 :: a3 :: a4 :: a5 :: a6 :: a7 :: a8 :: some (.int x) :: ls) st X FI AI AL P := by
  subst hn
  refine G.step0 ?_ k
  intro r X' FI' AI' AL' hw p e R s m args below meth c H locs n0 k0 cells slots arr C hR hS hL e1 e2 e3 e4
  exact lv_iload C.1 C.2.1 hd (hL.get (i := 9) rfl) (hw p e R s m args below meth c H locs n0 k0 cells slots arr C hR hS hL e1 e2 e3 e4)
theorem G_istore9 {V : GV} {M : MT} {d pc : Nat} {ls : List (Option Value)} {st : List Value} {X : XT} {FI AI : FT} {AL : LT} {P : PT} {a0 a1 a2 a3 a4 a5 a6 a7 a8 : Option Value} {z : Option Value} {x : Int32} (n : Nat) (hd : dec M pc = .ok (.istore 9, 2)) (hn : pc + 2 = n) (hb : 9 < M.2.2.1) (hc : ncat a8 = true) (k : G V M d n (a0 :: a1 :: a2 :: a3 :: a4 :: a5 :: a6 :: a7 :: a8 :: some (.int x) :: ls) st X FI AI AL P) : G V M d pc (a0 :: a1 :: a2 :: a3 :: a4 :: a5 :: a6 :: a7 :: a8 :: z :: ls) (.int x :: st) X FI AI AL P := by
  subst hn
  refine G.step0 ?_ k
  intro r X' FI' AI' AL' hw p e R s m args below meth c H locs n0 k0 cells slots arr C hR hS hL e1 e2 e3 e4
  exact lv_istore C.1 C.2.1 hd hL hb rfl (fun arr hl => hw p e R s m args below meth c H locs n0 k0 cells slots arr C hR hS (LR.st1 (ls := a0 :: a1 :: a2 :: a3 :: a4 :: a5 :: a6 :: a7 :: a8 :: z :: ls) hl (fun o _ h => by cases h; exact hc)) e1 e2 e3 e4)
theorem G_lload9 {V : GV} {M : MT} {d pc : Nat} {ls : List (Option Value)} {st : List Value} {X : XT} {FI AI : FT} {AL : LT} {P : PT} {a0 a1 a2 a3 a4 a5 a6 a7 a8 : Option Value} {x : Int64} (n : Nat) (hd : dec M pc = .ok (.lload 9, 2)) (hn : pc + 2 = n) (k : G V M d n (a0 :: a1 :: a2 :: a3 :: a4 :: a5 :: a6 :: a7 :: a8 :: some (.long x) :: ls) (.long x :: st) X FI AI AL P) : G V M d pc (a0 :: a1 :: a2 :: a3 :: a4 :: a5 :: a6 :: a7 :: a8 :: some (.long x) :: ls) st X FI AI AL P := by
  subst hn
  refine G.step0 ?_ k
  intro r X' FI' AI' AL' hw p e R s m args below meth c H locs n0 k0 cells slots arr C hR hS hL e1 e2 e3 e4
  exact lv_lload C.1 C.2.1 hd (hL.get (i := 9) rfl) (hw p e R s m args below meth c H locs n0 k0 cells slots arr C hR hS hL e1 e2 e3 e4)
theorem G_lstore9 {V : GV} {M : MT} {d pc : Nat} {ls : List (Option Value)} {st : List Value} {X : XT} {FI AI : FT} {AL : LT} {P : PT} {a0 a1 a2 a3 a4 a5 a6 a7 a8 : Option Value} {z1 z2 : Option Value} {x : Int64} (n : Nat) (hd : dec M pc = .ok (.lstore 9, 2)) (hn : pc + 2 = n) (hb : 9 + 1 < M.2.2.1) (hc : ncat a8 = true) (k : G V M d n (a0 :: a1 :: a2 :: a3 :: a4 :: a5 :: a6 :: a7 :: a8 :: some (.long x) :: none :: ls) st X FI AI AL P) : G V M d pc (a0 :: a1 :: a2 :: a3 :: a4 :: a5 :: a6 :: a7 :: a8 :: z1 :: z2 :: ls) (.long x :: st) X FI AI AL P := by
  subst hn
  refine G.step0 ?_ k
  intro r X' FI' AI' AL' hw p e R s m args below meth c H locs n0 k0 cells slots arr C hR hS hL e1 e2 e3 e4
  exact lv_lstore C.1 C.2.1 hd hL hb rfl (fun arr hl => hw p e R s m args below meth c H locs n0 k0 cells slots arr C hR hS (LR.st2 (ls := a0 :: a1 :: a2 :: a3 :: a4 :: a5 :: a6 :: a7 :: a8 :: z1 :: z2 :: ls) hl (fun o _ h => by cases h; exact hc)) e1 e2 e3 e4)
theorem G_aload9 {V : GV} {M : MT} {d pc : Nat} {ls : List (Option Value)} {st : List Value} {X : XT} {FI AI : FT} {AL : LT} {P : PT} {a0 a1 a2 a3 a4 a5 a6 a7 a8 : Option Value} {x : Nat} (n : Nat) (hd : dec M pc = .ok (.aload 9, 2)) (hn : pc + 2 = n) (k : G V M d n (a0 :: a1 :: a2 :: a3 :: a4 :: a5 :: a6 :: a7 :: a8 :: some (.ref x) :: ls) (.ref x :: st) X FI AI AL P) : G V M d pc (a0 :: a1 :: a2 :: a3 :: a4 :: a5 :: a6 :: a7 :: a8 :: some (.ref x) :: ls) st X FI AI AL P := by
  subst hn
  refine G.step0 ?_ k
  intro r X' FI' AI' AL' hw p e R s m args below meth c H locs n0 k0 cells slots arr C hR hS hL e1 e2 e3 e4
  exact lv_aload C.1 C.2.1 hd (hL.get (i := 9) rfl) (hw p e R s m args below meth c H locs n0 k0 cells slots arr C hR hS hL e1 e2 e3 e4)
theorem G_astore9 {V : GV} {M : MT} {d pc : Nat} {ls : List (Option Value)} {st : List Value} {X : XT} {FI AI : FT} {AL : LT} {P : PT} {a0 a1 a2 a3 a4 a5 a6 a7 a8 : Option Value} {z : Option Value} {x : Nat} (n : Nat) (hd : dec M pc = .ok (.astore 9, 2)) (hn : pc + 2 = n) (hb : 9 < M.2.2.1) (hc : ncat a8 = true) (k : G V M d n (a0 :: a1 :: a2 :: a3 :: a4 :: a5 :: a6 :: a7 :: a8 :: some (.ref x) :: ls) st X FI AI AL P) : G V M d pc (a0 :: a1 :: a2 :: a3 :: a4 :: a5 :: a6 :: a7 :: a8 :: z :: ls) (.ref x :: st) X FI AI AL P := by
  subst hn
  refine G.step0 ?_ k
  intro r X' FI' AI' AL' hw p e R s m args below meth c H locs n0 k0 cells slots arr C hR hS hL e1 e2 e3 e4
  exact lv_astore C.1 C.2.1 hd hL hb rfl (fun arr hl => hw p e R s m args below meth c H locs n0 k0 cells slots arr C hR hS (LR.st1 (ls := a0 :: a1 :: a2 :: a3 :: a4 :: a5 :: a6 :: a7 :: a8 :: z :: ls) hl (fun o _ h => by cases h; exact hc)) e1 e2 e3 e4)
theorem G_iinc9 {V : GV} {M : MT} {d pc : Nat} {ls : List (Option Value)} {st : List Value} {X : XT} {FI AI : FT} {AL : LT} {P : PT} {a0 a1 a2 a3 a4 a5 a6 a7 a8 : Option Value} {x : Int32} {q : Int} (v : Int32) (n : Nat) (hd : dec M pc = .ok (.iinc 9 q, 3)) (hn : pc + 3 = n) (hb : 9 < M.2.2.1) (hc : ncat a8 = true) (hv : x + Int32.ofInt q = v) (k : G V M d n (a0 :: a1 :: a2 :: a3 :: a4 :: a5 :: a6 :: a7 :: a8 :: some (.int v) :: ls) st X FI AI AL P) : G V M d pc (a0 :: a1 :: a2 :: a3 :: a4 :: a5 :: a6 :: a7 :: a8 :: some (.int x) :: ls) st X FI AI AL P := by
  subst hn
  refine G.step0 ?_ k
  intro r X' FI' AI' AL' hw p e R s m args below meth c H locs n0 k0 cells slots arr C hR hS hL e1 e2 e3 e4
  obtain ⟨q0, hq0⟩ := List.getElem?_of_mem ((prs_mem (a0 :: a1 :: a2 :: a3 :: a4 :: a5 :: a6 :: a7 :: a8 :: some (.int x) :: ls) 0 (9, Value.int x)).mpr ⟨Nat.zero_le _, rfl⟩)
  exact lv_iinc C.1 C.2.1 hd hL hq0 hv hb rfl (fun arr hl => hw p e R s m args below meth c H locs n0 k0 cells slots arr C hR hS (LR.st1 (ls := a0 :: a1 :: a2 :: a3 :: a4 :: a5 :: a6 :: a7 :: a8 :: some (.int x) :: ls) hl (fun o _ h => by cases h; exact hc)) e1 e2 e3 e4)
theorem G_iincN9 {V : GV} {M : MT} {d pc : Nat} {ls : List (Option Value)} {st : List Value} {X : XT} {FI AI : FT} {AL : LT} {P : PT} {a0 a1 a2 a3 a4 a5 a6 a7 a8 : Option Value} {a : Nat} (n : Nat) (hd : dec M pc = .ok (.iinc 9 1, 3)) (hn : pc + 3 = n) (hb : 9 < M.2.2.1) (hc : ncat a8 = true) (k : G V M d n (a0 :: a1 :: a2 :: a3 :: a4 :: a5 :: a6 :: a7 :: a8 :: some (.int (nI (a + 1))) :: ls) st X FI AI AL P) : G V M d pc (a0 :: a1 :: a2 :: a3 :: a4 :: a5 :: a6 :: a7 :: a8 :: some (.int (nI a)) :: ls) st X FI AI AL P := G_iinc9 _ n hd hn hb hc (nI_1 a) k
theorem G_iload10 {V : GV} {M : MT} {d pc : Nat} {ls : List (Option Value)} {st : List Value} {X : XT} {FI AI : FT} {AL : LT} {P : PT} {a0 a1 a2 a3 a4 a5 a6 a7 a8 a9 : Option Value} {x : Int32} (n : Nat) (hd : dec M pc = .ok (.iload 10, 2)) (hn : pc + 2 = n) (k : G V M d n (a0 :: a1 :: a2 :: a3 :: a4 :: a5 :: a6 :: a7 :: a8 :: a9 :: some (.int x) :: ls) (.int x :: st) X FI AI AL P) : G V M d pc (a0 :: a1 :: a2 :: a3 :: a4 :: a5 :: a6 :: a7 :: a8 :: a9 :: some (.int x) :: ls) st X FI AI AL P := by
  subst hn
  refine G.step0 ?_ k
  intro r X' FI' AI' AL' hw p e R s m args below meth c H locs n0 k0 cells slots arr C hR hS hL e1 e2 e3 e4
  exact lv_iload C.1 C.2.1 hd (hL.get (i := 10) rfl) (hw p e R s m args below meth c H locs n0 k0 cells slots arr C hR hS hL e1 e2 e3 e4)
theorem G_istore10 {V : GV} {M : MT} {d pc : Nat} {ls : List (Option Value)} {st : List Value} {X : XT} {FI AI : FT} {AL : LT} {P : PT} {a0 a1 a2 a3 a4 a5 a6 a7 a8 a9 : Option Value} {z : Option Value} {x : Int32} (n : Nat) (hd : dec M pc = .ok (.istore 10, 2)) (hn : pc + 2 = n) (hb : 10 < M.2.2.1) (hc : ncat a9 = true) (k : G V M d n (a0 :: a1 :: a2 :: a3 :: a4 :: a5 :: a6 :: a7 :: a8 :: a9 :: some (.int x) :: ls) st X FI AI AL P) : G V M d pc (a0 :: a1 :: a2 :: a3 :: a4 :: a5 :: a6 :: a7 :: a8 :: a9 :: z :: ls) (.int x :: st) X FI AI AL P := by
  subst hn
  refine G.step0 ?_ k
  intro r X' FI' AI' AL' hw p e R s m args below meth c H locs n0 k0 cells slots arr C hR hS hL e1 e2 e3 e4
  exact lv_istore C.1 C.2.1 hd hL hb rfl (fun arr hl => hw p e R s m args below meth c H locs n0 k0 cells slots arr C hR hS (LR.st1 (ls := a0 :: a1 :: a2 :: a3 :: a4 :: a5 :: a6 :: a7 :: a8 :: a9 :: z :: ls) hl (fun o _ h => by cases h; exact hc)) e1 e2 e3 e4)
theorem G_lload10 {V : GV} {M : MT} {d pc : Nat} {ls : List (Option Value)} {st : List Value} {X : XT} {FI AI : FT} {AL : LT} {P : PT} {a0 a1 a2 a3 a4 a5 a6 a7 a8 a9 : Option Value} {x : Int64} (n : Nat) (hd : dec M pc = .ok (.lload 10, 2)) (hn : pc + 2 = n) (k : G V M d n (a0 :: a1 :: a2 :: a3 :: a4 :: a5 :: a6 :: a7 :: a8 :: a9 :: some (.long x) :: ls) (.long x :: st) X FI AI AL P) : G V M d pc (a0 :: a1 :: a2 :: a3 :: a4 :: a5 :: a6 :: a7 :: a8 :: a9 :: some (.long x) :: ls) st X FI AI AL P := by
  subst hn
  refine G.step0 ?_ k
  intro r X' FI' AI' AL' hw p e R s m args below meth c H locs n0 k0 cells slots arr C hR hS hL e1 e2 e3 e4
  exact lv_lload C.1 C.2.1 hd (hL.get (i := 10) rfl) (hw p e R s m args below meth c H locs n0 k0 cells slots arr C hR hS hL e1 e2 e3 e4)
theorem G_lstore10 {V : GV} {M : MT} {d pc : Nat} {ls : List (Option Value)} {st : List Value} {X : XT} {FI AI : FT} {AL : LT} {P : PT} {a0 a1 a2 a3 a4 a5 a6 a7 a8 a9 : Option Value} {z1 z2 : Option Value} {x : Int64} (n : Nat) (hd : dec M pc = .ok (.lstore 10, 2)) (hn : pc + 2 = n) (hb : 10 + 1 < M.2.2.1) (hc : ncat a9 = true) (k : G V M d n (a0 :: a1 :: a2 :: a3 :: a4 :: a5 :: a6 :: a7 :: a8 :: a9 :: some (.long x) :: none :: ls) st X FI AI AL P) : G V M d pc (a0 :: a1 :: a2 :: a3 :: a4 :: a5 :: a6 :: a7 :: a8 :: a9 :: z1 :: z2 :: ls) (.long x :: st) X FI AI AL P := by
  subst hn
  refine G.step0 ?_ k
  intro r X' FI' AI' AL' hw p e R s m args below meth c H locs n0 k0 cells slots arr C hR hS hL e1 e2 e3 e4
  exact lv_lstore C.1 C.2.1 hd hL hb rfl (fun arr hl => hw p e R s m args below meth c H locs n0 k0 cells slots arr C hR hS (LR.st2 (ls := a0 :: a1 :: a2 :: a3 :: a4 :: a5 :: a6 :: a7 :: a8 :: a9 :: z1 :: z2 :: ls) hl (fun o _ h => by cases h; exact hc)) e1 e2 e3 e4)
theorem G_aload10 {V : GV} {M : MT} {d pc : Nat} {ls : List (Option Value)} {st : List Value} {X : XT} {FI AI : FT} {AL : LT} {P : PT} {a0 a1 a2 a3 a4 a5 a6 a7 a8 a9 : Option Value} {x : Nat} (n : Nat) (hd : dec M pc = .ok (.aload 10, 2)) (hn : pc + 2 = n) (k : G V M d n (a0 :: a1 :: a2 :: a3 :: a4 :: a5 :: a6 :: a7 :: a8 :: a9 :: some (.ref x) :: ls) (.ref x :: st) X FI AI AL P) : G V M d pc (a0 :: a1 :: a2 :: a3 :: a4 :: a5 :: a6 :: a7 :: a8 :: a9 :: some (.ref x) :: ls) st X FI AI AL P := by
  subst hn
  refine G.step0 ?_ k
  intro r X' FI' AI' AL' hw p e R s m args below meth c H locs n0 k0 cells slots arr C hR hS hL e1 e2 e3 e4
  exact lv_aload C.1 C.2.1 hd (hL.get (i := 10) rfl) (hw p e R s m args below meth c H locs n0 k0 cells slots arr C hR hS hL e1 e2 e3 e4)
theorem G_astore10 {V : GV} {M : MT} {d pc : Nat} {ls : List (Option Value)} {st : List Value} {X : XT} {FI AI : FT} {AL : LT} {P : PT} {a0 a1 a2 a3 a4 a5 a6 a7 a8 a9 : Option Value} {z : Option Value} {x : Nat} (n : Nat) (hd : dec M pc = .ok (.astore 10, 2)) (hn : pc + 2 = n) (hb : 10 < M.2.2.1) (hc : ncat a9 = true) (k : G V M d n (a0 :: a1 :: a2 :: a3 :: a4 :: a5 :: a6 :: a7 :: a8 :: a9 :: some (.ref x) :: ls) st X FI AI AL P) : G V M d pc (a0 :: a1 :: a2 :: a3 :: a4 :: a5 :: a6 :: a7 :: a8 :: a9 :: z :: ls) (.ref x :: st) X FI AI AL P := by
  subst hn
  refine G.step0 ?_ k
  intro r X' FI' AI' AL' hw p e R s m args below meth c H locs n0 k0 cells slots arr C hR hS hL e1 e2 e3 e4
  exact lv_astore C.1 C.2.1 hd hL hb rfl (fun arr hl => hw p e R s m args below meth c H locs n0 k0 cells slots arr C hR hS (LR.st1 (ls := a0 :: a1 :: a2 :: a3 :: a4 :: a5 :: a6 :: a7 :: a8 :: a9 :: z :: ls) hl (fun o _ h => by cases h; exact hc)) e1 e2 e3 e4)
theorem G_iinc10 {V : GV} {M : MT} {d pc : Nat} {ls : List (Option Value)} {st : List Value} {X : XT} {FI AI : FT} {AL : LT} {P : PT} {a0 a1 a2 a3 a4 a5 a6 a7 a8 a9 : Option Value} {x : Int32} {q : Int} (v : Int32) (n : Nat) (hd : dec M pc = .ok (.iinc 10 q, 3)) (hn : pc + 3 = n) (hb : 10 < M.2.2.1) (hc : ncat a9 = true) (hv : x + Int32.ofInt q = v) (k : G V M d n (a0 :: a1 :: a2 :: a3 :: a4 :: a5 :: a6 :: a7 :: a8 :: a9 :: some (.int v) :: ls) st X FI AI AL P) : G V M d pc (a0 :: a1 :: a2 :: a3 :: a4 :: a5 :: a6 :: a7 :: a8 :: a9 :: some (.int x) :: ls) st X FI AI AL P := by
  subst hn
  refine G.step0 ?_ k
  intro r X' FI' AI' AL' hw p e R s m args below meth c H locs n0 k0 cells slots arr C hR hS hL e1 e2 e3 e4
  obtain ⟨q0, hq0⟩ := List.getElem?_of_mem ((prs_mem (a0 :: a1 :: a2 :: a3 :: a4 :: a5 :: a6 :: a7 :: a8 :: a9 :: some (.int x) :: ls) 0 (10, Value.int x)).mpr ⟨Nat.zero_le _, rfl⟩)
  exact lv_iinc C.1 C.2.1 hd hL hq0 hv hb rfl (fun arr hl => hw p e R s m args below meth c H locs n0 k0 cells slots arr C hR hS (LR.st1 (ls := a0 :: a1 :: a2 :: a3 :: a4 :: a5 :: a6 :: a7 :: a8 :: a9 :: some (.int x) :: ls) hl (fun o _ h => by cases h; exact hc)) e1 e2 e3 e4)
theorem G_iincN10 {V : GV} {M : MT} {d pc : Nat} {ls : List (Option Value)} {st : List Value} {X : XT} {FI AI : FT} {AL : LT} {P : PT} {a0 a1 a2 a3 a4 a5 a6 a7 a8 a9 : Option Value} {a : Nat} (n : Nat) (hd : dec M pc = .ok (.iinc 10 1, 3)) (hn : pc + 3 = n) (hb : 10 < M.2.2.1) (hc : ncat a9 = true) (k : G V M d n (a0 :: a1 :: a2 :: a3 :: a4 :: a5 :: a6 :: a7 :: a8 :: a9 :: some (.int (nI (a + 1))) :: ls) st X FI AI AL P) : G V M d pc (a0 :: a1 :: a2 :: a3 :: a4 :: a5 :: a6 :: a7 :: a8 :: a9 :: some (.int (nI a)) :: ls) st X FI AI AL P := G_iinc10 _ n hd hn hb hc (nI_1 a) k
theorem G_iload11 {V : GV} {M : MT} {d pc : Nat} {ls : List (Option Value)} {st : List Value} {X : XT} {FI AI : FT} {AL : LT} {P : PT} {a0 a1 a2 a3 a4 a5 a6 a7 a8 a9 a10 : Option Value} {x : Int32} (n : Nat) (hd : dec M pc = .ok (.iload 11, 2)) (hn : pc + 2 = n) (k : G V M d n (a0 :: a1 :: a2 :: a3 :: a4 :: a5 :: a6 :: a7 :: a8 :: a9 :: a10 :: some (.int x) :: ls) (.int x :: st) X FI AI AL P) : G V M d pc (a0 :: a1 :: a2 :: a3 :: a4 :: a5 :: a6 :: a7 :: a8 :: a9 :: a10 :: some (.int x) :: ls) st X FI AI AL P := by
  subst hn
  refine G.step0 ?_ k
  intro r X' FI' AI' AL' hw p e R s m args below meth c H locs n0 k0 cells slots arr C hR hS hL e1 e2 e3 e4
  exact lv_iload C.1 C.2.1 hd (hL.get (i := 11) rfl) (hw p e R s m args below meth c H locs n0 k0 cells slots arr C hR hS hL e1 e2 e3 e4)
theorem G_istore11 {V : GV} {M : MT} {d pc : Nat} {ls : List (Option Value)} {st : List Value} {X : XT} {FI AI : FT} {AL : LT} {P : PT} {a0 a1 a2 a3 a4 a5 a6 a7 a8 a9 a10 : Option Value} {z : Option Value} {x : Int32} (n : Nat) (hd : dec M pc = .ok (.istore 11, 2)) (hn : pc + 2 = n) (hb : 11 < M.2.2.1) (hc : ncat a10 = true) (k : G V M d n (a0 :: a1 :: a2 :: a3 :: a4 :: a5 :: a6 :: a7 :: a8 :: a9 :: a10 :: some (.int x) :: ls) st X FI AI AL P) : G V M d pc (a0 :: a1 :: a2 :: a3 :: a4 :: a5 :: a6 :: a7 :: a8 :: a9 :: a10 :: z :: ls) (.int x :: st) X FI AI AL P := by
  subst hn
  refine G.step0 ?_ k
  intro r X' FI' AI' AL' hw p e R s m args below meth c H locs n0 k0 cells slots arr C hR hS hL e1 e2 e3 e4
  exact lv_istore C.1 C.2.1 hd hL hb rfl (fun arr hl => hw p e R s m args below meth c H locs n0 k0 cells slots arr C hR hS (LR.st1 (ls := a0 :: a1 :: a2 :: a3 :: a4 :: a5 :: a6 :: a7 :: a8 :: a9 :: a10 :: z :: ls) hl (fun o _ h => by cases h; exact hc)) e1 e2 e3 e4)
theorem G_lload11 {V : GV} {M : MT} {d pc : Nat} {ls : List (Option Value)} {st : List Value} {X : XT} {FI AI : FT} {AL : LT} {P : PT} {a0 a1 a2 a3 a4 a5 a6 a7 a8 a9 a10 : Option Value} {x : Int64} (n : Nat) (hd : dec M pc = .ok (.lload 11, 2)) (hn : pc + 2 = n) (k : G V M d n (a0 :: a1 :: a2 :: a3 :: a4 :: a5 :: a6 :: a7 :: a8 :: a9 :: a10 :: some (.long x) :: ls) (.long x :: st) X FI AI AL P) : G V M d pc (a0 :: a1 :: a2 :: a3 :: a4 :: a5 :: a6 :: a7 :: a8 :: a9 :: a10 :: some (.long x) :: ls) st X FI AI AL P := by
  subst hn
  refine G.step0 ?_ k
  intro r X' FI' AI' AL' hw p e R s m args below meth c H locs n0 k0 cells slots arr C hR hS hL e1 e2 e3 e4
  exact lv_lload C.1 C.2.1 hd (hL.get (i := 11) rfl) (hw p e R s m args below meth c H locs n0 k0 cells slots arr C hR hS hL e1 e2 e3 e4)
theorem G_lstore11 {V : GV} {M : MT} {d pc : Nat} {ls : List (Option Value)} {st : List Value} {X : XT} {FI AI : FT} {AL : LT} {P : PT} {a0 a1 a2 a3 a4 a5 a6 a7 a8 a9 a10 : Option Value} {z1 z2 : Option Value} {x : Int64} (n : Nat) (hd : dec M pc = .ok (.lstore 11, 2)) (hn : pc + 2 = n) (hb : 11 + 1 < M.2.2.1) (hc : ncat a10 = true) (k : G V M d n (a0 :: a1 :: a2 :: a3 :: a4 :: a5 :: a6 :: a7 :: a8 :: a9 :: a10 :: some (.long x) :: none :: ls) st X FI AI AL P) : G V M d pc (a0 :: a1 :: a2 :: a3 :: a4 :: a5 :: a6 :: a7 :: a8 :: a9 :: a10 :: z1 :: z2 :: ls) (.long x :: st) X FI AI AL P := by
  subst hn
  refine G.step0 ?_ k
  intro r X' FI' AI' AL' hw p e R s m args below meth c H locs n0 k0 cells slots arr C hR hS hL e1 e2 e3 e4
  exact lv_lstore C.1 C.2.1 hd hL hb rfl (fun arr hl => hw p e R s m args below meth c H locs n0 k0 cells slots arr C hR hS (LR.st2 (ls := a0 :: a1 :: a2 :: a3 :: a4 :: a5 :: a6 :: a7 :: a8 :: a9 :: a10 :: z1 :: z2 :: ls) hl (fun o _ h => by cases h; exact hc)) e1 e2 e3 e4)
theorem G_aload11 {V : GV} {M : MT} {d pc : Nat} {ls : List (Option Value)} {st : List Value} {X : XT} {FI AI : FT} {AL : LT} {P : PT} {a0 a1 a2 a3 a4 a5 a6 a7 a8 a9 a10 : Option Value} {x : Nat} (n : Nat) (hd : dec M pc = .ok (.aload 11, 2)) (hn : pc + 2 = n) (k : G V M d n (a0 :: a1 :: a2 :: a3 :: a4 :: a5 :: a6 :: a7 :: a8 :: a9 :: a10 :: some (.ref x) :: ls) (.ref x :: st) X FI AI AL P) : G V M d pc (a0 :: a1 :: a2 :: a3 :: a4 :: a5 :: a6 :: a7 :: a8 :: a9 :: a10 :: some (.ref x) :: ls) st X FI AI AL P := by
  subst hn
  refine G.step0 ?_ k
  intro r X' FI' AI' AL' hw p e R s m args below meth c H locs n0 k0 cells slots arr C hR hS hL e1 e2 e3 e4
  exact lv_aload C.1 C.2.1 hd (hL.get (i := 11) rfl) (hw p e R s m args below meth c H locs n0 k0 cells slots arr C hR hS hL e1 e2 e3 e4)
theorem G_astore11 {V : GV} {M : MT} {d pc : Nat} {ls : List (Option Value)} {st : List Value} {X : XT} {FI AI : FT} {AL : LT} {P : PT} {a0 a1 a2 a3 a4 a5 a6 a7 a8 a9 a10 : Option Value} {z : Option Value} {x : Nat} (n : Nat) (hd : dec M pc = .ok (.astore 11, 2)) (hn : pc + 2 = n) (hb : 11 < M.2.2.1) (hc : ncat a10 = true) (k : G V M d n (a0 :: a1 :: a2 :: a3 :: a4 :: a5 :: a6 :: a7 :: a8 :: a9 :: a10 :: some (.ref x) :: ls) st X FI AI AL P) : G V M d pc (a0 :: a1 :: a2 :: a3 :: a4 :: a5 :: a6 :: a7 :: a8 :: a9 :: a10 :: z :: ls) (.ref x :: st) X FI AI AL P := by
  subst hn
  refine G.step0 ?_ k
  intro r X' FI' AI' AL' hw p e R s m args below meth c H locs n0 k0 cells slots arr C hR hS hL e1 e2 e3 e4
  exact lv_astore C.1 C.2.1 hd hL hb rfl (fun arr hl => hw p e R s m args below meth c H locs n0 k0 cells slots arr C hR hS (LR.st1 (ls := a0 :: a1 :: a2 :: a3 :: a4 :: a5 :: a6 :: a7 :: a8 :: a9 :: a10 :: z :: ls) hl (fun o _ h => by cases h; exact hc)) e1 e2 e3 e4)
theorem G_iinc11 {V : GV} {M : MT} {d pc : Nat} {ls : List (Option Value)} {st : List Value} {X : XT} {FI AI : FT} {AL : LT} {P : PT} {a0 a1 a2 a3 a4 a5 a6 a7 a8 a9 a10 : Option Value} {x : Int32} {q : Int} (v : Int32) (n : Nat) (hd : dec M pc = .ok (.iinc 11 q, 3)) (hn : pc + 3 = n) (hb : 11 < M.2.2.1) (hc : ncat a10 = true) (hv : x + Int32.ofInt q = v) (k : G V M d n (a0 :: a1 :: a2 :: a3 :: a4 :: a5 :: a6 :: a7 :: a8 :: a9 :: a10 :: some (.int v) :: ls) st X FI AI AL P) : G V M d pc (a0 :: a1 :: a2 :: a3 :: a4 :: a5 :: a6 :: a7 :: a8 :: a9 :: a10 :: some (.int x) :: ls) st X FI AI AL P := by
  subst hn
  refine G.step0 ?_ k
  intro r X' FI' AI' AL' hw p e R s m args below meth c H locs n0 k0 cells slots arr C hR hS hL e1 e2 e3 e4
  obtain ⟨q0, hq0⟩ := List.getElem?_of_mem ((prs_mem (a0 :: a1 :: a2 :: a3 :: a4 :: a5 :: a6 :: a7 :: a8 :: a9 :: a10 :: some (.int x) :: ls) 0 (11, Value.int x)).mpr ⟨Nat.zero_le _, rfl⟩)
  exact lv_iinc C.1 C.2.1 hd hL hq0 hv hb rfl (fun arr hl => hw p e R s m args below meth c H locs n0 k0 cells slots arr C hR hS (LR.st1 (ls := a0 :: a1 :: a2 :: a3 :: a4 :: a5 :: a6 :: a7 :: a8 :: a9 :: a10 :: some (.int x) :: ls) hl (fun o _ h => by cases h; exact hc)) e1 e2 e3 e4)
theorem G_iincN11 {V : GV} {M : MT} {d pc : Nat} {ls : List (Option Value)} {st : List Value} {X : XT} {FI AI : FT} {AL : LT} {P : PT} {a0 a1 a2 a3 a4 a5 a6 a7 a8 a9 a10 : Option Value} {a : Nat} (n : Nat) (hd : dec M pc = .ok (.iinc 11 1, 3)) (hn : pc + 3 = n) (hb : 11 < M.2.2.1) (hc : ncat a10 = true) (k : G V M d n (a0 :: a1 :: a2 :: a3 :: a4 :: a5 :: a6 :: a7 :: a8 :: a9 :: a10 :: some (.int (nI (a + 1))) :: ls) st X FI AI AL P) : G V M d pc (a0 :: a1 :: a2 :: a3 :: a4 :: a5 :: a6 :: a7 :: a8 :: a9 :: a10 :: some (.int (nI a)) :: ls) st X FI AI AL P := G_iinc11 _ n hd hn hb hc (nI_1 a) k
theorem G_ifeq {V : GV} {M : MT} {d pc : Nat} {ls : List (Option Value)} {st : List Value} {X : XT} {FI AI : FT} {AL : LT} {P : PT} {x : Int32} {off : Int} (t n : Nat) (hd : dec M pc = .ok (.ifCond .eq off, 3)) (ht : (pc : Int) + off = (t : Int)) (hn : pc + 3 = n) (kt : x = 0 → G V M d t ls st X FI AI AL P) (kf : ¬ x = 0 → G V M d n ls st X FI AI AL P) : G V M d pc ls (.int x :: st) X FI AI AL P := by
  subst hn
  by_cases h : x = 0
  · refine G.step0 ?_ (kt h)
    intro r X' FI' AI' AL' hw p e R s m args below meth c H locs n0 k0 cells slots arr C hR hS hL e1 e2 e3 e4
    exact lv_if_eq C.1 C.2.1 hd ht (fun _ => hw p e R s m args below meth c H locs n0 k0 cells slots arr C hR hS hL e1 e2 e3 e4) (fun q => absurd q (by first | exact h | exact fun z => h z | exact fun z => z h))
  · refine G.step0 ?_ (kf (by first | exact h | exact Classical.not_not.mp h))
    intro r X' FI' AI' AL' hw p e R s m args below meth c H locs n0 k0 cells slots arr C hR hS hL e1 e2 e3 e4
    exact lv_if_eq C.1 C.2.1 hd ht (fun q => absurd q h) (fun _ => hw p e R s m args below meth c H locs n0 k0 cells slots arr C hR hS hL e1 e2 e3 e4)
theorem G_ifne {V : GV} {M : MT} {d pc : Nat} {ls : List (Option Value)} {st : List Value} {X : XT} {FI AI : FT} {AL : LT} {P : PT} {x : Int32} {off : Int} (t n : Nat) (hd : dec M pc = .ok (.ifCond .ne off, 3)) (ht : (pc : Int) + off = (t : Int)) (hn : pc + 3 = n) (kt : ¬ x = 0 → G V M d t ls st X FI AI AL P) (kf : x = 0 → G V M d n ls st X FI AI AL P) : G V M d pc ls (.int x :: st) X FI AI AL P := by
  subst hn
  by_cases h : ¬ x = 0
  · refine G.step0 ?_ (kt h)
    intro r X' FI' AI' AL' hw p e R s m args below meth c H locs n0 k0 cells slots arr C hR hS hL e1 e2 e3 e4
    exact lv_if_ne C.1 C.2.1 hd ht (fun _ => hw p e R s m args below meth c H locs n0 k0 cells slots arr C hR hS hL e1 e2 e3 e4) (fun q => absurd q (by first | exact h | exact fun z => h z | exact fun z => z h))
  · refine G.step0 ?_ (kf (by first | exact h | exact Classical.not_not.mp h))
    intro r X' FI' AI' AL' hw p e R s m args below meth c H locs n0 k0 cells slots arr C hR hS hL e1 e2 e3 e4
    exact lv_if_ne C.1 C.2.1 hd ht (fun q => absurd q h) (fun _ => hw p e R s m args below meth c H locs n0 k0 cells slots arr C hR hS hL e1 e2 e3 e4)
theorem G_iflt {V : GV} {M : MT} {d pc : Nat} {ls : List (Option Value)} {st : List Value} {X : XT} {FI AI : FT} {AL : LT} {P : PT} {x : Int32} {off : Int} (t n : Nat) (hd : dec M pc = .ok (.ifCond .lt off, 3)) (ht : (pc : Int) + off = (t : Int)) (hn : pc + 3 = n) (kt : x < 0 → G V M d t ls st X FI AI AL P) (kf : ¬ x < 0 → G V M d n ls st X FI AI AL P) : G V M d pc ls (.int x :: st) X FI AI AL P := by
  subst hn
  by_cases h : x < 0
  · refine G.step0 ?_ (kt h)
    intro r X' FI' AI' AL' hw p e R s m args below meth c H locs n0 k0 cells slots arr C hR hS hL e1 e2 e3 e4
    exact lv_if_lt C.1 C.2.1 hd ht (fun _ => hw p e R s m args below meth c H locs n0 k0 cells slots arr C hR hS hL e1 e2 e3 e4) (fun q => absurd q (by first | exact h | exact fun z => h z | exact fun z => z h))
  · refine G.step0 ?_ (kf (by first | exact h | exact Classical.not_not.mp h))
    intro r X' FI' AI' AL' hw p e R s m args below meth c H locs n0 k0 cells slots arr C hR hS hL e1 e2 e3 e4
    exact lv_if_lt C.1 C.2.1 hd ht (fun q => absurd q h) (fun _ => hw p e R s m args below meth c H locs n0 k0 cells slots arr C hR hS hL e1 e2 e3 e4)
theorem G_ifge {V : GV} {M : MT} {d pc : Nat} {ls : List (Option Value)} {st : List Value} {X : XT} {FI AI : FT} {AL : LT} {P : PT} {x : Int32} {off : Int} (t n : Nat) (hd : dec M pc = .ok (.ifCond .ge off, 3)) (ht : (pc : Int) + off = (t : Int)) (hn : pc + 3 = n) (kt : 0 ≤ x → G V M d t ls st X FI AI AL P) (kf : ¬ 0 ≤ x → G V M d n ls st X FI AI AL P) : G V M d pc ls (.int x :: st) X FI AI AL P := by
  subst hn
  by_cases h : 0 ≤ x
  · refine G.step0 ?_ (kt h)
    intro r X' FI' AI' AL' hw p e R s m args below meth c H locs n0 k0 cells slots arr C hR hS hL e1 e2 e3 e4
    exact lv_if_ge C.1 C.2.1 hd ht (fun _ => hw p e R s m args below meth c H locs n0 k0 cells slots arr C hR hS hL e1 e2 e3 e4) (fun q => absurd q (by first | exact h | exact fun z => h z | exact fun z => z h))
  · refine G.step0 ?_ (kf (by first | exact h | exact Classical.not_not.mp h))
    intro r X' FI' AI' AL' hw p e R s m args below meth c H locs n0 k0 cells slots arr C hR hS hL e1 e2 e3 e4
    exact lv_if_ge C.1 C.2.1 hd ht (fun q => absurd q h) (fun _ => hw p e R s m args below meth c H locs n0 k0 cells slots arr C hR hS hL e1 e2 e3 e4)
theorem G_ifgt {V : GV} {M : MT} {d pc : Nat} {ls : List (Option Value)} {st : List Value} {X : XT} {FI AI : FT} {AL : LT} {P : PT} {x : Int32} {off : Int} (t n : Nat) (hd : dec M pc = .ok (.ifCond .gt off, 3)) (ht : (pc : Int) + off = (t : Int)) (hn : pc + 3 = n) (kt : 0 < x → G V M d t ls st X FI AI AL P) (kf : ¬ 0 < x → G V M d n ls st X FI AI AL P) : G V M d pc ls (.int x :: st) X FI AI AL P := by
  subst hn
  by_cases h : 0 < x
  · refine G.step0 ?_ (kt h)
    intro r X' FI' AI' AL' hw p e R s m args below meth c H locs n0 k0 cells slots arr C hR hS hL e1 e2 e3 e4
    exact lv_if_gt C.1 C.2.1 hd ht (fun _ => hw p e R s m args below meth c H locs n0 k0 cells slots arr C hR hS hL e1 e2 e3 e4) (fun q => absurd q (by first | exact h | exact fun z => h z | exact fun z => z h))
  · refine G.step0 ?_ (kf (by first | exact h | exact Classical.not_not.mp h))
    intro r X' FI' AI' AL' hw p e R s m args below meth c H locs n0 k0 cells slots arr C hR hS hL e1 e2 e3 e4
    exact lv_if_gt C.1 C.2.1 hd ht (fun q => absurd q h) (fun _ => hw p e R s m args below meth c H locs n0 k0 cells slots arr C hR hS hL e1 e2 e3 e4)
theorem G_ifle {V : GV} {M : MT} {d pc : Nat} {ls : List (Option Value)} {st : List Value} {X : XT} {FI AI : FT} {AL : LT} {P : PT} {x : Int32} {off : Int} (t n : Nat) (hd : dec M pc = .ok (.ifCond .le off, 3)) (ht : (pc : Int) + off = (t : Int)) (hn : pc + 3 = n) (kt : x ≤ 0 → G V M d t ls st X FI AI AL P) (kf : ¬ x ≤ 0 → G V M d n ls st X FI AI AL P) : G V M d pc ls (.int x :: st) X FI AI AL P := by
  subst hn
  by_cases h : x ≤ 0
  · refine G.step0 ?_ (kt h)
    intro r X' FI' AI' AL' hw p e R s m args below meth c H locs n0 k0 cells slots arr C hR hS hL e1 e2 e3 e4
    exact lv_if_le C.1 C.2.1 hd ht (fun _ => hw p e R s m args below meth c H locs n0 k0 cells slots arr C hR hS hL e1 e2 e3 e4) (fun q => absurd q (by first | exact h | exact fun z => h z | exact fun z => z h))
  · refine G.step0 ?_ (kf (by first | exact h | exact Classical.not_not.mp h))
    intro r X' FI' AI' AL' hw p e R s m args below meth c H locs n0 k0 cells slots arr C hR hS hL e1 e2 e3 e4
    exact lv_if_le C.1 C.2.1 hd ht (fun q => absurd q h) (fun _ => hw p e R s m args below meth c H locs n0 k0 cells slots arr C hR hS hL e1 e2 e3 e4)
theorem G_iceq {V : GV} {M : MT} {d pc : Nat} {ls : List (Option Value)} {st : List Value} {X : XT} {FI AI : FT} {AL : LT} {P : PT} {x y : Int32} {off : Int} (t n : Nat) (hd : dec M pc = .ok (.if_icmp .eq off, 3)) (ht : (pc : Int) + off = (t : Int)) (hn : pc + 3 = n) (kt : x = y → G V M d t ls st X FI AI AL P) (kf : ¬ x = y → G V M d n ls st X FI AI AL P) : G V M d pc ls (.int y :: .int x :: st) X FI AI AL P := by
  subst hn
  by_cases h : x = y
  · refine G.step0 ?_ (kt h)
    intro r X' FI' AI' AL' hw p e R s m args below meth c H locs n0 k0 cells slots arr C hR hS hL e1 e2 e3 e4
    exact lv_icmp_eq C.1 C.2.1 hd ht (fun _ => hw p e R s m args below meth c H locs n0 k0 cells slots arr C hR hS hL e1 e2 e3 e4) (fun q => absurd q (by first | exact h | exact fun z => h z | exact fun z => z h))
  · refine G.step0 ?_ (kf (by first | exact h | exact Classical.not_not.mp h))
    intro r X' FI' AI' AL' hw p e R s m args below meth c H locs n0 k0 cells slots arr C hR hS hL e1 e2 e3 e4
    exact lv_icmp_eq C.1 C.2.1 hd ht (fun q => absurd q h) (fun _ => hw p e R s m args below meth c H locs n0 k0 cells slots arr C hR hS hL e1 e2 e3 e4)
theorem G_icne {V : GV} {M : MT} {d pc : Nat} {ls : List (Option Value)} {st : List Value} {X : XT} {FI AI : FT} {AL : LT} {P : PT} {x y : Int32} {off : Int} (t n : Nat) (hd : dec M pc = .ok (.if_icmp .ne off, 3)) (ht : (pc : Int) + off = (t : Int)) (hn : pc + 3 = n) (kt : ¬ x = y → G V M d t ls st X FI AI AL P) (kf : x = y → G V M d n ls st X FI AI AL P) : G V M d pc ls (.int y :: .int x :: st) X FI AI AL P := by
  subst hn
  by_cases h : ¬ x = y
  · refine G.step0 ?_ (kt h)
    intro r X' FI' AI' AL' hw p e R s m args below meth c H locs n0 k0 cells slots arr C hR hS hL e1 e2 e3 e4
    exact lv_icmp_ne C.1 C.2.1 hd ht (fun _ => hw p e R s m args below meth c H locs n0 k0 cells slots arr C hR hS hL e1 e2 e3 e4) (fun q => absurd q (by first | exact h | exact fun z => h z | exact fun z => z h))
  · refine G.step0 ?_ (kf (by first | exact h | exact Classical.not_not.mp h))
    intro r X' FI' AI' AL' hw p e R s m args below meth c H locs n0 k0 cells slots arr C hR hS hL e1 e2 e3 e4
    exact lv_icmp_ne C.1 C.2.1 hd ht (fun q => absurd q h) (fun _ => hw p e R s m args below meth c H locs n0 k0 cells slots arr C hR hS hL e1 e2 e3 e4)
theorem G_iclt {V : GV} {M : MT} {d pc : Nat} {ls : List (Option Value)} {st : List Value} {X : XT} {FI AI : FT} {AL : LT} {P : PT} {x y : Int32} {off : Int} (t n : Nat) (hd : dec M pc = .ok (.if_icmp .lt off, 3)) (ht : (pc : Int) + off = (t : Int)) (hn : pc + 3 = n) (kt : x < y → G V M d t ls st X FI AI AL P) (kf : ¬ x < y → G V M d n ls st X FI AI AL P) : G V M d pc ls (.int y :: .int x :: st) X FI AI AL P := by
  subst hn
  by_cases h : x < y
  · refine G.step0 ?_ (kt h)
    intro r X' FI' AI' AL' hw p e R s m args below meth c H locs n0 k0 cells slots arr C hR hS hL e1 e2 e3 e4
    exact lv_icmp_lt C.1 C.2.1 hd ht (fun _ => hw p e R s m args below meth c H locs n0 k0 cells slots arr C hR hS hL e1 e2 e3 e4) (fun q => absurd q (by first | exact h | exact fun z => h z | exact fun z => z h))
  · refine G.step0 ?_ (kf (by first | exact h | exact Classical.not_not.mp h))
    intro r X' FI' AI' AL' hw p e R s m args below meth c H locs n0 k0 cells slots arr C hR hS hL e1 e2 e3 e4
    exact lv_icmp_lt C.1 C.2.1 hd ht (fun q => absurd q h) (fun _ => hw p e R s m args below meth c H locs n0 k0 cells slots arr C hR hS hL e1 e2 e3 e4)
theorem G_icge {V : GV} {M : MT} {d pc : Nat} {ls : List (Option Value)} {st : List Value} {X : XT} {FI AI : FT} {AL : LT} {P : PT} {x y : Int32} {off : Int} (t n : Nat) (hd : dec M pc = .ok (.if_icmp .ge off, 3)) (ht : (pc : Int) + off = (t : Int)) (hn : pc + 3 = n) (kt : y ≤ x → G V M d t ls st X FI AI AL P) (kf : ¬ y ≤ x → G V M d n ls st X FI AI AL P) : G V M d pc ls (.int y :: .int x :: st) X FI AI AL P := by
  subst hn
  by_cases h : y ≤ x
  · refine G.step0 ?_ (kt h)
    intro r X' FI' AI' AL' hw p e R s m args below meth c H locs n0 k0 cells slots arr C hR hS hL e1 e2 e3 e4
    exact lv_icmp_ge C.1 C.2.1 hd ht (fun _ => hw p e R s m args below meth c H locs n0 k0 cells slots arr C hR hS hL e1 e2 e3 e4) (fun q => absurd q (by first | exact h | exact fun z => h z | exact fun z => z h))
  · refine G.step0 ?_ (kf (by first | exact h | exact Classical.not_not.mp h))
    intro r X' FI' AI' AL' hw p e R s m args below meth c H locs n0 k0 cells slots arr C hR hS hL e1 e2 e3 e4
    exact lv_icmp_ge C.1 C.2.1 hd ht (fun q => absurd q h) (fun _ => hw p e R s m args below meth c H locs n0 k0 cells slots arr C hR hS hL e1 e2 e3 e4)
theorem G_icgt {V : GV} {M : MT} {d pc : Nat} {ls : List (Option Value)} {st : List Value} {X : XT} {FI AI : FT} {AL : LT} {P : PT} {x y : Int32} {off : Int} (t n : Nat) (hd : dec M pc = .ok (.if_icmp .gt off, 3)) (ht : (pc : Int) + off = (t : Int)) (hn : pc + 3 = n) (kt : y < x → G V M d t ls st X FI AI AL P) (kf : ¬ y < x → G V M d n ls st X FI AI AL P) : G V M d pc ls (.int y :: .int x :: st) X FI AI AL P := by
  subst hn
  by_cases h : y < x
  · refine G.step0 ?_ (kt h)
    intro r X' FI' AI' AL' hw p e R s m args below meth c H locs n0 k0 cells slots arr C hR hS hL e1 e2 e3 e4
    exact lv_icmp_gt C.1 C.2.1 hd ht (fun _ => hw p e R s m args below meth c H locs n0 k0 cells slots arr C hR hS hL e1 e2 e3 e4) (fun q => absurd q (by first | exact h | exact fun z => h z | exact fun z => z h))
  · refine G.step0 ?_ (kf (by first | exact h | exact Classical.not_not.mp h))
    intro r X' FI' AI' AL' hw p e R s m args below meth c H locs n0 k0 cells slots arr C hR hS hL e1 e2 e3 e4
    exact lv_icmp_gt C.1 C.2.1 hd ht (fun q => absurd q h) (fun _ => hw p e R s m args below meth c H locs n0 k0 cells slots arr C hR hS hL e1 e2 e3 e4)
theorem G_icle {V : GV} {M : MT} {d pc : Nat} {ls : List (Option Value)} {st : List Value} {X : XT} {FI AI : FT} {AL : LT} {P : PT} {x y : Int32} {off : Int} (t n : Nat) (hd : dec M pc = .ok (.if_icmp .le off, 3)) (ht : (pc : Int) + off = (t : Int)) (hn : pc + 3 = n) (kt : x ≤ y → G V M d t ls st X FI AI AL P) (kf : ¬ x ≤ y → G V M d n ls st X FI AI AL P) : G V M d pc ls (.int y :: .int x :: st) X FI AI AL P := by
  subst hn
  by_cases h : x ≤ y
  · refine G.step0 ?_ (kt h)
    intro r X' FI' AI' AL' hw p e R s m args below meth c H locs n0 k0 cells slots arr C hR hS hL e1 e2 e3 e4
    exact lv_icmp_le C.1 C.2.1 hd ht (fun _ => hw p e R s m args below meth c H locs n0 k0 cells slots arr C hR hS hL e1 e2 e3 e4) (fun q => absurd q (by first | exact h | exact fun z => h z | exact fun z => z h))
  · refine G.step0 ?_ (kf (by first | exact h | exact Classical.not_not.mp h))
    intro r X' FI' AI' AL' hw p e R s m args below meth c H locs n0 k0 cells slots arr C hR hS hL e1 e2 e3 e4
    exact lv_icmp_le C.1 C.2.1 hd ht (fun q => absurd q h) (fun _ => hw p e R s m args below meth c H locs n0 k0 cells slots arr C hR hS hL e1 e2 e3 e4)
theorem G_goto {V : GV} {M : MT} {d pc : Nat} {ls : List (Option Value)} {st : List Value} {X : XT} {FI AI : FT} {AL : LT} {P : PT} {off : Int} (t : Nat) (hd : dec M pc = .ok (.goto off, 3)) (ht : (pc : Int) + off = (t : Int)) (k : G V M d t ls st X FI AI AL P) : G V M d pc ls st X FI AI AL P := by
  refine G.step0 ?_ k
  intro r X' FI' AI' AL' hw p e R s m args below meth c H locs n0 k0 cells slots arr C hR hS hL e1 e2 e3 e4
  exact lv_goto C.1 C.2.1 hd ht (hw p e R s m args below meth c H locs n0 k0 cells slots arr C hR hS hL e1 e2 e3 e4)
theorem G_ifnullN {V : GV} {M : MT} {d pc : Nat} {ls : List (Option Value)} {st : List Value} {X : XT} {FI AI : FT} {AL : LT} {P : PT} {x : Nat} {off : Int} (t : Nat) (hd : dec M pc = .ok (.ifnull off, 3)) (ht : (pc : Int) + off = (t : Int)) (k : G V M d t ls st X FI AI AL P) : G V M d pc ls (.null :: st) X FI AI AL P := by
  refine G.step0 ?_ k
  intro r X' FI' AI' AL' hw p e R s m args below meth c H locs n0 k0 cells slots arr C hR hS hL e1 e2 e3 e4
  exact lv_ifnullN C.1 C.2.1 hd ht (hw p e R s m args below meth c H locs n0 k0 cells slots arr C hR hS hL e1 e2 e3 e4)
theorem G_ifnonnull {V : GV} {M : MT} {d pc : Nat} {ls : List (Option Value)} {st : List Value} {X : XT} {FI AI : FT} {AL : LT} {P : PT} {x : Nat} {off : Int} (t : Nat) (hd : dec M pc = .ok (.ifnonnull off, 3)) (ht : (pc : Int) + off = (t : Int)) (k : G V M d t ls st X FI AI AL P) : G V M d pc ls (.ref x :: st) X FI AI AL P := by
  refine G.step0 ?_ k
  intro r X' FI' AI' AL' hw p e R s m args below meth c H locs n0 k0 cells slots arr C hR hS hL e1 e2 e3 e4
  exact lv_ifnonnull C.1 C.2.1 hd ht (hw p e R s m args below meth c H locs n0 k0 cells slots arr C hR hS hL e1 e2 e3 e4)
theorem G_ifnull {V : GV} {M : MT} {d pc : Nat} {ls : List (Option Value)} {st : List Value} {X : XT} {FI AI : FT} {AL : LT} {P : PT} {x : Nat} {off : Int} (n : Nat) (hd : dec M pc = .ok (.ifnull off, 3)) (hn : pc + 3 = n) (k : G V M d n ls st X FI AI AL P) : G V M d pc ls (.ref x :: st) X FI AI AL P := by
  subst hn
  refine G.step0 ?_ k
  intro r X' FI' AI' AL' hw p e R s m args below meth c H locs n0 k0 cells slots arr C hR hS hL e1 e2 e3 e4
  exact lv_ifnull C.1 C.2.1 hd (hw p e R s m args below meth c H locs n0 k0 cells slots arr C hR hS hL e1 e2 e3 e4)
theorem G_ifnonnullN {V : GV} {M : MT} {d pc : Nat} {ls : List (Option Value)} {st : List Value} {X : XT} {FI AI : FT} {AL : LT} {P : PT} {x : Nat} {off : Int} (n : Nat) (hd : dec M pc = .ok (.ifnonnull off, 3)) (hn : pc + 3 = n) (k : G V M d n ls st X FI AI AL P) : G V M d pc ls (.null :: st) X FI AI AL P := by
  subst hn
  refine G.step0 ?_ k
  intro r X' FI' AI' AL' hw p e R s m args below meth c H locs n0 k0 cells slots arr C hR hS hL e1 e2 e3 e4
  exact lv_ifnonnullN C.1 C.2.1 hd (hw p e R s m args below meth c H locs n0 k0 cells slots arr C hR hS hL e1 e2 e3 e4)
theorem G_tableIn {V : GV} {M : MT} {d pc : Nat} {ls : List (Option Value)} {st : List Value} {X : XT} {FI AI : FT} {AL : LT} {P : PT} {dflt lo hi : Int} {offs : Array Int} {len : Nat} {x : Int32} {off : Int} (t : Nat) (hd : dec M pc = .ok (.tableswitch dflt lo hi offs, len)) (h1 : ¬ x.toInt < lo) (h2 : ¬ hi < x.toInt) (ho : offs[(x.toInt - lo).toNat]? = some off) (ht : (pc : Int) + off = (t : Int)) (k : G V M d t ls st X FI AI AL P) : G V M d pc ls (.int x :: st) X FI AI AL P := by
  refine G.step0 ?_ k
  intro r X' FI' AI' AL' hw p e R s m args below meth c H locs n0 k0 cells slots arr C hR hS hL e1 e2 e3 e4
  exact lv_tableIn C.1 C.2.1 hd h1 h2 ho ht (hw p e R s m args below meth c H locs n0 k0 cells slots arr C hR hS hL e1 e2 e3 e4)
theorem G_tableOut {V : GV} {M : MT} {d pc : Nat} {ls : List (Option Value)} {st : List Value} {X : XT} {FI AI : FT} {AL : LT} {P : PT} {dflt lo hi : Int} {offs : Array Int} {len : Nat} {x : Int32} (t : Nat) (hd : dec M pc = .ok (.tableswitch dflt lo hi offs, len)) (h : x.toInt < lo ∨ hi < x.toInt) (ht : (pc : Int) + dflt = (t : Int)) (k : G V M d t ls st X FI AI AL P) : G V M d pc ls (.int x :: st) X FI AI AL P := by
  refine G.step0 ?_ k
  intro r X' FI' AI' AL' hw p e R s m args below meth c H locs n0 k0 cells slots arr C hR hS hL e1 e2 e3 e4
  exact lv_tableOut C.1 C.2.1 hd h ht (hw p e R s m args below meth c H locs n0 k0 cells slots arr C hR hS hL e1 e2 e3 e4)
theorem G_ldc2 {V : GV} {M : MT} {d pc : Nat} {ls : List (Option Value)} {st : List Value} {X : XT} {FI AI : FT} {AL : LT} {P : PT} {idx : Nat} {v : Int64} (n : Nat) (hd : dec M pc = .ok (.ldc2_w idx, 3)) (hn : pc + 3 = n) (hc : Cond.constantLong M.1.cls idx v ∈ gw_tbl) (k : G V M d n ls (.long v :: st) X FI AI AL P) : G V M d pc ls st X FI AI AL P := by
  subst hn
  refine G.step0 ?_ k
  intro r X' FI' AI' AL' hw p e R s m args below meth c H locs n0 k0 cells slots arr C hR hS hL e1 e2 e3 e4
  exact lv_ldc2 C.1 C.2.1 C.2.2.2.2.1 (C.2.2.2.2.2.2.2.1 _ hc) hd (hw p e R s m args below meth c H locs n0 k0 cells slots arr C hR hS hL e1 e2 e3 e4)
theorem G_ldcw {V : GV} {M : MT} {d pc : Nat} {ls : List (Option Value)} {st : List Value} {X : XT} {FI AI : FT} {AL : LT} {P : PT} {idx : Nat} {v : Int32} (n : Nat) (hd : dec M pc = .ok (.ldc_w idx, 3)) (hn : pc + 3 = n) (hc : Cond.constant M.1.cls idx v ∈ gw_tbl) (k : G V M d n ls (.int v :: st) X FI AI AL P) : G V M d pc ls st X FI AI AL P := by
  subst hn
  refine G.step0 ?_ k
  intro r X' FI' AI' AL' hw p e R s m args below meth c H locs n0 k0 cells slots arr C hR hS hL e1 e2 e3 e4
  exact lv_ldcw C.1 C.2.1 C.2.2.2.2.1 (C.2.2.2.2.2.2.2.1 _ hc) hd (hw p e R s m args below meth c H locs n0 k0 cells slots arr C hR hS hL e1 e2 e3 e4)
/-! ===== heap rows ===== -/
theorem CF : ∀ (ci : Nat) (C : String) (T : u_T) (N : Nat), Cls[ci]? = some (C, T, N) → (∀ w ∈ u_ws C T N, w ∈ gw_tbl) ∧ (∀ k, k < N → parseFieldDescriptor (T k).2.2.1 = some (tyOf ci k)) ∧ (∀ a, a < N → ∀ b, b < N → a ≠ b → (T a).2.1 ≠ (T b).2.1) ∧ (∀ k, k < N → (T k).1 = C) ∧ ∀ k, k < N → defaultValue (tyOf ci k) = if isR ci k = true then .null else .int 0
  | 0, _, _, _, h => by cases h; exact ⟨i_Gen, p_Gen, n_Gen, c_Gen, by decide +kernel⟩
  | 1, _, _, _, h => by cases h; exact ⟨i_Kept, p_Kept, n_Kept, c_Kept, by decide +kernel⟩
  | 2, _, _, _, h => by cases h; exact ⟨i_Lat, p_Lat, n_Lat, c_Lat, by decide +kernel⟩
  | 3, _, _, _, h => by cases h; exact ⟨i_Link, p_Link, n_Link, c_Link, by decide +kernel⟩
  | 4, _, _, _, h => by cases h; exact ⟨i_Poly, p_Poly, n_Poly, c_Poly, by decide +kernel⟩
  | 5, _, _, _, h => by cases h; exact ⟨i_Rank, p_Rank, n_Rank, c_Rank, by decide +kernel⟩
  | 6, _, _, _, h => by cases h; exact ⟨i_Rel, p_Rel, n_Rel, c_Rel, by decide +kernel⟩
  | 7, _, _, _, h => by cases h; exact ⟨i_Tab, p_Tab, n_Tab, c_Tab, by decide +kernel⟩
  | 8, _, _, _, h => by cases h; exact ⟨i_Sheet, p_Sheet, n_Sheet, c_Sheet, by decide +kernel⟩
  | 9, _, _, _, h => by cases h; exact ⟨i_Steps, p_Steps, n_Steps, c_Steps, by decide +kernel⟩
  | 10, _, _, _, h => by cases h; exact ⟨i_Alg, p_Alg, n_Alg, c_Alg, by decide +kernel⟩
  | 11, _, _, _, h => by cases h; exact ⟨i_Mod, p_Mod, n_Mod, c_Mod, by decide +kernel⟩
  | _ + 12, _, _, _, h => by cases h
theorem K1 {D : va_G} {cl : List vw_C} {s : State} {cA : ClassId} {ty : FieldType} (h : va_K D cl [] s) (h1 : ArrOfT s cA ty) (h2 : va_RA s cA ty) : va_K D cl [(cA, ty)] s :=
  ⟨h.1, fun k q hq => by
    have h0 : k < 1 := (List.getElem?_eq_some_iff.mp hq).1
    rw [show k = 0 by omega] at hq
    cases hq
    exact ⟨h1, h2⟩⟩
theorem P1 {D : va_G} {cl : List vw_C} {H : Heap} {a : Nat} {cA : ClassId} {x : vp_A} (h : H[a]? = some (vp_cell cA x)) : va_P D cl [(a, .inl (cA, x))] H := fun k q hq => by
  have h0 : k < 1 := (List.getElem?_eq_some_iff.mp hq).1
  rw [show k = 0 by omega] at hq
  cases hq
  exact h
theorem Rel.put {V : GV} {s : State} {X X1 : XT} {FI AI FI1 AI1 : FT} {AL AL1 : LT} {H H1 : Heap} (h : Rel V s X FI AI AL H) {a : Nat} (z : H1.size = H.size) (oq : ∀ q, q ≠ a → H1[q]? = H[q]?) (hsh : x_sh X1 = x_sh X) (hsz : x_sz X1 = x_sz X)
    (hr : ∀ b, b ≠ a → x_FR X1 b = x_FR X b ∧ x_AR X1 b = x_AR X b ∧ FI1 b = FI b ∧ AI1 b = AI b ∧ AL1 b = AL b)
    (hA : ∀ t n, x_sh X a = some (t, n) → t < 10 → cokA s X1 AI1 AL1 H1 a t n) (hO : ∀ ci n, x_sh X a = some (ci + 10, n) → cokO V.2.1 X1 FI1 H1 a ci n) : Rel V s X1 FI1 AI1 AL1 H1 := by
  refine ⟨by rw [z, hsz]; exact h.1, fun b t n hb => by rw [hsh] at hb; rw [hsz]; exact h.2.1 b t n hb, fun b t n hb ht => ?_, fun b ci n hb => ?_⟩
  · rw [hsh] at hb
    by_cases e : b = a
    · subst e; exact hA t n hb ht
    · obtain ⟨cA, h1, h2, h3⟩ := h.2.2.1 b t n hb ht
      obtain ⟨-, r2, -, r4, r5⟩ := hr b e
      refine ⟨cA, h1, h2, ?_⟩
      rw [oq b e, h3]
      simp only [cont, r2, r4, r5]
  · rw [hsh] at hb
    by_cases e : b = a
    · subst e; exact hO ci n hb
    · obtain ⟨r, h1, h2, h3⟩ := h.2.2.2 b ci n hb
      obtain ⟨q1, -, q3, -, -⟩ := hr b e
      refine ⟨r, h1, h2, (h3.kept (oq b e)).to (fun k _ => ?_)⟩
      simp only [fval, q1, q3]
theorem Rel.new {V : GV} {s : State} {X X1 : XT} {FI AI FI1 AI1 : FT} {AL AL1 : LT} {H H1 : Heap} (h : Rel V s X FI AI AL H) (hlo : v_lo V ≤ H.size) {t0 n0 : Nat} (z : H1.size = H.size + 1) (oq : ∀ q, q < H.size → H1[q]? = H[q]?) (hsh : x_sh X1 = fun b => if b = x_sz X then some (t0, n0) else x_sh X b) (hsz : x_sz X1 = x_sz X + 1)
    (hr : ∀ b, b ≠ x_sz X → x_FR X1 b = x_FR X b ∧ x_AR X1 b = x_AR X b ∧ FI1 b = FI b ∧ AI1 b = AI b ∧ AL1 b = AL b)
    (hA : t0 < 10 → cokA s X1 AI1 AL1 H1 (x_sz X) t0 n0) (hO : ∀ ci, t0 = ci + 10 → cokO V.2.1 X1 FI1 H1 (x_sz X) ci n0) : Rel V s X1 FI1 AI1 AL1 H1 := by
  have hs := h.1
  refine ⟨by rw [z, hsz, hs], fun b t n hb => ?_, fun b t n hb ht => ?_, fun b ci n hb => ?_⟩
  · rw [hsh] at hb
    by_cases e : b = x_sz X
    · rw [hsz]; omega
    · simp only [e, if_false] at hb
      have := h.2.1 b t n hb
      rw [hsz]; omega
  · rw [hsh] at hb
    by_cases e : b = x_sz X
    · simp only [e, if_true] at hb
      cases hb
      subst e
      exact hA ht
    · simp only [e, if_false] at hb
      obtain ⟨cA, h1, h2, h3⟩ := h.2.2.1 b t n hb ht
      obtain ⟨-, r2, -, r4, r5⟩ := hr b e
      refine ⟨cA, h1, h2, ?_⟩
      rw [oq b (by rw [hs]; exact (h.2.1 b t n hb).2), h3]
      simp only [cont, r2, r4, r5]
  · rw [hsh] at hb
    by_cases e : b = x_sz X
    · simp only [e, if_true] at hb
      have e2 : t0 = ci + 10 ∧ n0 = n := by simpa using hb
      subst e
      rw [← e2.2]
      exact hO ci e2.1
    · simp only [e, if_false] at hb
      obtain ⟨r, h1, h2, h3⟩ := h.2.2.2 b ci n hb
      obtain ⟨q1, -, q3, -, -⟩ := hr b e
      refine ⟨r, h1, h2, (h3.kept (oq b (by rw [hs]; exact (h.2.1 b _ n hb).2))).to (fun k _ => ?_)⟩
      simp only [fval, q1, q3]
theorem vpi {i : Int32} {n k : Nat} (h : ix i n k) (cA : ClassId) (f : Nat → Value) : ¬ (i < 0 ∨ (arrV cA n f).slots.size ≤ i.toNatClampNeg) := by
  rw [arrV_size]; exact ix_in h
theorem G_iaload {V : GV} {M : MT} {d pc : Nat} {ls : List (Option Value)} {st : List Value} {X : XT} {FI AI : FT} {AL : LT} {P : PT} {i : Int32} {a w j0 : Nat} (n : Nat) (hd : dec M pc = .ok (.iaload, 1)) (hn : pc + 1 = n) (hsh : x_sh X a = some (0, w)) (hi : ix i w j0) (k : G V M d n ls (.int (AI a j0) :: st) X FI AI AL P) : G V M d pc ls (.int i :: .ref a :: st) X FI AI AL P := by
  subst hn
  refine G.step0 ?_ k
  intro r X' FI' AI' AL' hw p e R s m args below meth c H locs n0 k0 cells slots arr C hR hS hL e1 e2 e3 e4
  obtain ⟨cA, h1, h2, h3⟩ := hR.2.2.1 a 0 w hsh (by decide)
  refine va_iald C.1 C.2.1 (K1 C.2.2.2.2.2.2.2.2.2.2.1 h1 h2) (P1 h3) 0 0 rfl rfl (ix_in hi) hd ?_
  rw [ix_cl hi]
  exact (hw p e R s m args below meth c H locs n0 k0 cells slots arr C hR hS hL e1 e2 e3 e4)
theorem G_baload {V : GV} {M : MT} {d pc : Nat} {ls : List (Option Value)} {st : List Value} {X : XT} {FI AI : FT} {AL : LT} {P : PT} {i : Int32} {a w j0 : Nat} (n : Nat) (hd : dec M pc = .ok (.baload, 1)) (hn : pc + 1 = n) (hsh : x_sh X a = some (2, w)) (hi : ix i w j0) (k : G V M d n ls (.int (AI a j0) :: st) X FI AI AL P) : G V M d pc ls (.int i :: .ref a :: st) X FI AI AL P := by
  subst hn
  refine G.step0 ?_ k
  intro r X' FI' AI' AL' hw p e R s m args below meth c H locs n0 k0 cells slots arr C hR hS hL e1 e2 e3 e4
  obtain ⟨cA, h1, h2, h3⟩ := hR.2.2.1 a 2 w hsh (by decide)
  refine va_zald C.1 C.2.1 (K1 C.2.2.2.2.2.2.2.2.2.2.1 h1 h2) (P1 h3) 0 0 rfl rfl (ix_in hi) hd ?_
  rw [ix_cl hi]
  exact (hw p e R s m args below meth c H locs n0 k0 cells slots arr C hR hS hL e1 e2 e3 e4)
theorem G_laload {V : GV} {M : MT} {d pc : Nat} {ls : List (Option Value)} {st : List Value} {X : XT} {FI AI : FT} {AL : LT} {P : PT} {i : Int32} {a w j0 : Nat} (n : Nat) (hd : dec M pc = .ok (.laload, 1)) (hn : pc + 1 = n) (hsh : x_sh X a = some (1, w)) (hi : ix i w j0) (k : G V M d n ls (.long (AL a j0) :: st) X FI AI AL P) : G V M d pc ls (.int i :: .ref a :: st) X FI AI AL P := by
  subst hn
  refine G.step0 ?_ k
  intro r X' FI' AI' AL' hw p e R s m args below meth c H locs n0 k0 cells slots arr C hR hS hL e1 e2 e3 e4
  obtain ⟨cA, h1, h2, h3⟩ := hR.2.2.1 a 1 w hsh (by decide)
  refine va_lald C.1 C.2.1 (K1 C.2.2.2.2.2.2.2.2.2.2.1 h1 h2) (P1 h3) 0 0 rfl rfl (ix_in hi) hd ?_
  rw [ix_cl hi]
  exact (hw p e R s m args below meth c H locs n0 k0 cells slots arr C hR hS hL e1 e2 e3 e4)
theorem cont_ref {X : XT} {AI : FT} {AL : LT} {a t n : Nat} (h : 3 ≤ t) : cont X AI AL a t n = (n, .inr (.inr (.inr (.inr (x_AR X a))))) := by
  match t, h with
  | 3, _ => rfl
  | 4, _ => rfl
  | 5, _ => rfl
  | _ + 6, _ => rfl
theorem tag_ref {t : Nat} (h : 3 ≤ t) : (tagTy t).isReference = true := by
  match t, h with
  | 3, _ => rfl
  | 4, _ => rfl
  | 5, _ => rfl
  | _ + 6, _ => rfl
theorem G_aaload0 {V : GV} {M : MT} {d pc : Nat} {ls : List (Option Value)} {st : List Value} {X : XT} {FI AI : FT} {AL : LT} {P : PT} {i : Int32} {a t w j0 : Nat} (n : Nat) (hd : dec M pc = .ok (.aaload, 1)) (hn : pc + 1 = n) (hsh : x_sh X a = some (t, w)) (ht : 3 ≤ t) (ht2 : t < 10) (hi : ix i w j0) (k : G V M d n ls (va_rf (x_AR X a j0) :: st) X FI AI AL P) : G V M d pc ls (.int i :: .ref a :: st) X FI AI AL P := by
  subst hn
  refine G.step0 ?_ k
  intro r X' FI' AI' AL' hw p e R s m args below meth c H locs n0 k0 cells slots arr C hR hS hL e1 e2 e3 e4
  obtain ⟨cA, h1, h2, h3⟩ := hR.2.2.1 a t w hsh ht2
  rw [cont_ref ht] at h3
  refine W.aald (v := va_rf (x_AR X a i.toNatClampNeg)) (ty := tagTy t) C.1 C.2.1 h3 (h1 w (fun j => va_rf (x_AR X a j))) (tag_ref ht) (fun q => by cases q) (vpi hi _ _) (by show (arrV _ _ _).slots[_]? = _; rw [arrV_read _ _ (by rw [ix_cl hi]; exact hi.2.1)]) rfl rfl hd ?_
  rw [ix_cl hi]
  exact (hw p e R s m args below meth c H locs n0 k0 cells slots arr C hR hS hL e1 e2 e3 e4)
theorem G_aaload {V : GV} {M : MT} {d pc : Nat} {ls : List (Option Value)} {st : List Value} {X : XT} {FI AI : FT} {AL : LT} {P : PT} {i : Int32} {a t w j0 b : Nat} (n : Nat) (hd : dec M pc = .ok (.aaload, 1)) (hn : pc + 1 = n) (hsh : x_sh X a = some (t, w)) (ht : 3 ≤ t) (ht2 : t < 10) (hi : ix i w j0) (hb : x_AR X a j0 = some b) (k : G V M d n ls (.ref b :: st) X FI AI AL P) : G V M d pc ls (.int i :: .ref a :: st) X FI AI AL P :=
  G_aaload0 n hd hn hsh ht ht2 hi (by rw [hb]; exact k)
theorem G_alen {V : GV} {M : MT} {d pc : Nat} {ls : List (Option Value)} {st : List Value} {X : XT} {FI AI : FT} {AL : LT} {P : PT} {a t w : Nat} (n : Nat) (hd : dec M pc = .ok (.arraylength, 1)) (hn : pc + 1 = n) (hsh : x_sh X a = some (t, w)) (ht : t < 10) (k : G V M d n ls (.int (nI w) :: st) X FI AI AL P) : G V M d pc ls (.ref a :: st) X FI AI AL P := by
  subst hn
  refine G.step0 ?_ k
  intro r X' FI' AI' AL' hw p e R s m args below meth c H locs n0 k0 cells slots arr C hR hS hL e1 e2 e3 e4
  obtain ⟨cA, h1, h2, h3⟩ := hR.2.2.1 a t w hsh ht
  have hc : (cont X AI AL a t w).1 = w := by unfold cont; split <;> rfl
  exact va_alen C.1 C.2.1 (K1 C.2.2.2.2.2.2.2.2.2.2.1 h1 h2) (P1 h3) 0 0 rfl rfl (by rw [hc]; rfl) hd (hw p e R s m args below meth c H locs n0 k0 cells slots arr C hR hS hL e1 e2 e3 e4)
theorem Rel.ai {V : GV} {s : State} {X : XT} {FI AI : FT} {AL : LT} {H H1 : Heap} (h : Rel V s X FI AI AL H) {a t n k : Nat} {x : Int32} {cA : ClassId} (hsh : x_sh X a = some (t, n)) (ht : t = 0 ∨ t = 2) (h1 : ArrOfT s cA (tagTy t)) (h2 : va_RA s cA (tagTy t)) (e : H1[a]? = some (arrV cA n (fun j => .int (if j = k then x else AI a j)))) (z : H1.size = H.size) (oq : ∀ q, q ≠ a → H1[q]? = H[q]?) : Rel V s X FI (u2 AI a k x) AL H1 := by
  refine h.put z oq rfl rfl (fun b hb => ⟨rfl, rfl, rfl, u2_off AI k x hb, rfl⟩) (fun t' n' h' ht' => ?_) (fun ci n' h' => ?_)
  · cases hsh.symm.trans h'
    refine ⟨cA, h1, h2, ?_⟩
    rw [e]
    rcases ht with rfl | rfl <;> simp only [cont, u2_row] <;> rfl
  · rw [hsh] at h'
    simp at h'
    omega
theorem Rel.al {V : GV} {s : State} {X : XT} {FI AI : FT} {AL : LT} {H H1 : Heap} (h : Rel V s X FI AI AL H) {a n k : Nat} {x : Int64} {cA : ClassId} (hsh : x_sh X a = some (1, n)) (h1 : ArrOfT s cA .long) (h2 : va_RA s cA .long) (e : H1[a]? = some (arrV cA n (fun j => .long (if j = k then x else AL a j)))) (z : H1.size = H.size) (oq : ∀ q, q ≠ a → H1[q]? = H[q]?) : Rel V s X FI AI (u2 AL a k x) H1 := by
  refine h.put z oq rfl rfl (fun b hb => ⟨rfl, rfl, rfl, rfl, u2_off AL k x hb⟩) (fun t' n' h' ht' => ?_) (fun ci n' h' => ?_)
  · cases hsh.symm.trans h'
    refine ⟨cA, h1, h2, ?_⟩
    rw [e]
    simp only [cont, u2_row]
    rfl
  · rw [hsh] at h'
    simp at h'
theorem updV_int {f : Nat → Int32} {k : Nat} {x : Int32} : updV (fun j => .int (f j)) k (.int x) = fun j => .int (if j = k then x else f j) := by
  funext j; by_cases h : j = k <;> simp [updV, h]
theorem updV_long {f : Nat → Int64} {k : Nat} {x : Int64} : updV (fun j => .long (f j)) k (.long x) = fun j => .long (if j = k then x else f j) := by
  funext j; by_cases h : j = k <;> simp [updV, h]
theorem updV_ref {f : Nat → Option Nat} {k b : Nat} : updV (fun j => va_rf (f j)) k (.ref b) = fun j => va_rf (if j = k then some b else f j) := by
  funext j; by_cases h : j = k <;> simp [updV, h, va_rf]
theorem G_iastore {V : GV} {M : MT} {d pc : Nat} {ls : List (Option Value)} {st : List Value} {X : XT} {FI AI : FT} {AL : LT} {P : PT} {i x : Int32} {a w j0 : Nat} (n : Nat) (hd : dec M pc = .ok (.iastore, 1)) (hn : pc + 1 = n) (hsh : x_sh X a = some (0, w)) (hi : ix i w j0) (k : G V M d n ls st X FI (u2 AI a j0 x) AL P) : G V M d pc ls (.int x :: .int i :: .ref a :: st) X FI AI AL P := by
  subst hn
  refine G.step (Nat.le_refl _) (Nat.le_refl _) ?_ k
  intro r X' FI' AI' AL' q1 q2 hw p e R s m args below meth c H locs n0 k0 cells slots arr C hR hS hL e1 e2 e3 e4
  obtain ⟨cA, h1, h2, h3⟩ := hR.2.2.1 a 0 w hsh (by decide)
  refine W.iast C.1 C.2.1 h3 (h1 w (fun j => .int (AI a j))) (fun q => by cases q) (vpi hi _ _) rfl rfl hd fun H1 eh z oq => ?_
  rw [ix_cl hi] at eh ⊢
  have e' : H1[a]? = some (arrV cA w (fun j => .int (if j = j0 then x else AI a j))) := by
    rw [eh, ← updV_int]; show some ((arrV cA w _).setSlot _ _) = _; rw [arrV_store]
  exact hw p e R s m args below meth c H1 _ n0 k0 cells slots arr C (hR.ai hsh (Or.inl rfl) h1 h2 e' z oq) (hS.put z oq (hR.2.1 a 0 w hsh).1) hL e1 e2 e3 e4
theorem G_bastore {V : GV} {M : MT} {d pc : Nat} {ls : List (Option Value)} {st : List Value} {X : XT} {FI AI : FT} {AL : LT} {P : PT} {i x : Int32} {a w j0 : Nat} (n : Nat) (hd : dec M pc = .ok (.bastore, 1)) (hn : pc + 1 = n) (hsh : x_sh X a = some (2, w)) (hi : ix i w j0) (hx : narrow .boolean (.int x) = .int x) (k : G V M d n ls st X FI (u2 AI a j0 x) AL P) : G V M d pc ls (.int x :: .int i :: .ref a :: st) X FI AI AL P := by
  subst hn
  refine G.step (Nat.le_refl _) (Nat.le_refl _) ?_ k
  intro r X' FI' AI' AL' q1 q2 hw p e R s m args below meth c H locs n0 k0 cells slots arr C hR hS hL e1 e2 e3 e4
  obtain ⟨cA, h1, h2, h3⟩ := hR.2.2.1 a 2 w hsh (by decide)
  refine W.zast C.1 C.2.1 h3 (h1 w (fun j => .int (AI a j))) (fun q => by cases q) (vpi hi _ _) rfl rfl hd fun H1 eh z oq => ?_
  rw [ix_cl hi, hx] at eh
  rw [ix_cl hi]
  have e' : H1[a]? = some (arrV cA w (fun j => .int (if j = j0 then x else AI a j))) := by
    rw [eh, ← updV_int]; show some ((arrV cA w _).setSlot _ _) = _; rw [arrV_store]
  exact hw p e R s m args below meth c H1 _ n0 k0 cells slots arr C (hR.ai hsh (Or.inr rfl) h1 h2 e' z oq) (hS.put z oq (hR.2.1 a 2 w hsh).1) hL e1 e2 e3 e4
theorem G_lastore {V : GV} {M : MT} {d pc : Nat} {ls : List (Option Value)} {st : List Value} {X : XT} {FI AI : FT} {AL : LT} {P : PT} {i : Int32} {x : Int64} {a w j0 : Nat} (n : Nat) (hd : dec M pc = .ok (.lastore, 1)) (hn : pc + 1 = n) (hsh : x_sh X a = some (1, w)) (hi : ix i w j0) (k : G V M d n ls st X FI AI (u2 AL a j0 x) P) : G V M d pc ls (.long x :: .int i :: .ref a :: st) X FI AI AL P := by
  subst hn
  refine G.step (Nat.le_refl _) (Nat.le_refl _) ?_ k
  intro r X' FI' AI' AL' q1 q2 hw p e R s m args below meth c H locs n0 k0 cells slots arr C hR hS hL e1 e2 e3 e4
  obtain ⟨cA, h1, h2, h3⟩ := hR.2.2.1 a 1 w hsh (by decide)
  refine W.last C.1 C.2.1 h3 (h1 w (fun j => .long (AL a j))) (fun q => by cases q) (vpi hi _ _) rfl rfl hd fun H1 eh z oq => ?_
  rw [ix_cl hi] at eh ⊢
  have e' : H1[a]? = some (arrV cA w (fun j => .long (if j = j0 then x else AL a j))) := by
    rw [eh, ← updV_long]; show some ((arrV cA w _).setSlot _ _) = _; rw [arrV_store]
  exact hw p e R s m args below meth c H1 _ n0 k0 cells slots arr C (hR.al hsh h1 h2 e' z oq) (hS.put z oq (hR.2.1 a 1 w hsh).1) hL e1 e2 e3 e4
/-! fields -/
theorem fval_R {X : XT} {FI : FT} {ci a k : Nat} (h : isR ci k = true) : fval X FI ci a k = va_rf (x_FR X a k) := by simp [fval, h]
theorem fval_I {X : XT} {FI : FT} {ci a k : Nat} (h : isR ci k = false) : fval X FI ci a k = .int (FI a k) := by simp [fval, h]
theorem G_getf {V : GV} {M : MT} {d pc : Nat} {ls : List (Option Value)} {st : List Value} {X : XT} {FI AI : FT} {AL : LT} {P : PT} {idx ci j a w : Nat} (n : Nat) (hd : dec M pc = .ok (.getfield idx, 3)) (hn : pc + 3 = n) (hf : FL M.1.cls idx ci j) (hsh : x_sh X a = some (ci + 10, w)) (k : G V M d n ls (fval X FI ci a j :: st) X FI AI AL P) : G V M d pc ls (.ref a :: st) X FI AI AL P := by
  subst hn
  refine G.step0 ?_ k
  intro r X' FI' AI' AL' hw p e R s m args below meth c H locs n0 k0 cells slots arr C hR hS hL e1 e2 e3 e4
  obtain ⟨Cn, T, N, hc, hj, hlk⟩ := hf
  obtain ⟨f1, f2, f3, f4, f5⟩ := CF ci Cn T N hc
  obtain ⟨r0, g1, g2, cell, y1, y2, y3, y4⟩ := hR.2.2.2 a ci w hsh
  cases g1.symm.trans hc
  subst g2
  obtain ⟨hSl, hfc, kC, hkC, hkind⟩ := C.2.2.2.2.2.2.2.2.2.2.1.1 ci _ hc
  obtain ⟨cf, kf, fi, f, hi, hsl⟩ := hSl j hj
  have hts := C.2.2.2.2.2.2.2.1
  refine W.getf C.1 C.2.1 C.2.2.2.2.1 (hts _ hlk) (by rw [← f4 j hj]; exact hi) (u_facts hfc hkC (u_lays hts f1 hj) hi).1 y1 (by rw [y3]; exact fun h => by cases h) (v := fval X FI ci a j) (by rw [hsl]; exact y4 j hj) rfl rfl hd (hw p e R s m args below meth c H locs n0 k0 cells slots arr C hR hS hL e1 e2 e3 e4)
theorem G_getR {V : GV} {M : MT} {d pc : Nat} {ls : List (Option Value)} {st : List Value} {X : XT} {FI AI : FT} {AL : LT} {P : PT} {idx ci j a w b : Nat} (n : Nat) (hd : dec M pc = .ok (.getfield idx, 3)) (hn : pc + 3 = n) (hf : FL M.1.cls idx ci j) (hr : isR ci j = true) (hsh : x_sh X a = some (ci + 10, w)) (hv : x_FR X a j = some b) (k : G V M d n ls (.ref b :: st) X FI AI AL P) : G V M d pc ls (.ref a :: st) X FI AI AL P :=
  G_getf n hd hn hf hsh (by rw [fval_R hr, hv]; exact k)
theorem G_getR0 {V : GV} {M : MT} {d pc : Nat} {ls : List (Option Value)} {st : List Value} {X : XT} {FI AI : FT} {AL : LT} {P : PT} {idx ci j a w : Nat} (n : Nat) (hd : dec M pc = .ok (.getfield idx, 3)) (hn : pc + 3 = n) (hf : FL M.1.cls idx ci j) (hr : isR ci j = true) (hsh : x_sh X a = some (ci + 10, w)) (k : G V M d n ls (va_rf (x_FR X a j) :: st) X FI AI AL P) : G V M d pc ls (.ref a :: st) X FI AI AL P :=
  G_getf n hd hn hf hsh (by rw [fval_R hr]; exact k)
theorem G_getI {V : GV} {M : MT} {d pc : Nat} {ls : List (Option Value)} {st : List Value} {X : XT} {FI AI : FT} {AL : LT} {P : PT} {idx ci j a w : Nat} (n : Nat) (hd : dec M pc = .ok (.getfield idx, 3)) (hn : pc + 3 = n) (hf : FL M.1.cls idx ci j) (hr : isR ci j = false) (hsh : x_sh X a = some (ci + 10, w)) (k : G V M d n ls (.int (FI a j) :: st) X FI AI AL P) : G V M d pc ls (.ref a :: st) X FI AI AL P :=
  G_getf n hd hn hf hsh (by rw [fval_I hr]; exact k)
theorem G_getIv {V : GV} {M : MT} {d pc : Nat} {ls : List (Option Value)} {st : List Value} {X : XT} {FI AI : FT} {AL : LT} {P : PT} {idx ci j a w : Nat} {v : Int32} (n : Nat) (hd : dec M pc = .ok (.getfield idx, 3)) (hn : pc + 3 = n) (hf : FL M.1.cls idx ci j) (hr : isR ci j = false) (hsh : x_sh X a = some (ci + 10, w)) (hv : FI a j = v) (k : G V M d n ls (.int v :: st) X FI AI AL P) : G V M d pc ls (.ref a :: st) X FI AI AL P :=
  G_getf n hd hn hf hsh (by rw [fval_I hr, hv]; exact k)
theorem G_ialoadv {V : GV} {M : MT} {d pc : Nat} {ls : List (Option Value)} {st : List Value} {X : XT} {FI AI : FT} {AL : LT} {P : PT} {i v : Int32} {a w j0 : Nat} (n : Nat) (hd : dec M pc = .ok (.iaload, 1)) (hn : pc + 1 = n) (hsh : x_sh X a = some (0, w)) (hi : ix i w j0) (hv : AI a j0 = v) (k : G V M d n ls (.int v :: st) X FI AI AL P) : G V M d pc ls (.int i :: .ref a :: st) X FI AI AL P :=
  G_iaload n hd hn hsh hi (by rw [hv]; exact k)
theorem G_laloadv {V : GV} {M : MT} {d pc : Nat} {ls : List (Option Value)} {st : List Value} {X : XT} {FI AI : FT} {AL : LT} {P : PT} {i : Int32} {v : Int64} {a w j0 : Nat} (n : Nat) (hd : dec M pc = .ok (.laload, 1)) (hn : pc + 1 = n) (hsh : x_sh X a = some (1, w)) (hi : ix i w j0) (hv : AL a j0 = v) (k : G V M d n ls (.long v :: st) X FI AI AL P) : G V M d pc ls (.int i :: .ref a :: st) X FI AI AL P :=
  G_laload n hd hn hsh hi (by rw [hv]; exact k)
theorem u2_at {α : Type} (F : Nat → Nat → α) (a i : Nat) (x : α) : u2 F a i x a i = x := by simp [u2]
theorem u2_ix {α : Type} (F : Nat → Nat → α) {a i j : Nat} (x : α) (h : j ≠ i) : u2 F a i x a j = F a j := by simp [u2, h]
theorem u2_ne {α : Type} (F : Nat → Nat → α) {a b : Nat} (i j : Nat) (x : α) (h : b ≠ a) : u2 F a i x b j = F b j := by simp [u2, h]
theorem Rel.fi {V : GV} {s : State} {X : XT} {FI AI : FT} {AL : LT} {H H1 : Heap} (h : Rel V s X FI AI AL H) {a ci n j : Nat} {x : Int32} {r : vw_C} (hsh : x_sh X a = some (ci + 10, n)) (hr : isR ci j = false) (hc : Cls[ci]? = some r) (hn : r.2.2 = n) (e : t_OB a (V.2.1.1 ci) n (V.2.1.2 ci) H1 (updV (fval X FI ci a) j (.int x))) (z : H1.size = H.size) (oq : ∀ q, q ≠ a → H1[q]? = H[q]?) : Rel V s X (u2 FI a j x) AI AL H1 := by
  refine h.put z oq rfl rfl (fun b hb => ⟨rfl, rfl, u2_off FI j x hb, rfl, rfl⟩) (fun t' n' h' ht' => ?_) (fun ci' n' h' => ?_)
  · rw [hsh] at h'
    simp at h'
    omega
  · rw [hsh] at h'
    have e2 : ci = ci' ∧ n = n' := by simpa using h'
    obtain ⟨rfl, rfl⟩ := e2
    refine ⟨r, hc, hn, e.to (fun k _ => ?_)⟩
    by_cases hk : k = j
    · subst hk
      rw [fval_I hr]
      simp [updV, u2]
    · simp [updV, hk, fval, u2]
theorem Rel.fr {V : GV} {s : State} {sh : Nat → Option (Nat × Nat)} {FR AR : Nat → Nat → Option Nat} {zz : Nat × Nat × Nat} {FI AI : FT} {AL : LT} {H H1 : Heap} (h : Rel V s (sh, FR, AR, zz) FI AI AL H) {a ci n j : Nat} {x : Option Nat} {r : vw_C} (hsh : sh a = some (ci + 10, n)) (hr : isR ci j = true) (hc : Cls[ci]? = some r) (hn : r.2.2 = n) (e : t_OB a (V.2.1.1 ci) n (V.2.1.2 ci) H1 (updV (fval (sh, FR, AR, zz) FI ci a) j (va_rf x))) (z : H1.size = H.size) (oq : ∀ q, q ≠ a → H1[q]? = H[q]?) : Rel V s (sh, u2 FR a j x, AR, zz) FI AI AL H1 := by
  refine h.put z oq rfl rfl (fun b hb => ⟨u2_off FR j x hb, rfl, rfl, rfl, rfl⟩) (fun t' n' h' ht' => ?_) (fun ci' n' h' => ?_)
  · have h' : sh a = some (t', n') := h'
    rw [hsh] at h'
    simp at h'
    omega
  · have h' : sh a = some (ci' + 10, n') := h'
    rw [hsh] at h'
    have e2 : ci = ci' ∧ n = n' := by simpa using h'
    obtain ⟨rfl, rfl⟩ := e2
    refine ⟨r, hc, hn, e.to (fun k _ => ?_)⟩
    by_cases hk : k = j
    · subst hk
      rw [fval_R hr]
      simp [updV, u2, x_FR]
    · simp [updV, hk, fval, u2, x_FR]
/-- one field is stored -/
theorem W_put {p : Program} {l : Launch} {e : Env} {R : Room} {s : State} {m : MethodId} {args : Array Value} {below : List Frame} {meth : Method} {c : Code} {H : Heap} {locs : List Loc} {cells slots : Nat} {Q : State → Prop} {V : GV} {M : MT} {d pc : Nat} {arr : Array Slot} {st : List Value} {X : XT} {FI AI : FT} {AL : LT} {idx ci j a w : Nat} {v : Value} {tf : Bool} (hd : dec M pc = .ok (.putfield idx, 3)) (hf : FL M.1.cls idx ci j)
    (hfin : ∀ C T N, Cls[ci]? = some (C, T, N) → (T j).2.2.2 = tf) (hin : tf = true → M.1.name = "<init>" ∧ ∀ C T N, Cls[ci]? = some (C, T, N) → C = M.1.cls) (hsh : x_sh X a = some (ci + 10, w)) (hnr : narrow (tyOf ci j) v = v) (hft : fits (tyOf ci j) v = true)
    (C : Cx V M d p R s m args meth c) (hR : Rel V s X FI AI AL H)
    (kk : ∀ (H1 : Heap) (k9 : Nat) (r : vw_C), Cls[ci]? = some r → r.2.2 = w → t_OB a (V.2.1.1 ci) w (V.2.1.2 ci) H1 (updV (fval X FI ci a) j v) → H1.size = H.size → (∀ q, q ≠ a → H1[q]? = H[q]?) → W p l e R s m args below meth c H1 (locs ++ [⟨a, k9⟩]) cells slots Q (F0 m (pc + 3) arr st)) : W p l e R s m args below meth c H locs cells slots Q (F0 m pc arr (v :: .ref a :: st)) := by
  obtain ⟨Cn, T, N, hc, hj, hlk⟩ := hf
  obtain ⟨f1, f2, f3, f4, f5⟩ := CF ci Cn T N hc
  obtain ⟨r0, g1, g2, cell, y1, y2, y3, y4⟩ := hR.2.2.2 a ci w hsh
  cases g1.symm.trans hc
  subst g2
  have hts := C.2.2.2.2.2.2.2.1
  have hK := C.2.2.2.2.2.2.2.2.2.2.1
  have hap := va_apart (own := Cn) hts f1 (tyOf ci) f2 f3 hK hc
  obtain ⟨hSl, hfc, kC, hkC, hkind⟩ := hK.1 ci _ hc
  obtain ⟨cf, kf, fi, f, hi, hsl⟩ := hSl j hj
  have hlay := hts _ (f1 _ (u_in_lay hj))
  have hst := (u_facts hfc hkC (u_lays hts f1 hj) hi).1
  have hi' : s.fieldFound? Cn (T j).2.1 (T j).2.2.1 = some (cf, kf, fi, f) := by rw [← f4 j hj]; exact hi
  unfold u_lay at hlay
  cases htf : tf with
  | false =>
    have h9 := hfin _ _ _ hc
    rw [htf] at h9
    rw [if_neg (by rw [h9]; decide)] at hlay
    have h6 := u_store hfc hkC hkind hlay hi (f2 j hj) hnr hft
    refine W.putK C.1 C.2.1 (f := f) ⟨C.2.2.2.2.1, hts _ hlk, ⟨_, _, _, hi'⟩, hst⟩ (by rw [y2]; exact h6) y1 y3 (by rw [hsl]; exact k2_hasslot (y4 j hj)) rfl rfl hd fun H' e1 e2 e3 => ?_
    rw [hsl] at e1
    exact kk H' _ _ hc rfl ⟨_, e1, y2, y3, t_set y4 hap hj v⟩ e2 e3
  | true =>
    have h9 := hfin _ _ _ hc
    rw [htf] at h9
    rw [if_pos h9] at hlay
    obtain ⟨hin1, hin2⟩ := hin htf
    have hcn := hin2 _ _ _ hc
    have hcf : m.cls = cf := by
      obtain ⟨_, _, c', _, _, _, -, -, hf', -, -, -, hown2, -⟩ := Cond.laysFinal_spec hlay
      have e1 : c' = cf := by have := hi.symm.trans hf'; simp at this; exact this.1.symm
      rw [f4 j hj, hcn] at hown2
      rw [← e1]; exact Option.some.inj (C.2.2.2.2.1.symm.trans hown2)
    have h6 := u_fits hfc hkC hkind (Or.inr hlay) hi (f2 j hj) hnr hft
    refine W.putFinK C.1 C.2.1 C.2.2.2.2.1 (hts _ hlk) hi' hst hcf (C.2.2.2.2.2.2.1.trans hin1) (by rw [y2]; exact h6) y1 y3 (by rw [hsl]; exact k2_hasslot (y4 j hj)) rfl rfl hd fun H' e1 e2 e3 => ?_
    rw [hsl] at e1
    exact kk H' _ _ hc rfl ⟨_, e1, y2, y3, t_set y4 hap hj v⟩ e2 e3
theorem G_putI {V : GV} {M : MT} {d pc : Nat} {ls : List (Option Value)} {st : List Value} {X : XT} {FI AI : FT} {AL : LT} {P : PT} {idx ci j a w : Nat} {x : Int32} (n : Nat) (hd : dec M pc = .ok (.putfield idx, 3)) (hn : pc + 3 = n) (hf : FL M.1.cls idx ci j) (hr : isR ci j = false) (hfin : ∀ C T N, Cls[ci]? = some (C, T, N) → (T j).2.2.2 = false) (hsh : x_sh X a = some (ci + 10, w)) (hnr : narrow (tyOf ci j) (.int x) = .int x) (hft : fits (tyOf ci j) (.int x) = true) (k : G V M d n ls st X (u2 FI a j x) AI AL P) : G V M d pc ls (.int x :: .ref a :: st) X FI AI AL P := by
  subst hn
  refine G.step (Nat.le_refl _) (Nat.le_refl _) ?_ k
  intro r X' FI' AI' AL' q1 q2 hw p e R s m args below meth c H locs n0 k0 cells slots arr C hR hS hL e1 e2 e3 e4
  refine W_put hd hf hfin (fun h => by cases h) hsh hnr hft C hR fun H1 k9 r0 g1 g2 g3 z oq => ?_
  exact hw p e R s m args below meth c H1 _ n0 k0 cells slots arr C (hR.fi hsh hr g1 g2 g3 z oq) (hS.put z oq (hR.2.1 a _ w hsh).1) hL e1 e2 e3 e4
theorem G_putR {V : GV} {M : MT} {d pc : Nat} {ls : List (Option Value)} {st : List Value} {sh : Nat → Option (Nat × Nat)} {FR AR : Nat → Nat → Option Nat} {zz : Nat × Nat × Nat} {FI AI : FT} {AL : LT} {P : PT} {idx ci j a w : Nat} {x : Option Nat} {v : Value} (tf : Bool) (n : Nat) (hd : dec M pc = .ok (.putfield idx, 3)) (hn : pc + 3 = n) (hf : FL M.1.cls idx ci j) (hr : isR ci j = true) (hv : v = va_rf x) (hfin : ∀ C T N, Cls[ci]? = some (C, T, N) → (T j).2.2.2 = tf) (hin : tf = true → M.1.name = "<init>" ∧ ∀ C T N, Cls[ci]? = some (C, T, N) → C = M.1.cls) (hsh : sh a = some (ci + 10, w)) (hnr : narrow (tyOf ci j) v = v) (hft : fits (tyOf ci j) v = true) (k : G V M d n ls st (sh, u2 FR a j x, AR, zz) FI AI AL P) : G V M d pc ls (v :: .ref a :: st) (sh, FR, AR, zz) FI AI AL P := by
  subst hn
  subst hv
  refine G.step (X1 := (sh, u2 FR a j x, AR, zz)) (Nat.le_refl _) (Nat.le_refl _) ?_ k
  intro r X' FI' AI' AL' q1 q2 hw p e R s m args below meth c H locs n0 k0 cells slots arr C hR hS hL e1 e2 e3 e4
  refine W_put hd hf hfin hin hsh hnr hft C hR fun H1 k9 r0 g1 g2 g3 z oq => ?_
  exact hw p e R s m args below meth c H1 _ n0 k0 cells slots arr C (hR.fr hsh hr g1 g2 g3 z oq) (hS.put z oq (hR.2.1 a _ w hsh).1) hL e1 e2 e3 e4
/-! statics and the script -/
theorem G_gets {V : GV} {M : MT} {d pc : Nat} {ls : List (Option Value)} {st : List Value} {X : XT} {FI AI : FT} {AL : LT} {P : PT} {idx : Nat} {Cn nm : String} (j n : Nat) (hd : dec M pc = .ok (.getstatic idx, 3)) (hn : pc + 3 = n) (hj : statT[j]? = some (Cn, nm)) (hl : Cond.fieldLink M.1.cls idx Cn nm "[I" ∈ gw_tbl) (k : G V M d n ls (.ref (v_ad V j) :: st) X FI AI AL P) : G V M d pc ls st X FI AI AL P := by
  subst hn
  refine G.step0 ?_ k
  intro r X' FI' AI' AL' hw p e R s m args below meth c H locs n0 k0 cells slots arr C hR hS hL e1 e2 e3 e4
  exact va_gets C.1 C.2.1 (C.2.2.2.2.2.2.2.2.2.2.2.1.1 j _ hj) hS C.2.2.2.2.1 (C.2.2.2.2.2.2.2.1 _ hl) (fun _ h => h) hd (hw p e R s m args below meth c H locs n0 k0 cells slots arr C hR hS hL e1 e2 e3 e4)
theorem G_sald {V : GV} {M : MT} {d pc : Nat} {ls : List (Option Value)} {st : List Value} {X : XT} {FI AI : FT} {AL : LT} {P : PT} {i : Int32} {l : List Int32} {j0 : Nat} (j n : Nat) (hd : dec M pc = .ok (.iaload, 1)) (hn : pc + 1 = n) (hj : tabL[j]? = some l) (hi : ix i l.length j0) (k : G V M d n ls (.int (l.getD j0 0) :: st) X FI AI AL P) : G V M d pc ls (.int i :: .ref (v_ad V j) :: st) X FI AI AL P := by
  subst hn
  refine G.step0 ?_ k
  intro r X' FI' AI' AL' hw p e R s m args below meth c H locs n0 k0 cells slots arr C hR hS hL e1 e2 e3 e4
  exact va_ti C.1 C.2.1 (C.2.2.2.2.2.2.2.2.2.2.2.1.2.1 j _ hj) hS (ix_in hi) (by rw [ix_cl hi]) hd (hw p e R s m args below meth c H locs n0 k0 cells slots arr C hR hS hL e1 e2 e3 e4)
theorem G_salen {V : GV} {M : MT} {d pc : Nat} {ls : List (Option Value)} {st : List Value} {X : XT} {FI AI : FT} {AL : LT} {P : PT} {l : List Int32} (j n : Nat) (hd : dec M pc = .ok (.arraylength, 1)) (hn : pc + 1 = n) (hj : tabL[j]? = some l) (k : G V M d n ls (.int (nI l.length) :: st) X FI AI AL P) : G V M d pc ls (.ref (v_ad V j) :: st) X FI AI AL P := by
  subst hn
  refine G.step0 ?_ k
  intro r X' FI' AI' AL' hw p e R s m args below meth c H locs n0 k0 cells slots arr C hR hS hL e1 e2 e3 e4
  exact va_tlen C.1 C.2.1 (C.2.2.2.2.2.2.2.2.2.2.2.1.2.1 j _ hj) hS rfl hd (hw p e R s m args below meth c H locs n0 k0 cells slots arr C hR hS hL e1 e2 e3 e4)
theorem G_scald {V : GV} {M : MT} {d pc : Nat} {ls : List (Option Value)} {st : List Value} {X : XT} {FI AI : FT} {AL : LT} {P : PT} {i : Int32} {j0 : Nat} (n : Nat) (hd : dec M pc = .ok (.iaload, 1)) (hn : pc + 1 = n) (hi : ix i (v_sn V) j0) (k : G V M d n ls (.int (v_sx V j0) :: st) X FI AI AL P) : G V M d pc ls (.int i :: .ref (v_sb V) :: st) X FI AI AL P := by
  subst hn
  refine G.step0 ?_ k
  intro r X' FI' AI' AL' hw p e R s m args below meth c H locs n0 k0 cells slots arr C hR hS hL e1 e2 e3 e4
  exact va_ti C.1 C.2.1 C.2.2.2.2.2.2.2.2.2.2.2.1.2.2 hS (ix_in hi) (by rw [ix_cl hi]) hd (hw p e R s m args below meth c H locs n0 k0 cells slots arr C hR hS hL e1 e2 e3 e4)
theorem G_sclen {V : GV} {M : MT} {d pc : Nat} {ls : List (Option Value)} {st : List Value} {X : XT} {FI AI : FT} {AL : LT} {P : PT} (n : Nat) (hd : dec M pc = .ok (.arraylength, 1)) (hn : pc + 1 = n) (k : G V M d n ls (.int (nI (v_sn V)) :: st) X FI AI AL P) : G V M d pc ls (.ref (v_sb V) :: st) X FI AI AL P := by
  subst hn
  refine G.step0 ?_ k
  intro r X' FI' AI' AL' hw p e R s m args below meth c H locs n0 k0 cells slots arr C hR hS hL e1 e2 e3 e4
  exact va_tlen C.1 C.2.1 C.2.2.2.2.2.2.2.2.2.2.2.1.2.2 hS rfl hd (hw p e R s m args below meth c H locs n0 k0 cells slots arr C hR hS hL e1 e2 e3 e4)
/-! returns -/
theorem G_iret {V : GV} {M : MT} {d pc : Nat} {ls : List (Option Value)} {X : XT} {FI AI : FT} {AL : LT} {P : PT} {v : Int32} (hd : dec M pc = .ok (.ireturn, 1)) (hr : M.2.2.2 = some .int) (h : P (some (.int v)) X FI AI AL) : G V M d pc ls [.int v] X FI AI AL P := by
  refine ⟨_, X, FI, AI, AL, h, Nat.le_refl _, Nat.le_refl _, ?_⟩
  intro p e R s m args below meth c H locs n0 k0 cells slots arr C hR hS hL e1 e2 e3 e4
  rw [show x_nc X - n0 = cells by omega, show x_ns X - k0 = slots by omega]
  exact W.iret C.1 C.2.1 (C.2.2.1.trans hr) (fun t ht hW => ⟨rfl, by rw [ht]; exact hR.moved hW.alike, hS.F ht⟩) hS.2.2 hd C.2.2.2.2.2.1
theorem G_zret {V : GV} {M : MT} {d pc : Nat} {ls : List (Option Value)} {X : XT} {FI AI : FT} {AL : LT} {P : PT} {v : Int32} (hd : dec M pc = .ok (.ireturn, 1)) (hr : M.2.2.2 = some .boolean) (hv : v = 0 ∨ v = 1) (h : P (some (.int v)) X FI AI AL) : G V M d pc ls [.int v] X FI AI AL P := by
  refine ⟨_, X, FI, AI, AL, h, Nat.le_refl _, Nat.le_refl _, ?_⟩
  intro p e R s m args below meth c H locs n0 k0 cells slots arr C hR hS hL e1 e2 e3 e4
  rw [show x_nc X - n0 = cells by omega, show x_ns X - k0 = slots by omega]
  exact W.zret C.1 C.2.1 (C.2.2.1.trans hr) (by rcases hv with rfl | rfl <;> rfl) (fun t ht hW => ⟨rfl, by rw [ht]; exact hR.moved hW.alike, hS.F ht⟩) hS.2.2 hd C.2.2.2.2.2.1
theorem G_lret {V : GV} {M : MT} {d pc : Nat} {ls : List (Option Value)} {X : XT} {FI AI : FT} {AL : LT} {P : PT} {v : Int64} (hd : dec M pc = .ok (.lreturn, 1)) (hr : M.2.2.2 = some .long) (h : P (some (.long v)) X FI AI AL) : G V M d pc ls [.long v] X FI AI AL P := by
  refine ⟨_, X, FI, AI, AL, h, Nat.le_refl _, Nat.le_refl _, ?_⟩
  intro p e R s m args below meth c H locs n0 k0 cells slots arr C hR hS hL e1 e2 e3 e4
  rw [show x_nc X - n0 = cells by omega, show x_ns X - k0 = slots by omega]
  exact W.lret C.1 C.2.1 (C.2.2.1.trans hr) (fun t ht hW => ⟨rfl, by rw [ht]; exact hR.moved hW.alike, hS.F ht⟩) hS.2.2 hd C.2.2.2.2.2.1
theorem G_vret {V : GV} {M : MT} {d pc : Nat} {ls : List (Option Value)} {X : XT} {FI AI : FT} {AL : LT} {P : PT} (hd : dec M pc = .ok (.return_, 1)) (hr : M.2.2.2 = none) (h : P none X FI AI AL) : G V M d pc ls [] X FI AI AL P := by
  refine ⟨_, X, FI, AI, AL, h, Nat.le_refl _, Nat.le_refl _, ?_⟩
  intro p e R s m args below meth c H locs n0 k0 cells slots arr C hR hS hL e1 e2 e3 e4
  rw [show x_nc X - n0 = cells by omega, show x_ns X - k0 = slots by omega]
  exact W.vret C.1 C.2.1 (C.2.2.1.trans hr) (fun t ht hW => ⟨rfl, by rw [ht]; exact hR.moved hW.alike, hS.F ht⟩) hS.2.2 hd C.2.2.2.2.2.1
theorem G_aret {V : GV} {M : MT} {d pc : Nat} {ls : List (Option Value)} {X : XT} {FI AI : FT} {AL : LT} {P : PT} {v : Nat} {rt : FieldType} (hd : dec M pc = .ok (.areturn, 1)) (hr : M.2.2.2 = some rt) (hrt : (∃ n, rt = .object n) ∨ ∃ t, rt = .array t) (h : P (some (.ref v)) X FI AI AL) : G V M d pc ls [.ref v] X FI AI AL P := by
  refine ⟨_, X, FI, AI, AL, h, Nat.le_refl _, Nat.le_refl _, ?_⟩
  intro p e R s m args below meth c H locs n0 k0 cells slots arr C hR hS hL e1 e2 e3 e4
  rw [show x_nc X - n0 = cells by omega, show x_ns X - k0 = slots by omega]
  exact W.aret C.1 C.2.1 (C.2.2.1.trans hr) hrt (Or.inr ⟨v, rfl⟩) (fun t ht hW => ⟨rfl, by rw [ht]; exact hR.moved hW.alike, hS.F ht⟩) hS.2.2 hd C.2.2.2.2.2.1
/-! calls -/
theorem Strt.pre {V : GV} {s : State} {X : XT} {FI AI : FT} {AL : LT} {H : Heap} {locs : List Loc} (hR : Rel V s X FI AI AL H) (hS : va_S (AV V) s.heap H locs) (h : Sta2 V s) (vs : List Value) : ∀ U : State, U.heap = H → s.WarmedH U.vm → va_Pc vs (Strt V X FI AI AL) vs.toArray U :=
  fun U hU hW => ⟨rfl, by rw [hU]; exact hR.moved hW.alike, h.warm hW hU hS⟩
theorem cls_of {ci : Nat} {V : GV} {s : State} {X : XT} {FI AI : FT} {AL : LT} {H : Heap} {a w : Nat} {r : vw_C} (hR : Rel V s X FI AI AL H) (hK : va_K V.2.1 Cls [] s) (hsh : x_sh X a = some (ci + 10, w)) (hc : Cls[ci]? = some r) : ∃ cell : Cell, H[a]? = some cell ∧ cell.vm.isStatics = false ∧ s.vm.findClass r.1 = some cell.cls := by
  obtain ⟨r0, g1, g2, cell, y1, y2, y3, y4⟩ := hR.2.2.2 a ci w hsh
  cases g1.symm.trans hc
  exact ⟨cell, y1, by rw [y3]; rfl, by rw [y2]; exact (hK.1 ci _ hc).2.1⟩
theorem G_invV {V : GV} {M : MT} {d pc : Nat} {ls : List (Option Value)} {st : List Value} {X : XT} {FI AI : FT} {AL : LT} {P : PT} {M' : MT} {idx ci w b q : Nat} {As rest : List Value} {ls' : List (Option Value)} (n : Nat) (hd : dec M pc = .ok (.invokevirtual idx, 3)) (hn : pc + 3 = n) (hE : EV M.1.cls idx M' q) (hM : MV M') (hci : (Cls[ci]?).map (fun r => r.1) = some M'.1.cls) (hsh : x_sh X b = some (ci + 10, w)) (hAs : As.length = q) (hst : st = As.reverse ++ .ref b :: rest) (hw0 : (rest.map fun v => v.category).sum ≤ 8)
    (hl : (entL (.ref b :: As)).length ≤ M'.2.2.1) (he : ent M'.2.2.1 (.ref b :: As) = ls') (hG : G V M' d 0 ls' [] X FI AI AL (fun r X' FI' AI' AL' => G V M (d + 1) n ls (pu r rest) X' FI' AI' AL' P)) : G V M (d + 1) pc ls st X FI AI AL P := by
  subst hn
  subst hst
  obtain ⟨r1, X1, FI1, AI1, AL1, ⟨r, X', FI', AI', AL', hP, z1, z2, kw⟩, z3, z4, hg⟩ := hG
  refine ⟨r, X', FI', AI', AL', hP, Nat.le_trans z3 z1, Nat.le_trans z4 z2, ?_⟩
  intro p e R s m args below meth c H locs n0 k0 cells slots arr C hR hS hL e1 e2 e3 e4
  have hMet := Met.ofG hM.1 hl he z3 z4 hg
  have hts := C.2.2.2.2.2.2.2.1
  have hfr := C.2.2.2.2.2.2.2.2.1
  have hlo := C.2.2.2.2.2.2.2.2.2.1
  have hmx := hM.1.2.2.2.2
  obtain ⟨rc, hrc, hrc2⟩ := Option.map_eq_some_iff.mp hci
  have cw : CallW R s args M.1.cls M'.1.cls idx M'.1 M'.2.1 M'.2.2.1 M'.2.2.2 (Cond.code M'.1 M'.2.1 M'.2.2.1 M'.2.2.2 :: gw_tbl) (rmz d (x_nc X1 - x_nc X) (x_ns X1 - x_ns X)) (x_nc X1 - x_nc X) (x_ns X1 - x_ns X) q :=
    ⟨callB_of q hts (GoodIn.code hM.1) rfl rfl rfl (hts _ hM.1.2.1) (hts _ hE.1) ⟨hM.1.2.2.1.1, hM.1.2.2.1.2, hE.2⟩ ⟨by show d + 1 ≤ R.frames; exact hfr, by show 8 + (M'.2.2.1 + 11) + 41 * d ≤ R.locals; omega⟩, hts _ hM.2.1, hts _ hM.2.2⟩
  refine W_call (va_runV (nL := M.2.2.1) (As := As) (rest := rest) ⟨C.1, C.2.1, C.2.2.2.1, C.2.2.2.2.1, hts⟩ hMet cw ⟨Strt.blind _, by rw [← hrc2]; exact cls_of hR C.2.2.2.2.2.2.2.2.2.2.1 hsh hrc, Strt.pre hR hS C.2.2.2.2.2.2.2.2.2.2 _⟩ rfl hAs hL.1 rfl (lv_room hw0) hd ⟨by omega, by omega⟩) hS fun H1 locs1 hR1 hS1 => ?_
  exact kw p e R s m args below meth c H1 locs1 n0 k0 _ _ arr C hR1 hS1 hL (by omega) (by omega) e3 e4
theorem G_invS {V : GV} {M : MT} {d pc : Nat} {ls : List (Option Value)} {st : List Value} {X : XT} {FI AI : FT} {AL : LT} {P : PT} {M' : MT} {idx q : Nat} {As rest : List Value} {ls' : List (Option Value)} (n : Nat) (hd : dec M pc = .ok (.invokestatic idx, 3)) (hn : pc + 3 = n) (hE : EV M.1.cls idx M' q) (hM : MS M') (hAs : As.length = q) (hst : st = As.reverse ++ rest) (hw0 : (rest.map fun v => v.category).sum ≤ 8)
    (hl : (entL As).length ≤ M'.2.2.1) (he : ent M'.2.2.1 As = ls') (hG : G V M' d 0 ls' [] X FI AI AL (fun r X' FI' AI' AL' => G V M (d + 1) n ls (pu r rest) X' FI' AI' AL' P)) : G V M (d + 1) pc ls st X FI AI AL P := by
  subst hn
  subst hst
  obtain ⟨r1, X1, FI1, AI1, AL1, ⟨r, X', FI', AI', AL', hP, z1, z2, kw⟩, z3, z4, hg⟩ := hG
  refine ⟨r, X', FI', AI', AL', hP, Nat.le_trans z3 z1, Nat.le_trans z4 z2, ?_⟩
  intro p e R s m args below meth c H locs n0 k0 cells slots arr C hR hS hL e1 e2 e3 e4
  have hMet := Met.ofG hM.1 hl he z3 z4 hg
  have hts := C.2.2.2.2.2.2.2.1
  have hfr := C.2.2.2.2.2.2.2.2.1
  have hlo := C.2.2.2.2.2.2.2.2.2.1
  have hmx := hM.1.2.2.2.2
  have cw : CallB R s args M.1.cls idx M'.1 M'.2.1 M'.2.2.1 M'.2.2.2 (Cond.code M'.1 M'.2.1 M'.2.2.1 M'.2.2.2 :: gw_tbl) (rmz d (x_nc X1 - x_nc X) (x_ns X1 - x_ns X)) (x_nc X1 - x_nc X) (x_ns X1 - x_ns X) q ∧ (Cond.static M'.1).before args s = true :=
    ⟨callB_of q hts (GoodIn.code hM.1) rfl rfl rfl (hts _ hM.1.2.1) (hts _ hE.1) ⟨hM.1.2.2.1.1, hM.1.2.2.1.2, hE.2⟩ ⟨by show d + 1 ≤ R.frames; exact hfr, by show 8 + (M'.2.2.1 + 11) + 41 * d ≤ R.locals; omega⟩, hts _ hM.2⟩
  refine W_call (va_runS (nL := M.2.2.1) (As := As) (rest := rest) ⟨C.1, C.2.1, C.2.2.2.1, C.2.2.2.2.1, hts⟩ hMet cw ⟨Strt.blind _, Strt.pre hR hS C.2.2.2.2.2.2.2.2.2.2 _⟩ rfl hAs hL.1 rfl (lv_room hw0) hd ⟨by omega, by omega⟩) hS fun H1 locs1 hR1 hS1 => ?_
  exact kw p e R s m args below meth c H1 locs1 n0 k0 _ _ arr C hR1 hS1 hL (by omega) (by omega) e3 e4
theorem G_invSN {V : GV} {M : MT} {d pc : Nat} {ls : List (Option Value)} {st : List Value} {X : XT} {FI AI : FT} {AL : LT} {P : PT} {M' : MT} {idx q : Nat} {As rest : List Value} {ls' : List (Option Value)} (n : Nat) (hd : dec M pc = .ok (.invokestatic idx, 3)) (hn : pc + 3 = n) (hE : EN M.1.cls idx M' q) (hM : MS M') (hAs : As.length = q) (hst : st = As.reverse ++ rest) (hw0 : (rest.map fun v => v.category).sum ≤ 8)
    (hl : (entL As).length ≤ M'.2.2.1) (he : ent M'.2.2.1 As = ls') (hG : G V M' d 0 ls' [] X FI AI AL (fun r X' FI' AI' AL' => G V M (d + 1) n ls (pu r rest) X' FI' AI' AL' P)) : G V M (d + 1) pc ls st X FI AI AL P := by
  subst hn
  subst hst
  obtain ⟨r1, X1, FI1, AI1, AL1, ⟨r, X', FI', AI', AL', hP, z1, z2, kw⟩, z3, z4, hg⟩ := hG
  refine ⟨r, X', FI', AI', AL', hP, Nat.le_trans z3 z1, Nat.le_trans z4 z2, ?_⟩
  intro p e R s m args below meth c H locs n0 k0 cells slots arr C hR hS hL e1 e2 e3 e4
  have hMet := Met.ofG hM.1 hl he z3 z4 hg
  have hts := C.2.2.2.2.2.2.2.1
  have hfr := C.2.2.2.2.2.2.2.2.1
  have hlo := C.2.2.2.2.2.2.2.2.2.1
  have hmx := hM.1.2.2.2.2
  have cw : va_CN R s args M.1.cls idx M'.1 "GrownAlgebra" M'.2.1 M'.2.2.1 M'.2.2.2 (Cond.code M'.1 M'.2.1 M'.2.2.1 M'.2.2.2 :: gw_tbl) (rmz d (x_nc X1 - x_nc X) (x_ns X1 - x_ns X)) (x_nc X1 - x_nc X) (x_ns X1 - x_ns X) q ∧ (Cond.static M'.1).before args s = true ∧ True :=
    ⟨va_cnB q hts (GoodIn.code hM.1) rfl rfl rfl (C.2.2.2.2.2.2.2.2.2.2.2.2.1.1 _ hE.1) (hts _ hM.1.2.1) ⟨hM.1.2.2.1.1, hM.1.2.2.1.2, hE.2⟩ ⟨by show d + 1 ≤ R.frames; exact hfr, by show 8 + (M'.2.2.1 + 11) + 41 * d ≤ R.locals; omega⟩, hts _ hM.2, trivial⟩
  refine W_call (va_runSN (nL := M.2.2.1) (As := As) (rest := rest) ⟨C.1, C.2.1, C.2.2.2.1, C.2.2.2.2.1, hts⟩ hMet cw ⟨Strt.blind _, Strt.pre hR hS C.2.2.2.2.2.2.2.2.2.2 _⟩ rfl hAs hL.1 rfl (lv_room hw0) hd ⟨by omega, by omega⟩) hS fun H1 locs1 hR1 hS1 => ?_
  exact kw p e R s m args below meth c H1 locs1 n0 k0 _ _ arr C hR1 hS1 hL (by omega) (by omega) e3 e4
theorem G_invI {V : GV} {M : MT} {d pc : Nat} {ls : List (Option Value)} {st : List Value} {X : XT} {FI AI : FT} {AL : LT} {P : PT} {M' : MT} {idx b q : Nat} {As rest : List Value} {ls' : List (Option Value)} (n : Nat) (hd : dec M pc = .ok (.invokespecial idx, 3)) (hn : pc + 3 = n) (hE : EV M.1.cls idx M' q) (hM : MI M') (hret : M'.2.2.2 = none) (hAs : As.length = q) (hst : st = As.reverse ++ .ref b :: rest) (hw0 : (rest.map fun v => v.category).sum ≤ 8)
    (hl : (entL (.ref b :: As)).length ≤ M'.2.2.1) (he : ent M'.2.2.1 (.ref b :: As) = ls') (hG : G V M' d 0 ls' [] X FI AI AL (fun r X' FI' AI' AL' => G V M (d + 1) n ls (pu r rest) X' FI' AI' AL' P)) : G V M (d + 1) pc ls st X FI AI AL P := by
  subst hn
  subst hst
  obtain ⟨r1, X1, FI1, AI1, AL1, ⟨r, X', FI', AI', AL', hP, z1, z2, kw⟩, z3, z4, hg⟩ := hG
  refine ⟨r, X', FI', AI', AL', hP, Nat.le_trans z3 z1, Nat.le_trans z4 z2, ?_⟩
  intro p e R s m args below meth c H locs n0 k0 cells slots arr C hR hS hL e1 e2 e3 e4
  have hMet := Met.ofG hM.1 hl he z3 z4 hg
  have hts := C.2.2.2.2.2.2.2.1
  have hfr := C.2.2.2.2.2.2.2.2.1
  have hlo := C.2.2.2.2.2.2.2.2.2.1
  have hmx := hM.1.2.2.2.2
  have cw : CallB R s args M.1.cls idx M'.1 M'.2.1 M'.2.2.1 none (Cond.code M'.1 M'.2.1 M'.2.2.1 M'.2.2.2 :: gw_tbl) (rmz d (x_nc X1 - x_nc X) (x_ns X1 - x_ns X)) (x_nc X1 - x_nc X) (x_ns X1 - x_ns X) q ∧ M'.1.name = "<init>" ∧ (Cond.instanceMethod M'.1).before args s = true :=
    ⟨by rw [← hret]; exact callB_of q hts (GoodIn.code hM.1) rfl rfl rfl (hts _ hM.1.2.1) (hts _ hE.1) ⟨hM.1.2.2.1.1, hM.1.2.2.1.2, hE.2⟩ ⟨by show d + 1 ≤ R.frames; exact hfr, by show 8 + (M'.2.2.1 + 11) + 41 * d ≤ R.locals; omega⟩, hM.2.2, hts _ hM.2.1⟩
  refine W_call (va_runI (nL := M.2.2.1) (As := As) (rest := rest) ⟨C.1, C.2.1, C.2.2.2.1, C.2.2.2.2.1, hts⟩ hMet cw ⟨Strt.blind _, Strt.pre hR hS C.2.2.2.2.2.2.2.2.2.2 _⟩ rfl hAs hL.1 rfl (lv_room hw0) hd ⟨by omega, by omega⟩) hS fun H1 locs1 hR1 hS1 => ?_
  exact kw p e R s m args below meth c H1 locs1 n0 k0 _ _ arr C hR1 hS1 hL (by omega) (by omega) e3 e4
theorem G_invIN {V : GV} {M : MT} {d pc : Nat} {ls : List (Option Value)} {st : List Value} {X : XT} {FI AI : FT} {AL : LT} {P : PT} {M' : MT} {idx b q : Nat} {As rest : List Value} {ls' : List (Option Value)} (n : Nat) (hd : dec M pc = .ok (.invokespecial idx, 3)) (hn : pc + 3 = n) (hE : EN M.1.cls idx M' q) (hM : MI M') (hret : M'.2.2.2 = none) (hAs : As.length = q) (hst : st = As.reverse ++ .ref b :: rest) (hw0 : (rest.map fun v => v.category).sum ≤ 8)
    (hl : (entL (.ref b :: As)).length ≤ M'.2.2.1) (he : ent M'.2.2.1 (.ref b :: As) = ls') (hG : G V M' d 0 ls' [] X FI AI AL (fun r X' FI' AI' AL' => G V M (d + 1) n ls (pu r rest) X' FI' AI' AL' P)) : G V M (d + 1) pc ls st X FI AI AL P := by
  subst hn
  subst hst
  obtain ⟨r1, X1, FI1, AI1, AL1, ⟨r, X', FI', AI', AL', hP, z1, z2, kw⟩, z3, z4, hg⟩ := hG
  refine ⟨r, X', FI', AI', AL', hP, Nat.le_trans z3 z1, Nat.le_trans z4 z2, ?_⟩
  intro p e R s m args below meth c H locs n0 k0 cells slots arr C hR hS hL e1 e2 e3 e4
  have hMet := Met.ofG hM.1 hl he z3 z4 hg
  have hts := C.2.2.2.2.2.2.2.1
  have hfr := C.2.2.2.2.2.2.2.2.1
  have hlo := C.2.2.2.2.2.2.2.2.2.1
  have hmx := hM.1.2.2.2.2
  have cw : va_CN R s args M.1.cls idx M'.1 "GrownAlgebra" M'.2.1 M'.2.2.1 none (Cond.code M'.1 M'.2.1 M'.2.2.1 M'.2.2.2 :: gw_tbl) (rmz d (x_nc X1 - x_nc X) (x_ns X1 - x_ns X)) (x_nc X1 - x_nc X) (x_ns X1 - x_ns X) q ∧ M'.1.name = "<init>" ∧ (Cond.instanceMethod M'.1).before args s = true :=
    ⟨by rw [← hret]; exact va_cnB q hts (GoodIn.code hM.1) rfl rfl rfl (C.2.2.2.2.2.2.2.2.2.2.2.2.1.1 _ hE.1) (hts _ hM.1.2.1) ⟨hM.1.2.2.1.1, hM.1.2.2.1.2, hE.2⟩ ⟨by show d + 1 ≤ R.frames; exact hfr, by show 8 + (M'.2.2.1 + 11) + 41 * d ≤ R.locals; omega⟩, hM.2.2, hts _ hM.2.1⟩
  refine W_call (va_runIN (nL := M.2.2.1) (As := As) (rest := rest) ⟨C.1, C.2.1, C.2.2.2.1, C.2.2.2.2.1, hts⟩ hMet cw ⟨Strt.blind _, Strt.pre hR hS C.2.2.2.2.2.2.2.2.2.2 _⟩ rfl hAs hL.1 rfl (lv_room hw0) hd ⟨by omega, by omega⟩) hS fun H1 locs1 hR1 hS1 => ?_
  exact kw p e R s m args below meth c H1 locs1 n0 k0 _ _ arr C hR1 hS1 hL (by omega) (by omega) e3 e4
/-! things are made -/
theorem G_objInit {V : GV} {M : MT} {d pc : Nat} {ls : List (Option Value)} {X : XT} {FI AI : FT} {AL : LT} {P : PT} {idx b : Nat} {rest : List Value} (n : Nat) (hd : dec M pc = .ok (.invokespecial idx, 3)) (hn : pc + 3 = n) (hE : Cond.methodLink M.1.cls idx ⟨"java/lang/Object", "<init>", "()V"⟩ ∈ gw_tbl) (hw0 : (rest.map fun v => v.category).sum ≤ 8) (k : G V M (d + 1) n ls rest X FI AI AL P) : G V M (d + 1) pc ls (.ref b :: rest) X FI AI AL P := by
  subst hn
  refine G.step0 ?_ k
  intro r X' FI' AI' AL' hw p e R s m args below meth c H locs n0 k0 cells slots arr C hR hS hL e1 e2 e3 e4
  have hts := C.2.2.2.2.2.2.2.1
  have hfr := C.2.2.2.2.2.2.2.2.1
  have hlo := C.2.2.2.2.2.2.2.2.2.1
  refine W.objInit C.1 C.2.1 C.2.2.2.2.1 (hts _ hE) (hts _ obj_inst) (hts _ obj_code) rfl (hL.1.trans C.2.2.2.1.symm) rfl hd (by omega) ?_ (hw p e R s m args below meth c H locs n0 k0 cells slots arr C hR hS hL e1 e2 e3 e4)
  show 2 * 0 + _ + _ ≤ _
  omega
/-- a row of one address is made anew -/
def z2 {α : Type} (F : Nat → Nat → α) (a : Nat) (x : α) : Nat → Nat → α := fun b j => if b = a then x else F b j
theorem z2_row {α : Type} (F : Nat → Nat → α) (a : Nat) (x : α) : z2 F a x a = fun _ => x := by funext j; simp [z2]
theorem z2_off {α : Type} (F : Nat → Nat → α) {a b : Nat} (x : α) (h : b ≠ a) : z2 F a x b = F b := by funext j; simp [z2, h]
def xnew (X : XT) (t n : Nat) : XT := (fun b => if b = x_sz X then some (t, n) else x_sh X b, z2 (x_FR X) (x_sz X) none, z2 (x_AR X) (x_sz X) none, x_sz X + 1, x_nc X + 1, x_ns X + n)
theorem G_new {V : GV} {M : MT} {d pc : Nat} {ls : List (Option Value)} {st : List Value} {X : XT} {FI AI : FT} {AL : LT} {P : PT} {idx ci N : Nat} {Cn : String} {T : u_T} (n : Nat) (hd : dec M pc = .ok (.new idx, 3)) (hn : pc + 3 = n) (hcl : Cond.classLink M.1.cls idx Cn ∈ gw_tbl) (hq : Cond.instantiable Cn N ∈ gw_tbl ∧ Cond.initialized Cn ∈ gw_tbl) (hc : Cls[ci]? = some (Cn, T, N)) (k : G V M d n ls (.ref (x_sz X) :: st) (xnew X (ci + 10) N) (z2 FI (x_sz X) 0) AI AL P) : G V M d pc ls st X FI AI AL P := by
  subst hn
  refine G.step (Nat.le_add_right _ _) (Nat.le_add_right _ _) ?_ k
  intro r X' FI' AI' AL' q1 q2 hw p e R s m args below meth c H locs n0 k0 cells slots arr C hR hS hL e1 e2 e3 e4
  have q1 : x_nc X + 1 ≤ x_nc X' := q1
  have q2 : x_ns X + N ≤ x_ns X' := q2
  have hts := C.2.2.2.2.2.2.2.1
  have hK := C.2.2.2.2.2.2.2.2.2.2.1
  obtain ⟨f1, f2, f3, f4, f5⟩ := CF ci Cn T N hc
  have hKn := hK.1 ci _ hc
  refine W.newcK C.1 C.2.1 C.2.2.2.2.1 (hts _ hcl) (hts _ hq.1) (hts _ hq.2) rfl hd (by omega) (by omega) hKn.2.1 hR.1 fun H1 kC hkC e9 z9 o9 => ?_
  refine hw p e R s m args below meth c H1 _ n0 k0 _ _ arr C (hR.new (X1 := xnew X (ci + 10) N) (t0 := ci + 10) (n0 := N) ?_ (by rw [z9, hR.1]) (fun q hq => o9 q (by rw [← hR.1]; exact hq)) rfl rfl (fun b hb => ⟨z2_off _ _ hb, z2_off _ _ hb, z2_off _ _ hb, rfl, rfl⟩) (fun h => absurd h (by omega)) (fun ci' h' => ?_)) ⟨?_, fun x h1 h2 => ?_, hS.2.2⟩ hL (by show n0 + (cells + 1) = x_nc X + 1; omega) (by show k0 + (slots + N) = x_ns X + N; omega) e3 e4
  · exact Nat.le_trans C.2.2.2.2.2.2.2.2.2.2.2.2.2 hS.1
  · have e5 : ci = ci' := by omega
    subst e5
    refine ⟨_, hc, rfl, (u_born (tyOf ci) hts f1 hKn hkC e9 f2).to (fun j hj => ?_)⟩
    rw [f5 j hj]
    unfold fval
    split
    · show Value.null = va_rf (z2 (x_FR X) (x_sz X) none (x_sz X) j)
      rw [z2_row]; rfl
    · rw [z2_row]
  · have := hS.1
    have := hR.1
    omega
  · exact (o9 x (by rw [← hR.1]; exact Nat.lt_of_lt_of_le h1 hS.1)).trans (hS.2.1 x h1 h2)
theorem newa_core {V : GV} {M : MT} {d : Nat} {X : XT} {FI AI AI1 : FT} {AL AL1 : LT} {p : Program} {R : Room} {s : State} {m : MethodId} {args : Array Value} {meth : Method} {c : Code} {H H1 : Heap} {locs : List Loc} {t w : Nat} {cA : ClassId} (C : Cx V M d p R s m args meth c) (hR : Rel V s X FI AI AL H) (hS : va_S (AV V) s.heap H locs) (ht : t < 10) (e9 : H1[x_sz X]? = some (vp_cell cA (cont (xnew X t w) AI1 AL1 (x_sz X) t w))) (z9 : H1.size = x_sz X + 1) (o9 : ∀ q, q < x_sz X → H1[q]? = H[q]?) (h1 : ArrOfT s cA (tagTy t)) (h2 : va_RA s cA (tagTy t)) (hAI : ∀ b, b ≠ x_sz X → AI1 b = AI b) (hAL : ∀ b, b ≠ x_sz X → AL1 b = AL b) : Rel V s (xnew X t w) FI AI1 AL1 H1 ∧ va_S (AV V) s.heap H1 locs := by
  refine ⟨hR.new (X1 := xnew X t w) (t0 := t) (n0 := w) (Nat.le_trans C.2.2.2.2.2.2.2.2.2.2.2.2.2 hS.1) (by rw [z9, hR.1]) (fun q hq => o9 q (by rw [← hR.1]; exact hq)) rfl rfl (fun b hb => ⟨z2_off _ _ hb, z2_off _ _ hb, rfl, hAI b hb, hAL b hb⟩) (fun _ => ⟨cA, h1, h2, e9⟩) (fun ci h => absurd ht (by omega)), ?_, fun x g1 g2 => ?_, hS.2.2⟩
  · have := hS.1
    have := hR.1
    omega
  · exact (o9 x (by rw [← hR.1]; exact Nat.lt_of_lt_of_le g1 hS.1)).trans (hS.2.1 x g1 g2)
theorem G_newI {V : GV} {M : MT} {d pc : Nat} {ls : List (Option Value)} {st : List Value} {X : XT} {FI AI : FT} {AL : LT} {P : PT} {i : Int32} (w n : Nat) (hd : dec M pc = .ok (.newarray .int, 2)) (hn : pc + 2 = n) (hcl : Cond.arrayClass .int ∈ gw_tbl) (hi : i = nI w) (hb : w < 100000) (k : G V M d n ls (.ref (x_sz X) :: st) (xnew X 0 w) FI (z2 AI (x_sz X) 0) AL P) : G V M d pc ls (.int i :: st) X FI AI AL P := by
  subst hn
  refine G.step (Nat.le_add_right _ _) (Nat.le_add_right _ _) ?_ k
  intro r X' FI' AI' AL' q1 q2 hw p e R s m args below meth c H locs n0 k0 cells slots arr C hR hS hL e1 e2 e3 e4
  have q1 : x_nc X + 1 ≤ x_nc X' := q1
  have q2 : x_ns X + w ≤ x_ns X' := q2
  refine va_newaK (atype := .int) C.1 C.2.1 (C.2.2.2.2.2.2.2.1 _ hcl) rfl hd rfl (by rw [hi]; exact nI_pos (by omega)) (N := w) (by rw [hi]; exact nI_clamp (by omega)) (by show w * 4 ≤ 536870912; omega) (by omega) (by omega) hR.1 fun H1 cA e9 z9 o9 hAr hNm => ?_
  obtain ⟨r1, r2⟩ := newa_core (t := 0) (w := w) (AI1 := z2 AI (x_sz X) 0) C hR hS (by decide) (by rw [e9]; simp only [cont, z2_row]; rfl) z9 o9 hAr hNm (fun b hb => z2_off _ _ hb) (fun b hb => rfl)
  exact hw p e R s m args below meth c H1 _ n0 k0 _ _ arr C r1 r2 hL (by show n0 + (cells + 1) = x_nc X + 1; omega) (by show k0 + (slots + w) = x_ns X + w; omega) e3 e4
theorem G_newZ {V : GV} {M : MT} {d pc : Nat} {ls : List (Option Value)} {st : List Value} {X : XT} {FI AI : FT} {AL : LT} {P : PT} {i : Int32} (w n : Nat) (hd : dec M pc = .ok (.newarray .boolean, 2)) (hn : pc + 2 = n) (hcl : Cond.arrayClass .boolean ∈ gw_tbl) (hi : i = nI w) (hb : w < 100000) (k : G V M d n ls (.ref (x_sz X) :: st) (xnew X 2 w) FI (z2 AI (x_sz X) 0) AL P) : G V M d pc ls (.int i :: st) X FI AI AL P := by
  subst hn
  refine G.step (Nat.le_add_right _ _) (Nat.le_add_right _ _) ?_ k
  intro r X' FI' AI' AL' q1 q2 hw p e R s m args below meth c H locs n0 k0 cells slots arr C hR hS hL e1 e2 e3 e4
  have q1 : x_nc X + 1 ≤ x_nc X' := q1
  have q2 : x_ns X + w ≤ x_ns X' := q2
  refine va_newaK (atype := .boolean) C.1 C.2.1 (C.2.2.2.2.2.2.2.1 _ hcl) rfl hd rfl (by rw [hi]; exact nI_pos (by omega)) (N := w) (by rw [hi]; exact nI_clamp (by omega)) (by show w * 1 ≤ 536870912; omega) (by omega) (by omega) hR.1 fun H1 cA e9 z9 o9 hAr hNm => ?_
  obtain ⟨r1, r2⟩ := newa_core (t := 2) (w := w) (AI1 := z2 AI (x_sz X) 0) C hR hS (by decide) (by rw [e9]; simp only [cont, z2_row]; rfl) z9 o9 hAr hNm (fun b hb => z2_off _ _ hb) (fun b hb => rfl)
  exact hw p e R s m args below meth c H1 _ n0 k0 _ _ arr C r1 r2 hL (by show n0 + (cells + 1) = x_nc X + 1; omega) (by show k0 + (slots + w) = x_ns X + w; omega) e3 e4
theorem G_newL {V : GV} {M : MT} {d pc : Nat} {ls : List (Option Value)} {st : List Value} {X : XT} {FI AI : FT} {AL : LT} {P : PT} {i : Int32} (w n : Nat) (hd : dec M pc = .ok (.newarray .long, 2)) (hn : pc + 2 = n) (hcl : Cond.arrayClass .long ∈ gw_tbl) (hi : i = nI w) (hb : w < 100000) (k : G V M d n ls (.ref (x_sz X) :: st) (xnew X 1 w) FI AI (z2 AL (x_sz X) 0) P) : G V M d pc ls (.int i :: st) X FI AI AL P := by
  subst hn
  refine G.step (Nat.le_add_right _ _) (Nat.le_add_right _ _) ?_ k
  intro r X' FI' AI' AL' q1 q2 hw p e R s m args below meth c H locs n0 k0 cells slots arr C hR hS hL e1 e2 e3 e4
  have q1 : x_nc X + 1 ≤ x_nc X' := q1
  have q2 : x_ns X + w ≤ x_ns X' := q2
  refine va_newaK (atype := .long) C.1 C.2.1 (C.2.2.2.2.2.2.2.1 _ hcl) rfl hd rfl (by rw [hi]; exact nI_pos (by omega)) (N := w) (by rw [hi]; exact nI_clamp (by omega)) (by show w * 8 ≤ 536870912; omega) (by omega) (by omega) hR.1 fun H1 cA e9 z9 o9 hAr hNm => ?_
  obtain ⟨r1, r2⟩ := newa_core (t := 1) (w := w) (AL1 := z2 AL (x_sz X) 0) C hR hS (by decide) (by rw [e9]; simp only [cont, z2_row]; rfl) z9 o9 hAr hNm (fun b hb => rfl) (fun b hb => z2_off _ _ hb)
  exact hw p e R s m args below meth c H1 _ n0 k0 _ _ arr C r1 r2 hL (by show n0 + (cells + 1) = x_nc X + 1; omega) (by show k0 + (slots + w) = x_ns X + w; omega) e3 e4
theorem NW.ao {U : State} (h : NW U) {t : Nat} {Cn : String} (ht : 3 ≤ t) (ht2 : t < 6) (hC : tagTy t = .object Cn) : va_AO Cn U := by
  match t, ht, ht2 with
  | 3, _, _ => cases hC; exact h.2.1
  | 4, _, _ => cases hC; exact h.2.2.1
  | 5, _, _ => cases hC; exact h.2.2.2.1
  | t + 6, _, h2 => omega
theorem G_newR {V : GV} {M : MT} {d pc : Nat} {ls : List (Option Value)} {st : List Value} {X : XT} {FI AI : FT} {AL : LT} {P : PT} {i : Int32} {idx : Nat} {Cn : String} (t w n : Nat) (hd : dec M pc = .ok (.anewarray idx, 3)) (hn : pc + 3 = n) (hcl : Cond.classLink M.1.cls idx Cn ∈ gw_tbl) (ht : 3 ≤ t) (ht2 : t < 6) (hC : tagTy t = .object Cn) (hi : i = nI w) (hb : w < 100000) (k : G V M d n ls (.ref (x_sz X) :: st) (xnew X t w) FI AI AL P) : G V M d pc ls (.int i :: st) X FI AI AL P := by
  subst hn
  refine G.step (Nat.le_add_right _ _) (Nat.le_add_right _ _) ?_ k
  intro r X' FI' AI' AL' q1 q2 hw p e R s m args below meth c H locs n0 k0 cells slots arr C hR hS hL e1 e2 e3 e4
  have q1 : x_nc X + 1 ≤ x_nc X' := q1
  have q2 : x_ns X + w ≤ x_ns X' := q2
  have hcl9 : i.toNatClampNeg = w := by rw [hi]; exact nI_clamp (by omega)
  refine W.anew C.1 C.2.1 C.2.2.2.2.1 (C.2.2.2.2.2.2.2.1 _ hcl) (va_AO.use (C.2.2.2.2.2.2.2.2.2.2.2.2.1.ao ht ht2 hC)) rfl hd rfl (by rw [hi]; exact nI_pos (by omega)) (by rw [hcl9]; omega) (by omega) (by rw [hcl9]; omega) fun cA kA comp f1 f2 f3 f4 => ?_
  rw [hcl9]
  generalize hH1 : H.push ({ cls := cA, slots := Array.replicate w .null, vm := .none } : Cell) = H1
  have hz := hR.1
  have z1 : H1.size = x_sz X + 1 := by rw [← hH1, Array.size_push, hz]
  have e1' : H1[x_sz X]? = some (arrV cA w (fun _ => .null)) := by rw [← hz, ← hH1, Array.getElem?_push_size, ← arrV_new]
  have o1 : ∀ q : Nat, q < x_sz X → H1[q]? = H[q]? := fun q hq => by rw [← hH1, Array.getElem?_push, if_neg (by omega)]
  obtain ⟨r1, r2⟩ := newa_core (t := t) (w := w) (AI1 := AI) (AL1 := AL) (cA := cA) C hR hS (by omega) (by rw [e1', cont_ref ht]; show _ = some (arrV cA w (fun j => va_rf (z2 (x_AR X) (x_sz X) none (x_sz X) j))); simp only [z2_row]; rfl) z1 o1 (by rw [hC]; exact fun N z => ⟨(fun k h => by cases h), kA, f2, comp, f3⟩) (by rw [hC]; exact ⟨kA, comp, f2, f3, f4, f1⟩) (fun b hb => rfl) (fun b hb => rfl)
  rw [hz]
  exact hw p e R s m args below meth c H1 _ n0 k0 _ _ arr C r1 r2 hL (by show n0 + (cells + 1) = x_nc X + 1; omega) (by show k0 + (slots + w) = x_ns X + w; omega) e3 e4
theorem Rel.ar {V : GV} {s : State} {sh : Nat → Option (Nat × Nat)} {FR AR : Nat → Nat → Option Nat} {zz : Nat × Nat × Nat} {FI AI : FT} {AL : LT} {H H1 : Heap} (h : Rel V s (sh, FR, AR, zz) FI AI AL H) {a t n k : Nat} {x : Option Nat} {cA : ClassId} (hsh : sh a = some (t, n)) (ht : 3 ≤ t) (ht2 : t < 10) (h1 : ArrOfT s cA (tagTy t)) (h2 : va_RA s cA (tagTy t)) (e : H1[a]? = some (arrV cA n (fun j => va_rf (if j = k then x else AR a j)))) (z : H1.size = H.size) (oq : ∀ q, q ≠ a → H1[q]? = H[q]?) : Rel V s (sh, FR, u2 AR a k x, zz) FI AI AL H1 := by
  refine h.put z oq rfl rfl (fun b hb => ⟨rfl, u2_off AR k x hb, rfl, rfl, rfl⟩) (fun t' n' h' ht' => ?_) (fun ci n' h' => ?_)
  · have h' : sh a = some (t', n') := h'
    cases hsh.symm.trans h'
    refine ⟨cA, h1, h2, ?_⟩
    rw [e, cont_ref ht]
    show _ = some (arrV cA n (fun j => va_rf (u2 AR a k x a j)))
    simp only [u2_row]
  · have h' : sh a = some (ci + 10, n') := h'
    rw [hsh] at h'
    simp at h'
    omega
theorem G_aastore {V : GV} {M : MT} {d pc : Nat} {ls : List (Option Value)} {st : List Value} {sh : Nat → Option (Nat × Nat)} {FR AR : Nat → Nat → Option Nat} {zz : Nat × Nat × Nat} {FI AI : FT} {AL : LT} {P : PT} {i : Int32} {a b w j0 t ci w2 : Nat} {r0 : vw_C} (n : Nat) (hd : dec M pc = .ok (.aastore, 1)) (hn : pc + 1 = n) (hsh : sh a = some (t, w)) (ht : 3 ≤ t) (ht2 : t < 10) (hi : ix i w j0) (hb : sh b = some (ci + 10, w2)) (hc : Cls[ci]? = some r0) (hC : tagTy t = .object r0.1) (k : G V M d n ls st (sh, FR, u2 AR a j0 (some b), zz) FI AI AL P) : G V M d pc ls (.ref b :: .int i :: .ref a :: st) (sh, FR, AR, zz) FI AI AL P := by
  subst hn
  refine G.step (X1 := (sh, FR, u2 AR a j0 (some b), zz)) (Nat.le_refl _) (Nat.le_refl _) ?_ k
  intro r X' FI' AI' AL' q1 q2 hw p e R s m args below meth c H locs n0 k0 cells slots arr C hR hS hL e1 e2 e3 e4
  obtain ⟨cA, h1, h2, h3⟩ := hR.2.2.1 a t w hsh ht2
  rw [cont_ref ht] at h3
  obtain ⟨r1, g1, g2, cellV, y1, y2, y3, y4⟩ := hR.2.2.2 b ci w2 hb
  have hcls := (C.2.2.2.2.2.2.2.2.2.2.1.1 ci r0 hc).2
  have h2' := h2
  rw [hC] at h2'
  obtain ⟨kA, comp, k1, k2, k3, -⟩ := h2'
  have hcomp : comp = V.2.1.1 ci := Option.some.inj (k3.symm.trans hcls.1)
  subst hcomp
  obtain ⟨kC, hkC, -⟩ := hcls.2
  refine W.aast C.1 C.2.1 h3 (fun q h => by cases h) (fun h => by cases h) k1 k2 rfl hkC ⟨fun q => ix_in hi (Or.inl q), by show _ < (arrV _ _ _).slots.size; rw [arrV_size, ix_cl hi]; exact hi.2.1⟩ y1 (fun q h => by rw [y3] at h; cases h) (by rw [y2]; exact hkC) (by rw [y2]; exact va_assign hcls) rfl rfl hd fun H1 eh z oq => ?_
  rw [ix_cl hi] at eh ⊢
  have e' : H1[a]? = some (arrV cA w (fun j => va_rf (if j = j0 then some b else AR a j))) := by
    rw [eh, ← updV_ref]; show some ((arrV cA w _).setSlot _ _) = _; rw [arrV_store]
  exact hw p e R s m args below meth c H1 _ n0 k0 cells slots arr C (hR.ar hsh ht ht2 h1 h2 e' z oq) (hS.put z oq (hR.2.1 a t w hsh).1) hL e1 e2 e3 e4
/-! System.arraycopy between rows of numbers -/
theorem nf_copy : nativeFrameWords "java/lang/System" "arraycopy" 5 + 11 + 8 ≤ 41 := by decide +kernel
theorem W_copy {p : Program} {l : Launch} {e : Env} {R : Room} {s : State} {m : MethodId} {args : Array Value} {below : List Frame} {meth : Method} {c : Code} {H : Heap} {locs : List Loc} {cells slots : Nat} {Q : State → Prop} {V : GV} {M : MT} {d pc : Nat} {arr : Array Slot} {rest : List Value} {idx : Nat} {α : Type} (mk : α → Value) {ty : FieldType} {c0 c1 : ClassId} {a0 a1 n0 n1 sp dp n : Nat} {f g : Nat → α} (C : Cx V M (d + 1) p R s m args meth c) (hls : arr.size = M.2.2.1)
    (hd : dec M pc = .ok (.invokestatic idx, 3)) (hE : Cond.methodLink M.1.cls idx arraycopyName ∈ gw_tbl) (h0 : H[a0]? = some (arrV c0 n0 (fun j => mk (f j)))) (h1 : H[a1]? = some (arrV c1 n1 (fun j => mk (g j)))) (t0 : ArrOfT s c0 ty) (t1 : ArrOfT s c1 ty) (hprim : refKind ty = false)
    (hfit : ∀ x : α, fits ty (mk x) = true) (htk : ∀ (U : State) (q : ClassId) (x : α), U.takes q (mk x)) (hs : sp + n ≤ n0) (hd1 : dp + n ≤ n1) (hb0 : n0 < 100000) (hb1 : n1 < 100000) (hw0 : (rest.map fun v => v.category).sum ≤ 8)
    (kk : ∀ (H1 : Heap) (locs1 : List Loc), H1[a1]? = some (arrV c1 n1 (fun j => mk (va_cpy f g sp dp n j))) → H1.size = H.size → (∀ q, q ≠ a1 → H1[q]? = H[q]?) → (∀ x ∈ locs1, x ∈ locs ∨ x.base = a1) → W p l e R s m args below meth c H1 locs1 cells slots Q (F0 m (pc + 3) arr rest)) : W p l e R s m args below meth c H locs cells slots Q (F0 m pc arr (.int (nI n) :: .int (nI dp) :: .ref a1 :: .int (nI sp) :: .ref a0 :: rest)) := by
  intro T hT X
  have hts := C.2.2.2.2.2.2.2.1
  have hfr := C.2.2.2.2.2.2.2.2.1
  have hlo := C.2.2.2.2.2.2.2.2.2.1
  have hnf := nf_copy
  have csp : (nI sp).toNatClampNeg = sp := nI_clamp (by omega)
  have cdp : (nI dp).toNatClampNeg = dp := nI_clamp (by omega)
  have cn : (nI n).toNatClampNeg = n := nI_clamp (by omega)
  obtain ⟨-, k0, hk0, cm0, hkk0⟩ := t0 n0 (fun j => mk (f j))
  obtain ⟨-, k1, hk1, cm1, hkk1⟩ := t1 n1 (fun j => mk (g j))
  obtain ⟨vm', X', step⟩ := X.arraycopy C.1 C.2.2.2.2.1 (hts _ hE) (hts _ ac_copy.1) (hts _ ac_copy.2.1) (hts _ ac_copy.2.2) (src := a0) (dst := a1) (cs := arrV c0 n0 (fun j => mk (f j))) (cd := arrV c1 n1 (fun j => mk (g j))) (srcPos := nI sp) (destPos := nI dp) (n := nI n) (by rw [hT]; exact h0) (by rw [hT]; exact h1)
    (fun _ h => by cases h) (fun _ h => by cases h) (fun h => by cases h) (fun h => by cases h) hk0 hk1 hkk0 hkk1 (by simp [hprim]) (nI_pos (by omega)) (nI_pos (by omega)) (nI_pos (by omega))
    (by rw [nI_toInt (by omega), nI_toInt (by omega), arrV_size]; omega) (by rw [nI_toInt (by omega), nI_toInt (by omega), arrV_size]; omega)
    (fun vm₁ _ i hi => by
      rw [cn] at hi
      have e : (arrV c0 n0 (fun j => mk (f j))).slots.getD ((nI sp).toNatClampNeg + i) .null = mk (f (sp + i)) := by
        rw [Array.getD_eq_getD_getElem?, csp, arrV_read _ _ (by omega)]
        rfl
      rw [e]
      exact ⟨hfit _, htk _ _ _⟩)
    (g := F0 m pc arr (.int (nI n) :: .int (nI dp) :: .ref a1 :: .int (nI sp) :: .ref a0 :: rest)) rfl (hls.trans C.2.2.2.1.symm) (rest := rest) rfl (by rw [C.2.1]; exact hd) (by omega) (by show 2 * 0 + _ + _ ≤ _; omega)
  have ec : copied (arrV c0 n0 (fun j => mk (f j))) (arrV c1 n1 (fun j => mk (g j))) (nI sp) (nI dp) (nI n) = arrV c1 n1 (fun j => mk (va_cpy f g sp dp n j)) := by
    have := va_copied mk c0 c1 (n1 := n1) (dp := dp) f g hs
    rw [← this]
    unfold copied
    rw [csp, cdp, cn]
  rw [ec] at X' step
  have hl : a1 < H.size := (Array.getElem?_eq_some_iff.mp h1).1
  obtain ⟨t, b1, b2⟩ := kk (H.setIfInBounds a1 (arrV c1 n1 (fun j => mk (va_cpy f g sp dp n j)))) _ (by simp [Array.getElem?_setIfInBounds, hl]) (by simp) (fun q hq => by simp [Array.getElem?_setIfInBounds, Ne.symm hq]) (fun x hx => by
      rcases List.mem_append.mp hx with h | h
      · exact Or.inl h
      · obtain ⟨z, -, hz⟩ := List.mem_map.mp h
        exact Or.inr (by rw [← hz])) _ (by rw [← hT]; rfl) X'
  exact ⟨t, step t b1, b2⟩
/-- a stretch of a row comes to another -/
def cp2 {α : Type} (F : Nat → Nat → α) (a0 sp a1 dp n : Nat) : Nat → Nat → α := fun b j => if b = a1 then va_cpy (F a0) (F a1) sp dp n j else F b j
theorem cp2_off {α : Type} (F : Nat → Nat → α) {a0 sp a1 dp n b : Nat} (h : b ≠ a1) : cp2 F a0 sp a1 dp n b = F b := by funext j; simp [cp2, h]
theorem cp2_row {α : Type} (F : Nat → Nat → α) (a0 sp a1 dp n : Nat) : cp2 F a0 sp a1 dp n a1 = va_cpy (F a0) (F a1) sp dp n := by funext j; simp [cp2]
theorem locs_put {A : Nat → Prop} {H0 H H1 : Heap} {locs locs1 : List Loc} {a : Nat} (h : va_S A H0 H locs) (z : H1.size = H.size) (oq : ∀ q : Nat, q ≠ a → H1[q]? = H[q]?) (ha : A a) (hl : ∀ x ∈ locs1, x ∈ locs ∨ x.base = a) : va_S A H0 H1 locs1 := by
  refine ⟨by rw [z]; exact h.1, fun q h1 h2 => ?_, fun q hq => ?_⟩
  · rw [oq q (fun e => h2 (by rw [e]; exact ha))]
    exact h.2.1 q h1 h2
  · rcases hl q hq with h1 | h1
    · exact h.2.2 q h1
    · rw [h1]; exact ha
theorem G_copyL {V : GV} {M : MT} {d pc : Nat} {ls : List (Option Value)} {X : XT} {FI AI : FT} {AL : LT} {P : PT} {idx : Nat} {rest : List Value} {a0 a1 n0 n1 sp dp w : Nat} (n : Nat) (hd : dec M pc = .ok (.invokestatic idx, 3)) (hn : pc + 3 = n) (hE : Cond.methodLink M.1.cls idx arraycopyName ∈ gw_tbl) (s0 : x_sh X a0 = some (1, n0)) (s1 : x_sh X a1 = some (1, n1)) (hs : sp + w ≤ n0) (hd1 : dp + w ≤ n1) (hb0 : n0 < 100000) (hb1 : n1 < 100000) (hw0 : (rest.map fun v => v.category).sum ≤ 8) (k : G V M (d + 1) n ls rest X FI AI (cp2 AL a0 sp a1 dp w) P) : G V M (d + 1) pc ls (.int (nI w) :: .int (nI dp) :: .ref a1 :: .int (nI sp) :: .ref a0 :: rest) X FI AI AL P := by
  subst hn
  refine G.step (Nat.le_refl _) (Nat.le_refl _) ?_ k
  intro r X' FI' AI' AL' q1 q2 hw p e R s m args below meth c H locs nn0 k0 cells slots arr C hR hS hL e1 e2 e3 e4
  obtain ⟨cA, h1, h2, h3⟩ := hR.2.2.1 a0 1 n0 s0 (by decide)
  obtain ⟨cB, g1, g2, g3⟩ := hR.2.2.1 a1 1 n1 s1 (by decide)
  refine W_copy (fun x : Int64 => .long x) C hL.1 hd hE h3 g3 h1 g1 rfl (fun _ => rfl) (fun _ _ _ => trivial) hs hd1 hb0 hb1 hw0 fun H1 locs1 eh z oq hl => ?_
  refine hw p e R s m args below meth c H1 locs1 nn0 k0 cells slots arr C (hR.put z oq rfl rfl (fun b hb => ⟨rfl, rfl, rfl, rfl, cp2_off AL hb⟩) (fun t' n' h' ht' => ?_) (fun ci n' h' => ?_)) (locs_put hS z oq (hR.2.1 a1 1 n1 s1).1 hl) hL e1 e2 e3 e4
  · cases s1.symm.trans h'
    refine ⟨cB, g1, g2, ?_⟩
    rw [eh]
    simp only [cont, cp2_row]
    rfl
  · rw [s1] at h'
    simp at h'
theorem G_copyI {V : GV} {M : MT} {d pc : Nat} {ls : List (Option Value)} {X : XT} {FI AI : FT} {AL : LT} {P : PT} {idx : Nat} {rest : List Value} {a0 a1 n0 n1 sp dp w : Nat} (n : Nat) (hd : dec M pc = .ok (.invokestatic idx, 3)) (hn : pc + 3 = n) (hE : Cond.methodLink M.1.cls idx arraycopyName ∈ gw_tbl) (s0 : x_sh X a0 = some (0, n0)) (s1 : x_sh X a1 = some (0, n1)) (hs : sp + w ≤ n0) (hd1 : dp + w ≤ n1) (hb0 : n0 < 100000) (hb1 : n1 < 100000) (hw0 : (rest.map fun v => v.category).sum ≤ 8) (k : G V M (d + 1) n ls rest X FI (cp2 AI a0 sp a1 dp w) AL P) : G V M (d + 1) pc ls (.int (nI w) :: .int (nI dp) :: .ref a1 :: .int (nI sp) :: .ref a0 :: rest) X FI AI AL P := by
  subst hn
  refine G.step (Nat.le_refl _) (Nat.le_refl _) ?_ k
  intro r X' FI' AI' AL' q1 q2 hw p e R s m args below meth c H locs nn0 k0 cells slots arr C hR hS hL e1 e2 e3 e4
  obtain ⟨cA, h1, h2, h3⟩ := hR.2.2.1 a0 0 n0 s0 (by decide)
  obtain ⟨cB, g1, g2, g3⟩ := hR.2.2.1 a1 0 n1 s1 (by decide)
  refine W_copy (fun x : Int32 => .int x) C hL.1 hd hE h3 g3 h1 g1 rfl (fun _ => rfl) (fun _ _ _ => trivial) hs hd1 hb0 hb1 hw0 fun H1 locs1 eh z oq hl => ?_
  refine hw p e R s m args below meth c H1 locs1 nn0 k0 cells slots arr C (hR.put z oq rfl rfl (fun b hb => ⟨rfl, rfl, rfl, cp2_off AI hb, rfl⟩) (fun t' n' h' ht' => ?_) (fun ci n' h' => ?_)) (locs_put hS z oq (hR.2.1 a1 0 n1 s1).1 hl) hL e1 e2 e3 e4
  · cases s1.symm.trans h'
    refine ⟨cB, g1, g2, ?_⟩
    rw [eh]
    simp only [cont, cp2_row]
    rfl
  · rw [s1] at h'
    simp at h'

