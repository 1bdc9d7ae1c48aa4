/-! ===== COMPLETION: what it is, and how the reference does it ===== -/
abbrev GT : Type := Nat × (Nat → Nat) × (Nat → Nat → Int64) × (Nat → Nat) × (Nat → Nat → Int64) × (Nat → Nat → Nat)
abbrev gN (S : GT) : Nat := S.1
abbrev gL (S : GT) : Nat → Nat := S.2.1
abbrev gP (S : GT) : Nat → Nat → Int64 := S.2.2.1
abbrev gK (S : GT) : Nat → Nat := S.2.2.2.1
abbrev gC (S : GT) : Nat → Nat → Int64 := S.2.2.2.2.1
abbrev gR (S : GT) : Nat → Nat → Nat := S.2.2.2.2.2
def upn {α : Type} (f : Nat → α) (n : Nat) (v : α) : Nat → α := fun i => if i = n then v else f i
theorem upn_at {α : Type} (f : Nat → α) (n : Nat) (v : α) : upn f n v n = v := if_pos rfl
theorem upn_ne {α : Type} (f : Nat → α) {n i : Nat} (v : α) (h : i ≠ n) : upn f n v i = f i := if_neg h
/-- GENERATORS are as they must be -/
def WG (o : Nat) (S : GT) : Prop := gN S ≤ 7 ∧ (∀ i, i < gN S → gL S i < 84 ∧ 1 ≤ eD (gL S i) ∧ cu (gP S i) = gP S i ∧ mon o (gP S i) (eX (gL S i)) (eY (gL S i)) (eZ (gL S i)) ∧ gK S i ≤ 86 ∧ (∀ j, j < gK S i → gR S i j < 2097152 ∧ ∀ h, i ≤ h → h < 7 → pw (gR S i j) h = 0) ∧ (0 < gK S i → ∃ h, h < i ∧ 0 < pw (gR S i 0) h)) ∧ ∀ i j, i < gN S → j < gN S → gL S i = gL S j → i = j
def pcf (e : Int64) (st : List (Int64 × Nat)) (i : Nat) : Int64 := if i = 0 then e else if i = 1 then -e else -e * (st.getD (i - 2) (0, 0)).1
def prf (l r : Nat) (st : List (Int64 × Nat)) (i : Nat) : Nat := if i = 0 then l else if i = 1 then r else (st.getD (i - 2) (0, 0)).2
def appG (S : GT) (t : Nat) (e : Int64) (f : Nat → Int64) (l r : Nat) (st : List (Int64 × Nat)) : GT := (gN S + 1, upn (gL S) (gN S) t, upn (gP S) (gN S) (fun j => e * f j), upn (gK S) (gN S) (2 + st.length), upn (gC S) (gN S) (pcf e st), upn (gR S) (gN S) (prf l r st))
/-- one RELATION is settled: how it ends (none: it goes on), GENERATORS then -/
def stl (o : Nat) (S : GT) (q : Nat × Nat) : Option Nat × GT := match difP (gN S) (gP S) q.1 q.2 with
  | none => (some 3, S)
  | some f => match apt o (gN S) (leadL (gL S) (gN S)) (gP S) 84 f [] with
    | none => (some 3, S)
    | some w => if lead1 w.1 o = 0 then (none, S) else if ¬ labs (w.1 (lead1 w.1 o - 1)) = 1 then (some 2, S) else if gN S = 7 then (some 1, S) else (none, appG S (lead1 w.1 o - 1) (w.1 (lead1 w.1 o - 1)) w.1 q.1 q.2 w.2)
def rnd (o : Nat) : List (Nat × Nat) → GT → Option Nat × GT
  | [], S => (none, S)
  | q :: L, S => match stl o S q with
    | (some e, S') => (some e, S')
    | (none, S') => rnd o L S'
/-- COMPLETION: how it ends, GENERATORS, how many ROUNDS were begun -/
noncomputable def grw (o d : Nat) : Nat → GT → Nat → Nat × GT × Nat
  | 0, S, k => (0, S, k)
  | m + 1, S, k => match rnd o (rlD o (leadL (gL S) (gN S)) d 84) S with
    | (some e, S') => (e, S', k + 1)
    | (none, S') => if gN S' = gN S then (0, S', k + 1) else grw o d m S' (k + 1)
/-- the reference has these GENERATORS -/
def MGs (FI AI : FT) (AL : LT) (b o : Nat) (S : GT) : Prop :=
  MTb AI b ∧ FI b 9 = nI (gN S) ∧ o < 3 ∧ (∀ k, k < 84 → AI (b + 7) k = nI (rk o k)) ∧ ∀ g, g < gN S → AI (b + 9) g = nI (gL S g) ∧ mp AL b (6 + g) = gP S g ∧ AI (b + 10) g = nI (gK S g) ∧ ∀ i, i < gK S g → AL (b + 11) (86 * g + i) = gC S g i ∧ ∀ h, h < 7 → AI (b + 12) (7 * (86 * g + i) + h) = nI (pw (gR S g i) h)
theorem mon_dgb {o t : Nat} {f : Nat → Int64} (ho : o < 3) (ht : t < 84) (h : mon o f (eX t) (eY t) (eZ t)) : dgb f (eD t) ∧ lead1 f o = t + 1 := by
  have h1 : f t = 1 := by have := h.1; rwa [(e_all t ht).2.2] at this
  have hl := lead_of ho ht (by rw [h1]; decide) (fun u hu hg => h.2 u hu hg)
  exact ⟨lead_dgb ho hl, hl⟩
theorem MGs.gl {FI AI : FT} {AL : LT} {b o : Nat} {S : GT} (h : MGs FI AI AL b o S) (w : WG o S) : MGl AI b (gN S) (gL S) := fun i hi => ⟨(h.2.2.2.2 i hi).1, (w.2.1 i hi).1, (w.2.1 i hi).2.1⟩
theorem MGs.gn {FI AI : FT} {AL : LT} {b o : Nat} {S : GT} (h : MGs FI AI AL b o S) (w : WG o S) : MGn FI AI AL b o (gN S) (gL S) (gP S) :=
  ⟨h.1, h.2.1, w.1, h.gl w, fun g hg => ⟨(h.2.2.2.2 g hg).2.1, (mon_dgb h.2.2.1 (w.2.1 g hg).1 (w.2.1 g hg).2.2.2.1).1⟩, h.2.2.1, h.2.2.2.1⟩
theorem s_mLayPart {V : GV} {d b c len n i row : Nat} {v : Int64} {X : XT} {FI AI : FT} {AL : LT} (h : MO X b) (hn : FI b 9 = nI n) (hn7 : n < 7) (hi : i < 86) (hc : x_sh X c = some (0, len)) (hl : len < 100000) (hr : 7 * row + 7 ≤ len) (hcb : c ≠ b + 12) : G V m_Mod_layPart d 0 [some (.ref b), some (.int (nI i)), some (.long v), none, some (.ref c), some (.int (nI row)), none, none] [] X FI AI AL (Pd none X FI (sr AI (b + 12) (fun j => if 7 * (86 * n + i) ≤ j ∧ j < 7 * (86 * n + i) + 7 then AI c (7 * row + (j - 7 * (86 * n + i))) else AI (b + 12) j)) (u2 AL (b + 11) (86 * n + i) v)) := by
  have L : ∀ g, g ≤ 7 → G V m_Mod_layPart d 22 [some (.ref b), some (.int (nI i)), some (.long v), none, some (.ref c), some (.int (nI row)), some (.int (nI (86 * n + i))), some (.int (nI g))] [] X FI (sr AI (b + 12) (fun j => if 7 * (86 * n + i) ≤ j ∧ j < 7 * (86 * n + i) + g then AI c (7 * row + (j - 7 * (86 * n + i))) else AI (b + 12) j)) (u2 AL (b + 11) (86 * n + i) v) (Pd none X FI (sr AI (b + 12) (fun j => if 7 * (86 * n + i) ≤ j ∧ j < 7 * (86 * n + i) + 7 then AI c (7 * row + (j - 7 * (86 * n + i))) else AI (b + 12) j)) (u2 AL (b + 11) (86 * n + i) v)) := by
    refine upto ?_ ?_
    · refine G_iload7 24 d_Mod_layPart_22 rfl ?_
      refine G_bipushN 7 26 d_Mod_layPart_24 rfl rfl ?_
      first | refine G_icgeN 59 29 d_Mod_layPart_26 rfl rfl (by omega) (by omega) (fun h26 => ?_) (fun h26 => ?_) | refine G_icge 59 29 d_Mod_layPart_26 rfl rfl (fun h26 => ?_) (fun h26 => ?_)
      · refine G_vret d_Mod_layPart_59 rfl ?_
        exact Pd.rf
      · omega
    · intro g hg ih
      have e0 : (sr AI (b + 12) (fun j => if 7 * (86 * n + i) ≤ j ∧ j < 7 * (86 * n + i) + g then AI c (7 * row + (j - 7 * (86 * n + i))) else AI (b + 12) j)) c (7 * row + g) = AI c (7 * row + g) := by rw [sr_ne _ _ hcb]
      have e1 : u2 (sr AI (b + 12) (fun j => if 7 * (86 * n + i) ≤ j ∧ j < 7 * (86 * n + i) + g then AI c (7 * row + (j - 7 * (86 * n + i))) else AI (b + 12) j)) (b + 12) (7 * (86 * n + i) + g) (AI c (7 * row + g)) = sr AI (b + 12) (fun j => if 7 * (86 * n + i) ≤ j ∧ j < 7 * (86 * n + i) + (g + 1) then AI c (7 * row + (j - 7 * (86 * n + i))) else AI (b + 12) j) := by
        rw [u2_sr]
        congr 1
        funext j
        by_cases q : j = 7 * (86 * n + i) + g
        · rw [if_pos q, if_pos (by omega), show j - 7 * (86 * n + i) = g by omega]
        · rw [if_neg q]
          by_cases q2 : 7 * (86 * n + i) ≤ j ∧ j < 7 * (86 * n + i) + g
          · rw [if_pos q2, if_pos (by omega)]
          · rw [if_neg q2, if_neg (by omega)]
      refine G_iload7 24 d_Mod_layPart_22 rfl ?_
      refine G_bipushN 7 26 d_Mod_layPart_24 rfl rfl ?_
      first | refine G_icgeN 59 29 d_Mod_layPart_26 rfl rfl (by omega) (by omega) (fun h26 => ?_) (fun h26 => ?_) | refine G_icge 59 29 d_Mod_layPart_26 rfl rfl (fun h26 => ?_) (fun h26 => ?_)
      · omega
      · refine G_aload0 30 d_Mod_layPart_29 rfl ?_
        refine G_getR 33 d_Mod_layPart_30 rfl f_Mod_46 rfl h.sh h.f13 ?_
        refine G_bipushN 7 35 d_Mod_layPart_33 rfl rfl ?_
        refine G_iload6 37 d_Mod_layPart_35 rfl ?_
        first | refine G_imulN 38 d_Mod_layPart_37 rfl ?_ | refine G_imul 38 d_Mod_layPart_37 rfl ?_
        refine G_iload7 40 d_Mod_layPart_38 rfl ?_
        first | refine G_iaddN 41 d_Mod_layPart_40 rfl ?_ | refine G_iadd 41 d_Mod_layPart_40 rfl ?_
        refine G_aload4 43 d_Mod_layPart_41 rfl ?_
        refine G_bipushN 7 45 d_Mod_layPart_43 rfl rfl ?_
        refine G_iload5 47 d_Mod_layPart_45 rfl ?_
        first | refine G_imulN 48 d_Mod_layPart_47 rfl ?_ | refine G_imul 48 d_Mod_layPart_47 rfl ?_
        refine G_iload7 50 d_Mod_layPart_48 rfl ?_
        first | refine G_iaddN 51 d_Mod_layPart_50 rfl ?_ | refine G_iadd 51 d_Mod_layPart_50 rfl ?_
        refine G_ialoadv 52 d_Mod_layPart_51 rfl hc (ix_nI (by omega) (by omega)) e0 ?_
        refine G_iastore 53 d_Mod_layPart_52 rfl h.s13 (ix_nI (by omega) (by omega)) ?_
        first | refine G_iincN7 56 d_Mod_layPart_53 rfl (by decide) rfl ?_ | refine G_iinc7 _ 56 d_Mod_layPart_53 rfl (by decide) rfl rfl ?_
        refine G_goto 22 d_Mod_layPart_56 rfl ?_
        rw [e1]
        exact ih
  refine G_bipushN 86 2 d_Mod_layPart_0 rfl rfl ?_
  refine G_aload0 3 d_Mod_layPart_2 rfl ?_
  refine G_getIv 6 d_Mod_layPart_3 rfl f_Mod_133 rfl h.sh hn ?_
  first | refine G_imulN 7 d_Mod_layPart_6 rfl ?_ | refine G_imul 7 d_Mod_layPart_6 rfl ?_
  refine G_iload1 8 d_Mod_layPart_7 rfl ?_
  first | refine G_iaddN 9 d_Mod_layPart_8 rfl ?_ | refine G_iadd 9 d_Mod_layPart_8 rfl ?_
  refine G_istore6 11 d_Mod_layPart_9 rfl (by decide) rfl ?_
  refine G_aload0 12 d_Mod_layPart_11 rfl ?_
  refine G_getR 15 d_Mod_layPart_12 rfl f_Mod_43 rfl h.sh h.f12 ?_
  refine G_iload6 17 d_Mod_layPart_15 rfl ?_
  refine G_lload2 18 d_Mod_layPart_17 rfl ?_
  refine G_lastore 19 d_Mod_layPart_18 rfl h.s12 (ix_nI (by omega) (by omega)) ?_
  refine G_iconstN 0 20 d_Mod_layPart_19 rfl rfl ?_
  refine G_istore7 22 d_Mod_layPart_20 rfl (by decide) rfl ?_
  have := L 0 (by omega)
  rw [show (fun j => if 7 * (86 * n + i) ≤ j ∧ j < 7 * (86 * n + i) + 0 then AI c (7 * row + (j - 7 * (86 * n + i))) else AI (b + 12) j) = AI (b + 12) from funext (fun j => if_neg (by omega)), sr_self] at this
  exact this
/-- what settling a RELATION leaves alone -/
def gbF (FI FI' AI AI' : FT) (AL AL' : LT) (b : Nat) : Prop :=
  (∀ c j, ¬ (c = b ∧ (j = 9 ∨ j = 20 ∨ j = 30)) → FI' c j = FI c j) ∧ (∀ c, c < b + 9 ∨ (b + 12 < c ∧ c < b + 17) ∨ (b + 17 < c ∧ c < b + 22) ∨ b + 27 < c → AI' c = AI c) ∧ (∀ c, c ≠ b + 1 → c ≠ b + 11 → c ≠ b + 16 → AL' c = AL c) ∧ ∀ p, p < 20 → p < 6 ∨ p = 16 ∨ p = 17 ∨ p = 19 → mp AL' b p = mp AL b p
theorem gbF.rf {FI AI : FT} {AL : LT} {b : Nat} : gbF FI FI AI AI AL AL b := ⟨fun _ _ _ => rfl, fun _ _ => rfl, fun _ _ _ _ => rfl, fun _ _ _ => rfl⟩
theorem gbF.tr {FI FI1 FI2 AI AI1 AI2 : FT} {AL AL1 AL2 : LT} {b : Nat} (h : gbF FI FI1 AI AI1 AL AL1 b) (k : gbF FI1 FI2 AI1 AI2 AL1 AL2 b) : gbF FI FI2 AI AI2 AL AL2 b :=
  ⟨fun c j hc => (k.1 c j hc).trans (h.1 c j hc), fun c hc => (k.2.1 c hc).trans (h.2.1 c hc), fun c a1 a2 a3 => (k.2.2.1 c a1 a2 a3).trans (h.2.2.1 c a1 a2 a3), fun p a1 a2 => (k.2.2.2 p a1 a2).trans (h.2.2.2 p a1 a2)⟩
theorem gbF.ap {FI FI' AI AI' : FT} {AL AL' : LT} {b : Nat} (h : apF FI FI' AI AI' AL AL' b) : gbF FI FI' AI AI' AL AL' b :=
  ⟨fun c j hc => h.1 c j (fun e => hc ⟨e.1, by omega⟩), fun c hc => h.2.1 c (by omega) (by omega), fun c a1 a2 a3 => h.2.2.2.1 c a1 a3, fun p a1 a2 => h.2.2.2.2 p a1 (by omega) (by omega) (by omega) (by omega)⟩
theorem gbF.df {FI AI : FT} {AL AL' : LT} {b : Nat} (h : dfF AL AL' b) : gbF FI FI AI AI AL AL' b :=
  ⟨fun _ _ _ => rfl, fun _ _ => rfl, fun c a1 _ _ => h.1 c a1, fun p a1 a2 => h.2 p a1 (by omega) (by omega) (by omega) (by omega)⟩
theorem MGs.ap {FI FI' AI AI' : FT} {AL AL' : LT} {b o : Nat} {S : GT} (h : MGs FI AI AL b o S) (w : gN S ≤ 7) (k : apF FI FI' AI AI' AL AL' b) : MGs FI' AI' AL' b o S := by
  obtain ⟨h1, h2, h3, h4, h5⟩ := h
  obtain ⟨k1, k2, k3, k4, k5⟩ := k
  refine ⟨⟨fun s hs => ?_, fun x y z hs => ?_⟩, ?_, h3, fun j hj => ?_, fun g hg => ?_⟩
  · rw [k2 _ (by omega) (by omega), k2 _ (by omega) (by omega), k2 _ (by omega) (by omega)]; exact h1.1 s hs
  · rw [k2 _ (by omega) (by omega)]; exact h1.2 x y z hs
  · rw [k1 b 9 (by omega)]; exact h2
  · rw [k2 _ (by omega) (by omega)]; exact h4 j hj
  · obtain ⟨a1, a2, a3, a4⟩ := h5 g hg
    refine ⟨by rw [k2 _ (by omega) (by omega)]; exact a1, by rw [k5 _ (by omega) (by omega) (by omega) (by omega) (by omega)]; exact a2, by rw [k2 _ (by omega) (by omega)]; exact a3, fun i hi => ⟨by rw [k4 _ (by omega) (by omega)]; exact (a4 i hi).1, fun f hf => by rw [k2 _ (by omega) (by omega)]; exact (a4 i hi).2 f hf⟩⟩
theorem MGs.df {FI AI : FT} {AL AL' : LT} {b o : Nat} {S : GT} (h : MGs FI AI AL b o S) (w : gN S ≤ 7) (k : dfF AL AL' b) : MGs FI AI AL' b o S := by
  obtain ⟨h1, h2, h3, h4, h5⟩ := h
  refine ⟨h1, h2, h3, h4, fun g hg => ?_⟩
  obtain ⟨a1, a2, a3, a4⟩ := h5 g hg
  exact ⟨a1, by rw [k.2 _ (by omega) (by omega) (by omega) (by omega) (by omega)]; exact a2, a3, fun i hi => ⟨by rw [k.1 _ (by omega)]; exact (a4 i hi).1, (a4 i hi).2⟩⟩
