/-! ===== the law: each side's calls leave the other side's cells ===== -/
theorem MIv.fr {S : ST} {FI FI' AI AI' : FT} {AL AL' : LT} {b : Nat} (h : MIv S FI AI AL b) (k1 : FI' b = FI b) (k2 : ∀ k, k < 40 → AI' (b + k) = AI (b + k)) (k3 : ∀ k, k < 40 → AL' (b + k) = AL (b + k)) : MIv S FI' AI' AL' b := by
  obtain ⟨g, a1, a2, a3, a4, a5, a6⟩ := h.de
  have hmp : ∀ p, mp AL' b p = mp AL b p := fun p => by funext t; unfold mp; rw [k3 1 (by omega)]
  refine MIv.mk ?_ (by rw [k1]; exact a1) (fun s hs => by rw [hmp]; exact a2 s hs) (a3.tr (by rw [k1]) (by rw [k1]) (k2 19 (by omega)) (k3 18 (by omega))) (a4.tr (k2 37 (by omega)) (k2 38 (by omega)) (k2 39 (by omega))) (a5.tr (by rw [k1]) (k2 34 (by omega)) (k2 35 (by omega)) (k3 36 (by omega))) (a6.tr (by rw [k1]) (by rw [k1]) (by rw [k1]) (k2 13 (by omega)) (k2 15 (by omega)) (k3 2 (by omega)) (k3 14 (by omega)))
  unfold MGs MTb at g ⊢
  simp only [k1, k2 3 (by omega), k2 4 (by omega), k2 5 (by omega), k2 6 (by omega), k2 7 (by omega), k2 8 (by omega), k2 9 (by omega), k2 10 (by omega), k2 12 (by omega), k3 11 (by omega), hmp]
  exact g
theorem mfl_b : ∀ q ∈ mfl, q.2.1 < 40 := by decide
theorem MO.fr {X X' : XT} {b : Nat} (h : MO X b) (k : ∀ c, c < 40 → x_sh X' (b + c) = x_sh X (b + c)) (k0 : x_FR X' b = x_FR X b) : MO X' b := by
  have e0 : x_sh X' b = x_sh X b := k 0 (by omega)
  exact ⟨by rw [e0]; exact h.1, fun q hq => ⟨by rw [k0]; exact (h.2 q hq).1, by rw [k _ (mfl_b q hq)]; exact (h.2 q hq).2⟩⟩
theorem CIv.fm {C E lo : Nat} {S : ST} {X : XT} {FI FI' AI AI' : FT} {AL AL' : LT} (h : CIv C E S X FI AI AL lo) (hW : WS S) (k : fM FI FI' AI AI' AL AL' (lo + 110)) : CIv C E S X FI' AI' AL' lo := by
  obtain ⟨a1, a2, a3, a4, a5, a6, a7, a8, a9, a10, a11, a12⟩ := h
  have f : ∀ c, c < lo + 110 ∨ lo + 110 + 39 < c → FI' c = FI c := fun c hc => (k c hc).1
  have a : ∀ c, c < lo + 110 ∨ lo + 110 + 39 < c → AI' c = AI c := fun c hc => (k c hc).2.1
  have l : ∀ c, c < lo + 110 ∨ lo + 110 + 39 < c → AL' c = AL c := fun c hc => (k c hc).2.2
  have f0 := f lo (by omega)
  exact ⟨fun s hs => by rw [l _ (by omega)]; exact a1 s hs, a2.tr (f _ (by omega)) (a _ (by omega)), a3.tr (f _ (by omega)) (fun c h1 h2 => a c (by omega)) (fun c h1 h2 => l c (by omega)), a4.tr (a _ (by omega)) (a _ (by omega)), a5.tr (a _ (by omega)) (fun c h1 => l c (by omega)), a6.tr (by rw [f0]) (a _ (by omega)) (a _ (by omega)) (a _ (by omega)), a7.tr (by rw [f0]) (fun c h1 h2 => l c (by omega)), a8.tr (fun c h1 h2 => f c (by omega)) (fun c h1 h2 => a c (by omega)), a9.tr hW.2.2.2.2.2.1.1 (by rw [f0]) (fun c h1 h2 => f c (by omega)) (fun c h1 h2 => l c (by omega)), a10.tr (by rw [f0]) (fun c h1 h2 => f c (by omega)) (fun c h1 h2 => a c (by omega)) (fun c h1 h2 => l c (by omega)), a11.tr (fun c h1 => f c (by omega)) (fun c h1 => a c (by omega)) (fun c h1 => l c (by omega)), a12⟩
/-- both sides hold one state -/
def LI (C E : Nat) (S : ST) (X : XT) (FI AI : FT) (AL : LT) (lo : Nat) : Prop := CO X lo ∧ MO X (lo + 110) ∧ CIv C E S X FI AI AL lo ∧ MIv S FI AI AL (lo + 110) ∧ WS S ∧ NS S
theorem LI.m1 {S : ST} {X X' : XT} {FI FI' AI AI' : FT} {AL AL' : LT} {lo : Nat} (h : MO X (lo + 110)) (hI : MIv S FI AI AL (lo + 110)) (k : cF X X' FI FI' AI AI' AL AL' lo) : MO X' (lo + 110) ∧ MIv S FI' AI' AL' (lo + 110) :=
  ⟨h.fr (fun c hc => (k _ (by omega)).2.1) (k _ (by omega)).2.2.1, hI.fr (k _ (by omega)).1.1 (fun c hc => (k _ (by omega)).1.2.1) (fun c hc => (k _ (by omega)).1.2.2)⟩
/-- what is still wanted of both grids -/
def CGL : Prop := ∀ S, WS S → cgL (tG S)
