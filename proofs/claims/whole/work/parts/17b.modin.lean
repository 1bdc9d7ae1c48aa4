/-! ===== the reference is made: its rows ===== -/
def sA (AI : FT) (b : Nat) : FT := u2 (u2 (u2 (u2 AI (b + 37) 0 (-1)) (b + 37) 1 (-1)) (b + 37) 2 (-1)) (b + 37) 3 (-1)
theorem sA_o {AI : FT} {b c : Nat} (h : c ≠ b + 37) : sA AI b c = AI c := by
  unfold sA
  rw [u2_off _ _ _ h, u2_off _ _ _ h, u2_off _ _ _ h, u2_off _ _ _ h]
theorem sA_i {AI : FT} {b i : Nat} (h : i < 4) : sA AI b (b + 37) i = -1 := by
  unfold sA
  match i, h with
  | 0, _ => rw [u2_ix _ _ (by omega), u2_ix _ _ (by omega), u2_ix _ _ (by omega), u2_at]
  | 1, _ => rw [u2_ix _ _ (by omega), u2_ix _ _ (by omega), u2_at]
  | 2, _ => rw [u2_ix _ _ (by omega), u2_at]
  | 3, _ => rw [u2_at]
  | i + 4, h => omega
theorem mo_344 {V : GV} {d b : Nat} {X0 X : XT} {FI AI : FT} {AL : LT} (y : LY modLL X0 X b 40 mMo mk39 []) (hz : ZZ FI AI AL b) : G V m_Mod_init (d + 3) 344 [some (.ref b), none, none, none, none] [] X FI (sA AI b) AL (MP X0 FI (sA AI b) AL b) := by
  refine G_iconstN 0 345 d_Mod_init_344 rfl rfl ?_
  refine G_istore1 346 d_Mod_init_345 rfl (by decide) rfl ?_
  refine G_iconstN 0 347 d_Mod_init_346 rfl rfl ?_
  refine G_istore2 348 d_Mod_init_347 rfl (by decide) rfl ?_
  exact mo_348 y (by rw [hz.1 _ (Nat.le_refl _)]; rfl) 0 (Nat.zero_le _) (sA AI b) _ _ ⟨fun k hk => by have : eS 0 = 0 := rfl; omega, fun x y z _ h => by have : eS 0 = 0 := rfl; omega, fun _ _ _ _ _ => rfl⟩
theorem mo_335 {V : GV} {d b : Nat} {X0 X : XT} {FI AI : FT} {AL : LT} (y : LY modLL X0 X b 39 17416 mk38 []) (hz : ZZ FI AI AL b) : G V m_Mod_init (d + 3) 335 [some (.ref b), none, none, none, none] [] X FI (sA AI b) AL (MP X0 FI (sA AI b) AL b) := by
  refine G_aload0 336 d_Mod_init_335 rfl ?_
  refine G_sipushN 160 339 d_Mod_init_336 rfl rfl ?_
  refine G_newI0 160 341 d_Mod_init_339 rfl ac_int rfl (by omega) ((sA_o (by rw [y.1]; omega)).trans (hz.2.1 _ (by rw [y.1]; omega))) ?_
  have y1 := y.new (t := 0) (w := 160) rfl
  refine G_putX (x := some _) true 344 d_Mod_init_341 rfl f_Mod_127 rfl rfl (by intro C T N h; cases h; rfl) (fun _ => ⟨rfl, by intro C T N h; cases h; rfl⟩) (y1.shA 0 rfl (by omega) rfl) rfl rfl ?_
  have y2 := y1.put (c := 0) (j := 54) (v := 39) (a := b) (x := some (x_sz X)) rfl (congrArg some y.1) (by omega) (by decide)
  exact mo_344 y2 hz
theorem mo_328 {V : GV} {d b : Nat} {X0 X : XT} {FI AI : FT} {AL : LT} (y : LY modLL X0 X b 38 17412 mk37 []) (hz : ZZ FI AI AL b) : G V m_Mod_init (d + 3) 328 [some (.ref b), none, none, none, none] [] X FI (sA AI b) AL (MP X0 FI (sA AI b) AL b) := by
  refine G_aload0 329 d_Mod_init_328 rfl ?_
  refine G_iconstN 4 330 d_Mod_init_329 rfl rfl ?_
  refine G_newI0 4 332 d_Mod_init_330 rfl ac_int rfl (by omega) ((sA_o (by rw [y.1]; omega)).trans (hz.2.1 _ (by rw [y.1]; omega))) ?_
  have y1 := y.new (t := 0) (w := 4) rfl
  refine G_putX (x := some _) true 335 d_Mod_init_332 rfl f_Mod_124 rfl rfl (by intro C T N h; cases h; rfl) (fun _ => ⟨rfl, by intro C T N h; cases h; rfl⟩) (y1.shA 0 rfl (by omega) rfl) rfl rfl ?_
  have y2 := y1.put (c := 0) (j := 53) (v := 38) (a := b) (x := some (x_sz X)) rfl (congrArg some y.1) (by omega) (by decide)
  exact mo_335 y2 hz
theorem mo_305 {V : GV} {d b : Nat} {X0 X : XT} {FI AI : FT} {AL : LT} (y : LY modLL X0 X b 37 17408 mk36 []) (hz : ZZ FI AI AL b) : G V m_Mod_init (d + 3) 305 [some (.ref b), none, none, none, none] [] X FI AI AL (MP X0 FI (sA AI b) AL b) := by
  refine G_aload0 306 d_Mod_init_305 rfl ?_
  refine G_iconstN 4 307 d_Mod_init_306 rfl rfl ?_
  refine G_newI0 4 309 d_Mod_init_307 rfl ac_int rfl (by omega) (hz.2.1 _ (by rw [y.1]; omega)) ?_
  have y1 := y.new (t := 0) (w := 4) rfl
  have hs := y1.shA 37 y.1 (by omega) rfl
  refine G_dup 310 d_Mod_init_309 rfl rfl ?_
  refine G_iconstN 0 311 d_Mod_init_310 rfl rfl ?_
  refine G_iconst (-1) 312 d_Mod_init_311 rfl rfl ?_
  refine G_iastore 313 d_Mod_init_312 rfl hs (ix_nI (by omega) (by omega)) ?_
  refine G_dup 314 d_Mod_init_313 rfl rfl ?_
  refine G_iconstN 1 315 d_Mod_init_314 rfl rfl ?_
  refine G_iconst (-1) 316 d_Mod_init_315 rfl rfl ?_
  refine G_iastore 317 d_Mod_init_316 rfl hs (ix_nI (by omega) (by omega)) ?_
  refine G_dup 318 d_Mod_init_317 rfl rfl ?_
  refine G_iconstN 2 319 d_Mod_init_318 rfl rfl ?_
  refine G_iconst (-1) 320 d_Mod_init_319 rfl rfl ?_
  refine G_iastore 321 d_Mod_init_320 rfl hs (ix_nI (by omega) (by omega)) ?_
  refine G_dup 322 d_Mod_init_321 rfl rfl ?_
  refine G_iconstN 3 323 d_Mod_init_322 rfl rfl ?_
  refine G_iconst (-1) 324 d_Mod_init_323 rfl rfl ?_
  refine G_iastore 325 d_Mod_init_324 rfl hs (ix_nI (by omega) (by omega)) ?_
  rw [show u2 (u2 (u2 (u2 AI (x_sz X) 0 (-1)) (x_sz X) 1 (-1)) (x_sz X) 2 (-1)) (x_sz X) 3 (-1) = sA AI b by rw [y.1]; rfl]
  refine G_putX (x := some _) true 328 d_Mod_init_325 rfl f_Mod_121 rfl rfl (by intro C T N h; cases h; rfl) (fun _ => ⟨rfl, by intro C T N h; cases h; rfl⟩) (y1.shA 0 rfl (by omega) rfl) rfl rfl ?_
  have y2 := y1.put (c := 0) (j := 52) (v := 37) (a := b) (x := some (x_sz X)) rfl (congrArg some y.1) (by omega) (by decide)
  exact mo_328 y2 hz
theorem mo_296 {V : GV} {d b : Nat} {X0 X : XT} {FI AI : FT} {AL : LT} (y : LY modLL X0 X b 36 16736 mk35 []) (hz : ZZ FI AI AL b) : G V m_Mod_init (d + 3) 296 [some (.ref b), none, none, none, none] [] X FI AI AL (MP X0 FI (sA AI b) AL b) := by
  refine G_aload0 297 d_Mod_init_296 rfl ?_
  refine G_sipushN 672 300 d_Mod_init_297 rfl rfl ?_
  refine G_newL0 672 302 d_Mod_init_300 rfl ac_long rfl (by omega) (hz.2.2 _ (by rw [y.1]; omega)) ?_
  have y1 := y.new (t := 1) (w := 672) rfl
  refine G_putX (x := some _) true 305 d_Mod_init_302 rfl f_Mod_118 rfl rfl (by intro C T N h; cases h; rfl) (fun _ => ⟨rfl, by intro C T N h; cases h; rfl⟩) (y1.shA 0 rfl (by omega) rfl) rfl rfl ?_
  have y2 := y1.put (c := 0) (j := 51) (v := 36) (a := b) (x := some (x_sz X)) rfl (congrArg some y.1) (by omega) (by decide)
  exact mo_305 y2 hz
theorem mo_288 {V : GV} {d b : Nat} {X0 X : XT} {FI AI : FT} {AL : LT} (y : LY modLL X0 X b 35 16728 mk34 []) (hz : ZZ FI AI AL b) : G V m_Mod_init (d + 3) 288 [some (.ref b), none, none, none, none] [] X FI AI AL (MP X0 FI (sA AI b) AL b) := by
  refine G_aload0 289 d_Mod_init_288 rfl ?_
  refine G_bipushN 8 291 d_Mod_init_289 rfl rfl ?_
  refine G_newI0 8 293 d_Mod_init_291 rfl ac_int rfl (by omega) (hz.2.1 _ (by rw [y.1]; omega)) ?_
  have y1 := y.new (t := 0) (w := 8) rfl
  refine G_putX (x := some _) true 296 d_Mod_init_293 rfl f_Mod_115 rfl rfl (by intro C T N h; cases h; rfl) (fun _ => ⟨rfl, by intro C T N h; cases h; rfl⟩) (y1.shA 0 rfl (by omega) rfl) rfl rfl ?_
  have y2 := y1.put (c := 0) (j := 50) (v := 35) (a := b) (x := some (x_sz X)) rfl (congrArg some y.1) (by omega) (by decide)
  exact mo_296 y2 hz
theorem mo_280 {V : GV} {d b : Nat} {X0 X : XT} {FI AI : FT} {AL : LT} (y : LY modLL X0 X b 34 16720 mk33 []) (hz : ZZ FI AI AL b) : G V m_Mod_init (d + 3) 280 [some (.ref b), none, none, none, none] [] X FI AI AL (MP X0 FI (sA AI b) AL b) := by
  refine G_aload0 281 d_Mod_init_280 rfl ?_
  refine G_bipushN 8 283 d_Mod_init_281 rfl rfl ?_
  refine G_newI0 8 285 d_Mod_init_283 rfl ac_int rfl (by omega) (hz.2.1 _ (by rw [y.1]; omega)) ?_
  have y1 := y.new (t := 0) (w := 8) rfl
  refine G_putX (x := some _) true 288 d_Mod_init_285 rfl f_Mod_112 rfl rfl (by intro C T N h; cases h; rfl) (fun _ => ⟨rfl, by intro C T N h; cases h; rfl⟩) (y1.shA 0 rfl (by omega) rfl) rfl rfl ?_
  have y2 := y1.put (c := 0) (j := 49) (v := 34) (a := b) (x := some (x_sz X)) rfl (congrArg some y.1) (by omega) (by decide)
  exact mo_288 y2 hz
theorem mo_272 {V : GV} {d b : Nat} {X0 X : XT} {FI AI : FT} {AL : LT} (y : LY modLL X0 X b 33 16713 mk32 []) (hz : ZZ FI AI AL b) : G V m_Mod_init (d + 3) 272 [some (.ref b), none, none, none, none] [] X FI AI AL (MP X0 FI (sA AI b) AL b) := by
  refine G_aload0 273 d_Mod_init_272 rfl ?_
  refine G_bipushN 7 275 d_Mod_init_273 rfl rfl ?_
  refine G_newL0 7 277 d_Mod_init_275 rfl ac_long rfl (by omega) (hz.2.2 _ (by rw [y.1]; omega)) ?_
  have y1 := y.new (t := 1) (w := 7) rfl
  refine G_putX (x := some _) true 280 d_Mod_init_277 rfl f_Mod_109 rfl rfl (by intro C T N h; cases h; rfl) (fun _ => ⟨rfl, by intro C T N h; cases h; rfl⟩) (y1.shA 0 rfl (by omega) rfl) rfl rfl ?_
  have y2 := y1.put (c := 0) (j := 47) (v := 33) (a := b) (x := some (x_sz X)) rfl (congrArg some y.1) (by omega) (by decide)
  exact mo_280 y2 hz
theorem mo_264 {V : GV} {d b : Nat} {X0 X : XT} {FI AI : FT} {AL : LT} (y : LY modLL X0 X b 32 16706 mk31 []) (hz : ZZ FI AI AL b) : G V m_Mod_init (d + 3) 264 [some (.ref b), none, none, none, none] [] X FI AI AL (MP X0 FI (sA AI b) AL b) := by
  refine G_aload0 265 d_Mod_init_264 rfl ?_
  refine G_bipushN 7 267 d_Mod_init_265 rfl rfl ?_
  refine G_newI0 7 269 d_Mod_init_267 rfl ac_int rfl (by omega) (hz.2.1 _ (by rw [y.1]; omega)) ?_
  have y1 := y.new (t := 0) (w := 7) rfl
  refine G_putX (x := some _) true 272 d_Mod_init_269 rfl f_Mod_106 rfl rfl (by intro C T N h; cases h; rfl) (fun _ => ⟨rfl, by intro C T N h; cases h; rfl⟩) (y1.shA 0 rfl (by omega) rfl) rfl rfl ?_
  have y2 := y1.put (c := 0) (j := 45) (v := 32) (a := b) (x := some (x_sz X)) rfl (congrArg some y.1) (by omega) (by decide)
  exact mo_272 y2 hz
theorem mo_256 {V : GV} {d b : Nat} {X0 X : XT} {FI AI : FT} {AL : LT} (y : LY modLL X0 X b 31 16657 mk30 []) (hz : ZZ FI AI AL b) : G V m_Mod_init (d + 3) 256 [some (.ref b), none, none, none, none] [] X FI AI AL (MP X0 FI (sA AI b) AL b) := by
  refine G_aload0 257 d_Mod_init_256 rfl ?_
  refine G_bipushN 49 259 d_Mod_init_257 rfl rfl ?_
  refine G_newL0 49 261 d_Mod_init_259 rfl ac_long rfl (by omega) (hz.2.2 _ (by rw [y.1]; omega)) ?_
  have y1 := y.new (t := 1) (w := 49) rfl
  refine G_putX (x := some _) true 264 d_Mod_init_261 rfl f_Mod_103 rfl rfl (by intro C T N h; cases h; rfl) (fun _ => ⟨rfl, by intro C T N h; cases h; rfl⟩) (y1.shA 0 rfl (by omega) rfl) rfl rfl ?_
  have y2 := y1.put (c := 0) (j := 44) (v := 31) (a := b) (x := some (x_sz X)) rfl (congrArg some y.1) (by omega) (by decide)
  exact mo_264 y2 hz
theorem mo_248 {V : GV} {d b : Nat} {X0 X : XT} {FI AI : FT} {AL : LT} (y : LY modLL X0 X b 30 16587 mk29 []) (hz : ZZ FI AI AL b) : G V m_Mod_init (d + 3) 248 [some (.ref b), none, none, none, none] [] X FI AI AL (MP X0 FI (sA AI b) AL b) := by
  refine G_aload0 249 d_Mod_init_248 rfl ?_
  refine G_bipushN 70 251 d_Mod_init_249 rfl rfl ?_
  refine G_newL0 70 253 d_Mod_init_251 rfl ac_long rfl (by omega) (hz.2.2 _ (by rw [y.1]; omega)) ?_
  have y1 := y.new (t := 1) (w := 70) rfl
  refine G_putX (x := some _) true 256 d_Mod_init_253 rfl f_Mod_100 rfl rfl (by intro C T N h; cases h; rfl) (fun _ => ⟨rfl, by intro C T N h; cases h; rfl⟩) (y1.shA 0 rfl (by omega) rfl) rfl rfl ?_
  have y2 := y1.put (c := 0) (j := 43) (v := 30) (a := b) (x := some (x_sz X)) rfl (congrArg some y.1) (by omega) (by decide)
  exact mo_256 y2 hz
theorem mo_239 {V : GV} {d b : Nat} {X0 X : XT} {FI AI : FT} {AL : LT} (y : LY modLL X0 X b 29 15691 mk28 []) (hz : ZZ FI AI AL b) : G V m_Mod_init (d + 3) 239 [some (.ref b), none, none, none, none] [] X FI AI AL (MP X0 FI (sA AI b) AL b) := by
  refine G_aload0 240 d_Mod_init_239 rfl ?_
  refine G_sipushN 896 243 d_Mod_init_240 rfl rfl ?_
  refine G_newI0 896 245 d_Mod_init_243 rfl ac_int rfl (by omega) (hz.2.1 _ (by rw [y.1]; omega)) ?_
  have y1 := y.new (t := 0) (w := 896) rfl
  refine G_putX (x := some _) true 248 d_Mod_init_245 rfl f_Mod_97 rfl rfl (by intro C T N h; cases h; rfl) (fun _ => ⟨rfl, by intro C T N h; cases h; rfl⟩) (y1.shA 0 rfl (by omega) rfl) rfl rfl ?_
  have y2 := y1.put (c := 0) (j := 41) (v := 29) (a := b) (x := some (x_sz X)) rfl (congrArg some y.1) (by omega) (by decide)
  exact mo_248 y2 hz
theorem mo_230 {V : GV} {d b : Nat} {X0 X : XT} {FI AI : FT} {AL : LT} (y : LY modLL X0 X b 28 15563 mk27 []) (hz : ZZ FI AI AL b) : G V m_Mod_init (d + 3) 230 [some (.ref b), none, none, none, none] [] X FI AI AL (MP X0 FI (sA AI b) AL b) := by
  refine G_aload0 231 d_Mod_init_230 rfl ?_
  refine G_sipushN 128 234 d_Mod_init_231 rfl rfl ?_
  refine G_newI0 128 236 d_Mod_init_234 rfl ac_int rfl (by omega) (hz.2.1 _ (by rw [y.1]; omega)) ?_
  have y1 := y.new (t := 0) (w := 128) rfl
  refine G_putX (x := some _) true 239 d_Mod_init_236 rfl f_Mod_94 rfl rfl (by intro C T N h; cases h; rfl) (fun _ => ⟨rfl, by intro C T N h; cases h; rfl⟩) (y1.shA 0 rfl (by omega) rfl) rfl rfl ?_
  have y2 := y1.put (c := 0) (j := 40) (v := 28) (a := b) (x := some (x_sz X)) rfl (congrArg some y.1) (by omega) (by decide)
  exact mo_239 y2 hz
theorem mo_222 {V : GV} {d b : Nat} {X0 X : XT} {FI AI : FT} {AL : LT} (y : LY modLL X0 X b 27 15528 mk26 []) (hz : ZZ FI AI AL b) : G V m_Mod_init (d + 3) 222 [some (.ref b), none, none, none, none] [] X FI AI AL (MP X0 FI (sA AI b) AL b) := by
  refine G_aload0 223 d_Mod_init_222 rfl ?_
  refine G_bipushN 35 225 d_Mod_init_223 rfl rfl ?_
  refine G_newI0 35 227 d_Mod_init_225 rfl ac_int rfl (by omega) (hz.2.1 _ (by rw [y.1]; omega)) ?_
  have y1 := y.new (t := 0) (w := 35) rfl
  refine G_putX (x := some _) true 230 d_Mod_init_227 rfl f_Mod_91 rfl rfl (by intro C T N h; cases h; rfl) (fun _ => ⟨rfl, by intro C T N h; cases h; rfl⟩) (y1.shA 0 rfl (by omega) rfl) rfl rfl ?_
  have y2 := y1.put (c := 0) (j := 36) (v := 27) (a := b) (x := some (x_sz X)) rfl (congrArg some y.1) (by omega) (by decide)
  exact mo_230 y2 hz
theorem mo_214 {V : GV} {d b : Nat} {X0 X : XT} {FI AI : FT} {AL : LT} (y : LY modLL X0 X b 26 15521 mk25 []) (hz : ZZ FI AI AL b) : G V m_Mod_init (d + 3) 214 [some (.ref b), none, none, none, none] [] X FI AI AL (MP X0 FI (sA AI b) AL b) := by
  refine G_aload0 215 d_Mod_init_214 rfl ?_
  refine G_bipushN 7 217 d_Mod_init_215 rfl rfl ?_
  refine G_newI0 7 219 d_Mod_init_217 rfl ac_int rfl (by omega) (hz.2.1 _ (by rw [y.1]; omega)) ?_
  have y1 := y.new (t := 0) (w := 7) rfl
  refine G_putX (x := some _) true 222 d_Mod_init_219 rfl f_Mod_88 rfl rfl (by intro C T N h; cases h; rfl) (fun _ => ⟨rfl, by intro C T N h; cases h; rfl⟩) (y1.shA 0 rfl (by omega) rfl) rfl rfl ?_
  have y2 := y1.put (c := 0) (j := 35) (v := 26) (a := b) (x := some (x_sz X)) rfl (congrArg some y.1) (by omega) (by decide)
  exact mo_222 y2 hz
theorem mo_206 {V : GV} {d b : Nat} {X0 X : XT} {FI AI : FT} {AL : LT} (y : LY modLL X0 X b 25 15513 mk24 []) (hz : ZZ FI AI AL b) : G V m_Mod_init (d + 3) 206 [some (.ref b), none, none, none, none] [] X FI AI AL (MP X0 FI (sA AI b) AL b) := by
  refine G_aload0 207 d_Mod_init_206 rfl ?_
  refine G_bipushN 8 209 d_Mod_init_207 rfl rfl ?_
  refine G_newI0 8 211 d_Mod_init_209 rfl ac_int rfl (by omega) (hz.2.1 _ (by rw [y.1]; omega)) ?_
  have y1 := y.new (t := 0) (w := 8) rfl
  refine G_putX (x := some _) true 214 d_Mod_init_211 rfl f_Mod_85 rfl rfl (by intro C T N h; cases h; rfl) (fun _ => ⟨rfl, by intro C T N h; cases h; rfl⟩) (y1.shA 0 rfl (by omega) rfl) rfl rfl ?_
  have y2 := y1.put (c := 0) (j := 34) (v := 25) (a := b) (x := some (x_sz X)) rfl (congrArg some y.1) (by omega) (by decide)
  exact mo_214 y2 hz
theorem mo_198 {V : GV} {d b : Nat} {X0 X : XT} {FI AI : FT} {AL : LT} (y : LY modLL X0 X b 24 15505 mk23 []) (hz : ZZ FI AI AL b) : G V m_Mod_init (d + 3) 198 [some (.ref b), none, none, none, none] [] X FI AI AL (MP X0 FI (sA AI b) AL b) := by
  refine G_aload0 199 d_Mod_init_198 rfl ?_
  refine G_bipushN 8 201 d_Mod_init_199 rfl rfl ?_
  refine G_newI0 8 203 d_Mod_init_201 rfl ac_int rfl (by omega) (hz.2.1 _ (by rw [y.1]; omega)) ?_
  have y1 := y.new (t := 0) (w := 8) rfl
  refine G_putX (x := some _) true 206 d_Mod_init_203 rfl f_Mod_82 rfl rfl (by intro C T N h; cases h; rfl) (fun _ => ⟨rfl, by intro C T N h; cases h; rfl⟩) (y1.shA 0 rfl (by omega) rfl) rfl rfl ?_
  have y2 := y1.put (c := 0) (j := 33) (v := 24) (a := b) (x := some (x_sz X)) rfl (congrArg some y.1) (by omega) (by decide)
  exact mo_206 y2 hz
theorem mo_190 {V : GV} {d b : Nat} {X0 X : XT} {FI AI : FT} {AL : LT} (y : LY modLL X0 X b 23 15497 mk22 []) (hz : ZZ FI AI AL b) : G V m_Mod_init (d + 3) 190 [some (.ref b), none, none, none, none] [] X FI AI AL (MP X0 FI (sA AI b) AL b) := by
  refine G_aload0 191 d_Mod_init_190 rfl ?_
  refine G_bipushN 8 193 d_Mod_init_191 rfl rfl ?_
  refine G_newI0 8 195 d_Mod_init_193 rfl ac_int rfl (by omega) (hz.2.1 _ (by rw [y.1]; omega)) ?_
  have y1 := y.new (t := 0) (w := 8) rfl
  refine G_putX (x := some _) true 198 d_Mod_init_195 rfl f_Mod_79 rfl rfl (by intro C T N h; cases h; rfl) (fun _ => ⟨rfl, by intro C T N h; cases h; rfl⟩) (y1.shA 0 rfl (by omega) rfl) rfl rfl ?_
  have y2 := y1.put (c := 0) (j := 32) (v := 23) (a := b) (x := some (x_sz X)) rfl (congrArg some y.1) (by omega) (by decide)
  exact mo_198 y2 hz
theorem mo_181 {V : GV} {d b : Nat} {X0 X : XT} {FI AI : FT} {AL : LT} (y : LY modLL X0 X b 22 14601 mk21 []) (hz : ZZ FI AI AL b) : G V m_Mod_init (d + 3) 181 [some (.ref b), none, none, none, none] [] X FI AI AL (MP X0 FI (sA AI b) AL b) := by
  refine G_aload0 182 d_Mod_init_181 rfl ?_
  refine G_sipushN 896 185 d_Mod_init_182 rfl rfl ?_
  refine G_newI0 896 187 d_Mod_init_185 rfl ac_int rfl (by omega) (hz.2.1 _ (by rw [y.1]; omega)) ?_
  have y1 := y.new (t := 0) (w := 896) rfl
  refine G_putX (x := some _) true 190 d_Mod_init_187 rfl f_Mod_76 rfl rfl (by intro C T N h; cases h; rfl) (fun _ => ⟨rfl, by intro C T N h; cases h; rfl⟩) (y1.shA 0 rfl (by omega) rfl) rfl rfl ?_
  have y2 := y1.put (c := 0) (j := 31) (v := 22) (a := b) (x := some (x_sz X)) rfl (congrArg some y.1) (by omega) (by decide)
  exact mo_190 y2 hz
theorem mo_173 {V : GV} {d b : Nat} {X0 X : XT} {FI AI : FT} {AL : LT} (y : LY modLL X0 X b 21 14594 mk20 []) (hz : ZZ FI AI AL b) : G V m_Mod_init (d + 3) 173 [some (.ref b), none, none, none, none] [] X FI AI AL (MP X0 FI (sA AI b) AL b) := by
  refine G_aload0 174 d_Mod_init_173 rfl ?_
  refine G_bipushN 7 176 d_Mod_init_174 rfl rfl ?_
  refine G_newL0 7 178 d_Mod_init_176 rfl ac_long rfl (by omega) (hz.2.2 _ (by rw [y.1]; omega)) ?_
  have y1 := y.new (t := 1) (w := 7) rfl
  refine G_putX (x := some _) true 181 d_Mod_init_178 rfl f_Mod_73 rfl rfl (by intro C T N h; cases h; rfl) (fun _ => ⟨rfl, by intro C T N h; cases h; rfl⟩) (y1.shA 0 rfl (by omega) rfl) rfl rfl ?_
  have y2 := y1.put (c := 0) (j := 29) (v := 21) (a := b) (x := some (x_sz X)) rfl (congrArg some y.1) (by omega) (by decide)
  exact mo_181 y2 hz
theorem mo_165 {V : GV} {d b : Nat} {X0 X : XT} {FI AI : FT} {AL : LT} (y : LY modLL X0 X b 20 14587 mk19 []) (hz : ZZ FI AI AL b) : G V m_Mod_init (d + 3) 165 [some (.ref b), none, none, none, none] [] X FI AI AL (MP X0 FI (sA AI b) AL b) := by
  refine G_aload0 166 d_Mod_init_165 rfl ?_
  refine G_bipushN 7 168 d_Mod_init_166 rfl rfl ?_
  refine G_newI0 7 170 d_Mod_init_168 rfl ac_int rfl (by omega) (hz.2.1 _ (by rw [y.1]; omega)) ?_
  have y1 := y.new (t := 0) (w := 7) rfl
  refine G_putX (x := some _) true 173 d_Mod_init_170 rfl f_Mod_70 rfl rfl (by intro C T N h; cases h; rfl) (fun _ => ⟨rfl, by intro C T N h; cases h; rfl⟩) (y1.shA 0 rfl (by omega) rfl) rfl rfl ?_
  have y2 := y1.put (c := 0) (j := 28) (v := 20) (a := b) (x := some (x_sz X)) rfl (congrArg some y.1) (by omega) (by decide)
  exact mo_173 y2 hz
theorem mo_156 {V : GV} {d b : Nat} {X0 X : XT} {FI AI : FT} {AL : LT} (y : LY modLL X0 X b 19 13999 mk18 []) (hz : ZZ FI AI AL b) : G V m_Mod_init (d + 3) 156 [some (.ref b), none, none, none, none] [] X FI AI AL (MP X0 FI (sA AI b) AL b) := by
  refine G_aload0 157 d_Mod_init_156 rfl ?_
  refine G_sipushN 588 160 d_Mod_init_157 rfl rfl ?_
  refine G_newI0 588 162 d_Mod_init_160 rfl ac_int rfl (by omega) (hz.2.1 _ (by rw [y.1]; omega)) ?_
  have y1 := y.new (t := 0) (w := 588) rfl
  refine G_putX (x := some _) true 165 d_Mod_init_162 rfl f_Mod_67 rfl rfl (by intro C T N h; cases h; rfl) (fun _ => ⟨rfl, by intro C T N h; cases h; rfl⟩) (y1.shA 0 rfl (by omega) rfl) rfl rfl ?_
  have y2 := y1.put (c := 0) (j := 26) (v := 19) (a := b) (x := some (x_sz X)) rfl (congrArg some y.1) (by omega) (by decide)
  exact mo_165 y2 hz
theorem mo_148 {V : GV} {d b : Nat} {X0 X : XT} {FI AI : FT} {AL : LT} (y : LY modLL X0 X b 18 13915 mk17 []) (hz : ZZ FI AI AL b) : G V m_Mod_init (d + 3) 148 [some (.ref b), none, none, none, none] [] X FI AI AL (MP X0 FI (sA AI b) AL b) := by
  refine G_aload0 149 d_Mod_init_148 rfl ?_
  refine G_bipushN 84 151 d_Mod_init_149 rfl rfl ?_
  refine G_newL0 84 153 d_Mod_init_151 rfl ac_long rfl (by omega) (hz.2.2 _ (by rw [y.1]; omega)) ?_
  have y1 := y.new (t := 1) (w := 84) rfl
  refine G_putX (x := some _) true 156 d_Mod_init_153 rfl f_Mod_64 rfl rfl (by intro C T N h; cases h; rfl) (fun _ => ⟨rfl, by intro C T N h; cases h; rfl⟩) (y1.shA 0 rfl (by omega) rfl) rfl rfl ?_
  have y2 := y1.put (c := 0) (j := 25) (v := 18) (a := b) (x := some (x_sz X)) rfl (congrArg some y.1) (by omega) (by decide)
  exact mo_156 y2 hz
theorem mo_139 {V : GV} {d b : Nat} {X0 X : XT} {FI AI : FT} {AL : LT} (y : LY modLL X0 X b 17 13327 mk16 []) (hz : ZZ FI AI AL b) : G V m_Mod_init (d + 3) 139 [some (.ref b), none, none, none, none] [] X FI AI AL (MP X0 FI (sA AI b) AL b) := by
  refine G_aload0 140 d_Mod_init_139 rfl ?_
  refine G_sipushN 588 143 d_Mod_init_140 rfl rfl ?_
  refine G_newI0 588 145 d_Mod_init_143 rfl ac_int rfl (by omega) (hz.2.1 _ (by rw [y.1]; omega)) ?_
  have y1 := y.new (t := 0) (w := 588) rfl
  refine G_putX (x := some _) true 148 d_Mod_init_145 rfl f_Mod_61 rfl rfl (by intro C T N h; cases h; rfl) (fun _ => ⟨rfl, by intro C T N h; cases h; rfl⟩) (y1.shA 0 rfl (by omega) rfl) rfl rfl ?_
  have y2 := y1.put (c := 0) (j := 22) (v := 17) (a := b) (x := some (x_sz X)) rfl (congrArg some y.1) (by omega) (by decide)
  exact mo_148 y2 hz
theorem mo_131 {V : GV} {d b : Nat} {X0 X : XT} {FI AI : FT} {AL : LT} (y : LY modLL X0 X b 16 13243 mk15 []) (hz : ZZ FI AI AL b) : G V m_Mod_init (d + 3) 131 [some (.ref b), none, none, none, none] [] X FI AI AL (MP X0 FI (sA AI b) AL b) := by
  refine G_aload0 132 d_Mod_init_131 rfl ?_
  refine G_bipushN 84 134 d_Mod_init_132 rfl rfl ?_
  refine G_newL0 84 136 d_Mod_init_134 rfl ac_long rfl (by omega) (hz.2.2 _ (by rw [y.1]; omega)) ?_
  have y1 := y.new (t := 1) (w := 84) rfl
  refine G_putX (x := some _) true 139 d_Mod_init_136 rfl f_Mod_58 rfl rfl (by intro C T N h; cases h; rfl) (fun _ => ⟨rfl, by intro C T N h; cases h; rfl⟩) (y1.shA 0 rfl (by omega) rfl) rfl rfl ?_
  have y2 := y1.put (c := 0) (j := 21) (v := 16) (a := b) (x := some (x_sz X)) rfl (congrArg some y.1) (by omega) (by decide)
  exact mo_139 y2 hz
theorem mo_122 {V : GV} {d b : Nat} {X0 X : XT} {FI AI : FT} {AL : LT} (y : LY modLL X0 X b 15 9029 mk14 []) (hz : ZZ FI AI AL b) : G V m_Mod_init (d + 3) 122 [some (.ref b), none, none, none, none] [] X FI AI AL (MP X0 FI (sA AI b) AL b) := by
  refine G_aload0 123 d_Mod_init_122 rfl ?_
  refine G_sipushN 4214 126 d_Mod_init_123 rfl rfl ?_
  refine G_newI0 4214 128 d_Mod_init_126 rfl ac_int rfl (by omega) (hz.2.1 _ (by rw [y.1]; omega)) ?_
  have y1 := y.new (t := 0) (w := 4214) rfl
  refine G_putX (x := some _) true 131 d_Mod_init_128 rfl f_Mod_55 rfl rfl (by intro C T N h; cases h; rfl) (fun _ => ⟨rfl, by intro C T N h; cases h; rfl⟩) (y1.shA 0 rfl (by omega) rfl) rfl rfl ?_
  have y2 := y1.put (c := 0) (j := 16) (v := 15) (a := b) (x := some (x_sz X)) rfl (congrArg some y.1) (by omega) (by decide)
  exact mo_131 y2 hz
theorem mo_113 {V : GV} {d b : Nat} {X0 X : XT} {FI AI : FT} {AL : LT} (y : LY modLL X0 X b 14 8427 mk13 []) (hz : ZZ FI AI AL b) : G V m_Mod_init (d + 3) 113 [some (.ref b), none, none, none, none] [] X FI AI AL (MP X0 FI (sA AI b) AL b) := by
  refine G_aload0 114 d_Mod_init_113 rfl ?_
  refine G_sipushN 602 117 d_Mod_init_114 rfl rfl ?_
  refine G_newL0 602 119 d_Mod_init_117 rfl ac_long rfl (by omega) (hz.2.2 _ (by rw [y.1]; omega)) ?_
  have y1 := y.new (t := 1) (w := 602) rfl
  refine G_putX (x := some _) true 122 d_Mod_init_119 rfl f_Mod_52 rfl rfl (by intro C T N h; cases h; rfl) (fun _ => ⟨rfl, by intro C T N h; cases h; rfl⟩) (y1.shA 0 rfl (by omega) rfl) rfl rfl ?_
  have y2 := y1.put (c := 0) (j := 15) (v := 14) (a := b) (x := some (x_sz X)) rfl (congrArg some y.1) (by omega) (by decide)
  exact mo_122 y2 hz
theorem mo_105 {V : GV} {d b : Nat} {X0 X : XT} {FI AI : FT} {AL : LT} (y : LY modLL X0 X b 13 8420 mk12 []) (hz : ZZ FI AI AL b) : G V m_Mod_init (d + 3) 105 [some (.ref b), none, none, none, none] [] X FI AI AL (MP X0 FI (sA AI b) AL b) := by
  refine G_aload0 106 d_Mod_init_105 rfl ?_
  refine G_bipushN 7 108 d_Mod_init_106 rfl rfl ?_
  refine G_newI0 7 110 d_Mod_init_108 rfl ac_int rfl (by omega) (hz.2.1 _ (by rw [y.1]; omega)) ?_
  have y1 := y.new (t := 0) (w := 7) rfl
  refine G_putX (x := some _) true 113 d_Mod_init_110 rfl f_Mod_49 rfl rfl (by intro C T N h; cases h; rfl) (fun _ => ⟨rfl, by intro C T N h; cases h; rfl⟩) (y1.shA 0 rfl (by omega) rfl) rfl rfl ?_
  have y2 := y1.put (c := 0) (j := 14) (v := 13) (a := b) (x := some (x_sz X)) rfl (congrArg some y.1) (by omega) (by decide)
  exact mo_113 y2 hz
theorem mo_96 {V : GV} {d b : Nat} {X0 X : XT} {FI AI : FT} {AL : LT} (y : LY modLL X0 X b 12 4206 mk11 []) (hz : ZZ FI AI AL b) : G V m_Mod_init (d + 3) 96 [some (.ref b), none, none, none, none] [] X FI AI AL (MP X0 FI (sA AI b) AL b) := by
  refine G_aload0 97 d_Mod_init_96 rfl ?_
  refine G_sipushN 4214 100 d_Mod_init_97 rfl rfl ?_
  refine G_newI0 4214 102 d_Mod_init_100 rfl ac_int rfl (by omega) (hz.2.1 _ (by rw [y.1]; omega)) ?_
  have y1 := y.new (t := 0) (w := 4214) rfl
  refine G_putX (x := some _) true 105 d_Mod_init_102 rfl f_Mod_46 rfl rfl (by intro C T N h; cases h; rfl) (fun _ => ⟨rfl, by intro C T N h; cases h; rfl⟩) (y1.shA 0 rfl (by omega) rfl) rfl rfl ?_
  have y2 := y1.put (c := 0) (j := 13) (v := 12) (a := b) (x := some (x_sz X)) rfl (congrArg some y.1) (by omega) (by decide)
  exact mo_105 y2 hz
theorem mo_87 {V : GV} {d b : Nat} {X0 X : XT} {FI AI : FT} {AL : LT} (y : LY modLL X0 X b 11 3604 mk10 []) (hz : ZZ FI AI AL b) : G V m_Mod_init (d + 3) 87 [some (.ref b), none, none, none, none] [] X FI AI AL (MP X0 FI (sA AI b) AL b) := by
  refine G_aload0 88 d_Mod_init_87 rfl ?_
  refine G_sipushN 602 91 d_Mod_init_88 rfl rfl ?_
  refine G_newL0 602 93 d_Mod_init_91 rfl ac_long rfl (by omega) (hz.2.2 _ (by rw [y.1]; omega)) ?_
  have y1 := y.new (t := 1) (w := 602) rfl
  refine G_putX (x := some _) true 96 d_Mod_init_93 rfl f_Mod_43 rfl rfl (by intro C T N h; cases h; rfl) (fun _ => ⟨rfl, by intro C T N h; cases h; rfl⟩) (y1.shA 0 rfl (by omega) rfl) rfl rfl ?_
  have y2 := y1.put (c := 0) (j := 12) (v := 11) (a := b) (x := some (x_sz X)) rfl (congrArg some y.1) (by omega) (by decide)
  exact mo_96 y2 hz
theorem mo_79 {V : GV} {d b : Nat} {X0 X : XT} {FI AI : FT} {AL : LT} (y : LY modLL X0 X b 10 3597 mk9 []) (hz : ZZ FI AI AL b) : G V m_Mod_init (d + 3) 79 [some (.ref b), none, none, none, none] [] X FI AI AL (MP X0 FI (sA AI b) AL b) := by
  refine G_aload0 80 d_Mod_init_79 rfl ?_
  refine G_bipushN 7 82 d_Mod_init_80 rfl rfl ?_
  refine G_newI0 7 84 d_Mod_init_82 rfl ac_int rfl (by omega) (hz.2.1 _ (by rw [y.1]; omega)) ?_
  have y1 := y.new (t := 0) (w := 7) rfl
  refine G_putX (x := some _) true 87 d_Mod_init_84 rfl f_Mod_40 rfl rfl (by intro C T N h; cases h; rfl) (fun _ => ⟨rfl, by intro C T N h; cases h; rfl⟩) (y1.shA 0 rfl (by omega) rfl) rfl rfl ?_
  have y2 := y1.put (c := 0) (j := 11) (v := 10) (a := b) (x := some (x_sz X)) rfl (congrArg some y.1) (by omega) (by decide)
  exact mo_87 y2 hz
theorem mo_71 {V : GV} {d b : Nat} {X0 X : XT} {FI AI : FT} {AL : LT} (y : LY modLL X0 X b 9 3590 mk8 []) (hz : ZZ FI AI AL b) : G V m_Mod_init (d + 3) 71 [some (.ref b), none, none, none, none] [] X FI AI AL (MP X0 FI (sA AI b) AL b) := by
  refine G_aload0 72 d_Mod_init_71 rfl ?_
  refine G_bipushN 7 74 d_Mod_init_72 rfl rfl ?_
  refine G_newI0 7 76 d_Mod_init_74 rfl ac_int rfl (by omega) (hz.2.1 _ (by rw [y.1]; omega)) ?_
  have y1 := y.new (t := 0) (w := 7) rfl
  refine G_putX (x := some _) true 79 d_Mod_init_76 rfl f_Mod_37 rfl rfl (by intro C T N h; cases h; rfl) (fun _ => ⟨rfl, by intro C T N h; cases h; rfl⟩) (y1.shA 0 rfl (by omega) rfl) rfl rfl ?_
  have y2 := y1.put (c := 0) (j := 10) (v := 9) (a := b) (x := some (x_sz X)) rfl (congrArg some y.1) (by omega) (by decide)
  exact mo_79 y2 hz
theorem mo_63 {V : GV} {d b : Nat} {X0 X : XT} {FI AI : FT} {AL : LT} (y : LY modLL X0 X b 8 3506 mk7 []) (hz : ZZ FI AI AL b) : G V m_Mod_init (d + 3) 63 [some (.ref b), none, none, none, none] [] X FI AI AL (MP X0 FI (sA AI b) AL b) := by
  refine G_aload0 64 d_Mod_init_63 rfl ?_
  refine G_bipushN 84 66 d_Mod_init_64 rfl rfl ?_
  refine G_newI0 84 68 d_Mod_init_66 rfl ac_int rfl (by omega) (hz.2.1 _ (by rw [y.1]; omega)) ?_
  have y1 := y.new (t := 0) (w := 84) rfl
  refine G_putX (x := some _) true 71 d_Mod_init_68 rfl f_Mod_34 rfl rfl (by intro C T N h; cases h; rfl) (fun _ => ⟨rfl, by intro C T N h; cases h; rfl⟩) (y1.shA 0 rfl (by omega) rfl) rfl rfl ?_
  have y2 := y1.put (c := 0) (j := 7) (v := 8) (a := b) (x := some (x_sz X)) rfl (congrArg some y.1) (by omega) (by decide)
  exact mo_71 y2 hz
theorem mo_55 {V : GV} {d b : Nat} {X0 X : XT} {FI AI : FT} {AL : LT} (y : LY modLL X0 X b 7 3422 mk6 []) (hz : ZZ FI AI AL b) : G V m_Mod_init (d + 3) 55 [some (.ref b), none, none, none, none] [] X FI AI AL (MP X0 FI (sA AI b) AL b) := by
  refine G_aload0 56 d_Mod_init_55 rfl ?_
  refine G_bipushN 84 58 d_Mod_init_56 rfl rfl ?_
  refine G_newI0 84 60 d_Mod_init_58 rfl ac_int rfl (by omega) (hz.2.1 _ (by rw [y.1]; omega)) ?_
  have y1 := y.new (t := 0) (w := 84) rfl
  refine G_putX (x := some _) true 63 d_Mod_init_60 rfl f_Mod_31 rfl rfl (by intro C T N h; cases h; rfl) (fun _ => ⟨rfl, by intro C T N h; cases h; rfl⟩) (y1.shA 0 rfl (by omega) rfl) rfl rfl ?_
  have y2 := y1.put (c := 0) (j := 6) (v := 7) (a := b) (x := some (x_sz X)) rfl (congrArg some y.1) (by omega) (by decide)
  exact mo_63 y2 hz
theorem mo_46 {V : GV} {d b : Nat} {X0 X : XT} {FI AI : FT} {AL : LT} (y : LY modLL X0 X b 6 3079 mk5 []) (hz : ZZ FI AI AL b) : G V m_Mod_init (d + 3) 46 [some (.ref b), none, none, none, none] [] X FI AI AL (MP X0 FI (sA AI b) AL b) := by
  refine G_aload0 47 d_Mod_init_46 rfl ?_
  refine G_sipushN 343 50 d_Mod_init_47 rfl rfl ?_
  refine G_newI0 343 52 d_Mod_init_50 rfl ac_int rfl (by omega) (hz.2.1 _ (by rw [y.1]; omega)) ?_
  have y1 := y.new (t := 0) (w := 343) rfl
  refine G_putX (x := some _) true 55 d_Mod_init_52 rfl f_Mod_28 rfl rfl (by intro C T N h; cases h; rfl) (fun _ => ⟨rfl, by intro C T N h; cases h; rfl⟩) (y1.shA 0 rfl (by omega) rfl) rfl rfl ?_
  have y2 := y1.put (c := 0) (j := 5) (v := 6) (a := b) (x := some (x_sz X)) rfl (congrArg some y.1) (by omega) (by decide)
  exact mo_55 y2 hz
theorem mo_38 {V : GV} {d b : Nat} {X0 X : XT} {FI AI : FT} {AL : LT} (y : LY modLL X0 X b 5 2995 mk4 []) (hz : ZZ FI AI AL b) : G V m_Mod_init (d + 3) 38 [some (.ref b), none, none, none, none] [] X FI AI AL (MP X0 FI (sA AI b) AL b) := by
  refine G_aload0 39 d_Mod_init_38 rfl ?_
  refine G_bipushN 84 41 d_Mod_init_39 rfl rfl ?_
  refine G_newI0 84 43 d_Mod_init_41 rfl ac_int rfl (by omega) (hz.2.1 _ (by rw [y.1]; omega)) ?_
  have y1 := y.new (t := 0) (w := 84) rfl
  refine G_putX (x := some _) true 46 d_Mod_init_43 rfl f_Mod_25 rfl rfl (by intro C T N h; cases h; rfl) (fun _ => ⟨rfl, by intro C T N h; cases h; rfl⟩) (y1.shA 0 rfl (by omega) rfl) rfl rfl ?_
  have y2 := y1.put (c := 0) (j := 4) (v := 5) (a := b) (x := some (x_sz X)) rfl (congrArg some y.1) (by omega) (by decide)
  exact mo_46 y2 hz
theorem mo_30 {V : GV} {d b : Nat} {X0 X : XT} {FI AI : FT} {AL : LT} (y : LY modLL X0 X b 4 2911 mk3 []) (hz : ZZ FI AI AL b) : G V m_Mod_init (d + 3) 30 [some (.ref b), none, none, none, none] [] X FI AI AL (MP X0 FI (sA AI b) AL b) := by
  refine G_aload0 31 d_Mod_init_30 rfl ?_
  refine G_bipushN 84 33 d_Mod_init_31 rfl rfl ?_
  refine G_newI0 84 35 d_Mod_init_33 rfl ac_int rfl (by omega) (hz.2.1 _ (by rw [y.1]; omega)) ?_
  have y1 := y.new (t := 0) (w := 84) rfl
  refine G_putX (x := some _) true 38 d_Mod_init_35 rfl f_Mod_22 rfl rfl (by intro C T N h; cases h; rfl) (fun _ => ⟨rfl, by intro C T N h; cases h; rfl⟩) (y1.shA 0 rfl (by omega) rfl) rfl rfl ?_
  have y2 := y1.put (c := 0) (j := 3) (v := 4) (a := b) (x := some (x_sz X)) rfl (congrArg some y.1) (by omega) (by decide)
  exact mo_38 y2 hz
theorem mo_22 {V : GV} {d b : Nat} {X0 X : XT} {FI AI : FT} {AL : LT} (y : LY modLL X0 X b 3 2827 mk2 []) (hz : ZZ FI AI AL b) : G V m_Mod_init (d + 3) 22 [some (.ref b), none, none, none, none] [] X FI AI AL (MP X0 FI (sA AI b) AL b) := by
  refine G_aload0 23 d_Mod_init_22 rfl ?_
  refine G_bipushN 84 25 d_Mod_init_23 rfl rfl ?_
  refine G_newI0 84 27 d_Mod_init_25 rfl ac_int rfl (by omega) (hz.2.1 _ (by rw [y.1]; omega)) ?_
  have y1 := y.new (t := 0) (w := 84) rfl
  refine G_putX (x := some _) true 30 d_Mod_init_27 rfl f_Mod_18 rfl rfl (by intro C T N h; cases h; rfl) (fun _ => ⟨rfl, by intro C T N h; cases h; rfl⟩) (y1.shA 0 rfl (by omega) rfl) rfl rfl ?_
  have y2 := y1.put (c := 0) (j := 2) (v := 3) (a := b) (x := some (x_sz X)) rfl (congrArg some y.1) (by omega) (by decide)
  exact mo_30 y2 hz
theorem mo_13 {V : GV} {d b : Nat} {X0 X : XT} {FI AI : FT} {AL : LT} (y : LY modLL X0 X b 2 1735 mk1 []) (hz : ZZ FI AI AL b) : G V m_Mod_init (d + 3) 13 [some (.ref b), none, none, none, none] [] X FI AI AL (MP X0 FI (sA AI b) AL b) := by
  refine G_aload0 14 d_Mod_init_13 rfl ?_
  refine G_sipushN 1092 17 d_Mod_init_14 rfl rfl ?_
  refine G_newL0 1092 19 d_Mod_init_17 rfl ac_long rfl (by omega) (hz.2.2 _ (by rw [y.1]; omega)) ?_
  have y1 := y.new (t := 1) (w := 1092) rfl
  refine G_putX (x := some _) true 22 d_Mod_init_19 rfl f_Mod_15 rfl rfl (by intro C T N h; cases h; rfl) (fun _ => ⟨rfl, by intro C T N h; cases h; rfl⟩) (y1.shA 0 rfl (by omega) rfl) rfl rfl ?_
  have y2 := y1.put (c := 0) (j := 1) (v := 2) (a := b) (x := some (x_sz X)) rfl (congrArg some y.1) (by omega) (by decide)
  exact mo_22 y2 hz
theorem mo_4 {V : GV} {d b : Nat} {X0 X : XT} {FI AI : FT} {AL : LT} (y : LY modLL X0 X b 1 55 [] []) (hz : ZZ FI AI AL b) : G V m_Mod_init (d + 3) 4 [some (.ref b), none, none, none, none] [] X FI AI AL (MP X0 FI (sA AI b) AL b) := by
  refine G_aload0 5 d_Mod_init_4 rfl ?_
  refine G_sipushN 1680 8 d_Mod_init_5 rfl rfl ?_
  refine G_newL0 1680 10 d_Mod_init_8 rfl ac_long rfl (by omega) (hz.2.2 _ (by rw [y.1]; omega)) ?_
  have y1 := y.new (t := 1) (w := 1680) rfl
  refine G_putX (x := some _) true 13 d_Mod_init_10 rfl f_Mod_9 rfl rfl (by intro C T N h; cases h; rfl) (fun _ => ⟨rfl, by intro C T N h; cases h; rfl⟩) (y1.shA 0 rfl (by omega) rfl) rfl rfl ?_
  have y2 := y1.put (c := 0) (j := 0) (v := 1) (a := b) (x := some (x_sz X)) rfl (congrArg some y.1) (by omega) (by decide)
  exact mo_13 y2 hz
theorem s_modInit {V : GV} {d : Nat} {X : XT} {FI AI : FT} {AL : LT} (hz : ZZ FI AI AL (x_sz X)) : G V m_Mod_init (d + 3) 0 [some (.ref (x_sz X)), none, none, none, none] [] (xnew X 21 55) FI AI AL (MP X FI (sA AI (x_sz X)) AL (x_sz X)) := by
  have y := (LY.o modLL (X := X) (lo := x_sz X) rfl).new (t := 21) (w := 55) rfl
  refine G_aload0 1 d_Mod_init_0 rfl ?_
  refine G_objInit 4 d_Mod_init_1 rfl e_Mod_3 (Nat.le_of_ble_eq_true rfl) ?_
  exact mo_4 y hz
