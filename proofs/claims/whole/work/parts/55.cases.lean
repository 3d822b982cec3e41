/-! the law: a call of each kind -/
theorem RelC_fM {S : Sp} {σ τ : AH} (h : RelC S σ) (e : frM σ τ) : RelC S τ := by
  obtain ⟨h1, h2, h3, h4⟩ := h
  refine ⟨h1.of (e _ (by decide)) (e _ (by decide)) (fun i hi => e _ (by omega)), fun t ht => TrC_of (h2 t ht) (fun k q1 q2 => e k (by have : tI t = 58 + 12 * t := rfl; omega)), MiC_of h3 (e _ (by decide)) (e _ (by decide)) (e _ (by decide)) (e _ (by decide)) (e _ (by decide)) (e _ (by decide)) (e _ (by decide)), h4.of (e _ (by decide)) (fun a ha => e _ (by omega))⟩
theorem RelM_fC {S : Sp} {σ τ : AH} (h : RelM S σ) (e : frC σ τ) : RelM S τ := by
  obtain ⟨h1, h2, h3, h4⟩ := h
  have e6 : ∀ j, τ.1 106 j = σ.1 106 j := fun j => by rw [e 106 (by decide)]
  refine ⟨h1.of (e6 _) (e _ (by decide)) (e _ (by decide)), fun t ht => (h2 t ht).of (fun k q1 q2 => e k (by omega)), MiM_of h3 (e6 _) (e6 _) (e6 _) (e6 _) (e6 _) (e _ (by decide)) (e _ (by decide)) (e _ (by decide)) (e _ (by decide)), h4.of (e6 _) (e _ (by decide))⟩
def CxL (g : GG) (K : AK) (cc : ByteArray) (nL : Nat) (own : String) (d L : Nat) (xs : Nat → Int32) : Prop :=
  ∃ (p : Program) (e : Env) (R : Room) (s : State) (m : MethodId) (args : Array Value) (below : List Frame) (meth : Method) (c : Code) (cells slots : Nat) (Q : State → Prop),
    (K = (fun H locs ls pc st => va_S g.2.2.2.2 s.heap H locs → W p g.1 e R s m args below meth c H locs cells slots Q (F0 m pc ls st)) ∧
    p.tables.exec = Jvm.exec ∧ c.code = cc ∧ c.maxLocals = nL ∧ s.vm.findClass own = some m.cls ∧ (∀ w ∈ GT, w.before args s = true) ∧ va_K g.2.1 cls8 (tyL g) s ∧ (∀ σ, va_D g.2.2.2.2 (wd g σ)) ∧ d ≤ R.frames ∧ 40 * d ≤ R.locals ∧ cells ≤ R.cells ∧ slots ≤ R.slots) ∧
    va_X (g.2.2.1 129) L xs s s.heap ∧ g.2.2.1 129 < s.heap.size ∧ ¬ g.2.2.2.2 (g.2.2.1 129)
theorem CxL.cx {g : GG} {K : AK} {cc : ByteArray} {nL d L : Nat} {own : String} {xs : Nat → Int32} (h : CxL g K cc nL own d L xs) : Cx g K cc nL own d := by
  obtain ⟨p, e, R, s, m, args, below, meth, c, cells, slots, Q, hc, -⟩ := h
  exact ⟨p, e, R, s, m, args, below, meth, c, cells, slots, Q, hc⟩
theorem a_sld {g : GG} {K : AK} {cc : ByteArray} {nL d L pc : Nat} {own : String} {xs : Nat → Int32} {lv : LV} {st : List AV} {σ : AH} {n : Nat} (B : CxL g K cc nL own d L xs) (hn : n < L) (hL : L < 2 ^ 31) (dg : decode cc pc = .ok (.iaload, 1)) (kk : AW g K nL (pc + 1) lv (iV (xs n) :: st) σ) : AW g K nL pc lv (iV (nI n) :: rV 129 :: st) σ := by
  obtain ⟨p, e, R, s, m, args, below, meth, c, cells, slots, Q, ⟨rfl, hx, hb, hml, hown, hts, hK, hD, hR⟩, hX, hbl, hbA⟩ := B
  intro H locs ls hP hl hS
  refine va_sld hx hb hX hbl hbA hS (vp_in_nI hn (by omega)) dg ?_
  rw [nI_clamp (by omega)]
  exact kk H locs ls hP hl hS
theorem a_slen {g : GG} {K : AK} {cc : ByteArray} {nL d L pc : Nat} {own : String} {xs : Nat → Int32} {lv : LV} {st : List AV} {σ : AH} (B : CxL g K cc nL own d L xs) (dg : decode cc pc = .ok (.arraylength, 1)) (kk : AW g K nL (pc + 1) lv (iV (nI L) :: st) σ) : AW g K nL pc lv (rV 129 :: st) σ := by
  obtain ⟨p, e, R, s, m, args, below, meth, c, cells, slots, Q, ⟨rfl, hx, hb, hml, hown, hts, hK, hD, hR⟩, hX, hbl, hbA⟩ := B
  intro H locs ls hP hl hS
  exact va_slen hx hb hX hbl hbA hS dg (kk H locs ls hP hl hS)
abbrev lvL (i : Nat) : LV := [(0, rV 129), (1, rV 0), (2, rV 106), (3, iV (nI i))]
/-- where a call's case ends, whatever the state then is -/
def GoL (g : GG) (K : AK) (i : Nat) : Prop := ∀ (S : Sp) (τ : AH), RelC S τ → RelM S τ → AW g K 4 1193 (lvL i) [] τ
set_option maxHeartbeats 4000000 in
set_option maxRecDepth 20000 in
theorem w_leaves {g : GG} {K : AK} {L i : Nat} {xs : Nat → Int32} {S : Sp} {σ : AH} (G : Gok g) (BL : CxL g K code 4 "LeafOrderLaw" 7 L xs) (hL : L < 2 ^ 31) (hi : i + 6 ≤ L) (hC : RelC S σ) (hM : RelM S σ) (go : GoL g K i) : AW g K 4 184 (lvL i) [] σ := by
  have B := BL.cx
  refine a_aload_n B d_law_184 rfl rfl ?_
  refine a_aload_n B d_law_185 rfl rfl ?_
  refine a_iload_n B d_law_186 rfl rfl ?_
  refine a_iconst B d_law_187 ci_1 ?_
  refine b_iadd B d_law_188 ?_
  refine a_sld BL (by omega) hL d_law_189 ?_
  refine a_callVI (ci := 6) B (tC_leaves G hC (xs (i + 1))) d_law_190 ok_Lo_leaves ml_Law_13 ly_0 rfl rfl (by decide) (by decide) rfl (Nat.le_of_ble_eq_true rfl) (fun r1 τ1 h1 => ?_)
  obtain ⟨hr1, hC1, hF1⟩ := h1
  subst hr1
  have hM1 := RelM_fC hM hF1
  refine a_aload_n B d_law_193 rfl rfl ?_
  refine a_aload_n B d_law_194 rfl rfl ?_
  refine a_iload_n B d_law_195 rfl rfl ?_
  refine a_iconst B d_law_196 ci_1 ?_
  refine b_iadd B d_law_197 ?_
  refine a_sld BL (by omega) hL d_law_198 ?_
  refine a_callVI (ci := 7) B (tM_leaves G hM1 (xs (i + 1))) d_law_199 ok_Mo_leaves ml_Law_17 ly_106 rfl rfl (by decide) (by decide) rfl (Nat.le_of_ble_eq_true rfl) (fun r2 τ2 h2 => ?_)
  obtain ⟨hr2, hM2, hF2⟩ := h2
  subst hr2
  have hC2 := RelC_fM hC1 hF2
  exact a_icmp_eq B 1193 d_law_202 rfl (fun _ => go _ _ hC2 hM2) (fun c9 => absurd rfl c9)
set_option maxHeartbeats 4000000 in
set_option maxRecDepth 20000 in
theorem w_row {g : GG} {K : AK} {L i : Nat} {xs : Nat → Int32} {S : Sp} {σ : AH} (G : Gok g) (BL : CxL g K code 4 "LeafOrderLaw" 7 L xs) (hL : L < 2 ^ 31) (hi : i + 6 ≤ L) (hC : RelC S σ) (hM : RelM S σ) (go : GoL g K i) : AW g K 4 207 (lvL i) [] σ := by
  have B := BL.cx
  refine a_aload_n B d_law_207 rfl rfl ?_
  refine a_aload_n B d_law_208 rfl rfl ?_
  refine a_iload_n B d_law_209 rfl rfl ?_
  refine a_iconst B d_law_210 ci_1 ?_
  refine b_iadd B d_law_211 ?_
  refine a_sld BL (by omega) hL d_law_212 ?_
  refine a_callVI (ci := 6) B (tC_row G hC (xs (i + 1))) d_law_213 ok_Lo_row ml_Law_18 ly_0 rfl rfl (by decide) (by decide) rfl (Nat.le_of_ble_eq_true rfl) (fun r1 τ1 h1 => ?_)
  obtain ⟨hr1, hC1, hF1⟩ := h1
  subst hr1
  have hM1 := RelM_fC hM hF1
  refine a_aload_n B d_law_216 rfl rfl ?_
  refine a_aload_n B d_law_217 rfl rfl ?_
  refine a_iload_n B d_law_218 rfl rfl ?_
  refine a_iconst B d_law_219 ci_1 ?_
  refine b_iadd B d_law_220 ?_
  refine a_sld BL (by omega) hL d_law_221 ?_
  refine a_callVI (ci := 7) B (tM_row G hM1 (xs (i + 1))) d_law_222 ok_Mo_row ml_Law_21 ly_106 rfl rfl (by decide) (by decide) rfl (Nat.le_of_ble_eq_true rfl) (fun r2 τ2 h2 => ?_)
  obtain ⟨hr2, hM2, hF2⟩ := h2
  subst hr2
  have hC2 := RelC_fM hC1 hF2
  exact a_icmp_eq B 1193 d_law_225 rfl (fun _ => go _ _ hC2 hM2) (fun c9 => absurd rfl c9)
set_option maxHeartbeats 4000000 in
set_option maxRecDepth 20000 in
theorem w_lay {g : GG} {K : AK} {L i : Nat} {xs : Nat → Int32} {S : Sp} {σ : AH} (G : Gok g) (BL : CxL g K code 4 "LeafOrderLaw" 7 L xs) (hL : L < 2 ^ 31) (hi : i + 6 ≤ L) (hC : RelC S σ) (hM : RelM S σ) (go : GoL g K i) : AW g K 4 230 (lvL i) [] σ := by
  have B := BL.cx
  refine a_aload_n B d_law_230 rfl rfl ?_
  refine a_aload_n B d_law_231 rfl rfl ?_
  refine a_iload_n B d_law_232 rfl rfl ?_
  refine a_iconst B d_law_233 ci_1 ?_
  refine b_iadd B d_law_234 ?_
  refine a_sld BL (by omega) hL d_law_235 ?_
  refine a_aload_n B d_law_236 rfl rfl ?_
  refine a_iload_n B d_law_237 rfl rfl ?_
  refine a_iconst B d_law_238 ci_2 ?_
  refine b_iadd B d_law_239 ?_
  refine a_sld BL (by omega) hL d_law_240 ?_
  refine a_aload_n B d_law_241 rfl rfl ?_
  refine a_iload_n B d_law_242 rfl rfl ?_
  refine a_iconst B d_law_243 ci_3 ?_
  refine b_iadd B d_law_244 ?_
  refine a_sld BL (by omega) hL d_law_245 ?_
  refine a_callVI (ci := 6) B (tC_lay G hC (xs (i + 1)) (xs (i + 2)) (xs (i + 3))) d_law_246 ok_Lo_lay ml_Law_22 ly_0 rfl rfl (by decide) (by decide) rfl (Nat.le_of_ble_eq_true rfl) (fun r1 τ1 h1 => ?_)
  obtain ⟨hr1, hC1, hF1⟩ := h1
  subst hr1
  have hM1 := RelM_fC hM hF1
  refine a_aload_n B d_law_249 rfl rfl ?_
  refine a_aload_n B d_law_250 rfl rfl ?_
  refine a_iload_n B d_law_251 rfl rfl ?_
  refine a_iconst B d_law_252 ci_1 ?_
  refine b_iadd B d_law_253 ?_
  refine a_sld BL (by omega) hL d_law_254 ?_
  refine a_aload_n B d_law_255 rfl rfl ?_
  refine a_iload_n B d_law_256 rfl rfl ?_
  refine a_iconst B d_law_257 ci_2 ?_
  refine b_iadd B d_law_258 ?_
  refine a_sld BL (by omega) hL d_law_259 ?_
  refine a_aload_n B d_law_260 rfl rfl ?_
  refine a_iload_n B d_law_261 rfl rfl ?_
  refine a_iconst B d_law_262 ci_3 ?_
  refine b_iadd B d_law_263 ?_
  refine a_sld BL (by omega) hL d_law_264 ?_
  refine a_callVI (ci := 7) B (tM_lay G hM1 (xs (i + 1)) (xs (i + 2)) (xs (i + 3))) d_law_265 ok_Mo_lay ml_Law_26 ly_106 rfl rfl (by decide) (by decide) rfl (Nat.le_of_ble_eq_true rfl) (fun r2 τ2 h2 => ?_)
  obtain ⟨hr2, hM2, hF2⟩ := h2
  subst hr2
  have hC2 := RelC_fM hC1 hF2
  exact a_icmp_eq B 1193 d_law_268 rfl (fun _ => go _ _ hC2 hM2) (fun c9 => absurd rfl c9)
set_option maxHeartbeats 4000000 in
set_option maxRecDepth 20000 in
theorem w_tear {g : GG} {K : AK} {L i : Nat} {xs : Nat → Int32} {S : Sp} {σ : AH} (G : Gok g) (BL : CxL g K code 4 "LeafOrderLaw" 7 L xs) (hL : L < 2 ^ 31) (hi : i + 6 ≤ L) (hC : RelC S σ) (hM : RelM S σ) (go : GoL g K i) : AW g K 4 273 (lvL i) [] σ := by
  have B := BL.cx
  refine a_aload_n B d_law_273 rfl rfl ?_
  refine a_aload_n B d_law_274 rfl rfl ?_
  refine a_iload_n B d_law_275 rfl rfl ?_
  refine a_iconst B d_law_276 ci_1 ?_
  refine b_iadd B d_law_277 ?_
  refine a_sld BL (by omega) hL d_law_278 ?_
  refine a_callVI (ci := 6) B (tC_tear G hC (xs (i + 1))) d_law_279 ok_Lo_tear ml_Law_27 ly_0 rfl rfl (by decide) (by decide) rfl (Nat.le_of_ble_eq_true rfl) (fun r1 τ1 h1 => ?_)
  obtain ⟨hr1, hC1, hF1⟩ := h1
  subst hr1
  have hM1 := RelM_fC hM hF1
  refine a_aload_n B d_law_282 rfl rfl ?_
  refine a_aload_n B d_law_283 rfl rfl ?_
  refine a_iload_n B d_law_284 rfl rfl ?_
  refine a_iconst B d_law_285 ci_1 ?_
  refine b_iadd B d_law_286 ?_
  refine a_sld BL (by omega) hL d_law_287 ?_
  refine a_callVI (ci := 7) B (tM_tear G hM1 (xs (i + 1))) d_law_288 ok_Mo_tear ml_Law_30 ly_106 rfl rfl (by decide) (by decide) rfl (Nat.le_of_ble_eq_true rfl) (fun r2 τ2 h2 => ?_)
  obtain ⟨hr2, hM2, hF2⟩ := h2
  subst hr2
  have hC2 := RelC_fM hC1 hF2
  exact a_icmp_eq B 1193 d_law_291 rfl (fun _ => go _ _ hC2 hM2) (fun c9 => absurd rfl c9)
set_option maxHeartbeats 4000000 in
set_option maxRecDepth 20000 in
theorem w_copy {g : GG} {K : AK} {L i : Nat} {xs : Nat → Int32} {S : Sp} {σ : AH} (G : Gok g) (BL : CxL g K code 4 "LeafOrderLaw" 7 L xs) (hL : L < 2 ^ 31) (hi : i + 6 ≤ L) (hC : RelC S σ) (hM : RelM S σ) (go : GoL g K i) : AW g K 4 296 (lvL i) [] σ := by
  have B := BL.cx
  refine a_aload_n B d_law_296 rfl rfl ?_
  refine a_aload_n B d_law_297 rfl rfl ?_
  refine a_iload_n B d_law_298 rfl rfl ?_
  refine a_iconst B d_law_299 ci_1 ?_
  refine b_iadd B d_law_300 ?_
  refine a_sld BL (by omega) hL d_law_301 ?_
  refine a_aload_n B d_law_302 rfl rfl ?_
  refine a_iload_n B d_law_303 rfl rfl ?_
  refine a_iconst B d_law_304 ci_2 ?_
  refine b_iadd B d_law_305 ?_
  refine a_sld BL (by omega) hL d_law_306 ?_
  refine a_aload_n B d_law_307 rfl rfl ?_
  refine a_iload_n B d_law_308 rfl rfl ?_
  refine a_iconst B d_law_309 ci_3 ?_
  refine b_iadd B d_law_310 ?_
  refine a_sld BL (by omega) hL d_law_311 ?_
  refine a_aload_n B d_law_312 rfl rfl ?_
  refine a_iload_n B d_law_313 rfl rfl ?_
  refine a_iconst B d_law_314 ci_4 ?_
  refine b_iadd B d_law_315 ?_
  refine a_sld BL (by omega) hL d_law_316 ?_
  refine a_aload_n B d_law_317 rfl rfl ?_
  refine a_iload_n B d_law_318 rfl rfl ?_
  refine a_iconst B d_law_319 ci_5 ?_
  refine b_iadd B d_law_320 ?_
  refine a_sld BL (by omega) hL d_law_321 ?_
  refine a_callVI (ci := 6) B (tC_copy G hC (xs (i + 1)) (xs (i + 2)) (xs (i + 3)) (xs (i + 4)) (xs (i + 5))) d_law_322 ok_Lo_copy ml_Law_31 ly_0 rfl rfl (by decide) (by decide) rfl (Nat.le_of_ble_eq_true rfl) (fun r1 τ1 h1 => ?_)
  obtain ⟨hr1, hC1, hF1⟩ := h1
  subst hr1
  have hM1 := RelM_fC hM hF1
  refine a_aload_n B d_law_325 rfl rfl ?_
  refine a_aload_n B d_law_326 rfl rfl ?_
  refine a_iload_n B d_law_327 rfl rfl ?_
  refine a_iconst B d_law_328 ci_1 ?_
  refine b_iadd B d_law_329 ?_
  refine a_sld BL (by omega) hL d_law_330 ?_
  refine a_aload_n B d_law_331 rfl rfl ?_
  refine a_iload_n B d_law_332 rfl rfl ?_
  refine a_iconst B d_law_333 ci_2 ?_
  refine b_iadd B d_law_334 ?_
  refine a_sld BL (by omega) hL d_law_335 ?_
  refine a_aload_n B d_law_336 rfl rfl ?_
  refine a_iload_n B d_law_337 rfl rfl ?_
  refine a_iconst B d_law_338 ci_3 ?_
  refine b_iadd B d_law_339 ?_
  refine a_sld BL (by omega) hL d_law_340 ?_
  refine a_aload_n B d_law_341 rfl rfl ?_
  refine a_iload_n B d_law_342 rfl rfl ?_
  refine a_iconst B d_law_343 ci_4 ?_
  refine b_iadd B d_law_344 ?_
  refine a_sld BL (by omega) hL d_law_345 ?_
  refine a_aload_n B d_law_346 rfl rfl ?_
  refine a_iload_n B d_law_347 rfl rfl ?_
  refine a_iconst B d_law_348 ci_5 ?_
  refine b_iadd B d_law_349 ?_
  refine a_sld BL (by omega) hL d_law_350 ?_
  refine a_callVI (ci := 7) B (tM_copy G hM1 (xs (i + 1)) (xs (i + 2)) (xs (i + 3)) (xs (i + 4)) (xs (i + 5))) d_law_351 ok_Mo_copy ml_Law_35 ly_106 rfl rfl (by decide) (by decide) rfl (Nat.le_of_ble_eq_true rfl) (fun r2 τ2 h2 => ?_)
  obtain ⟨hr2, hM2, hF2⟩ := h2
  subst hr2
  have hC2 := RelC_fM hC1 hF2
  exact a_icmp_eq B 1193 d_law_354 rfl (fun _ => go _ _ hC2 hM2) (fun c9 => absurd rfl c9)
set_option maxHeartbeats 4000000 in
set_option maxRecDepth 20000 in
theorem w_unlike {g : GG} {K : AK} {L i : Nat} {xs : Nat → Int32} {S : Sp} {σ : AH} (G : Gok g) (BL : CxL g K code 4 "LeafOrderLaw" 7 L xs) (hL : L < 2 ^ 31) (hi : i + 6 ≤ L) (hC : RelC S σ) (hM : RelM S σ) (go : GoL g K i) : AW g K 4 359 (lvL i) [] σ := by
  have B := BL.cx
  refine a_aload_n B d_law_359 rfl rfl ?_
  refine a_aload_n B d_law_360 rfl rfl ?_
  refine a_iload_n B d_law_361 rfl rfl ?_
  refine a_iconst B d_law_362 ci_1 ?_
  refine b_iadd B d_law_363 ?_
  refine a_sld BL (by omega) hL d_law_364 ?_
  refine a_aload_n B d_law_365 rfl rfl ?_
  refine a_iload_n B d_law_366 rfl rfl ?_
  refine a_iconst B d_law_367 ci_2 ?_
  refine b_iadd B d_law_368 ?_
  refine a_sld BL (by omega) hL d_law_369 ?_
  refine a_callVI (ci := 6) B (tC_unlike G hC (xs (i + 1)) (xs (i + 2))) d_law_370 ok_Lo_unlike ml_Law_36 ly_0 rfl rfl (by decide) (by decide) rfl (Nat.le_of_ble_eq_true rfl) (fun r1 τ1 h1 => ?_)
  obtain ⟨hr1, hC1, hF1⟩ := h1
  subst hr1
  have hM1 := RelM_fC hM hF1
  refine a_aload_n B d_law_373 rfl rfl ?_
  refine a_aload_n B d_law_374 rfl rfl ?_
  refine a_iload_n B d_law_375 rfl rfl ?_
  refine a_iconst B d_law_376 ci_1 ?_
  refine b_iadd B d_law_377 ?_
  refine a_sld BL (by omega) hL d_law_378 ?_
  refine a_aload_n B d_law_379 rfl rfl ?_
  refine a_iload_n B d_law_380 rfl rfl ?_
  refine a_iconst B d_law_381 ci_2 ?_
  refine b_iadd B d_law_382 ?_
  refine a_sld BL (by omega) hL d_law_383 ?_
  refine a_callVI (ci := 7) B (tM_unlike G hM1 (xs (i + 1)) (xs (i + 2))) d_law_384 ok_Mo_unlike ml_Law_40 ly_106 rfl rfl (by decide) (by decide) rfl (Nat.le_of_ble_eq_true rfl) (fun r2 τ2 h2 => ?_)
  obtain ⟨hr2, hM2, hF2⟩ := h2
  subst hr2
  have hC2 := RelC_fM hC1 hF2
  exact a_icmp_eq B 1193 d_law_387 rfl (fun _ => go _ _ hC2 hM2) (fun c9 => absurd rfl c9)
set_option maxHeartbeats 4000000 in
set_option maxRecDepth 20000 in
theorem w_mean {g : GG} {K : AK} {L i : Nat} {xs : Nat → Int32} {S : Sp} {σ : AH} (G : Gok g) (BL : CxL g K code 4 "LeafOrderLaw" 7 L xs) (hL : L < 2 ^ 31) (hi : i + 6 ≤ L) (hC : RelC S σ) (hM : RelM S σ) (go : GoL g K i) : AW g K 4 392 (lvL i) [] σ := by
  have B := BL.cx
  refine a_aload_n B d_law_392 rfl rfl ?_
  refine a_aload_n B d_law_393 rfl rfl ?_
  refine a_iload_n B d_law_394 rfl rfl ?_
  refine a_iconst B d_law_395 ci_1 ?_
  refine b_iadd B d_law_396 ?_
  refine a_sld BL (by omega) hL d_law_397 ?_
  refine a_callVI (ci := 6) B (tC_mean G hC (xs (i + 1))) d_law_398 ok_Lo_mean ml_Law_41 ly_0 rfl rfl (by decide) (by decide) rfl (Nat.le_of_ble_eq_true rfl) (fun r1 τ1 h1 => ?_)
  obtain ⟨hr1, hC1, hF1⟩ := h1
  subst hr1
  have hM1 := RelM_fC hM hF1
  refine a_aload_n B d_law_401 rfl rfl ?_
  refine a_aload_n B d_law_402 rfl rfl ?_
  refine a_iload_n B d_law_403 rfl rfl ?_
  refine a_iconst B d_law_404 ci_1 ?_
  refine b_iadd B d_law_405 ?_
  refine a_sld BL (by omega) hL d_law_406 ?_
  refine a_callVI (ci := 7) B (tM_mean G hM1 (xs (i + 1))) d_law_407 ok_Mo_mean ml_Law_44 ly_106 rfl rfl (by decide) (by decide) rfl (Nat.le_of_ble_eq_true rfl) (fun r2 τ2 h2 => ?_)
  obtain ⟨hr2, hM2, hF2⟩ := h2
  subst hr2
  have hC2 := RelC_fM hC1 hF2
  exact a_icmp_eq B 1193 d_law_410 rfl (fun _ => go _ _ hC2 hM2) (fun c9 => absurd rfl c9)
set_option maxHeartbeats 4000000 in
set_option maxRecDepth 20000 in
theorem w_make {g : GG} {K : AK} {L i : Nat} {xs : Nat → Int32} {S : Sp} {σ : AH} (G : Gok g) (BL : CxL g K code 4 "LeafOrderLaw" 7 L xs) (hL : L < 2 ^ 31) (hi : i + 6 ≤ L) (hC : RelC S σ) (hM : RelM S σ) (go : GoL g K i) : AW g K 4 415 (lvL i) [] σ := by
  have B := BL.cx
  refine a_aload_n B d_law_415 rfl rfl ?_
  refine a_aload_n B d_law_416 rfl rfl ?_
  refine a_iload_n B d_law_417 rfl rfl ?_
  refine a_iconst B d_law_418 ci_1 ?_
  refine b_iadd B d_law_419 ?_
  refine a_sld BL (by omega) hL d_law_420 ?_
  refine a_aload_n B d_law_421 rfl rfl ?_
  refine a_iload_n B d_law_422 rfl rfl ?_
  refine a_iconst B d_law_423 ci_2 ?_
  refine b_iadd B d_law_424 ?_
  refine a_sld BL (by omega) hL d_law_425 ?_
  refine a_callVI (ci := 6) B (tC_make G hC (xs (i + 1)) (xs (i + 2))) d_law_426 ok_Lo_make ml_Law_45 ly_0 rfl rfl (by decide) (by decide) rfl (Nat.le_of_ble_eq_true rfl) (fun r1 τ1 h1 => ?_)
  obtain ⟨hr1, hC1, hF1⟩ := h1
  subst hr1
  have hM1 := RelM_fC hM hF1
  refine a_aload_n B d_law_429 rfl rfl ?_
  refine a_aload_n B d_law_430 rfl rfl ?_
  refine a_iload_n B d_law_431 rfl rfl ?_
  refine a_iconst B d_law_432 ci_1 ?_
  refine b_iadd B d_law_433 ?_
  refine a_sld BL (by omega) hL d_law_434 ?_
  refine a_aload_n B d_law_435 rfl rfl ?_
  refine a_iload_n B d_law_436 rfl rfl ?_
  refine a_iconst B d_law_437 ci_2 ?_
  refine b_iadd B d_law_438 ?_
  refine a_sld BL (by omega) hL d_law_439 ?_
  refine a_callVI (ci := 7) B (tM_make G hM1 (xs (i + 1)) (xs (i + 2))) d_law_440 ok_Mo_make ml_Law_48 ly_106 rfl rfl (by decide) (by decide) rfl (Nat.le_of_ble_eq_true rfl) (fun r2 τ2 h2 => ?_)
  obtain ⟨hr2, hM2, hF2⟩ := h2
  subst hr2
  have hC2 := RelC_fM hC1 hF2
  exact a_icmp_eq B 1193 d_law_443 rfl (fun _ => go _ _ hC2 hM2) (fun c9 => absurd rfl c9)
set_option maxHeartbeats 4000000 in
set_option maxRecDepth 20000 in
theorem w_drop {g : GG} {K : AK} {L i : Nat} {xs : Nat → Int32} {S : Sp} {σ : AH} (G : Gok g) (BL : CxL g K code 4 "LeafOrderLaw" 7 L xs) (hL : L < 2 ^ 31) (hi : i + 6 ≤ L) (hC : RelC S σ) (hM : RelM S σ) (go : GoL g K i) : AW g K 4 448 (lvL i) [] σ := by
  have B := BL.cx
  refine a_aload_n B d_law_448 rfl rfl ?_
  refine a_aload_n B d_law_449 rfl rfl ?_
  refine a_iload_n B d_law_450 rfl rfl ?_
  refine a_iconst B d_law_451 ci_1 ?_
  refine b_iadd B d_law_452 ?_
  refine a_sld BL (by omega) hL d_law_453 ?_
  refine a_callVI (ci := 6) B (tC_drop G hC (xs (i + 1))) d_law_454 ok_Lo_drop ml_Law_49 ly_0 rfl rfl (by decide) (by decide) rfl (Nat.le_of_ble_eq_true rfl) (fun r1 τ1 h1 => ?_)
  obtain ⟨hr1, hC1, hF1⟩ := h1
  subst hr1
  have hM1 := RelM_fC hM hF1
  refine a_aload_n B d_law_457 rfl rfl ?_
  refine a_aload_n B d_law_458 rfl rfl ?_
  refine a_iload_n B d_law_459 rfl rfl ?_
  refine a_iconst B d_law_460 ci_1 ?_
  refine b_iadd B d_law_461 ?_
  refine a_sld BL (by omega) hL d_law_462 ?_
  refine a_callVI (ci := 7) B (tM_drop G hM1 (xs (i + 1))) d_law_463 ok_Mo_drop ml_Law_52 ly_106 rfl rfl (by decide) (by decide) rfl (Nat.le_of_ble_eq_true rfl) (fun r2 τ2 h2 => ?_)
  obtain ⟨hr2, hM2, hF2⟩ := h2
  subst hr2
  have hC2 := RelC_fM hC1 hF2
  exact a_icmp_eq B 1193 d_law_466 rfl (fun _ => go _ _ hC2 hM2) (fun c9 => absurd rfl c9)
set_option maxHeartbeats 4000000 in
set_option maxRecDepth 20000 in
theorem w_told {g : GG} {K : AK} {L i : Nat} {xs : Nat → Int32} {S : Sp} {σ : AH} (G : Gok g) (BL : CxL g K code 4 "LeafOrderLaw" 7 L xs) (hL : L < 2 ^ 31) (hi : i + 6 ≤ L) (hC : RelC S σ) (hM : RelM S σ) (go : GoL g K i) : AW g K 4 471 (lvL i) [] σ := by
  have B := BL.cx
  refine a_aload_n B d_law_471 rfl rfl ?_
  refine a_aload_n B d_law_472 rfl rfl ?_
  refine a_iload_n B d_law_473 rfl rfl ?_
  refine a_iconst B d_law_474 ci_1 ?_
  refine b_iadd B d_law_475 ?_
  refine a_sld BL (by omega) hL d_law_476 ?_
  refine a_aload_n B d_law_477 rfl rfl ?_
  refine a_iload_n B d_law_478 rfl rfl ?_
  refine a_iconst B d_law_479 ci_2 ?_
  refine b_iadd B d_law_480 ?_
  refine a_sld BL (by omega) hL d_law_481 ?_
  refine a_aload_n B d_law_482 rfl rfl ?_
  refine a_iload_n B d_law_483 rfl rfl ?_
  refine a_iconst B d_law_484 ci_3 ?_
  refine b_iadd B d_law_485 ?_
  refine a_sld BL (by omega) hL d_law_486 ?_
  refine a_callVI (ci := 6) B (tC_told G hC (xs (i + 1)) (xs (i + 2)) (xs (i + 3))) d_law_487 ok_Lo_told ml_Law_53 ly_0 rfl rfl (by decide) (by decide) rfl (Nat.le_of_ble_eq_true rfl) (fun r1 τ1 h1 => ?_)
  obtain ⟨hr1, hC1, hF1⟩ := h1
  subst hr1
  have hM1 := RelM_fC hM hF1
  refine a_aload_n B d_law_490 rfl rfl ?_
  refine a_aload_n B d_law_491 rfl rfl ?_
  refine a_iload_n B d_law_492 rfl rfl ?_
  refine a_iconst B d_law_493 ci_1 ?_
  refine b_iadd B d_law_494 ?_
  refine a_sld BL (by omega) hL d_law_495 ?_
  refine a_aload_n B d_law_496 rfl rfl ?_
  refine a_iload_n B d_law_497 rfl rfl ?_
  refine a_iconst B d_law_498 ci_2 ?_
  refine b_iadd B d_law_499 ?_
  refine a_sld BL (by omega) hL d_law_500 ?_
  refine a_aload_n B d_law_501 rfl rfl ?_
  refine a_iload_n B d_law_502 rfl rfl ?_
  refine a_iconst B d_law_503 ci_3 ?_
  refine b_iadd B d_law_504 ?_
  refine a_sld BL (by omega) hL d_law_505 ?_
  refine a_callVI (ci := 7) B (tM_told G hM1 (xs (i + 1)) (xs (i + 2)) (xs (i + 3))) d_law_506 ok_Mo_told ml_Law_56 ly_106 rfl rfl (by decide) (by decide) rfl (Nat.le_of_ble_eq_true rfl) (fun r2 τ2 h2 => ?_)
  obtain ⟨hr2, hM2, hF2⟩ := h2
  subst hr2
  have hC2 := RelC_fM hC1 hF2
  exact a_icmp_eq B 1193 d_law_509 rfl (fun _ => go _ _ hC2 hM2) (fun c9 => absurd rfl c9)
set_option maxHeartbeats 4000000 in
set_option maxRecDepth 20000 in
theorem w_mark {g : GG} {K : AK} {L i : Nat} {xs : Nat → Int32} {S : Sp} {σ : AH} (G : Gok g) (BL : CxL g K code 4 "LeafOrderLaw" 7 L xs) (hL : L < 2 ^ 31) (hi : i + 6 ≤ L) (hC : RelC S σ) (hM : RelM S σ) (go : GoL g K i) : AW g K 4 514 (lvL i) [] σ := by
  have B := BL.cx
  refine a_aload_n B d_law_514 rfl rfl ?_
  refine a_aload_n B d_law_515 rfl rfl ?_
  refine a_iload_n B d_law_516 rfl rfl ?_
  refine a_iconst B d_law_517 ci_1 ?_
  refine b_iadd B d_law_518 ?_
  refine a_sld BL (by omega) hL d_law_519 ?_
  refine a_aload_n B d_law_520 rfl rfl ?_
  refine a_iload_n B d_law_521 rfl rfl ?_
  refine a_iconst B d_law_522 ci_2 ?_
  refine b_iadd B d_law_523 ?_
  refine a_sld BL (by omega) hL d_law_524 ?_
  refine a_aload_n B d_law_525 rfl rfl ?_
  refine a_iload_n B d_law_526 rfl rfl ?_
  refine a_iconst B d_law_527 ci_3 ?_
  refine b_iadd B d_law_528 ?_
  refine a_sld BL (by omega) hL d_law_529 ?_
  refine a_callVI (ci := 6) B (tC_mark G hC (xs (i + 1)) (xs (i + 2)) (xs (i + 3))) d_law_530 ok_Lo_mark ml_Law_57 ly_0 rfl rfl (by decide) (by decide) rfl (Nat.le_of_ble_eq_true rfl) (fun r1 τ1 h1 => ?_)
  obtain ⟨hr1, hC1, hF1⟩ := h1
  subst hr1
  have hM1 := RelM_fC hM hF1
  refine a_aload_n B d_law_533 rfl rfl ?_
  refine a_aload_n B d_law_534 rfl rfl ?_
  refine a_iload_n B d_law_535 rfl rfl ?_
  refine a_iconst B d_law_536 ci_1 ?_
  refine b_iadd B d_law_537 ?_
  refine a_sld BL (by omega) hL d_law_538 ?_
  refine a_aload_n B d_law_539 rfl rfl ?_
  refine a_iload_n B d_law_540 rfl rfl ?_
  refine a_iconst B d_law_541 ci_2 ?_
  refine b_iadd B d_law_542 ?_
  refine a_sld BL (by omega) hL d_law_543 ?_
  refine a_aload_n B d_law_544 rfl rfl ?_
  refine a_iload_n B d_law_545 rfl rfl ?_
  refine a_iconst B d_law_546 ci_3 ?_
  refine b_iadd B d_law_547 ?_
  refine a_sld BL (by omega) hL d_law_548 ?_
  refine a_callVI (ci := 7) B (tM_mark G hM1 (xs (i + 1)) (xs (i + 2)) (xs (i + 3))) d_law_549 ok_Mo_mark ml_Law_60 ly_106 rfl rfl (by decide) (by decide) rfl (Nat.le_of_ble_eq_true rfl) (fun r2 τ2 h2 => ?_)
  obtain ⟨hr2, hM2, hF2⟩ := h2
  subst hr2
  have hC2 := RelC_fM hC1 hF2
  exact a_icmp_eq B 1193 d_law_552 rfl (fun _ => go _ _ hC2 hM2) (fun c9 => absurd rfl c9)
set_option maxHeartbeats 4000000 in
set_option maxRecDepth 20000 in
theorem w_turn {g : GG} {K : AK} {L i : Nat} {xs : Nat → Int32} {S : Sp} {σ : AH} (G : Gok g) (BL : CxL g K code 4 "LeafOrderLaw" 7 L xs) (hL : L < 2 ^ 31) (hi : i + 6 ≤ L) (hC : RelC S σ) (hM : RelM S σ) (go : GoL g K i) : AW g K 4 557 (lvL i) [] σ := by
  have B := BL.cx
  refine a_aload_n B d_law_557 rfl rfl ?_
  refine a_aload_n B d_law_558 rfl rfl ?_
  refine a_iload_n B d_law_559 rfl rfl ?_
  refine a_iconst B d_law_560 ci_1 ?_
  refine b_iadd B d_law_561 ?_
  refine a_sld BL (by omega) hL d_law_562 ?_
  refine a_aload_n B d_law_563 rfl rfl ?_
  refine a_iload_n B d_law_564 rfl rfl ?_
  refine a_iconst B d_law_565 ci_2 ?_
  refine b_iadd B d_law_566 ?_
  refine a_sld BL (by omega) hL d_law_567 ?_
  refine a_callVI (ci := 6) B (tC_turn G hC (xs (i + 1)) (xs (i + 2))) d_law_568 ok_Lo_turn ml_Law_61 ly_0 rfl rfl (by decide) (by decide) rfl (Nat.le_of_ble_eq_true rfl) (fun r1 τ1 h1 => ?_)
  obtain ⟨hr1, hC1, hF1⟩ := h1
  subst hr1
  have hM1 := RelM_fC hM hF1
  refine a_aload_n B d_law_571 rfl rfl ?_
  refine a_aload_n B d_law_572 rfl rfl ?_
  refine a_iload_n B d_law_573 rfl rfl ?_
  refine a_iconst B d_law_574 ci_1 ?_
  refine b_iadd B d_law_575 ?_
  refine a_sld BL (by omega) hL d_law_576 ?_
  refine a_aload_n B d_law_577 rfl rfl ?_
  refine a_iload_n B d_law_578 rfl rfl ?_
  refine a_iconst B d_law_579 ci_2 ?_
  refine b_iadd B d_law_580 ?_
  refine a_sld BL (by omega) hL d_law_581 ?_
  refine a_callVI (ci := 7) B (tM_turn G hM1 (xs (i + 1)) (xs (i + 2))) d_law_582 ok_Mo_turn ml_Law_64 ly_106 rfl rfl (by decide) (by decide) rfl (Nat.le_of_ble_eq_true rfl) (fun r2 τ2 h2 => ?_)
  obtain ⟨hr2, hM2, hF2⟩ := h2
  subst hr2
  have hC2 := RelC_fM hC1 hF2
  exact a_icmp_eq B 1193 d_law_585 rfl (fun _ => go _ _ hC2 hM2) (fun c9 => absurd rfl c9)
set_option maxHeartbeats 4000000 in
set_option maxRecDepth 20000 in
theorem w_hold {g : GG} {K : AK} {L i : Nat} {xs : Nat → Int32} {S : Sp} {σ : AH} (G : Gok g) (BL : CxL g K code 4 "LeafOrderLaw" 7 L xs) (hL : L < 2 ^ 31) (hi : i + 6 ≤ L) (hC : RelC S σ) (hM : RelM S σ) (go : GoL g K i) : AW g K 4 590 (lvL i) [] σ := by
  have B := BL.cx
  refine a_aload_n B d_law_590 rfl rfl ?_
  refine a_aload_n B d_law_591 rfl rfl ?_
  refine a_iload_n B d_law_592 rfl rfl ?_
  refine a_iconst B d_law_593 ci_1 ?_
  refine b_iadd B d_law_594 ?_
  refine a_sld BL (by omega) hL d_law_595 ?_
  refine a_aload_n B d_law_596 rfl rfl ?_
  refine a_iload_n B d_law_597 rfl rfl ?_
  refine a_iconst B d_law_598 ci_2 ?_
  refine b_iadd B d_law_599 ?_
  refine a_sld BL (by omega) hL d_law_600 ?_
  refine a_aload_n B d_law_601 rfl rfl ?_
  refine a_iload_n B d_law_602 rfl rfl ?_
  refine a_iconst B d_law_603 ci_3 ?_
  refine b_iadd B d_law_604 ?_
  refine a_sld BL (by omega) hL d_law_605 ?_
  refine a_if_eq B 613 d_law_606 rfl (fun c_606 => ?_) (fun c_606 => ?_)
  · skip
    have c_first := c_606
    refine a_iconst B d_law_613 ci_0 ?_
    refine a_callVI (ci := 6) B (tC_hold G hC (xs (i + 1)) (xs (i + 2)) false) d_law_614 ok_Lo_hold ml_Law_65 ly_0 rfl rfl (by decide) (by decide) rfl (Nat.le_of_ble_eq_true rfl) (fun r1 τ1 h1 => ?_)
    obtain ⟨hr1, hC1, hF1⟩ := h1
    subst hr1
    have hM1 := RelM_fC hM hF1
    refine a_aload_n B d_law_617 rfl rfl ?_
    refine a_aload_n B d_law_618 rfl rfl ?_
    refine a_iload_n B d_law_619 rfl rfl ?_
    refine a_iconst B d_law_620 ci_1 ?_
    refine b_iadd B d_law_621 ?_
    refine a_sld BL (by omega) hL d_law_622 ?_
    refine a_aload_n B d_law_623 rfl rfl ?_
    refine a_iload_n B d_law_624 rfl rfl ?_
    refine a_iconst B d_law_625 ci_2 ?_
    refine b_iadd B d_law_626 ?_
    refine a_sld BL (by omega) hL d_law_627 ?_
    refine a_aload_n B d_law_628 rfl rfl ?_
    refine a_iload_n B d_law_629 rfl rfl ?_
    refine a_iconst B d_law_630 ci_3 ?_
    refine b_iadd B d_law_631 ?_
    refine a_sld BL (by omega) hL d_law_632 ?_
    refine a_if_eq B 640 d_law_633 rfl (fun c_633 => ?_) (fun c_633 => ?_)
    · skip
      refine a_iconst B d_law_640 ci_0 ?_
      refine a_callVI (ci := 7) B (tM_hold G hM1 (xs (i + 1)) (xs (i + 2)) false) d_law_641 ok_Mo_hold ml_Law_69 ly_106 rfl rfl (by decide) (by decide) rfl (Nat.le_of_ble_eq_true rfl) (fun r2 τ2 h2 => ?_)
      obtain ⟨hr2, hM2, hF2⟩ := h2
      subst hr2
      have hC2 := RelC_fM hC1 hF2
      exact a_icmp_eq B 1193 d_law_644 rfl (fun _ => go _ _ hC2 hM2) (fun c9 => absurd rfl c9)
    · skip
      exact absurd c_first c_633
  · skip
    have c_first := c_606
    refine a_iconst B d_law_609 ci_1 ?_
    refine a_goto B 614 d_law_610 rfl ?_
    refine a_callVI (ci := 6) B (tC_hold G hC (xs (i + 1)) (xs (i + 2)) true) d_law_614 ok_Lo_hold ml_Law_65 ly_0 rfl rfl (by decide) (by decide) rfl (Nat.le_of_ble_eq_true rfl) (fun r1 τ1 h1 => ?_)
    obtain ⟨hr1, hC1, hF1⟩ := h1
    subst hr1
    have hM1 := RelM_fC hM hF1
    refine a_aload_n B d_law_617 rfl rfl ?_
    refine a_aload_n B d_law_618 rfl rfl ?_
    refine a_iload_n B d_law_619 rfl rfl ?_
    refine a_iconst B d_law_620 ci_1 ?_
    refine b_iadd B d_law_621 ?_
    refine a_sld BL (by omega) hL d_law_622 ?_
    refine a_aload_n B d_law_623 rfl rfl ?_
    refine a_iload_n B d_law_624 rfl rfl ?_
    refine a_iconst B d_law_625 ci_2 ?_
    refine b_iadd B d_law_626 ?_
    refine a_sld BL (by omega) hL d_law_627 ?_
    refine a_aload_n B d_law_628 rfl rfl ?_
    refine a_iload_n B d_law_629 rfl rfl ?_
    refine a_iconst B d_law_630 ci_3 ?_
    refine b_iadd B d_law_631 ?_
    refine a_sld BL (by omega) hL d_law_632 ?_
    refine a_if_eq B 640 d_law_633 rfl (fun c_633 => ?_) (fun c_633 => ?_)
    · skip
      exact absurd c_633 c_first
    · skip
      refine a_iconst B d_law_636 ci_1 ?_
      refine a_goto B 641 d_law_637 rfl ?_
      refine a_callVI (ci := 7) B (tM_hold G hM1 (xs (i + 1)) (xs (i + 2)) true) d_law_641 ok_Mo_hold ml_Law_69 ly_106 rfl rfl (by decide) (by decide) rfl (Nat.le_of_ble_eq_true rfl) (fun r2 τ2 h2 => ?_)
      obtain ⟨hr2, hM2, hF2⟩ := h2
      subst hr2
      have hC2 := RelC_fM hC1 hF2
      exact a_icmp_eq B 1193 d_law_644 rfl (fun _ => go _ _ hC2 hM2) (fun c9 => absurd rfl c9)
set_option maxHeartbeats 4000000 in
set_option maxRecDepth 20000 in
theorem w_order {g : GG} {K : AK} {L i : Nat} {xs : Nat → Int32} {S : Sp} {σ : AH} (G : Gok g) (BL : CxL g K code 4 "LeafOrderLaw" 7 L xs) (hL : L < 2 ^ 31) (hi : i + 6 ≤ L) (hC : RelC S σ) (hM : RelM S σ) (go : GoL g K i) : AW g K 4 649 (lvL i) [] σ := by
  have B := BL.cx
  refine a_aload_n B d_law_649 rfl rfl ?_
  refine a_aload_n B d_law_650 rfl rfl ?_
  refine a_iload_n B d_law_651 rfl rfl ?_
  refine a_iconst B d_law_652 ci_1 ?_
  refine b_iadd B d_law_653 ?_
  refine a_sld BL (by omega) hL d_law_654 ?_
  refine a_aload_n B d_law_655 rfl rfl ?_
  refine a_iload_n B d_law_656 rfl rfl ?_
  refine a_iconst B d_law_657 ci_2 ?_
  refine b_iadd B d_law_658 ?_
  refine a_sld BL (by omega) hL d_law_659 ?_
  refine a_callVI (ci := 6) B (tC_order G hC (xs (i + 1)) (xs (i + 2))) d_law_660 ok_Lo_order ml_Law_70 ly_0 rfl rfl (by decide) (by decide) rfl (Nat.le_of_ble_eq_true rfl) (fun r1 τ1 h1 => ?_)
  obtain ⟨hr1, hC1, hF1⟩ := h1
  subst hr1
  have hM1 := RelM_fC hM hF1
  refine a_aload_n B d_law_663 rfl rfl ?_
  refine a_aload_n B d_law_664 rfl rfl ?_
  refine a_iload_n B d_law_665 rfl rfl ?_
  refine a_iconst B d_law_666 ci_1 ?_
  refine b_iadd B d_law_667 ?_
  refine a_sld BL (by omega) hL d_law_668 ?_
  refine a_aload_n B d_law_669 rfl rfl ?_
  refine a_iload_n B d_law_670 rfl rfl ?_
  refine a_iconst B d_law_671 ci_2 ?_
  refine b_iadd B d_law_672 ?_
  refine a_sld BL (by omega) hL d_law_673 ?_
  refine a_callVI (ci := 7) B (tM_order G hM1 (xs (i + 1)) (xs (i + 2))) d_law_674 ok_Mo_order ml_Law_73 ly_106 rfl rfl (by decide) (by decide) rfl (Nat.le_of_ble_eq_true rfl) (fun r2 τ2 h2 => ?_)
  obtain ⟨hr2, hM2, hF2⟩ := h2
  subst hr2
  have hC2 := RelC_fM hC1 hF2
  exact a_icmp_eq B 1193 d_law_677 rfl (fun _ => go _ _ hC2 hM2) (fun c9 => absurd rfl c9)
set_option maxHeartbeats 4000000 in
set_option maxRecDepth 20000 in
theorem w_price {g : GG} {K : AK} {L i : Nat} {xs : Nat → Int32} {S : Sp} {σ : AH} (G : Gok g) (BL : CxL g K code 4 "LeafOrderLaw" 7 L xs) (hL : L < 2 ^ 31) (hi : i + 6 ≤ L) (hC : RelC S σ) (hM : RelM S σ) (go : GoL g K i) : AW g K 4 682 (lvL i) [] σ := by
  have B := BL.cx
  refine a_aload_n B d_law_682 rfl rfl ?_
  refine a_aload_n B d_law_683 rfl rfl ?_
  refine a_iload_n B d_law_684 rfl rfl ?_
  refine a_iconst B d_law_685 ci_1 ?_
  refine b_iadd B d_law_686 ?_
  refine a_sld BL (by omega) hL d_law_687 ?_
  refine a_callVI (ci := 6) B (tC_price G hC (xs (i + 1))) d_law_688 ok_Lo_price ml_Law_74 ly_0 rfl rfl (by decide) (by decide) rfl (Nat.le_of_ble_eq_true rfl) (fun r1 τ1 h1 => ?_)
  obtain ⟨hr1, hC1, hF1⟩ := h1
  subst hr1
  have hM1 := RelM_fC hM hF1
  refine a_aload_n B d_law_691 rfl rfl ?_
  refine a_aload_n B d_law_692 rfl rfl ?_
  refine a_iload_n B d_law_693 rfl rfl ?_
  refine a_iconst B d_law_694 ci_1 ?_
  refine b_iadd B d_law_695 ?_
  refine a_sld BL (by omega) hL d_law_696 ?_
  refine a_callVI (ci := 7) B (tM_price G hM1 (xs (i + 1))) d_law_697 ok_Mo_price ml_Law_77 ly_106 rfl rfl (by decide) (by decide) rfl (Nat.le_of_ble_eq_true rfl) (fun r2 τ2 h2 => ?_)
  obtain ⟨hr2, hM2, hF2⟩ := h2
  subst hr2
  have hC2 := RelC_fM hC1 hF2
  exact a_icmp_eq B 1193 d_law_700 rfl (fun _ => go _ _ hC2 hM2) (fun c9 => absurd rfl c9)
set_option maxHeartbeats 4000000 in
set_option maxRecDepth 20000 in
theorem w_best {g : GG} {K : AK} {L i : Nat} {xs : Nat → Int32} {S : Sp} {σ : AH} (G : Gok g) (BL : CxL g K code 4 "LeafOrderLaw" 7 L xs) (hL : L < 2 ^ 31) (hi : i + 6 ≤ L) (hC : RelC S σ) (hM : RelM S σ) (go : GoL g K i) : AW g K 4 705 (lvL i) [] σ := by
  have B := BL.cx
  refine a_aload_n B d_law_705 rfl rfl ?_
  refine a_aload_n B d_law_706 rfl rfl ?_
  refine a_iload_n B d_law_707 rfl rfl ?_
  refine a_iconst B d_law_708 ci_1 ?_
  refine b_iadd B d_law_709 ?_
  refine a_sld BL (by omega) hL d_law_710 ?_
  refine a_callVI (ci := 6) B (tC_best G hC (xs (i + 1))) d_law_711 ok_Lo_best ml_Law_78 ly_0 rfl rfl (by decide) (by decide) rfl (Nat.le_of_ble_eq_true rfl) (fun r1 τ1 h1 => ?_)
  obtain ⟨hr1, hC1, hF1⟩ := h1
  subst hr1
  have hM1 := RelM_fC hM hF1
  refine a_aload_n B d_law_714 rfl rfl ?_
  refine a_aload_n B d_law_715 rfl rfl ?_
  refine a_iload_n B d_law_716 rfl rfl ?_
  refine a_iconst B d_law_717 ci_1 ?_
  refine b_iadd B d_law_718 ?_
  refine a_sld BL (by omega) hL d_law_719 ?_
  refine a_callVI (ci := 7) B (tM_best G hM1 (xs (i + 1))) d_law_720 ok_Mo_best ml_Law_81 ly_106 rfl rfl (by decide) (by decide) rfl (Nat.le_of_ble_eq_true rfl) (fun r2 τ2 h2 => ?_)
  obtain ⟨hr2, hM2, hF2⟩ := h2
  subst hr2
  have hC2 := RelC_fM hC1 hF2
  exact a_icmp_eq B 1193 d_law_723 rfl (fun _ => go _ _ hC2 hM2) (fun c9 => absurd rfl c9)
set_option maxHeartbeats 4000000 in
set_option maxRecDepth 20000 in
theorem w_crossings {g : GG} {K : AK} {L i : Nat} {xs : Nat → Int32} {S : Sp} {σ : AH} (G : Gok g) (BL : CxL g K code 4 "LeafOrderLaw" 7 L xs) (hL : L < 2 ^ 31) (hi : i + 6 ≤ L) (hC : RelC S σ) (hM : RelM S σ) (go : GoL g K i) : AW g K 4 728 (lvL i) [] σ := by
  have B := BL.cx
  refine a_aload_n B d_law_728 rfl rfl ?_
  refine a_aload_n B d_law_729 rfl rfl ?_
  refine a_iload_n B d_law_730 rfl rfl ?_
  refine a_iconst B d_law_731 ci_1 ?_
  refine b_iadd B d_law_732 ?_
  refine a_sld BL (by omega) hL d_law_733 ?_
  refine a_aload_n B d_law_734 rfl rfl ?_
  refine a_iload_n B d_law_735 rfl rfl ?_
  refine a_iconst B d_law_736 ci_2 ?_
  refine b_iadd B d_law_737 ?_
  refine a_sld BL (by omega) hL d_law_738 ?_
  refine a_callVI (ci := 6) B (tC_crossings G hC (xs (i + 1)) (xs (i + 2))) d_law_739 ok_Lo_crossings ml_Law_82 ly_0 rfl rfl (by decide) (by decide) rfl (Nat.le_of_ble_eq_true rfl) (fun r1 τ1 h1 => ?_)
  obtain ⟨hr1, hC1, hF1⟩ := h1
  subst hr1
  have hM1 := RelM_fC hM hF1
  refine a_aload_n B d_law_742 rfl rfl ?_
  refine a_aload_n B d_law_743 rfl rfl ?_
  refine a_iload_n B d_law_744 rfl rfl ?_
  refine a_iconst B d_law_745 ci_1 ?_
  refine b_iadd B d_law_746 ?_
  refine a_sld BL (by omega) hL d_law_747 ?_
  refine a_aload_n B d_law_748 rfl rfl ?_
  refine a_iload_n B d_law_749 rfl rfl ?_
  refine a_iconst B d_law_750 ci_2 ?_
  refine b_iadd B d_law_751 ?_
  refine a_sld BL (by omega) hL d_law_752 ?_
  refine a_callVI (ci := 7) B (tM_crossings G hM1 (xs (i + 1)) (xs (i + 2))) d_law_753 ok_Mo_crossings ml_Law_85 ly_106 rfl rfl (by decide) (by decide) rfl (Nat.le_of_ble_eq_true rfl) (fun r2 τ2 h2 => ?_)
  obtain ⟨hr2, hM2, hF2⟩ := h2
  subst hr2
  have hC2 := RelC_fM hC1 hF2
  exact a_icmp_eq B 1193 d_law_756 rfl (fun _ => go _ _ hC2 hM2) (fun c9 => absurd rfl c9)
set_option maxHeartbeats 4000000 in
set_option maxRecDepth 20000 in
theorem w_face {g : GG} {K : AK} {L i : Nat} {xs : Nat → Int32} {S : Sp} {σ : AH} (G : Gok g) (BL : CxL g K code 4 "LeafOrderLaw" 7 L xs) (hL : L < 2 ^ 31) (hi : i + 6 ≤ L) (hC : RelC S σ) (hM : RelM S σ) (go : GoL g K i) : AW g K 4 761 (lvL i) [] σ := by
  have B := BL.cx
  refine a_aload_n B d_law_761 rfl rfl ?_
  refine a_aload_n B d_law_762 rfl rfl ?_
  refine a_iload_n B d_law_763 rfl rfl ?_
  refine a_iconst B d_law_764 ci_1 ?_
  refine b_iadd B d_law_765 ?_
  refine a_sld BL (by omega) hL d_law_766 ?_
  refine a_aload_n B d_law_767 rfl rfl ?_
  refine a_iload_n B d_law_768 rfl rfl ?_
  refine a_iconst B d_law_769 ci_2 ?_
  refine b_iadd B d_law_770 ?_
  refine a_sld BL (by omega) hL d_law_771 ?_
  refine a_callVI (ci := 6) B (tC_face G hC (xs (i + 1)) (xs (i + 2))) d_law_772 ok_Lo_face ml_Law_86 ly_0 rfl rfl (by decide) (by decide) rfl (Nat.le_of_ble_eq_true rfl) (fun r1 τ1 h1 => ?_)
  obtain ⟨hr1, hC1, hF1⟩ := h1
  subst hr1
  have hM1 := RelM_fC hM hF1
  refine a_aload_n B d_law_775 rfl rfl ?_
  refine a_aload_n B d_law_776 rfl rfl ?_
  refine a_iload_n B d_law_777 rfl rfl ?_
  refine a_iconst B d_law_778 ci_1 ?_
  refine b_iadd B d_law_779 ?_
  refine a_sld BL (by omega) hL d_law_780 ?_
  refine a_aload_n B d_law_781 rfl rfl ?_
  refine a_iload_n B d_law_782 rfl rfl ?_
  refine a_iconst B d_law_783 ci_2 ?_
  refine b_iadd B d_law_784 ?_
  refine a_sld BL (by omega) hL d_law_785 ?_
  refine a_callVI (ci := 7) B (tM_face G hM1 (xs (i + 1)) (xs (i + 2))) d_law_786 ok_Mo_face ml_Law_89 ly_106 rfl rfl (by decide) (by decide) rfl (Nat.le_of_ble_eq_true rfl) (fun r2 τ2 h2 => ?_)
  obtain ⟨hr2, hM2, hF2⟩ := h2
  subst hr2
  have hC2 := RelC_fM hC1 hF2
  exact a_icmp_eq B 1193 d_law_789 rfl (fun _ => go _ _ hC2 hM2) (fun c9 => absurd rfl c9)
set_option maxHeartbeats 4000000 in
set_option maxRecDepth 20000 in
theorem w_faceBoth {g : GG} {K : AK} {L i : Nat} {xs : Nat → Int32} {S : Sp} {σ : AH} (G : Gok g) (BL : CxL g K code 4 "LeafOrderLaw" 7 L xs) (hL : L < 2 ^ 31) (hi : i + 6 ≤ L) (hC : RelC S σ) (hM : RelM S σ) (go : GoL g K i) : AW g K 4 794 (lvL i) [] σ := by
  have B := BL.cx
  refine a_aload_n B d_law_794 rfl rfl ?_
  refine a_aload_n B d_law_795 rfl rfl ?_
  refine a_iload_n B d_law_796 rfl rfl ?_
  refine a_iconst B d_law_797 ci_1 ?_
  refine b_iadd B d_law_798 ?_
  refine a_sld BL (by omega) hL d_law_799 ?_
  refine a_aload_n B d_law_800 rfl rfl ?_
  refine a_iload_n B d_law_801 rfl rfl ?_
  refine a_iconst B d_law_802 ci_2 ?_
  refine b_iadd B d_law_803 ?_
  refine a_sld BL (by omega) hL d_law_804 ?_
  refine a_callVI (ci := 6) B (tC_faceBoth G hC (xs (i + 1)) (xs (i + 2))) d_law_805 ok_Lo_faceBoth ml_Law_90 ly_0 rfl rfl (by decide) (by decide) rfl (Nat.le_of_ble_eq_true rfl) (fun r1 τ1 h1 => ?_)
  obtain ⟨hr1, hC1, hF1⟩ := h1
  subst hr1
  have hM1 := RelM_fC hM hF1
  refine a_aload_n B d_law_808 rfl rfl ?_
  refine a_aload_n B d_law_809 rfl rfl ?_
  refine a_iload_n B d_law_810 rfl rfl ?_
  refine a_iconst B d_law_811 ci_1 ?_
  refine b_iadd B d_law_812 ?_
  refine a_sld BL (by omega) hL d_law_813 ?_
  refine a_aload_n B d_law_814 rfl rfl ?_
  refine a_iload_n B d_law_815 rfl rfl ?_
  refine a_iconst B d_law_816 ci_2 ?_
  refine b_iadd B d_law_817 ?_
  refine a_sld BL (by omega) hL d_law_818 ?_
  refine a_callVI (ci := 7) B (tM_faceBoth G hM1 (xs (i + 1)) (xs (i + 2))) d_law_819 ok_Mo_faceBoth ml_Law_93 ly_106 rfl rfl (by decide) (by decide) rfl (Nat.le_of_ble_eq_true rfl) (fun r2 τ2 h2 => ?_)
  obtain ⟨hr2, hM2, hF2⟩ := h2
  subst hr2
  have hC2 := RelC_fM hC1 hF2
  exact a_icmp_eq B 1193 d_law_822 rfl (fun _ => go _ _ hC2 hM2) (fun c9 => absurd rfl c9)
set_option maxHeartbeats 4000000 in
set_option maxRecDepth 20000 in
theorem w_fewest {g : GG} {K : AK} {L i : Nat} {xs : Nat → Int32} {S : Sp} {σ : AH} (G : Gok g) (BL : CxL g K code 4 "LeafOrderLaw" 7 L xs) (hL : L < 2 ^ 31) (hi : i + 6 ≤ L) (hC : RelC S σ) (hM : RelM S σ) (go : GoL g K i) : AW g K 4 827 (lvL i) [] σ := by
  have B := BL.cx
  refine a_aload_n B d_law_827 rfl rfl ?_
  refine a_aload_n B d_law_828 rfl rfl ?_
  refine a_iload_n B d_law_829 rfl rfl ?_
  refine a_iconst B d_law_830 ci_1 ?_
  refine b_iadd B d_law_831 ?_
  refine a_sld BL (by omega) hL d_law_832 ?_
  refine a_aload_n B d_law_833 rfl rfl ?_
  refine a_iload_n B d_law_834 rfl rfl ?_
  refine a_iconst B d_law_835 ci_2 ?_
  refine b_iadd B d_law_836 ?_
  refine a_sld BL (by omega) hL d_law_837 ?_
  refine a_callVI (ci := 6) B (tC_fewest G hC (xs (i + 1)) (xs (i + 2))) d_law_838 ok_Lo_fewest ml_Law_94 ly_0 rfl rfl (by decide) (by decide) rfl (Nat.le_of_ble_eq_true rfl) (fun r1 τ1 h1 => ?_)
  obtain ⟨hr1, hC1, hF1⟩ := h1
  subst hr1
  have hM1 := RelM_fC hM hF1
  refine a_aload_n B d_law_841 rfl rfl ?_
  refine a_aload_n B d_law_842 rfl rfl ?_
  refine a_iload_n B d_law_843 rfl rfl ?_
  refine a_iconst B d_law_844 ci_1 ?_
  refine b_iadd B d_law_845 ?_
  refine a_sld BL (by omega) hL d_law_846 ?_
  refine a_aload_n B d_law_847 rfl rfl ?_
  refine a_iload_n B d_law_848 rfl rfl ?_
  refine a_iconst B d_law_849 ci_2 ?_
  refine b_iadd B d_law_850 ?_
  refine a_sld BL (by omega) hL d_law_851 ?_
  refine a_callVI (ci := 7) B (tM_fewest G hM1 (xs (i + 1)) (xs (i + 2))) d_law_852 ok_Mo_fewest ml_Law_97 ly_106 rfl rfl (by decide) (by decide) rfl (Nat.le_of_ble_eq_true rfl) (fun r2 τ2 h2 => ?_)
  obtain ⟨hr2, hM2, hF2⟩ := h2
  subst hr2
  have hC2 := RelC_fM hC1 hF2
  exact a_icmp_eq B 1193 d_law_855 rfl (fun _ => go _ _ hC2 hM2) (fun c9 => absurd rfl c9)
set_option maxHeartbeats 4000000 in
set_option maxRecDepth 20000 in
theorem w_keep {g : GG} {K : AK} {L i : Nat} {xs : Nat → Int32} {S : Sp} {σ : AH} (G : Gok g) (BL : CxL g K code 4 "LeafOrderLaw" 7 L xs) (hL : L < 2 ^ 31) (hi : i + 6 ≤ L) (hC : RelC S σ) (hM : RelM S σ) (go : GoL g K i) : AW g K 4 860 (lvL i) [] σ := by
  have B := BL.cx
  refine a_aload_n B d_law_860 rfl rfl ?_
  refine a_aload_n B d_law_861 rfl rfl ?_
  refine a_iload_n B d_law_862 rfl rfl ?_
  refine a_iconst B d_law_863 ci_1 ?_
  refine b_iadd B d_law_864 ?_
  refine a_sld BL (by omega) hL d_law_865 ?_
  refine a_callVI (ci := 6) B (tC_keep G hC (xs (i + 1))) d_law_866 ok_Lo_keep ml_Law_98 ly_0 rfl rfl (by decide) (by decide) rfl (Nat.le_of_ble_eq_true rfl) (fun r1 τ1 h1 => ?_)
  obtain ⟨hr1, hC1, hF1⟩ := h1
  subst hr1
  have hM1 := RelM_fC hM hF1
  refine a_aload_n B d_law_869 rfl rfl ?_
  refine a_aload_n B d_law_870 rfl rfl ?_
  refine a_iload_n B d_law_871 rfl rfl ?_
  refine a_iconst B d_law_872 ci_1 ?_
  refine b_iadd B d_law_873 ?_
  refine a_sld BL (by omega) hL d_law_874 ?_
  refine a_callVI (ci := 7) B (tM_keep G hM1 (xs (i + 1))) d_law_875 ok_Mo_keep ml_Law_101 ly_106 rfl rfl (by decide) (by decide) rfl (Nat.le_of_ble_eq_true rfl) (fun r2 τ2 h2 => ?_)
  obtain ⟨hr2, hM2, hF2⟩ := h2
  subst hr2
  have hC2 := RelC_fM hC1 hF2
  exact a_icmp_eq B 1193 d_law_878 rfl (fun _ => go _ _ hC2 hM2) (fun c9 => absurd rfl c9)
set_option maxHeartbeats 4000000 in
set_option maxRecDepth 20000 in
theorem w_near {g : GG} {K : AK} {L i : Nat} {xs : Nat → Int32} {S : Sp} {σ : AH} (G : Gok g) (BL : CxL g K code 4 "LeafOrderLaw" 7 L xs) (hL : L < 2 ^ 31) (hi : i + 6 ≤ L) (hC : RelC S σ) (hM : RelM S σ) (go : GoL g K i) : AW g K 4 883 (lvL i) [] σ := by
  have B := BL.cx
  refine a_aload_n B d_law_883 rfl rfl ?_
  refine a_aload_n B d_law_884 rfl rfl ?_
  refine a_iload_n B d_law_885 rfl rfl ?_
  refine a_iconst B d_law_886 ci_1 ?_
  refine b_iadd B d_law_887 ?_
  refine a_sld BL (by omega) hL d_law_888 ?_
  refine a_callVI (ci := 6) B (tC_near G hC (xs (i + 1))) d_law_889 ok_Lo_near ml_Law_102 ly_0 rfl rfl (by decide) (by decide) rfl (Nat.le_of_ble_eq_true rfl) (fun r1 τ1 h1 => ?_)
  obtain ⟨hr1, hC1, hF1⟩ := h1
  subst hr1
  have hM1 := RelM_fC hM hF1
  refine a_aload_n B d_law_892 rfl rfl ?_
  refine a_aload_n B d_law_893 rfl rfl ?_
  refine a_iload_n B d_law_894 rfl rfl ?_
  refine a_iconst B d_law_895 ci_1 ?_
  refine b_iadd B d_law_896 ?_
  refine a_sld BL (by omega) hL d_law_897 ?_
  refine a_callVI (ci := 7) B (tM_near G hM1 (xs (i + 1))) d_law_898 ok_Mo_near ml_Law_105 ly_106 rfl rfl (by decide) (by decide) rfl (Nat.le_of_ble_eq_true rfl) (fun r2 τ2 h2 => ?_)
  obtain ⟨hr2, hM2, hF2⟩ := h2
  subst hr2
  have hC2 := RelC_fM hC1 hF2
  exact a_icmp_eq B 1193 d_law_901 rfl (fun _ => go _ _ hC2 hM2) (fun c9 => absurd rfl c9)
set_option maxHeartbeats 4000000 in
set_option maxRecDepth 20000 in
theorem w_cut {g : GG} {K : AK} {L i : Nat} {xs : Nat → Int32} {S : Sp} {σ : AH} (G : Gok g) (BL : CxL g K code 4 "LeafOrderLaw" 7 L xs) (hL : L < 2 ^ 31) (hi : i + 6 ≤ L) (hC : RelC S σ) (hM : RelM S σ) (go : GoL g K i) : AW g K 4 906 (lvL i) [] σ := by
  have B := BL.cx
  refine a_aload_n B d_law_906 rfl rfl ?_
  refine a_aload_n B d_law_907 rfl rfl ?_
  refine a_iload_n B d_law_908 rfl rfl ?_
  refine a_iconst B d_law_909 ci_1 ?_
  refine b_iadd B d_law_910 ?_
  refine a_sld BL (by omega) hL d_law_911 ?_
  refine a_aload_n B d_law_912 rfl rfl ?_
  refine a_iload_n B d_law_913 rfl rfl ?_
  refine a_iconst B d_law_914 ci_2 ?_
  refine b_iadd B d_law_915 ?_
  refine a_sld BL (by omega) hL d_law_916 ?_
  refine a_callVI (ci := 6) B (tC_cut G hC (xs (i + 1)) (xs (i + 2))) d_law_917 ok_Lo_cut ml_Law_106 ly_0 rfl rfl (by decide) (by decide) rfl (Nat.le_of_ble_eq_true rfl) (fun r1 τ1 h1 => ?_)
  obtain ⟨hr1, hC1, hF1⟩ := h1
  subst hr1
  have hM1 := RelM_fC hM hF1
  refine a_aload_n B d_law_920 rfl rfl ?_
  refine a_aload_n B d_law_921 rfl rfl ?_
  refine a_iload_n B d_law_922 rfl rfl ?_
  refine a_iconst B d_law_923 ci_1 ?_
  refine b_iadd B d_law_924 ?_
  refine a_sld BL (by omega) hL d_law_925 ?_
  refine a_aload_n B d_law_926 rfl rfl ?_
  refine a_iload_n B d_law_927 rfl rfl ?_
  refine a_iconst B d_law_928 ci_2 ?_
  refine b_iadd B d_law_929 ?_
  refine a_sld BL (by omega) hL d_law_930 ?_
  refine a_callVI (ci := 7) B (tM_cut G hM1 (xs (i + 1)) (xs (i + 2))) d_law_931 ok_Mo_cut ml_Law_109 ly_106 rfl rfl (by decide) (by decide) rfl (Nat.le_of_ble_eq_true rfl) (fun r2 τ2 h2 => ?_)
  obtain ⟨hr2, hM2, hF2⟩ := h2
  subst hr2
  have hC2 := RelC_fM hC1 hF2
  exact a_icmp_eq B 1193 d_law_934 rfl (fun _ => go _ _ hC2 hM2) (fun c9 => absurd rfl c9)
set_option maxHeartbeats 4000000 in
set_option maxRecDepth 20000 in
theorem w_group {g : GG} {K : AK} {L i : Nat} {xs : Nat → Int32} {S : Sp} {σ : AH} (G : Gok g) (BL : CxL g K code 4 "LeafOrderLaw" 7 L xs) (hL : L < 2 ^ 31) (hi : i + 6 ≤ L) (hC : RelC S σ) (hM : RelM S σ) (go : GoL g K i) : AW g K 4 939 (lvL i) [] σ := by
  have B := BL.cx
  refine a_aload_n B d_law_939 rfl rfl ?_
  refine a_aload_n B d_law_940 rfl rfl ?_
  refine a_iload_n B d_law_941 rfl rfl ?_
  refine a_iconst B d_law_942 ci_1 ?_
  refine b_iadd B d_law_943 ?_
  refine a_sld BL (by omega) hL d_law_944 ?_
  refine a_callVI (ci := 6) B (tC_group G hC (xs (i + 1))) d_law_945 ok_Lo_group ml_Law_110 ly_0 rfl rfl (by decide) (by decide) rfl (Nat.le_of_ble_eq_true rfl) (fun r1 τ1 h1 => ?_)
  obtain ⟨hr1, hC1, hF1⟩ := h1
  subst hr1
  have hM1 := RelM_fC hM hF1
  refine a_aload_n B d_law_948 rfl rfl ?_
  refine a_aload_n B d_law_949 rfl rfl ?_
  refine a_iload_n B d_law_950 rfl rfl ?_
  refine a_iconst B d_law_951 ci_1 ?_
  refine b_iadd B d_law_952 ?_
  refine a_sld BL (by omega) hL d_law_953 ?_
  refine a_callVI (ci := 7) B (tM_group G hM1 (xs (i + 1))) d_law_954 ok_Mo_group ml_Law_113 ly_106 rfl rfl (by decide) (by decide) rfl (Nat.le_of_ble_eq_true rfl) (fun r2 τ2 h2 => ?_)
  obtain ⟨hr2, hM2, hF2⟩ := h2
  subst hr2
  have hC2 := RelC_fM hC1 hF2
  exact a_icmp_eq B 1193 d_law_957 rfl (fun _ => go _ _ hC2 hM2) (fun c9 => absurd rfl c9)
set_option maxHeartbeats 4000000 in
set_option maxRecDepth 20000 in
theorem w_same {g : GG} {K : AK} {L i : Nat} {xs : Nat → Int32} {S : Sp} {σ : AH} (G : Gok g) (BL : CxL g K code 4 "LeafOrderLaw" 7 L xs) (hL : L < 2 ^ 31) (hi : i + 6 ≤ L) (hC : RelC S σ) (hM : RelM S σ) (go : GoL g K i) : AW g K 4 962 (lvL i) [] σ := by
  have B := BL.cx
  refine a_aload_n B d_law_962 rfl rfl ?_
  refine a_aload_n B d_law_963 rfl rfl ?_
  refine a_iload_n B d_law_964 rfl rfl ?_
  refine a_iconst B d_law_965 ci_1 ?_
  refine b_iadd B d_law_966 ?_
  refine a_sld BL (by omega) hL d_law_967 ?_
  refine a_aload_n B d_law_968 rfl rfl ?_
  refine a_iload_n B d_law_969 rfl rfl ?_
  refine a_iconst B d_law_970 ci_2 ?_
  refine b_iadd B d_law_971 ?_
  refine a_sld BL (by omega) hL d_law_972 ?_
  refine a_aload_n B d_law_973 rfl rfl ?_
  refine a_iload_n B d_law_974 rfl rfl ?_
  refine a_iconst B d_law_975 ci_3 ?_
  refine b_iadd B d_law_976 ?_
  refine a_sld BL (by omega) hL d_law_977 ?_
  refine a_callVI (ci := 6) B (tC_same G hC (xs (i + 1)) (xs (i + 2)) (xs (i + 3))) d_law_978 ok_Lo_same ml_Law_114 ly_0 rfl rfl (by decide) (by decide) rfl (Nat.le_of_ble_eq_true rfl) (fun r1 τ1 h1 => ?_)
  obtain ⟨hr1, hC1, hF1⟩ := h1
  subst hr1
  have hM1 := RelM_fC hM hF1
  refine a_aload_n B d_law_981 rfl rfl ?_
  refine a_aload_n B d_law_982 rfl rfl ?_
  refine a_iload_n B d_law_983 rfl rfl ?_
  refine a_iconst B d_law_984 ci_1 ?_
  refine b_iadd B d_law_985 ?_
  refine a_sld BL (by omega) hL d_law_986 ?_
  refine a_aload_n B d_law_987 rfl rfl ?_
  refine a_iload_n B d_law_988 rfl rfl ?_
  refine a_iconst B d_law_989 ci_2 ?_
  refine b_iadd B d_law_990 ?_
  refine a_sld BL (by omega) hL d_law_991 ?_
  refine a_aload_n B d_law_992 rfl rfl ?_
  refine a_iload_n B d_law_993 rfl rfl ?_
  refine a_iconst B d_law_994 ci_3 ?_
  refine b_iadd B d_law_995 ?_
  refine a_sld BL (by omega) hL d_law_996 ?_
  refine a_callVI (ci := 7) B (tM_same G hM1 (xs (i + 1)) (xs (i + 2)) (xs (i + 3))) d_law_997 ok_Mo_same ml_Law_117 ly_106 rfl rfl (by decide) (by decide) rfl (Nat.le_of_ble_eq_true rfl) (fun r2 τ2 h2 => ?_)
  obtain ⟨hr2, hM2, hF2⟩ := h2
  subst hr2
  have hC2 := RelC_fM hC1 hF2
  exact a_icmp_eq B 1193 d_law_1000 rfl (fun _ => go _ _ hC2 hM2) (fun c9 => absurd rfl c9)
set_option maxHeartbeats 4000000 in
set_option maxRecDepth 20000 in
theorem w_axes {g : GG} {K : AK} {L i : Nat} {xs : Nat → Int32} {S : Sp} {σ : AH} (G : Gok g) (BL : CxL g K code 4 "LeafOrderLaw" 7 L xs) (hL : L < 2 ^ 31) (hi : i + 6 ≤ L) (hC : RelC S σ) (hM : RelM S σ) (go : GoL g K i) : AW g K 4 1005 (lvL i) [] σ := by
  have B := BL.cx
  refine a_aload_n B d_law_1005 rfl rfl ?_
  refine a_aload_n B d_law_1006 rfl rfl ?_
  refine a_iload_n B d_law_1007 rfl rfl ?_
  refine a_iconst B d_law_1008 ci_1 ?_
  refine b_iadd B d_law_1009 ?_
  refine a_sld BL (by omega) hL d_law_1010 ?_
  refine a_callVI (ci := 6) B (tC_axes G hC (xs (i + 1))) d_law_1011 ok_Lo_axes ml_Law_118 ly_0 rfl rfl (by decide) (by decide) rfl (Nat.le_of_ble_eq_true rfl) (fun r1 τ1 h1 => ?_)
  obtain ⟨hr1, hC1, hF1⟩ := h1
  subst hr1
  have hM1 := RelM_fC hM hF1
  refine a_aload_n B d_law_1014 rfl rfl ?_
  refine a_aload_n B d_law_1015 rfl rfl ?_
  refine a_iload_n B d_law_1016 rfl rfl ?_
  refine a_iconst B d_law_1017 ci_1 ?_
  refine b_iadd B d_law_1018 ?_
  refine a_sld BL (by omega) hL d_law_1019 ?_
  refine a_callVI (ci := 7) B (tM_axes G hM1 (xs (i + 1))) d_law_1020 ok_Mo_axes ml_Law_121 ly_106 rfl rfl (by decide) (by decide) rfl (Nat.le_of_ble_eq_true rfl) (fun r2 τ2 h2 => ?_)
  obtain ⟨hr2, hM2, hF2⟩ := h2
  subst hr2
  have hC2 := RelC_fM hC1 hF2
  exact a_icmp_eq B 1193 d_law_1023 rfl (fun _ => go _ _ hC2 hM2) (fun c9 => absurd rfl c9)
set_option maxHeartbeats 4000000 in
set_option maxRecDepth 20000 in
theorem w_worth {g : GG} {K : AK} {L i : Nat} {xs : Nat → Int32} {S : Sp} {σ : AH} (G : Gok g) (BL : CxL g K code 4 "LeafOrderLaw" 7 L xs) (hL : L < 2 ^ 31) (hi : i + 6 ≤ L) (hC : RelC S σ) (hM : RelM S σ) (go : GoL g K i) : AW g K 4 1028 (lvL i) [] σ := by
  have B := BL.cx
  refine a_aload_n B d_law_1028 rfl rfl ?_
  refine a_aload_n B d_law_1029 rfl rfl ?_
  refine a_iload_n B d_law_1030 rfl rfl ?_
  refine a_iconst B d_law_1031 ci_1 ?_
  refine b_iadd B d_law_1032 ?_
  refine a_sld BL (by omega) hL d_law_1033 ?_
  refine a_aload_n B d_law_1034 rfl rfl ?_
  refine a_iload_n B d_law_1035 rfl rfl ?_
  refine a_iconst B d_law_1036 ci_2 ?_
  refine b_iadd B d_law_1037 ?_
  refine a_sld BL (by omega) hL d_law_1038 ?_
  refine a_aload_n B d_law_1039 rfl rfl ?_
  refine a_iload_n B d_law_1040 rfl rfl ?_
  refine a_iconst B d_law_1041 ci_3 ?_
  refine b_iadd B d_law_1042 ?_
  refine a_sld BL (by omega) hL d_law_1043 ?_
  refine a_callVI (ci := 6) B (tC_worth G hC (xs (i + 1)) (xs (i + 2)) (xs (i + 3))) d_law_1044 ok_Lo_worth ml_Law_122 ly_0 rfl rfl (by decide) (by decide) rfl (Nat.le_of_ble_eq_true rfl) (fun r1 τ1 h1 => ?_)
  obtain ⟨hr1, hC1, hF1⟩ := h1
  subst hr1
  have hM1 := RelM_fC hM hF1
  refine a_aload_n B d_law_1047 rfl rfl ?_
  refine a_aload_n B d_law_1048 rfl rfl ?_
  refine a_iload_n B d_law_1049 rfl rfl ?_
  refine a_iconst B d_law_1050 ci_1 ?_
  refine b_iadd B d_law_1051 ?_
  refine a_sld BL (by omega) hL d_law_1052 ?_
  refine a_aload_n B d_law_1053 rfl rfl ?_
  refine a_iload_n B d_law_1054 rfl rfl ?_
  refine a_iconst B d_law_1055 ci_2 ?_
  refine b_iadd B d_law_1056 ?_
  refine a_sld BL (by omega) hL d_law_1057 ?_
  refine a_aload_n B d_law_1058 rfl rfl ?_
  refine a_iload_n B d_law_1059 rfl rfl ?_
  refine a_iconst B d_law_1060 ci_3 ?_
  refine b_iadd B d_law_1061 ?_
  refine a_sld BL (by omega) hL d_law_1062 ?_
  refine a_callVI (ci := 7) B (tM_worth G hM1 (xs (i + 1)) (xs (i + 2)) (xs (i + 3))) d_law_1063 ok_Mo_worth ml_Law_125 ly_106 rfl rfl (by decide) (by decide) rfl (Nat.le_of_ble_eq_true rfl) (fun r2 τ2 h2 => ?_)
  obtain ⟨hr2, hM2, hF2⟩ := h2
  subst hr2
  have hC2 := RelC_fM hC1 hF2
  exact a_icmp_eq B 1193 d_law_1066 rfl (fun _ => go _ _ hC2 hM2) (fun c9 => absurd rfl c9)
set_option maxHeartbeats 4000000 in
set_option maxRecDepth 20000 in
theorem w_laying {g : GG} {K : AK} {L i : Nat} {xs : Nat → Int32} {S : Sp} {σ : AH} (G : Gok g) (BL : CxL g K code 4 "LeafOrderLaw" 7 L xs) (hL : L < 2 ^ 31) (hi : i + 6 ≤ L) (hC : RelC S σ) (hM : RelM S σ) (go : GoL g K i) : AW g K 4 1071 (lvL i) [] σ := by
  have B := BL.cx
  refine a_aload_n B d_law_1071 rfl rfl ?_
  refine a_callVI (ci := 6) B (tC_laying G hC ) d_law_1072 ok_Lo_laying ml_Law_126 ly_0 rfl rfl (by decide) (by decide) rfl (Nat.le_of_ble_eq_true rfl) (fun r1 τ1 h1 => ?_)
  obtain ⟨hr1, hC1, hF1⟩ := h1
  subst hr1
  have hM1 := RelM_fC hM hF1
  refine a_aload_n B d_law_1075 rfl rfl ?_
  refine a_callVI (ci := 7) B (tM_laying G hM1 ) d_law_1076 ok_Mo_laying ml_Law_130 ly_106 rfl rfl (by decide) (by decide) rfl (Nat.le_of_ble_eq_true rfl) (fun r2 τ2 h2 => ?_)
  obtain ⟨hr2, hM2, hF2⟩ := h2
  subst hr2
  have hC2 := RelC_fM hC1 hF2
  exact a_icmp_eq B 1193 d_law_1079 rfl (fun _ => go _ _ hC2 hM2) (fun c9 => absurd rfl c9)
set_option maxHeartbeats 4000000 in
set_option maxRecDepth 20000 in
theorem w_axis {g : GG} {K : AK} {L i : Nat} {xs : Nat → Int32} {S : Sp} {σ : AH} (G : Gok g) (BL : CxL g K code 4 "LeafOrderLaw" 7 L xs) (hL : L < 2 ^ 31) (hi : i + 6 ≤ L) (hC : RelC S σ) (hM : RelM S σ) (go : GoL g K i) : AW g K 4 1084 (lvL i) [] σ := by
  have B := BL.cx
  refine a_aload_n B d_law_1084 rfl rfl ?_
  refine a_aload_n B d_law_1085 rfl rfl ?_
  refine a_iload_n B d_law_1086 rfl rfl ?_
  refine a_iconst B d_law_1087 ci_1 ?_
  refine b_iadd B d_law_1088 ?_
  refine a_sld BL (by omega) hL d_law_1089 ?_
  refine a_callVI (ci := 6) B (tC_axis G hC (xs (i + 1))) d_law_1090 ok_Lo_axis ml_Law_131 ly_0 rfl rfl (by decide) (by decide) rfl (Nat.le_of_ble_eq_true rfl) (fun r1 τ1 h1 => ?_)
  obtain ⟨hr1, hC1, hF1⟩ := h1
  subst hr1
  have hM1 := RelM_fC hM hF1
  refine a_aload_n B d_law_1093 rfl rfl ?_
  refine a_aload_n B d_law_1094 rfl rfl ?_
  refine a_iload_n B d_law_1095 rfl rfl ?_
  refine a_iconst B d_law_1096 ci_1 ?_
  refine b_iadd B d_law_1097 ?_
  refine a_sld BL (by omega) hL d_law_1098 ?_
  refine a_callVI (ci := 7) B (tM_axis G hM1 (xs (i + 1))) d_law_1099 ok_Mo_axis ml_Law_134 ly_106 rfl rfl (by decide) (by decide) rfl (Nat.le_of_ble_eq_true rfl) (fun r2 τ2 h2 => ?_)
  obtain ⟨hr2, hM2, hF2⟩ := h2
  subst hr2
  have hC2 := RelC_fM hC1 hF2
  exact a_icmp_eq B 1193 d_law_1102 rfl (fun _ => go _ _ hC2 hM2) (fun c9 => absurd rfl c9)
set_option maxHeartbeats 4000000 in
set_option maxRecDepth 20000 in
theorem w_asked {g : GG} {K : AK} {L i : Nat} {xs : Nat → Int32} {S : Sp} {σ : AH} (G : Gok g) (BL : CxL g K code 4 "LeafOrderLaw" 7 L xs) (hL : L < 2 ^ 31) (hi : i + 6 ≤ L) (hC : RelC S σ) (hM : RelM S σ) (go : GoL g K i) : AW g K 4 1107 (lvL i) [] σ := by
  have B := BL.cx
  refine a_aload_n B d_law_1107 rfl rfl ?_
  refine a_callVI (ci := 6) B (tC_asked G hC ) d_law_1108 ok_Lo_asked ml_Law_135 ly_0 rfl rfl (by decide) (by decide) rfl (Nat.le_of_ble_eq_true rfl) (fun r1 τ1 h1 => ?_)
  obtain ⟨hr1, hs1⟩ := h1
  subst hr1
  replace hs1 := hs1.symm
  subst hs1
  have hM1 := hM
  have hC1 := hC
  refine a_aload_n B d_law_1111 rfl rfl ?_
  refine a_callVI (ci := 7) B (tM_asked G hM1 ) d_law_1112 ok_Mo_asked ml_Law_138 ly_106 rfl rfl (by decide) (by decide) rfl (Nat.le_of_ble_eq_true rfl) (fun r2 τ2 h2 => ?_)
  obtain ⟨hr2, hs2⟩ := h2
  subst hr2
  replace hs2 := hs2.symm
  subst hs2
  have hM2 := hM1
  have hC2 := hC1
  exact a_icmp_eq B 1193 d_law_1115 rfl (fun _ => go _ _ hC2 hM2) (fun c9 => absurd rfl c9)
set_option maxHeartbeats 4000000 in
set_option maxRecDepth 20000 in
theorem w_count {g : GG} {K : AK} {L i : Nat} {xs : Nat → Int32} {S : Sp} {σ : AH} (G : Gok g) (BL : CxL g K code 4 "LeafOrderLaw" 7 L xs) (hL : L < 2 ^ 31) (hi : i + 6 ≤ L) (hC : RelC S σ) (hM : RelM S σ) (go : GoL g K i) : AW g K 4 1120 (lvL i) [] σ := by
  have B := BL.cx
  refine a_aload_n B d_law_1120 rfl rfl ?_
  refine a_aload_n B d_law_1121 rfl rfl ?_
  refine a_iload_n B d_law_1122 rfl rfl ?_
  refine a_iconst B d_law_1123 ci_1 ?_
  refine b_iadd B d_law_1124 ?_
  refine a_sld BL (by omega) hL d_law_1125 ?_
  refine a_callVI (ci := 6) B (tC_count G hC (xs (i + 1))) d_law_1126 ok_Lo_count ml_Law_139 ly_0 rfl rfl (by decide) (by decide) rfl (Nat.le_of_ble_eq_true rfl) (fun r1 τ1 h1 => ?_)
  obtain ⟨hr1, hC1, hF1⟩ := h1
  subst hr1
  have hM1 := RelM_fC hM hF1
  refine a_aload_n B d_law_1129 rfl rfl ?_
  refine a_aload_n B d_law_1130 rfl rfl ?_
  refine a_iload_n B d_law_1131 rfl rfl ?_
  refine a_iconst B d_law_1132 ci_1 ?_
  refine b_iadd B d_law_1133 ?_
  refine a_sld BL (by omega) hL d_law_1134 ?_
  refine a_callVI (ci := 7) B (tM_count G hM1 (xs (i + 1))) d_law_1135 ok_Mo_count ml_Law_142 ly_106 rfl rfl (by decide) (by decide) rfl (Nat.le_of_ble_eq_true rfl) (fun r2 τ2 h2 => ?_)
  obtain ⟨hr2, hM2, hF2⟩ := h2
  subst hr2
  have hC2 := RelC_fM hC1 hF2
  exact a_icmp_eq B 1193 d_law_1138 rfl (fun _ => go _ _ hC2 hM2) (fun c9 => absurd rfl c9)
set_option maxHeartbeats 4000000 in
set_option maxRecDepth 20000 in
theorem w_finding {g : GG} {K : AK} {L i : Nat} {xs : Nat → Int32} {S : Sp} {σ : AH} (G : Gok g) (BL : CxL g K code 4 "LeafOrderLaw" 7 L xs) (hL : L < 2 ^ 31) (hi : i + 6 ≤ L) (hC : RelC S σ) (hM : RelM S σ) (go : GoL g K i) : AW g K 4 1143 (lvL i) [] σ := by
  have B := BL.cx
  refine a_aload_n B d_law_1143 rfl rfl ?_
  refine a_callVI (ci := 6) B (tC_finding G hC ) d_law_1144 ok_Lo_finding ml_Law_143 ly_0 rfl rfl (by decide) (by decide) rfl (Nat.le_of_ble_eq_true rfl) (fun r1 τ1 h1 => ?_)
  obtain ⟨hr1, hs1⟩ := h1
  subst hr1
  replace hs1 := hs1.symm
  subst hs1
  have hM1 := hM
  have hC1 := hC
  refine a_aload_n B d_law_1147 rfl rfl ?_
  refine a_callVI (ci := 7) B (tM_finding G hM1 ) d_law_1148 ok_Mo_finding ml_Law_146 ly_106 rfl rfl (by decide) (by decide) rfl (Nat.le_of_ble_eq_true rfl) (fun r2 τ2 h2 => ?_)
  obtain ⟨hr2, hs2⟩ := h2
  subst hr2
  replace hs2 := hs2.symm
  subst hs2
  have hM2 := hM1
  have hC2 := hC1
  exact a_icmp_eq B 1193 d_law_1151 rfl (fun _ => go _ _ hC2 hM2) (fun c9 => absurd rfl c9)
set_option maxHeartbeats 4000000 in
set_option maxRecDepth 20000 in
theorem w_findings {g : GG} {K : AK} {L i : Nat} {xs : Nat → Int32} {S : Sp} {σ : AH} (G : Gok g) (BL : CxL g K code 4 "LeafOrderLaw" 7 L xs) (hL : L < 2 ^ 31) (hi : i + 6 ≤ L) (hC : RelC S σ) (hM : RelM S σ) (go : GoL g K i) : AW g K 4 1156 (lvL i) [] σ := by
  have B := BL.cx
  refine a_aload_n B d_law_1156 rfl rfl ?_
  refine a_aload_n B d_law_1157 rfl rfl ?_
  refine a_iload_n B d_law_1158 rfl rfl ?_
  refine a_iconst B d_law_1159 ci_1 ?_
  refine b_iadd B d_law_1160 ?_
  refine a_sld BL (by omega) hL d_law_1161 ?_
  refine a_callVI (ci := 6) B (tC_findings G hC (xs (i + 1))) d_law_1162 ok_Lo_findings ml_Law_147 ly_0 rfl rfl (by decide) (by decide) rfl (Nat.le_of_ble_eq_true rfl) (fun r1 τ1 h1 => ?_)
  obtain ⟨hr1, hC1, hF1⟩ := h1
  subst hr1
  have hM1 := RelM_fC hM hF1
  refine a_aload_n B d_law_1165 rfl rfl ?_
  refine a_aload_n B d_law_1166 rfl rfl ?_
  refine a_iload_n B d_law_1167 rfl rfl ?_
  refine a_iconst B d_law_1168 ci_1 ?_
  refine b_iadd B d_law_1169 ?_
  refine a_sld BL (by omega) hL d_law_1170 ?_
  refine a_callVI (ci := 7) B (tM_findings G hM1 (xs (i + 1))) d_law_1171 ok_Mo_findings ml_Law_150 ly_106 rfl rfl (by decide) (by decide) rfl (Nat.le_of_ble_eq_true rfl) (fun r2 τ2 h2 => ?_)
  obtain ⟨hr2, hM2, hF2⟩ := h2
  subst hr2
  have hC2 := RelC_fM hC1 hF2
  exact a_icmp_eq B 1193 d_law_1174 rfl (fun _ => go _ _ hC2 hM2) (fun c9 => absurd rfl c9)
set_option maxHeartbeats 4000000 in
set_option maxRecDepth 20000 in
theorem w_digest {g : GG} {K : AK} {L i : Nat} {xs : Nat → Int32} {S : Sp} {σ : AH} (G : Gok g) (BL : CxL g K code 4 "LeafOrderLaw" 7 L xs) (hL : L < 2 ^ 31) (hi : i + 6 ≤ L) (hC : RelC S σ) (hM : RelM S σ) (go : GoL g K i) : AW g K 4 1179 (lvL i) [] σ := by
  have B := BL.cx
  refine a_aload_n B d_law_1179 rfl rfl ?_
  refine a_callVL (ci := 6) B (tC_digest G hC ) d_law_1180 ok_Lo_digest ml_Law_151 ly_0 rfl rfl (by decide) (by decide) rfl (Nat.le_of_ble_eq_true rfl) (fun r1 τ1 h1 => ?_)
  obtain ⟨hr1, hs1⟩ := h1
  subst hr1
  replace hs1 := hs1.symm
  subst hs1
  have hM1 := hM
  have hC1 := hC
  refine a_aload_n B d_law_1183 rfl rfl ?_
  refine a_callVL (ci := 7) B (tM_digest G hM1 ) d_law_1184 ok_Mo_digest ml_Law_155 ly_106 rfl rfl (by decide) (by decide) rfl (Nat.le_of_ble_eq_true rfl) (fun r2 τ2 h2 => ?_)
  obtain ⟨hr2, hs2⟩ := h2
  subst hr2
  replace hs2 := hs2.symm
  subst hs2
  have hM2 := hM1
  have hC2 := hC1
  refine a_lcmp B d_law_1187 ?_
  exact a_if_eq B 1193 d_law_1188 rfl (fun _ => go _ _ hC2 hM2) (fun c9 => absurd ((lg_cmp_eq _ _).mpr rfl) c9)
