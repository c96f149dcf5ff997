/-! the cases of the law -/
theorem x_clean1 {σ : Sg} {A : ST} (hA : RepM σ A) (hW : WF A) : OK SHm mX6_clean 20 [vR 0] σ (RP (fun v τ => v = qClean A ∧ RepM τ A)) :=
  (x_clean hA hW (by decide)).mono (fun r τ h => by obtain ⟨v, e, h1, h2, -⟩ := h; exact ⟨v, e, h1, h2⟩)
theorem x_run1 {σ : Sg} {A : ST} {h m what : Int} (hA : RepM σ A) (hW : WF A) (hx : R32 h) (hx2 : R32 m) (hx3 : R32 what) : OK SHm mX6_run 20 [vR 0, vI h, vI m, vI what] σ (RP (fun v τ => v = qRun A h m what ∧ RepM τ A)) :=
  (x_run hA hW hx hx2 hx3 (by decide)).mono (fun r τ h => by obtain ⟨e, rfl⟩ := h; exact ⟨_, e, rfl, hA⟩)

section CASES
variable {p : Program} {l : Launch} {e : Env} {s : State} {m : MethodId} {args : Array Value} {below : List Frame} {meth : Method} {c : Code} {D : va_G} {cA : ClassId} {z y b len : Nat} {xs : Nat → Int32} {Qf : State → Prop} {i : Nat} {σ τ : Sg}
theorem cs_write (C : LC p s m args c D cA z y b len xs) (hi : i + 5 < len) {A : ST} (h1 : RepC σ A) (h2 : RepM τ A) (hW : WF A) (kk : ∀ σ1 τ1 A1, RepC σ1 A1 → RepM τ1 A1 → WF A1 → LW p l e s m args below meth c D cA z y b Qf i 925 σ1 τ1 []) : LW p l e s m args below meth c D cA z y b Qf i 172 σ τ [] := by
  refine PW.aload_n C.1 dL_law_172 rfl ?_
  refine LW.arg C hi (j := 1) (by decide) rfl dL_law_173 dL_law_174 dL_law_175 dL_law_176 dL_law_177 ?_
  refine LW.callX C (vs := [vI (xv xs (i + 1))]) (c_write h1 hW (xv_r xs (i + 1))) dL_law_178 vl_L_13 rfl rfl rfl rfl (Nat.le_of_ble_eq_true rfl) (fun v1 σ1 hv1 => ?_)
  obtain ⟨rfl, h1⟩ := hv1
  refine PW.aload_n C.1 dL_law_181 rfl ?_
  refine LW.arg C hi (j := 1) (by decide) rfl dL_law_182 dL_law_183 dL_law_184 dL_law_185 dL_law_186 ?_
  refine LW.callM C (vs := [vI (xv xs (i + 1))]) (x_write h2 hW (xv_r xs (i + 1))) dL_law_187 vl_L_17 rfl rfl rfl rfl (Nat.le_of_ble_eq_true rfl) (fun v2 τ1 hv2 => ?_)
  obtain ⟨rfl, h2⟩ := hv2
  refine PW.icmp_same C.1 dL_law_190 (tgt := 925) rfl ?_
  exact kk σ1 τ1 _ h1 h2 (w_write hW)
theorem cs_wipe (C : LC p s m args c D cA z y b len xs) (hi : i + 5 < len) {A : ST} (h1 : RepC σ A) (h2 : RepM τ A) (hW : WF A) (kk : ∀ σ1 τ1 A1, RepC σ1 A1 → RepM τ1 A1 → WF A1 → LW p l e s m args below meth c D cA z y b Qf i 925 σ1 τ1 []) : LW p l e s m args below meth c D cA z y b Qf i 195 σ τ [] := by
  refine PW.aload_n C.1 dL_law_195 rfl ?_
  refine LW.callX C (vs := []) (c_wipe h1 hW ) dL_law_196 vl_L_18 rfl rfl rfl rfl (Nat.le_of_ble_eq_true rfl) (fun v1 σ1 hv1 => ?_)
  obtain ⟨rfl, h1⟩ := hv1
  refine PW.aload_n C.1 dL_law_199 rfl ?_
  refine LW.callM C (vs := []) (x_wipe h2 hW ) dL_law_200 vl_L_22 rfl rfl rfl rfl (Nat.le_of_ble_eq_true rfl) (fun v2 τ1 hv2 => ?_)
  obtain ⟨rfl, h2⟩ := hv2
  refine PW.icmp_same C.1 dL_law_203 (tgt := 925) rfl ?_
  exact kk σ1 τ1 _ h1 h2 (w_wipe hW)
theorem cs_fault (C : LC p s m args c D cA z y b len xs) (hi : i + 5 < len) {A : ST} (h1 : RepC σ A) (h2 : RepM τ A) (hW : WF A) (kk : ∀ σ1 τ1 A1, RepC σ1 A1 → RepM τ1 A1 → WF A1 → LW p l e s m args below meth c D cA z y b Qf i 925 σ1 τ1 []) : LW p l e s m args below meth c D cA z y b Qf i 208 σ τ [] := by
  refine PW.aload_n C.1 dL_law_208 rfl ?_
  refine LW.callX C (vs := []) (c_fault h1 hW ) dL_law_209 vl_L_23 rfl rfl rfl rfl (Nat.le_of_ble_eq_true rfl) (fun v1 σ1 hv1 => ?_)
  refine PW.aload_n C.1 dL_law_212 rfl ?_
  refine LW.callM C (vs := []) (x_fault h2 hW ) dL_law_213 vl_L_26 rfl rfl rfl rfl (Nat.le_of_ble_eq_true rfl) (fun v2 τ1 hv2 => ?_)
  obtain ⟨⟨y1, hy1⟩, h1⟩ := hv1
  obtain ⟨⟨y2, hy2⟩, h2⟩ := hv2
  obtain ⟨rfl, -⟩ := rdA_fun _ _ _ _ _ _ _ hy1 hy2
  refine PW.icmp_same C.1 dL_law_216 (tgt := 925) rfl ?_
  exact kk σ1 τ1 _ h1 h2 hW
theorem cs_lay (C : LC p s m args c D cA z y b len xs) (hi : i + 5 < len) {A : ST} (h1 : RepC σ A) (h2 : RepM τ A) (hW : WF A) (kk : ∀ σ1 τ1 A1, RepC σ1 A1 → RepM τ1 A1 → WF A1 → LW p l e s m args below meth c D cA z y b Qf i 925 σ1 τ1 []) : LW p l e s m args below meth c D cA z y b Qf i 221 σ τ [] := by
  refine PW.aload_n C.1 dL_law_221 rfl ?_
  refine LW.callX C (vs := []) (c_lay h1 hW ) dL_law_222 vl_L_27 rfl rfl rfl rfl (Nat.le_of_ble_eq_true rfl) (fun v1 σ1 hv1 => ?_)
  refine PW.aload_n C.1 dL_law_225 rfl ?_
  refine LW.callM C (vs := []) (x_lay h2 hW ) dL_law_226 vl_L_30 rfl rfl rfl rfl (Nat.le_of_ble_eq_true rfl) (fun v2 τ1 hv2 => ?_)
  obtain ⟨f1, y1, hy1, hw1, hv1⟩ := hv1
  obtain ⟨f2, y2, hy2, hw2, hv2⟩ := hv2
  obtain ⟨rfl, hyy⟩ := rdA_fun _ _ _ _ _ _ _ hy1 hy2
  rcases hv1 with ⟨a1, rfl, h1⟩ | ⟨a1, a2, rfl, h1⟩
  · rcases hv2 with ⟨b1, rfl, h2⟩ | ⟨b1, b2, rfl, h2⟩
    · exact PW.icmp_same C.1 dL_law_229 (tgt := 925) rfl (kk σ1 τ1 _ h1 h2 hW)
    · have e9 := hyy b1
      rw [e9] at a1
      rcases a1 with a1 | a1
      · exact absurd b1 a1
      · exact absurd a1 b2
  · have e9 := hyy a1
    subst e9
    rcases hv2 with ⟨b1, rfl, h2⟩ | ⟨b1, b2, rfl, h2⟩
    · rcases b1 with b1 | b1
      · exact absurd a1 b1
      · exact absurd b1 a2
    · exact PW.icmp_same C.1 dL_law_229 (tgt := 925) rfl (kk σ1 τ1 _ h1 h2 (w_lay hW (hw1 a1) a2))
theorem cs_thing (C : LC p s m args c D cA z y b len xs) (hi : i + 5 < len) {A : ST} (h1 : RepC σ A) (h2 : RepM τ A) (hW : WF A) (kk : ∀ σ1 τ1 A1, RepC σ1 A1 → RepM τ1 A1 → WF A1 → LW p l e s m args below meth c D cA z y b Qf i 925 σ1 τ1 []) : LW p l e s m args below meth c D cA z y b Qf i 234 σ τ [] := by
  refine PW.aload_n C.1 dL_law_234 rfl ?_
  refine LW.arg C hi (j := 1) (by decide) rfl dL_law_235 dL_law_236 dL_law_237 dL_law_238 dL_law_239 ?_
  refine LW.arg C hi (j := 2) (by decide) rfl dL_law_240 dL_law_241 dL_law_242 dL_law_243 dL_law_244 ?_
  refine LW.callX C (vs := [vI (xv xs (i + 1)), vI (xv xs (i + 2))]) (c_thing h1 hW (xv_r xs (i + 1)) (xv_r xs (i + 2))) dL_law_245 vl_L_31 rfl rfl rfl rfl (Nat.le_of_ble_eq_true rfl) (fun v1 σ1 hv1 => ?_)
  obtain ⟨rfl, h1⟩ := hv1
  refine PW.aload_n C.1 dL_law_248 rfl ?_
  refine LW.arg C hi (j := 1) (by decide) rfl dL_law_249 dL_law_250 dL_law_251 dL_law_252 dL_law_253 ?_
  refine LW.arg C hi (j := 2) (by decide) rfl dL_law_254 dL_law_255 dL_law_256 dL_law_257 dL_law_258 ?_
  refine LW.callM C (vs := [vI (xv xs (i + 1)), vI (xv xs (i + 2))]) (x_thing h2 hW (xv_r xs (i + 1)) (xv_r xs (i + 2))) dL_law_259 vl_L_35 rfl rfl rfl rfl (Nat.le_of_ble_eq_true rfl) (fun v2 τ1 hv2 => ?_)
  obtain ⟨rfl, h2⟩ := hv2
  refine PW.icmp_same C.1 dL_law_262 (tgt := 925) rfl ?_
  exact kk σ1 τ1 _ h1 h2 hW
theorem cs_slot (C : LC p s m args c D cA z y b len xs) (hi : i + 5 < len) {A : ST} (h1 : RepC σ A) (h2 : RepM τ A) (hW : WF A) (kk : ∀ σ1 τ1 A1, RepC σ1 A1 → RepM τ1 A1 → WF A1 → LW p l e s m args below meth c D cA z y b Qf i 925 σ1 τ1 []) : LW p l e s m args below meth c D cA z y b Qf i 267 σ τ [] := by
  refine PW.aload_n C.1 dL_law_267 rfl ?_
  refine LW.arg C hi (j := 1) (by decide) rfl dL_law_268 dL_law_269 dL_law_270 dL_law_271 dL_law_272 ?_
  refine LW.callX C (vs := [vI (xv xs (i + 1))]) (c_slot h1 hW (xv_r xs (i + 1))) dL_law_273 vl_L_36 rfl rfl rfl rfl (Nat.le_of_ble_eq_true rfl) (fun v1 σ1 hv1 => ?_)
  obtain ⟨rfl, h1⟩ := hv1
  refine PW.aload_n C.1 dL_law_276 rfl ?_
  refine LW.arg C hi (j := 1) (by decide) rfl dL_law_277 dL_law_278 dL_law_279 dL_law_280 dL_law_281 ?_
  refine LW.callM C (vs := [vI (xv xs (i + 1))]) (x_slot h2 hW (xv_r xs (i + 1))) dL_law_282 vl_L_39 rfl rfl rfl rfl (Nat.le_of_ble_eq_true rfl) (fun v2 τ1 hv2 => ?_)
  obtain ⟨rfl, h2⟩ := hv2
  refine PW.icmp_same C.1 dL_law_285 (tgt := 925) rfl ?_
  exact kk σ1 τ1 _ h1 h2 hW
theorem cs_putIn (C : LC p s m args c D cA z y b len xs) (hi : i + 5 < len) {A : ST} (h1 : RepC σ A) (h2 : RepM τ A) (hW : WF A) (kk : ∀ σ1 τ1 A1, RepC σ1 A1 → RepM τ1 A1 → WF A1 → LW p l e s m args below meth c D cA z y b Qf i 925 σ1 τ1 []) : LW p l e s m args below meth c D cA z y b Qf i 290 σ τ [] := by
  refine PW.aload_n C.1 dL_law_290 rfl ?_
  refine LW.arg C hi (j := 1) (by decide) rfl dL_law_291 dL_law_292 dL_law_293 dL_law_294 dL_law_295 ?_
  refine LW.arg C hi (j := 2) (by decide) rfl dL_law_296 dL_law_297 dL_law_298 dL_law_299 dL_law_300 ?_
  refine LW.arg C hi (j := 3) (by decide) rfl dL_law_301 dL_law_302 dL_law_303 dL_law_304 dL_law_305 ?_
  refine LW.callX C (vs := [vI (xv xs (i + 1)), vI (xv xs (i + 2)), vI (xv xs (i + 3))]) (c_putIn h1 hW (xv_r xs (i + 1)) (xv_r xs (i + 2)) (xv_r xs (i + 3))) dL_law_306 vl_L_40 rfl rfl rfl rfl (Nat.le_of_ble_eq_true rfl) (fun v1 σ1 hv1 => ?_)
  obtain ⟨rfl, h1⟩ := hv1
  refine PW.aload_n C.1 dL_law_309 rfl ?_
  refine LW.arg C hi (j := 1) (by decide) rfl dL_law_310 dL_law_311 dL_law_312 dL_law_313 dL_law_314 ?_
  refine LW.arg C hi (j := 2) (by decide) rfl dL_law_315 dL_law_316 dL_law_317 dL_law_318 dL_law_319 ?_
  refine LW.arg C hi (j := 3) (by decide) rfl dL_law_320 dL_law_321 dL_law_322 dL_law_323 dL_law_324 ?_
  refine LW.callM C (vs := [vI (xv xs (i + 1)), vI (xv xs (i + 2)), vI (xv xs (i + 3))]) (x_putIn h2 hW (xv_r xs (i + 1)) (xv_r xs (i + 2)) (xv_r xs (i + 3))) dL_law_325 vl_L_44 rfl rfl rfl rfl (Nat.le_of_ble_eq_true rfl) (fun v2 τ1 hv2 => ?_)
  obtain ⟨rfl, h2⟩ := hv2
  refine PW.icmp_same C.1 dL_law_328 (tgt := 925) rfl ?_
  exact kk σ1 τ1 _ h1 h2 (w_putIn hW)
theorem cs_turn (C : LC p s m args c D cA z y b len xs) (hi : i + 5 < len) {A : ST} (h1 : RepC σ A) (h2 : RepM τ A) (hW : WF A) (kk : ∀ σ1 τ1 A1, RepC σ1 A1 → RepM τ1 A1 → WF A1 → LW p l e s m args below meth c D cA z y b Qf i 925 σ1 τ1 []) : LW p l e s m args below meth c D cA z y b Qf i 333 σ τ [] := by
  refine PW.aload_n C.1 dL_law_333 rfl ?_
  refine LW.arg C hi (j := 1) (by decide) rfl dL_law_334 dL_law_335 dL_law_336 dL_law_337 dL_law_338 ?_
  refine LW.callX C (vs := [vI (xv xs (i + 1))]) (c_turn h1 hW (xv_r xs (i + 1))) dL_law_339 vl_L_45 rfl rfl rfl rfl (Nat.le_of_ble_eq_true rfl) (fun v1 σ1 hv1 => ?_)
  obtain ⟨rfl, h1⟩ := hv1
  refine PW.aload_n C.1 dL_law_342 rfl ?_
  refine LW.arg C hi (j := 1) (by decide) rfl dL_law_343 dL_law_344 dL_law_345 dL_law_346 dL_law_347 ?_
  refine LW.callM C (vs := [vI (xv xs (i + 1))]) (x_turn h2 hW (xv_r xs (i + 1))) dL_law_348 vl_L_48 rfl rfl rfl rfl (Nat.le_of_ble_eq_true rfl) (fun v2 τ1 hv2 => ?_)
  obtain ⟨rfl, h2⟩ := hv2
  refine PW.icmp_same C.1 dL_law_351 (tgt := 925) rfl ?_
  exact kk σ1 τ1 _ h1 h2 (w_turn hW)
theorem cs_takeOut (C : LC p s m args c D cA z y b len xs) (hi : i + 5 < len) {A : ST} (h1 : RepC σ A) (h2 : RepM τ A) (hW : WF A) (kk : ∀ σ1 τ1 A1, RepC σ1 A1 → RepM τ1 A1 → WF A1 → LW p l e s m args below meth c D cA z y b Qf i 925 σ1 τ1 []) : LW p l e s m args below meth c D cA z y b Qf i 356 σ τ [] := by
  refine PW.aload_n C.1 dL_law_356 rfl ?_
  refine LW.arg C hi (j := 1) (by decide) rfl dL_law_357 dL_law_358 dL_law_359 dL_law_360 dL_law_361 ?_
  refine LW.callX C (vs := [vI (xv xs (i + 1))]) (c_takeOut h1 hW (xv_r xs (i + 1))) dL_law_362 vl_L_49 rfl rfl rfl rfl (Nat.le_of_ble_eq_true rfl) (fun v1 σ1 hv1 => ?_)
  obtain ⟨rfl, h1⟩ := hv1
  refine PW.aload_n C.1 dL_law_365 rfl ?_
  refine LW.arg C hi (j := 1) (by decide) rfl dL_law_366 dL_law_367 dL_law_368 dL_law_369 dL_law_370 ?_
  refine LW.callM C (vs := [vI (xv xs (i + 1))]) (x_takeOut h2 hW (xv_r xs (i + 1))) dL_law_371 vl_L_52 rfl rfl rfl rfl (Nat.le_of_ble_eq_true rfl) (fun v2 τ1 hv2 => ?_)
  obtain ⟨rfl, h2⟩ := hv2
  refine PW.icmp_same C.1 dL_law_374 (tgt := 925) rfl ?_
  exact kk σ1 τ1 _ h1 h2 (w_takeOut hW)
theorem cs_wash (C : LC p s m args c D cA z y b len xs) (hi : i + 5 < len) {A : ST} (h1 : RepC σ A) (h2 : RepM τ A) (hW : WF A) (kk : ∀ σ1 τ1 A1, RepC σ1 A1 → RepM τ1 A1 → WF A1 → LW p l e s m args below meth c D cA z y b Qf i 925 σ1 τ1 []) : LW p l e s m args below meth c D cA z y b Qf i 379 σ τ [] := by
  refine PW.aload_n C.1 dL_law_379 rfl ?_
  refine LW.arg C hi (j := 1) (by decide) rfl dL_law_380 dL_law_381 dL_law_382 dL_law_383 dL_law_384 ?_
  refine LW.callX C (vs := [vI (xv xs (i + 1))]) (c_wash h1 hW (xv_r xs (i + 1))) dL_law_385 vl_L_53 rfl rfl rfl rfl (Nat.le_of_ble_eq_true rfl) (fun v1 σ1 hv1 => ?_)
  obtain ⟨rfl, h1⟩ := hv1
  refine PW.aload_n C.1 dL_law_388 rfl ?_
  refine LW.arg C hi (j := 1) (by decide) rfl dL_law_389 dL_law_390 dL_law_391 dL_law_392 dL_law_393 ?_
  refine LW.callM C (vs := [vI (xv xs (i + 1))]) (x_wash h2 hW (xv_r xs (i + 1))) dL_law_394 vl_L_56 rfl rfl rfl rfl (Nat.le_of_ble_eq_true rfl) (fun v2 τ1 hv2 => ?_)
  obtain ⟨rfl, h2⟩ := hv2
  refine PW.icmp_same C.1 dL_law_397 (tgt := 925) rfl ?_
  exact kk σ1 τ1 _ h1 h2 (w_wash hW)
theorem cs_water (C : LC p s m args c D cA z y b len xs) (hi : i + 5 < len) {A : ST} (h1 : RepC σ A) (h2 : RepM τ A) (hW : WF A) (kk : ∀ σ1 τ1 A1, RepC σ1 A1 → RepM τ1 A1 → WF A1 → LW p l e s m args below meth c D cA z y b Qf i 925 σ1 τ1 []) : LW p l e s m args below meth c D cA z y b Qf i 402 σ τ [] := by
  refine PW.aload_n C.1 dL_law_402 rfl ?_
  refine LW.arg C hi (j := 1) (by decide) rfl dL_law_403 dL_law_404 dL_law_405 dL_law_406 dL_law_407 ?_
  refine LW.callX C (vs := [vI (xv xs (i + 1))]) (c_water h1 hW (xv_r xs (i + 1))) dL_law_408 vl_L_57 rfl rfl rfl rfl (Nat.le_of_ble_eq_true rfl) (fun v1 σ1 hv1 => ?_)
  obtain ⟨rfl, h1⟩ := hv1
  refine PW.aload_n C.1 dL_law_411 rfl ?_
  refine LW.arg C hi (j := 1) (by decide) rfl dL_law_412 dL_law_413 dL_law_414 dL_law_415 dL_law_416 ?_
  refine LW.callM C (vs := [vI (xv xs (i + 1))]) (x_water h2 hW (xv_r xs (i + 1))) dL_law_417 vl_L_60 rfl rfl rfl rfl (Nat.le_of_ble_eq_true rfl) (fun v2 τ1 hv2 => ?_)
  obtain ⟨rfl, h2⟩ := hv2
  refine PW.icmp_same C.1 dL_law_420 (tgt := 925) rfl ?_
  exact kk σ1 τ1 _ h1 h2 (w_water hW)
theorem cs_undo (C : LC p s m args c D cA z y b len xs) (hi : i + 5 < len) {A : ST} (h1 : RepC σ A) (h2 : RepM τ A) (hW : WF A) (kk : ∀ σ1 τ1 A1, RepC σ1 A1 → RepM τ1 A1 → WF A1 → LW p l e s m args below meth c D cA z y b Qf i 925 σ1 τ1 []) : LW p l e s m args below meth c D cA z y b Qf i 425 σ τ [] := by
  refine PW.aload_n C.1 dL_law_425 rfl ?_
  refine LW.callX C (vs := []) (c_undo h1 hW ) dL_law_426 vl_L_61 rfl rfl rfl rfl (Nat.le_of_ble_eq_true rfl) (fun v1 σ1 hv1 => ?_)
  obtain ⟨rfl, h1⟩ := hv1
  refine PW.aload_n C.1 dL_law_429 rfl ?_
  refine LW.callM C (vs := []) (x_undo h2 hW ) dL_law_430 vl_L_64 rfl rfl rfl rfl (Nat.le_of_ble_eq_true rfl) (fun v2 τ1 hv2 => ?_)
  obtain ⟨rfl, h2⟩ := hv2
  refine PW.icmp_same C.1 dL_law_433 (tgt := 925) rfl ?_
  exact kk σ1 τ1 _ h1 h2 (w_undo hW)
theorem cs_stands (C : LC p s m args c D cA z y b len xs) (hi : i + 5 < len) {A : ST} (h1 : RepC σ A) (h2 : RepM τ A) (hW : WF A) (kk : ∀ σ1 τ1 A1, RepC σ1 A1 → RepM τ1 A1 → WF A1 → LW p l e s m args below meth c D cA z y b Qf i 925 σ1 τ1 []) : LW p l e s m args below meth c D cA z y b Qf i 438 σ τ [] := by
  refine PW.aload_n C.1 dL_law_438 rfl ?_
  refine LW.arg C hi (j := 1) (by decide) rfl dL_law_439 dL_law_440 dL_law_441 dL_law_442 dL_law_443 ?_
  refine LW.arg C hi (j := 2) (by decide) rfl dL_law_444 dL_law_445 dL_law_446 dL_law_447 dL_law_448 ?_
  refine LW.callX C (vs := [vI (xv xs (i + 1)), vI (xv xs (i + 2))]) (c_stands h1 hW (xv_r xs (i + 1)) (xv_r xs (i + 2))) dL_law_449 vl_L_65 rfl rfl rfl rfl (Nat.le_of_ble_eq_true rfl) (fun v1 σ1 hv1 => ?_)
  obtain ⟨rfl, h1⟩ := hv1
  refine PW.aload_n C.1 dL_law_452 rfl ?_
  refine LW.arg C hi (j := 1) (by decide) rfl dL_law_453 dL_law_454 dL_law_455 dL_law_456 dL_law_457 ?_
  refine LW.arg C hi (j := 2) (by decide) rfl dL_law_458 dL_law_459 dL_law_460 dL_law_461 dL_law_462 ?_
  refine LW.callM C (vs := [vI (xv xs (i + 1)), vI (xv xs (i + 2))]) (x_stands h2 hW (xv_r xs (i + 1)) (xv_r xs (i + 2))) dL_law_463 vl_L_68 rfl rfl rfl rfl (Nat.le_of_ble_eq_true rfl) (fun v2 τ1 hv2 => ?_)
  obtain ⟨rfl, h2⟩ := hv2
  refine PW.icmp_same C.1 dL_law_466 (tgt := 925) rfl ?_
  exact kk σ1 τ1 _ h1 h2 hW
theorem cs_clean (C : LC p s m args c D cA z y b len xs) (hi : i + 5 < len) {A : ST} (h1 : RepC σ A) (h2 : RepM τ A) (hW : WF A) (kk : ∀ σ1 τ1 A1, RepC σ1 A1 → RepM τ1 A1 → WF A1 → LW p l e s m args below meth c D cA z y b Qf i 925 σ1 τ1 []) : LW p l e s m args below meth c D cA z y b Qf i 471 σ τ [] := by
  refine PW.aload_n C.1 dL_law_471 rfl ?_
  refine LW.callX C (vs := []) (c_clean h1 hW ) dL_law_472 vl_L_69 rfl rfl rfl rfl (Nat.le_of_ble_eq_true rfl) (fun v1 σ1 hv1 => ?_)
  obtain ⟨rfl, h1⟩ := hv1
  refine PW.aload_n C.1 dL_law_475 rfl ?_
  refine LW.callM C (vs := []) (x_clean1 h2 hW ) dL_law_476 vl_L_72 rfl rfl rfl rfl (Nat.le_of_ble_eq_true rfl) (fun v2 τ1 hv2 => ?_)
  obtain ⟨rfl, h2⟩ := hv2
  refine PW.icmp_same C.1 dL_law_479 (tgt := 925) rfl ?_
  exact kk σ1 τ1 _ h1 h2 hW
theorem cs_pooled (C : LC p s m args c D cA z y b len xs) (hi : i + 5 < len) {A : ST} (h1 : RepC σ A) (h2 : RepM τ A) (hW : WF A) (kk : ∀ σ1 τ1 A1, RepC σ1 A1 → RepM τ1 A1 → WF A1 → LW p l e s m args below meth c D cA z y b Qf i 925 σ1 τ1 []) : LW p l e s m args below meth c D cA z y b Qf i 484 σ τ [] := by
  refine PW.aload_n C.1 dL_law_484 rfl ?_
  refine LW.callX C (vs := []) (c_pooled h1 hW ) dL_law_485 vl_L_73 rfl rfl rfl rfl (Nat.le_of_ble_eq_true rfl) (fun v1 σ1 hv1 => ?_)
  obtain ⟨rfl, h1⟩ := hv1
  refine PW.aload_n C.1 dL_law_488 rfl ?_
  refine LW.callM C (vs := []) (x_pooled h2 hW ) dL_law_489 vl_L_76 rfl rfl rfl rfl (Nat.le_of_ble_eq_true rfl) (fun v2 τ1 hv2 => ?_)
  obtain ⟨rfl, h2⟩ := hv2
  refine PW.icmp_same C.1 dL_law_492 (tgt := 925) rfl ?_
  exact kk σ1 τ1 _ h1 h2 hW
theorem cs_room (C : LC p s m args c D cA z y b len xs) (hi : i + 5 < len) {A : ST} (h1 : RepC σ A) (h2 : RepM τ A) (hW : WF A) (kk : ∀ σ1 τ1 A1, RepC σ1 A1 → RepM τ1 A1 → WF A1 → LW p l e s m args below meth c D cA z y b Qf i 925 σ1 τ1 []) : LW p l e s m args below meth c D cA z y b Qf i 497 σ τ [] := by
  refine PW.aload_n C.1 dL_law_497 rfl ?_
  refine LW.arg C hi (j := 1) (by decide) rfl dL_law_498 dL_law_499 dL_law_500 dL_law_501 dL_law_502 ?_
  refine LW.callX C (vs := [vI (xv xs (i + 1))]) (c_room h1 hW (xv_r xs (i + 1))) dL_law_503 vl_L_77 rfl rfl rfl rfl (Nat.le_of_ble_eq_true rfl) (fun v1 σ1 hv1 => ?_)
  obtain ⟨rfl, h1⟩ := hv1
  refine PW.aload_n C.1 dL_law_506 rfl ?_
  refine LW.arg C hi (j := 1) (by decide) rfl dL_law_507 dL_law_508 dL_law_509 dL_law_510 dL_law_511 ?_
  refine LW.callM C (vs := [vI (xv xs (i + 1))]) (x_room h2 hW (xv_r xs (i + 1))) dL_law_512 vl_L_80 rfl rfl rfl rfl (Nat.le_of_ble_eq_true rfl) (fun v2 τ1 hv2 => ?_)
  obtain ⟨rfl, h2⟩ := hv2
  refine PW.icmp_same C.1 dL_law_515 (tgt := 925) rfl ?_
  exact kk σ1 τ1 _ h1 h2 hW
theorem cs_place (C : LC p s m args c D cA z y b len xs) (hi : i + 5 < len) {A : ST} (h1 : RepC σ A) (h2 : RepM τ A) (hW : WF A) (kk : ∀ σ1 τ1 A1, RepC σ1 A1 → RepM τ1 A1 → WF A1 → LW p l e s m args below meth c D cA z y b Qf i 925 σ1 τ1 []) : LW p l e s m args below meth c D cA z y b Qf i 520 σ τ [] := by
  refine PW.aload_n C.1 dL_law_520 rfl ?_
  refine LW.arg C hi (j := 1) (by decide) rfl dL_law_521 dL_law_522 dL_law_523 dL_law_524 dL_law_525 ?_
  refine LW.arg C hi (j := 2) (by decide) rfl dL_law_526 dL_law_527 dL_law_528 dL_law_529 dL_law_530 ?_
  refine LW.callX C (vs := [vI (xv xs (i + 1)), vI (xv xs (i + 2))]) (c_place h1 hW (xv_r xs (i + 1)) (xv_r xs (i + 2))) dL_law_531 vl_L_81 rfl rfl rfl rfl (Nat.le_of_ble_eq_true rfl) (fun v1 σ1 hv1 => ?_)
  obtain ⟨rfl, h1⟩ := hv1
  refine PW.aload_n C.1 dL_law_534 rfl ?_
  refine LW.arg C hi (j := 1) (by decide) rfl dL_law_535 dL_law_536 dL_law_537 dL_law_538 dL_law_539 ?_
  refine LW.arg C hi (j := 2) (by decide) rfl dL_law_540 dL_law_541 dL_law_542 dL_law_543 dL_law_544 ?_
  refine LW.callM C (vs := [vI (xv xs (i + 1)), vI (xv xs (i + 2))]) (x_place h2 hW (xv_r xs (i + 1)) (xv_r xs (i + 2))) dL_law_545 vl_L_84 rfl rfl rfl rfl (Nat.le_of_ble_eq_true rfl) (fun v2 τ1 hv2 => ?_)
  obtain ⟨rfl, h2⟩ := hv2
  refine PW.icmp_same C.1 dL_law_548 (tgt := 925) rfl ?_
  exact kk σ1 τ1 _ h1 h2 hW
theorem cs_byHand (C : LC p s m args c D cA z y b len xs) (hi : i + 5 < len) {A : ST} (h1 : RepC σ A) (h2 : RepM τ A) (hW : WF A) (kk : ∀ σ1 τ1 A1, RepC σ1 A1 → RepM τ1 A1 → WF A1 → LW p l e s m args below meth c D cA z y b Qf i 925 σ1 τ1 []) : LW p l e s m args below meth c D cA z y b Qf i 553 σ τ [] := by
  refine PW.aload_n C.1 dL_law_553 rfl ?_
  refine LW.arg C hi (j := 1) (by decide) rfl dL_law_554 dL_law_555 dL_law_556 dL_law_557 dL_law_558 ?_
  refine LW.callX C (vs := [vI (xv xs (i + 1))]) (c_byHand h1 hW (xv_r xs (i + 1))) dL_law_559 vl_L_85 rfl rfl rfl rfl (Nat.le_of_ble_eq_true rfl) (fun v1 σ1 hv1 => ?_)
  obtain ⟨rfl, h1⟩ := hv1
  refine PW.aload_n C.1 dL_law_562 rfl ?_
  refine LW.arg C hi (j := 1) (by decide) rfl dL_law_563 dL_law_564 dL_law_565 dL_law_566 dL_law_567 ?_
  refine LW.callM C (vs := [vI (xv xs (i + 1))]) (x_byHand h2 hW (xv_r xs (i + 1))) dL_law_568 vl_L_88 rfl rfl rfl rfl (Nat.le_of_ble_eq_true rfl) (fun v2 τ1 hv2 => ?_)
  obtain ⟨rfl, h2⟩ := hv2
  refine PW.icmp_same C.1 dL_law_571 (tgt := 925) rfl ?_
  exact kk σ1 τ1 _ h1 h2 hW
theorem cs_order (C : LC p s m args c D cA z y b len xs) (hi : i + 5 < len) {A : ST} (h1 : RepC σ A) (h2 : RepM τ A) (hW : WF A) (kk : ∀ σ1 τ1 A1, RepC σ1 A1 → RepM τ1 A1 → WF A1 → LW p l e s m args below meth c D cA z y b Qf i 925 σ1 τ1 []) : LW p l e s m args below meth c D cA z y b Qf i 576 σ τ [] := by
  refine PW.aload_n C.1 dL_law_576 rfl ?_
  refine LW.arg C hi (j := 1) (by decide) rfl dL_law_577 dL_law_578 dL_law_579 dL_law_580 dL_law_581 ?_
  refine LW.callX C (vs := [vI (xv xs (i + 1))]) (c_order h1 hW (xv_r xs (i + 1))) dL_law_582 vl_L_89 rfl rfl rfl rfl (Nat.le_of_ble_eq_true rfl) (fun v1 σ1 hv1 => ?_)
  obtain ⟨rfl, h1⟩ := hv1
  refine PW.aload_n C.1 dL_law_585 rfl ?_
  refine LW.arg C hi (j := 1) (by decide) rfl dL_law_586 dL_law_587 dL_law_588 dL_law_589 dL_law_590 ?_
  refine LW.callM C (vs := [vI (xv xs (i + 1))]) (x_order h2 hW (xv_r xs (i + 1))) dL_law_591 vl_L_92 rfl rfl rfl rfl (Nat.le_of_ble_eq_true rfl) (fun v2 τ1 hv2 => ?_)
  obtain ⟨rfl, h2⟩ := hv2
  refine PW.icmp_same C.1 dL_law_594 (tgt := 925) rfl ?_
  exact kk σ1 τ1 _ h1 h2 hW
theorem cs_ways (C : LC p s m args c D cA z y b len xs) (hi : i + 5 < len) {A : ST} (h1 : RepC σ A) (h2 : RepM τ A) (hW : WF A) (kk : ∀ σ1 τ1 A1, RepC σ1 A1 → RepM τ1 A1 → WF A1 → LW p l e s m args below meth c D cA z y b Qf i 925 σ1 τ1 []) : LW p l e s m args below meth c D cA z y b Qf i 599 σ τ [] := by
  refine PW.aload_n C.1 dL_law_599 rfl ?_
  refine LW.arg C hi (j := 1) (by decide) rfl dL_law_600 dL_law_601 dL_law_602 dL_law_603 dL_law_604 ?_
  refine LW.callX C (vs := [vI (xv xs (i + 1))]) (c_ways h1 hW (xv_r xs (i + 1))) dL_law_605 vl_L_93 rfl rfl rfl rfl (Nat.le_of_ble_eq_true rfl) (fun v1 σ1 hv1 => ?_)
  obtain ⟨rfl, h1⟩ := hv1
  refine PW.aload_n C.1 dL_law_608 rfl ?_
  refine LW.arg C hi (j := 1) (by decide) rfl dL_law_609 dL_law_610 dL_law_611 dL_law_612 dL_law_613 ?_
  refine LW.callM C (vs := [vI (xv xs (i + 1))]) (x_ways h2 hW (xv_r xs (i + 1))) dL_law_614 vl_L_96 rfl rfl rfl rfl (Nat.le_of_ble_eq_true rfl) (fun v2 τ1 hv2 => ?_)
  obtain ⟨rfl, h2⟩ := hv2
  refine PW.icmp_same C.1 dL_law_617 (tgt := 925) rfl ?_
  exact kk σ1 τ1 _ h1 h2 hW
theorem cs_weakest (C : LC p s m args c D cA z y b len xs) (hi : i + 5 < len) {A : ST} (h1 : RepC σ A) (h2 : RepM τ A) (hW : WF A) (kk : ∀ σ1 τ1 A1, RepC σ1 A1 → RepM τ1 A1 → WF A1 → LW p l e s m args below meth c D cA z y b Qf i 925 σ1 τ1 []) : LW p l e s m args below meth c D cA z y b Qf i 622 σ τ [] := by
  refine PW.aload_n C.1 dL_law_622 rfl ?_
  refine LW.callX C (vs := []) (c_weakest h1 hW ) dL_law_623 vl_L_97 rfl rfl rfl rfl (Nat.le_of_ble_eq_true rfl) (fun v1 σ1 hv1 => ?_)
  obtain ⟨rfl, h1⟩ := hv1
  refine PW.aload_n C.1 dL_law_626 rfl ?_
  refine LW.callM C (vs := []) (x_weakest h2 hW ) dL_law_627 vl_L_100 rfl rfl rfl rfl (Nat.le_of_ble_eq_true rfl) (fun v2 τ1 hv2 => ?_)
  obtain ⟨rfl, h2⟩ := hv2
  refine PW.icmp_same C.1 dL_law_630 (tgt := 925) rfl ?_
  exact kk σ1 τ1 _ h1 h2 hW
theorem cs_seen (C : LC p s m args c D cA z y b len xs) (hi : i + 5 < len) {A : ST} (h1 : RepC σ A) (h2 : RepM τ A) (hW : WF A) (kk : ∀ σ1 τ1 A1, RepC σ1 A1 → RepM τ1 A1 → WF A1 → LW p l e s m args below meth c D cA z y b Qf i 925 σ1 τ1 []) : LW p l e s m args below meth c D cA z y b Qf i 635 σ τ [] := by
  refine PW.aload_n C.1 dL_law_635 rfl ?_
  refine LW.arg C hi (j := 1) (by decide) rfl dL_law_636 dL_law_637 dL_law_638 dL_law_639 dL_law_640 ?_
  refine LW.arg C hi (j := 2) (by decide) rfl dL_law_641 dL_law_642 dL_law_643 dL_law_644 dL_law_645 ?_
  refine LW.callX C (vs := [vI (xv xs (i + 1)), vI (xv xs (i + 2))]) (c_seen h1 hW (xv_r xs (i + 1)) (xv_r xs (i + 2))) dL_law_646 vl_L_101 rfl rfl rfl rfl (Nat.le_of_ble_eq_true rfl) (fun v1 σ1 hv1 => ?_)
  obtain ⟨rfl, h1⟩ := hv1
  refine PW.aload_n C.1 dL_law_649 rfl ?_
  refine LW.arg C hi (j := 1) (by decide) rfl dL_law_650 dL_law_651 dL_law_652 dL_law_653 dL_law_654 ?_
  refine LW.arg C hi (j := 2) (by decide) rfl dL_law_655 dL_law_656 dL_law_657 dL_law_658 dL_law_659 ?_
  refine LW.callM C (vs := [vI (xv xs (i + 1)), vI (xv xs (i + 2))]) (x_seen h2 hW (xv_r xs (i + 1)) (xv_r xs (i + 2))) dL_law_660 vl_L_104 rfl rfl rfl rfl (Nat.le_of_ble_eq_true rfl) (fun v2 τ1 hv2 => ?_)
  obtain ⟨rfl, h2⟩ := hv2
  refine PW.icmp_same C.1 dL_law_663 (tgt := 925) rfl ?_
  exact kk σ1 τ1 _ h1 h2 (w_seen hW)
theorem cs_forget (C : LC p s m args c D cA z y b len xs) (hi : i + 5 < len) {A : ST} (h1 : RepC σ A) (h2 : RepM τ A) (hW : WF A) (kk : ∀ σ1 τ1 A1, RepC σ1 A1 → RepM τ1 A1 → WF A1 → LW p l e s m args below meth c D cA z y b Qf i 925 σ1 τ1 []) : LW p l e s m args below meth c D cA z y b Qf i 668 σ τ [] := by
  refine PW.aload_n C.1 dL_law_668 rfl ?_
  refine LW.callX C (vs := []) (c_forget h1 hW ) dL_law_669 vl_L_105 rfl rfl rfl rfl (Nat.le_of_ble_eq_true rfl) (fun v1 σ1 hv1 => ?_)
  obtain ⟨rfl, h1⟩ := hv1
  refine PW.aload_n C.1 dL_law_672 rfl ?_
  refine LW.callM C (vs := []) (x_forget h2 hW ) dL_law_673 vl_L_108 rfl rfl rfl rfl (Nat.le_of_ble_eq_true rfl) (fun v2 τ1 hv2 => ?_)
  obtain ⟨rfl, h2⟩ := hv2
  refine PW.icmp_same C.1 dL_law_676 (tgt := 925) rfl ?_
  exact kk σ1 τ1 _ h1 h2 (w_forget hW)
theorem cs_strong (C : LC p s m args c D cA z y b len xs) (hi : i + 5 < len) {A : ST} (h1 : RepC σ A) (h2 : RepM τ A) (hW : WF A) (kk : ∀ σ1 τ1 A1, RepC σ1 A1 → RepM τ1 A1 → WF A1 → LW p l e s m args below meth c D cA z y b Qf i 925 σ1 τ1 []) : LW p l e s m args below meth c D cA z y b Qf i 681 σ τ [] := by
  refine PW.aload_n C.1 dL_law_681 rfl ?_
  refine LW.callX C (vs := []) (c_strong h1 hW ) dL_law_682 vl_L_109 rfl rfl rfl rfl (Nat.le_of_ble_eq_true rfl) (fun v1 σ1 hv1 => ?_)
  obtain ⟨rfl, h1⟩ := hv1
  refine PW.aload_n C.1 dL_law_685 rfl ?_
  refine LW.callM C (vs := []) (x_strong h2 hW ) dL_law_686 vl_L_112 rfl rfl rfl rfl (Nat.le_of_ble_eq_true rfl) (fun v2 τ1 hv2 => ?_)
  obtain ⟨rfl, h2⟩ := hv2
  refine PW.icmp_same C.1 dL_law_689 (tgt := 925) rfl ?_
  exact kk σ1 τ1 _ h1 h2 hW
theorem cs_run (C : LC p s m args c D cA z y b len xs) (hi : i + 5 < len) {A : ST} (h1 : RepC σ A) (h2 : RepM τ A) (hW : WF A) (kk : ∀ σ1 τ1 A1, RepC σ1 A1 → RepM τ1 A1 → WF A1 → LW p l e s m args below meth c D cA z y b Qf i 925 σ1 τ1 []) : LW p l e s m args below meth c D cA z y b Qf i 694 σ τ [] := by
  refine PW.aload_n C.1 dL_law_694 rfl ?_
  refine LW.arg C hi (j := 1) (by decide) rfl dL_law_695 dL_law_696 dL_law_697 dL_law_698 dL_law_699 ?_
  refine LW.arg C hi (j := 2) (by decide) rfl dL_law_700 dL_law_701 dL_law_702 dL_law_703 dL_law_704 ?_
  refine LW.arg C hi (j := 3) (by decide) rfl dL_law_705 dL_law_706 dL_law_707 dL_law_708 dL_law_709 ?_
  refine LW.callX C (vs := [vI (xv xs (i + 1)), vI (xv xs (i + 2)), vI (xv xs (i + 3))]) (c_run h1 hW (xv_r xs (i + 1)) (xv_r xs (i + 2)) (xv_r xs (i + 3))) dL_law_710 vl_L_113 rfl rfl rfl rfl (Nat.le_of_ble_eq_true rfl) (fun v1 σ1 hv1 => ?_)
  obtain ⟨rfl, h1⟩ := hv1
  refine PW.aload_n C.1 dL_law_713 rfl ?_
  refine LW.arg C hi (j := 1) (by decide) rfl dL_law_714 dL_law_715 dL_law_716 dL_law_717 dL_law_718 ?_
  refine LW.arg C hi (j := 2) (by decide) rfl dL_law_719 dL_law_720 dL_law_721 dL_law_722 dL_law_723 ?_
  refine LW.arg C hi (j := 3) (by decide) rfl dL_law_724 dL_law_725 dL_law_726 dL_law_727 dL_law_728 ?_
  refine LW.callM C (vs := [vI (xv xs (i + 1)), vI (xv xs (i + 2)), vI (xv xs (i + 3))]) (x_run1 h2 hW (xv_r xs (i + 1)) (xv_r xs (i + 2)) (xv_r xs (i + 3))) dL_law_729 vl_L_116 rfl rfl rfl rfl (Nat.le_of_ble_eq_true rfl) (fun v2 τ1 hv2 => ?_)
  obtain ⟨rfl, h2⟩ := hv2
  refine PW.icmp_same C.1 dL_law_732 (tgt := 925) rfl ?_
  exact kk σ1 τ1 _ h1 h2 hW
theorem cs_half (C : LC p s m args c D cA z y b len xs) (hi : i + 5 < len) {A : ST} (h1 : RepC σ A) (h2 : RepM τ A) (hW : WF A) (kk : ∀ σ1 τ1 A1, RepC σ1 A1 → RepM τ1 A1 → WF A1 → LW p l e s m args below meth c D cA z y b Qf i 925 σ1 τ1 []) : LW p l e s m args below meth c D cA z y b Qf i 737 σ τ [] := by
  refine PW.aload_n C.1 dL_law_737 rfl ?_
  refine LW.arg C hi (j := 1) (by decide) rfl dL_law_738 dL_law_739 dL_law_740 dL_law_741 dL_law_742 ?_
  refine LW.arg C hi (j := 2) (by decide) rfl dL_law_743 dL_law_744 dL_law_745 dL_law_746 dL_law_747 ?_
  refine LW.callX C (vs := [vI (xv xs (i + 1)), vI (xv xs (i + 2))]) (c_half h1 hW (xv_r xs (i + 1)) (xv_r xs (i + 2))) dL_law_748 vl_L_117 rfl rfl rfl rfl (Nat.le_of_ble_eq_true rfl) (fun v1 σ1 hv1 => ?_)
  obtain ⟨rfl, h1⟩ := hv1
  refine PW.aload_n C.1 dL_law_751 rfl ?_
  refine LW.arg C hi (j := 1) (by decide) rfl dL_law_752 dL_law_753 dL_law_754 dL_law_755 dL_law_756 ?_
  refine LW.arg C hi (j := 2) (by decide) rfl dL_law_757 dL_law_758 dL_law_759 dL_law_760 dL_law_761 ?_
  refine LW.callM C (vs := [vI (xv xs (i + 1)), vI (xv xs (i + 2))]) (x_half h2 hW (xv_r xs (i + 1)) (xv_r xs (i + 2))) dL_law_762 vl_L_120 rfl rfl rfl rfl (Nat.le_of_ble_eq_true rfl) (fun v2 τ1 hv2 => ?_)
  obtain ⟨rfl, h2⟩ := hv2
  refine PW.icmp_same C.1 dL_law_765 (tgt := 925) rfl ?_
  exact kk σ1 τ1 _ h1 h2 hW
theorem cs_isClean (C : LC p s m args c D cA z y b len xs) (hi : i + 5 < len) {A : ST} (h1 : RepC σ A) (h2 : RepM τ A) (hW : WF A) (kk : ∀ σ1 τ1 A1, RepC σ1 A1 → RepM τ1 A1 → WF A1 → LW p l e s m args below meth c D cA z y b Qf i 925 σ1 τ1 []) : LW p l e s m args below meth c D cA z y b Qf i 770 σ τ [] := by
  refine PW.aload_n C.1 dL_law_770 rfl ?_
  refine LW.arg C hi (j := 1) (by decide) rfl dL_law_771 dL_law_772 dL_law_773 dL_law_774 dL_law_775 ?_
  refine LW.arg C hi (j := 2) (by decide) rfl dL_law_776 dL_law_777 dL_law_778 dL_law_779 dL_law_780 ?_
  refine LW.arg C hi (j := 3) (by decide) rfl dL_law_781 dL_law_782 dL_law_783 dL_law_784 dL_law_785 ?_
  refine LW.arg C hi (j := 4) (by decide) rfl dL_law_786 dL_law_787 dL_law_788 dL_law_789 dL_law_790 ?_
  refine LW.arg C hi (j := 5) (by decide) rfl dL_law_791 dL_law_792 dL_law_793 dL_law_794 dL_law_795 ?_
  refine LW.callX C (vs := [vI (xv xs (i + 1)), vI (xv xs (i + 2)), vI (xv xs (i + 3)), vI (xv xs (i + 4)), vI (xv xs (i + 5))]) (c_isClean h1 (xv_r xs (i + 1)) (xv_r xs (i + 2)) (xv_r xs (i + 3)) (xv_r xs (i + 4)) (xv_r xs (i + 5))) dL_law_796 vl_L_121 rfl rfl rfl rfl (Nat.le_of_ble_eq_true rfl) (fun v1 σ1 hv1 => ?_)
  obtain ⟨rfl, h1⟩ := hv1
  refine PW.aload_n C.1 dL_law_799 rfl ?_
  refine LW.arg C hi (j := 1) (by decide) rfl dL_law_800 dL_law_801 dL_law_802 dL_law_803 dL_law_804 ?_
  refine LW.arg C hi (j := 2) (by decide) rfl dL_law_805 dL_law_806 dL_law_807 dL_law_808 dL_law_809 ?_
  refine LW.arg C hi (j := 3) (by decide) rfl dL_law_810 dL_law_811 dL_law_812 dL_law_813 dL_law_814 ?_
  refine LW.arg C hi (j := 4) (by decide) rfl dL_law_815 dL_law_816 dL_law_817 dL_law_818 dL_law_819 ?_
  refine LW.arg C hi (j := 5) (by decide) rfl dL_law_820 dL_law_821 dL_law_822 dL_law_823 dL_law_824 ?_
  refine LW.callM C (vs := [vI (xv xs (i + 1)), vI (xv xs (i + 2)), vI (xv xs (i + 3)), vI (xv xs (i + 4)), vI (xv xs (i + 5))]) (x_isClean h2 (xv_r xs (i + 1)) (xv_r xs (i + 2)) (xv_r xs (i + 3)) (xv_r xs (i + 4)) (xv_r xs (i + 5))) dL_law_825 vl_L_125 rfl rfl rfl rfl (Nat.le_of_ble_eq_true rfl) (fun v2 τ1 hv2 => ?_)
  obtain ⟨rfl, h2⟩ := hv2
  refine PW.icmp_same C.1 dL_law_828 (tgt := 925) rfl ?_
  exact kk σ1 τ1 _ h1 h2 hW
theorem cs_day (C : LC p s m args c D cA z y b len xs) (hi : i + 5 < len) {A : ST} (h1 : RepC σ A) (h2 : RepM τ A) (hW : WF A) (kk : ∀ σ1 τ1 A1, RepC σ1 A1 → RepM τ1 A1 → WF A1 → LW p l e s m args below meth c D cA z y b Qf i 925 σ1 τ1 []) : LW p l e s m args below meth c D cA z y b Qf i 833 σ τ [] := by
  refine PW.aload_n C.1 dL_law_833 rfl ?_
  refine LW.arg C hi (j := 1) (by decide) rfl dL_law_834 dL_law_835 dL_law_836 dL_law_837 dL_law_838 ?_
  refine LW.arg C hi (j := 2) (by decide) rfl dL_law_839 dL_law_840 dL_law_841 dL_law_842 dL_law_843 ?_
  refine LW.arg C hi (j := 3) (by decide) rfl dL_law_844 dL_law_845 dL_law_846 dL_law_847 dL_law_848 ?_
  refine LW.callX C (vs := [vI (xv xs (i + 1)), vI (xv xs (i + 2)), vI (xv xs (i + 3))]) (c_day h1 hW (xv_r xs (i + 1)) (xv_r xs (i + 2)) (xv_r xs (i + 3))) dL_law_849 vl_L_126 rfl rfl rfl rfl (Nat.le_of_ble_eq_true rfl) (fun v1 σ1 hv1 => ?_)
  obtain ⟨rfl, h1⟩ := hv1
  refine PW.aload_n C.1 dL_law_852 rfl ?_
  refine LW.arg C hi (j := 1) (by decide) rfl dL_law_853 dL_law_854 dL_law_855 dL_law_856 dL_law_857 ?_
  refine LW.arg C hi (j := 2) (by decide) rfl dL_law_858 dL_law_859 dL_law_860 dL_law_861 dL_law_862 ?_
  refine LW.arg C hi (j := 3) (by decide) rfl dL_law_863 dL_law_864 dL_law_865 dL_law_866 dL_law_867 ?_
  refine LW.callM C (vs := [vI (xv xs (i + 1)), vI (xv xs (i + 2)), vI (xv xs (i + 3))]) (x_day h2 hW (xv_r xs (i + 1)) (xv_r xs (i + 2)) (xv_r xs (i + 3))) dL_law_868 vl_L_129 rfl rfl rfl rfl (Nat.le_of_ble_eq_true rfl) (fun v2 τ1 hv2 => ?_)
  obtain ⟨rfl, h2⟩ := hv2
  refine PW.icmp_same C.1 dL_law_871 (tgt := 925) rfl ?_
  exact kk σ1 τ1 _ h1 h2 hW
theorem cs_keep (C : LC p s m args c D cA z y b len xs) (hi : i + 5 < len) {A : ST} (h1 : RepC σ A) (h2 : RepM τ A) (hW : WF A) (kk : ∀ σ1 τ1 A1, RepC σ1 A1 → RepM τ1 A1 → WF A1 → LW p l e s m args below meth c D cA z y b Qf i 925 σ1 τ1 []) : LW p l e s m args below meth c D cA z y b Qf i 876 σ τ [] := by
  refine PW.aload_n C.1 dL_law_876 rfl ?_
  refine LW.callX C (vs := []) (c_keep h1 hW ) dL_law_877 vl_L_130 rfl rfl rfl rfl (Nat.le_of_ble_eq_true rfl) (fun v1 σ1 hv1 => ?_)
  obtain ⟨rfl, h1⟩ := hv1
  refine PW.aload_n C.1 dL_law_880 rfl ?_
  refine LW.callM C (vs := []) (x_keep h2 hW ) dL_law_881 vl_L_133 rfl rfl rfl rfl (Nat.le_of_ble_eq_true rfl) (fun v2 τ1 hv2 => ?_)
  obtain ⟨rfl, h2⟩ := hv2
  refine PW.icmp_same C.1 dL_law_884 (tgt := 925) rfl ?_
  exact kk σ1 τ1 _ h1 h2 (w_keep hW)
theorem cs_back (C : LC p s m args c D cA z y b len xs) (hi : i + 5 < len) {A : ST} (h1 : RepC σ A) (h2 : RepM τ A) (hW : WF A) (kk : ∀ σ1 τ1 A1, RepC σ1 A1 → RepM τ1 A1 → WF A1 → LW p l e s m args below meth c D cA z y b Qf i 925 σ1 τ1 []) : LW p l e s m args below meth c D cA z y b Qf i 889 σ τ [] := by
  refine PW.aload_n C.1 dL_law_889 rfl ?_
  refine LW.callX C (vs := []) (c_back h1 hW ) dL_law_890 vl_L_134 rfl rfl rfl rfl (Nat.le_of_ble_eq_true rfl) (fun v1 σ1 hv1 => ?_)
  obtain ⟨rfl, h1⟩ := hv1
  refine PW.aload_n C.1 dL_law_893 rfl ?_
  refine LW.callM C (vs := []) (x_back h2 hW ) dL_law_894 vl_L_137 rfl rfl rfl rfl (Nat.le_of_ble_eq_true rfl) (fun v2 τ1 hv2 => ?_)
  obtain ⟨rfl, h2⟩ := hv2
  refine PW.icmp_same C.1 dL_law_897 (tgt := 925) rfl ?_
  exact kk σ1 τ1 _ h1 h2 (w_back hW)
theorem cs_count (C : LC p s m args c D cA z y b len xs) (hi : i + 5 < len) {A : ST} (h1 : RepC σ A) (h2 : RepM τ A) (hW : WF A) (kk : ∀ σ1 τ1 A1, RepC σ1 A1 → RepM τ1 A1 → WF A1 → LW p l e s m args below meth c D cA z y b Qf i 925 σ1 τ1 []) : LW p l e s m args below meth c D cA z y b Qf i 902 σ τ [] := by
  refine PW.aload_n C.1 dL_law_902 rfl ?_
  refine LW.arg C hi (j := 1) (by decide) rfl dL_law_903 dL_law_904 dL_law_905 dL_law_906 dL_law_907 ?_
  refine LW.callX C (vs := [vI (xv xs (i + 1))]) (c_count h1 hW (xv_r xs (i + 1))) dL_law_908 vl_L_138 rfl rfl rfl rfl (Nat.le_of_ble_eq_true rfl) (fun v1 σ1 hv1 => ?_)
  obtain ⟨rfl, h1⟩ := hv1
  refine PW.aload_n C.1 dL_law_911 rfl ?_
  refine LW.arg C hi (j := 1) (by decide) rfl dL_law_912 dL_law_913 dL_law_914 dL_law_915 dL_law_916 ?_
  refine LW.callM C (vs := [vI (xv xs (i + 1))]) (x_count h2 hW (xv_r xs (i + 1))) dL_law_917 vl_L_141 rfl rfl rfl rfl (Nat.le_of_ble_eq_true rfl) (fun v2 τ1 hv2 => ?_)
  obtain ⟨rfl, h2⟩ := hv2
  refine PW.icmp_same C.1 dL_law_920 (tgt := 925) rfl ?_
  exact kk σ1 τ1 _ h1 h2 hW
theorem lw_sw (C : LC p s m args c D cA z y b len xs) (hi : i + 5 < len) {A : ST} (h1 : RepC σ A) (h2 : RepM τ A) (hW : WF A) (kk : ∀ σ1 τ1 A1, RepC σ1 A1 → RepM τ1 A1 → WF A1 → LW p l e s m args below meth c D cA z y b Qf i 925 σ1 τ1 []) : LW p l e s m args below meth c D cA z y b Qf i 27 σ τ [] := by
  refine PW.aload_n C.1 dL_law_27 rfl ?_
  refine PW.iload_n C.1 dL_law_28 rfl ?_
  refine LW.sld C (by omega) dL_law_29 ?_
  refine PW.bipush C.1 dL_law_30 rfl ?_
  obtain ⟨j, hj, ej⟩ := pk_andE (xs i) (m := 31) 5 (by decide)
  have hj : j < 32 := hj
  refine PW.iandR C.1 (z := (j : Int)) (by rw [xv_of, show Int32.ofInt 31 = (31 : Int32) from rfl, ej, Int32.ofInt_eq_ofNat]; rfl) dL_law_32 ?_
  by_cases e0 : j = 0
  · subst e0
    exact PW.tabI C.1 (j := 0) (off := 139) (tgt := 172) rfl (by decide) rfl ⟨by decide, by decide⟩ dL_law_33 rfl (cs_write C hi h1 h2 hW kk)
  by_cases e1 : j = 1
  · subst e1
    exact PW.tabI C.1 (j := 1) (off := 162) (tgt := 195) rfl (by decide) rfl ⟨by decide, by decide⟩ dL_law_33 rfl (cs_wipe C hi h1 h2 hW kk)
  by_cases e2 : j = 2
  · subst e2
    exact PW.tabI C.1 (j := 2) (off := 175) (tgt := 208) rfl (by decide) rfl ⟨by decide, by decide⟩ dL_law_33 rfl (cs_fault C hi h1 h2 hW kk)
  by_cases e3 : j = 3
  · subst e3
    exact PW.tabI C.1 (j := 3) (off := 188) (tgt := 221) rfl (by decide) rfl ⟨by decide, by decide⟩ dL_law_33 rfl (cs_lay C hi h1 h2 hW kk)
  by_cases e4 : j = 4
  · subst e4
    exact PW.tabI C.1 (j := 4) (off := 201) (tgt := 234) rfl (by decide) rfl ⟨by decide, by decide⟩ dL_law_33 rfl (cs_thing C hi h1 h2 hW kk)
  by_cases e5 : j = 5
  · subst e5
    exact PW.tabI C.1 (j := 5) (off := 234) (tgt := 267) rfl (by decide) rfl ⟨by decide, by decide⟩ dL_law_33 rfl (cs_slot C hi h1 h2 hW kk)
  by_cases e6 : j = 6
  · subst e6
    exact PW.tabI C.1 (j := 6) (off := 257) (tgt := 290) rfl (by decide) rfl ⟨by decide, by decide⟩ dL_law_33 rfl (cs_putIn C hi h1 h2 hW kk)
  by_cases e7 : j = 7
  · subst e7
    exact PW.tabI C.1 (j := 7) (off := 300) (tgt := 333) rfl (by decide) rfl ⟨by decide, by decide⟩ dL_law_33 rfl (cs_turn C hi h1 h2 hW kk)
  by_cases e8 : j = 8
  · subst e8
    exact PW.tabI C.1 (j := 8) (off := 323) (tgt := 356) rfl (by decide) rfl ⟨by decide, by decide⟩ dL_law_33 rfl (cs_takeOut C hi h1 h2 hW kk)
  by_cases e9 : j = 9
  · subst e9
    exact PW.tabI C.1 (j := 9) (off := 346) (tgt := 379) rfl (by decide) rfl ⟨by decide, by decide⟩ dL_law_33 rfl (cs_wash C hi h1 h2 hW kk)
  by_cases e10 : j = 10
  · subst e10
    exact PW.tabI C.1 (j := 10) (off := 369) (tgt := 402) rfl (by decide) rfl ⟨by decide, by decide⟩ dL_law_33 rfl (cs_water C hi h1 h2 hW kk)
  by_cases e11 : j = 11
  · subst e11
    exact PW.tabI C.1 (j := 11) (off := 392) (tgt := 425) rfl (by decide) rfl ⟨by decide, by decide⟩ dL_law_33 rfl (cs_undo C hi h1 h2 hW kk)
  by_cases e12 : j = 12
  · subst e12
    exact PW.tabI C.1 (j := 12) (off := 405) (tgt := 438) rfl (by decide) rfl ⟨by decide, by decide⟩ dL_law_33 rfl (cs_stands C hi h1 h2 hW kk)
  by_cases e13 : j = 13
  · subst e13
    exact PW.tabI C.1 (j := 13) (off := 438) (tgt := 471) rfl (by decide) rfl ⟨by decide, by decide⟩ dL_law_33 rfl (cs_clean C hi h1 h2 hW kk)
  by_cases e14 : j = 14
  · subst e14
    exact PW.tabI C.1 (j := 14) (off := 451) (tgt := 484) rfl (by decide) rfl ⟨by decide, by decide⟩ dL_law_33 rfl (cs_pooled C hi h1 h2 hW kk)
  by_cases e15 : j = 15
  · subst e15
    exact PW.tabI C.1 (j := 15) (off := 464) (tgt := 497) rfl (by decide) rfl ⟨by decide, by decide⟩ dL_law_33 rfl (cs_room C hi h1 h2 hW kk)
  by_cases e16 : j = 16
  · subst e16
    exact PW.tabI C.1 (j := 16) (off := 487) (tgt := 520) rfl (by decide) rfl ⟨by decide, by decide⟩ dL_law_33 rfl (cs_place C hi h1 h2 hW kk)
  by_cases e17 : j = 17
  · subst e17
    exact PW.tabI C.1 (j := 17) (off := 520) (tgt := 553) rfl (by decide) rfl ⟨by decide, by decide⟩ dL_law_33 rfl (cs_byHand C hi h1 h2 hW kk)
  by_cases e18 : j = 18
  · subst e18
    exact PW.tabI C.1 (j := 18) (off := 543) (tgt := 576) rfl (by decide) rfl ⟨by decide, by decide⟩ dL_law_33 rfl (cs_order C hi h1 h2 hW kk)
  by_cases e19 : j = 19
  · subst e19
    exact PW.tabI C.1 (j := 19) (off := 566) (tgt := 599) rfl (by decide) rfl ⟨by decide, by decide⟩ dL_law_33 rfl (cs_ways C hi h1 h2 hW kk)
  by_cases e20 : j = 20
  · subst e20
    exact PW.tabI C.1 (j := 20) (off := 589) (tgt := 622) rfl (by decide) rfl ⟨by decide, by decide⟩ dL_law_33 rfl (cs_weakest C hi h1 h2 hW kk)
  by_cases e21 : j = 21
  · subst e21
    exact PW.tabI C.1 (j := 21) (off := 602) (tgt := 635) rfl (by decide) rfl ⟨by decide, by decide⟩ dL_law_33 rfl (cs_seen C hi h1 h2 hW kk)
  by_cases e22 : j = 22
  · subst e22
    exact PW.tabI C.1 (j := 22) (off := 635) (tgt := 668) rfl (by decide) rfl ⟨by decide, by decide⟩ dL_law_33 rfl (cs_forget C hi h1 h2 hW kk)
  by_cases e23 : j = 23
  · subst e23
    exact PW.tabI C.1 (j := 23) (off := 648) (tgt := 681) rfl (by decide) rfl ⟨by decide, by decide⟩ dL_law_33 rfl (cs_strong C hi h1 h2 hW kk)
  by_cases e24 : j = 24
  · subst e24
    exact PW.tabI C.1 (j := 24) (off := 661) (tgt := 694) rfl (by decide) rfl ⟨by decide, by decide⟩ dL_law_33 rfl (cs_run C hi h1 h2 hW kk)
  by_cases e25 : j = 25
  · subst e25
    exact PW.tabI C.1 (j := 25) (off := 704) (tgt := 737) rfl (by decide) rfl ⟨by decide, by decide⟩ dL_law_33 rfl (cs_half C hi h1 h2 hW kk)
  by_cases e26 : j = 26
  · subst e26
    exact PW.tabI C.1 (j := 26) (off := 737) (tgt := 770) rfl (by decide) rfl ⟨by decide, by decide⟩ dL_law_33 rfl (cs_isClean C hi h1 h2 hW kk)
  by_cases e27 : j = 27
  · subst e27
    exact PW.tabI C.1 (j := 27) (off := 800) (tgt := 833) rfl (by decide) rfl ⟨by decide, by decide⟩ dL_law_33 rfl (cs_day C hi h1 h2 hW kk)
  by_cases e28 : j = 28
  · subst e28
    exact PW.tabI C.1 (j := 28) (off := 843) (tgt := 876) rfl (by decide) rfl ⟨by decide, by decide⟩ dL_law_33 rfl (cs_keep C hi h1 h2 hW kk)
  by_cases e29 : j = 29
  · subst e29
    exact PW.tabI C.1 (j := 29) (off := 856) (tgt := 889) rfl (by decide) rfl ⟨by decide, by decide⟩ dL_law_33 rfl (cs_back C hi h1 h2 hW kk)
  by_cases e30 : j = 30
  · subst e30
    exact PW.tabI C.1 (j := 30) (off := 869) (tgt := 902) rfl (by decide) rfl ⟨by decide, by decide⟩ dL_law_33 rfl (cs_count C hi h1 h2 hW kk)
  exact PW.tabO C.1 (tgt := 925) (Or.inr (by omega)) ⟨by omega, by omega⟩ dL_law_33 rfl (kk σ τ A h1 h2 hW)
end CASES
