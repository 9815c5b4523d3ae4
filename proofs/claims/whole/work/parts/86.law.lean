/-! ===== the law's cases, step by step ===== -/
section LWK
variable {p : Program} {l : Launch} {e : Env} {s : State} {m : MethodId} {args : Array Value} {below : List Frame} {meth : Method} {c : Code} {D : va_G} {cI cJ cZ cO : ClassId} {z : Nat → Nat} {A : Nat → Prop} {Q : State → Prop} {k n : Nat} {ret : Option FieldType}
set_option maxHeartbeats 4000000 in
theorem lw_append {ws ws1 ws2 W1 W1' W2 W2' W3 : va_W} {hx hm ho bs L : Nat} {xs : Nat → Int32} {i : Int32} {kr : Int32} {r : Int32} {ov : Nat → Int64} {fs1 fs2 fs3 : List Value} {qo : Nat} (hC : Gc p room_1 s m args meth c D (gq_ty cI cJ cZ cO) A 7 cL_law RL lw_tbl ret k n z) (hX : va_X bs L xs s s.heap) (hbl : bs < s.heap.size) (hbA : ¬ A bs) (hi1 : vp_in (i + 1) L) (hi2 : vp_in (i + 2) L) (hi3 : vp_in (i + 3) L) (hi4 : vp_in (i + 4) L) (hi5 : vp_in (i + 5) L) (hM1 : Mi l yL_append wsL_append (rmX 7 1) D (gq_ty cI cJ cZ cO) z [.ref hx, .int (xs (i + 1).toNatClampNeg), .int (xs (i + 2).toNatClampNeg), .int (xs (i + 3).toNatClampNeg), .int (xs (i + 4).toNatClampNeg), .int (xs (i + 5).toNatClampNeg), .ref ho] W1 kr W1' 1 6) (hJ1 : gq_J ws W1 W1' ws1) (hM2 : Mi l yX11_append wsX11_append (rmD 0) D (gq_ty cI cJ cZ cO) z [.ref hm, .int (xs (i + 1).toNatClampNeg), .int (xs (i + 2).toNatClampNeg), .int (xs (i + 3).toNatClampNeg), .int (xs (i + 4).toNatClampNeg), .int (xs (i + 5).toNatClampNeg)] W2 r W2' 0 0) (hv2 : W2[0]? = some (hm, .inr (11, fs2))) (hJ2 : gq_J ws1 W2 W2' ws2) (hM3 : Mi l yX11_thrown wsX11_thrown (rmD 0) D (gq_ty cI cJ cZ cO) z [.ref hm] W3 kr W3 0 0) (hv3 : W3[0]? = some (hm, .inr (11, fs3))) (hJ3 : gq_J ws2 W3 W3 ws2) (hqo : ws2[qo]? = some (ho, .inl (cJ, 1, .inr (.inl ov)))) (hov : kr = 0 → ov (0 : Int32).toNatClampNeg = r.toInt64) (hkb : k + 4 ≤ 601024 ∧ n + 24 ≤ 7293034) (kk : Gx p l e room_1 s m args below meth c D A 7 Q (k + 4) (n + 24) 2643 [(4, .int i), (3, .ref ho), (2, .ref hm), (1, .ref hx), (0, .ref bs)] [] ws2) : Gx p l e room_1 s m args below meth c D A 7 Q k n 228 [(4, .int i), (3, .ref ho), (2, .ref hm), (1, .ref hx), (0, .ref bs)] [] ws := by
  refine gq_aload_n hC 3 dL_law_228 rfl rfl ?_
  refine gq_aload_n hC 4 dL_law_229 rfl rfl ?_
  refine gq_iload hC 0 dL_law_230 rfl ?_
  refine gq_iconst hC 1 dL_law_232 (by decide) ?_
  refine gq_iadd hC dL_law_233 ?_
  refine gq_scr hC hX hbl hbA hi1 dL_law_234 ?_
  refine gq_aload_n hC 4 dL_law_235 rfl rfl ?_
  refine gq_iload hC 0 dL_law_236 rfl ?_
  refine gq_iconst hC 2 dL_law_238 (by decide) ?_
  refine gq_iadd hC dL_law_239 ?_
  refine gq_scr hC hX hbl hbA hi2 dL_law_240 ?_
  refine gq_aload_n hC 4 dL_law_241 rfl rfl ?_
  refine gq_iload hC 0 dL_law_242 rfl ?_
  refine gq_iconst hC 3 dL_law_244 (by decide) ?_
  refine gq_iadd hC dL_law_245 ?_
  refine gq_scr hC hX hbl hbA hi3 dL_law_246 ?_
  refine gq_aload_n hC 4 dL_law_247 rfl rfl ?_
  refine gq_iload hC 0 dL_law_248 rfl ?_
  refine gq_iconst hC 4 dL_law_250 (by decide) ?_
  refine gq_iadd hC dL_law_251 ?_
  refine gq_scr hC hX hbl hbA hi4 dL_law_252 ?_
  refine gq_aload_n hC 4 dL_law_253 rfl rfl ?_
  refine gq_iload hC 0 dL_law_254 rfl ?_
  refine gq_iconst hC 5 dL_law_256 (by decide) ?_
  refine gq_iadd hC dL_law_257 ?_
  refine gq_scr hC hX hbl hbA hi5 dL_law_258 ?_
  refine gq_aload_n hC 1 dL_law_259 rfl rfl ?_
  refine gq_callSWi hC hJ1 [.ref hx, .int (xs (i + 1).toNatClampNeg), .int (xs (i + 2).toNatClampNeg), .int (xs (i + 3).toNatClampNeg), .int (xs (i + 4).toNatClampNeg), .int (xs (i + 5).toNatClampNeg), .ref ho] [] hM1 gL_law_L_append rfl ⟨rfl, rfl⟩ ⟨(by decide +kernel), (by decide +kernel), (show _ = some 7 from by decide +kernel)⟩ ⟨by show k + 1 ≤ 601024; omega, by show n + 6 ≤ 7293034; omega⟩ ⟨Nat.le_of_ble_eq_true rfl, Nat.le_of_ble_eq_true rfl⟩ (Nat.le_of_ble_eq_true rfl) rfl dL_law_260 rfl ?_
  have hC := gq_at (k' := k + 1) (n' := n + 6) hC ⟨by show k + 1 ≤ 601024; omega, by show n + 6 ≤ 7293034; omega⟩
  refine gq_istore hC [(5, .int kr), (4, .int i), (3, .ref ho), (2, .ref hm), (1, .ref hx), (0, .ref bs)] dL_law_263 (by decide) rfl ?_
  refine gq_aload_n hC 3 dL_law_265 rfl rfl ?_
  refine gq_aload_n hC 5 dL_law_266 rfl rfl ?_
  refine gq_iload hC 1 dL_law_267 rfl ?_
  refine gq_iconst hC 1 dL_law_269 (by decide) ?_
  refine gq_iadd hC dL_law_270 ?_
  refine gq_scr hC hX hbl hbA hi1 dL_law_271 ?_
  refine gq_aload_n hC 5 dL_law_272 rfl rfl ?_
  refine gq_iload hC 1 dL_law_273 rfl ?_
  refine gq_iconst hC 2 dL_law_275 (by decide) ?_
  refine gq_iadd hC dL_law_276 ?_
  refine gq_scr hC hX hbl hbA hi2 dL_law_277 ?_
  refine gq_aload_n hC 5 dL_law_278 rfl rfl ?_
  refine gq_iload hC 1 dL_law_279 rfl ?_
  refine gq_iconst hC 3 dL_law_281 (by decide) ?_
  refine gq_iadd hC dL_law_282 ?_
  refine gq_scr hC hX hbl hbA hi3 dL_law_283 ?_
  refine gq_aload_n hC 5 dL_law_284 rfl rfl ?_
  refine gq_iload hC 1 dL_law_285 rfl ?_
  refine gq_iconst hC 4 dL_law_287 (by decide) ?_
  refine gq_iadd hC dL_law_288 ?_
  refine gq_scr hC hX hbl hbA hi4 dL_law_289 ?_
  refine gq_aload_n hC 5 dL_law_290 rfl rfl ?_
  refine gq_iload hC 1 dL_law_291 rfl ?_
  refine gq_iconst hC 5 dL_law_293 (by decide) ?_
  refine gq_iadd hC dL_law_294 ?_
  refine gq_scr hC hX hbl hbA hi5 dL_law_295 ?_
  refine gq_callJi hC hJ2 [.int (xs (i + 1).toNatClampNeg), .int (xs (i + 2).toNatClampNeg), .int (xs (i + 3).toNatClampNeg), .int (xs (i + 4).toNatClampNeg), .int (xs (i + 5).toNatClampNeg)] [] hM2 gL_law_X11_append rfl ⟨rfl, rfl⟩ hy_X11_append ⟨Nat.le_of_ble_eq_true rfl, Nat.le_of_ble_eq_true rfl⟩ (ci := 11) rfl rfl hv2 (Nat.le_of_ble_eq_true rfl) rfl dL_law_296 rfl ?_
  refine gq_istore hC [(6, .int r), (5, .int kr), (4, .int i), (3, .ref ho), (2, .ref hm), (1, .ref hx), (0, .ref bs)] dL_law_299 (by decide) rfl ?_
  refine gq_aload_n hC 4 dL_law_301 rfl rfl ?_
  refine gq_callJi hC hJ3 [] [] hM3 gL_law_X11_thrown rfl ⟨rfl, rfl⟩ hy_X11_thrown ⟨Nat.le_of_ble_eq_true rfl, Nat.le_of_ble_eq_true rfl⟩ (ci := 11) rfl rfl hv3 (Nat.le_of_ble_eq_true rfl) rfl dL_law_302 rfl ?_
  refine gq_iload hC 1 dL_law_305 rfl ?_
  refine gq_icmp_eq hC 312 dL_law_307 (by decide) (fun _ => ?_) (fun h9 => absurd rfl h9)
  refine gq_iload hC 1 dL_law_312 rfl ?_
  refine gq_if_ne hC 329 dL_law_314 (by decide) (fun _ => ?_) (fun h0 => ?_)
  · refine gq_goto hC 2643 dL_law_329 (by decide) ?_
    exact gq_sub [(4, .int i), (3, .ref ho), (2, .ref hm), (1, .ref hx), (0, .ref bs)] [2, 3, 4, 5, 6] rfl (gq_widen (by omega) (by omega) kk)
  · refine gq_aload_n hC 3 dL_law_317 rfl rfl ?_
    refine gq_iconst hC 0 dL_law_318 (by decide) ?_
    refine gq_lald hC qo 1 hqo rfl (by unfold vp_in; decide) dL_law_319 ?_
    rw [hov h0]
    refine gq_iload hC 0 dL_law_320 rfl ?_
    refine gq_i2l hC dL_law_322 ?_
    refine gq_lcmp hC dL_law_323 ?_
    rw [lg_cmp_self]
    refine gq_if_eq hC 329 dL_law_324 (by decide) (fun _ => ?_) (fun h9 => absurd rfl h9)
    refine gq_goto hC 2643 dL_law_329 (by decide) ?_
    exact gq_sub [(4, .int i), (3, .ref ho), (2, .ref hm), (1, .ref hx), (0, .ref bs)] [2, 3, 4, 5, 6] rfl (gq_widen (by omega) (by omega) kk)
set_option maxHeartbeats 4000000 in
theorem lw_load {ws ws1 ws2 W1 W1' W2 W2' W3 : va_W} {hx hm ho bs L : Nat} {xs : Nat → Int32} {i : Int32} {kr : Int32} {r : Int32} {ov : Nat → Int64} {fs1 fs2 fs3 : List Value} {qo : Nat} (hC : Gc p room_1 s m args meth c D (gq_ty cI cJ cZ cO) A 7 cL_law RL lw_tbl ret k n z) (hX : va_X bs L xs s s.heap) (hbl : bs < s.heap.size) (hbA : ¬ A bs) (hi1 : vp_in (i + 1) L) (hM1 : Mi l yL_load wsL_load (rmX 7 1) D (gq_ty cI cJ cZ cO) z [.ref hx, .int (xs (i + 1).toNatClampNeg), .ref ho] W1 kr W1' 1 6) (hJ1 : gq_J ws W1 W1' ws1) (hM2 : Mi l yX11_load wsX11_load (rmD 6) D (gq_ty cI cJ cZ cO) z [.ref hm, .int (xs (i + 1).toNatClampNeg)] W2 r W2' 0 0) (hv2 : W2[0]? = some (hm, .inr (11, fs2))) (hJ2 : gq_J ws1 W2 W2' ws2) (hM3 : Mi l yX11_thrown wsX11_thrown (rmD 0) D (gq_ty cI cJ cZ cO) z [.ref hm] W3 kr W3 0 0) (hv3 : W3[0]? = some (hm, .inr (11, fs3))) (hJ3 : gq_J ws2 W3 W3 ws2) (hqo : ws2[qo]? = some (ho, .inl (cJ, 1, .inr (.inl ov)))) (hov : kr = 0 → ov (0 : Int32).toNatClampNeg = r.toInt64) (hkb : k + 4 ≤ 601024 ∧ n + 24 ≤ 7293034) (kk : Gx p l e room_1 s m args below meth c D A 7 Q (k + 4) (n + 24) 2643 [(4, .int i), (3, .ref ho), (2, .ref hm), (1, .ref hx), (0, .ref bs)] [] ws2) : Gx p l e room_1 s m args below meth c D A 7 Q k n 332 [(4, .int i), (3, .ref ho), (2, .ref hm), (1, .ref hx), (0, .ref bs)] [] ws := by
  refine gq_aload_n hC 3 dL_law_332 rfl rfl ?_
  refine gq_aload_n hC 4 dL_law_333 rfl rfl ?_
  refine gq_iload hC 0 dL_law_334 rfl ?_
  refine gq_iconst hC 1 dL_law_336 (by decide) ?_
  refine gq_iadd hC dL_law_337 ?_
  refine gq_scr hC hX hbl hbA hi1 dL_law_338 ?_
  refine gq_aload_n hC 1 dL_law_339 rfl rfl ?_
  refine gq_callSWi hC hJ1 [.ref hx, .int (xs (i + 1).toNatClampNeg), .ref ho] [] hM1 gL_law_L_load rfl ⟨rfl, rfl⟩ ⟨(by decide +kernel), (by decide +kernel), (show _ = some 3 from by decide +kernel)⟩ ⟨by show k + 1 ≤ 601024; omega, by show n + 6 ≤ 7293034; omega⟩ ⟨Nat.le_of_ble_eq_true rfl, Nat.le_of_ble_eq_true rfl⟩ (Nat.le_of_ble_eq_true rfl) rfl dL_law_340 rfl ?_
  have hC := gq_at (k' := k + 1) (n' := n + 6) hC ⟨by show k + 1 ≤ 601024; omega, by show n + 6 ≤ 7293034; omega⟩
  refine gq_istore hC [(5, .int kr), (4, .int i), (3, .ref ho), (2, .ref hm), (1, .ref hx), (0, .ref bs)] dL_law_343 (by decide) rfl ?_
  refine gq_aload_n hC 3 dL_law_345 rfl rfl ?_
  refine gq_aload_n hC 5 dL_law_346 rfl rfl ?_
  refine gq_iload hC 1 dL_law_347 rfl ?_
  refine gq_iconst hC 1 dL_law_349 (by decide) ?_
  refine gq_iadd hC dL_law_350 ?_
  refine gq_scr hC hX hbl hbA hi1 dL_law_351 ?_
  refine gq_callJi hC hJ2 [.int (xs (i + 1).toNatClampNeg)] [] hM2 gL_law_X11_load rfl ⟨rfl, rfl⟩ hy_X11_load ⟨Nat.le_of_ble_eq_true rfl, Nat.le_of_ble_eq_true rfl⟩ (ci := 11) rfl rfl hv2 (Nat.le_of_ble_eq_true rfl) rfl dL_law_352 rfl ?_
  refine gq_istore hC [(6, .int r), (5, .int kr), (4, .int i), (3, .ref ho), (2, .ref hm), (1, .ref hx), (0, .ref bs)] dL_law_355 (by decide) rfl ?_
  refine gq_aload_n hC 4 dL_law_357 rfl rfl ?_
  refine gq_callJi hC hJ3 [] [] hM3 gL_law_X11_thrown rfl ⟨rfl, rfl⟩ hy_X11_thrown ⟨Nat.le_of_ble_eq_true rfl, Nat.le_of_ble_eq_true rfl⟩ (ci := 11) rfl rfl hv3 (Nat.le_of_ble_eq_true rfl) rfl dL_law_358 rfl ?_
  refine gq_iload hC 1 dL_law_361 rfl ?_
  refine gq_icmp_eq hC 368 dL_law_363 (by decide) (fun _ => ?_) (fun h9 => absurd rfl h9)
  refine gq_iload hC 1 dL_law_368 rfl ?_
  refine gq_if_ne hC 385 dL_law_370 (by decide) (fun _ => ?_) (fun h0 => ?_)
  · refine gq_goto hC 2643 dL_law_385 (by decide) ?_
    exact gq_sub [(4, .int i), (3, .ref ho), (2, .ref hm), (1, .ref hx), (0, .ref bs)] [2, 3, 4, 5, 6] rfl (gq_widen (by omega) (by omega) kk)
  · refine gq_aload_n hC 3 dL_law_373 rfl rfl ?_
    refine gq_iconst hC 0 dL_law_374 (by decide) ?_
    refine gq_lald hC qo 1 hqo rfl (by unfold vp_in; decide) dL_law_375 ?_
    rw [hov h0]
    refine gq_iload hC 0 dL_law_376 rfl ?_
    refine gq_i2l hC dL_law_378 ?_
    refine gq_lcmp hC dL_law_379 ?_
    rw [lg_cmp_self]
    refine gq_if_eq hC 385 dL_law_380 (by decide) (fun _ => ?_) (fun h9 => absurd rfl h9)
    refine gq_goto hC 2643 dL_law_385 (by decide) ?_
    exact gq_sub [(4, .int i), (3, .ref ho), (2, .ref hm), (1, .ref hx), (0, .ref bs)] [2, 3, 4, 5, 6] rfl (gq_widen (by omega) (by omega) kk)
set_option maxHeartbeats 4000000 in
theorem lw_errorPosition {ws ws1 ws2 W1 W1' W2 W2' W3 : va_W} {hx hm ho bs L : Nat} {xs : Nat → Int32} {i : Int32} {r : Int32} {fs1 fs2 : List Value} (hC : Gc p room_1 s m args meth c D (gq_ty cI cJ cZ cO) A 7 cL_law RL lw_tbl ret k n z) (hM1 : Mi l yX10_errorPosition wsX10_errorPosition (rmD 0) D (gq_ty cI cJ cZ cO) z [.ref hx] W1 r W1' 0 0) (hv1 : W1[0]? = some (hx, .inr (10, fs1))) (hJ1 : gq_J ws W1 W1' ws1) (hM2 : Mi l yX11_errorPosition wsX11_errorPosition (rmD 0) D (gq_ty cI cJ cZ cO) z [.ref hm] W2 r W2' 0 0) (hv2 : W2[0]? = some (hm, .inr (11, fs2))) (hJ2 : gq_J ws1 W2 W2' ws2) (hkb : k + 4 ≤ 601024 ∧ n + 24 ≤ 7293034) (kk : Gx p l e room_1 s m args below meth c D A 7 Q (k + 4) (n + 24) 2643 [(4, .int i), (3, .ref ho), (2, .ref hm), (1, .ref hx), (0, .ref bs)] [] ws2) : Gx p l e room_1 s m args below meth c D A 7 Q k n 388 [(4, .int i), (3, .ref ho), (2, .ref hm), (1, .ref hx), (0, .ref bs)] [] ws := by
  refine gq_aload_n hC 3 dL_law_388 rfl rfl ?_
  refine gq_callJi hC hJ1 [] [] hM1 gL_law_X10_errorPosition rfl ⟨rfl, rfl⟩ hy_X10_errorPosition ⟨Nat.le_of_ble_eq_true rfl, Nat.le_of_ble_eq_true rfl⟩ (ci := 10) rfl rfl hv1 (Nat.le_of_ble_eq_true rfl) rfl dL_law_389 rfl ?_
  refine gq_aload_n hC 2 dL_law_392 rfl rfl ?_
  refine gq_callJi hC hJ2 [] [.int r] hM2 gL_law_X11_errorPosition rfl ⟨rfl, rfl⟩ hy_X11_errorPosition ⟨Nat.le_of_ble_eq_true rfl, Nat.le_of_ble_eq_true rfl⟩ (ci := 11) rfl rfl hv2 (Nat.le_of_ble_eq_true rfl) rfl dL_law_393 rfl ?_
  refine gq_icmp_eq hC 2643 dL_law_396 (by decide) (fun _ => ?_) (fun h9 => absurd rfl h9)
  exact gq_sub [(4, .int i), (3, .ref ho), (2, .ref hm), (1, .ref hx), (0, .ref bs)] [0, 1, 2, 3, 4] rfl (gq_widen (by omega) (by omega) kk)
set_option maxHeartbeats 4000000 in
theorem lw_count {ws ws1 ws2 W1 W1' W2 W2' W3 : va_W} {hx hm ho bs L : Nat} {xs : Nat → Int32} {i : Int32} {kr : Int32} {r : Int32} {ov : Nat → Int64} {fs1 fs2 fs3 : List Value} {qo : Nat} (hC : Gc p room_1 s m args meth c D (gq_ty cI cJ cZ cO) A 7 cL_law RL lw_tbl ret k n z) (hX : va_X bs L xs s s.heap) (hbl : bs < s.heap.size) (hbA : ¬ A bs) (hi1 : vp_in (i + 1) L) (hM1 : Mi l yL_count wsL_count (rmX 7 1) D (gq_ty cI cJ cZ cO) z [.ref hx, .int (xs (i + 1).toNatClampNeg), .ref ho] W1 kr W1' 1 6) (hJ1 : gq_J ws W1 W1' ws1) (hM2 : Mi l yX11_count wsX11_count (rmD 3) D (gq_ty cI cJ cZ cO) z [.ref hm, .int (xs (i + 1).toNatClampNeg)] W2 r W2' 0 0) (hv2 : W2[0]? = some (hm, .inr (11, fs2))) (hJ2 : gq_J ws1 W2 W2' ws2) (hM3 : Mi l yX11_thrown wsX11_thrown (rmD 0) D (gq_ty cI cJ cZ cO) z [.ref hm] W3 kr W3 0 0) (hv3 : W3[0]? = some (hm, .inr (11, fs3))) (hJ3 : gq_J ws2 W3 W3 ws2) (hqo : ws2[qo]? = some (ho, .inl (cJ, 1, .inr (.inl ov)))) (hov : kr = 0 → ov (0 : Int32).toNatClampNeg = r.toInt64) (hkb : k + 4 ≤ 601024 ∧ n + 24 ≤ 7293034) (kk : Gx p l e room_1 s m args below meth c D A 7 Q (k + 4) (n + 24) 2643 [(4, .int i), (3, .ref ho), (2, .ref hm), (1, .ref hx), (0, .ref bs)] [] ws2) : Gx p l e room_1 s m args below meth c D A 7 Q k n 401 [(4, .int i), (3, .ref ho), (2, .ref hm), (1, .ref hx), (0, .ref bs)] [] ws := by
  refine gq_aload_n hC 3 dL_law_401 rfl rfl ?_
  refine gq_aload_n hC 4 dL_law_402 rfl rfl ?_
  refine gq_iload hC 0 dL_law_403 rfl ?_
  refine gq_iconst hC 1 dL_law_405 (by decide) ?_
  refine gq_iadd hC dL_law_406 ?_
  refine gq_scr hC hX hbl hbA hi1 dL_law_407 ?_
  refine gq_aload_n hC 1 dL_law_408 rfl rfl ?_
  refine gq_callSWi hC hJ1 [.ref hx, .int (xs (i + 1).toNatClampNeg), .ref ho] [] hM1 gL_law_L_count rfl ⟨rfl, rfl⟩ ⟨(by decide +kernel), (by decide +kernel), (show _ = some 3 from by decide +kernel)⟩ ⟨by show k + 1 ≤ 601024; omega, by show n + 6 ≤ 7293034; omega⟩ ⟨Nat.le_of_ble_eq_true rfl, Nat.le_of_ble_eq_true rfl⟩ (Nat.le_of_ble_eq_true rfl) rfl dL_law_409 rfl ?_
  have hC := gq_at (k' := k + 1) (n' := n + 6) hC ⟨by show k + 1 ≤ 601024; omega, by show n + 6 ≤ 7293034; omega⟩
  refine gq_istore hC [(5, .int kr), (4, .int i), (3, .ref ho), (2, .ref hm), (1, .ref hx), (0, .ref bs)] dL_law_412 (by decide) rfl ?_
  refine gq_aload_n hC 3 dL_law_414 rfl rfl ?_
  refine gq_aload_n hC 5 dL_law_415 rfl rfl ?_
  refine gq_iload hC 1 dL_law_416 rfl ?_
  refine gq_iconst hC 1 dL_law_418 (by decide) ?_
  refine gq_iadd hC dL_law_419 ?_
  refine gq_scr hC hX hbl hbA hi1 dL_law_420 ?_
  refine gq_callJi hC hJ2 [.int (xs (i + 1).toNatClampNeg)] [] hM2 gL_law_X11_count rfl ⟨rfl, rfl⟩ hy_X11_count ⟨Nat.le_of_ble_eq_true rfl, Nat.le_of_ble_eq_true rfl⟩ (ci := 11) rfl rfl hv2 (Nat.le_of_ble_eq_true rfl) rfl dL_law_421 rfl ?_
  refine gq_istore hC [(6, .int r), (5, .int kr), (4, .int i), (3, .ref ho), (2, .ref hm), (1, .ref hx), (0, .ref bs)] dL_law_424 (by decide) rfl ?_
  refine gq_aload_n hC 4 dL_law_426 rfl rfl ?_
  refine gq_callJi hC hJ3 [] [] hM3 gL_law_X11_thrown rfl ⟨rfl, rfl⟩ hy_X11_thrown ⟨Nat.le_of_ble_eq_true rfl, Nat.le_of_ble_eq_true rfl⟩ (ci := 11) rfl rfl hv3 (Nat.le_of_ble_eq_true rfl) rfl dL_law_427 rfl ?_
  refine gq_iload hC 1 dL_law_430 rfl ?_
  refine gq_icmp_eq hC 437 dL_law_432 (by decide) (fun _ => ?_) (fun h9 => absurd rfl h9)
  refine gq_iload hC 1 dL_law_437 rfl ?_
  refine gq_if_ne hC 454 dL_law_439 (by decide) (fun _ => ?_) (fun h0 => ?_)
  · refine gq_goto hC 2643 dL_law_454 (by decide) ?_
    exact gq_sub [(4, .int i), (3, .ref ho), (2, .ref hm), (1, .ref hx), (0, .ref bs)] [2, 3, 4, 5, 6] rfl (gq_widen (by omega) (by omega) kk)
  · refine gq_aload_n hC 3 dL_law_442 rfl rfl ?_
    refine gq_iconst hC 0 dL_law_443 (by decide) ?_
    refine gq_lald hC qo 1 hqo rfl (by unfold vp_in; decide) dL_law_444 ?_
    rw [hov h0]
    refine gq_iload hC 0 dL_law_445 rfl ?_
    refine gq_i2l hC dL_law_447 ?_
    refine gq_lcmp hC dL_law_448 ?_
    rw [lg_cmp_self]
    refine gq_if_eq hC 454 dL_law_449 (by decide) (fun _ => ?_) (fun h9 => absurd rfl h9)
    refine gq_goto hC 2643 dL_law_454 (by decide) ?_
    exact gq_sub [(4, .int i), (3, .ref ho), (2, .ref hm), (1, .ref hx), (0, .ref bs)] [2, 3, 4, 5, 6] rfl (gq_widen (by omega) (by omega) kk)
set_option maxHeartbeats 4000000 in
theorem lw_setting {ws ws1 ws2 W1 W1' W2 W2' W3 : va_W} {hx hm ho bs L : Nat} {xs : Nat → Int32} {i : Int32} {kr : Int32} {r : Int32} {ov : Nat → Int64} {fs1 fs2 fs3 : List Value} {qo : Nat} (hC : Gc p room_1 s m args meth c D (gq_ty cI cJ cZ cO) A 7 cL_law RL lw_tbl ret k n z) (hX : va_X bs L xs s s.heap) (hbl : bs < s.heap.size) (hbA : ¬ A bs) (hi1 : vp_in (i + 1) L) (hM1 : Mi l yL_setting wsL_setting (rmX 8 1) D (gq_ty cI cJ cZ cO) z [.ref hx, .int (xs (i + 1).toNatClampNeg), .ref ho] W1 kr W1' 1 6) (hJ1 : gq_J ws W1 W1' ws1) (hM2 : Mi l yX11_setting wsX11_setting (rmD 1) D (gq_ty cI cJ cZ cO) z [.ref hm, .int (xs (i + 1).toNatClampNeg)] W2 r W2' 0 0) (hv2 : W2[0]? = some (hm, .inr (11, fs2))) (hJ2 : gq_J ws1 W2 W2' ws2) (hM3 : Mi l yX11_thrown wsX11_thrown (rmD 0) D (gq_ty cI cJ cZ cO) z [.ref hm] W3 kr W3 0 0) (hv3 : W3[0]? = some (hm, .inr (11, fs3))) (hJ3 : gq_J ws2 W3 W3 ws2) (hqo : ws2[qo]? = some (ho, .inl (cJ, 1, .inr (.inl ov)))) (hov : kr = 0 → ov (0 : Int32).toNatClampNeg = r.toInt64) (hkb : k + 4 ≤ 601024 ∧ n + 24 ≤ 7293034) (kk : Gx p l e room_1 s m args below meth c D A 7 Q (k + 4) (n + 24) 2643 [(4, .int i), (3, .ref ho), (2, .ref hm), (1, .ref hx), (0, .ref bs)] [] ws2) : Gx p l e room_1 s m args below meth c D A 7 Q k n 457 [(4, .int i), (3, .ref ho), (2, .ref hm), (1, .ref hx), (0, .ref bs)] [] ws := by
  refine gq_aload_n hC 3 dL_law_457 rfl rfl ?_
  refine gq_aload_n hC 4 dL_law_458 rfl rfl ?_
  refine gq_iload hC 0 dL_law_459 rfl ?_
  refine gq_iconst hC 1 dL_law_461 (by decide) ?_
  refine gq_iadd hC dL_law_462 ?_
  refine gq_scr hC hX hbl hbA hi1 dL_law_463 ?_
  refine gq_aload_n hC 1 dL_law_464 rfl rfl ?_
  refine gq_callSWi hC hJ1 [.ref hx, .int (xs (i + 1).toNatClampNeg), .ref ho] [] hM1 gL_law_L_setting rfl ⟨rfl, rfl⟩ ⟨(by decide +kernel), (by decide +kernel), (show _ = some 3 from by decide +kernel)⟩ ⟨by show k + 1 ≤ 601024; omega, by show n + 6 ≤ 7293034; omega⟩ ⟨Nat.le_of_ble_eq_true rfl, Nat.le_of_ble_eq_true rfl⟩ (Nat.le_of_ble_eq_true rfl) rfl dL_law_465 rfl ?_
  have hC := gq_at (k' := k + 1) (n' := n + 6) hC ⟨by show k + 1 ≤ 601024; omega, by show n + 6 ≤ 7293034; omega⟩
  refine gq_istore hC [(5, .int kr), (4, .int i), (3, .ref ho), (2, .ref hm), (1, .ref hx), (0, .ref bs)] dL_law_468 (by decide) rfl ?_
  refine gq_aload_n hC 3 dL_law_470 rfl rfl ?_
  refine gq_aload_n hC 5 dL_law_471 rfl rfl ?_
  refine gq_iload hC 1 dL_law_472 rfl ?_
  refine gq_iconst hC 1 dL_law_474 (by decide) ?_
  refine gq_iadd hC dL_law_475 ?_
  refine gq_scr hC hX hbl hbA hi1 dL_law_476 ?_
  refine gq_callJi hC hJ2 [.int (xs (i + 1).toNatClampNeg)] [] hM2 gL_law_X11_setting rfl ⟨rfl, rfl⟩ hy_X11_setting ⟨Nat.le_of_ble_eq_true rfl, Nat.le_of_ble_eq_true rfl⟩ (ci := 11) rfl rfl hv2 (Nat.le_of_ble_eq_true rfl) rfl dL_law_477 rfl ?_
  refine gq_istore hC [(6, .int r), (5, .int kr), (4, .int i), (3, .ref ho), (2, .ref hm), (1, .ref hx), (0, .ref bs)] dL_law_480 (by decide) rfl ?_
  refine gq_aload_n hC 4 dL_law_482 rfl rfl ?_
  refine gq_callJi hC hJ3 [] [] hM3 gL_law_X11_thrown rfl ⟨rfl, rfl⟩ hy_X11_thrown ⟨Nat.le_of_ble_eq_true rfl, Nat.le_of_ble_eq_true rfl⟩ (ci := 11) rfl rfl hv3 (Nat.le_of_ble_eq_true rfl) rfl dL_law_483 rfl ?_
  refine gq_iload hC 1 dL_law_486 rfl ?_
  refine gq_icmp_eq hC 493 dL_law_488 (by decide) (fun _ => ?_) (fun h9 => absurd rfl h9)
  refine gq_iload hC 1 dL_law_493 rfl ?_
  refine gq_if_ne hC 510 dL_law_495 (by decide) (fun _ => ?_) (fun h0 => ?_)
  · refine gq_goto hC 2643 dL_law_510 (by decide) ?_
    exact gq_sub [(4, .int i), (3, .ref ho), (2, .ref hm), (1, .ref hx), (0, .ref bs)] [2, 3, 4, 5, 6] rfl (gq_widen (by omega) (by omega) kk)
  · refine gq_aload_n hC 3 dL_law_498 rfl rfl ?_
    refine gq_iconst hC 0 dL_law_499 (by decide) ?_
    refine gq_lald hC qo 1 hqo rfl (by unfold vp_in; decide) dL_law_500 ?_
    rw [hov h0]
    refine gq_iload hC 0 dL_law_501 rfl ?_
    refine gq_i2l hC dL_law_503 ?_
    refine gq_lcmp hC dL_law_504 ?_
    rw [lg_cmp_self]
    refine gq_if_eq hC 510 dL_law_505 (by decide) (fun _ => ?_) (fun h9 => absurd rfl h9)
    refine gq_goto hC 2643 dL_law_510 (by decide) ?_
    exact gq_sub [(4, .int i), (3, .ref ho), (2, .ref hm), (1, .ref hx), (0, .ref bs)] [2, 3, 4, 5, 6] rfl (gq_widen (by omega) (by omega) kk)
set_option maxHeartbeats 4000000 in
theorem lw_set {ws ws1 ws2 W1 W1' W2 W2' W3 : va_W} {hx hm ho bs L : Nat} {xs : Nat → Int32} {i : Int32} {kr : Int32} {r : Int32} {ov : Nat → Int64} {fs1 fs2 fs3 : List Value} {qo : Nat} (hC : Gc p room_1 s m args meth c D (gq_ty cI cJ cZ cO) A 7 cL_law RL lw_tbl ret k n z) (hX : va_X bs L xs s s.heap) (hbl : bs < s.heap.size) (hbA : ¬ A bs) (hi1 : vp_in (i + 1) L) (hi2 : vp_in (i + 2) L) (hM1 : Mi l yL_set wsL_set (rmX 8 2) D (gq_ty cI cJ cZ cO) z [.ref hx, .int (xs (i + 1).toNatClampNeg), .int (xs (i + 2).toNatClampNeg), .ref ho] W1 kr W1' 2 12) (hJ1 : gq_J ws W1 W1' ws1) (hM2 : Mi l yX11_set wsX11_set (rmD 1) D (gq_ty cI cJ cZ cO) z [.ref hm, .int (xs (i + 1).toNatClampNeg), .int (xs (i + 2).toNatClampNeg)] W2 r W2' 0 0) (hv2 : W2[0]? = some (hm, .inr (11, fs2))) (hJ2 : gq_J ws1 W2 W2' ws2) (hM3 : Mi l yX11_thrown wsX11_thrown (rmD 0) D (gq_ty cI cJ cZ cO) z [.ref hm] W3 kr W3 0 0) (hv3 : W3[0]? = some (hm, .inr (11, fs3))) (hJ3 : gq_J ws2 W3 W3 ws2) (hqo : ws2[qo]? = some (ho, .inl (cJ, 1, .inr (.inl ov)))) (hov : kr = 0 → ov (0 : Int32).toNatClampNeg = r.toInt64) (hkb : k + 4 ≤ 601024 ∧ n + 24 ≤ 7293034) (kk : Gx p l e room_1 s m args below meth c D A 7 Q (k + 4) (n + 24) 2643 [(4, .int i), (3, .ref ho), (2, .ref hm), (1, .ref hx), (0, .ref bs)] [] ws2) : Gx p l e room_1 s m args below meth c D A 7 Q k n 513 [(4, .int i), (3, .ref ho), (2, .ref hm), (1, .ref hx), (0, .ref bs)] [] ws := by
  refine gq_aload_n hC 3 dL_law_513 rfl rfl ?_
  refine gq_aload_n hC 4 dL_law_514 rfl rfl ?_
  refine gq_iload hC 0 dL_law_515 rfl ?_
  refine gq_iconst hC 1 dL_law_517 (by decide) ?_
  refine gq_iadd hC dL_law_518 ?_
  refine gq_scr hC hX hbl hbA hi1 dL_law_519 ?_
  refine gq_aload_n hC 4 dL_law_520 rfl rfl ?_
  refine gq_iload hC 0 dL_law_521 rfl ?_
  refine gq_iconst hC 2 dL_law_523 (by decide) ?_
  refine gq_iadd hC dL_law_524 ?_
  refine gq_scr hC hX hbl hbA hi2 dL_law_525 ?_
  refine gq_aload_n hC 1 dL_law_526 rfl rfl ?_
  refine gq_callSWi hC hJ1 [.ref hx, .int (xs (i + 1).toNatClampNeg), .int (xs (i + 2).toNatClampNeg), .ref ho] [] hM1 gL_law_L_set rfl ⟨rfl, rfl⟩ ⟨(by decide +kernel), (by decide +kernel), (show _ = some 4 from by decide +kernel)⟩ ⟨by show k + 2 ≤ 601024; omega, by show n + 12 ≤ 7293034; omega⟩ ⟨Nat.le_of_ble_eq_true rfl, Nat.le_of_ble_eq_true rfl⟩ (Nat.le_of_ble_eq_true rfl) rfl dL_law_527 rfl ?_
  have hC := gq_at (k' := k + 2) (n' := n + 12) hC ⟨by show k + 2 ≤ 601024; omega, by show n + 12 ≤ 7293034; omega⟩
  refine gq_istore hC [(5, .int kr), (4, .int i), (3, .ref ho), (2, .ref hm), (1, .ref hx), (0, .ref bs)] dL_law_530 (by decide) rfl ?_
  refine gq_aload_n hC 3 dL_law_532 rfl rfl ?_
  refine gq_aload_n hC 5 dL_law_533 rfl rfl ?_
  refine gq_iload hC 1 dL_law_534 rfl ?_
  refine gq_iconst hC 1 dL_law_536 (by decide) ?_
  refine gq_iadd hC dL_law_537 ?_
  refine gq_scr hC hX hbl hbA hi1 dL_law_538 ?_
  refine gq_aload_n hC 5 dL_law_539 rfl rfl ?_
  refine gq_iload hC 1 dL_law_540 rfl ?_
  refine gq_iconst hC 2 dL_law_542 (by decide) ?_
  refine gq_iadd hC dL_law_543 ?_
  refine gq_scr hC hX hbl hbA hi2 dL_law_544 ?_
  refine gq_callJi hC hJ2 [.int (xs (i + 1).toNatClampNeg), .int (xs (i + 2).toNatClampNeg)] [] hM2 gL_law_X11_set rfl ⟨rfl, rfl⟩ hy_X11_set ⟨Nat.le_of_ble_eq_true rfl, Nat.le_of_ble_eq_true rfl⟩ (ci := 11) rfl rfl hv2 (Nat.le_of_ble_eq_true rfl) rfl dL_law_545 rfl ?_
  refine gq_istore hC [(6, .int r), (5, .int kr), (4, .int i), (3, .ref ho), (2, .ref hm), (1, .ref hx), (0, .ref bs)] dL_law_548 (by decide) rfl ?_
  refine gq_aload_n hC 4 dL_law_550 rfl rfl ?_
  refine gq_callJi hC hJ3 [] [] hM3 gL_law_X11_thrown rfl ⟨rfl, rfl⟩ hy_X11_thrown ⟨Nat.le_of_ble_eq_true rfl, Nat.le_of_ble_eq_true rfl⟩ (ci := 11) rfl rfl hv3 (Nat.le_of_ble_eq_true rfl) rfl dL_law_551 rfl ?_
  refine gq_iload hC 1 dL_law_554 rfl ?_
  refine gq_icmp_eq hC 561 dL_law_556 (by decide) (fun _ => ?_) (fun h9 => absurd rfl h9)
  refine gq_iload hC 1 dL_law_561 rfl ?_
  refine gq_if_ne hC 578 dL_law_563 (by decide) (fun _ => ?_) (fun h0 => ?_)
  · refine gq_goto hC 2643 dL_law_578 (by decide) ?_
    exact gq_sub [(4, .int i), (3, .ref ho), (2, .ref hm), (1, .ref hx), (0, .ref bs)] [2, 3, 4, 5, 6] rfl (gq_widen (by omega) (by omega) kk)
  · refine gq_aload_n hC 3 dL_law_566 rfl rfl ?_
    refine gq_iconst hC 0 dL_law_567 (by decide) ?_
    refine gq_lald hC qo 1 hqo rfl (by unfold vp_in; decide) dL_law_568 ?_
    rw [hov h0]
    refine gq_iload hC 0 dL_law_569 rfl ?_
    refine gq_i2l hC dL_law_571 ?_
    refine gq_lcmp hC dL_law_572 ?_
    rw [lg_cmp_self]
    refine gq_if_eq hC 578 dL_law_573 (by decide) (fun _ => ?_) (fun h9 => absurd rfl h9)
    refine gq_goto hC 2643 dL_law_578 (by decide) ?_
    exact gq_sub [(4, .int i), (3, .ref ho), (2, .ref hm), (1, .ref hx), (0, .ref bs)] [2, 3, 4, 5, 6] rfl (gq_widen (by omega) (by omega) kk)
set_option maxHeartbeats 4000000 in
theorem lw_segment {ws ws1 ws2 W1 W1' W2 W2' W3 : va_W} {hx hm ho bs L : Nat} {xs : Nat → Int32} {i : Int32} {kr : Int32} {r : Int32} {ov : Nat → Int64} {fs1 fs2 fs3 : List Value} {qo : Nat} (hC : Gc p room_1 s m args meth c D (gq_ty cI cJ cZ cO) A 7 cL_law RL lw_tbl ret k n z) (hX : va_X bs L xs s s.heap) (hbl : bs < s.heap.size) (hbA : ¬ A bs) (hi1 : vp_in (i + 1) L) (hi2 : vp_in (i + 2) L) (hM1 : Mi l yL_segment wsL_segment (rmX 8 2) D (gq_ty cI cJ cZ cO) z [.ref hx, .int (xs (i + 1).toNatClampNeg), .int (xs (i + 2).toNatClampNeg), .ref ho] W1 kr W1' 2 12) (hJ1 : gq_J ws W1 W1' ws1) (hM2 : Mi l yX11_segment wsX11_segment (rmD 9) D (gq_ty cI cJ cZ cO) z [.ref hm, .int (xs (i + 1).toNatClampNeg), .int (xs (i + 2).toNatClampNeg)] W2 r W2' 0 0) (hv2 : W2[0]? = some (hm, .inr (11, fs2))) (hJ2 : gq_J ws1 W2 W2' ws2) (hM3 : Mi l yX11_thrown wsX11_thrown (rmD 0) D (gq_ty cI cJ cZ cO) z [.ref hm] W3 kr W3 0 0) (hv3 : W3[0]? = some (hm, .inr (11, fs3))) (hJ3 : gq_J ws2 W3 W3 ws2) (hqo : ws2[qo]? = some (ho, .inl (cJ, 1, .inr (.inl ov)))) (hov : kr = 0 → ov (0 : Int32).toNatClampNeg = r.toInt64) (hkb : k + 4 ≤ 601024 ∧ n + 24 ≤ 7293034) (kk : Gx p l e room_1 s m args below meth c D A 7 Q (k + 4) (n + 24) 2643 [(4, .int i), (3, .ref ho), (2, .ref hm), (1, .ref hx), (0, .ref bs)] [] ws2) : Gx p l e room_1 s m args below meth c D A 7 Q k n 581 [(4, .int i), (3, .ref ho), (2, .ref hm), (1, .ref hx), (0, .ref bs)] [] ws := by
  refine gq_aload_n hC 3 dL_law_581 rfl rfl ?_
  refine gq_aload_n hC 4 dL_law_582 rfl rfl ?_
  refine gq_iload hC 0 dL_law_583 rfl ?_
  refine gq_iconst hC 1 dL_law_585 (by decide) ?_
  refine gq_iadd hC dL_law_586 ?_
  refine gq_scr hC hX hbl hbA hi1 dL_law_587 ?_
  refine gq_aload_n hC 4 dL_law_588 rfl rfl ?_
  refine gq_iload hC 0 dL_law_589 rfl ?_
  refine gq_iconst hC 2 dL_law_591 (by decide) ?_
  refine gq_iadd hC dL_law_592 ?_
  refine gq_scr hC hX hbl hbA hi2 dL_law_593 ?_
  refine gq_aload_n hC 1 dL_law_594 rfl rfl ?_
  refine gq_callSWi hC hJ1 [.ref hx, .int (xs (i + 1).toNatClampNeg), .int (xs (i + 2).toNatClampNeg), .ref ho] [] hM1 gL_law_L_segment rfl ⟨rfl, rfl⟩ ⟨(by decide +kernel), (by decide +kernel), (show _ = some 4 from by decide +kernel)⟩ ⟨by show k + 2 ≤ 601024; omega, by show n + 12 ≤ 7293034; omega⟩ ⟨Nat.le_of_ble_eq_true rfl, Nat.le_of_ble_eq_true rfl⟩ (Nat.le_of_ble_eq_true rfl) rfl dL_law_595 rfl ?_
  have hC := gq_at (k' := k + 2) (n' := n + 12) hC ⟨by show k + 2 ≤ 601024; omega, by show n + 12 ≤ 7293034; omega⟩
  refine gq_istore hC [(5, .int kr), (4, .int i), (3, .ref ho), (2, .ref hm), (1, .ref hx), (0, .ref bs)] dL_law_598 (by decide) rfl ?_
  refine gq_aload_n hC 3 dL_law_600 rfl rfl ?_
  refine gq_aload_n hC 5 dL_law_601 rfl rfl ?_
  refine gq_iload hC 1 dL_law_602 rfl ?_
  refine gq_iconst hC 1 dL_law_604 (by decide) ?_
  refine gq_iadd hC dL_law_605 ?_
  refine gq_scr hC hX hbl hbA hi1 dL_law_606 ?_
  refine gq_aload_n hC 5 dL_law_607 rfl rfl ?_
  refine gq_iload hC 1 dL_law_608 rfl ?_
  refine gq_iconst hC 2 dL_law_610 (by decide) ?_
  refine gq_iadd hC dL_law_611 ?_
  refine gq_scr hC hX hbl hbA hi2 dL_law_612 ?_
  refine gq_callJi hC hJ2 [.int (xs (i + 1).toNatClampNeg), .int (xs (i + 2).toNatClampNeg)] [] hM2 gL_law_X11_segment rfl ⟨rfl, rfl⟩ hy_X11_segment ⟨Nat.le_of_ble_eq_true rfl, Nat.le_of_ble_eq_true rfl⟩ (ci := 11) rfl rfl hv2 (Nat.le_of_ble_eq_true rfl) rfl dL_law_613 rfl ?_
  refine gq_istore hC [(6, .int r), (5, .int kr), (4, .int i), (3, .ref ho), (2, .ref hm), (1, .ref hx), (0, .ref bs)] dL_law_616 (by decide) rfl ?_
  refine gq_aload_n hC 4 dL_law_618 rfl rfl ?_
  refine gq_callJi hC hJ3 [] [] hM3 gL_law_X11_thrown rfl ⟨rfl, rfl⟩ hy_X11_thrown ⟨Nat.le_of_ble_eq_true rfl, Nat.le_of_ble_eq_true rfl⟩ (ci := 11) rfl rfl hv3 (Nat.le_of_ble_eq_true rfl) rfl dL_law_619 rfl ?_
  refine gq_iload hC 1 dL_law_622 rfl ?_
  refine gq_icmp_eq hC 629 dL_law_624 (by decide) (fun _ => ?_) (fun h9 => absurd rfl h9)
  refine gq_iload hC 1 dL_law_629 rfl ?_
  refine gq_if_ne hC 646 dL_law_631 (by decide) (fun _ => ?_) (fun h0 => ?_)
  · refine gq_goto hC 2643 dL_law_646 (by decide) ?_
    exact gq_sub [(4, .int i), (3, .ref ho), (2, .ref hm), (1, .ref hx), (0, .ref bs)] [2, 3, 4, 5, 6] rfl (gq_widen (by omega) (by omega) kk)
  · refine gq_aload_n hC 3 dL_law_634 rfl rfl ?_
    refine gq_iconst hC 0 dL_law_635 (by decide) ?_
    refine gq_lald hC qo 1 hqo rfl (by unfold vp_in; decide) dL_law_636 ?_
    rw [hov h0]
    refine gq_iload hC 0 dL_law_637 rfl ?_
    refine gq_i2l hC dL_law_639 ?_
    refine gq_lcmp hC dL_law_640 ?_
    rw [lg_cmp_self]
    refine gq_if_eq hC 646 dL_law_641 (by decide) (fun _ => ?_) (fun h9 => absurd rfl h9)
    refine gq_goto hC 2643 dL_law_646 (by decide) ?_
    exact gq_sub [(4, .int i), (3, .ref ho), (2, .ref hm), (1, .ref hx), (0, .ref bs)] [2, 3, 4, 5, 6] rfl (gq_widen (by omega) (by omega) kk)
set_option maxHeartbeats 4000000 in
theorem lw_wordOf {ws ws1 ws2 W1 W1' W2 W2' W3 : va_W} {hx hm ho bs L : Nat} {xs : Nat → Int32} {i : Int32} {kr : Int32} {r : Int32} {ov : Nat → Int64} {fs1 fs2 fs3 : List Value} {qo : Nat} (hC : Gc p room_1 s m args meth c D (gq_ty cI cJ cZ cO) A 7 cL_law RL lw_tbl ret k n z) (hX : va_X bs L xs s s.heap) (hbl : bs < s.heap.size) (hbA : ¬ A bs) (hi1 : vp_in (i + 1) L) (hi2 : vp_in (i + 2) L) (hM1 : Mi l yL_wordOf wsL_wordOf (rmX 8 2) D (gq_ty cI cJ cZ cO) z [.ref hx, .int (xs (i + 1).toNatClampNeg), .int (xs (i + 2).toNatClampNeg), .ref ho] W1 kr W1' 2 12) (hJ1 : gq_J ws W1 W1' ws1) (hM2 : Mi l yX11_wordOf wsX11_wordOf (rmD 2) D (gq_ty cI cJ cZ cO) z [.ref hm, .int (xs (i + 1).toNatClampNeg), .int (xs (i + 2).toNatClampNeg)] W2 r W2' 0 0) (hv2 : W2[0]? = some (hm, .inr (11, fs2))) (hJ2 : gq_J ws1 W2 W2' ws2) (hM3 : Mi l yX11_thrown wsX11_thrown (rmD 0) D (gq_ty cI cJ cZ cO) z [.ref hm] W3 kr W3 0 0) (hv3 : W3[0]? = some (hm, .inr (11, fs3))) (hJ3 : gq_J ws2 W3 W3 ws2) (hqo : ws2[qo]? = some (ho, .inl (cJ, 1, .inr (.inl ov)))) (hov : kr = 0 → ov (0 : Int32).toNatClampNeg = r.toInt64) (hkb : k + 4 ≤ 601024 ∧ n + 24 ≤ 7293034) (kk : Gx p l e room_1 s m args below meth c D A 7 Q (k + 4) (n + 24) 2643 [(4, .int i), (3, .ref ho), (2, .ref hm), (1, .ref hx), (0, .ref bs)] [] ws2) : Gx p l e room_1 s m args below meth c D A 7 Q k n 649 [(4, .int i), (3, .ref ho), (2, .ref hm), (1, .ref hx), (0, .ref bs)] [] ws := by
  refine gq_aload_n hC 3 dL_law_649 rfl rfl ?_
  refine gq_aload_n hC 4 dL_law_650 rfl rfl ?_
  refine gq_iload hC 0 dL_law_651 rfl ?_
  refine gq_iconst hC 1 dL_law_653 (by decide) ?_
  refine gq_iadd hC dL_law_654 ?_
  refine gq_scr hC hX hbl hbA hi1 dL_law_655 ?_
  refine gq_aload_n hC 4 dL_law_656 rfl rfl ?_
  refine gq_iload hC 0 dL_law_657 rfl ?_
  refine gq_iconst hC 2 dL_law_659 (by decide) ?_
  refine gq_iadd hC dL_law_660 ?_
  refine gq_scr hC hX hbl hbA hi2 dL_law_661 ?_
  refine gq_aload_n hC 1 dL_law_662 rfl rfl ?_
  refine gq_callSWi hC hJ1 [.ref hx, .int (xs (i + 1).toNatClampNeg), .int (xs (i + 2).toNatClampNeg), .ref ho] [] hM1 gL_law_L_wordOf rfl ⟨rfl, rfl⟩ ⟨(by decide +kernel), (by decide +kernel), (show _ = some 4 from by decide +kernel)⟩ ⟨by show k + 2 ≤ 601024; omega, by show n + 12 ≤ 7293034; omega⟩ ⟨Nat.le_of_ble_eq_true rfl, Nat.le_of_ble_eq_true rfl⟩ (Nat.le_of_ble_eq_true rfl) rfl dL_law_663 rfl ?_
  have hC := gq_at (k' := k + 2) (n' := n + 12) hC ⟨by show k + 2 ≤ 601024; omega, by show n + 12 ≤ 7293034; omega⟩
  refine gq_istore hC [(5, .int kr), (4, .int i), (3, .ref ho), (2, .ref hm), (1, .ref hx), (0, .ref bs)] dL_law_666 (by decide) rfl ?_
  refine gq_aload_n hC 3 dL_law_668 rfl rfl ?_
  refine gq_aload_n hC 5 dL_law_669 rfl rfl ?_
  refine gq_iload hC 1 dL_law_670 rfl ?_
  refine gq_iconst hC 1 dL_law_672 (by decide) ?_
  refine gq_iadd hC dL_law_673 ?_
  refine gq_scr hC hX hbl hbA hi1 dL_law_674 ?_
  refine gq_aload_n hC 5 dL_law_675 rfl rfl ?_
  refine gq_iload hC 1 dL_law_676 rfl ?_
  refine gq_iconst hC 2 dL_law_678 (by decide) ?_
  refine gq_iadd hC dL_law_679 ?_
  refine gq_scr hC hX hbl hbA hi2 dL_law_680 ?_
  refine gq_callJi hC hJ2 [.int (xs (i + 1).toNatClampNeg), .int (xs (i + 2).toNatClampNeg)] [] hM2 gL_law_X11_wordOf rfl ⟨rfl, rfl⟩ hy_X11_wordOf ⟨Nat.le_of_ble_eq_true rfl, Nat.le_of_ble_eq_true rfl⟩ (ci := 11) rfl rfl hv2 (Nat.le_of_ble_eq_true rfl) rfl dL_law_681 rfl ?_
  refine gq_istore hC [(6, .int r), (5, .int kr), (4, .int i), (3, .ref ho), (2, .ref hm), (1, .ref hx), (0, .ref bs)] dL_law_684 (by decide) rfl ?_
  refine gq_aload_n hC 4 dL_law_686 rfl rfl ?_
  refine gq_callJi hC hJ3 [] [] hM3 gL_law_X11_thrown rfl ⟨rfl, rfl⟩ hy_X11_thrown ⟨Nat.le_of_ble_eq_true rfl, Nat.le_of_ble_eq_true rfl⟩ (ci := 11) rfl rfl hv3 (Nat.le_of_ble_eq_true rfl) rfl dL_law_687 rfl ?_
  refine gq_iload hC 1 dL_law_690 rfl ?_
  refine gq_icmp_eq hC 697 dL_law_692 (by decide) (fun _ => ?_) (fun h9 => absurd rfl h9)
  refine gq_iload hC 1 dL_law_697 rfl ?_
  refine gq_if_ne hC 714 dL_law_699 (by decide) (fun _ => ?_) (fun h0 => ?_)
  · refine gq_goto hC 2643 dL_law_714 (by decide) ?_
    exact gq_sub [(4, .int i), (3, .ref ho), (2, .ref hm), (1, .ref hx), (0, .ref bs)] [2, 3, 4, 5, 6] rfl (gq_widen (by omega) (by omega) kk)
  · refine gq_aload_n hC 3 dL_law_702 rfl rfl ?_
    refine gq_iconst hC 0 dL_law_703 (by decide) ?_
    refine gq_lald hC qo 1 hqo rfl (by unfold vp_in; decide) dL_law_704 ?_
    rw [hov h0]
    refine gq_iload hC 0 dL_law_705 rfl ?_
    refine gq_i2l hC dL_law_707 ?_
    refine gq_lcmp hC dL_law_708 ?_
    rw [lg_cmp_self]
    refine gq_if_eq hC 714 dL_law_709 (by decide) (fun _ => ?_) (fun h9 => absurd rfl h9)
    refine gq_goto hC 2643 dL_law_714 (by decide) ?_
    exact gq_sub [(4, .int i), (3, .ref ho), (2, .ref hm), (1, .ref hx), (0, .ref bs)] [2, 3, 4, 5, 6] rfl (gq_widen (by omega) (by omega) kk)
set_option maxHeartbeats 4000000 in
theorem lw_find {ws ws1 ws2 W1 W1' W2 W2' W3 : va_W} {hx hm ho bs L : Nat} {xs : Nat → Int32} {i : Int32} {r : Int32} {fs1 fs2 : List Value} (hC : Gc p room_1 s m args meth c D (gq_ty cI cJ cZ cO) A 7 cL_law RL lw_tbl ret k n z) (hX : va_X bs L xs s s.heap) (hbl : bs < s.heap.size) (hbA : ¬ A bs) (hi1 : vp_in (i + 1) L) (hi2 : vp_in (i + 2) L) (hM1 : Mi l yX10_find wsX10_find (rmD 1) D (gq_ty cI cJ cZ cO) z [.ref hx, .long (((xs (i + 1).toNatClampNeg).toInt64 <<< ((32 : Int32).toInt64 &&& 63)) ||| ((xs (i + 2).toNatClampNeg).toInt64 &&& 4294967295))] W1 r W1' 0 0) (hv1 : W1[0]? = some (hx, .inr (10, fs1))) (hJ1 : gq_J ws W1 W1' ws1) (hM2 : Mi l yX11_find wsX11_find (rmD 0) D (gq_ty cI cJ cZ cO) z [.ref hm, .long (((xs (i + 1).toNatClampNeg).toInt64 <<< ((32 : Int32).toInt64 &&& 63)) ||| ((xs (i + 2).toNatClampNeg).toInt64 &&& 4294967295))] W2 r W2' 0 0) (hv2 : W2[0]? = some (hm, .inr (11, fs2))) (hJ2 : gq_J ws1 W2 W2' ws2) (hkb : k + 4 ≤ 601024 ∧ n + 24 ≤ 7293034) (kk : Gx p l e room_1 s m args below meth c D A 7 Q (k + 4) (n + 24) 2643 [(4, .int i), (3, .ref ho), (2, .ref hm), (1, .ref hx), (0, .ref bs)] [] ws2) : Gx p l e room_1 s m args below meth c D A 7 Q k n 717 [(4, .int i), (3, .ref ho), (2, .ref hm), (1, .ref hx), (0, .ref bs)] [] ws := by
  refine gq_aload_n hC 3 dL_law_717 rfl rfl ?_
  refine gq_aload_n hC 4 dL_law_718 rfl rfl ?_
  refine gq_iload hC 0 dL_law_719 rfl ?_
  refine gq_iconst hC 1 dL_law_721 (by decide) ?_
  refine gq_iadd hC dL_law_722 ?_
  refine gq_scr hC hX hbl hbA hi1 dL_law_723 ?_
  refine gq_i2l hC dL_law_724 ?_
  refine gq_bipush hC 32 dL_law_725 (by decide) ?_
  refine gq_lshl hC dL_law_727 ?_
  refine gq_aload_n hC 4 dL_law_728 rfl rfl ?_
  refine gq_iload hC 0 dL_law_729 rfl ?_
  refine gq_iconst hC 2 dL_law_731 (by decide) ?_
  refine gq_iadd hC dL_law_732 ?_
  refine gq_scr hC hX hbl hbA hi2 dL_law_733 ?_
  refine gq_i2l hC dL_law_734 ?_
  refine gq_ldc2 hC 4294967295 dL_law_735 (List.mem_of_getElem? (i := 1909) (by decide +kernel)) ?_
  refine gq_land hC dL_law_738 ?_
  refine gq_lor hC dL_law_739 ?_
  refine gq_callJi hC hJ1 [.long (((xs (i + 1).toNatClampNeg).toInt64 <<< ((32 : Int32).toInt64 &&& 63)) ||| ((xs (i + 2).toNatClampNeg).toInt64 &&& 4294967295))] [] hM1 gL_law_X10_find rfl ⟨rfl, rfl⟩ hy_X10_find ⟨Nat.le_of_ble_eq_true rfl, Nat.le_of_ble_eq_true rfl⟩ (ci := 10) rfl rfl hv1 (Nat.le_of_ble_eq_true rfl) rfl dL_law_740 rfl ?_
  refine gq_aload_n hC 2 dL_law_743 rfl rfl ?_
  refine gq_aload_n hC 4 dL_law_744 rfl rfl ?_
  refine gq_iload hC 0 dL_law_745 rfl ?_
  refine gq_iconst hC 1 dL_law_747 (by decide) ?_
  refine gq_iadd hC dL_law_748 ?_
  refine gq_scr hC hX hbl hbA hi1 dL_law_749 ?_
  refine gq_i2l hC dL_law_750 ?_
  refine gq_bipush hC 32 dL_law_751 (by decide) ?_
  refine gq_lshl hC dL_law_753 ?_
  refine gq_aload_n hC 4 dL_law_754 rfl rfl ?_
  refine gq_iload hC 0 dL_law_755 rfl ?_
  refine gq_iconst hC 2 dL_law_757 (by decide) ?_
  refine gq_iadd hC dL_law_758 ?_
  refine gq_scr hC hX hbl hbA hi2 dL_law_759 ?_
  refine gq_i2l hC dL_law_760 ?_
  refine gq_ldc2 hC 4294967295 dL_law_761 (List.mem_of_getElem? (i := 1909) (by decide +kernel)) ?_
  refine gq_land hC dL_law_764 ?_
  refine gq_lor hC dL_law_765 ?_
  refine gq_callJi hC hJ2 [.long (((xs (i + 1).toNatClampNeg).toInt64 <<< ((32 : Int32).toInt64 &&& 63)) ||| ((xs (i + 2).toNatClampNeg).toInt64 &&& 4294967295))] [.int r] hM2 gL_law_X11_find rfl ⟨rfl, rfl⟩ hy_X11_find ⟨Nat.le_of_ble_eq_true rfl, Nat.le_of_ble_eq_true rfl⟩ (ci := 11) rfl rfl hv2 (Nat.le_of_ble_eq_true rfl) rfl dL_law_766 rfl ?_
  refine gq_icmp_eq hC 2643 dL_law_769 (by decide) (fun _ => ?_) (fun h9 => absurd rfl h9)
  exact gq_sub [(4, .int i), (3, .ref ho), (2, .ref hm), (1, .ref hx), (0, .ref bs)] [0, 1, 2, 3, 4] rfl (gq_widen (by omega) (by omega) kk)
set_option maxHeartbeats 4000000 in
theorem lw_uses {ws ws1 ws2 W1 W1' W2 W2' W3 : va_W} {hx hm ho bs L : Nat} {xs : Nat → Int32} {i : Int32} {kr : Int32} {r : Int32} {ov : Nat → Int64} {fs1 fs2 fs3 : List Value} {qo : Nat} (hC : Gc p room_1 s m args meth c D (gq_ty cI cJ cZ cO) A 7 cL_law RL lw_tbl ret k n z) (hX : va_X bs L xs s s.heap) (hbl : bs < s.heap.size) (hbA : ¬ A bs) (hi1 : vp_in (i + 1) L) (hi2 : vp_in (i + 2) L) (hi3 : vp_in (i + 3) L) (hM1 : Mi l yL_uses wsL_uses (rmX 8 4) D (gq_ty cI cJ cZ cO) z [.ref hx, .int (xs (i + 1).toNatClampNeg), .int (xs (i + 2).toNatClampNeg), .int (xs (i + 3).toNatClampNeg), .ref ho] W1 kr W1' 4 24) (hJ1 : gq_J ws W1 W1' ws1) (hM2 : Mi l yX11_uses wsX11_uses (rmD 2) D (gq_ty cI cJ cZ cO) z [.ref hm, .int (xs (i + 1).toNatClampNeg), .int (xs (i + 2).toNatClampNeg), .int (xs (i + 3).toNatClampNeg)] W2 r W2' 0 0) (hv2 : W2[0]? = some (hm, .inr (11, fs2))) (hJ2 : gq_J ws1 W2 W2' ws2) (hM3 : Mi l yX11_thrown wsX11_thrown (rmD 0) D (gq_ty cI cJ cZ cO) z [.ref hm] W3 kr W3 0 0) (hv3 : W3[0]? = some (hm, .inr (11, fs3))) (hJ3 : gq_J ws2 W3 W3 ws2) (hqo : ws2[qo]? = some (ho, .inl (cJ, 1, .inr (.inl ov)))) (hov : kr = 0 → ov (0 : Int32).toNatClampNeg = r.toInt64) (hkb : k + 4 ≤ 601024 ∧ n + 24 ≤ 7293034) (kk : Gx p l e room_1 s m args below meth c D A 7 Q (k + 4) (n + 24) 2643 [(4, .int i), (3, .ref ho), (2, .ref hm), (1, .ref hx), (0, .ref bs)] [] ws2) : Gx p l e room_1 s m args below meth c D A 7 Q k n 774 [(4, .int i), (3, .ref ho), (2, .ref hm), (1, .ref hx), (0, .ref bs)] [] ws := by
  refine gq_aload_n hC 3 dL_law_774 rfl rfl ?_
  refine gq_aload_n hC 4 dL_law_775 rfl rfl ?_
  refine gq_iload hC 0 dL_law_776 rfl ?_
  refine gq_iconst hC 1 dL_law_778 (by decide) ?_
  refine gq_iadd hC dL_law_779 ?_
  refine gq_scr hC hX hbl hbA hi1 dL_law_780 ?_
  refine gq_aload_n hC 4 dL_law_781 rfl rfl ?_
  refine gq_iload hC 0 dL_law_782 rfl ?_
  refine gq_iconst hC 2 dL_law_784 (by decide) ?_
  refine gq_iadd hC dL_law_785 ?_
  refine gq_scr hC hX hbl hbA hi2 dL_law_786 ?_
  refine gq_aload_n hC 4 dL_law_787 rfl rfl ?_
  refine gq_iload hC 0 dL_law_788 rfl ?_
  refine gq_iconst hC 3 dL_law_790 (by decide) ?_
  refine gq_iadd hC dL_law_791 ?_
  refine gq_scr hC hX hbl hbA hi3 dL_law_792 ?_
  refine gq_aload_n hC 1 dL_law_793 rfl rfl ?_
  refine gq_callSWi hC hJ1 [.ref hx, .int (xs (i + 1).toNatClampNeg), .int (xs (i + 2).toNatClampNeg), .int (xs (i + 3).toNatClampNeg), .ref ho] [] hM1 gL_law_L_uses rfl ⟨rfl, rfl⟩ ⟨(by decide +kernel), (by decide +kernel), (show _ = some 5 from by decide +kernel)⟩ ⟨by show k + 4 ≤ 601024; omega, by show n + 24 ≤ 7293034; omega⟩ ⟨Nat.le_of_ble_eq_true rfl, Nat.le_of_ble_eq_true rfl⟩ (Nat.le_of_ble_eq_true rfl) rfl dL_law_794 rfl ?_
  have hC := gq_at (k' := k + 4) (n' := n + 24) hC ⟨by show k + 4 ≤ 601024; omega, by show n + 24 ≤ 7293034; omega⟩
  refine gq_istore hC [(5, .int kr), (4, .int i), (3, .ref ho), (2, .ref hm), (1, .ref hx), (0, .ref bs)] dL_law_797 (by decide) rfl ?_
  refine gq_aload_n hC 3 dL_law_799 rfl rfl ?_
  refine gq_aload_n hC 5 dL_law_800 rfl rfl ?_
  refine gq_iload hC 1 dL_law_801 rfl ?_
  refine gq_iconst hC 1 dL_law_803 (by decide) ?_
  refine gq_iadd hC dL_law_804 ?_
  refine gq_scr hC hX hbl hbA hi1 dL_law_805 ?_
  refine gq_aload_n hC 5 dL_law_806 rfl rfl ?_
  refine gq_iload hC 1 dL_law_807 rfl ?_
  refine gq_iconst hC 2 dL_law_809 (by decide) ?_
  refine gq_iadd hC dL_law_810 ?_
  refine gq_scr hC hX hbl hbA hi2 dL_law_811 ?_
  refine gq_aload_n hC 5 dL_law_812 rfl rfl ?_
  refine gq_iload hC 1 dL_law_813 rfl ?_
  refine gq_iconst hC 3 dL_law_815 (by decide) ?_
  refine gq_iadd hC dL_law_816 ?_
  refine gq_scr hC hX hbl hbA hi3 dL_law_817 ?_
  refine gq_callJi hC hJ2 [.int (xs (i + 1).toNatClampNeg), .int (xs (i + 2).toNatClampNeg), .int (xs (i + 3).toNatClampNeg)] [] hM2 gL_law_X11_uses rfl ⟨rfl, rfl⟩ hy_X11_uses ⟨Nat.le_of_ble_eq_true rfl, Nat.le_of_ble_eq_true rfl⟩ (ci := 11) rfl rfl hv2 (Nat.le_of_ble_eq_true rfl) rfl dL_law_818 rfl ?_
  refine gq_istore hC [(6, .int r), (5, .int kr), (4, .int i), (3, .ref ho), (2, .ref hm), (1, .ref hx), (0, .ref bs)] dL_law_821 (by decide) rfl ?_
  refine gq_aload_n hC 4 dL_law_823 rfl rfl ?_
  refine gq_callJi hC hJ3 [] [] hM3 gL_law_X11_thrown rfl ⟨rfl, rfl⟩ hy_X11_thrown ⟨Nat.le_of_ble_eq_true rfl, Nat.le_of_ble_eq_true rfl⟩ (ci := 11) rfl rfl hv3 (Nat.le_of_ble_eq_true rfl) rfl dL_law_824 rfl ?_
  refine gq_iload hC 1 dL_law_827 rfl ?_
  refine gq_icmp_eq hC 834 dL_law_829 (by decide) (fun _ => ?_) (fun h9 => absurd rfl h9)
  refine gq_iload hC 1 dL_law_834 rfl ?_
  refine gq_if_ne hC 851 dL_law_836 (by decide) (fun _ => ?_) (fun h0 => ?_)
  · refine gq_goto hC 2643 dL_law_851 (by decide) ?_
    exact gq_sub [(4, .int i), (3, .ref ho), (2, .ref hm), (1, .ref hx), (0, .ref bs)] [2, 3, 4, 5, 6] rfl (gq_widen (by omega) (by omega) kk)
  · refine gq_aload_n hC 3 dL_law_839 rfl rfl ?_
    refine gq_iconst hC 0 dL_law_840 (by decide) ?_
    refine gq_lald hC qo 1 hqo rfl (by unfold vp_in; decide) dL_law_841 ?_
    rw [hov h0]
    refine gq_iload hC 0 dL_law_842 rfl ?_
    refine gq_i2l hC dL_law_844 ?_
    refine gq_lcmp hC dL_law_845 ?_
    rw [lg_cmp_self]
    refine gq_if_eq hC 851 dL_law_846 (by decide) (fun _ => ?_) (fun h9 => absurd rfl h9)
    refine gq_goto hC 2643 dL_law_851 (by decide) ?_
    exact gq_sub [(4, .int i), (3, .ref ho), (2, .ref hm), (1, .ref hx), (0, .ref bs)] [2, 3, 4, 5, 6] rfl (gq_widen (by omega) (by omega) kk)
set_option maxHeartbeats 4000000 in
theorem lw_setDuration {ws ws1 ws2 W1 W1' W2 W2' W3 : va_W} {hx hm ho bs L : Nat} {xs : Nat → Int32} {i : Int32} {kr : Int32} {r : Int32} {ov : Nat → Int64} {fs1 fs2 fs3 : List Value} {qo : Nat} (hC : Gc p room_1 s m args meth c D (gq_ty cI cJ cZ cO) A 7 cL_law RL lw_tbl ret k n z) (hX : va_X bs L xs s s.heap) (hbl : bs < s.heap.size) (hbA : ¬ A bs) (hi1 : vp_in (i + 1) L) (hi2 : vp_in (i + 2) L) (hM1 : Mi l yL_setDuration wsL_setDuration (rmX 8 2) D (gq_ty cI cJ cZ cO) z [.ref hx, .int (xs (i + 1).toNatClampNeg), .int (xs (i + 2).toNatClampNeg), .ref ho] W1 kr W1' 2 12) (hJ1 : gq_J ws W1 W1' ws1) (hM2 : Mi l yX11_setDuration wsX11_setDuration (rmD 2) D (gq_ty cI cJ cZ cO) z [.ref hm, .int (xs (i + 1).toNatClampNeg), .int (xs (i + 2).toNatClampNeg)] W2 r W2' 0 0) (hv2 : W2[0]? = some (hm, .inr (11, fs2))) (hJ2 : gq_J ws1 W2 W2' ws2) (hM3 : Mi l yX11_thrown wsX11_thrown (rmD 0) D (gq_ty cI cJ cZ cO) z [.ref hm] W3 kr W3 0 0) (hv3 : W3[0]? = some (hm, .inr (11, fs3))) (hJ3 : gq_J ws2 W3 W3 ws2) (hqo : ws2[qo]? = some (ho, .inl (cJ, 1, .inr (.inl ov)))) (hov : kr = 0 → ov (0 : Int32).toNatClampNeg = r.toInt64) (hkb : k + 4 ≤ 601024 ∧ n + 24 ≤ 7293034) (kk : Gx p l e room_1 s m args below meth c D A 7 Q (k + 4) (n + 24) 2643 [(4, .int i), (3, .ref ho), (2, .ref hm), (1, .ref hx), (0, .ref bs)] [] ws2) : Gx p l e room_1 s m args below meth c D A 7 Q k n 854 [(4, .int i), (3, .ref ho), (2, .ref hm), (1, .ref hx), (0, .ref bs)] [] ws := by
  refine gq_aload_n hC 3 dL_law_854 rfl rfl ?_
  refine gq_aload_n hC 4 dL_law_855 rfl rfl ?_
  refine gq_iload hC 0 dL_law_856 rfl ?_
  refine gq_iconst hC 1 dL_law_858 (by decide) ?_
  refine gq_iadd hC dL_law_859 ?_
  refine gq_scr hC hX hbl hbA hi1 dL_law_860 ?_
  refine gq_aload_n hC 4 dL_law_861 rfl rfl ?_
  refine gq_iload hC 0 dL_law_862 rfl ?_
  refine gq_iconst hC 2 dL_law_864 (by decide) ?_
  refine gq_iadd hC dL_law_865 ?_
  refine gq_scr hC hX hbl hbA hi2 dL_law_866 ?_
  refine gq_aload_n hC 1 dL_law_867 rfl rfl ?_
  refine gq_callSWi hC hJ1 [.ref hx, .int (xs (i + 1).toNatClampNeg), .int (xs (i + 2).toNatClampNeg), .ref ho] [] hM1 gL_law_L_setDuration rfl ⟨rfl, rfl⟩ ⟨(by decide +kernel), (by decide +kernel), (show _ = some 4 from by decide +kernel)⟩ ⟨by show k + 2 ≤ 601024; omega, by show n + 12 ≤ 7293034; omega⟩ ⟨Nat.le_of_ble_eq_true rfl, Nat.le_of_ble_eq_true rfl⟩ (Nat.le_of_ble_eq_true rfl) rfl dL_law_868 rfl ?_
  have hC := gq_at (k' := k + 2) (n' := n + 12) hC ⟨by show k + 2 ≤ 601024; omega, by show n + 12 ≤ 7293034; omega⟩
  refine gq_istore hC [(5, .int kr), (4, .int i), (3, .ref ho), (2, .ref hm), (1, .ref hx), (0, .ref bs)] dL_law_871 (by decide) rfl ?_
  refine gq_aload_n hC 3 dL_law_873 rfl rfl ?_
  refine gq_aload_n hC 5 dL_law_874 rfl rfl ?_
  refine gq_iload hC 1 dL_law_875 rfl ?_
  refine gq_iconst hC 1 dL_law_877 (by decide) ?_
  refine gq_iadd hC dL_law_878 ?_
  refine gq_scr hC hX hbl hbA hi1 dL_law_879 ?_
  refine gq_aload_n hC 5 dL_law_880 rfl rfl ?_
  refine gq_iload hC 1 dL_law_881 rfl ?_
  refine gq_iconst hC 2 dL_law_883 (by decide) ?_
  refine gq_iadd hC dL_law_884 ?_
  refine gq_scr hC hX hbl hbA hi2 dL_law_885 ?_
  refine gq_callJi hC hJ2 [.int (xs (i + 1).toNatClampNeg), .int (xs (i + 2).toNatClampNeg)] [] hM2 gL_law_X11_setDuration rfl ⟨rfl, rfl⟩ hy_X11_setDuration ⟨Nat.le_of_ble_eq_true rfl, Nat.le_of_ble_eq_true rfl⟩ (ci := 11) rfl rfl hv2 (Nat.le_of_ble_eq_true rfl) rfl dL_law_886 rfl ?_
  refine gq_istore hC [(6, .int r), (5, .int kr), (4, .int i), (3, .ref ho), (2, .ref hm), (1, .ref hx), (0, .ref bs)] dL_law_889 (by decide) rfl ?_
  refine gq_aload_n hC 4 dL_law_891 rfl rfl ?_
  refine gq_callJi hC hJ3 [] [] hM3 gL_law_X11_thrown rfl ⟨rfl, rfl⟩ hy_X11_thrown ⟨Nat.le_of_ble_eq_true rfl, Nat.le_of_ble_eq_true rfl⟩ (ci := 11) rfl rfl hv3 (Nat.le_of_ble_eq_true rfl) rfl dL_law_892 rfl ?_
  refine gq_iload hC 1 dL_law_895 rfl ?_
  refine gq_icmp_eq hC 902 dL_law_897 (by decide) (fun _ => ?_) (fun h9 => absurd rfl h9)
  refine gq_iload hC 1 dL_law_902 rfl ?_
  refine gq_if_ne hC 919 dL_law_904 (by decide) (fun _ => ?_) (fun h0 => ?_)
  · refine gq_goto hC 2643 dL_law_919 (by decide) ?_
    exact gq_sub [(4, .int i), (3, .ref ho), (2, .ref hm), (1, .ref hx), (0, .ref bs)] [2, 3, 4, 5, 6] rfl (gq_widen (by omega) (by omega) kk)
  · refine gq_aload_n hC 3 dL_law_907 rfl rfl ?_
    refine gq_iconst hC 0 dL_law_908 (by decide) ?_
    refine gq_lald hC qo 1 hqo rfl (by unfold vp_in; decide) dL_law_909 ?_
    rw [hov h0]
    refine gq_iload hC 0 dL_law_910 rfl ?_
    refine gq_i2l hC dL_law_912 ?_
    refine gq_lcmp hC dL_law_913 ?_
    rw [lg_cmp_self]
    refine gq_if_eq hC 919 dL_law_914 (by decide) (fun _ => ?_) (fun h9 => absurd rfl h9)
    refine gq_goto hC 2643 dL_law_919 (by decide) ?_
    exact gq_sub [(4, .int i), (3, .ref ho), (2, .ref hm), (1, .ref hx), (0, .ref bs)] [2, 3, 4, 5, 6] rfl (gq_widen (by omega) (by omega) kk)
set_option maxHeartbeats 4000000 in
theorem lw_setPause {ws ws1 ws2 W1 W1' W2 W2' W3 : va_W} {hx hm ho bs L : Nat} {xs : Nat → Int32} {i : Int32} {kr : Int32} {r : Int32} {ov : Nat → Int64} {fs1 fs2 fs3 : List Value} {qo : Nat} (hC : Gc p room_1 s m args meth c D (gq_ty cI cJ cZ cO) A 7 cL_law RL lw_tbl ret k n z) (hX : va_X bs L xs s s.heap) (hbl : bs < s.heap.size) (hbA : ¬ A bs) (hi1 : vp_in (i + 1) L) (hi2 : vp_in (i + 2) L) (hM1 : Mi l yL_setPause wsL_setPause (rmX 8 2) D (gq_ty cI cJ cZ cO) z [.ref hx, .int (xs (i + 1).toNatClampNeg), .int (xs (i + 2).toNatClampNeg), .ref ho] W1 kr W1' 2 12) (hJ1 : gq_J ws W1 W1' ws1) (hM2 : Mi l yX11_setPause wsX11_setPause (rmD 2) D (gq_ty cI cJ cZ cO) z [.ref hm, .int (xs (i + 1).toNatClampNeg), .int (xs (i + 2).toNatClampNeg)] W2 r W2' 0 0) (hv2 : W2[0]? = some (hm, .inr (11, fs2))) (hJ2 : gq_J ws1 W2 W2' ws2) (hM3 : Mi l yX11_thrown wsX11_thrown (rmD 0) D (gq_ty cI cJ cZ cO) z [.ref hm] W3 kr W3 0 0) (hv3 : W3[0]? = some (hm, .inr (11, fs3))) (hJ3 : gq_J ws2 W3 W3 ws2) (hqo : ws2[qo]? = some (ho, .inl (cJ, 1, .inr (.inl ov)))) (hov : kr = 0 → ov (0 : Int32).toNatClampNeg = r.toInt64) (hkb : k + 4 ≤ 601024 ∧ n + 24 ≤ 7293034) (kk : Gx p l e room_1 s m args below meth c D A 7 Q (k + 4) (n + 24) 2643 [(4, .int i), (3, .ref ho), (2, .ref hm), (1, .ref hx), (0, .ref bs)] [] ws2) : Gx p l e room_1 s m args below meth c D A 7 Q k n 922 [(4, .int i), (3, .ref ho), (2, .ref hm), (1, .ref hx), (0, .ref bs)] [] ws := by
  refine gq_aload_n hC 3 dL_law_922 rfl rfl ?_
  refine gq_aload_n hC 4 dL_law_923 rfl rfl ?_
  refine gq_iload hC 0 dL_law_924 rfl ?_
  refine gq_iconst hC 1 dL_law_926 (by decide) ?_
  refine gq_iadd hC dL_law_927 ?_
  refine gq_scr hC hX hbl hbA hi1 dL_law_928 ?_
  refine gq_aload_n hC 4 dL_law_929 rfl rfl ?_
  refine gq_iload hC 0 dL_law_930 rfl ?_
  refine gq_iconst hC 2 dL_law_932 (by decide) ?_
  refine gq_iadd hC dL_law_933 ?_
  refine gq_scr hC hX hbl hbA hi2 dL_law_934 ?_
  refine gq_aload_n hC 1 dL_law_935 rfl rfl ?_
  refine gq_callSWi hC hJ1 [.ref hx, .int (xs (i + 1).toNatClampNeg), .int (xs (i + 2).toNatClampNeg), .ref ho] [] hM1 gL_law_L_setPause rfl ⟨rfl, rfl⟩ ⟨(by decide +kernel), (by decide +kernel), (show _ = some 4 from by decide +kernel)⟩ ⟨by show k + 2 ≤ 601024; omega, by show n + 12 ≤ 7293034; omega⟩ ⟨Nat.le_of_ble_eq_true rfl, Nat.le_of_ble_eq_true rfl⟩ (Nat.le_of_ble_eq_true rfl) rfl dL_law_936 rfl ?_
  have hC := gq_at (k' := k + 2) (n' := n + 12) hC ⟨by show k + 2 ≤ 601024; omega, by show n + 12 ≤ 7293034; omega⟩
  refine gq_istore hC [(5, .int kr), (4, .int i), (3, .ref ho), (2, .ref hm), (1, .ref hx), (0, .ref bs)] dL_law_939 (by decide) rfl ?_
  refine gq_aload_n hC 3 dL_law_941 rfl rfl ?_
  refine gq_aload_n hC 5 dL_law_942 rfl rfl ?_
  refine gq_iload hC 1 dL_law_943 rfl ?_
  refine gq_iconst hC 1 dL_law_945 (by decide) ?_
  refine gq_iadd hC dL_law_946 ?_
  refine gq_scr hC hX hbl hbA hi1 dL_law_947 ?_
  refine gq_aload_n hC 5 dL_law_948 rfl rfl ?_
  refine gq_iload hC 1 dL_law_949 rfl ?_
  refine gq_iconst hC 2 dL_law_951 (by decide) ?_
  refine gq_iadd hC dL_law_952 ?_
  refine gq_scr hC hX hbl hbA hi2 dL_law_953 ?_
  refine gq_callJi hC hJ2 [.int (xs (i + 1).toNatClampNeg), .int (xs (i + 2).toNatClampNeg)] [] hM2 gL_law_X11_setPause rfl ⟨rfl, rfl⟩ hy_X11_setPause ⟨Nat.le_of_ble_eq_true rfl, Nat.le_of_ble_eq_true rfl⟩ (ci := 11) rfl rfl hv2 (Nat.le_of_ble_eq_true rfl) rfl dL_law_954 rfl ?_
  refine gq_istore hC [(6, .int r), (5, .int kr), (4, .int i), (3, .ref ho), (2, .ref hm), (1, .ref hx), (0, .ref bs)] dL_law_957 (by decide) rfl ?_
  refine gq_aload_n hC 4 dL_law_959 rfl rfl ?_
  refine gq_callJi hC hJ3 [] [] hM3 gL_law_X11_thrown rfl ⟨rfl, rfl⟩ hy_X11_thrown ⟨Nat.le_of_ble_eq_true rfl, Nat.le_of_ble_eq_true rfl⟩ (ci := 11) rfl rfl hv3 (Nat.le_of_ble_eq_true rfl) rfl dL_law_960 rfl ?_
  refine gq_iload hC 1 dL_law_963 rfl ?_
  refine gq_icmp_eq hC 970 dL_law_965 (by decide) (fun _ => ?_) (fun h9 => absurd rfl h9)
  refine gq_iload hC 1 dL_law_970 rfl ?_
  refine gq_if_ne hC 987 dL_law_972 (by decide) (fun _ => ?_) (fun h0 => ?_)
  · refine gq_goto hC 2643 dL_law_987 (by decide) ?_
    exact gq_sub [(4, .int i), (3, .ref ho), (2, .ref hm), (1, .ref hx), (0, .ref bs)] [2, 3, 4, 5, 6] rfl (gq_widen (by omega) (by omega) kk)
  · refine gq_aload_n hC 3 dL_law_975 rfl rfl ?_
    refine gq_iconst hC 0 dL_law_976 (by decide) ?_
    refine gq_lald hC qo 1 hqo rfl (by unfold vp_in; decide) dL_law_977 ?_
    rw [hov h0]
    refine gq_iload hC 0 dL_law_978 rfl ?_
    refine gq_i2l hC dL_law_980 ?_
    refine gq_lcmp hC dL_law_981 ?_
    rw [lg_cmp_self]
    refine gq_if_eq hC 987 dL_law_982 (by decide) (fun _ => ?_) (fun h9 => absurd rfl h9)
    refine gq_goto hC 2643 dL_law_987 (by decide) ?_
    exact gq_sub [(4, .int i), (3, .ref ho), (2, .ref hm), (1, .ref hx), (0, .ref bs)] [2, 3, 4, 5, 6] rfl (gq_widen (by omega) (by omega) kk)
set_option maxHeartbeats 4000000 in
theorem lw_addWord {ws ws1 ws2 W1 W1' W2 W2' W3 : va_W} {hx hm ho bs L : Nat} {xs : Nat → Int32} {i : Int32} {kr : Int32} {r : Int32} {ov : Nat → Int64} {fs1 fs2 fs3 : List Value} {qo : Nat} (hC : Gc p room_1 s m args meth c D (gq_ty cI cJ cZ cO) A 7 cL_law RL lw_tbl ret k n z) (hX : va_X bs L xs s s.heap) (hbl : bs < s.heap.size) (hbA : ¬ A bs) (hi1 : vp_in (i + 1) L) (hi2 : vp_in (i + 2) L) (hM1 : Mi l yL_addWord wsL_addWord (rmX 8 3) D (gq_ty cI cJ cZ cO) z [.ref hx, .int (xs (i + 1).toNatClampNeg), .int (xs (i + 2).toNatClampNeg), .ref ho] W1 kr W1' 3 18) (hJ1 : gq_J ws W1 W1' ws1) (hM2 : Mi l yX11_addWord wsX11_addWord (rmD 2) D (gq_ty cI cJ cZ cO) z [.ref hm, .int (xs (i + 1).toNatClampNeg), .int (xs (i + 2).toNatClampNeg)] W2 r W2' 0 0) (hv2 : W2[0]? = some (hm, .inr (11, fs2))) (hJ2 : gq_J ws1 W2 W2' ws2) (hM3 : Mi l yX11_thrown wsX11_thrown (rmD 0) D (gq_ty cI cJ cZ cO) z [.ref hm] W3 kr W3 0 0) (hv3 : W3[0]? = some (hm, .inr (11, fs3))) (hJ3 : gq_J ws2 W3 W3 ws2) (hqo : ws2[qo]? = some (ho, .inl (cJ, 1, .inr (.inl ov)))) (hov : kr = 0 → ov (0 : Int32).toNatClampNeg = r.toInt64) (hkb : k + 4 ≤ 601024 ∧ n + 24 ≤ 7293034) (kk : Gx p l e room_1 s m args below meth c D A 7 Q (k + 4) (n + 24) 2643 [(4, .int i), (3, .ref ho), (2, .ref hm), (1, .ref hx), (0, .ref bs)] [] ws2) : Gx p l e room_1 s m args below meth c D A 7 Q k n 990 [(4, .int i), (3, .ref ho), (2, .ref hm), (1, .ref hx), (0, .ref bs)] [] ws := by
  refine gq_aload_n hC 3 dL_law_990 rfl rfl ?_
  refine gq_aload_n hC 4 dL_law_991 rfl rfl ?_
  refine gq_iload hC 0 dL_law_992 rfl ?_
  refine gq_iconst hC 1 dL_law_994 (by decide) ?_
  refine gq_iadd hC dL_law_995 ?_
  refine gq_scr hC hX hbl hbA hi1 dL_law_996 ?_
  refine gq_aload_n hC 4 dL_law_997 rfl rfl ?_
  refine gq_iload hC 0 dL_law_998 rfl ?_
  refine gq_iconst hC 2 dL_law_1000 (by decide) ?_
  refine gq_iadd hC dL_law_1001 ?_
  refine gq_scr hC hX hbl hbA hi2 dL_law_1002 ?_
  refine gq_aload_n hC 1 dL_law_1003 rfl rfl ?_
  refine gq_callSWi hC hJ1 [.ref hx, .int (xs (i + 1).toNatClampNeg), .int (xs (i + 2).toNatClampNeg), .ref ho] [] hM1 gL_law_L_addWord rfl ⟨rfl, rfl⟩ ⟨(by decide +kernel), (by decide +kernel), (show _ = some 4 from by decide +kernel)⟩ ⟨by show k + 3 ≤ 601024; omega, by show n + 18 ≤ 7293034; omega⟩ ⟨Nat.le_of_ble_eq_true rfl, Nat.le_of_ble_eq_true rfl⟩ (Nat.le_of_ble_eq_true rfl) rfl dL_law_1004 rfl ?_
  have hC := gq_at (k' := k + 3) (n' := n + 18) hC ⟨by show k + 3 ≤ 601024; omega, by show n + 18 ≤ 7293034; omega⟩
  refine gq_istore hC [(5, .int kr), (4, .int i), (3, .ref ho), (2, .ref hm), (1, .ref hx), (0, .ref bs)] dL_law_1007 (by decide) rfl ?_
  refine gq_aload_n hC 3 dL_law_1009 rfl rfl ?_
  refine gq_aload_n hC 5 dL_law_1010 rfl rfl ?_
  refine gq_iload hC 1 dL_law_1011 rfl ?_
  refine gq_iconst hC 1 dL_law_1013 (by decide) ?_
  refine gq_iadd hC dL_law_1014 ?_
  refine gq_scr hC hX hbl hbA hi1 dL_law_1015 ?_
  refine gq_aload_n hC 5 dL_law_1016 rfl rfl ?_
  refine gq_iload hC 1 dL_law_1017 rfl ?_
  refine gq_iconst hC 2 dL_law_1019 (by decide) ?_
  refine gq_iadd hC dL_law_1020 ?_
  refine gq_scr hC hX hbl hbA hi2 dL_law_1021 ?_
  refine gq_callJi hC hJ2 [.int (xs (i + 1).toNatClampNeg), .int (xs (i + 2).toNatClampNeg)] [] hM2 gL_law_X11_addWord rfl ⟨rfl, rfl⟩ hy_X11_addWord ⟨Nat.le_of_ble_eq_true rfl, Nat.le_of_ble_eq_true rfl⟩ (ci := 11) rfl rfl hv2 (Nat.le_of_ble_eq_true rfl) rfl dL_law_1022 rfl ?_
  refine gq_istore hC [(6, .int r), (5, .int kr), (4, .int i), (3, .ref ho), (2, .ref hm), (1, .ref hx), (0, .ref bs)] dL_law_1025 (by decide) rfl ?_
  refine gq_aload_n hC 4 dL_law_1027 rfl rfl ?_
  refine gq_callJi hC hJ3 [] [] hM3 gL_law_X11_thrown rfl ⟨rfl, rfl⟩ hy_X11_thrown ⟨Nat.le_of_ble_eq_true rfl, Nat.le_of_ble_eq_true rfl⟩ (ci := 11) rfl rfl hv3 (Nat.le_of_ble_eq_true rfl) rfl dL_law_1028 rfl ?_
  refine gq_iload hC 1 dL_law_1031 rfl ?_
  refine gq_icmp_eq hC 1038 dL_law_1033 (by decide) (fun _ => ?_) (fun h9 => absurd rfl h9)
  refine gq_iload hC 1 dL_law_1038 rfl ?_
  refine gq_if_ne hC 1055 dL_law_1040 (by decide) (fun _ => ?_) (fun h0 => ?_)
  · refine gq_goto hC 2643 dL_law_1055 (by decide) ?_
    exact gq_sub [(4, .int i), (3, .ref ho), (2, .ref hm), (1, .ref hx), (0, .ref bs)] [2, 3, 4, 5, 6] rfl (gq_widen (by omega) (by omega) kk)
  · refine gq_aload_n hC 3 dL_law_1043 rfl rfl ?_
    refine gq_iconst hC 0 dL_law_1044 (by decide) ?_
    refine gq_lald hC qo 1 hqo rfl (by unfold vp_in; decide) dL_law_1045 ?_
    rw [hov h0]
    refine gq_iload hC 0 dL_law_1046 rfl ?_
    refine gq_i2l hC dL_law_1048 ?_
    refine gq_lcmp hC dL_law_1049 ?_
    rw [lg_cmp_self]
    refine gq_if_eq hC 1055 dL_law_1050 (by decide) (fun _ => ?_) (fun h9 => absurd rfl h9)
    refine gq_goto hC 2643 dL_law_1055 (by decide) ?_
    exact gq_sub [(4, .int i), (3, .ref ho), (2, .ref hm), (1, .ref hx), (0, .ref bs)] [2, 3, 4, 5, 6] rfl (gq_widen (by omega) (by omega) kk)
set_option maxHeartbeats 4000000 in
theorem lw_removeSegment {ws ws1 ws2 W1 W1' W2 W2' W3 : va_W} {hx hm ho bs L : Nat} {xs : Nat → Int32} {i : Int32} {kr : Int32} {r : Int32} {ov : Nat → Int64} {fs1 fs2 fs3 : List Value} {qo : Nat} (hC : Gc p room_1 s m args meth c D (gq_ty cI cJ cZ cO) A 7 cL_law RL lw_tbl ret k n z) (hX : va_X bs L xs s s.heap) (hbl : bs < s.heap.size) (hbA : ¬ A bs) (hi1 : vp_in (i + 1) L) (hM1 : Mi l yL_removeSegment wsL_removeSegment (rmX 8 1) D (gq_ty cI cJ cZ cO) z [.ref hx, .int (xs (i + 1).toNatClampNeg), .ref ho] W1 kr W1' 1 6) (hJ1 : gq_J ws W1 W1' ws1) (hM2 : Mi l yX11_removeSegment wsX11_removeSegment (rmD 2) D (gq_ty cI cJ cZ cO) z [.ref hm, .int (xs (i + 1).toNatClampNeg)] W2 r W2' 0 0) (hv2 : W2[0]? = some (hm, .inr (11, fs2))) (hJ2 : gq_J ws1 W2 W2' ws2) (hM3 : Mi l yX11_thrown wsX11_thrown (rmD 0) D (gq_ty cI cJ cZ cO) z [.ref hm] W3 kr W3 0 0) (hv3 : W3[0]? = some (hm, .inr (11, fs3))) (hJ3 : gq_J ws2 W3 W3 ws2) (hqo : ws2[qo]? = some (ho, .inl (cJ, 1, .inr (.inl ov)))) (hov : kr = 0 → ov (0 : Int32).toNatClampNeg = r.toInt64) (hkb : k + 4 ≤ 601024 ∧ n + 24 ≤ 7293034) (kk : Gx p l e room_1 s m args below meth c D A 7 Q (k + 4) (n + 24) 2643 [(4, .int i), (3, .ref ho), (2, .ref hm), (1, .ref hx), (0, .ref bs)] [] ws2) : Gx p l e room_1 s m args below meth c D A 7 Q k n 1058 [(4, .int i), (3, .ref ho), (2, .ref hm), (1, .ref hx), (0, .ref bs)] [] ws := by
  refine gq_aload_n hC 3 dL_law_1058 rfl rfl ?_
  refine gq_aload_n hC 4 dL_law_1059 rfl rfl ?_
  refine gq_iload hC 0 dL_law_1060 rfl ?_
  refine gq_iconst hC 1 dL_law_1062 (by decide) ?_
  refine gq_iadd hC dL_law_1063 ?_
  refine gq_scr hC hX hbl hbA hi1 dL_law_1064 ?_
  refine gq_aload_n hC 1 dL_law_1065 rfl rfl ?_
  refine gq_callSWi hC hJ1 [.ref hx, .int (xs (i + 1).toNatClampNeg), .ref ho] [] hM1 gL_law_L_removeSegment rfl ⟨rfl, rfl⟩ ⟨(by decide +kernel), (by decide +kernel), (show _ = some 3 from by decide +kernel)⟩ ⟨by show k + 1 ≤ 601024; omega, by show n + 6 ≤ 7293034; omega⟩ ⟨Nat.le_of_ble_eq_true rfl, Nat.le_of_ble_eq_true rfl⟩ (Nat.le_of_ble_eq_true rfl) rfl dL_law_1066 rfl ?_
  have hC := gq_at (k' := k + 1) (n' := n + 6) hC ⟨by show k + 1 ≤ 601024; omega, by show n + 6 ≤ 7293034; omega⟩
  refine gq_istore hC [(5, .int kr), (4, .int i), (3, .ref ho), (2, .ref hm), (1, .ref hx), (0, .ref bs)] dL_law_1069 (by decide) rfl ?_
  refine gq_aload_n hC 3 dL_law_1071 rfl rfl ?_
  refine gq_aload_n hC 5 dL_law_1072 rfl rfl ?_
  refine gq_iload hC 1 dL_law_1073 rfl ?_
  refine gq_iconst hC 1 dL_law_1075 (by decide) ?_
  refine gq_iadd hC dL_law_1076 ?_
  refine gq_scr hC hX hbl hbA hi1 dL_law_1077 ?_
  refine gq_callJi hC hJ2 [.int (xs (i + 1).toNatClampNeg)] [] hM2 gL_law_X11_removeSegment rfl ⟨rfl, rfl⟩ hy_X11_removeSegment ⟨Nat.le_of_ble_eq_true rfl, Nat.le_of_ble_eq_true rfl⟩ (ci := 11) rfl rfl hv2 (Nat.le_of_ble_eq_true rfl) rfl dL_law_1078 rfl ?_
  refine gq_istore hC [(6, .int r), (5, .int kr), (4, .int i), (3, .ref ho), (2, .ref hm), (1, .ref hx), (0, .ref bs)] dL_law_1081 (by decide) rfl ?_
  refine gq_aload_n hC 4 dL_law_1083 rfl rfl ?_
  refine gq_callJi hC hJ3 [] [] hM3 gL_law_X11_thrown rfl ⟨rfl, rfl⟩ hy_X11_thrown ⟨Nat.le_of_ble_eq_true rfl, Nat.le_of_ble_eq_true rfl⟩ (ci := 11) rfl rfl hv3 (Nat.le_of_ble_eq_true rfl) rfl dL_law_1084 rfl ?_
  refine gq_iload hC 1 dL_law_1087 rfl ?_
  refine gq_icmp_eq hC 1094 dL_law_1089 (by decide) (fun _ => ?_) (fun h9 => absurd rfl h9)
  refine gq_iload hC 1 dL_law_1094 rfl ?_
  refine gq_if_ne hC 1111 dL_law_1096 (by decide) (fun _ => ?_) (fun h0 => ?_)
  · refine gq_goto hC 2643 dL_law_1111 (by decide) ?_
    exact gq_sub [(4, .int i), (3, .ref ho), (2, .ref hm), (1, .ref hx), (0, .ref bs)] [2, 3, 4, 5, 6] rfl (gq_widen (by omega) (by omega) kk)
  · refine gq_aload_n hC 3 dL_law_1099 rfl rfl ?_
    refine gq_iconst hC 0 dL_law_1100 (by decide) ?_
    refine gq_lald hC qo 1 hqo rfl (by unfold vp_in; decide) dL_law_1101 ?_
    rw [hov h0]
    refine gq_iload hC 0 dL_law_1102 rfl ?_
    refine gq_i2l hC dL_law_1104 ?_
    refine gq_lcmp hC dL_law_1105 ?_
    rw [lg_cmp_self]
    refine gq_if_eq hC 1111 dL_law_1106 (by decide) (fun _ => ?_) (fun h9 => absurd rfl h9)
    refine gq_goto hC 2643 dL_law_1111 (by decide) ?_
    exact gq_sub [(4, .int i), (3, .ref ho), (2, .ref hm), (1, .ref hx), (0, .ref bs)] [2, 3, 4, 5, 6] rfl (gq_widen (by omega) (by omega) kk)
set_option maxHeartbeats 4000000 in
theorem lw_moveSegment {ws ws1 ws2 W1 W1' W2 W2' W3 : va_W} {hx hm ho bs L : Nat} {xs : Nat → Int32} {i : Int32} {kr : Int32} {r : Int32} {ov : Nat → Int64} {fs1 fs2 fs3 : List Value} {qo : Nat} (hC : Gc p room_1 s m args meth c D (gq_ty cI cJ cZ cO) A 7 cL_law RL lw_tbl ret k n z) (hX : va_X bs L xs s s.heap) (hbl : bs < s.heap.size) (hbA : ¬ A bs) (hi1 : vp_in (i + 1) L) (hi2 : vp_in (i + 2) L) (hM1 : Mi l yL_moveSegment wsL_moveSegment (rmX 8 2) D (gq_ty cI cJ cZ cO) z [.ref hx, .int (xs (i + 1).toNatClampNeg), .int (xs (i + 2).toNatClampNeg), .ref ho] W1 kr W1' 2 12) (hJ1 : gq_J ws W1 W1' ws1) (hM2 : Mi l yX11_moveSegment wsX11_moveSegment (rmD 2) D (gq_ty cI cJ cZ cO) z [.ref hm, .int (xs (i + 1).toNatClampNeg), .int (xs (i + 2).toNatClampNeg)] W2 r W2' 0 0) (hv2 : W2[0]? = some (hm, .inr (11, fs2))) (hJ2 : gq_J ws1 W2 W2' ws2) (hM3 : Mi l yX11_thrown wsX11_thrown (rmD 0) D (gq_ty cI cJ cZ cO) z [.ref hm] W3 kr W3 0 0) (hv3 : W3[0]? = some (hm, .inr (11, fs3))) (hJ3 : gq_J ws2 W3 W3 ws2) (hqo : ws2[qo]? = some (ho, .inl (cJ, 1, .inr (.inl ov)))) (hov : kr = 0 → ov (0 : Int32).toNatClampNeg = r.toInt64) (hkb : k + 4 ≤ 601024 ∧ n + 24 ≤ 7293034) (kk : Gx p l e room_1 s m args below meth c D A 7 Q (k + 4) (n + 24) 2643 [(4, .int i), (3, .ref ho), (2, .ref hm), (1, .ref hx), (0, .ref bs)] [] ws2) : Gx p l e room_1 s m args below meth c D A 7 Q k n 1114 [(4, .int i), (3, .ref ho), (2, .ref hm), (1, .ref hx), (0, .ref bs)] [] ws := by
  refine gq_aload_n hC 3 dL_law_1114 rfl rfl ?_
  refine gq_aload_n hC 4 dL_law_1115 rfl rfl ?_
  refine gq_iload hC 0 dL_law_1116 rfl ?_
  refine gq_iconst hC 1 dL_law_1118 (by decide) ?_
  refine gq_iadd hC dL_law_1119 ?_
  refine gq_scr hC hX hbl hbA hi1 dL_law_1120 ?_
  refine gq_aload_n hC 4 dL_law_1121 rfl rfl ?_
  refine gq_iload hC 0 dL_law_1122 rfl ?_
  refine gq_iconst hC 2 dL_law_1124 (by decide) ?_
  refine gq_iadd hC dL_law_1125 ?_
  refine gq_scr hC hX hbl hbA hi2 dL_law_1126 ?_
  refine gq_aload_n hC 1 dL_law_1127 rfl rfl ?_
  refine gq_callSWi hC hJ1 [.ref hx, .int (xs (i + 1).toNatClampNeg), .int (xs (i + 2).toNatClampNeg), .ref ho] [] hM1 gL_law_L_moveSegment rfl ⟨rfl, rfl⟩ ⟨(by decide +kernel), (by decide +kernel), (show _ = some 4 from by decide +kernel)⟩ ⟨by show k + 2 ≤ 601024; omega, by show n + 12 ≤ 7293034; omega⟩ ⟨Nat.le_of_ble_eq_true rfl, Nat.le_of_ble_eq_true rfl⟩ (Nat.le_of_ble_eq_true rfl) rfl dL_law_1128 rfl ?_
  have hC := gq_at (k' := k + 2) (n' := n + 12) hC ⟨by show k + 2 ≤ 601024; omega, by show n + 12 ≤ 7293034; omega⟩
  refine gq_istore hC [(5, .int kr), (4, .int i), (3, .ref ho), (2, .ref hm), (1, .ref hx), (0, .ref bs)] dL_law_1131 (by decide) rfl ?_
  refine gq_aload_n hC 3 dL_law_1133 rfl rfl ?_
  refine gq_aload_n hC 5 dL_law_1134 rfl rfl ?_
  refine gq_iload hC 1 dL_law_1135 rfl ?_
  refine gq_iconst hC 1 dL_law_1137 (by decide) ?_
  refine gq_iadd hC dL_law_1138 ?_
  refine gq_scr hC hX hbl hbA hi1 dL_law_1139 ?_
  refine gq_aload_n hC 5 dL_law_1140 rfl rfl ?_
  refine gq_iload hC 1 dL_law_1141 rfl ?_
  refine gq_iconst hC 2 dL_law_1143 (by decide) ?_
  refine gq_iadd hC dL_law_1144 ?_
  refine gq_scr hC hX hbl hbA hi2 dL_law_1145 ?_
  refine gq_callJi hC hJ2 [.int (xs (i + 1).toNatClampNeg), .int (xs (i + 2).toNatClampNeg)] [] hM2 gL_law_X11_moveSegment rfl ⟨rfl, rfl⟩ hy_X11_moveSegment ⟨Nat.le_of_ble_eq_true rfl, Nat.le_of_ble_eq_true rfl⟩ (ci := 11) rfl rfl hv2 (Nat.le_of_ble_eq_true rfl) rfl dL_law_1146 rfl ?_
  refine gq_istore hC [(6, .int r), (5, .int kr), (4, .int i), (3, .ref ho), (2, .ref hm), (1, .ref hx), (0, .ref bs)] dL_law_1149 (by decide) rfl ?_
  refine gq_aload_n hC 4 dL_law_1151 rfl rfl ?_
  refine gq_callJi hC hJ3 [] [] hM3 gL_law_X11_thrown rfl ⟨rfl, rfl⟩ hy_X11_thrown ⟨Nat.le_of_ble_eq_true rfl, Nat.le_of_ble_eq_true rfl⟩ (ci := 11) rfl rfl hv3 (Nat.le_of_ble_eq_true rfl) rfl dL_law_1152 rfl ?_
  refine gq_iload hC 1 dL_law_1155 rfl ?_
  refine gq_icmp_eq hC 1162 dL_law_1157 (by decide) (fun _ => ?_) (fun h9 => absurd rfl h9)
  refine gq_iload hC 1 dL_law_1162 rfl ?_
  refine gq_if_ne hC 1179 dL_law_1164 (by decide) (fun _ => ?_) (fun h0 => ?_)
  · refine gq_goto hC 2643 dL_law_1179 (by decide) ?_
    exact gq_sub [(4, .int i), (3, .ref ho), (2, .ref hm), (1, .ref hx), (0, .ref bs)] [2, 3, 4, 5, 6] rfl (gq_widen (by omega) (by omega) kk)
  · refine gq_aload_n hC 3 dL_law_1167 rfl rfl ?_
    refine gq_iconst hC 0 dL_law_1168 (by decide) ?_
    refine gq_lald hC qo 1 hqo rfl (by unfold vp_in; decide) dL_law_1169 ?_
    rw [hov h0]
    refine gq_iload hC 0 dL_law_1170 rfl ?_
    refine gq_i2l hC dL_law_1172 ?_
    refine gq_lcmp hC dL_law_1173 ?_
    rw [lg_cmp_self]
    refine gq_if_eq hC 1179 dL_law_1174 (by decide) (fun _ => ?_) (fun h9 => absurd rfl h9)
    refine gq_goto hC 2643 dL_law_1179 (by decide) ?_
    exact gq_sub [(4, .int i), (3, .ref ho), (2, .ref hm), (1, .ref hx), (0, .ref bs)] [2, 3, 4, 5, 6] rfl (gq_widen (by omega) (by omega) kk)
set_option maxHeartbeats 4000000 in
theorem lw_segmentAt {ws ws1 ws2 W1 W1' W2 W2' W3 : va_W} {hx hm ho bs L : Nat} {xs : Nat → Int32} {i : Int32} {r : Int32} {fs1 fs2 : List Value} (hC : Gc p room_1 s m args meth c D (gq_ty cI cJ cZ cO) A 7 cL_law RL lw_tbl ret k n z) (hX : va_X bs L xs s s.heap) (hbl : bs < s.heap.size) (hbA : ¬ A bs) (hi1 : vp_in (i + 1) L) (hM1 : Mi l yX10_segmentAt wsX10_segmentAt (rmD 2) D (gq_ty cI cJ cZ cO) z [.ref hx, .int (xs (i + 1).toNatClampNeg)] W1 r W1' 0 0) (hv1 : W1[0]? = some (hx, .inr (10, fs1))) (hJ1 : gq_J ws W1 W1' ws1) (hM2 : Mi l yX11_segmentAt wsX11_segmentAt (rmD 2) D (gq_ty cI cJ cZ cO) z [.ref hm, .int (xs (i + 1).toNatClampNeg)] W2 r W2' 0 0) (hv2 : W2[0]? = some (hm, .inr (11, fs2))) (hJ2 : gq_J ws1 W2 W2' ws2) (hkb : k + 4 ≤ 601024 ∧ n + 24 ≤ 7293034) (kk : Gx p l e room_1 s m args below meth c D A 7 Q (k + 4) (n + 24) 2643 [(4, .int i), (3, .ref ho), (2, .ref hm), (1, .ref hx), (0, .ref bs)] [] ws2) : Gx p l e room_1 s m args below meth c D A 7 Q k n 1182 [(4, .int i), (3, .ref ho), (2, .ref hm), (1, .ref hx), (0, .ref bs)] [] ws := by
  refine gq_aload_n hC 3 dL_law_1182 rfl rfl ?_
  refine gq_aload_n hC 4 dL_law_1183 rfl rfl ?_
  refine gq_iload hC 0 dL_law_1184 rfl ?_
  refine gq_iconst hC 1 dL_law_1186 (by decide) ?_
  refine gq_iadd hC dL_law_1187 ?_
  refine gq_scr hC hX hbl hbA hi1 dL_law_1188 ?_
  refine gq_callJi hC hJ1 [.int (xs (i + 1).toNatClampNeg)] [] hM1 gL_law_X10_segmentAt rfl ⟨rfl, rfl⟩ hy_X10_segmentAt ⟨Nat.le_of_ble_eq_true rfl, Nat.le_of_ble_eq_true rfl⟩ (ci := 10) rfl rfl hv1 (Nat.le_of_ble_eq_true rfl) rfl dL_law_1189 rfl ?_
  refine gq_aload_n hC 2 dL_law_1192 rfl rfl ?_
  refine gq_aload_n hC 4 dL_law_1193 rfl rfl ?_
  refine gq_iload hC 0 dL_law_1194 rfl ?_
  refine gq_iconst hC 1 dL_law_1196 (by decide) ?_
  refine gq_iadd hC dL_law_1197 ?_
  refine gq_scr hC hX hbl hbA hi1 dL_law_1198 ?_
  refine gq_callJi hC hJ2 [.int (xs (i + 1).toNatClampNeg)] [.int r] hM2 gL_law_X11_segmentAt rfl ⟨rfl, rfl⟩ hy_X11_segmentAt ⟨Nat.le_of_ble_eq_true rfl, Nat.le_of_ble_eq_true rfl⟩ (ci := 11) rfl rfl hv2 (Nat.le_of_ble_eq_true rfl) rfl dL_law_1199 rfl ?_
  refine gq_icmp_eq hC 2643 dL_law_1202 (by decide) (fun _ => ?_) (fun h9 => absurd rfl h9)
  exact gq_sub [(4, .int i), (3, .ref ho), (2, .ref hm), (1, .ref hx), (0, .ref bs)] [0, 1, 2, 3, 4] rfl (gq_widen (by omega) (by omega) kk)
set_option maxHeartbeats 4000000 in
theorem lw_change {ws ws1 ws2 W1 W1' W2 W2' W3 : va_W} {hx hm ho bs L : Nat} {xs : Nat → Int32} {i : Int32} {kr : Int32} {r : Int32} {ov : Nat → Int64} {fs1 fs2 fs3 : List Value} {qo : Nat} (hC : Gc p room_1 s m args meth c D (gq_ty cI cJ cZ cO) A 7 cL_law RL lw_tbl ret k n z) (hX : va_X bs L xs s s.heap) (hbl : bs < s.heap.size) (hbA : ¬ A bs) (hi1 : vp_in (i + 1) L) (hM1 : Mi l yL_change wsL_change (rmX 8 1) D (gq_ty cI cJ cZ cO) z [.ref hx, .int (xs (i + 1).toNatClampNeg), .ref ho] W1 kr W1' 1 6) (hJ1 : gq_J ws W1 W1' ws1) (hM2 : Mi l yX11_change wsX11_change (rmD 4) D (gq_ty cI cJ cZ cO) z [.ref hm, .int (xs (i + 1).toNatClampNeg)] W2 r W2' 0 0) (hv2 : W2[0]? = some (hm, .inr (11, fs2))) (hJ2 : gq_J ws1 W2 W2' ws2) (hM3 : Mi l yX11_thrown wsX11_thrown (rmD 0) D (gq_ty cI cJ cZ cO) z [.ref hm] W3 kr W3 0 0) (hv3 : W3[0]? = some (hm, .inr (11, fs3))) (hJ3 : gq_J ws2 W3 W3 ws2) (hqo : ws2[qo]? = some (ho, .inl (cJ, 1, .inr (.inl ov)))) (hov : kr = 0 → ov (0 : Int32).toNatClampNeg = r.toInt64) (hkb : k + 4 ≤ 601024 ∧ n + 24 ≤ 7293034) (kk : Gx p l e room_1 s m args below meth c D A 7 Q (k + 4) (n + 24) 2643 [(4, .int i), (3, .ref ho), (2, .ref hm), (1, .ref hx), (0, .ref bs)] [] ws2) : Gx p l e room_1 s m args below meth c D A 7 Q k n 1207 [(4, .int i), (3, .ref ho), (2, .ref hm), (1, .ref hx), (0, .ref bs)] [] ws := by
  refine gq_aload_n hC 3 dL_law_1207 rfl rfl ?_
  refine gq_aload_n hC 4 dL_law_1208 rfl rfl ?_
  refine gq_iload hC 0 dL_law_1209 rfl ?_
  refine gq_iconst hC 1 dL_law_1211 (by decide) ?_
  refine gq_iadd hC dL_law_1212 ?_
  refine gq_scr hC hX hbl hbA hi1 dL_law_1213 ?_
  refine gq_aload_n hC 1 dL_law_1214 rfl rfl ?_
  refine gq_callSWi hC hJ1 [.ref hx, .int (xs (i + 1).toNatClampNeg), .ref ho] [] hM1 gL_law_L_change rfl ⟨rfl, rfl⟩ ⟨(by decide +kernel), (by decide +kernel), (show _ = some 3 from by decide +kernel)⟩ ⟨by show k + 1 ≤ 601024; omega, by show n + 6 ≤ 7293034; omega⟩ ⟨Nat.le_of_ble_eq_true rfl, Nat.le_of_ble_eq_true rfl⟩ (Nat.le_of_ble_eq_true rfl) rfl dL_law_1215 rfl ?_
  have hC := gq_at (k' := k + 1) (n' := n + 6) hC ⟨by show k + 1 ≤ 601024; omega, by show n + 6 ≤ 7293034; omega⟩
  refine gq_istore hC [(5, .int kr), (4, .int i), (3, .ref ho), (2, .ref hm), (1, .ref hx), (0, .ref bs)] dL_law_1218 (by decide) rfl ?_
  refine gq_aload_n hC 3 dL_law_1220 rfl rfl ?_
  refine gq_aload_n hC 5 dL_law_1221 rfl rfl ?_
  refine gq_iload hC 1 dL_law_1222 rfl ?_
  refine gq_iconst hC 1 dL_law_1224 (by decide) ?_
  refine gq_iadd hC dL_law_1225 ?_
  refine gq_scr hC hX hbl hbA hi1 dL_law_1226 ?_
  refine gq_callJi hC hJ2 [.int (xs (i + 1).toNatClampNeg)] [] hM2 gL_law_X11_change rfl ⟨rfl, rfl⟩ hy_X11_change ⟨Nat.le_of_ble_eq_true rfl, Nat.le_of_ble_eq_true rfl⟩ (ci := 11) rfl rfl hv2 (Nat.le_of_ble_eq_true rfl) rfl dL_law_1227 rfl ?_
  refine gq_istore hC [(6, .int r), (5, .int kr), (4, .int i), (3, .ref ho), (2, .ref hm), (1, .ref hx), (0, .ref bs)] dL_law_1230 (by decide) rfl ?_
  refine gq_aload_n hC 4 dL_law_1232 rfl rfl ?_
  refine gq_callJi hC hJ3 [] [] hM3 gL_law_X11_thrown rfl ⟨rfl, rfl⟩ hy_X11_thrown ⟨Nat.le_of_ble_eq_true rfl, Nat.le_of_ble_eq_true rfl⟩ (ci := 11) rfl rfl hv3 (Nat.le_of_ble_eq_true rfl) rfl dL_law_1233 rfl ?_
  refine gq_iload hC 1 dL_law_1236 rfl ?_
  refine gq_icmp_eq hC 1243 dL_law_1238 (by decide) (fun _ => ?_) (fun h9 => absurd rfl h9)
  refine gq_iload hC 1 dL_law_1243 rfl ?_
  refine gq_if_ne hC 1260 dL_law_1245 (by decide) (fun _ => ?_) (fun h0 => ?_)
  · refine gq_goto hC 2643 dL_law_1260 (by decide) ?_
    exact gq_sub [(4, .int i), (3, .ref ho), (2, .ref hm), (1, .ref hx), (0, .ref bs)] [2, 3, 4, 5, 6] rfl (gq_widen (by omega) (by omega) kk)
  · refine gq_aload_n hC 3 dL_law_1248 rfl rfl ?_
    refine gq_iconst hC 0 dL_law_1249 (by decide) ?_
    refine gq_lald hC qo 1 hqo rfl (by unfold vp_in; decide) dL_law_1250 ?_
    rw [hov h0]
    refine gq_iload hC 0 dL_law_1251 rfl ?_
    refine gq_i2l hC dL_law_1253 ?_
    refine gq_lcmp hC dL_law_1254 ?_
    rw [lg_cmp_self]
    refine gq_if_eq hC 1260 dL_law_1255 (by decide) (fun _ => ?_) (fun h9 => absurd rfl h9)
    refine gq_goto hC 2643 dL_law_1260 (by decide) ?_
    exact gq_sub [(4, .int i), (3, .ref ho), (2, .ref hm), (1, .ref hx), (0, .ref bs)] [2, 3, 4, 5, 6] rfl (gq_widen (by omega) (by omega) kk)
set_option maxHeartbeats 4000000 in
theorem lw_chapters {ws ws1 ws2 W1 W1' W2 W2' W3 : va_W} {hx hm ho bs L : Nat} {xs : Nat → Int32} {i : Int32} {r : Int32} {fs1 fs2 : List Value} (hC : Gc p room_1 s m args meth c D (gq_ty cI cJ cZ cO) A 7 cL_law RL lw_tbl ret k n z) (hM1 : Mi l yX10_chapters wsX10_chapters (rmD 6) D (gq_ty cI cJ cZ cO) z [.ref hx] W1 r W1' 0 0) (hv1 : W1[0]? = some (hx, .inr (10, fs1))) (hJ1 : gq_J ws W1 W1' ws1) (hM2 : Mi l yX11_chapters wsX11_chapters (rmD 6) D (gq_ty cI cJ cZ cO) z [.ref hm] W2 r W2' 0 0) (hv2 : W2[0]? = some (hm, .inr (11, fs2))) (hJ2 : gq_J ws1 W2 W2' ws2) (hkb : k + 4 ≤ 601024 ∧ n + 24 ≤ 7293034) (kk : Gx p l e room_1 s m args below meth c D A 7 Q (k + 4) (n + 24) 2643 [(4, .int i), (3, .ref ho), (2, .ref hm), (1, .ref hx), (0, .ref bs)] [] ws2) : Gx p l e room_1 s m args below meth c D A 7 Q k n 1263 [(4, .int i), (3, .ref ho), (2, .ref hm), (1, .ref hx), (0, .ref bs)] [] ws := by
  refine gq_aload_n hC 3 dL_law_1263 rfl rfl ?_
  refine gq_callJi hC hJ1 [] [] hM1 gL_law_X10_chapters rfl ⟨rfl, rfl⟩ hy_X10_chapters ⟨Nat.le_of_ble_eq_true rfl, Nat.le_of_ble_eq_true rfl⟩ (ci := 10) rfl rfl hv1 (Nat.le_of_ble_eq_true rfl) rfl dL_law_1264 rfl ?_
  refine gq_aload_n hC 2 dL_law_1267 rfl rfl ?_
  refine gq_callJi hC hJ2 [] [.int r] hM2 gL_law_X11_chapters rfl ⟨rfl, rfl⟩ hy_X11_chapters ⟨Nat.le_of_ble_eq_true rfl, Nat.le_of_ble_eq_true rfl⟩ (ci := 11) rfl rfl hv2 (Nat.le_of_ble_eq_true rfl) rfl dL_law_1268 rfl ?_
  refine gq_icmp_eq hC 2643 dL_law_1271 (by decide) (fun _ => ?_) (fun h9 => absurd rfl h9)
  exact gq_sub [(4, .int i), (3, .ref ho), (2, .ref hm), (1, .ref hx), (0, .ref bs)] [0, 1, 2, 3, 4] rfl (gq_widen (by omega) (by omega) kk)
set_option maxHeartbeats 4000000 in
theorem lw_worth {ws ws1 ws2 W1 W1' W2 W2' W3 : va_W} {hx hm ho bs L : Nat} {xs : Nat → Int32} {i : Int32} {kr : Int32} {r : Int32} {ov : Nat → Int64} {fs1 fs2 fs3 : List Value} {qo : Nat} (hC : Gc p room_1 s m args meth c D (gq_ty cI cJ cZ cO) A 7 cL_law RL lw_tbl ret k n z) (hM1 : Mi l yL_worth wsL_worth (rmX 8 1) D (gq_ty cI cJ cZ cO) z [.ref hx, .ref ho] W1 kr W1' 1 6) (hJ1 : gq_J ws W1 W1' ws1) (hM2 : Mi l yX11_worth wsX11_worth (rmD 6) D (gq_ty cI cJ cZ cO) z [.ref hm] W2 r W2' 0 0) (hv2 : W2[0]? = some (hm, .inr (11, fs2))) (hJ2 : gq_J ws1 W2 W2' ws2) (hM3 : Mi l yX11_thrown wsX11_thrown (rmD 0) D (gq_ty cI cJ cZ cO) z [.ref hm] W3 kr W3 0 0) (hv3 : W3[0]? = some (hm, .inr (11, fs3))) (hJ3 : gq_J ws2 W3 W3 ws2) (hqo : ws2[qo]? = some (ho, .inl (cJ, 1, .inr (.inl ov)))) (hov : kr = 0 → ov (0 : Int32).toNatClampNeg = r.toInt64) (hkb : k + 4 ≤ 601024 ∧ n + 24 ≤ 7293034) (kk : Gx p l e room_1 s m args below meth c D A 7 Q (k + 4) (n + 24) 2643 [(4, .int i), (3, .ref ho), (2, .ref hm), (1, .ref hx), (0, .ref bs)] [] ws2) : Gx p l e room_1 s m args below meth c D A 7 Q k n 1276 [(4, .int i), (3, .ref ho), (2, .ref hm), (1, .ref hx), (0, .ref bs)] [] ws := by
  refine gq_aload_n hC 3 dL_law_1276 rfl rfl ?_
  refine gq_aload_n hC 1 dL_law_1277 rfl rfl ?_
  refine gq_callSWi hC hJ1 [.ref hx, .ref ho] [] hM1 gL_law_L_worth rfl ⟨rfl, rfl⟩ ⟨(by decide +kernel), (by decide +kernel), (show _ = some 2 from by decide +kernel)⟩ ⟨by show k + 1 ≤ 601024; omega, by show n + 6 ≤ 7293034; omega⟩ ⟨Nat.le_of_ble_eq_true rfl, Nat.le_of_ble_eq_true rfl⟩ (Nat.le_of_ble_eq_true rfl) rfl dL_law_1278 rfl ?_
  have hC := gq_at (k' := k + 1) (n' := n + 6) hC ⟨by show k + 1 ≤ 601024; omega, by show n + 6 ≤ 7293034; omega⟩
  refine gq_istore hC [(5, .int kr), (4, .int i), (3, .ref ho), (2, .ref hm), (1, .ref hx), (0, .ref bs)] dL_law_1281 (by decide) rfl ?_
  refine gq_aload_n hC 3 dL_law_1283 rfl rfl ?_
  refine gq_callJi hC hJ2 [] [] hM2 gL_law_X11_worth rfl ⟨rfl, rfl⟩ hy_X11_worth ⟨Nat.le_of_ble_eq_true rfl, Nat.le_of_ble_eq_true rfl⟩ (ci := 11) rfl rfl hv2 (Nat.le_of_ble_eq_true rfl) rfl dL_law_1284 rfl ?_
  refine gq_istore hC [(6, .int r), (5, .int kr), (4, .int i), (3, .ref ho), (2, .ref hm), (1, .ref hx), (0, .ref bs)] dL_law_1287 (by decide) rfl ?_
  refine gq_aload_n hC 4 dL_law_1289 rfl rfl ?_
  refine gq_callJi hC hJ3 [] [] hM3 gL_law_X11_thrown rfl ⟨rfl, rfl⟩ hy_X11_thrown ⟨Nat.le_of_ble_eq_true rfl, Nat.le_of_ble_eq_true rfl⟩ (ci := 11) rfl rfl hv3 (Nat.le_of_ble_eq_true rfl) rfl dL_law_1290 rfl ?_
  refine gq_iload hC 1 dL_law_1293 rfl ?_
  refine gq_icmp_eq hC 1300 dL_law_1295 (by decide) (fun _ => ?_) (fun h9 => absurd rfl h9)
  refine gq_iload hC 1 dL_law_1300 rfl ?_
  refine gq_if_ne hC 1317 dL_law_1302 (by decide) (fun _ => ?_) (fun h0 => ?_)
  · refine gq_goto hC 2643 dL_law_1317 (by decide) ?_
    exact gq_sub [(4, .int i), (3, .ref ho), (2, .ref hm), (1, .ref hx), (0, .ref bs)] [2, 3, 4, 5, 6] rfl (gq_widen (by omega) (by omega) kk)
  · refine gq_aload_n hC 3 dL_law_1305 rfl rfl ?_
    refine gq_iconst hC 0 dL_law_1306 (by decide) ?_
    refine gq_lald hC qo 1 hqo rfl (by unfold vp_in; decide) dL_law_1307 ?_
    rw [hov h0]
    refine gq_iload hC 0 dL_law_1308 rfl ?_
    refine gq_i2l hC dL_law_1310 ?_
    refine gq_lcmp hC dL_law_1311 ?_
    rw [lg_cmp_self]
    refine gq_if_eq hC 1317 dL_law_1312 (by decide) (fun _ => ?_) (fun h9 => absurd rfl h9)
    refine gq_goto hC 2643 dL_law_1317 (by decide) ?_
    exact gq_sub [(4, .int i), (3, .ref ho), (2, .ref hm), (1, .ref hx), (0, .ref bs)] [2, 3, 4, 5, 6] rfl (gq_widen (by omega) (by omega) kk)
set_option maxHeartbeats 4000000 in
theorem lw_chapter {ws ws1 ws2 W1 W1' W2 W2' W3 : va_W} {hx hm ho bs L : Nat} {xs : Nat → Int32} {i : Int32} {kr : Int32} {r : Int32} {ov : Nat → Int64} {fs1 fs2 fs3 : List Value} {qo : Nat} (hC : Gc p room_1 s m args meth c D (gq_ty cI cJ cZ cO) A 7 cL_law RL lw_tbl ret k n z) (hX : va_X bs L xs s s.heap) (hbl : bs < s.heap.size) (hbA : ¬ A bs) (hi1 : vp_in (i + 1) L) (hi2 : vp_in (i + 2) L) (hM1 : Mi l yL_chapter wsL_chapter (rmX 8 3) D (gq_ty cI cJ cZ cO) z [.ref hx, .int (xs (i + 1).toNatClampNeg), .int (xs (i + 2).toNatClampNeg), .ref ho] W1 kr W1' 3 18) (hJ1 : gq_J ws W1 W1' ws1) (hM2 : Mi l yX11_chapter wsX11_chapter (rmD 9) D (gq_ty cI cJ cZ cO) z [.ref hm, .int (xs (i + 1).toNatClampNeg), .int (xs (i + 2).toNatClampNeg)] W2 r W2' 0 0) (hv2 : W2[0]? = some (hm, .inr (11, fs2))) (hJ2 : gq_J ws1 W2 W2' ws2) (hM3 : Mi l yX11_thrown wsX11_thrown (rmD 0) D (gq_ty cI cJ cZ cO) z [.ref hm] W3 kr W3 0 0) (hv3 : W3[0]? = some (hm, .inr (11, fs3))) (hJ3 : gq_J ws2 W3 W3 ws2) (hqo : ws2[qo]? = some (ho, .inl (cJ, 1, .inr (.inl ov)))) (hov : kr = 0 → ov (0 : Int32).toNatClampNeg = r.toInt64) (hkb : k + 4 ≤ 601024 ∧ n + 24 ≤ 7293034) (kk : Gx p l e room_1 s m args below meth c D A 7 Q (k + 4) (n + 24) 2643 [(4, .int i), (3, .ref ho), (2, .ref hm), (1, .ref hx), (0, .ref bs)] [] ws2) : Gx p l e room_1 s m args below meth c D A 7 Q k n 1320 [(4, .int i), (3, .ref ho), (2, .ref hm), (1, .ref hx), (0, .ref bs)] [] ws := by
  refine gq_aload_n hC 3 dL_law_1320 rfl rfl ?_
  refine gq_aload_n hC 4 dL_law_1321 rfl rfl ?_
  refine gq_iload hC 0 dL_law_1322 rfl ?_
  refine gq_iconst hC 1 dL_law_1324 (by decide) ?_
  refine gq_iadd hC dL_law_1325 ?_
  refine gq_scr hC hX hbl hbA hi1 dL_law_1326 ?_
  refine gq_aload_n hC 4 dL_law_1327 rfl rfl ?_
  refine gq_iload hC 0 dL_law_1328 rfl ?_
  refine gq_iconst hC 2 dL_law_1330 (by decide) ?_
  refine gq_iadd hC dL_law_1331 ?_
  refine gq_scr hC hX hbl hbA hi2 dL_law_1332 ?_
  refine gq_aload_n hC 1 dL_law_1333 rfl rfl ?_
  refine gq_callSWi hC hJ1 [.ref hx, .int (xs (i + 1).toNatClampNeg), .int (xs (i + 2).toNatClampNeg), .ref ho] [] hM1 gL_law_L_chapter rfl ⟨rfl, rfl⟩ ⟨(by decide +kernel), (by decide +kernel), (show _ = some 4 from by decide +kernel)⟩ ⟨by show k + 3 ≤ 601024; omega, by show n + 18 ≤ 7293034; omega⟩ ⟨Nat.le_of_ble_eq_true rfl, Nat.le_of_ble_eq_true rfl⟩ (Nat.le_of_ble_eq_true rfl) rfl dL_law_1334 rfl ?_
  have hC := gq_at (k' := k + 3) (n' := n + 18) hC ⟨by show k + 3 ≤ 601024; omega, by show n + 18 ≤ 7293034; omega⟩
  refine gq_istore hC [(5, .int kr), (4, .int i), (3, .ref ho), (2, .ref hm), (1, .ref hx), (0, .ref bs)] dL_law_1337 (by decide) rfl ?_
  refine gq_aload_n hC 3 dL_law_1339 rfl rfl ?_
  refine gq_aload_n hC 5 dL_law_1340 rfl rfl ?_
  refine gq_iload hC 1 dL_law_1341 rfl ?_
  refine gq_iconst hC 1 dL_law_1343 (by decide) ?_
  refine gq_iadd hC dL_law_1344 ?_
  refine gq_scr hC hX hbl hbA hi1 dL_law_1345 ?_
  refine gq_aload_n hC 5 dL_law_1346 rfl rfl ?_
  refine gq_iload hC 1 dL_law_1347 rfl ?_
  refine gq_iconst hC 2 dL_law_1349 (by decide) ?_
  refine gq_iadd hC dL_law_1350 ?_
  refine gq_scr hC hX hbl hbA hi2 dL_law_1351 ?_
  refine gq_callJi hC hJ2 [.int (xs (i + 1).toNatClampNeg), .int (xs (i + 2).toNatClampNeg)] [] hM2 gL_law_X11_chapter rfl ⟨rfl, rfl⟩ hy_X11_chapter ⟨Nat.le_of_ble_eq_true rfl, Nat.le_of_ble_eq_true rfl⟩ (ci := 11) rfl rfl hv2 (Nat.le_of_ble_eq_true rfl) rfl dL_law_1352 rfl ?_
  refine gq_istore hC [(6, .int r), (5, .int kr), (4, .int i), (3, .ref ho), (2, .ref hm), (1, .ref hx), (0, .ref bs)] dL_law_1355 (by decide) rfl ?_
  refine gq_aload_n hC 4 dL_law_1357 rfl rfl ?_
  refine gq_callJi hC hJ3 [] [] hM3 gL_law_X11_thrown rfl ⟨rfl, rfl⟩ hy_X11_thrown ⟨Nat.le_of_ble_eq_true rfl, Nat.le_of_ble_eq_true rfl⟩ (ci := 11) rfl rfl hv3 (Nat.le_of_ble_eq_true rfl) rfl dL_law_1358 rfl ?_
  refine gq_iload hC 1 dL_law_1361 rfl ?_
  refine gq_icmp_eq hC 1368 dL_law_1363 (by decide) (fun _ => ?_) (fun h9 => absurd rfl h9)
  refine gq_iload hC 1 dL_law_1368 rfl ?_
  refine gq_if_ne hC 1385 dL_law_1370 (by decide) (fun _ => ?_) (fun h0 => ?_)
  · refine gq_goto hC 2643 dL_law_1385 (by decide) ?_
    exact gq_sub [(4, .int i), (3, .ref ho), (2, .ref hm), (1, .ref hx), (0, .ref bs)] [2, 3, 4, 5, 6] rfl (gq_widen (by omega) (by omega) kk)
  · refine gq_aload_n hC 3 dL_law_1373 rfl rfl ?_
    refine gq_iconst hC 0 dL_law_1374 (by decide) ?_
    refine gq_lald hC qo 1 hqo rfl (by unfold vp_in; decide) dL_law_1375 ?_
    rw [hov h0]
    refine gq_iload hC 0 dL_law_1376 rfl ?_
    refine gq_i2l hC dL_law_1378 ?_
    refine gq_lcmp hC dL_law_1379 ?_
    rw [lg_cmp_self]
    refine gq_if_eq hC 1385 dL_law_1380 (by decide) (fun _ => ?_) (fun h9 => absurd rfl h9)
    refine gq_goto hC 2643 dL_law_1385 (by decide) ?_
    exact gq_sub [(4, .int i), (3, .ref ho), (2, .ref hm), (1, .ref hx), (0, .ref bs)] [2, 3, 4, 5, 6] rfl (gq_widen (by omega) (by omega) kk)
set_option maxHeartbeats 4000000 in
theorem lw_chapterOf {ws ws1 ws2 W1 W1' W2 W2' W3 : va_W} {hx hm ho bs L : Nat} {xs : Nat → Int32} {i : Int32} {kr : Int32} {r : Int32} {ov : Nat → Int64} {fs1 fs2 fs3 : List Value} {qo : Nat} (hC : Gc p room_1 s m args meth c D (gq_ty cI cJ cZ cO) A 7 cL_law RL lw_tbl ret k n z) (hX : va_X bs L xs s s.heap) (hbl : bs < s.heap.size) (hbA : ¬ A bs) (hi1 : vp_in (i + 1) L) (hM1 : Mi l yL_chapterOf wsL_chapterOf (rmX 8 1) D (gq_ty cI cJ cZ cO) z [.ref hx, .int (xs (i + 1).toNatClampNeg), .ref ho] W1 kr W1' 1 6) (hJ1 : gq_J ws W1 W1' ws1) (hM2 : Mi l yX11_chapterOf wsX11_chapterOf (rmD 6) D (gq_ty cI cJ cZ cO) z [.ref hm, .int (xs (i + 1).toNatClampNeg)] W2 r W2' 0 0) (hv2 : W2[0]? = some (hm, .inr (11, fs2))) (hJ2 : gq_J ws1 W2 W2' ws2) (hM3 : Mi l yX11_thrown wsX11_thrown (rmD 0) D (gq_ty cI cJ cZ cO) z [.ref hm] W3 kr W3 0 0) (hv3 : W3[0]? = some (hm, .inr (11, fs3))) (hJ3 : gq_J ws2 W3 W3 ws2) (hqo : ws2[qo]? = some (ho, .inl (cJ, 1, .inr (.inl ov)))) (hov : kr = 0 → ov (0 : Int32).toNatClampNeg = r.toInt64) (hkb : k + 4 ≤ 601024 ∧ n + 24 ≤ 7293034) (kk : Gx p l e room_1 s m args below meth c D A 7 Q (k + 4) (n + 24) 2643 [(4, .int i), (3, .ref ho), (2, .ref hm), (1, .ref hx), (0, .ref bs)] [] ws2) : Gx p l e room_1 s m args below meth c D A 7 Q k n 1388 [(4, .int i), (3, .ref ho), (2, .ref hm), (1, .ref hx), (0, .ref bs)] [] ws := by
  refine gq_aload_n hC 3 dL_law_1388 rfl rfl ?_
  refine gq_aload_n hC 4 dL_law_1389 rfl rfl ?_
  refine gq_iload hC 0 dL_law_1390 rfl ?_
  refine gq_iconst hC 1 dL_law_1392 (by decide) ?_
  refine gq_iadd hC dL_law_1393 ?_
  refine gq_scr hC hX hbl hbA hi1 dL_law_1394 ?_
  refine gq_aload_n hC 1 dL_law_1395 rfl rfl ?_
  refine gq_callSWi hC hJ1 [.ref hx, .int (xs (i + 1).toNatClampNeg), .ref ho] [] hM1 gL_law_L_chapterOf rfl ⟨rfl, rfl⟩ ⟨(by decide +kernel), (by decide +kernel), (show _ = some 3 from by decide +kernel)⟩ ⟨by show k + 1 ≤ 601024; omega, by show n + 6 ≤ 7293034; omega⟩ ⟨Nat.le_of_ble_eq_true rfl, Nat.le_of_ble_eq_true rfl⟩ (Nat.le_of_ble_eq_true rfl) rfl dL_law_1396 rfl ?_
  have hC := gq_at (k' := k + 1) (n' := n + 6) hC ⟨by show k + 1 ≤ 601024; omega, by show n + 6 ≤ 7293034; omega⟩
  refine gq_istore hC [(5, .int kr), (4, .int i), (3, .ref ho), (2, .ref hm), (1, .ref hx), (0, .ref bs)] dL_law_1399 (by decide) rfl ?_
  refine gq_aload_n hC 3 dL_law_1401 rfl rfl ?_
  refine gq_aload_n hC 5 dL_law_1402 rfl rfl ?_
  refine gq_iload hC 1 dL_law_1403 rfl ?_
  refine gq_iconst hC 1 dL_law_1405 (by decide) ?_
  refine gq_iadd hC dL_law_1406 ?_
  refine gq_scr hC hX hbl hbA hi1 dL_law_1407 ?_
  refine gq_callJi hC hJ2 [.int (xs (i + 1).toNatClampNeg)] [] hM2 gL_law_X11_chapterOf rfl ⟨rfl, rfl⟩ hy_X11_chapterOf ⟨Nat.le_of_ble_eq_true rfl, Nat.le_of_ble_eq_true rfl⟩ (ci := 11) rfl rfl hv2 (Nat.le_of_ble_eq_true rfl) rfl dL_law_1408 rfl ?_
  refine gq_istore hC [(6, .int r), (5, .int kr), (4, .int i), (3, .ref ho), (2, .ref hm), (1, .ref hx), (0, .ref bs)] dL_law_1411 (by decide) rfl ?_
  refine gq_aload_n hC 4 dL_law_1413 rfl rfl ?_
  refine gq_callJi hC hJ3 [] [] hM3 gL_law_X11_thrown rfl ⟨rfl, rfl⟩ hy_X11_thrown ⟨Nat.le_of_ble_eq_true rfl, Nat.le_of_ble_eq_true rfl⟩ (ci := 11) rfl rfl hv3 (Nat.le_of_ble_eq_true rfl) rfl dL_law_1414 rfl ?_
  refine gq_iload hC 1 dL_law_1417 rfl ?_
  refine gq_icmp_eq hC 1424 dL_law_1419 (by decide) (fun _ => ?_) (fun h9 => absurd rfl h9)
  refine gq_iload hC 1 dL_law_1424 rfl ?_
  refine gq_if_ne hC 1441 dL_law_1426 (by decide) (fun _ => ?_) (fun h0 => ?_)
  · refine gq_goto hC 2643 dL_law_1441 (by decide) ?_
    exact gq_sub [(4, .int i), (3, .ref ho), (2, .ref hm), (1, .ref hx), (0, .ref bs)] [2, 3, 4, 5, 6] rfl (gq_widen (by omega) (by omega) kk)
  · refine gq_aload_n hC 3 dL_law_1429 rfl rfl ?_
    refine gq_iconst hC 0 dL_law_1430 (by decide) ?_
    refine gq_lald hC qo 1 hqo rfl (by unfold vp_in; decide) dL_law_1431 ?_
    rw [hov h0]
    refine gq_iload hC 0 dL_law_1432 rfl ?_
    refine gq_i2l hC dL_law_1434 ?_
    refine gq_lcmp hC dL_law_1435 ?_
    rw [lg_cmp_self]
    refine gq_if_eq hC 1441 dL_law_1436 (by decide) (fun _ => ?_) (fun h9 => absurd rfl h9)
    refine gq_goto hC 2643 dL_law_1441 (by decide) ?_
    exact gq_sub [(4, .int i), (3, .ref ho), (2, .ref hm), (1, .ref hx), (0, .ref bs)] [2, 3, 4, 5, 6] rfl (gq_widen (by omega) (by omega) kk)
set_option maxHeartbeats 4000000 in
theorem lw_worthOf {ws ws1 ws2 W1 W1' W2 W2' W3 : va_W} {hx hm ho bs L : Nat} {xs : Nat → Int32} {i : Int32} {kr : Int32} {r : Int32} {ov : Nat → Int64} {fs1 fs2 fs3 : List Value} {qo : Nat} (hC : Gc p room_1 s m args meth c D (gq_ty cI cJ cZ cO) A 7 cL_law RL lw_tbl ret k n z) (hX : va_X bs L xs s s.heap) (hbl : bs < s.heap.size) (hbA : ¬ A bs) (hi1 : vp_in (i + 1) L) (hM1 : Mi l yL_worthOf wsL_worthOf (rmX 8 1) D (gq_ty cI cJ cZ cO) z [.ref hx, .int (xs (i + 1).toNatClampNeg), .ref ho] W1 kr W1' 1 6) (hJ1 : gq_J ws W1 W1' ws1) (hM2 : Mi l yX11_worthOf wsX11_worthOf (rmD 4) D (gq_ty cI cJ cZ cO) z [.ref hm, .int (xs (i + 1).toNatClampNeg)] W2 r W2' 0 0) (hv2 : W2[0]? = some (hm, .inr (11, fs2))) (hJ2 : gq_J ws1 W2 W2' ws2) (hM3 : Mi l yX11_thrown wsX11_thrown (rmD 0) D (gq_ty cI cJ cZ cO) z [.ref hm] W3 kr W3 0 0) (hv3 : W3[0]? = some (hm, .inr (11, fs3))) (hJ3 : gq_J ws2 W3 W3 ws2) (hqo : ws2[qo]? = some (ho, .inl (cJ, 1, .inr (.inl ov)))) (hov : kr = 0 → ov (0 : Int32).toNatClampNeg = r.toInt64) (hkb : k + 4 ≤ 601024 ∧ n + 24 ≤ 7293034) (kk : Gx p l e room_1 s m args below meth c D A 7 Q (k + 4) (n + 24) 2643 [(4, .int i), (3, .ref ho), (2, .ref hm), (1, .ref hx), (0, .ref bs)] [] ws2) : Gx p l e room_1 s m args below meth c D A 7 Q k n 1444 [(4, .int i), (3, .ref ho), (2, .ref hm), (1, .ref hx), (0, .ref bs)] [] ws := by
  refine gq_aload_n hC 3 dL_law_1444 rfl rfl ?_
  refine gq_aload_n hC 4 dL_law_1445 rfl rfl ?_
  refine gq_iload hC 0 dL_law_1446 rfl ?_
  refine gq_iconst hC 1 dL_law_1448 (by decide) ?_
  refine gq_iadd hC dL_law_1449 ?_
  refine gq_scr hC hX hbl hbA hi1 dL_law_1450 ?_
  refine gq_aload_n hC 1 dL_law_1451 rfl rfl ?_
  refine gq_callSWi hC hJ1 [.ref hx, .int (xs (i + 1).toNatClampNeg), .ref ho] [] hM1 gL_law_L_worthOf rfl ⟨rfl, rfl⟩ ⟨(by decide +kernel), (by decide +kernel), (show _ = some 3 from by decide +kernel)⟩ ⟨by show k + 1 ≤ 601024; omega, by show n + 6 ≤ 7293034; omega⟩ ⟨Nat.le_of_ble_eq_true rfl, Nat.le_of_ble_eq_true rfl⟩ (Nat.le_of_ble_eq_true rfl) rfl dL_law_1452 rfl ?_
  have hC := gq_at (k' := k + 1) (n' := n + 6) hC ⟨by show k + 1 ≤ 601024; omega, by show n + 6 ≤ 7293034; omega⟩
  refine gq_istore hC [(5, .int kr), (4, .int i), (3, .ref ho), (2, .ref hm), (1, .ref hx), (0, .ref bs)] dL_law_1455 (by decide) rfl ?_
  refine gq_aload_n hC 3 dL_law_1457 rfl rfl ?_
  refine gq_aload_n hC 5 dL_law_1458 rfl rfl ?_
  refine gq_iload hC 1 dL_law_1459 rfl ?_
  refine gq_iconst hC 1 dL_law_1461 (by decide) ?_
  refine gq_iadd hC dL_law_1462 ?_
  refine gq_scr hC hX hbl hbA hi1 dL_law_1463 ?_
  refine gq_callJi hC hJ2 [.int (xs (i + 1).toNatClampNeg)] [] hM2 gL_law_X11_worthOf rfl ⟨rfl, rfl⟩ hy_X11_worthOf ⟨Nat.le_of_ble_eq_true rfl, Nat.le_of_ble_eq_true rfl⟩ (ci := 11) rfl rfl hv2 (Nat.le_of_ble_eq_true rfl) rfl dL_law_1464 rfl ?_
  refine gq_istore hC [(6, .int r), (5, .int kr), (4, .int i), (3, .ref ho), (2, .ref hm), (1, .ref hx), (0, .ref bs)] dL_law_1467 (by decide) rfl ?_
  refine gq_aload_n hC 4 dL_law_1469 rfl rfl ?_
  refine gq_callJi hC hJ3 [] [] hM3 gL_law_X11_thrown rfl ⟨rfl, rfl⟩ hy_X11_thrown ⟨Nat.le_of_ble_eq_true rfl, Nat.le_of_ble_eq_true rfl⟩ (ci := 11) rfl rfl hv3 (Nat.le_of_ble_eq_true rfl) rfl dL_law_1470 rfl ?_
  refine gq_iload hC 1 dL_law_1473 rfl ?_
  refine gq_icmp_eq hC 1480 dL_law_1475 (by decide) (fun _ => ?_) (fun h9 => absurd rfl h9)
  refine gq_iload hC 1 dL_law_1480 rfl ?_
  refine gq_if_ne hC 1497 dL_law_1482 (by decide) (fun _ => ?_) (fun h0 => ?_)
  · refine gq_goto hC 2643 dL_law_1497 (by decide) ?_
    exact gq_sub [(4, .int i), (3, .ref ho), (2, .ref hm), (1, .ref hx), (0, .ref bs)] [2, 3, 4, 5, 6] rfl (gq_widen (by omega) (by omega) kk)
  · refine gq_aload_n hC 3 dL_law_1485 rfl rfl ?_
    refine gq_iconst hC 0 dL_law_1486 (by decide) ?_
    refine gq_lald hC qo 1 hqo rfl (by unfold vp_in; decide) dL_law_1487 ?_
    rw [hov h0]
    refine gq_iload hC 0 dL_law_1488 rfl ?_
    refine gq_i2l hC dL_law_1490 ?_
    refine gq_lcmp hC dL_law_1491 ?_
    rw [lg_cmp_self]
    refine gq_if_eq hC 1497 dL_law_1492 (by decide) (fun _ => ?_) (fun h9 => absurd rfl h9)
    refine gq_goto hC 2643 dL_law_1497 (by decide) ?_
    exact gq_sub [(4, .int i), (3, .ref ho), (2, .ref hm), (1, .ref hx), (0, .ref bs)] [2, 3, 4, 5, 6] rfl (gq_widen (by omega) (by omega) kk)
set_option maxHeartbeats 4000000 in
theorem lw_isAllowed {ws ws1 ws2 W1 W1' W2 W2' W3 : va_W} {hx hm ho bs L : Nat} {xs : Nat → Int32} {i : Int32} {kr : Int32} {r : Int32} {ov : Nat → Int64} {fs1 fs2 fs3 : List Value} {qo : Nat} (hC : Gc p room_1 s m args meth c D (gq_ty cI cJ cZ cO) A 7 cL_law RL lw_tbl ret k n z) (hX : va_X bs L xs s s.heap) (hbl : bs < s.heap.size) (hbA : ¬ A bs) (hi1 : vp_in (i + 1) L) (hr01 : kr = 0 → r = 0 ∨ r = 1) (hM1 : Mi l yL_isAllowed wsL_isAllowed (rmX 8 1) D (gq_ty cI cJ cZ cO) z [.ref hx, .int (xs (i + 1).toNatClampNeg), .ref ho] W1 kr W1' 1 6) (hJ1 : gq_J ws W1 W1' ws1) (hM2 : Mi l yX11_isAllowed wsX11_isAllowed (rmD 3) D (gq_ty cI cJ cZ cO) z [.ref hm, .int (xs (i + 1).toNatClampNeg)] W2 r W2' 0 0) (hv2 : W2[0]? = some (hm, .inr (11, fs2))) (hJ2 : gq_J ws1 W2 W2' ws2) (hM3 : Mi l yX11_thrown wsX11_thrown (rmD 0) D (gq_ty cI cJ cZ cO) z [.ref hm] W3 kr W3 0 0) (hv3 : W3[0]? = some (hm, .inr (11, fs3))) (hJ3 : gq_J ws2 W3 W3 ws2) (hqo : ws2[qo]? = some (ho, .inl (cJ, 1, .inr (.inl ov)))) (hov : kr = 0 → ov (0 : Int32).toNatClampNeg = r.toInt64) (hkb : k + 4 ≤ 601024 ∧ n + 24 ≤ 7293034) (kk : Gx p l e room_1 s m args below meth c D A 7 Q (k + 4) (n + 24) 2643 [(4, .int i), (3, .ref ho), (2, .ref hm), (1, .ref hx), (0, .ref bs)] [] ws2) : Gx p l e room_1 s m args below meth c D A 7 Q k n 1500 [(4, .int i), (3, .ref ho), (2, .ref hm), (1, .ref hx), (0, .ref bs)] [] ws := by
  refine gq_aload_n hC 3 dL_law_1500 rfl rfl ?_
  refine gq_aload_n hC 4 dL_law_1501 rfl rfl ?_
  refine gq_iload hC 0 dL_law_1502 rfl ?_
  refine gq_iconst hC 1 dL_law_1504 (by decide) ?_
  refine gq_iadd hC dL_law_1505 ?_
  refine gq_scr hC hX hbl hbA hi1 dL_law_1506 ?_
  refine gq_aload_n hC 1 dL_law_1507 rfl rfl ?_
  refine gq_callSWi hC hJ1 [.ref hx, .int (xs (i + 1).toNatClampNeg), .ref ho] [] hM1 gL_law_L_isAllowed rfl ⟨rfl, rfl⟩ ⟨(by decide +kernel), (by decide +kernel), (show _ = some 3 from by decide +kernel)⟩ ⟨by show k + 1 ≤ 601024; omega, by show n + 6 ≤ 7293034; omega⟩ ⟨Nat.le_of_ble_eq_true rfl, Nat.le_of_ble_eq_true rfl⟩ (Nat.le_of_ble_eq_true rfl) rfl dL_law_1508 rfl ?_
  have hC := gq_at (k' := k + 1) (n' := n + 6) hC ⟨by show k + 1 ≤ 601024; omega, by show n + 6 ≤ 7293034; omega⟩
  refine gq_istore hC [(5, .int kr), (4, .int i), (3, .ref ho), (2, .ref hm), (1, .ref hx), (0, .ref bs)] dL_law_1511 (by decide) rfl ?_
  refine gq_aload_n hC 3 dL_law_1513 rfl rfl ?_
  refine gq_aload_n hC 5 dL_law_1514 rfl rfl ?_
  refine gq_iload hC 1 dL_law_1515 rfl ?_
  refine gq_iconst hC 1 dL_law_1517 (by decide) ?_
  refine gq_iadd hC dL_law_1518 ?_
  refine gq_scr hC hX hbl hbA hi1 dL_law_1519 ?_
  refine gq_callJi hC hJ2 [.int (xs (i + 1).toNatClampNeg)] [] hM2 gL_law_X11_isAllowed rfl ⟨rfl, rfl⟩ hy_X11_isAllowed ⟨Nat.le_of_ble_eq_true rfl, Nat.le_of_ble_eq_true rfl⟩ (ci := 11) rfl rfl hv2 (Nat.le_of_ble_eq_true rfl) rfl dL_law_1520 rfl ?_
  refine gq_istore hC [(6, .int r), (5, .int kr), (4, .int i), (3, .ref ho), (2, .ref hm), (1, .ref hx), (0, .ref bs)] dL_law_1523 (by decide) rfl ?_
  refine gq_aload_n hC 4 dL_law_1525 rfl rfl ?_
  refine gq_callJi hC hJ3 [] [] hM3 gL_law_X11_thrown rfl ⟨rfl, rfl⟩ hy_X11_thrown ⟨Nat.le_of_ble_eq_true rfl, Nat.le_of_ble_eq_true rfl⟩ (ci := 11) rfl rfl hv3 (Nat.le_of_ble_eq_true rfl) rfl dL_law_1526 rfl ?_
  refine gq_iload hC 1 dL_law_1529 rfl ?_
  refine gq_icmp_eq hC 1536 dL_law_1531 (by decide) (fun _ => ?_) (fun h9 => absurd rfl h9)
  refine gq_iload hC 1 dL_law_1536 rfl ?_
  refine gq_if_ne hC 1560 dL_law_1538 (by decide) (fun _ => ?_) (fun h0 => ?_)
  · refine gq_goto hC 2643 dL_law_1560 (by decide) ?_
    exact gq_sub [(4, .int i), (3, .ref ho), (2, .ref hm), (1, .ref hx), (0, .ref bs)] [2, 3, 4, 5, 6] rfl (gq_widen (by omega) (by omega) kk)
  · refine gq_aload_n hC 3 dL_law_1541 rfl rfl ?_
    refine gq_iconst hC 0 dL_law_1542 (by decide) ?_
    refine gq_lald hC qo 1 hqo rfl (by unfold vp_in; decide) dL_law_1543 ?_
    rw [hov h0]
    refine gq_iload hC 0 dL_law_1544 rfl ?_
    refine gq_if_eq hC 1553 dL_law_1546 (by decide) (fun h8 => ?_) (fun h8 => ?_)
    · subst h8
      refine gq_lconst hC ((0 : Int32).toInt64) dL_law_1553 (by decide) ?_
      refine gq_lcmp hC dL_law_1554 ?_
      rw [lg_cmp_self]
      refine gq_if_eq hC 1560 dL_law_1555 (by decide) (fun _ => ?_) (fun h9 => absurd rfl h9)
      refine gq_goto hC 2643 dL_law_1560 (by decide) ?_
      exact gq_sub [(4, .int i), (3, .ref ho), (2, .ref hm), (1, .ref hx), (0, .ref bs)] [2, 3, 4, 5, 6] rfl (gq_widen (by omega) (by omega) kk)
    · obtain rfl : r = 1 := (hr01 h0).resolve_left h8
      refine gq_lconst hC ((1 : Int32).toInt64) dL_law_1549 (by decide) ?_
      refine gq_goto hC 1554 dL_law_1550 (by decide) ?_
      refine gq_lcmp hC dL_law_1554 ?_
      rw [lg_cmp_self]
      refine gq_if_eq hC 1560 dL_law_1555 (by decide) (fun _ => ?_) (fun h9 => absurd rfl h9)
      refine gq_goto hC 2643 dL_law_1560 (by decide) ?_
      exact gq_sub [(4, .int i), (3, .ref ho), (2, .ref hm), (1, .ref hx), (0, .ref bs)] [2, 3, 4, 5, 6] rfl (gq_widen (by omega) (by omega) kk)
set_option maxHeartbeats 4000000 in
theorem lw_divisions {ws ws1 ws2 W1 W1' W2 W2' W3 : va_W} {hx hm ho bs L : Nat} {xs : Nat → Int32} {i : Int32} {r : Int64} {fs1 fs2 : List Value} (hC : Gc p room_1 s m args meth c D (gq_ty cI cJ cZ cO) A 7 cL_law RL lw_tbl ret k n z) (hM1 : Ml l yX10_divisions wsX10_divisions (rmD 6) D (gq_ty cI cJ cZ cO) z [.ref hx] W1 r W1' 0 0) (hv1 : W1[0]? = some (hx, .inr (10, fs1))) (hJ1 : gq_J ws W1 W1' ws1) (hM2 : Ml l yX11_divisions wsX11_divisions (rmD 5) D (gq_ty cI cJ cZ cO) z [.ref hm] W2 r W2' 0 0) (hv2 : W2[0]? = some (hm, .inr (11, fs2))) (hJ2 : gq_J ws1 W2 W2' ws2) (hkb : k + 4 ≤ 601024 ∧ n + 24 ≤ 7293034) (kk : Gx p l e room_1 s m args below meth c D A 7 Q (k + 4) (n + 24) 2643 [(4, .int i), (3, .ref ho), (2, .ref hm), (1, .ref hx), (0, .ref bs)] [] ws2) : Gx p l e room_1 s m args below meth c D A 7 Q k n 1563 [(4, .int i), (3, .ref ho), (2, .ref hm), (1, .ref hx), (0, .ref bs)] [] ws := by
  refine gq_aload_n hC 3 dL_law_1563 rfl rfl ?_
  refine gq_callJl hC hJ1 [] [] hM1 gL_law_X10_divisions rfl ⟨rfl, rfl⟩ hy_X10_divisions ⟨Nat.le_of_ble_eq_true rfl, Nat.le_of_ble_eq_true rfl⟩ (ci := 10) rfl rfl hv1 (Nat.le_of_ble_eq_true rfl) rfl dL_law_1564 rfl ?_
  refine gq_aload_n hC 2 dL_law_1567 rfl rfl ?_
  refine gq_callJl hC hJ2 [] [.long r] hM2 gL_law_X11_divisions rfl ⟨rfl, rfl⟩ hy_X11_divisions ⟨Nat.le_of_ble_eq_true rfl, Nat.le_of_ble_eq_true rfl⟩ (ci := 11) rfl rfl hv2 (Nat.le_of_ble_eq_true rfl) rfl dL_law_1568 rfl ?_
  refine gq_lcmp hC dL_law_1571 ?_
  rw [lg_cmp_self]
  refine gq_if_eq hC 2643 dL_law_1572 (by decide) (fun _ => ?_) (fun h9 => absurd rfl h9)
  exact gq_sub [(4, .int i), (3, .ref ho), (2, .ref hm), (1, .ref hx), (0, .ref bs)] [0, 1, 2, 3, 4] rfl (gq_widen (by omega) (by omega) kk)
set_option maxHeartbeats 4000000 in
theorem lw_worthWith {ws ws1 ws2 W1 W1' W2 W2' W3 : va_W} {hx hm ho bs L : Nat} {xs : Nat → Int32} {i : Int32} {x2 : Int32} {kr : Int32} {r : Int32} {ov : Nat → Int64} {fs1 fs2 fs3 : List Value} {qo : Nat} (hC : Gc p room_1 s m args meth c D (gq_ty cI cJ cZ cO) A 7 cL_law RL lw_tbl ret k n z) (hX : va_X bs L xs s s.heap) (hbl : bs < s.heap.size) (hbA : ¬ A bs) (hi1 : vp_in (i + 1) L) (hi2 : vp_in (i + 2) L) (hx2 : x2 = if xs (i + 2).toNatClampNeg = 0 then 0 else 1) (hM1 : Mi l yL_worthWith wsL_worthWith (rmX 8 2) D (gq_ty cI cJ cZ cO) z [.ref hx, .int (xs (i + 1).toNatClampNeg), .int x2, .ref ho] W1 kr W1' 2 12) (hJ1 : gq_J ws W1 W1' ws1) (hM2 : Mi l yX11_worthWith wsX11_worthWith (rmD 6) D (gq_ty cI cJ cZ cO) z [.ref hm, .int (xs (i + 1).toNatClampNeg), .int x2] W2 r W2' 0 0) (hv2 : W2[0]? = some (hm, .inr (11, fs2))) (hJ2 : gq_J ws1 W2 W2' ws2) (hM3 : Mi l yX11_thrown wsX11_thrown (rmD 0) D (gq_ty cI cJ cZ cO) z [.ref hm] W3 kr W3 0 0) (hv3 : W3[0]? = some (hm, .inr (11, fs3))) (hJ3 : gq_J ws2 W3 W3 ws2) (hqo : ws2[qo]? = some (ho, .inl (cJ, 1, .inr (.inl ov)))) (hov : kr = 0 → ov (0 : Int32).toNatClampNeg = r.toInt64) (hkb : k + 4 ≤ 601024 ∧ n + 24 ≤ 7293034) (kk : Gx p l e room_1 s m args below meth c D A 7 Q (k + 4) (n + 24) 2643 [(4, .int i), (3, .ref ho), (2, .ref hm), (1, .ref hx), (0, .ref bs)] [] ws2) : Gx p l e room_1 s m args below meth c D A 7 Q k n 1577 [(4, .int i), (3, .ref ho), (2, .ref hm), (1, .ref hx), (0, .ref bs)] [] ws := by
  refine gq_aload_n hC 3 dL_law_1577 rfl rfl ?_
  refine gq_aload_n hC 4 dL_law_1578 rfl rfl ?_
  refine gq_iload hC 0 dL_law_1579 rfl ?_
  refine gq_iconst hC 1 dL_law_1581 (by decide) ?_
  refine gq_iadd hC dL_law_1582 ?_
  refine gq_scr hC hX hbl hbA hi1 dL_law_1583 ?_
  refine gq_aload_n hC 4 dL_law_1584 rfl rfl ?_
  refine gq_iload hC 0 dL_law_1585 rfl ?_
  refine gq_iconst hC 2 dL_law_1587 (by decide) ?_
  refine gq_iadd hC dL_law_1588 ?_
  refine gq_scr hC hX hbl hbA hi2 dL_law_1589 ?_
  by_cases h9 : xs (i + 2).toNatClampNeg = 0
  · obtain rfl : x2 = 0 := hx2.trans (if_pos h9)
    refine gq_if_eq hC 1597 dL_law_1590 (by decide) (fun _ => ?_) (fun h8 => absurd h9 h8)
    refine gq_iconst hC 0 dL_law_1597 (by decide) ?_
    refine gq_aload_n hC 1 dL_law_1598 rfl rfl ?_
    refine gq_callSWi hC hJ1 [.ref hx, .int (xs (i + 1).toNatClampNeg), .int 0, .ref ho] [] hM1 gL_law_L_worthWith rfl ⟨rfl, rfl⟩ ⟨(by decide +kernel), (by decide +kernel), (show _ = some 4 from by decide +kernel)⟩ ⟨by show k + 2 ≤ 601024; omega, by show n + 12 ≤ 7293034; omega⟩ ⟨Nat.le_of_ble_eq_true rfl, Nat.le_of_ble_eq_true rfl⟩ (Nat.le_of_ble_eq_true rfl) rfl dL_law_1599 rfl ?_
    have hC := gq_at (k' := k + 2) (n' := n + 12) hC ⟨by show k + 2 ≤ 601024; omega, by show n + 12 ≤ 7293034; omega⟩
    refine gq_istore hC [(5, .int kr), (4, .int i), (3, .ref ho), (2, .ref hm), (1, .ref hx), (0, .ref bs)] dL_law_1602 (by decide) rfl ?_
    refine gq_aload_n hC 3 dL_law_1604 rfl rfl ?_
    refine gq_aload_n hC 5 dL_law_1605 rfl rfl ?_
    refine gq_iload hC 1 dL_law_1606 rfl ?_
    refine gq_iconst hC 1 dL_law_1608 (by decide) ?_
    refine gq_iadd hC dL_law_1609 ?_
    refine gq_scr hC hX hbl hbA hi1 dL_law_1610 ?_
    refine gq_aload_n hC 5 dL_law_1611 rfl rfl ?_
    refine gq_iload hC 1 dL_law_1612 rfl ?_
    refine gq_iconst hC 2 dL_law_1614 (by decide) ?_
    refine gq_iadd hC dL_law_1615 ?_
    refine gq_scr hC hX hbl hbA hi2 dL_law_1616 ?_
    refine gq_if_eq hC 1624 dL_law_1617 (by decide) (fun _ => ?_) (fun h8 => absurd h9 h8)
    refine gq_iconst hC 0 dL_law_1624 (by decide) ?_
    refine gq_callJi hC hJ2 [.int (xs (i + 1).toNatClampNeg), .int 0] [] hM2 gL_law_X11_worthWith rfl ⟨rfl, rfl⟩ hy_X11_worthWith ⟨Nat.le_of_ble_eq_true rfl, Nat.le_of_ble_eq_true rfl⟩ (ci := 11) rfl rfl hv2 (Nat.le_of_ble_eq_true rfl) rfl dL_law_1625 rfl ?_
    refine gq_istore hC [(6, .int r), (5, .int kr), (4, .int i), (3, .ref ho), (2, .ref hm), (1, .ref hx), (0, .ref bs)] dL_law_1628 (by decide) rfl ?_
    refine gq_aload_n hC 4 dL_law_1630 rfl rfl ?_
    refine gq_callJi hC hJ3 [] [] hM3 gL_law_X11_thrown rfl ⟨rfl, rfl⟩ hy_X11_thrown ⟨Nat.le_of_ble_eq_true rfl, Nat.le_of_ble_eq_true rfl⟩ (ci := 11) rfl rfl hv3 (Nat.le_of_ble_eq_true rfl) rfl dL_law_1631 rfl ?_
    refine gq_iload hC 1 dL_law_1634 rfl ?_
    refine gq_icmp_eq hC 1641 dL_law_1636 (by decide) (fun _ => ?_) (fun h9 => absurd rfl h9)
    refine gq_iload hC 1 dL_law_1641 rfl ?_
    refine gq_if_ne hC 1658 dL_law_1643 (by decide) (fun _ => ?_) (fun h0 => ?_)
    · refine gq_goto hC 2643 dL_law_1658 (by decide) ?_
      exact gq_sub [(4, .int i), (3, .ref ho), (2, .ref hm), (1, .ref hx), (0, .ref bs)] [2, 3, 4, 5, 6] rfl (gq_widen (by omega) (by omega) kk)
    · refine gq_aload_n hC 3 dL_law_1646 rfl rfl ?_
      refine gq_iconst hC 0 dL_law_1647 (by decide) ?_
      refine gq_lald hC qo 1 hqo rfl (by unfold vp_in; decide) dL_law_1648 ?_
      rw [hov h0]
      refine gq_iload hC 0 dL_law_1649 rfl ?_
      refine gq_i2l hC dL_law_1651 ?_
      refine gq_lcmp hC dL_law_1652 ?_
      rw [lg_cmp_self]
      refine gq_if_eq hC 1658 dL_law_1653 (by decide) (fun _ => ?_) (fun h9 => absurd rfl h9)
      refine gq_goto hC 2643 dL_law_1658 (by decide) ?_
      exact gq_sub [(4, .int i), (3, .ref ho), (2, .ref hm), (1, .ref hx), (0, .ref bs)] [2, 3, 4, 5, 6] rfl (gq_widen (by omega) (by omega) kk)
  · obtain rfl : x2 = 1 := hx2.trans (if_neg h9)
    refine gq_if_eq hC 1597 dL_law_1590 (by decide) (fun h8 => absurd h8 h9) (fun _ => ?_)
    refine gq_iconst hC 1 dL_law_1593 (by decide) ?_
    refine gq_goto hC 1598 dL_law_1594 (by decide) ?_
    refine gq_aload_n hC 1 dL_law_1598 rfl rfl ?_
    refine gq_callSWi hC hJ1 [.ref hx, .int (xs (i + 1).toNatClampNeg), .int 1, .ref ho] [] hM1 gL_law_L_worthWith rfl ⟨rfl, rfl⟩ ⟨(by decide +kernel), (by decide +kernel), (show _ = some 4 from by decide +kernel)⟩ ⟨by show k + 2 ≤ 601024; omega, by show n + 12 ≤ 7293034; omega⟩ ⟨Nat.le_of_ble_eq_true rfl, Nat.le_of_ble_eq_true rfl⟩ (Nat.le_of_ble_eq_true rfl) rfl dL_law_1599 rfl ?_
    have hC := gq_at (k' := k + 2) (n' := n + 12) hC ⟨by show k + 2 ≤ 601024; omega, by show n + 12 ≤ 7293034; omega⟩
    refine gq_istore hC [(5, .int kr), (4, .int i), (3, .ref ho), (2, .ref hm), (1, .ref hx), (0, .ref bs)] dL_law_1602 (by decide) rfl ?_
    refine gq_aload_n hC 3 dL_law_1604 rfl rfl ?_
    refine gq_aload_n hC 5 dL_law_1605 rfl rfl ?_
    refine gq_iload hC 1 dL_law_1606 rfl ?_
    refine gq_iconst hC 1 dL_law_1608 (by decide) ?_
    refine gq_iadd hC dL_law_1609 ?_
    refine gq_scr hC hX hbl hbA hi1 dL_law_1610 ?_
    refine gq_aload_n hC 5 dL_law_1611 rfl rfl ?_
    refine gq_iload hC 1 dL_law_1612 rfl ?_
    refine gq_iconst hC 2 dL_law_1614 (by decide) ?_
    refine gq_iadd hC dL_law_1615 ?_
    refine gq_scr hC hX hbl hbA hi2 dL_law_1616 ?_
    refine gq_if_eq hC 1624 dL_law_1617 (by decide) (fun h8 => absurd h8 h9) (fun _ => ?_)
    refine gq_iconst hC 1 dL_law_1620 (by decide) ?_
    refine gq_goto hC 1625 dL_law_1621 (by decide) ?_
    refine gq_callJi hC hJ2 [.int (xs (i + 1).toNatClampNeg), .int 1] [] hM2 gL_law_X11_worthWith rfl ⟨rfl, rfl⟩ hy_X11_worthWith ⟨Nat.le_of_ble_eq_true rfl, Nat.le_of_ble_eq_true rfl⟩ (ci := 11) rfl rfl hv2 (Nat.le_of_ble_eq_true rfl) rfl dL_law_1625 rfl ?_
    refine gq_istore hC [(6, .int r), (5, .int kr), (4, .int i), (3, .ref ho), (2, .ref hm), (1, .ref hx), (0, .ref bs)] dL_law_1628 (by decide) rfl ?_
    refine gq_aload_n hC 4 dL_law_1630 rfl rfl ?_
    refine gq_callJi hC hJ3 [] [] hM3 gL_law_X11_thrown rfl ⟨rfl, rfl⟩ hy_X11_thrown ⟨Nat.le_of_ble_eq_true rfl, Nat.le_of_ble_eq_true rfl⟩ (ci := 11) rfl rfl hv3 (Nat.le_of_ble_eq_true rfl) rfl dL_law_1631 rfl ?_
    refine gq_iload hC 1 dL_law_1634 rfl ?_
    refine gq_icmp_eq hC 1641 dL_law_1636 (by decide) (fun _ => ?_) (fun h9 => absurd rfl h9)
    refine gq_iload hC 1 dL_law_1641 rfl ?_
    refine gq_if_ne hC 1658 dL_law_1643 (by decide) (fun _ => ?_) (fun h0 => ?_)
    · refine gq_goto hC 2643 dL_law_1658 (by decide) ?_
      exact gq_sub [(4, .int i), (3, .ref ho), (2, .ref hm), (1, .ref hx), (0, .ref bs)] [2, 3, 4, 5, 6] rfl (gq_widen (by omega) (by omega) kk)
    · refine gq_aload_n hC 3 dL_law_1646 rfl rfl ?_
      refine gq_iconst hC 0 dL_law_1647 (by decide) ?_
      refine gq_lald hC qo 1 hqo rfl (by unfold vp_in; decide) dL_law_1648 ?_
      rw [hov h0]
      refine gq_iload hC 0 dL_law_1649 rfl ?_
      refine gq_i2l hC dL_law_1651 ?_
      refine gq_lcmp hC dL_law_1652 ?_
      rw [lg_cmp_self]
      refine gq_if_eq hC 1658 dL_law_1653 (by decide) (fun _ => ?_) (fun h9 => absurd rfl h9)
      refine gq_goto hC 2643 dL_law_1658 (by decide) ?_
      exact gq_sub [(4, .int i), (3, .ref ho), (2, .ref hm), (1, .ref hx), (0, .ref bs)] [2, 3, 4, 5, 6] rfl (gq_widen (by omega) (by omega) kk)
set_option maxHeartbeats 4000000 in
theorem lw_priceFor {ws ws1 ws2 W1 W1' W2 W2' W3 : va_W} {hx hm ho bs L : Nat} {xs : Nat → Int32} {i : Int32} {kr : Int32} {r : Int32} {ov : Nat → Int64} {fs1 fs2 fs3 : List Value} {qo : Nat} (hC : Gc p room_1 s m args meth c D (gq_ty cI cJ cZ cO) A 7 cL_law RL lw_tbl ret k n z) (hX : va_X bs L xs s s.heap) (hbl : bs < s.heap.size) (hbA : ¬ A bs) (hi1 : vp_in (i + 1) L) (hM1 : Mi l yL_priceFor wsL_priceFor (rmX 8 2) D (gq_ty cI cJ cZ cO) z [.ref hx, .int (xs (i + 1).toNatClampNeg), .ref ho] W1 kr W1' 2 12) (hJ1 : gq_J ws W1 W1' ws1) (hM2 : Mi l yX11_priceFor wsX11_priceFor (rmD 6) D (gq_ty cI cJ cZ cO) z [.ref hm, .int (xs (i + 1).toNatClampNeg)] W2 r W2' 0 0) (hv2 : W2[0]? = some (hm, .inr (11, fs2))) (hJ2 : gq_J ws1 W2 W2' ws2) (hM3 : Mi l yX11_thrown wsX11_thrown (rmD 0) D (gq_ty cI cJ cZ cO) z [.ref hm] W3 kr W3 0 0) (hv3 : W3[0]? = some (hm, .inr (11, fs3))) (hJ3 : gq_J ws2 W3 W3 ws2) (hqo : ws2[qo]? = some (ho, .inl (cJ, 1, .inr (.inl ov)))) (hov : kr = 0 → ov (0 : Int32).toNatClampNeg = r.toInt64) (hkb : k + 4 ≤ 601024 ∧ n + 24 ≤ 7293034) (kk : Gx p l e room_1 s m args below meth c D A 7 Q (k + 4) (n + 24) 2643 [(4, .int i), (3, .ref ho), (2, .ref hm), (1, .ref hx), (0, .ref bs)] [] ws2) : Gx p l e room_1 s m args below meth c D A 7 Q k n 1661 [(4, .int i), (3, .ref ho), (2, .ref hm), (1, .ref hx), (0, .ref bs)] [] ws := by
  refine gq_aload_n hC 3 dL_law_1661 rfl rfl ?_
  refine gq_aload_n hC 4 dL_law_1662 rfl rfl ?_
  refine gq_iload hC 0 dL_law_1663 rfl ?_
  refine gq_iconst hC 1 dL_law_1665 (by decide) ?_
  refine gq_iadd hC dL_law_1666 ?_
  refine gq_scr hC hX hbl hbA hi1 dL_law_1667 ?_
  refine gq_aload_n hC 1 dL_law_1668 rfl rfl ?_
  refine gq_callSWi hC hJ1 [.ref hx, .int (xs (i + 1).toNatClampNeg), .ref ho] [] hM1 gL_law_L_priceFor rfl ⟨rfl, rfl⟩ ⟨(by decide +kernel), (by decide +kernel), (show _ = some 3 from by decide +kernel)⟩ ⟨by show k + 2 ≤ 601024; omega, by show n + 12 ≤ 7293034; omega⟩ ⟨Nat.le_of_ble_eq_true rfl, Nat.le_of_ble_eq_true rfl⟩ (Nat.le_of_ble_eq_true rfl) rfl dL_law_1669 rfl ?_
  have hC := gq_at (k' := k + 2) (n' := n + 12) hC ⟨by show k + 2 ≤ 601024; omega, by show n + 12 ≤ 7293034; omega⟩
  refine gq_istore hC [(5, .int kr), (4, .int i), (3, .ref ho), (2, .ref hm), (1, .ref hx), (0, .ref bs)] dL_law_1672 (by decide) rfl ?_
  refine gq_aload_n hC 3 dL_law_1674 rfl rfl ?_
  refine gq_aload_n hC 5 dL_law_1675 rfl rfl ?_
  refine gq_iload hC 1 dL_law_1676 rfl ?_
  refine gq_iconst hC 1 dL_law_1678 (by decide) ?_
  refine gq_iadd hC dL_law_1679 ?_
  refine gq_scr hC hX hbl hbA hi1 dL_law_1680 ?_
  refine gq_callJi hC hJ2 [.int (xs (i + 1).toNatClampNeg)] [] hM2 gL_law_X11_priceFor rfl ⟨rfl, rfl⟩ hy_X11_priceFor ⟨Nat.le_of_ble_eq_true rfl, Nat.le_of_ble_eq_true rfl⟩ (ci := 11) rfl rfl hv2 (Nat.le_of_ble_eq_true rfl) rfl dL_law_1681 rfl ?_
  refine gq_istore hC [(6, .int r), (5, .int kr), (4, .int i), (3, .ref ho), (2, .ref hm), (1, .ref hx), (0, .ref bs)] dL_law_1684 (by decide) rfl ?_
  refine gq_aload_n hC 4 dL_law_1686 rfl rfl ?_
  refine gq_callJi hC hJ3 [] [] hM3 gL_law_X11_thrown rfl ⟨rfl, rfl⟩ hy_X11_thrown ⟨Nat.le_of_ble_eq_true rfl, Nat.le_of_ble_eq_true rfl⟩ (ci := 11) rfl rfl hv3 (Nat.le_of_ble_eq_true rfl) rfl dL_law_1687 rfl ?_
  refine gq_iload hC 1 dL_law_1690 rfl ?_
  refine gq_icmp_eq hC 1697 dL_law_1692 (by decide) (fun _ => ?_) (fun h9 => absurd rfl h9)
  refine gq_iload hC 1 dL_law_1697 rfl ?_
  refine gq_if_ne hC 1714 dL_law_1699 (by decide) (fun _ => ?_) (fun h0 => ?_)
  · refine gq_goto hC 2643 dL_law_1714 (by decide) ?_
    exact gq_sub [(4, .int i), (3, .ref ho), (2, .ref hm), (1, .ref hx), (0, .ref bs)] [2, 3, 4, 5, 6] rfl (gq_widen (by omega) (by omega) kk)
  · refine gq_aload_n hC 3 dL_law_1702 rfl rfl ?_
    refine gq_iconst hC 0 dL_law_1703 (by decide) ?_
    refine gq_lald hC qo 1 hqo rfl (by unfold vp_in; decide) dL_law_1704 ?_
    rw [hov h0]
    refine gq_iload hC 0 dL_law_1705 rfl ?_
    refine gq_i2l hC dL_law_1707 ?_
    refine gq_lcmp hC dL_law_1708 ?_
    rw [lg_cmp_self]
    refine gq_if_eq hC 1714 dL_law_1709 (by decide) (fun _ => ?_) (fun h9 => absurd rfl h9)
    refine gq_goto hC 2643 dL_law_1714 (by decide) ?_
    exact gq_sub [(4, .int i), (3, .ref ho), (2, .ref hm), (1, .ref hx), (0, .ref bs)] [2, 3, 4, 5, 6] rfl (gq_widen (by omega) (by omega) kk)
set_option maxHeartbeats 4000000 in
theorem lw_chaptersWith {ws ws1 ws2 W1 W1' W2 W2' W3 : va_W} {hx hm ho bs L : Nat} {xs : Nat → Int32} {i : Int32} {kr : Int32} {r : Int32} {ov : Nat → Int64} {fs1 fs2 fs3 : List Value} {qo : Nat} (hC : Gc p room_1 s m args meth c D (gq_ty cI cJ cZ cO) A 7 cL_law RL lw_tbl ret k n z) (hX : va_X bs L xs s s.heap) (hbl : bs < s.heap.size) (hbA : ¬ A bs) (hi1 : vp_in (i + 1) L) (hM1 : Mi l yL_chaptersWith wsL_chaptersWith (rmX 8 2) D (gq_ty cI cJ cZ cO) z [.ref hx, .int (xs (i + 1).toNatClampNeg), .ref ho] W1 kr W1' 2 12) (hJ1 : gq_J ws W1 W1' ws1) (hM2 : Mi l yX11_chaptersWith wsX11_chaptersWith (rmD 6) D (gq_ty cI cJ cZ cO) z [.ref hm, .int (xs (i + 1).toNatClampNeg)] W2 r W2' 0 0) (hv2 : W2[0]? = some (hm, .inr (11, fs2))) (hJ2 : gq_J ws1 W2 W2' ws2) (hM3 : Mi l yX11_thrown wsX11_thrown (rmD 0) D (gq_ty cI cJ cZ cO) z [.ref hm] W3 kr W3 0 0) (hv3 : W3[0]? = some (hm, .inr (11, fs3))) (hJ3 : gq_J ws2 W3 W3 ws2) (hqo : ws2[qo]? = some (ho, .inl (cJ, 1, .inr (.inl ov)))) (hov : kr = 0 → ov (0 : Int32).toNatClampNeg = r.toInt64) (hkb : k + 4 ≤ 601024 ∧ n + 24 ≤ 7293034) (kk : Gx p l e room_1 s m args below meth c D A 7 Q (k + 4) (n + 24) 2643 [(4, .int i), (3, .ref ho), (2, .ref hm), (1, .ref hx), (0, .ref bs)] [] ws2) : Gx p l e room_1 s m args below meth c D A 7 Q k n 1717 [(4, .int i), (3, .ref ho), (2, .ref hm), (1, .ref hx), (0, .ref bs)] [] ws := by
  refine gq_aload_n hC 3 dL_law_1717 rfl rfl ?_
  refine gq_aload_n hC 4 dL_law_1718 rfl rfl ?_
  refine gq_iload hC 0 dL_law_1719 rfl ?_
  refine gq_iconst hC 1 dL_law_1721 (by decide) ?_
  refine gq_iadd hC dL_law_1722 ?_
  refine gq_scr hC hX hbl hbA hi1 dL_law_1723 ?_
  refine gq_aload_n hC 1 dL_law_1724 rfl rfl ?_
  refine gq_callSWi hC hJ1 [.ref hx, .int (xs (i + 1).toNatClampNeg), .ref ho] [] hM1 gL_law_L_chaptersWith rfl ⟨rfl, rfl⟩ ⟨(by decide +kernel), (by decide +kernel), (show _ = some 3 from by decide +kernel)⟩ ⟨by show k + 2 ≤ 601024; omega, by show n + 12 ≤ 7293034; omega⟩ ⟨Nat.le_of_ble_eq_true rfl, Nat.le_of_ble_eq_true rfl⟩ (Nat.le_of_ble_eq_true rfl) rfl dL_law_1725 rfl ?_
  have hC := gq_at (k' := k + 2) (n' := n + 12) hC ⟨by show k + 2 ≤ 601024; omega, by show n + 12 ≤ 7293034; omega⟩
  refine gq_istore hC [(5, .int kr), (4, .int i), (3, .ref ho), (2, .ref hm), (1, .ref hx), (0, .ref bs)] dL_law_1728 (by decide) rfl ?_
  refine gq_aload_n hC 3 dL_law_1730 rfl rfl ?_
  refine gq_aload_n hC 5 dL_law_1731 rfl rfl ?_
  refine gq_iload hC 1 dL_law_1732 rfl ?_
  refine gq_iconst hC 1 dL_law_1734 (by decide) ?_
  refine gq_iadd hC dL_law_1735 ?_
  refine gq_scr hC hX hbl hbA hi1 dL_law_1736 ?_
  refine gq_callJi hC hJ2 [.int (xs (i + 1).toNatClampNeg)] [] hM2 gL_law_X11_chaptersWith rfl ⟨rfl, rfl⟩ hy_X11_chaptersWith ⟨Nat.le_of_ble_eq_true rfl, Nat.le_of_ble_eq_true rfl⟩ (ci := 11) rfl rfl hv2 (Nat.le_of_ble_eq_true rfl) rfl dL_law_1737 rfl ?_
  refine gq_istore hC [(6, .int r), (5, .int kr), (4, .int i), (3, .ref ho), (2, .ref hm), (1, .ref hx), (0, .ref bs)] dL_law_1740 (by decide) rfl ?_
  refine gq_aload_n hC 4 dL_law_1742 rfl rfl ?_
  refine gq_callJi hC hJ3 [] [] hM3 gL_law_X11_thrown rfl ⟨rfl, rfl⟩ hy_X11_thrown ⟨Nat.le_of_ble_eq_true rfl, Nat.le_of_ble_eq_true rfl⟩ (ci := 11) rfl rfl hv3 (Nat.le_of_ble_eq_true rfl) rfl dL_law_1743 rfl ?_
  refine gq_iload hC 1 dL_law_1746 rfl ?_
  refine gq_icmp_eq hC 1753 dL_law_1748 (by decide) (fun _ => ?_) (fun h9 => absurd rfl h9)
  refine gq_iload hC 1 dL_law_1753 rfl ?_
  refine gq_if_ne hC 1770 dL_law_1755 (by decide) (fun _ => ?_) (fun h0 => ?_)
  · refine gq_goto hC 2643 dL_law_1770 (by decide) ?_
    exact gq_sub [(4, .int i), (3, .ref ho), (2, .ref hm), (1, .ref hx), (0, .ref bs)] [2, 3, 4, 5, 6] rfl (gq_widen (by omega) (by omega) kk)
  · refine gq_aload_n hC 3 dL_law_1758 rfl rfl ?_
    refine gq_iconst hC 0 dL_law_1759 (by decide) ?_
    refine gq_lald hC qo 1 hqo rfl (by unfold vp_in; decide) dL_law_1760 ?_
    rw [hov h0]
    refine gq_iload hC 0 dL_law_1761 rfl ?_
    refine gq_i2l hC dL_law_1763 ?_
    refine gq_lcmp hC dL_law_1764 ?_
    rw [lg_cmp_self]
    refine gq_if_eq hC 1770 dL_law_1765 (by decide) (fun _ => ?_) (fun h9 => absurd rfl h9)
    refine gq_goto hC 2643 dL_law_1770 (by decide) ?_
    exact gq_sub [(4, .int i), (3, .ref ho), (2, .ref hm), (1, .ref hx), (0, .ref bs)] [2, 3, 4, 5, 6] rfl (gq_widen (by omega) (by omega) kk)
set_option maxHeartbeats 4000000 in
theorem lw_typical {ws ws1 ws2 W1 W1' W2 W2' W3 : va_W} {hx hm ho bs L : Nat} {xs : Nat → Int32} {i : Int32} {kr : Int32} {r : Int32} {ov : Nat → Int64} {fs1 fs2 fs3 : List Value} {qo : Nat} (hC : Gc p room_1 s m args meth c D (gq_ty cI cJ cZ cO) A 7 cL_law RL lw_tbl ret k n z) (hX : va_X bs L xs s s.heap) (hbl : bs < s.heap.size) (hbA : ¬ A bs) (hi1 : vp_in (i + 1) L) (hM1 : Mi l yL_typical wsL_typical (rmX 8 2) D (gq_ty cI cJ cZ cO) z [.ref hx, .int (xs (i + 1).toNatClampNeg), .ref ho] W1 kr W1' 2 12) (hJ1 : gq_J ws W1 W1' ws1) (hM2 : Mi l yX11_typical wsX11_typical (rmD 7) D (gq_ty cI cJ cZ cO) z [.ref hm, .int (xs (i + 1).toNatClampNeg)] W2 r W2' 0 0) (hv2 : W2[0]? = some (hm, .inr (11, fs2))) (hJ2 : gq_J ws1 W2 W2' ws2) (hM3 : Mi l yX11_thrown wsX11_thrown (rmD 0) D (gq_ty cI cJ cZ cO) z [.ref hm] W3 kr W3 0 0) (hv3 : W3[0]? = some (hm, .inr (11, fs3))) (hJ3 : gq_J ws2 W3 W3 ws2) (hqo : ws2[qo]? = some (ho, .inl (cJ, 1, .inr (.inl ov)))) (hov : kr = 0 → ov (0 : Int32).toNatClampNeg = r.toInt64) (hkb : k + 4 ≤ 601024 ∧ n + 24 ≤ 7293034) (kk : Gx p l e room_1 s m args below meth c D A 7 Q (k + 4) (n + 24) 2643 [(4, .int i), (3, .ref ho), (2, .ref hm), (1, .ref hx), (0, .ref bs)] [] ws2) : Gx p l e room_1 s m args below meth c D A 7 Q k n 1773 [(4, .int i), (3, .ref ho), (2, .ref hm), (1, .ref hx), (0, .ref bs)] [] ws := by
  refine gq_aload_n hC 3 dL_law_1773 rfl rfl ?_
  refine gq_aload_n hC 4 dL_law_1774 rfl rfl ?_
  refine gq_iload hC 0 dL_law_1775 rfl ?_
  refine gq_iconst hC 1 dL_law_1777 (by decide) ?_
  refine gq_iadd hC dL_law_1778 ?_
  refine gq_scr hC hX hbl hbA hi1 dL_law_1779 ?_
  refine gq_aload_n hC 1 dL_law_1780 rfl rfl ?_
  refine gq_callSWi hC hJ1 [.ref hx, .int (xs (i + 1).toNatClampNeg), .ref ho] [] hM1 gL_law_L_typical rfl ⟨rfl, rfl⟩ ⟨(by decide +kernel), (by decide +kernel), (show _ = some 3 from by decide +kernel)⟩ ⟨by show k + 2 ≤ 601024; omega, by show n + 12 ≤ 7293034; omega⟩ ⟨Nat.le_of_ble_eq_true rfl, Nat.le_of_ble_eq_true rfl⟩ (Nat.le_of_ble_eq_true rfl) rfl dL_law_1781 rfl ?_
  have hC := gq_at (k' := k + 2) (n' := n + 12) hC ⟨by show k + 2 ≤ 601024; omega, by show n + 12 ≤ 7293034; omega⟩
  refine gq_istore hC [(5, .int kr), (4, .int i), (3, .ref ho), (2, .ref hm), (1, .ref hx), (0, .ref bs)] dL_law_1784 (by decide) rfl ?_
  refine gq_aload_n hC 3 dL_law_1786 rfl rfl ?_
  refine gq_aload_n hC 5 dL_law_1787 rfl rfl ?_
  refine gq_iload hC 1 dL_law_1788 rfl ?_
  refine gq_iconst hC 1 dL_law_1790 (by decide) ?_
  refine gq_iadd hC dL_law_1791 ?_
  refine gq_scr hC hX hbl hbA hi1 dL_law_1792 ?_
  refine gq_callJi hC hJ2 [.int (xs (i + 1).toNatClampNeg)] [] hM2 gL_law_X11_typical rfl ⟨rfl, rfl⟩ hy_X11_typical ⟨Nat.le_of_ble_eq_true rfl, Nat.le_of_ble_eq_true rfl⟩ (ci := 11) rfl rfl hv2 (Nat.le_of_ble_eq_true rfl) rfl dL_law_1793 rfl ?_
  refine gq_istore hC [(6, .int r), (5, .int kr), (4, .int i), (3, .ref ho), (2, .ref hm), (1, .ref hx), (0, .ref bs)] dL_law_1796 (by decide) rfl ?_
  refine gq_aload_n hC 4 dL_law_1798 rfl rfl ?_
  refine gq_callJi hC hJ3 [] [] hM3 gL_law_X11_thrown rfl ⟨rfl, rfl⟩ hy_X11_thrown ⟨Nat.le_of_ble_eq_true rfl, Nat.le_of_ble_eq_true rfl⟩ (ci := 11) rfl rfl hv3 (Nat.le_of_ble_eq_true rfl) rfl dL_law_1799 rfl ?_
  refine gq_iload hC 1 dL_law_1802 rfl ?_
  refine gq_icmp_eq hC 1809 dL_law_1804 (by decide) (fun _ => ?_) (fun h9 => absurd rfl h9)
  refine gq_iload hC 1 dL_law_1809 rfl ?_
  refine gq_if_ne hC 1826 dL_law_1811 (by decide) (fun _ => ?_) (fun h0 => ?_)
  · refine gq_goto hC 2643 dL_law_1826 (by decide) ?_
    exact gq_sub [(4, .int i), (3, .ref ho), (2, .ref hm), (1, .ref hx), (0, .ref bs)] [2, 3, 4, 5, 6] rfl (gq_widen (by omega) (by omega) kk)
  · refine gq_aload_n hC 3 dL_law_1814 rfl rfl ?_
    refine gq_iconst hC 0 dL_law_1815 (by decide) ?_
    refine gq_lald hC qo 1 hqo rfl (by unfold vp_in; decide) dL_law_1816 ?_
    rw [hov h0]
    refine gq_iload hC 0 dL_law_1817 rfl ?_
    refine gq_i2l hC dL_law_1819 ?_
    refine gq_lcmp hC dL_law_1820 ?_
    rw [lg_cmp_self]
    refine gq_if_eq hC 1826 dL_law_1821 (by decide) (fun _ => ?_) (fun h9 => absurd rfl h9)
    refine gq_goto hC 2643 dL_law_1826 (by decide) ?_
    exact gq_sub [(4, .int i), (3, .ref ho), (2, .ref hm), (1, .ref hx), (0, .ref bs)] [2, 3, 4, 5, 6] rfl (gq_widen (by omega) (by omega) kk)
set_option maxHeartbeats 4000000 in
theorem lw_likeness {ws ws1 ws2 W1 W1' W2 W2' W3 : va_W} {hx hm ho bs L : Nat} {xs : Nat → Int32} {i : Int32} {kr : Int32} {r : Int32} {ov : Nat → Int64} {fs1 fs2 fs3 : List Value} {qo : Nat} (hC : Gc p room_1 s m args meth c D (gq_ty cI cJ cZ cO) A 7 cL_law RL lw_tbl ret k n z) (hX : va_X bs L xs s s.heap) (hbl : bs < s.heap.size) (hbA : ¬ A bs) (hi1 : vp_in (i + 1) L) (hi2 : vp_in (i + 2) L) (hM1 : Mi l yL_likeness wsL_likeness (rmX 8 3) D (gq_ty cI cJ cZ cO) z [.ref hx, .int (xs (i + 1).toNatClampNeg), .int (xs (i + 2).toNatClampNeg), .ref ho] W1 kr W1' 3 18) (hJ1 : gq_J ws W1 W1' ws1) (hM2 : Mi l yX11_likeness wsX11_likeness (rmD 7) D (gq_ty cI cJ cZ cO) z [.ref hm, .int (xs (i + 1).toNatClampNeg), .int (xs (i + 2).toNatClampNeg)] W2 r W2' 0 0) (hv2 : W2[0]? = some (hm, .inr (11, fs2))) (hJ2 : gq_J ws1 W2 W2' ws2) (hM3 : Mi l yX11_thrown wsX11_thrown (rmD 0) D (gq_ty cI cJ cZ cO) z [.ref hm] W3 kr W3 0 0) (hv3 : W3[0]? = some (hm, .inr (11, fs3))) (hJ3 : gq_J ws2 W3 W3 ws2) (hqo : ws2[qo]? = some (ho, .inl (cJ, 1, .inr (.inl ov)))) (hov : kr = 0 → ov (0 : Int32).toNatClampNeg = r.toInt64) (hkb : k + 4 ≤ 601024 ∧ n + 24 ≤ 7293034) (kk : Gx p l e room_1 s m args below meth c D A 7 Q (k + 4) (n + 24) 2643 [(4, .int i), (3, .ref ho), (2, .ref hm), (1, .ref hx), (0, .ref bs)] [] ws2) : Gx p l e room_1 s m args below meth c D A 7 Q k n 1829 [(4, .int i), (3, .ref ho), (2, .ref hm), (1, .ref hx), (0, .ref bs)] [] ws := by
  refine gq_aload_n hC 3 dL_law_1829 rfl rfl ?_
  refine gq_aload_n hC 4 dL_law_1830 rfl rfl ?_
  refine gq_iload hC 0 dL_law_1831 rfl ?_
  refine gq_iconst hC 1 dL_law_1833 (by decide) ?_
  refine gq_iadd hC dL_law_1834 ?_
  refine gq_scr hC hX hbl hbA hi1 dL_law_1835 ?_
  refine gq_aload_n hC 4 dL_law_1836 rfl rfl ?_
  refine gq_iload hC 0 dL_law_1837 rfl ?_
  refine gq_iconst hC 2 dL_law_1839 (by decide) ?_
  refine gq_iadd hC dL_law_1840 ?_
  refine gq_scr hC hX hbl hbA hi2 dL_law_1841 ?_
  refine gq_aload_n hC 1 dL_law_1842 rfl rfl ?_
  refine gq_callSWi hC hJ1 [.ref hx, .int (xs (i + 1).toNatClampNeg), .int (xs (i + 2).toNatClampNeg), .ref ho] [] hM1 gL_law_L_likeness rfl ⟨rfl, rfl⟩ ⟨(by decide +kernel), (by decide +kernel), (show _ = some 4 from by decide +kernel)⟩ ⟨by show k + 3 ≤ 601024; omega, by show n + 18 ≤ 7293034; omega⟩ ⟨Nat.le_of_ble_eq_true rfl, Nat.le_of_ble_eq_true rfl⟩ (Nat.le_of_ble_eq_true rfl) rfl dL_law_1843 rfl ?_
  have hC := gq_at (k' := k + 3) (n' := n + 18) hC ⟨by show k + 3 ≤ 601024; omega, by show n + 18 ≤ 7293034; omega⟩
  refine gq_istore hC [(5, .int kr), (4, .int i), (3, .ref ho), (2, .ref hm), (1, .ref hx), (0, .ref bs)] dL_law_1846 (by decide) rfl ?_
  refine gq_aload_n hC 3 dL_law_1848 rfl rfl ?_
  refine gq_aload_n hC 5 dL_law_1849 rfl rfl ?_
  refine gq_iload hC 1 dL_law_1850 rfl ?_
  refine gq_iconst hC 1 dL_law_1852 (by decide) ?_
  refine gq_iadd hC dL_law_1853 ?_
  refine gq_scr hC hX hbl hbA hi1 dL_law_1854 ?_
  refine gq_aload_n hC 5 dL_law_1855 rfl rfl ?_
  refine gq_iload hC 1 dL_law_1856 rfl ?_
  refine gq_iconst hC 2 dL_law_1858 (by decide) ?_
  refine gq_iadd hC dL_law_1859 ?_
  refine gq_scr hC hX hbl hbA hi2 dL_law_1860 ?_
  refine gq_callJi hC hJ2 [.int (xs (i + 1).toNatClampNeg), .int (xs (i + 2).toNatClampNeg)] [] hM2 gL_law_X11_likeness rfl ⟨rfl, rfl⟩ hy_X11_likeness ⟨Nat.le_of_ble_eq_true rfl, Nat.le_of_ble_eq_true rfl⟩ (ci := 11) rfl rfl hv2 (Nat.le_of_ble_eq_true rfl) rfl dL_law_1861 rfl ?_
  refine gq_istore hC [(6, .int r), (5, .int kr), (4, .int i), (3, .ref ho), (2, .ref hm), (1, .ref hx), (0, .ref bs)] dL_law_1864 (by decide) rfl ?_
  refine gq_aload_n hC 4 dL_law_1866 rfl rfl ?_
  refine gq_callJi hC hJ3 [] [] hM3 gL_law_X11_thrown rfl ⟨rfl, rfl⟩ hy_X11_thrown ⟨Nat.le_of_ble_eq_true rfl, Nat.le_of_ble_eq_true rfl⟩ (ci := 11) rfl rfl hv3 (Nat.le_of_ble_eq_true rfl) rfl dL_law_1867 rfl ?_
  refine gq_iload hC 1 dL_law_1870 rfl ?_
  refine gq_icmp_eq hC 1877 dL_law_1872 (by decide) (fun _ => ?_) (fun h9 => absurd rfl h9)
  refine gq_iload hC 1 dL_law_1877 rfl ?_
  refine gq_if_ne hC 1894 dL_law_1879 (by decide) (fun _ => ?_) (fun h0 => ?_)
  · refine gq_goto hC 2643 dL_law_1894 (by decide) ?_
    exact gq_sub [(4, .int i), (3, .ref ho), (2, .ref hm), (1, .ref hx), (0, .ref bs)] [2, 3, 4, 5, 6] rfl (gq_widen (by omega) (by omega) kk)
  · refine gq_aload_n hC 3 dL_law_1882 rfl rfl ?_
    refine gq_iconst hC 0 dL_law_1883 (by decide) ?_
    refine gq_lald hC qo 1 hqo rfl (by unfold vp_in; decide) dL_law_1884 ?_
    rw [hov h0]
    refine gq_iload hC 0 dL_law_1885 rfl ?_
    refine gq_i2l hC dL_law_1887 ?_
    refine gq_lcmp hC dL_law_1888 ?_
    rw [lg_cmp_self]
    refine gq_if_eq hC 1894 dL_law_1889 (by decide) (fun _ => ?_) (fun h9 => absurd rfl h9)
    refine gq_goto hC 2643 dL_law_1894 (by decide) ?_
    exact gq_sub [(4, .int i), (3, .ref ho), (2, .ref hm), (1, .ref hx), (0, .ref bs)] [2, 3, 4, 5, 6] rfl (gq_widen (by omega) (by omega) kk)
set_option maxHeartbeats 4000000 in
theorem lw_mark {ws ws1 ws2 W1 W1' W2 W2' W3 : va_W} {hx hm ho bs L : Nat} {xs : Nat → Int32} {i : Int32} {kr : Int32} {r : Int32} {ov : Nat → Int64} {fs1 fs2 fs3 : List Value} {qo : Nat} (hC : Gc p room_1 s m args meth c D (gq_ty cI cJ cZ cO) A 7 cL_law RL lw_tbl ret k n z) (hX : va_X bs L xs s s.heap) (hbl : bs < s.heap.size) (hbA : ¬ A bs) (hi1 : vp_in (i + 1) L) (hi2 : vp_in (i + 2) L) (hM1 : Mi l yL_mark wsL_mark (rmX 8 3) D (gq_ty cI cJ cZ cO) z [.ref hx, .int (xs (i + 1).toNatClampNeg), .int (xs (i + 2).toNatClampNeg), .ref ho] W1 kr W1' 3 18) (hJ1 : gq_J ws W1 W1' ws1) (hM2 : Mi l yX11_mark wsX11_mark (rmD 7) D (gq_ty cI cJ cZ cO) z [.ref hm, .int (xs (i + 1).toNatClampNeg), .int (xs (i + 2).toNatClampNeg)] W2 r W2' 0 0) (hv2 : W2[0]? = some (hm, .inr (11, fs2))) (hJ2 : gq_J ws1 W2 W2' ws2) (hM3 : Mi l yX11_thrown wsX11_thrown (rmD 0) D (gq_ty cI cJ cZ cO) z [.ref hm] W3 kr W3 0 0) (hv3 : W3[0]? = some (hm, .inr (11, fs3))) (hJ3 : gq_J ws2 W3 W3 ws2) (hqo : ws2[qo]? = some (ho, .inl (cJ, 1, .inr (.inl ov)))) (hov : kr = 0 → ov (0 : Int32).toNatClampNeg = r.toInt64) (hkb : k + 4 ≤ 601024 ∧ n + 24 ≤ 7293034) (kk : Gx p l e room_1 s m args below meth c D A 7 Q (k + 4) (n + 24) 2643 [(4, .int i), (3, .ref ho), (2, .ref hm), (1, .ref hx), (0, .ref bs)] [] ws2) : Gx p l e room_1 s m args below meth c D A 7 Q k n 1897 [(4, .int i), (3, .ref ho), (2, .ref hm), (1, .ref hx), (0, .ref bs)] [] ws := by
  refine gq_aload_n hC 3 dL_law_1897 rfl rfl ?_
  refine gq_aload_n hC 4 dL_law_1898 rfl rfl ?_
  refine gq_iload hC 0 dL_law_1899 rfl ?_
  refine gq_iconst hC 1 dL_law_1901 (by decide) ?_
  refine gq_iadd hC dL_law_1902 ?_
  refine gq_scr hC hX hbl hbA hi1 dL_law_1903 ?_
  refine gq_aload_n hC 4 dL_law_1904 rfl rfl ?_
  refine gq_iload hC 0 dL_law_1905 rfl ?_
  refine gq_iconst hC 2 dL_law_1907 (by decide) ?_
  refine gq_iadd hC dL_law_1908 ?_
  refine gq_scr hC hX hbl hbA hi2 dL_law_1909 ?_
  refine gq_aload_n hC 1 dL_law_1910 rfl rfl ?_
  refine gq_callSWi hC hJ1 [.ref hx, .int (xs (i + 1).toNatClampNeg), .int (xs (i + 2).toNatClampNeg), .ref ho] [] hM1 gL_law_L_mark rfl ⟨rfl, rfl⟩ ⟨(by decide +kernel), (by decide +kernel), (show _ = some 4 from by decide +kernel)⟩ ⟨by show k + 3 ≤ 601024; omega, by show n + 18 ≤ 7293034; omega⟩ ⟨Nat.le_of_ble_eq_true rfl, Nat.le_of_ble_eq_true rfl⟩ (Nat.le_of_ble_eq_true rfl) rfl dL_law_1911 rfl ?_
  have hC := gq_at (k' := k + 3) (n' := n + 18) hC ⟨by show k + 3 ≤ 601024; omega, by show n + 18 ≤ 7293034; omega⟩
  refine gq_istore hC [(5, .int kr), (4, .int i), (3, .ref ho), (2, .ref hm), (1, .ref hx), (0, .ref bs)] dL_law_1914 (by decide) rfl ?_
  refine gq_aload_n hC 3 dL_law_1916 rfl rfl ?_
  refine gq_aload_n hC 5 dL_law_1917 rfl rfl ?_
  refine gq_iload hC 1 dL_law_1918 rfl ?_
  refine gq_iconst hC 1 dL_law_1920 (by decide) ?_
  refine gq_iadd hC dL_law_1921 ?_
  refine gq_scr hC hX hbl hbA hi1 dL_law_1922 ?_
  refine gq_aload_n hC 5 dL_law_1923 rfl rfl ?_
  refine gq_iload hC 1 dL_law_1924 rfl ?_
  refine gq_iconst hC 2 dL_law_1926 (by decide) ?_
  refine gq_iadd hC dL_law_1927 ?_
  refine gq_scr hC hX hbl hbA hi2 dL_law_1928 ?_
  refine gq_callJi hC hJ2 [.int (xs (i + 1).toNatClampNeg), .int (xs (i + 2).toNatClampNeg)] [] hM2 gL_law_X11_mark rfl ⟨rfl, rfl⟩ hy_X11_mark ⟨Nat.le_of_ble_eq_true rfl, Nat.le_of_ble_eq_true rfl⟩ (ci := 11) rfl rfl hv2 (Nat.le_of_ble_eq_true rfl) rfl dL_law_1929 rfl ?_
  refine gq_istore hC [(6, .int r), (5, .int kr), (4, .int i), (3, .ref ho), (2, .ref hm), (1, .ref hx), (0, .ref bs)] dL_law_1932 (by decide) rfl ?_
  refine gq_aload_n hC 4 dL_law_1934 rfl rfl ?_
  refine gq_callJi hC hJ3 [] [] hM3 gL_law_X11_thrown rfl ⟨rfl, rfl⟩ hy_X11_thrown ⟨Nat.le_of_ble_eq_true rfl, Nat.le_of_ble_eq_true rfl⟩ (ci := 11) rfl rfl hv3 (Nat.le_of_ble_eq_true rfl) rfl dL_law_1935 rfl ?_
  refine gq_iload hC 1 dL_law_1938 rfl ?_
  refine gq_icmp_eq hC 1945 dL_law_1940 (by decide) (fun _ => ?_) (fun h9 => absurd rfl h9)
  refine gq_iload hC 1 dL_law_1945 rfl ?_
  refine gq_if_ne hC 1962 dL_law_1947 (by decide) (fun _ => ?_) (fun h0 => ?_)
  · refine gq_goto hC 2643 dL_law_1962 (by decide) ?_
    exact gq_sub [(4, .int i), (3, .ref ho), (2, .ref hm), (1, .ref hx), (0, .ref bs)] [2, 3, 4, 5, 6] rfl (gq_widen (by omega) (by omega) kk)
  · refine gq_aload_n hC 3 dL_law_1950 rfl rfl ?_
    refine gq_iconst hC 0 dL_law_1951 (by decide) ?_
    refine gq_lald hC qo 1 hqo rfl (by unfold vp_in; decide) dL_law_1952 ?_
    rw [hov h0]
    refine gq_iload hC 0 dL_law_1953 rfl ?_
    refine gq_i2l hC dL_law_1955 ?_
    refine gq_lcmp hC dL_law_1956 ?_
    rw [lg_cmp_self]
    refine gq_if_eq hC 1962 dL_law_1957 (by decide) (fun _ => ?_) (fun h9 => absurd rfl h9)
    refine gq_goto hC 2643 dL_law_1962 (by decide) ?_
    exact gq_sub [(4, .int i), (3, .ref ho), (2, .ref hm), (1, .ref hx), (0, .ref bs)] [2, 3, 4, 5, 6] rfl (gq_widen (by omega) (by omega) kk)
set_option maxHeartbeats 4000000 in
theorem lw_title {ws ws1 ws2 W1 W1' W2 W2' W3 : va_W} {hx hm ho bs L : Nat} {xs : Nat → Int32} {i : Int32} {kr : Int32} {r : Int32} {ov : Nat → Int64} {fs1 fs2 fs3 : List Value} {qo : Nat} (hC : Gc p room_1 s m args meth c D (gq_ty cI cJ cZ cO) A 7 cL_law RL lw_tbl ret k n z) (hX : va_X bs L xs s s.heap) (hbl : bs < s.heap.size) (hbA : ¬ A bs) (hi1 : vp_in (i + 1) L) (hi2 : vp_in (i + 2) L) (hM1 : Mi l yL_title wsL_title (rmX 8 3) D (gq_ty cI cJ cZ cO) z [.ref hx, .int (xs (i + 1).toNatClampNeg), .int (xs (i + 2).toNatClampNeg), .ref ho] W1 kr W1' 3 18) (hJ1 : gq_J ws W1 W1' ws1) (hM2 : Mi l yX11_title wsX11_title (rmD 7) D (gq_ty cI cJ cZ cO) z [.ref hm, .int (xs (i + 1).toNatClampNeg), .int (xs (i + 2).toNatClampNeg)] W2 r W2' 0 0) (hv2 : W2[0]? = some (hm, .inr (11, fs2))) (hJ2 : gq_J ws1 W2 W2' ws2) (hM3 : Mi l yX11_thrown wsX11_thrown (rmD 0) D (gq_ty cI cJ cZ cO) z [.ref hm] W3 kr W3 0 0) (hv3 : W3[0]? = some (hm, .inr (11, fs3))) (hJ3 : gq_J ws2 W3 W3 ws2) (hqo : ws2[qo]? = some (ho, .inl (cJ, 1, .inr (.inl ov)))) (hov : kr = 0 → ov (0 : Int32).toNatClampNeg = r.toInt64) (hkb : k + 4 ≤ 601024 ∧ n + 24 ≤ 7293034) (kk : Gx p l e room_1 s m args below meth c D A 7 Q (k + 4) (n + 24) 2643 [(4, .int i), (3, .ref ho), (2, .ref hm), (1, .ref hx), (0, .ref bs)] [] ws2) : Gx p l e room_1 s m args below meth c D A 7 Q k n 1965 [(4, .int i), (3, .ref ho), (2, .ref hm), (1, .ref hx), (0, .ref bs)] [] ws := by
  refine gq_aload_n hC 3 dL_law_1965 rfl rfl ?_
  refine gq_aload_n hC 4 dL_law_1966 rfl rfl ?_
  refine gq_iload hC 0 dL_law_1967 rfl ?_
  refine gq_iconst hC 1 dL_law_1969 (by decide) ?_
  refine gq_iadd hC dL_law_1970 ?_
  refine gq_scr hC hX hbl hbA hi1 dL_law_1971 ?_
  refine gq_aload_n hC 4 dL_law_1972 rfl rfl ?_
  refine gq_iload hC 0 dL_law_1973 rfl ?_
  refine gq_iconst hC 2 dL_law_1975 (by decide) ?_
  refine gq_iadd hC dL_law_1976 ?_
  refine gq_scr hC hX hbl hbA hi2 dL_law_1977 ?_
  refine gq_aload_n hC 1 dL_law_1978 rfl rfl ?_
  refine gq_callSWi hC hJ1 [.ref hx, .int (xs (i + 1).toNatClampNeg), .int (xs (i + 2).toNatClampNeg), .ref ho] [] hM1 gL_law_L_title rfl ⟨rfl, rfl⟩ ⟨(by decide +kernel), (by decide +kernel), (show _ = some 4 from by decide +kernel)⟩ ⟨by show k + 3 ≤ 601024; omega, by show n + 18 ≤ 7293034; omega⟩ ⟨Nat.le_of_ble_eq_true rfl, Nat.le_of_ble_eq_true rfl⟩ (Nat.le_of_ble_eq_true rfl) rfl dL_law_1979 rfl ?_
  have hC := gq_at (k' := k + 3) (n' := n + 18) hC ⟨by show k + 3 ≤ 601024; omega, by show n + 18 ≤ 7293034; omega⟩
  refine gq_istore hC [(5, .int kr), (4, .int i), (3, .ref ho), (2, .ref hm), (1, .ref hx), (0, .ref bs)] dL_law_1982 (by decide) rfl ?_
  refine gq_aload_n hC 3 dL_law_1984 rfl rfl ?_
  refine gq_aload_n hC 5 dL_law_1985 rfl rfl ?_
  refine gq_iload hC 1 dL_law_1986 rfl ?_
  refine gq_iconst hC 1 dL_law_1988 (by decide) ?_
  refine gq_iadd hC dL_law_1989 ?_
  refine gq_scr hC hX hbl hbA hi1 dL_law_1990 ?_
  refine gq_aload_n hC 5 dL_law_1991 rfl rfl ?_
  refine gq_iload hC 1 dL_law_1992 rfl ?_
  refine gq_iconst hC 2 dL_law_1994 (by decide) ?_
  refine gq_iadd hC dL_law_1995 ?_
  refine gq_scr hC hX hbl hbA hi2 dL_law_1996 ?_
  refine gq_callJi hC hJ2 [.int (xs (i + 1).toNatClampNeg), .int (xs (i + 2).toNatClampNeg)] [] hM2 gL_law_X11_title rfl ⟨rfl, rfl⟩ hy_X11_title ⟨Nat.le_of_ble_eq_true rfl, Nat.le_of_ble_eq_true rfl⟩ (ci := 11) rfl rfl hv2 (Nat.le_of_ble_eq_true rfl) rfl dL_law_1997 rfl ?_
  refine gq_istore hC [(6, .int r), (5, .int kr), (4, .int i), (3, .ref ho), (2, .ref hm), (1, .ref hx), (0, .ref bs)] dL_law_2000 (by decide) rfl ?_
  refine gq_aload_n hC 4 dL_law_2002 rfl rfl ?_
  refine gq_callJi hC hJ3 [] [] hM3 gL_law_X11_thrown rfl ⟨rfl, rfl⟩ hy_X11_thrown ⟨Nat.le_of_ble_eq_true rfl, Nat.le_of_ble_eq_true rfl⟩ (ci := 11) rfl rfl hv3 (Nat.le_of_ble_eq_true rfl) rfl dL_law_2003 rfl ?_
  refine gq_iload hC 1 dL_law_2006 rfl ?_
  refine gq_icmp_eq hC 2013 dL_law_2008 (by decide) (fun _ => ?_) (fun h9 => absurd rfl h9)
  refine gq_iload hC 1 dL_law_2013 rfl ?_
  refine gq_if_ne hC 2030 dL_law_2015 (by decide) (fun _ => ?_) (fun h0 => ?_)
  · refine gq_goto hC 2643 dL_law_2030 (by decide) ?_
    exact gq_sub [(4, .int i), (3, .ref ho), (2, .ref hm), (1, .ref hx), (0, .ref bs)] [2, 3, 4, 5, 6] rfl (gq_widen (by omega) (by omega) kk)
  · refine gq_aload_n hC 3 dL_law_2018 rfl rfl ?_
    refine gq_iconst hC 0 dL_law_2019 (by decide) ?_
    refine gq_lald hC qo 1 hqo rfl (by unfold vp_in; decide) dL_law_2020 ?_
    rw [hov h0]
    refine gq_iload hC 0 dL_law_2021 rfl ?_
    refine gq_i2l hC dL_law_2023 ?_
    refine gq_lcmp hC dL_law_2024 ?_
    rw [lg_cmp_self]
    refine gq_if_eq hC 2030 dL_law_2025 (by decide) (fun _ => ?_) (fun h9 => absurd rfl h9)
    refine gq_goto hC 2643 dL_law_2030 (by decide) ?_
    exact gq_sub [(4, .int i), (3, .ref ho), (2, .ref hm), (1, .ref hx), (0, .ref bs)] [2, 3, 4, 5, 6] rfl (gq_widen (by omega) (by omega) kk)
set_option maxHeartbeats 4000000 in
theorem lw_addSlot {ws ws1 ws2 W1 W1' W2 W2' W3 : va_W} {hx hm ho bs L : Nat} {xs : Nat → Int32} {i : Int32} {kr : Int32} {r : Int32} {ov : Nat → Int64} {fs1 fs2 fs3 : List Value} {qo : Nat} (hC : Gc p room_1 s m args meth c D (gq_ty cI cJ cZ cO) A 7 cL_law RL lw_tbl ret k n z) (hX : va_X bs L xs s s.heap) (hbl : bs < s.heap.size) (hbA : ¬ A bs) (hi1 : vp_in (i + 1) L) (hi2 : vp_in (i + 2) L) (hi3 : vp_in (i + 3) L) (hM1 : Mi l yL_addSlot wsL_addSlot (rmX 8 4) D (gq_ty cI cJ cZ cO) z [.ref hx, .int (xs (i + 1).toNatClampNeg), .int (xs (i + 2).toNatClampNeg), .int (xs (i + 3).toNatClampNeg), .ref ho] W1 kr W1' 4 24) (hJ1 : gq_J ws W1 W1' ws1) (hM2 : Mi l yX11_addSlot wsX11_addSlot (rmD 1) D (gq_ty cI cJ cZ cO) z [.ref hm, .int (xs (i + 1).toNatClampNeg), .int (xs (i + 2).toNatClampNeg), .int (xs (i + 3).toNatClampNeg)] W2 r W2' 0 0) (hv2 : W2[0]? = some (hm, .inr (11, fs2))) (hJ2 : gq_J ws1 W2 W2' ws2) (hM3 : Mi l yX11_thrown wsX11_thrown (rmD 0) D (gq_ty cI cJ cZ cO) z [.ref hm] W3 kr W3 0 0) (hv3 : W3[0]? = some (hm, .inr (11, fs3))) (hJ3 : gq_J ws2 W3 W3 ws2) (hqo : ws2[qo]? = some (ho, .inl (cJ, 1, .inr (.inl ov)))) (hov : kr = 0 → ov (0 : Int32).toNatClampNeg = r.toInt64) (hkb : k + 4 ≤ 601024 ∧ n + 24 ≤ 7293034) (kk : Gx p l e room_1 s m args below meth c D A 7 Q (k + 4) (n + 24) 2643 [(4, .int i), (3, .ref ho), (2, .ref hm), (1, .ref hx), (0, .ref bs)] [] ws2) : Gx p l e room_1 s m args below meth c D A 7 Q k n 2033 [(4, .int i), (3, .ref ho), (2, .ref hm), (1, .ref hx), (0, .ref bs)] [] ws := by
  refine gq_aload_n hC 3 dL_law_2033 rfl rfl ?_
  refine gq_aload_n hC 4 dL_law_2034 rfl rfl ?_
  refine gq_iload hC 0 dL_law_2035 rfl ?_
  refine gq_iconst hC 1 dL_law_2037 (by decide) ?_
  refine gq_iadd hC dL_law_2038 ?_
  refine gq_scr hC hX hbl hbA hi1 dL_law_2039 ?_
  refine gq_aload_n hC 4 dL_law_2040 rfl rfl ?_
  refine gq_iload hC 0 dL_law_2041 rfl ?_
  refine gq_iconst hC 2 dL_law_2043 (by decide) ?_
  refine gq_iadd hC dL_law_2044 ?_
  refine gq_scr hC hX hbl hbA hi2 dL_law_2045 ?_
  refine gq_aload_n hC 4 dL_law_2046 rfl rfl ?_
  refine gq_iload hC 0 dL_law_2047 rfl ?_
  refine gq_iconst hC 3 dL_law_2049 (by decide) ?_
  refine gq_iadd hC dL_law_2050 ?_
  refine gq_scr hC hX hbl hbA hi3 dL_law_2051 ?_
  refine gq_aload_n hC 1 dL_law_2052 rfl rfl ?_
  refine gq_callSWi hC hJ1 [.ref hx, .int (xs (i + 1).toNatClampNeg), .int (xs (i + 2).toNatClampNeg), .int (xs (i + 3).toNatClampNeg), .ref ho] [] hM1 gL_law_L_addSlot rfl ⟨rfl, rfl⟩ ⟨(by decide +kernel), (by decide +kernel), (show _ = some 5 from by decide +kernel)⟩ ⟨by show k + 4 ≤ 601024; omega, by show n + 24 ≤ 7293034; omega⟩ ⟨Nat.le_of_ble_eq_true rfl, Nat.le_of_ble_eq_true rfl⟩ (Nat.le_of_ble_eq_true rfl) rfl dL_law_2053 rfl ?_
  have hC := gq_at (k' := k + 4) (n' := n + 24) hC ⟨by show k + 4 ≤ 601024; omega, by show n + 24 ≤ 7293034; omega⟩
  refine gq_istore hC [(5, .int kr), (4, .int i), (3, .ref ho), (2, .ref hm), (1, .ref hx), (0, .ref bs)] dL_law_2056 (by decide) rfl ?_
  refine gq_aload_n hC 3 dL_law_2058 rfl rfl ?_
  refine gq_aload_n hC 5 dL_law_2059 rfl rfl ?_
  refine gq_iload hC 1 dL_law_2060 rfl ?_
  refine gq_iconst hC 1 dL_law_2062 (by decide) ?_
  refine gq_iadd hC dL_law_2063 ?_
  refine gq_scr hC hX hbl hbA hi1 dL_law_2064 ?_
  refine gq_aload_n hC 5 dL_law_2065 rfl rfl ?_
  refine gq_iload hC 1 dL_law_2066 rfl ?_
  refine gq_iconst hC 2 dL_law_2068 (by decide) ?_
  refine gq_iadd hC dL_law_2069 ?_
  refine gq_scr hC hX hbl hbA hi2 dL_law_2070 ?_
  refine gq_aload_n hC 5 dL_law_2071 rfl rfl ?_
  refine gq_iload hC 1 dL_law_2072 rfl ?_
  refine gq_iconst hC 3 dL_law_2074 (by decide) ?_
  refine gq_iadd hC dL_law_2075 ?_
  refine gq_scr hC hX hbl hbA hi3 dL_law_2076 ?_
  refine gq_callJi hC hJ2 [.int (xs (i + 1).toNatClampNeg), .int (xs (i + 2).toNatClampNeg), .int (xs (i + 3).toNatClampNeg)] [] hM2 gL_law_X11_addSlot rfl ⟨rfl, rfl⟩ hy_X11_addSlot ⟨Nat.le_of_ble_eq_true rfl, Nat.le_of_ble_eq_true rfl⟩ (ci := 11) rfl rfl hv2 (Nat.le_of_ble_eq_true rfl) rfl dL_law_2077 rfl ?_
  refine gq_istore hC [(6, .int r), (5, .int kr), (4, .int i), (3, .ref ho), (2, .ref hm), (1, .ref hx), (0, .ref bs)] dL_law_2080 (by decide) rfl ?_
  refine gq_aload_n hC 4 dL_law_2082 rfl rfl ?_
  refine gq_callJi hC hJ3 [] [] hM3 gL_law_X11_thrown rfl ⟨rfl, rfl⟩ hy_X11_thrown ⟨Nat.le_of_ble_eq_true rfl, Nat.le_of_ble_eq_true rfl⟩ (ci := 11) rfl rfl hv3 (Nat.le_of_ble_eq_true rfl) rfl dL_law_2083 rfl ?_
  refine gq_iload hC 1 dL_law_2086 rfl ?_
  refine gq_icmp_eq hC 2093 dL_law_2088 (by decide) (fun _ => ?_) (fun h9 => absurd rfl h9)
  refine gq_iload hC 1 dL_law_2093 rfl ?_
  refine gq_if_ne hC 2110 dL_law_2095 (by decide) (fun _ => ?_) (fun h0 => ?_)
  · refine gq_goto hC 2643 dL_law_2110 (by decide) ?_
    exact gq_sub [(4, .int i), (3, .ref ho), (2, .ref hm), (1, .ref hx), (0, .ref bs)] [2, 3, 4, 5, 6] rfl (gq_widen (by omega) (by omega) kk)
  · refine gq_aload_n hC 3 dL_law_2098 rfl rfl ?_
    refine gq_iconst hC 0 dL_law_2099 (by decide) ?_
    refine gq_lald hC qo 1 hqo rfl (by unfold vp_in; decide) dL_law_2100 ?_
    rw [hov h0]
    refine gq_iload hC 0 dL_law_2101 rfl ?_
    refine gq_i2l hC dL_law_2103 ?_
    refine gq_lcmp hC dL_law_2104 ?_
    rw [lg_cmp_self]
    refine gq_if_eq hC 2110 dL_law_2105 (by decide) (fun _ => ?_) (fun h9 => absurd rfl h9)
    refine gq_goto hC 2643 dL_law_2110 (by decide) ?_
    exact gq_sub [(4, .int i), (3, .ref ho), (2, .ref hm), (1, .ref hx), (0, .ref bs)] [2, 3, 4, 5, 6] rfl (gq_widen (by omega) (by omega) kk)
set_option maxHeartbeats 4000000 in
theorem lw_removeSlot {ws ws1 ws2 W1 W1' W2 W2' W3 : va_W} {hx hm ho bs L : Nat} {xs : Nat → Int32} {i : Int32} {kr : Int32} {r : Int32} {ov : Nat → Int64} {fs1 fs2 fs3 : List Value} {qo : Nat} (hC : Gc p room_1 s m args meth c D (gq_ty cI cJ cZ cO) A 7 cL_law RL lw_tbl ret k n z) (hX : va_X bs L xs s s.heap) (hbl : bs < s.heap.size) (hbA : ¬ A bs) (hi1 : vp_in (i + 1) L) (hM1 : Mi l yL_removeSlot wsL_removeSlot (rmX 8 1) D (gq_ty cI cJ cZ cO) z [.ref hx, .int (xs (i + 1).toNatClampNeg), .ref ho] W1 kr W1' 1 6) (hJ1 : gq_J ws W1 W1' ws1) (hM2 : Mi l yX11_removeSlot wsX11_removeSlot (rmD 2) D (gq_ty cI cJ cZ cO) z [.ref hm, .int (xs (i + 1).toNatClampNeg)] W2 r W2' 0 0) (hv2 : W2[0]? = some (hm, .inr (11, fs2))) (hJ2 : gq_J ws1 W2 W2' ws2) (hM3 : Mi l yX11_thrown wsX11_thrown (rmD 0) D (gq_ty cI cJ cZ cO) z [.ref hm] W3 kr W3 0 0) (hv3 : W3[0]? = some (hm, .inr (11, fs3))) (hJ3 : gq_J ws2 W3 W3 ws2) (hqo : ws2[qo]? = some (ho, .inl (cJ, 1, .inr (.inl ov)))) (hov : kr = 0 → ov (0 : Int32).toNatClampNeg = r.toInt64) (hkb : k + 4 ≤ 601024 ∧ n + 24 ≤ 7293034) (kk : Gx p l e room_1 s m args below meth c D A 7 Q (k + 4) (n + 24) 2643 [(4, .int i), (3, .ref ho), (2, .ref hm), (1, .ref hx), (0, .ref bs)] [] ws2) : Gx p l e room_1 s m args below meth c D A 7 Q k n 2113 [(4, .int i), (3, .ref ho), (2, .ref hm), (1, .ref hx), (0, .ref bs)] [] ws := by
  refine gq_aload_n hC 3 dL_law_2113 rfl rfl ?_
  refine gq_aload_n hC 4 dL_law_2114 rfl rfl ?_
  refine gq_iload hC 0 dL_law_2115 rfl ?_
  refine gq_iconst hC 1 dL_law_2117 (by decide) ?_
  refine gq_iadd hC dL_law_2118 ?_
  refine gq_scr hC hX hbl hbA hi1 dL_law_2119 ?_
  refine gq_aload_n hC 1 dL_law_2120 rfl rfl ?_
  refine gq_callSWi hC hJ1 [.ref hx, .int (xs (i + 1).toNatClampNeg), .ref ho] [] hM1 gL_law_L_removeSlot rfl ⟨rfl, rfl⟩ ⟨(by decide +kernel), (by decide +kernel), (show _ = some 3 from by decide +kernel)⟩ ⟨by show k + 1 ≤ 601024; omega, by show n + 6 ≤ 7293034; omega⟩ ⟨Nat.le_of_ble_eq_true rfl, Nat.le_of_ble_eq_true rfl⟩ (Nat.le_of_ble_eq_true rfl) rfl dL_law_2121 rfl ?_
  have hC := gq_at (k' := k + 1) (n' := n + 6) hC ⟨by show k + 1 ≤ 601024; omega, by show n + 6 ≤ 7293034; omega⟩
  refine gq_istore hC [(5, .int kr), (4, .int i), (3, .ref ho), (2, .ref hm), (1, .ref hx), (0, .ref bs)] dL_law_2124 (by decide) rfl ?_
  refine gq_aload_n hC 3 dL_law_2126 rfl rfl ?_
  refine gq_aload_n hC 5 dL_law_2127 rfl rfl ?_
  refine gq_iload hC 1 dL_law_2128 rfl ?_
  refine gq_iconst hC 1 dL_law_2130 (by decide) ?_
  refine gq_iadd hC dL_law_2131 ?_
  refine gq_scr hC hX hbl hbA hi1 dL_law_2132 ?_
  refine gq_callJi hC hJ2 [.int (xs (i + 1).toNatClampNeg)] [] hM2 gL_law_X11_removeSlot rfl ⟨rfl, rfl⟩ hy_X11_removeSlot ⟨Nat.le_of_ble_eq_true rfl, Nat.le_of_ble_eq_true rfl⟩ (ci := 11) rfl rfl hv2 (Nat.le_of_ble_eq_true rfl) rfl dL_law_2133 rfl ?_
  refine gq_istore hC [(6, .int r), (5, .int kr), (4, .int i), (3, .ref ho), (2, .ref hm), (1, .ref hx), (0, .ref bs)] dL_law_2136 (by decide) rfl ?_
  refine gq_aload_n hC 4 dL_law_2138 rfl rfl ?_
  refine gq_callJi hC hJ3 [] [] hM3 gL_law_X11_thrown rfl ⟨rfl, rfl⟩ hy_X11_thrown ⟨Nat.le_of_ble_eq_true rfl, Nat.le_of_ble_eq_true rfl⟩ (ci := 11) rfl rfl hv3 (Nat.le_of_ble_eq_true rfl) rfl dL_law_2139 rfl ?_
  refine gq_iload hC 1 dL_law_2142 rfl ?_
  refine gq_icmp_eq hC 2149 dL_law_2144 (by decide) (fun _ => ?_) (fun h9 => absurd rfl h9)
  refine gq_iload hC 1 dL_law_2149 rfl ?_
  refine gq_if_ne hC 2166 dL_law_2151 (by decide) (fun _ => ?_) (fun h0 => ?_)
  · refine gq_goto hC 2643 dL_law_2166 (by decide) ?_
    exact gq_sub [(4, .int i), (3, .ref ho), (2, .ref hm), (1, .ref hx), (0, .ref bs)] [2, 3, 4, 5, 6] rfl (gq_widen (by omega) (by omega) kk)
  · refine gq_aload_n hC 3 dL_law_2154 rfl rfl ?_
    refine gq_iconst hC 0 dL_law_2155 (by decide) ?_
    refine gq_lald hC qo 1 hqo rfl (by unfold vp_in; decide) dL_law_2156 ?_
    rw [hov h0]
    refine gq_iload hC 0 dL_law_2157 rfl ?_
    refine gq_i2l hC dL_law_2159 ?_
    refine gq_lcmp hC dL_law_2160 ?_
    rw [lg_cmp_self]
    refine gq_if_eq hC 2166 dL_law_2161 (by decide) (fun _ => ?_) (fun h9 => absurd rfl h9)
    refine gq_goto hC 2643 dL_law_2166 (by decide) ?_
    exact gq_sub [(4, .int i), (3, .ref ho), (2, .ref hm), (1, .ref hx), (0, .ref bs)] [2, 3, 4, 5, 6] rfl (gq_widen (by omega) (by omega) kk)
set_option maxHeartbeats 4000000 in
theorem lw_moveSlot {ws ws1 ws2 W1 W1' W2 W2' W3 : va_W} {hx hm ho bs L : Nat} {xs : Nat → Int32} {i : Int32} {kr : Int32} {r : Int32} {ov : Nat → Int64} {fs1 fs2 fs3 : List Value} {qo : Nat} (hC : Gc p room_1 s m args meth c D (gq_ty cI cJ cZ cO) A 7 cL_law RL lw_tbl ret k n z) (hX : va_X bs L xs s s.heap) (hbl : bs < s.heap.size) (hbA : ¬ A bs) (hi1 : vp_in (i + 1) L) (hi2 : vp_in (i + 2) L) (hM1 : Mi l yL_moveSlot wsL_moveSlot (rmX 8 2) D (gq_ty cI cJ cZ cO) z [.ref hx, .int (xs (i + 1).toNatClampNeg), .int (xs (i + 2).toNatClampNeg), .ref ho] W1 kr W1' 2 12) (hJ1 : gq_J ws W1 W1' ws1) (hM2 : Mi l yX11_moveSlot wsX11_moveSlot (rmD 2) D (gq_ty cI cJ cZ cO) z [.ref hm, .int (xs (i + 1).toNatClampNeg), .int (xs (i + 2).toNatClampNeg)] W2 r W2' 0 0) (hv2 : W2[0]? = some (hm, .inr (11, fs2))) (hJ2 : gq_J ws1 W2 W2' ws2) (hM3 : Mi l yX11_thrown wsX11_thrown (rmD 0) D (gq_ty cI cJ cZ cO) z [.ref hm] W3 kr W3 0 0) (hv3 : W3[0]? = some (hm, .inr (11, fs3))) (hJ3 : gq_J ws2 W3 W3 ws2) (hqo : ws2[qo]? = some (ho, .inl (cJ, 1, .inr (.inl ov)))) (hov : kr = 0 → ov (0 : Int32).toNatClampNeg = r.toInt64) (hkb : k + 4 ≤ 601024 ∧ n + 24 ≤ 7293034) (kk : Gx p l e room_1 s m args below meth c D A 7 Q (k + 4) (n + 24) 2643 [(4, .int i), (3, .ref ho), (2, .ref hm), (1, .ref hx), (0, .ref bs)] [] ws2) : Gx p l e room_1 s m args below meth c D A 7 Q k n 2169 [(4, .int i), (3, .ref ho), (2, .ref hm), (1, .ref hx), (0, .ref bs)] [] ws := by
  refine gq_aload_n hC 3 dL_law_2169 rfl rfl ?_
  refine gq_aload_n hC 4 dL_law_2170 rfl rfl ?_
  refine gq_iload hC 0 dL_law_2171 rfl ?_
  refine gq_iconst hC 1 dL_law_2173 (by decide) ?_
  refine gq_iadd hC dL_law_2174 ?_
  refine gq_scr hC hX hbl hbA hi1 dL_law_2175 ?_
  refine gq_aload_n hC 4 dL_law_2176 rfl rfl ?_
  refine gq_iload hC 0 dL_law_2177 rfl ?_
  refine gq_iconst hC 2 dL_law_2179 (by decide) ?_
  refine gq_iadd hC dL_law_2180 ?_
  refine gq_scr hC hX hbl hbA hi2 dL_law_2181 ?_
  refine gq_aload_n hC 1 dL_law_2182 rfl rfl ?_
  refine gq_callSWi hC hJ1 [.ref hx, .int (xs (i + 1).toNatClampNeg), .int (xs (i + 2).toNatClampNeg), .ref ho] [] hM1 gL_law_L_moveSlot rfl ⟨rfl, rfl⟩ ⟨(by decide +kernel), (by decide +kernel), (show _ = some 4 from by decide +kernel)⟩ ⟨by show k + 2 ≤ 601024; omega, by show n + 12 ≤ 7293034; omega⟩ ⟨Nat.le_of_ble_eq_true rfl, Nat.le_of_ble_eq_true rfl⟩ (Nat.le_of_ble_eq_true rfl) rfl dL_law_2183 rfl ?_
  have hC := gq_at (k' := k + 2) (n' := n + 12) hC ⟨by show k + 2 ≤ 601024; omega, by show n + 12 ≤ 7293034; omega⟩
  refine gq_istore hC [(5, .int kr), (4, .int i), (3, .ref ho), (2, .ref hm), (1, .ref hx), (0, .ref bs)] dL_law_2186 (by decide) rfl ?_
  refine gq_aload_n hC 3 dL_law_2188 rfl rfl ?_
  refine gq_aload_n hC 5 dL_law_2189 rfl rfl ?_
  refine gq_iload hC 1 dL_law_2190 rfl ?_
  refine gq_iconst hC 1 dL_law_2192 (by decide) ?_
  refine gq_iadd hC dL_law_2193 ?_
  refine gq_scr hC hX hbl hbA hi1 dL_law_2194 ?_
  refine gq_aload_n hC 5 dL_law_2195 rfl rfl ?_
  refine gq_iload hC 1 dL_law_2196 rfl ?_
  refine gq_iconst hC 2 dL_law_2198 (by decide) ?_
  refine gq_iadd hC dL_law_2199 ?_
  refine gq_scr hC hX hbl hbA hi2 dL_law_2200 ?_
  refine gq_callJi hC hJ2 [.int (xs (i + 1).toNatClampNeg), .int (xs (i + 2).toNatClampNeg)] [] hM2 gL_law_X11_moveSlot rfl ⟨rfl, rfl⟩ hy_X11_moveSlot ⟨Nat.le_of_ble_eq_true rfl, Nat.le_of_ble_eq_true rfl⟩ (ci := 11) rfl rfl hv2 (Nat.le_of_ble_eq_true rfl) rfl dL_law_2201 rfl ?_
  refine gq_istore hC [(6, .int r), (5, .int kr), (4, .int i), (3, .ref ho), (2, .ref hm), (1, .ref hx), (0, .ref bs)] dL_law_2204 (by decide) rfl ?_
  refine gq_aload_n hC 4 dL_law_2206 rfl rfl ?_
  refine gq_callJi hC hJ3 [] [] hM3 gL_law_X11_thrown rfl ⟨rfl, rfl⟩ hy_X11_thrown ⟨Nat.le_of_ble_eq_true rfl, Nat.le_of_ble_eq_true rfl⟩ (ci := 11) rfl rfl hv3 (Nat.le_of_ble_eq_true rfl) rfl dL_law_2207 rfl ?_
  refine gq_iload hC 1 dL_law_2210 rfl ?_
  refine gq_icmp_eq hC 2217 dL_law_2212 (by decide) (fun _ => ?_) (fun h9 => absurd rfl h9)
  refine gq_iload hC 1 dL_law_2217 rfl ?_
  refine gq_if_ne hC 2234 dL_law_2219 (by decide) (fun _ => ?_) (fun h0 => ?_)
  · refine gq_goto hC 2643 dL_law_2234 (by decide) ?_
    exact gq_sub [(4, .int i), (3, .ref ho), (2, .ref hm), (1, .ref hx), (0, .ref bs)] [2, 3, 4, 5, 6] rfl (gq_widen (by omega) (by omega) kk)
  · refine gq_aload_n hC 3 dL_law_2222 rfl rfl ?_
    refine gq_iconst hC 0 dL_law_2223 (by decide) ?_
    refine gq_lald hC qo 1 hqo rfl (by unfold vp_in; decide) dL_law_2224 ?_
    rw [hov h0]
    refine gq_iload hC 0 dL_law_2225 rfl ?_
    refine gq_i2l hC dL_law_2227 ?_
    refine gq_lcmp hC dL_law_2228 ?_
    rw [lg_cmp_self]
    refine gq_if_eq hC 2234 dL_law_2229 (by decide) (fun _ => ?_) (fun h9 => absurd rfl h9)
    refine gq_goto hC 2643 dL_law_2234 (by decide) ?_
    exact gq_sub [(4, .int i), (3, .ref ho), (2, .ref hm), (1, .ref hx), (0, .ref bs)] [2, 3, 4, 5, 6] rfl (gq_widen (by omega) (by omega) kk)
set_option maxHeartbeats 4000000 in
theorem lw_slot {ws ws1 ws2 W1 W1' W2 W2' W3 : va_W} {hx hm ho bs L : Nat} {xs : Nat → Int32} {i : Int32} {kr : Int32} {r : Int32} {ov : Nat → Int64} {fs1 fs2 fs3 : List Value} {qo : Nat} (hC : Gc p room_1 s m args meth c D (gq_ty cI cJ cZ cO) A 7 cL_law RL lw_tbl ret k n z) (hX : va_X bs L xs s s.heap) (hbl : bs < s.heap.size) (hbA : ¬ A bs) (hi1 : vp_in (i + 1) L) (hi2 : vp_in (i + 2) L) (hM1 : Mi l yL_slot wsL_slot (rmX 8 2) D (gq_ty cI cJ cZ cO) z [.ref hx, .int (xs (i + 1).toNatClampNeg), .int (xs (i + 2).toNatClampNeg), .ref ho] W1 kr W1' 2 12) (hJ1 : gq_J ws W1 W1' ws1) (hM2 : Mi l yX11_slot wsX11_slot (rmD 2) D (gq_ty cI cJ cZ cO) z [.ref hm, .int (xs (i + 1).toNatClampNeg), .int (xs (i + 2).toNatClampNeg)] W2 r W2' 0 0) (hv2 : W2[0]? = some (hm, .inr (11, fs2))) (hJ2 : gq_J ws1 W2 W2' ws2) (hM3 : Mi l yX11_thrown wsX11_thrown (rmD 0) D (gq_ty cI cJ cZ cO) z [.ref hm] W3 kr W3 0 0) (hv3 : W3[0]? = some (hm, .inr (11, fs3))) (hJ3 : gq_J ws2 W3 W3 ws2) (hqo : ws2[qo]? = some (ho, .inl (cJ, 1, .inr (.inl ov)))) (hov : kr = 0 → ov (0 : Int32).toNatClampNeg = r.toInt64) (hkb : k + 4 ≤ 601024 ∧ n + 24 ≤ 7293034) (kk : Gx p l e room_1 s m args below meth c D A 7 Q (k + 4) (n + 24) 2643 [(4, .int i), (3, .ref ho), (2, .ref hm), (1, .ref hx), (0, .ref bs)] [] ws2) : Gx p l e room_1 s m args below meth c D A 7 Q k n 2237 [(4, .int i), (3, .ref ho), (2, .ref hm), (1, .ref hx), (0, .ref bs)] [] ws := by
  refine gq_aload_n hC 3 dL_law_2237 rfl rfl ?_
  refine gq_aload_n hC 4 dL_law_2238 rfl rfl ?_
  refine gq_iload hC 0 dL_law_2239 rfl ?_
  refine gq_iconst hC 1 dL_law_2241 (by decide) ?_
  refine gq_iadd hC dL_law_2242 ?_
  refine gq_scr hC hX hbl hbA hi1 dL_law_2243 ?_
  refine gq_aload_n hC 4 dL_law_2244 rfl rfl ?_
  refine gq_iload hC 0 dL_law_2245 rfl ?_
  refine gq_iconst hC 2 dL_law_2247 (by decide) ?_
  refine gq_iadd hC dL_law_2248 ?_
  refine gq_scr hC hX hbl hbA hi2 dL_law_2249 ?_
  refine gq_aload_n hC 1 dL_law_2250 rfl rfl ?_
  refine gq_callSWi hC hJ1 [.ref hx, .int (xs (i + 1).toNatClampNeg), .int (xs (i + 2).toNatClampNeg), .ref ho] [] hM1 gL_law_L_slot rfl ⟨rfl, rfl⟩ ⟨(by decide +kernel), (by decide +kernel), (show _ = some 4 from by decide +kernel)⟩ ⟨by show k + 2 ≤ 601024; omega, by show n + 12 ≤ 7293034; omega⟩ ⟨Nat.le_of_ble_eq_true rfl, Nat.le_of_ble_eq_true rfl⟩ (Nat.le_of_ble_eq_true rfl) rfl dL_law_2251 rfl ?_
  have hC := gq_at (k' := k + 2) (n' := n + 12) hC ⟨by show k + 2 ≤ 601024; omega, by show n + 12 ≤ 7293034; omega⟩
  refine gq_istore hC [(5, .int kr), (4, .int i), (3, .ref ho), (2, .ref hm), (1, .ref hx), (0, .ref bs)] dL_law_2254 (by decide) rfl ?_
  refine gq_aload_n hC 3 dL_law_2256 rfl rfl ?_
  refine gq_aload_n hC 5 dL_law_2257 rfl rfl ?_
  refine gq_iload hC 1 dL_law_2258 rfl ?_
  refine gq_iconst hC 1 dL_law_2260 (by decide) ?_
  refine gq_iadd hC dL_law_2261 ?_
  refine gq_scr hC hX hbl hbA hi1 dL_law_2262 ?_
  refine gq_aload_n hC 5 dL_law_2263 rfl rfl ?_
  refine gq_iload hC 1 dL_law_2264 rfl ?_
  refine gq_iconst hC 2 dL_law_2266 (by decide) ?_
  refine gq_iadd hC dL_law_2267 ?_
  refine gq_scr hC hX hbl hbA hi2 dL_law_2268 ?_
  refine gq_callJi hC hJ2 [.int (xs (i + 1).toNatClampNeg), .int (xs (i + 2).toNatClampNeg)] [] hM2 gL_law_X11_slot rfl ⟨rfl, rfl⟩ hy_X11_slot ⟨Nat.le_of_ble_eq_true rfl, Nat.le_of_ble_eq_true rfl⟩ (ci := 11) rfl rfl hv2 (Nat.le_of_ble_eq_true rfl) rfl dL_law_2269 rfl ?_
  refine gq_istore hC [(6, .int r), (5, .int kr), (4, .int i), (3, .ref ho), (2, .ref hm), (1, .ref hx), (0, .ref bs)] dL_law_2272 (by decide) rfl ?_
  refine gq_aload_n hC 4 dL_law_2274 rfl rfl ?_
  refine gq_callJi hC hJ3 [] [] hM3 gL_law_X11_thrown rfl ⟨rfl, rfl⟩ hy_X11_thrown ⟨Nat.le_of_ble_eq_true rfl, Nat.le_of_ble_eq_true rfl⟩ (ci := 11) rfl rfl hv3 (Nat.le_of_ble_eq_true rfl) rfl dL_law_2275 rfl ?_
  refine gq_iload hC 1 dL_law_2278 rfl ?_
  refine gq_icmp_eq hC 2285 dL_law_2280 (by decide) (fun _ => ?_) (fun h9 => absurd rfl h9)
  refine gq_iload hC 1 dL_law_2285 rfl ?_
  refine gq_if_ne hC 2302 dL_law_2287 (by decide) (fun _ => ?_) (fun h0 => ?_)
  · refine gq_goto hC 2643 dL_law_2302 (by decide) ?_
    exact gq_sub [(4, .int i), (3, .ref ho), (2, .ref hm), (1, .ref hx), (0, .ref bs)] [2, 3, 4, 5, 6] rfl (gq_widen (by omega) (by omega) kk)
  · refine gq_aload_n hC 3 dL_law_2290 rfl rfl ?_
    refine gq_iconst hC 0 dL_law_2291 (by decide) ?_
    refine gq_lald hC qo 1 hqo rfl (by unfold vp_in; decide) dL_law_2292 ?_
    rw [hov h0]
    refine gq_iload hC 0 dL_law_2293 rfl ?_
    refine gq_i2l hC dL_law_2295 ?_
    refine gq_lcmp hC dL_law_2296 ?_
    rw [lg_cmp_self]
    refine gq_if_eq hC 2302 dL_law_2297 (by decide) (fun _ => ?_) (fun h9 => absurd rfl h9)
    refine gq_goto hC 2643 dL_law_2302 (by decide) ?_
    exact gq_sub [(4, .int i), (3, .ref ho), (2, .ref hm), (1, .ref hx), (0, .ref bs)] [2, 3, 4, 5, 6] rfl (gq_widen (by omega) (by omega) kk)
set_option maxHeartbeats 4000000 in
theorem lw_placeOf {ws ws1 ws2 W1 W1' W2 W2' W3 : va_W} {hx hm ho bs L : Nat} {xs : Nat → Int32} {i : Int32} {kr : Int32} {r : Int32} {ov : Nat → Int64} {fs1 fs2 fs3 : List Value} {qo : Nat} (hC : Gc p room_1 s m args meth c D (gq_ty cI cJ cZ cO) A 7 cL_law RL lw_tbl ret k n z) (hX : va_X bs L xs s s.heap) (hbl : bs < s.heap.size) (hbA : ¬ A bs) (hi1 : vp_in (i + 1) L) (hM1 : Mi l yL_placeOf wsL_placeOf (rmX 8 1) D (gq_ty cI cJ cZ cO) z [.ref hx, .int (xs (i + 1).toNatClampNeg), .ref ho] W1 kr W1' 1 6) (hJ1 : gq_J ws W1 W1' ws1) (hM2 : Mi l yX11_placeOf wsX11_placeOf (rmD 8) D (gq_ty cI cJ cZ cO) z [.ref hm, .int (xs (i + 1).toNatClampNeg)] W2 r W2' 0 0) (hv2 : W2[0]? = some (hm, .inr (11, fs2))) (hJ2 : gq_J ws1 W2 W2' ws2) (hM3 : Mi l yX11_thrown wsX11_thrown (rmD 0) D (gq_ty cI cJ cZ cO) z [.ref hm] W3 kr W3 0 0) (hv3 : W3[0]? = some (hm, .inr (11, fs3))) (hJ3 : gq_J ws2 W3 W3 ws2) (hqo : ws2[qo]? = some (ho, .inl (cJ, 1, .inr (.inl ov)))) (hov : kr = 0 → ov (0 : Int32).toNatClampNeg = r.toInt64) (hkb : k + 4 ≤ 601024 ∧ n + 24 ≤ 7293034) (kk : Gx p l e room_1 s m args below meth c D A 7 Q (k + 4) (n + 24) 2643 [(4, .int i), (3, .ref ho), (2, .ref hm), (1, .ref hx), (0, .ref bs)] [] ws2) : Gx p l e room_1 s m args below meth c D A 7 Q k n 2305 [(4, .int i), (3, .ref ho), (2, .ref hm), (1, .ref hx), (0, .ref bs)] [] ws := by
  refine gq_aload_n hC 3 dL_law_2305 rfl rfl ?_
  refine gq_aload_n hC 4 dL_law_2306 rfl rfl ?_
  refine gq_iload hC 0 dL_law_2307 rfl ?_
  refine gq_iconst hC 1 dL_law_2309 (by decide) ?_
  refine gq_iadd hC dL_law_2310 ?_
  refine gq_scr hC hX hbl hbA hi1 dL_law_2311 ?_
  refine gq_aload_n hC 1 dL_law_2312 rfl rfl ?_
  refine gq_callSWi hC hJ1 [.ref hx, .int (xs (i + 1).toNatClampNeg), .ref ho] [] hM1 gL_law_L_placeOf rfl ⟨rfl, rfl⟩ ⟨(by decide +kernel), (by decide +kernel), (show _ = some 3 from by decide +kernel)⟩ ⟨by show k + 1 ≤ 601024; omega, by show n + 6 ≤ 7293034; omega⟩ ⟨Nat.le_of_ble_eq_true rfl, Nat.le_of_ble_eq_true rfl⟩ (Nat.le_of_ble_eq_true rfl) rfl dL_law_2313 rfl ?_
  have hC := gq_at (k' := k + 1) (n' := n + 6) hC ⟨by show k + 1 ≤ 601024; omega, by show n + 6 ≤ 7293034; omega⟩
  refine gq_istore hC [(5, .int kr), (4, .int i), (3, .ref ho), (2, .ref hm), (1, .ref hx), (0, .ref bs)] dL_law_2316 (by decide) rfl ?_
  refine gq_aload_n hC 3 dL_law_2318 rfl rfl ?_
  refine gq_aload_n hC 5 dL_law_2319 rfl rfl ?_
  refine gq_iload hC 1 dL_law_2320 rfl ?_
  refine gq_iconst hC 1 dL_law_2322 (by decide) ?_
  refine gq_iadd hC dL_law_2323 ?_
  refine gq_scr hC hX hbl hbA hi1 dL_law_2324 ?_
  refine gq_callJi hC hJ2 [.int (xs (i + 1).toNatClampNeg)] [] hM2 gL_law_X11_placeOf rfl ⟨rfl, rfl⟩ hy_X11_placeOf ⟨Nat.le_of_ble_eq_true rfl, Nat.le_of_ble_eq_true rfl⟩ (ci := 11) rfl rfl hv2 (Nat.le_of_ble_eq_true rfl) rfl dL_law_2325 rfl ?_
  refine gq_istore hC [(6, .int r), (5, .int kr), (4, .int i), (3, .ref ho), (2, .ref hm), (1, .ref hx), (0, .ref bs)] dL_law_2328 (by decide) rfl ?_
  refine gq_aload_n hC 4 dL_law_2330 rfl rfl ?_
  refine gq_callJi hC hJ3 [] [] hM3 gL_law_X11_thrown rfl ⟨rfl, rfl⟩ hy_X11_thrown ⟨Nat.le_of_ble_eq_true rfl, Nat.le_of_ble_eq_true rfl⟩ (ci := 11) rfl rfl hv3 (Nat.le_of_ble_eq_true rfl) rfl dL_law_2331 rfl ?_
  refine gq_iload hC 1 dL_law_2334 rfl ?_
  refine gq_icmp_eq hC 2341 dL_law_2336 (by decide) (fun _ => ?_) (fun h9 => absurd rfl h9)
  refine gq_iload hC 1 dL_law_2341 rfl ?_
  refine gq_if_ne hC 2358 dL_law_2343 (by decide) (fun _ => ?_) (fun h0 => ?_)
  · refine gq_goto hC 2643 dL_law_2358 (by decide) ?_
    exact gq_sub [(4, .int i), (3, .ref ho), (2, .ref hm), (1, .ref hx), (0, .ref bs)] [2, 3, 4, 5, 6] rfl (gq_widen (by omega) (by omega) kk)
  · refine gq_aload_n hC 3 dL_law_2346 rfl rfl ?_
    refine gq_iconst hC 0 dL_law_2347 (by decide) ?_
    refine gq_lald hC qo 1 hqo rfl (by unfold vp_in; decide) dL_law_2348 ?_
    rw [hov h0]
    refine gq_iload hC 0 dL_law_2349 rfl ?_
    refine gq_i2l hC dL_law_2351 ?_
    refine gq_lcmp hC dL_law_2352 ?_
    rw [lg_cmp_self]
    refine gq_if_eq hC 2358 dL_law_2353 (by decide) (fun _ => ?_) (fun h9 => absurd rfl h9)
    refine gq_goto hC 2643 dL_law_2358 (by decide) ?_
    exact gq_sub [(4, .int i), (3, .ref ho), (2, .ref hm), (1, .ref hx), (0, .ref bs)] [2, 3, 4, 5, 6] rfl (gq_widen (by omega) (by omega) kk)
set_option maxHeartbeats 4000000 in
theorem lw_placementCost {ws ws1 ws2 W1 W1' W2 W2' W3 : va_W} {hx hm ho bs L : Nat} {xs : Nat → Int32} {i : Int32} {r : Int32} {fs1 fs2 : List Value} (hC : Gc p room_1 s m args meth c D (gq_ty cI cJ cZ cO) A 7 cL_law RL lw_tbl ret k n z) (hM1 : Mi l yX10_placementCost wsX10_placementCost (rmD 6) D (gq_ty cI cJ cZ cO) z [.ref hx] W1 r W1' 0 0) (hv1 : W1[0]? = some (hx, .inr (10, fs1))) (hJ1 : gq_J ws W1 W1' ws1) (hM2 : Mi l yX11_placementCost wsX11_placementCost (rmD 8) D (gq_ty cI cJ cZ cO) z [.ref hm] W2 r W2' 0 0) (hv2 : W2[0]? = some (hm, .inr (11, fs2))) (hJ2 : gq_J ws1 W2 W2' ws2) (hkb : k + 4 ≤ 601024 ∧ n + 24 ≤ 7293034) (kk : Gx p l e room_1 s m args below meth c D A 7 Q (k + 4) (n + 24) 2643 [(4, .int i), (3, .ref ho), (2, .ref hm), (1, .ref hx), (0, .ref bs)] [] ws2) : Gx p l e room_1 s m args below meth c D A 7 Q k n 2361 [(4, .int i), (3, .ref ho), (2, .ref hm), (1, .ref hx), (0, .ref bs)] [] ws := by
  refine gq_aload_n hC 3 dL_law_2361 rfl rfl ?_
  refine gq_callJi hC hJ1 [] [] hM1 gL_law_X10_placementCost rfl ⟨rfl, rfl⟩ hy_X10_placementCost ⟨Nat.le_of_ble_eq_true rfl, Nat.le_of_ble_eq_true rfl⟩ (ci := 10) rfl rfl hv1 (Nat.le_of_ble_eq_true rfl) rfl dL_law_2362 rfl ?_
  refine gq_aload_n hC 2 dL_law_2365 rfl rfl ?_
  refine gq_callJi hC hJ2 [] [.int r] hM2 gL_law_X11_placementCost rfl ⟨rfl, rfl⟩ hy_X11_placementCost ⟨Nat.le_of_ble_eq_true rfl, Nat.le_of_ble_eq_true rfl⟩ (ci := 11) rfl rfl hv2 (Nat.le_of_ble_eq_true rfl) rfl dL_law_2366 rfl ?_
  refine gq_icmp_eq hC 2643 dL_law_2369 (by decide) (fun _ => ?_) (fun h9 => absurd rfl h9)
  exact gq_sub [(4, .int i), (3, .ref ho), (2, .ref hm), (1, .ref hx), (0, .ref bs)] [0, 1, 2, 3, 4] rfl (gq_widen (by omega) (by omega) kk)
set_option maxHeartbeats 4000000 in
theorem lw_choices {ws ws1 ws2 W1 W1' W2 W2' W3 : va_W} {hx hm ho bs L : Nat} {xs : Nat → Int32} {i : Int32} {kr : Int32} {r : Int32} {ov : Nat → Int64} {fs1 fs2 fs3 : List Value} {qo : Nat} (hC : Gc p room_1 s m args meth c D (gq_ty cI cJ cZ cO) A 7 cL_law RL lw_tbl ret k n z) (hX : va_X bs L xs s s.heap) (hbl : bs < s.heap.size) (hbA : ¬ A bs) (hi1 : vp_in (i + 1) L) (hM1 : Mi l yL_choices wsL_choices (rmX 8 1) D (gq_ty cI cJ cZ cO) z [.ref hx, .int (xs (i + 1).toNatClampNeg), .ref ho] W1 kr W1' 1 6) (hJ1 : gq_J ws W1 W1' ws1) (hM2 : Mi l yX11_choices wsX11_choices (rmD 4) D (gq_ty cI cJ cZ cO) z [.ref hm, .int (xs (i + 1).toNatClampNeg)] W2 r W2' 0 0) (hv2 : W2[0]? = some (hm, .inr (11, fs2))) (hJ2 : gq_J ws1 W2 W2' ws2) (hM3 : Mi l yX11_thrown wsX11_thrown (rmD 0) D (gq_ty cI cJ cZ cO) z [.ref hm] W3 kr W3 0 0) (hv3 : W3[0]? = some (hm, .inr (11, fs3))) (hJ3 : gq_J ws2 W3 W3 ws2) (hqo : ws2[qo]? = some (ho, .inl (cJ, 1, .inr (.inl ov)))) (hov : kr = 0 → ov (0 : Int32).toNatClampNeg = r.toInt64) (hkb : k + 4 ≤ 601024 ∧ n + 24 ≤ 7293034) (kk : Gx p l e room_1 s m args below meth c D A 7 Q (k + 4) (n + 24) 2643 [(4, .int i), (3, .ref ho), (2, .ref hm), (1, .ref hx), (0, .ref bs)] [] ws2) : Gx p l e room_1 s m args below meth c D A 7 Q k n 2374 [(4, .int i), (3, .ref ho), (2, .ref hm), (1, .ref hx), (0, .ref bs)] [] ws := by
  refine gq_aload_n hC 3 dL_law_2374 rfl rfl ?_
  refine gq_aload_n hC 4 dL_law_2375 rfl rfl ?_
  refine gq_iload hC 0 dL_law_2376 rfl ?_
  refine gq_iconst hC 1 dL_law_2378 (by decide) ?_
  refine gq_iadd hC dL_law_2379 ?_
  refine gq_scr hC hX hbl hbA hi1 dL_law_2380 ?_
  refine gq_aload_n hC 1 dL_law_2381 rfl rfl ?_
  refine gq_callSWi hC hJ1 [.ref hx, .int (xs (i + 1).toNatClampNeg), .ref ho] [] hM1 gL_law_L_choices rfl ⟨rfl, rfl⟩ ⟨(by decide +kernel), (by decide +kernel), (show _ = some 3 from by decide +kernel)⟩ ⟨by show k + 1 ≤ 601024; omega, by show n + 6 ≤ 7293034; omega⟩ ⟨Nat.le_of_ble_eq_true rfl, Nat.le_of_ble_eq_true rfl⟩ (Nat.le_of_ble_eq_true rfl) rfl dL_law_2382 rfl ?_
  have hC := gq_at (k' := k + 1) (n' := n + 6) hC ⟨by show k + 1 ≤ 601024; omega, by show n + 6 ≤ 7293034; omega⟩
  refine gq_istore hC [(5, .int kr), (4, .int i), (3, .ref ho), (2, .ref hm), (1, .ref hx), (0, .ref bs)] dL_law_2385 (by decide) rfl ?_
  refine gq_aload_n hC 3 dL_law_2387 rfl rfl ?_
  refine gq_aload_n hC 5 dL_law_2388 rfl rfl ?_
  refine gq_iload hC 1 dL_law_2389 rfl ?_
  refine gq_iconst hC 1 dL_law_2391 (by decide) ?_
  refine gq_iadd hC dL_law_2392 ?_
  refine gq_scr hC hX hbl hbA hi1 dL_law_2393 ?_
  refine gq_callJi hC hJ2 [.int (xs (i + 1).toNatClampNeg)] [] hM2 gL_law_X11_choices rfl ⟨rfl, rfl⟩ hy_X11_choices ⟨Nat.le_of_ble_eq_true rfl, Nat.le_of_ble_eq_true rfl⟩ (ci := 11) rfl rfl hv2 (Nat.le_of_ble_eq_true rfl) rfl dL_law_2394 rfl ?_
  refine gq_istore hC [(6, .int r), (5, .int kr), (4, .int i), (3, .ref ho), (2, .ref hm), (1, .ref hx), (0, .ref bs)] dL_law_2397 (by decide) rfl ?_
  refine gq_aload_n hC 4 dL_law_2399 rfl rfl ?_
  refine gq_callJi hC hJ3 [] [] hM3 gL_law_X11_thrown rfl ⟨rfl, rfl⟩ hy_X11_thrown ⟨Nat.le_of_ble_eq_true rfl, Nat.le_of_ble_eq_true rfl⟩ (ci := 11) rfl rfl hv3 (Nat.le_of_ble_eq_true rfl) rfl dL_law_2400 rfl ?_
  refine gq_iload hC 1 dL_law_2403 rfl ?_
  refine gq_icmp_eq hC 2410 dL_law_2405 (by decide) (fun _ => ?_) (fun h9 => absurd rfl h9)
  refine gq_iload hC 1 dL_law_2410 rfl ?_
  refine gq_if_ne hC 2427 dL_law_2412 (by decide) (fun _ => ?_) (fun h0 => ?_)
  · refine gq_goto hC 2643 dL_law_2427 (by decide) ?_
    exact gq_sub [(4, .int i), (3, .ref ho), (2, .ref hm), (1, .ref hx), (0, .ref bs)] [2, 3, 4, 5, 6] rfl (gq_widen (by omega) (by omega) kk)
  · refine gq_aload_n hC 3 dL_law_2415 rfl rfl ?_
    refine gq_iconst hC 0 dL_law_2416 (by decide) ?_
    refine gq_lald hC qo 1 hqo rfl (by unfold vp_in; decide) dL_law_2417 ?_
    rw [hov h0]
    refine gq_iload hC 0 dL_law_2418 rfl ?_
    refine gq_i2l hC dL_law_2420 ?_
    refine gq_lcmp hC dL_law_2421 ?_
    rw [lg_cmp_self]
    refine gq_if_eq hC 2427 dL_law_2422 (by decide) (fun _ => ?_) (fun h9 => absurd rfl h9)
    refine gq_goto hC 2643 dL_law_2427 (by decide) ?_
    exact gq_sub [(4, .int i), (3, .ref ho), (2, .ref hm), (1, .ref hx), (0, .ref bs)] [2, 3, 4, 5, 6] rfl (gq_widen (by omega) (by omega) kk)
set_option maxHeartbeats 4000000 in
theorem lw_keep {ws ws1 ws2 W1 W1' W2 W2' W3 : va_W} {hx hm ho bs L : Nat} {xs : Nat → Int32} {i : Int32} {r : Int32} {fs1 fs2 : List Value} (hC : Gc p room_1 s m args meth c D (gq_ty cI cJ cZ cO) A 7 cL_law RL lw_tbl ret k n z) (hM1 : Mi l yX10_keep wsX10_keep (rmD 5) D (gq_ty cI cJ cZ cO) z [.ref hx] W1 r W1' 0 0) (hv1 : W1[0]? = some (hx, .inr (10, fs1))) (hJ1 : gq_J ws W1 W1' ws1) (hM2 : Mi l yX11_keep wsX11_keep (rmD 2) D (gq_ty cI cJ cZ cO) z [.ref hm] W2 r W2' 0 0) (hv2 : W2[0]? = some (hm, .inr (11, fs2))) (hJ2 : gq_J ws1 W2 W2' ws2) (hkb : k + 4 ≤ 601024 ∧ n + 24 ≤ 7293034) (kk : Gx p l e room_1 s m args below meth c D A 7 Q (k + 4) (n + 24) 2643 [(4, .int i), (3, .ref ho), (2, .ref hm), (1, .ref hx), (0, .ref bs)] [] ws2) : Gx p l e room_1 s m args below meth c D A 7 Q k n 2430 [(4, .int i), (3, .ref ho), (2, .ref hm), (1, .ref hx), (0, .ref bs)] [] ws := by
  refine gq_aload_n hC 3 dL_law_2430 rfl rfl ?_
  refine gq_callJi hC hJ1 [] [] hM1 gL_law_X10_keep rfl ⟨rfl, rfl⟩ hy_X10_keep ⟨Nat.le_of_ble_eq_true rfl, Nat.le_of_ble_eq_true rfl⟩ (ci := 10) rfl rfl hv1 (Nat.le_of_ble_eq_true rfl) rfl dL_law_2431 rfl ?_
  refine gq_aload_n hC 2 dL_law_2434 rfl rfl ?_
  refine gq_callJi hC hJ2 [] [.int r] hM2 gL_law_X11_keep rfl ⟨rfl, rfl⟩ hy_X11_keep ⟨Nat.le_of_ble_eq_true rfl, Nat.le_of_ble_eq_true rfl⟩ (ci := 11) rfl rfl hv2 (Nat.le_of_ble_eq_true rfl) rfl dL_law_2435 rfl ?_
  refine gq_icmp_eq hC 2643 dL_law_2438 (by decide) (fun _ => ?_) (fun h9 => absurd rfl h9)
  exact gq_sub [(4, .int i), (3, .ref ho), (2, .ref hm), (1, .ref hx), (0, .ref bs)] [0, 1, 2, 3, 4] rfl (gq_widen (by omega) (by omega) kk)
set_option maxHeartbeats 4000000 in
theorem lw_carried {ws ws1 ws2 W1 W1' W2 W2' W3 : va_W} {hx hm ho bs L : Nat} {xs : Nat → Int32} {i : Int32} {kr : Int32} {r : Int32} {ov : Nat → Int64} {fs1 fs2 fs3 : List Value} {qo : Nat} (hC : Gc p room_1 s m args meth c D (gq_ty cI cJ cZ cO) A 7 cL_law RL lw_tbl ret k n z) (hX : va_X bs L xs s s.heap) (hbl : bs < s.heap.size) (hbA : ¬ A bs) (hi1 : vp_in (i + 1) L) (hM1 : Mi l yL_carried wsL_carried (rmX 8 1) D (gq_ty cI cJ cZ cO) z [.ref hx, .int (xs (i + 1).toNatClampNeg), .ref ho] W1 kr W1' 1 6) (hJ1 : gq_J ws W1 W1' ws1) (hM2 : Mi l yX11_carried wsX11_carried (rmD 2) D (gq_ty cI cJ cZ cO) z [.ref hm, .int (xs (i + 1).toNatClampNeg)] W2 r W2' 0 0) (hv2 : W2[0]? = some (hm, .inr (11, fs2))) (hJ2 : gq_J ws1 W2 W2' ws2) (hM3 : Mi l yX11_thrown wsX11_thrown (rmD 0) D (gq_ty cI cJ cZ cO) z [.ref hm] W3 kr W3 0 0) (hv3 : W3[0]? = some (hm, .inr (11, fs3))) (hJ3 : gq_J ws2 W3 W3 ws2) (hqo : ws2[qo]? = some (ho, .inl (cJ, 1, .inr (.inl ov)))) (hov : kr = 0 → ov (0 : Int32).toNatClampNeg = r.toInt64) (hkb : k + 4 ≤ 601024 ∧ n + 24 ≤ 7293034) (kk : Gx p l e room_1 s m args below meth c D A 7 Q (k + 4) (n + 24) 2643 [(4, .int i), (3, .ref ho), (2, .ref hm), (1, .ref hx), (0, .ref bs)] [] ws2) : Gx p l e room_1 s m args below meth c D A 7 Q k n 2443 [(4, .int i), (3, .ref ho), (2, .ref hm), (1, .ref hx), (0, .ref bs)] [] ws := by
  refine gq_aload_n hC 3 dL_law_2443 rfl rfl ?_
  refine gq_aload_n hC 4 dL_law_2444 rfl rfl ?_
  refine gq_iload hC 0 dL_law_2445 rfl ?_
  refine gq_iconst hC 1 dL_law_2447 (by decide) ?_
  refine gq_iadd hC dL_law_2448 ?_
  refine gq_scr hC hX hbl hbA hi1 dL_law_2449 ?_
  refine gq_aload_n hC 1 dL_law_2450 rfl rfl ?_
  refine gq_callSWi hC hJ1 [.ref hx, .int (xs (i + 1).toNatClampNeg), .ref ho] [] hM1 gL_law_L_carried rfl ⟨rfl, rfl⟩ ⟨(by decide +kernel), (by decide +kernel), (show _ = some 3 from by decide +kernel)⟩ ⟨by show k + 1 ≤ 601024; omega, by show n + 6 ≤ 7293034; omega⟩ ⟨Nat.le_of_ble_eq_true rfl, Nat.le_of_ble_eq_true rfl⟩ (Nat.le_of_ble_eq_true rfl) rfl dL_law_2451 rfl ?_
  have hC := gq_at (k' := k + 1) (n' := n + 6) hC ⟨by show k + 1 ≤ 601024; omega, by show n + 6 ≤ 7293034; omega⟩
  refine gq_istore hC [(5, .int kr), (4, .int i), (3, .ref ho), (2, .ref hm), (1, .ref hx), (0, .ref bs)] dL_law_2454 (by decide) rfl ?_
  refine gq_aload_n hC 3 dL_law_2456 rfl rfl ?_
  refine gq_aload_n hC 5 dL_law_2457 rfl rfl ?_
  refine gq_iload hC 1 dL_law_2458 rfl ?_
  refine gq_iconst hC 1 dL_law_2460 (by decide) ?_
  refine gq_iadd hC dL_law_2461 ?_
  refine gq_scr hC hX hbl hbA hi1 dL_law_2462 ?_
  refine gq_callJi hC hJ2 [.int (xs (i + 1).toNatClampNeg)] [] hM2 gL_law_X11_carried rfl ⟨rfl, rfl⟩ hy_X11_carried ⟨Nat.le_of_ble_eq_true rfl, Nat.le_of_ble_eq_true rfl⟩ (ci := 11) rfl rfl hv2 (Nat.le_of_ble_eq_true rfl) rfl dL_law_2463 rfl ?_
  refine gq_istore hC [(6, .int r), (5, .int kr), (4, .int i), (3, .ref ho), (2, .ref hm), (1, .ref hx), (0, .ref bs)] dL_law_2466 (by decide) rfl ?_
  refine gq_aload_n hC 4 dL_law_2468 rfl rfl ?_
  refine gq_callJi hC hJ3 [] [] hM3 gL_law_X11_thrown rfl ⟨rfl, rfl⟩ hy_X11_thrown ⟨Nat.le_of_ble_eq_true rfl, Nat.le_of_ble_eq_true rfl⟩ (ci := 11) rfl rfl hv3 (Nat.le_of_ble_eq_true rfl) rfl dL_law_2469 rfl ?_
  refine gq_iload hC 1 dL_law_2472 rfl ?_
  refine gq_icmp_eq hC 2479 dL_law_2474 (by decide) (fun _ => ?_) (fun h9 => absurd rfl h9)
  refine gq_iload hC 1 dL_law_2479 rfl ?_
  refine gq_if_ne hC 2496 dL_law_2481 (by decide) (fun _ => ?_) (fun h0 => ?_)
  · refine gq_goto hC 2643 dL_law_2496 (by decide) ?_
    exact gq_sub [(4, .int i), (3, .ref ho), (2, .ref hm), (1, .ref hx), (0, .ref bs)] [2, 3, 4, 5, 6] rfl (gq_widen (by omega) (by omega) kk)
  · refine gq_aload_n hC 3 dL_law_2484 rfl rfl ?_
    refine gq_iconst hC 0 dL_law_2485 (by decide) ?_
    refine gq_lald hC qo 1 hqo rfl (by unfold vp_in; decide) dL_law_2486 ?_
    rw [hov h0]
    refine gq_iload hC 0 dL_law_2487 rfl ?_
    refine gq_i2l hC dL_law_2489 ?_
    refine gq_lcmp hC dL_law_2490 ?_
    rw [lg_cmp_self]
    refine gq_if_eq hC 2496 dL_law_2491 (by decide) (fun _ => ?_) (fun h9 => absurd rfl h9)
    refine gq_goto hC 2643 dL_law_2496 (by decide) ?_
    exact gq_sub [(4, .int i), (3, .ref ho), (2, .ref hm), (1, .ref hx), (0, .ref bs)] [2, 3, 4, 5, 6] rfl (gq_widen (by omega) (by omega) kk)
set_option maxHeartbeats 4000000 in
theorem lw_writeChapters {ws ws1 ws2 W1 W1' W2 W2' W3 : va_W} {hx hm ho bs L : Nat} {xs : Nat → Int32} {i : Int32} {kr : Int32} {r : Int32} {ov : Nat → Int64} {fs1 fs2 fs3 : List Value} {qo : Nat} (hC : Gc p room_1 s m args meth c D (gq_ty cI cJ cZ cO) A 7 cL_law RL lw_tbl ret k n z) (hM1 : Mi l yL_writeChapters wsL_writeChapters (rmX 8 1) D (gq_ty cI cJ cZ cO) z [.ref hx, .ref ho] W1 kr W1' 1 6) (hJ1 : gq_J ws W1 W1' ws1) (hM2 : Mi l yX11_writeChapters wsX11_writeChapters (rmD 14) D (gq_ty cI cJ cZ cO) z [.ref hm] W2 r W2' 0 0) (hv2 : W2[0]? = some (hm, .inr (11, fs2))) (hJ2 : gq_J ws1 W2 W2' ws2) (hM3 : Mi l yX11_thrown wsX11_thrown (rmD 0) D (gq_ty cI cJ cZ cO) z [.ref hm] W3 kr W3 0 0) (hv3 : W3[0]? = some (hm, .inr (11, fs3))) (hJ3 : gq_J ws2 W3 W3 ws2) (hqo : ws2[qo]? = some (ho, .inl (cJ, 1, .inr (.inl ov)))) (hov : kr = 0 → ov (0 : Int32).toNatClampNeg = r.toInt64) (hkb : k + 4 ≤ 601024 ∧ n + 24 ≤ 7293034) (kk : Gx p l e room_1 s m args below meth c D A 7 Q (k + 4) (n + 24) 2643 [(4, .int i), (3, .ref ho), (2, .ref hm), (1, .ref hx), (0, .ref bs)] [] ws2) : Gx p l e room_1 s m args below meth c D A 7 Q k n 2499 [(4, .int i), (3, .ref ho), (2, .ref hm), (1, .ref hx), (0, .ref bs)] [] ws := by
  refine gq_aload_n hC 3 dL_law_2499 rfl rfl ?_
  refine gq_aload_n hC 1 dL_law_2500 rfl rfl ?_
  refine gq_callSWi hC hJ1 [.ref hx, .ref ho] [] hM1 gL_law_L_writeChapters rfl ⟨rfl, rfl⟩ ⟨(by decide +kernel), (by decide +kernel), (show _ = some 2 from by decide +kernel)⟩ ⟨by show k + 1 ≤ 601024; omega, by show n + 6 ≤ 7293034; omega⟩ ⟨Nat.le_of_ble_eq_true rfl, Nat.le_of_ble_eq_true rfl⟩ (Nat.le_of_ble_eq_true rfl) rfl dL_law_2501 rfl ?_
  have hC := gq_at (k' := k + 1) (n' := n + 6) hC ⟨by show k + 1 ≤ 601024; omega, by show n + 6 ≤ 7293034; omega⟩
  refine gq_istore hC [(5, .int kr), (4, .int i), (3, .ref ho), (2, .ref hm), (1, .ref hx), (0, .ref bs)] dL_law_2504 (by decide) rfl ?_
  refine gq_aload_n hC 3 dL_law_2506 rfl rfl ?_
  refine gq_callJi hC hJ2 [] [] hM2 gL_law_X11_writeChapters rfl ⟨rfl, rfl⟩ hy_X11_writeChapters ⟨Nat.le_of_ble_eq_true rfl, Nat.le_of_ble_eq_true rfl⟩ (ci := 11) rfl rfl hv2 (Nat.le_of_ble_eq_true rfl) rfl dL_law_2507 rfl ?_
  refine gq_istore hC [(6, .int r), (5, .int kr), (4, .int i), (3, .ref ho), (2, .ref hm), (1, .ref hx), (0, .ref bs)] dL_law_2510 (by decide) rfl ?_
  refine gq_aload_n hC 4 dL_law_2512 rfl rfl ?_
  refine gq_callJi hC hJ3 [] [] hM3 gL_law_X11_thrown rfl ⟨rfl, rfl⟩ hy_X11_thrown ⟨Nat.le_of_ble_eq_true rfl, Nat.le_of_ble_eq_true rfl⟩ (ci := 11) rfl rfl hv3 (Nat.le_of_ble_eq_true rfl) rfl dL_law_2513 rfl ?_
  refine gq_iload hC 1 dL_law_2516 rfl ?_
  refine gq_icmp_eq hC 2523 dL_law_2518 (by decide) (fun _ => ?_) (fun h9 => absurd rfl h9)
  refine gq_iload hC 1 dL_law_2523 rfl ?_
  refine gq_if_ne hC 2540 dL_law_2525 (by decide) (fun _ => ?_) (fun h0 => ?_)
  · refine gq_goto hC 2643 dL_law_2540 (by decide) ?_
    exact gq_sub [(4, .int i), (3, .ref ho), (2, .ref hm), (1, .ref hx), (0, .ref bs)] [2, 3, 4, 5, 6] rfl (gq_widen (by omega) (by omega) kk)
  · refine gq_aload_n hC 3 dL_law_2528 rfl rfl ?_
    refine gq_iconst hC 0 dL_law_2529 (by decide) ?_
    refine gq_lald hC qo 1 hqo rfl (by unfold vp_in; decide) dL_law_2530 ?_
    rw [hov h0]
    refine gq_iload hC 0 dL_law_2531 rfl ?_
    refine gq_i2l hC dL_law_2533 ?_
    refine gq_lcmp hC dL_law_2534 ?_
    rw [lg_cmp_self]
    refine gq_if_eq hC 2540 dL_law_2535 (by decide) (fun _ => ?_) (fun h9 => absurd rfl h9)
    refine gq_goto hC 2643 dL_law_2540 (by decide) ?_
    exact gq_sub [(4, .int i), (3, .ref ho), (2, .ref hm), (1, .ref hx), (0, .ref bs)] [2, 3, 4, 5, 6] rfl (gq_widen (by omega) (by omega) kk)
set_option maxHeartbeats 4000000 in
theorem lw_writtenByte {ws ws1 ws2 W1 W1' W2 W2' W3 : va_W} {hx hm ho bs L : Nat} {xs : Nat → Int32} {i : Int32} {kr : Int32} {r : Int32} {ov : Nat → Int64} {fs1 fs2 fs3 : List Value} {qo : Nat} (hC : Gc p room_1 s m args meth c D (gq_ty cI cJ cZ cO) A 7 cL_law RL lw_tbl ret k n z) (hX : va_X bs L xs s s.heap) (hbl : bs < s.heap.size) (hbA : ¬ A bs) (hi1 : vp_in (i + 1) L) (hM1 : Mi l yL_writtenByte wsL_writtenByte (rmX 7 1) D (gq_ty cI cJ cZ cO) z [.ref hx, .int (xs (i + 1).toNatClampNeg), .ref ho] W1 kr W1' 1 6) (hJ1 : gq_J ws W1 W1' ws1) (hM2 : Mi l yX11_writtenByte wsX11_writtenByte (rmD 1) D (gq_ty cI cJ cZ cO) z [.ref hm, .int (xs (i + 1).toNatClampNeg)] W2 r W2' 0 0) (hv2 : W2[0]? = some (hm, .inr (11, fs2))) (hJ2 : gq_J ws1 W2 W2' ws2) (hM3 : Mi l yX11_thrown wsX11_thrown (rmD 0) D (gq_ty cI cJ cZ cO) z [.ref hm] W3 kr W3 0 0) (hv3 : W3[0]? = some (hm, .inr (11, fs3))) (hJ3 : gq_J ws2 W3 W3 ws2) (hqo : ws2[qo]? = some (ho, .inl (cJ, 1, .inr (.inl ov)))) (hov : kr = 0 → ov (0 : Int32).toNatClampNeg = r.toInt64) (hkb : k + 4 ≤ 601024 ∧ n + 24 ≤ 7293034) (kk : Gx p l e room_1 s m args below meth c D A 7 Q (k + 4) (n + 24) 2643 [(4, .int i), (3, .ref ho), (2, .ref hm), (1, .ref hx), (0, .ref bs)] [] ws2) : Gx p l e room_1 s m args below meth c D A 7 Q k n 2543 [(4, .int i), (3, .ref ho), (2, .ref hm), (1, .ref hx), (0, .ref bs)] [] ws := by
  refine gq_aload_n hC 3 dL_law_2543 rfl rfl ?_
  refine gq_aload_n hC 4 dL_law_2544 rfl rfl ?_
  refine gq_iload hC 0 dL_law_2545 rfl ?_
  refine gq_iconst hC 1 dL_law_2547 (by decide) ?_
  refine gq_iadd hC dL_law_2548 ?_
  refine gq_scr hC hX hbl hbA hi1 dL_law_2549 ?_
  refine gq_aload_n hC 1 dL_law_2550 rfl rfl ?_
  refine gq_callSWi hC hJ1 [.ref hx, .int (xs (i + 1).toNatClampNeg), .ref ho] [] hM1 gL_law_L_writtenByte rfl ⟨rfl, rfl⟩ ⟨(by decide +kernel), (by decide +kernel), (show _ = some 3 from by decide +kernel)⟩ ⟨by show k + 1 ≤ 601024; omega, by show n + 6 ≤ 7293034; omega⟩ ⟨Nat.le_of_ble_eq_true rfl, Nat.le_of_ble_eq_true rfl⟩ (Nat.le_of_ble_eq_true rfl) rfl dL_law_2551 rfl ?_
  have hC := gq_at (k' := k + 1) (n' := n + 6) hC ⟨by show k + 1 ≤ 601024; omega, by show n + 6 ≤ 7293034; omega⟩
  refine gq_istore hC [(5, .int kr), (4, .int i), (3, .ref ho), (2, .ref hm), (1, .ref hx), (0, .ref bs)] dL_law_2554 (by decide) rfl ?_
  refine gq_aload_n hC 3 dL_law_2556 rfl rfl ?_
  refine gq_aload_n hC 5 dL_law_2557 rfl rfl ?_
  refine gq_iload hC 1 dL_law_2558 rfl ?_
  refine gq_iconst hC 1 dL_law_2560 (by decide) ?_
  refine gq_iadd hC dL_law_2561 ?_
  refine gq_scr hC hX hbl hbA hi1 dL_law_2562 ?_
  refine gq_callJi hC hJ2 [.int (xs (i + 1).toNatClampNeg)] [] hM2 gL_law_X11_writtenByte rfl ⟨rfl, rfl⟩ hy_X11_writtenByte ⟨Nat.le_of_ble_eq_true rfl, Nat.le_of_ble_eq_true rfl⟩ (ci := 11) rfl rfl hv2 (Nat.le_of_ble_eq_true rfl) rfl dL_law_2563 rfl ?_
  refine gq_istore hC [(6, .int r), (5, .int kr), (4, .int i), (3, .ref ho), (2, .ref hm), (1, .ref hx), (0, .ref bs)] dL_law_2566 (by decide) rfl ?_
  refine gq_aload_n hC 4 dL_law_2568 rfl rfl ?_
  refine gq_callJi hC hJ3 [] [] hM3 gL_law_X11_thrown rfl ⟨rfl, rfl⟩ hy_X11_thrown ⟨Nat.le_of_ble_eq_true rfl, Nat.le_of_ble_eq_true rfl⟩ (ci := 11) rfl rfl hv3 (Nat.le_of_ble_eq_true rfl) rfl dL_law_2569 rfl ?_
  refine gq_iload hC 1 dL_law_2572 rfl ?_
  refine gq_icmp_eq hC 2579 dL_law_2574 (by decide) (fun _ => ?_) (fun h9 => absurd rfl h9)
  refine gq_iload hC 1 dL_law_2579 rfl ?_
  refine gq_if_ne hC 2596 dL_law_2581 (by decide) (fun _ => ?_) (fun h0 => ?_)
  · refine gq_goto hC 2643 dL_law_2596 (by decide) ?_
    exact gq_sub [(4, .int i), (3, .ref ho), (2, .ref hm), (1, .ref hx), (0, .ref bs)] [2, 3, 4, 5, 6] rfl (gq_widen (by omega) (by omega) kk)
  · refine gq_aload_n hC 3 dL_law_2584 rfl rfl ?_
    refine gq_iconst hC 0 dL_law_2585 (by decide) ?_
    refine gq_lald hC qo 1 hqo rfl (by unfold vp_in; decide) dL_law_2586 ?_
    rw [hov h0]
    refine gq_iload hC 0 dL_law_2587 rfl ?_
    refine gq_i2l hC dL_law_2589 ?_
    refine gq_lcmp hC dL_law_2590 ?_
    rw [lg_cmp_self]
    refine gq_if_eq hC 2596 dL_law_2591 (by decide) (fun _ => ?_) (fun h9 => absurd rfl h9)
    refine gq_goto hC 2643 dL_law_2596 (by decide) ?_
    exact gq_sub [(4, .int i), (3, .ref ho), (2, .ref hm), (1, .ref hx), (0, .ref bs)] [2, 3, 4, 5, 6] rfl (gq_widen (by omega) (by omega) kk)
set_option maxHeartbeats 4000000 in
theorem lw_undo {ws ws1 ws2 W1 W1' W2 W2' W3 : va_W} {hx hm ho bs L : Nat} {xs : Nat → Int32} {i : Int32} {kr : Int32} {r : Int32} {ov : Nat → Int64} {fs1 fs2 fs3 : List Value} {qo : Nat} (hC : Gc p room_1 s m args meth c D (gq_ty cI cJ cZ cO) A 7 cL_law RL lw_tbl ret k n z) (hM1 : Mi l yL_undo wsL_undo (rmX 7 1) D (gq_ty cI cJ cZ cO) z [.ref hx, .ref ho] W1 kr W1' 1 6) (hJ1 : gq_J ws W1 W1' ws1) (hM2 : Mi l yX11_undo wsX11_undo (rmD 0) D (gq_ty cI cJ cZ cO) z [.ref hm] W2 r W2' 0 0) (hv2 : W2[0]? = some (hm, .inr (11, fs2))) (hJ2 : gq_J ws1 W2 W2' ws2) (hM3 : Mi l yX11_thrown wsX11_thrown (rmD 0) D (gq_ty cI cJ cZ cO) z [.ref hm] W3 kr W3 0 0) (hv3 : W3[0]? = some (hm, .inr (11, fs3))) (hJ3 : gq_J ws2 W3 W3 ws2) (hqo : ws2[qo]? = some (ho, .inl (cJ, 1, .inr (.inl ov)))) (hov : kr = 0 → ov (0 : Int32).toNatClampNeg = r.toInt64) (hkb : k + 4 ≤ 601024 ∧ n + 24 ≤ 7293034) (kk : Gx p l e room_1 s m args below meth c D A 7 Q (k + 4) (n + 24) 2643 [(4, .int i), (3, .ref ho), (2, .ref hm), (1, .ref hx), (0, .ref bs)] [] ws2) : Gx p l e room_1 s m args below meth c D A 7 Q k n 2599 [(4, .int i), (3, .ref ho), (2, .ref hm), (1, .ref hx), (0, .ref bs)] [] ws := by
  refine gq_aload_n hC 3 dL_law_2599 rfl rfl ?_
  refine gq_aload_n hC 1 dL_law_2600 rfl rfl ?_
  refine gq_callSWi hC hJ1 [.ref hx, .ref ho] [] hM1 gL_law_L_undo rfl ⟨rfl, rfl⟩ ⟨(by decide +kernel), (by decide +kernel), (show _ = some 2 from by decide +kernel)⟩ ⟨by show k + 1 ≤ 601024; omega, by show n + 6 ≤ 7293034; omega⟩ ⟨Nat.le_of_ble_eq_true rfl, Nat.le_of_ble_eq_true rfl⟩ (Nat.le_of_ble_eq_true rfl) rfl dL_law_2601 rfl ?_
  have hC := gq_at (k' := k + 1) (n' := n + 6) hC ⟨by show k + 1 ≤ 601024; omega, by show n + 6 ≤ 7293034; omega⟩
  refine gq_istore hC [(5, .int kr), (4, .int i), (3, .ref ho), (2, .ref hm), (1, .ref hx), (0, .ref bs)] dL_law_2604 (by decide) rfl ?_
  refine gq_aload_n hC 3 dL_law_2606 rfl rfl ?_
  refine gq_callJi hC hJ2 [] [] hM2 gL_law_X11_undo rfl ⟨rfl, rfl⟩ hy_X11_undo ⟨Nat.le_of_ble_eq_true rfl, Nat.le_of_ble_eq_true rfl⟩ (ci := 11) rfl rfl hv2 (Nat.le_of_ble_eq_true rfl) rfl dL_law_2607 rfl ?_
  refine gq_istore hC [(6, .int r), (5, .int kr), (4, .int i), (3, .ref ho), (2, .ref hm), (1, .ref hx), (0, .ref bs)] dL_law_2610 (by decide) rfl ?_
  refine gq_aload_n hC 4 dL_law_2612 rfl rfl ?_
  refine gq_callJi hC hJ3 [] [] hM3 gL_law_X11_thrown rfl ⟨rfl, rfl⟩ hy_X11_thrown ⟨Nat.le_of_ble_eq_true rfl, Nat.le_of_ble_eq_true rfl⟩ (ci := 11) rfl rfl hv3 (Nat.le_of_ble_eq_true rfl) rfl dL_law_2613 rfl ?_
  refine gq_iload hC 1 dL_law_2616 rfl ?_
  refine gq_icmp_eq hC 2623 dL_law_2618 (by decide) (fun _ => ?_) (fun h9 => absurd rfl h9)
  refine gq_iload hC 1 dL_law_2623 rfl ?_
  refine gq_if_ne hC 2640 dL_law_2625 (by decide) (fun _ => ?_) (fun h0 => ?_)
  · refine gq_goto hC 2643 dL_law_2640 (by decide) ?_
    exact gq_sub [(4, .int i), (3, .ref ho), (2, .ref hm), (1, .ref hx), (0, .ref bs)] [2, 3, 4, 5, 6] rfl (gq_widen (by omega) (by omega) kk)
  · refine gq_aload_n hC 3 dL_law_2628 rfl rfl ?_
    refine gq_iconst hC 0 dL_law_2629 (by decide) ?_
    refine gq_lald hC qo 1 hqo rfl (by unfold vp_in; decide) dL_law_2630 ?_
    rw [hov h0]
    refine gq_iload hC 0 dL_law_2631 rfl ?_
    refine gq_i2l hC dL_law_2633 ?_
    refine gq_lcmp hC dL_law_2634 ?_
    rw [lg_cmp_self]
    refine gq_if_eq hC 2640 dL_law_2635 (by decide) (fun _ => ?_) (fun h9 => absurd rfl h9)
    refine gq_goto hC 2643 dL_law_2640 (by decide) ?_
    exact gq_sub [(4, .int i), (3, .ref ho), (2, .ref hm), (1, .ref hx), (0, .ref bs)] [2, 3, 4, 5, 6] rfl (gq_widen (by omega) (by omega) kk)
end LWK
