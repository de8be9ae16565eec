/-! the law: both hold the same -/
abbrev lvL (i : Nat) : List (Nat × Value) := [(3, .int (nI (6 * i))), (0, .ref (100000 + 0)), (1, .ref 0), (2, .ref 57)]
abbrev VA (g : Ev) (pc : Nat) (st : List Value) (S : St) (iv : IV) (lw : LW) (i : Nat) (Q : Option Value → Dt → Prop) : Prop := V g mL_law pc (lvL i) st (S.1, S.2, iv, lw) (200 + 42 * i) (3000 + 902 * i) Q
abbrev VB (g : Ev) (pc : Nat) (st : List Value) (S : St) (iv : IV) (lw : LW) (i : Nat) (Q : Option Value → Dt → Prop) : Prop := V g mL_law pc (lvL i) st (S.1, S.2, iv, lw) (200 + 42 * (i + 1)) (3000 + 902 * (i + 1)) Q
def LR (S : St) (iv : IV) (lw : LW) (X : Xs) (i : Nat) : Prop := IsX S ∧ CX iv lw X ∧ SS S 57 ∧ MX S iv lw 57 X ∧ S.1.1 ≤ 99 + 42 * i
theorem LR.up {S : St} {iv : IV} {lw : LW} {X : Xs} {i : Nat} (h : LR S iv lw X i) : LR S iv lw X (i + 1) := ⟨h.1, h.2.1, h.2.2.1, h.2.2.2.1, Nat.le_trans h.2.2.2.2 (by omega)⟩
theorem CX.fr57 {iv iv2 : IV} {lw lw2 : LW} {X : Xs} (h : CX iv lw X) (ho : ∀ a, a < 57 → iv2 a = iv a ∧ lw2 a = lw a) : CX iv2 lw2 X := by
  obtain ⟨a1, a2, a3, a4, ⟨s, e, a5⟩, a6, a7⟩ := h
  exact ⟨a1.of (fun a g1 g2 => (ho a (by omega)).1), by rw [(ho 0 (by omega)).1]; exact a2, fun K hK => (a3 K hK).of (fun a g1 g2 => (ho a (by omega)).1), fun s hs => (a4 s hs).of (ho _ (by omega)).1 (ho _ (by omega)).2, ⟨s, e, a5.of (ho _ (by omega)).1 (ho _ (by omega)).1⟩, fun j hj => by rw [(ho 56 (by omega)).1]; exact a6 j hj, a7⟩
theorem MX.off0 {S : St} {iv iv2 : IV} {lw lw2 : LW} {X : Xs} (h : MX S iv lw 57 X) (hk : XOK X) (hO : Off 0 57 iv iv2) (hL : Off 0 57 lw lw2) : MX S iv2 lw2 57 X :=
  ⟨h.1.fr hk.1 (fun a k ha => congrFun (hO a (by omega)) k), fun s hs => (h.2.1 s hs).fr (fun a ha => congrFun (hO a (by omega)) s) (hL _ (by omega)), h.2.2.1.fr (congrFun (hO _ (by omega)) _) (fun k => congrFun (hO _ (by omega)) k), h.2.2.2.1.fr (fun k => congrFun (hO _ (by omega)) k), h.2.2.2.2.fr hk.2.2.2.2 (fun a k ha => congrFun (hO a (by omega)) k)⟩
def scA (g : Ev) (i m : Nat) : Int32 := g.2.2.2.2.2.2 (nI (6 * i) + nI m).toNatClampNeg
def lgA (g : Ev) (i : Nat) : Int64 := ((scA g i 3).toInt64 <<< ((nI 32).toInt64 &&& 63)) ||| ((scA g i 4).toInt64 &&& 4294967295)
section
variable {g : Ev} {S : St} {iv : IV} {lw : LW} {X : Xs} {i : Nat} {Q : Option Value → Dt → Prop} {pc : Nat} {st : List Value}
theorem L_arg {m : Nat} {q0 q3 : Fin 4} {z : Int} {D : Dt} {k n : Nat} (h0 : decode cL_law pc = .ok (.aload_n q0, 1)) (h3 : decode cL_law (pc + 1) = .ok (.iload_n q3, 1)) (h1 : decode cL_law (pc + 1 + 1) = .ok (.iconst z, 1)) (h4 : decode cL_law (pc + 1 + 1 + 1) = .ok (.iadd, 1)) (h5 : decode cL_law (pc + 1 + 1 + 1 + 1) = .ok (.iaload, 1)) (hq : (q0 : Nat) = 0 ∧ (q3 : Nat) = 3 ∧ Int32.ofInt z = nI m) (hm : m < 6) (hL : 6 * i + 6 ≤ g.2.2.2.2.2.1 ∧ g.2.2.2.2.2.1 ≤ 3072) (h : V g mL_law (pc + 1 + 1 + 1 + 1 + 1) (lvL i) (.int (scA g i m) :: st) D k n Q) : V g mL_law pc (lvL i) st D k n Q := by
  refine V_aload_n (i := 0) h0 hq.1 1 rfl ?_
  refine V_iload_n (i := 3) h3 hq.2.1 0 rfl ?_
  refine V_iconst h1 hq.2.2 ?_
  refine V_iadd h4 ?_
  exact V_scr h5 (by rw [nI_add]; exact vp_in_nI (by omega) (by omega)) h
theorem L_bool {x : Int32} {D : Dt} {k n : Nat} (h0 : decode cL_law pc = .ok (.ifCond .eq 7, 3)) (h1 : decode cL_law (pc + 3) = .ok (.iconst 1, 1)) (h2 : decode cL_law (pc + 3 + 1) = .ok (.goto 4, 3)) (h3 : decode cL_law (pc + 7) = .ok (.iconst 0, 1)) (h : V g mL_law (pc + 8) (lvL i) (.int (bI (decide (¬ x = 0) = true)) :: st) D k n Q) : V g mL_law pc (lvL i) (.int x :: st) D k n Q := by
  refine V_if_eq (tgt := pc + 7) h0 (by omega) (fun e => ?_) (fun e => ?_)
  · refine V_iconst (v := nI 0) h3 rfl ?_
    rw [bI_f (by rw [decide_eq_true_eq]; exact fun z => z e)] at h
    exact h
  · refine V_iconst (v := nI 1) h1 rfl ?_
    refine V_goto (tgt := pc + 8) h2 (by omega) ?_
    rw [bI_t (by rw [decide_eq_true_eq]; exact e)] at h
    exact h
theorem L_c {idx np : Nat} {z : Yt} {As : List Value} {r : Ans} (hR : LR S iv lw X i) (hi : i < 512) (hd : decode cL_law pc = .ok (.invokevirtual idx, 3)) (hl : LV RL idx z np) (hrm : RM mL_law z) (hz : pure0 z) (hnp : As.length = np) (hcn : "SoupOrHorses" = z.1.cls) (hM : CQ g z (.ref 0 :: As) S iv lw (fun w iv2 lw2 => OP iv lw r w iv2 lw2)) (h : ∀ iv2 lw2, CX iv2 lw2 r.2 → MX S iv2 lw2 57 X → VA g (pc + 3) [.int r.1] S iv2 lw2 i Q) : VA g pc (As.reverse ++ [.ref 0]) S iv lw i Q :=
  V_callV (st := []) hd hl hrm hnp (hR.1.1.rcv (iv := iv) (lw := lw) rfl (ci := 6) rfl hcn) (by decide) (by rw [hz.1]; exact Nat.le_refl _) (by show 200 + 42 * i ≤ 600000; omega) (by rw [hz.2]; exact Nat.le_refl _) (by show 3000 + 902 * i ≤ 7302249; omega) hM (fun v D q => by
    obtain ⟨w, iv2, lw2, rfl, rfl, rfl, q2, q3, q4⟩ := q
    exact h iv2 lw2 q2 (hR.2.2.2.1.off0 hR.2.1.xok q3 q4))
theorem L_r {idx np : Nat} {z : Yt} {As : List Value} {r : Ans} {x : Value} {iv0 : IV} {lw0 : LW} (hR : LR S iv0 lw0 X i) (hc : CX iv lw r.2) (hi : i < 512) (hx : x.category ≤ 8) (hd : decode cL_law pc = .ok (.invokevirtual idx, 3)) (hl : LV RL idx z np) (hrm : RM mL_law z) (hz : y_mc z ≤ 42 ∧ y_ms z ≤ 902) (hnp : As.length = np) (hcn : "SoupOrHorsesModel" = z.1.cls) (hM : CT g z (.ref 57 :: As) (S.1, S.2, iv, lw) (NQ S 57 iv lw r)) (h : ∀ S3 iv3 lw3, LR S3 iv3 lw3 r.2 (i + 1) → VB g (pc + 3) [.int r.1, x] S3 iv3 lw3 i Q) : VA g pc (As.reverse ++ [.ref 57, x]) S iv lw i Q :=
  V_callV (st := [x]) hd hl hrm hnp (hR.2.2.1.1.1.rcv (iv := iv) (lw := lw) rfl (ci := 7) rfl hcn) (by show x.category + 0 ≤ 8; omega) (k2 := 200 + 42 * (i + 1)) (n2 := 3000 + 902 * (i + 1)) (by omega) (by show 200 + 42 * (i + 1) ≤ 600000; omega) (by omega) (by show 3000 + 902 * (i + 1) ≤ 7302249; omega) hM (fun v D q => by
    obtain ⟨S3, iv3, lw3, rfl, rfl, q1, q2, q3, q4⟩ := q
    exact h S3 iv3 lw3 ⟨hR.1.mg q1, hc.fr57 q4, q2, q3, by have := q1.1.2; have := hR.2.2.2.2; omega⟩)
theorem L_cE {idx np : Nat} {z : Yt} {As : List Value} {w : Value} (hR : LR S iv lw X i) (hi : i < 512) (hd : decode cL_law pc = .ok (.invokevirtual idx, 3)) (hl : LV RL idx z np) (hrm : RM mL_law z) (hz : pure0 z) (hnp : As.length = np) (hcn : "SoupOrHorses" = z.1.cls) (hM : CP g z (.ref 0 :: As) S iv lw w) (h : VA g (pc + 3) [w] S iv lw i Q) : VA g pc (As.reverse ++ [.ref 0]) S iv lw i Q :=
  V_callV (st := []) hd hl hrm hnp (hR.1.1.rcv (iv := iv) (lw := lw) rfl (ci := 6) rfl hcn) (by decide) (by rw [hz.1]; exact Nat.le_refl _) (by show 200 + 42 * i ≤ 600000; omega) (by rw [hz.2]; exact Nat.le_refl _) (by show 3000 + 902 * i ≤ 7302249; omega) hM (fun v D q => by
    obtain ⟨rfl, rfl⟩ := q
    exact h)
theorem L_rE {idx np : Nat} {z : Yt} {As : List Value} {w x : Value} (hR : LR S iv lw X i) (hi : i < 512) (hx : x.category ≤ 8) (hd : decode cL_law pc = .ok (.invokevirtual idx, 3)) (hl : LV RL idx z np) (hrm : RM mL_law z) (hz : y_mc z ≤ 42 ∧ y_ms z ≤ 902) (hnp : As.length = np) (hcn : "SoupOrHorsesModel" = z.1.cls) (hM : CP g z (.ref 57 :: As) S iv lw w) (h : VB g (pc + 3) [w, x] S iv lw i Q) : VA g pc (As.reverse ++ [.ref 57, x]) S iv lw i Q :=
  V_callV (st := [x]) hd hl hrm hnp (hR.2.2.1.1.1.rcv (iv := iv) (lw := lw) rfl (ci := 7) rfl hcn) (by show x.category + 0 ≤ 8; omega) (k2 := 200 + 42 * (i + 1)) (n2 := 3000 + 902 * (i + 1)) (by omega) (by show 200 + 42 * (i + 1) ≤ 600000; omega) (by omega) (by show 3000 + 902 * (i + 1) ≤ 7302249; omega) hM (fun v D q => by
    obtain ⟨rfl, rfl⟩ := q
    exact h)
end
set_option maxRecDepth 20000 in
theorem seg_row {g : Ev} {S : St} {iv : IV} {lw : LW} {X : Xs} {i : Nat} {Q : Option Value → Dt → Prop} (hR : LR S iv lw X i) (hi : i < 512) (hL : 6 * i + 6 ≤ g.2.2.2.2.2.1 ∧ g.2.2.2.2.2.1 ≤ 3072) (hQ : ∀ S3 iv3 lw3 X3, LR S3 iv3 lw3 X3 (i + 1) → VB g 2008 [] S3 iv3 lw3 i Q) : VA g 260 [] S iv lw i Q := by
  refine V_aload_n (i := 1) dL_law_260 rfl 2 rfl ?_
  refine L_arg (m := 1) dL_law_261 dL_law_262 dL_law_263 dL_law_264 dL_law_265 ⟨rfl, rfl, rfl⟩ (by decide) hL ?_
  refine L_arg (m := 2) dL_law_266 dL_law_267 dL_law_268 dL_law_269 dL_law_270 ⟨rfl, rfl, rfl⟩ (by decide) hL ?_
  refine L_arg (m := 3) dL_law_271 dL_law_272 dL_law_273 dL_law_274 dL_law_275 ⟨rfl, rfl, rfl⟩ (by decide) hL ?_
  refine L_c (As := [.int (scA g i 1), .int (scA g i 2), .int (scA g i 3)]) hR hi dL_law_276 lv_L_13 ⟨by decide, by decide⟩ ⟨rfl, rfl⟩ rfl rfl (k_row hR.1 hR.2.1) (fun iv2 lw2 hc hm => ?_)
  refine V_aload_n (i := 2) dL_law_279 rfl 3 rfl ?_
  refine L_arg (m := 1) dL_law_280 dL_law_281 dL_law_282 dL_law_283 dL_law_284 ⟨rfl, rfl, rfl⟩ (by decide) hL ?_
  refine L_arg (m := 2) dL_law_285 dL_law_286 dL_law_287 dL_law_288 dL_law_289 ⟨rfl, rfl, rfl⟩ (by decide) hL ?_
  refine L_arg (m := 3) dL_law_290 dL_law_291 dL_law_292 dL_law_293 dL_law_294 ⟨rfl, rfl, rfl⟩ (by decide) hL ?_
  refine L_r (As := [.int (scA g i 1), .int (scA g i 2), .int (scA g i 3)]) hR hc hi (Nat.le_of_ble_eq_true rfl) dL_law_295 lv_L_17 ⟨by decide, by decide⟩ ⟨by decide, by decide⟩ rfl rfl (CQ.nq hR.2.2.1 (q_row hR.2.2.1 hm hR.2.1.xok)) (fun S3 iv3 lw3 h3 => ?_)
  exact V_icmp_eq (tgt := 2008) dL_law_298 rfl (fun _ => hQ _ _ _ _ h3) (fun q => absurd rfl q)
set_option maxRecDepth 20000 in
theorem seg_set {g : Ev} {S : St} {iv : IV} {lw : LW} {X : Xs} {i : Nat} {Q : Option Value → Dt → Prop} (hR : LR S iv lw X i) (hi : i < 512) (hL : 6 * i + 6 ≤ g.2.2.2.2.2.1 ∧ g.2.2.2.2.2.1 ≤ 3072) (hQ : ∀ S3 iv3 lw3 X3, LR S3 iv3 lw3 X3 (i + 1) → VB g 2008 [] S3 iv3 lw3 i Q) : VA g 303 [] S iv lw i Q := by
  refine V_aload_n (i := 1) dL_law_303 rfl 2 rfl ?_
  refine L_arg (m := 1) dL_law_304 dL_law_305 dL_law_306 dL_law_307 dL_law_308 ⟨rfl, rfl, rfl⟩ (by decide) hL ?_
  refine L_arg (m := 2) dL_law_309 dL_law_310 dL_law_311 dL_law_312 dL_law_313 ⟨rfl, rfl, rfl⟩ (by decide) hL ?_
  refine L_arg (m := 3) dL_law_314 dL_law_315 dL_law_316 dL_law_317 dL_law_318 ⟨rfl, rfl, rfl⟩ (by decide) hL ?_
  refine V_i2l dL_law_319 ?_
  refine V_bipush (v := nI 32) dL_law_320 rfl ?_
  refine V_lshl dL_law_322 ?_
  refine L_arg (m := 4) dL_law_323 dL_law_324 dL_law_325 dL_law_326 dL_law_327 ⟨rfl, rfl, rfl⟩ (by decide) hL ?_
  refine V_i2l dL_law_328 ?_
  refine V_ldc2 dL_law_329 mw_1652 ?_
  refine V_land dL_law_332 ?_
  refine V_lor dL_law_333 ?_
  refine L_c (As := [.int (scA g i 1), .int (scA g i 2), .long (lgA g i)]) hR hi dL_law_334 lv_L_20 ⟨by decide, by decide⟩ ⟨rfl, rfl⟩ rfl rfl (k_set hR.1 hR.2.1) (fun iv2 lw2 hc hm => ?_)
  refine V_aload_n (i := 2) dL_law_337 rfl 3 rfl ?_
  refine L_arg (m := 1) dL_law_338 dL_law_339 dL_law_340 dL_law_341 dL_law_342 ⟨rfl, rfl, rfl⟩ (by decide) hL ?_
  refine L_arg (m := 2) dL_law_343 dL_law_344 dL_law_345 dL_law_346 dL_law_347 ⟨rfl, rfl, rfl⟩ (by decide) hL ?_
  refine L_arg (m := 3) dL_law_348 dL_law_349 dL_law_350 dL_law_351 dL_law_352 ⟨rfl, rfl, rfl⟩ (by decide) hL ?_
  refine V_i2l dL_law_353 ?_
  refine V_bipush (v := nI 32) dL_law_354 rfl ?_
  refine V_lshl dL_law_356 ?_
  refine L_arg (m := 4) dL_law_357 dL_law_358 dL_law_359 dL_law_360 dL_law_361 ⟨rfl, rfl, rfl⟩ (by decide) hL ?_
  refine V_i2l dL_law_362 ?_
  refine V_ldc2 dL_law_363 mw_1652 ?_
  refine V_land dL_law_366 ?_
  refine V_lor dL_law_367 ?_
  refine L_r (As := [.int (scA g i 1), .int (scA g i 2), .long (lgA g i)]) hR hc hi (Nat.le_of_ble_eq_true rfl) dL_law_368 lv_L_24 ⟨by decide, by decide⟩ ⟨by decide, by decide⟩ rfl rfl (CQ.nq hR.2.2.1 (q_set hR.2.2.1 hm hR.2.1.xok)) (fun S3 iv3 lw3 h3 => ?_)
  exact V_icmp_eq (tgt := 2008) dL_law_371 rfl (fun _ => hQ _ _ _ _ h3) (fun q => absurd rfl q)
set_option maxRecDepth 20000 in
theorem seg_copy {g : Ev} {S : St} {iv : IV} {lw : LW} {X : Xs} {i : Nat} {Q : Option Value → Dt → Prop} (hR : LR S iv lw X i) (hi : i < 512) (hL : 6 * i + 6 ≤ g.2.2.2.2.2.1 ∧ g.2.2.2.2.2.1 ≤ 3072) (hQ : ∀ S3 iv3 lw3 X3, LR S3 iv3 lw3 X3 (i + 1) → VB g 2008 [] S3 iv3 lw3 i Q) : VA g 376 [] S iv lw i Q := by
  refine V_aload_n (i := 1) dL_law_376 rfl 2 rfl ?_
  refine L_arg (m := 1) dL_law_377 dL_law_378 dL_law_379 dL_law_380 dL_law_381 ⟨rfl, rfl, rfl⟩ (by decide) hL ?_
  refine L_arg (m := 2) dL_law_382 dL_law_383 dL_law_384 dL_law_385 dL_law_386 ⟨rfl, rfl, rfl⟩ (by decide) hL ?_
  refine L_arg (m := 3) dL_law_387 dL_law_388 dL_law_389 dL_law_390 dL_law_391 ⟨rfl, rfl, rfl⟩ (by decide) hL ?_
  refine L_arg (m := 4) dL_law_392 dL_law_393 dL_law_394 dL_law_395 dL_law_396 ⟨rfl, rfl, rfl⟩ (by decide) hL ?_
  refine L_arg (m := 5) dL_law_397 dL_law_398 dL_law_399 dL_law_400 dL_law_401 ⟨rfl, rfl, rfl⟩ (by decide) hL ?_
  refine L_c (As := [.int (scA g i 1), .int (scA g i 2), .int (scA g i 3), .int (scA g i 4), .int (scA g i 5)]) hR hi dL_law_402 lv_L_25 ⟨by decide, by decide⟩ ⟨rfl, rfl⟩ rfl rfl (k_copy hR.1 hR.2.1) (fun iv2 lw2 hc hm => ?_)
  refine V_aload_n (i := 2) dL_law_405 rfl 3 rfl ?_
  refine L_arg (m := 1) dL_law_406 dL_law_407 dL_law_408 dL_law_409 dL_law_410 ⟨rfl, rfl, rfl⟩ (by decide) hL ?_
  refine L_arg (m := 2) dL_law_411 dL_law_412 dL_law_413 dL_law_414 dL_law_415 ⟨rfl, rfl, rfl⟩ (by decide) hL ?_
  refine L_arg (m := 3) dL_law_416 dL_law_417 dL_law_418 dL_law_419 dL_law_420 ⟨rfl, rfl, rfl⟩ (by decide) hL ?_
  refine L_arg (m := 4) dL_law_421 dL_law_422 dL_law_423 dL_law_424 dL_law_425 ⟨rfl, rfl, rfl⟩ (by decide) hL ?_
  refine L_arg (m := 5) dL_law_426 dL_law_427 dL_law_428 dL_law_429 dL_law_430 ⟨rfl, rfl, rfl⟩ (by decide) hL ?_
  refine L_r (As := [.int (scA g i 1), .int (scA g i 2), .int (scA g i 3), .int (scA g i 4), .int (scA g i 5)]) hR hc hi (Nat.le_of_ble_eq_true rfl) dL_law_431 lv_L_29 ⟨by decide, by decide⟩ ⟨by decide, by decide⟩ rfl rfl (CQ.nq hR.2.2.1 (q_copy hR.2.2.1 hm hR.2.1.xok)) (fun S3 iv3 lw3 h3 => ?_)
  exact V_icmp_eq (tgt := 2008) dL_law_434 rfl (fun _ => hQ _ _ _ _ h3) (fun q => absurd rfl q)
set_option maxRecDepth 20000 in
theorem seg_element {g : Ev} {S : St} {iv : IV} {lw : LW} {X : Xs} {i : Nat} {Q : Option Value → Dt → Prop} (hR : LR S iv lw X i) (hi : i < 512) (hL : 6 * i + 6 ≤ g.2.2.2.2.2.1 ∧ g.2.2.2.2.2.1 ≤ 3072) (hQ : ∀ S3 iv3 lw3 X3, LR S3 iv3 lw3 X3 (i + 1) → VB g 2008 [] S3 iv3 lw3 i Q) : VA g 439 [] S iv lw i Q := by
  refine V_aload_n (i := 1) dL_law_439 rfl 2 rfl ?_
  refine L_arg (m := 1) dL_law_440 dL_law_441 dL_law_442 dL_law_443 dL_law_444 ⟨rfl, rfl, rfl⟩ (by decide) hL ?_
  refine L_arg (m := 2) dL_law_445 dL_law_446 dL_law_447 dL_law_448 dL_law_449 ⟨rfl, rfl, rfl⟩ (by decide) hL ?_
  refine L_cE (As := [.int (scA g i 1), .int (scA g i 2)]) hR hi dL_law_450 lv_L_30 ⟨by decide, by decide⟩ ⟨rfl, rfl⟩ rfl rfl (k_element hR.1 hR.2.1) ?_
  refine V_aload_n (i := 2) dL_law_453 rfl 3 rfl ?_
  refine L_arg (m := 1) dL_law_454 dL_law_455 dL_law_456 dL_law_457 dL_law_458 ⟨rfl, rfl, rfl⟩ (by decide) hL ?_
  refine L_arg (m := 2) dL_law_459 dL_law_460 dL_law_461 dL_law_462 dL_law_463 ⟨rfl, rfl, rfl⟩ (by decide) hL ?_
  refine L_rE (As := [.int (scA g i 1), .int (scA g i 2)]) hR hi (Nat.le_of_ble_eq_true rfl) dL_law_464 lv_L_34 ⟨by decide, by decide⟩ ⟨by decide, by decide⟩ rfl rfl (q_element hR.2.2.1 hR.2.2.2.1 hR.2.1.xok) ?_
  refine V_lcmp dL_law_467 ?_
  exact V_if_eq (tgt := 2008) dL_law_468 rfl (fun _ => hQ _ _ _ _ hR.up) (fun q => absurd (lg_eq.mpr rfl) q)
set_option maxRecDepth 20000 in
theorem seg_holds {g : Ev} {S : St} {iv : IV} {lw : LW} {X : Xs} {i : Nat} {Q : Option Value → Dt → Prop} (hR : LR S iv lw X i) (hi : i < 512) (hL : 6 * i + 6 ≤ g.2.2.2.2.2.1 ∧ g.2.2.2.2.2.1 ≤ 3072) (hQ : ∀ S3 iv3 lw3 X3, LR S3 iv3 lw3 X3 (i + 1) → VB g 2008 [] S3 iv3 lw3 i Q) : VA g 473 [] S iv lw i Q := by
  refine V_aload_n (i := 1) dL_law_473 rfl 2 rfl ?_
  refine L_arg (m := 1) dL_law_474 dL_law_475 dL_law_476 dL_law_477 dL_law_478 ⟨rfl, rfl, rfl⟩ (by decide) hL ?_
  refine L_c (As := [.int (scA g i 1)]) hR hi dL_law_479 lv_L_35 ⟨by decide, by decide⟩ ⟨rfl, rfl⟩ rfl rfl (k_holds hR.1 hR.2.1) (fun iv2 lw2 hc hm => ?_)
  refine V_aload_n (i := 2) dL_law_482 rfl 3 rfl ?_
  refine L_arg (m := 1) dL_law_483 dL_law_484 dL_law_485 dL_law_486 dL_law_487 ⟨rfl, rfl, rfl⟩ (by decide) hL ?_
  refine L_r (As := [.int (scA g i 1)]) hR hc hi (Nat.le_of_ble_eq_true rfl) dL_law_488 lv_L_39 ⟨by decide, by decide⟩ ⟨by decide, by decide⟩ rfl rfl (CQ.nq hR.2.2.1 (q_holds hR.2.2.1 hm hR.2.1.xok)) (fun S3 iv3 lw3 h3 => ?_)
  exact V_icmp_eq (tgt := 2008) dL_law_491 rfl (fun _ => hQ _ _ _ _ h3) (fun q => absurd rfl q)
set_option maxRecDepth 20000 in
theorem seg_show {g : Ev} {S : St} {iv : IV} {lw : LW} {X : Xs} {i : Nat} {Q : Option Value → Dt → Prop} (hR : LR S iv lw X i) (hi : i < 512) (hL : 6 * i + 6 ≤ g.2.2.2.2.2.1 ∧ g.2.2.2.2.2.1 ≤ 3072) (hQ : ∀ S3 iv3 lw3 X3, LR S3 iv3 lw3 X3 (i + 1) → VB g 2008 [] S3 iv3 lw3 i Q) : VA g 496 [] S iv lw i Q := by
  refine V_aload_n (i := 1) dL_law_496 rfl 2 rfl ?_
  refine L_arg (m := 1) dL_law_497 dL_law_498 dL_law_499 dL_law_500 dL_law_501 ⟨rfl, rfl, rfl⟩ (by decide) hL ?_
  refine L_arg (m := 2) dL_law_502 dL_law_503 dL_law_504 dL_law_505 dL_law_506 ⟨rfl, rfl, rfl⟩ (by decide) hL ?_
  refine L_c (As := [.int (scA g i 1), .int (scA g i 2)]) hR hi dL_law_507 lv_L_40 ⟨by decide, by decide⟩ ⟨rfl, rfl⟩ rfl rfl (k_show hR.1 hR.2.1) (fun iv2 lw2 hc hm => ?_)
  refine V_aload_n (i := 2) dL_law_510 rfl 3 rfl ?_
  refine L_arg (m := 1) dL_law_511 dL_law_512 dL_law_513 dL_law_514 dL_law_515 ⟨rfl, rfl, rfl⟩ (by decide) hL ?_
  refine L_arg (m := 2) dL_law_516 dL_law_517 dL_law_518 dL_law_519 dL_law_520 ⟨rfl, rfl, rfl⟩ (by decide) hL ?_
  refine L_r (As := [.int (scA g i 1), .int (scA g i 2)]) hR hc hi (Nat.le_of_ble_eq_true rfl) dL_law_521 lv_L_44 ⟨by decide, by decide⟩ ⟨by decide, by decide⟩ rfl rfl (CQ.nq hR.2.2.1 (q_show hR.2.2.1 hm hR.2.1.xok)) (fun S3 iv3 lw3 h3 => ?_)
  exact V_icmp_eq (tgt := 2008) dL_law_524 rfl (fun _ => hQ _ _ _ _ h3) (fun q => absurd rfl q)
set_option maxRecDepth 20000 in
theorem seg_says {g : Ev} {S : St} {iv : IV} {lw : LW} {X : Xs} {i : Nat} {Q : Option Value → Dt → Prop} (hR : LR S iv lw X i) (hi : i < 512) (hL : 6 * i + 6 ≤ g.2.2.2.2.2.1 ∧ g.2.2.2.2.2.1 ≤ 3072) (hQ : ∀ S3 iv3 lw3 X3, LR S3 iv3 lw3 X3 (i + 1) → VB g 2008 [] S3 iv3 lw3 i Q) : VA g 529 [] S iv lw i Q := by
  refine V_aload_n (i := 1) dL_law_529 rfl 2 rfl ?_
  refine L_arg (m := 1) dL_law_530 dL_law_531 dL_law_532 dL_law_533 dL_law_534 ⟨rfl, rfl, rfl⟩ (by decide) hL ?_
  refine L_arg (m := 2) dL_law_535 dL_law_536 dL_law_537 dL_law_538 dL_law_539 ⟨rfl, rfl, rfl⟩ (by decide) hL ?_
  refine L_c (As := [.int (scA g i 1), .int (scA g i 2)]) hR hi dL_law_540 lv_L_45 ⟨by decide, by decide⟩ ⟨rfl, rfl⟩ rfl rfl (k_says hR.1 hR.2.1) (fun iv2 lw2 hc hm => ?_)
  refine V_aload_n (i := 2) dL_law_543 rfl 3 rfl ?_
  refine L_arg (m := 1) dL_law_544 dL_law_545 dL_law_546 dL_law_547 dL_law_548 ⟨rfl, rfl, rfl⟩ (by decide) hL ?_
  refine L_arg (m := 2) dL_law_549 dL_law_550 dL_law_551 dL_law_552 dL_law_553 ⟨rfl, rfl, rfl⟩ (by decide) hL ?_
  refine L_r (As := [.int (scA g i 1), .int (scA g i 2)]) hR hc hi (Nat.le_of_ble_eq_true rfl) dL_law_554 lv_L_48 ⟨by decide, by decide⟩ ⟨by decide, by decide⟩ rfl rfl (CQ.nq hR.2.2.1 (q_says hR.2.2.1 hm hR.2.1.xok)) (fun S3 iv3 lw3 h3 => ?_)
  exact V_icmp_eq (tgt := 2008) dL_law_557 rfl (fun _ => hQ _ _ _ _ h3) (fun q => absurd rfl q)
set_option maxRecDepth 20000 in
theorem seg_call {g : Ev} {S : St} {iv : IV} {lw : LW} {X : Xs} {i : Nat} {Q : Option Value → Dt → Prop} (hR : LR S iv lw X i) (hi : i < 512) (hL : 6 * i + 6 ≤ g.2.2.2.2.2.1 ∧ g.2.2.2.2.2.1 ≤ 3072) (hQ : ∀ S3 iv3 lw3 X3, LR S3 iv3 lw3 X3 (i + 1) → VB g 2008 [] S3 iv3 lw3 i Q) : VA g 562 [] S iv lw i Q := by
  refine V_aload_n (i := 1) dL_law_562 rfl 2 rfl ?_
  refine L_arg (m := 1) dL_law_563 dL_law_564 dL_law_565 dL_law_566 dL_law_567 ⟨rfl, rfl, rfl⟩ (by decide) hL ?_
  refine L_arg (m := 2) dL_law_568 dL_law_569 dL_law_570 dL_law_571 dL_law_572 ⟨rfl, rfl, rfl⟩ (by decide) hL ?_
  refine L_arg (m := 3) dL_law_573 dL_law_574 dL_law_575 dL_law_576 dL_law_577 ⟨rfl, rfl, rfl⟩ (by decide) hL ?_
  refine L_arg (m := 4) dL_law_578 dL_law_579 dL_law_580 dL_law_581 dL_law_582 ⟨rfl, rfl, rfl⟩ (by decide) hL ?_
  refine L_c (As := [.int (scA g i 1), .int (scA g i 2), .int (scA g i 3), .int (scA g i 4)]) hR hi dL_law_583 lv_L_49 ⟨by decide, by decide⟩ ⟨rfl, rfl⟩ rfl rfl (k_call hR.1 hR.2.1) (fun iv2 lw2 hc hm => ?_)
  refine V_aload_n (i := 2) dL_law_586 rfl 3 rfl ?_
  refine L_arg (m := 1) dL_law_587 dL_law_588 dL_law_589 dL_law_590 dL_law_591 ⟨rfl, rfl, rfl⟩ (by decide) hL ?_
  refine L_arg (m := 2) dL_law_592 dL_law_593 dL_law_594 dL_law_595 dL_law_596 ⟨rfl, rfl, rfl⟩ (by decide) hL ?_
  refine L_arg (m := 3) dL_law_597 dL_law_598 dL_law_599 dL_law_600 dL_law_601 ⟨rfl, rfl, rfl⟩ (by decide) hL ?_
  refine L_arg (m := 4) dL_law_602 dL_law_603 dL_law_604 dL_law_605 dL_law_606 ⟨rfl, rfl, rfl⟩ (by decide) hL ?_
  refine L_r (As := [.int (scA g i 1), .int (scA g i 2), .int (scA g i 3), .int (scA g i 4)]) hR hc hi (Nat.le_of_ble_eq_true rfl) dL_law_607 lv_L_53 ⟨by decide, by decide⟩ ⟨by decide, by decide⟩ rfl rfl (CQ.nq hR.2.2.1 (q_call hR.2.2.1 hm hR.2.1.xok)) (fun S3 iv3 lw3 h3 => ?_)
  exact V_icmp_eq (tgt := 2008) dL_law_610 rfl (fun _ => hQ _ _ _ _ h3) (fun q => absurd rfl q)
set_option maxRecDepth 20000 in
theorem seg_ear {g : Ev} {S : St} {iv : IV} {lw : LW} {X : Xs} {i : Nat} {Q : Option Value → Dt → Prop} (hR : LR S iv lw X i) (hi : i < 512) (hL : 6 * i + 6 ≤ g.2.2.2.2.2.1 ∧ g.2.2.2.2.2.1 ≤ 3072) (hQ : ∀ S3 iv3 lw3 X3, LR S3 iv3 lw3 X3 (i + 1) → VB g 2008 [] S3 iv3 lw3 i Q) : VA g 615 [] S iv lw i Q := by
  refine V_aload_n (i := 1) dL_law_615 rfl 2 rfl ?_
  refine L_arg (m := 1) dL_law_616 dL_law_617 dL_law_618 dL_law_619 dL_law_620 ⟨rfl, rfl, rfl⟩ (by decide) hL ?_
  refine L_arg (m := 2) dL_law_621 dL_law_622 dL_law_623 dL_law_624 dL_law_625 ⟨rfl, rfl, rfl⟩ (by decide) hL ?_
  refine L_c (As := [.int (scA g i 1), .int (scA g i 2)]) hR hi dL_law_626 lv_L_54 ⟨by decide, by decide⟩ ⟨rfl, rfl⟩ rfl rfl (k_ear hR.1 hR.2.1) (fun iv2 lw2 hc hm => ?_)
  refine V_aload_n (i := 2) dL_law_629 rfl 3 rfl ?_
  refine L_arg (m := 1) dL_law_630 dL_law_631 dL_law_632 dL_law_633 dL_law_634 ⟨rfl, rfl, rfl⟩ (by decide) hL ?_
  refine L_arg (m := 2) dL_law_635 dL_law_636 dL_law_637 dL_law_638 dL_law_639 ⟨rfl, rfl, rfl⟩ (by decide) hL ?_
  refine L_r (As := [.int (scA g i 1), .int (scA g i 2)]) hR hc hi (Nat.le_of_ble_eq_true rfl) dL_law_640 lv_L_57 ⟨by decide, by decide⟩ ⟨by decide, by decide⟩ rfl rfl (CQ.nq hR.2.2.1 (q_ear hR.2.2.1 hm hR.2.1.xok)) (fun S3 iv3 lw3 h3 => ?_)
  exact V_icmp_eq (tgt := 2008) dL_law_643 rfl (fun _ => hQ _ _ _ _ h3) (fun q => absurd rfl q)
set_option maxRecDepth 20000 in
theorem seg_man {g : Ev} {S : St} {iv : IV} {lw : LW} {X : Xs} {i : Nat} {Q : Option Value → Dt → Prop} (hR : LR S iv lw X i) (hi : i < 512) (hL : 6 * i + 6 ≤ g.2.2.2.2.2.1 ∧ g.2.2.2.2.2.1 ≤ 3072) (hQ : ∀ S3 iv3 lw3 X3, LR S3 iv3 lw3 X3 (i + 1) → VB g 2008 [] S3 iv3 lw3 i Q) : VA g 648 [] S iv lw i Q := by
  refine V_aload_n (i := 1) dL_law_648 rfl 2 rfl ?_
  refine L_arg (m := 1) dL_law_649 dL_law_650 dL_law_651 dL_law_652 dL_law_653 ⟨rfl, rfl, rfl⟩ (by decide) hL ?_
  refine L_arg (m := 2) dL_law_654 dL_law_655 dL_law_656 dL_law_657 dL_law_658 ⟨rfl, rfl, rfl⟩ (by decide) hL ?_
  refine L_c (As := [.int (scA g i 1), .int (scA g i 2)]) hR hi dL_law_659 lv_L_58 ⟨by decide, by decide⟩ ⟨rfl, rfl⟩ rfl rfl (k_man hR.1 hR.2.1) (fun iv2 lw2 hc hm => ?_)
  refine V_aload_n (i := 2) dL_law_662 rfl 3 rfl ?_
  refine L_arg (m := 1) dL_law_663 dL_law_664 dL_law_665 dL_law_666 dL_law_667 ⟨rfl, rfl, rfl⟩ (by decide) hL ?_
  refine L_arg (m := 2) dL_law_668 dL_law_669 dL_law_670 dL_law_671 dL_law_672 ⟨rfl, rfl, rfl⟩ (by decide) hL ?_
  refine L_r (As := [.int (scA g i 1), .int (scA g i 2)]) hR hc hi (Nat.le_of_ble_eq_true rfl) dL_law_673 lv_L_61 ⟨by decide, by decide⟩ ⟨by decide, by decide⟩ rfl rfl (CQ.nq hR.2.2.1 (q_man hR.2.2.1 hm hR.2.1.xok)) (fun S3 iv3 lw3 h3 => ?_)
  exact V_icmp_eq (tgt := 2008) dL_law_676 rfl (fun _ => hQ _ _ _ _ h3) (fun q => absurd rfl q)
set_option maxRecDepth 20000 in
theorem seg_tell {g : Ev} {S : St} {iv : IV} {lw : LW} {X : Xs} {i : Nat} {Q : Option Value → Dt → Prop} (hR : LR S iv lw X i) (hi : i < 512) (hL : 6 * i + 6 ≤ g.2.2.2.2.2.1 ∧ g.2.2.2.2.2.1 ≤ 3072) (hQ : ∀ S3 iv3 lw3 X3, LR S3 iv3 lw3 X3 (i + 1) → VB g 2008 [] S3 iv3 lw3 i Q) : VA g 681 [] S iv lw i Q := by
  refine V_aload_n (i := 1) dL_law_681 rfl 2 rfl ?_
  refine L_arg (m := 1) dL_law_682 dL_law_683 dL_law_684 dL_law_685 dL_law_686 ⟨rfl, rfl, rfl⟩ (by decide) hL ?_
  refine L_arg (m := 2) dL_law_687 dL_law_688 dL_law_689 dL_law_690 dL_law_691 ⟨rfl, rfl, rfl⟩ (by decide) hL ?_
  refine L_arg (m := 3) dL_law_692 dL_law_693 dL_law_694 dL_law_695 dL_law_696 ⟨rfl, rfl, rfl⟩ (by decide) hL ?_
  refine L_c (As := [.int (scA g i 1), .int (scA g i 2), .int (scA g i 3)]) hR hi dL_law_697 lv_L_62 ⟨by decide, by decide⟩ ⟨rfl, rfl⟩ rfl rfl (k_tell hR.1 hR.2.1) (fun iv2 lw2 hc hm => ?_)
  refine V_aload_n (i := 2) dL_law_700 rfl 3 rfl ?_
  refine L_arg (m := 1) dL_law_701 dL_law_702 dL_law_703 dL_law_704 dL_law_705 ⟨rfl, rfl, rfl⟩ (by decide) hL ?_
  refine L_arg (m := 2) dL_law_706 dL_law_707 dL_law_708 dL_law_709 dL_law_710 ⟨rfl, rfl, rfl⟩ (by decide) hL ?_
  refine L_arg (m := 3) dL_law_711 dL_law_712 dL_law_713 dL_law_714 dL_law_715 ⟨rfl, rfl, rfl⟩ (by decide) hL ?_
  refine L_r (As := [.int (scA g i 1), .int (scA g i 2), .int (scA g i 3)]) hR hc hi (Nat.le_of_ble_eq_true rfl) dL_law_716 lv_L_65 ⟨by decide, by decide⟩ ⟨by decide, by decide⟩ rfl rfl (CQ.nq hR.2.2.1 (q_tell hR.2.2.1 hm hR.2.1.xok)) (fun S3 iv3 lw3 h3 => ?_)
  exact V_icmp_eq (tgt := 2008) dL_law_719 rfl (fun _ => hQ _ _ _ _ h3) (fun q => absurd rfl q)
set_option maxRecDepth 20000 in
theorem seg_ask {g : Ev} {S : St} {iv : IV} {lw : LW} {X : Xs} {i : Nat} {Q : Option Value → Dt → Prop} (hR : LR S iv lw X i) (hi : i < 512) (hL : 6 * i + 6 ≤ g.2.2.2.2.2.1 ∧ g.2.2.2.2.2.1 ≤ 3072) (hQ : ∀ S3 iv3 lw3 X3, LR S3 iv3 lw3 X3 (i + 1) → VB g 2008 [] S3 iv3 lw3 i Q) : VA g 724 [] S iv lw i Q := by
  refine V_aload_n (i := 1) dL_law_724 rfl 2 rfl ?_
  refine L_arg (m := 1) dL_law_725 dL_law_726 dL_law_727 dL_law_728 dL_law_729 ⟨rfl, rfl, rfl⟩ (by decide) hL ?_
  refine L_arg (m := 2) dL_law_730 dL_law_731 dL_law_732 dL_law_733 dL_law_734 ⟨rfl, rfl, rfl⟩ (by decide) hL ?_
  refine L_c (As := [.int (scA g i 1), .int (scA g i 2)]) hR hi dL_law_735 lv_L_66 ⟨by decide, by decide⟩ ⟨rfl, rfl⟩ rfl rfl (k_ask hR.1 hR.2.1) (fun iv2 lw2 hc hm => ?_)
  refine V_aload_n (i := 2) dL_law_738 rfl 3 rfl ?_
  refine L_arg (m := 1) dL_law_739 dL_law_740 dL_law_741 dL_law_742 dL_law_743 ⟨rfl, rfl, rfl⟩ (by decide) hL ?_
  refine L_arg (m := 2) dL_law_744 dL_law_745 dL_law_746 dL_law_747 dL_law_748 ⟨rfl, rfl, rfl⟩ (by decide) hL ?_
  refine L_r (As := [.int (scA g i 1), .int (scA g i 2)]) hR hc hi (Nat.le_of_ble_eq_true rfl) dL_law_749 lv_L_69 ⟨by decide, by decide⟩ ⟨by decide, by decide⟩ rfl rfl (CQ.nq hR.2.2.1 (q_ask hR.2.2.1 hm hR.2.1.xok)) (fun S3 iv3 lw3 h3 => ?_)
  exact V_icmp_eq (tgt := 2008) dL_law_752 rfl (fun _ => hQ _ _ _ _ h3) (fun q => absurd rfl q)
set_option maxRecDepth 20000 in
theorem seg_feed {g : Ev} {S : St} {iv : IV} {lw : LW} {X : Xs} {i : Nat} {Q : Option Value → Dt → Prop} (hR : LR S iv lw X i) (hi : i < 512) (hL : 6 * i + 6 ≤ g.2.2.2.2.2.1 ∧ g.2.2.2.2.2.1 ≤ 3072) (hQ : ∀ S3 iv3 lw3 X3, LR S3 iv3 lw3 X3 (i + 1) → VB g 2008 [] S3 iv3 lw3 i Q) : VA g 757 [] S iv lw i Q := by
  refine V_aload_n (i := 1) dL_law_757 rfl 2 rfl ?_
  refine L_arg (m := 1) dL_law_758 dL_law_759 dL_law_760 dL_law_761 dL_law_762 ⟨rfl, rfl, rfl⟩ (by decide) hL ?_
  refine L_c (As := [.int (scA g i 1)]) hR hi dL_law_763 lv_L_70 ⟨by decide, by decide⟩ ⟨rfl, rfl⟩ rfl rfl (k_feed hR.1 hR.2.1) (fun iv2 lw2 hc hm => ?_)
  refine V_aload_n (i := 2) dL_law_766 rfl 3 rfl ?_
  refine L_arg (m := 1) dL_law_767 dL_law_768 dL_law_769 dL_law_770 dL_law_771 ⟨rfl, rfl, rfl⟩ (by decide) hL ?_
  refine L_r (As := [.int (scA g i 1)]) hR hc hi (Nat.le_of_ble_eq_true rfl) dL_law_772 lv_L_73 ⟨by decide, by decide⟩ ⟨by decide, by decide⟩ rfl rfl (CQ.nq hR.2.2.1 (q_feed hR.2.2.1 hm hR.2.1.xok)) (fun S3 iv3 lw3 h3 => ?_)
  exact V_icmp_eq (tgt := 2008) dL_law_775 rfl (fun _ => hQ _ _ _ _ h3) (fun q => absurd rfl q)
set_option maxRecDepth 20000 in
theorem seg_wipe {g : Ev} {S : St} {iv : IV} {lw : LW} {X : Xs} {i : Nat} {Q : Option Value → Dt → Prop} (hR : LR S iv lw X i) (hi : i < 512) (hL : 6 * i + 6 ≤ g.2.2.2.2.2.1 ∧ g.2.2.2.2.2.1 ≤ 3072) (hQ : ∀ S3 iv3 lw3 X3, LR S3 iv3 lw3 X3 (i + 1) → VB g 2008 [] S3 iv3 lw3 i Q) : VA g 780 [] S iv lw i Q := by
  refine V_aload_n (i := 1) dL_law_780 rfl 2 rfl ?_
  refine L_c (As := []) hR hi dL_law_781 lv_L_74 ⟨by decide, by decide⟩ ⟨rfl, rfl⟩ rfl rfl (k_wipe hR.1 hR.2.1) (fun iv2 lw2 hc hm => ?_)
  refine V_aload_n (i := 2) dL_law_784 rfl 3 rfl ?_
  refine L_r (As := []) hR hc hi (Nat.le_of_ble_eq_true rfl) dL_law_785 lv_L_78 ⟨by decide, by decide⟩ ⟨by decide, by decide⟩ rfl rfl (CQ.nq hR.2.2.1 (q_wipe hR.2.2.1 hm hR.2.1.xok)) (fun S3 iv3 lw3 h3 => ?_)
  exact V_icmp_eq (tgt := 2008) dL_law_788 rfl (fun _ => hQ _ _ _ _ h3) (fun q => absurd rfl q)
set_option maxRecDepth 20000 in
theorem seg_camp {g : Ev} {S : St} {iv : IV} {lw : LW} {X : Xs} {i : Nat} {Q : Option Value → Dt → Prop} (hR : LR S iv lw X i) (hi : i < 512) (hL : 6 * i + 6 ≤ g.2.2.2.2.2.1 ∧ g.2.2.2.2.2.1 ≤ 3072) (hQ : ∀ S3 iv3 lw3 X3, LR S3 iv3 lw3 X3 (i + 1) → VB g 2008 [] S3 iv3 lw3 i Q) : VA g 793 [] S iv lw i Q := by
  refine V_aload_n (i := 1) dL_law_793 rfl 2 rfl ?_
  refine L_c (As := []) hR hi dL_law_794 lv_L_79 ⟨by decide, by decide⟩ ⟨rfl, rfl⟩ rfl rfl (k_camp hR.1 hR.2.1) (fun iv2 lw2 hc hm => ?_)
  refine V_aload_n (i := 2) dL_law_797 rfl 3 rfl ?_
  refine L_r (As := []) hR hc hi (Nat.le_of_ble_eq_true rfl) dL_law_798 lv_L_82 ⟨by decide, by decide⟩ ⟨by decide, by decide⟩ rfl rfl (q_camp hR.2.2.1 hm hR.2.1.xok (by have := hR.2.2.2.2; omega)) (fun S3 iv3 lw3 h3 => ?_)
  exact V_icmp_eq (tgt := 2008) dL_law_801 rfl (fun _ => hQ _ _ _ _ h3) (fun q => absurd rfl q)
set_option maxRecDepth 20000 in
theorem seg_callOf {g : Ev} {S : St} {iv : IV} {lw : LW} {X : Xs} {i : Nat} {Q : Option Value → Dt → Prop} (hR : LR S iv lw X i) (hi : i < 512) (hL : 6 * i + 6 ≤ g.2.2.2.2.2.1 ∧ g.2.2.2.2.2.1 ≤ 3072) (hQ : ∀ S3 iv3 lw3 X3, LR S3 iv3 lw3 X3 (i + 1) → VB g 2008 [] S3 iv3 lw3 i Q) : VA g 806 [] S iv lw i Q := by
  refine V_aload_n (i := 1) dL_law_806 rfl 2 rfl ?_
  refine L_arg (m := 1) dL_law_807 dL_law_808 dL_law_809 dL_law_810 dL_law_811 ⟨rfl, rfl, rfl⟩ (by decide) hL ?_
  refine L_arg (m := 2) dL_law_812 dL_law_813 dL_law_814 dL_law_815 dL_law_816 ⟨rfl, rfl, rfl⟩ (by decide) hL ?_
  refine L_c (As := [.int (scA g i 1), .int (scA g i 2)]) hR hi dL_law_817 lv_L_83 ⟨by decide, by decide⟩ ⟨rfl, rfl⟩ rfl rfl (k_callOf hR.1 hR.2.1) (fun iv2 lw2 hc hm => ?_)
  refine V_aload_n (i := 2) dL_law_820 rfl 3 rfl ?_
  refine L_arg (m := 1) dL_law_821 dL_law_822 dL_law_823 dL_law_824 dL_law_825 ⟨rfl, rfl, rfl⟩ (by decide) hL ?_
  refine L_arg (m := 2) dL_law_826 dL_law_827 dL_law_828 dL_law_829 dL_law_830 ⟨rfl, rfl, rfl⟩ (by decide) hL ?_
  refine L_r (As := [.int (scA g i 1), .int (scA g i 2)]) hR hc hi (Nat.le_of_ble_eq_true rfl) dL_law_831 lv_L_86 ⟨by decide, by decide⟩ ⟨by decide, by decide⟩ rfl rfl (CQ.nq hR.2.2.1 (q_callOf hR.2.2.1 hm hR.2.1.xok)) (fun S3 iv3 lw3 h3 => ?_)
  exact V_icmp_eq (tgt := 2008) dL_law_834 rfl (fun _ => hQ _ _ _ _ h3) (fun q => absurd rfl q)
set_option maxRecDepth 20000 in
theorem seg_earOf {g : Ev} {S : St} {iv : IV} {lw : LW} {X : Xs} {i : Nat} {Q : Option Value → Dt → Prop} (hR : LR S iv lw X i) (hi : i < 512) (hL : 6 * i + 6 ≤ g.2.2.2.2.2.1 ∧ g.2.2.2.2.2.1 ≤ 3072) (hQ : ∀ S3 iv3 lw3 X3, LR S3 iv3 lw3 X3 (i + 1) → VB g 2008 [] S3 iv3 lw3 i Q) : VA g 839 [] S iv lw i Q := by
  refine V_aload_n (i := 1) dL_law_839 rfl 2 rfl ?_
  refine L_arg (m := 1) dL_law_840 dL_law_841 dL_law_842 dL_law_843 dL_law_844 ⟨rfl, rfl, rfl⟩ (by decide) hL ?_
  refine L_arg (m := 2) dL_law_845 dL_law_846 dL_law_847 dL_law_848 dL_law_849 ⟨rfl, rfl, rfl⟩ (by decide) hL ?_
  refine L_c (As := [.int (scA g i 1), .int (scA g i 2)]) hR hi dL_law_850 lv_L_87 ⟨by decide, by decide⟩ ⟨rfl, rfl⟩ rfl rfl (k_earOf hR.1 hR.2.1) (fun iv2 lw2 hc hm => ?_)
  refine V_aload_n (i := 2) dL_law_853 rfl 3 rfl ?_
  refine L_arg (m := 1) dL_law_854 dL_law_855 dL_law_856 dL_law_857 dL_law_858 ⟨rfl, rfl, rfl⟩ (by decide) hL ?_
  refine L_arg (m := 2) dL_law_859 dL_law_860 dL_law_861 dL_law_862 dL_law_863 ⟨rfl, rfl, rfl⟩ (by decide) hL ?_
  refine L_r (As := [.int (scA g i 1), .int (scA g i 2)]) hR hc hi (Nat.le_of_ble_eq_true rfl) dL_law_864 lv_L_90 ⟨by decide, by decide⟩ ⟨by decide, by decide⟩ rfl rfl (CQ.nq hR.2.2.1 (q_earOf hR.2.2.1 hm hR.2.1.xok)) (fun S3 iv3 lw3 h3 => ?_)
  exact V_icmp_eq (tgt := 2008) dL_law_867 rfl (fun _ => hQ _ _ _ _ h3) (fun q => absurd rfl q)
set_option maxRecDepth 20000 in
theorem seg_manOf {g : Ev} {S : St} {iv : IV} {lw : LW} {X : Xs} {i : Nat} {Q : Option Value → Dt → Prop} (hR : LR S iv lw X i) (hi : i < 512) (hL : 6 * i + 6 ≤ g.2.2.2.2.2.1 ∧ g.2.2.2.2.2.1 ≤ 3072) (hQ : ∀ S3 iv3 lw3 X3, LR S3 iv3 lw3 X3 (i + 1) → VB g 2008 [] S3 iv3 lw3 i Q) : VA g 872 [] S iv lw i Q := by
  refine V_aload_n (i := 1) dL_law_872 rfl 2 rfl ?_
  refine L_arg (m := 1) dL_law_873 dL_law_874 dL_law_875 dL_law_876 dL_law_877 ⟨rfl, rfl, rfl⟩ (by decide) hL ?_
  refine L_arg (m := 2) dL_law_878 dL_law_879 dL_law_880 dL_law_881 dL_law_882 ⟨rfl, rfl, rfl⟩ (by decide) hL ?_
  refine L_c (As := [.int (scA g i 1), .int (scA g i 2)]) hR hi dL_law_883 lv_L_91 ⟨by decide, by decide⟩ ⟨rfl, rfl⟩ rfl rfl (k_manOf hR.1 hR.2.1) (fun iv2 lw2 hc hm => ?_)
  refine V_aload_n (i := 2) dL_law_886 rfl 3 rfl ?_
  refine L_arg (m := 1) dL_law_887 dL_law_888 dL_law_889 dL_law_890 dL_law_891 ⟨rfl, rfl, rfl⟩ (by decide) hL ?_
  refine L_arg (m := 2) dL_law_892 dL_law_893 dL_law_894 dL_law_895 dL_law_896 ⟨rfl, rfl, rfl⟩ (by decide) hL ?_
  refine L_r (As := [.int (scA g i 1), .int (scA g i 2)]) hR hc hi (Nat.le_of_ble_eq_true rfl) dL_law_897 lv_L_94 ⟨by decide, by decide⟩ ⟨by decide, by decide⟩ rfl rfl (CQ.nq hR.2.2.1 (q_manOf hR.2.2.1 hm hR.2.1.xok)) (fun S3 iv3 lw3 h3 => ?_)
  exact V_icmp_eq (tgt := 2008) dL_law_900 rfl (fun _ => hQ _ _ _ _ h3) (fun q => absurd rfl q)
set_option maxRecDepth 20000 in
theorem seg_heard {g : Ev} {S : St} {iv : IV} {lw : LW} {X : Xs} {i : Nat} {Q : Option Value → Dt → Prop} (hR : LR S iv lw X i) (hi : i < 512) (hL : 6 * i + 6 ≤ g.2.2.2.2.2.1 ∧ g.2.2.2.2.2.1 ≤ 3072) (hQ : ∀ S3 iv3 lw3 X3, LR S3 iv3 lw3 X3 (i + 1) → VB g 2008 [] S3 iv3 lw3 i Q) : VA g 905 [] S iv lw i Q := by
  refine V_aload_n (i := 1) dL_law_905 rfl 2 rfl ?_
  refine L_arg (m := 1) dL_law_906 dL_law_907 dL_law_908 dL_law_909 dL_law_910 ⟨rfl, rfl, rfl⟩ (by decide) hL ?_
  refine L_arg (m := 2) dL_law_911 dL_law_912 dL_law_913 dL_law_914 dL_law_915 ⟨rfl, rfl, rfl⟩ (by decide) hL ?_
  refine L_arg (m := 3) dL_law_916 dL_law_917 dL_law_918 dL_law_919 dL_law_920 ⟨rfl, rfl, rfl⟩ (by decide) hL ?_
  refine L_c (As := [.int (scA g i 1), .int (scA g i 2), .int (scA g i 3)]) hR hi dL_law_921 lv_L_95 ⟨by decide, by decide⟩ ⟨rfl, rfl⟩ rfl rfl (k_heard hR.1 hR.2.1) (fun iv2 lw2 hc hm => ?_)
  refine V_aload_n (i := 2) dL_law_924 rfl 3 rfl ?_
  refine L_arg (m := 1) dL_law_925 dL_law_926 dL_law_927 dL_law_928 dL_law_929 ⟨rfl, rfl, rfl⟩ (by decide) hL ?_
  refine L_arg (m := 2) dL_law_930 dL_law_931 dL_law_932 dL_law_933 dL_law_934 ⟨rfl, rfl, rfl⟩ (by decide) hL ?_
  refine L_arg (m := 3) dL_law_935 dL_law_936 dL_law_937 dL_law_938 dL_law_939 ⟨rfl, rfl, rfl⟩ (by decide) hL ?_
  refine L_r (As := [.int (scA g i 1), .int (scA g i 2), .int (scA g i 3)]) hR hc hi (Nat.le_of_ble_eq_true rfl) dL_law_940 lv_L_98 ⟨by decide, by decide⟩ ⟨by decide, by decide⟩ rfl rfl (CQ.nq hR.2.2.1 (q_heard hR.2.2.1 hm hR.2.1.xok)) (fun S3 iv3 lw3 h3 => ?_)
  exact V_icmp_eq (tgt := 2008) dL_law_943 rfl (fun _ => hQ _ _ _ _ h3) (fun q => absurd rfl q)
set_option maxRecDepth 20000 in
theorem seg_fits {g : Ev} {S : St} {iv : IV} {lw : LW} {X : Xs} {i : Nat} {Q : Option Value → Dt → Prop} (hR : LR S iv lw X i) (hi : i < 512) (hL : 6 * i + 6 ≤ g.2.2.2.2.2.1 ∧ g.2.2.2.2.2.1 ≤ 3072) (hQ : ∀ S3 iv3 lw3 X3, LR S3 iv3 lw3 X3 (i + 1) → VB g 2008 [] S3 iv3 lw3 i Q) : VA g 948 [] S iv lw i Q := by
  refine V_aload_n (i := 1) dL_law_948 rfl 2 rfl ?_
  refine L_arg (m := 1) dL_law_949 dL_law_950 dL_law_951 dL_law_952 dL_law_953 ⟨rfl, rfl, rfl⟩ (by decide) hL ?_
  refine L_arg (m := 2) dL_law_954 dL_law_955 dL_law_956 dL_law_957 dL_law_958 ⟨rfl, rfl, rfl⟩ (by decide) hL ?_
  refine L_arg (m := 3) dL_law_959 dL_law_960 dL_law_961 dL_law_962 dL_law_963 ⟨rfl, rfl, rfl⟩ (by decide) hL ?_
  refine L_bool dL_law_964 dL_law_967 dL_law_968 dL_law_971 ?_
  refine L_arg (m := 4) dL_law_972 dL_law_973 dL_law_974 dL_law_975 dL_law_976 ⟨rfl, rfl, rfl⟩ (by decide) hL ?_
  refine L_arg (m := 5) dL_law_977 dL_law_978 dL_law_979 dL_law_980 dL_law_981 ⟨rfl, rfl, rfl⟩ (by decide) hL ?_
  refine L_c (As := [.int (scA g i 1), .int (scA g i 2), .int (bI (decide (¬ scA g i 3 = 0) = true)), .int (scA g i 4), .int (scA g i 5)]) hR hi dL_law_982 lv_L_99 ⟨by decide, by decide⟩ ⟨rfl, rfl⟩ rfl rfl (k_fits hR.1 hR.2.1 (o := decide (¬ scA g i 3 = 0)) rfl) (fun iv2 lw2 hc hm => ?_)
  refine V_aload_n (i := 2) dL_law_985 rfl 3 rfl ?_
  refine L_arg (m := 1) dL_law_986 dL_law_987 dL_law_988 dL_law_989 dL_law_990 ⟨rfl, rfl, rfl⟩ (by decide) hL ?_
  refine L_arg (m := 2) dL_law_991 dL_law_992 dL_law_993 dL_law_994 dL_law_995 ⟨rfl, rfl, rfl⟩ (by decide) hL ?_
  refine L_arg (m := 3) dL_law_996 dL_law_997 dL_law_998 dL_law_999 dL_law_1000 ⟨rfl, rfl, rfl⟩ (by decide) hL ?_
  refine L_bool dL_law_1001 dL_law_1004 dL_law_1005 dL_law_1008 ?_
  refine L_arg (m := 4) dL_law_1009 dL_law_1010 dL_law_1011 dL_law_1012 dL_law_1013 ⟨rfl, rfl, rfl⟩ (by decide) hL ?_
  refine L_arg (m := 5) dL_law_1014 dL_law_1015 dL_law_1016 dL_law_1017 dL_law_1018 ⟨rfl, rfl, rfl⟩ (by decide) hL ?_
  refine L_r (As := [.int (scA g i 1), .int (scA g i 2), .int (bI (decide (¬ scA g i 3 = 0) = true)), .int (scA g i 4), .int (scA g i 5)]) hR hc hi (Nat.le_of_ble_eq_true rfl) dL_law_1019 lv_L_103 ⟨by decide, by decide⟩ ⟨by decide, by decide⟩ rfl rfl (CQ.nq hR.2.2.1 (q_fits hR.2.2.1 hm hR.2.1.xok (o := decide (¬ scA g i 3 = 0)) rfl)) (fun S3 iv3 lw3 h3 => ?_)
  exact V_icmp_eq (tgt := 2008) dL_law_1022 rfl (fun _ => hQ _ _ _ _ h3) (fun q => absurd rfl q)
set_option maxRecDepth 20000 in
theorem seg_likely {g : Ev} {S : St} {iv : IV} {lw : LW} {X : Xs} {i : Nat} {Q : Option Value → Dt → Prop} (hR : LR S iv lw X i) (hi : i < 512) (hL : 6 * i + 6 ≤ g.2.2.2.2.2.1 ∧ g.2.2.2.2.2.1 ≤ 3072) (hQ : ∀ S3 iv3 lw3 X3, LR S3 iv3 lw3 X3 (i + 1) → VB g 2008 [] S3 iv3 lw3 i Q) : VA g 1027 [] S iv lw i Q := by
  refine V_aload_n (i := 1) dL_law_1027 rfl 2 rfl ?_
  refine L_arg (m := 1) dL_law_1028 dL_law_1029 dL_law_1030 dL_law_1031 dL_law_1032 ⟨rfl, rfl, rfl⟩ (by decide) hL ?_
  refine L_arg (m := 2) dL_law_1033 dL_law_1034 dL_law_1035 dL_law_1036 dL_law_1037 ⟨rfl, rfl, rfl⟩ (by decide) hL ?_
  refine L_arg (m := 3) dL_law_1038 dL_law_1039 dL_law_1040 dL_law_1041 dL_law_1042 ⟨rfl, rfl, rfl⟩ (by decide) hL ?_
  refine L_bool dL_law_1043 dL_law_1046 dL_law_1047 dL_law_1050 ?_
  refine L_arg (m := 4) dL_law_1051 dL_law_1052 dL_law_1053 dL_law_1054 dL_law_1055 ⟨rfl, rfl, rfl⟩ (by decide) hL ?_
  refine L_arg (m := 5) dL_law_1056 dL_law_1057 dL_law_1058 dL_law_1059 dL_law_1060 ⟨rfl, rfl, rfl⟩ (by decide) hL ?_
  refine L_c (As := [.int (scA g i 1), .int (scA g i 2), .int (bI (decide (¬ scA g i 3 = 0) = true)), .int (scA g i 4), .int (scA g i 5)]) hR hi dL_law_1061 lv_L_104 ⟨by decide, by decide⟩ ⟨rfl, rfl⟩ rfl rfl (k_likely hR.1 hR.2.1 (o := decide (¬ scA g i 3 = 0)) rfl) (fun iv2 lw2 hc hm => ?_)
  refine V_aload_n (i := 2) dL_law_1064 rfl 3 rfl ?_
  refine L_arg (m := 1) dL_law_1065 dL_law_1066 dL_law_1067 dL_law_1068 dL_law_1069 ⟨rfl, rfl, rfl⟩ (by decide) hL ?_
  refine L_arg (m := 2) dL_law_1070 dL_law_1071 dL_law_1072 dL_law_1073 dL_law_1074 ⟨rfl, rfl, rfl⟩ (by decide) hL ?_
  refine L_arg (m := 3) dL_law_1075 dL_law_1076 dL_law_1077 dL_law_1078 dL_law_1079 ⟨rfl, rfl, rfl⟩ (by decide) hL ?_
  refine L_bool dL_law_1080 dL_law_1083 dL_law_1084 dL_law_1087 ?_
  refine L_arg (m := 4) dL_law_1088 dL_law_1089 dL_law_1090 dL_law_1091 dL_law_1092 ⟨rfl, rfl, rfl⟩ (by decide) hL ?_
  refine L_arg (m := 5) dL_law_1093 dL_law_1094 dL_law_1095 dL_law_1096 dL_law_1097 ⟨rfl, rfl, rfl⟩ (by decide) hL ?_
  refine L_r (As := [.int (scA g i 1), .int (scA g i 2), .int (bI (decide (¬ scA g i 3 = 0) = true)), .int (scA g i 4), .int (scA g i 5)]) hR hc hi (Nat.le_of_ble_eq_true rfl) dL_law_1098 lv_L_107 ⟨by decide, by decide⟩ ⟨by decide, by decide⟩ rfl rfl (CQ.nq hR.2.2.1 (q_likely hR.2.2.1 hm hR.2.1.xok (o := decide (¬ scA g i 3 = 0)) rfl)) (fun S3 iv3 lw3 h3 => ?_)
  exact V_icmp_eq (tgt := 2008) dL_law_1101 rfl (fun _ => hQ _ _ _ _ h3) (fun q => absurd rfl q)
set_option maxRecDepth 20000 in
theorem seg_guess {g : Ev} {S : St} {iv : IV} {lw : LW} {X : Xs} {i : Nat} {Q : Option Value → Dt → Prop} (hR : LR S iv lw X i) (hi : i < 512) (hL : 6 * i + 6 ≤ g.2.2.2.2.2.1 ∧ g.2.2.2.2.2.1 ≤ 3072) (hQ : ∀ S3 iv3 lw3 X3, LR S3 iv3 lw3 X3 (i + 1) → VB g 2008 [] S3 iv3 lw3 i Q) : VA g 1106 [] S iv lw i Q := by
  refine V_aload_n (i := 1) dL_law_1106 rfl 2 rfl ?_
  refine L_arg (m := 1) dL_law_1107 dL_law_1108 dL_law_1109 dL_law_1110 dL_law_1111 ⟨rfl, rfl, rfl⟩ (by decide) hL ?_
  refine L_arg (m := 2) dL_law_1112 dL_law_1113 dL_law_1114 dL_law_1115 dL_law_1116 ⟨rfl, rfl, rfl⟩ (by decide) hL ?_
  refine L_arg (m := 3) dL_law_1117 dL_law_1118 dL_law_1119 dL_law_1120 dL_law_1121 ⟨rfl, rfl, rfl⟩ (by decide) hL ?_
  refine L_bool dL_law_1122 dL_law_1125 dL_law_1126 dL_law_1129 ?_
  refine L_arg (m := 4) dL_law_1130 dL_law_1131 dL_law_1132 dL_law_1133 dL_law_1134 ⟨rfl, rfl, rfl⟩ (by decide) hL ?_
  refine L_c (As := [.int (scA g i 1), .int (scA g i 2), .int (bI (decide (¬ scA g i 3 = 0) = true)), .int (scA g i 4)]) hR hi dL_law_1135 lv_L_108 ⟨by decide, by decide⟩ ⟨rfl, rfl⟩ rfl rfl (k_guess hR.1 hR.2.1 (o := decide (¬ scA g i 3 = 0)) rfl) (fun iv2 lw2 hc hm => ?_)
  refine V_aload_n (i := 2) dL_law_1138 rfl 3 rfl ?_
  refine L_arg (m := 1) dL_law_1139 dL_law_1140 dL_law_1141 dL_law_1142 dL_law_1143 ⟨rfl, rfl, rfl⟩ (by decide) hL ?_
  refine L_arg (m := 2) dL_law_1144 dL_law_1145 dL_law_1146 dL_law_1147 dL_law_1148 ⟨rfl, rfl, rfl⟩ (by decide) hL ?_
  refine L_arg (m := 3) dL_law_1149 dL_law_1150 dL_law_1151 dL_law_1152 dL_law_1153 ⟨rfl, rfl, rfl⟩ (by decide) hL ?_
  refine L_bool dL_law_1154 dL_law_1157 dL_law_1158 dL_law_1161 ?_
  refine L_arg (m := 4) dL_law_1162 dL_law_1163 dL_law_1164 dL_law_1165 dL_law_1166 ⟨rfl, rfl, rfl⟩ (by decide) hL ?_
  refine L_r (As := [.int (scA g i 1), .int (scA g i 2), .int (bI (decide (¬ scA g i 3 = 0) = true)), .int (scA g i 4)]) hR hc hi (Nat.le_of_ble_eq_true rfl) dL_law_1167 lv_L_112 ⟨by decide, by decide⟩ ⟨by decide, by decide⟩ rfl rfl (CQ.nq hR.2.2.1 (q_guess hR.2.2.1 hm hR.2.1.xok (o := decide (¬ scA g i 3 = 0)) rfl)) (fun S3 iv3 lw3 h3 => ?_)
  exact V_icmp_eq (tgt := 2008) dL_law_1170 rfl (fun _ => hQ _ _ _ _ h3) (fun q => absurd rfl q)
set_option maxRecDepth 20000 in
theorem seg_apart {g : Ev} {S : St} {iv : IV} {lw : LW} {X : Xs} {i : Nat} {Q : Option Value → Dt → Prop} (hR : LR S iv lw X i) (hi : i < 512) (hL : 6 * i + 6 ≤ g.2.2.2.2.2.1 ∧ g.2.2.2.2.2.1 ≤ 3072) (hQ : ∀ S3 iv3 lw3 X3, LR S3 iv3 lw3 X3 (i + 1) → VB g 2008 [] S3 iv3 lw3 i Q) : VA g 1175 [] S iv lw i Q := by
  refine V_aload_n (i := 1) dL_law_1175 rfl 2 rfl ?_
  refine L_arg (m := 1) dL_law_1176 dL_law_1177 dL_law_1178 dL_law_1179 dL_law_1180 ⟨rfl, rfl, rfl⟩ (by decide) hL ?_
  refine L_arg (m := 2) dL_law_1181 dL_law_1182 dL_law_1183 dL_law_1184 dL_law_1185 ⟨rfl, rfl, rfl⟩ (by decide) hL ?_
  refine L_c (As := [.int (scA g i 1), .int (scA g i 2)]) hR hi dL_law_1186 lv_L_113 ⟨by decide, by decide⟩ ⟨rfl, rfl⟩ rfl rfl (k_apart hR.1 hR.2.1) (fun iv2 lw2 hc hm => ?_)
  refine V_aload_n (i := 2) dL_law_1189 rfl 3 rfl ?_
  refine L_arg (m := 1) dL_law_1190 dL_law_1191 dL_law_1192 dL_law_1193 dL_law_1194 ⟨rfl, rfl, rfl⟩ (by decide) hL ?_
  refine L_arg (m := 2) dL_law_1195 dL_law_1196 dL_law_1197 dL_law_1198 dL_law_1199 ⟨rfl, rfl, rfl⟩ (by decide) hL ?_
  refine L_r (As := [.int (scA g i 1), .int (scA g i 2)]) hR hc hi (Nat.le_of_ble_eq_true rfl) dL_law_1200 lv_L_116 ⟨by decide, by decide⟩ ⟨by decide, by decide⟩ rfl rfl (CQ.nq hR.2.2.1 (q_apart hR.2.2.1 hm hR.2.1.xok)) (fun S3 iv3 lw3 h3 => ?_)
  exact V_icmp_eq (tgt := 2008) dL_law_1203 rfl (fun _ => hQ _ _ _ _ h3) (fun q => absurd rfl q)
set_option maxRecDepth 20000 in
theorem seg_known {g : Ev} {S : St} {iv : IV} {lw : LW} {X : Xs} {i : Nat} {Q : Option Value → Dt → Prop} (hR : LR S iv lw X i) (hi : i < 512) (hL : 6 * i + 6 ≤ g.2.2.2.2.2.1 ∧ g.2.2.2.2.2.1 ≤ 3072) (hQ : ∀ S3 iv3 lw3 X3, LR S3 iv3 lw3 X3 (i + 1) → VB g 2008 [] S3 iv3 lw3 i Q) : VA g 1208 [] S iv lw i Q := by
  refine V_aload_n (i := 1) dL_law_1208 rfl 2 rfl ?_
  refine L_arg (m := 1) dL_law_1209 dL_law_1210 dL_law_1211 dL_law_1212 dL_law_1213 ⟨rfl, rfl, rfl⟩ (by decide) hL ?_
  refine L_arg (m := 2) dL_law_1214 dL_law_1215 dL_law_1216 dL_law_1217 dL_law_1218 ⟨rfl, rfl, rfl⟩ (by decide) hL ?_
  refine L_c (As := [.int (scA g i 1), .int (scA g i 2)]) hR hi dL_law_1219 lv_L_117 ⟨by decide, by decide⟩ ⟨rfl, rfl⟩ rfl rfl (k_known hR.1 hR.2.1) (fun iv2 lw2 hc hm => ?_)
  refine V_aload_n (i := 2) dL_law_1222 rfl 3 rfl ?_
  refine L_arg (m := 1) dL_law_1223 dL_law_1224 dL_law_1225 dL_law_1226 dL_law_1227 ⟨rfl, rfl, rfl⟩ (by decide) hL ?_
  refine L_arg (m := 2) dL_law_1228 dL_law_1229 dL_law_1230 dL_law_1231 dL_law_1232 ⟨rfl, rfl, rfl⟩ (by decide) hL ?_
  refine L_r (As := [.int (scA g i 1), .int (scA g i 2)]) hR hc hi (Nat.le_of_ble_eq_true rfl) dL_law_1233 lv_L_120 ⟨by decide, by decide⟩ ⟨by decide, by decide⟩ rfl rfl (CQ.nq hR.2.2.1 (q_known hR.2.2.1 hm hR.2.1.xok)) (fun S3 iv3 lw3 h3 => ?_)
  exact V_icmp_eq (tgt := 2008) dL_law_1236 rfl (fun _ => hQ _ _ _ _ h3) (fun q => absurd rfl q)
set_option maxRecDepth 20000 in
theorem seg_earFor {g : Ev} {S : St} {iv : IV} {lw : LW} {X : Xs} {i : Nat} {Q : Option Value → Dt → Prop} (hR : LR S iv lw X i) (hi : i < 512) (hL : 6 * i + 6 ≤ g.2.2.2.2.2.1 ∧ g.2.2.2.2.2.1 ≤ 3072) (hQ : ∀ S3 iv3 lw3 X3, LR S3 iv3 lw3 X3 (i + 1) → VB g 2008 [] S3 iv3 lw3 i Q) : VA g 1241 [] S iv lw i Q := by
  refine V_aload_n (i := 1) dL_law_1241 rfl 2 rfl ?_
  refine L_arg (m := 1) dL_law_1242 dL_law_1243 dL_law_1244 dL_law_1245 dL_law_1246 ⟨rfl, rfl, rfl⟩ (by decide) hL ?_
  refine L_c (As := [.int (scA g i 1)]) hR hi dL_law_1247 lv_L_121 ⟨by decide, by decide⟩ ⟨rfl, rfl⟩ rfl rfl (k_earFor hR.1 hR.2.1) (fun iv2 lw2 hc hm => ?_)
  refine V_aload_n (i := 2) dL_law_1250 rfl 3 rfl ?_
  refine L_arg (m := 1) dL_law_1251 dL_law_1252 dL_law_1253 dL_law_1254 dL_law_1255 ⟨rfl, rfl, rfl⟩ (by decide) hL ?_
  refine L_r (As := [.int (scA g i 1)]) hR hc hi (Nat.le_of_ble_eq_true rfl) dL_law_1256 lv_L_124 ⟨by decide, by decide⟩ ⟨by decide, by decide⟩ rfl rfl (CQ.nq hR.2.2.1 (q_earFor hR.2.2.1 hm hR.2.1.xok)) (fun S3 iv3 lw3 h3 => ?_)
  exact V_icmp_eq (tgt := 2008) dL_law_1259 rfl (fun _ => hQ _ _ _ _ h3) (fun q => absurd rfl q)
set_option maxRecDepth 20000 in
theorem seg_mean {g : Ev} {S : St} {iv : IV} {lw : LW} {X : Xs} {i : Nat} {Q : Option Value → Dt → Prop} (hR : LR S iv lw X i) (hi : i < 512) (hL : 6 * i + 6 ≤ g.2.2.2.2.2.1 ∧ g.2.2.2.2.2.1 ≤ 3072) (hQ : ∀ S3 iv3 lw3 X3, LR S3 iv3 lw3 X3 (i + 1) → VB g 2008 [] S3 iv3 lw3 i Q) : VA g 1264 [] S iv lw i Q := by
  refine V_aload_n (i := 1) dL_law_1264 rfl 2 rfl ?_
  refine L_arg (m := 1) dL_law_1265 dL_law_1266 dL_law_1267 dL_law_1268 dL_law_1269 ⟨rfl, rfl, rfl⟩ (by decide) hL ?_
  refine L_c (As := [.int (scA g i 1)]) hR hi dL_law_1270 lv_L_125 ⟨by decide, by decide⟩ ⟨rfl, rfl⟩ rfl rfl (k_mean hR.1 hR.2.1) (fun iv2 lw2 hc hm => ?_)
  refine V_aload_n (i := 2) dL_law_1273 rfl 3 rfl ?_
  refine L_arg (m := 1) dL_law_1274 dL_law_1275 dL_law_1276 dL_law_1277 dL_law_1278 ⟨rfl, rfl, rfl⟩ (by decide) hL ?_
  refine L_r (As := [.int (scA g i 1)]) hR hc hi (Nat.le_of_ble_eq_true rfl) dL_law_1279 lv_L_128 ⟨by decide, by decide⟩ ⟨by decide, by decide⟩ rfl rfl (CQ.nq hR.2.2.1 (q_mean hR.2.2.1 hm hR.2.1.xok)) (fun S3 iv3 lw3 h3 => ?_)
  exact V_icmp_eq (tgt := 2008) dL_law_1282 rfl (fun _ => hQ _ _ _ _ h3) (fun q => absurd rfl q)
set_option maxRecDepth 20000 in
theorem seg_worst {g : Ev} {S : St} {iv : IV} {lw : LW} {X : Xs} {i : Nat} {Q : Option Value → Dt → Prop} (hR : LR S iv lw X i) (hi : i < 512) (hL : 6 * i + 6 ≤ g.2.2.2.2.2.1 ∧ g.2.2.2.2.2.1 ≤ 3072) (hQ : ∀ S3 iv3 lw3 X3, LR S3 iv3 lw3 X3 (i + 1) → VB g 2008 [] S3 iv3 lw3 i Q) : VA g 1287 [] S iv lw i Q := by
  refine V_aload_n (i := 1) dL_law_1287 rfl 2 rfl ?_
  refine L_arg (m := 1) dL_law_1288 dL_law_1289 dL_law_1290 dL_law_1291 dL_law_1292 ⟨rfl, rfl, rfl⟩ (by decide) hL ?_
  refine L_c (As := [.int (scA g i 1)]) hR hi dL_law_1293 lv_L_129 ⟨by decide, by decide⟩ ⟨rfl, rfl⟩ rfl rfl (k_worst hR.1 hR.2.1) (fun iv2 lw2 hc hm => ?_)
  refine V_aload_n (i := 2) dL_law_1296 rfl 3 rfl ?_
  refine L_arg (m := 1) dL_law_1297 dL_law_1298 dL_law_1299 dL_law_1300 dL_law_1301 ⟨rfl, rfl, rfl⟩ (by decide) hL ?_
  refine L_r (As := [.int (scA g i 1)]) hR hc hi (Nat.le_of_ble_eq_true rfl) dL_law_1302 lv_L_132 ⟨by decide, by decide⟩ ⟨by decide, by decide⟩ rfl rfl (CQ.nq hR.2.2.1 (q_worst hR.2.2.1 hm hR.2.1.xok)) (fun S3 iv3 lw3 h3 => ?_)
  exact V_icmp_eq (tgt := 2008) dL_law_1305 rfl (fun _ => hQ _ _ _ _ h3) (fun q => absurd rfl q)
set_option maxRecDepth 20000 in
theorem seg_next {g : Ev} {S : St} {iv : IV} {lw : LW} {X : Xs} {i : Nat} {Q : Option Value → Dt → Prop} (hR : LR S iv lw X i) (hi : i < 512) (hL : 6 * i + 6 ≤ g.2.2.2.2.2.1 ∧ g.2.2.2.2.2.1 ≤ 3072) (hQ : ∀ S3 iv3 lw3 X3, LR S3 iv3 lw3 X3 (i + 1) → VB g 2008 [] S3 iv3 lw3 i Q) : VA g 1310 [] S iv lw i Q := by
  refine V_aload_n (i := 1) dL_law_1310 rfl 2 rfl ?_
  refine L_arg (m := 1) dL_law_1311 dL_law_1312 dL_law_1313 dL_law_1314 dL_law_1315 ⟨rfl, rfl, rfl⟩ (by decide) hL ?_
  refine L_arg (m := 2) dL_law_1316 dL_law_1317 dL_law_1318 dL_law_1319 dL_law_1320 ⟨rfl, rfl, rfl⟩ (by decide) hL ?_
  refine L_arg (m := 3) dL_law_1321 dL_law_1322 dL_law_1323 dL_law_1324 dL_law_1325 ⟨rfl, rfl, rfl⟩ (by decide) hL ?_
  refine L_c (As := [.int (scA g i 1), .int (scA g i 2), .int (scA g i 3)]) hR hi dL_law_1326 lv_L_133 ⟨by decide, by decide⟩ ⟨rfl, rfl⟩ rfl rfl (k_next hR.1 hR.2.1) (fun iv2 lw2 hc hm => ?_)
  refine V_aload_n (i := 2) dL_law_1329 rfl 3 rfl ?_
  refine L_arg (m := 1) dL_law_1330 dL_law_1331 dL_law_1332 dL_law_1333 dL_law_1334 ⟨rfl, rfl, rfl⟩ (by decide) hL ?_
  refine L_arg (m := 2) dL_law_1335 dL_law_1336 dL_law_1337 dL_law_1338 dL_law_1339 ⟨rfl, rfl, rfl⟩ (by decide) hL ?_
  refine L_arg (m := 3) dL_law_1340 dL_law_1341 dL_law_1342 dL_law_1343 dL_law_1344 ⟨rfl, rfl, rfl⟩ (by decide) hL ?_
  refine L_r (As := [.int (scA g i 1), .int (scA g i 2), .int (scA g i 3)]) hR hc hi (Nat.le_of_ble_eq_true rfl) dL_law_1345 lv_L_136 ⟨by decide, by decide⟩ ⟨by decide, by decide⟩ rfl rfl (CQ.nq hR.2.2.1 (q_next hR.2.2.1 hm hR.2.1.xok)) (fun S3 iv3 lw3 h3 => ?_)
  exact V_icmp_eq (tgt := 2008) dL_law_1348 rfl (fun _ => hQ _ _ _ _ h3) (fun q => absurd rfl q)
set_option maxRecDepth 20000 in
theorem seg_alikeFirst {g : Ev} {S : St} {iv : IV} {lw : LW} {X : Xs} {i : Nat} {Q : Option Value → Dt → Prop} (hR : LR S iv lw X i) (hi : i < 512) (hL : 6 * i + 6 ≤ g.2.2.2.2.2.1 ∧ g.2.2.2.2.2.1 ≤ 3072) (hQ : ∀ S3 iv3 lw3 X3, LR S3 iv3 lw3 X3 (i + 1) → VB g 2008 [] S3 iv3 lw3 i Q) : VA g 1353 [] S iv lw i Q := by
  refine V_aload_n (i := 1) dL_law_1353 rfl 2 rfl ?_
  refine L_arg (m := 1) dL_law_1354 dL_law_1355 dL_law_1356 dL_law_1357 dL_law_1358 ⟨rfl, rfl, rfl⟩ (by decide) hL ?_
  refine L_arg (m := 2) dL_law_1359 dL_law_1360 dL_law_1361 dL_law_1362 dL_law_1363 ⟨rfl, rfl, rfl⟩ (by decide) hL ?_
  refine L_c (As := [.int (scA g i 1), .int (scA g i 2)]) hR hi dL_law_1364 lv_L_137 ⟨by decide, by decide⟩ ⟨rfl, rfl⟩ rfl rfl (k_alikeFirst hR.1 hR.2.1) (fun iv2 lw2 hc hm => ?_)
  refine V_aload_n (i := 2) dL_law_1367 rfl 3 rfl ?_
  refine L_arg (m := 1) dL_law_1368 dL_law_1369 dL_law_1370 dL_law_1371 dL_law_1372 ⟨rfl, rfl, rfl⟩ (by decide) hL ?_
  refine L_arg (m := 2) dL_law_1373 dL_law_1374 dL_law_1375 dL_law_1376 dL_law_1377 ⟨rfl, rfl, rfl⟩ (by decide) hL ?_
  refine L_r (As := [.int (scA g i 1), .int (scA g i 2)]) hR hc hi (Nat.le_of_ble_eq_true rfl) dL_law_1378 lv_L_140 ⟨by decide, by decide⟩ ⟨by decide, by decide⟩ rfl rfl (CQ.nq hR.2.2.1 (q_alikeFirst hR.2.2.1 hm hR.2.1.xok)) (fun S3 iv3 lw3 h3 => ?_)
  exact V_icmp_eq (tgt := 2008) dL_law_1381 rfl (fun _ => hQ _ _ _ _ h3) (fun q => absurd rfl q)
set_option maxRecDepth 20000 in
theorem seg_notes {g : Ev} {S : St} {iv : IV} {lw : LW} {X : Xs} {i : Nat} {Q : Option Value → Dt → Prop} (hR : LR S iv lw X i) (hi : i < 512) (hL : 6 * i + 6 ≤ g.2.2.2.2.2.1 ∧ g.2.2.2.2.2.1 ≤ 3072) (hQ : ∀ S3 iv3 lw3 X3, LR S3 iv3 lw3 X3 (i + 1) → VB g 2008 [] S3 iv3 lw3 i Q) : VA g 1386 [] S iv lw i Q := by
  refine V_aload_n (i := 1) dL_law_1386 rfl 2 rfl ?_
  refine L_arg (m := 1) dL_law_1387 dL_law_1388 dL_law_1389 dL_law_1390 dL_law_1391 ⟨rfl, rfl, rfl⟩ (by decide) hL ?_
  refine L_c (As := [.int (scA g i 1)]) hR hi dL_law_1392 lv_L_141 ⟨by decide, by decide⟩ ⟨rfl, rfl⟩ rfl rfl (k_notes hR.1 hR.2.1) (fun iv2 lw2 hc hm => ?_)
  refine V_aload_n (i := 2) dL_law_1395 rfl 3 rfl ?_
  refine L_arg (m := 1) dL_law_1396 dL_law_1397 dL_law_1398 dL_law_1399 dL_law_1400 ⟨rfl, rfl, rfl⟩ (by decide) hL ?_
  refine L_r (As := [.int (scA g i 1)]) hR hc hi (Nat.le_of_ble_eq_true rfl) dL_law_1401 lv_L_144 ⟨by decide, by decide⟩ ⟨by decide, by decide⟩ rfl rfl (CQ.nq hR.2.2.1 (q_notes hR.2.2.1 hm hR.2.1.xok)) (fun S3 iv3 lw3 h3 => ?_)
  exact V_icmp_eq (tgt := 2008) dL_law_1404 rfl (fun _ => hQ _ _ _ _ h3) (fun q => absurd rfl q)
set_option maxRecDepth 20000 in
theorem seg_twins {g : Ev} {S : St} {iv : IV} {lw : LW} {X : Xs} {i : Nat} {Q : Option Value → Dt → Prop} (hR : LR S iv lw X i) (hi : i < 512) (hL : 6 * i + 6 ≤ g.2.2.2.2.2.1 ∧ g.2.2.2.2.2.1 ≤ 3072) (hQ : ∀ S3 iv3 lw3 X3, LR S3 iv3 lw3 X3 (i + 1) → VB g 2008 [] S3 iv3 lw3 i Q) : VA g 1409 [] S iv lw i Q := by
  refine V_aload_n (i := 1) dL_law_1409 rfl 2 rfl ?_
  refine L_c (As := []) hR hi dL_law_1410 lv_L_145 ⟨by decide, by decide⟩ ⟨rfl, rfl⟩ rfl rfl (k_twins hR.1 hR.2.1) (fun iv2 lw2 hc hm => ?_)
  refine V_aload_n (i := 2) dL_law_1413 rfl 3 rfl ?_
  refine L_r (As := []) hR hc hi (Nat.le_of_ble_eq_true rfl) dL_law_1414 lv_L_148 ⟨by decide, by decide⟩ ⟨by decide, by decide⟩ rfl rfl (CQ.nq hR.2.2.1 (q_twins hR.2.2.1 hm hR.2.1.xok)) (fun S3 iv3 lw3 h3 => ?_)
  exact V_icmp_eq (tgt := 2008) dL_law_1417 rfl (fun _ => hQ _ _ _ _ h3) (fun q => absurd rfl q)
set_option maxRecDepth 20000 in
theorem seg_change {g : Ev} {S : St} {iv : IV} {lw : LW} {X : Xs} {i : Nat} {Q : Option Value → Dt → Prop} (hR : LR S iv lw X i) (hi : i < 512) (hL : 6 * i + 6 ≤ g.2.2.2.2.2.1 ∧ g.2.2.2.2.2.1 ≤ 3072) (hQ : ∀ S3 iv3 lw3 X3, LR S3 iv3 lw3 X3 (i + 1) → VB g 2008 [] S3 iv3 lw3 i Q) : VA g 1422 [] S iv lw i Q := by
  refine V_aload_n (i := 1) dL_law_1422 rfl 2 rfl ?_
  refine L_arg (m := 1) dL_law_1423 dL_law_1424 dL_law_1425 dL_law_1426 dL_law_1427 ⟨rfl, rfl, rfl⟩ (by decide) hL ?_
  refine L_arg (m := 2) dL_law_1428 dL_law_1429 dL_law_1430 dL_law_1431 dL_law_1432 ⟨rfl, rfl, rfl⟩ (by decide) hL ?_
  refine L_c (As := [.int (scA g i 1), .int (scA g i 2)]) hR hi dL_law_1433 lv_L_149 ⟨by decide, by decide⟩ ⟨rfl, rfl⟩ rfl rfl (k_change hR.1 hR.2.1) (fun iv2 lw2 hc hm => ?_)
  refine V_aload_n (i := 2) dL_law_1436 rfl 3 rfl ?_
  refine L_arg (m := 1) dL_law_1437 dL_law_1438 dL_law_1439 dL_law_1440 dL_law_1441 ⟨rfl, rfl, rfl⟩ (by decide) hL ?_
  refine L_arg (m := 2) dL_law_1442 dL_law_1443 dL_law_1444 dL_law_1445 dL_law_1446 ⟨rfl, rfl, rfl⟩ (by decide) hL ?_
  refine L_r (As := [.int (scA g i 1), .int (scA g i 2)]) hR hc hi (Nat.le_of_ble_eq_true rfl) dL_law_1447 lv_L_152 ⟨by decide, by decide⟩ ⟨by decide, by decide⟩ rfl rfl (CQ.nq hR.2.2.1 (q_change hR.2.2.1 hm hR.2.1.xok)) (fun S3 iv3 lw3 h3 => ?_)
  exact V_icmp_eq (tgt := 2008) dL_law_1450 rfl (fun _ => hQ _ _ _ _ h3) (fun q => absurd rfl q)
set_option maxRecDepth 20000 in
theorem seg_alike {g : Ev} {S : St} {iv : IV} {lw : LW} {X : Xs} {i : Nat} {Q : Option Value → Dt → Prop} (hR : LR S iv lw X i) (hi : i < 512) (hL : 6 * i + 6 ≤ g.2.2.2.2.2.1 ∧ g.2.2.2.2.2.1 ≤ 3072) (hQ : ∀ S3 iv3 lw3 X3, LR S3 iv3 lw3 X3 (i + 1) → VB g 2008 [] S3 iv3 lw3 i Q) : VA g 1455 [] S iv lw i Q := by
  refine V_aload_n (i := 1) dL_law_1455 rfl 2 rfl ?_
  refine L_arg (m := 1) dL_law_1456 dL_law_1457 dL_law_1458 dL_law_1459 dL_law_1460 ⟨rfl, rfl, rfl⟩ (by decide) hL ?_
  refine L_c (As := [.int (scA g i 1)]) hR hi dL_law_1461 lv_L_153 ⟨by decide, by decide⟩ ⟨rfl, rfl⟩ rfl rfl (k_alike hR.1 hR.2.1) (fun iv2 lw2 hc hm => ?_)
  refine V_aload_n (i := 2) dL_law_1464 rfl 3 rfl ?_
  refine L_arg (m := 1) dL_law_1465 dL_law_1466 dL_law_1467 dL_law_1468 dL_law_1469 ⟨rfl, rfl, rfl⟩ (by decide) hL ?_
  refine L_r (As := [.int (scA g i 1)]) hR hc hi (Nat.le_of_ble_eq_true rfl) dL_law_1470 lv_L_156 ⟨by decide, by decide⟩ ⟨by decide, by decide⟩ rfl rfl (CQ.nq hR.2.2.1 (q_alike hR.2.2.1 hm hR.2.1.xok)) (fun S3 iv3 lw3 h3 => ?_)
  exact V_icmp_eq (tgt := 2008) dL_law_1473 rfl (fun _ => hQ _ _ _ _ h3) (fun q => absurd rfl q)
set_option maxRecDepth 20000 in
theorem seg_mixed {g : Ev} {S : St} {iv : IV} {lw : LW} {X : Xs} {i : Nat} {Q : Option Value → Dt → Prop} (hR : LR S iv lw X i) (hi : i < 512) (hL : 6 * i + 6 ≤ g.2.2.2.2.2.1 ∧ g.2.2.2.2.2.1 ≤ 3072) (hQ : ∀ S3 iv3 lw3 X3, LR S3 iv3 lw3 X3 (i + 1) → VB g 2008 [] S3 iv3 lw3 i Q) : VA g 1478 [] S iv lw i Q := by
  refine V_aload_n (i := 1) dL_law_1478 rfl 2 rfl ?_
  refine L_arg (m := 1) dL_law_1479 dL_law_1480 dL_law_1481 dL_law_1482 dL_law_1483 ⟨rfl, rfl, rfl⟩ (by decide) hL ?_
  refine L_arg (m := 2) dL_law_1484 dL_law_1485 dL_law_1486 dL_law_1487 dL_law_1488 ⟨rfl, rfl, rfl⟩ (by decide) hL ?_
  refine L_c (As := [.int (scA g i 1), .int (scA g i 2)]) hR hi dL_law_1489 lv_L_157 ⟨by decide, by decide⟩ ⟨rfl, rfl⟩ rfl rfl (k_mixed hR.1 hR.2.1) (fun iv2 lw2 hc hm => ?_)
  refine V_aload_n (i := 2) dL_law_1492 rfl 3 rfl ?_
  refine L_arg (m := 1) dL_law_1493 dL_law_1494 dL_law_1495 dL_law_1496 dL_law_1497 ⟨rfl, rfl, rfl⟩ (by decide) hL ?_
  refine L_arg (m := 2) dL_law_1498 dL_law_1499 dL_law_1500 dL_law_1501 dL_law_1502 ⟨rfl, rfl, rfl⟩ (by decide) hL ?_
  refine L_r (As := [.int (scA g i 1), .int (scA g i 2)]) hR hc hi (Nat.le_of_ble_eq_true rfl) dL_law_1503 lv_L_160 ⟨by decide, by decide⟩ ⟨by decide, by decide⟩ rfl rfl (CQ.nq hR.2.2.1 (q_mixed hR.2.2.1 hm hR.2.1.xok)) (fun S3 iv3 lw3 h3 => ?_)
  exact V_icmp_eq (tgt := 2008) dL_law_1506 rfl (fun _ => hQ _ _ _ _ h3) (fun q => absurd rfl q)
set_option maxRecDepth 20000 in
theorem seg_fresh {g : Ev} {S : St} {iv : IV} {lw : LW} {X : Xs} {i : Nat} {Q : Option Value → Dt → Prop} (hR : LR S iv lw X i) (hi : i < 512) (hL : 6 * i + 6 ≤ g.2.2.2.2.2.1 ∧ g.2.2.2.2.2.1 ≤ 3072) (hQ : ∀ S3 iv3 lw3 X3, LR S3 iv3 lw3 X3 (i + 1) → VB g 2008 [] S3 iv3 lw3 i Q) : VA g 1511 [] S iv lw i Q := by
  refine V_aload_n (i := 1) dL_law_1511 rfl 2 rfl ?_
  refine L_arg (m := 1) dL_law_1512 dL_law_1513 dL_law_1514 dL_law_1515 dL_law_1516 ⟨rfl, rfl, rfl⟩ (by decide) hL ?_
  refine L_arg (m := 2) dL_law_1517 dL_law_1518 dL_law_1519 dL_law_1520 dL_law_1521 ⟨rfl, rfl, rfl⟩ (by decide) hL ?_
  refine L_c (As := [.int (scA g i 1), .int (scA g i 2)]) hR hi dL_law_1522 lv_L_161 ⟨by decide, by decide⟩ ⟨rfl, rfl⟩ rfl rfl (k_fresh hR.1 hR.2.1) (fun iv2 lw2 hc hm => ?_)
  refine V_aload_n (i := 2) dL_law_1525 rfl 3 rfl ?_
  refine L_arg (m := 1) dL_law_1526 dL_law_1527 dL_law_1528 dL_law_1529 dL_law_1530 ⟨rfl, rfl, rfl⟩ (by decide) hL ?_
  refine L_arg (m := 2) dL_law_1531 dL_law_1532 dL_law_1533 dL_law_1534 dL_law_1535 ⟨rfl, rfl, rfl⟩ (by decide) hL ?_
  refine L_r (As := [.int (scA g i 1), .int (scA g i 2)]) hR hc hi (Nat.le_of_ble_eq_true rfl) dL_law_1536 lv_L_164 ⟨by decide, by decide⟩ ⟨by decide, by decide⟩ rfl rfl (CQ.nq hR.2.2.1 (q_fresh_ hR.2.2.1 hm hR.2.1.xok)) (fun S3 iv3 lw3 h3 => ?_)
  exact V_icmp_eq (tgt := 2008) dL_law_1539 rfl (fun _ => hQ _ _ _ _ h3) (fun q => absurd rfl q)
set_option maxRecDepth 20000 in
theorem seg_keep {g : Ev} {S : St} {iv : IV} {lw : LW} {X : Xs} {i : Nat} {Q : Option Value → Dt → Prop} (hR : LR S iv lw X i) (hi : i < 512) (hL : 6 * i + 6 ≤ g.2.2.2.2.2.1 ∧ g.2.2.2.2.2.1 ≤ 3072) (hQ : ∀ S3 iv3 lw3 X3, LR S3 iv3 lw3 X3 (i + 1) → VB g 2008 [] S3 iv3 lw3 i Q) : VA g 1544 [] S iv lw i Q := by
  refine V_aload_n (i := 1) dL_law_1544 rfl 2 rfl ?_
  refine L_arg (m := 1) dL_law_1545 dL_law_1546 dL_law_1547 dL_law_1548 dL_law_1549 ⟨rfl, rfl, rfl⟩ (by decide) hL ?_
  refine L_c (As := [.int (scA g i 1)]) hR hi dL_law_1550 lv_L_165 ⟨by decide, by decide⟩ ⟨rfl, rfl⟩ rfl rfl (k_keep hR.1 hR.2.1) (fun iv2 lw2 hc hm => ?_)
  refine V_aload_n (i := 2) dL_law_1553 rfl 3 rfl ?_
  refine L_arg (m := 1) dL_law_1554 dL_law_1555 dL_law_1556 dL_law_1557 dL_law_1558 ⟨rfl, rfl, rfl⟩ (by decide) hL ?_
  refine L_r (As := [.int (scA g i 1)]) hR hc hi (Nat.le_of_ble_eq_true rfl) dL_law_1559 lv_L_168 ⟨by decide, by decide⟩ ⟨by decide, by decide⟩ rfl rfl (CQ.nq hR.2.2.1 (q_keep hR.2.2.1 hm hR.2.1.xok)) (fun S3 iv3 lw3 h3 => ?_)
  exact V_icmp_eq (tgt := 2008) dL_law_1562 rfl (fun _ => hQ _ _ _ _ h3) (fun q => absurd rfl q)
set_option maxRecDepth 20000 in
theorem seg_does {g : Ev} {S : St} {iv : IV} {lw : LW} {X : Xs} {i : Nat} {Q : Option Value → Dt → Prop} (hR : LR S iv lw X i) (hi : i < 512) (hL : 6 * i + 6 ≤ g.2.2.2.2.2.1 ∧ g.2.2.2.2.2.1 ≤ 3072) (hQ : ∀ S3 iv3 lw3 X3, LR S3 iv3 lw3 X3 (i + 1) → VB g 2008 [] S3 iv3 lw3 i Q) : VA g 1567 [] S iv lw i Q := by
  refine V_aload_n (i := 1) dL_law_1567 rfl 2 rfl ?_
  refine L_arg (m := 1) dL_law_1568 dL_law_1569 dL_law_1570 dL_law_1571 dL_law_1572 ⟨rfl, rfl, rfl⟩ (by decide) hL ?_
  refine L_arg (m := 2) dL_law_1573 dL_law_1574 dL_law_1575 dL_law_1576 dL_law_1577 ⟨rfl, rfl, rfl⟩ (by decide) hL ?_
  refine L_c (As := [.int (scA g i 1), .int (scA g i 2)]) hR hi dL_law_1578 lv_L_169 ⟨by decide, by decide⟩ ⟨rfl, rfl⟩ rfl rfl (k_does hR.1 hR.2.1) (fun iv2 lw2 hc hm => ?_)
  refine V_aload_n (i := 2) dL_law_1581 rfl 3 rfl ?_
  refine L_arg (m := 1) dL_law_1582 dL_law_1583 dL_law_1584 dL_law_1585 dL_law_1586 ⟨rfl, rfl, rfl⟩ (by decide) hL ?_
  refine L_arg (m := 2) dL_law_1587 dL_law_1588 dL_law_1589 dL_law_1590 dL_law_1591 ⟨rfl, rfl, rfl⟩ (by decide) hL ?_
  refine L_r (As := [.int (scA g i 1), .int (scA g i 2)]) hR hc hi (Nat.le_of_ble_eq_true rfl) dL_law_1592 lv_L_172 ⟨by decide, by decide⟩ ⟨by decide, by decide⟩ rfl rfl (CQ.nq hR.2.2.1 (q_does hR.2.2.1 hm hR.2.1.xok)) (fun S3 iv3 lw3 h3 => ?_)
  exact V_icmp_eq (tgt := 2008) dL_law_1595 rfl (fun _ => hQ _ _ _ _ h3) (fun q => absurd rfl q)
set_option maxRecDepth 20000 in
theorem seg_right {g : Ev} {S : St} {iv : IV} {lw : LW} {X : Xs} {i : Nat} {Q : Option Value → Dt → Prop} (hR : LR S iv lw X i) (hi : i < 512) (hL : 6 * i + 6 ≤ g.2.2.2.2.2.1 ∧ g.2.2.2.2.2.1 ≤ 3072) (hQ : ∀ S3 iv3 lw3 X3, LR S3 iv3 lw3 X3 (i + 1) → VB g 2008 [] S3 iv3 lw3 i Q) : VA g 1600 [] S iv lw i Q := by
  refine V_aload_n (i := 1) dL_law_1600 rfl 2 rfl ?_
  refine L_arg (m := 1) dL_law_1601 dL_law_1602 dL_law_1603 dL_law_1604 dL_law_1605 ⟨rfl, rfl, rfl⟩ (by decide) hL ?_
  refine L_c (As := [.int (scA g i 1)]) hR hi dL_law_1606 lv_L_173 ⟨by decide, by decide⟩ ⟨rfl, rfl⟩ rfl rfl (k_right hR.1 hR.2.1) (fun iv2 lw2 hc hm => ?_)
  refine V_aload_n (i := 2) dL_law_1609 rfl 3 rfl ?_
  refine L_arg (m := 1) dL_law_1610 dL_law_1611 dL_law_1612 dL_law_1613 dL_law_1614 ⟨rfl, rfl, rfl⟩ (by decide) hL ?_
  refine L_r (As := [.int (scA g i 1)]) hR hc hi (Nat.le_of_ble_eq_true rfl) dL_law_1615 lv_L_176 ⟨by decide, by decide⟩ ⟨by decide, by decide⟩ rfl rfl (CQ.nq hR.2.2.1 (q_right hR.2.2.1 hm hR.2.1.xok)) (fun S3 iv3 lw3 h3 => ?_)
  exact V_icmp_eq (tgt := 2008) dL_law_1618 rfl (fun _ => hQ _ _ _ _ h3) (fun q => absurd rfl q)
set_option maxRecDepth 20000 in
theorem seg_leads {g : Ev} {S : St} {iv : IV} {lw : LW} {X : Xs} {i : Nat} {Q : Option Value → Dt → Prop} (hR : LR S iv lw X i) (hi : i < 512) (hL : 6 * i + 6 ≤ g.2.2.2.2.2.1 ∧ g.2.2.2.2.2.1 ≤ 3072) (hQ : ∀ S3 iv3 lw3 X3, LR S3 iv3 lw3 X3 (i + 1) → VB g 2008 [] S3 iv3 lw3 i Q) : VA g 1623 [] S iv lw i Q := by
  refine V_aload_n (i := 1) dL_law_1623 rfl 2 rfl ?_
  refine L_arg (m := 1) dL_law_1624 dL_law_1625 dL_law_1626 dL_law_1627 dL_law_1628 ⟨rfl, rfl, rfl⟩ (by decide) hL ?_
  refine L_c (As := [.int (scA g i 1)]) hR hi dL_law_1629 lv_L_177 ⟨by decide, by decide⟩ ⟨rfl, rfl⟩ rfl rfl (k_leads hR.1 hR.2.1) (fun iv2 lw2 hc hm => ?_)
  refine V_aload_n (i := 2) dL_law_1632 rfl 3 rfl ?_
  refine L_arg (m := 1) dL_law_1633 dL_law_1634 dL_law_1635 dL_law_1636 dL_law_1637 ⟨rfl, rfl, rfl⟩ (by decide) hL ?_
  refine L_r (As := [.int (scA g i 1)]) hR hc hi (Nat.le_of_ble_eq_true rfl) dL_law_1638 lv_L_180 ⟨by decide, by decide⟩ ⟨by decide, by decide⟩ rfl rfl (CQ.nq hR.2.2.1 (q_leads hR.2.2.1 hm hR.2.1.xok)) (fun S3 iv3 lw3 h3 => ?_)
  exact V_icmp_eq (tgt := 2008) dL_law_1641 rfl (fun _ => hQ _ _ _ _ h3) (fun q => absurd rfl q)
set_option maxRecDepth 20000 in
theorem seg_follows {g : Ev} {S : St} {iv : IV} {lw : LW} {X : Xs} {i : Nat} {Q : Option Value → Dt → Prop} (hR : LR S iv lw X i) (hi : i < 512) (hL : 6 * i + 6 ≤ g.2.2.2.2.2.1 ∧ g.2.2.2.2.2.1 ≤ 3072) (hQ : ∀ S3 iv3 lw3 X3, LR S3 iv3 lw3 X3 (i + 1) → VB g 2008 [] S3 iv3 lw3 i Q) : VA g 1646 [] S iv lw i Q := by
  refine V_aload_n (i := 1) dL_law_1646 rfl 2 rfl ?_
  refine L_arg (m := 1) dL_law_1647 dL_law_1648 dL_law_1649 dL_law_1650 dL_law_1651 ⟨rfl, rfl, rfl⟩ (by decide) hL ?_
  refine L_c (As := [.int (scA g i 1)]) hR hi dL_law_1652 lv_L_181 ⟨by decide, by decide⟩ ⟨rfl, rfl⟩ rfl rfl (k_follows hR.1 hR.2.1) (fun iv2 lw2 hc hm => ?_)
  refine V_aload_n (i := 2) dL_law_1655 rfl 3 rfl ?_
  refine L_arg (m := 1) dL_law_1656 dL_law_1657 dL_law_1658 dL_law_1659 dL_law_1660 ⟨rfl, rfl, rfl⟩ (by decide) hL ?_
  refine L_r (As := [.int (scA g i 1)]) hR hc hi (Nat.le_of_ble_eq_true rfl) dL_law_1661 lv_L_184 ⟨by decide, by decide⟩ ⟨by decide, by decide⟩ rfl rfl (CQ.nq hR.2.2.1 (q_follows hR.2.2.1 hm hR.2.1.xok)) (fun S3 iv3 lw3 h3 => ?_)
  exact V_icmp_eq (tgt := 2008) dL_law_1664 rfl (fun _ => hQ _ _ _ _ h3) (fun q => absurd rfl q)
set_option maxRecDepth 20000 in
theorem seg_sureFor {g : Ev} {S : St} {iv : IV} {lw : LW} {X : Xs} {i : Nat} {Q : Option Value → Dt → Prop} (hR : LR S iv lw X i) (hi : i < 512) (hL : 6 * i + 6 ≤ g.2.2.2.2.2.1 ∧ g.2.2.2.2.2.1 ≤ 3072) (hQ : ∀ S3 iv3 lw3 X3, LR S3 iv3 lw3 X3 (i + 1) → VB g 2008 [] S3 iv3 lw3 i Q) : VA g 1669 [] S iv lw i Q := by
  refine V_aload_n (i := 1) dL_law_1669 rfl 2 rfl ?_
  refine L_arg (m := 1) dL_law_1670 dL_law_1671 dL_law_1672 dL_law_1673 dL_law_1674 ⟨rfl, rfl, rfl⟩ (by decide) hL ?_
  refine L_c (As := [.int (scA g i 1)]) hR hi dL_law_1675 lv_L_185 ⟨by decide, by decide⟩ ⟨rfl, rfl⟩ rfl rfl (k_sureFor hR.1 hR.2.1) (fun iv2 lw2 hc hm => ?_)
  refine V_aload_n (i := 2) dL_law_1678 rfl 3 rfl ?_
  refine L_arg (m := 1) dL_law_1679 dL_law_1680 dL_law_1681 dL_law_1682 dL_law_1683 ⟨rfl, rfl, rfl⟩ (by decide) hL ?_
  refine L_r (As := [.int (scA g i 1)]) hR hc hi (Nat.le_of_ble_eq_true rfl) dL_law_1684 lv_L_188 ⟨by decide, by decide⟩ ⟨by decide, by decide⟩ rfl rfl (q_sureFor hR.2.2.1 hm hR.2.1.xok (by have := hR.2.2.2.2; omega)) (fun S3 iv3 lw3 h3 => ?_)
  exact V_icmp_eq (tgt := 2008) dL_law_1687 rfl (fun _ => hQ _ _ _ _ h3) (fun q => absurd rfl q)
set_option maxRecDepth 20000 in
theorem seg_risk {g : Ev} {S : St} {iv : IV} {lw : LW} {X : Xs} {i : Nat} {Q : Option Value → Dt → Prop} (hR : LR S iv lw X i) (hi : i < 512) (hL : 6 * i + 6 ≤ g.2.2.2.2.2.1 ∧ g.2.2.2.2.2.1 ≤ 3072) (hQ : ∀ S3 iv3 lw3 X3, LR S3 iv3 lw3 X3 (i + 1) → VB g 2008 [] S3 iv3 lw3 i Q) : VA g 1692 [] S iv lw i Q := by
  refine V_aload_n (i := 1) dL_law_1692 rfl 2 rfl ?_
  refine L_arg (m := 1) dL_law_1693 dL_law_1694 dL_law_1695 dL_law_1696 dL_law_1697 ⟨rfl, rfl, rfl⟩ (by decide) hL ?_
  refine L_arg (m := 2) dL_law_1698 dL_law_1699 dL_law_1700 dL_law_1701 dL_law_1702 ⟨rfl, rfl, rfl⟩ (by decide) hL ?_
  refine L_c (As := [.int (scA g i 1), .int (scA g i 2)]) hR hi dL_law_1703 lv_L_189 ⟨by decide, by decide⟩ ⟨rfl, rfl⟩ rfl rfl (k_risk hR.1 hR.2.1) (fun iv2 lw2 hc hm => ?_)
  refine V_aload_n (i := 2) dL_law_1706 rfl 3 rfl ?_
  refine L_arg (m := 1) dL_law_1707 dL_law_1708 dL_law_1709 dL_law_1710 dL_law_1711 ⟨rfl, rfl, rfl⟩ (by decide) hL ?_
  refine L_arg (m := 2) dL_law_1712 dL_law_1713 dL_law_1714 dL_law_1715 dL_law_1716 ⟨rfl, rfl, rfl⟩ (by decide) hL ?_
  refine L_r (As := [.int (scA g i 1), .int (scA g i 2)]) hR hc hi (Nat.le_of_ble_eq_true rfl) dL_law_1717 lv_L_192 ⟨by decide, by decide⟩ ⟨by decide, by decide⟩ rfl rfl (CQ.nq hR.2.2.1 (q_risk hR.2.2.1 hm hR.2.1.xok)) (fun S3 iv3 lw3 h3 => ?_)
  exact V_icmp_eq (tgt := 2008) dL_law_1720 rfl (fun _ => hQ _ _ _ _ h3) (fun q => absurd rfl q)
set_option maxRecDepth 20000 in
theorem seg_learn {g : Ev} {S : St} {iv : IV} {lw : LW} {X : Xs} {i : Nat} {Q : Option Value → Dt → Prop} (hR : LR S iv lw X i) (hi : i < 512) (hL : 6 * i + 6 ≤ g.2.2.2.2.2.1 ∧ g.2.2.2.2.2.1 ≤ 3072) (hQ : ∀ S3 iv3 lw3 X3, LR S3 iv3 lw3 X3 (i + 1) → VB g 2008 [] S3 iv3 lw3 i Q) : VA g 1725 [] S iv lw i Q := by
  refine V_aload_n (i := 1) dL_law_1725 rfl 2 rfl ?_
  refine L_arg (m := 1) dL_law_1726 dL_law_1727 dL_law_1728 dL_law_1729 dL_law_1730 ⟨rfl, rfl, rfl⟩ (by decide) hL ?_
  refine L_c (As := [.int (scA g i 1)]) hR hi dL_law_1731 lv_L_193 ⟨by decide, by decide⟩ ⟨rfl, rfl⟩ rfl rfl (k_learn hR.1 hR.2.1) (fun iv2 lw2 hc hm => ?_)
  refine V_aload_n (i := 2) dL_law_1734 rfl 3 rfl ?_
  refine L_arg (m := 1) dL_law_1735 dL_law_1736 dL_law_1737 dL_law_1738 dL_law_1739 ⟨rfl, rfl, rfl⟩ (by decide) hL ?_
  refine L_r (As := [.int (scA g i 1)]) hR hc hi (Nat.le_of_ble_eq_true rfl) dL_law_1740 lv_L_196 ⟨by decide, by decide⟩ ⟨by decide, by decide⟩ rfl rfl (CQ.nq hR.2.2.1 (q_learn hR.2.2.1 hm hR.2.1.xok)) (fun S3 iv3 lw3 h3 => ?_)
  exact V_icmp_eq (tgt := 2008) dL_law_1743 rfl (fun _ => hQ _ _ _ _ h3) (fun q => absurd rfl q)
set_option maxRecDepth 20000 in
theorem seg_nearest {g : Ev} {S : St} {iv : IV} {lw : LW} {X : Xs} {i : Nat} {Q : Option Value → Dt → Prop} (hR : LR S iv lw X i) (hi : i < 512) (hL : 6 * i + 6 ≤ g.2.2.2.2.2.1 ∧ g.2.2.2.2.2.1 ≤ 3072) (hQ : ∀ S3 iv3 lw3 X3, LR S3 iv3 lw3 X3 (i + 1) → VB g 2008 [] S3 iv3 lw3 i Q) : VA g 1748 [] S iv lw i Q := by
  refine V_aload_n (i := 1) dL_law_1748 rfl 2 rfl ?_
  refine L_arg (m := 1) dL_law_1749 dL_law_1750 dL_law_1751 dL_law_1752 dL_law_1753 ⟨rfl, rfl, rfl⟩ (by decide) hL ?_
  refine L_arg (m := 2) dL_law_1754 dL_law_1755 dL_law_1756 dL_law_1757 dL_law_1758 ⟨rfl, rfl, rfl⟩ (by decide) hL ?_
  refine L_arg (m := 3) dL_law_1759 dL_law_1760 dL_law_1761 dL_law_1762 dL_law_1763 ⟨rfl, rfl, rfl⟩ (by decide) hL ?_
  refine L_c (As := [.int (scA g i 1), .int (scA g i 2), .int (scA g i 3)]) hR hi dL_law_1764 lv_L_197 ⟨by decide, by decide⟩ ⟨rfl, rfl⟩ rfl rfl (k_nearest hR.1 hR.2.1) (fun iv2 lw2 hc hm => ?_)
  refine V_aload_n (i := 2) dL_law_1767 rfl 3 rfl ?_
  refine L_arg (m := 1) dL_law_1768 dL_law_1769 dL_law_1770 dL_law_1771 dL_law_1772 ⟨rfl, rfl, rfl⟩ (by decide) hL ?_
  refine L_arg (m := 2) dL_law_1773 dL_law_1774 dL_law_1775 dL_law_1776 dL_law_1777 ⟨rfl, rfl, rfl⟩ (by decide) hL ?_
  refine L_arg (m := 3) dL_law_1778 dL_law_1779 dL_law_1780 dL_law_1781 dL_law_1782 ⟨rfl, rfl, rfl⟩ (by decide) hL ?_
  refine L_r (As := [.int (scA g i 1), .int (scA g i 2), .int (scA g i 3)]) hR hc hi (Nat.le_of_ble_eq_true rfl) dL_law_1783 lv_L_200 ⟨by decide, by decide⟩ ⟨by decide, by decide⟩ rfl rfl (CQ.nq hR.2.2.1 (q_nearest hR.2.2.1 hm hR.2.1.xok)) (fun S3 iv3 lw3 h3 => ?_)
  exact V_icmp_eq (tgt := 2008) dL_law_1786 rfl (fun _ => hQ _ _ _ _ h3) (fun q => absurd rfl q)
set_option maxRecDepth 20000 in
theorem seg_judge {g : Ev} {S : St} {iv : IV} {lw : LW} {X : Xs} {i : Nat} {Q : Option Value → Dt → Prop} (hR : LR S iv lw X i) (hi : i < 512) (hL : 6 * i + 6 ≤ g.2.2.2.2.2.1 ∧ g.2.2.2.2.2.1 ≤ 3072) (hQ : ∀ S3 iv3 lw3 X3, LR S3 iv3 lw3 X3 (i + 1) → VB g 2008 [] S3 iv3 lw3 i Q) : VA g 1791 [] S iv lw i Q := by
  refine V_aload_n (i := 1) dL_law_1791 rfl 2 rfl ?_
  refine L_arg (m := 1) dL_law_1792 dL_law_1793 dL_law_1794 dL_law_1795 dL_law_1796 ⟨rfl, rfl, rfl⟩ (by decide) hL ?_
  refine L_arg (m := 2) dL_law_1797 dL_law_1798 dL_law_1799 dL_law_1800 dL_law_1801 ⟨rfl, rfl, rfl⟩ (by decide) hL ?_
  refine L_c (As := [.int (scA g i 1), .int (scA g i 2)]) hR hi dL_law_1802 lv_L_201 ⟨by decide, by decide⟩ ⟨rfl, rfl⟩ rfl rfl (k_judge hR.1 hR.2.1) (fun iv2 lw2 hc hm => ?_)
  refine V_aload_n (i := 2) dL_law_1805 rfl 3 rfl ?_
  refine L_arg (m := 1) dL_law_1806 dL_law_1807 dL_law_1808 dL_law_1809 dL_law_1810 ⟨rfl, rfl, rfl⟩ (by decide) hL ?_
  refine L_arg (m := 2) dL_law_1811 dL_law_1812 dL_law_1813 dL_law_1814 dL_law_1815 ⟨rfl, rfl, rfl⟩ (by decide) hL ?_
  refine L_r (As := [.int (scA g i 1), .int (scA g i 2)]) hR hc hi (Nat.le_of_ble_eq_true rfl) dL_law_1816 lv_L_204 ⟨by decide, by decide⟩ ⟨by decide, by decide⟩ rfl rfl (CQ.nq hR.2.2.1 (q_judge hR.2.2.1 hm hR.2.1.xok)) (fun S3 iv3 lw3 h3 => ?_)
  exact V_icmp_eq (tgt := 2008) dL_law_1819 rfl (fun _ => hQ _ _ _ _ h3) (fun q => absurd rfl q)
set_option maxRecDepth 20000 in
theorem seg_when {g : Ev} {S : St} {iv : IV} {lw : LW} {X : Xs} {i : Nat} {Q : Option Value → Dt → Prop} (hR : LR S iv lw X i) (hi : i < 512) (hL : 6 * i + 6 ≤ g.2.2.2.2.2.1 ∧ g.2.2.2.2.2.1 ≤ 3072) (hQ : ∀ S3 iv3 lw3 X3, LR S3 iv3 lw3 X3 (i + 1) → VB g 2008 [] S3 iv3 lw3 i Q) : VA g 1824 [] S iv lw i Q := by
  refine V_aload_n (i := 1) dL_law_1824 rfl 2 rfl ?_
  refine L_arg (m := 1) dL_law_1825 dL_law_1826 dL_law_1827 dL_law_1828 dL_law_1829 ⟨rfl, rfl, rfl⟩ (by decide) hL ?_
  refine L_arg (m := 2) dL_law_1830 dL_law_1831 dL_law_1832 dL_law_1833 dL_law_1834 ⟨rfl, rfl, rfl⟩ (by decide) hL ?_
  refine L_arg (m := 3) dL_law_1835 dL_law_1836 dL_law_1837 dL_law_1838 dL_law_1839 ⟨rfl, rfl, rfl⟩ (by decide) hL ?_
  refine L_c (As := [.int (scA g i 1), .int (scA g i 2), .int (scA g i 3)]) hR hi dL_law_1840 lv_L_205 ⟨by decide, by decide⟩ ⟨rfl, rfl⟩ rfl rfl (k_when hR.1 hR.2.1) (fun iv2 lw2 hc hm => ?_)
  refine V_aload_n (i := 2) dL_law_1843 rfl 3 rfl ?_
  refine L_arg (m := 1) dL_law_1844 dL_law_1845 dL_law_1846 dL_law_1847 dL_law_1848 ⟨rfl, rfl, rfl⟩ (by decide) hL ?_
  refine L_arg (m := 2) dL_law_1849 dL_law_1850 dL_law_1851 dL_law_1852 dL_law_1853 ⟨rfl, rfl, rfl⟩ (by decide) hL ?_
  refine L_arg (m := 3) dL_law_1854 dL_law_1855 dL_law_1856 dL_law_1857 dL_law_1858 ⟨rfl, rfl, rfl⟩ (by decide) hL ?_
  refine L_r (As := [.int (scA g i 1), .int (scA g i 2), .int (scA g i 3)]) hR hc hi (Nat.le_of_ble_eq_true rfl) dL_law_1859 lv_L_208 ⟨by decide, by decide⟩ ⟨by decide, by decide⟩ rfl rfl (CQ.nq hR.2.2.1 (q_when hR.2.2.1 hm hR.2.1.xok)) (fun S3 iv3 lw3 h3 => ?_)
  exact V_icmp_eq (tgt := 2008) dL_law_1862 rfl (fun _ => hQ _ _ _ _ h3) (fun q => absurd rfl q)
set_option maxRecDepth 20000 in
theorem seg_sound {g : Ev} {S : St} {iv : IV} {lw : LW} {X : Xs} {i : Nat} {Q : Option Value → Dt → Prop} (hR : LR S iv lw X i) (hi : i < 512) (hL : 6 * i + 6 ≤ g.2.2.2.2.2.1 ∧ g.2.2.2.2.2.1 ≤ 3072) (hQ : ∀ S3 iv3 lw3 X3, LR S3 iv3 lw3 X3 (i + 1) → VB g 2008 [] S3 iv3 lw3 i Q) : VA g 1867 [] S iv lw i Q := by
  refine V_aload_n (i := 1) dL_law_1867 rfl 2 rfl ?_
  refine L_arg (m := 1) dL_law_1868 dL_law_1869 dL_law_1870 dL_law_1871 dL_law_1872 ⟨rfl, rfl, rfl⟩ (by decide) hL ?_
  refine L_arg (m := 2) dL_law_1873 dL_law_1874 dL_law_1875 dL_law_1876 dL_law_1877 ⟨rfl, rfl, rfl⟩ (by decide) hL ?_
  refine L_c (As := [.int (scA g i 1), .int (scA g i 2)]) hR hi dL_law_1878 lv_L_209 ⟨by decide, by decide⟩ ⟨rfl, rfl⟩ rfl rfl (k_sound hR.1 hR.2.1) (fun iv2 lw2 hc hm => ?_)
  refine V_aload_n (i := 2) dL_law_1881 rfl 3 rfl ?_
  refine L_arg (m := 1) dL_law_1882 dL_law_1883 dL_law_1884 dL_law_1885 dL_law_1886 ⟨rfl, rfl, rfl⟩ (by decide) hL ?_
  refine L_arg (m := 2) dL_law_1887 dL_law_1888 dL_law_1889 dL_law_1890 dL_law_1891 ⟨rfl, rfl, rfl⟩ (by decide) hL ?_
  refine L_r (As := [.int (scA g i 1), .int (scA g i 2)]) hR hc hi (Nat.le_of_ble_eq_true rfl) dL_law_1892 lv_L_212 ⟨by decide, by decide⟩ ⟨by decide, by decide⟩ rfl rfl (CQ.nq hR.2.2.1 (q_sound hR.2.2.1 hm hR.2.1.xok)) (fun S3 iv3 lw3 h3 => ?_)
  exact V_icmp_eq (tgt := 2008) dL_law_1895 rfl (fun _ => hQ _ _ _ _ h3) (fun q => absurd rfl q)
set_option maxRecDepth 20000 in
theorem seg_days {g : Ev} {S : St} {iv : IV} {lw : LW} {X : Xs} {i : Nat} {Q : Option Value → Dt → Prop} (hR : LR S iv lw X i) (hi : i < 512) (hL : 6 * i + 6 ≤ g.2.2.2.2.2.1 ∧ g.2.2.2.2.2.1 ≤ 3072) (hQ : ∀ S3 iv3 lw3 X3, LR S3 iv3 lw3 X3 (i + 1) → VB g 2008 [] S3 iv3 lw3 i Q) : VA g 1900 [] S iv lw i Q := by
  refine V_aload_n (i := 1) dL_law_1900 rfl 2 rfl ?_
  refine L_arg (m := 1) dL_law_1901 dL_law_1902 dL_law_1903 dL_law_1904 dL_law_1905 ⟨rfl, rfl, rfl⟩ (by decide) hL ?_
  refine L_c (As := [.int (scA g i 1)]) hR hi dL_law_1906 lv_L_213 ⟨by decide, by decide⟩ ⟨rfl, rfl⟩ rfl rfl (k_days hR.1 hR.2.1) (fun iv2 lw2 hc hm => ?_)
  refine V_aload_n (i := 2) dL_law_1909 rfl 3 rfl ?_
  refine L_arg (m := 1) dL_law_1910 dL_law_1911 dL_law_1912 dL_law_1913 dL_law_1914 ⟨rfl, rfl, rfl⟩ (by decide) hL ?_
  refine L_r (As := [.int (scA g i 1)]) hR hc hi (Nat.le_of_ble_eq_true rfl) dL_law_1915 lv_L_216 ⟨by decide, by decide⟩ ⟨by decide, by decide⟩ rfl rfl (CQ.nq hR.2.2.1 (q_days hR.2.2.1 hm hR.2.1.xok)) (fun S3 iv3 lw3 h3 => ?_)
  exact V_icmp_eq (tgt := 2008) dL_law_1918 rfl (fun _ => hQ _ _ _ _ h3) (fun q => absurd rfl q)
set_option maxRecDepth 20000 in
theorem seg_drop {g : Ev} {S : St} {iv : IV} {lw : LW} {X : Xs} {i : Nat} {Q : Option Value → Dt → Prop} (hR : LR S iv lw X i) (hi : i < 512) (hL : 6 * i + 6 ≤ g.2.2.2.2.2.1 ∧ g.2.2.2.2.2.1 ≤ 3072) (hQ : ∀ S3 iv3 lw3 X3, LR S3 iv3 lw3 X3 (i + 1) → VB g 2008 [] S3 iv3 lw3 i Q) : VA g 1923 [] S iv lw i Q := by
  refine V_aload_n (i := 1) dL_law_1923 rfl 2 rfl ?_
  refine L_c (As := []) hR hi dL_law_1924 lv_L_217 ⟨by decide, by decide⟩ ⟨rfl, rfl⟩ rfl rfl (k_drop hR.1 hR.2.1) (fun iv2 lw2 hc hm => ?_)
  refine V_aload_n (i := 2) dL_law_1927 rfl 3 rfl ?_
  refine L_r (As := []) hR hc hi (Nat.le_of_ble_eq_true rfl) dL_law_1928 lv_L_220 ⟨by decide, by decide⟩ ⟨by decide, by decide⟩ rfl rfl (CQ.nq hR.2.2.1 (q_drop hR.2.2.1 hm hR.2.1.xok)) (fun S3 iv3 lw3 h3 => ?_)
  exact V_icmp_eq (tgt := 2008) dL_law_1931 rfl (fun _ => hQ _ _ _ _ h3) (fun q => absurd rfl q)
set_option maxRecDepth 20000 in
theorem seg_seed {g : Ev} {S : St} {iv : IV} {lw : LW} {X : Xs} {i : Nat} {Q : Option Value → Dt → Prop} (hR : LR S iv lw X i) (hi : i < 512) (hL : 6 * i + 6 ≤ g.2.2.2.2.2.1 ∧ g.2.2.2.2.2.1 ≤ 3072) (hQ : ∀ S3 iv3 lw3 X3, LR S3 iv3 lw3 X3 (i + 1) → VB g 2008 [] S3 iv3 lw3 i Q) : VA g 1936 [] S iv lw i Q := by
  refine V_aload_n (i := 1) dL_law_1936 rfl 2 rfl ?_
  refine L_arg (m := 1) dL_law_1937 dL_law_1938 dL_law_1939 dL_law_1940 dL_law_1941 ⟨rfl, rfl, rfl⟩ (by decide) hL ?_
  refine L_c (As := [.int (scA g i 1)]) hR hi dL_law_1942 lv_L_221 ⟨by decide, by decide⟩ ⟨rfl, rfl⟩ rfl rfl (k_seed hR.1 hR.2.1) (fun iv2 lw2 hc hm => ?_)
  refine V_aload_n (i := 2) dL_law_1945 rfl 3 rfl ?_
  refine L_arg (m := 1) dL_law_1946 dL_law_1947 dL_law_1948 dL_law_1949 dL_law_1950 ⟨rfl, rfl, rfl⟩ (by decide) hL ?_
  refine L_r (As := [.int (scA g i 1)]) hR hc hi (Nat.le_of_ble_eq_true rfl) dL_law_1951 lv_L_224 ⟨by decide, by decide⟩ ⟨by decide, by decide⟩ rfl rfl (CQ.nq hR.2.2.1 (q_seed hR.2.2.1 hm hR.2.1.xok)) (fun S3 iv3 lw3 h3 => ?_)
  exact V_icmp_eq (tgt := 2008) dL_law_1954 rfl (fun _ => hQ _ _ _ _ h3) (fun q => absurd rfl q)
set_option maxRecDepth 20000 in
theorem seg_image {g : Ev} {S : St} {iv : IV} {lw : LW} {X : Xs} {i : Nat} {Q : Option Value → Dt → Prop} (hR : LR S iv lw X i) (hi : i < 512) (hL : 6 * i + 6 ≤ g.2.2.2.2.2.1 ∧ g.2.2.2.2.2.1 ≤ 3072) (hQ : ∀ S3 iv3 lw3 X3, LR S3 iv3 lw3 X3 (i + 1) → VB g 2008 [] S3 iv3 lw3 i Q) : VA g 1959 [] S iv lw i Q := by
  refine V_aload_n (i := 1) dL_law_1959 rfl 2 rfl ?_
  refine L_c (As := []) hR hi dL_law_1960 lv_L_225 ⟨by decide, by decide⟩ ⟨rfl, rfl⟩ rfl rfl (k_image hR.1 hR.2.1) (fun iv2 lw2 hc hm => ?_)
  refine V_aload_n (i := 2) dL_law_1963 rfl 3 rfl ?_
  refine L_r (As := []) hR hc hi (Nat.le_of_ble_eq_true rfl) dL_law_1964 lv_L_228 ⟨by decide, by decide⟩ ⟨by decide, by decide⟩ rfl rfl (q_image hR.2.2.1 hm hR.2.1.xok (by have := hR.2.2.2.2; omega)) (fun S3 iv3 lw3 h3 => ?_)
  exact V_icmp_eq (tgt := 2008) dL_law_1967 rfl (fun _ => hQ _ _ _ _ h3) (fun q => absurd rfl q)
set_option maxRecDepth 20000 in
theorem seg_back {g : Ev} {S : St} {iv : IV} {lw : LW} {X : Xs} {i : Nat} {Q : Option Value → Dt → Prop} (hR : LR S iv lw X i) (hi : i < 512) (hL : 6 * i + 6 ≤ g.2.2.2.2.2.1 ∧ g.2.2.2.2.2.1 ≤ 3072) (hQ : ∀ S3 iv3 lw3 X3, LR S3 iv3 lw3 X3 (i + 1) → VB g 2008 [] S3 iv3 lw3 i Q) : VA g 1972 [] S iv lw i Q := by
  refine V_aload_n (i := 1) dL_law_1972 rfl 2 rfl ?_
  refine L_c (As := []) hR hi dL_law_1973 lv_L_229 ⟨by decide, by decide⟩ ⟨rfl, rfl⟩ rfl rfl (k_back hR.1 hR.2.1) (fun iv2 lw2 hc hm => ?_)
  refine V_aload_n (i := 2) dL_law_1976 rfl 3 rfl ?_
  refine L_r (As := []) hR hc hi (Nat.le_of_ble_eq_true rfl) dL_law_1977 lv_L_232 ⟨by decide, by decide⟩ ⟨by decide, by decide⟩ rfl rfl (CQ.nq hR.2.2.1 (q_back hR.2.2.1 hm hR.2.1.xok)) (fun S3 iv3 lw3 h3 => ?_)
  exact V_icmp_eq (tgt := 2008) dL_law_1980 rfl (fun _ => hQ _ _ _ _ h3) (fun q => absurd rfl q)
set_option maxRecDepth 20000 in
theorem seg_status {g : Ev} {S : St} {iv : IV} {lw : LW} {X : Xs} {i : Nat} {Q : Option Value → Dt → Prop} (hR : LR S iv lw X i) (hi : i < 512) (hL : 6 * i + 6 ≤ g.2.2.2.2.2.1 ∧ g.2.2.2.2.2.1 ≤ 3072) (hQ : ∀ S3 iv3 lw3 X3, LR S3 iv3 lw3 X3 (i + 1) → VB g 2008 [] S3 iv3 lw3 i Q) : VA g 1985 [] S iv lw i Q := by
  refine V_aload_n (i := 1) dL_law_1985 rfl 2 rfl ?_
  refine L_arg (m := 1) dL_law_1986 dL_law_1987 dL_law_1988 dL_law_1989 dL_law_1990 ⟨rfl, rfl, rfl⟩ (by decide) hL ?_
  refine L_c (As := [.int (scA g i 1)]) hR hi dL_law_1991 lv_L_233 ⟨by decide, by decide⟩ ⟨rfl, rfl⟩ rfl rfl (k_status hR.1 hR.2.1) (fun iv2 lw2 hc hm => ?_)
  refine V_aload_n (i := 2) dL_law_1994 rfl 3 rfl ?_
  refine L_arg (m := 1) dL_law_1995 dL_law_1996 dL_law_1997 dL_law_1998 dL_law_1999 ⟨rfl, rfl, rfl⟩ (by decide) hL ?_
  refine L_r (As := [.int (scA g i 1)]) hR hc hi (Nat.le_of_ble_eq_true rfl) dL_law_2000 lv_L_236 ⟨by decide, by decide⟩ ⟨by decide, by decide⟩ rfl rfl (CQ.nq hR.2.2.1 (q_status hR.2.2.1 hm hR.2.1.xok)) (fun S3 iv3 lw3 h3 => ?_)
  exact V_icmp_eq (tgt := 2008) dL_law_2003 rfl (fun _ => hQ _ _ _ _ h3) (fun q => absurd rfl q)
