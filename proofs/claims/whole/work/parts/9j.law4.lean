/-! The law's cases: a call on both sides, the answers alike. -/
theorem Mx.mc {g : GG} {y : MethodName} {c : ByteArray} {ml : Nat} {rt : Option FieldType} {d mc ms : Nat} {av : List Value} {X : va_W} {T : TT} {I : II} {P : PhiT} {E : String → va_W → TT → II → Prop} (h : Mx g y c ml rt d mc ms av X T I P E) (hE : ∀ c X' T' I', ¬ E c X' T' I') : Mc g y c ml rt d mc ms av X T I P := by
  intro l hl p e a1 a2 a3 s m args below f1 f2 f3 f4
  obtain ⟨n, o, g1, g2, g3, h9⟩ := h l hl p e a1 a2 a3 s m args below f1 f2 f3 f4
  rcases h9 with h9 | ⟨q, q1, E1, ce, L, ⟨⟨X', T', I', b1, b2⟩, b3⟩, b4⟩
  · exact ⟨n, o, g1, g2, g3, h9⟩
  · exact absurd b1 (hE _ _ _ _)
theorem thrown_c {g : GG} {X : va_W} {T : TT} {I : II} {M : Nat} (hm : isMd T M) : Mc g yX10_thrown cX10_thrown 1 (some .int) 1 0 0 [.ref M] X T I (Ex (some (.int (I M 0))) X T I) := by
  have h := c_thrown (g := g) (X := X) (I := I) (w := I (M + 1)) hm
  rw [sr_id] at h
  exact h
theorem r_wide {g : GG} {k : KK} {nL : Nat} {Q : State → Prop} {cells slots pc c' s' : Nat} {lo : List (Nat × Value)} {st : List Value} {X : va_W} {T : TT} {I : II} (h1 : cells ≤ c') (h2 : slots ≤ s') (kk : Go g k nL Q c' s' pc lo st X T I) : Go g k nL Q cells slots pc lo st X T I := fun ls H locs a1 a2 a3 => W.widen h1 h2 (kk ls H locs a1 a2 a3)
def lo0 (b x M a d m : Nat) : List (Nat × Value) := [(0, .ref b), (1, .ref x), (2, .ref M), (3, .ref a), (4, .ref d), (5, .int (nI m))]
/-- where the law walks -/
def LwC (g : GG) (k : KK) (b L : Nat) (xs : Nat → Int32) : Prop := Cx g k 9 cL_law RL (some .boolean) 510 603072 7186538 ∧ (kl k).flags = flags0 ∧ Ncs (ks k) ∧ va_X b L xs (ks k) (ks k).heap ∧ b < (ks k).heap.size ∧ ¬ Ab g b ∧ L ≤ 3072
/-- behind a call's lines -/
def Bk (g : GG) (k : KK) (Q : State → Prop) (b x M a d n : Nat) : Prop := ∀ (f' : Nat → Int64) (h' : Nat → UInt64) (T' : TT) (I' : II) (s' : AS), Iv x M T' I' s' s' (n + 1) → Go g k 9 Q (600 + 30 * n + 30) (6000 + 4200 * n + 4200) 3549 (lo0 b x M a d (6 * n)) [] (XO g a f' d h') T' I'
section G9J
variable {g : GG} {k : KK} {Q : State → Prop} {b x M a d n L : Nat} {xs : Nat → Int32} {f : Nat → Int64} {h : Nat → UInt64} {T : TT} {I : II} {s : AS}
set_option maxHeartbeats 1000000 in
theorem lw_0 (S : LwC g k b L xs) (hn : 6 * n + 6 ≤ L) (hI : Iv x M T I s s n) (hback : Bk g k Q b x M a d n) : Go g k 9 Q (600 + 30 * n) (6000 + 4200 * n) 316 (lo0 b x M a d (6 * n)) [] (XO g a f d h) T I := by
  obtain ⟨C, hfl, hnc, hX, hbl, hbA, hL⟩ := S
  obtain ⟨kx, v, s', ⟨hk, hv⟩, hO, hR⟩ := op_addBorrower (g := g) (X := XO g a f d h) (T := T) (I := I) hI (by omega) (xs (6 * n + 1))
  refine r_aload_n (pc := 316) C 1 dL_law_316 rfl rfl ?_
  refine r_aload_n (pc := 317) C 0 dL_law_317 rfl rfl ?_
  refine r_iload (pc := 318) C 5 dL_law_318 rfl ?_
  refine r_iconst (pc := 320) (v := 1) C dL_law_320 rfl ?_
  refine r_iaddN (pc := 321) C dL_law_321 ?_
  refine r_sld (pc := 322) (x := 6 * n + 1) C hX hbl hbA rfl (by omega) (by omega) dL_law_322 ?_
  refine r_aload_n (pc := 323) C 3 dL_law_323 rfl rfl ?_
  refine r_callW (pc := 324) C hfl hnc k_L_183 (w_addBorrower hI.1 hk hv hO) rfl rfl (Nat.le_of_ble_eq_true rfl) (by decide) ⟨by omega, by omega⟩ dL_law_324 (fun r1 X1 T1 I1 h1 => ?_)
  obtain ⟨rfl, hI1, f1, rfl, hv1⟩ := h1
  refine r_st (st' := .int (nI kx) :: _) rfl ?_
  refine r_istore (pc := 327) (lo' := [(6, _), (0, _), (1, _), (2, _), (3, _), (4, _), (5, _)]) C dL_law_327 (by decide) rfl ?_
  obtain ⟨b9, ⟨hb, i9, rfl⟩, d9, hd9, hM9⟩ := hR (XO g a f1 d h) T1 I1 hI1
  refine r_aload_n (pc := 329) C 3 dL_law_329 rfl rfl ?_
  refine r_aload_n (pc := 330) C 1 dL_law_330 rfl rfl ?_
  refine r_iload (pc := 331) C 6 dL_law_331 rfl ?_
  refine r_iconst (pc := 333) (v := 1) C dL_law_333 rfl ?_
  refine r_iaddN (pc := 334) C dL_law_334 ?_
  refine r_sld (pc := 335) (x := 6 * n + 1) C hX hbl hbA rfl (by omega) (by omega) dL_law_335 ?_
  refine r_callV (pc := 336) C hfl k_L_188 hM9 hI1.2.1.1 ca_X10 rfl rfl (Nat.le_of_ble_eq_true rfl) ⟨by omega, by decide⟩ ⟨by omega, by omega⟩ dL_law_336 (fun r2 X2 T2 I2 h2 => ?_)
  obtain ⟨rfl, rfl, rfl, hc2, hI2⟩ := h2
  refine r_st (st' := .int i9 :: _) rfl ?_
  refine r_istore (pc := 339) (lo' := [(7, _), (6, _), (0, _), (1, _), (2, _), (3, _), (4, _), (5, _)]) C dL_law_339 (by decide) rfl ?_
  refine r_aload_n (pc := 341) C 4 dL_law_341 rfl rfl ?_
  refine r_callV (pc := 342) C hfl k_L_189 (thrown_c hI2.2.1) hI2.2.1.1 ca_X10 rfl rfl (Nat.le_of_ble_eq_true rfl) ⟨by omega, by decide⟩ ⟨by omega, by omega⟩ dL_law_342 (fun r3 X3 T3 I3 h3 => ?_)
  obtain ⟨rfl, rfl, rfl, rfl⟩ := h3
  refine r_st (st' := .int (I3 M 0) :: _) rfl ?_
  refine r_iload (pc := 345) C 1 dL_law_345 rfl ?_
  refine r_ceq (pc := 347) (tgt := 352) C dL_law_347 rfl (fun _ => ?_) (fun c => absurd (hc2 (by decide)) c)
  refine r_iload (pc := 352) C 1 dL_law_352 rfl ?_
  have hfin : Go g k 9 Q (600 + 30 * n + 30 + 0 + 0) (6000 + 4200 * n + 4200 + 0 + 0) 369 [(7, .int i9), (6, .int (nI kx)), (0, .ref b), (1, .ref x), (2, .ref M), (3, .ref a), (4, .ref d), (5, .int (nI (6 * n)))] [] (XO g a f1 d h) T3 I3 := r_goto (pc := 369) (tgt := 3549) C dL_law_369 rfl (r_ls (lo' := lo0 b x M a d (6 * n)) [2, 3, 4, 5, 6, 7] rfl (r_wide (by omega) (by omega) (hback f1 h T3 I3 s' hI2)))
  refine r_ifne (pc := 354) (tgt := 369) C dL_law_354 rfl (fun _ => hfin) (fun c0 => ?_)
  have hk0 : kx = 0 := nI_j (by have : kx ≤ 2 := hk; omega) (by decide) c0
  subst hk0
  obtain ⟨i1, rfl, e2⟩ := hv1 rfl
  have e9 : i9 = i1 := by injection (hb rfl)
  subst e9
  refine r_aload_n (pc := 357) C 5 dL_law_357 rfl rfl ?_
  refine r_iconst (pc := 358) (v := 0) C dL_law_358 rfl ?_
  refine r_jald (pc := 359) C dL_law_359 ?_
  refine r_iload (pc := 360) C 0 dL_law_360 rfl ?_
  refine r_i2l (pc := 362) C dL_law_362 ?_
  refine r_lcmpE (pc := 363) C dL_law_363 e2.symm ?_
  exact r_ifeq (pc := 364) (tgt := 369) C dL_law_364 rfl (fun _ => hfin) (fun c => absurd rfl c)

set_option maxHeartbeats 1000000 in
theorem lw_1 (S : LwC g k b L xs) (hn : 6 * n + 6 ≤ L) (hI : Iv x M T I s s n) (hback : Bk g k Q b x M a d n) : Go g k 9 Q (600 + 30 * n) (6000 + 4200 * n) 372 (lo0 b x M a d (6 * n)) [] (XO g a f d h) T I := by
  obtain ⟨C, hfl, hnc, hX, hbl, hbA, hL⟩ := S
  obtain ⟨kx, v, s', ⟨hk, hv⟩, hO, hR⟩ := op_bring (g := g) (X := XO g a f d h) (T := T) (I := I) hI (by omega) (xs (6 * n + 1)) (xs (6 * n + 2)) (xs (6 * n + 3))
  refine r_aload_n (pc := 372) C 1 dL_law_372 rfl rfl ?_
  refine r_aload_n (pc := 373) C 0 dL_law_373 rfl rfl ?_
  refine r_iload (pc := 374) C 5 dL_law_374 rfl ?_
  refine r_iconst (pc := 376) (v := 1) C dL_law_376 rfl ?_
  refine r_iaddN (pc := 377) C dL_law_377 ?_
  refine r_sld (pc := 378) (x := 6 * n + 1) C hX hbl hbA rfl (by omega) (by omega) dL_law_378 ?_
  refine r_aload_n (pc := 379) C 0 dL_law_379 rfl rfl ?_
  refine r_iload (pc := 380) C 5 dL_law_380 rfl ?_
  refine r_iconst (pc := 382) (v := 2) C dL_law_382 rfl ?_
  refine r_iaddN (pc := 383) C dL_law_383 ?_
  refine r_sld (pc := 384) (x := 6 * n + 2) C hX hbl hbA rfl (by omega) (by omega) dL_law_384 ?_
  refine r_aload_n (pc := 385) C 0 dL_law_385 rfl rfl ?_
  refine r_iload (pc := 386) C 5 dL_law_386 rfl ?_
  refine r_iconst (pc := 388) (v := 3) C dL_law_388 rfl ?_
  refine r_iaddN (pc := 389) C dL_law_389 ?_
  refine r_sld (pc := 390) (x := 6 * n + 3) C hX hbl hbA rfl (by omega) (by omega) dL_law_390 ?_
  refine r_aload_n (pc := 391) C 3 dL_law_391 rfl rfl ?_
  refine r_callW (pc := 392) C hfl hnc k_L_192 (w_bring hI.1 hk hv hO) rfl rfl (Nat.le_of_ble_eq_true rfl) (by decide) ⟨by omega, by omega⟩ dL_law_392 (fun r1 X1 T1 I1 h1 => ?_)
  obtain ⟨rfl, hI1, f1, rfl, hv1⟩ := h1
  refine r_st (st' := .int (nI kx) :: _) rfl ?_
  refine r_istore (pc := 395) (lo' := [(6, _), (0, _), (1, _), (2, _), (3, _), (4, _), (5, _)]) C dL_law_395 (by decide) rfl ?_
  obtain ⟨b9, ⟨hb, i9, rfl⟩, d9, hd9, hM9⟩ := hR (XO g a f1 d h) T1 I1 hI1
  refine r_aload_n (pc := 397) C 3 dL_law_397 rfl rfl ?_
  refine r_aload_n (pc := 398) C 1 dL_law_398 rfl rfl ?_
  refine r_iload (pc := 399) C 6 dL_law_399 rfl ?_
  refine r_iconst (pc := 401) (v := 1) C dL_law_401 rfl ?_
  refine r_iaddN (pc := 402) C dL_law_402 ?_
  refine r_sld (pc := 403) (x := 6 * n + 1) C hX hbl hbA rfl (by omega) (by omega) dL_law_403 ?_
  refine r_aload_n (pc := 404) C 1 dL_law_404 rfl rfl ?_
  refine r_iload (pc := 405) C 6 dL_law_405 rfl ?_
  refine r_iconst (pc := 407) (v := 2) C dL_law_407 rfl ?_
  refine r_iaddN (pc := 408) C dL_law_408 ?_
  refine r_sld (pc := 409) (x := 6 * n + 2) C hX hbl hbA rfl (by omega) (by omega) dL_law_409 ?_
  refine r_aload_n (pc := 410) C 1 dL_law_410 rfl rfl ?_
  refine r_iload (pc := 411) C 6 dL_law_411 rfl ?_
  refine r_iconst (pc := 413) (v := 3) C dL_law_413 rfl ?_
  refine r_iaddN (pc := 414) C dL_law_414 ?_
  refine r_sld (pc := 415) (x := 6 * n + 3) C hX hbl hbA rfl (by omega) (by omega) dL_law_415 ?_
  refine r_callV (pc := 416) C hfl k_L_195 hM9 hI1.2.1.1 ca_X10 rfl rfl (Nat.le_of_ble_eq_true rfl) ⟨by omega, by decide⟩ ⟨by omega, by omega⟩ dL_law_416 (fun r2 X2 T2 I2 h2 => ?_)
  obtain ⟨rfl, rfl, rfl, hc2, hI2⟩ := h2
  refine r_st (st' := .int i9 :: _) rfl ?_
  refine r_istore (pc := 419) (lo' := [(7, _), (6, _), (0, _), (1, _), (2, _), (3, _), (4, _), (5, _)]) C dL_law_419 (by decide) rfl ?_
  refine r_aload_n (pc := 421) C 4 dL_law_421 rfl rfl ?_
  refine r_callV (pc := 422) C hfl k_L_189 (thrown_c hI2.2.1) hI2.2.1.1 ca_X10 rfl rfl (Nat.le_of_ble_eq_true rfl) ⟨by omega, by decide⟩ ⟨by omega, by omega⟩ dL_law_422 (fun r3 X3 T3 I3 h3 => ?_)
  obtain ⟨rfl, rfl, rfl, rfl⟩ := h3
  refine r_st (st' := .int (I3 M 0) :: _) rfl ?_
  refine r_iload (pc := 425) C 1 dL_law_425 rfl ?_
  refine r_ceq (pc := 427) (tgt := 432) C dL_law_427 rfl (fun _ => ?_) (fun c => absurd (hc2 (by decide)) c)
  refine r_iload (pc := 432) C 1 dL_law_432 rfl ?_
  have hfin : Go g k 9 Q (600 + 30 * n + 30 + 0 + 0) (6000 + 4200 * n + 4200 + 0 + 0) 449 [(7, .int i9), (6, .int (nI kx)), (0, .ref b), (1, .ref x), (2, .ref M), (3, .ref a), (4, .ref d), (5, .int (nI (6 * n)))] [] (XO g a f1 d h) T3 I3 := r_goto (pc := 449) (tgt := 3549) C dL_law_449 rfl (r_ls (lo' := lo0 b x M a d (6 * n)) [2, 3, 4, 5, 6, 7] rfl (r_wide (by omega) (by omega) (hback f1 h T3 I3 s' hI2)))
  refine r_ifne (pc := 434) (tgt := 449) C dL_law_434 rfl (fun _ => hfin) (fun c0 => ?_)
  have hk0 : kx = 0 := nI_j (by have : kx ≤ 3 := hk; omega) (by decide) c0
  subst hk0
  obtain ⟨i1, rfl, e2⟩ := hv1 rfl
  have e9 : i9 = i1 := by injection (hb rfl)
  subst e9
  refine r_aload_n (pc := 437) C 5 dL_law_437 rfl rfl ?_
  refine r_iconst (pc := 438) (v := 0) C dL_law_438 rfl ?_
  refine r_jald (pc := 439) C dL_law_439 ?_
  refine r_iload (pc := 440) C 0 dL_law_440 rfl ?_
  refine r_i2l (pc := 442) C dL_law_442 ?_
  refine r_lcmpE (pc := 443) C dL_law_443 e2.symm ?_
  exact r_ifeq (pc := 444) (tgt := 449) C dL_law_444 rfl (fun _ => hfin) (fun c => absurd rfl c)

set_option maxHeartbeats 1000000 in
theorem lw_2 (S : LwC g k b L xs) (hn : 6 * n + 6 ≤ L) (hI : Iv x M T I s s n) (hback : Bk g k Q b x M a d n) : Go g k 9 Q (600 + 30 * n) (6000 + 4200 * n) 452 (lo0 b x M a d (6 * n)) [] (XO g a f d h) T I := by
  obtain ⟨C, hfl, hnc, hX, hbl, hbA, hL⟩ := S
  obtain ⟨kx, v, s', ⟨hk, hv⟩, hO, hR⟩ := op_setPrice (g := g) (X := XO g a f d h) (T := T) (I := I) hI (by omega) (xs (6 * n + 1)) (xs (6 * n + 2))
  refine r_aload_n (pc := 452) C 1 dL_law_452 rfl rfl ?_
  refine r_aload_n (pc := 453) C 0 dL_law_453 rfl rfl ?_
  refine r_iload (pc := 454) C 5 dL_law_454 rfl ?_
  refine r_iconst (pc := 456) (v := 1) C dL_law_456 rfl ?_
  refine r_iaddN (pc := 457) C dL_law_457 ?_
  refine r_sld (pc := 458) (x := 6 * n + 1) C hX hbl hbA rfl (by omega) (by omega) dL_law_458 ?_
  refine r_aload_n (pc := 459) C 0 dL_law_459 rfl rfl ?_
  refine r_iload (pc := 460) C 5 dL_law_460 rfl ?_
  refine r_iconst (pc := 462) (v := 2) C dL_law_462 rfl ?_
  refine r_iaddN (pc := 463) C dL_law_463 ?_
  refine r_sld (pc := 464) (x := 6 * n + 2) C hX hbl hbA rfl (by omega) (by omega) dL_law_464 ?_
  refine r_aload_n (pc := 465) C 3 dL_law_465 rfl rfl ?_
  refine r_callW (pc := 466) C hfl hnc k_L_196 (w_setPrice hI.1 hk hv hO) rfl rfl (Nat.le_of_ble_eq_true rfl) (by decide) ⟨by omega, by omega⟩ dL_law_466 (fun r1 X1 T1 I1 h1 => ?_)
  obtain ⟨rfl, hI1, f1, rfl, hv1⟩ := h1
  refine r_st (st' := .int (nI kx) :: _) rfl ?_
  refine r_istore (pc := 469) (lo' := [(6, _), (0, _), (1, _), (2, _), (3, _), (4, _), (5, _)]) C dL_law_469 (by decide) rfl ?_
  obtain ⟨b9, ⟨hb, i9, rfl⟩, d9, hd9, hM9⟩ := hR (XO g a f1 d h) T1 I1 hI1
  refine r_aload_n (pc := 471) C 3 dL_law_471 rfl rfl ?_
  refine r_aload_n (pc := 472) C 1 dL_law_472 rfl rfl ?_
  refine r_iload (pc := 473) C 6 dL_law_473 rfl ?_
  refine r_iconst (pc := 475) (v := 1) C dL_law_475 rfl ?_
  refine r_iaddN (pc := 476) C dL_law_476 ?_
  refine r_sld (pc := 477) (x := 6 * n + 1) C hX hbl hbA rfl (by omega) (by omega) dL_law_477 ?_
  refine r_aload_n (pc := 478) C 1 dL_law_478 rfl rfl ?_
  refine r_iload (pc := 479) C 6 dL_law_479 rfl ?_
  refine r_iconst (pc := 481) (v := 2) C dL_law_481 rfl ?_
  refine r_iaddN (pc := 482) C dL_law_482 ?_
  refine r_sld (pc := 483) (x := 6 * n + 2) C hX hbl hbA rfl (by omega) (by omega) dL_law_483 ?_
  refine r_callV (pc := 484) C hfl k_L_199 hM9 hI1.2.1.1 ca_X10 rfl rfl (Nat.le_of_ble_eq_true rfl) ⟨by omega, by decide⟩ ⟨by omega, by omega⟩ dL_law_484 (fun r2 X2 T2 I2 h2 => ?_)
  obtain ⟨rfl, rfl, rfl, hc2, hI2⟩ := h2
  refine r_st (st' := .int i9 :: _) rfl ?_
  refine r_istore (pc := 487) (lo' := [(7, _), (6, _), (0, _), (1, _), (2, _), (3, _), (4, _), (5, _)]) C dL_law_487 (by decide) rfl ?_
  refine r_aload_n (pc := 489) C 4 dL_law_489 rfl rfl ?_
  refine r_callV (pc := 490) C hfl k_L_189 (thrown_c hI2.2.1) hI2.2.1.1 ca_X10 rfl rfl (Nat.le_of_ble_eq_true rfl) ⟨by omega, by decide⟩ ⟨by omega, by omega⟩ dL_law_490 (fun r3 X3 T3 I3 h3 => ?_)
  obtain ⟨rfl, rfl, rfl, rfl⟩ := h3
  refine r_st (st' := .int (I3 M 0) :: _) rfl ?_
  refine r_iload (pc := 493) C 1 dL_law_493 rfl ?_
  refine r_ceq (pc := 495) (tgt := 500) C dL_law_495 rfl (fun _ => ?_) (fun c => absurd (hc2 (by decide)) c)
  refine r_iload (pc := 500) C 1 dL_law_500 rfl ?_
  have hfin : Go g k 9 Q (600 + 30 * n + 30 + 0 + 0) (6000 + 4200 * n + 4200 + 0 + 0) 517 [(7, .int i9), (6, .int (nI kx)), (0, .ref b), (1, .ref x), (2, .ref M), (3, .ref a), (4, .ref d), (5, .int (nI (6 * n)))] [] (XO g a f1 d h) T3 I3 := r_goto (pc := 517) (tgt := 3549) C dL_law_517 rfl (r_ls (lo' := lo0 b x M a d (6 * n)) [2, 3, 4, 5, 6, 7] rfl (r_wide (by omega) (by omega) (hback f1 h T3 I3 s' hI2)))
  refine r_ifne (pc := 502) (tgt := 517) C dL_law_502 rfl (fun _ => hfin) (fun c0 => ?_)
  have hk0 : kx = 0 := nI_j (by have : kx ≤ 2 := hk; omega) (by decide) c0
  subst hk0
  obtain ⟨i1, rfl, e2⟩ := hv1 rfl
  have e9 : i9 = i1 := by injection (hb rfl)
  subst e9
  refine r_aload_n (pc := 505) C 5 dL_law_505 rfl rfl ?_
  refine r_iconst (pc := 506) (v := 0) C dL_law_506 rfl ?_
  refine r_jald (pc := 507) C dL_law_507 ?_
  refine r_iload (pc := 508) C 0 dL_law_508 rfl ?_
  refine r_i2l (pc := 510) C dL_law_510 ?_
  refine r_lcmpE (pc := 511) C dL_law_511 e2.symm ?_
  exact r_ifeq (pc := 512) (tgt := 517) C dL_law_512 rfl (fun _ => hfin) (fun c => absurd rfl c)

set_option maxHeartbeats 1000000 in
theorem lw_3 (S : LwC g k b L xs) (hn : 6 * n + 6 ≤ L) (hI : Iv x M T I s s n) (hback : Bk g k Q b x M a d n) : Go g k 9 Q (600 + 30 * n) (6000 + 4200 * n) 520 (lo0 b x M a d (6 * n)) [] (XO g a f d h) T I := by
  obtain ⟨C, hfl, hnc, hX, hbl, hbA, hL⟩ := S
  obtain ⟨kx, v, s', ⟨hk, hv⟩, hO, hR⟩ := op_lend (g := g) (X := XO g a f d h) (T := T) (I := I) hI (by omega) (xs (6 * n + 1)) (xs (6 * n + 2)) (xs (6 * n + 3)) (xs (6 * n + 4)) (xs (6 * n + 5))
  refine r_aload_n (pc := 520) C 1 dL_law_520 rfl rfl ?_
  refine r_aload_n (pc := 521) C 0 dL_law_521 rfl rfl ?_
  refine r_iload (pc := 522) C 5 dL_law_522 rfl ?_
  refine r_iconst (pc := 524) (v := 1) C dL_law_524 rfl ?_
  refine r_iaddN (pc := 525) C dL_law_525 ?_
  refine r_sld (pc := 526) (x := 6 * n + 1) C hX hbl hbA rfl (by omega) (by omega) dL_law_526 ?_
  refine r_aload_n (pc := 527) C 0 dL_law_527 rfl rfl ?_
  refine r_iload (pc := 528) C 5 dL_law_528 rfl ?_
  refine r_iconst (pc := 530) (v := 2) C dL_law_530 rfl ?_
  refine r_iaddN (pc := 531) C dL_law_531 ?_
  refine r_sld (pc := 532) (x := 6 * n + 2) C hX hbl hbA rfl (by omega) (by omega) dL_law_532 ?_
  refine r_aload_n (pc := 533) C 0 dL_law_533 rfl rfl ?_
  refine r_iload (pc := 534) C 5 dL_law_534 rfl ?_
  refine r_iconst (pc := 536) (v := 3) C dL_law_536 rfl ?_
  refine r_iaddN (pc := 537) C dL_law_537 ?_
  refine r_sld (pc := 538) (x := 6 * n + 3) C hX hbl hbA rfl (by omega) (by omega) dL_law_538 ?_
  refine r_aload_n (pc := 539) C 0 dL_law_539 rfl rfl ?_
  refine r_iload (pc := 540) C 5 dL_law_540 rfl ?_
  refine r_iconst (pc := 542) (v := 4) C dL_law_542 rfl ?_
  refine r_iaddN (pc := 543) C dL_law_543 ?_
  refine r_sld (pc := 544) (x := 6 * n + 4) C hX hbl hbA rfl (by omega) (by omega) dL_law_544 ?_
  refine r_aload_n (pc := 545) C 0 dL_law_545 rfl rfl ?_
  refine r_iload (pc := 546) C 5 dL_law_546 rfl ?_
  refine r_iconst (pc := 548) (v := 5) C dL_law_548 rfl ?_
  refine r_iaddN (pc := 549) C dL_law_549 ?_
  refine r_sld (pc := 550) (x := 6 * n + 5) C hX hbl hbA rfl (by omega) (by omega) dL_law_550 ?_
  refine r_aload_n (pc := 551) C 3 dL_law_551 rfl rfl ?_
  refine r_callW (pc := 552) C hfl hnc k_L_200 (w_lend hI.1 hk hv hO) rfl rfl (Nat.le_of_ble_eq_true rfl) (by decide) ⟨by omega, by omega⟩ dL_law_552 (fun r1 X1 T1 I1 h1 => ?_)
  obtain ⟨rfl, hI1, f1, rfl, hv1⟩ := h1
  refine r_st (st' := .int (nI kx) :: _) rfl ?_
  refine r_istore (pc := 555) (lo' := [(6, _), (0, _), (1, _), (2, _), (3, _), (4, _), (5, _)]) C dL_law_555 (by decide) rfl ?_
  obtain ⟨b9, ⟨hb, i9, rfl⟩, d9, hd9, hM9⟩ := hR (XO g a f1 d h) T1 I1 hI1
  refine r_aload_n (pc := 557) C 3 dL_law_557 rfl rfl ?_
  refine r_aload_n (pc := 558) C 1 dL_law_558 rfl rfl ?_
  refine r_iload (pc := 559) C 6 dL_law_559 rfl ?_
  refine r_iconst (pc := 561) (v := 1) C dL_law_561 rfl ?_
  refine r_iaddN (pc := 562) C dL_law_562 ?_
  refine r_sld (pc := 563) (x := 6 * n + 1) C hX hbl hbA rfl (by omega) (by omega) dL_law_563 ?_
  refine r_aload_n (pc := 564) C 1 dL_law_564 rfl rfl ?_
  refine r_iload (pc := 565) C 6 dL_law_565 rfl ?_
  refine r_iconst (pc := 567) (v := 2) C dL_law_567 rfl ?_
  refine r_iaddN (pc := 568) C dL_law_568 ?_
  refine r_sld (pc := 569) (x := 6 * n + 2) C hX hbl hbA rfl (by omega) (by omega) dL_law_569 ?_
  refine r_aload_n (pc := 570) C 1 dL_law_570 rfl rfl ?_
  refine r_iload (pc := 571) C 6 dL_law_571 rfl ?_
  refine r_iconst (pc := 573) (v := 3) C dL_law_573 rfl ?_
  refine r_iaddN (pc := 574) C dL_law_574 ?_
  refine r_sld (pc := 575) (x := 6 * n + 3) C hX hbl hbA rfl (by omega) (by omega) dL_law_575 ?_
  refine r_aload_n (pc := 576) C 1 dL_law_576 rfl rfl ?_
  refine r_iload (pc := 577) C 6 dL_law_577 rfl ?_
  refine r_iconst (pc := 579) (v := 4) C dL_law_579 rfl ?_
  refine r_iaddN (pc := 580) C dL_law_580 ?_
  refine r_sld (pc := 581) (x := 6 * n + 4) C hX hbl hbA rfl (by omega) (by omega) dL_law_581 ?_
  refine r_aload_n (pc := 582) C 1 dL_law_582 rfl rfl ?_
  refine r_iload (pc := 583) C 6 dL_law_583 rfl ?_
  refine r_iconst (pc := 585) (v := 5) C dL_law_585 rfl ?_
  refine r_iaddN (pc := 586) C dL_law_586 ?_
  refine r_sld (pc := 587) (x := 6 * n + 5) C hX hbl hbA rfl (by omega) (by omega) dL_law_587 ?_
  refine r_callV (pc := 588) C hfl k_L_203 hM9 hI1.2.1.1 ca_X10 rfl rfl (Nat.le_of_ble_eq_true rfl) ⟨by omega, by decide⟩ ⟨by omega, by omega⟩ dL_law_588 (fun r2 X2 T2 I2 h2 => ?_)
  obtain ⟨rfl, rfl, rfl, hc2, hI2⟩ := h2
  refine r_st (st' := .int i9 :: _) rfl ?_
  refine r_istore (pc := 591) (lo' := [(7, _), (6, _), (0, _), (1, _), (2, _), (3, _), (4, _), (5, _)]) C dL_law_591 (by decide) rfl ?_
  refine r_aload_n (pc := 593) C 4 dL_law_593 rfl rfl ?_
  refine r_callV (pc := 594) C hfl k_L_189 (thrown_c hI2.2.1) hI2.2.1.1 ca_X10 rfl rfl (Nat.le_of_ble_eq_true rfl) ⟨by omega, by decide⟩ ⟨by omega, by omega⟩ dL_law_594 (fun r3 X3 T3 I3 h3 => ?_)
  obtain ⟨rfl, rfl, rfl, rfl⟩ := h3
  refine r_st (st' := .int (I3 M 0) :: _) rfl ?_
  refine r_iload (pc := 597) C 1 dL_law_597 rfl ?_
  refine r_ceq (pc := 599) (tgt := 604) C dL_law_599 rfl (fun _ => ?_) (fun c => absurd (hc2 (by decide)) c)
  refine r_iload (pc := 604) C 1 dL_law_604 rfl ?_
  have hfin : Go g k 9 Q (600 + 30 * n + 30 + 0 + 0) (6000 + 4200 * n + 4200 + 0 + 0) 621 [(7, .int i9), (6, .int (nI kx)), (0, .ref b), (1, .ref x), (2, .ref M), (3, .ref a), (4, .ref d), (5, .int (nI (6 * n)))] [] (XO g a f1 d h) T3 I3 := r_goto (pc := 621) (tgt := 3549) C dL_law_621 rfl (r_ls (lo' := lo0 b x M a d (6 * n)) [2, 3, 4, 5, 6, 7] rfl (r_wide (by omega) (by omega) (hback f1 h T3 I3 s' hI2)))
  refine r_ifne (pc := 606) (tgt := 621) C dL_law_606 rfl (fun _ => hfin) (fun c0 => ?_)
  have hk0 : kx = 0 := nI_j (by have : kx ≤ 3 := hk; omega) (by decide) c0
  subst hk0
  obtain ⟨i1, rfl, e2⟩ := hv1 rfl
  have e9 : i9 = i1 := by injection (hb rfl)
  subst e9
  refine r_aload_n (pc := 609) C 5 dL_law_609 rfl rfl ?_
  refine r_iconst (pc := 610) (v := 0) C dL_law_610 rfl ?_
  refine r_jald (pc := 611) C dL_law_611 ?_
  refine r_iload (pc := 612) C 0 dL_law_612 rfl ?_
  refine r_i2l (pc := 614) C dL_law_614 ?_
  refine r_lcmpE (pc := 615) C dL_law_615 e2.symm ?_
  exact r_ifeq (pc := 616) (tgt := 621) C dL_law_616 rfl (fun _ => hfin) (fun c => absurd rfl c)

set_option maxHeartbeats 1000000 in
theorem lw_4 (S : LwC g k b L xs) (hn : 6 * n + 6 ≤ L) (hI : Iv x M T I s s n) (hback : Bk g k Q b x M a d n) : Go g k 9 Q (600 + 30 * n) (6000 + 4200 * n) 624 (lo0 b x M a d (6 * n)) [] (XO g a f d h) T I := by
  obtain ⟨C, hfl, hnc, hX, hbl, hbA, hL⟩ := S
  obtain ⟨kx, v, s', ⟨hk, hv⟩, hO, hR⟩ := op_pledge (g := g) (X := XO g a f d h) (T := T) (I := I) hI (by omega) (xs (6 * n + 1)) (xs (6 * n + 2)) (xs (6 * n + 3))
  refine r_aload_n (pc := 624) C 1 dL_law_624 rfl rfl ?_
  refine r_aload_n (pc := 625) C 0 dL_law_625 rfl rfl ?_
  refine r_iload (pc := 626) C 5 dL_law_626 rfl ?_
  refine r_iconst (pc := 628) (v := 1) C dL_law_628 rfl ?_
  refine r_iaddN (pc := 629) C dL_law_629 ?_
  refine r_sld (pc := 630) (x := 6 * n + 1) C hX hbl hbA rfl (by omega) (by omega) dL_law_630 ?_
  refine r_aload_n (pc := 631) C 0 dL_law_631 rfl rfl ?_
  refine r_iload (pc := 632) C 5 dL_law_632 rfl ?_
  refine r_iconst (pc := 634) (v := 2) C dL_law_634 rfl ?_
  refine r_iaddN (pc := 635) C dL_law_635 ?_
  refine r_sld (pc := 636) (x := 6 * n + 2) C hX hbl hbA rfl (by omega) (by omega) dL_law_636 ?_
  refine r_aload_n (pc := 637) C 0 dL_law_637 rfl rfl ?_
  refine r_iload (pc := 638) C 5 dL_law_638 rfl ?_
  refine r_iconst (pc := 640) (v := 3) C dL_law_640 rfl ?_
  refine r_iaddN (pc := 641) C dL_law_641 ?_
  refine r_sld (pc := 642) (x := 6 * n + 3) C hX hbl hbA rfl (by omega) (by omega) dL_law_642 ?_
  refine r_aload_n (pc := 643) C 3 dL_law_643 rfl rfl ?_
  refine r_callW (pc := 644) C hfl hnc k_L_204 (w_pledge hI.1 hk hv hO) rfl rfl (Nat.le_of_ble_eq_true rfl) (by decide) ⟨by omega, by omega⟩ dL_law_644 (fun r1 X1 T1 I1 h1 => ?_)
  obtain ⟨rfl, hI1, f1, rfl, hv1⟩ := h1
  refine r_st (st' := .int (nI kx) :: _) rfl ?_
  refine r_istore (pc := 647) (lo' := [(6, _), (0, _), (1, _), (2, _), (3, _), (4, _), (5, _)]) C dL_law_647 (by decide) rfl ?_
  obtain ⟨b9, ⟨hb, i9, rfl⟩, d9, hd9, hM9⟩ := hR (XO g a f1 d h) T1 I1 hI1
  refine r_aload_n (pc := 649) C 3 dL_law_649 rfl rfl ?_
  refine r_aload_n (pc := 650) C 1 dL_law_650 rfl rfl ?_
  refine r_iload (pc := 651) C 6 dL_law_651 rfl ?_
  refine r_iconst (pc := 653) (v := 1) C dL_law_653 rfl ?_
  refine r_iaddN (pc := 654) C dL_law_654 ?_
  refine r_sld (pc := 655) (x := 6 * n + 1) C hX hbl hbA rfl (by omega) (by omega) dL_law_655 ?_
  refine r_aload_n (pc := 656) C 1 dL_law_656 rfl rfl ?_
  refine r_iload (pc := 657) C 6 dL_law_657 rfl ?_
  refine r_iconst (pc := 659) (v := 2) C dL_law_659 rfl ?_
  refine r_iaddN (pc := 660) C dL_law_660 ?_
  refine r_sld (pc := 661) (x := 6 * n + 2) C hX hbl hbA rfl (by omega) (by omega) dL_law_661 ?_
  refine r_aload_n (pc := 662) C 1 dL_law_662 rfl rfl ?_
  refine r_iload (pc := 663) C 6 dL_law_663 rfl ?_
  refine r_iconst (pc := 665) (v := 3) C dL_law_665 rfl ?_
  refine r_iaddN (pc := 666) C dL_law_666 ?_
  refine r_sld (pc := 667) (x := 6 * n + 3) C hX hbl hbA rfl (by omega) (by omega) dL_law_667 ?_
  refine r_callV (pc := 668) C hfl k_L_206 hM9 hI1.2.1.1 ca_X10 rfl rfl (Nat.le_of_ble_eq_true rfl) ⟨by omega, by decide⟩ ⟨by omega, by omega⟩ dL_law_668 (fun r2 X2 T2 I2 h2 => ?_)
  obtain ⟨rfl, rfl, rfl, hc2, hI2⟩ := h2
  refine r_st (st' := .int i9 :: _) rfl ?_
  refine r_istore (pc := 671) (lo' := [(7, _), (6, _), (0, _), (1, _), (2, _), (3, _), (4, _), (5, _)]) C dL_law_671 (by decide) rfl ?_
  refine r_aload_n (pc := 673) C 4 dL_law_673 rfl rfl ?_
  refine r_callV (pc := 674) C hfl k_L_189 (thrown_c hI2.2.1) hI2.2.1.1 ca_X10 rfl rfl (Nat.le_of_ble_eq_true rfl) ⟨by omega, by decide⟩ ⟨by omega, by omega⟩ dL_law_674 (fun r3 X3 T3 I3 h3 => ?_)
  obtain ⟨rfl, rfl, rfl, rfl⟩ := h3
  refine r_st (st' := .int (I3 M 0) :: _) rfl ?_
  refine r_iload (pc := 677) C 1 dL_law_677 rfl ?_
  refine r_ceq (pc := 679) (tgt := 684) C dL_law_679 rfl (fun _ => ?_) (fun c => absurd (hc2 (by decide)) c)
  refine r_iload (pc := 684) C 1 dL_law_684 rfl ?_
  have hfin : Go g k 9 Q (600 + 30 * n + 30 + 0 + 0) (6000 + 4200 * n + 4200 + 0 + 0) 701 [(7, .int i9), (6, .int (nI kx)), (0, .ref b), (1, .ref x), (2, .ref M), (3, .ref a), (4, .ref d), (5, .int (nI (6 * n)))] [] (XO g a f1 d h) T3 I3 := r_goto (pc := 701) (tgt := 3549) C dL_law_701 rfl (r_ls (lo' := lo0 b x M a d (6 * n)) [2, 3, 4, 5, 6, 7] rfl (r_wide (by omega) (by omega) (hback f1 h T3 I3 s' hI2)))
  refine r_ifne (pc := 686) (tgt := 701) C dL_law_686 rfl (fun _ => hfin) (fun c0 => ?_)
  have hk0 : kx = 0 := nI_j (by have : kx ≤ 4 := hk; omega) (by decide) c0
  subst hk0
  obtain ⟨i1, rfl, e2⟩ := hv1 rfl
  have e9 : i9 = i1 := by injection (hb rfl)
  subst e9
  refine r_aload_n (pc := 689) C 5 dL_law_689 rfl rfl ?_
  refine r_iconst (pc := 690) (v := 0) C dL_law_690 rfl ?_
  refine r_jald (pc := 691) C dL_law_691 ?_
  refine r_iload (pc := 692) C 0 dL_law_692 rfl ?_
  refine r_i2l (pc := 694) C dL_law_694 ?_
  refine r_lcmpE (pc := 695) C dL_law_695 e2.symm ?_
  exact r_ifeq (pc := 696) (tgt := 701) C dL_law_696 rfl (fun _ => hfin) (fun c => absurd rfl c)

set_option maxHeartbeats 1000000 in
theorem lw_5 (S : LwC g k b L xs) (hn : 6 * n + 6 ≤ L) (hI : Iv x M T I s s n) (hback : Bk g k Q b x M a d n) : Go g k 9 Q (600 + 30 * n) (6000 + 4200 * n) 704 (lo0 b x M a d (6 * n)) [] (XO g a f d h) T I := by
  obtain ⟨C, hfl, hnc, hX, hbl, hbA, hL⟩ := S
  obtain ⟨kx, v, s', ⟨hk, hv⟩, hO, hR⟩ := op_release (g := g) (X := XO g a f d h) (T := T) (I := I) hI (by omega) (xs (6 * n + 1)) (xs (6 * n + 2)) (xs (6 * n + 3))
  refine r_aload_n (pc := 704) C 1 dL_law_704 rfl rfl ?_
  refine r_aload_n (pc := 705) C 0 dL_law_705 rfl rfl ?_
  refine r_iload (pc := 706) C 5 dL_law_706 rfl ?_
  refine r_iconst (pc := 708) (v := 1) C dL_law_708 rfl ?_
  refine r_iaddN (pc := 709) C dL_law_709 ?_
  refine r_sld (pc := 710) (x := 6 * n + 1) C hX hbl hbA rfl (by omega) (by omega) dL_law_710 ?_
  refine r_aload_n (pc := 711) C 0 dL_law_711 rfl rfl ?_
  refine r_iload (pc := 712) C 5 dL_law_712 rfl ?_
  refine r_iconst (pc := 714) (v := 2) C dL_law_714 rfl ?_
  refine r_iaddN (pc := 715) C dL_law_715 ?_
  refine r_sld (pc := 716) (x := 6 * n + 2) C hX hbl hbA rfl (by omega) (by omega) dL_law_716 ?_
  refine r_aload_n (pc := 717) C 0 dL_law_717 rfl rfl ?_
  refine r_iload (pc := 718) C 5 dL_law_718 rfl ?_
  refine r_iconst (pc := 720) (v := 3) C dL_law_720 rfl ?_
  refine r_iaddN (pc := 721) C dL_law_721 ?_
  refine r_sld (pc := 722) (x := 6 * n + 3) C hX hbl hbA rfl (by omega) (by omega) dL_law_722 ?_
  refine r_aload_n (pc := 723) C 3 dL_law_723 rfl rfl ?_
  refine r_callW (pc := 724) C hfl hnc k_L_207 (w_release hI.1 hk hv hO) rfl rfl (Nat.le_of_ble_eq_true rfl) (by decide) ⟨by omega, by omega⟩ dL_law_724 (fun r1 X1 T1 I1 h1 => ?_)
  obtain ⟨rfl, hI1, f1, rfl, hv1⟩ := h1
  refine r_st (st' := .int (nI kx) :: _) rfl ?_
  refine r_istore (pc := 727) (lo' := [(6, _), (0, _), (1, _), (2, _), (3, _), (4, _), (5, _)]) C dL_law_727 (by decide) rfl ?_
  obtain ⟨b9, ⟨hb, i9, rfl⟩, d9, hd9, hM9⟩ := hR (XO g a f1 d h) T1 I1 hI1
  refine r_aload_n (pc := 729) C 3 dL_law_729 rfl rfl ?_
  refine r_aload_n (pc := 730) C 1 dL_law_730 rfl rfl ?_
  refine r_iload (pc := 731) C 6 dL_law_731 rfl ?_
  refine r_iconst (pc := 733) (v := 1) C dL_law_733 rfl ?_
  refine r_iaddN (pc := 734) C dL_law_734 ?_
  refine r_sld (pc := 735) (x := 6 * n + 1) C hX hbl hbA rfl (by omega) (by omega) dL_law_735 ?_
  refine r_aload_n (pc := 736) C 1 dL_law_736 rfl rfl ?_
  refine r_iload (pc := 737) C 6 dL_law_737 rfl ?_
  refine r_iconst (pc := 739) (v := 2) C dL_law_739 rfl ?_
  refine r_iaddN (pc := 740) C dL_law_740 ?_
  refine r_sld (pc := 741) (x := 6 * n + 2) C hX hbl hbA rfl (by omega) (by omega) dL_law_741 ?_
  refine r_aload_n (pc := 742) C 1 dL_law_742 rfl rfl ?_
  refine r_iload (pc := 743) C 6 dL_law_743 rfl ?_
  refine r_iconst (pc := 745) (v := 3) C dL_law_745 rfl ?_
  refine r_iaddN (pc := 746) C dL_law_746 ?_
  refine r_sld (pc := 747) (x := 6 * n + 3) C hX hbl hbA rfl (by omega) (by omega) dL_law_747 ?_
  refine r_callV (pc := 748) C hfl k_L_209 hM9 hI1.2.1.1 ca_X10 rfl rfl (Nat.le_of_ble_eq_true rfl) ⟨by omega, by decide⟩ ⟨by omega, by omega⟩ dL_law_748 (fun r2 X2 T2 I2 h2 => ?_)
  obtain ⟨rfl, rfl, rfl, hc2, hI2⟩ := h2
  refine r_st (st' := .int i9 :: _) rfl ?_
  refine r_istore (pc := 751) (lo' := [(7, _), (6, _), (0, _), (1, _), (2, _), (3, _), (4, _), (5, _)]) C dL_law_751 (by decide) rfl ?_
  refine r_aload_n (pc := 753) C 4 dL_law_753 rfl rfl ?_
  refine r_callV (pc := 754) C hfl k_L_189 (thrown_c hI2.2.1) hI2.2.1.1 ca_X10 rfl rfl (Nat.le_of_ble_eq_true rfl) ⟨by omega, by decide⟩ ⟨by omega, by omega⟩ dL_law_754 (fun r3 X3 T3 I3 h3 => ?_)
  obtain ⟨rfl, rfl, rfl, rfl⟩ := h3
  refine r_st (st' := .int (I3 M 0) :: _) rfl ?_
  refine r_iload (pc := 757) C 1 dL_law_757 rfl ?_
  refine r_ceq (pc := 759) (tgt := 764) C dL_law_759 rfl (fun _ => ?_) (fun c => absurd (hc2 (by decide)) c)
  refine r_iload (pc := 764) C 1 dL_law_764 rfl ?_
  have hfin : Go g k 9 Q (600 + 30 * n + 30 + 0 + 0) (6000 + 4200 * n + 4200 + 0 + 0) 781 [(7, .int i9), (6, .int (nI kx)), (0, .ref b), (1, .ref x), (2, .ref M), (3, .ref a), (4, .ref d), (5, .int (nI (6 * n)))] [] (XO g a f1 d h) T3 I3 := r_goto (pc := 781) (tgt := 3549) C dL_law_781 rfl (r_ls (lo' := lo0 b x M a d (6 * n)) [2, 3, 4, 5, 6, 7] rfl (r_wide (by omega) (by omega) (hback f1 h T3 I3 s' hI2)))
  refine r_ifne (pc := 766) (tgt := 781) C dL_law_766 rfl (fun _ => hfin) (fun c0 => ?_)
  have hk0 : kx = 0 := nI_j (by have : kx ≤ 4 := hk; omega) (by decide) c0
  subst hk0
  obtain ⟨i1, rfl, e2⟩ := hv1 rfl
  have e9 : i9 = i1 := by injection (hb rfl)
  subst e9
  refine r_aload_n (pc := 769) C 5 dL_law_769 rfl rfl ?_
  refine r_iconst (pc := 770) (v := 0) C dL_law_770 rfl ?_
  refine r_jald (pc := 771) C dL_law_771 ?_
  refine r_iload (pc := 772) C 0 dL_law_772 rfl ?_
  refine r_i2l (pc := 774) C dL_law_774 ?_
  refine r_lcmpE (pc := 775) C dL_law_775 e2.symm ?_
  exact r_ifeq (pc := 776) (tgt := 781) C dL_law_776 rfl (fun _ => hfin) (fun c => absurd rfl c)

set_option maxHeartbeats 1000000 in
theorem lw_6 (S : LwC g k b L xs) (hn : 6 * n + 6 ≤ L) (hI : Iv x M T I s s n) (hback : Bk g k Q b x M a d n) : Go g k 9 Q (600 + 30 * n) (6000 + 4200 * n) 784 (lo0 b x M a d (6 * n)) [] (XO g a f d h) T I := by
  obtain ⟨C, hfl, hnc, hX, hbl, hbA, hL⟩ := S
  obtain ⟨kx, v, s', ⟨hk, hv⟩, hO, hR⟩ := op_repay (g := g) (X := XO g a f d h) (T := T) (I := I) hI (by omega) (xs (6 * n + 1)) (xs (6 * n + 2))
  refine r_aload_n (pc := 784) C 1 dL_law_784 rfl rfl ?_
  refine r_aload_n (pc := 785) C 0 dL_law_785 rfl rfl ?_
  refine r_iload (pc := 786) C 5 dL_law_786 rfl ?_
  refine r_iconst (pc := 788) (v := 1) C dL_law_788 rfl ?_
  refine r_iaddN (pc := 789) C dL_law_789 ?_
  refine r_sld (pc := 790) (x := 6 * n + 1) C hX hbl hbA rfl (by omega) (by omega) dL_law_790 ?_
  refine r_aload_n (pc := 791) C 0 dL_law_791 rfl rfl ?_
  refine r_iload (pc := 792) C 5 dL_law_792 rfl ?_
  refine r_iconst (pc := 794) (v := 2) C dL_law_794 rfl ?_
  refine r_iaddN (pc := 795) C dL_law_795 ?_
  refine r_sld (pc := 796) (x := 6 * n + 2) C hX hbl hbA rfl (by omega) (by omega) dL_law_796 ?_
  refine r_aload_n (pc := 797) C 3 dL_law_797 rfl rfl ?_
  refine r_callW (pc := 798) C hfl hnc k_L_210 (w_repay hI.1 hk hv hO) rfl rfl (Nat.le_of_ble_eq_true rfl) (by decide) ⟨by omega, by omega⟩ dL_law_798 (fun r1 X1 T1 I1 h1 => ?_)
  obtain ⟨rfl, hI1, f1, rfl, hv1⟩ := h1
  refine r_st (st' := .int (nI kx) :: _) rfl ?_
  refine r_istore (pc := 801) (lo' := [(6, _), (0, _), (1, _), (2, _), (3, _), (4, _), (5, _)]) C dL_law_801 (by decide) rfl ?_
  obtain ⟨b9, ⟨hb, i9, rfl⟩, d9, hd9, hM9⟩ := hR (XO g a f1 d h) T1 I1 hI1
  refine r_aload_n (pc := 803) C 3 dL_law_803 rfl rfl ?_
  refine r_aload_n (pc := 804) C 1 dL_law_804 rfl rfl ?_
  refine r_iload (pc := 805) C 6 dL_law_805 rfl ?_
  refine r_iconst (pc := 807) (v := 1) C dL_law_807 rfl ?_
  refine r_iaddN (pc := 808) C dL_law_808 ?_
  refine r_sld (pc := 809) (x := 6 * n + 1) C hX hbl hbA rfl (by omega) (by omega) dL_law_809 ?_
  refine r_aload_n (pc := 810) C 1 dL_law_810 rfl rfl ?_
  refine r_iload (pc := 811) C 6 dL_law_811 rfl ?_
  refine r_iconst (pc := 813) (v := 2) C dL_law_813 rfl ?_
  refine r_iaddN (pc := 814) C dL_law_814 ?_
  refine r_sld (pc := 815) (x := 6 * n + 2) C hX hbl hbA rfl (by omega) (by omega) dL_law_815 ?_
  refine r_callV (pc := 816) C hfl k_L_212 hM9 hI1.2.1.1 ca_X10 rfl rfl (Nat.le_of_ble_eq_true rfl) ⟨by omega, by decide⟩ ⟨by omega, by omega⟩ dL_law_816 (fun r2 X2 T2 I2 h2 => ?_)
  obtain ⟨rfl, rfl, rfl, hc2, hI2⟩ := h2
  refine r_st (st' := .int i9 :: _) rfl ?_
  refine r_istore (pc := 819) (lo' := [(7, _), (6, _), (0, _), (1, _), (2, _), (3, _), (4, _), (5, _)]) C dL_law_819 (by decide) rfl ?_
  refine r_aload_n (pc := 821) C 4 dL_law_821 rfl rfl ?_
  refine r_callV (pc := 822) C hfl k_L_189 (thrown_c hI2.2.1) hI2.2.1.1 ca_X10 rfl rfl (Nat.le_of_ble_eq_true rfl) ⟨by omega, by decide⟩ ⟨by omega, by omega⟩ dL_law_822 (fun r3 X3 T3 I3 h3 => ?_)
  obtain ⟨rfl, rfl, rfl, rfl⟩ := h3
  refine r_st (st' := .int (I3 M 0) :: _) rfl ?_
  refine r_iload (pc := 825) C 1 dL_law_825 rfl ?_
  refine r_ceq (pc := 827) (tgt := 832) C dL_law_827 rfl (fun _ => ?_) (fun c => absurd (hc2 (by decide)) c)
  refine r_iload (pc := 832) C 1 dL_law_832 rfl ?_
  have hfin : Go g k 9 Q (600 + 30 * n + 30 + 0 + 0) (6000 + 4200 * n + 4200 + 0 + 0) 849 [(7, .int i9), (6, .int (nI kx)), (0, .ref b), (1, .ref x), (2, .ref M), (3, .ref a), (4, .ref d), (5, .int (nI (6 * n)))] [] (XO g a f1 d h) T3 I3 := r_goto (pc := 849) (tgt := 3549) C dL_law_849 rfl (r_ls (lo' := lo0 b x M a d (6 * n)) [2, 3, 4, 5, 6, 7] rfl (r_wide (by omega) (by omega) (hback f1 h T3 I3 s' hI2)))
  refine r_ifne (pc := 834) (tgt := 849) C dL_law_834 rfl (fun _ => hfin) (fun c0 => ?_)
  have hk0 : kx = 0 := nI_j (by have : kx ≤ 3 := hk; omega) (by decide) c0
  subst hk0
  obtain ⟨i1, rfl, e2⟩ := hv1 rfl
  have e9 : i9 = i1 := by injection (hb rfl)
  subst e9
  refine r_aload_n (pc := 837) C 5 dL_law_837 rfl rfl ?_
  refine r_iconst (pc := 838) (v := 0) C dL_law_838 rfl ?_
  refine r_jald (pc := 839) C dL_law_839 ?_
  refine r_iload (pc := 840) C 0 dL_law_840 rfl ?_
  refine r_i2l (pc := 842) C dL_law_842 ?_
  refine r_lcmpE (pc := 843) C dL_law_843 e2.symm ?_
  exact r_ifeq (pc := 844) (tgt := 849) C dL_law_844 rfl (fun _ => hfin) (fun c => absurd rfl c)

set_option maxHeartbeats 1000000 in
theorem lw_7 (S : LwC g k b L xs) (hn : 6 * n + 6 ≤ L) (hI : Iv x M T I s s n) (hback : Bk g k Q b x M a d n) : Go g k 9 Q (600 + 30 * n) (6000 + 4200 * n) 852 (lo0 b x M a d (6 * n)) [] (XO g a f d h) T I := by
  obtain ⟨C, hfl, hnc, hX, hbl, hbA, hL⟩ := S
  obtain ⟨kx, v, s', ⟨hk, hv⟩, hO, hR⟩ := op_buy (g := g) (X := XO g a f d h) (T := T) (I := I) hI (by omega) (xs (6 * n + 1)) (xs (6 * n + 2)) (xs (6 * n + 3))
  refine r_aload_n (pc := 852) C 1 dL_law_852 rfl rfl ?_
  refine r_aload_n (pc := 853) C 0 dL_law_853 rfl rfl ?_
  refine r_iload (pc := 854) C 5 dL_law_854 rfl ?_
  refine r_iconst (pc := 856) (v := 1) C dL_law_856 rfl ?_
  refine r_iaddN (pc := 857) C dL_law_857 ?_
  refine r_sld (pc := 858) (x := 6 * n + 1) C hX hbl hbA rfl (by omega) (by omega) dL_law_858 ?_
  refine r_aload_n (pc := 859) C 0 dL_law_859 rfl rfl ?_
  refine r_iload (pc := 860) C 5 dL_law_860 rfl ?_
  refine r_iconst (pc := 862) (v := 2) C dL_law_862 rfl ?_
  refine r_iaddN (pc := 863) C dL_law_863 ?_
  refine r_sld (pc := 864) (x := 6 * n + 2) C hX hbl hbA rfl (by omega) (by omega) dL_law_864 ?_
  refine r_aload_n (pc := 865) C 0 dL_law_865 rfl rfl ?_
  refine r_iload (pc := 866) C 5 dL_law_866 rfl ?_
  refine r_iconst (pc := 868) (v := 3) C dL_law_868 rfl ?_
  refine r_iaddN (pc := 869) C dL_law_869 ?_
  refine r_sld (pc := 870) (x := 6 * n + 3) C hX hbl hbA rfl (by omega) (by omega) dL_law_870 ?_
  refine r_aload_n (pc := 871) C 3 dL_law_871 rfl rfl ?_
  refine r_callW (pc := 872) C hfl hnc k_L_213 (w_buy hI.1 hk hv hO) rfl rfl (Nat.le_of_ble_eq_true rfl) (by decide) ⟨by omega, by omega⟩ dL_law_872 (fun r1 X1 T1 I1 h1 => ?_)
  obtain ⟨rfl, hI1, f1, rfl, hv1⟩ := h1
  refine r_st (st' := .int (nI kx) :: _) rfl ?_
  refine r_istore (pc := 875) (lo' := [(6, _), (0, _), (1, _), (2, _), (3, _), (4, _), (5, _)]) C dL_law_875 (by decide) rfl ?_
  obtain ⟨b9, ⟨hb, i9, rfl⟩, d9, hd9, hM9⟩ := hR (XO g a f1 d h) T1 I1 hI1
  refine r_aload_n (pc := 877) C 3 dL_law_877 rfl rfl ?_
  refine r_aload_n (pc := 878) C 1 dL_law_878 rfl rfl ?_
  refine r_iload (pc := 879) C 6 dL_law_879 rfl ?_
  refine r_iconst (pc := 881) (v := 1) C dL_law_881 rfl ?_
  refine r_iaddN (pc := 882) C dL_law_882 ?_
  refine r_sld (pc := 883) (x := 6 * n + 1) C hX hbl hbA rfl (by omega) (by omega) dL_law_883 ?_
  refine r_aload_n (pc := 884) C 1 dL_law_884 rfl rfl ?_
  refine r_iload (pc := 885) C 6 dL_law_885 rfl ?_
  refine r_iconst (pc := 887) (v := 2) C dL_law_887 rfl ?_
  refine r_iaddN (pc := 888) C dL_law_888 ?_
  refine r_sld (pc := 889) (x := 6 * n + 2) C hX hbl hbA rfl (by omega) (by omega) dL_law_889 ?_
  refine r_aload_n (pc := 890) C 1 dL_law_890 rfl rfl ?_
  refine r_iload (pc := 891) C 6 dL_law_891 rfl ?_
  refine r_iconst (pc := 893) (v := 3) C dL_law_893 rfl ?_
  refine r_iaddN (pc := 894) C dL_law_894 ?_
  refine r_sld (pc := 895) (x := 6 * n + 3) C hX hbl hbA rfl (by omega) (by omega) dL_law_895 ?_
  refine r_callV (pc := 896) C hfl k_L_215 hM9 hI1.2.1.1 ca_X10 rfl rfl (Nat.le_of_ble_eq_true rfl) ⟨by omega, by decide⟩ ⟨by omega, by omega⟩ dL_law_896 (fun r2 X2 T2 I2 h2 => ?_)
  obtain ⟨rfl, rfl, rfl, hc2, hI2⟩ := h2
  refine r_st (st' := .int i9 :: _) rfl ?_
  refine r_istore (pc := 899) (lo' := [(7, _), (6, _), (0, _), (1, _), (2, _), (3, _), (4, _), (5, _)]) C dL_law_899 (by decide) rfl ?_
  refine r_aload_n (pc := 901) C 4 dL_law_901 rfl rfl ?_
  refine r_callV (pc := 902) C hfl k_L_189 (thrown_c hI2.2.1) hI2.2.1.1 ca_X10 rfl rfl (Nat.le_of_ble_eq_true rfl) ⟨by omega, by decide⟩ ⟨by omega, by omega⟩ dL_law_902 (fun r3 X3 T3 I3 h3 => ?_)
  obtain ⟨rfl, rfl, rfl, rfl⟩ := h3
  refine r_st (st' := .int (I3 M 0) :: _) rfl ?_
  refine r_iload (pc := 905) C 1 dL_law_905 rfl ?_
  refine r_ceq (pc := 907) (tgt := 912) C dL_law_907 rfl (fun _ => ?_) (fun c => absurd (hc2 (by decide)) c)
  refine r_iload (pc := 912) C 1 dL_law_912 rfl ?_
  have hfin : Go g k 9 Q (600 + 30 * n + 30 + 0 + 0) (6000 + 4200 * n + 4200 + 0 + 0) 929 [(7, .int i9), (6, .int (nI kx)), (0, .ref b), (1, .ref x), (2, .ref M), (3, .ref a), (4, .ref d), (5, .int (nI (6 * n)))] [] (XO g a f1 d h) T3 I3 := r_goto (pc := 929) (tgt := 3549) C dL_law_929 rfl (r_ls (lo' := lo0 b x M a d (6 * n)) [2, 3, 4, 5, 6, 7] rfl (r_wide (by omega) (by omega) (hback f1 h T3 I3 s' hI2)))
  refine r_ifne (pc := 914) (tgt := 929) C dL_law_914 rfl (fun _ => hfin) (fun c0 => ?_)
  have hk0 : kx = 0 := nI_j (by have : kx ≤ 3 := hk; omega) (by decide) c0
  subst hk0
  obtain ⟨i1, rfl, e2⟩ := hv1 rfl
  have e9 : i9 = i1 := by injection (hb rfl)
  subst e9
  refine r_aload_n (pc := 917) C 5 dL_law_917 rfl rfl ?_
  refine r_iconst (pc := 918) (v := 0) C dL_law_918 rfl ?_
  refine r_jald (pc := 919) C dL_law_919 ?_
  refine r_iload (pc := 920) C 0 dL_law_920 rfl ?_
  refine r_i2l (pc := 922) C dL_law_922 ?_
  refine r_lcmpE (pc := 923) C dL_law_923 e2.symm ?_
  exact r_ifeq (pc := 924) (tgt := 929) C dL_law_924 rfl (fun _ => hfin) (fun c => absurd rfl c)

set_option maxHeartbeats 1000000 in
theorem lw_8 (S : LwC g k b L xs) (hn : 6 * n + 6 ≤ L) (hI : Iv x M T I s s n) (hback : Bk g k Q b x M a d n) : Go g k 9 Q (600 + 30 * n) (6000 + 4200 * n) 932 (lo0 b x M a d (6 * n)) [] (XO g a f d h) T I := by
  obtain ⟨C, hfl, hnc, hX, hbl, hbA, hL⟩ := S
  obtain ⟨kx, v, s', ⟨hk, hv⟩, hO, hR⟩ := op_pass (g := g) (X := XO g a f d h) (T := T) (I := I) hI (by omega) (xs (6 * n + 1))
  refine r_aload_n (pc := 932) C 1 dL_law_932 rfl rfl ?_
  refine r_aload_n (pc := 933) C 0 dL_law_933 rfl rfl ?_
  refine r_iload (pc := 934) C 5 dL_law_934 rfl ?_
  refine r_iconst (pc := 936) (v := 1) C dL_law_936 rfl ?_
  refine r_iaddN (pc := 937) C dL_law_937 ?_
  refine r_sld (pc := 938) (x := 6 * n + 1) C hX hbl hbA rfl (by omega) (by omega) dL_law_938 ?_
  refine r_aload_n (pc := 939) C 3 dL_law_939 rfl rfl ?_
  refine r_callW (pc := 940) C hfl hnc k_L_216 (w_pass hI.1 hk hv hO) rfl rfl (Nat.le_of_ble_eq_true rfl) (by decide) ⟨by omega, by omega⟩ dL_law_940 (fun r1 X1 T1 I1 h1 => ?_)
  obtain ⟨rfl, hI1, f1, rfl, hv1⟩ := h1
  refine r_st (st' := .int (nI kx) :: _) rfl ?_
  refine r_istore (pc := 943) (lo' := [(6, _), (0, _), (1, _), (2, _), (3, _), (4, _), (5, _)]) C dL_law_943 (by decide) rfl ?_
  obtain ⟨b9, ⟨hb, i9, rfl⟩, d9, hd9, hM9⟩ := hR (XO g a f1 d h) T1 I1 hI1
  refine r_aload_n (pc := 945) C 3 dL_law_945 rfl rfl ?_
  refine r_aload_n (pc := 946) C 1 dL_law_946 rfl rfl ?_
  refine r_iload (pc := 947) C 6 dL_law_947 rfl ?_
  refine r_iconst (pc := 949) (v := 1) C dL_law_949 rfl ?_
  refine r_iaddN (pc := 950) C dL_law_950 ?_
  refine r_sld (pc := 951) (x := 6 * n + 1) C hX hbl hbA rfl (by omega) (by omega) dL_law_951 ?_
  refine r_callV (pc := 952) C hfl k_L_218 hM9 hI1.2.1.1 ca_X10 rfl rfl (Nat.le_of_ble_eq_true rfl) ⟨by omega, by decide⟩ ⟨by omega, by omega⟩ dL_law_952 (fun r2 X2 T2 I2 h2 => ?_)
  obtain ⟨rfl, rfl, rfl, hc2, hI2⟩ := h2
  refine r_st (st' := .int i9 :: _) rfl ?_
  refine r_istore (pc := 955) (lo' := [(7, _), (6, _), (0, _), (1, _), (2, _), (3, _), (4, _), (5, _)]) C dL_law_955 (by decide) rfl ?_
  refine r_aload_n (pc := 957) C 4 dL_law_957 rfl rfl ?_
  refine r_callV (pc := 958) C hfl k_L_189 (thrown_c hI2.2.1) hI2.2.1.1 ca_X10 rfl rfl (Nat.le_of_ble_eq_true rfl) ⟨by omega, by decide⟩ ⟨by omega, by omega⟩ dL_law_958 (fun r3 X3 T3 I3 h3 => ?_)
  obtain ⟨rfl, rfl, rfl, rfl⟩ := h3
  refine r_st (st' := .int (I3 M 0) :: _) rfl ?_
  refine r_iload (pc := 961) C 1 dL_law_961 rfl ?_
  refine r_ceq (pc := 963) (tgt := 968) C dL_law_963 rfl (fun _ => ?_) (fun c => absurd (hc2 (by decide)) c)
  refine r_iload (pc := 968) C 1 dL_law_968 rfl ?_
  have hfin : Go g k 9 Q (600 + 30 * n + 30 + 0 + 0) (6000 + 4200 * n + 4200 + 0 + 0) 985 [(7, .int i9), (6, .int (nI kx)), (0, .ref b), (1, .ref x), (2, .ref M), (3, .ref a), (4, .ref d), (5, .int (nI (6 * n)))] [] (XO g a f1 d h) T3 I3 := r_goto (pc := 985) (tgt := 3549) C dL_law_985 rfl (r_ls (lo' := lo0 b x M a d (6 * n)) [2, 3, 4, 5, 6, 7] rfl (r_wide (by omega) (by omega) (hback f1 h T3 I3 s' hI2)))
  refine r_ifne (pc := 970) (tgt := 985) C dL_law_970 rfl (fun _ => hfin) (fun c0 => ?_)
  have hk0 : kx = 0 := nI_j (by have : kx ≤ 1 := hk; omega) (by decide) c0
  subst hk0
  obtain ⟨i1, rfl, e2⟩ := hv1 rfl
  have e9 : i9 = i1 := by injection (hb rfl)
  subst e9
  refine r_aload_n (pc := 973) C 5 dL_law_973 rfl rfl ?_
  refine r_iconst (pc := 974) (v := 0) C dL_law_974 rfl ?_
  refine r_jald (pc := 975) C dL_law_975 ?_
  refine r_iload (pc := 976) C 0 dL_law_976 rfl ?_
  refine r_i2l (pc := 978) C dL_law_978 ?_
  refine r_lcmpE (pc := 979) C dL_law_979 e2.symm ?_
  exact r_ifeq (pc := 980) (tgt := 985) C dL_law_980 rfl (fun _ => hfin) (fun c => absurd rfl c)

set_option maxHeartbeats 1000000 in
theorem lw_9 (S : LwC g k b L xs) (hn : 6 * n + 6 ≤ L) (hI : Iv x M T I s s n) (hback : Bk g k Q b x M a d n) : Go g k 9 Q (600 + 30 * n) (6000 + 4200 * n) 988 (lo0 b x M a d (6 * n)) [] (XO g a f d h) T I := by
  obtain ⟨C, hfl, hnc, hX, hbl, hbA, hL⟩ := S
  obtain ⟨kx, v, s', ⟨hk, hv⟩, ⟨d8, cm, cs, e1, e2, e3, hO⟩, hR⟩ := op_day (g := g) (X := XO g a f d h) (T := T) (I := I) hI (by omega) 
  have hk0 : kx = 0 := Nat.le_zero.mp hk
  subst hk0
  obtain ⟨i8, rfl⟩ := hv rfl
  refine r_aload_n (pc := 988) C 1 dL_law_988 rfl rfl ?_
  refine r_callV (pc := 989) C hfl k_L_219 (hO.mc (fun _ _ _ _ z => z.1 rfl)) hI.1.1 ca_X9 rfl rfl (Nat.le_of_ble_eq_true rfl) ⟨by omega, by decide⟩ ⟨by omega, by omega⟩ dL_law_989 (fun r1 X1 T1 I1 h1 => ?_)
  obtain ⟨-, rfl, rfl, hI1⟩ := h1
  refine r_st (st' := .int i8 :: _) rfl ?_
  obtain ⟨b9, ⟨hb, i9, rfl⟩, d9, hd9, hM9⟩ := hR (XO g a f d h) T1 I1 hI1
  have e9 : i9 = i8 := by injection (hb rfl)
  refine r_aload_n (pc := 992) C 2 dL_law_992 rfl rfl ?_
  refine r_callV (pc := 993) C hfl k_L_222 hM9 hI1.2.1.1 ca_X10 rfl rfl (Nat.le_of_ble_eq_true rfl) ⟨by omega, by decide⟩ ⟨by omega, by omega⟩ dL_law_993 (fun r2 X2 T2 I2 h2 => ?_)
  obtain ⟨rfl, rfl, rfl, hc2, hI2⟩ := h2
  refine r_st (st' := .int i9 :: _) rfl ?_
  exact r_ceq (pc := 996) (tgt := 3549) C dL_law_996 rfl (fun _ => r_wide (by omega) (by omega) (hback f h T2 I2 s' hI2)) (fun c => absurd e9.symm c)

set_option maxHeartbeats 1000000 in
theorem lw_10 (S : LwC g k b L xs) (hn : 6 * n + 6 ≤ L) (hI : Iv x M T I s s n) (hback : Bk g k Q b x M a d n) : Go g k 9 Q (600 + 30 * n) (6000 + 4200 * n) 1001 (lo0 b x M a d (6 * n)) [] (XO g a f d h) T I := by
  obtain ⟨C, hfl, hnc, hX, hbl, hbA, hL⟩ := S
  obtain ⟨kx, v, s', ⟨hk, hv⟩, hO, hR⟩ := op_price (g := g) (X := XO g a f d h) (T := T) (I := I) hI (by omega) (xs (6 * n + 1))
  refine r_aload_n (pc := 1001) C 1 dL_law_1001 rfl rfl ?_
  refine r_aload_n (pc := 1002) C 0 dL_law_1002 rfl rfl ?_
  refine r_iload (pc := 1003) C 5 dL_law_1003 rfl ?_
  refine r_iconst (pc := 1005) (v := 1) C dL_law_1005 rfl ?_
  refine r_iaddN (pc := 1006) C dL_law_1006 ?_
  refine r_sld (pc := 1007) (x := 6 * n + 1) C hX hbl hbA rfl (by omega) (by omega) dL_law_1007 ?_
  refine r_aload_n (pc := 1008) C 3 dL_law_1008 rfl rfl ?_
  refine r_callW (pc := 1009) C hfl hnc k_L_223 (w_price hI.1 hk hv hO) rfl rfl (Nat.le_of_ble_eq_true rfl) (by decide) ⟨by omega, by omega⟩ dL_law_1009 (fun r1 X1 T1 I1 h1 => ?_)
  obtain ⟨rfl, hI1, f1, rfl, hv1⟩ := h1
  refine r_st (st' := .int (nI kx) :: _) rfl ?_
  refine r_istore (pc := 1012) (lo' := [(6, _), (0, _), (1, _), (2, _), (3, _), (4, _), (5, _)]) C dL_law_1012 (by decide) rfl ?_
  obtain ⟨b9, ⟨hb, i9, rfl⟩, d9, hd9, hM9⟩ := hR (XO g a f1 d h) T1 I1 hI1
  refine r_aload_n (pc := 1014) C 3 dL_law_1014 rfl rfl ?_
  refine r_aload_n (pc := 1015) C 1 dL_law_1015 rfl rfl ?_
  refine r_iload (pc := 1016) C 6 dL_law_1016 rfl ?_
  refine r_iconst (pc := 1018) (v := 1) C dL_law_1018 rfl ?_
  refine r_iaddN (pc := 1019) C dL_law_1019 ?_
  refine r_sld (pc := 1020) (x := 6 * n + 1) C hX hbl hbA rfl (by omega) (by omega) dL_law_1020 ?_
  refine r_callV (pc := 1021) C hfl k_L_225 hM9 hI1.2.1.1 ca_X10 rfl rfl (Nat.le_of_ble_eq_true rfl) ⟨by omega, by decide⟩ ⟨by omega, by omega⟩ dL_law_1021 (fun r2 X2 T2 I2 h2 => ?_)
  obtain ⟨rfl, rfl, rfl, hc2, hI2⟩ := h2
  refine r_st (st' := .int i9 :: _) rfl ?_
  refine r_istore (pc := 1024) (lo' := [(7, _), (6, _), (0, _), (1, _), (2, _), (3, _), (4, _), (5, _)]) C dL_law_1024 (by decide) rfl ?_
  refine r_aload_n (pc := 1026) C 4 dL_law_1026 rfl rfl ?_
  refine r_callV (pc := 1027) C hfl k_L_189 (thrown_c hI2.2.1) hI2.2.1.1 ca_X10 rfl rfl (Nat.le_of_ble_eq_true rfl) ⟨by omega, by decide⟩ ⟨by omega, by omega⟩ dL_law_1027 (fun r3 X3 T3 I3 h3 => ?_)
  obtain ⟨rfl, rfl, rfl, rfl⟩ := h3
  refine r_st (st' := .int (I3 M 0) :: _) rfl ?_
  refine r_iload (pc := 1030) C 1 dL_law_1030 rfl ?_
  refine r_ceq (pc := 1032) (tgt := 1037) C dL_law_1032 rfl (fun _ => ?_) (fun c => absurd (hc2 (by decide)) c)
  refine r_iload (pc := 1037) C 1 dL_law_1037 rfl ?_
  have hfin : Go g k 9 Q (600 + 30 * n + 30 + 0 + 0) (6000 + 4200 * n + 4200 + 0 + 0) 1054 [(7, .int i9), (6, .int (nI kx)), (0, .ref b), (1, .ref x), (2, .ref M), (3, .ref a), (4, .ref d), (5, .int (nI (6 * n)))] [] (XO g a f1 d h) T3 I3 := r_goto (pc := 1054) (tgt := 3549) C dL_law_1054 rfl (r_ls (lo' := lo0 b x M a d (6 * n)) [2, 3, 4, 5, 6, 7] rfl (r_wide (by omega) (by omega) (hback f1 h T3 I3 s' hI2)))
  refine r_ifne (pc := 1039) (tgt := 1054) C dL_law_1039 rfl (fun _ => hfin) (fun c0 => ?_)
  have hk0 : kx = 0 := nI_j (by have : kx ≤ 1 := hk; omega) (by decide) c0
  subst hk0
  obtain ⟨i1, rfl, e2⟩ := hv1 rfl
  have e9 : i9 = i1 := by injection (hb rfl)
  subst e9
  refine r_aload_n (pc := 1042) C 5 dL_law_1042 rfl rfl ?_
  refine r_iconst (pc := 1043) (v := 0) C dL_law_1043 rfl ?_
  refine r_jald (pc := 1044) C dL_law_1044 ?_
  refine r_iload (pc := 1045) C 0 dL_law_1045 rfl ?_
  refine r_i2l (pc := 1047) C dL_law_1047 ?_
  refine r_lcmpE (pc := 1048) C dL_law_1048 e2.symm ?_
  exact r_ifeq (pc := 1049) (tgt := 1054) C dL_law_1049 rfl (fun _ => hfin) (fun c => absurd rfl c)

set_option maxHeartbeats 1000000 in
theorem lw_11 (S : LwC g k b L xs) (hn : 6 * n + 6 ≤ L) (hI : Iv x M T I s s n) (hback : Bk g k Q b x M a d n) : Go g k 9 Q (600 + 30 * n) (6000 + 4200 * n) 1057 (lo0 b x M a d (6 * n)) [] (XO g a f d h) T I := by
  obtain ⟨C, hfl, hnc, hX, hbl, hbA, hL⟩ := S
  obtain ⟨kx, v, s', ⟨hk, hv⟩, ⟨d8, cm, cs, e1, e2, e3, hO⟩, hR⟩ := op_capital (g := g) (X := XO g a f d h) (T := T) (I := I) hI (by omega) 
  have hk0 : kx = 0 := Nat.le_zero.mp hk
  subst hk0
  obtain ⟨i8, rfl⟩ := hv rfl
  refine r_aload_n (pc := 1057) C 1 dL_law_1057 rfl rfl ?_
  refine r_callV (pc := 1058) C hfl k_L_226 (hO.mc (fun _ _ _ _ z => z.1 rfl)) hI.1.1 ca_X9 rfl rfl (Nat.le_of_ble_eq_true rfl) ⟨by omega, by decide⟩ ⟨by omega, by omega⟩ dL_law_1058 (fun r1 X1 T1 I1 h1 => ?_)
  obtain ⟨-, rfl, rfl, hI1⟩ := h1
  refine r_st (st' := .int i8 :: _) rfl ?_
  obtain ⟨b9, ⟨hb, i9, rfl⟩, d9, hd9, hM9⟩ := hR (XO g a f d h) T1 I1 hI1
  have e9 : i9 = i8 := by injection (hb rfl)
  refine r_aload_n (pc := 1061) C 2 dL_law_1061 rfl rfl ?_
  refine r_callV (pc := 1062) C hfl k_L_229 hM9 hI1.2.1.1 ca_X10 rfl rfl (Nat.le_of_ble_eq_true rfl) ⟨by omega, by decide⟩ ⟨by omega, by omega⟩ dL_law_1062 (fun r2 X2 T2 I2 h2 => ?_)
  obtain ⟨rfl, rfl, rfl, hc2, hI2⟩ := h2
  refine r_st (st' := .int i9 :: _) rfl ?_
  exact r_ceq (pc := 1065) (tgt := 3549) C dL_law_1065 rfl (fun _ => r_wide (by omega) (by omega) (hback f h T2 I2 s' hI2)) (fun c => absurd e9.symm c)

set_option maxHeartbeats 1000000 in
theorem lw_12 (S : LwC g k b L xs) (hn : 6 * n + 6 ≤ L) (hI : Iv x M T I s s n) (hback : Bk g k Q b x M a d n) : Go g k 9 Q (600 + 30 * n) (6000 + 4200 * n) 1070 (lo0 b x M a d (6 * n)) [] (XO g a f d h) T I := by
  obtain ⟨C, hfl, hnc, hX, hbl, hbA, hL⟩ := S
  obtain ⟨kx, v, s', ⟨hk, hv⟩, hO, hR⟩ := op_stock (g := g) (X := XO g a f d h) (T := T) (I := I) hI (by omega) (xs (6 * n + 1))
  refine r_aload_n (pc := 1070) C 1 dL_law_1070 rfl rfl ?_
  refine r_aload_n (pc := 1071) C 0 dL_law_1071 rfl rfl ?_
  refine r_iload (pc := 1072) C 5 dL_law_1072 rfl ?_
  refine r_iconst (pc := 1074) (v := 1) C dL_law_1074 rfl ?_
  refine r_iaddN (pc := 1075) C dL_law_1075 ?_
  refine r_sld (pc := 1076) (x := 6 * n + 1) C hX hbl hbA rfl (by omega) (by omega) dL_law_1076 ?_
  refine r_aload_n (pc := 1077) C 3 dL_law_1077 rfl rfl ?_
  refine r_callW (pc := 1078) C hfl hnc k_L_230 (w_stock hI.1 hk hv hO) rfl rfl (Nat.le_of_ble_eq_true rfl) (by decide) ⟨by omega, by omega⟩ dL_law_1078 (fun r1 X1 T1 I1 h1 => ?_)
  obtain ⟨rfl, hI1, f1, rfl, hv1⟩ := h1
  refine r_st (st' := .int (nI kx) :: _) rfl ?_
  refine r_istore (pc := 1081) (lo' := [(6, _), (0, _), (1, _), (2, _), (3, _), (4, _), (5, _)]) C dL_law_1081 (by decide) rfl ?_
  obtain ⟨b9, ⟨hb, i9, rfl⟩, d9, hd9, hM9⟩ := hR (XO g a f1 d h) T1 I1 hI1
  refine r_aload_n (pc := 1083) C 3 dL_law_1083 rfl rfl ?_
  refine r_aload_n (pc := 1084) C 1 dL_law_1084 rfl rfl ?_
  refine r_iload (pc := 1085) C 6 dL_law_1085 rfl ?_
  refine r_iconst (pc := 1087) (v := 1) C dL_law_1087 rfl ?_
  refine r_iaddN (pc := 1088) C dL_law_1088 ?_
  refine r_sld (pc := 1089) (x := 6 * n + 1) C hX hbl hbA rfl (by omega) (by omega) dL_law_1089 ?_
  refine r_callV (pc := 1090) C hfl k_L_232 hM9 hI1.2.1.1 ca_X10 rfl rfl (Nat.le_of_ble_eq_true rfl) ⟨by omega, by decide⟩ ⟨by omega, by omega⟩ dL_law_1090 (fun r2 X2 T2 I2 h2 => ?_)
  obtain ⟨rfl, rfl, rfl, hc2, hI2⟩ := h2
  refine r_st (st' := .int i9 :: _) rfl ?_
  refine r_istore (pc := 1093) (lo' := [(7, _), (6, _), (0, _), (1, _), (2, _), (3, _), (4, _), (5, _)]) C dL_law_1093 (by decide) rfl ?_
  refine r_aload_n (pc := 1095) C 4 dL_law_1095 rfl rfl ?_
  refine r_callV (pc := 1096) C hfl k_L_189 (thrown_c hI2.2.1) hI2.2.1.1 ca_X10 rfl rfl (Nat.le_of_ble_eq_true rfl) ⟨by omega, by decide⟩ ⟨by omega, by omega⟩ dL_law_1096 (fun r3 X3 T3 I3 h3 => ?_)
  obtain ⟨rfl, rfl, rfl, rfl⟩ := h3
  refine r_st (st' := .int (I3 M 0) :: _) rfl ?_
  refine r_iload (pc := 1099) C 1 dL_law_1099 rfl ?_
  refine r_ceq (pc := 1101) (tgt := 1106) C dL_law_1101 rfl (fun _ => ?_) (fun c => absurd (hc2 (by decide)) c)
  refine r_iload (pc := 1106) C 1 dL_law_1106 rfl ?_
  have hfin : Go g k 9 Q (600 + 30 * n + 30 + 0 + 0) (6000 + 4200 * n + 4200 + 0 + 0) 1123 [(7, .int i9), (6, .int (nI kx)), (0, .ref b), (1, .ref x), (2, .ref M), (3, .ref a), (4, .ref d), (5, .int (nI (6 * n)))] [] (XO g a f1 d h) T3 I3 := r_goto (pc := 1123) (tgt := 3549) C dL_law_1123 rfl (r_ls (lo' := lo0 b x M a d (6 * n)) [2, 3, 4, 5, 6, 7] rfl (r_wide (by omega) (by omega) (hback f1 h T3 I3 s' hI2)))
  refine r_ifne (pc := 1108) (tgt := 1123) C dL_law_1108 rfl (fun _ => hfin) (fun c0 => ?_)
  have hk0 : kx = 0 := nI_j (by have : kx ≤ 1 := hk; omega) (by decide) c0
  subst hk0
  obtain ⟨i1, rfl, e2⟩ := hv1 rfl
  have e9 : i9 = i1 := by injection (hb rfl)
  subst e9
  refine r_aload_n (pc := 1111) C 5 dL_law_1111 rfl rfl ?_
  refine r_iconst (pc := 1112) (v := 0) C dL_law_1112 rfl ?_
  refine r_jald (pc := 1113) C dL_law_1113 ?_
  refine r_iload (pc := 1114) C 0 dL_law_1114 rfl ?_
  refine r_i2l (pc := 1116) C dL_law_1116 ?_
  refine r_lcmpE (pc := 1117) C dL_law_1117 e2.symm ?_
  exact r_ifeq (pc := 1118) (tgt := 1123) C dL_law_1118 rfl (fun _ => hfin) (fun c => absurd rfl c)

set_option maxHeartbeats 1000000 in
theorem lw_13 (S : LwC g k b L xs) (hn : 6 * n + 6 ≤ L) (hI : Iv x M T I s s n) (hback : Bk g k Q b x M a d n) : Go g k 9 Q (600 + 30 * n) (6000 + 4200 * n) 1126 (lo0 b x M a d (6 * n)) [] (XO g a f d h) T I := by
  obtain ⟨C, hfl, hnc, hX, hbl, hbA, hL⟩ := S
  obtain ⟨kx, v, s', ⟨hk, hv⟩, ⟨d8, cm, cs, e1, e2, e3, hO⟩, hR⟩ := op_borrowerCount (g := g) (X := XO g a f d h) (T := T) (I := I) hI (by omega) 
  have hk0 : kx = 0 := Nat.le_zero.mp hk
  subst hk0
  obtain ⟨i8, rfl⟩ := hv rfl
  refine r_aload_n (pc := 1126) C 1 dL_law_1126 rfl rfl ?_
  refine r_callV (pc := 1127) C hfl k_L_233 (hO.mc (fun _ _ _ _ z => z.1 rfl)) hI.1.1 ca_X9 rfl rfl (Nat.le_of_ble_eq_true rfl) ⟨by omega, by decide⟩ ⟨by omega, by omega⟩ dL_law_1127 (fun r1 X1 T1 I1 h1 => ?_)
  obtain ⟨-, rfl, rfl, hI1⟩ := h1
  refine r_st (st' := .int i8 :: _) rfl ?_
  obtain ⟨b9, ⟨hb, i9, rfl⟩, d9, hd9, hM9⟩ := hR (XO g a f d h) T1 I1 hI1
  have e9 : i9 = i8 := by injection (hb rfl)
  refine r_aload_n (pc := 1130) C 2 dL_law_1130 rfl rfl ?_
  refine r_callV (pc := 1131) C hfl k_L_236 hM9 hI1.2.1.1 ca_X10 rfl rfl (Nat.le_of_ble_eq_true rfl) ⟨by omega, by decide⟩ ⟨by omega, by omega⟩ dL_law_1131 (fun r2 X2 T2 I2 h2 => ?_)
  obtain ⟨rfl, rfl, rfl, hc2, hI2⟩ := h2
  refine r_st (st' := .int i9 :: _) rfl ?_
  exact r_ceq (pc := 1134) (tgt := 3549) C dL_law_1134 rfl (fun _ => r_wide (by omega) (by omega) (hback f h T2 I2 s' hI2)) (fun c => absurd e9.symm c)

set_option maxHeartbeats 1000000 in
theorem lw_14 (S : LwC g k b L xs) (hn : 6 * n + 6 ≤ L) (hI : Iv x M T I s s n) (hback : Bk g k Q b x M a d n) : Go g k 9 Q (600 + 30 * n) (6000 + 4200 * n) 1139 (lo0 b x M a d (6 * n)) [] (XO g a f d h) T I := by
  obtain ⟨C, hfl, hnc, hX, hbl, hbA, hL⟩ := S
  obtain ⟨kx, v, s', ⟨hk, hv⟩, hO, hR⟩ := op_coins (g := g) (X := XO g a f d h) (T := T) (I := I) hI (by omega) (xs (6 * n + 1))
  refine r_aload_n (pc := 1139) C 1 dL_law_1139 rfl rfl ?_
  refine r_aload_n (pc := 1140) C 0 dL_law_1140 rfl rfl ?_
  refine r_iload (pc := 1141) C 5 dL_law_1141 rfl ?_
  refine r_iconst (pc := 1143) (v := 1) C dL_law_1143 rfl ?_
  refine r_iaddN (pc := 1144) C dL_law_1144 ?_
  refine r_sld (pc := 1145) (x := 6 * n + 1) C hX hbl hbA rfl (by omega) (by omega) dL_law_1145 ?_
  refine r_aload_n (pc := 1146) C 3 dL_law_1146 rfl rfl ?_
  refine r_callW (pc := 1147) C hfl hnc k_L_237 (w_coins hI.1 hk hv hO) rfl rfl (Nat.le_of_ble_eq_true rfl) (by decide) ⟨by omega, by omega⟩ dL_law_1147 (fun r1 X1 T1 I1 h1 => ?_)
  obtain ⟨rfl, hI1, f1, rfl, hv1⟩ := h1
  refine r_st (st' := .int (nI kx) :: _) rfl ?_
  refine r_istore (pc := 1150) (lo' := [(6, _), (0, _), (1, _), (2, _), (3, _), (4, _), (5, _)]) C dL_law_1150 (by decide) rfl ?_
  obtain ⟨b9, ⟨hb, i9, rfl⟩, d9, hd9, hM9⟩ := hR (XO g a f1 d h) T1 I1 hI1
  refine r_aload_n (pc := 1152) C 3 dL_law_1152 rfl rfl ?_
  refine r_aload_n (pc := 1153) C 1 dL_law_1153 rfl rfl ?_
  refine r_iload (pc := 1154) C 6 dL_law_1154 rfl ?_
  refine r_iconst (pc := 1156) (v := 1) C dL_law_1156 rfl ?_
  refine r_iaddN (pc := 1157) C dL_law_1157 ?_
  refine r_sld (pc := 1158) (x := 6 * n + 1) C hX hbl hbA rfl (by omega) (by omega) dL_law_1158 ?_
  refine r_callV (pc := 1159) C hfl k_L_239 hM9 hI1.2.1.1 ca_X10 rfl rfl (Nat.le_of_ble_eq_true rfl) ⟨by omega, by decide⟩ ⟨by omega, by omega⟩ dL_law_1159 (fun r2 X2 T2 I2 h2 => ?_)
  obtain ⟨rfl, rfl, rfl, hc2, hI2⟩ := h2
  refine r_st (st' := .int i9 :: _) rfl ?_
  refine r_istore (pc := 1162) (lo' := [(7, _), (6, _), (0, _), (1, _), (2, _), (3, _), (4, _), (5, _)]) C dL_law_1162 (by decide) rfl ?_
  refine r_aload_n (pc := 1164) C 4 dL_law_1164 rfl rfl ?_
  refine r_callV (pc := 1165) C hfl k_L_189 (thrown_c hI2.2.1) hI2.2.1.1 ca_X10 rfl rfl (Nat.le_of_ble_eq_true rfl) ⟨by omega, by decide⟩ ⟨by omega, by omega⟩ dL_law_1165 (fun r3 X3 T3 I3 h3 => ?_)
  obtain ⟨rfl, rfl, rfl, rfl⟩ := h3
  refine r_st (st' := .int (I3 M 0) :: _) rfl ?_
  refine r_iload (pc := 1168) C 1 dL_law_1168 rfl ?_
  refine r_ceq (pc := 1170) (tgt := 1175) C dL_law_1170 rfl (fun _ => ?_) (fun c => absurd (hc2 (by decide)) c)
  refine r_iload (pc := 1175) C 1 dL_law_1175 rfl ?_
  have hfin : Go g k 9 Q (600 + 30 * n + 30 + 0 + 0) (6000 + 4200 * n + 4200 + 0 + 0) 1192 [(7, .int i9), (6, .int (nI kx)), (0, .ref b), (1, .ref x), (2, .ref M), (3, .ref a), (4, .ref d), (5, .int (nI (6 * n)))] [] (XO g a f1 d h) T3 I3 := r_goto (pc := 1192) (tgt := 3549) C dL_law_1192 rfl (r_ls (lo' := lo0 b x M a d (6 * n)) [2, 3, 4, 5, 6, 7] rfl (r_wide (by omega) (by omega) (hback f1 h T3 I3 s' hI2)))
  refine r_ifne (pc := 1177) (tgt := 1192) C dL_law_1177 rfl (fun _ => hfin) (fun c0 => ?_)
  have hk0 : kx = 0 := nI_j (by have : kx ≤ 1 := hk; omega) (by decide) c0
  subst hk0
  obtain ⟨i1, rfl, e2⟩ := hv1 rfl
  have e9 : i9 = i1 := by injection (hb rfl)
  subst e9
  refine r_aload_n (pc := 1180) C 5 dL_law_1180 rfl rfl ?_
  refine r_iconst (pc := 1181) (v := 0) C dL_law_1181 rfl ?_
  refine r_jald (pc := 1182) C dL_law_1182 ?_
  refine r_iload (pc := 1183) C 0 dL_law_1183 rfl ?_
  refine r_i2l (pc := 1185) C dL_law_1185 ?_
  refine r_lcmpE (pc := 1186) C dL_law_1186 e2.symm ?_
  exact r_ifeq (pc := 1187) (tgt := 1192) C dL_law_1187 rfl (fun _ => hfin) (fun c => absurd rfl c)

set_option maxHeartbeats 1000000 in
theorem lw_15 (S : LwC g k b L xs) (hn : 6 * n + 6 ≤ L) (hI : Iv x M T I s s n) (hback : Bk g k Q b x M a d n) : Go g k 9 Q (600 + 30 * n) (6000 + 4200 * n) 1195 (lo0 b x M a d (6 * n)) [] (XO g a f d h) T I := by
  obtain ⟨C, hfl, hnc, hX, hbl, hbA, hL⟩ := S
  obtain ⟨kx, v, s', ⟨hk, hv⟩, hO, hR⟩ := op_units (g := g) (X := XO g a f d h) (T := T) (I := I) hI (by omega) (xs (6 * n + 1)) (xs (6 * n + 2))
  refine r_aload_n (pc := 1195) C 1 dL_law_1195 rfl rfl ?_
  refine r_aload_n (pc := 1196) C 0 dL_law_1196 rfl rfl ?_
  refine r_iload (pc := 1197) C 5 dL_law_1197 rfl ?_
  refine r_iconst (pc := 1199) (v := 1) C dL_law_1199 rfl ?_
  refine r_iaddN (pc := 1200) C dL_law_1200 ?_
  refine r_sld (pc := 1201) (x := 6 * n + 1) C hX hbl hbA rfl (by omega) (by omega) dL_law_1201 ?_
  refine r_aload_n (pc := 1202) C 0 dL_law_1202 rfl rfl ?_
  refine r_iload (pc := 1203) C 5 dL_law_1203 rfl ?_
  refine r_iconst (pc := 1205) (v := 2) C dL_law_1205 rfl ?_
  refine r_iaddN (pc := 1206) C dL_law_1206 ?_
  refine r_sld (pc := 1207) (x := 6 * n + 2) C hX hbl hbA rfl (by omega) (by omega) dL_law_1207 ?_
  refine r_aload_n (pc := 1208) C 3 dL_law_1208 rfl rfl ?_
  refine r_callW (pc := 1209) C hfl hnc k_L_240 (w_units hI.1 hk hv hO) rfl rfl (Nat.le_of_ble_eq_true rfl) (by decide) ⟨by omega, by omega⟩ dL_law_1209 (fun r1 X1 T1 I1 h1 => ?_)
  obtain ⟨rfl, hI1, f1, rfl, hv1⟩ := h1
  refine r_st (st' := .int (nI kx) :: _) rfl ?_
  refine r_istore (pc := 1212) (lo' := [(6, _), (0, _), (1, _), (2, _), (3, _), (4, _), (5, _)]) C dL_law_1212 (by decide) rfl ?_
  obtain ⟨b9, ⟨hb, i9, rfl⟩, d9, hd9, hM9⟩ := hR (XO g a f1 d h) T1 I1 hI1
  refine r_aload_n (pc := 1214) C 3 dL_law_1214 rfl rfl ?_
  refine r_aload_n (pc := 1215) C 1 dL_law_1215 rfl rfl ?_
  refine r_iload (pc := 1216) C 6 dL_law_1216 rfl ?_
  refine r_iconst (pc := 1218) (v := 1) C dL_law_1218 rfl ?_
  refine r_iaddN (pc := 1219) C dL_law_1219 ?_
  refine r_sld (pc := 1220) (x := 6 * n + 1) C hX hbl hbA rfl (by omega) (by omega) dL_law_1220 ?_
  refine r_aload_n (pc := 1221) C 1 dL_law_1221 rfl rfl ?_
  refine r_iload (pc := 1222) C 6 dL_law_1222 rfl ?_
  refine r_iconst (pc := 1224) (v := 2) C dL_law_1224 rfl ?_
  refine r_iaddN (pc := 1225) C dL_law_1225 ?_
  refine r_sld (pc := 1226) (x := 6 * n + 2) C hX hbl hbA rfl (by omega) (by omega) dL_law_1226 ?_
  refine r_callV (pc := 1227) C hfl k_L_242 hM9 hI1.2.1.1 ca_X10 rfl rfl (Nat.le_of_ble_eq_true rfl) ⟨by omega, by decide⟩ ⟨by omega, by omega⟩ dL_law_1227 (fun r2 X2 T2 I2 h2 => ?_)
  obtain ⟨rfl, rfl, rfl, hc2, hI2⟩ := h2
  refine r_st (st' := .int i9 :: _) rfl ?_
  refine r_istore (pc := 1230) (lo' := [(7, _), (6, _), (0, _), (1, _), (2, _), (3, _), (4, _), (5, _)]) C dL_law_1230 (by decide) rfl ?_
  refine r_aload_n (pc := 1232) C 4 dL_law_1232 rfl rfl ?_
  refine r_callV (pc := 1233) C hfl k_L_189 (thrown_c hI2.2.1) hI2.2.1.1 ca_X10 rfl rfl (Nat.le_of_ble_eq_true rfl) ⟨by omega, by decide⟩ ⟨by omega, by omega⟩ dL_law_1233 (fun r3 X3 T3 I3 h3 => ?_)
  obtain ⟨rfl, rfl, rfl, rfl⟩ := h3
  refine r_st (st' := .int (I3 M 0) :: _) rfl ?_
  refine r_iload (pc := 1236) C 1 dL_law_1236 rfl ?_
  refine r_ceq (pc := 1238) (tgt := 1243) C dL_law_1238 rfl (fun _ => ?_) (fun c => absurd (hc2 (by decide)) c)
  refine r_iload (pc := 1243) C 1 dL_law_1243 rfl ?_
  have hfin : Go g k 9 Q (600 + 30 * n + 30 + 0 + 0) (6000 + 4200 * n + 4200 + 0 + 0) 1260 [(7, .int i9), (6, .int (nI kx)), (0, .ref b), (1, .ref x), (2, .ref M), (3, .ref a), (4, .ref d), (5, .int (nI (6 * n)))] [] (XO g a f1 d h) T3 I3 := r_goto (pc := 1260) (tgt := 3549) C dL_law_1260 rfl (r_ls (lo' := lo0 b x M a d (6 * n)) [2, 3, 4, 5, 6, 7] rfl (r_wide (by omega) (by omega) (hback f1 h T3 I3 s' hI2)))
  refine r_ifne (pc := 1245) (tgt := 1260) C dL_law_1245 rfl (fun _ => hfin) (fun c0 => ?_)
  have hk0 : kx = 0 := nI_j (by have : kx ≤ 1 := hk; omega) (by decide) c0
  subst hk0
  obtain ⟨i1, rfl, e2⟩ := hv1 rfl
  have e9 : i9 = i1 := by injection (hb rfl)
  subst e9
  refine r_aload_n (pc := 1248) C 5 dL_law_1248 rfl rfl ?_
  refine r_iconst (pc := 1249) (v := 0) C dL_law_1249 rfl ?_
  refine r_jald (pc := 1250) C dL_law_1250 ?_
  refine r_iload (pc := 1251) C 0 dL_law_1251 rfl ?_
  refine r_i2l (pc := 1253) C dL_law_1253 ?_
  refine r_lcmpE (pc := 1254) C dL_law_1254 e2.symm ?_
  exact r_ifeq (pc := 1255) (tgt := 1260) C dL_law_1255 rfl (fun _ => hfin) (fun c => absurd rfl c)

set_option maxHeartbeats 1000000 in
theorem lw_16 (S : LwC g k b L xs) (hn : 6 * n + 6 ≤ L) (hI : Iv x M T I s s n) (hback : Bk g k Q b x M a d n) : Go g k 9 Q (600 + 30 * n) (6000 + 4200 * n) 1263 (lo0 b x M a d (6 * n)) [] (XO g a f d h) T I := by
  obtain ⟨C, hfl, hnc, hX, hbl, hbA, hL⟩ := S
  obtain ⟨kx, v, s', ⟨hk, hv⟩, hO, hR⟩ := op_pledgedUnits (g := g) (X := XO g a f d h) (T := T) (I := I) hI (by omega) (xs (6 * n + 1)) (xs (6 * n + 2))
  refine r_aload_n (pc := 1263) C 1 dL_law_1263 rfl rfl ?_
  refine r_aload_n (pc := 1264) C 0 dL_law_1264 rfl rfl ?_
  refine r_iload (pc := 1265) C 5 dL_law_1265 rfl ?_
  refine r_iconst (pc := 1267) (v := 1) C dL_law_1267 rfl ?_
  refine r_iaddN (pc := 1268) C dL_law_1268 ?_
  refine r_sld (pc := 1269) (x := 6 * n + 1) C hX hbl hbA rfl (by omega) (by omega) dL_law_1269 ?_
  refine r_aload_n (pc := 1270) C 0 dL_law_1270 rfl rfl ?_
  refine r_iload (pc := 1271) C 5 dL_law_1271 rfl ?_
  refine r_iconst (pc := 1273) (v := 2) C dL_law_1273 rfl ?_
  refine r_iaddN (pc := 1274) C dL_law_1274 ?_
  refine r_sld (pc := 1275) (x := 6 * n + 2) C hX hbl hbA rfl (by omega) (by omega) dL_law_1275 ?_
  refine r_aload_n (pc := 1276) C 3 dL_law_1276 rfl rfl ?_
  refine r_callW (pc := 1277) C hfl hnc k_L_243 (w_pledgedUnits hI.1 hk hv hO) rfl rfl (Nat.le_of_ble_eq_true rfl) (by decide) ⟨by omega, by omega⟩ dL_law_1277 (fun r1 X1 T1 I1 h1 => ?_)
  obtain ⟨rfl, hI1, f1, rfl, hv1⟩ := h1
  refine r_st (st' := .int (nI kx) :: _) rfl ?_
  refine r_istore (pc := 1280) (lo' := [(6, _), (0, _), (1, _), (2, _), (3, _), (4, _), (5, _)]) C dL_law_1280 (by decide) rfl ?_
  obtain ⟨b9, ⟨hb, i9, rfl⟩, d9, hd9, hM9⟩ := hR (XO g a f1 d h) T1 I1 hI1
  refine r_aload_n (pc := 1282) C 3 dL_law_1282 rfl rfl ?_
  refine r_aload_n (pc := 1283) C 1 dL_law_1283 rfl rfl ?_
  refine r_iload (pc := 1284) C 6 dL_law_1284 rfl ?_
  refine r_iconst (pc := 1286) (v := 1) C dL_law_1286 rfl ?_
  refine r_iaddN (pc := 1287) C dL_law_1287 ?_
  refine r_sld (pc := 1288) (x := 6 * n + 1) C hX hbl hbA rfl (by omega) (by omega) dL_law_1288 ?_
  refine r_aload_n (pc := 1289) C 1 dL_law_1289 rfl rfl ?_
  refine r_iload (pc := 1290) C 6 dL_law_1290 rfl ?_
  refine r_iconst (pc := 1292) (v := 2) C dL_law_1292 rfl ?_
  refine r_iaddN (pc := 1293) C dL_law_1293 ?_
  refine r_sld (pc := 1294) (x := 6 * n + 2) C hX hbl hbA rfl (by omega) (by omega) dL_law_1294 ?_
  refine r_callV (pc := 1295) C hfl k_L_245 hM9 hI1.2.1.1 ca_X10 rfl rfl (Nat.le_of_ble_eq_true rfl) ⟨by omega, by decide⟩ ⟨by omega, by omega⟩ dL_law_1295 (fun r2 X2 T2 I2 h2 => ?_)
  obtain ⟨rfl, rfl, rfl, hc2, hI2⟩ := h2
  refine r_st (st' := .int i9 :: _) rfl ?_
  refine r_istore (pc := 1298) (lo' := [(7, _), (6, _), (0, _), (1, _), (2, _), (3, _), (4, _), (5, _)]) C dL_law_1298 (by decide) rfl ?_
  refine r_aload_n (pc := 1300) C 4 dL_law_1300 rfl rfl ?_
  refine r_callV (pc := 1301) C hfl k_L_189 (thrown_c hI2.2.1) hI2.2.1.1 ca_X10 rfl rfl (Nat.le_of_ble_eq_true rfl) ⟨by omega, by decide⟩ ⟨by omega, by omega⟩ dL_law_1301 (fun r3 X3 T3 I3 h3 => ?_)
  obtain ⟨rfl, rfl, rfl, rfl⟩ := h3
  refine r_st (st' := .int (I3 M 0) :: _) rfl ?_
  refine r_iload (pc := 1304) C 1 dL_law_1304 rfl ?_
  refine r_ceq (pc := 1306) (tgt := 1311) C dL_law_1306 rfl (fun _ => ?_) (fun c => absurd (hc2 (by decide)) c)
  refine r_iload (pc := 1311) C 1 dL_law_1311 rfl ?_
  have hfin : Go g k 9 Q (600 + 30 * n + 30 + 0 + 0) (6000 + 4200 * n + 4200 + 0 + 0) 1328 [(7, .int i9), (6, .int (nI kx)), (0, .ref b), (1, .ref x), (2, .ref M), (3, .ref a), (4, .ref d), (5, .int (nI (6 * n)))] [] (XO g a f1 d h) T3 I3 := r_goto (pc := 1328) (tgt := 3549) C dL_law_1328 rfl (r_ls (lo' := lo0 b x M a d (6 * n)) [2, 3, 4, 5, 6, 7] rfl (r_wide (by omega) (by omega) (hback f1 h T3 I3 s' hI2)))
  refine r_ifne (pc := 1313) (tgt := 1328) C dL_law_1313 rfl (fun _ => hfin) (fun c0 => ?_)
  have hk0 : kx = 0 := nI_j (by have : kx ≤ 1 := hk; omega) (by decide) c0
  subst hk0
  obtain ⟨i1, rfl, e2⟩ := hv1 rfl
  have e9 : i9 = i1 := by injection (hb rfl)
  subst e9
  refine r_aload_n (pc := 1316) C 5 dL_law_1316 rfl rfl ?_
  refine r_iconst (pc := 1317) (v := 0) C dL_law_1317 rfl ?_
  refine r_jald (pc := 1318) C dL_law_1318 ?_
  refine r_iload (pc := 1319) C 0 dL_law_1319 rfl ?_
  refine r_i2l (pc := 1321) C dL_law_1321 ?_
  refine r_lcmpE (pc := 1322) C dL_law_1322 e2.symm ?_
  exact r_ifeq (pc := 1323) (tgt := 1328) C dL_law_1323 rfl (fun _ => hfin) (fun c => absurd rfl c)

set_option maxHeartbeats 1000000 in
theorem lw_17 (S : LwC g k b L xs) (hn : 6 * n + 6 ≤ L) (hI : Iv x M T I s s n) (hback : Bk g k Q b x M a d n) : Go g k 9 Q (600 + 30 * n) (6000 + 4200 * n) 1331 (lo0 b x M a d (6 * n)) [] (XO g a f d h) T I := by
  obtain ⟨C, hfl, hnc, hX, hbl, hbA, hL⟩ := S
  obtain ⟨kx, v, s', ⟨hk, hv⟩, hO, hR⟩ := op_defaults (g := g) (X := XO g a f d h) (T := T) (I := I) hI (by omega) (xs (6 * n + 1))
  refine r_aload_n (pc := 1331) C 1 dL_law_1331 rfl rfl ?_
  refine r_aload_n (pc := 1332) C 0 dL_law_1332 rfl rfl ?_
  refine r_iload (pc := 1333) C 5 dL_law_1333 rfl ?_
  refine r_iconst (pc := 1335) (v := 1) C dL_law_1335 rfl ?_
  refine r_iaddN (pc := 1336) C dL_law_1336 ?_
  refine r_sld (pc := 1337) (x := 6 * n + 1) C hX hbl hbA rfl (by omega) (by omega) dL_law_1337 ?_
  refine r_aload_n (pc := 1338) C 3 dL_law_1338 rfl rfl ?_
  refine r_callW (pc := 1339) C hfl hnc k_L_246 (w_defaults hI.1 hk hv hO) rfl rfl (Nat.le_of_ble_eq_true rfl) (by decide) ⟨by omega, by omega⟩ dL_law_1339 (fun r1 X1 T1 I1 h1 => ?_)
  obtain ⟨rfl, hI1, f1, rfl, hv1⟩ := h1
  refine r_st (st' := .int (nI kx) :: _) rfl ?_
  refine r_istore (pc := 1342) (lo' := [(6, _), (0, _), (1, _), (2, _), (3, _), (4, _), (5, _)]) C dL_law_1342 (by decide) rfl ?_
  obtain ⟨b9, ⟨hb, i9, rfl⟩, d9, hd9, hM9⟩ := hR (XO g a f1 d h) T1 I1 hI1
  refine r_aload_n (pc := 1344) C 3 dL_law_1344 rfl rfl ?_
  refine r_aload_n (pc := 1345) C 1 dL_law_1345 rfl rfl ?_
  refine r_iload (pc := 1346) C 6 dL_law_1346 rfl ?_
  refine r_iconst (pc := 1348) (v := 1) C dL_law_1348 rfl ?_
  refine r_iaddN (pc := 1349) C dL_law_1349 ?_
  refine r_sld (pc := 1350) (x := 6 * n + 1) C hX hbl hbA rfl (by omega) (by omega) dL_law_1350 ?_
  refine r_callV (pc := 1351) C hfl k_L_248 hM9 hI1.2.1.1 ca_X10 rfl rfl (Nat.le_of_ble_eq_true rfl) ⟨by omega, by decide⟩ ⟨by omega, by omega⟩ dL_law_1351 (fun r2 X2 T2 I2 h2 => ?_)
  obtain ⟨rfl, rfl, rfl, hc2, hI2⟩ := h2
  refine r_st (st' := .int i9 :: _) rfl ?_
  refine r_istore (pc := 1354) (lo' := [(7, _), (6, _), (0, _), (1, _), (2, _), (3, _), (4, _), (5, _)]) C dL_law_1354 (by decide) rfl ?_
  refine r_aload_n (pc := 1356) C 4 dL_law_1356 rfl rfl ?_
  refine r_callV (pc := 1357) C hfl k_L_189 (thrown_c hI2.2.1) hI2.2.1.1 ca_X10 rfl rfl (Nat.le_of_ble_eq_true rfl) ⟨by omega, by decide⟩ ⟨by omega, by omega⟩ dL_law_1357 (fun r3 X3 T3 I3 h3 => ?_)
  obtain ⟨rfl, rfl, rfl, rfl⟩ := h3
  refine r_st (st' := .int (I3 M 0) :: _) rfl ?_
  refine r_iload (pc := 1360) C 1 dL_law_1360 rfl ?_
  refine r_ceq (pc := 1362) (tgt := 1367) C dL_law_1362 rfl (fun _ => ?_) (fun c => absurd (hc2 (by decide)) c)
  refine r_iload (pc := 1367) C 1 dL_law_1367 rfl ?_
  have hfin : Go g k 9 Q (600 + 30 * n + 30 + 0 + 0) (6000 + 4200 * n + 4200 + 0 + 0) 1384 [(7, .int i9), (6, .int (nI kx)), (0, .ref b), (1, .ref x), (2, .ref M), (3, .ref a), (4, .ref d), (5, .int (nI (6 * n)))] [] (XO g a f1 d h) T3 I3 := r_goto (pc := 1384) (tgt := 3549) C dL_law_1384 rfl (r_ls (lo' := lo0 b x M a d (6 * n)) [2, 3, 4, 5, 6, 7] rfl (r_wide (by omega) (by omega) (hback f1 h T3 I3 s' hI2)))
  refine r_ifne (pc := 1369) (tgt := 1384) C dL_law_1369 rfl (fun _ => hfin) (fun c0 => ?_)
  have hk0 : kx = 0 := nI_j (by have : kx ≤ 1 := hk; omega) (by decide) c0
  subst hk0
  obtain ⟨i1, rfl, e2⟩ := hv1 rfl
  have e9 : i9 = i1 := by injection (hb rfl)
  subst e9
  refine r_aload_n (pc := 1372) C 5 dL_law_1372 rfl rfl ?_
  refine r_iconst (pc := 1373) (v := 0) C dL_law_1373 rfl ?_
  refine r_jald (pc := 1374) C dL_law_1374 ?_
  refine r_iload (pc := 1375) C 0 dL_law_1375 rfl ?_
  refine r_i2l (pc := 1377) C dL_law_1377 ?_
  refine r_lcmpE (pc := 1378) C dL_law_1378 e2.symm ?_
  exact r_ifeq (pc := 1379) (tgt := 1384) C dL_law_1379 rfl (fun _ => hfin) (fun c => absurd rfl c)

set_option maxHeartbeats 1000000 in
theorem lw_18 (S : LwC g k b L xs) (hn : 6 * n + 6 ≤ L) (hI : Iv x M T I s s n) (hback : Bk g k Q b x M a d n) : Go g k 9 Q (600 + 30 * n) (6000 + 4200 * n) 1387 (lo0 b x M a d (6 * n)) [] (XO g a f d h) T I := by
  obtain ⟨C, hfl, hnc, hX, hbl, hbA, hL⟩ := S
  obtain ⟨kx, v, s', ⟨hk, hv⟩, hO, hR⟩ := op_canBorrow (g := g) (X := XO g a f d h) (T := T) (I := I) hI (by omega) (xs (6 * n + 1))
  refine r_aload_n (pc := 1387) C 1 dL_law_1387 rfl rfl ?_
  refine r_aload_n (pc := 1388) C 0 dL_law_1388 rfl rfl ?_
  refine r_iload (pc := 1389) C 5 dL_law_1389 rfl ?_
  refine r_iconst (pc := 1391) (v := 1) C dL_law_1391 rfl ?_
  refine r_iaddN (pc := 1392) C dL_law_1392 ?_
  refine r_sld (pc := 1393) (x := 6 * n + 1) C hX hbl hbA rfl (by omega) (by omega) dL_law_1393 ?_
  refine r_aload_n (pc := 1394) C 3 dL_law_1394 rfl rfl ?_
  refine r_callW (pc := 1395) C hfl hnc k_L_249 (w_canBorrow hI.1 hk hv hO) rfl rfl (Nat.le_of_ble_eq_true rfl) (by decide) ⟨by omega, by omega⟩ dL_law_1395 (fun r1 X1 T1 I1 h1 => ?_)
  obtain ⟨rfl, hI1, f1, rfl, hv1⟩ := h1
  refine r_st (st' := .int (nI kx) :: _) rfl ?_
  refine r_istore (pc := 1398) (lo' := [(6, _), (0, _), (1, _), (2, _), (3, _), (4, _), (5, _)]) C dL_law_1398 (by decide) rfl ?_
  obtain ⟨b9, ⟨hb, i9, rfl⟩, d9, hd9, hM9⟩ := hR (XO g a f1 d h) T1 I1 hI1
  refine r_aload_n (pc := 1400) C 3 dL_law_1400 rfl rfl ?_
  refine r_aload_n (pc := 1401) C 1 dL_law_1401 rfl rfl ?_
  refine r_iload (pc := 1402) C 6 dL_law_1402 rfl ?_
  refine r_iconst (pc := 1404) (v := 1) C dL_law_1404 rfl ?_
  refine r_iaddN (pc := 1405) C dL_law_1405 ?_
  refine r_sld (pc := 1406) (x := 6 * n + 1) C hX hbl hbA rfl (by omega) (by omega) dL_law_1406 ?_
  refine r_callV (pc := 1407) C hfl k_L_251 hM9 hI1.2.1.1 ca_X10 rfl rfl (Nat.le_of_ble_eq_true rfl) ⟨by omega, by decide⟩ ⟨by omega, by omega⟩ dL_law_1407 (fun r2 X2 T2 I2 h2 => ?_)
  obtain ⟨rfl, rfl, rfl, hc2, hI2⟩ := h2
  refine r_st (st' := .int i9 :: _) rfl ?_
  refine r_istore (pc := 1410) (lo' := [(7, _), (6, _), (0, _), (1, _), (2, _), (3, _), (4, _), (5, _)]) C dL_law_1410 (by decide) rfl ?_
  refine r_aload_n (pc := 1412) C 4 dL_law_1412 rfl rfl ?_
  refine r_callV (pc := 1413) C hfl k_L_189 (thrown_c hI2.2.1) hI2.2.1.1 ca_X10 rfl rfl (Nat.le_of_ble_eq_true rfl) ⟨by omega, by decide⟩ ⟨by omega, by omega⟩ dL_law_1413 (fun r3 X3 T3 I3 h3 => ?_)
  obtain ⟨rfl, rfl, rfl, rfl⟩ := h3
  refine r_st (st' := .int (I3 M 0) :: _) rfl ?_
  refine r_iload (pc := 1416) C 1 dL_law_1416 rfl ?_
  refine r_ceq (pc := 1418) (tgt := 1423) C dL_law_1418 rfl (fun _ => ?_) (fun c => absurd (hc2 (by decide)) c)
  refine r_iload (pc := 1423) C 1 dL_law_1423 rfl ?_
  have hfin : Go g k 9 Q (600 + 30 * n + 30 + 0 + 0) (6000 + 4200 * n + 4200 + 0 + 0) 1447 [(7, .int i9), (6, .int (nI kx)), (0, .ref b), (1, .ref x), (2, .ref M), (3, .ref a), (4, .ref d), (5, .int (nI (6 * n)))] [] (XO g a f1 d h) T3 I3 := r_goto (pc := 1447) (tgt := 3549) C dL_law_1447 rfl (r_ls (lo' := lo0 b x M a d (6 * n)) [2, 3, 4, 5, 6, 7] rfl (r_wide (by omega) (by omega) (hback f1 h T3 I3 s' hI2)))
  refine r_ifne (pc := 1425) (tgt := 1447) C dL_law_1425 rfl (fun _ => hfin) (fun c0 => ?_)
  have hk0 : kx = 0 := nI_j (by have : kx ≤ 1 := hk; omega) (by decide) c0
  subst hk0
  obtain ⟨i1, rfl, e2⟩ := hv1 rfl
  have e9 : i9 = i1 := by injection (hb rfl)
  subst e9
  refine r_aload_n (pc := 1428) C 5 dL_law_1428 rfl rfl ?_
  refine r_iconst (pc := 1429) (v := 0) C dL_law_1429 rfl ?_
  refine r_jald (pc := 1430) C dL_law_1430 ?_
  refine r_iload (pc := 1431) C 0 dL_law_1431 rfl ?_
  refine r_ifeq (pc := 1433) (tgt := 1440) C dL_law_1433 rfl (fun c1 => ?_) (fun c1 => ?_)
  · refine r_lconst (pc := 1440) (v := 0) C dL_law_1440 rfl ?_
    refine r_lcmpE (pc := 1441) C dL_law_1441 (e2.trans (if_pos c1)).symm ?_
    exact r_ifeq (pc := 1442) (tgt := 1447) C dL_law_1442 rfl (fun _ => hfin) (fun c => absurd rfl c)
  · refine r_lconst (pc := 1436) (v := 1) C dL_law_1436 rfl ?_
    refine r_goto (pc := 1437) (tgt := 1441) C dL_law_1437 rfl ?_
    refine r_lcmpE (pc := 1441) C dL_law_1441 (e2.trans (if_neg c1)).symm ?_
    exact r_ifeq (pc := 1442) (tgt := 1447) C dL_law_1442 rfl (fun _ => hfin) (fun c => absurd rfl c)

set_option maxHeartbeats 1000000 in
theorem lw_19 (S : LwC g k b L xs) (hn : 6 * n + 6 ≤ L) (hI : Iv x M T I s s n) (hback : Bk g k Q b x M a d n) : Go g k 9 Q (600 + 30 * n) (6000 + 4200 * n) 1450 (lo0 b x M a d (6 * n)) [] (XO g a f d h) T I := by
  obtain ⟨C, hfl, hnc, hX, hbl, hbA, hL⟩ := S
  obtain ⟨kx, v, s', ⟨hk, hv⟩, hO, hR⟩ := op_loansOf (g := g) (X := XO g a f d h) (T := T) (I := I) hI (by omega) (xs (6 * n + 1))
  refine r_aload_n (pc := 1450) C 1 dL_law_1450 rfl rfl ?_
  refine r_aload_n (pc := 1451) C 0 dL_law_1451 rfl rfl ?_
  refine r_iload (pc := 1452) C 5 dL_law_1452 rfl ?_
  refine r_iconst (pc := 1454) (v := 1) C dL_law_1454 rfl ?_
  refine r_iaddN (pc := 1455) C dL_law_1455 ?_
  refine r_sld (pc := 1456) (x := 6 * n + 1) C hX hbl hbA rfl (by omega) (by omega) dL_law_1456 ?_
  refine r_aload_n (pc := 1457) C 3 dL_law_1457 rfl rfl ?_
  refine r_callW (pc := 1458) C hfl hnc k_L_252 (w_loansOf hI.1 hk hv hO) rfl rfl (Nat.le_of_ble_eq_true rfl) (by decide) ⟨by omega, by omega⟩ dL_law_1458 (fun r1 X1 T1 I1 h1 => ?_)
  obtain ⟨rfl, hI1, f1, rfl, hv1⟩ := h1
  refine r_st (st' := .int (nI kx) :: _) rfl ?_
  refine r_istore (pc := 1461) (lo' := [(6, _), (0, _), (1, _), (2, _), (3, _), (4, _), (5, _)]) C dL_law_1461 (by decide) rfl ?_
  obtain ⟨b9, ⟨hb, i9, rfl⟩, d9, hd9, hM9⟩ := hR (XO g a f1 d h) T1 I1 hI1
  refine r_aload_n (pc := 1463) C 3 dL_law_1463 rfl rfl ?_
  refine r_aload_n (pc := 1464) C 1 dL_law_1464 rfl rfl ?_
  refine r_iload (pc := 1465) C 6 dL_law_1465 rfl ?_
  refine r_iconst (pc := 1467) (v := 1) C dL_law_1467 rfl ?_
  refine r_iaddN (pc := 1468) C dL_law_1468 ?_
  refine r_sld (pc := 1469) (x := 6 * n + 1) C hX hbl hbA rfl (by omega) (by omega) dL_law_1469 ?_
  refine r_callV (pc := 1470) C hfl k_L_254 hM9 hI1.2.1.1 ca_X10 rfl rfl (Nat.le_of_ble_eq_true rfl) ⟨by omega, by decide⟩ ⟨by omega, by omega⟩ dL_law_1470 (fun r2 X2 T2 I2 h2 => ?_)
  obtain ⟨rfl, rfl, rfl, hc2, hI2⟩ := h2
  refine r_st (st' := .int i9 :: _) rfl ?_
  refine r_istore (pc := 1473) (lo' := [(7, _), (6, _), (0, _), (1, _), (2, _), (3, _), (4, _), (5, _)]) C dL_law_1473 (by decide) rfl ?_
  refine r_aload_n (pc := 1475) C 4 dL_law_1475 rfl rfl ?_
  refine r_callV (pc := 1476) C hfl k_L_189 (thrown_c hI2.2.1) hI2.2.1.1 ca_X10 rfl rfl (Nat.le_of_ble_eq_true rfl) ⟨by omega, by decide⟩ ⟨by omega, by omega⟩ dL_law_1476 (fun r3 X3 T3 I3 h3 => ?_)
  obtain ⟨rfl, rfl, rfl, rfl⟩ := h3
  refine r_st (st' := .int (I3 M 0) :: _) rfl ?_
  refine r_iload (pc := 1479) C 1 dL_law_1479 rfl ?_
  refine r_ceq (pc := 1481) (tgt := 1486) C dL_law_1481 rfl (fun _ => ?_) (fun c => absurd (hc2 (by decide)) c)
  refine r_iload (pc := 1486) C 1 dL_law_1486 rfl ?_
  have hfin : Go g k 9 Q (600 + 30 * n + 30 + 0 + 0) (6000 + 4200 * n + 4200 + 0 + 0) 1503 [(7, .int i9), (6, .int (nI kx)), (0, .ref b), (1, .ref x), (2, .ref M), (3, .ref a), (4, .ref d), (5, .int (nI (6 * n)))] [] (XO g a f1 d h) T3 I3 := r_goto (pc := 1503) (tgt := 3549) C dL_law_1503 rfl (r_ls (lo' := lo0 b x M a d (6 * n)) [2, 3, 4, 5, 6, 7] rfl (r_wide (by omega) (by omega) (hback f1 h T3 I3 s' hI2)))
  refine r_ifne (pc := 1488) (tgt := 1503) C dL_law_1488 rfl (fun _ => hfin) (fun c0 => ?_)
  have hk0 : kx = 0 := nI_j (by have : kx ≤ 1 := hk; omega) (by decide) c0
  subst hk0
  obtain ⟨i1, rfl, e2⟩ := hv1 rfl
  have e9 : i9 = i1 := by injection (hb rfl)
  subst e9
  refine r_aload_n (pc := 1491) C 5 dL_law_1491 rfl rfl ?_
  refine r_iconst (pc := 1492) (v := 0) C dL_law_1492 rfl ?_
  refine r_jald (pc := 1493) C dL_law_1493 ?_
  refine r_iload (pc := 1494) C 0 dL_law_1494 rfl ?_
  refine r_i2l (pc := 1496) C dL_law_1496 ?_
  refine r_lcmpE (pc := 1497) C dL_law_1497 e2.symm ?_
  exact r_ifeq (pc := 1498) (tgt := 1503) C dL_law_1498 rfl (fun _ => hfin) (fun c => absurd rfl c)

set_option maxHeartbeats 1000000 in
theorem lw_20 (S : LwC g k b L xs) (hn : 6 * n + 6 ≤ L) (hI : Iv x M T I s s n) (hback : Bk g k Q b x M a d n) : Go g k 9 Q (600 + 30 * n) (6000 + 4200 * n) 1506 (lo0 b x M a d (6 * n)) [] (XO g a f d h) T I := by
  obtain ⟨C, hfl, hnc, hX, hbl, hbA, hL⟩ := S
  obtain ⟨kx, v, s', ⟨hk, hv⟩, hO, hR⟩ := op_debtOf (g := g) (X := XO g a f d h) (T := T) (I := I) hI (by omega) (xs (6 * n + 1))
  refine r_aload_n (pc := 1506) C 1 dL_law_1506 rfl rfl ?_
  refine r_aload_n (pc := 1507) C 0 dL_law_1507 rfl rfl ?_
  refine r_iload (pc := 1508) C 5 dL_law_1508 rfl ?_
  refine r_iconst (pc := 1510) (v := 1) C dL_law_1510 rfl ?_
  refine r_iaddN (pc := 1511) C dL_law_1511 ?_
  refine r_sld (pc := 1512) (x := 6 * n + 1) C hX hbl hbA rfl (by omega) (by omega) dL_law_1512 ?_
  refine r_aload_n (pc := 1513) C 3 dL_law_1513 rfl rfl ?_
  refine r_callW (pc := 1514) C hfl hnc k_L_255 (w_debtOf hI.1 hk hv hO) rfl rfl (Nat.le_of_ble_eq_true rfl) (by decide) ⟨by omega, by omega⟩ dL_law_1514 (fun r1 X1 T1 I1 h1 => ?_)
  obtain ⟨rfl, hI1, f1, rfl, hv1⟩ := h1
  refine r_st (st' := .int (nI kx) :: _) rfl ?_
  refine r_istore (pc := 1517) (lo' := [(6, _), (0, _), (1, _), (2, _), (3, _), (4, _), (5, _)]) C dL_law_1517 (by decide) rfl ?_
  obtain ⟨b9, ⟨hb, i9, rfl⟩, d9, hd9, hM9⟩ := hR (XO g a f1 d h) T1 I1 hI1
  refine r_aload_n (pc := 1519) C 3 dL_law_1519 rfl rfl ?_
  refine r_aload_n (pc := 1520) C 1 dL_law_1520 rfl rfl ?_
  refine r_iload (pc := 1521) C 6 dL_law_1521 rfl ?_
  refine r_iconst (pc := 1523) (v := 1) C dL_law_1523 rfl ?_
  refine r_iaddN (pc := 1524) C dL_law_1524 ?_
  refine r_sld (pc := 1525) (x := 6 * n + 1) C hX hbl hbA rfl (by omega) (by omega) dL_law_1525 ?_
  refine r_callV (pc := 1526) C hfl k_L_257 hM9 hI1.2.1.1 ca_X10 rfl rfl (Nat.le_of_ble_eq_true rfl) ⟨by omega, by decide⟩ ⟨by omega, by omega⟩ dL_law_1526 (fun r2 X2 T2 I2 h2 => ?_)
  obtain ⟨rfl, rfl, rfl, hc2, hI2⟩ := h2
  refine r_st (st' := .int i9 :: _) rfl ?_
  refine r_istore (pc := 1529) (lo' := [(7, _), (6, _), (0, _), (1, _), (2, _), (3, _), (4, _), (5, _)]) C dL_law_1529 (by decide) rfl ?_
  refine r_aload_n (pc := 1531) C 4 dL_law_1531 rfl rfl ?_
  refine r_callV (pc := 1532) C hfl k_L_189 (thrown_c hI2.2.1) hI2.2.1.1 ca_X10 rfl rfl (Nat.le_of_ble_eq_true rfl) ⟨by omega, by decide⟩ ⟨by omega, by omega⟩ dL_law_1532 (fun r3 X3 T3 I3 h3 => ?_)
  obtain ⟨rfl, rfl, rfl, rfl⟩ := h3
  refine r_st (st' := .int (I3 M 0) :: _) rfl ?_
  refine r_iload (pc := 1535) C 1 dL_law_1535 rfl ?_
  refine r_ceq (pc := 1537) (tgt := 1542) C dL_law_1537 rfl (fun _ => ?_) (fun c => absurd (hc2 (by decide)) c)
  refine r_iload (pc := 1542) C 1 dL_law_1542 rfl ?_
  have hfin : Go g k 9 Q (600 + 30 * n + 30 + 0 + 0) (6000 + 4200 * n + 4200 + 0 + 0) 1559 [(7, .int i9), (6, .int (nI kx)), (0, .ref b), (1, .ref x), (2, .ref M), (3, .ref a), (4, .ref d), (5, .int (nI (6 * n)))] [] (XO g a f1 d h) T3 I3 := r_goto (pc := 1559) (tgt := 3549) C dL_law_1559 rfl (r_ls (lo' := lo0 b x M a d (6 * n)) [2, 3, 4, 5, 6, 7] rfl (r_wide (by omega) (by omega) (hback f1 h T3 I3 s' hI2)))
  refine r_ifne (pc := 1544) (tgt := 1559) C dL_law_1544 rfl (fun _ => hfin) (fun c0 => ?_)
  have hk0 : kx = 0 := nI_j (by have : kx ≤ 1 := hk; omega) (by decide) c0
  subst hk0
  obtain ⟨i1, rfl, e2⟩ := hv1 rfl
  have e9 : i9 = i1 := by injection (hb rfl)
  subst e9
  refine r_aload_n (pc := 1547) C 5 dL_law_1547 rfl rfl ?_
  refine r_iconst (pc := 1548) (v := 0) C dL_law_1548 rfl ?_
  refine r_jald (pc := 1549) C dL_law_1549 ?_
  refine r_iload (pc := 1550) C 0 dL_law_1550 rfl ?_
  refine r_i2l (pc := 1552) C dL_law_1552 ?_
  refine r_lcmpE (pc := 1553) C dL_law_1553 e2.symm ?_
  exact r_ifeq (pc := 1554) (tgt := 1559) C dL_law_1554 rfl (fun _ => hfin) (fun c => absurd rfl c)

set_option maxHeartbeats 1000000 in
theorem lw_21 (S : LwC g k b L xs) (hn : 6 * n + 6 ≤ L) (hI : Iv x M T I s s n) (hback : Bk g k Q b x M a d n) : Go g k 9 Q (600 + 30 * n) (6000 + 4200 * n) 1562 (lo0 b x M a d (6 * n)) [] (XO g a f d h) T I := by
  obtain ⟨C, hfl, hnc, hX, hbl, hbA, hL⟩ := S
  obtain ⟨kx, v, s', ⟨hk, hv⟩, hO, hR⟩ := op_wealth (g := g) (X := XO g a f d h) (T := T) (I := I) hI (by omega) (xs (6 * n + 1))
  refine r_aload_n (pc := 1562) C 1 dL_law_1562 rfl rfl ?_
  refine r_aload_n (pc := 1563) C 0 dL_law_1563 rfl rfl ?_
  refine r_iload (pc := 1564) C 5 dL_law_1564 rfl ?_
  refine r_iconst (pc := 1566) (v := 1) C dL_law_1566 rfl ?_
  refine r_iaddN (pc := 1567) C dL_law_1567 ?_
  refine r_sld (pc := 1568) (x := 6 * n + 1) C hX hbl hbA rfl (by omega) (by omega) dL_law_1568 ?_
  refine r_aload_n (pc := 1569) C 3 dL_law_1569 rfl rfl ?_
  refine r_callW (pc := 1570) C hfl hnc k_L_258 (w_wealth hI.1 hk hv hO) rfl rfl (Nat.le_of_ble_eq_true rfl) (by decide) ⟨by omega, by omega⟩ dL_law_1570 (fun r1 X1 T1 I1 h1 => ?_)
  obtain ⟨rfl, hI1, f1, rfl, hv1⟩ := h1
  refine r_st (st' := .int (nI kx) :: _) rfl ?_
  refine r_istore (pc := 1573) (lo' := [(6, _), (0, _), (1, _), (2, _), (3, _), (4, _), (5, _)]) C dL_law_1573 (by decide) rfl ?_
  obtain ⟨b9, ⟨hb, i9, rfl⟩, d9, hd9, hM9⟩ := hR (XO g a f1 d h) T1 I1 hI1
  refine r_aload_n (pc := 1575) C 3 dL_law_1575 rfl rfl ?_
  refine r_aload_n (pc := 1576) C 1 dL_law_1576 rfl rfl ?_
  refine r_iload (pc := 1577) C 6 dL_law_1577 rfl ?_
  refine r_iconst (pc := 1579) (v := 1) C dL_law_1579 rfl ?_
  refine r_iaddN (pc := 1580) C dL_law_1580 ?_
  refine r_sld (pc := 1581) (x := 6 * n + 1) C hX hbl hbA rfl (by omega) (by omega) dL_law_1581 ?_
  refine r_callV (pc := 1582) C hfl k_L_260 hM9 hI1.2.1.1 ca_X10 rfl rfl (Nat.le_of_ble_eq_true rfl) ⟨by omega, by decide⟩ ⟨by omega, by omega⟩ dL_law_1582 (fun r2 X2 T2 I2 h2 => ?_)
  obtain ⟨rfl, rfl, rfl, hc2, hI2⟩ := h2
  refine r_st (st' := .int i9 :: _) rfl ?_
  refine r_istore (pc := 1585) (lo' := [(7, _), (6, _), (0, _), (1, _), (2, _), (3, _), (4, _), (5, _)]) C dL_law_1585 (by decide) rfl ?_
  refine r_aload_n (pc := 1587) C 4 dL_law_1587 rfl rfl ?_
  refine r_callV (pc := 1588) C hfl k_L_189 (thrown_c hI2.2.1) hI2.2.1.1 ca_X10 rfl rfl (Nat.le_of_ble_eq_true rfl) ⟨by omega, by decide⟩ ⟨by omega, by omega⟩ dL_law_1588 (fun r3 X3 T3 I3 h3 => ?_)
  obtain ⟨rfl, rfl, rfl, rfl⟩ := h3
  refine r_st (st' := .int (I3 M 0) :: _) rfl ?_
  refine r_iload (pc := 1591) C 1 dL_law_1591 rfl ?_
  refine r_ceq (pc := 1593) (tgt := 1598) C dL_law_1593 rfl (fun _ => ?_) (fun c => absurd (hc2 (by decide)) c)
  refine r_iload (pc := 1598) C 1 dL_law_1598 rfl ?_
  have hfin : Go g k 9 Q (600 + 30 * n + 30 + 0 + 0) (6000 + 4200 * n + 4200 + 0 + 0) 1615 [(7, .int i9), (6, .int (nI kx)), (0, .ref b), (1, .ref x), (2, .ref M), (3, .ref a), (4, .ref d), (5, .int (nI (6 * n)))] [] (XO g a f1 d h) T3 I3 := r_goto (pc := 1615) (tgt := 3549) C dL_law_1615 rfl (r_ls (lo' := lo0 b x M a d (6 * n)) [2, 3, 4, 5, 6, 7] rfl (r_wide (by omega) (by omega) (hback f1 h T3 I3 s' hI2)))
  refine r_ifne (pc := 1600) (tgt := 1615) C dL_law_1600 rfl (fun _ => hfin) (fun c0 => ?_)
  have hk0 : kx = 0 := nI_j (by have : kx ≤ 1 := hk; omega) (by decide) c0
  subst hk0
  obtain ⟨i1, rfl, e2⟩ := hv1 rfl
  have e9 : i9 = i1 := by injection (hb rfl)
  subst e9
  refine r_aload_n (pc := 1603) C 5 dL_law_1603 rfl rfl ?_
  refine r_iconst (pc := 1604) (v := 0) C dL_law_1604 rfl ?_
  refine r_jald (pc := 1605) C dL_law_1605 ?_
  refine r_iload (pc := 1606) C 0 dL_law_1606 rfl ?_
  refine r_i2l (pc := 1608) C dL_law_1608 ?_
  refine r_lcmpE (pc := 1609) C dL_law_1609 e2.symm ?_
  exact r_ifeq (pc := 1610) (tgt := 1615) C dL_law_1610 rfl (fun _ => hfin) (fun c => absurd rfl c)

set_option maxHeartbeats 1000000 in
theorem lw_22 (S : LwC g k b L xs) (hn : 6 * n + 6 ≤ L) (hI : Iv x M T I s s n) (hback : Bk g k Q b x M a d n) : Go g k 9 Q (600 + 30 * n) (6000 + 4200 * n) 1618 (lo0 b x M a d (6 * n)) [] (XO g a f d h) T I := by
  obtain ⟨C, hfl, hnc, hX, hbl, hbA, hL⟩ := S
  obtain ⟨kx, v, s', ⟨hk, hv⟩, ⟨d8, cm, cs, e1, e2, e3, hO⟩, hR⟩ := op_loanCount (g := g) (X := XO g a f d h) (T := T) (I := I) hI (by omega) 
  have hk0 : kx = 0 := Nat.le_zero.mp hk
  subst hk0
  obtain ⟨i8, rfl⟩ := hv rfl
  refine r_aload_n (pc := 1618) C 1 dL_law_1618 rfl rfl ?_
  refine r_callV (pc := 1619) C hfl k_L_261 (hO.mc (fun _ _ _ _ z => z.1 rfl)) hI.1.1 ca_X9 rfl rfl (Nat.le_of_ble_eq_true rfl) ⟨by omega, by decide⟩ ⟨by omega, by omega⟩ dL_law_1619 (fun r1 X1 T1 I1 h1 => ?_)
  obtain ⟨-, rfl, rfl, hI1⟩ := h1
  refine r_st (st' := .int i8 :: _) rfl ?_
  obtain ⟨b9, ⟨hb, i9, rfl⟩, d9, hd9, hM9⟩ := hR (XO g a f d h) T1 I1 hI1
  have e9 : i9 = i8 := by injection (hb rfl)
  refine r_aload_n (pc := 1622) C 2 dL_law_1622 rfl rfl ?_
  refine r_callV (pc := 1623) C hfl k_L_264 hM9 hI1.2.1.1 ca_X10 rfl rfl (Nat.le_of_ble_eq_true rfl) ⟨by omega, by decide⟩ ⟨by omega, by omega⟩ dL_law_1623 (fun r2 X2 T2 I2 h2 => ?_)
  obtain ⟨rfl, rfl, rfl, hc2, hI2⟩ := h2
  refine r_st (st' := .int i9 :: _) rfl ?_
  exact r_ceq (pc := 1626) (tgt := 3549) C dL_law_1626 rfl (fun _ => r_wide (by omega) (by omega) (hback f h T2 I2 s' hI2)) (fun c => absurd e9.symm c)

set_option maxHeartbeats 1000000 in
theorem lw_23 (S : LwC g k b L xs) (hn : 6 * n + 6 ≤ L) (hI : Iv x M T I s s n) (hback : Bk g k Q b x M a d n) : Go g k 9 Q (600 + 30 * n) (6000 + 4200 * n) 1631 (lo0 b x M a d (6 * n)) [] (XO g a f d h) T I := by
  obtain ⟨C, hfl, hnc, hX, hbl, hbA, hL⟩ := S
  obtain ⟨kx, v, s', ⟨hk, hv⟩, ⟨d8, cm, cs, e1, e2, e3, hO⟩, hR⟩ := op_exists (g := g) (X := XO g a f d h) (T := T) (I := I) hI (by omega) (xs (6 * n + 1))
  have hk0 : kx = 0 := Nat.le_zero.mp hk
  subst hk0
  obtain ⟨i8, rfl⟩ := hv rfl
  refine r_aload_n (pc := 1631) C 1 dL_law_1631 rfl rfl ?_
  refine r_aload_n (pc := 1632) C 0 dL_law_1632 rfl rfl ?_
  refine r_iload (pc := 1633) C 5 dL_law_1633 rfl ?_
  refine r_iconst (pc := 1635) (v := 1) C dL_law_1635 rfl ?_
  refine r_iaddN (pc := 1636) C dL_law_1636 ?_
  refine r_sld (pc := 1637) (x := 6 * n + 1) C hX hbl hbA rfl (by omega) (by omega) dL_law_1637 ?_
  refine r_callV (pc := 1638) C hfl k_L_265 (hO.mc (fun _ _ _ _ z => z.1 rfl)) hI.1.1 ca_X9 rfl rfl (Nat.le_of_ble_eq_true rfl) ⟨by omega, by decide⟩ ⟨by omega, by omega⟩ dL_law_1638 (fun r1 X1 T1 I1 h1 => ?_)
  obtain ⟨-, rfl, rfl, hI1⟩ := h1
  refine r_st (st' := .int i8 :: _) rfl ?_
  obtain ⟨b9, ⟨hb, i9, rfl⟩, d9, hd9, hM9⟩ := hR (XO g a f d h) T1 I1 hI1
  have e9 : i9 = i8 := by injection (hb rfl)
  refine r_aload_n (pc := 1641) C 2 dL_law_1641 rfl rfl ?_
  refine r_aload_n (pc := 1642) C 0 dL_law_1642 rfl rfl ?_
  refine r_iload (pc := 1643) C 5 dL_law_1643 rfl ?_
  refine r_iconst (pc := 1645) (v := 1) C dL_law_1645 rfl ?_
  refine r_iaddN (pc := 1646) C dL_law_1646 ?_
  refine r_sld (pc := 1647) (x := 6 * n + 1) C hX hbl hbA rfl (by omega) (by omega) dL_law_1647 ?_
  refine r_callV (pc := 1648) C hfl k_L_268 hM9 hI1.2.1.1 ca_X10 rfl rfl (Nat.le_of_ble_eq_true rfl) ⟨by omega, by decide⟩ ⟨by omega, by omega⟩ dL_law_1648 (fun r2 X2 T2 I2 h2 => ?_)
  obtain ⟨rfl, rfl, rfl, hc2, hI2⟩ := h2
  refine r_st (st' := .int i9 :: _) rfl ?_
  exact r_ceq (pc := 1651) (tgt := 3549) C dL_law_1651 rfl (fun _ => r_wide (by omega) (by omega) (hback f h T2 I2 s' hI2)) (fun c => absurd e9.symm c)

set_option maxHeartbeats 1000000 in
theorem lw_24 (S : LwC g k b L xs) (hn : 6 * n + 6 ≤ L) (hI : Iv x M T I s s n) (hback : Bk g k Q b x M a d n) : Go g k 9 Q (600 + 30 * n) (6000 + 4200 * n) 1656 (lo0 b x M a d (6 * n)) [] (XO g a f d h) T I := by
  obtain ⟨C, hfl, hnc, hX, hbl, hbA, hL⟩ := S
  obtain ⟨kx, v, s', ⟨hk, hv⟩, hO, hR⟩ := op_idAt (g := g) (X := XO g a f d h) (T := T) (I := I) hI (by omega) (xs (6 * n + 1))
  refine r_aload_n (pc := 1656) C 1 dL_law_1656 rfl rfl ?_
  refine r_aload_n (pc := 1657) C 0 dL_law_1657 rfl rfl ?_
  refine r_iload (pc := 1658) C 5 dL_law_1658 rfl ?_
  refine r_iconst (pc := 1660) (v := 1) C dL_law_1660 rfl ?_
  refine r_iaddN (pc := 1661) C dL_law_1661 ?_
  refine r_sld (pc := 1662) (x := 6 * n + 1) C hX hbl hbA rfl (by omega) (by omega) dL_law_1662 ?_
  refine r_aload_n (pc := 1663) C 3 dL_law_1663 rfl rfl ?_
  refine r_callW (pc := 1664) C hfl hnc k_L_269 (w_idAt hI.1 hk hv hO) rfl rfl (Nat.le_of_ble_eq_true rfl) (by decide) ⟨by omega, by omega⟩ dL_law_1664 (fun r1 X1 T1 I1 h1 => ?_)
  obtain ⟨rfl, hI1, f1, rfl, hv1⟩ := h1
  refine r_st (st' := .int (nI kx) :: _) rfl ?_
  refine r_istore (pc := 1667) (lo' := [(6, _), (0, _), (1, _), (2, _), (3, _), (4, _), (5, _)]) C dL_law_1667 (by decide) rfl ?_
  obtain ⟨b9, ⟨hb, i9, rfl⟩, d9, hd9, hM9⟩ := hR (XO g a f1 d h) T1 I1 hI1
  refine r_aload_n (pc := 1669) C 3 dL_law_1669 rfl rfl ?_
  refine r_aload_n (pc := 1670) C 1 dL_law_1670 rfl rfl ?_
  refine r_iload (pc := 1671) C 6 dL_law_1671 rfl ?_
  refine r_iconst (pc := 1673) (v := 1) C dL_law_1673 rfl ?_
  refine r_iaddN (pc := 1674) C dL_law_1674 ?_
  refine r_sld (pc := 1675) (x := 6 * n + 1) C hX hbl hbA rfl (by omega) (by omega) dL_law_1675 ?_
  refine r_callV (pc := 1676) C hfl k_L_271 hM9 hI1.2.1.1 ca_X10 rfl rfl (Nat.le_of_ble_eq_true rfl) ⟨by omega, by decide⟩ ⟨by omega, by omega⟩ dL_law_1676 (fun r2 X2 T2 I2 h2 => ?_)
  obtain ⟨rfl, rfl, rfl, hc2, hI2⟩ := h2
  refine r_st (st' := .int i9 :: _) rfl ?_
  refine r_istore (pc := 1679) (lo' := [(7, _), (6, _), (0, _), (1, _), (2, _), (3, _), (4, _), (5, _)]) C dL_law_1679 (by decide) rfl ?_
  refine r_aload_n (pc := 1681) C 4 dL_law_1681 rfl rfl ?_
  refine r_callV (pc := 1682) C hfl k_L_189 (thrown_c hI2.2.1) hI2.2.1.1 ca_X10 rfl rfl (Nat.le_of_ble_eq_true rfl) ⟨by omega, by decide⟩ ⟨by omega, by omega⟩ dL_law_1682 (fun r3 X3 T3 I3 h3 => ?_)
  obtain ⟨rfl, rfl, rfl, rfl⟩ := h3
  refine r_st (st' := .int (I3 M 0) :: _) rfl ?_
  refine r_iload (pc := 1685) C 1 dL_law_1685 rfl ?_
  refine r_ceq (pc := 1687) (tgt := 1692) C dL_law_1687 rfl (fun _ => ?_) (fun c => absurd (hc2 (by decide)) c)
  refine r_iload (pc := 1692) C 1 dL_law_1692 rfl ?_
  have hfin : Go g k 9 Q (600 + 30 * n + 30 + 0 + 0) (6000 + 4200 * n + 4200 + 0 + 0) 1709 [(7, .int i9), (6, .int (nI kx)), (0, .ref b), (1, .ref x), (2, .ref M), (3, .ref a), (4, .ref d), (5, .int (nI (6 * n)))] [] (XO g a f1 d h) T3 I3 := r_goto (pc := 1709) (tgt := 3549) C dL_law_1709 rfl (r_ls (lo' := lo0 b x M a d (6 * n)) [2, 3, 4, 5, 6, 7] rfl (r_wide (by omega) (by omega) (hback f1 h T3 I3 s' hI2)))
  refine r_ifne (pc := 1694) (tgt := 1709) C dL_law_1694 rfl (fun _ => hfin) (fun c0 => ?_)
  have hk0 : kx = 0 := nI_j (by have : kx ≤ 1 := hk; omega) (by decide) c0
  subst hk0
  obtain ⟨i1, rfl, e2⟩ := hv1 rfl
  have e9 : i9 = i1 := by injection (hb rfl)
  subst e9
  refine r_aload_n (pc := 1697) C 5 dL_law_1697 rfl rfl ?_
  refine r_iconst (pc := 1698) (v := 0) C dL_law_1698 rfl ?_
  refine r_jald (pc := 1699) C dL_law_1699 ?_
  refine r_iload (pc := 1700) C 0 dL_law_1700 rfl ?_
  refine r_i2l (pc := 1702) C dL_law_1702 ?_
  refine r_lcmpE (pc := 1703) C dL_law_1703 e2.symm ?_
  exact r_ifeq (pc := 1704) (tgt := 1709) C dL_law_1704 rfl (fun _ => hfin) (fun c => absurd rfl c)

set_option maxHeartbeats 1000000 in
theorem lw_25 (S : LwC g k b L xs) (hn : 6 * n + 6 ≤ L) (hI : Iv x M T I s s n) (hback : Bk g k Q b x M a d n) : Go g k 9 Q (600 + 30 * n) (6000 + 4200 * n) 1712 (lo0 b x M a d (6 * n)) [] (XO g a f d h) T I := by
  obtain ⟨C, hfl, hnc, hX, hbl, hbA, hL⟩ := S
  obtain ⟨kx, v, s', ⟨hk, hv⟩, hO, hR⟩ := op_borrowerOf (g := g) (X := XO g a f d h) (T := T) (I := I) hI (by omega) (xs (6 * n + 1))
  refine r_aload_n (pc := 1712) C 1 dL_law_1712 rfl rfl ?_
  refine r_aload_n (pc := 1713) C 0 dL_law_1713 rfl rfl ?_
  refine r_iload (pc := 1714) C 5 dL_law_1714 rfl ?_
  refine r_iconst (pc := 1716) (v := 1) C dL_law_1716 rfl ?_
  refine r_iaddN (pc := 1717) C dL_law_1717 ?_
  refine r_sld (pc := 1718) (x := 6 * n + 1) C hX hbl hbA rfl (by omega) (by omega) dL_law_1718 ?_
  refine r_aload_n (pc := 1719) C 3 dL_law_1719 rfl rfl ?_
  refine r_callW (pc := 1720) C hfl hnc k_L_272 (w_borrowerOf hI.1 hk hv hO) rfl rfl (Nat.le_of_ble_eq_true rfl) (by decide) ⟨by omega, by omega⟩ dL_law_1720 (fun r1 X1 T1 I1 h1 => ?_)
  obtain ⟨rfl, hI1, f1, rfl, hv1⟩ := h1
  refine r_st (st' := .int (nI kx) :: _) rfl ?_
  refine r_istore (pc := 1723) (lo' := [(6, _), (0, _), (1, _), (2, _), (3, _), (4, _), (5, _)]) C dL_law_1723 (by decide) rfl ?_
  obtain ⟨b9, ⟨hb, i9, rfl⟩, d9, hd9, hM9⟩ := hR (XO g a f1 d h) T1 I1 hI1
  refine r_aload_n (pc := 1725) C 3 dL_law_1725 rfl rfl ?_
  refine r_aload_n (pc := 1726) C 1 dL_law_1726 rfl rfl ?_
  refine r_iload (pc := 1727) C 6 dL_law_1727 rfl ?_
  refine r_iconst (pc := 1729) (v := 1) C dL_law_1729 rfl ?_
  refine r_iaddN (pc := 1730) C dL_law_1730 ?_
  refine r_sld (pc := 1731) (x := 6 * n + 1) C hX hbl hbA rfl (by omega) (by omega) dL_law_1731 ?_
  refine r_callV (pc := 1732) C hfl k_L_274 hM9 hI1.2.1.1 ca_X10 rfl rfl (Nat.le_of_ble_eq_true rfl) ⟨by omega, by decide⟩ ⟨by omega, by omega⟩ dL_law_1732 (fun r2 X2 T2 I2 h2 => ?_)
  obtain ⟨rfl, rfl, rfl, hc2, hI2⟩ := h2
  refine r_st (st' := .int i9 :: _) rfl ?_
  refine r_istore (pc := 1735) (lo' := [(7, _), (6, _), (0, _), (1, _), (2, _), (3, _), (4, _), (5, _)]) C dL_law_1735 (by decide) rfl ?_
  refine r_aload_n (pc := 1737) C 4 dL_law_1737 rfl rfl ?_
  refine r_callV (pc := 1738) C hfl k_L_189 (thrown_c hI2.2.1) hI2.2.1.1 ca_X10 rfl rfl (Nat.le_of_ble_eq_true rfl) ⟨by omega, by decide⟩ ⟨by omega, by omega⟩ dL_law_1738 (fun r3 X3 T3 I3 h3 => ?_)
  obtain ⟨rfl, rfl, rfl, rfl⟩ := h3
  refine r_st (st' := .int (I3 M 0) :: _) rfl ?_
  refine r_iload (pc := 1741) C 1 dL_law_1741 rfl ?_
  refine r_ceq (pc := 1743) (tgt := 1748) C dL_law_1743 rfl (fun _ => ?_) (fun c => absurd (hc2 (by decide)) c)
  refine r_iload (pc := 1748) C 1 dL_law_1748 rfl ?_
  have hfin : Go g k 9 Q (600 + 30 * n + 30 + 0 + 0) (6000 + 4200 * n + 4200 + 0 + 0) 1765 [(7, .int i9), (6, .int (nI kx)), (0, .ref b), (1, .ref x), (2, .ref M), (3, .ref a), (4, .ref d), (5, .int (nI (6 * n)))] [] (XO g a f1 d h) T3 I3 := r_goto (pc := 1765) (tgt := 3549) C dL_law_1765 rfl (r_ls (lo' := lo0 b x M a d (6 * n)) [2, 3, 4, 5, 6, 7] rfl (r_wide (by omega) (by omega) (hback f1 h T3 I3 s' hI2)))
  refine r_ifne (pc := 1750) (tgt := 1765) C dL_law_1750 rfl (fun _ => hfin) (fun c0 => ?_)
  have hk0 : kx = 0 := nI_j (by have : kx ≤ 1 := hk; omega) (by decide) c0
  subst hk0
  obtain ⟨i1, rfl, e2⟩ := hv1 rfl
  have e9 : i9 = i1 := by injection (hb rfl)
  subst e9
  refine r_aload_n (pc := 1753) C 5 dL_law_1753 rfl rfl ?_
  refine r_iconst (pc := 1754) (v := 0) C dL_law_1754 rfl ?_
  refine r_jald (pc := 1755) C dL_law_1755 ?_
  refine r_iload (pc := 1756) C 0 dL_law_1756 rfl ?_
  refine r_i2l (pc := 1758) C dL_law_1758 ?_
  refine r_lcmpE (pc := 1759) C dL_law_1759 e2.symm ?_
  exact r_ifeq (pc := 1760) (tgt := 1765) C dL_law_1760 rfl (fun _ => hfin) (fun c => absurd rfl c)

set_option maxHeartbeats 1000000 in
theorem lw_26 (S : LwC g k b L xs) (hn : 6 * n + 6 ≤ L) (hI : Iv x M T I s s n) (hback : Bk g k Q b x M a d n) : Go g k 9 Q (600 + 30 * n) (6000 + 4200 * n) 1768 (lo0 b x M a d (6 * n)) [] (XO g a f d h) T I := by
  obtain ⟨C, hfl, hnc, hX, hbl, hbA, hL⟩ := S
  obtain ⟨kx, v, s', ⟨hk, hv⟩, hO, hR⟩ := op_principal (g := g) (X := XO g a f d h) (T := T) (I := I) hI (by omega) (xs (6 * n + 1))
  refine r_aload_n (pc := 1768) C 1 dL_law_1768 rfl rfl ?_
  refine r_aload_n (pc := 1769) C 0 dL_law_1769 rfl rfl ?_
  refine r_iload (pc := 1770) C 5 dL_law_1770 rfl ?_
  refine r_iconst (pc := 1772) (v := 1) C dL_law_1772 rfl ?_
  refine r_iaddN (pc := 1773) C dL_law_1773 ?_
  refine r_sld (pc := 1774) (x := 6 * n + 1) C hX hbl hbA rfl (by omega) (by omega) dL_law_1774 ?_
  refine r_aload_n (pc := 1775) C 3 dL_law_1775 rfl rfl ?_
  refine r_callW (pc := 1776) C hfl hnc k_L_275 (w_principal hI.1 hk hv hO) rfl rfl (Nat.le_of_ble_eq_true rfl) (by decide) ⟨by omega, by omega⟩ dL_law_1776 (fun r1 X1 T1 I1 h1 => ?_)
  obtain ⟨rfl, hI1, f1, rfl, hv1⟩ := h1
  refine r_st (st' := .int (nI kx) :: _) rfl ?_
  refine r_istore (pc := 1779) (lo' := [(6, _), (0, _), (1, _), (2, _), (3, _), (4, _), (5, _)]) C dL_law_1779 (by decide) rfl ?_
  obtain ⟨b9, ⟨hb, i9, rfl⟩, d9, hd9, hM9⟩ := hR (XO g a f1 d h) T1 I1 hI1
  refine r_aload_n (pc := 1781) C 3 dL_law_1781 rfl rfl ?_
  refine r_aload_n (pc := 1782) C 1 dL_law_1782 rfl rfl ?_
  refine r_iload (pc := 1783) C 6 dL_law_1783 rfl ?_
  refine r_iconst (pc := 1785) (v := 1) C dL_law_1785 rfl ?_
  refine r_iaddN (pc := 1786) C dL_law_1786 ?_
  refine r_sld (pc := 1787) (x := 6 * n + 1) C hX hbl hbA rfl (by omega) (by omega) dL_law_1787 ?_
  refine r_callV (pc := 1788) C hfl k_L_277 hM9 hI1.2.1.1 ca_X10 rfl rfl (Nat.le_of_ble_eq_true rfl) ⟨by omega, by decide⟩ ⟨by omega, by omega⟩ dL_law_1788 (fun r2 X2 T2 I2 h2 => ?_)
  obtain ⟨rfl, rfl, rfl, hc2, hI2⟩ := h2
  refine r_st (st' := .int i9 :: _) rfl ?_
  refine r_istore (pc := 1791) (lo' := [(7, _), (6, _), (0, _), (1, _), (2, _), (3, _), (4, _), (5, _)]) C dL_law_1791 (by decide) rfl ?_
  refine r_aload_n (pc := 1793) C 4 dL_law_1793 rfl rfl ?_
  refine r_callV (pc := 1794) C hfl k_L_189 (thrown_c hI2.2.1) hI2.2.1.1 ca_X10 rfl rfl (Nat.le_of_ble_eq_true rfl) ⟨by omega, by decide⟩ ⟨by omega, by omega⟩ dL_law_1794 (fun r3 X3 T3 I3 h3 => ?_)
  obtain ⟨rfl, rfl, rfl, rfl⟩ := h3
  refine r_st (st' := .int (I3 M 0) :: _) rfl ?_
  refine r_iload (pc := 1797) C 1 dL_law_1797 rfl ?_
  refine r_ceq (pc := 1799) (tgt := 1804) C dL_law_1799 rfl (fun _ => ?_) (fun c => absurd (hc2 (by decide)) c)
  refine r_iload (pc := 1804) C 1 dL_law_1804 rfl ?_
  have hfin : Go g k 9 Q (600 + 30 * n + 30 + 0 + 0) (6000 + 4200 * n + 4200 + 0 + 0) 1821 [(7, .int i9), (6, .int (nI kx)), (0, .ref b), (1, .ref x), (2, .ref M), (3, .ref a), (4, .ref d), (5, .int (nI (6 * n)))] [] (XO g a f1 d h) T3 I3 := r_goto (pc := 1821) (tgt := 3549) C dL_law_1821 rfl (r_ls (lo' := lo0 b x M a d (6 * n)) [2, 3, 4, 5, 6, 7] rfl (r_wide (by omega) (by omega) (hback f1 h T3 I3 s' hI2)))
  refine r_ifne (pc := 1806) (tgt := 1821) C dL_law_1806 rfl (fun _ => hfin) (fun c0 => ?_)
  have hk0 : kx = 0 := nI_j (by have : kx ≤ 1 := hk; omega) (by decide) c0
  subst hk0
  obtain ⟨i1, rfl, e2⟩ := hv1 rfl
  have e9 : i9 = i1 := by injection (hb rfl)
  subst e9
  refine r_aload_n (pc := 1809) C 5 dL_law_1809 rfl rfl ?_
  refine r_iconst (pc := 1810) (v := 0) C dL_law_1810 rfl ?_
  refine r_jald (pc := 1811) C dL_law_1811 ?_
  refine r_iload (pc := 1812) C 0 dL_law_1812 rfl ?_
  refine r_i2l (pc := 1814) C dL_law_1814 ?_
  refine r_lcmpE (pc := 1815) C dL_law_1815 e2.symm ?_
  exact r_ifeq (pc := 1816) (tgt := 1821) C dL_law_1816 rfl (fun _ => hfin) (fun c => absurd rfl c)

set_option maxHeartbeats 1000000 in
theorem lw_27 (S : LwC g k b L xs) (hn : 6 * n + 6 ≤ L) (hI : Iv x M T I s s n) (hback : Bk g k Q b x M a d n) : Go g k 9 Q (600 + 30 * n) (6000 + 4200 * n) 1824 (lo0 b x M a d (6 * n)) [] (XO g a f d h) T I := by
  obtain ⟨C, hfl, hnc, hX, hbl, hbA, hL⟩ := S
  obtain ⟨kx, v, s', ⟨hk, hv⟩, hO, hR⟩ := op_interest (g := g) (X := XO g a f d h) (T := T) (I := I) hI (by omega) (xs (6 * n + 1))
  refine r_aload_n (pc := 1824) C 1 dL_law_1824 rfl rfl ?_
  refine r_aload_n (pc := 1825) C 0 dL_law_1825 rfl rfl ?_
  refine r_iload (pc := 1826) C 5 dL_law_1826 rfl ?_
  refine r_iconst (pc := 1828) (v := 1) C dL_law_1828 rfl ?_
  refine r_iaddN (pc := 1829) C dL_law_1829 ?_
  refine r_sld (pc := 1830) (x := 6 * n + 1) C hX hbl hbA rfl (by omega) (by omega) dL_law_1830 ?_
  refine r_aload_n (pc := 1831) C 3 dL_law_1831 rfl rfl ?_
  refine r_callW (pc := 1832) C hfl hnc k_L_278 (w_interest hI.1 hk hv hO) rfl rfl (Nat.le_of_ble_eq_true rfl) (by decide) ⟨by omega, by omega⟩ dL_law_1832 (fun r1 X1 T1 I1 h1 => ?_)
  obtain ⟨rfl, hI1, f1, rfl, hv1⟩ := h1
  refine r_st (st' := .int (nI kx) :: _) rfl ?_
  refine r_istore (pc := 1835) (lo' := [(6, _), (0, _), (1, _), (2, _), (3, _), (4, _), (5, _)]) C dL_law_1835 (by decide) rfl ?_
  obtain ⟨b9, ⟨hb, i9, rfl⟩, d9, hd9, hM9⟩ := hR (XO g a f1 d h) T1 I1 hI1
  refine r_aload_n (pc := 1837) C 3 dL_law_1837 rfl rfl ?_
  refine r_aload_n (pc := 1838) C 1 dL_law_1838 rfl rfl ?_
  refine r_iload (pc := 1839) C 6 dL_law_1839 rfl ?_
  refine r_iconst (pc := 1841) (v := 1) C dL_law_1841 rfl ?_
  refine r_iaddN (pc := 1842) C dL_law_1842 ?_
  refine r_sld (pc := 1843) (x := 6 * n + 1) C hX hbl hbA rfl (by omega) (by omega) dL_law_1843 ?_
  refine r_callV (pc := 1844) C hfl k_L_280 hM9 hI1.2.1.1 ca_X10 rfl rfl (Nat.le_of_ble_eq_true rfl) ⟨by omega, by decide⟩ ⟨by omega, by omega⟩ dL_law_1844 (fun r2 X2 T2 I2 h2 => ?_)
  obtain ⟨rfl, rfl, rfl, hc2, hI2⟩ := h2
  refine r_st (st' := .int i9 :: _) rfl ?_
  refine r_istore (pc := 1847) (lo' := [(7, _), (6, _), (0, _), (1, _), (2, _), (3, _), (4, _), (5, _)]) C dL_law_1847 (by decide) rfl ?_
  refine r_aload_n (pc := 1849) C 4 dL_law_1849 rfl rfl ?_
  refine r_callV (pc := 1850) C hfl k_L_189 (thrown_c hI2.2.1) hI2.2.1.1 ca_X10 rfl rfl (Nat.le_of_ble_eq_true rfl) ⟨by omega, by decide⟩ ⟨by omega, by omega⟩ dL_law_1850 (fun r3 X3 T3 I3 h3 => ?_)
  obtain ⟨rfl, rfl, rfl, rfl⟩ := h3
  refine r_st (st' := .int (I3 M 0) :: _) rfl ?_
  refine r_iload (pc := 1853) C 1 dL_law_1853 rfl ?_
  refine r_ceq (pc := 1855) (tgt := 1860) C dL_law_1855 rfl (fun _ => ?_) (fun c => absurd (hc2 (by decide)) c)
  refine r_iload (pc := 1860) C 1 dL_law_1860 rfl ?_
  have hfin : Go g k 9 Q (600 + 30 * n + 30 + 0 + 0) (6000 + 4200 * n + 4200 + 0 + 0) 1877 [(7, .int i9), (6, .int (nI kx)), (0, .ref b), (1, .ref x), (2, .ref M), (3, .ref a), (4, .ref d), (5, .int (nI (6 * n)))] [] (XO g a f1 d h) T3 I3 := r_goto (pc := 1877) (tgt := 3549) C dL_law_1877 rfl (r_ls (lo' := lo0 b x M a d (6 * n)) [2, 3, 4, 5, 6, 7] rfl (r_wide (by omega) (by omega) (hback f1 h T3 I3 s' hI2)))
  refine r_ifne (pc := 1862) (tgt := 1877) C dL_law_1862 rfl (fun _ => hfin) (fun c0 => ?_)
  have hk0 : kx = 0 := nI_j (by have : kx ≤ 1 := hk; omega) (by decide) c0
  subst hk0
  obtain ⟨i1, rfl, e2⟩ := hv1 rfl
  have e9 : i9 = i1 := by injection (hb rfl)
  subst e9
  refine r_aload_n (pc := 1865) C 5 dL_law_1865 rfl rfl ?_
  refine r_iconst (pc := 1866) (v := 0) C dL_law_1866 rfl ?_
  refine r_jald (pc := 1867) C dL_law_1867 ?_
  refine r_iload (pc := 1868) C 0 dL_law_1868 rfl ?_
  refine r_i2l (pc := 1870) C dL_law_1870 ?_
  refine r_lcmpE (pc := 1871) C dL_law_1871 e2.symm ?_
  exact r_ifeq (pc := 1872) (tgt := 1877) C dL_law_1872 rfl (fun _ => hfin) (fun c => absurd rfl c)

set_option maxHeartbeats 1000000 in
theorem lw_28 (S : LwC g k b L xs) (hn : 6 * n + 6 ≤ L) (hI : Iv x M T I s s n) (hback : Bk g k Q b x M a d n) : Go g k 9 Q (600 + 30 * n) (6000 + 4200 * n) 1880 (lo0 b x M a d (6 * n)) [] (XO g a f d h) T I := by
  obtain ⟨C, hfl, hnc, hX, hbl, hbA, hL⟩ := S
  obtain ⟨kx, v, s', ⟨hk, hv⟩, hO, hR⟩ := op_debt (g := g) (X := XO g a f d h) (T := T) (I := I) hI (by omega) (xs (6 * n + 1))
  refine r_aload_n (pc := 1880) C 1 dL_law_1880 rfl rfl ?_
  refine r_aload_n (pc := 1881) C 0 dL_law_1881 rfl rfl ?_
  refine r_iload (pc := 1882) C 5 dL_law_1882 rfl ?_
  refine r_iconst (pc := 1884) (v := 1) C dL_law_1884 rfl ?_
  refine r_iaddN (pc := 1885) C dL_law_1885 ?_
  refine r_sld (pc := 1886) (x := 6 * n + 1) C hX hbl hbA rfl (by omega) (by omega) dL_law_1886 ?_
  refine r_aload_n (pc := 1887) C 3 dL_law_1887 rfl rfl ?_
  refine r_callW (pc := 1888) C hfl hnc k_L_281 (w_debt hI.1 hk hv hO) rfl rfl (Nat.le_of_ble_eq_true rfl) (by decide) ⟨by omega, by omega⟩ dL_law_1888 (fun r1 X1 T1 I1 h1 => ?_)
  obtain ⟨rfl, hI1, f1, rfl, hv1⟩ := h1
  refine r_st (st' := .int (nI kx) :: _) rfl ?_
  refine r_istore (pc := 1891) (lo' := [(6, _), (0, _), (1, _), (2, _), (3, _), (4, _), (5, _)]) C dL_law_1891 (by decide) rfl ?_
  obtain ⟨b9, ⟨hb, i9, rfl⟩, d9, hd9, hM9⟩ := hR (XO g a f1 d h) T1 I1 hI1
  refine r_aload_n (pc := 1893) C 3 dL_law_1893 rfl rfl ?_
  refine r_aload_n (pc := 1894) C 1 dL_law_1894 rfl rfl ?_
  refine r_iload (pc := 1895) C 6 dL_law_1895 rfl ?_
  refine r_iconst (pc := 1897) (v := 1) C dL_law_1897 rfl ?_
  refine r_iaddN (pc := 1898) C dL_law_1898 ?_
  refine r_sld (pc := 1899) (x := 6 * n + 1) C hX hbl hbA rfl (by omega) (by omega) dL_law_1899 ?_
  refine r_callV (pc := 1900) C hfl k_L_283 hM9 hI1.2.1.1 ca_X10 rfl rfl (Nat.le_of_ble_eq_true rfl) ⟨by omega, by decide⟩ ⟨by omega, by omega⟩ dL_law_1900 (fun r2 X2 T2 I2 h2 => ?_)
  obtain ⟨rfl, rfl, rfl, hc2, hI2⟩ := h2
  refine r_st (st' := .int i9 :: _) rfl ?_
  refine r_istore (pc := 1903) (lo' := [(7, _), (6, _), (0, _), (1, _), (2, _), (3, _), (4, _), (5, _)]) C dL_law_1903 (by decide) rfl ?_
  refine r_aload_n (pc := 1905) C 4 dL_law_1905 rfl rfl ?_
  refine r_callV (pc := 1906) C hfl k_L_189 (thrown_c hI2.2.1) hI2.2.1.1 ca_X10 rfl rfl (Nat.le_of_ble_eq_true rfl) ⟨by omega, by decide⟩ ⟨by omega, by omega⟩ dL_law_1906 (fun r3 X3 T3 I3 h3 => ?_)
  obtain ⟨rfl, rfl, rfl, rfl⟩ := h3
  refine r_st (st' := .int (I3 M 0) :: _) rfl ?_
  refine r_iload (pc := 1909) C 1 dL_law_1909 rfl ?_
  refine r_ceq (pc := 1911) (tgt := 1916) C dL_law_1911 rfl (fun _ => ?_) (fun c => absurd (hc2 (by decide)) c)
  refine r_iload (pc := 1916) C 1 dL_law_1916 rfl ?_
  have hfin : Go g k 9 Q (600 + 30 * n + 30 + 0 + 0) (6000 + 4200 * n + 4200 + 0 + 0) 1933 [(7, .int i9), (6, .int (nI kx)), (0, .ref b), (1, .ref x), (2, .ref M), (3, .ref a), (4, .ref d), (5, .int (nI (6 * n)))] [] (XO g a f1 d h) T3 I3 := r_goto (pc := 1933) (tgt := 3549) C dL_law_1933 rfl (r_ls (lo' := lo0 b x M a d (6 * n)) [2, 3, 4, 5, 6, 7] rfl (r_wide (by omega) (by omega) (hback f1 h T3 I3 s' hI2)))
  refine r_ifne (pc := 1918) (tgt := 1933) C dL_law_1918 rfl (fun _ => hfin) (fun c0 => ?_)
  have hk0 : kx = 0 := nI_j (by have : kx ≤ 1 := hk; omega) (by decide) c0
  subst hk0
  obtain ⟨i1, rfl, e2⟩ := hv1 rfl
  have e9 : i9 = i1 := by injection (hb rfl)
  subst e9
  refine r_aload_n (pc := 1921) C 5 dL_law_1921 rfl rfl ?_
  refine r_iconst (pc := 1922) (v := 0) C dL_law_1922 rfl ?_
  refine r_jald (pc := 1923) C dL_law_1923 ?_
  refine r_iload (pc := 1924) C 0 dL_law_1924 rfl ?_
  refine r_i2l (pc := 1926) C dL_law_1926 ?_
  refine r_lcmpE (pc := 1927) C dL_law_1927 e2.symm ?_
  exact r_ifeq (pc := 1928) (tgt := 1933) C dL_law_1928 rfl (fun _ => hfin) (fun c => absurd rfl c)

set_option maxHeartbeats 1000000 in
theorem lw_29 (S : LwC g k b L xs) (hn : 6 * n + 6 ≤ L) (hI : Iv x M T I s s n) (hback : Bk g k Q b x M a d n) : Go g k 9 Q (600 + 30 * n) (6000 + 4200 * n) 1936 (lo0 b x M a d (6 * n)) [] (XO g a f d h) T I := by
  obtain ⟨C, hfl, hnc, hX, hbl, hbA, hL⟩ := S
  obtain ⟨kx, v, s', ⟨hk, hv⟩, hO, hR⟩ := op_rate (g := g) (X := XO g a f d h) (T := T) (I := I) hI (by omega) (xs (6 * n + 1))
  refine r_aload_n (pc := 1936) C 1 dL_law_1936 rfl rfl ?_
  refine r_aload_n (pc := 1937) C 0 dL_law_1937 rfl rfl ?_
  refine r_iload (pc := 1938) C 5 dL_law_1938 rfl ?_
  refine r_iconst (pc := 1940) (v := 1) C dL_law_1940 rfl ?_
  refine r_iaddN (pc := 1941) C dL_law_1941 ?_
  refine r_sld (pc := 1942) (x := 6 * n + 1) C hX hbl hbA rfl (by omega) (by omega) dL_law_1942 ?_
  refine r_aload_n (pc := 1943) C 3 dL_law_1943 rfl rfl ?_
  refine r_callW (pc := 1944) C hfl hnc k_L_284 (w_rate hI.1 hk hv hO) rfl rfl (Nat.le_of_ble_eq_true rfl) (by decide) ⟨by omega, by omega⟩ dL_law_1944 (fun r1 X1 T1 I1 h1 => ?_)
  obtain ⟨rfl, hI1, f1, rfl, hv1⟩ := h1
  refine r_st (st' := .int (nI kx) :: _) rfl ?_
  refine r_istore (pc := 1947) (lo' := [(6, _), (0, _), (1, _), (2, _), (3, _), (4, _), (5, _)]) C dL_law_1947 (by decide) rfl ?_
  obtain ⟨b9, ⟨hb, i9, rfl⟩, d9, hd9, hM9⟩ := hR (XO g a f1 d h) T1 I1 hI1
  refine r_aload_n (pc := 1949) C 3 dL_law_1949 rfl rfl ?_
  refine r_aload_n (pc := 1950) C 1 dL_law_1950 rfl rfl ?_
  refine r_iload (pc := 1951) C 6 dL_law_1951 rfl ?_
  refine r_iconst (pc := 1953) (v := 1) C dL_law_1953 rfl ?_
  refine r_iaddN (pc := 1954) C dL_law_1954 ?_
  refine r_sld (pc := 1955) (x := 6 * n + 1) C hX hbl hbA rfl (by omega) (by omega) dL_law_1955 ?_
  refine r_callV (pc := 1956) C hfl k_L_286 hM9 hI1.2.1.1 ca_X10 rfl rfl (Nat.le_of_ble_eq_true rfl) ⟨by omega, by decide⟩ ⟨by omega, by omega⟩ dL_law_1956 (fun r2 X2 T2 I2 h2 => ?_)
  obtain ⟨rfl, rfl, rfl, hc2, hI2⟩ := h2
  refine r_st (st' := .int i9 :: _) rfl ?_
  refine r_istore (pc := 1959) (lo' := [(7, _), (6, _), (0, _), (1, _), (2, _), (3, _), (4, _), (5, _)]) C dL_law_1959 (by decide) rfl ?_
  refine r_aload_n (pc := 1961) C 4 dL_law_1961 rfl rfl ?_
  refine r_callV (pc := 1962) C hfl k_L_189 (thrown_c hI2.2.1) hI2.2.1.1 ca_X10 rfl rfl (Nat.le_of_ble_eq_true rfl) ⟨by omega, by decide⟩ ⟨by omega, by omega⟩ dL_law_1962 (fun r3 X3 T3 I3 h3 => ?_)
  obtain ⟨rfl, rfl, rfl, rfl⟩ := h3
  refine r_st (st' := .int (I3 M 0) :: _) rfl ?_
  refine r_iload (pc := 1965) C 1 dL_law_1965 rfl ?_
  refine r_ceq (pc := 1967) (tgt := 1972) C dL_law_1967 rfl (fun _ => ?_) (fun c => absurd (hc2 (by decide)) c)
  refine r_iload (pc := 1972) C 1 dL_law_1972 rfl ?_
  have hfin : Go g k 9 Q (600 + 30 * n + 30 + 0 + 0) (6000 + 4200 * n + 4200 + 0 + 0) 1989 [(7, .int i9), (6, .int (nI kx)), (0, .ref b), (1, .ref x), (2, .ref M), (3, .ref a), (4, .ref d), (5, .int (nI (6 * n)))] [] (XO g a f1 d h) T3 I3 := r_goto (pc := 1989) (tgt := 3549) C dL_law_1989 rfl (r_ls (lo' := lo0 b x M a d (6 * n)) [2, 3, 4, 5, 6, 7] rfl (r_wide (by omega) (by omega) (hback f1 h T3 I3 s' hI2)))
  refine r_ifne (pc := 1974) (tgt := 1989) C dL_law_1974 rfl (fun _ => hfin) (fun c0 => ?_)
  have hk0 : kx = 0 := nI_j (by have : kx ≤ 1 := hk; omega) (by decide) c0
  subst hk0
  obtain ⟨i1, rfl, e2⟩ := hv1 rfl
  have e9 : i9 = i1 := by injection (hb rfl)
  subst e9
  refine r_aload_n (pc := 1977) C 5 dL_law_1977 rfl rfl ?_
  refine r_iconst (pc := 1978) (v := 0) C dL_law_1978 rfl ?_
  refine r_jald (pc := 1979) C dL_law_1979 ?_
  refine r_iload (pc := 1980) C 0 dL_law_1980 rfl ?_
  refine r_i2l (pc := 1982) C dL_law_1982 ?_
  refine r_lcmpE (pc := 1983) C dL_law_1983 e2.symm ?_
  exact r_ifeq (pc := 1984) (tgt := 1989) C dL_law_1984 rfl (fun _ => hfin) (fun c => absurd rfl c)

set_option maxHeartbeats 1000000 in
theorem lw_30 (S : LwC g k b L xs) (hn : 6 * n + 6 ≤ L) (hI : Iv x M T I s s n) (hback : Bk g k Q b x M a d n) : Go g k 9 Q (600 + 30 * n) (6000 + 4200 * n) 1992 (lo0 b x M a d (6 * n)) [] (XO g a f d h) T I := by
  obtain ⟨C, hfl, hnc, hX, hbl, hbA, hL⟩ := S
  obtain ⟨kx, v, s', ⟨hk, hv⟩, hO, hR⟩ := op_dueDay (g := g) (X := XO g a f d h) (T := T) (I := I) hI (by omega) (xs (6 * n + 1))
  refine r_aload_n (pc := 1992) C 1 dL_law_1992 rfl rfl ?_
  refine r_aload_n (pc := 1993) C 0 dL_law_1993 rfl rfl ?_
  refine r_iload (pc := 1994) C 5 dL_law_1994 rfl ?_
  refine r_iconst (pc := 1996) (v := 1) C dL_law_1996 rfl ?_
  refine r_iaddN (pc := 1997) C dL_law_1997 ?_
  refine r_sld (pc := 1998) (x := 6 * n + 1) C hX hbl hbA rfl (by omega) (by omega) dL_law_1998 ?_
  refine r_aload_n (pc := 1999) C 3 dL_law_1999 rfl rfl ?_
  refine r_callW (pc := 2000) C hfl hnc k_L_287 (w_dueDay hI.1 hk hv hO) rfl rfl (Nat.le_of_ble_eq_true rfl) (by decide) ⟨by omega, by omega⟩ dL_law_2000 (fun r1 X1 T1 I1 h1 => ?_)
  obtain ⟨rfl, hI1, f1, rfl, hv1⟩ := h1
  refine r_st (st' := .int (nI kx) :: _) rfl ?_
  refine r_istore (pc := 2003) (lo' := [(6, _), (0, _), (1, _), (2, _), (3, _), (4, _), (5, _)]) C dL_law_2003 (by decide) rfl ?_
  obtain ⟨b9, ⟨hb, i9, rfl⟩, d9, hd9, hM9⟩ := hR (XO g a f1 d h) T1 I1 hI1
  refine r_aload_n (pc := 2005) C 3 dL_law_2005 rfl rfl ?_
  refine r_aload_n (pc := 2006) C 1 dL_law_2006 rfl rfl ?_
  refine r_iload (pc := 2007) C 6 dL_law_2007 rfl ?_
  refine r_iconst (pc := 2009) (v := 1) C dL_law_2009 rfl ?_
  refine r_iaddN (pc := 2010) C dL_law_2010 ?_
  refine r_sld (pc := 2011) (x := 6 * n + 1) C hX hbl hbA rfl (by omega) (by omega) dL_law_2011 ?_
  refine r_callV (pc := 2012) C hfl k_L_289 hM9 hI1.2.1.1 ca_X10 rfl rfl (Nat.le_of_ble_eq_true rfl) ⟨by omega, by decide⟩ ⟨by omega, by omega⟩ dL_law_2012 (fun r2 X2 T2 I2 h2 => ?_)
  obtain ⟨rfl, rfl, rfl, hc2, hI2⟩ := h2
  refine r_st (st' := .int i9 :: _) rfl ?_
  refine r_istore (pc := 2015) (lo' := [(7, _), (6, _), (0, _), (1, _), (2, _), (3, _), (4, _), (5, _)]) C dL_law_2015 (by decide) rfl ?_
  refine r_aload_n (pc := 2017) C 4 dL_law_2017 rfl rfl ?_
  refine r_callV (pc := 2018) C hfl k_L_189 (thrown_c hI2.2.1) hI2.2.1.1 ca_X10 rfl rfl (Nat.le_of_ble_eq_true rfl) ⟨by omega, by decide⟩ ⟨by omega, by omega⟩ dL_law_2018 (fun r3 X3 T3 I3 h3 => ?_)
  obtain ⟨rfl, rfl, rfl, rfl⟩ := h3
  refine r_st (st' := .int (I3 M 0) :: _) rfl ?_
  refine r_iload (pc := 2021) C 1 dL_law_2021 rfl ?_
  refine r_ceq (pc := 2023) (tgt := 2028) C dL_law_2023 rfl (fun _ => ?_) (fun c => absurd (hc2 (by decide)) c)
  refine r_iload (pc := 2028) C 1 dL_law_2028 rfl ?_
  have hfin : Go g k 9 Q (600 + 30 * n + 30 + 0 + 0) (6000 + 4200 * n + 4200 + 0 + 0) 2045 [(7, .int i9), (6, .int (nI kx)), (0, .ref b), (1, .ref x), (2, .ref M), (3, .ref a), (4, .ref d), (5, .int (nI (6 * n)))] [] (XO g a f1 d h) T3 I3 := r_goto (pc := 2045) (tgt := 3549) C dL_law_2045 rfl (r_ls (lo' := lo0 b x M a d (6 * n)) [2, 3, 4, 5, 6, 7] rfl (r_wide (by omega) (by omega) (hback f1 h T3 I3 s' hI2)))
  refine r_ifne (pc := 2030) (tgt := 2045) C dL_law_2030 rfl (fun _ => hfin) (fun c0 => ?_)
  have hk0 : kx = 0 := nI_j (by have : kx ≤ 1 := hk; omega) (by decide) c0
  subst hk0
  obtain ⟨i1, rfl, e2⟩ := hv1 rfl
  have e9 : i9 = i1 := by injection (hb rfl)
  subst e9
  refine r_aload_n (pc := 2033) C 5 dL_law_2033 rfl rfl ?_
  refine r_iconst (pc := 2034) (v := 0) C dL_law_2034 rfl ?_
  refine r_jald (pc := 2035) C dL_law_2035 ?_
  refine r_iload (pc := 2036) C 0 dL_law_2036 rfl ?_
  refine r_i2l (pc := 2038) C dL_law_2038 ?_
  refine r_lcmpE (pc := 2039) C dL_law_2039 e2.symm ?_
  exact r_ifeq (pc := 2040) (tgt := 2045) C dL_law_2040 rfl (fun _ => hfin) (fun c => absurd rfl c)

set_option maxHeartbeats 1000000 in
theorem lw_31 (S : LwC g k b L xs) (hn : 6 * n + 6 ≤ L) (hI : Iv x M T I s s n) (hback : Bk g k Q b x M a d n) : Go g k 9 Q (600 + 30 * n) (6000 + 4200 * n) 2048 (lo0 b x M a d (6 * n)) [] (XO g a f d h) T I := by
  obtain ⟨C, hfl, hnc, hX, hbl, hbA, hL⟩ := S
  obtain ⟨kx, v, s', ⟨hk, hv⟩, hO, hR⟩ := op_collateral (g := g) (X := XO g a f d h) (T := T) (I := I) hI (by omega) (xs (6 * n + 1)) (xs (6 * n + 2))
  refine r_aload_n (pc := 2048) C 1 dL_law_2048 rfl rfl ?_
  refine r_aload_n (pc := 2049) C 0 dL_law_2049 rfl rfl ?_
  refine r_iload (pc := 2050) C 5 dL_law_2050 rfl ?_
  refine r_iconst (pc := 2052) (v := 1) C dL_law_2052 rfl ?_
  refine r_iaddN (pc := 2053) C dL_law_2053 ?_
  refine r_sld (pc := 2054) (x := 6 * n + 1) C hX hbl hbA rfl (by omega) (by omega) dL_law_2054 ?_
  refine r_aload_n (pc := 2055) C 0 dL_law_2055 rfl rfl ?_
  refine r_iload (pc := 2056) C 5 dL_law_2056 rfl ?_
  refine r_iconst (pc := 2058) (v := 2) C dL_law_2058 rfl ?_
  refine r_iaddN (pc := 2059) C dL_law_2059 ?_
  refine r_sld (pc := 2060) (x := 6 * n + 2) C hX hbl hbA rfl (by omega) (by omega) dL_law_2060 ?_
  refine r_aload_n (pc := 2061) C 3 dL_law_2061 rfl rfl ?_
  refine r_callW (pc := 2062) C hfl hnc k_L_290 (w_collateral hI.1 hk hv hO) rfl rfl (Nat.le_of_ble_eq_true rfl) (by decide) ⟨by omega, by omega⟩ dL_law_2062 (fun r1 X1 T1 I1 h1 => ?_)
  obtain ⟨rfl, hI1, f1, rfl, hv1⟩ := h1
  refine r_st (st' := .int (nI kx) :: _) rfl ?_
  refine r_istore (pc := 2065) (lo' := [(6, _), (0, _), (1, _), (2, _), (3, _), (4, _), (5, _)]) C dL_law_2065 (by decide) rfl ?_
  obtain ⟨b9, ⟨hb, i9, rfl⟩, d9, hd9, hM9⟩ := hR (XO g a f1 d h) T1 I1 hI1
  refine r_aload_n (pc := 2067) C 3 dL_law_2067 rfl rfl ?_
  refine r_aload_n (pc := 2068) C 1 dL_law_2068 rfl rfl ?_
  refine r_iload (pc := 2069) C 6 dL_law_2069 rfl ?_
  refine r_iconst (pc := 2071) (v := 1) C dL_law_2071 rfl ?_
  refine r_iaddN (pc := 2072) C dL_law_2072 ?_
  refine r_sld (pc := 2073) (x := 6 * n + 1) C hX hbl hbA rfl (by omega) (by omega) dL_law_2073 ?_
  refine r_aload_n (pc := 2074) C 1 dL_law_2074 rfl rfl ?_
  refine r_iload (pc := 2075) C 6 dL_law_2075 rfl ?_
  refine r_iconst (pc := 2077) (v := 2) C dL_law_2077 rfl ?_
  refine r_iaddN (pc := 2078) C dL_law_2078 ?_
  refine r_sld (pc := 2079) (x := 6 * n + 2) C hX hbl hbA rfl (by omega) (by omega) dL_law_2079 ?_
  refine r_callV (pc := 2080) C hfl k_L_292 hM9 hI1.2.1.1 ca_X10 rfl rfl (Nat.le_of_ble_eq_true rfl) ⟨by omega, by decide⟩ ⟨by omega, by omega⟩ dL_law_2080 (fun r2 X2 T2 I2 h2 => ?_)
  obtain ⟨rfl, rfl, rfl, hc2, hI2⟩ := h2
  refine r_st (st' := .int i9 :: _) rfl ?_
  refine r_istore (pc := 2083) (lo' := [(7, _), (6, _), (0, _), (1, _), (2, _), (3, _), (4, _), (5, _)]) C dL_law_2083 (by decide) rfl ?_
  refine r_aload_n (pc := 2085) C 4 dL_law_2085 rfl rfl ?_
  refine r_callV (pc := 2086) C hfl k_L_189 (thrown_c hI2.2.1) hI2.2.1.1 ca_X10 rfl rfl (Nat.le_of_ble_eq_true rfl) ⟨by omega, by decide⟩ ⟨by omega, by omega⟩ dL_law_2086 (fun r3 X3 T3 I3 h3 => ?_)
  obtain ⟨rfl, rfl, rfl, rfl⟩ := h3
  refine r_st (st' := .int (I3 M 0) :: _) rfl ?_
  refine r_iload (pc := 2089) C 1 dL_law_2089 rfl ?_
  refine r_ceq (pc := 2091) (tgt := 2096) C dL_law_2091 rfl (fun _ => ?_) (fun c => absurd (hc2 (by decide)) c)
  refine r_iload (pc := 2096) C 1 dL_law_2096 rfl ?_
  have hfin : Go g k 9 Q (600 + 30 * n + 30 + 0 + 0) (6000 + 4200 * n + 4200 + 0 + 0) 2113 [(7, .int i9), (6, .int (nI kx)), (0, .ref b), (1, .ref x), (2, .ref M), (3, .ref a), (4, .ref d), (5, .int (nI (6 * n)))] [] (XO g a f1 d h) T3 I3 := r_goto (pc := 2113) (tgt := 3549) C dL_law_2113 rfl (r_ls (lo' := lo0 b x M a d (6 * n)) [2, 3, 4, 5, 6, 7] rfl (r_wide (by omega) (by omega) (hback f1 h T3 I3 s' hI2)))
  refine r_ifne (pc := 2098) (tgt := 2113) C dL_law_2098 rfl (fun _ => hfin) (fun c0 => ?_)
  have hk0 : kx = 0 := nI_j (by have : kx ≤ 2 := hk; omega) (by decide) c0
  subst hk0
  obtain ⟨i1, rfl, e2⟩ := hv1 rfl
  have e9 : i9 = i1 := by injection (hb rfl)
  subst e9
  refine r_aload_n (pc := 2101) C 5 dL_law_2101 rfl rfl ?_
  refine r_iconst (pc := 2102) (v := 0) C dL_law_2102 rfl ?_
  refine r_jald (pc := 2103) C dL_law_2103 ?_
  refine r_iload (pc := 2104) C 0 dL_law_2104 rfl ?_
  refine r_i2l (pc := 2106) C dL_law_2106 ?_
  refine r_lcmpE (pc := 2107) C dL_law_2107 e2.symm ?_
  exact r_ifeq (pc := 2108) (tgt := 2113) C dL_law_2108 rfl (fun _ => hfin) (fun c => absurd rfl c)

set_option maxHeartbeats 1000000 in
theorem lw_32 (S : LwC g k b L xs) (hn : 6 * n + 6 ≤ L) (hI : Iv x M T I s s n) (hback : Bk g k Q b x M a d n) : Go g k 9 Q (600 + 30 * n) (6000 + 4200 * n) 2116 (lo0 b x M a d (6 * n)) [] (XO g a f d h) T I := by
  obtain ⟨C, hfl, hnc, hX, hbl, hbA, hL⟩ := S
  obtain ⟨kx, v, s', ⟨hk, hv⟩, hO, hR⟩ := op_collateralValue (g := g) (X := XO g a f d h) (T := T) (I := I) hI (by omega) (xs (6 * n + 1))
  refine r_aload_n (pc := 2116) C 1 dL_law_2116 rfl rfl ?_
  refine r_aload_n (pc := 2117) C 0 dL_law_2117 rfl rfl ?_
  refine r_iload (pc := 2118) C 5 dL_law_2118 rfl ?_
  refine r_iconst (pc := 2120) (v := 1) C dL_law_2120 rfl ?_
  refine r_iaddN (pc := 2121) C dL_law_2121 ?_
  refine r_sld (pc := 2122) (x := 6 * n + 1) C hX hbl hbA rfl (by omega) (by omega) dL_law_2122 ?_
  refine r_aload_n (pc := 2123) C 3 dL_law_2123 rfl rfl ?_
  refine r_callW (pc := 2124) C hfl hnc k_L_293 (w_collateralValue hI.1 hk hv hO) rfl rfl (Nat.le_of_ble_eq_true rfl) (by decide) ⟨by omega, by omega⟩ dL_law_2124 (fun r1 X1 T1 I1 h1 => ?_)
  obtain ⟨rfl, hI1, f1, rfl, hv1⟩ := h1
  refine r_st (st' := .int (nI kx) :: _) rfl ?_
  refine r_istore (pc := 2127) (lo' := [(6, _), (0, _), (1, _), (2, _), (3, _), (4, _), (5, _)]) C dL_law_2127 (by decide) rfl ?_
  obtain ⟨b9, ⟨hb, i9, rfl⟩, d9, hd9, hM9⟩ := hR (XO g a f1 d h) T1 I1 hI1
  refine r_aload_n (pc := 2129) C 3 dL_law_2129 rfl rfl ?_
  refine r_aload_n (pc := 2130) C 1 dL_law_2130 rfl rfl ?_
  refine r_iload (pc := 2131) C 6 dL_law_2131 rfl ?_
  refine r_iconst (pc := 2133) (v := 1) C dL_law_2133 rfl ?_
  refine r_iaddN (pc := 2134) C dL_law_2134 ?_
  refine r_sld (pc := 2135) (x := 6 * n + 1) C hX hbl hbA rfl (by omega) (by omega) dL_law_2135 ?_
  refine r_callV (pc := 2136) C hfl k_L_295 hM9 hI1.2.1.1 ca_X10 rfl rfl (Nat.le_of_ble_eq_true rfl) ⟨by omega, by decide⟩ ⟨by omega, by omega⟩ dL_law_2136 (fun r2 X2 T2 I2 h2 => ?_)
  obtain ⟨rfl, rfl, rfl, hc2, hI2⟩ := h2
  refine r_st (st' := .int i9 :: _) rfl ?_
  refine r_istore (pc := 2139) (lo' := [(7, _), (6, _), (0, _), (1, _), (2, _), (3, _), (4, _), (5, _)]) C dL_law_2139 (by decide) rfl ?_
  refine r_aload_n (pc := 2141) C 4 dL_law_2141 rfl rfl ?_
  refine r_callV (pc := 2142) C hfl k_L_189 (thrown_c hI2.2.1) hI2.2.1.1 ca_X10 rfl rfl (Nat.le_of_ble_eq_true rfl) ⟨by omega, by decide⟩ ⟨by omega, by omega⟩ dL_law_2142 (fun r3 X3 T3 I3 h3 => ?_)
  obtain ⟨rfl, rfl, rfl, rfl⟩ := h3
  refine r_st (st' := .int (I3 M 0) :: _) rfl ?_
  refine r_iload (pc := 2145) C 1 dL_law_2145 rfl ?_
  refine r_ceq (pc := 2147) (tgt := 2152) C dL_law_2147 rfl (fun _ => ?_) (fun c => absurd (hc2 (by decide)) c)
  refine r_iload (pc := 2152) C 1 dL_law_2152 rfl ?_
  have hfin : Go g k 9 Q (600 + 30 * n + 30 + 0 + 0) (6000 + 4200 * n + 4200 + 0 + 0) 2169 [(7, .int i9), (6, .int (nI kx)), (0, .ref b), (1, .ref x), (2, .ref M), (3, .ref a), (4, .ref d), (5, .int (nI (6 * n)))] [] (XO g a f1 d h) T3 I3 := r_goto (pc := 2169) (tgt := 3549) C dL_law_2169 rfl (r_ls (lo' := lo0 b x M a d (6 * n)) [2, 3, 4, 5, 6, 7] rfl (r_wide (by omega) (by omega) (hback f1 h T3 I3 s' hI2)))
  refine r_ifne (pc := 2154) (tgt := 2169) C dL_law_2154 rfl (fun _ => hfin) (fun c0 => ?_)
  have hk0 : kx = 0 := nI_j (by have : kx ≤ 1 := hk; omega) (by decide) c0
  subst hk0
  obtain ⟨i1, rfl, e2⟩ := hv1 rfl
  have e9 : i9 = i1 := by injection (hb rfl)
  subst e9
  refine r_aload_n (pc := 2157) C 5 dL_law_2157 rfl rfl ?_
  refine r_iconst (pc := 2158) (v := 0) C dL_law_2158 rfl ?_
  refine r_jald (pc := 2159) C dL_law_2159 ?_
  refine r_iload (pc := 2160) C 0 dL_law_2160 rfl ?_
  refine r_i2l (pc := 2162) C dL_law_2162 ?_
  refine r_lcmpE (pc := 2163) C dL_law_2163 e2.symm ?_
  exact r_ifeq (pc := 2164) (tgt := 2169) C dL_law_2164 rfl (fun _ => hfin) (fun c => absurd rfl c)

set_option maxHeartbeats 1000000 in
theorem lw_33 (S : LwC g k b L xs) (hn : 6 * n + 6 ≤ L) (hI : Iv x M T I s s n) (hback : Bk g k Q b x M a d n) : Go g k 9 Q (600 + 30 * n) (6000 + 4200 * n) 2172 (lo0 b x M a d (6 * n)) [] (XO g a f d h) T I := by
  obtain ⟨C, hfl, hnc, hX, hbl, hbA, hL⟩ := S
  obtain ⟨kx, v, s', ⟨hk, hv⟩, hO, hR⟩ := op_isCovered (g := g) (X := XO g a f d h) (T := T) (I := I) hI (by omega) (xs (6 * n + 1))
  refine r_aload_n (pc := 2172) C 1 dL_law_2172 rfl rfl ?_
  refine r_aload_n (pc := 2173) C 0 dL_law_2173 rfl rfl ?_
  refine r_iload (pc := 2174) C 5 dL_law_2174 rfl ?_
  refine r_iconst (pc := 2176) (v := 1) C dL_law_2176 rfl ?_
  refine r_iaddN (pc := 2177) C dL_law_2177 ?_
  refine r_sld (pc := 2178) (x := 6 * n + 1) C hX hbl hbA rfl (by omega) (by omega) dL_law_2178 ?_
  refine r_aload_n (pc := 2179) C 3 dL_law_2179 rfl rfl ?_
  refine r_callW (pc := 2180) C hfl hnc k_L_296 (w_isCovered hI.1 hk hv hO) rfl rfl (Nat.le_of_ble_eq_true rfl) (by decide) ⟨by omega, by omega⟩ dL_law_2180 (fun r1 X1 T1 I1 h1 => ?_)
  obtain ⟨rfl, hI1, f1, rfl, hv1⟩ := h1
  refine r_st (st' := .int (nI kx) :: _) rfl ?_
  refine r_istore (pc := 2183) (lo' := [(6, _), (0, _), (1, _), (2, _), (3, _), (4, _), (5, _)]) C dL_law_2183 (by decide) rfl ?_
  obtain ⟨b9, ⟨hb, i9, rfl⟩, d9, hd9, hM9⟩ := hR (XO g a f1 d h) T1 I1 hI1
  refine r_aload_n (pc := 2185) C 3 dL_law_2185 rfl rfl ?_
  refine r_aload_n (pc := 2186) C 1 dL_law_2186 rfl rfl ?_
  refine r_iload (pc := 2187) C 6 dL_law_2187 rfl ?_
  refine r_iconst (pc := 2189) (v := 1) C dL_law_2189 rfl ?_
  refine r_iaddN (pc := 2190) C dL_law_2190 ?_
  refine r_sld (pc := 2191) (x := 6 * n + 1) C hX hbl hbA rfl (by omega) (by omega) dL_law_2191 ?_
  refine r_callV (pc := 2192) C hfl k_L_298 hM9 hI1.2.1.1 ca_X10 rfl rfl (Nat.le_of_ble_eq_true rfl) ⟨by omega, by decide⟩ ⟨by omega, by omega⟩ dL_law_2192 (fun r2 X2 T2 I2 h2 => ?_)
  obtain ⟨rfl, rfl, rfl, hc2, hI2⟩ := h2
  refine r_st (st' := .int i9 :: _) rfl ?_
  refine r_istore (pc := 2195) (lo' := [(7, _), (6, _), (0, _), (1, _), (2, _), (3, _), (4, _), (5, _)]) C dL_law_2195 (by decide) rfl ?_
  refine r_aload_n (pc := 2197) C 4 dL_law_2197 rfl rfl ?_
  refine r_callV (pc := 2198) C hfl k_L_189 (thrown_c hI2.2.1) hI2.2.1.1 ca_X10 rfl rfl (Nat.le_of_ble_eq_true rfl) ⟨by omega, by decide⟩ ⟨by omega, by omega⟩ dL_law_2198 (fun r3 X3 T3 I3 h3 => ?_)
  obtain ⟨rfl, rfl, rfl, rfl⟩ := h3
  refine r_st (st' := .int (I3 M 0) :: _) rfl ?_
  refine r_iload (pc := 2201) C 1 dL_law_2201 rfl ?_
  refine r_ceq (pc := 2203) (tgt := 2208) C dL_law_2203 rfl (fun _ => ?_) (fun c => absurd (hc2 (by decide)) c)
  refine r_iload (pc := 2208) C 1 dL_law_2208 rfl ?_
  have hfin : Go g k 9 Q (600 + 30 * n + 30 + 0 + 0) (6000 + 4200 * n + 4200 + 0 + 0) 2232 [(7, .int i9), (6, .int (nI kx)), (0, .ref b), (1, .ref x), (2, .ref M), (3, .ref a), (4, .ref d), (5, .int (nI (6 * n)))] [] (XO g a f1 d h) T3 I3 := r_goto (pc := 2232) (tgt := 3549) C dL_law_2232 rfl (r_ls (lo' := lo0 b x M a d (6 * n)) [2, 3, 4, 5, 6, 7] rfl (r_wide (by omega) (by omega) (hback f1 h T3 I3 s' hI2)))
  refine r_ifne (pc := 2210) (tgt := 2232) C dL_law_2210 rfl (fun _ => hfin) (fun c0 => ?_)
  have hk0 : kx = 0 := nI_j (by have : kx ≤ 1 := hk; omega) (by decide) c0
  subst hk0
  obtain ⟨i1, rfl, e2⟩ := hv1 rfl
  have e9 : i9 = i1 := by injection (hb rfl)
  subst e9
  refine r_aload_n (pc := 2213) C 5 dL_law_2213 rfl rfl ?_
  refine r_iconst (pc := 2214) (v := 0) C dL_law_2214 rfl ?_
  refine r_jald (pc := 2215) C dL_law_2215 ?_
  refine r_iload (pc := 2216) C 0 dL_law_2216 rfl ?_
  refine r_ifeq (pc := 2218) (tgt := 2225) C dL_law_2218 rfl (fun c1 => ?_) (fun c1 => ?_)
  · refine r_lconst (pc := 2225) (v := 0) C dL_law_2225 rfl ?_
    refine r_lcmpE (pc := 2226) C dL_law_2226 (e2.trans (if_pos c1)).symm ?_
    exact r_ifeq (pc := 2227) (tgt := 2232) C dL_law_2227 rfl (fun _ => hfin) (fun c => absurd rfl c)
  · refine r_lconst (pc := 2221) (v := 1) C dL_law_2221 rfl ?_
    refine r_goto (pc := 2222) (tgt := 2226) C dL_law_2222 rfl ?_
    refine r_lcmpE (pc := 2226) C dL_law_2226 (e2.trans (if_neg c1)).symm ?_
    exact r_ifeq (pc := 2227) (tgt := 2232) C dL_law_2227 rfl (fun _ => hfin) (fun c => absurd rfl c)

set_option maxHeartbeats 1000000 in
theorem lw_34 (S : LwC g k b L xs) (hn : 6 * n + 6 ≤ L) (hI : Iv x M T I s s n) (hback : Bk g k Q b x M a d n) : Go g k 9 Q (600 + 30 * n) (6000 + 4200 * n) 2235 (lo0 b x M a d (6 * n)) [] (XO g a f d h) T I := by
  obtain ⟨C, hfl, hnc, hX, hbl, hbA, hL⟩ := S
  obtain ⟨kx, v, s', ⟨hk, hv⟩, hO, hR⟩ := op_missingUnits (g := g) (X := XO g a f d h) (T := T) (I := I) hI (by omega) (xs (6 * n + 1)) (xs (6 * n + 2))
  refine r_aload_n (pc := 2235) C 1 dL_law_2235 rfl rfl ?_
  refine r_aload_n (pc := 2236) C 0 dL_law_2236 rfl rfl ?_
  refine r_iload (pc := 2237) C 5 dL_law_2237 rfl ?_
  refine r_iconst (pc := 2239) (v := 1) C dL_law_2239 rfl ?_
  refine r_iaddN (pc := 2240) C dL_law_2240 ?_
  refine r_sld (pc := 2241) (x := 6 * n + 1) C hX hbl hbA rfl (by omega) (by omega) dL_law_2241 ?_
  refine r_aload_n (pc := 2242) C 0 dL_law_2242 rfl rfl ?_
  refine r_iload (pc := 2243) C 5 dL_law_2243 rfl ?_
  refine r_iconst (pc := 2245) (v := 2) C dL_law_2245 rfl ?_
  refine r_iaddN (pc := 2246) C dL_law_2246 ?_
  refine r_sld (pc := 2247) (x := 6 * n + 2) C hX hbl hbA rfl (by omega) (by omega) dL_law_2247 ?_
  refine r_aload_n (pc := 2248) C 3 dL_law_2248 rfl rfl ?_
  refine r_callW (pc := 2249) C hfl hnc k_L_299 (w_missingUnits hI.1 hk hv hO) rfl rfl (Nat.le_of_ble_eq_true rfl) (by decide) ⟨by omega, by omega⟩ dL_law_2249 (fun r1 X1 T1 I1 h1 => ?_)
  obtain ⟨rfl, hI1, f1, rfl, hv1⟩ := h1
  refine r_st (st' := .int (nI kx) :: _) rfl ?_
  refine r_istore (pc := 2252) (lo' := [(6, _), (0, _), (1, _), (2, _), (3, _), (4, _), (5, _)]) C dL_law_2252 (by decide) rfl ?_
  obtain ⟨b9, ⟨hb, i9, rfl⟩, d9, hd9, hM9⟩ := hR (XO g a f1 d h) T1 I1 hI1
  refine r_aload_n (pc := 2254) C 3 dL_law_2254 rfl rfl ?_
  refine r_aload_n (pc := 2255) C 1 dL_law_2255 rfl rfl ?_
  refine r_iload (pc := 2256) C 6 dL_law_2256 rfl ?_
  refine r_iconst (pc := 2258) (v := 1) C dL_law_2258 rfl ?_
  refine r_iaddN (pc := 2259) C dL_law_2259 ?_
  refine r_sld (pc := 2260) (x := 6 * n + 1) C hX hbl hbA rfl (by omega) (by omega) dL_law_2260 ?_
  refine r_aload_n (pc := 2261) C 1 dL_law_2261 rfl rfl ?_
  refine r_iload (pc := 2262) C 6 dL_law_2262 rfl ?_
  refine r_iconst (pc := 2264) (v := 2) C dL_law_2264 rfl ?_
  refine r_iaddN (pc := 2265) C dL_law_2265 ?_
  refine r_sld (pc := 2266) (x := 6 * n + 2) C hX hbl hbA rfl (by omega) (by omega) dL_law_2266 ?_
  refine r_callV (pc := 2267) C hfl k_L_301 hM9 hI1.2.1.1 ca_X10 rfl rfl (Nat.le_of_ble_eq_true rfl) ⟨by omega, by decide⟩ ⟨by omega, by omega⟩ dL_law_2267 (fun r2 X2 T2 I2 h2 => ?_)
  obtain ⟨rfl, rfl, rfl, hc2, hI2⟩ := h2
  refine r_st (st' := .int i9 :: _) rfl ?_
  refine r_istore (pc := 2270) (lo' := [(7, _), (6, _), (0, _), (1, _), (2, _), (3, _), (4, _), (5, _)]) C dL_law_2270 (by decide) rfl ?_
  refine r_aload_n (pc := 2272) C 4 dL_law_2272 rfl rfl ?_
  refine r_callV (pc := 2273) C hfl k_L_189 (thrown_c hI2.2.1) hI2.2.1.1 ca_X10 rfl rfl (Nat.le_of_ble_eq_true rfl) ⟨by omega, by decide⟩ ⟨by omega, by omega⟩ dL_law_2273 (fun r3 X3 T3 I3 h3 => ?_)
  obtain ⟨rfl, rfl, rfl, rfl⟩ := h3
  refine r_st (st' := .int (I3 M 0) :: _) rfl ?_
  refine r_iload (pc := 2276) C 1 dL_law_2276 rfl ?_
  refine r_ceq (pc := 2278) (tgt := 2283) C dL_law_2278 rfl (fun _ => ?_) (fun c => absurd (hc2 (by decide)) c)
  refine r_iload (pc := 2283) C 1 dL_law_2283 rfl ?_
  have hfin : Go g k 9 Q (600 + 30 * n + 30 + 0 + 0) (6000 + 4200 * n + 4200 + 0 + 0) 2300 [(7, .int i9), (6, .int (nI kx)), (0, .ref b), (1, .ref x), (2, .ref M), (3, .ref a), (4, .ref d), (5, .int (nI (6 * n)))] [] (XO g a f1 d h) T3 I3 := r_goto (pc := 2300) (tgt := 3549) C dL_law_2300 rfl (r_ls (lo' := lo0 b x M a d (6 * n)) [2, 3, 4, 5, 6, 7] rfl (r_wide (by omega) (by omega) (hback f1 h T3 I3 s' hI2)))
  refine r_ifne (pc := 2285) (tgt := 2300) C dL_law_2285 rfl (fun _ => hfin) (fun c0 => ?_)
  have hk0 : kx = 0 := nI_j (by have : kx ≤ 2 := hk; omega) (by decide) c0
  subst hk0
  obtain ⟨i1, rfl, e2⟩ := hv1 rfl
  have e9 : i9 = i1 := by injection (hb rfl)
  subst e9
  refine r_aload_n (pc := 2288) C 5 dL_law_2288 rfl rfl ?_
  refine r_iconst (pc := 2289) (v := 0) C dL_law_2289 rfl ?_
  refine r_jald (pc := 2290) C dL_law_2290 ?_
  refine r_iload (pc := 2291) C 0 dL_law_2291 rfl ?_
  refine r_i2l (pc := 2293) C dL_law_2293 ?_
  refine r_lcmpE (pc := 2294) C dL_law_2294 e2.symm ?_
  exact r_ifeq (pc := 2295) (tgt := 2300) C dL_law_2295 rfl (fun _ => hfin) (fun c => absurd rfl c)

set_option maxHeartbeats 1000000 in
theorem lw_35 (S : LwC g k b L xs) (hn : 6 * n + 6 ≤ L) (hI : Iv x M T I s s n) (hback : Bk g k Q b x M a d n) : Go g k 9 Q (600 + 30 * n) (6000 + 4200 * n) 2303 (lo0 b x M a d (6 * n)) [] (XO g a f d h) T I := by
  obtain ⟨C, hfl, hnc, hX, hbl, hbA, hL⟩ := S
  obtain ⟨kx, v, s', ⟨hk, hv⟩, hO, hR⟩ := op_daysToDefault (g := g) (X := XO g a f d h) (T := T) (I := I) hI (by omega) (xs (6 * n + 1))
  refine r_aload_n (pc := 2303) C 1 dL_law_2303 rfl rfl ?_
  refine r_aload_n (pc := 2304) C 0 dL_law_2304 rfl rfl ?_
  refine r_iload (pc := 2305) C 5 dL_law_2305 rfl ?_
  refine r_iconst (pc := 2307) (v := 1) C dL_law_2307 rfl ?_
  refine r_iaddN (pc := 2308) C dL_law_2308 ?_
  refine r_sld (pc := 2309) (x := 6 * n + 1) C hX hbl hbA rfl (by omega) (by omega) dL_law_2309 ?_
  refine r_aload_n (pc := 2310) C 3 dL_law_2310 rfl rfl ?_
  refine r_callW (pc := 2311) C hfl hnc k_L_302 (w_daysToDefault hI.1 hk hv hO) rfl rfl (Nat.le_of_ble_eq_true rfl) (by decide) ⟨by omega, by omega⟩ dL_law_2311 (fun r1 X1 T1 I1 h1 => ?_)
  obtain ⟨rfl, hI1, f1, rfl, hv1⟩ := h1
  refine r_st (st' := .int (nI kx) :: _) rfl ?_
  refine r_istore (pc := 2314) (lo' := [(6, _), (0, _), (1, _), (2, _), (3, _), (4, _), (5, _)]) C dL_law_2314 (by decide) rfl ?_
  obtain ⟨b9, ⟨hb, i9, rfl⟩, d9, hd9, hM9⟩ := hR (XO g a f1 d h) T1 I1 hI1
  refine r_aload_n (pc := 2316) C 3 dL_law_2316 rfl rfl ?_
  refine r_aload_n (pc := 2317) C 1 dL_law_2317 rfl rfl ?_
  refine r_iload (pc := 2318) C 6 dL_law_2318 rfl ?_
  refine r_iconst (pc := 2320) (v := 1) C dL_law_2320 rfl ?_
  refine r_iaddN (pc := 2321) C dL_law_2321 ?_
  refine r_sld (pc := 2322) (x := 6 * n + 1) C hX hbl hbA rfl (by omega) (by omega) dL_law_2322 ?_
  refine r_callV (pc := 2323) C hfl k_L_304 hM9 hI1.2.1.1 ca_X10 rfl rfl (Nat.le_of_ble_eq_true rfl) ⟨by omega, by decide⟩ ⟨by omega, by omega⟩ dL_law_2323 (fun r2 X2 T2 I2 h2 => ?_)
  obtain ⟨rfl, rfl, rfl, hc2, hI2⟩ := h2
  refine r_st (st' := .int i9 :: _) rfl ?_
  refine r_istore (pc := 2326) (lo' := [(7, _), (6, _), (0, _), (1, _), (2, _), (3, _), (4, _), (5, _)]) C dL_law_2326 (by decide) rfl ?_
  refine r_aload_n (pc := 2328) C 4 dL_law_2328 rfl rfl ?_
  refine r_callV (pc := 2329) C hfl k_L_189 (thrown_c hI2.2.1) hI2.2.1.1 ca_X10 rfl rfl (Nat.le_of_ble_eq_true rfl) ⟨by omega, by decide⟩ ⟨by omega, by omega⟩ dL_law_2329 (fun r3 X3 T3 I3 h3 => ?_)
  obtain ⟨rfl, rfl, rfl, rfl⟩ := h3
  refine r_st (st' := .int (I3 M 0) :: _) rfl ?_
  refine r_iload (pc := 2332) C 1 dL_law_2332 rfl ?_
  refine r_ceq (pc := 2334) (tgt := 2339) C dL_law_2334 rfl (fun _ => ?_) (fun c => absurd (hc2 (by decide)) c)
  refine r_iload (pc := 2339) C 1 dL_law_2339 rfl ?_
  have hfin : Go g k 9 Q (600 + 30 * n + 30 + 0 + 0) (6000 + 4200 * n + 4200 + 0 + 0) 2356 [(7, .int i9), (6, .int (nI kx)), (0, .ref b), (1, .ref x), (2, .ref M), (3, .ref a), (4, .ref d), (5, .int (nI (6 * n)))] [] (XO g a f1 d h) T3 I3 := r_goto (pc := 2356) (tgt := 3549) C dL_law_2356 rfl (r_ls (lo' := lo0 b x M a d (6 * n)) [2, 3, 4, 5, 6, 7] rfl (r_wide (by omega) (by omega) (hback f1 h T3 I3 s' hI2)))
  refine r_ifne (pc := 2341) (tgt := 2356) C dL_law_2341 rfl (fun _ => hfin) (fun c0 => ?_)
  have hk0 : kx = 0 := nI_j (by have : kx ≤ 1 := hk; omega) (by decide) c0
  subst hk0
  obtain ⟨i1, rfl, e2⟩ := hv1 rfl
  have e9 : i9 = i1 := by injection (hb rfl)
  subst e9
  refine r_aload_n (pc := 2344) C 5 dL_law_2344 rfl rfl ?_
  refine r_iconst (pc := 2345) (v := 0) C dL_law_2345 rfl ?_
  refine r_jald (pc := 2346) C dL_law_2346 ?_
  refine r_iload (pc := 2347) C 0 dL_law_2347 rfl ?_
  refine r_i2l (pc := 2349) C dL_law_2349 ?_
  refine r_lcmpE (pc := 2350) C dL_law_2350 e2.symm ?_
  exact r_ifeq (pc := 2351) (tgt := 2356) C dL_law_2351 rfl (fun _ => hfin) (fun c => absurd rfl c)

set_option maxHeartbeats 1000000 in
theorem lw_36 (S : LwC g k b L xs) (hn : 6 * n + 6 ≤ L) (hI : Iv x M T I s s n) (hback : Bk g k Q b x M a d n) : Go g k 9 Q (600 + 30 * n) (6000 + 4200 * n) 2359 (lo0 b x M a d (6 * n)) [] (XO g a f d h) T I := by
  obtain ⟨C, hfl, hnc, hX, hbl, hbA, hL⟩ := S
  obtain ⟨kx, v, s', ⟨hk, hv⟩, hO, hR⟩ := op_daysToDefaultByDays (g := g) (X := XO g a f d h) (T := T) (I := I) hI (by omega) (xs (6 * n + 1))
  refine r_aload_n (pc := 2359) C 1 dL_law_2359 rfl rfl ?_
  refine r_aload_n (pc := 2360) C 0 dL_law_2360 rfl rfl ?_
  refine r_iload (pc := 2361) C 5 dL_law_2361 rfl ?_
  refine r_iconst (pc := 2363) (v := 1) C dL_law_2363 rfl ?_
  refine r_iaddN (pc := 2364) C dL_law_2364 ?_
  refine r_sld (pc := 2365) (x := 6 * n + 1) C hX hbl hbA rfl (by omega) (by omega) dL_law_2365 ?_
  refine r_aload_n (pc := 2366) C 3 dL_law_2366 rfl rfl ?_
  refine r_callW (pc := 2367) C hfl hnc k_L_305 (w_daysToDefaultByDays hI.1 hk hv hO) rfl rfl (Nat.le_of_ble_eq_true rfl) (by decide) ⟨by omega, by omega⟩ dL_law_2367 (fun r1 X1 T1 I1 h1 => ?_)
  obtain ⟨rfl, hI1, f1, rfl, hv1⟩ := h1
  refine r_st (st' := .int (nI kx) :: _) rfl ?_
  refine r_istore (pc := 2370) (lo' := [(6, _), (0, _), (1, _), (2, _), (3, _), (4, _), (5, _)]) C dL_law_2370 (by decide) rfl ?_
  obtain ⟨b9, ⟨hb, i9, rfl⟩, d9, hd9, hM9⟩ := hR (XO g a f1 d h) T1 I1 hI1
  refine r_aload_n (pc := 2372) C 3 dL_law_2372 rfl rfl ?_
  refine r_aload_n (pc := 2373) C 1 dL_law_2373 rfl rfl ?_
  refine r_iload (pc := 2374) C 6 dL_law_2374 rfl ?_
  refine r_iconst (pc := 2376) (v := 1) C dL_law_2376 rfl ?_
  refine r_iaddN (pc := 2377) C dL_law_2377 ?_
  refine r_sld (pc := 2378) (x := 6 * n + 1) C hX hbl hbA rfl (by omega) (by omega) dL_law_2378 ?_
  refine r_callV (pc := 2379) C hfl k_L_307 hM9 hI1.2.1.1 ca_X10 rfl rfl (Nat.le_of_ble_eq_true rfl) ⟨by omega, by decide⟩ ⟨by omega, by omega⟩ dL_law_2379 (fun r2 X2 T2 I2 h2 => ?_)
  obtain ⟨rfl, rfl, rfl, hc2, hI2⟩ := h2
  refine r_st (st' := .int i9 :: _) rfl ?_
  refine r_istore (pc := 2382) (lo' := [(7, _), (6, _), (0, _), (1, _), (2, _), (3, _), (4, _), (5, _)]) C dL_law_2382 (by decide) rfl ?_
  refine r_aload_n (pc := 2384) C 4 dL_law_2384 rfl rfl ?_
  refine r_callV (pc := 2385) C hfl k_L_189 (thrown_c hI2.2.1) hI2.2.1.1 ca_X10 rfl rfl (Nat.le_of_ble_eq_true rfl) ⟨by omega, by decide⟩ ⟨by omega, by omega⟩ dL_law_2385 (fun r3 X3 T3 I3 h3 => ?_)
  obtain ⟨rfl, rfl, rfl, rfl⟩ := h3
  refine r_st (st' := .int (I3 M 0) :: _) rfl ?_
  refine r_iload (pc := 2388) C 1 dL_law_2388 rfl ?_
  refine r_ceq (pc := 2390) (tgt := 2395) C dL_law_2390 rfl (fun _ => ?_) (fun c => absurd (hc2 (by decide)) c)
  refine r_iload (pc := 2395) C 1 dL_law_2395 rfl ?_
  have hfin : Go g k 9 Q (600 + 30 * n + 30 + 0 + 0) (6000 + 4200 * n + 4200 + 0 + 0) 2412 [(7, .int i9), (6, .int (nI kx)), (0, .ref b), (1, .ref x), (2, .ref M), (3, .ref a), (4, .ref d), (5, .int (nI (6 * n)))] [] (XO g a f1 d h) T3 I3 := r_goto (pc := 2412) (tgt := 3549) C dL_law_2412 rfl (r_ls (lo' := lo0 b x M a d (6 * n)) [2, 3, 4, 5, 6, 7] rfl (r_wide (by omega) (by omega) (hback f1 h T3 I3 s' hI2)))
  refine r_ifne (pc := 2397) (tgt := 2412) C dL_law_2397 rfl (fun _ => hfin) (fun c0 => ?_)
  have hk0 : kx = 0 := nI_j (by have : kx ≤ 1 := hk; omega) (by decide) c0
  subst hk0
  obtain ⟨i1, rfl, e2⟩ := hv1 rfl
  have e9 : i9 = i1 := by injection (hb rfl)
  subst e9
  refine r_aload_n (pc := 2400) C 5 dL_law_2400 rfl rfl ?_
  refine r_iconst (pc := 2401) (v := 0) C dL_law_2401 rfl ?_
  refine r_jald (pc := 2402) C dL_law_2402 ?_
  refine r_iload (pc := 2403) C 0 dL_law_2403 rfl ?_
  refine r_i2l (pc := 2405) C dL_law_2405 ?_
  refine r_lcmpE (pc := 2406) C dL_law_2406 e2.symm ?_
  exact r_ifeq (pc := 2407) (tgt := 2412) C dL_law_2407 rfl (fun _ => hfin) (fun c => absurd rfl c)

set_option maxHeartbeats 1000000 in
theorem lw_37 (S : LwC g k b L xs) (hn : 6 * n + 6 ≤ L) (hI : Iv x M T I s s n) (hback : Bk g k Q b x M a d n) : Go g k 9 Q (600 + 30 * n) (6000 + 4200 * n) 2415 (lo0 b x M a d (6 * n)) [] (XO g a f d h) T I := by
  obtain ⟨C, hfl, hnc, hX, hbl, hbA, hL⟩ := S
  obtain ⟨kx, v, s', ⟨hk, hv⟩, hO, hR⟩ := op_interestAfter (g := g) (X := XO g a f d h) (T := T) (I := I) hI (by omega) (xs (6 * n + 1)) (xs (6 * n + 2))
  refine r_aload_n (pc := 2415) C 1 dL_law_2415 rfl rfl ?_
  refine r_aload_n (pc := 2416) C 0 dL_law_2416 rfl rfl ?_
  refine r_iload (pc := 2417) C 5 dL_law_2417 rfl ?_
  refine r_iconst (pc := 2419) (v := 1) C dL_law_2419 rfl ?_
  refine r_iaddN (pc := 2420) C dL_law_2420 ?_
  refine r_sld (pc := 2421) (x := 6 * n + 1) C hX hbl hbA rfl (by omega) (by omega) dL_law_2421 ?_
  refine r_aload_n (pc := 2422) C 0 dL_law_2422 rfl rfl ?_
  refine r_iload (pc := 2423) C 5 dL_law_2423 rfl ?_
  refine r_iconst (pc := 2425) (v := 2) C dL_law_2425 rfl ?_
  refine r_iaddN (pc := 2426) C dL_law_2426 ?_
  refine r_sld (pc := 2427) (x := 6 * n + 2) C hX hbl hbA rfl (by omega) (by omega) dL_law_2427 ?_
  refine r_aload_n (pc := 2428) C 3 dL_law_2428 rfl rfl ?_
  refine r_callW (pc := 2429) C hfl hnc k_L_308 (w_interestAfter hI.1 hk hv hO) rfl rfl (Nat.le_of_ble_eq_true rfl) (by decide) ⟨by omega, by omega⟩ dL_law_2429 (fun r1 X1 T1 I1 h1 => ?_)
  obtain ⟨rfl, hI1, f1, rfl, hv1⟩ := h1
  refine r_st (st' := .int (nI kx) :: _) rfl ?_
  refine r_istore (pc := 2432) (lo' := [(6, _), (0, _), (1, _), (2, _), (3, _), (4, _), (5, _)]) C dL_law_2432 (by decide) rfl ?_
  obtain ⟨b9, ⟨hb, i9, rfl⟩, d9, hd9, hM9⟩ := hR (XO g a f1 d h) T1 I1 hI1
  refine r_aload_n (pc := 2434) C 3 dL_law_2434 rfl rfl ?_
  refine r_aload_n (pc := 2435) C 1 dL_law_2435 rfl rfl ?_
  refine r_iload (pc := 2436) C 6 dL_law_2436 rfl ?_
  refine r_iconst (pc := 2438) (v := 1) C dL_law_2438 rfl ?_
  refine r_iaddN (pc := 2439) C dL_law_2439 ?_
  refine r_sld (pc := 2440) (x := 6 * n + 1) C hX hbl hbA rfl (by omega) (by omega) dL_law_2440 ?_
  refine r_aload_n (pc := 2441) C 1 dL_law_2441 rfl rfl ?_
  refine r_iload (pc := 2442) C 6 dL_law_2442 rfl ?_
  refine r_iconst (pc := 2444) (v := 2) C dL_law_2444 rfl ?_
  refine r_iaddN (pc := 2445) C dL_law_2445 ?_
  refine r_sld (pc := 2446) (x := 6 * n + 2) C hX hbl hbA rfl (by omega) (by omega) dL_law_2446 ?_
  refine r_callV (pc := 2447) C hfl k_L_310 hM9 hI1.2.1.1 ca_X10 rfl rfl (Nat.le_of_ble_eq_true rfl) ⟨by omega, by decide⟩ ⟨by omega, by omega⟩ dL_law_2447 (fun r2 X2 T2 I2 h2 => ?_)
  obtain ⟨rfl, rfl, rfl, hc2, hI2⟩ := h2
  refine r_st (st' := .int i9 :: _) rfl ?_
  refine r_istore (pc := 2450) (lo' := [(7, _), (6, _), (0, _), (1, _), (2, _), (3, _), (4, _), (5, _)]) C dL_law_2450 (by decide) rfl ?_
  refine r_aload_n (pc := 2452) C 4 dL_law_2452 rfl rfl ?_
  refine r_callV (pc := 2453) C hfl k_L_189 (thrown_c hI2.2.1) hI2.2.1.1 ca_X10 rfl rfl (Nat.le_of_ble_eq_true rfl) ⟨by omega, by decide⟩ ⟨by omega, by omega⟩ dL_law_2453 (fun r3 X3 T3 I3 h3 => ?_)
  obtain ⟨rfl, rfl, rfl, rfl⟩ := h3
  refine r_st (st' := .int (I3 M 0) :: _) rfl ?_
  refine r_iload (pc := 2456) C 1 dL_law_2456 rfl ?_
  refine r_ceq (pc := 2458) (tgt := 2463) C dL_law_2458 rfl (fun _ => ?_) (fun c => absurd (hc2 (by decide)) c)
  refine r_iload (pc := 2463) C 1 dL_law_2463 rfl ?_
  have hfin : Go g k 9 Q (600 + 30 * n + 30 + 0 + 0) (6000 + 4200 * n + 4200 + 0 + 0) 2480 [(7, .int i9), (6, .int (nI kx)), (0, .ref b), (1, .ref x), (2, .ref M), (3, .ref a), (4, .ref d), (5, .int (nI (6 * n)))] [] (XO g a f1 d h) T3 I3 := r_goto (pc := 2480) (tgt := 3549) C dL_law_2480 rfl (r_ls (lo' := lo0 b x M a d (6 * n)) [2, 3, 4, 5, 6, 7] rfl (r_wide (by omega) (by omega) (hback f1 h T3 I3 s' hI2)))
  refine r_ifne (pc := 2465) (tgt := 2480) C dL_law_2465 rfl (fun _ => hfin) (fun c0 => ?_)
  have hk0 : kx = 0 := nI_j (by have : kx ≤ 2 := hk; omega) (by decide) c0
  subst hk0
  obtain ⟨i1, rfl, e2⟩ := hv1 rfl
  have e9 : i9 = i1 := by injection (hb rfl)
  subst e9
  refine r_aload_n (pc := 2468) C 5 dL_law_2468 rfl rfl ?_
  refine r_iconst (pc := 2469) (v := 0) C dL_law_2469 rfl ?_
  refine r_jald (pc := 2470) C dL_law_2470 ?_
  refine r_iload (pc := 2471) C 0 dL_law_2471 rfl ?_
  refine r_i2l (pc := 2473) C dL_law_2473 ?_
  refine r_lcmpE (pc := 2474) C dL_law_2474 e2.symm ?_
  exact r_ifeq (pc := 2475) (tgt := 2480) C dL_law_2475 rfl (fun _ => hfin) (fun c => absurd rfl c)

set_option maxHeartbeats 1000000 in
theorem lw_38 (S : LwC g k b L xs) (hn : 6 * n + 6 ≤ L) (hI : Iv x M T I s s n) (hback : Bk g k Q b x M a d n) : Go g k 9 Q (600 + 30 * n) (6000 + 4200 * n) 2483 (lo0 b x M a d (6 * n)) [] (XO g a f d h) T I := by
  obtain ⟨C, hfl, hnc, hX, hbl, hbA, hL⟩ := S
  obtain ⟨kx, v, s', ⟨hk, hv⟩, hO, hR⟩ := op_greatestPrincipal (g := g) (X := XO g a f d h) (T := T) (I := I) hI (by omega) (xs (6 * n + 1)) (xs (6 * n + 2)) (xs (6 * n + 3))
  refine r_aload_n (pc := 2483) C 1 dL_law_2483 rfl rfl ?_
  refine r_aload_n (pc := 2484) C 0 dL_law_2484 rfl rfl ?_
  refine r_iload (pc := 2485) C 5 dL_law_2485 rfl ?_
  refine r_iconst (pc := 2487) (v := 1) C dL_law_2487 rfl ?_
  refine r_iaddN (pc := 2488) C dL_law_2488 ?_
  refine r_sld (pc := 2489) (x := 6 * n + 1) C hX hbl hbA rfl (by omega) (by omega) dL_law_2489 ?_
  refine r_aload_n (pc := 2490) C 0 dL_law_2490 rfl rfl ?_
  refine r_iload (pc := 2491) C 5 dL_law_2491 rfl ?_
  refine r_iconst (pc := 2493) (v := 2) C dL_law_2493 rfl ?_
  refine r_iaddN (pc := 2494) C dL_law_2494 ?_
  refine r_sld (pc := 2495) (x := 6 * n + 2) C hX hbl hbA rfl (by omega) (by omega) dL_law_2495 ?_
  refine r_aload_n (pc := 2496) C 0 dL_law_2496 rfl rfl ?_
  refine r_iload (pc := 2497) C 5 dL_law_2497 rfl ?_
  refine r_iconst (pc := 2499) (v := 3) C dL_law_2499 rfl ?_
  refine r_iaddN (pc := 2500) C dL_law_2500 ?_
  refine r_sld (pc := 2501) (x := 6 * n + 3) C hX hbl hbA rfl (by omega) (by omega) dL_law_2501 ?_
  refine r_aload_n (pc := 2502) C 3 dL_law_2502 rfl rfl ?_
  refine r_callW (pc := 2503) C hfl hnc k_L_311 (w_greatestPrincipal hI.1 hk hv hO) rfl rfl (Nat.le_of_ble_eq_true rfl) (by decide) ⟨by omega, by omega⟩ dL_law_2503 (fun r1 X1 T1 I1 h1 => ?_)
  obtain ⟨rfl, hI1, f1, rfl, hv1⟩ := h1
  refine r_st (st' := .int (nI kx) :: _) rfl ?_
  refine r_istore (pc := 2506) (lo' := [(6, _), (0, _), (1, _), (2, _), (3, _), (4, _), (5, _)]) C dL_law_2506 (by decide) rfl ?_
  obtain ⟨b9, ⟨hb, i9, rfl⟩, d9, hd9, hM9⟩ := hR (XO g a f1 d h) T1 I1 hI1
  refine r_aload_n (pc := 2508) C 3 dL_law_2508 rfl rfl ?_
  refine r_aload_n (pc := 2509) C 1 dL_law_2509 rfl rfl ?_
  refine r_iload (pc := 2510) C 6 dL_law_2510 rfl ?_
  refine r_iconst (pc := 2512) (v := 1) C dL_law_2512 rfl ?_
  refine r_iaddN (pc := 2513) C dL_law_2513 ?_
  refine r_sld (pc := 2514) (x := 6 * n + 1) C hX hbl hbA rfl (by omega) (by omega) dL_law_2514 ?_
  refine r_aload_n (pc := 2515) C 1 dL_law_2515 rfl rfl ?_
  refine r_iload (pc := 2516) C 6 dL_law_2516 rfl ?_
  refine r_iconst (pc := 2518) (v := 2) C dL_law_2518 rfl ?_
  refine r_iaddN (pc := 2519) C dL_law_2519 ?_
  refine r_sld (pc := 2520) (x := 6 * n + 2) C hX hbl hbA rfl (by omega) (by omega) dL_law_2520 ?_
  refine r_aload_n (pc := 2521) C 1 dL_law_2521 rfl rfl ?_
  refine r_iload (pc := 2522) C 6 dL_law_2522 rfl ?_
  refine r_iconst (pc := 2524) (v := 3) C dL_law_2524 rfl ?_
  refine r_iaddN (pc := 2525) C dL_law_2525 ?_
  refine r_sld (pc := 2526) (x := 6 * n + 3) C hX hbl hbA rfl (by omega) (by omega) dL_law_2526 ?_
  refine r_callV (pc := 2527) C hfl k_L_313 hM9 hI1.2.1.1 ca_X10 rfl rfl (Nat.le_of_ble_eq_true rfl) ⟨by omega, by decide⟩ ⟨by omega, by omega⟩ dL_law_2527 (fun r2 X2 T2 I2 h2 => ?_)
  obtain ⟨rfl, rfl, rfl, hc2, hI2⟩ := h2
  refine r_st (st' := .int i9 :: _) rfl ?_
  refine r_istore (pc := 2530) (lo' := [(7, _), (6, _), (0, _), (1, _), (2, _), (3, _), (4, _), (5, _)]) C dL_law_2530 (by decide) rfl ?_
  refine r_aload_n (pc := 2532) C 4 dL_law_2532 rfl rfl ?_
  refine r_callV (pc := 2533) C hfl k_L_189 (thrown_c hI2.2.1) hI2.2.1.1 ca_X10 rfl rfl (Nat.le_of_ble_eq_true rfl) ⟨by omega, by decide⟩ ⟨by omega, by omega⟩ dL_law_2533 (fun r3 X3 T3 I3 h3 => ?_)
  obtain ⟨rfl, rfl, rfl, rfl⟩ := h3
  refine r_st (st' := .int (I3 M 0) :: _) rfl ?_
  refine r_iload (pc := 2536) C 1 dL_law_2536 rfl ?_
  refine r_ceq (pc := 2538) (tgt := 2543) C dL_law_2538 rfl (fun _ => ?_) (fun c => absurd (hc2 (by decide)) c)
  refine r_iload (pc := 2543) C 1 dL_law_2543 rfl ?_
  have hfin : Go g k 9 Q (600 + 30 * n + 30 + 0 + 0) (6000 + 4200 * n + 4200 + 0 + 0) 2560 [(7, .int i9), (6, .int (nI kx)), (0, .ref b), (1, .ref x), (2, .ref M), (3, .ref a), (4, .ref d), (5, .int (nI (6 * n)))] [] (XO g a f1 d h) T3 I3 := r_goto (pc := 2560) (tgt := 3549) C dL_law_2560 rfl (r_ls (lo' := lo0 b x M a d (6 * n)) [2, 3, 4, 5, 6, 7] rfl (r_wide (by omega) (by omega) (hback f1 h T3 I3 s' hI2)))
  refine r_ifne (pc := 2545) (tgt := 2560) C dL_law_2545 rfl (fun _ => hfin) (fun c0 => ?_)
  have hk0 : kx = 0 := nI_j (by have : kx ≤ 3 := hk; omega) (by decide) c0
  subst hk0
  obtain ⟨i1, rfl, e2⟩ := hv1 rfl
  have e9 : i9 = i1 := by injection (hb rfl)
  subst e9
  refine r_aload_n (pc := 2548) C 5 dL_law_2548 rfl rfl ?_
  refine r_iconst (pc := 2549) (v := 0) C dL_law_2549 rfl ?_
  refine r_jald (pc := 2550) C dL_law_2550 ?_
  refine r_iload (pc := 2551) C 0 dL_law_2551 rfl ?_
  refine r_i2l (pc := 2553) C dL_law_2553 ?_
  refine r_lcmpE (pc := 2554) C dL_law_2554 e2.symm ?_
  exact r_ifeq (pc := 2555) (tgt := 2560) C dL_law_2555 rfl (fun _ => hfin) (fun c => absurd rfl c)

set_option maxHeartbeats 1000000 in
theorem lw_39 (S : LwC g k b L xs) (hn : 6 * n + 6 ≤ L) (hI : Iv x M T I s s n) (hback : Bk g k Q b x M a d n) : Go g k 9 Q (600 + 30 * n) (6000 + 4200 * n) 2563 (lo0 b x M a d (6 * n)) [] (XO g a f d h) T I := by
  obtain ⟨C, hfl, hnc, hX, hbl, hbA, hL⟩ := S
  obtain ⟨kx, v, s', ⟨hk, hv⟩, hO, hR⟩ := op_riskiest (g := g) (X := XO g a f d h) (T := T) (I := I) hI (by omega) 
  refine r_aload_n (pc := 2563) C 1 dL_law_2563 rfl rfl ?_
  refine r_aload_n (pc := 2564) C 3 dL_law_2564 rfl rfl ?_
  refine r_callW (pc := 2565) C hfl hnc k_L_314 (w_riskiest hI.1 hk hv hO) rfl rfl (Nat.le_of_ble_eq_true rfl) (by decide) ⟨by omega, by omega⟩ dL_law_2565 (fun r1 X1 T1 I1 h1 => ?_)
  obtain ⟨rfl, hI1, f1, rfl, hv1⟩ := h1
  refine r_st (st' := .int (nI kx) :: _) rfl ?_
  refine r_istore (pc := 2568) (lo' := [(6, _), (0, _), (1, _), (2, _), (3, _), (4, _), (5, _)]) C dL_law_2568 (by decide) rfl ?_
  obtain ⟨b9, ⟨hb, i9, rfl⟩, d9, hd9, hM9⟩ := hR (XO g a f1 d h) T1 I1 hI1
  refine r_aload_n (pc := 2570) C 3 dL_law_2570 rfl rfl ?_
  refine r_callV (pc := 2571) C hfl k_L_317 hM9 hI1.2.1.1 ca_X10 rfl rfl (Nat.le_of_ble_eq_true rfl) ⟨by omega, by decide⟩ ⟨by omega, by omega⟩ dL_law_2571 (fun r2 X2 T2 I2 h2 => ?_)
  obtain ⟨rfl, rfl, rfl, hc2, hI2⟩ := h2
  refine r_st (st' := .int i9 :: _) rfl ?_
  refine r_istore (pc := 2574) (lo' := [(7, _), (6, _), (0, _), (1, _), (2, _), (3, _), (4, _), (5, _)]) C dL_law_2574 (by decide) rfl ?_
  refine r_aload_n (pc := 2576) C 4 dL_law_2576 rfl rfl ?_
  refine r_callV (pc := 2577) C hfl k_L_189 (thrown_c hI2.2.1) hI2.2.1.1 ca_X10 rfl rfl (Nat.le_of_ble_eq_true rfl) ⟨by omega, by decide⟩ ⟨by omega, by omega⟩ dL_law_2577 (fun r3 X3 T3 I3 h3 => ?_)
  obtain ⟨rfl, rfl, rfl, rfl⟩ := h3
  refine r_st (st' := .int (I3 M 0) :: _) rfl ?_
  refine r_iload (pc := 2580) C 1 dL_law_2580 rfl ?_
  refine r_ceq (pc := 2582) (tgt := 2587) C dL_law_2582 rfl (fun _ => ?_) (fun c => absurd (hc2 (by decide)) c)
  refine r_iload (pc := 2587) C 1 dL_law_2587 rfl ?_
  have hfin : Go g k 9 Q (600 + 30 * n + 30 + 0 + 0) (6000 + 4200 * n + 4200 + 0 + 0) 2604 [(7, .int i9), (6, .int (nI kx)), (0, .ref b), (1, .ref x), (2, .ref M), (3, .ref a), (4, .ref d), (5, .int (nI (6 * n)))] [] (XO g a f1 d h) T3 I3 := r_goto (pc := 2604) (tgt := 3549) C dL_law_2604 rfl (r_ls (lo' := lo0 b x M a d (6 * n)) [2, 3, 4, 5, 6, 7] rfl (r_wide (by omega) (by omega) (hback f1 h T3 I3 s' hI2)))
  refine r_ifne (pc := 2589) (tgt := 2604) C dL_law_2589 rfl (fun _ => hfin) (fun c0 => ?_)
  have hk0 : kx = 0 := nI_j (by have : kx ≤ 1 := hk; omega) (by decide) c0
  subst hk0
  obtain ⟨i1, rfl, e2⟩ := hv1 rfl
  have e9 : i9 = i1 := by injection (hb rfl)
  subst e9
  refine r_aload_n (pc := 2592) C 5 dL_law_2592 rfl rfl ?_
  refine r_iconst (pc := 2593) (v := 0) C dL_law_2593 rfl ?_
  refine r_jald (pc := 2594) C dL_law_2594 ?_
  refine r_iload (pc := 2595) C 0 dL_law_2595 rfl ?_
  refine r_i2l (pc := 2597) C dL_law_2597 ?_
  refine r_lcmpE (pc := 2598) C dL_law_2598 e2.symm ?_
  exact r_ifeq (pc := 2599) (tgt := 2604) C dL_law_2599 rfl (fun _ => hfin) (fun c => absurd rfl c)

set_option maxHeartbeats 1000000 in
theorem lw_40 (S : LwC g k b L xs) (hn : 6 * n + 6 ≤ L) (hI : Iv x M T I s s n) (hback : Bk g k Q b x M a d n) : Go g k 9 Q (600 + 30 * n) (6000 + 4200 * n) 2607 (lo0 b x M a d (6 * n)) [] (XO g a f d h) T I := by
  obtain ⟨C, hfl, hnc, hX, hbl, hbA, hL⟩ := S
  obtain ⟨kx, v, s', ⟨hk, hv⟩, hO, hR⟩ := op_loanByDebt (g := g) (X := XO g a f d h) (T := T) (I := I) hI (by omega) (xs (6 * n + 1))
  refine r_aload_n (pc := 2607) C 1 dL_law_2607 rfl rfl ?_
  refine r_aload_n (pc := 2608) C 0 dL_law_2608 rfl rfl ?_
  refine r_iload (pc := 2609) C 5 dL_law_2609 rfl ?_
  refine r_iconst (pc := 2611) (v := 1) C dL_law_2611 rfl ?_
  refine r_iaddN (pc := 2612) C dL_law_2612 ?_
  refine r_sld (pc := 2613) (x := 6 * n + 1) C hX hbl hbA rfl (by omega) (by omega) dL_law_2613 ?_
  refine r_aload_n (pc := 2614) C 3 dL_law_2614 rfl rfl ?_
  refine r_callW (pc := 2615) C hfl hnc k_L_318 (w_loanByDebt hI.1 hk hv hO) rfl rfl (Nat.le_of_ble_eq_true rfl) (by decide) ⟨by omega, by omega⟩ dL_law_2615 (fun r1 X1 T1 I1 h1 => ?_)
  obtain ⟨rfl, hI1, f1, rfl, hv1⟩ := h1
  refine r_st (st' := .int (nI kx) :: _) rfl ?_
  refine r_istore (pc := 2618) (lo' := [(6, _), (0, _), (1, _), (2, _), (3, _), (4, _), (5, _)]) C dL_law_2618 (by decide) rfl ?_
  obtain ⟨b9, ⟨hb, i9, rfl⟩, d9, hd9, hM9⟩ := hR (XO g a f1 d h) T1 I1 hI1
  refine r_aload_n (pc := 2620) C 3 dL_law_2620 rfl rfl ?_
  refine r_aload_n (pc := 2621) C 1 dL_law_2621 rfl rfl ?_
  refine r_iload (pc := 2622) C 6 dL_law_2622 rfl ?_
  refine r_iconst (pc := 2624) (v := 1) C dL_law_2624 rfl ?_
  refine r_iaddN (pc := 2625) C dL_law_2625 ?_
  refine r_sld (pc := 2626) (x := 6 * n + 1) C hX hbl hbA rfl (by omega) (by omega) dL_law_2626 ?_
  refine r_callV (pc := 2627) C hfl k_L_320 hM9 hI1.2.1.1 ca_X10 rfl rfl (Nat.le_of_ble_eq_true rfl) ⟨by omega, by decide⟩ ⟨by omega, by omega⟩ dL_law_2627 (fun r2 X2 T2 I2 h2 => ?_)
  obtain ⟨rfl, rfl, rfl, hc2, hI2⟩ := h2
  refine r_st (st' := .int i9 :: _) rfl ?_
  refine r_istore (pc := 2630) (lo' := [(7, _), (6, _), (0, _), (1, _), (2, _), (3, _), (4, _), (5, _)]) C dL_law_2630 (by decide) rfl ?_
  refine r_aload_n (pc := 2632) C 4 dL_law_2632 rfl rfl ?_
  refine r_callV (pc := 2633) C hfl k_L_189 (thrown_c hI2.2.1) hI2.2.1.1 ca_X10 rfl rfl (Nat.le_of_ble_eq_true rfl) ⟨by omega, by decide⟩ ⟨by omega, by omega⟩ dL_law_2633 (fun r3 X3 T3 I3 h3 => ?_)
  obtain ⟨rfl, rfl, rfl, rfl⟩ := h3
  refine r_st (st' := .int (I3 M 0) :: _) rfl ?_
  refine r_iload (pc := 2636) C 1 dL_law_2636 rfl ?_
  refine r_ceq (pc := 2638) (tgt := 2643) C dL_law_2638 rfl (fun _ => ?_) (fun c => absurd (hc2 (by decide)) c)
  refine r_iload (pc := 2643) C 1 dL_law_2643 rfl ?_
  have hfin : Go g k 9 Q (600 + 30 * n + 30 + 0 + 0) (6000 + 4200 * n + 4200 + 0 + 0) 2660 [(7, .int i9), (6, .int (nI kx)), (0, .ref b), (1, .ref x), (2, .ref M), (3, .ref a), (4, .ref d), (5, .int (nI (6 * n)))] [] (XO g a f1 d h) T3 I3 := r_goto (pc := 2660) (tgt := 3549) C dL_law_2660 rfl (r_ls (lo' := lo0 b x M a d (6 * n)) [2, 3, 4, 5, 6, 7] rfl (r_wide (by omega) (by omega) (hback f1 h T3 I3 s' hI2)))
  refine r_ifne (pc := 2645) (tgt := 2660) C dL_law_2645 rfl (fun _ => hfin) (fun c0 => ?_)
  have hk0 : kx = 0 := nI_j (by have : kx ≤ 1 := hk; omega) (by decide) c0
  subst hk0
  obtain ⟨i1, rfl, e2⟩ := hv1 rfl
  have e9 : i9 = i1 := by injection (hb rfl)
  subst e9
  refine r_aload_n (pc := 2648) C 5 dL_law_2648 rfl rfl ?_
  refine r_iconst (pc := 2649) (v := 0) C dL_law_2649 rfl ?_
  refine r_jald (pc := 2650) C dL_law_2650 ?_
  refine r_iload (pc := 2651) C 0 dL_law_2651 rfl ?_
  refine r_i2l (pc := 2653) C dL_law_2653 ?_
  refine r_lcmpE (pc := 2654) C dL_law_2654 e2.symm ?_
  exact r_ifeq (pc := 2655) (tgt := 2660) C dL_law_2655 rfl (fun _ => hfin) (fun c => absurd rfl c)

set_option maxHeartbeats 1000000 in
theorem lw_41 (S : LwC g k b L xs) (hn : 6 * n + 6 ≤ L) (hI : Iv x M T I s s n) (hback : Bk g k Q b x M a d n) : Go g k 9 Q (600 + 30 * n) (6000 + 4200 * n) 2663 (lo0 b x M a d (6 * n)) [] (XO g a f d h) T I := by
  obtain ⟨C, hfl, hnc, hX, hbl, hbA, hL⟩ := S
  obtain ⟨kx, v, s', ⟨hk, hv⟩, ⟨d8, cm, cs, e1, e2, e3, hO⟩, hR⟩ := op_ledgerSize (g := g) (X := XO g a f d h) (T := T) (I := I) hI (by omega) 
  have hk0 : kx = 0 := Nat.le_zero.mp hk
  subst hk0
  obtain ⟨i8, rfl⟩ := hv rfl
  refine r_aload_n (pc := 2663) C 1 dL_law_2663 rfl rfl ?_
  refine r_callV (pc := 2664) C hfl k_L_321 (hO.mc (fun _ _ _ _ z => z.1 rfl)) hI.1.1 ca_X9 rfl rfl (Nat.le_of_ble_eq_true rfl) ⟨by omega, by decide⟩ ⟨by omega, by omega⟩ dL_law_2664 (fun r1 X1 T1 I1 h1 => ?_)
  obtain ⟨-, rfl, rfl, hI1⟩ := h1
  refine r_st (st' := .int i8 :: _) rfl ?_
  obtain ⟨b9, ⟨hb, i9, rfl⟩, d9, hd9, hM9⟩ := hR (XO g a f d h) T1 I1 hI1
  have e9 : i9 = i8 := by injection (hb rfl)
  refine r_aload_n (pc := 2667) C 2 dL_law_2667 rfl rfl ?_
  refine r_callV (pc := 2668) C hfl k_L_324 hM9 hI1.2.1.1 ca_X10 rfl rfl (Nat.le_of_ble_eq_true rfl) ⟨by omega, by decide⟩ ⟨by omega, by omega⟩ dL_law_2668 (fun r2 X2 T2 I2 h2 => ?_)
  obtain ⟨rfl, rfl, rfl, hc2, hI2⟩ := h2
  refine r_st (st' := .int i9 :: _) rfl ?_
  exact r_ceq (pc := 2671) (tgt := 3549) C dL_law_2671 rfl (fun _ => r_wide (by omega) (by omega) (hback f h T2 I2 s' hI2)) (fun c => absurd e9.symm c)

set_option maxHeartbeats 1000000 in
theorem lw_42 (S : LwC g k b L xs) (hn : 6 * n + 6 ≤ L) (hI : Iv x M T I s s n) (hback : Bk g k Q b x M a d n) : Go g k 9 Q (600 + 30 * n) (6000 + 4200 * n) 2676 (lo0 b x M a d (6 * n)) [] (XO g a f d h) T I := by
  obtain ⟨C, hfl, hnc, hX, hbl, hbA, hL⟩ := S
  obtain ⟨kx, v, s', ⟨hk, hv⟩, hO, hR⟩ := op_ledgerAmount (g := g) (X := XO g a f d h) (T := T) (I := I) hI (by omega) (xs (6 * n + 1)) (xs (6 * n + 2))
  refine r_aload_n (pc := 2676) C 1 dL_law_2676 rfl rfl ?_
  refine r_aload_n (pc := 2677) C 0 dL_law_2677 rfl rfl ?_
  refine r_iload (pc := 2678) C 5 dL_law_2678 rfl ?_
  refine r_iconst (pc := 2680) (v := 1) C dL_law_2680 rfl ?_
  refine r_iaddN (pc := 2681) C dL_law_2681 ?_
  refine r_sld (pc := 2682) (x := 6 * n + 1) C hX hbl hbA rfl (by omega) (by omega) dL_law_2682 ?_
  refine r_aload_n (pc := 2683) C 0 dL_law_2683 rfl rfl ?_
  refine r_iload (pc := 2684) C 5 dL_law_2684 rfl ?_
  refine r_iconst (pc := 2686) (v := 2) C dL_law_2686 rfl ?_
  refine r_iaddN (pc := 2687) C dL_law_2687 ?_
  refine r_sld (pc := 2688) (x := 6 * n + 2) C hX hbl hbA rfl (by omega) (by omega) dL_law_2688 ?_
  refine r_aload_n (pc := 2689) C 3 dL_law_2689 rfl rfl ?_
  refine r_callW (pc := 2690) C hfl hnc k_L_325 (w_ledgerAmount hI.1 hk hv hO) rfl rfl (Nat.le_of_ble_eq_true rfl) (by decide) ⟨by omega, by omega⟩ dL_law_2690 (fun r1 X1 T1 I1 h1 => ?_)
  obtain ⟨rfl, hI1, f1, rfl, hv1⟩ := h1
  refine r_st (st' := .int (nI kx) :: _) rfl ?_
  refine r_istore (pc := 2693) (lo' := [(6, _), (0, _), (1, _), (2, _), (3, _), (4, _), (5, _)]) C dL_law_2693 (by decide) rfl ?_
  obtain ⟨b9, ⟨hb, i9, rfl⟩, d9, hd9, hM9⟩ := hR (XO g a f1 d h) T1 I1 hI1
  refine r_aload_n (pc := 2695) C 3 dL_law_2695 rfl rfl ?_
  refine r_aload_n (pc := 2696) C 1 dL_law_2696 rfl rfl ?_
  refine r_iload (pc := 2697) C 6 dL_law_2697 rfl ?_
  refine r_iconst (pc := 2699) (v := 1) C dL_law_2699 rfl ?_
  refine r_iaddN (pc := 2700) C dL_law_2700 ?_
  refine r_sld (pc := 2701) (x := 6 * n + 1) C hX hbl hbA rfl (by omega) (by omega) dL_law_2701 ?_
  refine r_aload_n (pc := 2702) C 1 dL_law_2702 rfl rfl ?_
  refine r_iload (pc := 2703) C 6 dL_law_2703 rfl ?_
  refine r_iconst (pc := 2705) (v := 2) C dL_law_2705 rfl ?_
  refine r_iaddN (pc := 2706) C dL_law_2706 ?_
  refine r_sld (pc := 2707) (x := 6 * n + 2) C hX hbl hbA rfl (by omega) (by omega) dL_law_2707 ?_
  refine r_callV (pc := 2708) C hfl k_L_327 hM9 hI1.2.1.1 ca_X10 rfl rfl (Nat.le_of_ble_eq_true rfl) ⟨by omega, by decide⟩ ⟨by omega, by omega⟩ dL_law_2708 (fun r2 X2 T2 I2 h2 => ?_)
  obtain ⟨rfl, rfl, rfl, hc2, hI2⟩ := h2
  refine r_st (st' := .int i9 :: _) rfl ?_
  refine r_istore (pc := 2711) (lo' := [(7, _), (6, _), (0, _), (1, _), (2, _), (3, _), (4, _), (5, _)]) C dL_law_2711 (by decide) rfl ?_
  refine r_aload_n (pc := 2713) C 4 dL_law_2713 rfl rfl ?_
  refine r_callV (pc := 2714) C hfl k_L_189 (thrown_c hI2.2.1) hI2.2.1.1 ca_X10 rfl rfl (Nat.le_of_ble_eq_true rfl) ⟨by omega, by decide⟩ ⟨by omega, by omega⟩ dL_law_2714 (fun r3 X3 T3 I3 h3 => ?_)
  obtain ⟨rfl, rfl, rfl, rfl⟩ := h3
  refine r_st (st' := .int (I3 M 0) :: _) rfl ?_
  refine r_iload (pc := 2717) C 1 dL_law_2717 rfl ?_
  refine r_ceq (pc := 2719) (tgt := 2724) C dL_law_2719 rfl (fun _ => ?_) (fun c => absurd (hc2 (by decide)) c)
  refine r_iload (pc := 2724) C 1 dL_law_2724 rfl ?_
  have hfin : Go g k 9 Q (600 + 30 * n + 30 + 0 + 0) (6000 + 4200 * n + 4200 + 0 + 0) 2741 [(7, .int i9), (6, .int (nI kx)), (0, .ref b), (1, .ref x), (2, .ref M), (3, .ref a), (4, .ref d), (5, .int (nI (6 * n)))] [] (XO g a f1 d h) T3 I3 := r_goto (pc := 2741) (tgt := 3549) C dL_law_2741 rfl (r_ls (lo' := lo0 b x M a d (6 * n)) [2, 3, 4, 5, 6, 7] rfl (r_wide (by omega) (by omega) (hback f1 h T3 I3 s' hI2)))
  refine r_ifne (pc := 2726) (tgt := 2741) C dL_law_2726 rfl (fun _ => hfin) (fun c0 => ?_)
  have hk0 : kx = 0 := nI_j (by have : kx ≤ 1 := hk; omega) (by decide) c0
  subst hk0
  obtain ⟨i1, rfl, e2⟩ := hv1 rfl
  have e9 : i9 = i1 := by injection (hb rfl)
  subst e9
  refine r_aload_n (pc := 2729) C 5 dL_law_2729 rfl rfl ?_
  refine r_iconst (pc := 2730) (v := 0) C dL_law_2730 rfl ?_
  refine r_jald (pc := 2731) C dL_law_2731 ?_
  refine r_iload (pc := 2732) C 0 dL_law_2732 rfl ?_
  refine r_i2l (pc := 2734) C dL_law_2734 ?_
  refine r_lcmpE (pc := 2735) C dL_law_2735 e2.symm ?_
  exact r_ifeq (pc := 2736) (tgt := 2741) C dL_law_2736 rfl (fun _ => hfin) (fun c => absurd rfl c)

set_option maxHeartbeats 1000000 in
theorem lw_43 (S : LwC g k b L xs) (hn : 6 * n + 6 ≤ L) (hI : Iv x M T I s s n) (hback : Bk g k Q b x M a d n) : Go g k 9 Q (600 + 30 * n) (6000 + 4200 * n) 2744 (lo0 b x M a d (6 * n)) [] (XO g a f d h) T I := by
  obtain ⟨C, hfl, hnc, hX, hbl, hbA, hL⟩ := S
  obtain ⟨kx, v, s', ⟨hk, hv⟩, hO, hR⟩ := op_ledgerDay (g := g) (X := XO g a f d h) (T := T) (I := I) hI (by omega) (xs (6 * n + 1))
  refine r_aload_n (pc := 2744) C 1 dL_law_2744 rfl rfl ?_
  refine r_aload_n (pc := 2745) C 0 dL_law_2745 rfl rfl ?_
  refine r_iload (pc := 2746) C 5 dL_law_2746 rfl ?_
  refine r_iconst (pc := 2748) (v := 1) C dL_law_2748 rfl ?_
  refine r_iaddN (pc := 2749) C dL_law_2749 ?_
  refine r_sld (pc := 2750) (x := 6 * n + 1) C hX hbl hbA rfl (by omega) (by omega) dL_law_2750 ?_
  refine r_aload_n (pc := 2751) C 3 dL_law_2751 rfl rfl ?_
  refine r_callW (pc := 2752) C hfl hnc k_L_328 (w_ledgerDay hI.1 hk hv hO) rfl rfl (Nat.le_of_ble_eq_true rfl) (by decide) ⟨by omega, by omega⟩ dL_law_2752 (fun r1 X1 T1 I1 h1 => ?_)
  obtain ⟨rfl, hI1, f1, rfl, hv1⟩ := h1
  refine r_st (st' := .int (nI kx) :: _) rfl ?_
  refine r_istore (pc := 2755) (lo' := [(6, _), (0, _), (1, _), (2, _), (3, _), (4, _), (5, _)]) C dL_law_2755 (by decide) rfl ?_
  obtain ⟨b9, ⟨hb, i9, rfl⟩, d9, hd9, hM9⟩ := hR (XO g a f1 d h) T1 I1 hI1
  refine r_aload_n (pc := 2757) C 3 dL_law_2757 rfl rfl ?_
  refine r_aload_n (pc := 2758) C 1 dL_law_2758 rfl rfl ?_
  refine r_iload (pc := 2759) C 6 dL_law_2759 rfl ?_
  refine r_iconst (pc := 2761) (v := 1) C dL_law_2761 rfl ?_
  refine r_iaddN (pc := 2762) C dL_law_2762 ?_
  refine r_sld (pc := 2763) (x := 6 * n + 1) C hX hbl hbA rfl (by omega) (by omega) dL_law_2763 ?_
  refine r_callV (pc := 2764) C hfl k_L_330 hM9 hI1.2.1.1 ca_X10 rfl rfl (Nat.le_of_ble_eq_true rfl) ⟨by omega, by decide⟩ ⟨by omega, by omega⟩ dL_law_2764 (fun r2 X2 T2 I2 h2 => ?_)
  obtain ⟨rfl, rfl, rfl, hc2, hI2⟩ := h2
  refine r_st (st' := .int i9 :: _) rfl ?_
  refine r_istore (pc := 2767) (lo' := [(7, _), (6, _), (0, _), (1, _), (2, _), (3, _), (4, _), (5, _)]) C dL_law_2767 (by decide) rfl ?_
  refine r_aload_n (pc := 2769) C 4 dL_law_2769 rfl rfl ?_
  refine r_callV (pc := 2770) C hfl k_L_189 (thrown_c hI2.2.1) hI2.2.1.1 ca_X10 rfl rfl (Nat.le_of_ble_eq_true rfl) ⟨by omega, by decide⟩ ⟨by omega, by omega⟩ dL_law_2770 (fun r3 X3 T3 I3 h3 => ?_)
  obtain ⟨rfl, rfl, rfl, rfl⟩ := h3
  refine r_st (st' := .int (I3 M 0) :: _) rfl ?_
  refine r_iload (pc := 2773) C 1 dL_law_2773 rfl ?_
  refine r_ceq (pc := 2775) (tgt := 2780) C dL_law_2775 rfl (fun _ => ?_) (fun c => absurd (hc2 (by decide)) c)
  refine r_iload (pc := 2780) C 1 dL_law_2780 rfl ?_
  have hfin : Go g k 9 Q (600 + 30 * n + 30 + 0 + 0) (6000 + 4200 * n + 4200 + 0 + 0) 2797 [(7, .int i9), (6, .int (nI kx)), (0, .ref b), (1, .ref x), (2, .ref M), (3, .ref a), (4, .ref d), (5, .int (nI (6 * n)))] [] (XO g a f1 d h) T3 I3 := r_goto (pc := 2797) (tgt := 3549) C dL_law_2797 rfl (r_ls (lo' := lo0 b x M a d (6 * n)) [2, 3, 4, 5, 6, 7] rfl (r_wide (by omega) (by omega) (hback f1 h T3 I3 s' hI2)))
  refine r_ifne (pc := 2782) (tgt := 2797) C dL_law_2782 rfl (fun _ => hfin) (fun c0 => ?_)
  have hk0 : kx = 0 := nI_j (by have : kx ≤ 1 := hk; omega) (by decide) c0
  subst hk0
  obtain ⟨i1, rfl, e2⟩ := hv1 rfl
  have e9 : i9 = i1 := by injection (hb rfl)
  subst e9
  refine r_aload_n (pc := 2785) C 5 dL_law_2785 rfl rfl ?_
  refine r_iconst (pc := 2786) (v := 0) C dL_law_2786 rfl ?_
  refine r_jald (pc := 2787) C dL_law_2787 ?_
  refine r_iload (pc := 2788) C 0 dL_law_2788 rfl ?_
  refine r_i2l (pc := 2790) C dL_law_2790 ?_
  refine r_lcmpE (pc := 2791) C dL_law_2791 e2.symm ?_
  exact r_ifeq (pc := 2792) (tgt := 2797) C dL_law_2792 rfl (fun _ => hfin) (fun c => absurd rfl c)

set_option maxHeartbeats 1000000 in
theorem lw_44 (S : LwC g k b L xs) (hn : 6 * n + 6 ≤ L) (hI : Iv x M T I s s n) (hback : Bk g k Q b x M a d n) : Go g k 9 Q (600 + 30 * n) (6000 + 4200 * n) 2800 (lo0 b x M a d (6 * n)) [] (XO g a f d h) T I := by
  obtain ⟨C, hfl, hnc, hX, hbl, hbA, hL⟩ := S
  obtain ⟨kx, v, s', ⟨hk, hv⟩, hO, hR⟩ := op_ledgerLoan (g := g) (X := XO g a f d h) (T := T) (I := I) hI (by omega) (xs (6 * n + 1))
  refine r_aload_n (pc := 2800) C 1 dL_law_2800 rfl rfl ?_
  refine r_aload_n (pc := 2801) C 0 dL_law_2801 rfl rfl ?_
  refine r_iload (pc := 2802) C 5 dL_law_2802 rfl ?_
  refine r_iconst (pc := 2804) (v := 1) C dL_law_2804 rfl ?_
  refine r_iaddN (pc := 2805) C dL_law_2805 ?_
  refine r_sld (pc := 2806) (x := 6 * n + 1) C hX hbl hbA rfl (by omega) (by omega) dL_law_2806 ?_
  refine r_aload_n (pc := 2807) C 3 dL_law_2807 rfl rfl ?_
  refine r_callW (pc := 2808) C hfl hnc k_L_331 (w_ledgerLoan hI.1 hk hv hO) rfl rfl (Nat.le_of_ble_eq_true rfl) (by decide) ⟨by omega, by omega⟩ dL_law_2808 (fun r1 X1 T1 I1 h1 => ?_)
  obtain ⟨rfl, hI1, f1, rfl, hv1⟩ := h1
  refine r_st (st' := .int (nI kx) :: _) rfl ?_
  refine r_istore (pc := 2811) (lo' := [(6, _), (0, _), (1, _), (2, _), (3, _), (4, _), (5, _)]) C dL_law_2811 (by decide) rfl ?_
  obtain ⟨b9, ⟨hb, i9, rfl⟩, d9, hd9, hM9⟩ := hR (XO g a f1 d h) T1 I1 hI1
  refine r_aload_n (pc := 2813) C 3 dL_law_2813 rfl rfl ?_
  refine r_aload_n (pc := 2814) C 1 dL_law_2814 rfl rfl ?_
  refine r_iload (pc := 2815) C 6 dL_law_2815 rfl ?_
  refine r_iconst (pc := 2817) (v := 1) C dL_law_2817 rfl ?_
  refine r_iaddN (pc := 2818) C dL_law_2818 ?_
  refine r_sld (pc := 2819) (x := 6 * n + 1) C hX hbl hbA rfl (by omega) (by omega) dL_law_2819 ?_
  refine r_callV (pc := 2820) C hfl k_L_333 hM9 hI1.2.1.1 ca_X10 rfl rfl (Nat.le_of_ble_eq_true rfl) ⟨by omega, by decide⟩ ⟨by omega, by omega⟩ dL_law_2820 (fun r2 X2 T2 I2 h2 => ?_)
  obtain ⟨rfl, rfl, rfl, hc2, hI2⟩ := h2
  refine r_st (st' := .int i9 :: _) rfl ?_
  refine r_istore (pc := 2823) (lo' := [(7, _), (6, _), (0, _), (1, _), (2, _), (3, _), (4, _), (5, _)]) C dL_law_2823 (by decide) rfl ?_
  refine r_aload_n (pc := 2825) C 4 dL_law_2825 rfl rfl ?_
  refine r_callV (pc := 2826) C hfl k_L_189 (thrown_c hI2.2.1) hI2.2.1.1 ca_X10 rfl rfl (Nat.le_of_ble_eq_true rfl) ⟨by omega, by decide⟩ ⟨by omega, by omega⟩ dL_law_2826 (fun r3 X3 T3 I3 h3 => ?_)
  obtain ⟨rfl, rfl, rfl, rfl⟩ := h3
  refine r_st (st' := .int (I3 M 0) :: _) rfl ?_
  refine r_iload (pc := 2829) C 1 dL_law_2829 rfl ?_
  refine r_ceq (pc := 2831) (tgt := 2836) C dL_law_2831 rfl (fun _ => ?_) (fun c => absurd (hc2 (by decide)) c)
  refine r_iload (pc := 2836) C 1 dL_law_2836 rfl ?_
  have hfin : Go g k 9 Q (600 + 30 * n + 30 + 0 + 0) (6000 + 4200 * n + 4200 + 0 + 0) 2853 [(7, .int i9), (6, .int (nI kx)), (0, .ref b), (1, .ref x), (2, .ref M), (3, .ref a), (4, .ref d), (5, .int (nI (6 * n)))] [] (XO g a f1 d h) T3 I3 := r_goto (pc := 2853) (tgt := 3549) C dL_law_2853 rfl (r_ls (lo' := lo0 b x M a d (6 * n)) [2, 3, 4, 5, 6, 7] rfl (r_wide (by omega) (by omega) (hback f1 h T3 I3 s' hI2)))
  refine r_ifne (pc := 2838) (tgt := 2853) C dL_law_2838 rfl (fun _ => hfin) (fun c0 => ?_)
  have hk0 : kx = 0 := nI_j (by have : kx ≤ 1 := hk; omega) (by decide) c0
  subst hk0
  obtain ⟨i1, rfl, e2⟩ := hv1 rfl
  have e9 : i9 = i1 := by injection (hb rfl)
  subst e9
  refine r_aload_n (pc := 2841) C 5 dL_law_2841 rfl rfl ?_
  refine r_iconst (pc := 2842) (v := 0) C dL_law_2842 rfl ?_
  refine r_jald (pc := 2843) C dL_law_2843 ?_
  refine r_iload (pc := 2844) C 0 dL_law_2844 rfl ?_
  refine r_i2l (pc := 2846) C dL_law_2846 ?_
  refine r_lcmpE (pc := 2847) C dL_law_2847 e2.symm ?_
  exact r_ifeq (pc := 2848) (tgt := 2853) C dL_law_2848 rfl (fun _ => hfin) (fun c => absurd rfl c)

set_option maxHeartbeats 1000000 in
theorem lw_45 (S : LwC g k b L xs) (hn : 6 * n + 6 ≤ L) (hI : Iv x M T I s s n) (hback : Bk g k Q b x M a d n) : Go g k 9 Q (600 + 30 * n) (6000 + 4200 * n) 2856 (lo0 b x M a d (6 * n)) [] (XO g a f d h) T I := by
  obtain ⟨C, hfl, hnc, hX, hbl, hbA, hL⟩ := S
  obtain ⟨kx, v, s', ⟨hk, hv⟩, ⟨d8, cm, cs, e1, e2, e3, hO⟩, hR⟩ := op_ledgerOf (g := g) (X := XO g a f d h) (T := T) (I := I) hI (by omega) (xs (6 * n + 1))
  have hk0 : kx = 0 := Nat.le_zero.mp hk
  subst hk0
  obtain ⟨i8, rfl⟩ := hv rfl
  refine r_aload_n (pc := 2856) C 1 dL_law_2856 rfl rfl ?_
  refine r_aload_n (pc := 2857) C 0 dL_law_2857 rfl rfl ?_
  refine r_iload (pc := 2858) C 5 dL_law_2858 rfl ?_
  refine r_iconst (pc := 2860) (v := 1) C dL_law_2860 rfl ?_
  refine r_iaddN (pc := 2861) C dL_law_2861 ?_
  refine r_sld (pc := 2862) (x := 6 * n + 1) C hX hbl hbA rfl (by omega) (by omega) dL_law_2862 ?_
  refine r_callV (pc := 2863) C hfl k_L_334 (hO.mc (fun _ _ _ _ z => z.1 rfl)) hI.1.1 ca_X9 rfl rfl (Nat.le_of_ble_eq_true rfl) ⟨by omega, by decide⟩ ⟨by omega, by omega⟩ dL_law_2863 (fun r1 X1 T1 I1 h1 => ?_)
  obtain ⟨-, rfl, rfl, hI1⟩ := h1
  refine r_st (st' := .int i8 :: _) rfl ?_
  obtain ⟨b9, ⟨hb, i9, rfl⟩, d9, hd9, hM9⟩ := hR (XO g a f d h) T1 I1 hI1
  have e9 : i9 = i8 := by injection (hb rfl)
  refine r_aload_n (pc := 2866) C 2 dL_law_2866 rfl rfl ?_
  refine r_aload_n (pc := 2867) C 0 dL_law_2867 rfl rfl ?_
  refine r_iload (pc := 2868) C 5 dL_law_2868 rfl ?_
  refine r_iconst (pc := 2870) (v := 1) C dL_law_2870 rfl ?_
  refine r_iaddN (pc := 2871) C dL_law_2871 ?_
  refine r_sld (pc := 2872) (x := 6 * n + 1) C hX hbl hbA rfl (by omega) (by omega) dL_law_2872 ?_
  refine r_callV (pc := 2873) C hfl k_L_337 hM9 hI1.2.1.1 ca_X10 rfl rfl (Nat.le_of_ble_eq_true rfl) ⟨by omega, by decide⟩ ⟨by omega, by omega⟩ dL_law_2873 (fun r2 X2 T2 I2 h2 => ?_)
  obtain ⟨rfl, rfl, rfl, hc2, hI2⟩ := h2
  refine r_st (st' := .int i9 :: _) rfl ?_
  exact r_ceq (pc := 2876) (tgt := 3549) C dL_law_2876 rfl (fun _ => r_wide (by omega) (by omega) (hback f h T2 I2 s' hI2)) (fun c => absurd e9.symm c)

set_option maxHeartbeats 1000000 in
theorem lw_46 (S : LwC g k b L xs) (hn : 6 * n + 6 ≤ L) (hI : Iv x M T I s s n) (hback : Bk g k Q b x M a d n) : Go g k 9 Q (600 + 30 * n) (6000 + 4200 * n) 2881 (lo0 b x M a d (6 * n)) [] (XO g a f d h) T I := by
  obtain ⟨C, hfl, hnc, hX, hbl, hbA, hL⟩ := S
  obtain ⟨kx, v, s', ⟨hk, hv⟩, ⟨d8, cm, cs, e1, e2, e3, hO⟩, hR⟩ := op_repaidLoans (g := g) (X := XO g a f d h) (T := T) (I := I) hI (by omega) 
  have hk0 : kx = 0 := Nat.le_zero.mp hk
  subst hk0
  obtain ⟨i8, rfl⟩ := hv rfl
  refine r_aload_n (pc := 2881) C 1 dL_law_2881 rfl rfl ?_
  refine r_callV (pc := 2882) C hfl k_L_338 (hO.mc (fun _ _ _ _ z => z.1 rfl)) hI.1.1 ca_X9 rfl rfl (Nat.le_of_ble_eq_true rfl) ⟨by omega, by decide⟩ ⟨by omega, by omega⟩ dL_law_2882 (fun r1 X1 T1 I1 h1 => ?_)
  obtain ⟨-, rfl, rfl, hI1⟩ := h1
  refine r_st (st' := .int i8 :: _) rfl ?_
  obtain ⟨b9, ⟨hb, i9, rfl⟩, d9, hd9, hM9⟩ := hR (XO g a f d h) T1 I1 hI1
  have e9 : i9 = i8 := by injection (hb rfl)
  refine r_aload_n (pc := 2885) C 2 dL_law_2885 rfl rfl ?_
  refine r_callV (pc := 2886) C hfl k_L_341 hM9 hI1.2.1.1 ca_X10 rfl rfl (Nat.le_of_ble_eq_true rfl) ⟨by omega, by decide⟩ ⟨by omega, by omega⟩ dL_law_2886 (fun r2 X2 T2 I2 h2 => ?_)
  obtain ⟨rfl, rfl, rfl, hc2, hI2⟩ := h2
  refine r_st (st' := .int i9 :: _) rfl ?_
  exact r_ceq (pc := 2889) (tgt := 3549) C dL_law_2889 rfl (fun _ => r_wide (by omega) (by omega) (hback f h T2 I2 s' hI2)) (fun c => absurd e9.symm c)

set_option maxHeartbeats 1000000 in
theorem lw_47 (S : LwC g k b L xs) (hn : 6 * n + 6 ≤ L) (hI : Iv x M T I s s n) (hback : Bk g k Q b x M a d n) : Go g k 9 Q (600 + 30 * n) (6000 + 4200 * n) 2894 (lo0 b x M a d (6 * n)) [] (XO g a f d h) T I := by
  obtain ⟨C, hfl, hnc, hX, hbl, hbA, hL⟩ := S
  obtain ⟨kx, v, s', ⟨hk, hv⟩, ⟨d8, cm, cs, e1, e2, e3, hO⟩, hR⟩ := op_defaultedLoans (g := g) (X := XO g a f d h) (T := T) (I := I) hI (by omega) 
  have hk0 : kx = 0 := Nat.le_zero.mp hk
  subst hk0
  obtain ⟨i8, rfl⟩ := hv rfl
  refine r_aload_n (pc := 2894) C 1 dL_law_2894 rfl rfl ?_
  refine r_callV (pc := 2895) C hfl k_L_342 (hO.mc (fun _ _ _ _ z => z.1 rfl)) hI.1.1 ca_X9 rfl rfl (Nat.le_of_ble_eq_true rfl) ⟨by omega, by decide⟩ ⟨by omega, by omega⟩ dL_law_2895 (fun r1 X1 T1 I1 h1 => ?_)
  obtain ⟨-, rfl, rfl, hI1⟩ := h1
  refine r_st (st' := .int i8 :: _) rfl ?_
  obtain ⟨b9, ⟨hb, i9, rfl⟩, d9, hd9, hM9⟩ := hR (XO g a f d h) T1 I1 hI1
  have e9 : i9 = i8 := by injection (hb rfl)
  refine r_aload_n (pc := 2898) C 2 dL_law_2898 rfl rfl ?_
  refine r_callV (pc := 2899) C hfl k_L_345 hM9 hI1.2.1.1 ca_X10 rfl rfl (Nat.le_of_ble_eq_true rfl) ⟨by omega, by decide⟩ ⟨by omega, by omega⟩ dL_law_2899 (fun r2 X2 T2 I2 h2 => ?_)
  obtain ⟨rfl, rfl, rfl, hc2, hI2⟩ := h2
  refine r_st (st' := .int i9 :: _) rfl ?_
  exact r_ceq (pc := 2902) (tgt := 3549) C dL_law_2902 rfl (fun _ => r_wide (by omega) (by omega) (hback f h T2 I2 s' hI2)) (fun c => absurd e9.symm c)

set_option maxHeartbeats 1000000 in
theorem lw_48 (S : LwC g k b L xs) (hn : 6 * n + 6 ≤ L) (hI : Iv x M T I s s n) (hback : Bk g k Q b x M a d n) : Go g k 9 Q (600 + 30 * n) (6000 + 4200 * n) 2907 (lo0 b x M a d (6 * n)) [] (XO g a f d h) T I := by
  obtain ⟨C, hfl, hnc, hX, hbl, hbA, hL⟩ := S
  obtain ⟨kx, v, s', ⟨hk, hv⟩, ⟨d8, cm, cs, e1, e2, e3, hO⟩, hR⟩ := op_losses (g := g) (X := XO g a f d h) (T := T) (I := I) hI (by omega) 
  have hk0 : kx = 0 := Nat.le_zero.mp hk
  subst hk0
  obtain ⟨i8, rfl⟩ := hv rfl
  refine r_aload_n (pc := 2907) C 1 dL_law_2907 rfl rfl ?_
  refine r_callV (pc := 2908) C hfl k_L_346 (hO.mc (fun _ _ _ _ z => z.1 rfl)) hI.1.1 ca_X9 rfl rfl (Nat.le_of_ble_eq_true rfl) ⟨by omega, by decide⟩ ⟨by omega, by omega⟩ dL_law_2908 (fun r1 X1 T1 I1 h1 => ?_)
  obtain ⟨-, rfl, rfl, hI1⟩ := h1
  refine r_st (st' := .int i8 :: _) rfl ?_
  obtain ⟨b9, ⟨hb, i9, rfl⟩, d9, hd9, hM9⟩ := hR (XO g a f d h) T1 I1 hI1
  have e9 : i9 = i8 := by injection (hb rfl)
  refine r_aload_n (pc := 2911) C 2 dL_law_2911 rfl rfl ?_
  refine r_callV (pc := 2912) C hfl k_L_349 hM9 hI1.2.1.1 ca_X10 rfl rfl (Nat.le_of_ble_eq_true rfl) ⟨by omega, by decide⟩ ⟨by omega, by omega⟩ dL_law_2912 (fun r2 X2 T2 I2 h2 => ?_)
  obtain ⟨rfl, rfl, rfl, hc2, hI2⟩ := h2
  refine r_st (st' := .int i9 :: _) rfl ?_
  exact r_ceq (pc := 2915) (tgt := 3549) C dL_law_2915 rfl (fun _ => r_wide (by omega) (by omega) (hback f h T2 I2 s' hI2)) (fun c => absurd e9.symm c)

set_option maxHeartbeats 1000000 in
theorem lw_49 (S : LwC g k b L xs) (hn : 6 * n + 6 ≤ L) (hI : Iv x M T I s s n) (hback : Bk g k Q b x M a d n) : Go g k 9 Q (600 + 30 * n) (6000 + 4200 * n) 2920 (lo0 b x M a d (6 * n)) [] (XO g a f d h) T I := by
  obtain ⟨C, hfl, hnc, hX, hbl, hbA, hL⟩ := S
  obtain ⟨kx, v, s', ⟨hk, hv⟩, ⟨d8, cm, cs, e1, e2, e3, hO⟩, hR⟩ := op_totalCoins (g := g) (X := XO g a f d h) (T := T) (I := I) hI (by omega) 
  have hk0 : kx = 0 := Nat.le_zero.mp hk
  subst hk0
  obtain ⟨i8, rfl⟩ := hv rfl
  refine r_aload_n (pc := 2920) C 1 dL_law_2920 rfl rfl ?_
  refine r_callV (pc := 2921) C hfl k_L_350 (hO.mc (fun _ _ _ _ z => z.1 rfl)) hI.1.1 ca_X9 rfl rfl (Nat.le_of_ble_eq_true rfl) ⟨by omega, by decide⟩ ⟨by omega, by omega⟩ dL_law_2921 (fun r1 X1 T1 I1 h1 => ?_)
  obtain ⟨-, rfl, rfl, hI1⟩ := h1
  refine r_st (st' := .int i8 :: _) rfl ?_
  obtain ⟨b9, ⟨hb, i9, rfl⟩, d9, hd9, hM9⟩ := hR (XO g a f d h) T1 I1 hI1
  have e9 : i9 = i8 := by injection (hb rfl)
  refine r_aload_n (pc := 2924) C 2 dL_law_2924 rfl rfl ?_
  refine r_callV (pc := 2925) C hfl k_L_353 hM9 hI1.2.1.1 ca_X10 rfl rfl (Nat.le_of_ble_eq_true rfl) ⟨by omega, by decide⟩ ⟨by omega, by omega⟩ dL_law_2925 (fun r2 X2 T2 I2 h2 => ?_)
  obtain ⟨rfl, rfl, rfl, hc2, hI2⟩ := h2
  refine r_st (st' := .int i9 :: _) rfl ?_
  exact r_ceq (pc := 2928) (tgt := 3549) C dL_law_2928 rfl (fun _ => r_wide (by omega) (by omega) (hback f h T2 I2 s' hI2)) (fun c => absurd e9.symm c)

set_option maxHeartbeats 1000000 in
theorem lw_50 (S : LwC g k b L xs) (hn : 6 * n + 6 ≤ L) (hI : Iv x M T I s s n) (hback : Bk g k Q b x M a d n) : Go g k 9 Q (600 + 30 * n) (6000 + 4200 * n) 2933 (lo0 b x M a d (6 * n)) [] (XO g a f d h) T I := by
  obtain ⟨C, hfl, hnc, hX, hbl, hbA, hL⟩ := S
  obtain ⟨kx, v, s', ⟨hk, hv⟩, hO, hR⟩ := op_totalUnits (g := g) (X := XO g a f d h) (T := T) (I := I) hI (by omega) (xs (6 * n + 1))
  refine r_aload_n (pc := 2933) C 1 dL_law_2933 rfl rfl ?_
  refine r_aload_n (pc := 2934) C 0 dL_law_2934 rfl rfl ?_
  refine r_iload (pc := 2935) C 5 dL_law_2935 rfl ?_
  refine r_iconst (pc := 2937) (v := 1) C dL_law_2937 rfl ?_
  refine r_iaddN (pc := 2938) C dL_law_2938 ?_
  refine r_sld (pc := 2939) (x := 6 * n + 1) C hX hbl hbA rfl (by omega) (by omega) dL_law_2939 ?_
  refine r_aload_n (pc := 2940) C 3 dL_law_2940 rfl rfl ?_
  refine r_callW (pc := 2941) C hfl hnc k_L_354 (w_totalUnits hI.1 hk hv hO) rfl rfl (Nat.le_of_ble_eq_true rfl) (by decide) ⟨by omega, by omega⟩ dL_law_2941 (fun r1 X1 T1 I1 h1 => ?_)
  obtain ⟨rfl, hI1, f1, rfl, hv1⟩ := h1
  refine r_st (st' := .int (nI kx) :: _) rfl ?_
  refine r_istore (pc := 2944) (lo' := [(6, _), (0, _), (1, _), (2, _), (3, _), (4, _), (5, _)]) C dL_law_2944 (by decide) rfl ?_
  obtain ⟨b9, ⟨hb, i9, rfl⟩, d9, hd9, hM9⟩ := hR (XO g a f1 d h) T1 I1 hI1
  refine r_aload_n (pc := 2946) C 3 dL_law_2946 rfl rfl ?_
  refine r_aload_n (pc := 2947) C 1 dL_law_2947 rfl rfl ?_
  refine r_iload (pc := 2948) C 6 dL_law_2948 rfl ?_
  refine r_iconst (pc := 2950) (v := 1) C dL_law_2950 rfl ?_
  refine r_iaddN (pc := 2951) C dL_law_2951 ?_
  refine r_sld (pc := 2952) (x := 6 * n + 1) C hX hbl hbA rfl (by omega) (by omega) dL_law_2952 ?_
  refine r_callV (pc := 2953) C hfl k_L_356 hM9 hI1.2.1.1 ca_X10 rfl rfl (Nat.le_of_ble_eq_true rfl) ⟨by omega, by decide⟩ ⟨by omega, by omega⟩ dL_law_2953 (fun r2 X2 T2 I2 h2 => ?_)
  obtain ⟨rfl, rfl, rfl, hc2, hI2⟩ := h2
  refine r_st (st' := .int i9 :: _) rfl ?_
  refine r_istore (pc := 2956) (lo' := [(7, _), (6, _), (0, _), (1, _), (2, _), (3, _), (4, _), (5, _)]) C dL_law_2956 (by decide) rfl ?_
  refine r_aload_n (pc := 2958) C 4 dL_law_2958 rfl rfl ?_
  refine r_callV (pc := 2959) C hfl k_L_189 (thrown_c hI2.2.1) hI2.2.1.1 ca_X10 rfl rfl (Nat.le_of_ble_eq_true rfl) ⟨by omega, by decide⟩ ⟨by omega, by omega⟩ dL_law_2959 (fun r3 X3 T3 I3 h3 => ?_)
  obtain ⟨rfl, rfl, rfl, rfl⟩ := h3
  refine r_st (st' := .int (I3 M 0) :: _) rfl ?_
  refine r_iload (pc := 2962) C 1 dL_law_2962 rfl ?_
  refine r_ceq (pc := 2964) (tgt := 2969) C dL_law_2964 rfl (fun _ => ?_) (fun c => absurd (hc2 (by decide)) c)
  refine r_iload (pc := 2969) C 1 dL_law_2969 rfl ?_
  have hfin : Go g k 9 Q (600 + 30 * n + 30 + 0 + 0) (6000 + 4200 * n + 4200 + 0 + 0) 2986 [(7, .int i9), (6, .int (nI kx)), (0, .ref b), (1, .ref x), (2, .ref M), (3, .ref a), (4, .ref d), (5, .int (nI (6 * n)))] [] (XO g a f1 d h) T3 I3 := r_goto (pc := 2986) (tgt := 3549) C dL_law_2986 rfl (r_ls (lo' := lo0 b x M a d (6 * n)) [2, 3, 4, 5, 6, 7] rfl (r_wide (by omega) (by omega) (hback f1 h T3 I3 s' hI2)))
  refine r_ifne (pc := 2971) (tgt := 2986) C dL_law_2971 rfl (fun _ => hfin) (fun c0 => ?_)
  have hk0 : kx = 0 := nI_j (by have : kx ≤ 1 := hk; omega) (by decide) c0
  subst hk0
  obtain ⟨i1, rfl, e2⟩ := hv1 rfl
  have e9 : i9 = i1 := by injection (hb rfl)
  subst e9
  refine r_aload_n (pc := 2974) C 5 dL_law_2974 rfl rfl ?_
  refine r_iconst (pc := 2975) (v := 0) C dL_law_2975 rfl ?_
  refine r_jald (pc := 2976) C dL_law_2976 ?_
  refine r_iload (pc := 2977) C 0 dL_law_2977 rfl ?_
  refine r_i2l (pc := 2979) C dL_law_2979 ?_
  refine r_lcmpE (pc := 2980) C dL_law_2980 e2.symm ?_
  exact r_ifeq (pc := 2981) (tgt := 2986) C dL_law_2981 rfl (fun _ => hfin) (fun c => absurd rfl c)

set_option maxHeartbeats 1000000 in
theorem lw_51 (S : LwC g k b L xs) (hn : 6 * n + 6 ≤ L) (hI : Iv x M T I s s n) (hback : Bk g k Q b x M a d n) : Go g k 9 Q (600 + 30 * n) (6000 + 4200 * n) 2989 (lo0 b x M a d (6 * n)) [] (XO g a f d h) T I := by
  obtain ⟨C, hfl, hnc, hX, hbl, hbA, hL⟩ := S
  obtain ⟨kx, v, s', ⟨hk, hv⟩, hO, hR⟩ := op_meanDebt (g := g) (X := XO g a f d h) (T := T) (I := I) hI (by omega) 
  refine r_aload_n (pc := 2989) C 1 dL_law_2989 rfl rfl ?_
  refine r_aload (pc := 2990) C 4 dL_law_2990 rfl ?_
  refine r_callW (pc := 2992) C hfl hnc k_L_357 (w_meanDebt hI.1 hk hv hO) rfl rfl (Nat.le_of_ble_eq_true rfl) (by decide) ⟨by omega, by omega⟩ dL_law_2992 (fun r1 X1 T1 I1 h1 => ?_)
  obtain ⟨rfl, hI1, f1, rfl, hv1⟩ := h1
  refine r_st (st' := .int (nI kx) :: _) rfl ?_
  refine r_istore (pc := 2995) (lo' := [(6, _), (0, _), (1, _), (2, _), (3, _), (4, _), (5, _)]) C dL_law_2995 (by decide) rfl ?_
  obtain ⟨b9, ⟨hb, i9, rfl, hn9⟩, d9, hd9, hM9⟩ := hR (XO g a f d f1) T1 I1 hI1
  refine r_aload_n (pc := 2997) C 3 dL_law_2997 rfl rfl ?_
  refine r_callV (pc := 2998) C hfl k_L_360 hM9 hI1.2.1.1 ca_X10 rfl rfl (Nat.le_of_ble_eq_true rfl) ⟨by omega, by decide⟩ ⟨by omega, by omega⟩ dL_law_2998 (fun r2 X2 T2 I2 h2 => ?_)
  obtain ⟨rfl, rfl, rfl, hc2, hI2⟩ := h2
  refine r_st (st' := .double i9 :: _) rfl ?_
  refine r_dstore (pc := 3001) (lo' := [(7, _), (6, _), (0, _), (1, _), (2, _), (3, _), (4, _), (5, _)]) C dL_law_3001 (by decide) rfl ?_
  refine r_aload_n (pc := 3003) C 4 dL_law_3003 rfl rfl ?_
  refine r_callV (pc := 3004) C hfl k_L_189 (thrown_c hI2.2.1) hI2.2.1.1 ca_X10 rfl rfl (Nat.le_of_ble_eq_true rfl) ⟨by omega, by decide⟩ ⟨by omega, by omega⟩ dL_law_3004 (fun r3 X3 T3 I3 h3 => ?_)
  obtain ⟨rfl, rfl, rfl, rfl⟩ := h3
  refine r_st (st' := .int (I3 M 0) :: _) rfl ?_
  refine r_iload (pc := 3007) C 1 dL_law_3007 rfl ?_
  refine r_ceq (pc := 3009) (tgt := 3014) C dL_law_3009 rfl (fun _ => ?_) (fun c => absurd (hc2 (by decide)) c)
  refine r_iload (pc := 3014) C 1 dL_law_3014 rfl ?_
  have hfin : Go g k 9 Q (600 + 30 * n + 30 + 0 + 0) (6000 + 4200 * n + 4200 + 0 + 0) 3051 [(7, .double i9), (6, .int (nI kx)), (0, .ref b), (1, .ref x), (2, .ref M), (3, .ref a), (4, .ref d), (5, .int (nI (6 * n)))] [] (XO g a f d f1) T3 I3 := r_goto (pc := 3051) (tgt := 3549) C dL_law_3051 rfl (r_ls (lo' := lo0 b x M a d (6 * n)) [2, 3, 4, 5, 6, 7] rfl (r_wide (by omega) (by omega) (hback f f1 T3 I3 s' hI2)))
  refine r_ifne (pc := 3016) (tgt := 3051) C dL_law_3016 rfl (fun _ => hfin) (fun c0 => ?_)
  have hk0 : kx = 0 := nI_j (by have : kx ≤ 1 := hk; omega) (by decide) c0
  subst hk0
  obtain ⟨i1, rfl, hn1, e2⟩ := hv1 rfl
  have e9 : i9 = i1 := by injection (hb rfl)
  subst e9
  refine r_aload (pc := 3019) C 6 dL_law_3019 rfl ?_
  refine r_iconst (pc := 3021) (v := 0) C dL_law_3021 rfl ?_
  refine r_dald (pc := 3022) C dL_law_3022 ?_
  refine r_dload (pc := 3023) C 0 dL_law_3023 rfl ?_
  refine r_dcmpE (pc := 3025) (x := f1 0) C dL_law_3025 e2.symm (by rw [e2]; exact hn9) ?_
  exact r_ifeq (pc := 3026) (tgt := 3051) C dL_law_3026 rfl (fun _ => hfin) (fun c => absurd rfl c)

set_option maxHeartbeats 1000000 in
theorem lw_52 (S : LwC g k b L xs) (hn : 6 * n + 6 ≤ L) (hI : Iv x M T I s s n) (hback : Bk g k Q b x M a d n) : Go g k 9 Q (600 + 30 * n) (6000 + 4200 * n) 3054 (lo0 b x M a d (6 * n)) [] (XO g a f d h) T I := by
  obtain ⟨C, hfl, hnc, hX, hbl, hbA, hL⟩ := S
  obtain ⟨kx, v, s', ⟨hk, hv⟩, hO, hR⟩ := op_defaultShare (g := g) (X := XO g a f d h) (T := T) (I := I) hI (by omega) 
  refine r_aload_n (pc := 3054) C 1 dL_law_3054 rfl rfl ?_
  refine r_aload (pc := 3055) C 4 dL_law_3055 rfl ?_
  refine r_callW (pc := 3057) C hfl hnc k_L_361 (w_defaultShare hI.1 hk hv hO) rfl rfl (Nat.le_of_ble_eq_true rfl) (by decide) ⟨by omega, by omega⟩ dL_law_3057 (fun r1 X1 T1 I1 h1 => ?_)
  obtain ⟨rfl, hI1, f1, rfl, hv1⟩ := h1
  refine r_st (st' := .int (nI kx) :: _) rfl ?_
  refine r_istore (pc := 3060) (lo' := [(6, _), (0, _), (1, _), (2, _), (3, _), (4, _), (5, _)]) C dL_law_3060 (by decide) rfl ?_
  obtain ⟨b9, ⟨hb, i9, rfl, hn9⟩, d9, hd9, hM9⟩ := hR (XO g a f d f1) T1 I1 hI1
  refine r_aload_n (pc := 3062) C 3 dL_law_3062 rfl rfl ?_
  refine r_callV (pc := 3063) C hfl k_L_363 hM9 hI1.2.1.1 ca_X10 rfl rfl (Nat.le_of_ble_eq_true rfl) ⟨by omega, by decide⟩ ⟨by omega, by omega⟩ dL_law_3063 (fun r2 X2 T2 I2 h2 => ?_)
  obtain ⟨rfl, rfl, rfl, hc2, hI2⟩ := h2
  refine r_st (st' := .float i9 :: _) rfl ?_
  refine r_fstore (pc := 3066) (lo' := [(7, _), (6, _), (0, _), (1, _), (2, _), (3, _), (4, _), (5, _)]) C dL_law_3066 (by decide) rfl ?_
  refine r_aload_n (pc := 3068) C 4 dL_law_3068 rfl rfl ?_
  refine r_callV (pc := 3069) C hfl k_L_189 (thrown_c hI2.2.1) hI2.2.1.1 ca_X10 rfl rfl (Nat.le_of_ble_eq_true rfl) ⟨by omega, by decide⟩ ⟨by omega, by omega⟩ dL_law_3069 (fun r3 X3 T3 I3 h3 => ?_)
  obtain ⟨rfl, rfl, rfl, rfl⟩ := h3
  refine r_st (st' := .int (I3 M 0) :: _) rfl ?_
  refine r_iload (pc := 3072) C 1 dL_law_3072 rfl ?_
  refine r_ceq (pc := 3074) (tgt := 3079) C dL_law_3074 rfl (fun _ => ?_) (fun c => absurd (hc2 (by decide)) c)
  refine r_iload (pc := 3079) C 1 dL_law_3079 rfl ?_
  have hfin : Go g k 9 Q (600 + 30 * n + 30 + 0 + 0) (6000 + 4200 * n + 4200 + 0 + 0) 3117 [(7, .float i9), (6, .int (nI kx)), (0, .ref b), (1, .ref x), (2, .ref M), (3, .ref a), (4, .ref d), (5, .int (nI (6 * n)))] [] (XO g a f d f1) T3 I3 := r_goto (pc := 3117) (tgt := 3549) C dL_law_3117 rfl (r_ls (lo' := lo0 b x M a d (6 * n)) [2, 3, 4, 5, 6, 7] rfl (r_wide (by omega) (by omega) (hback f f1 T3 I3 s' hI2)))
  refine r_ifne (pc := 3081) (tgt := 3117) C dL_law_3081 rfl (fun _ => hfin) (fun c0 => ?_)
  have hk0 : kx = 0 := nI_j (by have : kx ≤ 1 := hk; omega) (by decide) c0
  subst hk0
  obtain ⟨i1, rfl, hn1, e2⟩ := hv1 rfl
  have e9 : i9 = i1 := by injection (hb rfl)
  subst e9
  refine r_aload (pc := 3084) C 6 dL_law_3084 rfl ?_
  refine r_iconst (pc := 3086) (v := 0) C dL_law_3086 rfl ?_
  refine r_dald (pc := 3087) C dL_law_3087 ?_
  refine r_fload (pc := 3088) C 0 dL_law_3088 rfl ?_
  refine r_f2d (pc := 3090) C dL_law_3090 hn9 ?_
  refine r_dcmpE (pc := 3091) (x := f1 0) C dL_law_3091 e2.symm (by rw [e2]; exact (own_f2d hn9)) ?_
  exact r_ifeq (pc := 3092) (tgt := 3117) C dL_law_3092 rfl (fun _ => hfin) (fun c => absurd rfl c)

set_option maxHeartbeats 1000000 in
theorem lw_53 (S : LwC g k b L xs) (hn : 6 * n + 6 ≤ L) (hI : Iv x M T I s s n) (hback : Bk g k Q b x M a d n) : Go g k 9 Q (600 + 30 * n) (6000 + 4200 * n) 3120 (lo0 b x M a d (6 * n)) [] (XO g a f d h) T I := by
  obtain ⟨C, hfl, hnc, hX, hbl, hbA, hL⟩ := S
  obtain ⟨kx, v, s', ⟨hk, hv⟩, ⟨d8, cm, cs, e1, e2, e3, hO⟩, hR⟩ := op_isBalanced (g := g) (X := XO g a f d h) (T := T) (I := I) hI (by omega) 
  have hk0 : kx = 0 := Nat.le_zero.mp hk
  subst hk0
  obtain ⟨i8, rfl⟩ := hv rfl
  refine r_aload_n (pc := 3120) C 1 dL_law_3120 rfl rfl ?_
  refine r_callV (pc := 3121) C hfl k_L_364 (hO.mc (fun _ _ _ _ z => z.1 rfl)) hI.1.1 ca_X9 rfl rfl (Nat.le_of_ble_eq_true rfl) ⟨by omega, by decide⟩ ⟨by omega, by omega⟩ dL_law_3121 (fun r1 X1 T1 I1 h1 => ?_)
  obtain ⟨-, rfl, rfl, hI1⟩ := h1
  refine r_st (st' := .int i8 :: _) rfl ?_
  obtain ⟨b9, ⟨hb, i9, rfl⟩, d9, hd9, hM9⟩ := hR (XO g a f d h) T1 I1 hI1
  have e9 : i9 = i8 := by injection (hb rfl)
  refine r_aload_n (pc := 3124) C 2 dL_law_3124 rfl rfl ?_
  refine r_callV (pc := 3125) C hfl k_L_368 hM9 hI1.2.1.1 ca_X10 rfl rfl (Nat.le_of_ble_eq_true rfl) ⟨by omega, by decide⟩ ⟨by omega, by omega⟩ dL_law_3125 (fun r2 X2 T2 I2 h2 => ?_)
  obtain ⟨rfl, rfl, rfl, hc2, hI2⟩ := h2
  refine r_st (st' := .int i9 :: _) rfl ?_
  exact r_ceq (pc := 3128) (tgt := 3549) C dL_law_3128 rfl (fun _ => r_wide (by omega) (by omega) (hback f h T2 I2 s' hI2)) (fun c => absurd e9.symm c)

set_option maxHeartbeats 1000000 in
theorem lw_54 (S : LwC g k b L xs) (hn : 6 * n + 6 ≤ L) (hI : Iv x M T I s s n) (hback : Bk g k Q b x M a d n) : Go g k 9 Q (600 + 30 * n) (6000 + 4200 * n) 3133 (lo0 b x M a d (6 * n)) [] (XO g a f d h) T I := by
  obtain ⟨C, hfl, hnc, hX, hbl, hbA, hL⟩ := S
  obtain ⟨kx, v, s', ⟨hk, hv⟩, hO, hR⟩ := op_formatLoan (g := g) (X := XO g a f d h) (T := T) (I := I) hI (by omega) (xs (6 * n + 1))
  refine r_aload_n (pc := 3133) C 1 dL_law_3133 rfl rfl ?_
  refine r_aload_n (pc := 3134) C 0 dL_law_3134 rfl rfl ?_
  refine r_iload (pc := 3135) C 5 dL_law_3135 rfl ?_
  refine r_iconst (pc := 3137) (v := 1) C dL_law_3137 rfl ?_
  refine r_iaddN (pc := 3138) C dL_law_3138 ?_
  refine r_sld (pc := 3139) (x := 6 * n + 1) C hX hbl hbA rfl (by omega) (by omega) dL_law_3139 ?_
  refine r_aload_n (pc := 3140) C 3 dL_law_3140 rfl rfl ?_
  refine r_callW (pc := 3141) C hfl hnc k_L_369 (w_formatLoan hI.1 hk hv hO) rfl rfl (Nat.le_of_ble_eq_true rfl) (by decide) ⟨by omega, by omega⟩ dL_law_3141 (fun r1 X1 T1 I1 h1 => ?_)
  obtain ⟨rfl, hI1, f1, rfl, hv1⟩ := h1
  refine r_st (st' := .int (nI kx) :: _) rfl ?_
  refine r_istore (pc := 3144) (lo' := [(6, _), (0, _), (1, _), (2, _), (3, _), (4, _), (5, _)]) C dL_law_3144 (by decide) rfl ?_
  obtain ⟨b9, ⟨hb, i9, rfl⟩, d9, hd9, hM9⟩ := hR (XO g a f1 d h) T1 I1 hI1
  refine r_aload_n (pc := 3146) C 3 dL_law_3146 rfl rfl ?_
  refine r_aload_n (pc := 3147) C 1 dL_law_3147 rfl rfl ?_
  refine r_iload (pc := 3148) C 6 dL_law_3148 rfl ?_
  refine r_iconst (pc := 3150) (v := 1) C dL_law_3150 rfl ?_
  refine r_iaddN (pc := 3151) C dL_law_3151 ?_
  refine r_sld (pc := 3152) (x := 6 * n + 1) C hX hbl hbA rfl (by omega) (by omega) dL_law_3152 ?_
  refine r_callV (pc := 3153) C hfl k_L_371 hM9 hI1.2.1.1 ca_X10 rfl rfl (Nat.le_of_ble_eq_true rfl) ⟨by omega, by decide⟩ ⟨by omega, by omega⟩ dL_law_3153 (fun r2 X2 T2 I2 h2 => ?_)
  obtain ⟨rfl, rfl, rfl, hc2, hI2⟩ := h2
  refine r_st (st' := .int i9 :: _) rfl ?_
  refine r_istore (pc := 3156) (lo' := [(7, _), (6, _), (0, _), (1, _), (2, _), (3, _), (4, _), (5, _)]) C dL_law_3156 (by decide) rfl ?_
  refine r_aload_n (pc := 3158) C 4 dL_law_3158 rfl rfl ?_
  refine r_callV (pc := 3159) C hfl k_L_189 (thrown_c hI2.2.1) hI2.2.1.1 ca_X10 rfl rfl (Nat.le_of_ble_eq_true rfl) ⟨by omega, by decide⟩ ⟨by omega, by omega⟩ dL_law_3159 (fun r3 X3 T3 I3 h3 => ?_)
  obtain ⟨rfl, rfl, rfl, rfl⟩ := h3
  refine r_st (st' := .int (I3 M 0) :: _) rfl ?_
  refine r_iload (pc := 3162) C 1 dL_law_3162 rfl ?_
  refine r_ceq (pc := 3164) (tgt := 3169) C dL_law_3164 rfl (fun _ => ?_) (fun c => absurd (hc2 (by decide)) c)
  refine r_iload (pc := 3169) C 1 dL_law_3169 rfl ?_
  have hfin : Go g k 9 Q (600 + 30 * n + 30 + 0 + 0) (6000 + 4200 * n + 4200 + 0 + 0) 3186 [(7, .int i9), (6, .int (nI kx)), (0, .ref b), (1, .ref x), (2, .ref M), (3, .ref a), (4, .ref d), (5, .int (nI (6 * n)))] [] (XO g a f1 d h) T3 I3 := r_goto (pc := 3186) (tgt := 3549) C dL_law_3186 rfl (r_ls (lo' := lo0 b x M a d (6 * n)) [2, 3, 4, 5, 6, 7] rfl (r_wide (by omega) (by omega) (hback f1 h T3 I3 s' hI2)))
  refine r_ifne (pc := 3171) (tgt := 3186) C dL_law_3171 rfl (fun _ => hfin) (fun c0 => ?_)
  have hk0 : kx = 0 := nI_j (by have : kx ≤ 1 := hk; omega) (by decide) c0
  subst hk0
  obtain ⟨i1, rfl, e2⟩ := hv1 rfl
  have e9 : i9 = i1 := by injection (hb rfl)
  subst e9
  refine r_aload_n (pc := 3174) C 5 dL_law_3174 rfl rfl ?_
  refine r_iconst (pc := 3175) (v := 0) C dL_law_3175 rfl ?_
  refine r_jald (pc := 3176) C dL_law_3176 ?_
  refine r_iload (pc := 3177) C 0 dL_law_3177 rfl ?_
  refine r_i2l (pc := 3179) C dL_law_3179 ?_
  refine r_lcmpE (pc := 3180) C dL_law_3180 e2.symm ?_
  exact r_ifeq (pc := 3181) (tgt := 3186) C dL_law_3181 rfl (fun _ => hfin) (fun c => absurd rfl c)

set_option maxHeartbeats 1000000 in
theorem lw_55 (S : LwC g k b L xs) (hn : 6 * n + 6 ≤ L) (hI : Iv x M T I s s n) (hback : Bk g k Q b x M a d n) : Go g k 9 Q (600 + 30 * n) (6000 + 4200 * n) 3189 (lo0 b x M a d (6 * n)) [] (XO g a f d h) T I := by
  obtain ⟨C, hfl, hnc, hX, hbl, hbA, hL⟩ := S
  obtain ⟨kx, v, s', ⟨hk, hv⟩, hO, hR⟩ := op_lineChar (g := g) (X := XO g a f d h) (T := T) (I := I) hI (by omega) (xs (6 * n + 1))
  refine r_aload_n (pc := 3189) C 1 dL_law_3189 rfl rfl ?_
  refine r_aload_n (pc := 3190) C 0 dL_law_3190 rfl rfl ?_
  refine r_iload (pc := 3191) C 5 dL_law_3191 rfl ?_
  refine r_iconst (pc := 3193) (v := 1) C dL_law_3193 rfl ?_
  refine r_iaddN (pc := 3194) C dL_law_3194 ?_
  refine r_sld (pc := 3195) (x := 6 * n + 1) C hX hbl hbA rfl (by omega) (by omega) dL_law_3195 ?_
  refine r_aload_n (pc := 3196) C 3 dL_law_3196 rfl rfl ?_
  refine r_callW (pc := 3197) C hfl hnc k_L_372 (w_lineChar hI.1 hk hv hO) rfl rfl (Nat.le_of_ble_eq_true rfl) (by decide) ⟨by omega, by omega⟩ dL_law_3197 (fun r1 X1 T1 I1 h1 => ?_)
  obtain ⟨rfl, hI1, f1, rfl, hv1⟩ := h1
  refine r_st (st' := .int (nI kx) :: _) rfl ?_
  refine r_istore (pc := 3200) (lo' := [(6, _), (0, _), (1, _), (2, _), (3, _), (4, _), (5, _)]) C dL_law_3200 (by decide) rfl ?_
  obtain ⟨b9, ⟨hb, i9, rfl⟩, d9, hd9, hM9⟩ := hR (XO g a f1 d h) T1 I1 hI1
  refine r_aload_n (pc := 3202) C 3 dL_law_3202 rfl rfl ?_
  refine r_aload_n (pc := 3203) C 1 dL_law_3203 rfl rfl ?_
  refine r_iload (pc := 3204) C 6 dL_law_3204 rfl ?_
  refine r_iconst (pc := 3206) (v := 1) C dL_law_3206 rfl ?_
  refine r_iaddN (pc := 3207) C dL_law_3207 ?_
  refine r_sld (pc := 3208) (x := 6 * n + 1) C hX hbl hbA rfl (by omega) (by omega) dL_law_3208 ?_
  refine r_callV (pc := 3209) C hfl k_L_374 hM9 hI1.2.1.1 ca_X10 rfl rfl (Nat.le_of_ble_eq_true rfl) ⟨by omega, by decide⟩ ⟨by omega, by omega⟩ dL_law_3209 (fun r2 X2 T2 I2 h2 => ?_)
  obtain ⟨rfl, rfl, rfl, hc2, hI2⟩ := h2
  refine r_st (st' := .int i9 :: _) rfl ?_
  refine r_istore (pc := 3212) (lo' := [(7, _), (6, _), (0, _), (1, _), (2, _), (3, _), (4, _), (5, _)]) C dL_law_3212 (by decide) rfl ?_
  refine r_aload_n (pc := 3214) C 4 dL_law_3214 rfl rfl ?_
  refine r_callV (pc := 3215) C hfl k_L_189 (thrown_c hI2.2.1) hI2.2.1.1 ca_X10 rfl rfl (Nat.le_of_ble_eq_true rfl) ⟨by omega, by decide⟩ ⟨by omega, by omega⟩ dL_law_3215 (fun r3 X3 T3 I3 h3 => ?_)
  obtain ⟨rfl, rfl, rfl, rfl⟩ := h3
  refine r_st (st' := .int (I3 M 0) :: _) rfl ?_
  refine r_iload (pc := 3218) C 1 dL_law_3218 rfl ?_
  refine r_ceq (pc := 3220) (tgt := 3225) C dL_law_3220 rfl (fun _ => ?_) (fun c => absurd (hc2 (by decide)) c)
  refine r_iload (pc := 3225) C 1 dL_law_3225 rfl ?_
  have hfin : Go g k 9 Q (600 + 30 * n + 30 + 0 + 0) (6000 + 4200 * n + 4200 + 0 + 0) 3242 [(7, .int i9), (6, .int (nI kx)), (0, .ref b), (1, .ref x), (2, .ref M), (3, .ref a), (4, .ref d), (5, .int (nI (6 * n)))] [] (XO g a f1 d h) T3 I3 := r_goto (pc := 3242) (tgt := 3549) C dL_law_3242 rfl (r_ls (lo' := lo0 b x M a d (6 * n)) [2, 3, 4, 5, 6, 7] rfl (r_wide (by omega) (by omega) (hback f1 h T3 I3 s' hI2)))
  refine r_ifne (pc := 3227) (tgt := 3242) C dL_law_3227 rfl (fun _ => hfin) (fun c0 => ?_)
  have hk0 : kx = 0 := nI_j (by have : kx ≤ 1 := hk; omega) (by decide) c0
  subst hk0
  obtain ⟨i1, rfl, e2⟩ := hv1 rfl
  have e9 : i9 = i1 := by injection (hb rfl)
  subst e9
  refine r_aload_n (pc := 3230) C 5 dL_law_3230 rfl rfl ?_
  refine r_iconst (pc := 3231) (v := 0) C dL_law_3231 rfl ?_
  refine r_jald (pc := 3232) C dL_law_3232 ?_
  refine r_iload (pc := 3233) C 0 dL_law_3233 rfl ?_
  refine r_i2l (pc := 3235) C dL_law_3235 ?_
  refine r_lcmpE (pc := 3236) C dL_law_3236 e2.symm ?_
  exact r_ifeq (pc := 3237) (tgt := 3242) C dL_law_3237 rfl (fun _ => hfin) (fun c => absurd rfl c)

set_option maxHeartbeats 1000000 in
theorem lw_56 (S : LwC g k b L xs) (hn : 6 * n + 6 ≤ L) (hI : Iv x M T I s s n) (hback : Bk g k Q b x M a d n) : Go g k 9 Q (600 + 30 * n) (6000 + 4200 * n) 3245 (lo0 b x M a d (6 * n)) [] (XO g a f d h) T I := by
  obtain ⟨C, hfl, hnc, hX, hbl, hbA, hL⟩ := S
  obtain ⟨kx, v, s', ⟨hk, hv⟩, hO, hR⟩ := op_append (g := g) (X := XO g a f d h) (T := T) (I := I) hI (by omega) (((xs (6 * n + 1)).toUInt32 % 65536).toInt32)
  refine r_aload_n (pc := 3245) C 1 dL_law_3245 rfl rfl ?_
  refine r_aload_n (pc := 3246) C 0 dL_law_3246 rfl rfl ?_
  refine r_iload (pc := 3247) C 5 dL_law_3247 rfl ?_
  refine r_iconst (pc := 3249) (v := 1) C dL_law_3249 rfl ?_
  refine r_iaddN (pc := 3250) C dL_law_3250 ?_
  refine r_sld (pc := 3251) (x := 6 * n + 1) C hX hbl hbA rfl (by omega) (by omega) dL_law_3251 ?_
  refine r_i2c (pc := 3252) C dL_law_3252 rfl ?_
  refine r_aload_n (pc := 3253) C 3 dL_law_3253 rfl rfl ?_
  refine r_callW (pc := 3254) C hfl hnc k_L_375 (w_append hI.1 hk hv hO) rfl rfl (Nat.le_of_ble_eq_true rfl) (by decide) ⟨by omega, by omega⟩ dL_law_3254 (fun r1 X1 T1 I1 h1 => ?_)
  obtain ⟨rfl, hI1, f1, rfl, hv1⟩ := h1
  refine r_st (st' := .int (nI kx) :: _) rfl ?_
  refine r_istore (pc := 3257) (lo' := [(6, _), (0, _), (1, _), (2, _), (3, _), (4, _), (5, _)]) C dL_law_3257 (by decide) rfl ?_
  obtain ⟨b9, ⟨hb, i9, rfl⟩, d9, hd9, hM9⟩ := hR (XO g a f1 d h) T1 I1 hI1
  refine r_aload_n (pc := 3259) C 3 dL_law_3259 rfl rfl ?_
  refine r_aload_n (pc := 3260) C 1 dL_law_3260 rfl rfl ?_
  refine r_iload (pc := 3261) C 6 dL_law_3261 rfl ?_
  refine r_iconst (pc := 3263) (v := 1) C dL_law_3263 rfl ?_
  refine r_iaddN (pc := 3264) C dL_law_3264 ?_
  refine r_sld (pc := 3265) (x := 6 * n + 1) C hX hbl hbA rfl (by omega) (by omega) dL_law_3265 ?_
  refine r_i2c (pc := 3266) C dL_law_3266 rfl ?_
  refine r_callV (pc := 3267) C hfl k_L_378 hM9 hI1.2.1.1 ca_X10 rfl rfl (Nat.le_of_ble_eq_true rfl) ⟨by omega, by decide⟩ ⟨by omega, by omega⟩ dL_law_3267 (fun r2 X2 T2 I2 h2 => ?_)
  obtain ⟨rfl, rfl, rfl, hc2, hI2⟩ := h2
  refine r_st (st' := .int i9 :: _) rfl ?_
  refine r_istore (pc := 3270) (lo' := [(7, _), (6, _), (0, _), (1, _), (2, _), (3, _), (4, _), (5, _)]) C dL_law_3270 (by decide) rfl ?_
  refine r_aload_n (pc := 3272) C 4 dL_law_3272 rfl rfl ?_
  refine r_callV (pc := 3273) C hfl k_L_189 (thrown_c hI2.2.1) hI2.2.1.1 ca_X10 rfl rfl (Nat.le_of_ble_eq_true rfl) ⟨by omega, by decide⟩ ⟨by omega, by omega⟩ dL_law_3273 (fun r3 X3 T3 I3 h3 => ?_)
  obtain ⟨rfl, rfl, rfl, rfl⟩ := h3
  refine r_st (st' := .int (I3 M 0) :: _) rfl ?_
  refine r_iload (pc := 3276) C 1 dL_law_3276 rfl ?_
  refine r_ceq (pc := 3278) (tgt := 3283) C dL_law_3278 rfl (fun _ => ?_) (fun c => absurd (hc2 (by decide)) c)
  refine r_iload (pc := 3283) C 1 dL_law_3283 rfl ?_
  have hfin : Go g k 9 Q (600 + 30 * n + 30 + 0 + 0) (6000 + 4200 * n + 4200 + 0 + 0) 3300 [(7, .int i9), (6, .int (nI kx)), (0, .ref b), (1, .ref x), (2, .ref M), (3, .ref a), (4, .ref d), (5, .int (nI (6 * n)))] [] (XO g a f1 d h) T3 I3 := r_goto (pc := 3300) (tgt := 3549) C dL_law_3300 rfl (r_ls (lo' := lo0 b x M a d (6 * n)) [2, 3, 4, 5, 6, 7] rfl (r_wide (by omega) (by omega) (hback f1 h T3 I3 s' hI2)))
  refine r_ifne (pc := 3285) (tgt := 3300) C dL_law_3285 rfl (fun _ => hfin) (fun c0 => ?_)
  have hk0 : kx = 0 := nI_j (by have : kx ≤ 2 := hk; omega) (by decide) c0
  subst hk0
  obtain ⟨i1, rfl, e2⟩ := hv1 rfl
  have e9 : i9 = i1 := by injection (hb rfl)
  subst e9
  refine r_aload_n (pc := 3288) C 5 dL_law_3288 rfl rfl ?_
  refine r_iconst (pc := 3289) (v := 0) C dL_law_3289 rfl ?_
  refine r_jald (pc := 3290) C dL_law_3290 ?_
  refine r_iload (pc := 3291) C 0 dL_law_3291 rfl ?_
  refine r_i2l (pc := 3293) C dL_law_3293 ?_
  refine r_lcmpE (pc := 3294) C dL_law_3294 e2.symm ?_
  exact r_ifeq (pc := 3295) (tgt := 3300) C dL_law_3295 rfl (fun _ => hfin) (fun c => absurd rfl c)

set_option maxHeartbeats 1000000 in
theorem lw_57 (S : LwC g k b L xs) (hn : 6 * n + 6 ≤ L) (hI : Iv x M T I s s n) (hback : Bk g k Q b x M a d n) : Go g k 9 Q (600 + 30 * n) (6000 + 4200 * n) 3303 (lo0 b x M a d (6 * n)) [] (XO g a f d h) T I := by
  obtain ⟨C, hfl, hnc, hX, hbl, hbA, hL⟩ := S
  obtain ⟨kx, v, s', ⟨hk, hv⟩, hO, hR⟩ := op_run (g := g) (X := XO g a f d h) (T := T) (I := I) hI (by omega) 
  refine r_aload_n (pc := 3303) C 1 dL_law_3303 rfl rfl ?_
  refine r_aload_n (pc := 3304) C 3 dL_law_3304 rfl rfl ?_
  refine r_callW (pc := 3305) C hfl hnc k_L_379 (w_run hI.1 hk hv hO) rfl rfl (Nat.le_of_ble_eq_true rfl) (by decide) ⟨by omega, by omega⟩ dL_law_3305 (fun r1 X1 T1 I1 h1 => ?_)
  obtain ⟨rfl, hI1, f1, rfl, hv1⟩ := h1
  refine r_st (st' := .int (nI kx) :: _) rfl ?_
  refine r_istore (pc := 3308) (lo' := [(6, _), (0, _), (1, _), (2, _), (3, _), (4, _), (5, _)]) C dL_law_3308 (by decide) rfl ?_
  obtain ⟨b9, ⟨hb, i9, rfl⟩, d9, hd9, hM9⟩ := hR (XO g a f1 d h) T1 I1 hI1
  refine r_aload_n (pc := 3310) C 3 dL_law_3310 rfl rfl ?_
  refine r_callV (pc := 3311) C hfl k_L_381 hM9 hI1.2.1.1 ca_X10 rfl rfl (Nat.le_of_ble_eq_true rfl) ⟨by omega, by decide⟩ ⟨by omega, by omega⟩ dL_law_3311 (fun r2 X2 T2 I2 h2 => ?_)
  obtain ⟨rfl, rfl, rfl, hc2, hI2⟩ := h2
  refine r_st (st' := .int i9 :: _) rfl ?_
  refine r_istore (pc := 3314) (lo' := [(7, _), (6, _), (0, _), (1, _), (2, _), (3, _), (4, _), (5, _)]) C dL_law_3314 (by decide) rfl ?_
  refine r_aload_n (pc := 3316) C 4 dL_law_3316 rfl rfl ?_
  refine r_callV (pc := 3317) C hfl k_L_189 (thrown_c hI2.2.1) hI2.2.1.1 ca_X10 rfl rfl (Nat.le_of_ble_eq_true rfl) ⟨by omega, by decide⟩ ⟨by omega, by omega⟩ dL_law_3317 (fun r3 X3 T3 I3 h3 => ?_)
  obtain ⟨rfl, rfl, rfl, rfl⟩ := h3
  refine r_st (st' := .int (I3 M 0) :: _) rfl ?_
  refine r_iload (pc := 3320) C 1 dL_law_3320 rfl ?_
  refine r_ceq (pc := 3322) (tgt := 3327) C dL_law_3322 rfl (fun _ => ?_) (fun c => absurd (hc2 (by decide)) c)
  refine r_iload (pc := 3327) C 1 dL_law_3327 rfl ?_
  have hfin : Go g k 9 Q (600 + 30 * n + 30 + 0 + 0) (6000 + 4200 * n + 4200 + 0 + 0) 3344 [(7, .int i9), (6, .int (nI kx)), (0, .ref b), (1, .ref x), (2, .ref M), (3, .ref a), (4, .ref d), (5, .int (nI (6 * n)))] [] (XO g a f1 d h) T3 I3 := r_goto (pc := 3344) (tgt := 3549) C dL_law_3344 rfl (r_ls (lo' := lo0 b x M a d (6 * n)) [2, 3, 4, 5, 6, 7] rfl (r_wide (by omega) (by omega) (hback f1 h T3 I3 s' hI2)))
  refine r_ifne (pc := 3329) (tgt := 3344) C dL_law_3329 rfl (fun _ => hfin) (fun c0 => ?_)
  have hk0 : kx = 0 := nI_j (by have : kx ≤ 2 := hk; omega) (by decide) c0
  subst hk0
  obtain ⟨i1, rfl, e2⟩ := hv1 rfl
  have e9 : i9 = i1 := by injection (hb rfl)
  subst e9
  refine r_aload_n (pc := 3332) C 5 dL_law_3332 rfl rfl ?_
  refine r_iconst (pc := 3333) (v := 0) C dL_law_3333 rfl ?_
  refine r_jald (pc := 3334) C dL_law_3334 ?_
  refine r_iload (pc := 3335) C 0 dL_law_3335 rfl ?_
  refine r_i2l (pc := 3337) C dL_law_3337 ?_
  refine r_lcmpE (pc := 3338) C dL_law_3338 e2.symm ?_
  exact r_ifeq (pc := 3339) (tgt := 3344) C dL_law_3339 rfl (fun _ => hfin) (fun c => absurd rfl c)

set_option maxHeartbeats 1000000 in
theorem lw_58 (S : LwC g k b L xs) (hn : 6 * n + 6 ≤ L) (hI : Iv x M T I s s n) (hback : Bk g k Q b x M a d n) : Go g k 9 Q (600 + 30 * n) (6000 + 4200 * n) 3347 (lo0 b x M a d (6 * n)) [] (XO g a f d h) T I := by
  obtain ⟨C, hfl, hnc, hX, hbl, hbA, hL⟩ := S
  obtain ⟨kx, v, s', ⟨hk, hv⟩, hO, hR⟩ := op_errorPosition (g := g) (X := XO g a f d h) (T := T) (I := I) hI (by omega) 
  refine r_aload_n (pc := 3347) C 1 dL_law_3347 rfl rfl ?_
  refine r_aload_n (pc := 3348) C 3 dL_law_3348 rfl rfl ?_
  refine r_callW (pc := 3349) C hfl hnc k_L_382 (w_errorPosition hI.1 hk hv hO) rfl rfl (Nat.le_of_ble_eq_true rfl) (by decide) ⟨by omega, by omega⟩ dL_law_3349 (fun r1 X1 T1 I1 h1 => ?_)
  obtain ⟨rfl, hI1, f1, rfl, hv1⟩ := h1
  refine r_st (st' := .int (nI kx) :: _) rfl ?_
  refine r_istore (pc := 3352) (lo' := [(6, _), (0, _), (1, _), (2, _), (3, _), (4, _), (5, _)]) C dL_law_3352 (by decide) rfl ?_
  obtain ⟨b9, ⟨hb, i9, rfl⟩, d9, hd9, hM9⟩ := hR (XO g a f1 d h) T1 I1 hI1
  refine r_aload_n (pc := 3354) C 3 dL_law_3354 rfl rfl ?_
  refine r_callV (pc := 3355) C hfl k_L_384 hM9 hI1.2.1.1 ca_X10 rfl rfl (Nat.le_of_ble_eq_true rfl) ⟨by omega, by decide⟩ ⟨by omega, by omega⟩ dL_law_3355 (fun r2 X2 T2 I2 h2 => ?_)
  obtain ⟨rfl, rfl, rfl, hc2, hI2⟩ := h2
  refine r_st (st' := .int i9 :: _) rfl ?_
  refine r_istore (pc := 3358) (lo' := [(7, _), (6, _), (0, _), (1, _), (2, _), (3, _), (4, _), (5, _)]) C dL_law_3358 (by decide) rfl ?_
  refine r_aload_n (pc := 3360) C 4 dL_law_3360 rfl rfl ?_
  refine r_callV (pc := 3361) C hfl k_L_189 (thrown_c hI2.2.1) hI2.2.1.1 ca_X10 rfl rfl (Nat.le_of_ble_eq_true rfl) ⟨by omega, by decide⟩ ⟨by omega, by omega⟩ dL_law_3361 (fun r3 X3 T3 I3 h3 => ?_)
  obtain ⟨rfl, rfl, rfl, rfl⟩ := h3
  refine r_st (st' := .int (I3 M 0) :: _) rfl ?_
  refine r_iload (pc := 3364) C 1 dL_law_3364 rfl ?_
  refine r_ceq (pc := 3366) (tgt := 3371) C dL_law_3366 rfl (fun _ => ?_) (fun c => absurd (hc2 (by decide)) c)
  refine r_iload (pc := 3371) C 1 dL_law_3371 rfl ?_
  have hfin : Go g k 9 Q (600 + 30 * n + 30 + 0 + 0) (6000 + 4200 * n + 4200 + 0 + 0) 3388 [(7, .int i9), (6, .int (nI kx)), (0, .ref b), (1, .ref x), (2, .ref M), (3, .ref a), (4, .ref d), (5, .int (nI (6 * n)))] [] (XO g a f1 d h) T3 I3 := r_goto (pc := 3388) (tgt := 3549) C dL_law_3388 rfl (r_ls (lo' := lo0 b x M a d (6 * n)) [2, 3, 4, 5, 6, 7] rfl (r_wide (by omega) (by omega) (hback f1 h T3 I3 s' hI2)))
  refine r_ifne (pc := 3373) (tgt := 3388) C dL_law_3373 rfl (fun _ => hfin) (fun c0 => ?_)
  have hk0 : kx = 0 := nI_j (by have : kx ≤ 1 := hk; omega) (by decide) c0
  subst hk0
  obtain ⟨i1, rfl, e2⟩ := hv1 rfl
  have e9 : i9 = i1 := by injection (hb rfl)
  subst e9
  refine r_aload_n (pc := 3376) C 5 dL_law_3376 rfl rfl ?_
  refine r_iconst (pc := 3377) (v := 0) C dL_law_3377 rfl ?_
  refine r_jald (pc := 3378) C dL_law_3378 ?_
  refine r_iload (pc := 3379) C 0 dL_law_3379 rfl ?_
  refine r_i2l (pc := 3381) C dL_law_3381 ?_
  refine r_lcmpE (pc := 3382) C dL_law_3382 e2.symm ?_
  exact r_ifeq (pc := 3383) (tgt := 3388) C dL_law_3383 rfl (fun _ => hfin) (fun c => absurd rfl c)

set_option maxHeartbeats 1000000 in
theorem lw_59 (S : LwC g k b L xs) (hn : 6 * n + 6 ≤ L) (hI : Iv x M T I s s n) (hback : Bk g k Q b x M a d n) : Go g k 9 Q (600 + 30 * n) (6000 + 4200 * n) 3391 (lo0 b x M a d (6 * n)) [] (XO g a f d h) T I := by
  obtain ⟨C, hfl, hnc, hX, hbl, hbA, hL⟩ := S
  obtain ⟨kx, v, s', ⟨hk, hv⟩, hO, hR⟩ := op_failedCommand (g := g) (X := XO g a f d h) (T := T) (I := I) hI (by omega) 
  refine r_aload_n (pc := 3391) C 1 dL_law_3391 rfl rfl ?_
  refine r_aload_n (pc := 3392) C 3 dL_law_3392 rfl rfl ?_
  refine r_callW (pc := 3393) C hfl hnc k_L_385 (w_failedCommand hI.1 hk hv hO) rfl rfl (Nat.le_of_ble_eq_true rfl) (by decide) ⟨by omega, by omega⟩ dL_law_3393 (fun r1 X1 T1 I1 h1 => ?_)
  obtain ⟨rfl, hI1, f1, rfl, hv1⟩ := h1
  refine r_st (st' := .int (nI kx) :: _) rfl ?_
  refine r_istore (pc := 3396) (lo' := [(6, _), (0, _), (1, _), (2, _), (3, _), (4, _), (5, _)]) C dL_law_3396 (by decide) rfl ?_
  obtain ⟨b9, ⟨hb, i9, rfl⟩, d9, hd9, hM9⟩ := hR (XO g a f1 d h) T1 I1 hI1
  refine r_aload_n (pc := 3398) C 3 dL_law_3398 rfl rfl ?_
  refine r_callV (pc := 3399) C hfl k_L_387 hM9 hI1.2.1.1 ca_X10 rfl rfl (Nat.le_of_ble_eq_true rfl) ⟨by omega, by decide⟩ ⟨by omega, by omega⟩ dL_law_3399 (fun r2 X2 T2 I2 h2 => ?_)
  obtain ⟨rfl, rfl, rfl, hc2, hI2⟩ := h2
  refine r_st (st' := .int i9 :: _) rfl ?_
  refine r_istore (pc := 3402) (lo' := [(7, _), (6, _), (0, _), (1, _), (2, _), (3, _), (4, _), (5, _)]) C dL_law_3402 (by decide) rfl ?_
  refine r_aload_n (pc := 3404) C 4 dL_law_3404 rfl rfl ?_
  refine r_callV (pc := 3405) C hfl k_L_189 (thrown_c hI2.2.1) hI2.2.1.1 ca_X10 rfl rfl (Nat.le_of_ble_eq_true rfl) ⟨by omega, by decide⟩ ⟨by omega, by omega⟩ dL_law_3405 (fun r3 X3 T3 I3 h3 => ?_)
  obtain ⟨rfl, rfl, rfl, rfl⟩ := h3
  refine r_st (st' := .int (I3 M 0) :: _) rfl ?_
  refine r_iload (pc := 3408) C 1 dL_law_3408 rfl ?_
  refine r_ceq (pc := 3410) (tgt := 3415) C dL_law_3410 rfl (fun _ => ?_) (fun c => absurd (hc2 (by decide)) c)
  refine r_iload (pc := 3415) C 1 dL_law_3415 rfl ?_
  have hfin : Go g k 9 Q (600 + 30 * n + 30 + 0 + 0) (6000 + 4200 * n + 4200 + 0 + 0) 3432 [(7, .int i9), (6, .int (nI kx)), (0, .ref b), (1, .ref x), (2, .ref M), (3, .ref a), (4, .ref d), (5, .int (nI (6 * n)))] [] (XO g a f1 d h) T3 I3 := r_goto (pc := 3432) (tgt := 3549) C dL_law_3432 rfl (r_ls (lo' := lo0 b x M a d (6 * n)) [2, 3, 4, 5, 6, 7] rfl (r_wide (by omega) (by omega) (hback f1 h T3 I3 s' hI2)))
  refine r_ifne (pc := 3417) (tgt := 3432) C dL_law_3417 rfl (fun _ => hfin) (fun c0 => ?_)
  have hk0 : kx = 0 := nI_j (by have : kx ≤ 1 := hk; omega) (by decide) c0
  subst hk0
  obtain ⟨i1, rfl, e2⟩ := hv1 rfl
  have e9 : i9 = i1 := by injection (hb rfl)
  subst e9
  refine r_aload_n (pc := 3420) C 5 dL_law_3420 rfl rfl ?_
  refine r_iconst (pc := 3421) (v := 0) C dL_law_3421 rfl ?_
  refine r_jald (pc := 3422) C dL_law_3422 ?_
  refine r_iload (pc := 3423) C 0 dL_law_3423 rfl ?_
  refine r_i2l (pc := 3425) C dL_law_3425 ?_
  refine r_lcmpE (pc := 3426) C dL_law_3426 e2.symm ?_
  exact r_ifeq (pc := 3427) (tgt := 3432) C dL_law_3427 rfl (fun _ => hfin) (fun c => absurd rfl c)

set_option maxHeartbeats 1000000 in
theorem lw_60 (S : LwC g k b L xs) (hn : 6 * n + 6 ≤ L) (hI : Iv x M T I s s n) (hback : Bk g k Q b x M a d n) : Go g k 9 Q (600 + 30 * n) (6000 + 4200 * n) 3435 (lo0 b x M a d (6 * n)) [] (XO g a f d h) T I := by
  obtain ⟨C, hfl, hnc, hX, hbl, hbA, hL⟩ := S
  obtain ⟨kx, v, s', ⟨hk, hv⟩, ⟨d8, cm, cs, e1, e2, e3, hO⟩, hR⟩ := op_undoableCount (g := g) (X := XO g a f d h) (T := T) (I := I) hI (by omega) 
  have hk0 : kx = 0 := Nat.le_zero.mp hk
  subst hk0
  obtain ⟨i8, rfl⟩ := hv rfl
  refine r_aload_n (pc := 3435) C 1 dL_law_3435 rfl rfl ?_
  refine r_callV (pc := 3436) C hfl k_L_388 (hO.mc (fun _ _ _ _ z => z.1 rfl)) hI.1.1 ca_X9 rfl rfl (Nat.le_of_ble_eq_true rfl) ⟨by omega, by decide⟩ ⟨by omega, by omega⟩ dL_law_3436 (fun r1 X1 T1 I1 h1 => ?_)
  obtain ⟨-, rfl, rfl, hI1⟩ := h1
  refine r_st (st' := .int i8 :: _) rfl ?_
  obtain ⟨b9, ⟨hb, i9, rfl⟩, d9, hd9, hM9⟩ := hR (XO g a f d h) T1 I1 hI1
  have e9 : i9 = i8 := by injection (hb rfl)
  refine r_aload_n (pc := 3439) C 2 dL_law_3439 rfl rfl ?_
  refine r_callV (pc := 3440) C hfl k_L_391 hM9 hI1.2.1.1 ca_X10 rfl rfl (Nat.le_of_ble_eq_true rfl) ⟨by omega, by decide⟩ ⟨by omega, by omega⟩ dL_law_3440 (fun r2 X2 T2 I2 h2 => ?_)
  obtain ⟨rfl, rfl, rfl, hc2, hI2⟩ := h2
  refine r_st (st' := .int i9 :: _) rfl ?_
  exact r_ceq (pc := 3443) (tgt := 3549) C dL_law_3443 rfl (fun _ => r_wide (by omega) (by omega) (hback f h T2 I2 s' hI2)) (fun c => absurd e9.symm c)

set_option maxHeartbeats 1000000 in
theorem lw_61 (S : LwC g k b L xs) (hn : 6 * n + 6 ≤ L) (hI : Iv x M T I s s n) (hback : Bk g k Q b x M a d n) : Go g k 9 Q (600 + 30 * n) (6000 + 4200 * n) 3448 (lo0 b x M a d (6 * n)) [] (XO g a f d h) T I := by
  obtain ⟨C, hfl, hnc, hX, hbl, hbA, hL⟩ := S
  obtain ⟨kx, v, s', ⟨hk, hv⟩, hO, hR⟩ := op_undo (g := g) (X := XO g a f d h) (T := T) (I := I) hI (by omega) 
  refine r_aload_n (pc := 3448) C 1 dL_law_3448 rfl rfl ?_
  refine r_aload_n (pc := 3449) C 3 dL_law_3449 rfl rfl ?_
  refine r_callW (pc := 3450) C hfl hnc k_L_392 (w_undo hI.1 hk hv hO) rfl rfl (Nat.le_of_ble_eq_true rfl) (by decide) ⟨by omega, by omega⟩ dL_law_3450 (fun r1 X1 T1 I1 h1 => ?_)
  obtain ⟨rfl, hI1, f1, rfl, hv1⟩ := h1
  refine r_st (st' := .int (nI kx) :: _) rfl ?_
  refine r_istore (pc := 3453) (lo' := [(6, _), (0, _), (1, _), (2, _), (3, _), (4, _), (5, _)]) C dL_law_3453 (by decide) rfl ?_
  obtain ⟨b9, ⟨hb, i9, rfl⟩, d9, hd9, hM9⟩ := hR (XO g a f1 d h) T1 I1 hI1
  refine r_aload_n (pc := 3455) C 3 dL_law_3455 rfl rfl ?_
  refine r_callV (pc := 3456) C hfl k_L_394 hM9 hI1.2.1.1 ca_X10 rfl rfl (Nat.le_of_ble_eq_true rfl) ⟨by omega, by decide⟩ ⟨by omega, by omega⟩ dL_law_3456 (fun r2 X2 T2 I2 h2 => ?_)
  obtain ⟨rfl, rfl, rfl, hc2, hI2⟩ := h2
  refine r_st (st' := .int i9 :: _) rfl ?_
  refine r_istore (pc := 3459) (lo' := [(7, _), (6, _), (0, _), (1, _), (2, _), (3, _), (4, _), (5, _)]) C dL_law_3459 (by decide) rfl ?_
  refine r_aload_n (pc := 3461) C 4 dL_law_3461 rfl rfl ?_
  refine r_callV (pc := 3462) C hfl k_L_189 (thrown_c hI2.2.1) hI2.2.1.1 ca_X10 rfl rfl (Nat.le_of_ble_eq_true rfl) ⟨by omega, by decide⟩ ⟨by omega, by omega⟩ dL_law_3462 (fun r3 X3 T3 I3 h3 => ?_)
  obtain ⟨rfl, rfl, rfl, rfl⟩ := h3
  refine r_st (st' := .int (I3 M 0) :: _) rfl ?_
  refine r_iload (pc := 3465) C 1 dL_law_3465 rfl ?_
  refine r_ceq (pc := 3467) (tgt := 3472) C dL_law_3467 rfl (fun _ => ?_) (fun c => absurd (hc2 (by decide)) c)
  refine r_iload (pc := 3472) C 1 dL_law_3472 rfl ?_
  have hfin : Go g k 9 Q (600 + 30 * n + 30 + 0 + 0) (6000 + 4200 * n + 4200 + 0 + 0) 3489 [(7, .int i9), (6, .int (nI kx)), (0, .ref b), (1, .ref x), (2, .ref M), (3, .ref a), (4, .ref d), (5, .int (nI (6 * n)))] [] (XO g a f1 d h) T3 I3 := r_goto (pc := 3489) (tgt := 3549) C dL_law_3489 rfl (r_ls (lo' := lo0 b x M a d (6 * n)) [2, 3, 4, 5, 6, 7] rfl (r_wide (by omega) (by omega) (hback f1 h T3 I3 s' hI2)))
  refine r_ifne (pc := 3474) (tgt := 3489) C dL_law_3474 rfl (fun _ => hfin) (fun c0 => ?_)
  have hk0 : kx = 0 := nI_j (by have : kx ≤ 1 := hk; omega) (by decide) c0
  subst hk0
  obtain ⟨i1, rfl, e2⟩ := hv1 rfl
  have e9 : i9 = i1 := by injection (hb rfl)
  subst e9
  refine r_aload_n (pc := 3477) C 5 dL_law_3477 rfl rfl ?_
  refine r_iconst (pc := 3478) (v := 0) C dL_law_3478 rfl ?_
  refine r_jald (pc := 3479) C dL_law_3479 ?_
  refine r_iload (pc := 3480) C 0 dL_law_3480 rfl ?_
  refine r_i2l (pc := 3482) C dL_law_3482 ?_
  refine r_lcmpE (pc := 3483) C dL_law_3483 e2.symm ?_
  exact r_ifeq (pc := 3484) (tgt := 3489) C dL_law_3484 rfl (fun _ => hfin) (fun c => absurd rfl c)

set_option maxHeartbeats 1000000 in
theorem lw_62 (S : LwC g k b L xs) (hn : 6 * n + 6 ≤ L) (hI : Iv x M T I s s n) (hback : Bk g k Q b x M a d n) : Go g k 9 Q (600 + 30 * n) (6000 + 4200 * n) 3492 (lo0 b x M a d (6 * n)) [] (XO g a f d h) T I := by
  obtain ⟨C, hfl, hnc, hX, hbl, hbA, hL⟩ := S
  obtain ⟨kx, v, s', ⟨hk, hv⟩, ⟨d8, cm, cs, e1, e2, e3, hO⟩, hR⟩ := op_save (g := g) (X := XO g a f d h) (T := T) (I := I) hI (by omega) 
  have hk0 : kx = 0 := Nat.le_zero.mp hk
  subst hk0
  obtain ⟨i8, rfl⟩ := hv rfl
  refine r_aload_n (pc := 3492) C 1 dL_law_3492 rfl rfl ?_
  refine r_callV (pc := 3493) C hfl k_L_395 (hO.mc (fun _ _ _ _ z => z.1 rfl)) hI.1.1 ca_X9 rfl rfl (Nat.le_of_ble_eq_true rfl) ⟨by omega, by decide⟩ ⟨by omega, by omega⟩ dL_law_3493 (fun r1 X1 T1 I1 h1 => ?_)
  obtain ⟨-, rfl, rfl, hI1⟩ := h1
  refine r_st (st' := .int i8 :: _) rfl ?_
  obtain ⟨b9, ⟨hb, i9, rfl⟩, d9, hd9, hM9⟩ := hR (XO g a f d h) T1 I1 hI1
  have e9 : i9 = i8 := by injection (hb rfl)
  refine r_aload_n (pc := 3496) C 2 dL_law_3496 rfl rfl ?_
  refine r_callV (pc := 3497) C hfl k_L_398 hM9 hI1.2.1.1 ca_X10 rfl rfl (Nat.le_of_ble_eq_true rfl) ⟨by omega, by decide⟩ ⟨by omega, by omega⟩ dL_law_3497 (fun r2 X2 T2 I2 h2 => ?_)
  obtain ⟨rfl, rfl, rfl, hc2, hI2⟩ := h2
  refine r_st (st' := .int i9 :: _) rfl ?_
  exact r_ceq (pc := 3500) (tgt := 3549) C dL_law_3500 rfl (fun _ => r_wide (by omega) (by omega) (hback f h T2 I2 s' hI2)) (fun c => absurd e9.symm c)

set_option maxHeartbeats 1000000 in
theorem lw_63 (S : LwC g k b L xs) (hn : 6 * n + 6 ≤ L) (hI : Iv x M T I s s n) (hback : Bk g k Q b x M a d n) : Go g k 9 Q (600 + 30 * n) (6000 + 4200 * n) 3505 (lo0 b x M a d (6 * n)) [] (XO g a f d h) T I := by
  obtain ⟨C, hfl, hnc, hX, hbl, hbA, hL⟩ := S
  obtain ⟨kx, v, s', ⟨hk, hv⟩, hO, hR⟩ := op_restore (g := g) (X := XO g a f d h) (T := T) (I := I) hI (by omega) 
  refine r_aload_n (pc := 3505) C 1 dL_law_3505 rfl rfl ?_
  refine r_aload_n (pc := 3506) C 3 dL_law_3506 rfl rfl ?_
  refine r_callW (pc := 3507) C hfl hnc k_L_399 (w_restore hI.1 hk hv hO) rfl rfl (Nat.le_of_ble_eq_true rfl) (by decide) ⟨by omega, by omega⟩ dL_law_3507 (fun r1 X1 T1 I1 h1 => ?_)
  obtain ⟨rfl, hI1, f1, rfl, hv1⟩ := h1
  refine r_st (st' := .int (nI kx) :: _) rfl ?_
  refine r_istore (pc := 3510) (lo' := [(6, _), (0, _), (1, _), (2, _), (3, _), (4, _), (5, _)]) C dL_law_3510 (by decide) rfl ?_
  obtain ⟨b9, ⟨hb, i9, rfl⟩, d9, hd9, hM9⟩ := hR (XO g a f1 d h) T1 I1 hI1
  refine r_aload_n (pc := 3512) C 3 dL_law_3512 rfl rfl ?_
  refine r_callV (pc := 3513) C hfl k_L_401 hM9 hI1.2.1.1 ca_X10 rfl rfl (Nat.le_of_ble_eq_true rfl) ⟨by omega, by decide⟩ ⟨by omega, by omega⟩ dL_law_3513 (fun r2 X2 T2 I2 h2 => ?_)
  obtain ⟨rfl, rfl, rfl, hc2, hI2⟩ := h2
  refine r_st (st' := .int i9 :: _) rfl ?_
  refine r_istore (pc := 3516) (lo' := [(7, _), (6, _), (0, _), (1, _), (2, _), (3, _), (4, _), (5, _)]) C dL_law_3516 (by decide) rfl ?_
  refine r_aload_n (pc := 3518) C 4 dL_law_3518 rfl rfl ?_
  refine r_callV (pc := 3519) C hfl k_L_189 (thrown_c hI2.2.1) hI2.2.1.1 ca_X10 rfl rfl (Nat.le_of_ble_eq_true rfl) ⟨by omega, by decide⟩ ⟨by omega, by omega⟩ dL_law_3519 (fun r3 X3 T3 I3 h3 => ?_)
  obtain ⟨rfl, rfl, rfl, rfl⟩ := h3
  refine r_st (st' := .int (I3 M 0) :: _) rfl ?_
  refine r_iload (pc := 3522) C 1 dL_law_3522 rfl ?_
  refine r_ceq (pc := 3524) (tgt := 3529) C dL_law_3524 rfl (fun _ => ?_) (fun c => absurd (hc2 (by decide)) c)
  refine r_iload (pc := 3529) C 1 dL_law_3529 rfl ?_
  have hfin : Go g k 9 Q (600 + 30 * n + 30 + 0 + 0) (6000 + 4200 * n + 4200 + 0 + 0) 3546 [(7, .int i9), (6, .int (nI kx)), (0, .ref b), (1, .ref x), (2, .ref M), (3, .ref a), (4, .ref d), (5, .int (nI (6 * n)))] [] (XO g a f1 d h) T3 I3 := r_goto (pc := 3546) (tgt := 3549) C dL_law_3546 rfl (r_ls (lo' := lo0 b x M a d (6 * n)) [2, 3, 4, 5, 6, 7] rfl (r_wide (by omega) (by omega) (hback f1 h T3 I3 s' hI2)))
  refine r_ifne (pc := 3531) (tgt := 3546) C dL_law_3531 rfl (fun _ => hfin) (fun c0 => ?_)
  have hk0 : kx = 0 := nI_j (by have : kx ≤ 1 := hk; omega) (by decide) c0
  subst hk0
  obtain ⟨i1, rfl, e2⟩ := hv1 rfl
  have e9 : i9 = i1 := by injection (hb rfl)
  subst e9
  refine r_aload_n (pc := 3534) C 5 dL_law_3534 rfl rfl ?_
  refine r_iconst (pc := 3535) (v := 0) C dL_law_3535 rfl ?_
  refine r_jald (pc := 3536) C dL_law_3536 ?_
  refine r_iload (pc := 3537) C 0 dL_law_3537 rfl ?_
  refine r_i2l (pc := 3539) C dL_law_3539 ?_
  refine r_lcmpE (pc := 3540) C dL_law_3540 e2.symm ?_
  exact r_ifeq (pc := 3541) (tgt := 3546) C dL_law_3541 rfl (fun _ => hfin) (fun c => absurd rfl c)
end G9J
