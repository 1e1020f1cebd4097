/-! THE LAW: its reading calls -/
section LR
variable {G : lq_G} {z : Nat} {S : lq_S} {M : lq_M} {N : lq_N}
theorem c_breakOf {a b m o L i u kc ks : Nat} {xs : Nat → Int32} (hX : va_X a L xs (lq_u G) (lq_u G).heap) (hL : L ≤ 3072) (hNC : q_NC G) (hb : b + 1607 ≤ m) (hm : m + 273 ≤ o) (hi : i + 6 ≤ L) {H : Nat → Nat → Nat} {tk : Nat → Nat → Nat × Nat} {n : Nat → Nat} (hsh : q_sh9 S b m o) (hI : q_I b m u H tk n M) {Q : lq_P} (kk : ∀ (z1 : Nat) (S1 : lq_S) (M1 : lq_M) (N1 : lq_N) (u1 : Nat) (H1 : Nat → Nat → Nat) (tk1 : Nat → Nat → Nat × Nat) (n1 : Nat → Nat), q_sh9 S1 b m o → q_I b m u1 H1 tk1 n1 M1 → LW G YL_law 30 kc ks Q lq_no z1 S1 M1 N1 1729 [some (.ref a), some (.ref b), some (.ref m), some (.ref o), some (.int (nI i)), none, none] []) : LW G YL_law 30 (kc + 3) (ks + 18) Q lq_no z S M N 340 [some (.ref a), some (.ref b), some (.ref m), some (.ref o), some (.int (nI i)), none, none] [] := by
  obtain ⟨⟨F, fp, fb, h8⟩, ⟨x0, nb0, h5⟩, ⟨fD, σD, hD⟩, ⟨fh, fo, h9⟩, hO⟩ := id hsh
  refine qw_aload_n 1 dL_law_340 rfl rfl ?_
  refine qw_aload_n 0 dL_law_341 rfl rfl ?_
  refine qw_iload dL_law_342 rfl ?_
  refine qw_iconst (nI 1) dL_law_344 (by decide) ?_
  refine qw_addN dL_law_345 ?_
  refine qw_xald hX dL_law_346 (by omega) (by omega) ?_
  refine qw_aload_n 0 dL_law_347 rfl rfl ?_
  refine qw_iload dL_law_348 rfl ?_
  refine qw_iconst (nI 2) dL_law_350 (by decide) ?_
  refine qw_addN dL_law_351 ?_
  refine qw_xald hX dL_law_352 (by omega) (by omega) ?_
  refine qw_aload_n 3 dL_law_353 rfl rfl ?_
  refine lq_callSH (As := [.ref b, .int (xs (i + 1)), .int (xs (i + 2)), .ref o]) (k_L_breakOf hNC h8.1 (k_X8_breakOf h8 hI.1) (fun r z1 S1 M1 N1 hq => by obtain ⟨-, rfl, -, x9, rfl, -⟩ := hq; exact ⟨⟨x9, rfl⟩, hO⟩) (fun E hE => hE.imp And.left And.left)) sL_112 dL_law_354 rfl rfl (Nat.le_of_ble_eq_true rfl) (by decide) (by decide) (by omega) (by omega) rfl (fun _ _ _ _ _ h => h.elim) (fun r z1 S1 M1 N1 hw => ?_)
  rcases hw with ⟨x1, N0, ⟨rfl, rfl, rfl, x9, e9, hV, hh1, hf1⟩, rfl, rfl⟩ | ⟨E, hE, rfl, rfl, rfl, rfl⟩
  · cases e9
    have hI1 := hI.cl hb hh1 hf1
    have e2 := hI1.2.2.1
    have hW := hI1.hW
    rw [e2] at hV
    refine qw_istore dL_law_357 rfl (by decide) ?_
    refine qw_aload_n 2 dL_law_359 rfl rfl ?_
    refine qw_aload_n 0 dL_law_360 rfl rfl ?_
    refine qw_iload dL_law_361 rfl ?_
    refine qw_iconst (nI 1) dL_law_363 (by decide) ?_
    refine qw_addN dL_law_364 ?_
    refine qw_xald hX dL_law_365 (by omega) (by omega) ?_
    refine qw_aload_n 0 dL_law_366 rfl rfl ?_
    refine qw_iload dL_law_367 rfl ?_
    refine qw_iconst (nI 2) dL_law_369 (by decide) ?_
    refine qw_addN dL_law_370 ?_
    refine qw_xald hX dL_law_371 (by omega) (by omega) ?_
    refine qw_cvi [_, _] (k_X9_breakOf h9 hI1.hW) mL_115 dL_law_372 h9.1 rfl rfl rfl (Nat.le_of_ble_eq_true rfl) (by omega) (by decide) rfl (fun x2 M2 h2 => ?_)
    obtain ⟨hV2, rfl⟩ := h2.resolve_right (fun ⟨e, hE2, _⟩ => an_breakOf hW hV hE2)
    obtain rfl := ag_breakOf hW hV hV2
    refine qw_istore dL_law_375 rfl (by decide) ?_
    refine qw_aload_n 2 dL_law_377 rfl rfl ?_
    refine qw_cvp [] (k_X9_thrown h9) mL_97 dL_law_378 h9.1 rfl rfl rfl (Nat.le_of_ble_eq_true rfl) (by omega) (by decide) rfl ?_
    rw [lq_up_s]
    refine qw_iload dL_law_381 rfl ?_
    refine qw_icmp_eq 388 dL_law_383 (by decide) (fun c383 => ?_) (fun c383 => absurd rfl c383)
    refine qw_iload dL_law_388 rfl ?_
    refine qw_if_ne 405 dL_law_390 (by decide) (fun c390 => absurd rfl c390) (fun c390 => ?_)
    refine qw_aload_n 3 dL_law_393 rfl rfl ?_
    refine qw_iconst (nI 0) dL_law_394 (by decide) ?_
    refine qw_lald dL_law_395 hO (by omega) (by omega) ?_
    rw [lq_up_s]
    refine qw_iload dL_law_396 rfl ?_
    refine qw_i2l _ dL_law_398 rfl ?_
    refine qw_lcmp dL_law_399 ?_
    rw [q_lc]
    refine qw_if_eq 405 dL_law_400 (by decide) (fun c400 => ?_) (fun c400 => absurd rfl c400)
    refine qw_goto 1729 dL_law_405 (by decide) ?_
    exact qw_weak _ (by simp [lq_le]) (LW.room (by omega) (by omega) (kk _ _ _ _ _ _ _ _ hsh (hI1.up hb 0)))
  · have e2 := hI.2.2.1
    have hW := hI.hW
    rw [e2] at hE
    refine qw_istore dL_law_357 rfl (by decide) ?_
    refine qw_aload_n 2 dL_law_359 rfl rfl ?_
    refine qw_aload_n 0 dL_law_360 rfl rfl ?_
    refine qw_iload dL_law_361 rfl ?_
    refine qw_iconst (nI 1) dL_law_363 (by decide) ?_
    refine qw_addN dL_law_364 ?_
    refine qw_xald hX dL_law_365 (by omega) (by omega) ?_
    refine qw_aload_n 0 dL_law_366 rfl rfl ?_
    refine qw_iload dL_law_367 rfl ?_
    refine qw_iconst (nI 2) dL_law_369 (by decide) ?_
    refine qw_addN dL_law_370 ?_
    refine qw_xald hX dL_law_371 (by omega) (by omega) ?_
    refine qw_cvi [_, _] (k_X9_breakOf h9 hI.hW) mL_115 dL_law_372 h9.1 rfl rfl rfl (Nat.le_of_ble_eq_true rfl) (by omega) (by decide) rfl (fun x2 M2 h2 => ?_)
    obtain ⟨e, hE2, rfl⟩ := h2.resolve_left (fun h => ap_breakOf hW h.1 hE)
    obtain ⟨hee, hne⟩ := ae_breakOf hW hE hE2
    refine qw_istore dL_law_375 rfl (by decide) ?_
    refine qw_aload_n 2 dL_law_377 rfl rfl ?_
    refine qw_cvp [] (k_X9_thrown h9) mL_97 dL_law_378 h9.1 rfl rfl rfl (Nat.le_of_ble_eq_true rfl) (by omega) (by decide) rfl ?_
    rw [lq_up_s]
    refine qw_iload dL_law_381 rfl ?_
    rw [← hee]
    refine qw_icmp_eq 388 dL_law_383 (by decide) (fun c383 => ?_) (fun c383 => absurd rfl c383)
    refine qw_iload dL_law_388 rfl ?_
    refine qw_if_ne 405 dL_law_390 (by decide) (fun c390 => ?_) (fun c390 => absurd c390 hne)
    refine qw_goto 1729 dL_law_405 (by decide) ?_
    exact qw_weak _ (by simp [lq_le]) (LW.room (by omega) (by omega) (kk _ _ _ _ _ _ _ _ hsh (hI.up hb e)))
theorem c_spot {a b m o L i u kc ks : Nat} {xs : Nat → Int32} (hX : va_X a L xs (lq_u G) (lq_u G).heap) (hL : L ≤ 3072) (hNC : q_NC G) (hb : b + 1607 ≤ m) (hm : m + 273 ≤ o) (hi : i + 6 ≤ L) {H : Nat → Nat → Nat} {tk : Nat → Nat → Nat × Nat} {n : Nat → Nat} (hsh : q_sh9 S b m o) (hI : q_I b m u H tk n M) {Q : lq_P} (kk : ∀ (z1 : Nat) (S1 : lq_S) (M1 : lq_M) (N1 : lq_N) (u1 : Nat) (H1 : Nat → Nat → Nat) (tk1 : Nat → Nat → Nat × Nat) (n1 : Nat → Nat), q_sh9 S1 b m o → q_I b m u1 H1 tk1 n1 M1 → LW G YL_law 30 kc ks Q lq_no z1 S1 M1 N1 1729 [some (.ref a), some (.ref b), some (.ref m), some (.ref o), some (.int (nI i)), none, none] []) : LW G YL_law 30 (kc + 3) (ks + 18) Q lq_no z S M N 408 [some (.ref a), some (.ref b), some (.ref m), some (.ref o), some (.int (nI i)), none, none] [] := by
  obtain ⟨⟨F, fp, fb, h8⟩, ⟨x0, nb0, h5⟩, ⟨fD, σD, hD⟩, ⟨fh, fo, h9⟩, hO⟩ := id hsh
  refine qw_aload_n 1 dL_law_408 rfl rfl ?_
  refine qw_aload_n 0 dL_law_409 rfl rfl ?_
  refine qw_iload dL_law_410 rfl ?_
  refine qw_iconst (nI 1) dL_law_412 (by decide) ?_
  refine qw_addN dL_law_413 ?_
  refine qw_xald hX dL_law_414 (by omega) (by omega) ?_
  refine qw_aload_n 0 dL_law_415 rfl rfl ?_
  refine qw_iload dL_law_416 rfl ?_
  refine qw_iconst (nI 2) dL_law_418 (by decide) ?_
  refine qw_addN dL_law_419 ?_
  refine qw_xald hX dL_law_420 (by omega) (by omega) ?_
  refine qw_aload_n 0 dL_law_421 rfl rfl ?_
  refine qw_iload dL_law_422 rfl ?_
  refine qw_iconst (nI 3) dL_law_424 (by decide) ?_
  refine qw_addN dL_law_425 ?_
  refine qw_xald hX dL_law_426 (by omega) (by omega) ?_
  refine qw_aload_n 3 dL_law_427 rfl rfl ?_
  refine lq_callSH (As := [.ref b, .int (xs (i + 1)), .int (xs (i + 2)), .int (xs (i + 3)), .ref o]) (k_L_spot hNC h8.1 (k_X8_spot h8 hI.1) (fun r z1 S1 M1 N1 hq => by obtain ⟨-, rfl, -, x9, rfl, -⟩ := hq; exact ⟨⟨x9, rfl⟩, hO⟩) (fun E hE => hE.imp And.left (Or.imp And.left And.left))) sL_116 dL_law_428 rfl rfl (Nat.le_of_ble_eq_true rfl) (by decide) (by decide) (by omega) (by omega) rfl (fun _ _ _ _ _ h => h.elim) (fun r z1 S1 M1 N1 hw => ?_)
  rcases hw with ⟨x1, N0, ⟨rfl, rfl, rfl, x9, e9, hV, hh1, hf1⟩, rfl, rfl⟩ | ⟨E, hE, rfl, rfl, rfl, rfl⟩
  · cases e9
    have hI1 := hI.cl hb hh1 hf1
    have e2 := hI1.2.2.1
    have hW := hI1.hW
    rw [e2] at hV
    refine qw_istore dL_law_431 rfl (by decide) ?_
    refine qw_aload_n 2 dL_law_433 rfl rfl ?_
    refine qw_aload_n 0 dL_law_434 rfl rfl ?_
    refine qw_iload dL_law_435 rfl ?_
    refine qw_iconst (nI 1) dL_law_437 (by decide) ?_
    refine qw_addN dL_law_438 ?_
    refine qw_xald hX dL_law_439 (by omega) (by omega) ?_
    refine qw_aload_n 0 dL_law_440 rfl rfl ?_
    refine qw_iload dL_law_441 rfl ?_
    refine qw_iconst (nI 2) dL_law_443 (by decide) ?_
    refine qw_addN dL_law_444 ?_
    refine qw_xald hX dL_law_445 (by omega) (by omega) ?_
    refine qw_aload_n 0 dL_law_446 rfl rfl ?_
    refine qw_iload dL_law_447 rfl ?_
    refine qw_iconst (nI 3) dL_law_449 (by decide) ?_
    refine qw_addN dL_law_450 ?_
    refine qw_xald hX dL_law_451 (by omega) (by omega) ?_
    refine qw_cvi [_, _, _] (k_X9_spot h9 hI1.hW) mL_119 dL_law_452 h9.1 rfl rfl rfl (Nat.le_of_ble_eq_true rfl) (by omega) (by decide) rfl (fun x2 M2 h2 => ?_)
    obtain ⟨hV2, rfl⟩ := h2.resolve_right (fun ⟨e, hE2, _⟩ => an_spot hW hV hE2)
    obtain rfl := ag_spot hW hV hV2
    refine qw_istore dL_law_455 rfl (by decide) ?_
    refine qw_aload_n 2 dL_law_457 rfl rfl ?_
    refine qw_cvp [] (k_X9_thrown h9) mL_97 dL_law_458 h9.1 rfl rfl rfl (Nat.le_of_ble_eq_true rfl) (by omega) (by decide) rfl ?_
    rw [lq_up_s]
    refine qw_iload dL_law_461 rfl ?_
    refine qw_icmp_eq 468 dL_law_463 (by decide) (fun c463 => ?_) (fun c463 => absurd rfl c463)
    refine qw_iload dL_law_468 rfl ?_
    refine qw_if_ne 485 dL_law_470 (by decide) (fun c470 => absurd rfl c470) (fun c470 => ?_)
    refine qw_aload_n 3 dL_law_473 rfl rfl ?_
    refine qw_iconst (nI 0) dL_law_474 (by decide) ?_
    refine qw_lald dL_law_475 hO (by omega) (by omega) ?_
    rw [lq_up_s]
    refine qw_iload dL_law_476 rfl ?_
    refine qw_i2l _ dL_law_478 rfl ?_
    refine qw_lcmp dL_law_479 ?_
    rw [q_lc]
    refine qw_if_eq 485 dL_law_480 (by decide) (fun c480 => ?_) (fun c480 => absurd rfl c480)
    refine qw_goto 1729 dL_law_485 (by decide) ?_
    exact qw_weak _ (by simp [lq_le]) (LW.room (by omega) (by omega) (kk _ _ _ _ _ _ _ _ hsh (hI1.up hb 0)))
  · have e2 := hI.2.2.1
    have hW := hI.hW
    rw [e2] at hE
    refine qw_istore dL_law_431 rfl (by decide) ?_
    refine qw_aload_n 2 dL_law_433 rfl rfl ?_
    refine qw_aload_n 0 dL_law_434 rfl rfl ?_
    refine qw_iload dL_law_435 rfl ?_
    refine qw_iconst (nI 1) dL_law_437 (by decide) ?_
    refine qw_addN dL_law_438 ?_
    refine qw_xald hX dL_law_439 (by omega) (by omega) ?_
    refine qw_aload_n 0 dL_law_440 rfl rfl ?_
    refine qw_iload dL_law_441 rfl ?_
    refine qw_iconst (nI 2) dL_law_443 (by decide) ?_
    refine qw_addN dL_law_444 ?_
    refine qw_xald hX dL_law_445 (by omega) (by omega) ?_
    refine qw_aload_n 0 dL_law_446 rfl rfl ?_
    refine qw_iload dL_law_447 rfl ?_
    refine qw_iconst (nI 3) dL_law_449 (by decide) ?_
    refine qw_addN dL_law_450 ?_
    refine qw_xald hX dL_law_451 (by omega) (by omega) ?_
    refine qw_cvi [_, _, _] (k_X9_spot h9 hI.hW) mL_119 dL_law_452 h9.1 rfl rfl rfl (Nat.le_of_ble_eq_true rfl) (by omega) (by decide) rfl (fun x2 M2 h2 => ?_)
    obtain ⟨e, hE2, rfl⟩ := h2.resolve_left (fun h => ap_spot hW h.1 hE)
    obtain ⟨hee, hne⟩ := ae_spot hW hE hE2
    refine qw_istore dL_law_455 rfl (by decide) ?_
    refine qw_aload_n 2 dL_law_457 rfl rfl ?_
    refine qw_cvp [] (k_X9_thrown h9) mL_97 dL_law_458 h9.1 rfl rfl rfl (Nat.le_of_ble_eq_true rfl) (by omega) (by decide) rfl ?_
    rw [lq_up_s]
    refine qw_iload dL_law_461 rfl ?_
    rw [← hee]
    refine qw_icmp_eq 468 dL_law_463 (by decide) (fun c463 => ?_) (fun c463 => absurd rfl c463)
    refine qw_iload dL_law_468 rfl ?_
    refine qw_if_ne 485 dL_law_470 (by decide) (fun c470 => ?_) (fun c470 => absurd c470 hne)
    refine qw_goto 1729 dL_law_485 (by decide) ?_
    exact qw_weak _ (by simp [lq_le]) (LW.room (by omega) (by omega) (kk _ _ _ _ _ _ _ _ hsh (hI.up hb e)))
theorem c_sponsor {a b m o L i u kc ks : Nat} {xs : Nat → Int32} (hX : va_X a L xs (lq_u G) (lq_u G).heap) (hL : L ≤ 3072) (hNC : q_NC G) (hb : b + 1607 ≤ m) (hm : m + 273 ≤ o) (hi : i + 6 ≤ L) {H : Nat → Nat → Nat} {tk : Nat → Nat → Nat × Nat} {n : Nat → Nat} (hsh : q_sh9 S b m o) (hI : q_I b m u H tk n M) {Q : lq_P} (kk : ∀ (z1 : Nat) (S1 : lq_S) (M1 : lq_M) (N1 : lq_N) (u1 : Nat) (H1 : Nat → Nat → Nat) (tk1 : Nat → Nat → Nat × Nat) (n1 : Nat → Nat), q_sh9 S1 b m o → q_I b m u1 H1 tk1 n1 M1 → LW G YL_law 30 kc ks Q lq_no z1 S1 M1 N1 1729 [some (.ref a), some (.ref b), some (.ref m), some (.ref o), some (.int (nI i)), none, none] []) : LW G YL_law 30 (kc + 3) (ks + 18) Q lq_no z S M N 488 [some (.ref a), some (.ref b), some (.ref m), some (.ref o), some (.int (nI i)), none, none] [] := by
  obtain ⟨⟨F, fp, fb, h8⟩, ⟨x0, nb0, h5⟩, ⟨fD, σD, hD⟩, ⟨fh, fo, h9⟩, hO⟩ := id hsh
  refine qw_aload_n 1 dL_law_488 rfl rfl ?_
  refine qw_aload_n 0 dL_law_489 rfl rfl ?_
  refine qw_iload dL_law_490 rfl ?_
  refine qw_iconst (nI 1) dL_law_492 (by decide) ?_
  refine qw_addN dL_law_493 ?_
  refine qw_xald hX dL_law_494 (by omega) (by omega) ?_
  refine qw_aload_n 0 dL_law_495 rfl rfl ?_
  refine qw_iload dL_law_496 rfl ?_
  refine qw_iconst (nI 2) dL_law_498 (by decide) ?_
  refine qw_addN dL_law_499 ?_
  refine qw_xald hX dL_law_500 (by omega) (by omega) ?_
  refine qw_aload_n 3 dL_law_501 rfl rfl ?_
  refine lq_callSH (As := [.ref b, .int (xs (i + 1)), .int (xs (i + 2)), .ref o]) (k_L_sponsor hNC h8.1 (k_X8_sponsor h8 hI.1) (fun r z1 S1 M1 N1 hq => by obtain ⟨-, rfl, -, x9, rfl, -⟩ := hq; exact ⟨⟨x9, rfl⟩, hO⟩) (fun E hE => hE.imp And.left And.left)) sL_120 dL_law_502 rfl rfl (Nat.le_of_ble_eq_true rfl) (by decide) (by decide) (by omega) (by omega) rfl (fun _ _ _ _ _ h => h.elim) (fun r z1 S1 M1 N1 hw => ?_)
  rcases hw with ⟨x1, N0, ⟨rfl, rfl, rfl, x9, e9, hV, hh1, hf1⟩, rfl, rfl⟩ | ⟨E, hE, rfl, rfl, rfl, rfl⟩
  · cases e9
    have hI1 := hI.cl hb hh1 hf1
    have e2 := hI1.2.2.1
    have hW := hI1.hW
    rw [e2] at hV
    refine qw_istore dL_law_505 rfl (by decide) ?_
    refine qw_aload_n 2 dL_law_507 rfl rfl ?_
    refine qw_aload_n 0 dL_law_508 rfl rfl ?_
    refine qw_iload dL_law_509 rfl ?_
    refine qw_iconst (nI 1) dL_law_511 (by decide) ?_
    refine qw_addN dL_law_512 ?_
    refine qw_xald hX dL_law_513 (by omega) (by omega) ?_
    refine qw_aload_n 0 dL_law_514 rfl rfl ?_
    refine qw_iload dL_law_515 rfl ?_
    refine qw_iconst (nI 2) dL_law_517 (by decide) ?_
    refine qw_addN dL_law_518 ?_
    refine qw_xald hX dL_law_519 (by omega) (by omega) ?_
    refine qw_cvi [_, _] (k_X9_sponsor h9 hI1.hW) mL_122 dL_law_520 h9.1 rfl rfl rfl (Nat.le_of_ble_eq_true rfl) (by omega) (by decide) rfl (fun x2 M2 h2 => ?_)
    obtain ⟨hV2, rfl⟩ := h2.resolve_right (fun ⟨e, hE2, _⟩ => an_sponsor hW hV hE2)
    obtain rfl := ag_sponsor hW hV hV2
    refine qw_istore dL_law_523 rfl (by decide) ?_
    refine qw_aload_n 2 dL_law_525 rfl rfl ?_
    refine qw_cvp [] (k_X9_thrown h9) mL_97 dL_law_526 h9.1 rfl rfl rfl (Nat.le_of_ble_eq_true rfl) (by omega) (by decide) rfl ?_
    rw [lq_up_s]
    refine qw_iload dL_law_529 rfl ?_
    refine qw_icmp_eq 536 dL_law_531 (by decide) (fun c531 => ?_) (fun c531 => absurd rfl c531)
    refine qw_iload dL_law_536 rfl ?_
    refine qw_if_ne 553 dL_law_538 (by decide) (fun c538 => absurd rfl c538) (fun c538 => ?_)
    refine qw_aload_n 3 dL_law_541 rfl rfl ?_
    refine qw_iconst (nI 0) dL_law_542 (by decide) ?_
    refine qw_lald dL_law_543 hO (by omega) (by omega) ?_
    rw [lq_up_s]
    refine qw_iload dL_law_544 rfl ?_
    refine qw_i2l _ dL_law_546 rfl ?_
    refine qw_lcmp dL_law_547 ?_
    rw [q_lc]
    refine qw_if_eq 553 dL_law_548 (by decide) (fun c548 => ?_) (fun c548 => absurd rfl c548)
    refine qw_goto 1729 dL_law_553 (by decide) ?_
    exact qw_weak _ (by simp [lq_le]) (LW.room (by omega) (by omega) (kk _ _ _ _ _ _ _ _ hsh (hI1.up hb 0)))
  · have e2 := hI.2.2.1
    have hW := hI.hW
    rw [e2] at hE
    refine qw_istore dL_law_505 rfl (by decide) ?_
    refine qw_aload_n 2 dL_law_507 rfl rfl ?_
    refine qw_aload_n 0 dL_law_508 rfl rfl ?_
    refine qw_iload dL_law_509 rfl ?_
    refine qw_iconst (nI 1) dL_law_511 (by decide) ?_
    refine qw_addN dL_law_512 ?_
    refine qw_xald hX dL_law_513 (by omega) (by omega) ?_
    refine qw_aload_n 0 dL_law_514 rfl rfl ?_
    refine qw_iload dL_law_515 rfl ?_
    refine qw_iconst (nI 2) dL_law_517 (by decide) ?_
    refine qw_addN dL_law_518 ?_
    refine qw_xald hX dL_law_519 (by omega) (by omega) ?_
    refine qw_cvi [_, _] (k_X9_sponsor h9 hI.hW) mL_122 dL_law_520 h9.1 rfl rfl rfl (Nat.le_of_ble_eq_true rfl) (by omega) (by decide) rfl (fun x2 M2 h2 => ?_)
    obtain ⟨e, hE2, rfl⟩ := h2.resolve_left (fun h => ap_sponsor hW h.1 hE)
    obtain ⟨hee, hne⟩ := ae_sponsor hW hE hE2
    refine qw_istore dL_law_523 rfl (by decide) ?_
    refine qw_aload_n 2 dL_law_525 rfl rfl ?_
    refine qw_cvp [] (k_X9_thrown h9) mL_97 dL_law_526 h9.1 rfl rfl rfl (Nat.le_of_ble_eq_true rfl) (by omega) (by decide) rfl ?_
    rw [lq_up_s]
    refine qw_iload dL_law_529 rfl ?_
    rw [← hee]
    refine qw_icmp_eq 536 dL_law_531 (by decide) (fun c531 => ?_) (fun c531 => absurd rfl c531)
    refine qw_iload dL_law_536 rfl ?_
    refine qw_if_ne 553 dL_law_538 (by decide) (fun c538 => ?_) (fun c538 => absurd c538 hne)
    refine qw_goto 1729 dL_law_553 (by decide) ?_
    exact qw_weak _ (by simp [lq_le]) (LW.room (by omega) (by omega) (kk _ _ _ _ _ _ _ _ hsh (hI.up hb e)))
theorem c_spotsOn {a b m o L i u kc ks : Nat} {xs : Nat → Int32} (hX : va_X a L xs (lq_u G) (lq_u G).heap) (hL : L ≤ 3072) (hNC : q_NC G) (hb : b + 1607 ≤ m) (hm : m + 273 ≤ o) (hi : i + 6 ≤ L) {H : Nat → Nat → Nat} {tk : Nat → Nat → Nat × Nat} {n : Nat → Nat} (hsh : q_sh9 S b m o) (hI : q_I b m u H tk n M) {Q : lq_P} (kk : ∀ (z1 : Nat) (S1 : lq_S) (M1 : lq_M) (N1 : lq_N) (u1 : Nat) (H1 : Nat → Nat → Nat) (tk1 : Nat → Nat → Nat × Nat) (n1 : Nat → Nat), q_sh9 S1 b m o → q_I b m u1 H1 tk1 n1 M1 → LW G YL_law 30 kc ks Q lq_no z1 S1 M1 N1 1729 [some (.ref a), some (.ref b), some (.ref m), some (.ref o), some (.int (nI i)), none, none] []) : LW G YL_law 30 (kc + 3) (ks + 18) Q lq_no z S M N 631 [some (.ref a), some (.ref b), some (.ref m), some (.ref o), some (.int (nI i)), none, none] [] := by
  obtain ⟨⟨F, fp, fb, h8⟩, ⟨x0, nb0, h5⟩, ⟨fD, σD, hD⟩, ⟨fh, fo, h9⟩, hO⟩ := id hsh
  refine qw_aload_n 1 dL_law_631 rfl rfl ?_
  refine qw_aload_n 0 dL_law_632 rfl rfl ?_
  refine qw_iload dL_law_633 rfl ?_
  refine qw_iconst (nI 1) dL_law_635 (by decide) ?_
  refine qw_addN dL_law_636 ?_
  refine qw_xald hX dL_law_637 (by omega) (by omega) ?_
  refine qw_aload_n 0 dL_law_638 rfl rfl ?_
  refine qw_iload dL_law_639 rfl ?_
  refine qw_iconst (nI 2) dL_law_641 (by decide) ?_
  refine qw_addN dL_law_642 ?_
  refine qw_xald hX dL_law_643 (by omega) (by omega) ?_
  refine qw_aload_n 3 dL_law_644 rfl rfl ?_
  refine lq_callSH (As := [.ref b, .int (xs (i + 1)), .int (xs (i + 2)), .ref o]) (k_L_spotsOn hNC h8.1 (k_X8_spotsOn h8 hI.1) (fun r z1 S1 M1 N1 hq => by obtain ⟨-, rfl, -, x9, rfl, -⟩ := hq; exact ⟨⟨x9, rfl⟩, hO⟩) (fun E hE => hE.imp And.left And.left)) sL_126 dL_law_645 rfl rfl (Nat.le_of_ble_eq_true rfl) (by decide) (by decide) (by omega) (by omega) rfl (fun _ _ _ _ _ h => h.elim) (fun r z1 S1 M1 N1 hw => ?_)
  rcases hw with ⟨x1, N0, ⟨rfl, rfl, rfl, x9, e9, hV, hh1, hf1⟩, rfl, rfl⟩ | ⟨E, hE, rfl, rfl, rfl, rfl⟩
  · cases e9
    have hI1 := hI.cl hb hh1 hf1
    have e2 := hI1.2.2.1
    have hW := hI1.hW
    rw [e2] at hV
    refine qw_istore dL_law_648 rfl (by decide) ?_
    refine qw_aload_n 2 dL_law_650 rfl rfl ?_
    refine qw_aload_n 0 dL_law_651 rfl rfl ?_
    refine qw_iload dL_law_652 rfl ?_
    refine qw_iconst (nI 1) dL_law_654 (by decide) ?_
    refine qw_addN dL_law_655 ?_
    refine qw_xald hX dL_law_656 (by omega) (by omega) ?_
    refine qw_aload_n 0 dL_law_657 rfl rfl ?_
    refine qw_iload dL_law_658 rfl ?_
    refine qw_iconst (nI 2) dL_law_660 (by decide) ?_
    refine qw_addN dL_law_661 ?_
    refine qw_xald hX dL_law_662 (by omega) (by omega) ?_
    refine qw_cvi [_, _] (k_X9_spotsOn h9 hI1.hW) mL_128 dL_law_663 h9.1 rfl rfl rfl (Nat.le_of_ble_eq_true rfl) (by omega) (by decide) rfl (fun x2 M2 h2 => ?_)
    obtain ⟨hV2, rfl⟩ := h2.resolve_right (fun ⟨e, hE2, _⟩ => an_spotsOn hW hV hE2)
    obtain rfl := ag_spotsOn hW hV hV2
    refine qw_istore dL_law_666 rfl (by decide) ?_
    refine qw_aload_n 2 dL_law_668 rfl rfl ?_
    refine qw_cvp [] (k_X9_thrown h9) mL_97 dL_law_669 h9.1 rfl rfl rfl (Nat.le_of_ble_eq_true rfl) (by omega) (by decide) rfl ?_
    rw [lq_up_s]
    refine qw_iload dL_law_672 rfl ?_
    refine qw_icmp_eq 679 dL_law_674 (by decide) (fun c674 => ?_) (fun c674 => absurd rfl c674)
    refine qw_iload dL_law_679 rfl ?_
    refine qw_if_ne 696 dL_law_681 (by decide) (fun c681 => absurd rfl c681) (fun c681 => ?_)
    refine qw_aload_n 3 dL_law_684 rfl rfl ?_
    refine qw_iconst (nI 0) dL_law_685 (by decide) ?_
    refine qw_lald dL_law_686 hO (by omega) (by omega) ?_
    rw [lq_up_s]
    refine qw_iload dL_law_687 rfl ?_
    refine qw_i2l _ dL_law_689 rfl ?_
    refine qw_lcmp dL_law_690 ?_
    rw [q_lc]
    refine qw_if_eq 696 dL_law_691 (by decide) (fun c691 => ?_) (fun c691 => absurd rfl c691)
    refine qw_goto 1729 dL_law_696 (by decide) ?_
    exact qw_weak _ (by simp [lq_le]) (LW.room (by omega) (by omega) (kk _ _ _ _ _ _ _ _ hsh (hI1.up hb 0)))
  · have e2 := hI.2.2.1
    have hW := hI.hW
    rw [e2] at hE
    refine qw_istore dL_law_648 rfl (by decide) ?_
    refine qw_aload_n 2 dL_law_650 rfl rfl ?_
    refine qw_aload_n 0 dL_law_651 rfl rfl ?_
    refine qw_iload dL_law_652 rfl ?_
    refine qw_iconst (nI 1) dL_law_654 (by decide) ?_
    refine qw_addN dL_law_655 ?_
    refine qw_xald hX dL_law_656 (by omega) (by omega) ?_
    refine qw_aload_n 0 dL_law_657 rfl rfl ?_
    refine qw_iload dL_law_658 rfl ?_
    refine qw_iconst (nI 2) dL_law_660 (by decide) ?_
    refine qw_addN dL_law_661 ?_
    refine qw_xald hX dL_law_662 (by omega) (by omega) ?_
    refine qw_cvi [_, _] (k_X9_spotsOn h9 hI.hW) mL_128 dL_law_663 h9.1 rfl rfl rfl (Nat.le_of_ble_eq_true rfl) (by omega) (by decide) rfl (fun x2 M2 h2 => ?_)
    obtain ⟨e, hE2, rfl⟩ := h2.resolve_left (fun h => ap_spotsOn hW h.1 hE)
    obtain ⟨hee, hne⟩ := ae_spotsOn hW hE hE2
    refine qw_istore dL_law_666 rfl (by decide) ?_
    refine qw_aload_n 2 dL_law_668 rfl rfl ?_
    refine qw_cvp [] (k_X9_thrown h9) mL_97 dL_law_669 h9.1 rfl rfl rfl (Nat.le_of_ble_eq_true rfl) (by omega) (by decide) rfl ?_
    rw [lq_up_s]
    refine qw_iload dL_law_672 rfl ?_
    rw [← hee]
    refine qw_icmp_eq 679 dL_law_674 (by decide) (fun c674 => ?_) (fun c674 => absurd rfl c674)
    refine qw_iload dL_law_679 rfl ?_
    refine qw_if_ne 696 dL_law_681 (by decide) (fun c681 => ?_) (fun c681 => absurd c681 hne)
    refine qw_goto 1729 dL_law_696 (by decide) ?_
    exact qw_weak _ (by simp [lq_le]) (LW.room (by omega) (by omega) (kk _ _ _ _ _ _ _ _ hsh (hI.up hb e)))
theorem c_reason {a b m o L i u kc ks : Nat} {xs : Nat → Int32} (hX : va_X a L xs (lq_u G) (lq_u G).heap) (hL : L ≤ 3072) (hNC : q_NC G) (hb : b + 1607 ≤ m) (hm : m + 273 ≤ o) (hi : i + 6 ≤ L) {H : Nat → Nat → Nat} {tk : Nat → Nat → Nat × Nat} {n : Nat → Nat} (hsh : q_sh9 S b m o) (hI : q_I b m u H tk n M) {Q : lq_P} (kk : ∀ (z1 : Nat) (S1 : lq_S) (M1 : lq_M) (N1 : lq_N) (u1 : Nat) (H1 : Nat → Nat → Nat) (tk1 : Nat → Nat → Nat × Nat) (n1 : Nat → Nat), q_sh9 S1 b m o → q_I b m u1 H1 tk1 n1 M1 → LW G YL_law 30 kc ks Q lq_no z1 S1 M1 N1 1729 [some (.ref a), some (.ref b), some (.ref m), some (.ref o), some (.int (nI i)), none, none] []) : LW G YL_law 30 (kc + 3) (ks + 18) Q lq_no z S M N 699 [some (.ref a), some (.ref b), some (.ref m), some (.ref o), some (.int (nI i)), none, none] [] := by
  obtain ⟨⟨F, fp, fb, h8⟩, ⟨x0, nb0, h5⟩, ⟨fD, σD, hD⟩, ⟨fh, fo, h9⟩, hO⟩ := id hsh
  refine qw_aload_n 1 dL_law_699 rfl rfl ?_
  refine qw_aload_n 0 dL_law_700 rfl rfl ?_
  refine qw_iload dL_law_701 rfl ?_
  refine qw_iconst (nI 1) dL_law_703 (by decide) ?_
  refine qw_addN dL_law_704 ?_
  refine qw_xald hX dL_law_705 (by omega) (by omega) ?_
  refine qw_aload_n 0 dL_law_706 rfl rfl ?_
  refine qw_iload dL_law_707 rfl ?_
  refine qw_iconst (nI 2) dL_law_709 (by decide) ?_
  refine qw_addN dL_law_710 ?_
  refine qw_xald hX dL_law_711 (by omega) (by omega) ?_
  refine qw_aload_n 0 dL_law_712 rfl rfl ?_
  refine qw_iload dL_law_713 rfl ?_
  refine qw_iconst (nI 3) dL_law_715 (by decide) ?_
  refine qw_addN dL_law_716 ?_
  refine qw_xald hX dL_law_717 (by omega) (by omega) ?_
  refine qw_aload_n 3 dL_law_718 rfl rfl ?_
  refine lq_callSH (As := [.ref b, .int (xs (i + 1)), .int (xs (i + 2)), .int (xs (i + 3)), .ref o]) (k_L_reason hNC h8.1 (k_X8_reason h8 hI.1) (fun r z1 S1 M1 N1 hq => by obtain ⟨-, rfl, -, x9, rfl, -⟩ := hq; exact ⟨⟨x9, rfl⟩, hO⟩) (fun E hE => hE.imp And.left And.left)) sL_129 dL_law_719 rfl rfl (Nat.le_of_ble_eq_true rfl) (by decide) (by decide) (by omega) (by omega) rfl (fun _ _ _ _ _ h => h.elim) (fun r z1 S1 M1 N1 hw => ?_)
  rcases hw with ⟨x1, N0, ⟨rfl, rfl, rfl, x9, e9, hV, hh1, hf1⟩, rfl, rfl⟩ | ⟨E, hE, rfl, rfl, rfl, rfl⟩
  · cases e9
    have hI1 := hI.cl hb hh1 hf1
    have e2 := hI1.2.2.1
    have hW := hI1.hW
    rw [e2] at hV
    refine qw_istore dL_law_722 rfl (by decide) ?_
    refine qw_aload_n 2 dL_law_724 rfl rfl ?_
    refine qw_aload_n 0 dL_law_725 rfl rfl ?_
    refine qw_iload dL_law_726 rfl ?_
    refine qw_iconst (nI 1) dL_law_728 (by decide) ?_
    refine qw_addN dL_law_729 ?_
    refine qw_xald hX dL_law_730 (by omega) (by omega) ?_
    refine qw_aload_n 0 dL_law_731 rfl rfl ?_
    refine qw_iload dL_law_732 rfl ?_
    refine qw_iconst (nI 2) dL_law_734 (by decide) ?_
    refine qw_addN dL_law_735 ?_
    refine qw_xald hX dL_law_736 (by omega) (by omega) ?_
    refine qw_aload_n 0 dL_law_737 rfl rfl ?_
    refine qw_iload dL_law_738 rfl ?_
    refine qw_iconst (nI 3) dL_law_740 (by decide) ?_
    refine qw_addN dL_law_741 ?_
    refine qw_xald hX dL_law_742 (by omega) (by omega) ?_
    refine qw_cvi [_, _, _] (k_X9_reason h9 hI1.hW) mL_131 dL_law_743 h9.1 rfl rfl rfl (Nat.le_of_ble_eq_true rfl) (by omega) (by decide) rfl (fun x2 M2 h2 => ?_)
    obtain ⟨hV2, rfl⟩ := h2.resolve_right (fun ⟨e, hE2, _⟩ => an_reason hW hV hE2)
    obtain rfl := ag_reason hW hV hV2
    refine qw_istore dL_law_746 rfl (by decide) ?_
    refine qw_aload_n 2 dL_law_748 rfl rfl ?_
    refine qw_cvp [] (k_X9_thrown h9) mL_97 dL_law_749 h9.1 rfl rfl rfl (Nat.le_of_ble_eq_true rfl) (by omega) (by decide) rfl ?_
    rw [lq_up_s]
    refine qw_iload dL_law_752 rfl ?_
    refine qw_icmp_eq 759 dL_law_754 (by decide) (fun c754 => ?_) (fun c754 => absurd rfl c754)
    refine qw_iload dL_law_759 rfl ?_
    refine qw_if_ne 776 dL_law_761 (by decide) (fun c761 => absurd rfl c761) (fun c761 => ?_)
    refine qw_aload_n 3 dL_law_764 rfl rfl ?_
    refine qw_iconst (nI 0) dL_law_765 (by decide) ?_
    refine qw_lald dL_law_766 hO (by omega) (by omega) ?_
    rw [lq_up_s]
    refine qw_iload dL_law_767 rfl ?_
    refine qw_i2l _ dL_law_769 rfl ?_
    refine qw_lcmp dL_law_770 ?_
    rw [q_lc]
    refine qw_if_eq 776 dL_law_771 (by decide) (fun c771 => ?_) (fun c771 => absurd rfl c771)
    refine qw_goto 1729 dL_law_776 (by decide) ?_
    exact qw_weak _ (by simp [lq_le]) (LW.room (by omega) (by omega) (kk _ _ _ _ _ _ _ _ hsh (hI1.up hb 0)))
  · have e2 := hI.2.2.1
    have hW := hI.hW
    rw [e2] at hE
    refine qw_istore dL_law_722 rfl (by decide) ?_
    refine qw_aload_n 2 dL_law_724 rfl rfl ?_
    refine qw_aload_n 0 dL_law_725 rfl rfl ?_
    refine qw_iload dL_law_726 rfl ?_
    refine qw_iconst (nI 1) dL_law_728 (by decide) ?_
    refine qw_addN dL_law_729 ?_
    refine qw_xald hX dL_law_730 (by omega) (by omega) ?_
    refine qw_aload_n 0 dL_law_731 rfl rfl ?_
    refine qw_iload dL_law_732 rfl ?_
    refine qw_iconst (nI 2) dL_law_734 (by decide) ?_
    refine qw_addN dL_law_735 ?_
    refine qw_xald hX dL_law_736 (by omega) (by omega) ?_
    refine qw_aload_n 0 dL_law_737 rfl rfl ?_
    refine qw_iload dL_law_738 rfl ?_
    refine qw_iconst (nI 3) dL_law_740 (by decide) ?_
    refine qw_addN dL_law_741 ?_
    refine qw_xald hX dL_law_742 (by omega) (by omega) ?_
    refine qw_cvi [_, _, _] (k_X9_reason h9 hI.hW) mL_131 dL_law_743 h9.1 rfl rfl rfl (Nat.le_of_ble_eq_true rfl) (by omega) (by decide) rfl (fun x2 M2 h2 => ?_)
    obtain ⟨e, hE2, rfl⟩ := h2.resolve_left (fun h => ap_reason hW h.1 hE)
    obtain ⟨hee, hne⟩ := ae_reason hW hE hE2
    refine qw_istore dL_law_746 rfl (by decide) ?_
    refine qw_aload_n 2 dL_law_748 rfl rfl ?_
    refine qw_cvp [] (k_X9_thrown h9) mL_97 dL_law_749 h9.1 rfl rfl rfl (Nat.le_of_ble_eq_true rfl) (by omega) (by decide) rfl ?_
    rw [lq_up_s]
    refine qw_iload dL_law_752 rfl ?_
    rw [← hee]
    refine qw_icmp_eq 759 dL_law_754 (by decide) (fun c754 => ?_) (fun c754 => absurd rfl c754)
    refine qw_iload dL_law_759 rfl ?_
    refine qw_if_ne 776 dL_law_761 (by decide) (fun c761 => ?_) (fun c761 => absurd c761 hne)
    refine qw_goto 1729 dL_law_776 (by decide) ?_
    exact qw_weak _ (by simp [lq_le]) (LW.room (by omega) (by omega) (kk _ _ _ _ _ _ _ _ hsh (hI.up hb e)))
theorem c_widest {a b m o L i u kc ks : Nat} {xs : Nat → Int32} (hX : va_X a L xs (lq_u G) (lq_u G).heap) (hL : L ≤ 3072) (hNC : q_NC G) (hb : b + 1607 ≤ m) (hm : m + 273 ≤ o) (hi : i + 6 ≤ L) {H : Nat → Nat → Nat} {tk : Nat → Nat → Nat × Nat} {n : Nat → Nat} (hsh : q_sh9 S b m o) (hI : q_I b m u H tk n M) {Q : lq_P} (kk : ∀ (z1 : Nat) (S1 : lq_S) (M1 : lq_M) (N1 : lq_N) (u1 : Nat) (H1 : Nat → Nat → Nat) (tk1 : Nat → Nat → Nat × Nat) (n1 : Nat → Nat), q_sh9 S1 b m o → q_I b m u1 H1 tk1 n1 M1 → LW G YL_law 30 kc ks Q lq_no z1 S1 M1 N1 1729 [some (.ref a), some (.ref b), some (.ref m), some (.ref o), some (.int (nI i)), none, none] []) : LW G YL_law 30 (kc + 3) (ks + 18) Q lq_no z S M N 927 [some (.ref a), some (.ref b), some (.ref m), some (.ref o), some (.int (nI i)), none, none] [] := by
  obtain ⟨⟨F, fp, fb, h8⟩, ⟨x0, nb0, h5⟩, ⟨fD, σD, hD⟩, ⟨fh, fo, h9⟩, hO⟩ := id hsh
  refine qw_aload_n 1 dL_law_927 rfl rfl ?_
  refine qw_aload_n 0 dL_law_928 rfl rfl ?_
  refine qw_iload dL_law_929 rfl ?_
  refine qw_iconst (nI 1) dL_law_931 (by decide) ?_
  refine qw_addN dL_law_932 ?_
  refine qw_xald hX dL_law_933 (by omega) (by omega) ?_
  refine qw_aload_n 0 dL_law_934 rfl rfl ?_
  refine qw_iload dL_law_935 rfl ?_
  refine qw_iconst (nI 2) dL_law_937 (by decide) ?_
  refine qw_addN dL_law_938 ?_
  refine qw_xald hX dL_law_939 (by omega) (by omega) ?_
  refine qw_aload_n 3 dL_law_940 rfl rfl ?_
  refine lq_callSH (As := [.ref b, .int (xs (i + 1)), .int (xs (i + 2)), .ref o]) (k_L_widest hNC h8.1 (k_X8_widest h8 hI.1) (fun r z1 S1 M1 N1 hq => by obtain ⟨-, rfl, -, x9, rfl, -⟩ := hq; exact ⟨⟨x9, rfl⟩, hO⟩) (fun E hE => hE.imp And.left And.left)) sL_138 dL_law_941 rfl rfl (Nat.le_of_ble_eq_true rfl) (by decide) (by decide) (by omega) (by omega) rfl (fun _ _ _ _ _ h => h.elim) (fun r z1 S1 M1 N1 hw => ?_)
  rcases hw with ⟨x1, N0, ⟨rfl, rfl, rfl, x9, e9, hV, hh1, hf1⟩, rfl, rfl⟩ | ⟨E, hE, rfl, rfl, rfl, rfl⟩
  · cases e9
    have hI1 := hI.cl hb hh1 hf1
    have e2 := hI1.2.2.1
    have hW := hI1.hW
    rw [e2] at hV
    refine qw_istore dL_law_944 rfl (by decide) ?_
    refine qw_aload_n 2 dL_law_946 rfl rfl ?_
    refine qw_aload_n 0 dL_law_947 rfl rfl ?_
    refine qw_iload dL_law_948 rfl ?_
    refine qw_iconst (nI 1) dL_law_950 (by decide) ?_
    refine qw_addN dL_law_951 ?_
    refine qw_xald hX dL_law_952 (by omega) (by omega) ?_
    refine qw_aload_n 0 dL_law_953 rfl rfl ?_
    refine qw_iload dL_law_954 rfl ?_
    refine qw_iconst (nI 2) dL_law_956 (by decide) ?_
    refine qw_addN dL_law_957 ?_
    refine qw_xald hX dL_law_958 (by omega) (by omega) ?_
    refine qw_cvi [_, _] (k_X9_widest h9 hI1.hW) mL_140 dL_law_959 h9.1 rfl rfl rfl (Nat.le_of_ble_eq_true rfl) (by omega) (by decide) rfl (fun x2 M2 h2 => ?_)
    obtain ⟨hV2, rfl⟩ := h2.resolve_right (fun ⟨e, hE2, _⟩ => an_widest hW hV hE2)
    obtain rfl := ag_widest hW hV hV2
    refine qw_istore dL_law_962 rfl (by decide) ?_
    refine qw_aload_n 2 dL_law_964 rfl rfl ?_
    refine qw_cvp [] (k_X9_thrown h9) mL_97 dL_law_965 h9.1 rfl rfl rfl (Nat.le_of_ble_eq_true rfl) (by omega) (by decide) rfl ?_
    rw [lq_up_s]
    refine qw_iload dL_law_968 rfl ?_
    refine qw_icmp_eq 975 dL_law_970 (by decide) (fun c970 => ?_) (fun c970 => absurd rfl c970)
    refine qw_iload dL_law_975 rfl ?_
    refine qw_if_ne 992 dL_law_977 (by decide) (fun c977 => absurd rfl c977) (fun c977 => ?_)
    refine qw_aload_n 3 dL_law_980 rfl rfl ?_
    refine qw_iconst (nI 0) dL_law_981 (by decide) ?_
    refine qw_lald dL_law_982 hO (by omega) (by omega) ?_
    rw [lq_up_s]
    refine qw_iload dL_law_983 rfl ?_
    refine qw_i2l _ dL_law_985 rfl ?_
    refine qw_lcmp dL_law_986 ?_
    rw [q_lc]
    refine qw_if_eq 992 dL_law_987 (by decide) (fun c987 => ?_) (fun c987 => absurd rfl c987)
    refine qw_goto 1729 dL_law_992 (by decide) ?_
    exact qw_weak _ (by simp [lq_le]) (LW.room (by omega) (by omega) (kk _ _ _ _ _ _ _ _ hsh (hI1.up hb 0)))
  · have e2 := hI.2.2.1
    have hW := hI.hW
    rw [e2] at hE
    refine qw_istore dL_law_944 rfl (by decide) ?_
    refine qw_aload_n 2 dL_law_946 rfl rfl ?_
    refine qw_aload_n 0 dL_law_947 rfl rfl ?_
    refine qw_iload dL_law_948 rfl ?_
    refine qw_iconst (nI 1) dL_law_950 (by decide) ?_
    refine qw_addN dL_law_951 ?_
    refine qw_xald hX dL_law_952 (by omega) (by omega) ?_
    refine qw_aload_n 0 dL_law_953 rfl rfl ?_
    refine qw_iload dL_law_954 rfl ?_
    refine qw_iconst (nI 2) dL_law_956 (by decide) ?_
    refine qw_addN dL_law_957 ?_
    refine qw_xald hX dL_law_958 (by omega) (by omega) ?_
    refine qw_cvi [_, _] (k_X9_widest h9 hI.hW) mL_140 dL_law_959 h9.1 rfl rfl rfl (Nat.le_of_ble_eq_true rfl) (by omega) (by decide) rfl (fun x2 M2 h2 => ?_)
    obtain ⟨e, hE2, rfl⟩ := h2.resolve_left (fun h => ap_widest hW h.1 hE)
    obtain ⟨hee, hne⟩ := ae_widest hW hE hE2
    refine qw_istore dL_law_962 rfl (by decide) ?_
    refine qw_aload_n 2 dL_law_964 rfl rfl ?_
    refine qw_cvp [] (k_X9_thrown h9) mL_97 dL_law_965 h9.1 rfl rfl rfl (Nat.le_of_ble_eq_true rfl) (by omega) (by decide) rfl ?_
    rw [lq_up_s]
    refine qw_iload dL_law_968 rfl ?_
    rw [← hee]
    refine qw_icmp_eq 975 dL_law_970 (by decide) (fun c970 => ?_) (fun c970 => absurd rfl c970)
    refine qw_iload dL_law_975 rfl ?_
    refine qw_if_ne 992 dL_law_977 (by decide) (fun c977 => ?_) (fun c977 => absurd c977 hne)
    refine qw_goto 1729 dL_law_992 (by decide) ?_
    exact qw_weak _ (by simp [lq_le]) (LW.room (by omega) (by omega) (kk _ _ _ _ _ _ _ _ hsh (hI.up hb e)))
theorem c_owedSpot {a b m o L i u kc ks : Nat} {xs : Nat → Int32} (hX : va_X a L xs (lq_u G) (lq_u G).heap) (hL : L ≤ 3072) (hNC : q_NC G) (hb : b + 1607 ≤ m) (hm : m + 273 ≤ o) (hi : i + 6 ≤ L) {H : Nat → Nat → Nat} {tk : Nat → Nat → Nat × Nat} {n : Nat → Nat} (hsh : q_sh9 S b m o) (hI : q_I b m u H tk n M) {Q : lq_P} (kk : ∀ (z1 : Nat) (S1 : lq_S) (M1 : lq_M) (N1 : lq_N) (u1 : Nat) (H1 : Nat → Nat → Nat) (tk1 : Nat → Nat → Nat × Nat) (n1 : Nat → Nat), q_sh9 S1 b m o → q_I b m u1 H1 tk1 n1 M1 → LW G YL_law 30 kc ks Q lq_no z1 S1 M1 N1 1729 [some (.ref a), some (.ref b), some (.ref m), some (.ref o), some (.int (nI i)), none, none] []) : LW G YL_law 30 (kc + 3) (ks + 18) Q lq_no z S M N 1021 [some (.ref a), some (.ref b), some (.ref m), some (.ref o), some (.int (nI i)), none, none] [] := by
  obtain ⟨⟨F, fp, fb, h8⟩, ⟨x0, nb0, h5⟩, ⟨fD, σD, hD⟩, ⟨fh, fo, h9⟩, hO⟩ := id hsh
  refine qw_aload_n 1 dL_law_1021 rfl rfl ?_
  refine qw_aload_n 0 dL_law_1022 rfl rfl ?_
  refine qw_iload dL_law_1023 rfl ?_
  refine qw_iconst (nI 1) dL_law_1025 (by decide) ?_
  refine qw_addN dL_law_1026 ?_
  refine qw_xald hX dL_law_1027 (by omega) (by omega) ?_
  refine qw_aload_n 0 dL_law_1028 rfl rfl ?_
  refine qw_iload dL_law_1029 rfl ?_
  refine qw_iconst (nI 2) dL_law_1031 (by decide) ?_
  refine qw_addN dL_law_1032 ?_
  refine qw_xald hX dL_law_1033 (by omega) (by omega) ?_
  refine qw_aload_n 3 dL_law_1034 rfl rfl ?_
  refine lq_callSH (As := [.ref b, .int (xs (i + 1)), .int (xs (i + 2)), .ref o]) (k_L_owedSpot hNC h8.1 (k_X8_owedSpot h8 hI.1) (fun r z1 S1 M1 N1 hq => by obtain ⟨-, rfl, -, x9, rfl, -⟩ := hq; exact ⟨⟨x9, rfl⟩, hO⟩) (fun E hE => hE.imp And.left And.left)) sL_149 dL_law_1035 rfl rfl (Nat.le_of_ble_eq_true rfl) (by decide) (by decide) (by omega) (by omega) rfl (fun _ _ _ _ _ h => h.elim) (fun r z1 S1 M1 N1 hw => ?_)
  rcases hw with ⟨x1, N0, ⟨rfl, rfl, rfl, x9, e9, hV, hh1, hf1⟩, rfl, rfl⟩ | ⟨E, hE, rfl, rfl, rfl, rfl⟩
  · cases e9
    have hI1 := hI.cl hb hh1 hf1
    have e2 := hI1.2.2.1
    have hW := hI1.hW
    rw [e2] at hV
    refine qw_istore dL_law_1038 rfl (by decide) ?_
    refine qw_aload_n 2 dL_law_1040 rfl rfl ?_
    refine qw_aload_n 0 dL_law_1041 rfl rfl ?_
    refine qw_iload dL_law_1042 rfl ?_
    refine qw_iconst (nI 1) dL_law_1044 (by decide) ?_
    refine qw_addN dL_law_1045 ?_
    refine qw_xald hX dL_law_1046 (by omega) (by omega) ?_
    refine qw_aload_n 0 dL_law_1047 rfl rfl ?_
    refine qw_iload dL_law_1048 rfl ?_
    refine qw_iconst (nI 2) dL_law_1050 (by decide) ?_
    refine qw_addN dL_law_1051 ?_
    refine qw_xald hX dL_law_1052 (by omega) (by omega) ?_
    refine qw_cvi [_, _] (k_X9_owedSpot h9 hI1.hW) mL_151 dL_law_1053 h9.1 rfl rfl rfl (Nat.le_of_ble_eq_true rfl) (by omega) (by decide) rfl (fun x2 M2 h2 => ?_)
    obtain ⟨hV2, rfl⟩ := h2.resolve_right (fun ⟨e, hE2, _⟩ => an_owedSpot hW hV hE2)
    obtain rfl := ag_owedSpot hW hV hV2
    refine qw_istore dL_law_1056 rfl (by decide) ?_
    refine qw_aload_n 2 dL_law_1058 rfl rfl ?_
    refine qw_cvp [] (k_X9_thrown h9) mL_97 dL_law_1059 h9.1 rfl rfl rfl (Nat.le_of_ble_eq_true rfl) (by omega) (by decide) rfl ?_
    rw [lq_up_s]
    refine qw_iload dL_law_1062 rfl ?_
    refine qw_icmp_eq 1069 dL_law_1064 (by decide) (fun c1064 => ?_) (fun c1064 => absurd rfl c1064)
    refine qw_iload dL_law_1069 rfl ?_
    refine qw_if_ne 1086 dL_law_1071 (by decide) (fun c1071 => absurd rfl c1071) (fun c1071 => ?_)
    refine qw_aload_n 3 dL_law_1074 rfl rfl ?_
    refine qw_iconst (nI 0) dL_law_1075 (by decide) ?_
    refine qw_lald dL_law_1076 hO (by omega) (by omega) ?_
    rw [lq_up_s]
    refine qw_iload dL_law_1077 rfl ?_
    refine qw_i2l _ dL_law_1079 rfl ?_
    refine qw_lcmp dL_law_1080 ?_
    rw [q_lc]
    refine qw_if_eq 1086 dL_law_1081 (by decide) (fun c1081 => ?_) (fun c1081 => absurd rfl c1081)
    refine qw_goto 1729 dL_law_1086 (by decide) ?_
    exact qw_weak _ (by simp [lq_le]) (LW.room (by omega) (by omega) (kk _ _ _ _ _ _ _ _ hsh (hI1.up hb 0)))
  · have e2 := hI.2.2.1
    have hW := hI.hW
    rw [e2] at hE
    refine qw_istore dL_law_1038 rfl (by decide) ?_
    refine qw_aload_n 2 dL_law_1040 rfl rfl ?_
    refine qw_aload_n 0 dL_law_1041 rfl rfl ?_
    refine qw_iload dL_law_1042 rfl ?_
    refine qw_iconst (nI 1) dL_law_1044 (by decide) ?_
    refine qw_addN dL_law_1045 ?_
    refine qw_xald hX dL_law_1046 (by omega) (by omega) ?_
    refine qw_aload_n 0 dL_law_1047 rfl rfl ?_
    refine qw_iload dL_law_1048 rfl ?_
    refine qw_iconst (nI 2) dL_law_1050 (by decide) ?_
    refine qw_addN dL_law_1051 ?_
    refine qw_xald hX dL_law_1052 (by omega) (by omega) ?_
    refine qw_cvi [_, _] (k_X9_owedSpot h9 hI.hW) mL_151 dL_law_1053 h9.1 rfl rfl rfl (Nat.le_of_ble_eq_true rfl) (by omega) (by decide) rfl (fun x2 M2 h2 => ?_)
    obtain ⟨e, hE2, rfl⟩ := h2.resolve_left (fun h => ap_owedSpot hW h.1 hE)
    obtain ⟨hee, hne⟩ := ae_owedSpot hW hE hE2
    refine qw_istore dL_law_1056 rfl (by decide) ?_
    refine qw_aload_n 2 dL_law_1058 rfl rfl ?_
    refine qw_cvp [] (k_X9_thrown h9) mL_97 dL_law_1059 h9.1 rfl rfl rfl (Nat.le_of_ble_eq_true rfl) (by omega) (by decide) rfl ?_
    rw [lq_up_s]
    refine qw_iload dL_law_1062 rfl ?_
    rw [← hee]
    refine qw_icmp_eq 1069 dL_law_1064 (by decide) (fun c1064 => ?_) (fun c1064 => absurd rfl c1064)
    refine qw_iload dL_law_1069 rfl ?_
    refine qw_if_ne 1086 dL_law_1071 (by decide) (fun c1071 => ?_) (fun c1071 => absurd c1071 hne)
    refine qw_goto 1729 dL_law_1086 (by decide) ?_
    exact qw_weak _ (by simp [lq_le]) (LW.room (by omega) (by omega) (kk _ _ _ _ _ _ _ _ hsh (hI.up hb e)))
theorem c_arrangements {a b m o L i u kc ks : Nat} {xs : Nat → Int32} (hX : va_X a L xs (lq_u G) (lq_u G).heap) (hL : L ≤ 3072) (hNC : q_NC G) (hb : b + 1607 ≤ m) (hm : m + 273 ≤ o) (hi : i + 6 ≤ L) {H : Nat → Nat → Nat} {tk : Nat → Nat → Nat × Nat} {n : Nat → Nat} (hsh : q_sh9 S b m o) (hI : q_I b m u H tk n M) {Q : lq_P} (kk : ∀ (z1 : Nat) (S1 : lq_S) (M1 : lq_M) (N1 : lq_N) (u1 : Nat) (H1 : Nat → Nat → Nat) (tk1 : Nat → Nat → Nat × Nat) (n1 : Nat → Nat), q_sh9 S1 b m o → q_I b m u1 H1 tk1 n1 M1 → LW G YL_law 30 kc ks Q lq_no z1 S1 M1 N1 1729 [some (.ref a), some (.ref b), some (.ref m), some (.ref o), some (.int (nI i)), none, none] []) : LW G YL_law 30 (kc + 3) (ks + 18) Q lq_no z S M N 1089 [some (.ref a), some (.ref b), some (.ref m), some (.ref o), some (.int (nI i)), none, none] [] := by
  obtain ⟨⟨F, fp, fb, h8⟩, ⟨x0, nb0, h5⟩, ⟨fD, σD, hD⟩, ⟨fh, fo, h9⟩, hO⟩ := id hsh
  refine qw_aload_n 1 dL_law_1089 rfl rfl ?_
  refine qw_aload_n 0 dL_law_1090 rfl rfl ?_
  refine qw_iload dL_law_1091 rfl ?_
  refine qw_iconst (nI 1) dL_law_1093 (by decide) ?_
  refine qw_addN dL_law_1094 ?_
  refine qw_xald hX dL_law_1095 (by omega) (by omega) ?_
  refine qw_aload_n 3 dL_law_1096 rfl rfl ?_
  refine lq_callSH (As := [.ref b, .int (xs (i + 1)), .ref o]) (k_L_arrangements hNC h8.1 (k_X8_arrangements h8 hI.1) (fun r z1 S1 M1 N1 hq => by obtain ⟨-, rfl, -, x9, rfl, -⟩ := hq; exact ⟨⟨x9, rfl⟩, hO⟩) (fun E hE => hE.1)) sL_152 dL_law_1097 rfl rfl (Nat.le_of_ble_eq_true rfl) (by decide) (by decide) (by omega) (by omega) rfl (fun _ _ _ _ _ h => h.elim) (fun r z1 S1 M1 N1 hw => ?_)
  rcases hw with ⟨x1, N0, ⟨rfl, rfl, rfl, x9, e9, hV, hh1, hf1⟩, rfl, rfl⟩ | ⟨E, hE, rfl, rfl, rfl, rfl⟩
  · cases e9
    have hI1 := hI.cl hb hh1 hf1
    have e2 := hI1.2.2.1
    have hW := hI1.hW
    rw [e2] at hV
    refine qw_istore dL_law_1100 rfl (by decide) ?_
    refine qw_aload_n 2 dL_law_1102 rfl rfl ?_
    refine qw_aload_n 0 dL_law_1103 rfl rfl ?_
    refine qw_iload dL_law_1104 rfl ?_
    refine qw_iconst (nI 1) dL_law_1106 (by decide) ?_
    refine qw_addN dL_law_1107 ?_
    refine qw_xald hX dL_law_1108 (by omega) (by omega) ?_
    refine qw_cvi [_] (k_X9_arrangements h9 hI1.hW) mL_154 dL_law_1109 h9.1 rfl rfl rfl (Nat.le_of_ble_eq_true rfl) (by omega) (by decide) rfl (fun x2 M2 h2 => ?_)
    obtain ⟨hV2, w1, w2, w3⟩ := h2.resolve_right (fun ⟨e, hE2, _⟩ => an_arrangements hW hV hE2)
    obtain rfl := ag_arrangements hW hV hV2
    refine qw_istore dL_law_1112 rfl (by decide) ?_
    refine qw_aload_n 2 dL_law_1114 rfl rfl ?_
    refine qw_cvp [] (k_X9_thrown h9) mL_97 dL_law_1115 h9.1 rfl rfl rfl (Nat.le_of_ble_eq_true rfl) (by omega) (by decide) rfl ?_
    rw [w1]
    refine qw_iload dL_law_1118 rfl ?_
    refine qw_icmp_eq 1125 dL_law_1120 (by decide) (fun c1120 => ?_) (fun c1120 => absurd rfl c1120)
    refine qw_iload dL_law_1125 rfl ?_
    refine qw_if_ne 1142 dL_law_1127 (by decide) (fun c1127 => absurd rfl c1127) (fun c1127 => ?_)
    refine qw_aload_n 3 dL_law_1130 rfl rfl ?_
    refine qw_iconst (nI 0) dL_law_1131 (by decide) ?_
    refine qw_lald dL_law_1132 hO (by omega) (by omega) ?_
    rw [lq_up_s]
    refine qw_iload dL_law_1133 rfl ?_
    refine qw_i2l _ dL_law_1135 rfl ?_
    refine qw_lcmp dL_law_1136 ?_
    rw [q_lc]
    refine qw_if_eq 1142 dL_law_1137 (by decide) (fun c1137 => ?_) (fun c1137 => absurd rfl c1137)
    refine qw_goto 1729 dL_law_1142 (by decide) ?_
    exact qw_weak _ (by simp [lq_le]) (LW.room (by omega) (by omega) (kk _ _ _ _ _ _ _ _ hsh (hI1.rf hb w2 w3)))
  · have e2 := hI.2.2.1
    have hW := hI.hW
    rw [e2] at hE
    refine qw_istore dL_law_1100 rfl (by decide) ?_
    refine qw_aload_n 2 dL_law_1102 rfl rfl ?_
    refine qw_aload_n 0 dL_law_1103 rfl rfl ?_
    refine qw_iload dL_law_1104 rfl ?_
    refine qw_iconst (nI 1) dL_law_1106 (by decide) ?_
    refine qw_addN dL_law_1107 ?_
    refine qw_xald hX dL_law_1108 (by omega) (by omega) ?_
    refine qw_cvi [_] (k_X9_arrangements h9 hI.hW) mL_154 dL_law_1109 h9.1 rfl rfl rfl (Nat.le_of_ble_eq_true rfl) (by omega) (by decide) rfl (fun x2 M2 h2 => ?_)
    obtain ⟨e, hE2, rfl⟩ := h2.resolve_left (fun h => ap_arrangements hW h.1 hE)
    obtain ⟨hee, hne⟩ := ae_arrangements hW hE hE2
    refine qw_istore dL_law_1112 rfl (by decide) ?_
    refine qw_aload_n 2 dL_law_1114 rfl rfl ?_
    refine qw_cvp [] (k_X9_thrown h9) mL_97 dL_law_1115 h9.1 rfl rfl rfl (Nat.le_of_ble_eq_true rfl) (by omega) (by decide) rfl ?_
    rw [lq_up_s]
    refine qw_iload dL_law_1118 rfl ?_
    rw [← hee]
    refine qw_icmp_eq 1125 dL_law_1120 (by decide) (fun c1120 => ?_) (fun c1120 => absurd rfl c1120)
    refine qw_iload dL_law_1125 rfl ?_
    refine qw_if_ne 1142 dL_law_1127 (by decide) (fun c1127 => ?_) (fun c1127 => absurd c1127 hne)
    refine qw_goto 1729 dL_law_1142 (by decide) ?_
    exact qw_weak _ (by simp [lq_le]) (LW.room (by omega) (by omega) (kk _ _ _ _ _ _ _ _ hsh (hI.up hb e)))
theorem c_arranged {a b m o L i u kc ks : Nat} {xs : Nat → Int32} (hX : va_X a L xs (lq_u G) (lq_u G).heap) (hL : L ≤ 3072) (hNC : q_NC G) (hb : b + 1607 ≤ m) (hm : m + 273 ≤ o) (hi : i + 6 ≤ L) {H : Nat → Nat → Nat} {tk : Nat → Nat → Nat × Nat} {n : Nat → Nat} (hsh : q_sh9 S b m o) (hI : q_I b m u H tk n M) {Q : lq_P} (kk : ∀ (z1 : Nat) (S1 : lq_S) (M1 : lq_M) (N1 : lq_N) (u1 : Nat) (H1 : Nat → Nat → Nat) (tk1 : Nat → Nat → Nat × Nat) (n1 : Nat → Nat), q_sh9 S1 b m o → q_I b m u1 H1 tk1 n1 M1 → LW G YL_law 30 kc ks Q lq_no z1 S1 M1 N1 1729 [some (.ref a), some (.ref b), some (.ref m), some (.ref o), some (.int (nI i)), none, none] []) : LW G YL_law 30 (kc + 3) (ks + 18) Q lq_no z S M N 1145 [some (.ref a), some (.ref b), some (.ref m), some (.ref o), some (.int (nI i)), none, none] [] := by
  obtain ⟨⟨F, fp, fb, h8⟩, ⟨x0, nb0, h5⟩, ⟨fD, σD, hD⟩, ⟨fh, fo, h9⟩, hO⟩ := id hsh
  refine qw_aload_n 1 dL_law_1145 rfl rfl ?_
  refine qw_aload_n 0 dL_law_1146 rfl rfl ?_
  refine qw_iload dL_law_1147 rfl ?_
  refine qw_iconst (nI 1) dL_law_1149 (by decide) ?_
  refine qw_addN dL_law_1150 ?_
  refine qw_xald hX dL_law_1151 (by omega) (by omega) ?_
  refine qw_aload_n 0 dL_law_1152 rfl rfl ?_
  refine qw_iload dL_law_1153 rfl ?_
  refine qw_iconst (nI 2) dL_law_1155 (by decide) ?_
  refine qw_addN dL_law_1156 ?_
  refine qw_xald hX dL_law_1157 (by omega) (by omega) ?_
  refine qw_aload_n 3 dL_law_1158 rfl rfl ?_
  refine lq_callSH (As := [.ref b, .int (xs (i + 1)), .int (xs (i + 2)), .ref o]) (k_L_arranged hNC h8.1 (k_X8_arranged h8 hI.1) (fun r z1 S1 M1 N1 hq => by obtain ⟨-, rfl, -, x9, rfl, -⟩ := hq; exact ⟨⟨x9, rfl⟩, hO⟩) (fun E hE => hE.imp And.left And.left)) sL_155 dL_law_1159 rfl rfl (Nat.le_of_ble_eq_true rfl) (by decide) (by decide) (by omega) (by omega) rfl (fun _ _ _ _ _ h => h.elim) (fun r z1 S1 M1 N1 hw => ?_)
  rcases hw with ⟨x1, N0, ⟨rfl, rfl, rfl, x9, e9, hV, hh1, hf1⟩, rfl, rfl⟩ | ⟨E, hE, rfl, rfl, rfl, rfl⟩
  · cases e9
    have hI1 := hI.cl hb hh1 hf1
    have e2 := hI1.2.2.1
    have hW := hI1.hW
    rw [e2] at hV
    refine qw_istore dL_law_1162 rfl (by decide) ?_
    refine qw_aload_n 2 dL_law_1164 rfl rfl ?_
    refine qw_aload_n 0 dL_law_1165 rfl rfl ?_
    refine qw_iload dL_law_1166 rfl ?_
    refine qw_iconst (nI 1) dL_law_1168 (by decide) ?_
    refine qw_addN dL_law_1169 ?_
    refine qw_xald hX dL_law_1170 (by omega) (by omega) ?_
    refine qw_aload_n 0 dL_law_1171 rfl rfl ?_
    refine qw_iload dL_law_1172 rfl ?_
    refine qw_iconst (nI 2) dL_law_1174 (by decide) ?_
    refine qw_addN dL_law_1175 ?_
    refine qw_xald hX dL_law_1176 (by omega) (by omega) ?_
    refine qw_cvi [_, _] (k_X9_arranged h9 hI1.hW) mL_157 dL_law_1177 h9.1 rfl rfl rfl (Nat.le_of_ble_eq_true rfl) (by omega) (by decide) rfl (fun x2 M2 h2 => ?_)
    obtain ⟨hV2, w1, w2, w3⟩ := h2.resolve_right (fun ⟨e, hE2, _⟩ => an_arranged hW hV hE2)
    obtain rfl := ag_arranged hW hV hV2
    refine qw_istore dL_law_1180 rfl (by decide) ?_
    refine qw_aload_n 2 dL_law_1182 rfl rfl ?_
    refine qw_cvp [] (k_X9_thrown h9) mL_97 dL_law_1183 h9.1 rfl rfl rfl (Nat.le_of_ble_eq_true rfl) (by omega) (by decide) rfl ?_
    rw [w1]
    refine qw_iload dL_law_1186 rfl ?_
    refine qw_icmp_eq 1193 dL_law_1188 (by decide) (fun c1188 => ?_) (fun c1188 => absurd rfl c1188)
    refine qw_iload dL_law_1193 rfl ?_
    refine qw_if_ne 1210 dL_law_1195 (by decide) (fun c1195 => absurd rfl c1195) (fun c1195 => ?_)
    refine qw_aload_n 3 dL_law_1198 rfl rfl ?_
    refine qw_iconst (nI 0) dL_law_1199 (by decide) ?_
    refine qw_lald dL_law_1200 hO (by omega) (by omega) ?_
    rw [lq_up_s]
    refine qw_iload dL_law_1201 rfl ?_
    refine qw_i2l _ dL_law_1203 rfl ?_
    refine qw_lcmp dL_law_1204 ?_
    rw [q_lc]
    refine qw_if_eq 1210 dL_law_1205 (by decide) (fun c1205 => ?_) (fun c1205 => absurd rfl c1205)
    refine qw_goto 1729 dL_law_1210 (by decide) ?_
    exact qw_weak _ (by simp [lq_le]) (LW.room (by omega) (by omega) (kk _ _ _ _ _ _ _ _ hsh (hI1.rf hb w2 w3)))
  · have e2 := hI.2.2.1
    have hW := hI.hW
    rw [e2] at hE
    refine qw_istore dL_law_1162 rfl (by decide) ?_
    refine qw_aload_n 2 dL_law_1164 rfl rfl ?_
    refine qw_aload_n 0 dL_law_1165 rfl rfl ?_
    refine qw_iload dL_law_1166 rfl ?_
    refine qw_iconst (nI 1) dL_law_1168 (by decide) ?_
    refine qw_addN dL_law_1169 ?_
    refine qw_xald hX dL_law_1170 (by omega) (by omega) ?_
    refine qw_aload_n 0 dL_law_1171 rfl rfl ?_
    refine qw_iload dL_law_1172 rfl ?_
    refine qw_iconst (nI 2) dL_law_1174 (by decide) ?_
    refine qw_addN dL_law_1175 ?_
    refine qw_xald hX dL_law_1176 (by omega) (by omega) ?_
    refine qw_cvi [_, _] (k_X9_arranged h9 hI.hW) mL_157 dL_law_1177 h9.1 rfl rfl rfl (Nat.le_of_ble_eq_true rfl) (by omega) (by decide) rfl (fun x2 M2 h2 => ?_)
    obtain ⟨e, hE2, rfl⟩ := h2.resolve_left (fun h => ap_arranged hW h.1 hE)
    obtain ⟨hee, hne⟩ := ae_arranged hW hE hE2
    refine qw_istore dL_law_1180 rfl (by decide) ?_
    refine qw_aload_n 2 dL_law_1182 rfl rfl ?_
    refine qw_cvp [] (k_X9_thrown h9) mL_97 dL_law_1183 h9.1 rfl rfl rfl (Nat.le_of_ble_eq_true rfl) (by omega) (by decide) rfl ?_
    rw [lq_up_s]
    refine qw_iload dL_law_1186 rfl ?_
    rw [← hee]
    refine qw_icmp_eq 1193 dL_law_1188 (by decide) (fun c1188 => ?_) (fun c1188 => absurd rfl c1188)
    refine qw_iload dL_law_1193 rfl ?_
    refine qw_if_ne 1210 dL_law_1195 (by decide) (fun c1195 => ?_) (fun c1195 => absurd c1195 hne)
    refine qw_goto 1729 dL_law_1210 (by decide) ?_
    exact qw_weak _ (by simp [lq_le]) (LW.room (by omega) (by omega) (kk _ _ _ _ _ _ _ _ hsh (hI.up hb e)))
theorem c_price {a b m o L i u kc ks : Nat} {xs : Nat → Int32} (hX : va_X a L xs (lq_u G) (lq_u G).heap) (hL : L ≤ 3072) (hNC : q_NC G) (hb : b + 1607 ≤ m) (hm : m + 273 ≤ o) (hi : i + 6 ≤ L) {H : Nat → Nat → Nat} {tk : Nat → Nat → Nat × Nat} {n : Nat → Nat} (hsh : q_sh9 S b m o) (hI : q_I b m u H tk n M) {Q : lq_P} (kk : ∀ (z1 : Nat) (S1 : lq_S) (M1 : lq_M) (N1 : lq_N) (u1 : Nat) (H1 : Nat → Nat → Nat) (tk1 : Nat → Nat → Nat × Nat) (n1 : Nat → Nat), q_sh9 S1 b m o → q_I b m u1 H1 tk1 n1 M1 → LW G YL_law 30 kc ks Q lq_no z1 S1 M1 N1 1729 [some (.ref a), some (.ref b), some (.ref m), some (.ref o), some (.int (nI i)), none, none] []) : LW G YL_law 30 (kc + 3) (ks + 18) Q lq_no z S M N 779 [some (.ref a), some (.ref b), some (.ref m), some (.ref o), some (.int (nI i)), none, none] [] := by
  obtain ⟨⟨F, fp, fb, h8⟩, ⟨x0, nb0, h5⟩, ⟨fD, σD, hD⟩, ⟨fh, fo, h9⟩, hO⟩ := id hsh
  obtain ⟨tkR, nR, hFR, hnR, hCR, hpick⟩ := (hI.2.2.2.1 0 (Nat.zero_le u)).pick
  refine qw_aload_n 1 dL_law_779 rfl rfl ?_
  refine qw_aload_n 0 dL_law_780 rfl rfl ?_
  refine qw_iload dL_law_781 rfl ?_
  refine qw_iconst (nI 1) dL_law_783 (by decide) ?_
  refine qw_addN dL_law_784 ?_
  refine qw_xald hX dL_law_785 (by omega) (by omega) ?_
  refine qw_aload_n 0 dL_law_786 rfl rfl ?_
  refine qw_iload dL_law_787 rfl ?_
  refine qw_iconst (nI 2) dL_law_789 (by decide) ?_
  refine qw_addN dL_law_790 ?_
  refine qw_xald hX dL_law_791 (by omega) (by omega) ?_
  refine qw_aload_n 0 dL_law_792 rfl rfl ?_
  refine qw_iload dL_law_793 rfl ?_
  refine qw_iconst (nI 3) dL_law_795 (by decide) ?_
  refine qw_addN dL_law_796 ?_
  refine qw_xald hX dL_law_797 (by omega) (by omega) ?_
  refine qw_aload_n 3 dL_law_798 rfl rfl ?_
  refine lq_callSH (As := [.ref b, .int (xs (i + 1)), .int (xs (i + 2)), .int (xs (i + 3)), .ref o]) (k_L_price hNC h8.1 (k_X8_price h8 hI.1) (fun r z1 S1 M1 N1 hq => by obtain ⟨-, rfl, -, x9, rfl, -⟩ := hq; exact ⟨⟨x9, rfl⟩, hO⟩) (fun E hE => hE.imp And.left And.left)) sL_132 dL_law_799 rfl rfl (Nat.le_of_ble_eq_true rfl) (by decide) (by decide) (by omega) (by omega) rfl (fun _ _ _ _ _ h => h.elim) (fun r z1 S1 M1 N1 hw => ?_)
  rcases hw with ⟨x1, N0, ⟨rfl, rfl, rfl, x9, e9, hV, hh1, hf1⟩, rfl, rfl⟩ | ⟨E, hE, rfl, rfl, rfl, rfl⟩
  · cases e9
    have hI1 := hI.cl hb hh1 hf1
    have e2 := hI1.2.2.1
    have hW := hI1.hW
    rw [e2] at hV
    refine qw_istore dL_law_802 rfl (by decide) ?_
    refine qw_aload_n 2 dL_law_804 rfl rfl ?_
    refine qw_aload_n 0 dL_law_805 rfl rfl ?_
    refine qw_iload dL_law_806 rfl ?_
    refine qw_iconst (nI 1) dL_law_808 (by decide) ?_
    refine qw_addN dL_law_809 ?_
    refine qw_xald hX dL_law_810 (by omega) (by omega) ?_
    refine qw_aload_n 0 dL_law_811 rfl rfl ?_
    refine qw_iload dL_law_812 rfl ?_
    refine qw_iconst (nI 2) dL_law_814 (by decide) ?_
    refine qw_addN dL_law_815 ?_
    refine qw_xald hX dL_law_816 (by omega) (by omega) ?_
    refine qw_aload_n 0 dL_law_817 rfl rfl ?_
    refine qw_iload dL_law_818 rfl ?_
    refine qw_iconst (nI 3) dL_law_820 (by decide) ?_
    refine qw_addN dL_law_821 ?_
    refine qw_xald hX dL_law_822 (by omega) (by omega) ?_
    refine qw_cvn [_, _, _] (k_X9_price h9 hI1.hW hFR hnR (by rw [← hI1.2.2.1]; exact hCR)) mL_134 dL_law_823 h9.1 rfl rfl rfl (Nat.le_of_ble_eq_true rfl) (by omega) (by decide) rfl (fun x2 M2 N2 h2 => ?_)
    obtain ⟨h2, hnf⟩ := h2
    obtain ⟨hV2, rfl⟩ := h2.resolve_right (fun ⟨e, hE2, _⟩ => an_price (tk := tk 0) (n := n 0) hW hV hE2)
    obtain ⟨rfl, rfl⟩ : tkR = tk 0 ∧ nR = n 0 := hpick.resolve_right (fun q => by rw [e2] at q; obtain ⟨k9, hV⟩ := hV; obtain ⟨r1, r2⟩ := hV; omega)
    obtain rfl := ag_price hW hV hV2
    refine qw_istore dL_law_826 rfl (by decide) ?_
    refine qw_aload_n 2 dL_law_828 rfl rfl ?_
    refine qw_cvp [] (k_X9_thrown h9) mL_97 dL_law_829 h9.1 rfl rfl rfl (Nat.le_of_ble_eq_true rfl) (by omega) (by decide) rfl ?_
    rw [lq_up_s]
    refine qw_iload dL_law_832 rfl ?_
    refine qw_icmp_eq 839 dL_law_834 (by decide) (fun c834 => ?_) (fun c834 => absurd rfl c834)
    refine qw_iload dL_law_839 rfl ?_
    refine qw_if_ne 856 dL_law_841 (by decide) (fun c841 => absurd rfl c841) (fun c841 => ?_)
    refine qw_aload_n 3 dL_law_844 rfl rfl ?_
    refine qw_iconst (nI 0) dL_law_845 (by decide) ?_
    refine qw_lald dL_law_846 hO (by omega) (by omega) ?_
    rw [hnf _ (by omega), lq_up_s]
    refine qw_iload dL_law_847 rfl ?_
    refine qw_i2l _ dL_law_849 rfl ?_
    refine qw_lcmp dL_law_850 ?_
    rw [q_lc]
    refine qw_if_eq 856 dL_law_851 (by decide) (fun c851 => ?_) (fun c851 => absurd rfl c851)
    refine qw_goto 1729 dL_law_856 (by decide) ?_
    exact qw_weak _ (by simp [lq_le]) (LW.room (by omega) (by omega) (kk _ _ _ _ _ _ _ _ hsh (hI1.up hb 0)))
  · have e2 := hI.2.2.1
    have hW := hI.hW
    rw [e2] at hE
    refine qw_istore dL_law_802 rfl (by decide) ?_
    refine qw_aload_n 2 dL_law_804 rfl rfl ?_
    refine qw_aload_n 0 dL_law_805 rfl rfl ?_
    refine qw_iload dL_law_806 rfl ?_
    refine qw_iconst (nI 1) dL_law_808 (by decide) ?_
    refine qw_addN dL_law_809 ?_
    refine qw_xald hX dL_law_810 (by omega) (by omega) ?_
    refine qw_aload_n 0 dL_law_811 rfl rfl ?_
    refine qw_iload dL_law_812 rfl ?_
    refine qw_iconst (nI 2) dL_law_814 (by decide) ?_
    refine qw_addN dL_law_815 ?_
    refine qw_xald hX dL_law_816 (by omega) (by omega) ?_
    refine qw_aload_n 0 dL_law_817 rfl rfl ?_
    refine qw_iload dL_law_818 rfl ?_
    refine qw_iconst (nI 3) dL_law_820 (by decide) ?_
    refine qw_addN dL_law_821 ?_
    refine qw_xald hX dL_law_822 (by omega) (by omega) ?_
    refine qw_cvn [_, _, _] (k_X9_price h9 hI.hW hFR hnR (by rw [← hI.2.2.1]; exact hCR)) mL_134 dL_law_823 h9.1 rfl rfl rfl (Nat.le_of_ble_eq_true rfl) (by omega) (by decide) rfl (fun x2 M2 N2 h2 => ?_)
    obtain ⟨h2, hnf⟩ := h2
    obtain ⟨e, hE2, rfl⟩ := h2.resolve_left (fun h => ap_price hW h.1 hE)
    obtain ⟨hee, hne⟩ := ae_price (tk := tkR) (n := nR) hW hE hE2
    refine qw_istore dL_law_826 rfl (by decide) ?_
    refine qw_aload_n 2 dL_law_828 rfl rfl ?_
    refine qw_cvp [] (k_X9_thrown h9) mL_97 dL_law_829 h9.1 rfl rfl rfl (Nat.le_of_ble_eq_true rfl) (by omega) (by decide) rfl ?_
    rw [lq_up_s]
    refine qw_iload dL_law_832 rfl ?_
    rw [← hee]
    refine qw_icmp_eq 839 dL_law_834 (by decide) (fun c834 => ?_) (fun c834 => absurd rfl c834)
    refine qw_iload dL_law_839 rfl ?_
    refine qw_if_ne 856 dL_law_841 (by decide) (fun c841 => ?_) (fun c841 => absurd c841 hne)
    refine qw_goto 1729 dL_law_856 (by decide) ?_
    exact qw_weak _ (by simp [lq_le]) (LW.room (by omega) (by omega) (kk _ _ _ _ _ _ _ _ hsh (hI.up hb e)))
theorem c_cheapest {a b m o L i u kc ks : Nat} {xs : Nat → Int32} (hX : va_X a L xs (lq_u G) (lq_u G).heap) (hL : L ≤ 3072) (hNC : q_NC G) (hb : b + 1607 ≤ m) (hm : m + 273 ≤ o) (hi : i + 6 ≤ L) {H : Nat → Nat → Nat} {tk : Nat → Nat → Nat × Nat} {n : Nat → Nat} (hsh : q_sh9 S b m o) (hI : q_I b m u H tk n M) {Q : lq_P} (kk : ∀ (z1 : Nat) (S1 : lq_S) (M1 : lq_M) (N1 : lq_N) (u1 : Nat) (H1 : Nat → Nat → Nat) (tk1 : Nat → Nat → Nat × Nat) (n1 : Nat → Nat), q_sh9 S1 b m o → q_I b m u1 H1 tk1 n1 M1 → LW G YL_law 30 kc ks Q lq_no z1 S1 M1 N1 1729 [some (.ref a), some (.ref b), some (.ref m), some (.ref o), some (.int (nI i)), none, none] []) : LW G YL_law 30 (kc + 3) (ks + 18) Q lq_no z S M N 859 [some (.ref a), some (.ref b), some (.ref m), some (.ref o), some (.int (nI i)), none, none] [] := by
  obtain ⟨⟨F, fp, fb, h8⟩, ⟨x0, nb0, h5⟩, ⟨fD, σD, hD⟩, ⟨fh, fo, h9⟩, hO⟩ := id hsh
  obtain ⟨tkR, nR, hFR, hnR, hCR, hpick⟩ := (hI.2.2.2.1 0 (Nat.zero_le u)).pick
  refine qw_aload_n 1 dL_law_859 rfl rfl ?_
  refine qw_aload_n 0 dL_law_860 rfl rfl ?_
  refine qw_iload dL_law_861 rfl ?_
  refine qw_iconst (nI 1) dL_law_863 (by decide) ?_
  refine qw_addN dL_law_864 ?_
  refine qw_xald hX dL_law_865 (by omega) (by omega) ?_
  refine qw_aload_n 0 dL_law_866 rfl rfl ?_
  refine qw_iload dL_law_867 rfl ?_
  refine qw_iconst (nI 2) dL_law_869 (by decide) ?_
  refine qw_addN dL_law_870 ?_
  refine qw_xald hX dL_law_871 (by omega) (by omega) ?_
  refine qw_aload_n 3 dL_law_872 rfl rfl ?_
  refine lq_callSH (As := [.ref b, .int (xs (i + 1)), .int (xs (i + 2)), .ref o]) (k_L_cheapest hNC h8.1 (k_X8_cheapest h8 hI.1) (fun r z1 S1 M1 N1 hq => by obtain ⟨-, rfl, -, x9, rfl, -⟩ := hq; exact ⟨⟨x9, rfl⟩, hO⟩) (fun E hE => hE.imp And.left And.left)) sL_135 dL_law_873 rfl rfl (Nat.le_of_ble_eq_true rfl) (by decide) (by decide) (by omega) (by omega) rfl (fun _ _ _ _ _ h => h.elim) (fun r z1 S1 M1 N1 hw => ?_)
  rcases hw with ⟨x1, N0, ⟨rfl, rfl, rfl, x9, e9, hV, hh1, hf1⟩, rfl, rfl⟩ | ⟨E, hE, rfl, rfl, rfl, rfl⟩
  · cases e9
    have hI1 := hI.cl hb hh1 hf1
    have e2 := hI1.2.2.1
    have hW := hI1.hW
    rw [e2] at hV
    refine qw_istore dL_law_876 rfl (by decide) ?_
    refine qw_aload_n 2 dL_law_878 rfl rfl ?_
    refine qw_aload_n 0 dL_law_879 rfl rfl ?_
    refine qw_iload dL_law_880 rfl ?_
    refine qw_iconst (nI 1) dL_law_882 (by decide) ?_
    refine qw_addN dL_law_883 ?_
    refine qw_xald hX dL_law_884 (by omega) (by omega) ?_
    refine qw_aload_n 0 dL_law_885 rfl rfl ?_
    refine qw_iload dL_law_886 rfl ?_
    refine qw_iconst (nI 2) dL_law_888 (by decide) ?_
    refine qw_addN dL_law_889 ?_
    refine qw_xald hX dL_law_890 (by omega) (by omega) ?_
    refine qw_cvn [_, _] (k_X9_cheapest h9 hI1.hW hFR hnR (by rw [← hI1.2.2.1]; exact hCR)) mL_137 dL_law_891 h9.1 rfl rfl rfl (Nat.le_of_ble_eq_true rfl) (by omega) (by decide) rfl (fun x2 M2 N2 h2 => ?_)
    obtain ⟨h2, hnf⟩ := h2
    obtain ⟨hV2, rfl⟩ := h2.resolve_right (fun ⟨e, hE2, _⟩ => an_cheapest (tk := tk 0) (n := n 0) hW hV hE2)
    obtain ⟨rfl, rfl⟩ : tkR = tk 0 ∧ nR = n 0 := hpick.resolve_right (fun q => by rw [e2] at q; obtain ⟨k9, hV⟩ := hV; obtain ⟨r1, r2⟩ := hV; omega)
    obtain rfl := ag_cheapest hW hV hV2
    refine qw_istore dL_law_894 rfl (by decide) ?_
    refine qw_aload_n 2 dL_law_896 rfl rfl ?_
    refine qw_cvp [] (k_X9_thrown h9) mL_97 dL_law_897 h9.1 rfl rfl rfl (Nat.le_of_ble_eq_true rfl) (by omega) (by decide) rfl ?_
    rw [lq_up_s]
    refine qw_iload dL_law_900 rfl ?_
    refine qw_icmp_eq 907 dL_law_902 (by decide) (fun c902 => ?_) (fun c902 => absurd rfl c902)
    refine qw_iload dL_law_907 rfl ?_
    refine qw_if_ne 924 dL_law_909 (by decide) (fun c909 => absurd rfl c909) (fun c909 => ?_)
    refine qw_aload_n 3 dL_law_912 rfl rfl ?_
    refine qw_iconst (nI 0) dL_law_913 (by decide) ?_
    refine qw_lald dL_law_914 hO (by omega) (by omega) ?_
    rw [hnf _ (by omega), lq_up_s]
    refine qw_iload dL_law_915 rfl ?_
    refine qw_i2l _ dL_law_917 rfl ?_
    refine qw_lcmp dL_law_918 ?_
    rw [q_lc]
    refine qw_if_eq 924 dL_law_919 (by decide) (fun c919 => ?_) (fun c919 => absurd rfl c919)
    refine qw_goto 1729 dL_law_924 (by decide) ?_
    exact qw_weak _ (by simp [lq_le]) (LW.room (by omega) (by omega) (kk _ _ _ _ _ _ _ _ hsh (hI1.up hb 0)))
  · have e2 := hI.2.2.1
    have hW := hI.hW
    rw [e2] at hE
    refine qw_istore dL_law_876 rfl (by decide) ?_
    refine qw_aload_n 2 dL_law_878 rfl rfl ?_
    refine qw_aload_n 0 dL_law_879 rfl rfl ?_
    refine qw_iload dL_law_880 rfl ?_
    refine qw_iconst (nI 1) dL_law_882 (by decide) ?_
    refine qw_addN dL_law_883 ?_
    refine qw_xald hX dL_law_884 (by omega) (by omega) ?_
    refine qw_aload_n 0 dL_law_885 rfl rfl ?_
    refine qw_iload dL_law_886 rfl ?_
    refine qw_iconst (nI 2) dL_law_888 (by decide) ?_
    refine qw_addN dL_law_889 ?_
    refine qw_xald hX dL_law_890 (by omega) (by omega) ?_
    refine qw_cvn [_, _] (k_X9_cheapest h9 hI.hW hFR hnR (by rw [← hI.2.2.1]; exact hCR)) mL_137 dL_law_891 h9.1 rfl rfl rfl (Nat.le_of_ble_eq_true rfl) (by omega) (by decide) rfl (fun x2 M2 N2 h2 => ?_)
    obtain ⟨h2, hnf⟩ := h2
    obtain ⟨e, hE2, rfl⟩ := h2.resolve_left (fun h => ap_cheapest hW h.1 hE)
    obtain ⟨hee, hne⟩ := ae_cheapest (tk := tkR) (n := nR) hW hE hE2
    refine qw_istore dL_law_894 rfl (by decide) ?_
    refine qw_aload_n 2 dL_law_896 rfl rfl ?_
    refine qw_cvp [] (k_X9_thrown h9) mL_97 dL_law_897 h9.1 rfl rfl rfl (Nat.le_of_ble_eq_true rfl) (by omega) (by decide) rfl ?_
    rw [lq_up_s]
    refine qw_iload dL_law_900 rfl ?_
    rw [← hee]
    refine qw_icmp_eq 907 dL_law_902 (by decide) (fun c902 => ?_) (fun c902 => absurd rfl c902)
    refine qw_iload dL_law_907 rfl ?_
    refine qw_if_ne 924 dL_law_909 (by decide) (fun c909 => ?_) (fun c909 => absurd c909 hne)
    refine qw_goto 1729 dL_law_924 (by decide) ?_
    exact qw_weak _ (by simp [lq_le]) (LW.room (by omega) (by omega) (kk _ _ _ _ _ _ _ _ hsh (hI.up hb e)))
end LR
