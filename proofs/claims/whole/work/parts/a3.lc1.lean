/-! The law's cases -/
set_option maxRecDepth 100000 in
set_option maxHeartbeats 4000000 in
theorem lc_again {p : Program} {l : Launch} {e : Env} {s : State} {m : MethodId} {below : List Frame} {meth : Method} {c : Code} {Q : State → Prop} {w : Wd} {sA : Nat → Nat} {b L : Nat} {xs : Nat → Int32} {A : Nat → Prop} (hst : l.stackTraces = false) (X : LC p s m meth c w sA b L xs A) (σ : St) (h : RX σ σ) (i : Nat) (hi : i + 6 ≤ L) (cells slots : Nat) (hc : cells + 20 ≤ 601024) (hs : slots + 120 ≤ 7293034) (kont : ∀ σ9, RX σ9 σ9 → G p l e room_1 s m #[Value.ref b] below meth c Q w A 8 σ9 (cells + 20) (slots + 120) 2093 [(4, .int (nI i)), (3, .ref (w.1 30)), (2, .ref (w.1 0)), (1, .ref (w.1 31)), (0, .ref b)] []) : G p l e room_1 s m #[Value.ref b] below meth c Q w A 8 σ cells slots 456 [(4, .int (nI i)), (3, .ref (w.1 30)), (2, .ref (w.1 0)), (1, .ref (w.1 31)), (0, .ref b)] [] := by
  obtain ⟨C, hXF, hN, hX, hbl, hbA, _, _, _, hL⟩ := X
  obtain ⟨P, hM, hk⟩ := k_again l w σ h 
  refine g_aload_n (pc9 := 457) C rfl 3 dL_law_456 rfl rfl ?_
  refine g_callVi (nn := 0) (rest := []) (pc9 := 460) C rfl 31 [] rfl dL_law_457 hM gL_law_X10_again (by decide) (ce_31 w σ) rfl rfl rfl rfl rfl (by decide +kernel) ⟨by decide, by decide⟩ rfl (Nat.le_of_ble_eq_true rfl) ⟨by show _ ≤ 601024; omega, by show _ ≤ 7293034; omega⟩ (fun r_1 σ_1 q_1 => ?_)
  obtain ⟨PM, hM9, hk9⟩ := hk r_1 σ_1 q_1
  refine g_aload_n (pc9 := 461) C rfl 2 dL_law_460 rfl rfl ?_
  refine g_callVi (nn := 0) (rest := [.int r_1]) (pc9 := 464) C rfl 0 [] rfl dL_law_461 hM9 gL_law_X11_again (by decide) (ce_0 w σ_1) rfl rfl rfl rfl rfl (by decide +kernel) ⟨by decide, by decide⟩ rfl (Nat.le_of_ble_eq_true rfl) ⟨by show _ ≤ 601024; omega, by show _ ≤ 7293034; omega⟩ (fun r_2 σ_2 q_2 => ?_)
  obtain ⟨t1, t2⟩ := hk9 r_2 σ_2 q_2
  refine g_icmp_eq (pc9 := 467) C rfl 2093 dL_law_464 rfl (fun _ => ?_) (fun z => absurd t1.symm z)
  exact g_wid (by omega) (by omega) (g_sub [0, 1, 2, 3, 4] [(4, .int (nI i)), (3, .ref (w.1 30)), (2, .ref (w.1 0)), (1, .ref (w.1 31)), (0, .ref b)] rfl (kont σ_2 t2))
set_option maxRecDepth 100000 in
set_option maxHeartbeats 4000000 in
theorem lc_clear {p : Program} {l : Launch} {e : Env} {s : State} {m : MethodId} {below : List Frame} {meth : Method} {c : Code} {Q : State → Prop} {w : Wd} {sA : Nat → Nat} {b L : Nat} {xs : Nat → Int32} {A : Nat → Prop} (hst : l.stackTraces = false) (X : LC p s m meth c w sA b L xs A) (σ : St) (h : RX σ σ) (i : Nat) (hi : i + 6 ≤ L) (cells slots : Nat) (hc : cells + 20 ≤ 601024) (hs : slots + 120 ≤ 7293034) (kont : ∀ σ9, RX σ9 σ9 → G p l e room_1 s m #[Value.ref b] below meth c Q w A 8 σ9 (cells + 20) (slots + 120) 2093 [(4, .int (nI i)), (3, .ref (w.1 30)), (2, .ref (w.1 0)), (1, .ref (w.1 31)), (0, .ref b)] []) : G p l e room_1 s m #[Value.ref b] below meth c Q w A 8 σ cells slots 469 [(4, .int (nI i)), (3, .ref (w.1 30)), (2, .ref (w.1 0)), (1, .ref (w.1 31)), (0, .ref b)] [] := by
  obtain ⟨C, hXF, hN, hX, hbl, hbA, _, _, _, hL⟩ := X
  obtain ⟨P, hM, hk⟩ := k_clear l hst w sA σ h (xs (i + 1))
  refine g_aload_n (pc9 := 470) C rfl 3 dL_law_469 rfl rfl ?_
  refine g_aload_n (pc9 := 471) C rfl 4 dL_law_470 rfl rfl ?_
  refine g_iload (pc9 := 473) C rfl 0 dL_law_471 rfl ?_
  refine g_iconst (pc9 := 474) C rfl (nI 1) dL_law_473 rfl ?_
  refine g_iaddN (pc9 := 475) C rfl dL_law_474 ?_
  refine g_scr (pc9 := 476) C rfl hX hbl hbA (i + 1) rfl (by omega) (by omega) dL_law_475 ?_
  refine g_aload_n (pc9 := 477) C rfl 1 dL_law_476 rfl rfl ?_
  refine w_callSi (rest := []) C hXF hN (pc9 := 480) rfl [.ref (w.1 31), .int (xs (i + 1)), .ref (w.1 30)] (nn := 3) rfl dL_law_477 hM gL_law_L_clear rfl (by decide +kernel) ⟨by decide, by decide⟩ rfl (Nat.le_of_ble_eq_true rfl) ⟨by show _ ≤ 601024; omega, by show _ ≤ 7293034; omega⟩ (fun r_1 σ_1 q_1 => ?_)
  obtain ⟨PM, hM9, hk9⟩ := hk r_1 σ_1 q_1
  refine g_istore (pc9 := 482) C rfl [(5, .int r_1), (4, .int (nI i)), (3, .ref (w.1 30)), (2, .ref (w.1 0)), (1, .ref (w.1 31)), (0, .ref b)] dL_law_480 (by decide) rfl ?_
  refine g_aload_n (pc9 := 483) C rfl 3 dL_law_482 rfl rfl ?_
  refine g_aload_n (pc9 := 484) C rfl 5 dL_law_483 rfl rfl ?_
  refine g_iload (pc9 := 486) C rfl 1 dL_law_484 rfl ?_
  refine g_iconst (pc9 := 487) C rfl (nI 1) dL_law_486 rfl ?_
  refine g_iaddN (pc9 := 488) C rfl dL_law_487 ?_
  refine g_scr (pc9 := 489) C rfl hX hbl hbA (i + 1) rfl (by omega) (by omega) dL_law_488 ?_
  refine g_callVi (nn := 1) (rest := []) (pc9 := 492) C rfl 0 [.int (xs (i + 1))] rfl dL_law_489 hM9 gL_law_X11_clear (by decide) (ce_0 w σ_1) rfl rfl rfl rfl rfl (by decide +kernel) ⟨by decide, by decide⟩ rfl (Nat.le_of_ble_eq_true rfl) ⟨by show _ ≤ 601024; omega, by show _ ≤ 7293034; omega⟩ (fun r_2 σ_2 q_2 => ?_)
  obtain ⟨t1, t2, t3⟩ := hk9 r_2 σ_2 q_2
  refine g_istore (pc9 := 494) C rfl [(6, .int r_2), (5, .int r_1), (4, .int (nI i)), (3, .ref (w.1 30)), (2, .ref (w.1 0)), (1, .ref (w.1 31)), (0, .ref b)] dL_law_492 (by decide) rfl ?_
  refine g_aload_n (pc9 := 495) C rfl 4 dL_law_494 rfl rfl ?_
  refine g_callVi (nn := 0) (rest := []) (pc9 := 498) C rfl 0 [] rfl dL_law_495 (m_X11_thrown l w σ_2) gL_law_X11_thrown (by decide) (ce_0 w σ_2) rfl rfl rfl rfl rfl (by decide +kernel) ⟨by decide, by decide⟩ rfl (Nat.le_of_ble_eq_true rfl) ⟨by show _ ≤ 601024; omega, by show _ ≤ 7293034; omega⟩ (fun r_3 σ_3 q_3 => ?_)
  obtain ⟨qs_3, qr_3⟩ := q_3
  rw [qs_3, qr_3, t1]
  refine g_iload (pc9 := 500) C rfl 1 dL_law_498 rfl ?_
  refine g_icmp_eq (pc9 := 503) C rfl 505 dL_law_500 rfl (fun _ => ?_) (fun z => absurd rfl z)
  refine g_iload (pc9 := 507) C rfl 1 dL_law_505 rfl ?_
  refine g_if_ne (pc9 := 510) C rfl 529 dL_law_507 rfl (fun _ => ?_) (fun c_1 => ?_)
  · refine g_goto C 2093 dL_law_529 rfl ?_
    exact g_wid (by omega) (by omega) (g_sub [2, 3, 4, 5, 6] [(4, .int (nI i)), (3, .ref (w.1 30)), (2, .ref (w.1 0)), (1, .ref (w.1 31)), (0, .ref b)] rfl (kont σ_2 t3))
  · have e2 := t2 c_1
    refine g_aload_n (pc9 := 511) C rfl 3 dL_law_510 rfl rfl ?_
    refine g_iconst (pc9 := 512) C rfl (nI 0) dL_law_511 rfl ?_
    refine g_lald (pc9 := 513) C rfl 30 0 (n := 1) (x := jA σ_2 30 0) dL_law_512 (by decide) (ce_30 w σ_2) rfl (by decide) (by decide) rfl ?_
    refine g_iload (pc9 := 515) C rfl 0 dL_law_513 rfl ?_
    refine g_if_eq (pc9 := 518) C rfl 522 dL_law_515 rfl (fun c_2 => ?_) (fun c_2 => ?_)
    · refine g_lconst (pc9 := 523) C rfl (0) dL_law_522 rfl ?_
      refine g_lcmp (pc9 := 524) C rfl dL_law_523 ?_
      refine g_if_eq (pc9 := 527) C rfl 529 dL_law_524 rfl (fun _ => ?_) (fun z => absurd (lg_eq (by rw [e2, if_pos c_2])) z)
      refine g_goto C 2093 dL_law_529 rfl ?_
      exact g_wid (by omega) (by omega) (g_sub [2, 3, 4, 5, 6] [(4, .int (nI i)), (3, .ref (w.1 30)), (2, .ref (w.1 0)), (1, .ref (w.1 31)), (0, .ref b)] rfl (kont σ_2 t3))
    · refine g_lconst (pc9 := 519) C rfl (1) dL_law_518 rfl ?_
      refine g_goto C 523 dL_law_519 rfl ?_
      refine g_lcmp (pc9 := 524) C rfl dL_law_523 ?_
      refine g_if_eq (pc9 := 527) C rfl 529 dL_law_524 rfl (fun _ => ?_) (fun z => absurd (lg_eq (by rw [e2, if_neg c_2])) z)
      refine g_goto C 2093 dL_law_529 rfl ?_
      exact g_wid (by omega) (by omega) (g_sub [2, 3, 4, 5, 6] [(4, .int (nI i)), (3, .ref (w.1 30)), (2, .ref (w.1 0)), (1, .ref (w.1 31)), (0, .ref b)] rfl (kont σ_2 t3))
set_option maxRecDepth 100000 in
set_option maxHeartbeats 4000000 in
theorem lc_look {p : Program} {l : Launch} {e : Env} {s : State} {m : MethodId} {below : List Frame} {meth : Method} {c : Code} {Q : State → Prop} {w : Wd} {sA : Nat → Nat} {b L : Nat} {xs : Nat → Int32} {A : Nat → Prop} (hst : l.stackTraces = false) (X : LC p s m meth c w sA b L xs A) (σ : St) (h : RX σ σ) (i : Nat) (hi : i + 6 ≤ L) (cells slots : Nat) (hc : cells + 20 ≤ 601024) (hs : slots + 120 ≤ 7293034) (kont : ∀ σ9, RX σ9 σ9 → G p l e room_1 s m #[Value.ref b] below meth c Q w A 8 σ9 (cells + 20) (slots + 120) 2093 [(4, .int (nI i)), (3, .ref (w.1 30)), (2, .ref (w.1 0)), (1, .ref (w.1 31)), (0, .ref b)] []) : G p l e room_1 s m #[Value.ref b] below meth c Q w A 8 σ cells slots 532 [(4, .int (nI i)), (3, .ref (w.1 30)), (2, .ref (w.1 0)), (1, .ref (w.1 31)), (0, .ref b)] [] := by
  obtain ⟨C, hXF, hN, hX, hbl, hbA, _, _, _, hL⟩ := X
  obtain ⟨P, hM, hk⟩ := k_look l hst w sA σ h (xs (i + 1)) (xs (i + 2))
  refine g_aload_n (pc9 := 533) C rfl 3 dL_law_532 rfl rfl ?_
  refine g_aload_n (pc9 := 534) C rfl 4 dL_law_533 rfl rfl ?_
  refine g_iload (pc9 := 536) C rfl 0 dL_law_534 rfl ?_
  refine g_iconst (pc9 := 537) C rfl (nI 1) dL_law_536 rfl ?_
  refine g_iaddN (pc9 := 538) C rfl dL_law_537 ?_
  refine g_scr (pc9 := 539) C rfl hX hbl hbA (i + 1) rfl (by omega) (by omega) dL_law_538 ?_
  refine g_aload_n (pc9 := 540) C rfl 4 dL_law_539 rfl rfl ?_
  refine g_iload (pc9 := 542) C rfl 0 dL_law_540 rfl ?_
  refine g_iconst (pc9 := 543) C rfl (nI 2) dL_law_542 rfl ?_
  refine g_iaddN (pc9 := 544) C rfl dL_law_543 ?_
  refine g_scr (pc9 := 545) C rfl hX hbl hbA (i + 2) rfl (by omega) (by omega) dL_law_544 ?_
  refine g_aload_n (pc9 := 546) C rfl 1 dL_law_545 rfl rfl ?_
  refine w_callSi (rest := []) C hXF hN (pc9 := 549) rfl [.ref (w.1 31), .int (xs (i + 1)), .int (xs (i + 2)), .ref (w.1 30)] (nn := 4) rfl dL_law_546 hM gL_law_L_look rfl (by decide +kernel) ⟨by decide, by decide⟩ rfl (Nat.le_of_ble_eq_true rfl) ⟨by show _ ≤ 601024; omega, by show _ ≤ 7293034; omega⟩ (fun r_1 σ_1 q_1 => ?_)
  obtain ⟨PM, hM9, hk9⟩ := hk r_1 σ_1 q_1
  refine g_istore (pc9 := 551) C rfl [(5, .int r_1), (4, .int (nI i)), (3, .ref (w.1 30)), (2, .ref (w.1 0)), (1, .ref (w.1 31)), (0, .ref b)] dL_law_549 (by decide) rfl ?_
  refine g_aload_n (pc9 := 552) C rfl 3 dL_law_551 rfl rfl ?_
  refine g_aload_n (pc9 := 553) C rfl 5 dL_law_552 rfl rfl ?_
  refine g_iload (pc9 := 555) C rfl 1 dL_law_553 rfl ?_
  refine g_iconst (pc9 := 556) C rfl (nI 1) dL_law_555 rfl ?_
  refine g_iaddN (pc9 := 557) C rfl dL_law_556 ?_
  refine g_scr (pc9 := 558) C rfl hX hbl hbA (i + 1) rfl (by omega) (by omega) dL_law_557 ?_
  refine g_aload_n (pc9 := 559) C rfl 5 dL_law_558 rfl rfl ?_
  refine g_iload (pc9 := 561) C rfl 1 dL_law_559 rfl ?_
  refine g_iconst (pc9 := 562) C rfl (nI 2) dL_law_561 rfl ?_
  refine g_iaddN (pc9 := 563) C rfl dL_law_562 ?_
  refine g_scr (pc9 := 564) C rfl hX hbl hbA (i + 2) rfl (by omega) (by omega) dL_law_563 ?_
  refine g_callVi (nn := 2) (rest := []) (pc9 := 567) C rfl 0 [.int (xs (i + 1)), .int (xs (i + 2))] rfl dL_law_564 hM9 gL_law_X11_look (by decide) (ce_0 w σ_1) rfl rfl rfl rfl rfl (by decide +kernel) ⟨by decide, by decide⟩ rfl (Nat.le_of_ble_eq_true rfl) ⟨by show _ ≤ 601024; omega, by show _ ≤ 7293034; omega⟩ (fun r_2 σ_2 q_2 => ?_)
  obtain ⟨t1, t2, t3⟩ := hk9 r_2 σ_2 q_2
  refine g_istore (pc9 := 569) C rfl [(6, .int r_2), (5, .int r_1), (4, .int (nI i)), (3, .ref (w.1 30)), (2, .ref (w.1 0)), (1, .ref (w.1 31)), (0, .ref b)] dL_law_567 (by decide) rfl ?_
  refine g_aload_n (pc9 := 570) C rfl 4 dL_law_569 rfl rfl ?_
  refine g_callVi (nn := 0) (rest := []) (pc9 := 573) C rfl 0 [] rfl dL_law_570 (m_X11_thrown l w σ_2) gL_law_X11_thrown (by decide) (ce_0 w σ_2) rfl rfl rfl rfl rfl (by decide +kernel) ⟨by decide, by decide⟩ rfl (Nat.le_of_ble_eq_true rfl) ⟨by show _ ≤ 601024; omega, by show _ ≤ 7293034; omega⟩ (fun r_3 σ_3 q_3 => ?_)
  obtain ⟨qs_3, qr_3⟩ := q_3
  rw [qs_3, qr_3, t1]
  refine g_iload (pc9 := 575) C rfl 1 dL_law_573 rfl ?_
  refine g_icmp_eq (pc9 := 578) C rfl 580 dL_law_575 rfl (fun _ => ?_) (fun z => absurd rfl z)
  refine g_iload (pc9 := 582) C rfl 1 dL_law_580 rfl ?_
  refine g_if_ne (pc9 := 585) C rfl 597 dL_law_582 rfl (fun _ => ?_) (fun c_1 => ?_)
  · refine g_goto C 2093 dL_law_597 rfl ?_
    exact g_wid (by omega) (by omega) (g_sub [2, 3, 4, 5, 6] [(4, .int (nI i)), (3, .ref (w.1 30)), (2, .ref (w.1 0)), (1, .ref (w.1 31)), (0, .ref b)] rfl (kont σ_2 t3))
  · have e2 := t2 c_1
    refine g_aload_n (pc9 := 586) C rfl 3 dL_law_585 rfl rfl ?_
    refine g_iconst (pc9 := 587) C rfl (nI 0) dL_law_586 rfl ?_
    refine g_lald (pc9 := 588) C rfl 30 0 (n := 1) (x := jA σ_2 30 0) dL_law_587 (by decide) (ce_30 w σ_2) rfl (by decide) (by decide) rfl ?_
    refine g_iload (pc9 := 590) C rfl 0 dL_law_588 rfl ?_
    refine g_i2l (pc9 := 591) C rfl dL_law_590 ?_
    refine g_lcmp (pc9 := 592) C rfl dL_law_591 ?_
    refine g_if_eq (pc9 := 595) C rfl 597 dL_law_592 rfl (fun _ => ?_) (fun z => absurd (lg_eq (e2)) z)
    refine g_goto C 2093 dL_law_597 rfl ?_
    exact g_wid (by omega) (by omega) (g_sub [2, 3, 4, 5, 6] [(4, .int (nI i)), (3, .ref (w.1 30)), (2, .ref (w.1 0)), (1, .ref (w.1 31)), (0, .ref b)] rfl (kont σ_2 t3))
set_option maxRecDepth 100000 in
set_option maxHeartbeats 4000000 in
theorem lc_has {p : Program} {l : Launch} {e : Env} {s : State} {m : MethodId} {below : List Frame} {meth : Method} {c : Code} {Q : State → Prop} {w : Wd} {sA : Nat → Nat} {b L : Nat} {xs : Nat → Int32} {A : Nat → Prop} (hst : l.stackTraces = false) (X : LC p s m meth c w sA b L xs A) (σ : St) (h : RX σ σ) (i : Nat) (hi : i + 6 ≤ L) (cells slots : Nat) (hc : cells + 20 ≤ 601024) (hs : slots + 120 ≤ 7293034) (kont : ∀ σ9, RX σ9 σ9 → G p l e room_1 s m #[Value.ref b] below meth c Q w A 8 σ9 (cells + 20) (slots + 120) 2093 [(4, .int (nI i)), (3, .ref (w.1 30)), (2, .ref (w.1 0)), (1, .ref (w.1 31)), (0, .ref b)] []) : G p l e room_1 s m #[Value.ref b] below meth c Q w A 8 σ cells slots 600 [(4, .int (nI i)), (3, .ref (w.1 30)), (2, .ref (w.1 0)), (1, .ref (w.1 31)), (0, .ref b)] [] := by
  obtain ⟨C, hXF, hN, hX, hbl, hbA, _, _, _, hL⟩ := X
  obtain ⟨P, hM, hk⟩ := k_has l hst w sA σ h (xs (i + 1)) (xs (i + 2))
  refine g_aload_n (pc9 := 601) C rfl 3 dL_law_600 rfl rfl ?_
  refine g_aload_n (pc9 := 602) C rfl 4 dL_law_601 rfl rfl ?_
  refine g_iload (pc9 := 604) C rfl 0 dL_law_602 rfl ?_
  refine g_iconst (pc9 := 605) C rfl (nI 1) dL_law_604 rfl ?_
  refine g_iaddN (pc9 := 606) C rfl dL_law_605 ?_
  refine g_scr (pc9 := 607) C rfl hX hbl hbA (i + 1) rfl (by omega) (by omega) dL_law_606 ?_
  refine g_aload_n (pc9 := 608) C rfl 4 dL_law_607 rfl rfl ?_
  refine g_iload (pc9 := 610) C rfl 0 dL_law_608 rfl ?_
  refine g_iconst (pc9 := 611) C rfl (nI 2) dL_law_610 rfl ?_
  refine g_iaddN (pc9 := 612) C rfl dL_law_611 ?_
  refine g_scr (pc9 := 613) C rfl hX hbl hbA (i + 2) rfl (by omega) (by omega) dL_law_612 ?_
  refine g_aload_n (pc9 := 614) C rfl 1 dL_law_613 rfl rfl ?_
  refine w_callSi (rest := []) C hXF hN (pc9 := 617) rfl [.ref (w.1 31), .int (xs (i + 1)), .int (xs (i + 2)), .ref (w.1 30)] (nn := 4) rfl dL_law_614 hM gL_law_L_has rfl (by decide +kernel) ⟨by decide, by decide⟩ rfl (Nat.le_of_ble_eq_true rfl) ⟨by show _ ≤ 601024; omega, by show _ ≤ 7293034; omega⟩ (fun r_1 σ_1 q_1 => ?_)
  obtain ⟨PM, hM9, hk9⟩ := hk r_1 σ_1 q_1
  refine g_istore (pc9 := 619) C rfl [(5, .int r_1), (4, .int (nI i)), (3, .ref (w.1 30)), (2, .ref (w.1 0)), (1, .ref (w.1 31)), (0, .ref b)] dL_law_617 (by decide) rfl ?_
  refine g_aload_n (pc9 := 620) C rfl 3 dL_law_619 rfl rfl ?_
  refine g_aload_n (pc9 := 621) C rfl 5 dL_law_620 rfl rfl ?_
  refine g_iload (pc9 := 623) C rfl 1 dL_law_621 rfl ?_
  refine g_iconst (pc9 := 624) C rfl (nI 1) dL_law_623 rfl ?_
  refine g_iaddN (pc9 := 625) C rfl dL_law_624 ?_
  refine g_scr (pc9 := 626) C rfl hX hbl hbA (i + 1) rfl (by omega) (by omega) dL_law_625 ?_
  refine g_aload_n (pc9 := 627) C rfl 5 dL_law_626 rfl rfl ?_
  refine g_iload (pc9 := 629) C rfl 1 dL_law_627 rfl ?_
  refine g_iconst (pc9 := 630) C rfl (nI 2) dL_law_629 rfl ?_
  refine g_iaddN (pc9 := 631) C rfl dL_law_630 ?_
  refine g_scr (pc9 := 632) C rfl hX hbl hbA (i + 2) rfl (by omega) (by omega) dL_law_631 ?_
  refine g_callVi (nn := 2) (rest := []) (pc9 := 635) C rfl 0 [.int (xs (i + 1)), .int (xs (i + 2))] rfl dL_law_632 hM9 gL_law_X11_has (by decide) (ce_0 w σ_1) rfl rfl rfl rfl rfl (by decide +kernel) ⟨by decide, by decide⟩ rfl (Nat.le_of_ble_eq_true rfl) ⟨by show _ ≤ 601024; omega, by show _ ≤ 7293034; omega⟩ (fun r_2 σ_2 q_2 => ?_)
  obtain ⟨t1, t2, t3⟩ := hk9 r_2 σ_2 q_2
  refine g_istore (pc9 := 637) C rfl [(6, .int r_2), (5, .int r_1), (4, .int (nI i)), (3, .ref (w.1 30)), (2, .ref (w.1 0)), (1, .ref (w.1 31)), (0, .ref b)] dL_law_635 (by decide) rfl ?_
  refine g_aload_n (pc9 := 638) C rfl 4 dL_law_637 rfl rfl ?_
  refine g_callVi (nn := 0) (rest := []) (pc9 := 641) C rfl 0 [] rfl dL_law_638 (m_X11_thrown l w σ_2) gL_law_X11_thrown (by decide) (ce_0 w σ_2) rfl rfl rfl rfl rfl (by decide +kernel) ⟨by decide, by decide⟩ rfl (Nat.le_of_ble_eq_true rfl) ⟨by show _ ≤ 601024; omega, by show _ ≤ 7293034; omega⟩ (fun r_3 σ_3 q_3 => ?_)
  obtain ⟨qs_3, qr_3⟩ := q_3
  rw [qs_3, qr_3, t1]
  refine g_iload (pc9 := 643) C rfl 1 dL_law_641 rfl ?_
  refine g_icmp_eq (pc9 := 646) C rfl 648 dL_law_643 rfl (fun _ => ?_) (fun z => absurd rfl z)
  refine g_iload (pc9 := 650) C rfl 1 dL_law_648 rfl ?_
  refine g_if_ne (pc9 := 653) C rfl 672 dL_law_650 rfl (fun _ => ?_) (fun c_1 => ?_)
  · refine g_goto C 2093 dL_law_672 rfl ?_
    exact g_wid (by omega) (by omega) (g_sub [2, 3, 4, 5, 6] [(4, .int (nI i)), (3, .ref (w.1 30)), (2, .ref (w.1 0)), (1, .ref (w.1 31)), (0, .ref b)] rfl (kont σ_2 t3))
  · have e2 := t2 c_1
    refine g_aload_n (pc9 := 654) C rfl 3 dL_law_653 rfl rfl ?_
    refine g_iconst (pc9 := 655) C rfl (nI 0) dL_law_654 rfl ?_
    refine g_lald (pc9 := 656) C rfl 30 0 (n := 1) (x := jA σ_2 30 0) dL_law_655 (by decide) (ce_30 w σ_2) rfl (by decide) (by decide) rfl ?_
    refine g_iload (pc9 := 658) C rfl 0 dL_law_656 rfl ?_
    refine g_if_eq (pc9 := 661) C rfl 665 dL_law_658 rfl (fun c_2 => ?_) (fun c_2 => ?_)
    · refine g_lconst (pc9 := 666) C rfl (0) dL_law_665 rfl ?_
      refine g_lcmp (pc9 := 667) C rfl dL_law_666 ?_
      refine g_if_eq (pc9 := 670) C rfl 672 dL_law_667 rfl (fun _ => ?_) (fun z => absurd (lg_eq (by rw [e2, if_pos c_2])) z)
      refine g_goto C 2093 dL_law_672 rfl ?_
      exact g_wid (by omega) (by omega) (g_sub [2, 3, 4, 5, 6] [(4, .int (nI i)), (3, .ref (w.1 30)), (2, .ref (w.1 0)), (1, .ref (w.1 31)), (0, .ref b)] rfl (kont σ_2 t3))
    · refine g_lconst (pc9 := 662) C rfl (1) dL_law_661 rfl ?_
      refine g_goto C 666 dL_law_662 rfl ?_
      refine g_lcmp (pc9 := 667) C rfl dL_law_666 ?_
      refine g_if_eq (pc9 := 670) C rfl 672 dL_law_667 rfl (fun _ => ?_) (fun z => absurd (lg_eq (by rw [e2, if_neg c_2])) z)
      refine g_goto C 2093 dL_law_672 rfl ?_
      exact g_wid (by omega) (by omega) (g_sub [2, 3, 4, 5, 6] [(4, .int (nI i)), (3, .ref (w.1 30)), (2, .ref (w.1 0)), (1, .ref (w.1 31)), (0, .ref b)] rfl (kont σ_2 t3))
set_option maxRecDepth 100000 in
set_option maxHeartbeats 4000000 in
theorem lc_least {p : Program} {l : Launch} {e : Env} {s : State} {m : MethodId} {below : List Frame} {meth : Method} {c : Code} {Q : State → Prop} {w : Wd} {sA : Nat → Nat} {b L : Nat} {xs : Nat → Int32} {A : Nat → Prop} (hst : l.stackTraces = false) (X : LC p s m meth c w sA b L xs A) (σ : St) (h : RX σ σ) (i : Nat) (hi : i + 6 ≤ L) (cells slots : Nat) (hc : cells + 20 ≤ 601024) (hs : slots + 120 ≤ 7293034) (kont : ∀ σ9, RX σ9 σ9 → G p l e room_1 s m #[Value.ref b] below meth c Q w A 8 σ9 (cells + 20) (slots + 120) 2093 [(4, .int (nI i)), (3, .ref (w.1 30)), (2, .ref (w.1 0)), (1, .ref (w.1 31)), (0, .ref b)] []) : G p l e room_1 s m #[Value.ref b] below meth c Q w A 8 σ cells slots 675 [(4, .int (nI i)), (3, .ref (w.1 30)), (2, .ref (w.1 0)), (1, .ref (w.1 31)), (0, .ref b)] [] := by
  obtain ⟨C, hXF, hN, hX, hbl, hbA, _, _, _, hL⟩ := X
  obtain ⟨P, hM, hk⟩ := k_least l hst w sA σ h (xs (i + 1)) (xs (i + 2))
  refine g_aload_n (pc9 := 676) C rfl 3 dL_law_675 rfl rfl ?_
  refine g_aload_n (pc9 := 677) C rfl 4 dL_law_676 rfl rfl ?_
  refine g_iload (pc9 := 679) C rfl 0 dL_law_677 rfl ?_
  refine g_iconst (pc9 := 680) C rfl (nI 1) dL_law_679 rfl ?_
  refine g_iaddN (pc9 := 681) C rfl dL_law_680 ?_
  refine g_scr (pc9 := 682) C rfl hX hbl hbA (i + 1) rfl (by omega) (by omega) dL_law_681 ?_
  refine g_aload_n (pc9 := 683) C rfl 4 dL_law_682 rfl rfl ?_
  refine g_iload (pc9 := 685) C rfl 0 dL_law_683 rfl ?_
  refine g_iconst (pc9 := 686) C rfl (nI 2) dL_law_685 rfl ?_
  refine g_iaddN (pc9 := 687) C rfl dL_law_686 ?_
  refine g_scr (pc9 := 688) C rfl hX hbl hbA (i + 2) rfl (by omega) (by omega) dL_law_687 ?_
  refine g_aload_n (pc9 := 689) C rfl 1 dL_law_688 rfl rfl ?_
  refine w_callSi (rest := []) C hXF hN (pc9 := 692) rfl [.ref (w.1 31), .int (xs (i + 1)), .int (xs (i + 2)), .ref (w.1 30)] (nn := 4) rfl dL_law_689 hM gL_law_L_least rfl (by decide +kernel) ⟨by decide, by decide⟩ rfl (Nat.le_of_ble_eq_true rfl) ⟨by show _ ≤ 601024; omega, by show _ ≤ 7293034; omega⟩ (fun r_1 σ_1 q_1 => ?_)
  obtain ⟨PM, hM9, hk9⟩ := hk r_1 σ_1 q_1
  refine g_istore (pc9 := 694) C rfl [(5, .int r_1), (4, .int (nI i)), (3, .ref (w.1 30)), (2, .ref (w.1 0)), (1, .ref (w.1 31)), (0, .ref b)] dL_law_692 (by decide) rfl ?_
  refine g_aload_n (pc9 := 695) C rfl 3 dL_law_694 rfl rfl ?_
  refine g_aload_n (pc9 := 696) C rfl 5 dL_law_695 rfl rfl ?_
  refine g_iload (pc9 := 698) C rfl 1 dL_law_696 rfl ?_
  refine g_iconst (pc9 := 699) C rfl (nI 1) dL_law_698 rfl ?_
  refine g_iaddN (pc9 := 700) C rfl dL_law_699 ?_
  refine g_scr (pc9 := 701) C rfl hX hbl hbA (i + 1) rfl (by omega) (by omega) dL_law_700 ?_
  refine g_aload_n (pc9 := 702) C rfl 5 dL_law_701 rfl rfl ?_
  refine g_iload (pc9 := 704) C rfl 1 dL_law_702 rfl ?_
  refine g_iconst (pc9 := 705) C rfl (nI 2) dL_law_704 rfl ?_
  refine g_iaddN (pc9 := 706) C rfl dL_law_705 ?_
  refine g_scr (pc9 := 707) C rfl hX hbl hbA (i + 2) rfl (by omega) (by omega) dL_law_706 ?_
  refine g_callVi (nn := 2) (rest := []) (pc9 := 710) C rfl 0 [.int (xs (i + 1)), .int (xs (i + 2))] rfl dL_law_707 hM9 gL_law_X11_least (by decide) (ce_0 w σ_1) rfl rfl rfl rfl rfl (by decide +kernel) ⟨by decide, by decide⟩ rfl (Nat.le_of_ble_eq_true rfl) ⟨by show _ ≤ 601024; omega, by show _ ≤ 7293034; omega⟩ (fun r_2 σ_2 q_2 => ?_)
  obtain ⟨t1, t2, t3⟩ := hk9 r_2 σ_2 q_2
  refine g_istore (pc9 := 712) C rfl [(6, .int r_2), (5, .int r_1), (4, .int (nI i)), (3, .ref (w.1 30)), (2, .ref (w.1 0)), (1, .ref (w.1 31)), (0, .ref b)] dL_law_710 (by decide) rfl ?_
  refine g_aload_n (pc9 := 713) C rfl 4 dL_law_712 rfl rfl ?_
  refine g_callVi (nn := 0) (rest := []) (pc9 := 716) C rfl 0 [] rfl dL_law_713 (m_X11_thrown l w σ_2) gL_law_X11_thrown (by decide) (ce_0 w σ_2) rfl rfl rfl rfl rfl (by decide +kernel) ⟨by decide, by decide⟩ rfl (Nat.le_of_ble_eq_true rfl) ⟨by show _ ≤ 601024; omega, by show _ ≤ 7293034; omega⟩ (fun r_3 σ_3 q_3 => ?_)
  obtain ⟨qs_3, qr_3⟩ := q_3
  rw [qs_3, qr_3, t1]
  refine g_iload (pc9 := 718) C rfl 1 dL_law_716 rfl ?_
  refine g_icmp_eq (pc9 := 721) C rfl 723 dL_law_718 rfl (fun _ => ?_) (fun z => absurd rfl z)
  refine g_iload (pc9 := 725) C rfl 1 dL_law_723 rfl ?_
  refine g_if_ne (pc9 := 728) C rfl 740 dL_law_725 rfl (fun _ => ?_) (fun c_1 => ?_)
  · refine g_goto C 2093 dL_law_740 rfl ?_
    exact g_wid (by omega) (by omega) (g_sub [2, 3, 4, 5, 6] [(4, .int (nI i)), (3, .ref (w.1 30)), (2, .ref (w.1 0)), (1, .ref (w.1 31)), (0, .ref b)] rfl (kont σ_2 t3))
  · have e2 := t2 c_1
    refine g_aload_n (pc9 := 729) C rfl 3 dL_law_728 rfl rfl ?_
    refine g_iconst (pc9 := 730) C rfl (nI 0) dL_law_729 rfl ?_
    refine g_lald (pc9 := 731) C rfl 30 0 (n := 1) (x := jA σ_2 30 0) dL_law_730 (by decide) (ce_30 w σ_2) rfl (by decide) (by decide) rfl ?_
    refine g_iload (pc9 := 733) C rfl 0 dL_law_731 rfl ?_
    refine g_i2l (pc9 := 734) C rfl dL_law_733 ?_
    refine g_lcmp (pc9 := 735) C rfl dL_law_734 ?_
    refine g_if_eq (pc9 := 738) C rfl 740 dL_law_735 rfl (fun _ => ?_) (fun z => absurd (lg_eq (e2)) z)
    refine g_goto C 2093 dL_law_740 rfl ?_
    exact g_wid (by omega) (by omega) (g_sub [2, 3, 4, 5, 6] [(4, .int (nI i)), (3, .ref (w.1 30)), (2, .ref (w.1 0)), (1, .ref (w.1 31)), (0, .ref b)] rfl (kont σ_2 t3))
set_option maxRecDepth 100000 in
set_option maxHeartbeats 4000000 in
theorem lc_nearer {p : Program} {l : Launch} {e : Env} {s : State} {m : MethodId} {below : List Frame} {meth : Method} {c : Code} {Q : State → Prop} {w : Wd} {sA : Nat → Nat} {b L : Nat} {xs : Nat → Int32} {A : Nat → Prop} (hst : l.stackTraces = false) (X : LC p s m meth c w sA b L xs A) (σ : St) (h : RX σ σ) (i : Nat) (hi : i + 6 ≤ L) (cells slots : Nat) (hc : cells + 20 ≤ 601024) (hs : slots + 120 ≤ 7293034) (kont : ∀ σ9, RX σ9 σ9 → G p l e room_1 s m #[Value.ref b] below meth c Q w A 8 σ9 (cells + 20) (slots + 120) 2093 [(4, .int (nI i)), (3, .ref (w.1 30)), (2, .ref (w.1 0)), (1, .ref (w.1 31)), (0, .ref b)] []) : G p l e room_1 s m #[Value.ref b] below meth c Q w A 8 σ cells slots 743 [(4, .int (nI i)), (3, .ref (w.1 30)), (2, .ref (w.1 0)), (1, .ref (w.1 31)), (0, .ref b)] [] := by
  obtain ⟨C, hXF, hN, hX, hbl, hbA, _, _, _, hL⟩ := X
  obtain ⟨P, hM, hk⟩ := k_nearer l hst w sA σ h (xs (i + 1)) (xs (i + 2)) (xs (i + 3)) (xs (i + 4))
  refine g_aload_n (pc9 := 744) C rfl 3 dL_law_743 rfl rfl ?_
  refine g_aload_n (pc9 := 745) C rfl 4 dL_law_744 rfl rfl ?_
  refine g_iload (pc9 := 747) C rfl 0 dL_law_745 rfl ?_
  refine g_iconst (pc9 := 748) C rfl (nI 1) dL_law_747 rfl ?_
  refine g_iaddN (pc9 := 749) C rfl dL_law_748 ?_
  refine g_scr (pc9 := 750) C rfl hX hbl hbA (i + 1) rfl (by omega) (by omega) dL_law_749 ?_
  refine g_aload_n (pc9 := 751) C rfl 4 dL_law_750 rfl rfl ?_
  refine g_iload (pc9 := 753) C rfl 0 dL_law_751 rfl ?_
  refine g_iconst (pc9 := 754) C rfl (nI 2) dL_law_753 rfl ?_
  refine g_iaddN (pc9 := 755) C rfl dL_law_754 ?_
  refine g_scr (pc9 := 756) C rfl hX hbl hbA (i + 2) rfl (by omega) (by omega) dL_law_755 ?_
  refine g_aload_n (pc9 := 757) C rfl 4 dL_law_756 rfl rfl ?_
  refine g_iload (pc9 := 759) C rfl 0 dL_law_757 rfl ?_
  refine g_iconst (pc9 := 760) C rfl (nI 3) dL_law_759 rfl ?_
  refine g_iaddN (pc9 := 761) C rfl dL_law_760 ?_
  refine g_scr (pc9 := 762) C rfl hX hbl hbA (i + 3) rfl (by omega) (by omega) dL_law_761 ?_
  refine g_aload_n (pc9 := 763) C rfl 4 dL_law_762 rfl rfl ?_
  refine g_iload (pc9 := 765) C rfl 0 dL_law_763 rfl ?_
  refine g_iconst (pc9 := 766) C rfl (nI 4) dL_law_765 rfl ?_
  refine g_iaddN (pc9 := 767) C rfl dL_law_766 ?_
  refine g_scr (pc9 := 768) C rfl hX hbl hbA (i + 4) rfl (by omega) (by omega) dL_law_767 ?_
  refine g_aload_n (pc9 := 769) C rfl 1 dL_law_768 rfl rfl ?_
  refine w_callSi (rest := []) C hXF hN (pc9 := 772) rfl [.ref (w.1 31), .int (xs (i + 1)), .int (xs (i + 2)), .int (xs (i + 3)), .int (xs (i + 4)), .ref (w.1 30)] (nn := 6) rfl dL_law_769 hM gL_law_L_nearer rfl (by decide +kernel) ⟨by decide, by decide⟩ rfl (Nat.le_of_ble_eq_true rfl) ⟨by show _ ≤ 601024; omega, by show _ ≤ 7293034; omega⟩ (fun r_1 σ_1 q_1 => ?_)
  obtain ⟨PM, hM9, hk9⟩ := hk r_1 σ_1 q_1
  refine g_istore (pc9 := 774) C rfl [(5, .int r_1), (4, .int (nI i)), (3, .ref (w.1 30)), (2, .ref (w.1 0)), (1, .ref (w.1 31)), (0, .ref b)] dL_law_772 (by decide) rfl ?_
  refine g_aload_n (pc9 := 775) C rfl 3 dL_law_774 rfl rfl ?_
  refine g_aload_n (pc9 := 776) C rfl 5 dL_law_775 rfl rfl ?_
  refine g_iload (pc9 := 778) C rfl 1 dL_law_776 rfl ?_
  refine g_iconst (pc9 := 779) C rfl (nI 1) dL_law_778 rfl ?_
  refine g_iaddN (pc9 := 780) C rfl dL_law_779 ?_
  refine g_scr (pc9 := 781) C rfl hX hbl hbA (i + 1) rfl (by omega) (by omega) dL_law_780 ?_
  refine g_aload_n (pc9 := 782) C rfl 5 dL_law_781 rfl rfl ?_
  refine g_iload (pc9 := 784) C rfl 1 dL_law_782 rfl ?_
  refine g_iconst (pc9 := 785) C rfl (nI 2) dL_law_784 rfl ?_
  refine g_iaddN (pc9 := 786) C rfl dL_law_785 ?_
  refine g_scr (pc9 := 787) C rfl hX hbl hbA (i + 2) rfl (by omega) (by omega) dL_law_786 ?_
  refine g_aload_n (pc9 := 788) C rfl 5 dL_law_787 rfl rfl ?_
  refine g_iload (pc9 := 790) C rfl 1 dL_law_788 rfl ?_
  refine g_iconst (pc9 := 791) C rfl (nI 3) dL_law_790 rfl ?_
  refine g_iaddN (pc9 := 792) C rfl dL_law_791 ?_
  refine g_scr (pc9 := 793) C rfl hX hbl hbA (i + 3) rfl (by omega) (by omega) dL_law_792 ?_
  refine g_aload_n (pc9 := 794) C rfl 5 dL_law_793 rfl rfl ?_
  refine g_iload (pc9 := 796) C rfl 1 dL_law_794 rfl ?_
  refine g_iconst (pc9 := 797) C rfl (nI 4) dL_law_796 rfl ?_
  refine g_iaddN (pc9 := 798) C rfl dL_law_797 ?_
  refine g_scr (pc9 := 799) C rfl hX hbl hbA (i + 4) rfl (by omega) (by omega) dL_law_798 ?_
  refine g_callVi (nn := 4) (rest := []) (pc9 := 802) C rfl 0 [.int (xs (i + 1)), .int (xs (i + 2)), .int (xs (i + 3)), .int (xs (i + 4))] rfl dL_law_799 hM9 gL_law_X11_nearer (by decide) (ce_0 w σ_1) rfl rfl rfl rfl rfl (by decide +kernel) ⟨by decide, by decide⟩ rfl (Nat.le_of_ble_eq_true rfl) ⟨by show _ ≤ 601024; omega, by show _ ≤ 7293034; omega⟩ (fun r_2 σ_2 q_2 => ?_)
  obtain ⟨t1, t2, t3⟩ := hk9 r_2 σ_2 q_2
  refine g_istore (pc9 := 804) C rfl [(6, .int r_2), (5, .int r_1), (4, .int (nI i)), (3, .ref (w.1 30)), (2, .ref (w.1 0)), (1, .ref (w.1 31)), (0, .ref b)] dL_law_802 (by decide) rfl ?_
  refine g_aload_n (pc9 := 805) C rfl 4 dL_law_804 rfl rfl ?_
  refine g_callVi (nn := 0) (rest := []) (pc9 := 808) C rfl 0 [] rfl dL_law_805 (m_X11_thrown l w σ_2) gL_law_X11_thrown (by decide) (ce_0 w σ_2) rfl rfl rfl rfl rfl (by decide +kernel) ⟨by decide, by decide⟩ rfl (Nat.le_of_ble_eq_true rfl) ⟨by show _ ≤ 601024; omega, by show _ ≤ 7293034; omega⟩ (fun r_3 σ_3 q_3 => ?_)
  obtain ⟨qs_3, qr_3⟩ := q_3
  rw [qs_3, qr_3, t1]
  refine g_iload (pc9 := 810) C rfl 1 dL_law_808 rfl ?_
  refine g_icmp_eq (pc9 := 813) C rfl 815 dL_law_810 rfl (fun _ => ?_) (fun z => absurd rfl z)
  refine g_iload (pc9 := 817) C rfl 1 dL_law_815 rfl ?_
  refine g_if_ne (pc9 := 820) C rfl 832 dL_law_817 rfl (fun _ => ?_) (fun c_1 => ?_)
  · refine g_goto C 2093 dL_law_832 rfl ?_
    exact g_wid (by omega) (by omega) (g_sub [2, 3, 4, 5, 6] [(4, .int (nI i)), (3, .ref (w.1 30)), (2, .ref (w.1 0)), (1, .ref (w.1 31)), (0, .ref b)] rfl (kont σ_2 t3))
  · have e2 := t2 c_1
    refine g_aload_n (pc9 := 821) C rfl 3 dL_law_820 rfl rfl ?_
    refine g_iconst (pc9 := 822) C rfl (nI 0) dL_law_821 rfl ?_
    refine g_lald (pc9 := 823) C rfl 30 0 (n := 1) (x := jA σ_2 30 0) dL_law_822 (by decide) (ce_30 w σ_2) rfl (by decide) (by decide) rfl ?_
    refine g_iload (pc9 := 825) C rfl 0 dL_law_823 rfl ?_
    refine g_i2l (pc9 := 826) C rfl dL_law_825 ?_
    refine g_lcmp (pc9 := 827) C rfl dL_law_826 ?_
    refine g_if_eq (pc9 := 830) C rfl 832 dL_law_827 rfl (fun _ => ?_) (fun z => absurd (lg_eq (e2)) z)
    refine g_goto C 2093 dL_law_832 rfl ?_
    exact g_wid (by omega) (by omega) (g_sub [2, 3, 4, 5, 6] [(4, .int (nI i)), (3, .ref (w.1 30)), (2, .ref (w.1 0)), (1, .ref (w.1 31)), (0, .ref b)] rfl (kont σ_2 t3))
