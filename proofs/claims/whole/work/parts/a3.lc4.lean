/-! The law's cases -/
set_option maxRecDepth 100000 in
set_option maxHeartbeats 4000000 in
theorem lc_state {p : Program} {l : Launch} {e : Env} {s : State} {m : MethodId} {below : List Frame} {meth : Method} {c : Code} {Q : State → Prop} {w : Wd} {sA : Nat → Nat} {b L : Nat} {xs : Nat → Int32} {A : Nat → Prop} (hst : l.stackTraces = false) (X : LC p s m meth c w sA b L xs A) (σ : St) (h : RX σ σ) (i : Nat) (hi : i + 6 ≤ L) (cells slots : Nat) (hc : cells + 20 ≤ 601024) (hs : slots + 120 ≤ 7293034) (kont : ∀ σ9, RX σ9 σ9 → G p l e room_1 s m #[Value.ref b] below meth c Q w A 8 σ9 (cells + 20) (slots + 120) 2093 [(4, .int (nI i)), (3, .ref (w.1 30)), (2, .ref (w.1 0)), (1, .ref (w.1 31)), (0, .ref b)] []) : G p l e room_1 s m #[Value.ref b] below meth c Q w A 8 σ cells slots 1541 [(4, .int (nI i)), (3, .ref (w.1 30)), (2, .ref (w.1 0)), (1, .ref (w.1 31)), (0, .ref b)] [] := by
  obtain ⟨C, hXF, hN, hX, hbl, hbA, _, _, _, hL⟩ := X
  obtain ⟨P, hM, hk⟩ := k_state l hst w sA σ h (xs (i + 1)) (xs (i + 2)) (xs (i + 3))
  refine g_aload_n (pc9 := 1542) C rfl 3 dL_law_1541 rfl rfl ?_
  refine g_aload_n (pc9 := 1543) C rfl 4 dL_law_1542 rfl rfl ?_
  refine g_iload (pc9 := 1545) C rfl 0 dL_law_1543 rfl ?_
  refine g_iconst (pc9 := 1546) C rfl (nI 1) dL_law_1545 rfl ?_
  refine g_iaddN (pc9 := 1547) C rfl dL_law_1546 ?_
  refine g_scr (pc9 := 1548) C rfl hX hbl hbA (i + 1) rfl (by omega) (by omega) dL_law_1547 ?_
  refine g_aload_n (pc9 := 1549) C rfl 4 dL_law_1548 rfl rfl ?_
  refine g_iload (pc9 := 1551) C rfl 0 dL_law_1549 rfl ?_
  refine g_iconst (pc9 := 1552) C rfl (nI 2) dL_law_1551 rfl ?_
  refine g_iaddN (pc9 := 1553) C rfl dL_law_1552 ?_
  refine g_scr (pc9 := 1554) C rfl hX hbl hbA (i + 2) rfl (by omega) (by omega) dL_law_1553 ?_
  refine g_aload_n (pc9 := 1555) C rfl 4 dL_law_1554 rfl rfl ?_
  refine g_iload (pc9 := 1557) C rfl 0 dL_law_1555 rfl ?_
  refine g_iconst (pc9 := 1558) C rfl (nI 3) dL_law_1557 rfl ?_
  refine g_iaddN (pc9 := 1559) C rfl dL_law_1558 ?_
  refine g_scr (pc9 := 1560) C rfl hX hbl hbA (i + 3) rfl (by omega) (by omega) dL_law_1559 ?_
  refine w_callSi (rest := []) C hXF hN (pc9 := 1563) rfl [.ref (w.1 31), .int (xs (i + 1)), .int (xs (i + 2)), .int (xs (i + 3))] (nn := 4) rfl dL_law_1560 hM gL_law_L_state rfl (by decide +kernel) ⟨by decide, by decide⟩ rfl (Nat.le_of_ble_eq_true rfl) ⟨by show _ ≤ 601024; omega, by show _ ≤ 7293034; omega⟩ (fun r_1 σ_1 q_1 => ?_)
  obtain ⟨PM, hM9, hk9⟩ := hk r_1 σ_1 q_1
  refine g_istore (pc9 := 1565) C rfl [(5, .int r_1), (4, .int (nI i)), (3, .ref (w.1 30)), (2, .ref (w.1 0)), (1, .ref (w.1 31)), (0, .ref b)] dL_law_1563 (by decide) rfl ?_
  refine g_aload_n (pc9 := 1566) C rfl 3 dL_law_1565 rfl rfl ?_
  refine g_aload_n (pc9 := 1567) C rfl 5 dL_law_1566 rfl rfl ?_
  refine g_iload (pc9 := 1569) C rfl 1 dL_law_1567 rfl ?_
  refine g_iconst (pc9 := 1570) C rfl (nI 1) dL_law_1569 rfl ?_
  refine g_iaddN (pc9 := 1571) C rfl dL_law_1570 ?_
  refine g_scr (pc9 := 1572) C rfl hX hbl hbA (i + 1) rfl (by omega) (by omega) dL_law_1571 ?_
  refine g_aload_n (pc9 := 1573) C rfl 5 dL_law_1572 rfl rfl ?_
  refine g_iload (pc9 := 1575) C rfl 1 dL_law_1573 rfl ?_
  refine g_iconst (pc9 := 1576) C rfl (nI 2) dL_law_1575 rfl ?_
  refine g_iaddN (pc9 := 1577) C rfl dL_law_1576 ?_
  refine g_scr (pc9 := 1578) C rfl hX hbl hbA (i + 2) rfl (by omega) (by omega) dL_law_1577 ?_
  refine g_aload_n (pc9 := 1579) C rfl 5 dL_law_1578 rfl rfl ?_
  refine g_iload (pc9 := 1581) C rfl 1 dL_law_1579 rfl ?_
  refine g_iconst (pc9 := 1582) C rfl (nI 3) dL_law_1581 rfl ?_
  refine g_iaddN (pc9 := 1583) C rfl dL_law_1582 ?_
  refine g_scr (pc9 := 1584) C rfl hX hbl hbA (i + 3) rfl (by omega) (by omega) dL_law_1583 ?_
  refine g_callVv (nn := 3) (rest := []) (pc9 := 1587) C rfl 0 [.int (xs (i + 1)), .int (xs (i + 2)), .int (xs (i + 3))] rfl dL_law_1584 hM9 gL_law_X11_state (by decide) (ce_0 w σ_1) rfl rfl rfl rfl rfl (by decide +kernel) ⟨by decide, by decide⟩ rfl (Nat.le_of_ble_eq_true rfl) ⟨by show _ ≤ 601024; omega, by show _ ≤ 7293034; omega⟩ (fun σ_2 q_2 => ?_)
  obtain ⟨t1, t3⟩ := hk9 σ_2 q_2
  refine g_aload_n (pc9 := 1588) C rfl 3 dL_law_1587 rfl rfl ?_
  refine g_callVi (nn := 0) (rest := []) (pc9 := 1591) C rfl 0 [] rfl dL_law_1588 (m_X11_thrown l w σ_2) gL_law_X11_thrown (by decide) (ce_0 w σ_2) rfl rfl rfl rfl rfl (by decide +kernel) ⟨by decide, by decide⟩ rfl (Nat.le_of_ble_eq_true rfl) ⟨by show _ ≤ 601024; omega, by show _ ≤ 7293034; omega⟩ (fun r_3 σ_3 q_3 => ?_)
  obtain ⟨qs_3, qr_3⟩ := q_3
  rw [qs_3, qr_3, t1]
  refine g_iload (pc9 := 1593) C rfl 0 dL_law_1591 rfl ?_
  refine g_icmp_eq (pc9 := 1596) C rfl 1598 dL_law_1593 rfl (fun _ => ?_) (fun z => absurd rfl z)
  refine g_goto C 2093 dL_law_1598 rfl ?_
  exact g_wid (by omega) (by omega) (g_sub [1, 2, 3, 4, 5] [(4, .int (nI i)), (3, .ref (w.1 30)), (2, .ref (w.1 0)), (1, .ref (w.1 31)), (0, .ref b)] rfl (kont σ_2 t3))
set_option maxRecDepth 100000 in
set_option maxHeartbeats 4000000 in
theorem lc_changes {p : Program} {l : Launch} {e : Env} {s : State} {m : MethodId} {below : List Frame} {meth : Method} {c : Code} {Q : State → Prop} {w : Wd} {sA : Nat → Nat} {b L : Nat} {xs : Nat → Int32} {A : Nat → Prop} (hst : l.stackTraces = false) (X : LC p s m meth c w sA b L xs A) (σ : St) (h : RX σ σ) (i : Nat) (hi : i + 6 ≤ L) (cells slots : Nat) (hc : cells + 20 ≤ 601024) (hs : slots + 120 ≤ 7293034) (kont : ∀ σ9, RX σ9 σ9 → G p l e room_1 s m #[Value.ref b] below meth c Q w A 8 σ9 (cells + 20) (slots + 120) 2093 [(4, .int (nI i)), (3, .ref (w.1 30)), (2, .ref (w.1 0)), (1, .ref (w.1 31)), (0, .ref b)] []) : G p l e room_1 s m #[Value.ref b] below meth c Q w A 8 σ cells slots 1601 [(4, .int (nI i)), (3, .ref (w.1 30)), (2, .ref (w.1 0)), (1, .ref (w.1 31)), (0, .ref b)] [] := by
  obtain ⟨C, hXF, hN, hX, hbl, hbA, _, _, _, hL⟩ := X
  obtain ⟨P, hM, hk⟩ := k_changes l hst w sA σ h (xs (i + 1)) (xs (i + 2))
  refine g_aload_n (pc9 := 1602) C rfl 3 dL_law_1601 rfl rfl ?_
  refine g_aload_n (pc9 := 1603) C rfl 4 dL_law_1602 rfl rfl ?_
  refine g_iload (pc9 := 1605) C rfl 0 dL_law_1603 rfl ?_
  refine g_iconst (pc9 := 1606) C rfl (nI 1) dL_law_1605 rfl ?_
  refine g_iaddN (pc9 := 1607) C rfl dL_law_1606 ?_
  refine g_scr (pc9 := 1608) C rfl hX hbl hbA (i + 1) rfl (by omega) (by omega) dL_law_1607 ?_
  refine g_aload_n (pc9 := 1609) C rfl 4 dL_law_1608 rfl rfl ?_
  refine g_iload (pc9 := 1611) C rfl 0 dL_law_1609 rfl ?_
  refine g_iconst (pc9 := 1612) C rfl (nI 2) dL_law_1611 rfl ?_
  refine g_iaddN (pc9 := 1613) C rfl dL_law_1612 ?_
  refine g_scr (pc9 := 1614) C rfl hX hbl hbA (i + 2) rfl (by omega) (by omega) dL_law_1613 ?_
  refine g_aload_n (pc9 := 1615) C rfl 1 dL_law_1614 rfl rfl ?_
  refine w_callSi (rest := []) C hXF hN (pc9 := 1618) rfl [.ref (w.1 31), .int (xs (i + 1)), .int (xs (i + 2)), .ref (w.1 30)] (nn := 4) rfl dL_law_1615 hM gL_law_L_changes rfl (by decide +kernel) ⟨by decide, by decide⟩ rfl (Nat.le_of_ble_eq_true rfl) ⟨by show _ ≤ 601024; omega, by show _ ≤ 7293034; omega⟩ (fun r_1 σ_1 q_1 => ?_)
  obtain ⟨PM, hM9, hk9⟩ := hk r_1 σ_1 q_1
  refine g_istore (pc9 := 1620) C rfl [(5, .int r_1), (4, .int (nI i)), (3, .ref (w.1 30)), (2, .ref (w.1 0)), (1, .ref (w.1 31)), (0, .ref b)] dL_law_1618 (by decide) rfl ?_
  refine g_aload_n (pc9 := 1621) C rfl 3 dL_law_1620 rfl rfl ?_
  refine g_aload_n (pc9 := 1622) C rfl 5 dL_law_1621 rfl rfl ?_
  refine g_iload (pc9 := 1624) C rfl 1 dL_law_1622 rfl ?_
  refine g_iconst (pc9 := 1625) C rfl (nI 1) dL_law_1624 rfl ?_
  refine g_iaddN (pc9 := 1626) C rfl dL_law_1625 ?_
  refine g_scr (pc9 := 1627) C rfl hX hbl hbA (i + 1) rfl (by omega) (by omega) dL_law_1626 ?_
  refine g_aload_n (pc9 := 1628) C rfl 5 dL_law_1627 rfl rfl ?_
  refine g_iload (pc9 := 1630) C rfl 1 dL_law_1628 rfl ?_
  refine g_iconst (pc9 := 1631) C rfl (nI 2) dL_law_1630 rfl ?_
  refine g_iaddN (pc9 := 1632) C rfl dL_law_1631 ?_
  refine g_scr (pc9 := 1633) C rfl hX hbl hbA (i + 2) rfl (by omega) (by omega) dL_law_1632 ?_
  refine g_callVi (nn := 2) (rest := []) (pc9 := 1636) C rfl 0 [.int (xs (i + 1)), .int (xs (i + 2))] rfl dL_law_1633 hM9 gL_law_X11_changes (by decide) (ce_0 w σ_1) rfl rfl rfl rfl rfl (by decide +kernel) ⟨by decide, by decide⟩ rfl (Nat.le_of_ble_eq_true rfl) ⟨by show _ ≤ 601024; omega, by show _ ≤ 7293034; omega⟩ (fun r_2 σ_2 q_2 => ?_)
  obtain ⟨t1, t2, t3⟩ := hk9 r_2 σ_2 q_2
  refine g_istore (pc9 := 1638) C rfl [(6, .int r_2), (5, .int r_1), (4, .int (nI i)), (3, .ref (w.1 30)), (2, .ref (w.1 0)), (1, .ref (w.1 31)), (0, .ref b)] dL_law_1636 (by decide) rfl ?_
  refine g_aload_n (pc9 := 1639) C rfl 4 dL_law_1638 rfl rfl ?_
  refine g_callVi (nn := 0) (rest := []) (pc9 := 1642) C rfl 0 [] rfl dL_law_1639 (m_X11_thrown l w σ_2) gL_law_X11_thrown (by decide) (ce_0 w σ_2) rfl rfl rfl rfl rfl (by decide +kernel) ⟨by decide, by decide⟩ rfl (Nat.le_of_ble_eq_true rfl) ⟨by show _ ≤ 601024; omega, by show _ ≤ 7293034; omega⟩ (fun r_3 σ_3 q_3 => ?_)
  obtain ⟨qs_3, qr_3⟩ := q_3
  rw [qs_3, qr_3, t1]
  refine g_iload (pc9 := 1644) C rfl 1 dL_law_1642 rfl ?_
  refine g_icmp_eq (pc9 := 1647) C rfl 1649 dL_law_1644 rfl (fun _ => ?_) (fun z => absurd rfl z)
  refine g_iload (pc9 := 1651) C rfl 1 dL_law_1649 rfl ?_
  refine g_if_ne (pc9 := 1654) C rfl 1666 dL_law_1651 rfl (fun _ => ?_) (fun c_1 => ?_)
  · refine g_goto C 2093 dL_law_1666 rfl ?_
    exact g_wid (by omega) (by omega) (g_sub [2, 3, 4, 5, 6] [(4, .int (nI i)), (3, .ref (w.1 30)), (2, .ref (w.1 0)), (1, .ref (w.1 31)), (0, .ref b)] rfl (kont σ_2 t3))
  · have e2 := t2 c_1
    refine g_aload_n (pc9 := 1655) C rfl 3 dL_law_1654 rfl rfl ?_
    refine g_iconst (pc9 := 1656) C rfl (nI 0) dL_law_1655 rfl ?_
    refine g_lald (pc9 := 1657) C rfl 30 0 (n := 1) (x := jA σ_2 30 0) dL_law_1656 (by decide) (ce_30 w σ_2) rfl (by decide) (by decide) rfl ?_
    refine g_iload (pc9 := 1659) C rfl 0 dL_law_1657 rfl ?_
    refine g_i2l (pc9 := 1660) C rfl dL_law_1659 ?_
    refine g_lcmp (pc9 := 1661) C rfl dL_law_1660 ?_
    refine g_if_eq (pc9 := 1664) C rfl 1666 dL_law_1661 rfl (fun _ => ?_) (fun z => absurd (lg_eq (e2)) z)
    refine g_goto C 2093 dL_law_1666 rfl ?_
    exact g_wid (by omega) (by omega) (g_sub [2, 3, 4, 5, 6] [(4, .int (nI i)), (3, .ref (w.1 30)), (2, .ref (w.1 0)), (1, .ref (w.1 31)), (0, .ref b)] rfl (kont σ_2 t3))
set_option maxRecDepth 100000 in
set_option maxHeartbeats 4000000 in
theorem lc_kinds {p : Program} {l : Launch} {e : Env} {s : State} {m : MethodId} {below : List Frame} {meth : Method} {c : Code} {Q : State → Prop} {w : Wd} {sA : Nat → Nat} {b L : Nat} {xs : Nat → Int32} {A : Nat → Prop} (hst : l.stackTraces = false) (X : LC p s m meth c w sA b L xs A) (σ : St) (h : RX σ σ) (i : Nat) (hi : i + 6 ≤ L) (cells slots : Nat) (hc : cells + 20 ≤ 601024) (hs : slots + 120 ≤ 7293034) (kont : ∀ σ9, RX σ9 σ9 → G p l e room_1 s m #[Value.ref b] below meth c Q w A 8 σ9 (cells + 20) (slots + 120) 2093 [(4, .int (nI i)), (3, .ref (w.1 30)), (2, .ref (w.1 0)), (1, .ref (w.1 31)), (0, .ref b)] []) : G p l e room_1 s m #[Value.ref b] below meth c Q w A 8 σ cells slots 1669 [(4, .int (nI i)), (3, .ref (w.1 30)), (2, .ref (w.1 0)), (1, .ref (w.1 31)), (0, .ref b)] [] := by
  obtain ⟨C, hXF, hN, hX, hbl, hbA, _, _, _, hL⟩ := X
  obtain ⟨P, hM, hk⟩ := k_kinds l hst w sA σ h (xs (i + 1))
  refine g_aload_n (pc9 := 1670) C rfl 3 dL_law_1669 rfl rfl ?_
  refine g_aload_n (pc9 := 1671) C rfl 4 dL_law_1670 rfl rfl ?_
  refine g_iload (pc9 := 1673) C rfl 0 dL_law_1671 rfl ?_
  refine g_iconst (pc9 := 1674) C rfl (nI 1) dL_law_1673 rfl ?_
  refine g_iaddN (pc9 := 1675) C rfl dL_law_1674 ?_
  refine g_scr (pc9 := 1676) C rfl hX hbl hbA (i + 1) rfl (by omega) (by omega) dL_law_1675 ?_
  refine w_callSi (rest := []) C hXF hN (pc9 := 1679) rfl [.ref (w.1 31), .int (xs (i + 1))] (nn := 2) rfl dL_law_1676 hM gL_law_L_kinds rfl (by decide +kernel) ⟨by decide, by decide⟩ rfl (Nat.le_of_ble_eq_true rfl) ⟨by show _ ≤ 601024; omega, by show _ ≤ 7293034; omega⟩ (fun r_1 σ_1 q_1 => ?_)
  obtain ⟨PM, hM9, hk9⟩ := hk r_1 σ_1 q_1
  refine g_istore (pc9 := 1681) C rfl [(5, .int r_1), (4, .int (nI i)), (3, .ref (w.1 30)), (2, .ref (w.1 0)), (1, .ref (w.1 31)), (0, .ref b)] dL_law_1679 (by decide) rfl ?_
  refine g_aload_n (pc9 := 1682) C rfl 3 dL_law_1681 rfl rfl ?_
  refine g_aload_n (pc9 := 1683) C rfl 5 dL_law_1682 rfl rfl ?_
  refine g_iload (pc9 := 1685) C rfl 1 dL_law_1683 rfl ?_
  refine g_iconst (pc9 := 1686) C rfl (nI 1) dL_law_1685 rfl ?_
  refine g_iaddN (pc9 := 1687) C rfl dL_law_1686 ?_
  refine g_scr (pc9 := 1688) C rfl hX hbl hbA (i + 1) rfl (by omega) (by omega) dL_law_1687 ?_
  refine g_callVv (nn := 1) (rest := []) (pc9 := 1691) C rfl 0 [.int (xs (i + 1))] rfl dL_law_1688 hM9 gL_law_X11_kinds (by decide) (ce_0 w σ_1) rfl rfl rfl rfl rfl (by decide +kernel) ⟨by decide, by decide⟩ rfl (Nat.le_of_ble_eq_true rfl) ⟨by show _ ≤ 601024; omega, by show _ ≤ 7293034; omega⟩ (fun σ_2 q_2 => ?_)
  obtain ⟨t1, t3⟩ := hk9 σ_2 q_2
  refine g_aload_n (pc9 := 1692) C rfl 3 dL_law_1691 rfl rfl ?_
  refine g_callVi (nn := 0) (rest := []) (pc9 := 1695) C rfl 0 [] rfl dL_law_1692 (m_X11_thrown l w σ_2) gL_law_X11_thrown (by decide) (ce_0 w σ_2) rfl rfl rfl rfl rfl (by decide +kernel) ⟨by decide, by decide⟩ rfl (Nat.le_of_ble_eq_true rfl) ⟨by show _ ≤ 601024; omega, by show _ ≤ 7293034; omega⟩ (fun r_3 σ_3 q_3 => ?_)
  obtain ⟨qs_3, qr_3⟩ := q_3
  rw [qs_3, qr_3, t1]
  refine g_iload (pc9 := 1697) C rfl 0 dL_law_1695 rfl ?_
  refine g_icmp_eq (pc9 := 1700) C rfl 1702 dL_law_1697 rfl (fun _ => ?_) (fun z => absurd rfl z)
  refine g_goto C 2093 dL_law_1702 rfl ?_
  exact g_wid (by omega) (by omega) (g_sub [1, 2, 3, 4, 5] [(4, .int (nI i)), (3, .ref (w.1 30)), (2, .ref (w.1 0)), (1, .ref (w.1 31)), (0, .ref b)] rfl (kont σ_2 t3))
set_option maxRecDepth 100000 in
set_option maxHeartbeats 4000000 in
theorem lc_distance {p : Program} {l : Launch} {e : Env} {s : State} {m : MethodId} {below : List Frame} {meth : Method} {c : Code} {Q : State → Prop} {w : Wd} {sA : Nat → Nat} {b L : Nat} {xs : Nat → Int32} {A : Nat → Prop} (hst : l.stackTraces = false) (X : LC p s m meth c w sA b L xs A) (σ : St) (h : RX σ σ) (i : Nat) (hi : i + 6 ≤ L) (cells slots : Nat) (hc : cells + 20 ≤ 601024) (hs : slots + 120 ≤ 7293034) (kont : ∀ σ9, RX σ9 σ9 → G p l e room_1 s m #[Value.ref b] below meth c Q w A 8 σ9 (cells + 20) (slots + 120) 2093 [(4, .int (nI i)), (3, .ref (w.1 30)), (2, .ref (w.1 0)), (1, .ref (w.1 31)), (0, .ref b)] []) : G p l e room_1 s m #[Value.ref b] below meth c Q w A 8 σ cells slots 1705 [(4, .int (nI i)), (3, .ref (w.1 30)), (2, .ref (w.1 0)), (1, .ref (w.1 31)), (0, .ref b)] [] := by
  obtain ⟨C, hXF, hN, hX, hbl, hbA, _, _, _, hL⟩ := X
  obtain ⟨P, hM, hk⟩ := k_distance l hst w sA σ h (xs (i + 1)) (xs (i + 2)) (xs (i + 3))
  refine g_aload_n (pc9 := 1706) C rfl 3 dL_law_1705 rfl rfl ?_
  refine g_aload_n (pc9 := 1707) C rfl 4 dL_law_1706 rfl rfl ?_
  refine g_iload (pc9 := 1709) C rfl 0 dL_law_1707 rfl ?_
  refine g_iconst (pc9 := 1710) C rfl (nI 1) dL_law_1709 rfl ?_
  refine g_iaddN (pc9 := 1711) C rfl dL_law_1710 ?_
  refine g_scr (pc9 := 1712) C rfl hX hbl hbA (i + 1) rfl (by omega) (by omega) dL_law_1711 ?_
  refine g_aload_n (pc9 := 1713) C rfl 4 dL_law_1712 rfl rfl ?_
  refine g_iload (pc9 := 1715) C rfl 0 dL_law_1713 rfl ?_
  refine g_iconst (pc9 := 1716) C rfl (nI 2) dL_law_1715 rfl ?_
  refine g_iaddN (pc9 := 1717) C rfl dL_law_1716 ?_
  refine g_scr (pc9 := 1718) C rfl hX hbl hbA (i + 2) rfl (by omega) (by omega) dL_law_1717 ?_
  refine g_aload_n (pc9 := 1719) C rfl 4 dL_law_1718 rfl rfl ?_
  refine g_iload (pc9 := 1721) C rfl 0 dL_law_1719 rfl ?_
  refine g_iconst (pc9 := 1722) C rfl (nI 3) dL_law_1721 rfl ?_
  refine g_iaddN (pc9 := 1723) C rfl dL_law_1722 ?_
  refine g_scr (pc9 := 1724) C rfl hX hbl hbA (i + 3) rfl (by omega) (by omega) dL_law_1723 ?_
  refine w_callSi (rest := []) C hXF hN (pc9 := 1727) rfl [.ref (w.1 31), .int (xs (i + 1)), .int (xs (i + 2)), .int (xs (i + 3))] (nn := 4) rfl dL_law_1724 hM gL_law_L_distance rfl (by decide +kernel) ⟨by decide, by decide⟩ rfl (Nat.le_of_ble_eq_true rfl) ⟨by show _ ≤ 601024; omega, by show _ ≤ 7293034; omega⟩ (fun r_1 σ_1 q_1 => ?_)
  obtain ⟨PM, hM9, hk9⟩ := hk r_1 σ_1 q_1
  refine g_istore (pc9 := 1729) C rfl [(5, .int r_1), (4, .int (nI i)), (3, .ref (w.1 30)), (2, .ref (w.1 0)), (1, .ref (w.1 31)), (0, .ref b)] dL_law_1727 (by decide) rfl ?_
  refine g_aload_n (pc9 := 1730) C rfl 3 dL_law_1729 rfl rfl ?_
  refine g_aload_n (pc9 := 1731) C rfl 5 dL_law_1730 rfl rfl ?_
  refine g_iload (pc9 := 1733) C rfl 1 dL_law_1731 rfl ?_
  refine g_iconst (pc9 := 1734) C rfl (nI 1) dL_law_1733 rfl ?_
  refine g_iaddN (pc9 := 1735) C rfl dL_law_1734 ?_
  refine g_scr (pc9 := 1736) C rfl hX hbl hbA (i + 1) rfl (by omega) (by omega) dL_law_1735 ?_
  refine g_aload_n (pc9 := 1737) C rfl 5 dL_law_1736 rfl rfl ?_
  refine g_iload (pc9 := 1739) C rfl 1 dL_law_1737 rfl ?_
  refine g_iconst (pc9 := 1740) C rfl (nI 2) dL_law_1739 rfl ?_
  refine g_iaddN (pc9 := 1741) C rfl dL_law_1740 ?_
  refine g_scr (pc9 := 1742) C rfl hX hbl hbA (i + 2) rfl (by omega) (by omega) dL_law_1741 ?_
  refine g_aload_n (pc9 := 1743) C rfl 5 dL_law_1742 rfl rfl ?_
  refine g_iload (pc9 := 1745) C rfl 1 dL_law_1743 rfl ?_
  refine g_iconst (pc9 := 1746) C rfl (nI 3) dL_law_1745 rfl ?_
  refine g_iaddN (pc9 := 1747) C rfl dL_law_1746 ?_
  refine g_scr (pc9 := 1748) C rfl hX hbl hbA (i + 3) rfl (by omega) (by omega) dL_law_1747 ?_
  refine g_callVv (nn := 3) (rest := []) (pc9 := 1751) C rfl 0 [.int (xs (i + 1)), .int (xs (i + 2)), .int (xs (i + 3))] rfl dL_law_1748 hM9 gL_law_X11_distance (by decide) (ce_0 w σ_1) rfl rfl rfl rfl rfl (by decide +kernel) ⟨by decide, by decide⟩ rfl (Nat.le_of_ble_eq_true rfl) ⟨by show _ ≤ 601024; omega, by show _ ≤ 7293034; omega⟩ (fun σ_2 q_2 => ?_)
  obtain ⟨t1, t3⟩ := hk9 σ_2 q_2
  refine g_aload_n (pc9 := 1752) C rfl 3 dL_law_1751 rfl rfl ?_
  refine g_callVi (nn := 0) (rest := []) (pc9 := 1755) C rfl 0 [] rfl dL_law_1752 (m_X11_thrown l w σ_2) gL_law_X11_thrown (by decide) (ce_0 w σ_2) rfl rfl rfl rfl rfl (by decide +kernel) ⟨by decide, by decide⟩ rfl (Nat.le_of_ble_eq_true rfl) ⟨by show _ ≤ 601024; omega, by show _ ≤ 7293034; omega⟩ (fun r_3 σ_3 q_3 => ?_)
  obtain ⟨qs_3, qr_3⟩ := q_3
  rw [qs_3, qr_3, t1]
  refine g_iload (pc9 := 1757) C rfl 0 dL_law_1755 rfl ?_
  refine g_icmp_eq (pc9 := 1760) C rfl 1762 dL_law_1757 rfl (fun _ => ?_) (fun z => absurd rfl z)
  refine g_goto C 2093 dL_law_1762 rfl ?_
  exact g_wid (by omega) (by omega) (g_sub [1, 2, 3, 4, 5] [(4, .int (nI i)), (3, .ref (w.1 30)), (2, .ref (w.1 0)), (1, .ref (w.1 31)), (0, .ref b)] rfl (kont σ_2 t3))
set_option maxRecDepth 100000 in
set_option maxHeartbeats 4000000 in
theorem lc_fourPoints {p : Program} {l : Launch} {e : Env} {s : State} {m : MethodId} {below : List Frame} {meth : Method} {c : Code} {Q : State → Prop} {w : Wd} {sA : Nat → Nat} {b L : Nat} {xs : Nat → Int32} {A : Nat → Prop} (hst : l.stackTraces = false) (X : LC p s m meth c w sA b L xs A) (σ : St) (h : RX σ σ) (i : Nat) (hi : i + 6 ≤ L) (cells slots : Nat) (hc : cells + 20 ≤ 601024) (hs : slots + 120 ≤ 7293034) (kont : ∀ σ9, RX σ9 σ9 → G p l e room_1 s m #[Value.ref b] below meth c Q w A 8 σ9 (cells + 20) (slots + 120) 2093 [(4, .int (nI i)), (3, .ref (w.1 30)), (2, .ref (w.1 0)), (1, .ref (w.1 31)), (0, .ref b)] []) : G p l e room_1 s m #[Value.ref b] below meth c Q w A 8 σ cells slots 1765 [(4, .int (nI i)), (3, .ref (w.1 30)), (2, .ref (w.1 0)), (1, .ref (w.1 31)), (0, .ref b)] [] := by
  obtain ⟨C, hXF, hN, hX, hbl, hbA, _, _, _, hL⟩ := X
  obtain ⟨P, hM, hk⟩ := k_fourPoints l w σ h 
  refine g_aload_n (pc9 := 1766) C rfl 3 dL_law_1765 rfl rfl ?_
  refine g_callVi (nn := 0) (rest := []) (pc9 := 1769) C rfl 31 [] rfl dL_law_1766 hM gL_law_X10_fourPoints (by decide) (ce_31 w σ) rfl rfl rfl rfl rfl (by decide +kernel) ⟨by decide, by decide⟩ rfl (Nat.le_of_ble_eq_true rfl) ⟨by show _ ≤ 601024; omega, by show _ ≤ 7293034; omega⟩ (fun r_1 σ_1 q_1 => ?_)
  obtain ⟨PM, hM9, hk9⟩ := hk r_1 σ_1 q_1
  refine g_aload_n (pc9 := 1770) C rfl 2 dL_law_1769 rfl rfl ?_
  refine g_callVi (nn := 0) (rest := [.int r_1]) (pc9 := 1773) C rfl 0 [] rfl dL_law_1770 hM9 gL_law_X11_fourPoints (by decide) (ce_0 w σ_1) rfl rfl rfl rfl rfl (by decide +kernel) ⟨by decide, by decide⟩ rfl (Nat.le_of_ble_eq_true rfl) ⟨by show _ ≤ 601024; omega, by show _ ≤ 7293034; omega⟩ (fun r_2 σ_2 q_2 => ?_)
  obtain ⟨t1, t2⟩ := hk9 r_2 σ_2 q_2
  refine g_icmp_eq (pc9 := 1776) C rfl 2093 dL_law_1773 rfl (fun _ => ?_) (fun z => absurd t1.symm z)
  exact g_wid (by omega) (by omega) (g_sub [0, 1, 2, 3, 4] [(4, .int (nI i)), (3, .ref (w.1 30)), (2, .ref (w.1 0)), (1, .ref (w.1 31)), (0, .ref b)] rfl (kont σ_2 t2))
set_option maxRecDepth 100000 in
set_option maxHeartbeats 4000000 in
theorem lc_clock {p : Program} {l : Launch} {e : Env} {s : State} {m : MethodId} {below : List Frame} {meth : Method} {c : Code} {Q : State → Prop} {w : Wd} {sA : Nat → Nat} {b L : Nat} {xs : Nat → Int32} {A : Nat → Prop} (hst : l.stackTraces = false) (X : LC p s m meth c w sA b L xs A) (σ : St) (h : RX σ σ) (i : Nat) (hi : i + 6 ≤ L) (cells slots : Nat) (hc : cells + 20 ≤ 601024) (hs : slots + 120 ≤ 7293034) (kont : ∀ σ9, RX σ9 σ9 → G p l e room_1 s m #[Value.ref b] below meth c Q w A 8 σ9 (cells + 20) (slots + 120) 2093 [(4, .int (nI i)), (3, .ref (w.1 30)), (2, .ref (w.1 0)), (1, .ref (w.1 31)), (0, .ref b)] []) : G p l e room_1 s m #[Value.ref b] below meth c Q w A 8 σ cells slots 1778 [(4, .int (nI i)), (3, .ref (w.1 30)), (2, .ref (w.1 0)), (1, .ref (w.1 31)), (0, .ref b)] [] := by
  obtain ⟨C, hXF, hN, hX, hbl, hbA, _, _, _, hL⟩ := X
  obtain ⟨P, hM, hk⟩ := k_clock l hst w sA σ h (xs (i + 1))
  refine g_aload_n (pc9 := 1779) C rfl 3 dL_law_1778 rfl rfl ?_
  refine g_aload_n (pc9 := 1780) C rfl 4 dL_law_1779 rfl rfl ?_
  refine g_iload (pc9 := 1782) C rfl 0 dL_law_1780 rfl ?_
  refine g_iconst (pc9 := 1783) C rfl (nI 1) dL_law_1782 rfl ?_
  refine g_iaddN (pc9 := 1784) C rfl dL_law_1783 ?_
  refine g_scr (pc9 := 1785) C rfl hX hbl hbA (i + 1) rfl (by omega) (by omega) dL_law_1784 ?_
  refine g_aload_n (pc9 := 1786) C rfl 1 dL_law_1785 rfl rfl ?_
  refine w_callSi (rest := []) C hXF hN (pc9 := 1789) rfl [.ref (w.1 31), .int (xs (i + 1)), .ref (w.1 30)] (nn := 3) rfl dL_law_1786 hM gL_law_L_clock rfl (by decide +kernel) ⟨by decide, by decide⟩ rfl (Nat.le_of_ble_eq_true rfl) ⟨by show _ ≤ 601024; omega, by show _ ≤ 7293034; omega⟩ (fun r_1 σ_1 q_1 => ?_)
  obtain ⟨PM, hM9, hk9⟩ := hk r_1 σ_1 q_1
  refine g_istore (pc9 := 1791) C rfl [(5, .int r_1), (4, .int (nI i)), (3, .ref (w.1 30)), (2, .ref (w.1 0)), (1, .ref (w.1 31)), (0, .ref b)] dL_law_1789 (by decide) rfl ?_
  refine g_aload_n (pc9 := 1792) C rfl 3 dL_law_1791 rfl rfl ?_
  refine g_aload_n (pc9 := 1793) C rfl 5 dL_law_1792 rfl rfl ?_
  refine g_iload (pc9 := 1795) C rfl 1 dL_law_1793 rfl ?_
  refine g_iconst (pc9 := 1796) C rfl (nI 1) dL_law_1795 rfl ?_
  refine g_iaddN (pc9 := 1797) C rfl dL_law_1796 ?_
  refine g_scr (pc9 := 1798) C rfl hX hbl hbA (i + 1) rfl (by omega) (by omega) dL_law_1797 ?_
  refine g_callVi (nn := 1) (rest := []) (pc9 := 1801) C rfl 0 [.int (xs (i + 1))] rfl dL_law_1798 hM9 gL_law_X11_clock (by decide) (ce_0 w σ_1) rfl rfl rfl rfl rfl (by decide +kernel) ⟨by decide, by decide⟩ rfl (Nat.le_of_ble_eq_true rfl) ⟨by show _ ≤ 601024; omega, by show _ ≤ 7293034; omega⟩ (fun r_2 σ_2 q_2 => ?_)
  obtain ⟨t1, t2, t3⟩ := hk9 r_2 σ_2 q_2
  refine g_istore (pc9 := 1803) C rfl [(6, .int r_2), (5, .int r_1), (4, .int (nI i)), (3, .ref (w.1 30)), (2, .ref (w.1 0)), (1, .ref (w.1 31)), (0, .ref b)] dL_law_1801 (by decide) rfl ?_
  refine g_aload_n (pc9 := 1804) C rfl 4 dL_law_1803 rfl rfl ?_
  refine g_callVi (nn := 0) (rest := []) (pc9 := 1807) C rfl 0 [] rfl dL_law_1804 (m_X11_thrown l w σ_2) gL_law_X11_thrown (by decide) (ce_0 w σ_2) rfl rfl rfl rfl rfl (by decide +kernel) ⟨by decide, by decide⟩ rfl (Nat.le_of_ble_eq_true rfl) ⟨by show _ ≤ 601024; omega, by show _ ≤ 7293034; omega⟩ (fun r_3 σ_3 q_3 => ?_)
  obtain ⟨qs_3, qr_3⟩ := q_3
  rw [qs_3, qr_3, t1]
  refine g_iload (pc9 := 1809) C rfl 1 dL_law_1807 rfl ?_
  refine g_icmp_eq (pc9 := 1812) C rfl 1814 dL_law_1809 rfl (fun _ => ?_) (fun z => absurd rfl z)
  refine g_iload (pc9 := 1816) C rfl 1 dL_law_1814 rfl ?_
  refine g_if_ne (pc9 := 1819) C rfl 1838 dL_law_1816 rfl (fun _ => ?_) (fun c_1 => ?_)
  · refine g_goto C 2093 dL_law_1838 rfl ?_
    exact g_wid (by omega) (by omega) (g_sub [2, 3, 4, 5, 6] [(4, .int (nI i)), (3, .ref (w.1 30)), (2, .ref (w.1 0)), (1, .ref (w.1 31)), (0, .ref b)] rfl (kont σ_2 t3))
  · have e2 := t2 c_1
    refine g_aload_n (pc9 := 1820) C rfl 3 dL_law_1819 rfl rfl ?_
    refine g_iconst (pc9 := 1821) C rfl (nI 0) dL_law_1820 rfl ?_
    refine g_lald (pc9 := 1822) C rfl 30 0 (n := 1) (x := jA σ_2 30 0) dL_law_1821 (by decide) (ce_30 w σ_2) rfl (by decide) (by decide) rfl ?_
    refine g_iload (pc9 := 1824) C rfl 0 dL_law_1822 rfl ?_
    refine g_if_eq (pc9 := 1827) C rfl 1831 dL_law_1824 rfl (fun c_2 => ?_) (fun c_2 => ?_)
    · refine g_lconst (pc9 := 1832) C rfl (0) dL_law_1831 rfl ?_
      refine g_lcmp (pc9 := 1833) C rfl dL_law_1832 ?_
      refine g_if_eq (pc9 := 1836) C rfl 1838 dL_law_1833 rfl (fun _ => ?_) (fun z => absurd (lg_eq (by rw [e2, if_pos c_2])) z)
      refine g_goto C 2093 dL_law_1838 rfl ?_
      exact g_wid (by omega) (by omega) (g_sub [2, 3, 4, 5, 6] [(4, .int (nI i)), (3, .ref (w.1 30)), (2, .ref (w.1 0)), (1, .ref (w.1 31)), (0, .ref b)] rfl (kont σ_2 t3))
    · refine g_lconst (pc9 := 1828) C rfl (1) dL_law_1827 rfl ?_
      refine g_goto C 1832 dL_law_1828 rfl ?_
      refine g_lcmp (pc9 := 1833) C rfl dL_law_1832 ?_
      refine g_if_eq (pc9 := 1836) C rfl 1838 dL_law_1833 rfl (fun _ => ?_) (fun z => absurd (lg_eq (by rw [e2, if_neg c_2])) z)
      refine g_goto C 2093 dL_law_1838 rfl ?_
      exact g_wid (by omega) (by omega) (g_sub [2, 3, 4, 5, 6] [(4, .int (nI i)), (3, .ref (w.1 30)), (2, .ref (w.1 0)), (1, .ref (w.1 31)), (0, .ref b)] rfl (kont σ_2 t3))
