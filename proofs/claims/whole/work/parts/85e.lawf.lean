section XT
variable {z b L c : Nat} {xs : Nat → Int} {S : St} {h : aH} {Q : aR → Prop} {i : Int}
theorem lc_shown {tl : List aV} (J : LI z b L xs S c h) (h0 : 0 ≤ i) (h6 : i + 6 ≤ (L : Int)) (k : ∀ h' S' tl', LI z b L xs S' (c + 1) h' → amT mL_law 1797 (vR b :: vR z :: vR (z + 1899) :: vR (z + 1913) :: vI i :: tl') [] h' Q) : amT mL_law 1402 (vR b :: vR z :: vR (z + 1899) :: vR (z + 1913) :: vI i :: tl) [] h Q := by
  obtain ⟨HS, D, M, R, so, sb, hb, hx, hr, hL, n1, n2⟩ := id J
  refine kr_aload_n (pc := 1402) dL_law_1402 rfl ?_
  refine kr_aload_n (pc := 1403) dL_law_1403 rfl ?_
  refine kr_iload (pc := 1404) dL_law_1404 rfl ?_
  refine kr_iconst (pc := 1406) dL_law_1406 (by decide) ?_
  refine kr_iadd (pc := 1407) dL_law_1407 ⟨by omega, by omega⟩ ?_
  refine kr_sald (pc := 1408) dL_law_1408 sb (by omega) (by omega) (hx _) ?_
  refine kr_aload_n (pc := 1409) dL_law_1409 rfl ?_
  refine kr_iload (pc := 1410) dL_law_1410 rfl ?_
  refine kr_iconst (pc := 1412) dL_law_1412 (by decide) ?_
  refine kr_iadd (pc := 1413) dL_law_1413 ⟨by omega, by omega⟩ ?_
  refine kr_sald (pc := 1414) dL_law_1414 sb (by omega) (by omega) (hx _) ?_
  refine kr_aload_n (pc := 1415) dL_law_1415 rfl ?_
  refine kr_iload (pc := 1416) dL_law_1416 rfl ?_
  refine kr_iconst (pc := 1418) dL_law_1418 (by decide) ?_
  refine kr_iadd (pc := 1419) dL_law_1419 ⟨by omega, by omega⟩ ?_
  refine kr_sald (pc := 1420) dL_law_1420 sb (by omega) (by omega) (hx _) ?_
  refine kr_aload_n (pc := 1421) dL_law_1421 rfl ?_
  refine kr_iload (pc := 1422) dL_law_1422 rfl ?_
  refine kr_iconst (pc := 1424) dL_law_1424 (by decide) ?_
  refine kr_iadd (pc := 1425) dL_law_1425 ⟨by omega, by omega⟩ ?_
  refine kr_sald (pc := 1426) dL_law_1426 sb (by omega) (by omega) (hx _) ?_
  refine kr_aload_n (pc := 1427) dL_law_1427 rfl ?_
  refine kr_s6 (pc := 1428) dL_law_1428 rfl rfl (Nat.le_of_ble_eq_true rfl) rfl rfl rfl rfl rfl rfl (l_shown D HS (by have := (hr (i + 1).toNat).2; omega) so (fun h1 kk O V => ?_))
  show amT _ _ _ _ _ _
  obtain ⟨M1, R1, so1, sb1, hx1⟩ := J.mid O
  refine kr_istore (pc := 1431) dL_law_1431 (show 5 ≤ _ from by simp) (by decide) ?_
  simp only [stl, List.tail_cons, List.tail_nil]
  refine kr_aload_n (pc := 1433) dL_law_1433 rfl ?_
  refine kr_aload_n (pc := 1434) dL_law_1434 rfl ?_
  refine kr_iload (pc := 1435) dL_law_1435 rfl ?_
  refine kr_iconst (pc := 1437) dL_law_1437 (by decide) ?_
  refine kr_iadd (pc := 1438) dL_law_1438 ⟨by omega, by omega⟩ ?_
  refine kr_sald (pc := 1439) dL_law_1439 sb1 (by omega) (by omega) (hx1 _) ?_
  refine kr_aload_n (pc := 1440) dL_law_1440 rfl ?_
  refine kr_iload (pc := 1441) dL_law_1441 rfl ?_
  refine kr_iconst (pc := 1443) dL_law_1443 (by decide) ?_
  refine kr_iadd (pc := 1444) dL_law_1444 ⟨by omega, by omega⟩ ?_
  refine kr_sald (pc := 1445) dL_law_1445 sb1 (by omega) (by omega) (hx1 _) ?_
  refine kr_aload_n (pc := 1446) dL_law_1446 rfl ?_
  refine kr_iload (pc := 1447) dL_law_1447 rfl ?_
  refine kr_iconst (pc := 1449) dL_law_1449 (by decide) ?_
  refine kr_iadd (pc := 1450) dL_law_1450 ⟨by omega, by omega⟩ ?_
  refine kr_sald (pc := 1451) dL_law_1451 sb1 (by omega) (by omega) (hx1 _) ?_
  refine kr_aload_n (pc := 1452) dL_law_1452 rfl ?_
  refine kr_iload (pc := 1453) dL_law_1453 rfl ?_
  refine kr_iconst (pc := 1455) dL_law_1455 (by decide) ?_
  refine kr_iadd (pc := 1456) dL_law_1456 ⟨by omega, by omega⟩ ?_
  refine kr_sald (pc := 1457) dL_law_1457 sb1 (by omega) (by omega) (hx1 _) ?_
  refine kr_v4 (pc := 1458) dL_law_1458 rfl rfl M1.1 (Nat.le_of_ble_eq_true rfl) rfl rfl rfl rfl (mc_shown M1 R1 HS (fun I' b' O2 => ?_))
  show amT _ _ _ _ _ _
  have M2 : MS (hI h1 I') (z + 1899) := M1
  have so2 : hsh (hI h1 I') (z + 1913) = (21, 1) := so1
  have J2 := J.next O O2 (okS_shown HS _ _ _ _)
  refine kr_istore (pc := 1461) dL_law_1461 (show 6 ≤ _ from by simp) (by decide) ?_
  simp only [stl, List.tail_cons, List.tail_nil]
  refine kr_aload_n (pc := 1463) dL_law_1463 rfl ?_
  refine kr_v0 (pc := 1464) dL_law_1464 rfl rfl M2.1 (Nat.le_of_ble_eq_true rfl) (m_thrown M2 ?_)
  show amT _ _ _ _ _ _
  refine kr_iload (pc := 1467) dL_law_1467 rfl ?_
  refine kr_icmp_eq (pc := 1469) dL_law_1469 rfl (fun _ => ?_) (fun h => absurd (O2.2.1.trans O.2.1.symm) h)
  refine kr_iload (pc := 1474) dL_law_1474 rfl ?_
  refine kr_if_ne (pc := 1476) dL_law_1476 rfl (fun _ => ?_) (fun hk => ?_)
  · refine kr_goto (pc := 1491) dL_law_1491 rfl ?_
    exact k _ _ _ J2
  · have hr0 := O.2.1.symm.trans hk
    have hv2 : hiv (hI h1 I') (z + 1913) (0 : Int).toNat = _ := (congrFun (O2.2.2.2 (z + 1913) (Or.inr (Nat.le_refl _))) 0).trans (V hk)
    have eb := O2.2.2.1 hr0
    refine kr_aload_n (pc := 1479) dL_law_1479 rfl ?_
    refine kr_iconst (pc := 1480) dL_law_1480 (by decide) ?_
    refine kr_lald (pc := 1481) dL_law_1481 so2 (by decide) (by decide) hv2 ?_
    refine kr_iload (pc := 1482) dL_law_1482 rfl ?_
    refine kr_i2l (pc := 1484) dL_law_1484 ?_
    refine kr_lcmp (pc := 1485) dL_law_1485 ?_
    refine kr_if_eq (pc := 1486) dL_law_1486 rfl (fun _ => ?_) (fun h => absurd (by rw [eb]; exact lc_0) h)
    refine kr_goto (pc := 1491) dL_law_1491 rfl ?_
    exact k _ _ _ J2
theorem lc_own {tl : List aV} (J : LI z b L xs S c h) (h0 : 0 ≤ i) (h6 : i + 6 ≤ (L : Int)) (k : ∀ h' S' tl', LI z b L xs S' (c + 1) h' → amT mL_law 1797 (vR b :: vR z :: vR (z + 1899) :: vR (z + 1913) :: vI i :: tl') [] h' Q) : amT mL_law 1494 (vR b :: vR z :: vR (z + 1899) :: vR (z + 1913) :: vI i :: tl) [] h Q := by
  obtain ⟨HS, D, M, R, so, sb, hb, hx, hr, hL, n1, n2⟩ := id J
  refine kr_aload_n (pc := 1494) dL_law_1494 rfl ?_
  refine kr_aload_n (pc := 1495) dL_law_1495 rfl ?_
  refine kr_iload (pc := 1496) dL_law_1496 rfl ?_
  refine kr_iconst (pc := 1498) dL_law_1498 (by decide) ?_
  refine kr_iadd (pc := 1499) dL_law_1499 ⟨by omega, by omega⟩ ?_
  refine kr_sald (pc := 1500) dL_law_1500 sb (by omega) (by omega) (hx _) ?_
  refine kr_aload_n (pc := 1501) dL_law_1501 rfl ?_
  refine kr_iload (pc := 1502) dL_law_1502 rfl ?_
  refine kr_iconst (pc := 1504) dL_law_1504 (by decide) ?_
  refine kr_iadd (pc := 1505) dL_law_1505 ⟨by omega, by omega⟩ ?_
  refine kr_sald (pc := 1506) dL_law_1506 sb (by omega) (by omega) (hx _) ?_
  refine kr_aload_n (pc := 1507) dL_law_1507 rfl ?_
  refine kr_iload (pc := 1508) dL_law_1508 rfl ?_
  refine kr_iconst (pc := 1510) dL_law_1510 (by decide) ?_
  refine kr_iadd (pc := 1511) dL_law_1511 ⟨by omega, by omega⟩ ?_
  refine kr_sald (pc := 1512) dL_law_1512 sb (by omega) (by omega) (hx _) ?_
  refine kr_aload_n (pc := 1513) dL_law_1513 rfl ?_
  refine kr_s5 (pc := 1514) dL_law_1514 rfl rfl (Nat.le_of_ble_eq_true rfl) rfl rfl rfl rfl rfl (l_own D HS (by have := (hr (i + 1).toNat).2; omega) so (fun h1 kk O V => ?_))
  show amT _ _ _ _ _ _
  obtain ⟨M1, R1, so1, sb1, hx1⟩ := J.mid O
  refine kr_istore (pc := 1517) dL_law_1517 (show 5 ≤ _ from by simp) (by decide) ?_
  simp only [stl, List.tail_cons, List.tail_nil]
  refine kr_aload_n (pc := 1519) dL_law_1519 rfl ?_
  refine kr_aload_n (pc := 1520) dL_law_1520 rfl ?_
  refine kr_iload (pc := 1521) dL_law_1521 rfl ?_
  refine kr_iconst (pc := 1523) dL_law_1523 (by decide) ?_
  refine kr_iadd (pc := 1524) dL_law_1524 ⟨by omega, by omega⟩ ?_
  refine kr_sald (pc := 1525) dL_law_1525 sb1 (by omega) (by omega) (hx1 _) ?_
  refine kr_aload_n (pc := 1526) dL_law_1526 rfl ?_
  refine kr_iload (pc := 1527) dL_law_1527 rfl ?_
  refine kr_iconst (pc := 1529) dL_law_1529 (by decide) ?_
  refine kr_iadd (pc := 1530) dL_law_1530 ⟨by omega, by omega⟩ ?_
  refine kr_sald (pc := 1531) dL_law_1531 sb1 (by omega) (by omega) (hx1 _) ?_
  refine kr_aload_n (pc := 1532) dL_law_1532 rfl ?_
  refine kr_iload (pc := 1533) dL_law_1533 rfl ?_
  refine kr_iconst (pc := 1535) dL_law_1535 (by decide) ?_
  refine kr_iadd (pc := 1536) dL_law_1536 ⟨by omega, by omega⟩ ?_
  refine kr_sald (pc := 1537) dL_law_1537 sb1 (by omega) (by omega) (hx1 _) ?_
  refine kr_v3 (pc := 1538) dL_law_1538 rfl rfl M1.1 (Nat.le_of_ble_eq_true rfl) rfl rfl rfl (mc_own M1 R1 HS (fun I' b' O2 => ?_))
  show amT _ _ _ _ _ _
  have M2 : MS (hI h1 I') (z + 1899) := M1
  have so2 : hsh (hI h1 I') (z + 1913) = (21, 1) := so1
  have J2 := J.next O O2 (okS_own HS _ _ _)
  refine kr_istore (pc := 1541) dL_law_1541 (show 6 ≤ _ from by simp) (by decide) ?_
  simp only [stl, List.tail_cons, List.tail_nil]
  refine kr_aload_n (pc := 1543) dL_law_1543 rfl ?_
  refine kr_v0 (pc := 1544) dL_law_1544 rfl rfl M2.1 (Nat.le_of_ble_eq_true rfl) (m_thrown M2 ?_)
  show amT _ _ _ _ _ _
  refine kr_iload (pc := 1547) dL_law_1547 rfl ?_
  refine kr_icmp_eq (pc := 1549) dL_law_1549 rfl (fun _ => ?_) (fun h => absurd (O2.2.1.trans O.2.1.symm) h)
  refine kr_iload (pc := 1554) dL_law_1554 rfl ?_
  refine kr_if_ne (pc := 1556) dL_law_1556 rfl (fun _ => ?_) (fun hk => ?_)
  · refine kr_goto (pc := 1571) dL_law_1571 rfl ?_
    exact k _ _ _ J2
  · have hr0 := O.2.1.symm.trans hk
    have hv2 : hiv (hI h1 I') (z + 1913) (0 : Int).toNat = _ := (congrFun (O2.2.2.2 (z + 1913) (Or.inr (Nat.le_refl _))) 0).trans (V hk)
    have eb := O2.2.2.1 hr0
    refine kr_aload_n (pc := 1559) dL_law_1559 rfl ?_
    refine kr_iconst (pc := 1560) dL_law_1560 (by decide) ?_
    refine kr_lald (pc := 1561) dL_law_1561 so2 (by decide) (by decide) hv2 ?_
    refine kr_iload (pc := 1562) dL_law_1562 rfl ?_
    refine kr_i2l (pc := 1564) dL_law_1564 ?_
    refine kr_lcmp (pc := 1565) dL_law_1565 ?_
    refine kr_if_eq (pc := 1566) dL_law_1566 rfl (fun _ => ?_) (fun h => absurd (by rw [eb]; exact lc_0) h)
    refine kr_goto (pc := 1571) dL_law_1571 rfl ?_
    exact k _ _ _ J2
theorem lc_same {tl : List aV} (J : LI z b L xs S c h) (h0 : 0 ≤ i) (h6 : i + 6 ≤ (L : Int)) (k : ∀ h' S' tl', LI z b L xs S' (c + 1) h' → amT mL_law 1797 (vR b :: vR z :: vR (z + 1899) :: vR (z + 1913) :: vI i :: tl') [] h' Q) : amT mL_law 1574 (vR b :: vR z :: vR (z + 1899) :: vR (z + 1913) :: vI i :: tl) [] h Q := by
  obtain ⟨HS, D, M, R, so, sb, hb, hx, hr, hL, n1, n2⟩ := id J
  refine kr_aload_n (pc := 1574) dL_law_1574 rfl ?_
  refine kr_aload_n (pc := 1575) dL_law_1575 rfl ?_
  refine kr_iload (pc := 1576) dL_law_1576 rfl ?_
  refine kr_iconst (pc := 1578) dL_law_1578 (by decide) ?_
  refine kr_iadd (pc := 1579) dL_law_1579 ⟨by omega, by omega⟩ ?_
  refine kr_sald (pc := 1580) dL_law_1580 sb (by omega) (by omega) (hx _) ?_
  refine kr_aload_n (pc := 1581) dL_law_1581 rfl ?_
  refine kr_iload (pc := 1582) dL_law_1582 rfl ?_
  refine kr_iconst (pc := 1584) dL_law_1584 (by decide) ?_
  refine kr_iadd (pc := 1585) dL_law_1585 ⟨by omega, by omega⟩ ?_
  refine kr_sald (pc := 1586) dL_law_1586 sb (by omega) (by omega) (hx _) ?_
  refine kr_aload_n (pc := 1587) dL_law_1587 rfl ?_
  refine kr_s4 (pc := 1588) dL_law_1588 rfl rfl (Nat.le_of_ble_eq_true rfl) rfl rfl rfl rfl (l_same D HS (by have := (hr (i + 1).toNat).2; omega) (by have := (hr (i + 2).toNat).2; omega) so (fun h1 kk O V => ?_))
  show amT _ _ _ _ _ _
  obtain ⟨M1, R1, so1, sb1, hx1⟩ := J.mid O
  refine kr_istore (pc := 1591) dL_law_1591 (show 5 ≤ _ from by simp) (by decide) ?_
  simp only [stl, List.tail_cons, List.tail_nil]
  refine kr_aload_n (pc := 1593) dL_law_1593 rfl ?_
  refine kr_aload_n (pc := 1594) dL_law_1594 rfl ?_
  refine kr_iload (pc := 1595) dL_law_1595 rfl ?_
  refine kr_iconst (pc := 1597) dL_law_1597 (by decide) ?_
  refine kr_iadd (pc := 1598) dL_law_1598 ⟨by omega, by omega⟩ ?_
  refine kr_sald (pc := 1599) dL_law_1599 sb1 (by omega) (by omega) (hx1 _) ?_
  refine kr_aload_n (pc := 1600) dL_law_1600 rfl ?_
  refine kr_iload (pc := 1601) dL_law_1601 rfl ?_
  refine kr_iconst (pc := 1603) dL_law_1603 (by decide) ?_
  refine kr_iadd (pc := 1604) dL_law_1604 ⟨by omega, by omega⟩ ?_
  refine kr_sald (pc := 1605) dL_law_1605 sb1 (by omega) (by omega) (hx1 _) ?_
  refine kr_v2 (pc := 1606) dL_law_1606 rfl rfl M1.1 (Nat.le_of_ble_eq_true rfl) rfl rfl (mc_same M1 R1 HS (fun I' b' hb' O2 => ?_))
  show amT _ _ _ _ _ _
  have M2 : MS (hI h1 I') (z + 1899) := M1
  have so2 : hsh (hI h1 I') (z + 1913) = (21, 1) := so1
  have J2 := J.next O O2 (okS_same HS _ _)
  refine kr_istore (pc := 1609) dL_law_1609 (show 6 ≤ _ from by simp) (by decide) ?_
  simp only [stl, List.tail_cons, List.tail_nil]
  refine kr_aload_n (pc := 1611) dL_law_1611 rfl ?_
  refine kr_v0 (pc := 1612) dL_law_1612 rfl rfl M2.1 (Nat.le_of_ble_eq_true rfl) (m_thrown M2 ?_)
  show amT _ _ _ _ _ _
  refine kr_iload (pc := 1615) dL_law_1615 rfl ?_
  refine kr_icmp_eq (pc := 1617) dL_law_1617 rfl (fun _ => ?_) (fun h => absurd (O2.2.1.trans O.2.1.symm) h)
  refine kr_iload (pc := 1622) dL_law_1622 rfl ?_
  refine kr_if_ne (pc := 1624) dL_law_1624 rfl (fun _ => ?_) (fun hk => ?_)
  · refine kr_goto (pc := 1646) dL_law_1646 rfl ?_
    exact k _ _ _ J2
  · have hr0 := O.2.1.symm.trans hk
    have hv2 : hiv (hI h1 I') (z + 1913) (0 : Int).toNat = _ := (congrFun (O2.2.2.2 (z + 1913) (Or.inr (Nat.le_refl _))) 0).trans (V hk)
    have eb := O2.2.2.1 hr0
    refine kr_aload_n (pc := 1627) dL_law_1627 rfl ?_
    refine kr_iconst (pc := 1628) dL_law_1628 (by decide) ?_
    refine kr_lald (pc := 1629) dL_law_1629 so2 (by decide) (by decide) hv2 ?_
    refine kr_iload (pc := 1630) dL_law_1630 rfl ?_
    rcases hb' with hb' | hb'
    · refine kr_if_eq (pc := 1632) dL_law_1632 rfl (fun _ => ?_) (fun h => absurd hb' h)
      refine kr_lconst (pc := 1639) dL_law_1639 ?_
      refine kr_lcmp (pc := 1640) dL_law_1640 ?_
      refine kr_if_eq (pc := 1641) dL_law_1641 rfl (fun _ => ?_) (fun h => absurd (by rw [← eb, hb']; decide) h)
      refine kr_goto (pc := 1646) dL_law_1646 rfl ?_
      exact k _ _ _ J2
    · refine kr_if_eq (pc := 1632) dL_law_1632 rfl (fun h => by omega) (fun _ => ?_)
      refine kr_lconst (pc := 1635) dL_law_1635 ?_
      refine kr_goto (pc := 1636) dL_law_1636 rfl ?_
      refine kr_lcmp (pc := 1640) dL_law_1640 ?_
      refine kr_if_eq (pc := 1641) dL_law_1641 rfl (fun _ => ?_) (fun h => absurd (by rw [← eb, hb']; decide) h)
      refine kr_goto (pc := 1646) dL_law_1646 rfl ?_
      exact k _ _ _ J2
theorem lc_edits {tl : List aV} (J : LI z b L xs S c h) (h0 : 0 ≤ i) (h6 : i + 6 ≤ (L : Int)) (k : ∀ h' S' tl', LI z b L xs S' (c + 1) h' → amT mL_law 1797 (vR b :: vR z :: vR (z + 1899) :: vR (z + 1913) :: vI i :: tl') [] h' Q) : amT mL_law 1649 (vR b :: vR z :: vR (z + 1899) :: vR (z + 1913) :: vI i :: tl) [] h Q := by
  obtain ⟨HS, D, M, R, so, sb, hb, hx, hr, hL, n1, n2⟩ := id J
  refine kr_aload_n (pc := 1649) dL_law_1649 rfl ?_
  refine kr_aload_n (pc := 1650) dL_law_1650 rfl ?_
  refine kr_iload (pc := 1651) dL_law_1651 rfl ?_
  refine kr_iconst (pc := 1653) dL_law_1653 (by decide) ?_
  refine kr_iadd (pc := 1654) dL_law_1654 ⟨by omega, by omega⟩ ?_
  refine kr_sald (pc := 1655) dL_law_1655 sb (by omega) (by omega) (hx _) ?_
  refine kr_aload_n (pc := 1656) dL_law_1656 rfl ?_
  refine kr_iload (pc := 1657) dL_law_1657 rfl ?_
  refine kr_iconst (pc := 1659) dL_law_1659 (by decide) ?_
  refine kr_iadd (pc := 1660) dL_law_1660 ⟨by omega, by omega⟩ ?_
  refine kr_sald (pc := 1661) dL_law_1661 sb (by omega) (by omega) (hx _) ?_
  refine kr_aload_n (pc := 1662) dL_law_1662 rfl ?_
  refine kr_s4 (pc := 1663) dL_law_1663 rfl rfl (Nat.le_of_ble_eq_true rfl) rfl rfl rfl rfl (l_edits D HS (by have := (hr (i + 1).toNat).2; omega) (by have := (hr (i + 2).toNat).2; omega) so (fun h1 kk O V => ?_))
  show amT _ _ _ _ _ _
  obtain ⟨M1, R1, so1, sb1, hx1⟩ := J.mid O
  refine kr_istore (pc := 1666) dL_law_1666 (show 5 ≤ _ from by simp) (by decide) ?_
  simp only [stl, List.tail_cons, List.tail_nil]
  refine kr_aload_n (pc := 1668) dL_law_1668 rfl ?_
  refine kr_aload_n (pc := 1669) dL_law_1669 rfl ?_
  refine kr_iload (pc := 1670) dL_law_1670 rfl ?_
  refine kr_iconst (pc := 1672) dL_law_1672 (by decide) ?_
  refine kr_iadd (pc := 1673) dL_law_1673 ⟨by omega, by omega⟩ ?_
  refine kr_sald (pc := 1674) dL_law_1674 sb1 (by omega) (by omega) (hx1 _) ?_
  refine kr_aload_n (pc := 1675) dL_law_1675 rfl ?_
  refine kr_iload (pc := 1676) dL_law_1676 rfl ?_
  refine kr_iconst (pc := 1678) dL_law_1678 (by decide) ?_
  refine kr_iadd (pc := 1679) dL_law_1679 ⟨by omega, by omega⟩ ?_
  refine kr_sald (pc := 1680) dL_law_1680 sb1 (by omega) (by omega) (hx1 _) ?_
  refine kr_v2 (pc := 1681) dL_law_1681 rfl rfl M1.1 (Nat.le_of_ble_eq_true rfl) rfl rfl (mc_edits M1 R1 HS (fun I' b' O2 => ?_))
  show amT _ _ _ _ _ _
  have M2 : MS (hI h1 I') (z + 1899) := M1
  have so2 : hsh (hI h1 I') (z + 1913) = (21, 1) := so1
  have J2 := J.next O O2 (okS_edits HS _ _)
  refine kr_istore (pc := 1684) dL_law_1684 (show 6 ≤ _ from by simp) (by decide) ?_
  simp only [stl, List.tail_cons, List.tail_nil]
  refine kr_aload_n (pc := 1686) dL_law_1686 rfl ?_
  refine kr_v0 (pc := 1687) dL_law_1687 rfl rfl M2.1 (Nat.le_of_ble_eq_true rfl) (m_thrown M2 ?_)
  show amT _ _ _ _ _ _
  refine kr_iload (pc := 1690) dL_law_1690 rfl ?_
  refine kr_icmp_eq (pc := 1692) dL_law_1692 rfl (fun _ => ?_) (fun h => absurd (O2.2.1.trans O.2.1.symm) h)
  refine kr_iload (pc := 1697) dL_law_1697 rfl ?_
  refine kr_if_ne (pc := 1699) dL_law_1699 rfl (fun _ => ?_) (fun hk => ?_)
  · refine kr_goto (pc := 1714) dL_law_1714 rfl ?_
    exact k _ _ _ J2
  · have hr0 := O.2.1.symm.trans hk
    have hv2 : hiv (hI h1 I') (z + 1913) (0 : Int).toNat = _ := (congrFun (O2.2.2.2 (z + 1913) (Or.inr (Nat.le_refl _))) 0).trans (V hk)
    have eb := O2.2.2.1 hr0
    refine kr_aload_n (pc := 1702) dL_law_1702 rfl ?_
    refine kr_iconst (pc := 1703) dL_law_1703 (by decide) ?_
    refine kr_lald (pc := 1704) dL_law_1704 so2 (by decide) (by decide) hv2 ?_
    refine kr_iload (pc := 1705) dL_law_1705 rfl ?_
    refine kr_i2l (pc := 1707) dL_law_1707 ?_
    refine kr_lcmp (pc := 1708) dL_law_1708 ?_
    refine kr_if_eq (pc := 1709) dL_law_1709 rfl (fun _ => ?_) (fun h => absurd (by rw [eb]; exact lc_0) h)
    refine kr_goto (pc := 1714) dL_law_1714 rfl ?_
    exact k _ _ _ J2
theorem lc_editAt {tl : List aV} (J : LI z b L xs S c h) (h0 : 0 ≤ i) (h6 : i + 6 ≤ (L : Int)) (k : ∀ h' S' tl', LI z b L xs S' (c + 1) h' → amT mL_law 1797 (vR b :: vR z :: vR (z + 1899) :: vR (z + 1913) :: vI i :: tl') [] h' Q) : amT mL_law 1717 (vR b :: vR z :: vR (z + 1899) :: vR (z + 1913) :: vI i :: tl) [] h Q := by
  obtain ⟨HS, D, M, R, so, sb, hb, hx, hr, hL, n1, n2⟩ := id J
  refine kr_aload_n (pc := 1717) dL_law_1717 rfl ?_
  refine kr_aload_n (pc := 1718) dL_law_1718 rfl ?_
  refine kr_iload (pc := 1719) dL_law_1719 rfl ?_
  refine kr_iconst (pc := 1721) dL_law_1721 (by decide) ?_
  refine kr_iadd (pc := 1722) dL_law_1722 ⟨by omega, by omega⟩ ?_
  refine kr_sald (pc := 1723) dL_law_1723 sb (by omega) (by omega) (hx _) ?_
  refine kr_aload_n (pc := 1724) dL_law_1724 rfl ?_
  refine kr_iload (pc := 1725) dL_law_1725 rfl ?_
  refine kr_iconst (pc := 1727) dL_law_1727 (by decide) ?_
  refine kr_iadd (pc := 1728) dL_law_1728 ⟨by omega, by omega⟩ ?_
  refine kr_sald (pc := 1729) dL_law_1729 sb (by omega) (by omega) (hx _) ?_
  refine kr_aload_n (pc := 1730) dL_law_1730 rfl ?_
  refine kr_iload (pc := 1731) dL_law_1731 rfl ?_
  refine kr_iconst (pc := 1733) dL_law_1733 (by decide) ?_
  refine kr_iadd (pc := 1734) dL_law_1734 ⟨by omega, by omega⟩ ?_
  refine kr_sald (pc := 1735) dL_law_1735 sb (by omega) (by omega) (hx _) ?_
  refine kr_aload_n (pc := 1736) dL_law_1736 rfl ?_
  refine kr_s5 (pc := 1737) dL_law_1737 rfl rfl (Nat.le_of_ble_eq_true rfl) rfl rfl rfl rfl rfl (l_editAt D HS (by have := (hr (i + 1).toNat).2; omega) (by have := (hr (i + 2).toNat).2; omega) so (fun h1 kk O V => ?_))
  show amT _ _ _ _ _ _
  obtain ⟨M1, R1, so1, sb1, hx1⟩ := J.mid O
  refine kr_istore (pc := 1740) dL_law_1740 (show 5 ≤ _ from by simp) (by decide) ?_
  simp only [stl, List.tail_cons, List.tail_nil]
  refine kr_aload_n (pc := 1742) dL_law_1742 rfl ?_
  refine kr_aload_n (pc := 1743) dL_law_1743 rfl ?_
  refine kr_iload (pc := 1744) dL_law_1744 rfl ?_
  refine kr_iconst (pc := 1746) dL_law_1746 (by decide) ?_
  refine kr_iadd (pc := 1747) dL_law_1747 ⟨by omega, by omega⟩ ?_
  refine kr_sald (pc := 1748) dL_law_1748 sb1 (by omega) (by omega) (hx1 _) ?_
  refine kr_aload_n (pc := 1749) dL_law_1749 rfl ?_
  refine kr_iload (pc := 1750) dL_law_1750 rfl ?_
  refine kr_iconst (pc := 1752) dL_law_1752 (by decide) ?_
  refine kr_iadd (pc := 1753) dL_law_1753 ⟨by omega, by omega⟩ ?_
  refine kr_sald (pc := 1754) dL_law_1754 sb1 (by omega) (by omega) (hx1 _) ?_
  refine kr_aload_n (pc := 1755) dL_law_1755 rfl ?_
  refine kr_iload (pc := 1756) dL_law_1756 rfl ?_
  refine kr_iconst (pc := 1758) dL_law_1758 (by decide) ?_
  refine kr_iadd (pc := 1759) dL_law_1759 ⟨by omega, by omega⟩ ?_
  refine kr_sald (pc := 1760) dL_law_1760 sb1 (by omega) (by omega) (hx1 _) ?_
  refine kr_v3 (pc := 1761) dL_law_1761 rfl rfl M1.1 (Nat.le_of_ble_eq_true rfl) rfl rfl rfl (mc_editAt M1 R1 HS (fun I' b' O2 => ?_))
  show amT _ _ _ _ _ _
  have M2 : MS (hI h1 I') (z + 1899) := M1
  have so2 : hsh (hI h1 I') (z + 1913) = (21, 1) := so1
  have J2 := J.next O O2 (okS_editAt HS _ _ _)
  refine kr_istore (pc := 1764) dL_law_1764 (show 6 ≤ _ from by simp) (by decide) ?_
  simp only [stl, List.tail_cons, List.tail_nil]
  refine kr_aload_n (pc := 1766) dL_law_1766 rfl ?_
  refine kr_v0 (pc := 1767) dL_law_1767 rfl rfl M2.1 (Nat.le_of_ble_eq_true rfl) (m_thrown M2 ?_)
  show amT _ _ _ _ _ _
  refine kr_iload (pc := 1770) dL_law_1770 rfl ?_
  refine kr_icmp_eq (pc := 1772) dL_law_1772 rfl (fun _ => ?_) (fun h => absurd (O2.2.1.trans O.2.1.symm) h)
  refine kr_iload (pc := 1777) dL_law_1777 rfl ?_
  refine kr_if_ne (pc := 1779) dL_law_1779 rfl (fun _ => ?_) (fun hk => ?_)
  · refine kr_goto (pc := 1794) dL_law_1794 rfl ?_
    exact k _ _ _ J2
  · have hr0 := O.2.1.symm.trans hk
    have hv2 : hiv (hI h1 I') (z + 1913) (0 : Int).toNat = _ := (congrFun (O2.2.2.2 (z + 1913) (Or.inr (Nat.le_refl _))) 0).trans (V hk)
    have eb := O2.2.2.1 hr0
    refine kr_aload_n (pc := 1782) dL_law_1782 rfl ?_
    refine kr_iconst (pc := 1783) dL_law_1783 (by decide) ?_
    refine kr_lald (pc := 1784) dL_law_1784 so2 (by decide) (by decide) hv2 ?_
    refine kr_iload (pc := 1785) dL_law_1785 rfl ?_
    refine kr_i2l (pc := 1787) dL_law_1787 ?_
    refine kr_lcmp (pc := 1788) dL_law_1788 ?_
    refine kr_if_eq (pc := 1789) dL_law_1789 rfl (fun _ => ?_) (fun h => absurd (by rw [eb]; exact lc_0) h)
    refine kr_goto (pc := 1794) dL_law_1794 rfl ?_
    exact k _ _ _ J2
end XT
