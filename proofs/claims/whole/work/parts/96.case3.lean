/-! LEVEL 3: more cases of the law -/
theorem lc_cheapest {X : lwX} {k : Nat} {A : ruA} (hK : lwK X) (hk : k + 6 ≤ lwL X) (hI : Inv wyW A) (next : ∀ A2, Inv wyW A2 → lwJ X 1745 (iN k) [] A2) : lwJ X 1435 (iN k) [] A := by
  obtain ⟨r, A1, A2, h1, h2, h3⟩ := op_cheapest hI (lwx X (k + 1)) (lwx X (k + 2))
  refine lj_obj1 hK dL_1435 ?_
  refine lj_arg (j := 1) hK hk (by decide) rfl dL_1436 dL_1437 dL_1438 dL_1439 dL_1440 ?_
  refine lj_arg (j := 2) hK hk (by decide) rfl dL_1441 dL_1442 dL_1443 dL_1444 dL_1445 ?_
  refine lj_call (M2 := mmX10_cheapest) (as := [.int (lwx X (k + 1)), .int (lwx X (k + 2))]) (st := []) (k := 0) hK dL_1446 rfl cvL_151 rfl (show 200 ≤ 1000 by decide) (Nat.le_of_ble_eq_true rfl) (wX10_cheapest 200 (by decide) (lwx X (k + 1)) (lwx X (k + 2)) A h1) ?_
  intro rr AA hq
  rw [hq.1, hq.2]
  refine lj_obj2 hK dL_1449 ?_
  refine lj_arg (j := 1) hK hk (by decide) rfl dL_1450 dL_1451 dL_1452 dL_1453 dL_1454 ?_
  refine lj_arg (j := 2) hK hk (by decide) rfl dL_1455 dL_1456 dL_1457 dL_1458 dL_1459 ?_
  refine lj_call (M2 := mmX11_cheapest) (as := [.int (lwx X (k + 1)), .int (lwx X (k + 2))]) (st := [.int r]) (k := 83) hK dL_1460 rfl cvL_154 rfl (show 200 ≤ 1000 by decide) (Nat.le_of_ble_eq_true rfl) (wX11_cheapest 200 (by decide) (lwx X (k + 1)) (lwx X (k + 2)) A1 h2) ?_
  intro rr AA hq
  rw [hq.1, hq.2]
  exact lj_cmp hK dL_1463 (by decide) (next _ h3)
theorem lc_slip {X : lwX} {k : Nat} {A : ruA} (hK : lwK X) (hk : k + 6 ≤ lwL X) (hI : Inv wyW A) (next : ∀ A2, Inv wyW A2 → lwJ X 1745 (iN k) [] A2) : lwJ X 1468 (iN k) [] A := by
  obtain ⟨r, A1, A2, h1, h2, h3⟩ := op_slip hI (lwx X (k + 1)) (lwx X (k + 2)) (lwx X (k + 3))
  refine lj_obj1 hK dL_1468 ?_
  refine lj_arg (j := 1) hK hk (by decide) rfl dL_1469 dL_1470 dL_1471 dL_1472 dL_1473 ?_
  refine lj_arg (j := 2) hK hk (by decide) rfl dL_1474 dL_1475 dL_1476 dL_1477 dL_1478 ?_
  refine lj_arg (j := 3) hK hk (by decide) rfl dL_1479 dL_1480 dL_1481 dL_1482 dL_1483 ?_
  refine lj_call (M2 := mmX10_slip) (as := [.int (lwx X (k + 1)), .int (lwx X (k + 2)), .int (lwx X (k + 3))]) (st := []) (k := 0) hK dL_1484 rfl cvL_155 rfl (show 200 ≤ 1000 by decide) (Nat.le_of_ble_eq_true rfl) (wX10_slip 200 (by decide) (lwx X (k + 1)) (lwx X (k + 2)) (lwx X (k + 3)) A h1) ?_
  intro rr AA hq
  rw [hq.1, hq.2]
  refine lj_obj2 hK dL_1487 ?_
  refine lj_arg (j := 1) hK hk (by decide) rfl dL_1488 dL_1489 dL_1490 dL_1491 dL_1492 ?_
  refine lj_arg (j := 2) hK hk (by decide) rfl dL_1493 dL_1494 dL_1495 dL_1496 dL_1497 ?_
  refine lj_arg (j := 3) hK hk (by decide) rfl dL_1498 dL_1499 dL_1500 dL_1501 dL_1502 ?_
  refine lj_call (M2 := mmX11_slip) (as := [.int (lwx X (k + 1)), .int (lwx X (k + 2)), .int (lwx X (k + 3))]) (st := [.int r]) (k := 83) hK dL_1503 rfl cvL_158 rfl (show 200 ≤ 1000 by decide) (Nat.le_of_ble_eq_true rfl) (wX11_slip 200 (by decide) (lwx X (k + 1)) (lwx X (k + 2)) (lwx X (k + 3)) A1 h2) ?_
  intro rr AA hq
  rw [hq.1, hq.2]
  exact lj_cmp hK dL_1506 (by decide) (next _ h3)
theorem lc_write {X : lwX} {k : Nat} {A : ruA} (hK : lwK X) (hk : k + 6 ≤ lwL X) (hI : Inv wyW A) (next : ∀ A2, Inv wyW A2 → lwJ X 1745 (iN k) [] A2) : lwJ X 1511 (iN k) [] A := by
  obtain ⟨r, A1, A2, h1, h2, h3⟩ := op_write hI (lwx X (k + 1)) (lwx X (k + 2)) (lwx X (k + 3))
  refine lj_obj1 hK dL_1511 ?_
  refine lj_arg (j := 1) hK hk (by decide) rfl dL_1512 dL_1513 dL_1514 dL_1515 dL_1516 ?_
  refine lj_arg (j := 2) hK hk (by decide) rfl dL_1517 dL_1518 dL_1519 dL_1520 dL_1521 ?_
  refine lj_arg (j := 3) hK hk (by decide) rfl dL_1522 dL_1523 dL_1524 dL_1525 dL_1526 ?_
  refine lj_call (M2 := mmX10_write) (as := [.int (lwx X (k + 1)), .int (lwx X (k + 2)), .int (lwx X (k + 3))]) (st := []) (k := 0) hK dL_1527 rfl cvL_159 rfl (show 200 ≤ 1000 by decide) (Nat.le_of_ble_eq_true rfl) (wX10_write 200 (by decide) (lwx X (k + 1)) (lwx X (k + 2)) (lwx X (k + 3)) A h1) ?_
  intro rr AA hq
  rw [hq.1, hq.2]
  refine lj_obj2 hK dL_1530 ?_
  refine lj_arg (j := 1) hK hk (by decide) rfl dL_1531 dL_1532 dL_1533 dL_1534 dL_1535 ?_
  refine lj_arg (j := 2) hK hk (by decide) rfl dL_1536 dL_1537 dL_1538 dL_1539 dL_1540 ?_
  refine lj_arg (j := 3) hK hk (by decide) rfl dL_1541 dL_1542 dL_1543 dL_1544 dL_1545 ?_
  refine lj_call (M2 := mmX11_write) (as := [.int (lwx X (k + 1)), .int (lwx X (k + 2)), .int (lwx X (k + 3))]) (st := [.int r]) (k := 83) hK dL_1546 rfl cvL_162 rfl (show 200 ≤ 1000 by decide) (Nat.le_of_ble_eq_true rfl) (wX11_write 200 (by decide) (lwx X (k + 1)) (lwx X (k + 2)) (lwx X (k + 3)) A1 h2) ?_
  intro rr AA hq
  rw [hq.1, hq.2]
  exact lj_cmp hK dL_1549 (by decide) (next _ h3)
theorem lc_copy {X : lwX} {k : Nat} {A : ruA} (hK : lwK X) (hk : k + 6 ≤ lwL X) (hI : Inv wyW A) (next : ∀ A2, Inv wyW A2 → lwJ X 1745 (iN k) [] A2) : lwJ X 1554 (iN k) [] A := by
  obtain ⟨r, A1, A2, h1, h2, h3⟩ := op_copy hI (lwx X (k + 1)) (lwx X (k + 2)) (lwx X (k + 3)) (lwx X (k + 4)) (lwx X (k + 5))
  refine lj_obj1 hK dL_1554 ?_
  refine lj_arg (j := 1) hK hk (by decide) rfl dL_1555 dL_1556 dL_1557 dL_1558 dL_1559 ?_
  refine lj_arg (j := 2) hK hk (by decide) rfl dL_1560 dL_1561 dL_1562 dL_1563 dL_1564 ?_
  refine lj_arg (j := 3) hK hk (by decide) rfl dL_1565 dL_1566 dL_1567 dL_1568 dL_1569 ?_
  refine lj_arg (j := 4) hK hk (by decide) rfl dL_1570 dL_1571 dL_1572 dL_1573 dL_1574 ?_
  refine lj_arg (j := 5) hK hk (by decide) rfl dL_1575 dL_1576 dL_1577 dL_1578 dL_1579 ?_
  refine lj_call (M2 := mmX10_copy) (as := [.int (lwx X (k + 1)), .int (lwx X (k + 2)), .int (lwx X (k + 3)), .int (lwx X (k + 4)), .int (lwx X (k + 5))]) (st := []) (k := 0) hK dL_1580 rfl cvL_163 rfl (show 200 ≤ 1000 by decide) (Nat.le_of_ble_eq_true rfl) (wX10_copy 200 (by decide) (lwx X (k + 1)) (lwx X (k + 2)) (lwx X (k + 3)) (lwx X (k + 4)) (lwx X (k + 5)) A h1) ?_
  intro rr AA hq
  rw [hq.1, hq.2]
  refine lj_obj2 hK dL_1583 ?_
  refine lj_arg (j := 1) hK hk (by decide) rfl dL_1584 dL_1585 dL_1586 dL_1587 dL_1588 ?_
  refine lj_arg (j := 2) hK hk (by decide) rfl dL_1589 dL_1590 dL_1591 dL_1592 dL_1593 ?_
  refine lj_arg (j := 3) hK hk (by decide) rfl dL_1594 dL_1595 dL_1596 dL_1597 dL_1598 ?_
  refine lj_arg (j := 4) hK hk (by decide) rfl dL_1599 dL_1600 dL_1601 dL_1602 dL_1603 ?_
  refine lj_arg (j := 5) hK hk (by decide) rfl dL_1604 dL_1605 dL_1606 dL_1607 dL_1608 ?_
  refine lj_call (M2 := mmX11_copy) (as := [.int (lwx X (k + 1)), .int (lwx X (k + 2)), .int (lwx X (k + 3)), .int (lwx X (k + 4)), .int (lwx X (k + 5))]) (st := [.int r]) (k := 83) hK dL_1609 rfl cvL_167 rfl (show 200 ≤ 1000 by decide) (Nat.le_of_ble_eq_true rfl) (wX11_copy 200 (by decide) (lwx X (k + 1)) (lwx X (k + 2)) (lwx X (k + 3)) (lwx X (k + 4)) (lwx X (k + 5)) A1 h2) ?_
  intro rr AA hq
  rw [hq.1, hq.2]
  exact lj_cmp hK dL_1612 (by decide) (next _ h3)
theorem lc_check {X : lwX} {k : Nat} {A : ruA} (hK : lwK X) (hk : k + 6 ≤ lwL X) (hI : Inv wyW A) (next : ∀ A2, Inv wyW A2 → lwJ X 1745 (iN k) [] A2) : lwJ X 1617 (iN k) [] A := by
  obtain ⟨r, A1, A2, h1, h2, h3⟩ := op_check hI (lwx X (k + 1)) (lwx X (k + 2)) (lwx X (k + 3))
  refine lj_obj1 hK dL_1617 ?_
  refine lj_arg (j := 1) hK hk (by decide) rfl dL_1618 dL_1619 dL_1620 dL_1621 dL_1622 ?_
  refine lj_arg (j := 2) hK hk (by decide) rfl dL_1623 dL_1624 dL_1625 dL_1626 dL_1627 ?_
  refine lj_arg (j := 3) hK hk (by decide) rfl dL_1628 dL_1629 dL_1630 dL_1631 dL_1632 ?_
  refine lj_call (M2 := mmX10_check) (as := [.int (lwx X (k + 1)), .int (lwx X (k + 2)), .int (lwx X (k + 3))]) (st := []) (k := 0) hK dL_1633 rfl cvL_168 rfl (show 200 ≤ 1000 by decide) (Nat.le_of_ble_eq_true rfl) (wX10_check 200 (by decide) (lwx X (k + 1)) (lwx X (k + 2)) (lwx X (k + 3)) A h1) ?_
  intro rr AA hq
  rw [hq.1, hq.2]
  refine lj_obj2 hK dL_1636 ?_
  refine lj_arg (j := 1) hK hk (by decide) rfl dL_1637 dL_1638 dL_1639 dL_1640 dL_1641 ?_
  refine lj_arg (j := 2) hK hk (by decide) rfl dL_1642 dL_1643 dL_1644 dL_1645 dL_1646 ?_
  refine lj_arg (j := 3) hK hk (by decide) rfl dL_1647 dL_1648 dL_1649 dL_1650 dL_1651 ?_
  refine lj_call (M2 := mmX11_check) (as := [.int (lwx X (k + 1)), .int (lwx X (k + 2)), .int (lwx X (k + 3))]) (st := [.int r]) (k := 83) hK dL_1652 rfl cvL_171 rfl (show 200 ≤ 1000 by decide) (Nat.le_of_ble_eq_true rfl) (wX11_check 200 (by decide) (lwx X (k + 1)) (lwx X (k + 2)) (lwx X (k + 3)) A1 h2) ?_
  intro rr AA hq
  rw [hq.1, hq.2]
  exact lj_cmp hK dL_1655 (by decide) (next _ h3)
theorem lc_image {X : lwX} {k : Nat} {A : ruA} (hK : lwK X) (hk : k + 6 ≤ lwL X) (hI : Inv wyW A) (next : ∀ A2, Inv wyW A2 → lwJ X 1745 (iN k) [] A2) : lwJ X 1660 (iN k) [] A := by
  obtain ⟨r, A1, A2, h1, h2, h3⟩ := op_image hI 
  refine lj_obj1 hK dL_1660 ?_
  refine lj_call (M2 := mmX10_image) (as := []) (st := []) (k := 0) hK dL_1661 rfl cvL_172 rfl (show 200 ≤ 1000 by decide) (Nat.le_of_ble_eq_true rfl) (wX10_image 200 (by decide) A h1) ?_
  intro rr AA hq
  rw [hq.1, hq.2]
  refine lj_obj2 hK dL_1664 ?_
  refine lj_call (M2 := mmX11_image) (as := []) (st := [.int r]) (k := 83) hK dL_1665 rfl cvL_175 rfl (show 200 ≤ 1000 by decide) (Nat.le_of_ble_eq_true rfl) (wX11_image 200 (by decide) A1 h2) ?_
  intro rr AA hq
  rw [hq.1, hq.2]
  exact lj_cmp hK dL_1668 (by decide) (next _ h3)
theorem lc_undo {X : lwX} {k : Nat} {A : ruA} (hK : lwK X) (hk : k + 6 ≤ lwL X) (hI : Inv wyW A) (next : ∀ A2, Inv wyW A2 → lwJ X 1745 (iN k) [] A2) : lwJ X 1673 (iN k) [] A := by
  obtain ⟨r, A1, A2, h1, h2, h3⟩ := op_undo hI 
  refine lj_obj1 hK dL_1673 ?_
  refine lj_call (M2 := mmX10_undo) (as := []) (st := []) (k := 0) hK dL_1674 rfl cvL_176 rfl (show 200 ≤ 1000 by decide) (Nat.le_of_ble_eq_true rfl) (wX10_undo 200 (by decide) A h1) ?_
  intro rr AA hq
  rw [hq.1, hq.2]
  refine lj_obj2 hK dL_1677 ?_
  refine lj_call (M2 := mmX11_undo) (as := []) (st := [.int r]) (k := 83) hK dL_1678 rfl cvL_179 rfl (show 200 ≤ 1000 by decide) (Nat.le_of_ble_eq_true rfl) (wX11_undo 200 (by decide) A1 h2) ?_
  intro rr AA hq
  rw [hq.1, hq.2]
  exact lj_cmp hK dL_1681 (by decide) (next _ h3)
theorem lc_tear {X : lwX} {k : Nat} {A : ruA} (hK : lwK X) (hk : k + 6 ≤ lwL X) (hI : Inv wyW A) (next : ∀ A2, Inv wyW A2 → lwJ X 1745 (iN k) [] A2) : lwJ X 1686 (iN k) [] A := by
  obtain ⟨r, A1, A2, h1, h2, h3⟩ := op_tear hI 
  refine lj_obj1 hK dL_1686 ?_
  refine lj_call (M2 := mmX10_tear) (as := []) (st := []) (k := 0) hK dL_1687 rfl cvL_180 rfl (show 200 ≤ 1000 by decide) (Nat.le_of_ble_eq_true rfl) (wX10_tear 200 (by decide) A h1) ?_
  intro rr AA hq
  rw [hq.1, hq.2]
  refine lj_obj2 hK dL_1690 ?_
  refine lj_call (M2 := mmX11_tear) (as := []) (st := [.int r]) (k := 83) hK dL_1691 rfl cvL_183 rfl (show 200 ≤ 1000 by decide) (Nat.le_of_ble_eq_true rfl) (wX11_tear 200 (by decide) A1 h2) ?_
  intro rr AA hq
  rw [hq.1, hq.2]
  exact lj_cmp hK dL_1694 (by decide) (next _ h3)
theorem lc_count {X : lwX} {k : Nat} {A : ruA} (hK : lwK X) (hk : k + 6 ≤ lwL X) (hI : Inv wyW A) (next : ∀ A2, Inv wyW A2 → lwJ X 1745 (iN k) [] A2) : lwJ X 1699 (iN k) [] A := by
  obtain ⟨r, A1, A2, h1, h2, h3⟩ := op_count hI (lwx X (k + 1))
  refine lj_obj1 hK dL_1699 ?_
  refine lj_arg (j := 1) hK hk (by decide) rfl dL_1700 dL_1701 dL_1702 dL_1703 dL_1704 ?_
  refine lj_call (M2 := mmX10_count) (as := [.int (lwx X (k + 1))]) (st := []) (k := 0) hK dL_1705 rfl cvL_184 rfl (show 200 ≤ 1000 by decide) (Nat.le_of_ble_eq_true rfl) (wX10_count 200 (by decide) (lwx X (k + 1)) A h1) ?_
  intro rr AA hq
  rw [hq.1, hq.2]
  refine lj_obj2 hK dL_1708 ?_
  refine lj_arg (j := 1) hK hk (by decide) rfl dL_1709 dL_1710 dL_1711 dL_1712 dL_1713 ?_
  refine lj_call (M2 := mmX11_count) (as := [.int (lwx X (k + 1))]) (st := [.int r]) (k := 83) hK dL_1714 rfl cvL_187 rfl (show 200 ≤ 1000 by decide) (Nat.le_of_ble_eq_true rfl) (wX11_count 200 (by decide) (lwx X (k + 1)) A1 h2) ?_
  intro rr AA hq
  rw [hq.1, hq.2]
  exact lj_cmp hK dL_1717 (by decide) (next _ h3)
theorem lc_status {X : lwX} {k : Nat} {A : ruA} (hK : lwK X) (hk : k + 6 ≤ lwL X) (hI : Inv wyW A) (next : ∀ A2, Inv wyW A2 → lwJ X 1745 (iN k) [] A2) : lwJ X 1722 (iN k) [] A := by
  obtain ⟨r, A1, A2, h1, h2, h3⟩ := op_status hI (lwx X (k + 1))
  refine lj_obj1 hK dL_1722 ?_
  refine lj_arg (j := 1) hK hk (by decide) rfl dL_1723 dL_1724 dL_1725 dL_1726 dL_1727 ?_
  refine lj_call (M2 := mmX10_status) (as := [.int (lwx X (k + 1))]) (st := []) (k := 0) hK dL_1728 rfl cvL_188 rfl (show 200 ≤ 1000 by decide) (Nat.le_of_ble_eq_true rfl) (wX10_status 200 (by decide) (lwx X (k + 1)) A h1) ?_
  intro rr AA hq
  rw [hq.1, hq.2]
  refine lj_obj2 hK dL_1731 ?_
  refine lj_arg (j := 1) hK hk (by decide) rfl dL_1732 dL_1733 dL_1734 dL_1735 dL_1736 ?_
  refine lj_call (M2 := mmX11_status) (as := [.int (lwx X (k + 1))]) (st := [.int r]) (k := 83) hK dL_1737 rfl cvL_191 rfl (show 200 ≤ 1000 by decide) (Nat.le_of_ble_eq_true rfl) (wX11_status 200 (by decide) (lwx X (k + 1)) A1 h2) ?_
  intro rr AA hq
  rw [hq.1, hq.2]
  exact lj_cmp hK dL_1740 (by decide) (next _ h3)
