set_option maxRecDepth 16000 in
theorem w_L_law_1500 (S : xS) (x1 : Nat) (x2 : Nat) (x3 : Nat) (x4 : Int32) (h : xH) : xle ((xRs S (x4 + (1 : Int32))).bind fun v1 => xqI (xM S mL_type [.ref x1, .int v1, .ref x3] h) xth fun v3 h2 => (xRs S (x4 + (1 : Int32))).bind fun v4 => if xOb h2 x2 12 = true then xqI (xM S mX13_type [.ref x2, .int v4] h2) xth fun v7 h6 => if xOb h6 x2 12 = true then xqI (xM S mX13_thrown [.ref x2] h6) xth fun v10 h9 => if v10 = v3 then (if ¬ v3 = 0 then (xden S mL_law 3482 [(0, .retAddr 11), (1, .ref x1), (2, .ref x2), (3, .ref x3), (4, .int x4)] [] h9) else ((xRl h9 x3 (0 : Int32)).bind fun v11 => if (lg_cmp v11 (v7.toInt64)) = 0 then (xden S mL_law 3482 [(0, .retAddr 11), (1, .ref x1), (2, .ref x2), (3, .ref x3), (4, .int x4)] [] h9) else (some (.inl (some (.int (0 : Int32))), h9, 0, 0)))) else (some (.inl (some (.int (0 : Int32))), h9, 0, 0)) else none else none) (xden S mL_law 1500 [(0, .retAddr 11), (1, .ref x1), (2, .ref x2), (3, .ref x3), (4, .int x4)] [] h) := by
  refine l_loc dL_law_1500 rfl rfl ?_
  refine l_loc dL_law_1501 rfl rfl ?_
  refine l_loc dL_law_1502 rfl rfl ?_
  refine l_ic dL_law_1504 kI_1 ?_
  refine l_pure dL_law_1505 rfl rfl ?_
  refine l_rs dL_law_1506 (fun v1 => ?_)
  refine l_loc dL_law_1507 rfl rfl ?_
  refine l_cI dL_law_1508 rfl rfl rfl (l_xs cl_14_252 ko_mL_type rfl rfl) rfl rfl nm_mL_type (xhE_th rfl) (fun v3 h2 => ?_)
  refine l_loc (al1 := [(5, .int v3), (0, .retAddr 11), (1, .ref x1), (2, .ref x2), (3, .ref x3), (4, .int x4)]) dL_law_1511 rfl rfl ?_
  refine l_loc dL_law_1513 rfl rfl ?_
  refine l_loc dL_law_1514 rfl rfl ?_
  refine l_loc dL_law_1515 rfl rfl ?_
  refine l_ic dL_law_1517 kI_1 ?_
  refine l_pure dL_law_1518 rfl rfl ?_
  refine l_rs dL_law_1519 (fun v4 => ?_)
  refine l_ob fun q5 => ?_
  refine l_cI dL_law_1520 rfl rfl rfl (l_xv cl_14_254 ko_mX13_type rfl rfl rfl q5) rfl rfl nm_mX13_type (xhE_th rfl) (fun v7 h6 => ?_)
  refine l_loc (al1 := [(6, .int v7), (5, .int v3), (0, .retAddr 11), (1, .ref x1), (2, .ref x2), (3, .ref x3), (4, .int x4)]) dL_law_1523 rfl rfl ?_
  refine l_loc dL_law_1525 rfl rfl ?_
  refine l_ob fun q8 => ?_
  refine l_cI dL_law_1526 rfl rfl rfl (l_xv cl_14_195 ko_mX13_thrown rfl rfl rfl q8) rfl rfl nm_mX13_thrown (xhE_th rfl) (fun v10 h9 => ?_)
  refine l_loc dL_law_1529 rfl rfl ?_
  refine l_ceq (t := 1536) dL_law_1531 rfl ?_ ?_
  · refine l_loc dL_law_1536 rfl rfl ?_
    refine l_ine (t := 1553) dL_law_1538 rfl ?_ ?_
    · refine l_goto (t := 3482) dL_law_1553 rfl ?_
      exact l_al rfl ⟨rfl, rfl, rfl, rfl, rfl, trivial⟩
    · refine l_loc dL_law_1541 rfl rfl ?_
      refine l_ic dL_law_1542 kI_0 ?_
      refine l_rl dL_law_1543 (fun v11 => ?_)
      refine l_loc dL_law_1544 rfl rfl ?_
      refine l_pure dL_law_1546 rfl rfl ?_
      refine l_pure dL_law_1547 rfl rfl ?_
      refine l_ieq (t := 1553) dL_law_1548 rfl ?_ ?_
      · refine l_goto (t := 3482) dL_law_1553 rfl ?_
        exact l_al rfl ⟨rfl, rfl, rfl, rfl, rfl, trivial⟩
      · refine l_ic dL_law_1551 kI_0 ?_
        exact l_iretn dL_law_1552 rfl (by decide)
  · refine l_ic dL_law_1534 kI_0 ?_
    exact l_iretn dL_law_1535 rfl (by decide)
set_option maxRecDepth 16000 in
theorem w_L_law_1556 (S : xS) (x1 : Nat) (x2 : Nat) (x3 : Nat) (x4 : Int32) (h : xH) : xle (if xOb h x1 11 = true then xqI (xM S mX12_clearText [.ref x1] h) xth fun v3 h2 => if xOb h2 x2 12 = true then xqI (xM S mX13_clearText [.ref x2] h2) xth fun v6 h5 => if v3 = v6 then (xden S mL_law 3482 [(0, .retAddr 11), (1, .ref x1), (2, .ref x2), (3, .ref x3), (4, .int x4)] [] h5) else (some (.inl (some (.int (0 : Int32))), h5, 0, 0)) else none else none) (xden S mL_law 1556 [(0, .retAddr 11), (1, .ref x1), (2, .ref x2), (3, .ref x3), (4, .int x4)] [] h) := by
  refine l_loc dL_law_1556 rfl rfl ?_
  refine l_ob fun q1 => ?_
  refine l_cI dL_law_1557 rfl rfl rfl (l_xv cl_14_255 ko_mX12_clearText rfl rfl rfl q1) rfl rfl nm_mX12_clearText (xhE_th rfl) (fun v3 h2 => ?_)
  refine l_loc dL_law_1560 rfl rfl ?_
  refine l_ob fun q4 => ?_
  refine l_cI dL_law_1561 rfl rfl rfl (l_xv cl_14_258 ko_mX13_clearText rfl rfl rfl q4) rfl rfl nm_mX13_clearText (xhE_th rfl) (fun v6 h5 => ?_)
  refine l_ceq (t := 3482) dL_law_1564 rfl ?_ ?_
  · exact l_al rfl ⟨rfl, rfl, rfl, rfl, rfl, trivial⟩
  · refine l_ic dL_law_1567 kI_0 ?_
    exact l_iretn dL_law_1568 rfl (by decide)
set_option maxRecDepth 16000 in
theorem w_L_law_1569 (S : xS) (x1 : Nat) (x2 : Nat) (x3 : Nat) (x4 : Int32) (h : xH) : xle (if xOb h x1 11 = true then xqI (xM S mX12_configure [.ref x1] h) xth fun v3 h2 => if xOb h2 x2 12 = true then xqI (xM S mX13_configure [.ref x2] h2) xth fun v6 h5 => if v3 = v6 then (xden S mL_law 3482 [(0, .retAddr 11), (1, .ref x1), (2, .ref x2), (3, .ref x3), (4, .int x4)] [] h5) else (some (.inl (some (.int (0 : Int32))), h5, 0, 0)) else none else none) (xden S mL_law 1569 [(0, .retAddr 11), (1, .ref x1), (2, .ref x2), (3, .ref x3), (4, .int x4)] [] h) := by
  refine l_loc dL_law_1569 rfl rfl ?_
  refine l_ob fun q1 => ?_
  refine l_cI dL_law_1570 rfl rfl rfl (l_xv cl_14_259 ko_mX12_configure rfl rfl rfl q1) rfl rfl nm_mX12_configure (xhE_th rfl) (fun v3 h2 => ?_)
  refine l_loc dL_law_1573 rfl rfl ?_
  refine l_ob fun q4 => ?_
  refine l_cI dL_law_1574 rfl rfl rfl (l_xv cl_14_262 ko_mX13_configure rfl rfl rfl q4) rfl rfl nm_mX13_configure (xhE_th rfl) (fun v6 h5 => ?_)
  refine l_ceq (t := 3482) dL_law_1577 rfl ?_ ?_
  · exact l_al rfl ⟨rfl, rfl, rfl, rfl, rfl, trivial⟩
  · refine l_ic dL_law_1580 kI_0 ?_
    exact l_iretn dL_law_1581 rfl (by decide)
set_option maxRecDepth 16000 in
theorem w_L_law_1582 (S : xS) (x1 : Nat) (x2 : Nat) (x3 : Nat) (x4 : Int32) (h : xH) : xle ((xRs S (x4 + (1 : Int32))).bind fun v1 => xqI (xM S mL_setting [.ref x1, .int v1, .ref x3] h) xth fun v3 h2 => (xRs S (x4 + (1 : Int32))).bind fun v4 => if xOb h2 x2 12 = true then xqI (xM S mX13_setting [.ref x2, .int v4] h2) xth fun v7 h6 => if xOb h6 x2 12 = true then xqI (xM S mX13_thrown [.ref x2] h6) xth fun v10 h9 => if v10 = v3 then (if ¬ v3 = 0 then (xden S mL_law 3482 [(0, .retAddr 11), (1, .ref x1), (2, .ref x2), (3, .ref x3), (4, .int x4)] [] h9) else ((xRl h9 x3 (0 : Int32)).bind fun v11 => if (lg_cmp v11 (v7.toInt64)) = 0 then (xden S mL_law 3482 [(0, .retAddr 11), (1, .ref x1), (2, .ref x2), (3, .ref x3), (4, .int x4)] [] h9) else (some (.inl (some (.int (0 : Int32))), h9, 0, 0)))) else (some (.inl (some (.int (0 : Int32))), h9, 0, 0)) else none else none) (xden S mL_law 1582 [(0, .retAddr 11), (1, .ref x1), (2, .ref x2), (3, .ref x3), (4, .int x4)] [] h) := by
  refine l_loc dL_law_1582 rfl rfl ?_
  refine l_loc dL_law_1583 rfl rfl ?_
  refine l_loc dL_law_1584 rfl rfl ?_
  refine l_ic dL_law_1586 kI_1 ?_
  refine l_pure dL_law_1587 rfl rfl ?_
  refine l_rs dL_law_1588 (fun v1 => ?_)
  refine l_loc dL_law_1589 rfl rfl ?_
  refine l_cI dL_law_1590 rfl rfl rfl (l_xs cl_14_263 ko_mL_setting rfl rfl) rfl rfl nm_mL_setting (xhE_th rfl) (fun v3 h2 => ?_)
  refine l_loc (al1 := [(5, .int v3), (0, .retAddr 11), (1, .ref x1), (2, .ref x2), (3, .ref x3), (4, .int x4)]) dL_law_1593 rfl rfl ?_
  refine l_loc dL_law_1595 rfl rfl ?_
  refine l_loc dL_law_1596 rfl rfl ?_
  refine l_loc dL_law_1597 rfl rfl ?_
  refine l_ic dL_law_1599 kI_1 ?_
  refine l_pure dL_law_1600 rfl rfl ?_
  refine l_rs dL_law_1601 (fun v4 => ?_)
  refine l_ob fun q5 => ?_
  refine l_cI dL_law_1602 rfl rfl rfl (l_xv cl_14_265 ko_mX13_setting rfl rfl rfl q5) rfl rfl nm_mX13_setting (xhE_th rfl) (fun v7 h6 => ?_)
  refine l_loc (al1 := [(6, .int v7), (5, .int v3), (0, .retAddr 11), (1, .ref x1), (2, .ref x2), (3, .ref x3), (4, .int x4)]) dL_law_1605 rfl rfl ?_
  refine l_loc dL_law_1607 rfl rfl ?_
  refine l_ob fun q8 => ?_
  refine l_cI dL_law_1608 rfl rfl rfl (l_xv cl_14_195 ko_mX13_thrown rfl rfl rfl q8) rfl rfl nm_mX13_thrown (xhE_th rfl) (fun v10 h9 => ?_)
  refine l_loc dL_law_1611 rfl rfl ?_
  refine l_ceq (t := 1618) dL_law_1613 rfl ?_ ?_
  · refine l_loc dL_law_1618 rfl rfl ?_
    refine l_ine (t := 1635) dL_law_1620 rfl ?_ ?_
    · refine l_goto (t := 3482) dL_law_1635 rfl ?_
      exact l_al rfl ⟨rfl, rfl, rfl, rfl, rfl, trivial⟩
    · refine l_loc dL_law_1623 rfl rfl ?_
      refine l_ic dL_law_1624 kI_0 ?_
      refine l_rl dL_law_1625 (fun v11 => ?_)
      refine l_loc dL_law_1626 rfl rfl ?_
      refine l_pure dL_law_1628 rfl rfl ?_
      refine l_pure dL_law_1629 rfl rfl ?_
      refine l_ieq (t := 1635) dL_law_1630 rfl ?_ ?_
      · refine l_goto (t := 3482) dL_law_1635 rfl ?_
        exact l_al rfl ⟨rfl, rfl, rfl, rfl, rfl, trivial⟩
      · refine l_ic dL_law_1633 kI_0 ?_
        exact l_iretn dL_law_1634 rfl (by decide)
  · refine l_ic dL_law_1616 kI_0 ?_
    exact l_iretn dL_law_1617 rfl (by decide)
set_option maxRecDepth 16000 in
theorem w_L_law_1638 (S : xS) (x1 : Nat) (x2 : Nat) (x3 : Nat) (x4 : Int32) (h : xH) : xle ((xRs S (x4 + (1 : Int32))).bind fun v1 => xqI (xM S mL_configChar [.ref x1, .int v1, .ref x3] h) xth fun v3 h2 => (xRs S (x4 + (1 : Int32))).bind fun v4 => if xOb h2 x2 12 = true then xqI (xM S mX13_configChar [.ref x2, .int v4] h2) xth fun v7 h6 => if xOb h6 x2 12 = true then xqI (xM S mX13_thrown [.ref x2] h6) xth fun v10 h9 => if v10 = v3 then (if ¬ v3 = 0 then (xden S mL_law 3482 [(0, .retAddr 11), (1, .ref x1), (2, .ref x2), (3, .ref x3), (4, .int x4)] [] h9) else ((xRl h9 x3 (0 : Int32)).bind fun v11 => if (lg_cmp v11 (v7.toInt64)) = 0 then (xden S mL_law 3482 [(0, .retAddr 11), (1, .ref x1), (2, .ref x2), (3, .ref x3), (4, .int x4)] [] h9) else (some (.inl (some (.int (0 : Int32))), h9, 0, 0)))) else (some (.inl (some (.int (0 : Int32))), h9, 0, 0)) else none else none) (xden S mL_law 1638 [(0, .retAddr 11), (1, .ref x1), (2, .ref x2), (3, .ref x3), (4, .int x4)] [] h) := by
  refine l_loc dL_law_1638 rfl rfl ?_
  refine l_loc dL_law_1639 rfl rfl ?_
  refine l_loc dL_law_1640 rfl rfl ?_
  refine l_ic dL_law_1642 kI_1 ?_
  refine l_pure dL_law_1643 rfl rfl ?_
  refine l_rs dL_law_1644 (fun v1 => ?_)
  refine l_loc dL_law_1645 rfl rfl ?_
  refine l_cI dL_law_1646 rfl rfl rfl (l_xs cl_14_266 ko_mL_configChar rfl rfl) rfl rfl nm_mL_configChar (xhE_th rfl) (fun v3 h2 => ?_)
  refine l_loc (al1 := [(5, .int v3), (0, .retAddr 11), (1, .ref x1), (2, .ref x2), (3, .ref x3), (4, .int x4)]) dL_law_1649 rfl rfl ?_
  refine l_loc dL_law_1651 rfl rfl ?_
  refine l_loc dL_law_1652 rfl rfl ?_
  refine l_loc dL_law_1653 rfl rfl ?_
  refine l_ic dL_law_1655 kI_1 ?_
  refine l_pure dL_law_1656 rfl rfl ?_
  refine l_rs dL_law_1657 (fun v4 => ?_)
  refine l_ob fun q5 => ?_
  refine l_cI dL_law_1658 rfl rfl rfl (l_xv cl_14_268 ko_mX13_configChar rfl rfl rfl q5) rfl rfl nm_mX13_configChar (xhE_th rfl) (fun v7 h6 => ?_)
  refine l_loc (al1 := [(6, .int v7), (5, .int v3), (0, .retAddr 11), (1, .ref x1), (2, .ref x2), (3, .ref x3), (4, .int x4)]) dL_law_1661 rfl rfl ?_
  refine l_loc dL_law_1663 rfl rfl ?_
  refine l_ob fun q8 => ?_
  refine l_cI dL_law_1664 rfl rfl rfl (l_xv cl_14_195 ko_mX13_thrown rfl rfl rfl q8) rfl rfl nm_mX13_thrown (xhE_th rfl) (fun v10 h9 => ?_)
  refine l_loc dL_law_1667 rfl rfl ?_
  refine l_ceq (t := 1674) dL_law_1669 rfl ?_ ?_
  · refine l_loc dL_law_1674 rfl rfl ?_
    refine l_ine (t := 1691) dL_law_1676 rfl ?_ ?_
    · refine l_goto (t := 3482) dL_law_1691 rfl ?_
      exact l_al rfl ⟨rfl, rfl, rfl, rfl, rfl, trivial⟩
    · refine l_loc dL_law_1679 rfl rfl ?_
      refine l_ic dL_law_1680 kI_0 ?_
      refine l_rl dL_law_1681 (fun v11 => ?_)
      refine l_loc dL_law_1682 rfl rfl ?_
      refine l_pure dL_law_1684 rfl rfl ?_
      refine l_pure dL_law_1685 rfl rfl ?_
      refine l_ieq (t := 1691) dL_law_1686 rfl ?_ ?_
      · refine l_goto (t := 3482) dL_law_1691 rfl ?_
        exact l_al rfl ⟨rfl, rfl, rfl, rfl, rfl, trivial⟩
      · refine l_ic dL_law_1689 kI_0 ?_
        exact l_iretn dL_law_1690 rfl (by decide)
  · refine l_ic dL_law_1672 kI_0 ?_
    exact l_iretn dL_law_1673 rfl (by decide)
set_option maxRecDepth 16000 in
theorem w_L_law_1694 (S : xS) (x1 : Nat) (x2 : Nat) (x3 : Nat) (x4 : Int32) (h : xH) : xle ((xRs S (x4 + (1 : Int32))).bind fun v1 => (xRs S (x4 + (2 : Int32))).bind fun v2 => (xRs S (x4 + (3 : Int32))).bind fun v3 => (xRs S (x4 + (4 : Int32))).bind fun v4 => xqI (xM S mL_addMask [.ref x1, .int v1, .int v2, .int v3, .int v4, .ref x3] h) xth fun v6 h5 => (xRs S (x4 + (1 : Int32))).bind fun v7 => (xRs S (x4 + (2 : Int32))).bind fun v8 => (xRs S (x4 + (3 : Int32))).bind fun v9 => (xRs S (x4 + (4 : Int32))).bind fun v10 => if xOb h5 x2 12 = true then xqI (xM S mX13_addMask [.ref x2, .int v7, .int v8, .int v9, .int v10] h5) xth fun v13 h12 => if xOb h12 x2 12 = true then xqI (xM S mX13_thrown [.ref x2] h12) xth fun v16 h15 => if v16 = v6 then (if ¬ v6 = 0 then (xden S mL_law 3482 [(0, .retAddr 11), (1, .ref x1), (2, .ref x2), (3, .ref x3), (4, .int x4)] [] h15) else ((xRl h15 x3 (0 : Int32)).bind fun v17 => if (lg_cmp v17 (v13.toInt64)) = 0 then (xden S mL_law 3482 [(0, .retAddr 11), (1, .ref x1), (2, .ref x2), (3, .ref x3), (4, .int x4)] [] h15) else (some (.inl (some (.int (0 : Int32))), h15, 0, 0)))) else (some (.inl (some (.int (0 : Int32))), h15, 0, 0)) else none else none) (xden S mL_law 1694 [(0, .retAddr 11), (1, .ref x1), (2, .ref x2), (3, .ref x3), (4, .int x4)] [] h) := by
  refine l_loc dL_law_1694 rfl rfl ?_
  refine l_loc dL_law_1695 rfl rfl ?_
  refine l_loc dL_law_1696 rfl rfl ?_
  refine l_ic dL_law_1698 kI_1 ?_
  refine l_pure dL_law_1699 rfl rfl ?_
  refine l_rs dL_law_1700 (fun v1 => ?_)
  refine l_loc dL_law_1701 rfl rfl ?_
  refine l_loc dL_law_1702 rfl rfl ?_
  refine l_ic dL_law_1704 kI_2 ?_
  refine l_pure dL_law_1705 rfl rfl ?_
  refine l_rs dL_law_1706 (fun v2 => ?_)
  refine l_loc dL_law_1707 rfl rfl ?_
  refine l_loc dL_law_1708 rfl rfl ?_
  refine l_ic dL_law_1710 kI_3 ?_
  refine l_pure dL_law_1711 rfl rfl ?_
  refine l_rs dL_law_1712 (fun v3 => ?_)
  refine l_loc dL_law_1713 rfl rfl ?_
  refine l_loc dL_law_1714 rfl rfl ?_
  refine l_ic dL_law_1716 kI_4 ?_
  refine l_pure dL_law_1717 rfl rfl ?_
  refine l_rs dL_law_1718 (fun v4 => ?_)
  refine l_loc dL_law_1719 rfl rfl ?_
  refine l_cI dL_law_1720 rfl rfl rfl (l_xs cl_14_269 ko_mL_addMask rfl rfl) rfl rfl nm_mL_addMask (xhE_th rfl) (fun v6 h5 => ?_)
  refine l_loc (al1 := [(5, .int v6), (0, .retAddr 11), (1, .ref x1), (2, .ref x2), (3, .ref x3), (4, .int x4)]) dL_law_1723 rfl rfl ?_
  refine l_loc dL_law_1725 rfl rfl ?_
  refine l_loc dL_law_1726 rfl rfl ?_
  refine l_loc dL_law_1727 rfl rfl ?_
  refine l_ic dL_law_1729 kI_1 ?_
  refine l_pure dL_law_1730 rfl rfl ?_
  refine l_rs dL_law_1731 (fun v7 => ?_)
  refine l_loc dL_law_1732 rfl rfl ?_
  refine l_loc dL_law_1733 rfl rfl ?_
  refine l_ic dL_law_1735 kI_2 ?_
  refine l_pure dL_law_1736 rfl rfl ?_
  refine l_rs dL_law_1737 (fun v8 => ?_)
  refine l_loc dL_law_1738 rfl rfl ?_
  refine l_loc dL_law_1739 rfl rfl ?_
  refine l_ic dL_law_1741 kI_3 ?_
  refine l_pure dL_law_1742 rfl rfl ?_
  refine l_rs dL_law_1743 (fun v9 => ?_)
  refine l_loc dL_law_1744 rfl rfl ?_
  refine l_loc dL_law_1745 rfl rfl ?_
  refine l_ic dL_law_1747 kI_4 ?_
  refine l_pure dL_law_1748 rfl rfl ?_
  refine l_rs dL_law_1749 (fun v10 => ?_)
  refine l_ob fun q11 => ?_
  refine l_cI dL_law_1750 rfl rfl rfl (l_xv cl_14_271 ko_mX13_addMask rfl rfl rfl q11) rfl rfl nm_mX13_addMask (xhE_th rfl) (fun v13 h12 => ?_)
  refine l_loc (al1 := [(6, .int v13), (5, .int v6), (0, .retAddr 11), (1, .ref x1), (2, .ref x2), (3, .ref x3), (4, .int x4)]) dL_law_1753 rfl rfl ?_
  refine l_loc dL_law_1755 rfl rfl ?_
  refine l_ob fun q14 => ?_
  refine l_cI dL_law_1756 rfl rfl rfl (l_xv cl_14_195 ko_mX13_thrown rfl rfl rfl q14) rfl rfl nm_mX13_thrown (xhE_th rfl) (fun v16 h15 => ?_)
  refine l_loc dL_law_1759 rfl rfl ?_
  refine l_ceq (t := 1766) dL_law_1761 rfl ?_ ?_
  · refine l_loc dL_law_1766 rfl rfl ?_
    refine l_ine (t := 1783) dL_law_1768 rfl ?_ ?_
    · refine l_goto (t := 3482) dL_law_1783 rfl ?_
      exact l_al rfl ⟨rfl, rfl, rfl, rfl, rfl, trivial⟩
    · refine l_loc dL_law_1771 rfl rfl ?_
      refine l_ic dL_law_1772 kI_0 ?_
      refine l_rl dL_law_1773 (fun v17 => ?_)
      refine l_loc dL_law_1774 rfl rfl ?_
      refine l_pure dL_law_1776 rfl rfl ?_
      refine l_pure dL_law_1777 rfl rfl ?_
      refine l_ieq (t := 1783) dL_law_1778 rfl ?_ ?_
      · refine l_goto (t := 3482) dL_law_1783 rfl ?_
        exact l_al rfl ⟨rfl, rfl, rfl, rfl, rfl, trivial⟩
      · refine l_ic dL_law_1781 kI_0 ?_
        exact l_iretn dL_law_1782 rfl (by decide)
  · refine l_ic dL_law_1764 kI_0 ?_
    exact l_iretn dL_law_1765 rfl (by decide)
set_option maxRecDepth 16000 in
theorem w_L_law_1786 (S : xS) (x1 : Nat) (x2 : Nat) (x3 : Nat) (x4 : Int32) (h : xH) : xle ((xRs S (x4 + (1 : Int32))).bind fun v1 => xqI (xM S mL_removeMask [.ref x1, .int v1, .ref x3] h) xth fun v3 h2 => (xRs S (x4 + (1 : Int32))).bind fun v4 => if xOb h2 x2 12 = true then xqI (xM S mX13_removeMask [.ref x2, .int v4] h2) xth fun v7 h6 => if xOb h6 x2 12 = true then xqI (xM S mX13_thrown [.ref x2] h6) xth fun v10 h9 => if v10 = v3 then (if ¬ v3 = 0 then (xden S mL_law 3482 [(0, .retAddr 11), (1, .ref x1), (2, .ref x2), (3, .ref x3), (4, .int x4)] [] h9) else ((xRl h9 x3 (0 : Int32)).bind fun v11 => if (lg_cmp v11 (v7.toInt64)) = 0 then (xden S mL_law 3482 [(0, .retAddr 11), (1, .ref x1), (2, .ref x2), (3, .ref x3), (4, .int x4)] [] h9) else (some (.inl (some (.int (0 : Int32))), h9, 0, 0)))) else (some (.inl (some (.int (0 : Int32))), h9, 0, 0)) else none else none) (xden S mL_law 1786 [(0, .retAddr 11), (1, .ref x1), (2, .ref x2), (3, .ref x3), (4, .int x4)] [] h) := by
  refine l_loc dL_law_1786 rfl rfl ?_
  refine l_loc dL_law_1787 rfl rfl ?_
  refine l_loc dL_law_1788 rfl rfl ?_
  refine l_ic dL_law_1790 kI_1 ?_
  refine l_pure dL_law_1791 rfl rfl ?_
  refine l_rs dL_law_1792 (fun v1 => ?_)
  refine l_loc dL_law_1793 rfl rfl ?_
  refine l_cI dL_law_1794 rfl rfl rfl (l_xs cl_14_272 ko_mL_removeMask rfl rfl) rfl rfl nm_mL_removeMask (xhE_th rfl) (fun v3 h2 => ?_)
  refine l_loc (al1 := [(5, .int v3), (0, .retAddr 11), (1, .ref x1), (2, .ref x2), (3, .ref x3), (4, .int x4)]) dL_law_1797 rfl rfl ?_
  refine l_loc dL_law_1799 rfl rfl ?_
  refine l_loc dL_law_1800 rfl rfl ?_
  refine l_loc dL_law_1801 rfl rfl ?_
  refine l_ic dL_law_1803 kI_1 ?_
  refine l_pure dL_law_1804 rfl rfl ?_
  refine l_rs dL_law_1805 (fun v4 => ?_)
  refine l_ob fun q5 => ?_
  refine l_cI dL_law_1806 rfl rfl rfl (l_xv cl_14_274 ko_mX13_removeMask rfl rfl rfl q5) rfl rfl nm_mX13_removeMask (xhE_th rfl) (fun v7 h6 => ?_)
  refine l_loc (al1 := [(6, .int v7), (5, .int v3), (0, .retAddr 11), (1, .ref x1), (2, .ref x2), (3, .ref x3), (4, .int x4)]) dL_law_1809 rfl rfl ?_
  refine l_loc dL_law_1811 rfl rfl ?_
  refine l_ob fun q8 => ?_
  refine l_cI dL_law_1812 rfl rfl rfl (l_xv cl_14_195 ko_mX13_thrown rfl rfl rfl q8) rfl rfl nm_mX13_thrown (xhE_th rfl) (fun v10 h9 => ?_)
  refine l_loc dL_law_1815 rfl rfl ?_
  refine l_ceq (t := 1822) dL_law_1817 rfl ?_ ?_
  · refine l_loc dL_law_1822 rfl rfl ?_
    refine l_ine (t := 1839) dL_law_1824 rfl ?_ ?_
    · refine l_goto (t := 3482) dL_law_1839 rfl ?_
      exact l_al rfl ⟨rfl, rfl, rfl, rfl, rfl, trivial⟩
    · refine l_loc dL_law_1827 rfl rfl ?_
      refine l_ic dL_law_1828 kI_0 ?_
      refine l_rl dL_law_1829 (fun v11 => ?_)
      refine l_loc dL_law_1830 rfl rfl ?_
      refine l_pure dL_law_1832 rfl rfl ?_
      refine l_pure dL_law_1833 rfl rfl ?_
      refine l_ieq (t := 1839) dL_law_1834 rfl ?_ ?_
      · refine l_goto (t := 3482) dL_law_1839 rfl ?_
        exact l_al rfl ⟨rfl, rfl, rfl, rfl, rfl, trivial⟩
      · refine l_ic dL_law_1837 kI_0 ?_
        exact l_iretn dL_law_1838 rfl (by decide)
  · refine l_ic dL_law_1820 kI_0 ?_
    exact l_iretn dL_law_1821 rfl (by decide)
set_option maxRecDepth 16000 in
theorem w_L_law_1842 (S : xS) (x1 : Nat) (x2 : Nat) (x3 : Nat) (x4 : Int32) (h : xH) : xle (if xOb h x1 11 = true then xqI (xM S mX12_compare [.ref x1] h) xth fun v3 h2 => if xOb h2 x2 12 = true then xqI (xM S mX13_compare [.ref x2] h2) xth fun v6 h5 => if v3 = v6 then (xden S mL_law 3482 [(0, .retAddr 11), (1, .ref x1), (2, .ref x2), (3, .ref x3), (4, .int x4)] [] h5) else (some (.inl (some (.int (0 : Int32))), h5, 0, 0)) else none else none) (xden S mL_law 1842 [(0, .retAddr 11), (1, .ref x1), (2, .ref x2), (3, .ref x3), (4, .int x4)] [] h) := by
  refine l_loc dL_law_1842 rfl rfl ?_
  refine l_ob fun q1 => ?_
  refine l_cI dL_law_1843 rfl rfl rfl (l_xv cl_14_275 ko_mX12_compare rfl rfl rfl q1) rfl rfl nm_mX12_compare (xhE_th rfl) (fun v3 h2 => ?_)
  refine l_loc dL_law_1846 rfl rfl ?_
  refine l_ob fun q4 => ?_
  refine l_cI dL_law_1847 rfl rfl rfl (l_xv cl_14_278 ko_mX13_compare rfl rfl rfl q4) rfl rfl nm_mX13_compare (xhE_th rfl) (fun v6 h5 => ?_)
  refine l_ceq (t := 3482) dL_law_1850 rfl ?_ ?_
  · exact l_al rfl ⟨rfl, rfl, rfl, rfl, rfl, trivial⟩
  · refine l_ic dL_law_1853 kI_0 ?_
    exact l_iretn dL_law_1854 rfl (by decide)
set_option maxRecDepth 16000 in
theorem w_L_law_1855 (S : xS) (x1 : Nat) (x2 : Nat) (x3 : Nat) (x4 : Int32) (h : xH) : xle (xqI (xM S mL_shiftX [.ref x1, .ref x3] h) xth fun v2 h1 => if xOb h1 x2 12 = true then xqI (xM S mX13_shiftX [.ref x2] h1) xth fun v5 h4 => if xOb h4 x2 12 = true then xqI (xM S mX13_thrown [.ref x2] h4) xth fun v8 h7 => if v8 = v2 then (if ¬ v2 = 0 then (xden S mL_law 3482 [(0, .retAddr 11), (1, .ref x1), (2, .ref x2), (3, .ref x3), (4, .int x4)] [] h7) else ((xRl h7 x3 (0 : Int32)).bind fun v9 => if (lg_cmp v9 (v5.toInt64)) = 0 then (xden S mL_law 3482 [(0, .retAddr 11), (1, .ref x1), (2, .ref x2), (3, .ref x3), (4, .int x4)] [] h7) else (some (.inl (some (.int (0 : Int32))), h7, 0, 0)))) else (some (.inl (some (.int (0 : Int32))), h7, 0, 0)) else none else none) (xden S mL_law 1855 [(0, .retAddr 11), (1, .ref x1), (2, .ref x2), (3, .ref x3), (4, .int x4)] [] h) := by
  refine l_loc dL_law_1855 rfl rfl ?_
  refine l_loc dL_law_1856 rfl rfl ?_
  refine l_cI dL_law_1857 rfl rfl rfl (l_xs cl_14_279 ko_mL_shiftX rfl rfl) rfl rfl nm_mL_shiftX (xhE_th rfl) (fun v2 h1 => ?_)
  refine l_loc (al1 := [(5, .int v2), (0, .retAddr 11), (1, .ref x1), (2, .ref x2), (3, .ref x3), (4, .int x4)]) dL_law_1860 rfl rfl ?_
  refine l_loc dL_law_1862 rfl rfl ?_
  refine l_ob fun q3 => ?_
  refine l_cI dL_law_1863 rfl rfl rfl (l_xv cl_14_281 ko_mX13_shiftX rfl rfl rfl q3) rfl rfl nm_mX13_shiftX (xhE_th rfl) (fun v5 h4 => ?_)
  refine l_loc (al1 := [(6, .int v5), (5, .int v2), (0, .retAddr 11), (1, .ref x1), (2, .ref x2), (3, .ref x3), (4, .int x4)]) dL_law_1866 rfl rfl ?_
  refine l_loc dL_law_1868 rfl rfl ?_
  refine l_ob fun q6 => ?_
  refine l_cI dL_law_1869 rfl rfl rfl (l_xv cl_14_195 ko_mX13_thrown rfl rfl rfl q6) rfl rfl nm_mX13_thrown (xhE_th rfl) (fun v8 h7 => ?_)
  refine l_loc dL_law_1872 rfl rfl ?_
  refine l_ceq (t := 1879) dL_law_1874 rfl ?_ ?_
  · refine l_loc dL_law_1879 rfl rfl ?_
    refine l_ine (t := 1896) dL_law_1881 rfl ?_ ?_
    · refine l_goto (t := 3482) dL_law_1896 rfl ?_
      exact l_al rfl ⟨rfl, rfl, rfl, rfl, rfl, trivial⟩
    · refine l_loc dL_law_1884 rfl rfl ?_
      refine l_ic dL_law_1885 kI_0 ?_
      refine l_rl dL_law_1886 (fun v9 => ?_)
      refine l_loc dL_law_1887 rfl rfl ?_
      refine l_pure dL_law_1889 rfl rfl ?_
      refine l_pure dL_law_1890 rfl rfl ?_
      refine l_ieq (t := 1896) dL_law_1891 rfl ?_ ?_
      · refine l_goto (t := 3482) dL_law_1896 rfl ?_
        exact l_al rfl ⟨rfl, rfl, rfl, rfl, rfl, trivial⟩
      · refine l_ic dL_law_1894 kI_0 ?_
        exact l_iretn dL_law_1895 rfl (by decide)
  · refine l_ic dL_law_1877 kI_0 ?_
    exact l_iretn dL_law_1878 rfl (by decide)
set_option maxRecDepth 16000 in
theorem w_L_law_1899 (S : xS) (x1 : Nat) (x2 : Nat) (x3 : Nat) (x4 : Int32) (h : xH) : xle (xqI (xM S mL_shiftY [.ref x1, .ref x3] h) xth fun v2 h1 => if xOb h1 x2 12 = true then xqI (xM S mX13_shiftY [.ref x2] h1) xth fun v5 h4 => if xOb h4 x2 12 = true then xqI (xM S mX13_thrown [.ref x2] h4) xth fun v8 h7 => if v8 = v2 then (if ¬ v2 = 0 then (xden S mL_law 3482 [(0, .retAddr 11), (1, .ref x1), (2, .ref x2), (3, .ref x3), (4, .int x4)] [] h7) else ((xRl h7 x3 (0 : Int32)).bind fun v9 => if (lg_cmp v9 (v5.toInt64)) = 0 then (xden S mL_law 3482 [(0, .retAddr 11), (1, .ref x1), (2, .ref x2), (3, .ref x3), (4, .int x4)] [] h7) else (some (.inl (some (.int (0 : Int32))), h7, 0, 0)))) else (some (.inl (some (.int (0 : Int32))), h7, 0, 0)) else none else none) (xden S mL_law 1899 [(0, .retAddr 11), (1, .ref x1), (2, .ref x2), (3, .ref x3), (4, .int x4)] [] h) := by
  refine l_loc dL_law_1899 rfl rfl ?_
  refine l_loc dL_law_1900 rfl rfl ?_
  refine l_cI dL_law_1901 rfl rfl rfl (l_xs cl_14_282 ko_mL_shiftY rfl rfl) rfl rfl nm_mL_shiftY (xhE_th rfl) (fun v2 h1 => ?_)
  refine l_loc (al1 := [(5, .int v2), (0, .retAddr 11), (1, .ref x1), (2, .ref x2), (3, .ref x3), (4, .int x4)]) dL_law_1904 rfl rfl ?_
  refine l_loc dL_law_1906 rfl rfl ?_
  refine l_ob fun q3 => ?_
  refine l_cI dL_law_1907 rfl rfl rfl (l_xv cl_14_284 ko_mX13_shiftY rfl rfl rfl q3) rfl rfl nm_mX13_shiftY (xhE_th rfl) (fun v5 h4 => ?_)
  refine l_loc (al1 := [(6, .int v5), (5, .int v2), (0, .retAddr 11), (1, .ref x1), (2, .ref x2), (3, .ref x3), (4, .int x4)]) dL_law_1910 rfl rfl ?_
  refine l_loc dL_law_1912 rfl rfl ?_
  refine l_ob fun q6 => ?_
  refine l_cI dL_law_1913 rfl rfl rfl (l_xv cl_14_195 ko_mX13_thrown rfl rfl rfl q6) rfl rfl nm_mX13_thrown (xhE_th rfl) (fun v8 h7 => ?_)
  refine l_loc dL_law_1916 rfl rfl ?_
  refine l_ceq (t := 1923) dL_law_1918 rfl ?_ ?_
  · refine l_loc dL_law_1923 rfl rfl ?_
    refine l_ine (t := 1940) dL_law_1925 rfl ?_ ?_
    · refine l_goto (t := 3482) dL_law_1940 rfl ?_
      exact l_al rfl ⟨rfl, rfl, rfl, rfl, rfl, trivial⟩
    · refine l_loc dL_law_1928 rfl rfl ?_
      refine l_ic dL_law_1929 kI_0 ?_
      refine l_rl dL_law_1930 (fun v9 => ?_)
      refine l_loc dL_law_1931 rfl rfl ?_
      refine l_pure dL_law_1933 rfl rfl ?_
      refine l_pure dL_law_1934 rfl rfl ?_
      refine l_ieq (t := 1940) dL_law_1935 rfl ?_ ?_
      · refine l_goto (t := 3482) dL_law_1940 rfl ?_
        exact l_al rfl ⟨rfl, rfl, rfl, rfl, rfl, trivial⟩
      · refine l_ic dL_law_1938 kI_0 ?_
        exact l_iretn dL_law_1939 rfl (by decide)
  · refine l_ic dL_law_1921 kI_0 ?_
    exact l_iretn dL_law_1922 rfl (by decide)
