/-! The law's cases 24 to 31 (by wip/whole/gen/m63.py). -/
set_option maxRecDepth 100000 in
theorem lw_c24 {l : Launch} {G : GG} (hl : l.stackTraces = false) {A : AD} {k KC KS : Nat} {P : Post} (hk : k < 512) (hj : 5 * k + 4 < (gX G).2.1) {X : CL} {Y : YS} {fo : Nat → Int64} {fd : Nat → UInt64} (hR : RelX k X Y) {v6 v7 v8 : Option Value} (nx : lwN l G A k KC KS P) : Go l G mL_law 40 (KC + 25) (KS + 3550) P 1481 (lwL G A k v6 v7 v8) [] (LW A X Y fo fd) := by
  obtain ⟨M, N, c, q, H, L, R, t, l9, O⟩ := X
  obtain ⟨a, f⟩ := Y
  have hR : RelP k M N t l9 O a f := hR
  obtain ⟨mc, ms, hmc, hms, hE⟩ := jt_regionSize (G := G) (A := A) (fo := fo) (fd := fd) hl hR (p0 := ((gX G).2.2 (5 * k + 1))) (p1 := ((gX G).2.2 (5 * k + 2))) (p2 := ((gX G).2.2 (5 * k + 3)))
  refine g_aload_n (i := 1) dL_law_1481 rfl rfl ?_
  refine g_aload_n (i := 0) dL_law_1482 rfl rfl ?_
  refine g_iload dL_law_1483 rfl ?_
  refine g_iconst (v := 1) dL_law_1485 (by decide) ?_
  refine g_iadd dL_law_1486 ?_
  refine g_sld dL_law_1487 (lw_ix1 hk) (by omega) ?_
  refine g_aload_n (i := 0) dL_law_1488 rfl rfl ?_
  refine g_iload dL_law_1489 rfl ?_
  refine g_iconst (v := 2) dL_law_1491 (by decide) ?_
  refine g_iadd dL_law_1492 ?_
  refine g_sld dL_law_1493 (lw_ix2 hk) (by omega) ?_
  refine g_aload_n (i := 0) dL_law_1494 rfl rfl ?_
  refine g_iload dL_law_1495 rfl ?_
  refine g_iconst (v := 3) dL_law_1497 (by decide) ?_
  refine g_iadd dL_law_1498 ?_
  refine g_sld dL_law_1499 (lw_ix3 hk) (by omega) ?_
  refine g_aload_n (i := 3) dL_law_1500 rfl rfl ?_
  refine g_callS hE dL_law_1501 ml_L_237 csL_regionSize rfl rfl (Nat.le_of_ble_eq_true rfl) (Nat.le_of_ble_eq_true rfl) (by omega) (by omega) (kr_jw (KC := KC) (KS := KS) (by omega) (by omega) (fun k0 X2 f2 d2 Pm hM hJ => ?_)) kx_jw
  refine g_istore dL_law_1504 (Nat.le_of_ble_eq_true rfl) ?_
  refine g_aload_n (i := 2) dL_law_1506 rfl rfl ?_
  refine g_aload_n (i := 0) dL_law_1507 rfl rfl ?_
  refine g_iload dL_law_1508 rfl ?_
  refine g_iconst (v := 1) dL_law_1510 (by decide) ?_
  refine g_iadd dL_law_1511 ?_
  refine g_sld dL_law_1512 (lw_ix1 hk) (by omega) ?_
  refine g_aload_n (i := 0) dL_law_1513 rfl rfl ?_
  refine g_iload dL_law_1514 rfl ?_
  refine g_iconst (v := 2) dL_law_1516 (by decide) ?_
  refine g_iadd dL_law_1517 ?_
  refine g_sld dL_law_1518 (lw_ix2 hk) (by omega) ?_
  refine g_aload_n (i := 0) dL_law_1519 rfl rfl ?_
  refine g_iload dL_law_1520 rfl ?_
  refine g_iconst (v := 3) dL_law_1522 (by decide) ?_
  refine g_iadd dL_law_1523 ?_
  refine g_sld dL_law_1524 (lw_ix3 hk) (by omega) ?_
  refine g_callV hM dL_law_1525 ml_L_239 cvX10_regionSize K_X10 rfl LW_30 rfl rfl (Nat.le_of_ble_eq_true rfl) (Nat.le_of_ble_eq_true rfl) (Nat.zero_le _) (Nat.zero_le _) (kr_jm hJ (fun b Y2 h11 hb hR2 => ?_)) (kx_jm hJ)
  refine g_istore dL_law_1528 (Nat.le_of_ble_eq_true rfl) ?_
  refine g_aload_n (i := 2) dL_law_1530 rfl rfl ?_
  refine g_callV (ev_thrownL hl) dL_law_1531 ml_L_157 cvX10_thrown K_X10 rfl LW_30 rfl rfl (Nat.le_of_ble_eq_true rfl) (Nat.le_of_ble_eq_true rfl) (Nat.zero_le _) (Nat.zero_le _) (kr_rt ?_) kx_rt
  refine g_iload dL_law_1534 rfl ?_
  refine g_icmp_eq (tgt := 1541) dL_law_1536 (by decide) (fun _ => ?_) (fun c9 => absurd h11 c9)
  refine g_iload dL_law_1541 rfl ?_
  refine g_if_ne (tgt := 1558) dL_law_1543 (by decide) (fun _ => ?_) (fun c0 => ?_)
  · refine g_goto (tgt := 2620) dL_law_1558 (by decide) ?_
    exact nx _ _ _ _ _ _ _ hR2
  · have e8 : f2 0 = b.toInt64 := hb c0
    refine g_aload_n (i := 3) dL_law_1546 rfl rfl ?_
    refine g_iconst (v := 0) dL_law_1547 (by decide) ?_
    refine g_lald dL_law_1548 LW_60 (ix_nI (j := 0) (by decide)) (by decide) ?_
    refine g_iload dL_law_1549 rfl ?_
    refine g_i2l dL_law_1551 ?_
    refine g_lcmp dL_law_1552 ?_
    refine g_if_eq (tgt := 1558) dL_law_1553 (by decide) (fun _ => ?_) (fun c9 => absurd (lgc0.mpr e8) c9)
    refine g_goto (tgt := 2620) dL_law_1558 (by decide) ?_
    exact nx _ _ _ _ _ _ _ hR2

set_option maxRecDepth 100000 in
theorem lw_c25 {l : Launch} {G : GG} (hl : l.stackTraces = false) {A : AD} {k KC KS : Nat} {P : Post} (hk : k < 512) (hj : 5 * k + 4 < (gX G).2.1) {X : CL} {Y : YS} {fo : Nat → Int64} {fd : Nat → UInt64} (hR : RelX k X Y) {v6 v7 v8 : Option Value} (nx : lwN l G A k KC KS P) : Go l G mL_law 40 (KC + 25) (KS + 3550) P 1561 (lwL G A k v6 v7 v8) [] (LW A X Y fo fd) := by
  obtain ⟨M, N, c, q, H, L, R, t, l9, O⟩ := X
  obtain ⟨a, f⟩ := Y
  have hR : RelP k M N t l9 O a f := hR
  obtain ⟨mc, ms, hmc, hms, hE⟩ := jt_coolestPeak (G := G) (A := A) (fo := fo) (fd := fd) hl hR (p0 := ((gX G).2.2 (5 * k + 1))) (p1 := ((gX G).2.2 (5 * k + 2))) (p2 := ((gX G).2.2 (5 * k + 3))) (p3 := ((gX G).2.2 (5 * k + 4)))
  refine g_aload_n (i := 1) dL_law_1561 rfl rfl ?_
  refine g_aload_n (i := 0) dL_law_1562 rfl rfl ?_
  refine g_iload dL_law_1563 rfl ?_
  refine g_iconst (v := 1) dL_law_1565 (by decide) ?_
  refine g_iadd dL_law_1566 ?_
  refine g_sld dL_law_1567 (lw_ix1 hk) (by omega) ?_
  refine g_aload_n (i := 0) dL_law_1568 rfl rfl ?_
  refine g_iload dL_law_1569 rfl ?_
  refine g_iconst (v := 2) dL_law_1571 (by decide) ?_
  refine g_iadd dL_law_1572 ?_
  refine g_sld dL_law_1573 (lw_ix2 hk) (by omega) ?_
  refine g_aload_n (i := 0) dL_law_1574 rfl rfl ?_
  refine g_iload dL_law_1575 rfl ?_
  refine g_iconst (v := 3) dL_law_1577 (by decide) ?_
  refine g_iadd dL_law_1578 ?_
  refine g_sld dL_law_1579 (lw_ix3 hk) (by omega) ?_
  refine g_aload_n (i := 0) dL_law_1580 rfl rfl ?_
  refine g_iload dL_law_1581 rfl ?_
  refine g_iconst (v := 4) dL_law_1583 (by decide) ?_
  refine g_iadd dL_law_1584 ?_
  refine g_sld dL_law_1585 (lw_ix4 hk) (by omega) ?_
  refine g_aload_n (i := 3) dL_law_1586 rfl rfl ?_
  refine g_callS hE dL_law_1587 ml_L_240 csL_coolestPeak rfl rfl (Nat.le_of_ble_eq_true rfl) (Nat.le_of_ble_eq_true rfl) (by omega) (by omega) (kr_jw (KC := KC) (KS := KS) (by omega) (by omega) (fun k0 X2 f2 d2 Pm hM hJ => ?_)) kx_jw
  refine g_istore dL_law_1590 (Nat.le_of_ble_eq_true rfl) ?_
  refine g_aload_n (i := 2) dL_law_1592 rfl rfl ?_
  refine g_aload_n (i := 0) dL_law_1593 rfl rfl ?_
  refine g_iload dL_law_1594 rfl ?_
  refine g_iconst (v := 1) dL_law_1596 (by decide) ?_
  refine g_iadd dL_law_1597 ?_
  refine g_sld dL_law_1598 (lw_ix1 hk) (by omega) ?_
  refine g_aload_n (i := 0) dL_law_1599 rfl rfl ?_
  refine g_iload dL_law_1600 rfl ?_
  refine g_iconst (v := 2) dL_law_1602 (by decide) ?_
  refine g_iadd dL_law_1603 ?_
  refine g_sld dL_law_1604 (lw_ix2 hk) (by omega) ?_
  refine g_aload_n (i := 0) dL_law_1605 rfl rfl ?_
  refine g_iload dL_law_1606 rfl ?_
  refine g_iconst (v := 3) dL_law_1608 (by decide) ?_
  refine g_iadd dL_law_1609 ?_
  refine g_sld dL_law_1610 (lw_ix3 hk) (by omega) ?_
  refine g_aload_n (i := 0) dL_law_1611 rfl rfl ?_
  refine g_iload dL_law_1612 rfl ?_
  refine g_iconst (v := 4) dL_law_1614 (by decide) ?_
  refine g_iadd dL_law_1615 ?_
  refine g_sld dL_law_1616 (lw_ix4 hk) (by omega) ?_
  refine g_callV hM dL_law_1617 ml_L_243 cvX10_coolestPeak K_X10 rfl LW_30 rfl rfl (Nat.le_of_ble_eq_true rfl) (Nat.le_of_ble_eq_true rfl) (Nat.zero_le _) (Nat.zero_le _) (kr_jm hJ (fun b Y2 h11 hb hR2 => ?_)) (kx_jm hJ)
  refine g_istore dL_law_1620 (Nat.le_of_ble_eq_true rfl) ?_
  refine g_aload_n (i := 2) dL_law_1622 rfl rfl ?_
  refine g_callV (ev_thrownL hl) dL_law_1623 ml_L_157 cvX10_thrown K_X10 rfl LW_30 rfl rfl (Nat.le_of_ble_eq_true rfl) (Nat.le_of_ble_eq_true rfl) (Nat.zero_le _) (Nat.zero_le _) (kr_rt ?_) kx_rt
  refine g_iload dL_law_1626 rfl ?_
  refine g_icmp_eq (tgt := 1633) dL_law_1628 (by decide) (fun _ => ?_) (fun c9 => absurd h11 c9)
  refine g_iload dL_law_1633 rfl ?_
  refine g_if_ne (tgt := 1650) dL_law_1635 (by decide) (fun _ => ?_) (fun c0 => ?_)
  · refine g_goto (tgt := 2620) dL_law_1650 (by decide) ?_
    exact nx _ _ _ _ _ _ _ hR2
  · have e8 : f2 0 = b.toInt64 := hb c0
    refine g_aload_n (i := 3) dL_law_1638 rfl rfl ?_
    refine g_iconst (v := 0) dL_law_1639 (by decide) ?_
    refine g_lald dL_law_1640 LW_60 (ix_nI (j := 0) (by decide)) (by decide) ?_
    refine g_iload dL_law_1641 rfl ?_
    refine g_i2l dL_law_1643 ?_
    refine g_lcmp dL_law_1644 ?_
    refine g_if_eq (tgt := 1650) dL_law_1645 (by decide) (fun _ => ?_) (fun c9 => absurd (lgc0.mpr e8) c9)
    refine g_goto (tgt := 2620) dL_law_1650 (by decide) ?_
    exact nx _ _ _ _ _ _ _ hR2

set_option maxRecDepth 100000 in
theorem lw_c26 {l : Launch} {G : GG} (hl : l.stackTraces = false) {A : AD} {k KC KS : Nat} {P : Post} (hk : k < 512) (hj : 5 * k + 4 < (gX G).2.1) {X : CL} {Y : YS} {fo : Nat → Int64} {fd : Nat → UInt64} (hR : RelX k X Y) {v6 v7 v8 : Option Value} (nx : lwN l G A k KC KS P) : Go l G mL_law 40 (KC + 25) (KS + 3550) P 1653 (lwL G A k v6 v7 v8) [] (LW A X Y fo fd) := by
  obtain ⟨M, N, c, q, H, L, R, t, l9, O⟩ := X
  obtain ⟨a, f⟩ := Y
  have hR : RelP k M N t l9 O a f := hR
  obtain ⟨mc, ms, hmc, hms, hE⟩ := jt_coolestPeakByTrying (G := G) (A := A) (fo := fo) (fd := fd) hl hR (p0 := ((gX G).2.2 (5 * k + 1))) (p1 := ((gX G).2.2 (5 * k + 2))) (p2 := ((gX G).2.2 (5 * k + 3))) (p3 := ((gX G).2.2 (5 * k + 4)))
  refine g_aload_n (i := 1) dL_law_1653 rfl rfl ?_
  refine g_aload_n (i := 0) dL_law_1654 rfl rfl ?_
  refine g_iload dL_law_1655 rfl ?_
  refine g_iconst (v := 1) dL_law_1657 (by decide) ?_
  refine g_iadd dL_law_1658 ?_
  refine g_sld dL_law_1659 (lw_ix1 hk) (by omega) ?_
  refine g_aload_n (i := 0) dL_law_1660 rfl rfl ?_
  refine g_iload dL_law_1661 rfl ?_
  refine g_iconst (v := 2) dL_law_1663 (by decide) ?_
  refine g_iadd dL_law_1664 ?_
  refine g_sld dL_law_1665 (lw_ix2 hk) (by omega) ?_
  refine g_aload_n (i := 0) dL_law_1666 rfl rfl ?_
  refine g_iload dL_law_1667 rfl ?_
  refine g_iconst (v := 3) dL_law_1669 (by decide) ?_
  refine g_iadd dL_law_1670 ?_
  refine g_sld dL_law_1671 (lw_ix3 hk) (by omega) ?_
  refine g_aload_n (i := 0) dL_law_1672 rfl rfl ?_
  refine g_iload dL_law_1673 rfl ?_
  refine g_iconst (v := 4) dL_law_1675 (by decide) ?_
  refine g_iadd dL_law_1676 ?_
  refine g_sld dL_law_1677 (lw_ix4 hk) (by omega) ?_
  refine g_aload_n (i := 3) dL_law_1678 rfl rfl ?_
  refine g_callS hE dL_law_1679 ml_L_244 csL_coolestPeakByTrying rfl rfl (Nat.le_of_ble_eq_true rfl) (Nat.le_of_ble_eq_true rfl) (by omega) (by omega) (kr_jw (KC := KC) (KS := KS) (by omega) (by omega) (fun k0 X2 f2 d2 Pm hM hJ => ?_)) kx_jw
  refine g_istore dL_law_1682 (Nat.le_of_ble_eq_true rfl) ?_
  refine g_aload_n (i := 2) dL_law_1684 rfl rfl ?_
  refine g_aload_n (i := 0) dL_law_1685 rfl rfl ?_
  refine g_iload dL_law_1686 rfl ?_
  refine g_iconst (v := 1) dL_law_1688 (by decide) ?_
  refine g_iadd dL_law_1689 ?_
  refine g_sld dL_law_1690 (lw_ix1 hk) (by omega) ?_
  refine g_aload_n (i := 0) dL_law_1691 rfl rfl ?_
  refine g_iload dL_law_1692 rfl ?_
  refine g_iconst (v := 2) dL_law_1694 (by decide) ?_
  refine g_iadd dL_law_1695 ?_
  refine g_sld dL_law_1696 (lw_ix2 hk) (by omega) ?_
  refine g_aload_n (i := 0) dL_law_1697 rfl rfl ?_
  refine g_iload dL_law_1698 rfl ?_
  refine g_iconst (v := 3) dL_law_1700 (by decide) ?_
  refine g_iadd dL_law_1701 ?_
  refine g_sld dL_law_1702 (lw_ix3 hk) (by omega) ?_
  refine g_aload_n (i := 0) dL_law_1703 rfl rfl ?_
  refine g_iload dL_law_1704 rfl ?_
  refine g_iconst (v := 4) dL_law_1706 (by decide) ?_
  refine g_iadd dL_law_1707 ?_
  refine g_sld dL_law_1708 (lw_ix4 hk) (by omega) ?_
  refine g_callV hM dL_law_1709 ml_L_246 cvX10_coolestPeakByTrying K_X10 rfl LW_30 rfl rfl (Nat.le_of_ble_eq_true rfl) (Nat.le_of_ble_eq_true rfl) (Nat.zero_le _) (Nat.zero_le _) (kr_jm hJ (fun b Y2 h11 hb hR2 => ?_)) (kx_jm hJ)
  refine g_istore dL_law_1712 (Nat.le_of_ble_eq_true rfl) ?_
  refine g_aload_n (i := 2) dL_law_1714 rfl rfl ?_
  refine g_callV (ev_thrownL hl) dL_law_1715 ml_L_157 cvX10_thrown K_X10 rfl LW_30 rfl rfl (Nat.le_of_ble_eq_true rfl) (Nat.le_of_ble_eq_true rfl) (Nat.zero_le _) (Nat.zero_le _) (kr_rt ?_) kx_rt
  refine g_iload dL_law_1718 rfl ?_
  refine g_icmp_eq (tgt := 1725) dL_law_1720 (by decide) (fun _ => ?_) (fun c9 => absurd h11 c9)
  refine g_iload dL_law_1725 rfl ?_
  refine g_if_ne (tgt := 1742) dL_law_1727 (by decide) (fun _ => ?_) (fun c0 => ?_)
  · refine g_goto (tgt := 2620) dL_law_1742 (by decide) ?_
    exact nx _ _ _ _ _ _ _ hR2
  · have e8 : f2 0 = b.toInt64 := hb c0
    refine g_aload_n (i := 3) dL_law_1730 rfl rfl ?_
    refine g_iconst (v := 0) dL_law_1731 (by decide) ?_
    refine g_lald dL_law_1732 LW_60 (ix_nI (j := 0) (by decide)) (by decide) ?_
    refine g_iload dL_law_1733 rfl ?_
    refine g_i2l dL_law_1735 ?_
    refine g_lcmp dL_law_1736 ?_
    refine g_if_eq (tgt := 1742) dL_law_1737 (by decide) (fun _ => ?_) (fun c9 => absurd (lgc0.mpr e8) c9)
    refine g_goto (tgt := 2620) dL_law_1742 (by decide) ?_
    exact nx _ _ _ _ _ _ _ hR2

set_option maxRecDepth 100000 in
theorem lw_c27 {l : Launch} {G : GG} (hl : l.stackTraces = false) {A : AD} {k KC KS : Nat} {P : Post} (hk : k < 512) (hj : 5 * k + 4 < (gX G).2.1) {X : CL} {Y : YS} {fo : Nat → Int64} {fd : Nat → UInt64} (hR : RelX k X Y) {v6 v7 v8 : Option Value} (nx : lwN l G A k KC KS P) : Go l G mL_law 40 (KC + 25) (KS + 3550) P 1745 (lwL G A k v6 v7 v8) [] (LW A X Y fo fd) := by
  obtain ⟨M, N, c, q, H, L, R, t, l9, O⟩ := X
  obtain ⟨a, f⟩ := Y
  have hR : RelP k M N t l9 O a f := hR
  obtain ⟨mc, ms, hmc, hms, hE⟩ := jt_legendSpread (G := G) (A := A) (fo := fo) (fd := fd) hl hR (p0 := ((gX G).2.2 (5 * k + 1)))
  refine g_aload_n (i := 1) dL_law_1745 rfl rfl ?_
  refine g_aload_n (i := 0) dL_law_1746 rfl rfl ?_
  refine g_iload dL_law_1747 rfl ?_
  refine g_iconst (v := 1) dL_law_1749 (by decide) ?_
  refine g_iadd dL_law_1750 ?_
  refine g_sld dL_law_1751 (lw_ix1 hk) (by omega) ?_
  refine g_aload_n (i := 3) dL_law_1752 rfl rfl ?_
  refine g_callS hE dL_law_1753 ml_L_247 csL_legendSpread rfl rfl (Nat.le_of_ble_eq_true rfl) (Nat.le_of_ble_eq_true rfl) (by omega) (by omega) (kr_jw (KC := KC) (KS := KS) (by omega) (by omega) (fun k0 X2 f2 d2 Pm hM hJ => ?_)) kx_jw
  refine g_istore dL_law_1756 (Nat.le_of_ble_eq_true rfl) ?_
  refine g_aload_n (i := 2) dL_law_1758 rfl rfl ?_
  refine g_aload_n (i := 0) dL_law_1759 rfl rfl ?_
  refine g_iload dL_law_1760 rfl ?_
  refine g_iconst (v := 1) dL_law_1762 (by decide) ?_
  refine g_iadd dL_law_1763 ?_
  refine g_sld dL_law_1764 (lw_ix1 hk) (by omega) ?_
  refine g_callV hM dL_law_1765 ml_L_249 cvX10_legendSpread K_X10 rfl LW_30 rfl rfl (Nat.le_of_ble_eq_true rfl) (Nat.le_of_ble_eq_true rfl) (Nat.zero_le _) (Nat.zero_le _) (kr_jm hJ (fun b Y2 h11 hb hR2 => ?_)) (kx_jm hJ)
  refine g_istore dL_law_1768 (Nat.le_of_ble_eq_true rfl) ?_
  refine g_aload_n (i := 2) dL_law_1770 rfl rfl ?_
  refine g_callV (ev_thrownL hl) dL_law_1771 ml_L_157 cvX10_thrown K_X10 rfl LW_30 rfl rfl (Nat.le_of_ble_eq_true rfl) (Nat.le_of_ble_eq_true rfl) (Nat.zero_le _) (Nat.zero_le _) (kr_rt ?_) kx_rt
  refine g_iload dL_law_1774 rfl ?_
  refine g_icmp_eq (tgt := 1781) dL_law_1776 (by decide) (fun _ => ?_) (fun c9 => absurd h11 c9)
  refine g_iload dL_law_1781 rfl ?_
  refine g_if_ne (tgt := 1798) dL_law_1783 (by decide) (fun _ => ?_) (fun c0 => ?_)
  · refine g_goto (tgt := 2620) dL_law_1798 (by decide) ?_
    exact nx _ _ _ _ _ _ _ hR2
  · have e8 : f2 0 = b.toInt64 := hb c0
    refine g_aload_n (i := 3) dL_law_1786 rfl rfl ?_
    refine g_iconst (v := 0) dL_law_1787 (by decide) ?_
    refine g_lald dL_law_1788 LW_60 (ix_nI (j := 0) (by decide)) (by decide) ?_
    refine g_iload dL_law_1789 rfl ?_
    refine g_i2l dL_law_1791 ?_
    refine g_lcmp dL_law_1792 ?_
    refine g_if_eq (tgt := 1798) dL_law_1793 (by decide) (fun _ => ?_) (fun c9 => absurd (lgc0.mpr e8) c9)
    refine g_goto (tgt := 2620) dL_law_1798 (by decide) ?_
    exact nx _ _ _ _ _ _ _ hR2

set_option maxRecDepth 100000 in
theorem lw_c28 {l : Launch} {G : GG} (hl : l.stackTraces = false) {A : AD} {k KC KS : Nat} {P : Post} (hk : k < 512) (hj : 5 * k + 4 < (gX G).2.1) {X : CL} {Y : YS} {fo : Nat → Int64} {fd : Nat → UInt64} (hR : RelX k X Y) {v6 v7 v8 : Option Value} (nx : lwN l G A k KC KS P) : Go l G mL_law 40 (KC + 25) (KS + 3550) P 1801 (lwL G A k v6 v7 v8) [] (LW A X Y fo fd) := by
  obtain ⟨M, N, c, q, H, L, R, t, l9, O⟩ := X
  obtain ⟨a, f⟩ := Y
  have hR : RelP k M N t l9 O a f := hR
  obtain ⟨mc, ms, hmc, hms, hE⟩ := jt_legendSpreadByTable (G := G) (A := A) (fo := fo) (fd := fd) hl hR (p0 := ((gX G).2.2 (5 * k + 1)))
  refine g_aload_n (i := 1) dL_law_1801 rfl rfl ?_
  refine g_aload_n (i := 0) dL_law_1802 rfl rfl ?_
  refine g_iload dL_law_1803 rfl ?_
  refine g_iconst (v := 1) dL_law_1805 (by decide) ?_
  refine g_iadd dL_law_1806 ?_
  refine g_sld dL_law_1807 (lw_ix1 hk) (by omega) ?_
  refine g_aload_n (i := 3) dL_law_1808 rfl rfl ?_
  refine g_callS hE dL_law_1809 ml_L_250 csL_legendSpreadByTable rfl rfl (Nat.le_of_ble_eq_true rfl) (Nat.le_of_ble_eq_true rfl) (by omega) (by omega) (kr_jw (KC := KC) (KS := KS) (by omega) (by omega) (fun k0 X2 f2 d2 Pm hM hJ => ?_)) kx_jw
  refine g_istore dL_law_1812 (Nat.le_of_ble_eq_true rfl) ?_
  refine g_aload_n (i := 2) dL_law_1814 rfl rfl ?_
  refine g_aload_n (i := 0) dL_law_1815 rfl rfl ?_
  refine g_iload dL_law_1816 rfl ?_
  refine g_iconst (v := 1) dL_law_1818 (by decide) ?_
  refine g_iadd dL_law_1819 ?_
  refine g_sld dL_law_1820 (lw_ix1 hk) (by omega) ?_
  refine g_callV hM dL_law_1821 ml_L_252 cvX10_legendSpreadByTable K_X10 rfl LW_30 rfl rfl (Nat.le_of_ble_eq_true rfl) (Nat.le_of_ble_eq_true rfl) (Nat.zero_le _) (Nat.zero_le _) (kr_jm hJ (fun b Y2 h11 hb hR2 => ?_)) (kx_jm hJ)
  refine g_istore dL_law_1824 (Nat.le_of_ble_eq_true rfl) ?_
  refine g_aload_n (i := 2) dL_law_1826 rfl rfl ?_
  refine g_callV (ev_thrownL hl) dL_law_1827 ml_L_157 cvX10_thrown K_X10 rfl LW_30 rfl rfl (Nat.le_of_ble_eq_true rfl) (Nat.le_of_ble_eq_true rfl) (Nat.zero_le _) (Nat.zero_le _) (kr_rt ?_) kx_rt
  refine g_iload dL_law_1830 rfl ?_
  refine g_icmp_eq (tgt := 1837) dL_law_1832 (by decide) (fun _ => ?_) (fun c9 => absurd h11 c9)
  refine g_iload dL_law_1837 rfl ?_
  refine g_if_ne (tgt := 1854) dL_law_1839 (by decide) (fun _ => ?_) (fun c0 => ?_)
  · refine g_goto (tgt := 2620) dL_law_1854 (by decide) ?_
    exact nx _ _ _ _ _ _ _ hR2
  · have e8 : f2 0 = b.toInt64 := hb c0
    refine g_aload_n (i := 3) dL_law_1842 rfl rfl ?_
    refine g_iconst (v := 0) dL_law_1843 (by decide) ?_
    refine g_lald dL_law_1844 LW_60 (ix_nI (j := 0) (by decide)) (by decide) ?_
    refine g_iload dL_law_1845 rfl ?_
    refine g_i2l dL_law_1847 ?_
    refine g_lcmp dL_law_1848 ?_
    refine g_if_eq (tgt := 1854) dL_law_1849 (by decide) (fun _ => ?_) (fun c9 => absurd (lgc0.mpr e8) c9)
    refine g_goto (tgt := 2620) dL_law_1854 (by decide) ?_
    exact nx _ _ _ _ _ _ _ hR2

set_option maxRecDepth 100000 in
theorem lw_c29 {l : Launch} {G : GG} (hl : l.stackTraces = false) {A : AD} {k KC KS : Nat} {P : Post} (hk : k < 512) (hj : 5 * k + 4 < (gX G).2.1) {X : CL} {Y : YS} {fo : Nat → Int64} {fd : Nat → UInt64} (hR : RelX k X Y) {v6 v7 v8 : Option Value} (nx : lwN l G A k KC KS P) : Go l G mL_law 40 (KC + 25) (KS + 3550) P 1857 (lwL G A k v6 v7 v8) [] (LW A X Y fo fd) := by
  obtain ⟨M, N, c, q, H, L, R, t, l9, O⟩ := X
  obtain ⟨a, f⟩ := Y
  have hR : RelP k M N t l9 O a f := hR
  obtain ⟨mc, ms, hmc, hms, hE⟩ := jt_classBegin (G := G) (A := A) (fo := fo) (fd := fd) hl hR (p0 := ((gX G).2.2 (5 * k + 1))) (p1 := ((gX G).2.2 (5 * k + 2)))
  refine g_aload_n (i := 1) dL_law_1857 rfl rfl ?_
  refine g_aload_n (i := 0) dL_law_1858 rfl rfl ?_
  refine g_iload dL_law_1859 rfl ?_
  refine g_iconst (v := 1) dL_law_1861 (by decide) ?_
  refine g_iadd dL_law_1862 ?_
  refine g_sld dL_law_1863 (lw_ix1 hk) (by omega) ?_
  refine g_aload_n (i := 0) dL_law_1864 rfl rfl ?_
  refine g_iload dL_law_1865 rfl ?_
  refine g_iconst (v := 2) dL_law_1867 (by decide) ?_
  refine g_iadd dL_law_1868 ?_
  refine g_sld dL_law_1869 (lw_ix2 hk) (by omega) ?_
  refine g_aload_n (i := 3) dL_law_1870 rfl rfl ?_
  refine g_callS hE dL_law_1871 ml_L_253 csL_classBegin rfl rfl (Nat.le_of_ble_eq_true rfl) (Nat.le_of_ble_eq_true rfl) (by omega) (by omega) (kr_jw (KC := KC) (KS := KS) (by omega) (by omega) (fun k0 X2 f2 d2 Pm hM hJ => ?_)) kx_jw
  refine g_istore dL_law_1874 (Nat.le_of_ble_eq_true rfl) ?_
  refine g_aload_n (i := 2) dL_law_1876 rfl rfl ?_
  refine g_aload_n (i := 0) dL_law_1877 rfl rfl ?_
  refine g_iload dL_law_1878 rfl ?_
  refine g_iconst (v := 1) dL_law_1880 (by decide) ?_
  refine g_iadd dL_law_1881 ?_
  refine g_sld dL_law_1882 (lw_ix1 hk) (by omega) ?_
  refine g_aload_n (i := 0) dL_law_1883 rfl rfl ?_
  refine g_iload dL_law_1884 rfl ?_
  refine g_iconst (v := 2) dL_law_1886 (by decide) ?_
  refine g_iadd dL_law_1887 ?_
  refine g_sld dL_law_1888 (lw_ix2 hk) (by omega) ?_
  refine g_callV hM dL_law_1889 ml_L_255 cvX10_classBegin K_X10 rfl LW_30 rfl rfl (Nat.le_of_ble_eq_true rfl) (Nat.le_of_ble_eq_true rfl) (Nat.zero_le _) (Nat.zero_le _) (kr_jm hJ (fun b Y2 h11 hb hR2 => ?_)) (kx_jm hJ)
  refine g_istore dL_law_1892 (Nat.le_of_ble_eq_true rfl) ?_
  refine g_aload_n (i := 2) dL_law_1894 rfl rfl ?_
  refine g_callV (ev_thrownL hl) dL_law_1895 ml_L_157 cvX10_thrown K_X10 rfl LW_30 rfl rfl (Nat.le_of_ble_eq_true rfl) (Nat.le_of_ble_eq_true rfl) (Nat.zero_le _) (Nat.zero_le _) (kr_rt ?_) kx_rt
  refine g_iload dL_law_1898 rfl ?_
  refine g_icmp_eq (tgt := 1905) dL_law_1900 (by decide) (fun _ => ?_) (fun c9 => absurd h11 c9)
  refine g_iload dL_law_1905 rfl ?_
  refine g_if_ne (tgt := 1922) dL_law_1907 (by decide) (fun _ => ?_) (fun c0 => ?_)
  · refine g_goto (tgt := 2620) dL_law_1922 (by decide) ?_
    exact nx _ _ _ _ _ _ _ hR2
  · have e8 : f2 0 = b.toInt64 := hb c0
    refine g_aload_n (i := 3) dL_law_1910 rfl rfl ?_
    refine g_iconst (v := 0) dL_law_1911 (by decide) ?_
    refine g_lald dL_law_1912 LW_60 (ix_nI (j := 0) (by decide)) (by decide) ?_
    refine g_iload dL_law_1913 rfl ?_
    refine g_i2l dL_law_1915 ?_
    refine g_lcmp dL_law_1916 ?_
    refine g_if_eq (tgt := 1922) dL_law_1917 (by decide) (fun _ => ?_) (fun c9 => absurd (lgc0.mpr e8) c9)
    refine g_goto (tgt := 2620) dL_law_1922 (by decide) ?_
    exact nx _ _ _ _ _ _ _ hR2

set_option maxRecDepth 100000 in
theorem lw_c30 {l : Launch} {G : GG} (hl : l.stackTraces = false) {A : AD} {k KC KS : Nat} {P : Post} (hk : k < 512) (hj : 5 * k + 4 < (gX G).2.1) {X : CL} {Y : YS} {fo : Nat → Int64} {fd : Nat → UInt64} (hR : RelX k X Y) {v6 v7 v8 : Option Value} (nx : lwN l G A k KC KS P) : Go l G mL_law 40 (KC + 25) (KS + 3550) P 1925 (lwL G A k v6 v7 v8) [] (LW A X Y fo fd) := by
  obtain ⟨M, N, c, q, H, L, R, t, l9, O⟩ := X
  obtain ⟨a, f⟩ := Y
  have hR : RelP k M N t l9 O a f := hR
  obtain ⟨mc, ms, hmc, hms, hE⟩ := jt_classOf (G := G) (A := A) (fo := fo) (fd := fd) hl hR (p0 := ((gX G).2.2 (5 * k + 1))) (p1 := ((gX G).2.2 (5 * k + 2))) (p2 := ((gX G).2.2 (5 * k + 3)))
  refine g_aload_n (i := 1) dL_law_1925 rfl rfl ?_
  refine g_aload_n (i := 0) dL_law_1926 rfl rfl ?_
  refine g_iload dL_law_1927 rfl ?_
  refine g_iconst (v := 1) dL_law_1929 (by decide) ?_
  refine g_iadd dL_law_1930 ?_
  refine g_sld dL_law_1931 (lw_ix1 hk) (by omega) ?_
  refine g_aload_n (i := 0) dL_law_1932 rfl rfl ?_
  refine g_iload dL_law_1933 rfl ?_
  refine g_iconst (v := 2) dL_law_1935 (by decide) ?_
  refine g_iadd dL_law_1936 ?_
  refine g_sld dL_law_1937 (lw_ix2 hk) (by omega) ?_
  refine g_aload_n (i := 0) dL_law_1938 rfl rfl ?_
  refine g_iload dL_law_1939 rfl ?_
  refine g_iconst (v := 3) dL_law_1941 (by decide) ?_
  refine g_iadd dL_law_1942 ?_
  refine g_sld dL_law_1943 (lw_ix3 hk) (by omega) ?_
  refine g_aload_n (i := 3) dL_law_1944 rfl rfl ?_
  refine g_callS hE dL_law_1945 ml_L_256 csL_classOf rfl rfl (Nat.le_of_ble_eq_true rfl) (Nat.le_of_ble_eq_true rfl) (by omega) (by omega) (kr_jw (KC := KC) (KS := KS) (by omega) (by omega) (fun k0 X2 f2 d2 Pm hM hJ => ?_)) kx_jw
  refine g_istore dL_law_1948 (Nat.le_of_ble_eq_true rfl) ?_
  refine g_aload_n (i := 2) dL_law_1950 rfl rfl ?_
  refine g_aload_n (i := 0) dL_law_1951 rfl rfl ?_
  refine g_iload dL_law_1952 rfl ?_
  refine g_iconst (v := 1) dL_law_1954 (by decide) ?_
  refine g_iadd dL_law_1955 ?_
  refine g_sld dL_law_1956 (lw_ix1 hk) (by omega) ?_
  refine g_aload_n (i := 0) dL_law_1957 rfl rfl ?_
  refine g_iload dL_law_1958 rfl ?_
  refine g_iconst (v := 2) dL_law_1960 (by decide) ?_
  refine g_iadd dL_law_1961 ?_
  refine g_sld dL_law_1962 (lw_ix2 hk) (by omega) ?_
  refine g_aload_n (i := 0) dL_law_1963 rfl rfl ?_
  refine g_iload dL_law_1964 rfl ?_
  refine g_iconst (v := 3) dL_law_1966 (by decide) ?_
  refine g_iadd dL_law_1967 ?_
  refine g_sld dL_law_1968 (lw_ix3 hk) (by omega) ?_
  refine g_callV hM dL_law_1969 ml_L_258 cvX10_classOf K_X10 rfl LW_30 rfl rfl (Nat.le_of_ble_eq_true rfl) (Nat.le_of_ble_eq_true rfl) (Nat.zero_le _) (Nat.zero_le _) (kr_jm hJ (fun b Y2 h11 hb hR2 => ?_)) (kx_jm hJ)
  refine g_istore dL_law_1972 (Nat.le_of_ble_eq_true rfl) ?_
  refine g_aload_n (i := 2) dL_law_1974 rfl rfl ?_
  refine g_callV (ev_thrownL hl) dL_law_1975 ml_L_157 cvX10_thrown K_X10 rfl LW_30 rfl rfl (Nat.le_of_ble_eq_true rfl) (Nat.le_of_ble_eq_true rfl) (Nat.zero_le _) (Nat.zero_le _) (kr_rt ?_) kx_rt
  refine g_iload dL_law_1978 rfl ?_
  refine g_icmp_eq (tgt := 1985) dL_law_1980 (by decide) (fun _ => ?_) (fun c9 => absurd h11 c9)
  refine g_iload dL_law_1985 rfl ?_
  refine g_if_ne (tgt := 2002) dL_law_1987 (by decide) (fun _ => ?_) (fun c0 => ?_)
  · refine g_goto (tgt := 2620) dL_law_2002 (by decide) ?_
    exact nx _ _ _ _ _ _ _ hR2
  · have e8 : f2 0 = b.toInt64 := hb c0
    refine g_aload_n (i := 3) dL_law_1990 rfl rfl ?_
    refine g_iconst (v := 0) dL_law_1991 (by decide) ?_
    refine g_lald dL_law_1992 LW_60 (ix_nI (j := 0) (by decide)) (by decide) ?_
    refine g_iload dL_law_1993 rfl ?_
    refine g_i2l dL_law_1995 ?_
    refine g_lcmp dL_law_1996 ?_
    refine g_if_eq (tgt := 2002) dL_law_1997 (by decide) (fun _ => ?_) (fun c9 => absurd (lgc0.mpr e8) c9)
    refine g_goto (tgt := 2620) dL_law_2002 (by decide) ?_
    exact nx _ _ _ _ _ _ _ hR2

set_option maxRecDepth 100000 in
theorem lw_c31 {l : Launch} {G : GG} (hl : l.stackTraces = false) {A : AD} {k KC KS : Nat} {P : Post} (hk : k < 512) (hj : 5 * k + 4 < (gX G).2.1) {X : CL} {Y : YS} {fo : Nat → Int64} {fd : Nat → UInt64} (hR : RelX k X Y) {v6 v7 v8 : Option Value} (nx : lwN l G A k KC KS P) : Go l G mL_law 40 (KC + 25) (KS + 3550) P 2005 (lwL G A k v6 v7 v8) [] (LW A X Y fo fd) := by
  obtain ⟨M, N, c, q, H, L, R, t, l9, O⟩ := X
  obtain ⟨a, f⟩ := Y
  have hR : RelP k M N t l9 O a f := hR
  obtain ⟨mc, ms, hmc, hms, hE⟩ := jt_append (G := G) (A := A) (fo := fo) (fd := fd) hl hR (p0 := (((gX G).2.2 (5 * k + 1)).toUInt32 % 65536).toInt32)
  refine g_aload_n (i := 1) dL_law_2005 rfl rfl ?_
  refine g_aload_n (i := 0) dL_law_2006 rfl rfl ?_
  refine g_iload dL_law_2007 rfl ?_
  refine g_iconst (v := 1) dL_law_2009 (by decide) ?_
  refine g_iadd dL_law_2010 ?_
  refine g_sld dL_law_2011 (lw_ix1 hk) (by omega) ?_
  refine g_i2c dL_law_2012 rfl ?_
  refine g_aload_n (i := 3) dL_law_2013 rfl rfl ?_
  refine g_callS hE dL_law_2014 ml_L_259 csL_append rfl rfl (Nat.le_of_ble_eq_true rfl) (Nat.le_of_ble_eq_true rfl) (by omega) (by omega) (kr_jw (KC := KC) (KS := KS) (by omega) (by omega) (fun k0 X2 f2 d2 Pm hM hJ => ?_)) kx_jw
  refine g_istore dL_law_2017 (Nat.le_of_ble_eq_true rfl) ?_
  refine g_aload_n (i := 2) dL_law_2019 rfl rfl ?_
  refine g_aload_n (i := 0) dL_law_2020 rfl rfl ?_
  refine g_iload dL_law_2021 rfl ?_
  refine g_iconst (v := 1) dL_law_2023 (by decide) ?_
  refine g_iadd dL_law_2024 ?_
  refine g_sld dL_law_2025 (lw_ix1 hk) (by omega) ?_
  refine g_i2c dL_law_2026 rfl ?_
  refine g_callV hM dL_law_2027 ml_L_262 cvX10_append K_X10 rfl LW_30 rfl rfl (Nat.le_of_ble_eq_true rfl) (Nat.le_of_ble_eq_true rfl) (Nat.zero_le _) (Nat.zero_le _) (kr_jm hJ (fun b Y2 h11 hb hR2 => ?_)) (kx_jm hJ)
  refine g_istore dL_law_2030 (Nat.le_of_ble_eq_true rfl) ?_
  refine g_aload_n (i := 2) dL_law_2032 rfl rfl ?_
  refine g_callV (ev_thrownL hl) dL_law_2033 ml_L_157 cvX10_thrown K_X10 rfl LW_30 rfl rfl (Nat.le_of_ble_eq_true rfl) (Nat.le_of_ble_eq_true rfl) (Nat.zero_le _) (Nat.zero_le _) (kr_rt ?_) kx_rt
  refine g_iload dL_law_2036 rfl ?_
  refine g_icmp_eq (tgt := 2043) dL_law_2038 (by decide) (fun _ => ?_) (fun c9 => absurd h11 c9)
  refine g_iload dL_law_2043 rfl ?_
  refine g_if_ne (tgt := 2060) dL_law_2045 (by decide) (fun _ => ?_) (fun c0 => ?_)
  · refine g_goto (tgt := 2620) dL_law_2060 (by decide) ?_
    exact nx _ _ _ _ _ _ _ hR2
  · have e8 : f2 0 = b.toInt64 := hb c0
    refine g_aload_n (i := 3) dL_law_2048 rfl rfl ?_
    refine g_iconst (v := 0) dL_law_2049 (by decide) ?_
    refine g_lald dL_law_2050 LW_60 (ix_nI (j := 0) (by decide)) (by decide) ?_
    refine g_iload dL_law_2051 rfl ?_
    refine g_i2l dL_law_2053 ?_
    refine g_lcmp dL_law_2054 ?_
    refine g_if_eq (tgt := 2060) dL_law_2055 (by decide) (fun _ => ?_) (fun c9 => absurd (lgc0.mpr e8) c9)
    refine g_goto (tgt := 2620) dL_law_2060 (by decide) ?_
    exact nx _ _ _ _ _ _ _ hR2

