/-! ===== the law, case by case ===== -/
def kW_handOver : List (Nat × Instr × Nat) := [(1609, .aload_n 1, 1), (1610, .aload_n 3, 1), (1611, .invokestatic 222, 3), (1614, .istore 5, 2), (1616, .aload_n 2, 1), (1617, .invokevirtual 224, 3), (1620, .istore 6, 2), (1622, .aload_n 2, 1), (1623, .invokevirtual 140, 3), (1626, .iload 5, 2), (1628, .if_icmp .eq 5, 3), (1631, .iconst 0, 1), (1632, .ireturn, 1), (1633, .iload 5, 2), (1635, .ifCond .ne 15, 3), (1638, .aload_n 3, 1), (1639, .iconst 0, 1), (1640, .laload, 1), (1641, .iload 6, 2), (1643, .i2l, 1), (1644, .lcmp, 1), (1645, .ifCond .eq 5, 3), (1648, .iconst 0, 1), (1649, .ireturn, 1), (1650, .goto 857, 3)]
theorem dcW_handOver : kW_handOver.all (fun q => decide (decode code q.1 = .ok q.2)) = true := by decide +kernel
theorem lc_handOver {K : x_KT} {b L i kc ks : Nat} {xs : Nat → Int32} {σ : xSig} (hC : x_LC K b L xs) (hI : INV i σ) (hi : i < 512) (hj : 5 * i + 5 ≤ L) (hkc : kc + 1 ≤ 601024) (hks : ks + 6 ≤ 7293034) (kk : ∀ K' : x_KT, x_LC K' b L xs → ∀ σ2 : xSig, INV (i + 1) σ2 → x_F K' 8 [(0, .ref b)] 2507 (lsL i) [] (St σ2) (kc + 1) (ks + 6)) : x_F K 8 [(0, .ref b)] 1609 (lsL i) [] (St σ) kc ks := by
  obtain ⟨σ1, σ2, code9, z, y, hcode, hc0, hc1, hm, h47, hzy, hI2⟩ := st_handOver hI
  have hcr : 0 ≤ code9 ∧ code9 ≤ 1 := hcode
  have C := hC.1
  have hxc : xr code9 := by unfold xr; omega
  obtain ⟨f, f0, f1⟩ := f9_of code9 (zI z)
  have spH := sw_handOver (f9 := f) hcr hc0 hc1 f0 f1
  refine f_aload_n C 1610 (dq dcW_handOver 0 rfl) rfl rfl rfl ?_
  refine f_aload_n C 1611 (dq dcW_handOver 1 rfl) rfl rfl rfl ?_
  refine f_callH hC 1614 (n := 2) rfl spH cwL_handOver msL_handOver (by decide +kernel) ⟨(Nat.le_of_ble_eq_true rfl), (Nat.le_of_ble_eq_true rfl)⟩ (dq dcW_handOver 2 rfl) rfl rfl rfl (Nat.le_of_ble_eq_true rfl) (by omega) (by omega) ?_
  refine f_istore (C.out _) 1616 (dq dcW_handOver 3 rfl) rfl (Nat.le_of_ble_eq_true rfl) rfl rfl ?_
  refine f_aload_n (C.out _) 1617 (dq dcW_handOver 4 rfl) rfl rfl rfl ?_
  refine f_callL (hC.out _) 1620 hm okX12_handOver cvL_224 ⟨(Nat.le_of_ble_eq_true rfl), (Nat.le_of_ble_eq_true rfl)⟩ (dq dcW_handOver 5 rfl) rfl (Nat.le_of_ble_eq_true rfl) rfl rfl rfl rfl rfl (Nat.le_of_ble_eq_true rfl) (by omega) (by omega) ?_
  refine f_istore (C.out _) 1622 (dq dcW_handOver 6 rfl) rfl (Nat.le_of_ble_eq_true rfl) rfl rfl ?_
  refine f_aload_n (C.out _) 1623 (dq dcW_handOver 7 rfl) rfl rfl rfl ?_
  have spT : x_Sp MX12_thrown 0 0 [.ref 281] (St σ2) (iv code9) (St σ2) := h47 ▸ sp_mThrown
  refine f_callL (hC.out _) 1626 spT okX12_thrown cvL_140 ⟨(Nat.le_of_ble_eq_true rfl), (Nat.le_of_ble_eq_true rfl)⟩ (dq dcW_handOver 8 rfl) rfl (Nat.le_of_ble_eq_true rfl) rfl rfl rfl rfl rfl (Nat.le_of_ble_eq_true rfl) (by omega) (by omega) ?_
  refine f_iload (C.out _) 1628 (dq dcW_handOver 9 rfl) rfl rfl ?_
  refine f_icmp_eq (C.out _) 1633 1631 (dq dcW_handOver 10 rfl) rfl rfl hxc hxc (fun _ => ?_) (fun q => absurd rfl q)
  refine f_iload (C.out _) 1635 (dq dcW_handOver 13 rfl) rfl rfl ?_
  refine f_if_ne (C.out _) 1650 1638 (dq dcW_handOver 14 rfl) rfl rfl hxc (fun h0 => ?_) (fun h0 => ?_)
  · skip
    refine f_goto (C.out _) 2507 (dq dcW_handOver 24 rfl) rfl ?_
    refine f_drop (lsL i) (fun k u hk => by match k, hk with | 0, hk => exact hk | 1, hk => exact hk | 2, hk => exact hk | 3, hk => exact hk | 4, hk => exact hk | 5, hk => cases hk | 6, hk => cases hk | 7, hk => cases hk | k + 8, hk => cases hk) ?_
    exact kk _ (hC.out _) _ hI2
  · have hv := (congrArg Int64.ofNat (congrFun (f0 h0) ((kG K).2 9))).trans (o9_of _)
    obtain rfl := hzy h0
    refine f_aload_n (C.out _) 1639 (dq dcW_handOver 15 rfl) rfl rfl rfl ?_
    refine f_iconst (C.out _) 1640 (dq dcW_handOver 16 rfl) rfl ?_
    refine f_laload9 (C.out _) 1641 (dq dcW_handOver 17 rfl) rfl (Nat.le_of_ble_eq_true rfl) rfl hv ?_
    refine f_iload (C.out _) 1643 (dq dcW_handOver 18 rfl) rfl rfl ?_
    refine f_i2lz (C.out _) 1644 (dq dcW_handOver 19 rfl) rfl ?_
    refine f_lcmpE (C.out _) 1645 (dq dcW_handOver 20 rfl) rfl ?_
    refine f_if_eq (C.out _) 1650 1648 (dq dcW_handOver 21 rfl) rfl rfl xr_0 (fun _ => ?_) (fun q => absurd rfl q)
    refine f_goto (C.out _) 2507 (dq dcW_handOver 24 rfl) rfl ?_
    refine f_drop (lsL i) (fun k u hk => by match k, hk with | 0, hk => exact hk | 1, hk => exact hk | 2, hk => exact hk | 3, hk => exact hk | 4, hk => exact hk | 5, hk => cases hk | 6, hk => cases hk | 7, hk => cases hk | k + 8, hk => cases hk) ?_
    exact kk _ (hC.out _) _ hI2
def kW_giveUp : List (Nat × Instr × Nat) := [(1653, .aload_n 1, 1), (1654, .aload_n 3, 1), (1655, .invokestatic 225, 3), (1658, .istore 5, 2), (1660, .aload_n 2, 1), (1661, .invokevirtual 227, 3), (1664, .istore 6, 2), (1666, .aload_n 2, 1), (1667, .invokevirtual 140, 3), (1670, .iload 5, 2), (1672, .if_icmp .eq 5, 3), (1675, .iconst 0, 1), (1676, .ireturn, 1), (1677, .iload 5, 2), (1679, .ifCond .ne 15, 3), (1682, .aload_n 3, 1), (1683, .iconst 0, 1), (1684, .laload, 1), (1685, .iload 6, 2), (1687, .i2l, 1), (1688, .lcmp, 1), (1689, .ifCond .eq 5, 3), (1692, .iconst 0, 1), (1693, .ireturn, 1), (1694, .goto 813, 3)]
theorem dcW_giveUp : kW_giveUp.all (fun q => decide (decode code q.1 = .ok q.2)) = true := by decide +kernel
theorem lc_giveUp {K : x_KT} {b L i kc ks : Nat} {xs : Nat → Int32} {σ : xSig} (hC : x_LC K b L xs) (hI : INV i σ) (hi : i < 512) (hj : 5 * i + 5 ≤ L) (hkc : kc + 1 ≤ 601024) (hks : ks + 6 ≤ 7293034) (kk : ∀ K' : x_KT, x_LC K' b L xs → ∀ σ2 : xSig, INV (i + 1) σ2 → x_F K' 8 [(0, .ref b)] 2507 (lsL i) [] (St σ2) (kc + 1) (ks + 6)) : x_F K 8 [(0, .ref b)] 1653 (lsL i) [] (St σ) kc ks := by
  obtain ⟨σ1, σ2, code9, z, y, hcode, hc0, hc1, hm, h47, hzy, hI2⟩ := st_giveUp hI
  have hcr : 0 ≤ code9 ∧ code9 ≤ 1 := hcode
  have C := hC.1
  have hxc : xr code9 := by unfold xr; omega
  obtain ⟨f, f0, f1⟩ := f9_of code9 (zI z)
  have spH := sw_giveUp (f9 := f) hcr hc0 hc1 f0 f1
  refine f_aload_n C 1654 (dq dcW_giveUp 0 rfl) rfl rfl rfl ?_
  refine f_aload_n C 1655 (dq dcW_giveUp 1 rfl) rfl rfl rfl ?_
  refine f_callH hC 1658 (n := 2) rfl spH cwL_giveUp msL_giveUp (by decide +kernel) ⟨(Nat.le_of_ble_eq_true rfl), (Nat.le_of_ble_eq_true rfl)⟩ (dq dcW_giveUp 2 rfl) rfl rfl rfl (Nat.le_of_ble_eq_true rfl) (by omega) (by omega) ?_
  refine f_istore (C.out _) 1660 (dq dcW_giveUp 3 rfl) rfl (Nat.le_of_ble_eq_true rfl) rfl rfl ?_
  refine f_aload_n (C.out _) 1661 (dq dcW_giveUp 4 rfl) rfl rfl rfl ?_
  refine f_callL (hC.out _) 1664 hm okX12_giveUp cvL_227 ⟨(Nat.le_of_ble_eq_true rfl), (Nat.le_of_ble_eq_true rfl)⟩ (dq dcW_giveUp 5 rfl) rfl (Nat.le_of_ble_eq_true rfl) rfl rfl rfl rfl rfl (Nat.le_of_ble_eq_true rfl) (by omega) (by omega) ?_
  refine f_istore (C.out _) 1666 (dq dcW_giveUp 6 rfl) rfl (Nat.le_of_ble_eq_true rfl) rfl rfl ?_
  refine f_aload_n (C.out _) 1667 (dq dcW_giveUp 7 rfl) rfl rfl rfl ?_
  have spT : x_Sp MX12_thrown 0 0 [.ref 281] (St σ2) (iv code9) (St σ2) := h47 ▸ sp_mThrown
  refine f_callL (hC.out _) 1670 spT okX12_thrown cvL_140 ⟨(Nat.le_of_ble_eq_true rfl), (Nat.le_of_ble_eq_true rfl)⟩ (dq dcW_giveUp 8 rfl) rfl (Nat.le_of_ble_eq_true rfl) rfl rfl rfl rfl rfl (Nat.le_of_ble_eq_true rfl) (by omega) (by omega) ?_
  refine f_iload (C.out _) 1672 (dq dcW_giveUp 9 rfl) rfl rfl ?_
  refine f_icmp_eq (C.out _) 1677 1675 (dq dcW_giveUp 10 rfl) rfl rfl hxc hxc (fun _ => ?_) (fun q => absurd rfl q)
  refine f_iload (C.out _) 1679 (dq dcW_giveUp 13 rfl) rfl rfl ?_
  refine f_if_ne (C.out _) 1694 1682 (dq dcW_giveUp 14 rfl) rfl rfl hxc (fun h0 => ?_) (fun h0 => ?_)
  · skip
    refine f_goto (C.out _) 2507 (dq dcW_giveUp 24 rfl) rfl ?_
    refine f_drop (lsL i) (fun k u hk => by match k, hk with | 0, hk => exact hk | 1, hk => exact hk | 2, hk => exact hk | 3, hk => exact hk | 4, hk => exact hk | 5, hk => cases hk | 6, hk => cases hk | 7, hk => cases hk | k + 8, hk => cases hk) ?_
    exact kk _ (hC.out _) _ hI2
  · have hv := (congrArg Int64.ofNat (congrFun (f0 h0) ((kG K).2 9))).trans (o9_of _)
    obtain rfl := hzy h0
    refine f_aload_n (C.out _) 1683 (dq dcW_giveUp 15 rfl) rfl rfl rfl ?_
    refine f_iconst (C.out _) 1684 (dq dcW_giveUp 16 rfl) rfl ?_
    refine f_laload9 (C.out _) 1685 (dq dcW_giveUp 17 rfl) rfl (Nat.le_of_ble_eq_true rfl) rfl hv ?_
    refine f_iload (C.out _) 1687 (dq dcW_giveUp 18 rfl) rfl rfl ?_
    refine f_i2lz (C.out _) 1688 (dq dcW_giveUp 19 rfl) rfl ?_
    refine f_lcmpE (C.out _) 1689 (dq dcW_giveUp 20 rfl) rfl ?_
    refine f_if_eq (C.out _) 1694 1692 (dq dcW_giveUp 21 rfl) rfl rfl xr_0 (fun _ => ?_) (fun q => absurd rfl q)
    refine f_goto (C.out _) 2507 (dq dcW_giveUp 24 rfl) rfl ?_
    refine f_drop (lsL i) (fun k u hk => by match k, hk with | 0, hk => exact hk | 1, hk => exact hk | 2, hk => exact hk | 3, hk => exact hk | 4, hk => exact hk | 5, hk => cases hk | 6, hk => cases hk | 7, hk => cases hk | k + 8, hk => cases hk) ?_
    exact kk _ (hC.out _) _ hI2
def kW_clean : List (Nat × Instr × Nat) := [(1697, .aload_n 1, 1), (1698, .aload_n 0, 1), (1699, .iload 4, 2), (1701, .iconst 1, 1), (1702, .iadd, 1), (1703, .iaload, 1), (1704, .aload_n 3, 1), (1705, .invokestatic 228, 3), (1708, .istore 5, 2), (1710, .aload_n 2, 1), (1711, .aload_n 0, 1), (1712, .iload 4, 2), (1714, .iconst 1, 1), (1715, .iadd, 1), (1716, .iaload, 1), (1717, .invokevirtual 230, 3), (1720, .istore 6, 2), (1722, .aload_n 2, 1), (1723, .invokevirtual 140, 3), (1726, .iload 5, 2), (1728, .if_icmp .eq 5, 3), (1731, .iconst 0, 1), (1732, .ireturn, 1), (1733, .iload 5, 2), (1735, .ifCond .ne 15, 3), (1738, .aload_n 3, 1), (1739, .iconst 0, 1), (1740, .laload, 1), (1741, .iload 6, 2), (1743, .i2l, 1), (1744, .lcmp, 1), (1745, .ifCond .eq 5, 3), (1748, .iconst 0, 1), (1749, .ireturn, 1), (1750, .goto 757, 3)]
theorem dcW_clean : kW_clean.all (fun q => decide (decode code q.1 = .ok q.2)) = true := by decide +kernel
theorem lc_clean {K : x_KT} {b L i kc ks : Nat} {xs : Nat → Int32} {σ : xSig} (hC : x_LC K b L xs) (hI : INV i σ) (hi : i < 512) (hj : 5 * i + 5 ≤ L) (hkc : kc + 1 ≤ 601024) (hks : ks + 6 ≤ 7293034) (kk : ∀ K' : x_KT, x_LC K' b L xs → ∀ σ2 : xSig, INV (i + 1) σ2 → x_F K' 8 [(0, .ref b)] 2507 (lsL i) [] (St σ2) (kc + 1) (ks + 6)) : x_F K 8 [(0, .ref b)] 1697 (lsL i) [] (St σ) kc ks := by
  obtain ⟨σ1, σ2, code9, z, y, hcode, hc0, hc1, hm, h47, hzy, hI2⟩ := st_clean hI (xs_r (xs := xs) (5 * i + 1))
  have hcr : 0 ≤ code9 ∧ code9 ≤ 1 := hcode
  have C := hC.1
  have hxc : xr code9 := by unfold xr; omega
  obtain ⟨f, f0, f1⟩ := f9_of code9 (zI z)
  have spH := sw_clean (f9 := f) hcr hc0 hc1 f0 f1
  refine f_aload_n C 1698 (dq dcW_clean 0 rfl) rfl rfl rfl ?_
  refine f_sldk hC 1704 1 rfl (by omega) (dq dcW_clean 1 rfl) (dq dcW_clean 2 rfl) (dq dcW_clean 3 rfl) (dq dcW_clean 4 rfl) (dq dcW_clean 5 rfl) rfl ?_
  refine f_aload_n C 1705 (dq dcW_clean 6 rfl) rfl rfl rfl ?_
  refine f_callH hC 1708 (n := 3) rfl spH cwL_clean msL_clean (by decide +kernel) ⟨(Nat.le_of_ble_eq_true rfl), (Nat.le_of_ble_eq_true rfl)⟩ (dq dcW_clean 7 rfl) rfl rfl rfl (Nat.le_of_ble_eq_true rfl) (by omega) (by omega) ?_
  refine f_istore (C.out _) 1710 (dq dcW_clean 8 rfl) rfl (Nat.le_of_ble_eq_true rfl) rfl rfl ?_
  refine f_aload_n (C.out _) 1711 (dq dcW_clean 9 rfl) rfl rfl rfl ?_
  refine f_sldk (hC.out _) 1717 1 rfl (by omega) (dq dcW_clean 10 rfl) (dq dcW_clean 11 rfl) (dq dcW_clean 12 rfl) (dq dcW_clean 13 rfl) (dq dcW_clean 14 rfl) rfl ?_
  refine f_callL (hC.out _) 1720 hm okX12_clean cvL_230 ⟨(Nat.le_of_ble_eq_true rfl), (Nat.le_of_ble_eq_true rfl)⟩ (dq dcW_clean 15 rfl) rfl (Nat.le_of_ble_eq_true rfl) rfl rfl rfl rfl rfl (Nat.le_of_ble_eq_true rfl) (by omega) (by omega) ?_
  refine f_istore (C.out _) 1722 (dq dcW_clean 16 rfl) rfl (Nat.le_of_ble_eq_true rfl) rfl rfl ?_
  refine f_aload_n (C.out _) 1723 (dq dcW_clean 17 rfl) rfl rfl rfl ?_
  have spT : x_Sp MX12_thrown 0 0 [.ref 281] (St σ2) (iv code9) (St σ2) := h47 ▸ sp_mThrown
  refine f_callL (hC.out _) 1726 spT okX12_thrown cvL_140 ⟨(Nat.le_of_ble_eq_true rfl), (Nat.le_of_ble_eq_true rfl)⟩ (dq dcW_clean 18 rfl) rfl (Nat.le_of_ble_eq_true rfl) rfl rfl rfl rfl rfl (Nat.le_of_ble_eq_true rfl) (by omega) (by omega) ?_
  refine f_iload (C.out _) 1728 (dq dcW_clean 19 rfl) rfl rfl ?_
  refine f_icmp_eq (C.out _) 1733 1731 (dq dcW_clean 20 rfl) rfl rfl hxc hxc (fun _ => ?_) (fun q => absurd rfl q)
  refine f_iload (C.out _) 1735 (dq dcW_clean 23 rfl) rfl rfl ?_
  refine f_if_ne (C.out _) 1750 1738 (dq dcW_clean 24 rfl) rfl rfl hxc (fun h0 => ?_) (fun h0 => ?_)
  · skip
    refine f_goto (C.out _) 2507 (dq dcW_clean 34 rfl) rfl ?_
    refine f_drop (lsL i) (fun k u hk => by match k, hk with | 0, hk => exact hk | 1, hk => exact hk | 2, hk => exact hk | 3, hk => exact hk | 4, hk => exact hk | 5, hk => cases hk | 6, hk => cases hk | 7, hk => cases hk | k + 8, hk => cases hk) ?_
    exact kk _ (hC.out _) _ hI2
  · have hv := (congrArg Int64.ofNat (congrFun (f0 h0) ((kG K).2 9))).trans (o9_of _)
    obtain rfl := hzy h0
    refine f_aload_n (C.out _) 1739 (dq dcW_clean 25 rfl) rfl rfl rfl ?_
    refine f_iconst (C.out _) 1740 (dq dcW_clean 26 rfl) rfl ?_
    refine f_laload9 (C.out _) 1741 (dq dcW_clean 27 rfl) rfl (Nat.le_of_ble_eq_true rfl) rfl hv ?_
    refine f_iload (C.out _) 1743 (dq dcW_clean 28 rfl) rfl rfl ?_
    refine f_i2lz (C.out _) 1744 (dq dcW_clean 29 rfl) rfl ?_
    refine f_lcmpE (C.out _) 1745 (dq dcW_clean 30 rfl) rfl ?_
    refine f_if_eq (C.out _) 1750 1748 (dq dcW_clean 31 rfl) rfl rfl xr_0 (fun _ => ?_) (fun q => absurd rfl q)
    refine f_goto (C.out _) 2507 (dq dcW_clean 34 rfl) rfl ?_
    refine f_drop (lsL i) (fun k u hk => by match k, hk with | 0, hk => exact hk | 1, hk => exact hk | 2, hk => exact hk | 3, hk => exact hk | 4, hk => exact hk | 5, hk => cases hk | 6, hk => cases hk | 7, hk => cases hk | k + 8, hk => cases hk) ?_
    exact kk _ (hC.out _) _ hI2
def kW_key : List (Nat × Instr × Nat) := [(1753, .aload_n 1, 1), (1754, .aload_n 0, 1), (1755, .iload 4, 2), (1757, .iconst 1, 1), (1758, .iadd, 1), (1759, .iaload, 1), (1760, .aload_n 0, 1), (1761, .iload 4, 2), (1763, .iconst 2, 1), (1764, .iadd, 1), (1765, .iaload, 1), (1766, .ifCond .eq 7, 3), (1769, .iconst 1, 1), (1770, .goto 4, 3), (1773, .iconst 0, 1), (1774, .aload_n 3, 1), (1775, .invokestatic 231, 3), (1778, .istore 5, 2), (1780, .aload_n 2, 1), (1781, .aload_n 0, 1), (1782, .iload 4, 2), (1784, .iconst 1, 1), (1785, .iadd, 1), (1786, .iaload, 1), (1787, .aload_n 0, 1), (1788, .iload 4, 2), (1790, .iconst 2, 1), (1791, .iadd, 1), (1792, .iaload, 1), (1793, .ifCond .eq 7, 3), (1796, .iconst 1, 1), (1797, .goto 4, 3), (1800, .iconst 0, 1), (1801, .invokevirtual 233, 3), (1804, .istore 6, 2), (1806, .aload_n 2, 1), (1807, .invokevirtual 140, 3), (1810, .iload 5, 2), (1812, .if_icmp .eq 5, 3), (1815, .iconst 0, 1), (1816, .ireturn, 1), (1817, .iload 5, 2), (1819, .ifCond .ne 15, 3), (1822, .aload_n 3, 1), (1823, .iconst 0, 1), (1824, .laload, 1), (1825, .iload 6, 2), (1827, .i2l, 1), (1828, .lcmp, 1), (1829, .ifCond .eq 5, 3), (1832, .iconst 0, 1), (1833, .ireturn, 1), (1834, .goto 673, 3)]
theorem dcW_key : kW_key.all (fun q => decide (decode code q.1 = .ok q.2)) = true := by decide +kernel
theorem lc_key {K : x_KT} {b L i kc ks : Nat} {xs : Nat → Int32} {σ : xSig} (hC : x_LC K b L xs) (hI : INV i σ) (hi : i < 512) (hj : 5 * i + 5 ≤ L) (hkc : kc + 1 ≤ 601024) (hks : ks + 6 ≤ 7293034) (kk : ∀ K' : x_KT, x_LC K' b L xs → ∀ σ2 : xSig, INV (i + 1) σ2 → x_F K' 8 [(0, .ref b)] 2507 (lsL i) [] (St σ2) (kc + 1) (ks + 6)) : x_F K 8 [(0, .ref b)] 1753 (lsL i) [] (St σ) kc ks := by
  by_cases hz : (xs (5 * i + 2)).toInt = 0
  · skip
    obtain ⟨σ1, σ2, code9, z, y, hcode, hc0, hc1, hm, h47, hzy, hI2⟩ := st_key hI (xs_r (xs := xs) (5 * i + 1)) (Or.inl rfl)
    have hcr : 0 ≤ code9 ∧ code9 ≤ 2 := hcode
    have C := hC.1
    have hxc : xr code9 := by unfold xr; omega
    obtain ⟨f, f0, f1⟩ := f9_of code9 (zI z)
    have spH := sw_key (f9 := f) hcr hc0 hc1 f0 f1
    refine f_aload_n C 1754 (dq dcW_key 0 rfl) rfl rfl rfl ?_
    refine f_sldk hC 1760 1 rfl (by omega) (dq dcW_key 1 rfl) (dq dcW_key 2 rfl) (dq dcW_key 3 rfl) (dq dcW_key 4 rfl) (dq dcW_key 5 rfl) rfl ?_
    refine f_sldk hC 1766 2 rfl (by omega) (dq dcW_key 6 rfl) (dq dcW_key 7 rfl) (dq dcW_key 8 rfl) (dq dcW_key 9 rfl) (dq dcW_key 10 rfl) rfl ?_
    refine f_if_eq C 1773 1769 (dq dcW_key 11 rfl) rfl rfl (xs_r _) (fun _ => ?_) (fun q => absurd hz q)
    refine f_iconst C 1774 (dq dcW_key 14 rfl) rfl ?_
    refine f_aload_n C 1775 (dq dcW_key 15 rfl) rfl rfl rfl ?_
    refine f_callH hC 1778 (n := 4) rfl spH cwL_key msL_key (by decide +kernel) ⟨(Nat.le_of_ble_eq_true rfl), (Nat.le_of_ble_eq_true rfl)⟩ (dq dcW_key 16 rfl) rfl rfl rfl (Nat.le_of_ble_eq_true rfl) (by omega) (by omega) ?_
    refine f_istore (C.out _) 1780 (dq dcW_key 17 rfl) rfl (Nat.le_of_ble_eq_true rfl) rfl rfl ?_
    refine f_aload_n (C.out _) 1781 (dq dcW_key 18 rfl) rfl rfl rfl ?_
    refine f_sldk (hC.out _) 1787 1 rfl (by omega) (dq dcW_key 19 rfl) (dq dcW_key 20 rfl) (dq dcW_key 21 rfl) (dq dcW_key 22 rfl) (dq dcW_key 23 rfl) rfl ?_
    refine f_sldk (hC.out _) 1793 2 rfl (by omega) (dq dcW_key 24 rfl) (dq dcW_key 25 rfl) (dq dcW_key 26 rfl) (dq dcW_key 27 rfl) (dq dcW_key 28 rfl) rfl ?_
    refine f_if_eq (C.out _) 1800 1796 (dq dcW_key 29 rfl) rfl rfl (xs_r _) (fun _ => ?_) (fun q => absurd hz q)
    refine f_iconst (C.out _) 1801 (dq dcW_key 32 rfl) rfl ?_
    refine f_callL (hC.out _) 1804 hm okX12_key cvL_233 ⟨(Nat.le_of_ble_eq_true rfl), (Nat.le_of_ble_eq_true rfl)⟩ (dq dcW_key 33 rfl) rfl (Nat.le_of_ble_eq_true rfl) rfl rfl rfl rfl rfl (Nat.le_of_ble_eq_true rfl) (by omega) (by omega) ?_
    refine f_istore (C.out _) 1806 (dq dcW_key 34 rfl) rfl (Nat.le_of_ble_eq_true rfl) rfl rfl ?_
    refine f_aload_n (C.out _) 1807 (dq dcW_key 35 rfl) rfl rfl rfl ?_
    have spT : x_Sp MX12_thrown 0 0 [.ref 281] (St σ2) (iv code9) (St σ2) := h47 ▸ sp_mThrown
    refine f_callL (hC.out _) 1810 spT okX12_thrown cvL_140 ⟨(Nat.le_of_ble_eq_true rfl), (Nat.le_of_ble_eq_true rfl)⟩ (dq dcW_key 36 rfl) rfl (Nat.le_of_ble_eq_true rfl) rfl rfl rfl rfl rfl (Nat.le_of_ble_eq_true rfl) (by omega) (by omega) ?_
    refine f_iload (C.out _) 1812 (dq dcW_key 37 rfl) rfl rfl ?_
    refine f_icmp_eq (C.out _) 1817 1815 (dq dcW_key 38 rfl) rfl rfl hxc hxc (fun _ => ?_) (fun q => absurd rfl q)
    refine f_iload (C.out _) 1819 (dq dcW_key 41 rfl) rfl rfl ?_
    refine f_if_ne (C.out _) 1834 1822 (dq dcW_key 42 rfl) rfl rfl hxc (fun h0 => ?_) (fun h0 => ?_)
    · skip
      refine f_goto (C.out _) 2507 (dq dcW_key 52 rfl) rfl ?_
      refine f_drop (lsL i) (fun k u hk => by match k, hk with | 0, hk => exact hk | 1, hk => exact hk | 2, hk => exact hk | 3, hk => exact hk | 4, hk => exact hk | 5, hk => cases hk | 6, hk => cases hk | 7, hk => cases hk | k + 8, hk => cases hk) ?_
      exact kk _ (hC.out _) _ hI2
    · have hv := (congrArg Int64.ofNat (congrFun (f0 h0) ((kG K).2 9))).trans (o9_of _)
      obtain rfl := hzy h0
      refine f_aload_n (C.out _) 1823 (dq dcW_key 43 rfl) rfl rfl rfl ?_
      refine f_iconst (C.out _) 1824 (dq dcW_key 44 rfl) rfl ?_
      refine f_laload9 (C.out _) 1825 (dq dcW_key 45 rfl) rfl (Nat.le_of_ble_eq_true rfl) rfl hv ?_
      refine f_iload (C.out _) 1827 (dq dcW_key 46 rfl) rfl rfl ?_
      refine f_i2lz (C.out _) 1828 (dq dcW_key 47 rfl) rfl ?_
      refine f_lcmpE (C.out _) 1829 (dq dcW_key 48 rfl) rfl ?_
      refine f_if_eq (C.out _) 1834 1832 (dq dcW_key 49 rfl) rfl rfl xr_0 (fun _ => ?_) (fun q => absurd rfl q)
      refine f_goto (C.out _) 2507 (dq dcW_key 52 rfl) rfl ?_
      refine f_drop (lsL i) (fun k u hk => by match k, hk with | 0, hk => exact hk | 1, hk => exact hk | 2, hk => exact hk | 3, hk => exact hk | 4, hk => exact hk | 5, hk => cases hk | 6, hk => cases hk | 7, hk => cases hk | k + 8, hk => cases hk) ?_
      exact kk _ (hC.out _) _ hI2
  · skip
    obtain ⟨σ1, σ2, code9, z, y, hcode, hc0, hc1, hm, h47, hzy, hI2⟩ := st_key hI (xs_r (xs := xs) (5 * i + 1)) (Or.inr rfl)
    have hcr : 0 ≤ code9 ∧ code9 ≤ 2 := hcode
    have C := hC.1
    have hxc : xr code9 := by unfold xr; omega
    obtain ⟨f, f0, f1⟩ := f9_of code9 (zI z)
    have spH := sw_key (f9 := f) hcr hc0 hc1 f0 f1
    refine f_aload_n C 1754 (dq dcW_key 0 rfl) rfl rfl rfl ?_
    refine f_sldk hC 1760 1 rfl (by omega) (dq dcW_key 1 rfl) (dq dcW_key 2 rfl) (dq dcW_key 3 rfl) (dq dcW_key 4 rfl) (dq dcW_key 5 rfl) rfl ?_
    refine f_sldk hC 1766 2 rfl (by omega) (dq dcW_key 6 rfl) (dq dcW_key 7 rfl) (dq dcW_key 8 rfl) (dq dcW_key 9 rfl) (dq dcW_key 10 rfl) rfl ?_
    refine f_if_eq C 1773 1769 (dq dcW_key 11 rfl) rfl rfl (xs_r _) (fun q => absurd q hz) (fun _ => ?_)
    refine f_iconst C 1770 (dq dcW_key 12 rfl) rfl ?_
    refine f_goto C 1774 (dq dcW_key 13 rfl) rfl ?_
    refine f_aload_n C 1775 (dq dcW_key 15 rfl) rfl rfl rfl ?_
    refine f_callH hC 1778 (n := 4) rfl spH cwL_key msL_key (by decide +kernel) ⟨(Nat.le_of_ble_eq_true rfl), (Nat.le_of_ble_eq_true rfl)⟩ (dq dcW_key 16 rfl) rfl rfl rfl (Nat.le_of_ble_eq_true rfl) (by omega) (by omega) ?_
    refine f_istore (C.out _) 1780 (dq dcW_key 17 rfl) rfl (Nat.le_of_ble_eq_true rfl) rfl rfl ?_
    refine f_aload_n (C.out _) 1781 (dq dcW_key 18 rfl) rfl rfl rfl ?_
    refine f_sldk (hC.out _) 1787 1 rfl (by omega) (dq dcW_key 19 rfl) (dq dcW_key 20 rfl) (dq dcW_key 21 rfl) (dq dcW_key 22 rfl) (dq dcW_key 23 rfl) rfl ?_
    refine f_sldk (hC.out _) 1793 2 rfl (by omega) (dq dcW_key 24 rfl) (dq dcW_key 25 rfl) (dq dcW_key 26 rfl) (dq dcW_key 27 rfl) (dq dcW_key 28 rfl) rfl ?_
    refine f_if_eq (C.out _) 1800 1796 (dq dcW_key 29 rfl) rfl rfl (xs_r _) (fun q => absurd q hz) (fun _ => ?_)
    refine f_iconst (C.out _) 1797 (dq dcW_key 30 rfl) rfl ?_
    refine f_goto (C.out _) 1801 (dq dcW_key 31 rfl) rfl ?_
    refine f_callL (hC.out _) 1804 hm okX12_key cvL_233 ⟨(Nat.le_of_ble_eq_true rfl), (Nat.le_of_ble_eq_true rfl)⟩ (dq dcW_key 33 rfl) rfl (Nat.le_of_ble_eq_true rfl) rfl rfl rfl rfl rfl (Nat.le_of_ble_eq_true rfl) (by omega) (by omega) ?_
    refine f_istore (C.out _) 1806 (dq dcW_key 34 rfl) rfl (Nat.le_of_ble_eq_true rfl) rfl rfl ?_
    refine f_aload_n (C.out _) 1807 (dq dcW_key 35 rfl) rfl rfl rfl ?_
    have spT : x_Sp MX12_thrown 0 0 [.ref 281] (St σ2) (iv code9) (St σ2) := h47 ▸ sp_mThrown
    refine f_callL (hC.out _) 1810 spT okX12_thrown cvL_140 ⟨(Nat.le_of_ble_eq_true rfl), (Nat.le_of_ble_eq_true rfl)⟩ (dq dcW_key 36 rfl) rfl (Nat.le_of_ble_eq_true rfl) rfl rfl rfl rfl rfl (Nat.le_of_ble_eq_true rfl) (by omega) (by omega) ?_
    refine f_iload (C.out _) 1812 (dq dcW_key 37 rfl) rfl rfl ?_
    refine f_icmp_eq (C.out _) 1817 1815 (dq dcW_key 38 rfl) rfl rfl hxc hxc (fun _ => ?_) (fun q => absurd rfl q)
    refine f_iload (C.out _) 1819 (dq dcW_key 41 rfl) rfl rfl ?_
    refine f_if_ne (C.out _) 1834 1822 (dq dcW_key 42 rfl) rfl rfl hxc (fun h0 => ?_) (fun h0 => ?_)
    · skip
      refine f_goto (C.out _) 2507 (dq dcW_key 52 rfl) rfl ?_
      refine f_drop (lsL i) (fun k u hk => by match k, hk with | 0, hk => exact hk | 1, hk => exact hk | 2, hk => exact hk | 3, hk => exact hk | 4, hk => exact hk | 5, hk => cases hk | 6, hk => cases hk | 7, hk => cases hk | k + 8, hk => cases hk) ?_
      exact kk _ (hC.out _) _ hI2
    · have hv := (congrArg Int64.ofNat (congrFun (f0 h0) ((kG K).2 9))).trans (o9_of _)
      obtain rfl := hzy h0
      refine f_aload_n (C.out _) 1823 (dq dcW_key 43 rfl) rfl rfl rfl ?_
      refine f_iconst (C.out _) 1824 (dq dcW_key 44 rfl) rfl ?_
      refine f_laload9 (C.out _) 1825 (dq dcW_key 45 rfl) rfl (Nat.le_of_ble_eq_true rfl) rfl hv ?_
      refine f_iload (C.out _) 1827 (dq dcW_key 46 rfl) rfl rfl ?_
      refine f_i2lz (C.out _) 1828 (dq dcW_key 47 rfl) rfl ?_
      refine f_lcmpE (C.out _) 1829 (dq dcW_key 48 rfl) rfl ?_
      refine f_if_eq (C.out _) 1834 1832 (dq dcW_key 49 rfl) rfl rfl xr_0 (fun _ => ?_) (fun q => absurd rfl q)
      refine f_goto (C.out _) 2507 (dq dcW_key 52 rfl) rfl ?_
      refine f_drop (lsL i) (fun k u hk => by match k, hk with | 0, hk => exact hk | 1, hk => exact hk | 2, hk => exact hk | 3, hk => exact hk | 4, hk => exact hk | 5, hk => cases hk | 6, hk => cases hk | 7, hk => cases hk | k + 8, hk => cases hk) ?_
      exact kk _ (hC.out _) _ hI2
def kW_expire : List (Nat × Instr × Nat) := [(1837, .aload_n 1, 1), (1838, .aload_n 0, 1), (1839, .iload 4, 2), (1841, .iconst 1, 1), (1842, .iadd, 1), (1843, .iaload, 1), (1844, .aload_n 3, 1), (1845, .invokestatic 234, 3), (1848, .istore 5, 2), (1850, .aload_n 2, 1), (1851, .aload_n 0, 1), (1852, .iload 4, 2), (1854, .iconst 1, 1), (1855, .iadd, 1), (1856, .iaload, 1), (1857, .invokevirtual 236, 3), (1860, .istore 6, 2), (1862, .aload_n 2, 1), (1863, .invokevirtual 140, 3), (1866, .iload 5, 2), (1868, .if_icmp .eq 5, 3), (1871, .iconst 0, 1), (1872, .ireturn, 1), (1873, .iload 5, 2), (1875, .ifCond .ne 15, 3), (1878, .aload_n 3, 1), (1879, .iconst 0, 1), (1880, .laload, 1), (1881, .iload 6, 2), (1883, .i2l, 1), (1884, .lcmp, 1), (1885, .ifCond .eq 5, 3), (1888, .iconst 0, 1), (1889, .ireturn, 1), (1890, .goto 617, 3)]
theorem dcW_expire : kW_expire.all (fun q => decide (decode code q.1 = .ok q.2)) = true := by decide +kernel
theorem lc_expire {K : x_KT} {b L i kc ks : Nat} {xs : Nat → Int32} {σ : xSig} (hC : x_LC K b L xs) (hI : INV i σ) (hi : i < 512) (hj : 5 * i + 5 ≤ L) (hkc : kc + 1 ≤ 601024) (hks : ks + 6 ≤ 7293034) (kk : ∀ K' : x_KT, x_LC K' b L xs → ∀ σ2 : xSig, INV (i + 1) σ2 → x_F K' 8 [(0, .ref b)] 2507 (lsL i) [] (St σ2) (kc + 1) (ks + 6)) : x_F K 8 [(0, .ref b)] 1837 (lsL i) [] (St σ) kc ks := by
  obtain ⟨σ1, σ2, code9, z, y, hcode, hc0, hc1, hm, h47, hzy, hI2⟩ := st_expire hI (xs_r (xs := xs) (5 * i + 1))
  have hcr : 0 ≤ code9 ∧ code9 ≤ 1 := hcode
  have C := hC.1
  have hxc : xr code9 := by unfold xr; omega
  obtain ⟨f, f0, f1⟩ := f9_of code9 (zI z)
  have spH := sw_expire (f9 := f) hcr hc0 hc1 f0 f1
  refine f_aload_n C 1838 (dq dcW_expire 0 rfl) rfl rfl rfl ?_
  refine f_sldk hC 1844 1 rfl (by omega) (dq dcW_expire 1 rfl) (dq dcW_expire 2 rfl) (dq dcW_expire 3 rfl) (dq dcW_expire 4 rfl) (dq dcW_expire 5 rfl) rfl ?_
  refine f_aload_n C 1845 (dq dcW_expire 6 rfl) rfl rfl rfl ?_
  refine f_callH hC 1848 (n := 3) rfl spH cwL_expire msL_expire (by decide +kernel) ⟨(Nat.le_of_ble_eq_true rfl), (Nat.le_of_ble_eq_true rfl)⟩ (dq dcW_expire 7 rfl) rfl rfl rfl (Nat.le_of_ble_eq_true rfl) (by omega) (by omega) ?_
  refine f_istore (C.out _) 1850 (dq dcW_expire 8 rfl) rfl (Nat.le_of_ble_eq_true rfl) rfl rfl ?_
  refine f_aload_n (C.out _) 1851 (dq dcW_expire 9 rfl) rfl rfl rfl ?_
  refine f_sldk (hC.out _) 1857 1 rfl (by omega) (dq dcW_expire 10 rfl) (dq dcW_expire 11 rfl) (dq dcW_expire 12 rfl) (dq dcW_expire 13 rfl) (dq dcW_expire 14 rfl) rfl ?_
  refine f_callL (hC.out _) 1860 hm okX12_expire cvL_236 ⟨(Nat.le_of_ble_eq_true rfl), (Nat.le_of_ble_eq_true rfl)⟩ (dq dcW_expire 15 rfl) rfl (Nat.le_of_ble_eq_true rfl) rfl rfl rfl rfl rfl (Nat.le_of_ble_eq_true rfl) (by omega) (by omega) ?_
  refine f_istore (C.out _) 1862 (dq dcW_expire 16 rfl) rfl (Nat.le_of_ble_eq_true rfl) rfl rfl ?_
  refine f_aload_n (C.out _) 1863 (dq dcW_expire 17 rfl) rfl rfl rfl ?_
  have spT : x_Sp MX12_thrown 0 0 [.ref 281] (St σ2) (iv code9) (St σ2) := h47 ▸ sp_mThrown
  refine f_callL (hC.out _) 1866 spT okX12_thrown cvL_140 ⟨(Nat.le_of_ble_eq_true rfl), (Nat.le_of_ble_eq_true rfl)⟩ (dq dcW_expire 18 rfl) rfl (Nat.le_of_ble_eq_true rfl) rfl rfl rfl rfl rfl (Nat.le_of_ble_eq_true rfl) (by omega) (by omega) ?_
  refine f_iload (C.out _) 1868 (dq dcW_expire 19 rfl) rfl rfl ?_
  refine f_icmp_eq (C.out _) 1873 1871 (dq dcW_expire 20 rfl) rfl rfl hxc hxc (fun _ => ?_) (fun q => absurd rfl q)
  refine f_iload (C.out _) 1875 (dq dcW_expire 23 rfl) rfl rfl ?_
  refine f_if_ne (C.out _) 1890 1878 (dq dcW_expire 24 rfl) rfl rfl hxc (fun h0 => ?_) (fun h0 => ?_)
  · skip
    refine f_goto (C.out _) 2507 (dq dcW_expire 34 rfl) rfl ?_
    refine f_drop (lsL i) (fun k u hk => by match k, hk with | 0, hk => exact hk | 1, hk => exact hk | 2, hk => exact hk | 3, hk => exact hk | 4, hk => exact hk | 5, hk => cases hk | 6, hk => cases hk | 7, hk => cases hk | k + 8, hk => cases hk) ?_
    exact kk _ (hC.out _) _ hI2
  · have hv := (congrArg Int64.ofNat (congrFun (f0 h0) ((kG K).2 9))).trans (o9_of _)
    obtain rfl := hzy h0
    refine f_aload_n (C.out _) 1879 (dq dcW_expire 25 rfl) rfl rfl rfl ?_
    refine f_iconst (C.out _) 1880 (dq dcW_expire 26 rfl) rfl ?_
    refine f_laload9 (C.out _) 1881 (dq dcW_expire 27 rfl) rfl (Nat.le_of_ble_eq_true rfl) rfl hv ?_
    refine f_iload (C.out _) 1883 (dq dcW_expire 28 rfl) rfl rfl ?_
    refine f_i2lz (C.out _) 1884 (dq dcW_expire 29 rfl) rfl ?_
    refine f_lcmpE (C.out _) 1885 (dq dcW_expire 30 rfl) rfl ?_
    refine f_if_eq (C.out _) 1890 1888 (dq dcW_expire 31 rfl) rfl rfl xr_0 (fun _ => ?_) (fun q => absurd rfl q)
    refine f_goto (C.out _) 2507 (dq dcW_expire 34 rfl) rfl ?_
    refine f_drop (lsL i) (fun k u hk => by match k, hk with | 0, hk => exact hk | 1, hk => exact hk | 2, hk => exact hk | 3, hk => exact hk | 4, hk => exact hk | 5, hk => cases hk | 6, hk => cases hk | 7, hk => cases hk | k + 8, hk => cases hk) ?_
    exact kk _ (hC.out _) _ hI2
def kW_tick : List (Nat × Instr × Nat) := [(1893, .aload_n 1, 1), (1894, .aload_n 0, 1), (1895, .iload 4, 2), (1897, .iconst 1, 1), (1898, .iadd, 1), (1899, .iaload, 1), (1900, .aload_n 3, 1), (1901, .invokestatic 237, 3), (1904, .istore 5, 2), (1906, .aload_n 2, 1), (1907, .aload_n 0, 1), (1908, .iload 4, 2), (1910, .iconst 1, 1), (1911, .iadd, 1), (1912, .iaload, 1), (1913, .invokevirtual 239, 3), (1916, .istore 6, 2), (1918, .aload_n 2, 1), (1919, .invokevirtual 140, 3), (1922, .iload 5, 2), (1924, .if_icmp .eq 5, 3), (1927, .iconst 0, 1), (1928, .ireturn, 1), (1929, .iload 5, 2), (1931, .ifCond .ne 15, 3), (1934, .aload_n 3, 1), (1935, .iconst 0, 1), (1936, .laload, 1), (1937, .iload 6, 2), (1939, .i2l, 1), (1940, .lcmp, 1), (1941, .ifCond .eq 5, 3), (1944, .iconst 0, 1), (1945, .ireturn, 1), (1946, .goto 561, 3)]
theorem dcW_tick : kW_tick.all (fun q => decide (decode code q.1 = .ok q.2)) = true := by decide +kernel
theorem lc_tick {K : x_KT} {b L i kc ks : Nat} {xs : Nat → Int32} {σ : xSig} (hC : x_LC K b L xs) (hI : INV i σ) (hi : i < 512) (hj : 5 * i + 5 ≤ L) (hkc : kc + 1 ≤ 601024) (hks : ks + 6 ≤ 7293034) (kk : ∀ K' : x_KT, x_LC K' b L xs → ∀ σ2 : xSig, INV (i + 1) σ2 → x_F K' 8 [(0, .ref b)] 2507 (lsL i) [] (St σ2) (kc + 1) (ks + 6)) : x_F K 8 [(0, .ref b)] 1893 (lsL i) [] (St σ) kc ks := by
  obtain ⟨σ1, σ2, code9, z, y, hcode, hc0, hc1, hm, h47, hzy, hI2⟩ := st_tick hI hi (xs_r (xs := xs) (5 * i + 1))
  have hcr : 0 ≤ code9 ∧ code9 ≤ 1 := hcode
  have C := hC.1
  have hxc : xr code9 := by unfold xr; omega
  obtain ⟨f, f0, f1⟩ := f9_of code9 (zI z)
  have spH := sw_tick (f9 := f) hcr hc0 hc1 f0 f1
  refine f_aload_n C 1894 (dq dcW_tick 0 rfl) rfl rfl rfl ?_
  refine f_sldk hC 1900 1 rfl (by omega) (dq dcW_tick 1 rfl) (dq dcW_tick 2 rfl) (dq dcW_tick 3 rfl) (dq dcW_tick 4 rfl) (dq dcW_tick 5 rfl) rfl ?_
  refine f_aload_n C 1901 (dq dcW_tick 6 rfl) rfl rfl rfl ?_
  refine f_callH hC 1904 (n := 3) rfl spH cwL_tick msL_tick (by decide +kernel) ⟨(Nat.le_of_ble_eq_true rfl), (Nat.le_of_ble_eq_true rfl)⟩ (dq dcW_tick 7 rfl) rfl rfl rfl (Nat.le_of_ble_eq_true rfl) (by omega) (by omega) ?_
  refine f_istore (C.out _) 1906 (dq dcW_tick 8 rfl) rfl (Nat.le_of_ble_eq_true rfl) rfl rfl ?_
  refine f_aload_n (C.out _) 1907 (dq dcW_tick 9 rfl) rfl rfl rfl ?_
  refine f_sldk (hC.out _) 1913 1 rfl (by omega) (dq dcW_tick 10 rfl) (dq dcW_tick 11 rfl) (dq dcW_tick 12 rfl) (dq dcW_tick 13 rfl) (dq dcW_tick 14 rfl) rfl ?_
  refine f_callL (hC.out _) 1916 hm okX12_tick cvL_239 ⟨(Nat.le_of_ble_eq_true rfl), (Nat.le_of_ble_eq_true rfl)⟩ (dq dcW_tick 15 rfl) rfl (Nat.le_of_ble_eq_true rfl) rfl rfl rfl rfl rfl (Nat.le_of_ble_eq_true rfl) (by omega) (by omega) ?_
  refine f_istore (C.out _) 1918 (dq dcW_tick 16 rfl) rfl (Nat.le_of_ble_eq_true rfl) rfl rfl ?_
  refine f_aload_n (C.out _) 1919 (dq dcW_tick 17 rfl) rfl rfl rfl ?_
  have spT : x_Sp MX12_thrown 0 0 [.ref 281] (St σ2) (iv code9) (St σ2) := h47 ▸ sp_mThrown
  refine f_callL (hC.out _) 1922 spT okX12_thrown cvL_140 ⟨(Nat.le_of_ble_eq_true rfl), (Nat.le_of_ble_eq_true rfl)⟩ (dq dcW_tick 18 rfl) rfl (Nat.le_of_ble_eq_true rfl) rfl rfl rfl rfl rfl (Nat.le_of_ble_eq_true rfl) (by omega) (by omega) ?_
  refine f_iload (C.out _) 1924 (dq dcW_tick 19 rfl) rfl rfl ?_
  refine f_icmp_eq (C.out _) 1929 1927 (dq dcW_tick 20 rfl) rfl rfl hxc hxc (fun _ => ?_) (fun q => absurd rfl q)
  refine f_iload (C.out _) 1931 (dq dcW_tick 23 rfl) rfl rfl ?_
  refine f_if_ne (C.out _) 1946 1934 (dq dcW_tick 24 rfl) rfl rfl hxc (fun h0 => ?_) (fun h0 => ?_)
  · skip
    refine f_goto (C.out _) 2507 (dq dcW_tick 34 rfl) rfl ?_
    refine f_drop (lsL i) (fun k u hk => by match k, hk with | 0, hk => exact hk | 1, hk => exact hk | 2, hk => exact hk | 3, hk => exact hk | 4, hk => exact hk | 5, hk => cases hk | 6, hk => cases hk | 7, hk => cases hk | k + 8, hk => cases hk) ?_
    exact kk _ (hC.out _) _ hI2
  · have hv := (congrArg Int64.ofNat (congrFun (f0 h0) ((kG K).2 9))).trans (o9_of _)
    obtain rfl := hzy h0
    refine f_aload_n (C.out _) 1935 (dq dcW_tick 25 rfl) rfl rfl rfl ?_
    refine f_iconst (C.out _) 1936 (dq dcW_tick 26 rfl) rfl ?_
    refine f_laload9 (C.out _) 1937 (dq dcW_tick 27 rfl) rfl (Nat.le_of_ble_eq_true rfl) rfl hv ?_
    refine f_iload (C.out _) 1939 (dq dcW_tick 28 rfl) rfl rfl ?_
    refine f_i2lz (C.out _) 1940 (dq dcW_tick 29 rfl) rfl ?_
    refine f_lcmpE (C.out _) 1941 (dq dcW_tick 30 rfl) rfl ?_
    refine f_if_eq (C.out _) 1946 1944 (dq dcW_tick 31 rfl) rfl rfl xr_0 (fun _ => ?_) (fun q => absurd rfl q)
    refine f_goto (C.out _) 2507 (dq dcW_tick 34 rfl) rfl ?_
    refine f_drop (lsL i) (fun k u hk => by match k, hk with | 0, hk => exact hk | 1, hk => exact hk | 2, hk => exact hk | 3, hk => exact hk | 4, hk => exact hk | 5, hk => cases hk | 6, hk => cases hk | 7, hk => cases hk | k + 8, hk => cases hk) ?_
    exact kk _ (hC.out _) _ hI2
def kW_documents : List (Nat × Instr × Nat) := [(1949, .aload_n 1, 1), (1950, .invokevirtual 240, 3), (1953, .aload_n 2, 1), (1954, .invokevirtual 243, 3), (1957, .if_icmp .eq 550, 3), (1960, .iconst 0, 1), (1961, .ireturn, 1)]
theorem dcW_documents : kW_documents.all (fun q => decide (decode code q.1 = .ok q.2)) = true := by decide +kernel
theorem lc_documents {K : x_KT} {b L i kc ks : Nat} {xs : Nat → Int32} {σ : xSig} (hC : x_LC K b L xs) (hI : INV i σ) (hi : i < 512) (hj : 5 * i + 5 ≤ L) (hkc : kc + 1 ≤ 601024) (hks : ks + 6 ≤ 7293034) (kk : ∀ K' : x_KT, x_LC K' b L xs → ∀ σ2 : xSig, INV (i + 1) σ2 → x_F K' 8 [(0, .ref b)] 2507 (lsL i) [] (St σ2) (kc + 1) (ks + 6)) : x_F K 8 [(0, .ref b)] 1949 (lsL i) [] (St σ) kc ks := by
  obtain ⟨σ1, σ2, code9, z, y, hcode, hc0, hc1, hm, h47, hzy, hI2⟩ := st_documents hI
  have hcr : 0 ≤ code9 ∧ code9 ≤ 0 := hcode
  have C := hC.1
  obtain rfl : code9 = 0 := by omega
  have spH := hc0 rfl
  obtain rfl := hzy rfl
  refine f_aload_n C 1950 (dq dcW_documents 0 rfl) rfl rfl rfl ?_
  refine f_callL hC 1953 spH okX11_documents cvL_240 ⟨(Nat.le_of_ble_eq_true rfl), (Nat.le_of_ble_eq_true rfl)⟩ (dq dcW_documents 1 rfl) rfl (Nat.le_of_ble_eq_true rfl) rfl rfl rfl rfl rfl (Nat.le_of_ble_eq_true rfl) (by omega) (by omega) ?_
  refine f_aload_n C 1954 (dq dcW_documents 2 rfl) rfl rfl rfl ?_
  refine f_callL hC 1957 hm okX12_documents cvL_243 ⟨(Nat.le_of_ble_eq_true rfl), (Nat.le_of_ble_eq_true rfl)⟩ (dq dcW_documents 3 rfl) rfl (Nat.le_of_ble_eq_true rfl) rfl rfl rfl rfl rfl (Nat.le_of_ble_eq_true rfl) (by omega) (by omega) ?_
  rw [← zI_i]
  refine f_icmp_eq C 2507 1960 (dq dcW_documents 4 rfl) rfl rfl (zI_r _) (zI_r _) (fun _ => ?_) (fun q => absurd rfl q)
  refine f_drop (lsL i) (fun k u hk => hk) ?_
  exact f_widen (by omega) (by omega) (kk _ hC _ hI2)
def kW_document : List (Nat × Instr × Nat) := [(1962, .aload_n 1, 1), (1963, .aload_n 0, 1), (1964, .iload 4, 2), (1966, .iconst 1, 1), (1967, .iadd, 1), (1968, .iaload, 1), (1969, .aload_n 0, 1), (1970, .iload 4, 2), (1972, .iconst 2, 1), (1973, .iadd, 1), (1974, .iaload, 1), (1975, .aload_n 3, 1), (1976, .invokestatic 244, 3), (1979, .istore 5, 2), (1981, .aload_n 2, 1), (1982, .aload_n 0, 1), (1983, .iload 4, 2), (1985, .iconst 1, 1), (1986, .iadd, 1), (1987, .iaload, 1), (1988, .aload_n 0, 1), (1989, .iload 4, 2), (1991, .iconst 2, 1), (1992, .iadd, 1), (1993, .iaload, 1), (1994, .invokevirtual 246, 3), (1997, .istore 6, 2), (1999, .aload_n 2, 1), (2000, .invokevirtual 140, 3), (2003, .iload 5, 2), (2005, .if_icmp .eq 5, 3), (2008, .iconst 0, 1), (2009, .ireturn, 1), (2010, .iload 5, 2), (2012, .ifCond .ne 15, 3), (2015, .aload_n 3, 1), (2016, .iconst 0, 1), (2017, .laload, 1), (2018, .iload 6, 2), (2020, .i2l, 1), (2021, .lcmp, 1), (2022, .ifCond .eq 5, 3), (2025, .iconst 0, 1), (2026, .ireturn, 1), (2027, .goto 480, 3)]
theorem dcW_document : kW_document.all (fun q => decide (decode code q.1 = .ok q.2)) = true := by decide +kernel
theorem lc_document {K : x_KT} {b L i kc ks : Nat} {xs : Nat → Int32} {σ : xSig} (hC : x_LC K b L xs) (hI : INV i σ) (hi : i < 512) (hj : 5 * i + 5 ≤ L) (hkc : kc + 1 ≤ 601024) (hks : ks + 6 ≤ 7293034) (kk : ∀ K' : x_KT, x_LC K' b L xs → ∀ σ2 : xSig, INV (i + 1) σ2 → x_F K' 8 [(0, .ref b)] 2507 (lsL i) [] (St σ2) (kc + 1) (ks + 6)) : x_F K 8 [(0, .ref b)] 1962 (lsL i) [] (St σ) kc ks := by
  obtain ⟨σ1, σ2, code9, z, y, hcode, hc0, hc1, hm, h47, hzy, hI2⟩ := st_document hI (xs_r (xs := xs) (5 * i + 1)) (xs_r (xs := xs) (5 * i + 2))
  have hcr : 0 ≤ code9 ∧ code9 ≤ 1 := hcode
  have C := hC.1
  have hxc : xr code9 := by unfold xr; omega
  obtain ⟨f, f0, f1⟩ := f9_of code9 (zI z)
  have spH := sw_document (f9 := f) hcr hc0 hc1 f0 f1
  refine f_aload_n C 1963 (dq dcW_document 0 rfl) rfl rfl rfl ?_
  refine f_sldk hC 1969 1 rfl (by omega) (dq dcW_document 1 rfl) (dq dcW_document 2 rfl) (dq dcW_document 3 rfl) (dq dcW_document 4 rfl) (dq dcW_document 5 rfl) rfl ?_
  refine f_sldk hC 1975 2 rfl (by omega) (dq dcW_document 6 rfl) (dq dcW_document 7 rfl) (dq dcW_document 8 rfl) (dq dcW_document 9 rfl) (dq dcW_document 10 rfl) rfl ?_
  refine f_aload_n C 1976 (dq dcW_document 11 rfl) rfl rfl rfl ?_
  refine f_callH hC 1979 (n := 4) rfl spH cwL_document msL_document (by decide +kernel) ⟨(Nat.le_of_ble_eq_true rfl), (Nat.le_of_ble_eq_true rfl)⟩ (dq dcW_document 12 rfl) rfl rfl rfl (Nat.le_of_ble_eq_true rfl) (by omega) (by omega) ?_
  refine f_istore (C.out _) 1981 (dq dcW_document 13 rfl) rfl (Nat.le_of_ble_eq_true rfl) rfl rfl ?_
  refine f_aload_n (C.out _) 1982 (dq dcW_document 14 rfl) rfl rfl rfl ?_
  refine f_sldk (hC.out _) 1988 1 rfl (by omega) (dq dcW_document 15 rfl) (dq dcW_document 16 rfl) (dq dcW_document 17 rfl) (dq dcW_document 18 rfl) (dq dcW_document 19 rfl) rfl ?_
  refine f_sldk (hC.out _) 1994 2 rfl (by omega) (dq dcW_document 20 rfl) (dq dcW_document 21 rfl) (dq dcW_document 22 rfl) (dq dcW_document 23 rfl) (dq dcW_document 24 rfl) rfl ?_
  refine f_callL (hC.out _) 1997 hm okX12_document cvL_246 ⟨(Nat.le_of_ble_eq_true rfl), (Nat.le_of_ble_eq_true rfl)⟩ (dq dcW_document 25 rfl) rfl (Nat.le_of_ble_eq_true rfl) rfl rfl rfl rfl rfl (Nat.le_of_ble_eq_true rfl) (by omega) (by omega) ?_
  refine f_istore (C.out _) 1999 (dq dcW_document 26 rfl) rfl (Nat.le_of_ble_eq_true rfl) rfl rfl ?_
  refine f_aload_n (C.out _) 2000 (dq dcW_document 27 rfl) rfl rfl rfl ?_
  have spT : x_Sp MX12_thrown 0 0 [.ref 281] (St σ2) (iv code9) (St σ2) := h47 ▸ sp_mThrown
  refine f_callL (hC.out _) 2003 spT okX12_thrown cvL_140 ⟨(Nat.le_of_ble_eq_true rfl), (Nat.le_of_ble_eq_true rfl)⟩ (dq dcW_document 28 rfl) rfl (Nat.le_of_ble_eq_true rfl) rfl rfl rfl rfl rfl (Nat.le_of_ble_eq_true rfl) (by omega) (by omega) ?_
  refine f_iload (C.out _) 2005 (dq dcW_document 29 rfl) rfl rfl ?_
  refine f_icmp_eq (C.out _) 2010 2008 (dq dcW_document 30 rfl) rfl rfl hxc hxc (fun _ => ?_) (fun q => absurd rfl q)
  refine f_iload (C.out _) 2012 (dq dcW_document 33 rfl) rfl rfl ?_
  refine f_if_ne (C.out _) 2027 2015 (dq dcW_document 34 rfl) rfl rfl hxc (fun h0 => ?_) (fun h0 => ?_)
  · skip
    refine f_goto (C.out _) 2507 (dq dcW_document 44 rfl) rfl ?_
    refine f_drop (lsL i) (fun k u hk => by match k, hk with | 0, hk => exact hk | 1, hk => exact hk | 2, hk => exact hk | 3, hk => exact hk | 4, hk => exact hk | 5, hk => cases hk | 6, hk => cases hk | 7, hk => cases hk | k + 8, hk => cases hk) ?_
    exact kk _ (hC.out _) _ hI2
  · have hv := (congrArg Int64.ofNat (congrFun (f0 h0) ((kG K).2 9))).trans (o9_of _)
    obtain rfl := hzy h0
    refine f_aload_n (C.out _) 2016 (dq dcW_document 35 rfl) rfl rfl rfl ?_
    refine f_iconst (C.out _) 2017 (dq dcW_document 36 rfl) rfl ?_
    refine f_laload9 (C.out _) 2018 (dq dcW_document 37 rfl) rfl (Nat.le_of_ble_eq_true rfl) rfl hv ?_
    refine f_iload (C.out _) 2020 (dq dcW_document 38 rfl) rfl rfl ?_
    refine f_i2lz (C.out _) 2021 (dq dcW_document 39 rfl) rfl ?_
    refine f_lcmpE (C.out _) 2022 (dq dcW_document 40 rfl) rfl ?_
    refine f_if_eq (C.out _) 2027 2025 (dq dcW_document 41 rfl) rfl rfl xr_0 (fun _ => ?_) (fun q => absurd rfl q)
    refine f_goto (C.out _) 2507 (dq dcW_document 44 rfl) rfl ?_
    refine f_drop (lsL i) (fun k u hk => by match k, hk with | 0, hk => exact hk | 1, hk => exact hk | 2, hk => exact hk | 3, hk => exact hk | 4, hk => exact hk | 5, hk => cases hk | 6, hk => cases hk | 7, hk => cases hk | k + 8, hk => cases hk) ?_
    exact kk _ (hC.out _) _ hI2
def kW_print : List (Nat × Instr × Nat) := [(2030, .aload_n 1, 1), (2031, .aload_n 0, 1), (2032, .iload 4, 2), (2034, .iconst 1, 1), (2035, .iadd, 1), (2036, .iaload, 1), (2037, .aload_n 3, 1), (2038, .invokestatic 247, 3), (2041, .istore 5, 2), (2043, .aload_n 2, 1), (2044, .aload_n 0, 1), (2045, .iload 4, 2), (2047, .iconst 1, 1), (2048, .iadd, 1), (2049, .iaload, 1), (2050, .invokevirtual 249, 3), (2053, .lstore 6, 2), (2055, .aload_n 2, 1), (2056, .invokevirtual 140, 3), (2059, .iload 5, 2), (2061, .if_icmp .eq 5, 3), (2064, .iconst 0, 1), (2065, .ireturn, 1), (2066, .iload 5, 2), (2068, .ifCond .ne 14, 3), (2071, .aload_n 3, 1), (2072, .iconst 0, 1), (2073, .laload, 1), (2074, .lload 6, 2), (2076, .lcmp, 1), (2077, .ifCond .eq 5, 3), (2080, .iconst 0, 1), (2081, .ireturn, 1), (2082, .goto 425, 3)]
theorem dcW_print : kW_print.all (fun q => decide (decode code q.1 = .ok q.2)) = true := by decide +kernel
theorem lc_print {K : x_KT} {b L i kc ks : Nat} {xs : Nat → Int32} {σ : xSig} (hC : x_LC K b L xs) (hI : INV i σ) (hi : i < 512) (hj : 5 * i + 5 ≤ L) (hkc : kc + 1 ≤ 601024) (hks : ks + 6 ≤ 7293034) (kk : ∀ K' : x_KT, x_LC K' b L xs → ∀ σ2 : xSig, INV (i + 1) σ2 → x_F K' 8 [(0, .ref b)] 2507 (lsL i) [] (St σ2) (kc + 1) (ks + 6)) : x_F K 8 [(0, .ref b)] 2030 (lsL i) [] (St σ) kc ks := by
  obtain ⟨σ1, σ2, code9, z, y, hcode, hc0, hc1, hm, h47, hzy, hI2⟩ := st_print hI (xs_r (xs := xs) (5 * i + 1))
  have hcr : 0 ≤ code9 ∧ code9 ≤ 1 := hcode
  have C := hC.1
  have hxc : xr code9 := by unfold xr; omega
  obtain ⟨f, f0, f1⟩ := f9_of code9 z
  have spH := sw_print (f9 := f) hcr hc0 hc1 f0 f1
  refine f_aload_n C 2031 (dq dcW_print 0 rfl) rfl rfl rfl ?_
  refine f_sldk hC 2037 1 rfl (by omega) (dq dcW_print 1 rfl) (dq dcW_print 2 rfl) (dq dcW_print 3 rfl) (dq dcW_print 4 rfl) (dq dcW_print 5 rfl) rfl ?_
  refine f_aload_n C 2038 (dq dcW_print 6 rfl) rfl rfl rfl ?_
  refine f_callH hC 2041 (n := 3) rfl spH cwL_print msL_print (by decide +kernel) ⟨(Nat.le_of_ble_eq_true rfl), (Nat.le_of_ble_eq_true rfl)⟩ (dq dcW_print 7 rfl) rfl rfl rfl (Nat.le_of_ble_eq_true rfl) (by omega) (by omega) ?_
  refine f_istore (C.out _) 2043 (dq dcW_print 8 rfl) rfl (Nat.le_of_ble_eq_true rfl) rfl rfl ?_
  refine f_aload_n (C.out _) 2044 (dq dcW_print 9 rfl) rfl rfl rfl ?_
  refine f_sldk (hC.out _) 2050 1 rfl (by omega) (dq dcW_print 10 rfl) (dq dcW_print 11 rfl) (dq dcW_print 12 rfl) (dq dcW_print 13 rfl) (dq dcW_print 14 rfl) rfl ?_
  refine f_callL (hC.out _) 2053 hm okX12_print cvL_249 ⟨(Nat.le_of_ble_eq_true rfl), (Nat.le_of_ble_eq_true rfl)⟩ (dq dcW_print 15 rfl) rfl (Nat.le_of_ble_eq_true rfl) rfl rfl rfl rfl rfl (Nat.le_of_ble_eq_true rfl) (by omega) (by omega) ?_
  refine f_lstore (C.out _) 2055 (dq dcW_print 16 rfl) rfl (Nat.le_of_ble_eq_true rfl) rfl rfl ?_
  refine f_aload_n (C.out _) 2056 (dq dcW_print 17 rfl) rfl rfl rfl ?_
  have spT : x_Sp MX12_thrown 0 0 [.ref 281] (St σ2) (iv code9) (St σ2) := h47 ▸ sp_mThrown
  refine f_callL (hC.out _) 2059 spT okX12_thrown cvL_140 ⟨(Nat.le_of_ble_eq_true rfl), (Nat.le_of_ble_eq_true rfl)⟩ (dq dcW_print 18 rfl) rfl (Nat.le_of_ble_eq_true rfl) rfl rfl rfl rfl rfl (Nat.le_of_ble_eq_true rfl) (by omega) (by omega) ?_
  refine f_iload (C.out _) 2061 (dq dcW_print 19 rfl) rfl rfl ?_
  refine f_icmp_eq (C.out _) 2066 2064 (dq dcW_print 20 rfl) rfl rfl hxc hxc (fun _ => ?_) (fun q => absurd rfl q)
  refine f_iload (C.out _) 2068 (dq dcW_print 23 rfl) rfl rfl ?_
  refine f_if_ne (C.out _) 2082 2071 (dq dcW_print 24 rfl) rfl rfl hxc (fun h0 => ?_) (fun h0 => ?_)
  · skip
    refine f_goto (C.out _) 2507 (dq dcW_print 33 rfl) rfl ?_
    refine f_drop (lsL i) (fun k u hk => by match k, hk with | 0, hk => exact hk | 1, hk => exact hk | 2, hk => exact hk | 3, hk => exact hk | 4, hk => exact hk | 5, hk => cases hk | 6, hk => cases hk | 7, hk => cases hk | k + 8, hk => cases hk) ?_
    exact kk _ (hC.out _) _ hI2
  · have hv := (congrArg Int64.ofNat (congrFun (f0 h0) ((kG K).2 9))).trans (o9_of _)
    obtain rfl := hzy h0
    refine f_aload_n (C.out _) 2072 (dq dcW_print 25 rfl) rfl rfl rfl ?_
    refine f_iconst (C.out _) 2073 (dq dcW_print 26 rfl) rfl ?_
    refine f_laload9 (C.out _) 2074 (dq dcW_print 27 rfl) rfl (Nat.le_of_ble_eq_true rfl) rfl hv ?_
    refine f_lload (C.out _) 2076 (dq dcW_print 28 rfl) rfl rfl ?_
    refine f_lcmpE (C.out _) 2077 (dq dcW_print 29 rfl) rfl ?_
    refine f_if_eq (C.out _) 2082 2080 (dq dcW_print 30 rfl) rfl rfl xr_0 (fun _ => ?_) (fun q => absurd rfl q)
    refine f_goto (C.out _) 2507 (dq dcW_print 33 rfl) rfl ?_
    refine f_drop (lsL i) (fun k u hk => by match k, hk with | 0, hk => exact hk | 1, hk => exact hk | 2, hk => exact hk | 3, hk => exact hk | 4, hk => exact hk | 5, hk => cases hk | 6, hk => cases hk | 7, hk => cases hk | k + 8, hk => cases hk) ?_
    exact kk _ (hC.out _) _ hI2
