/-! ===== the law, case by case ===== -/
def kW_update : List (Nat × Instr × Nat) := [(645, .aload_n 1, 1), (646, .aload_n 0, 1), (647, .iload 4, 2), (649, .iconst 1, 1), (650, .iadd, 1), (651, .iaload, 1), (652, .aload_n 0, 1), (653, .iload 4, 2), (655, .iconst 2, 1), (656, .iadd, 1), (657, .iaload, 1), (658, .aload_n 0, 1), (659, .iload 4, 2), (661, .iconst 3, 1), (662, .iadd, 1), (663, .iaload, 1), (664, .aload_n 0, 1), (665, .iload 4, 2), (667, .iconst 4, 1), (668, .iadd, 1), (669, .iaload, 1), (670, .aload_n 3, 1), (671, .invokestatic 170, 3), (674, .istore 5, 2), (676, .aload_n 2, 1), (677, .aload_n 0, 1), (678, .iload 4, 2), (680, .iconst 1, 1), (681, .iadd, 1), (682, .iaload, 1), (683, .aload_n 0, 1), (684, .iload 4, 2), (686, .iconst 2, 1), (687, .iadd, 1), (688, .iaload, 1), (689, .aload_n 0, 1), (690, .iload 4, 2), (692, .iconst 3, 1), (693, .iadd, 1), (694, .iaload, 1), (695, .aload_n 0, 1), (696, .iload 4, 2), (698, .iconst 4, 1), (699, .iadd, 1), (700, .iaload, 1), (701, .invokevirtual 173, 3), (704, .istore 6, 2), (706, .aload_n 2, 1), (707, .invokevirtual 140, 3), (710, .iload 5, 2), (712, .if_icmp .eq 5, 3), (715, .iconst 0, 1), (716, .ireturn, 1), (717, .iload 5, 2), (719, .ifCond .ne 22, 3), (722, .aload_n 3, 1), (723, .iconst 0, 1), (724, .laload, 1), (725, .iload 6, 2), (727, .ifCond .eq 7, 3), (730, .lconst 1, 1), (731, .goto 4, 3), (734, .lconst 0, 1), (735, .lcmp, 1), (736, .ifCond .eq 5, 3), (739, .iconst 0, 1), (740, .ireturn, 1), (741, .goto 1766, 3)]
theorem dcW_update : kW_update.all (fun q => decide (decode code q.1 = .ok q.2)) = true := by decide +kernel
theorem lc_update {K : x_KT} {b L i kc ks : Nat} {xs : Nat → Int32} {σ : xSig} (hC : x_LC K b L xs) (hI : INV i σ) (hi : i < 512) (hj : 5 * i + 5 ≤ L) (hkc : kc + 1 ≤ 601024) (hks : ks + 6 ≤ 7293034) (kk : ∀ K' : x_KT, x_LC K' b L xs → ∀ σ2 : xSig, INV (i + 1) σ2 → x_F K' 8 [(0, .ref b)] 2507 (lsL i) [] (St σ2) (kc + 1) (ks + 6)) : x_F K 8 [(0, .ref b)] 645 (lsL i) [] (St σ) kc ks := by
  obtain ⟨σ1, σ2, code9, z, y, hcode, hc0, hc1, hm, h47, hzy, hI2⟩ := st_update hI hi (xs_r (xs := xs) (5 * i + 1)) (xs_r (xs := xs) (5 * i + 2)) (xs_r (xs := xs) (5 * i + 3)) (xs_r (xs := xs) (5 * i + 4))
  have hcr : 0 ≤ code9 ∧ code9 ≤ 3 := hcode
  have C := hC.1
  have hxc : xr code9 := by unfold xr; omega
  obtain ⟨f, f0, f1⟩ := f9_of code9 (if zI z = 0 then 0 else 1)
  have spH := sw_update (f9 := f) hcr hc0 hc1 f0 f1
  refine f_aload_n C 646 (dq dcW_update 0 rfl) rfl rfl rfl ?_
  refine f_sldk hC 652 1 rfl (by omega) (dq dcW_update 1 rfl) (dq dcW_update 2 rfl) (dq dcW_update 3 rfl) (dq dcW_update 4 rfl) (dq dcW_update 5 rfl) rfl ?_
  refine f_sldk hC 658 2 rfl (by omega) (dq dcW_update 6 rfl) (dq dcW_update 7 rfl) (dq dcW_update 8 rfl) (dq dcW_update 9 rfl) (dq dcW_update 10 rfl) rfl ?_
  refine f_sldk hC 664 3 rfl (by omega) (dq dcW_update 11 rfl) (dq dcW_update 12 rfl) (dq dcW_update 13 rfl) (dq dcW_update 14 rfl) (dq dcW_update 15 rfl) rfl ?_
  refine f_sldk hC 670 4 rfl (by omega) (dq dcW_update 16 rfl) (dq dcW_update 17 rfl) (dq dcW_update 18 rfl) (dq dcW_update 19 rfl) (dq dcW_update 20 rfl) rfl ?_
  refine f_aload_n C 671 (dq dcW_update 21 rfl) rfl rfl rfl ?_
  refine f_callH hC 674 (n := 6) rfl spH cwL_update msL_update (by decide +kernel) ⟨(Nat.le_of_ble_eq_true rfl), (Nat.le_of_ble_eq_true rfl)⟩ (dq dcW_update 22 rfl) rfl rfl rfl (Nat.le_of_ble_eq_true rfl) (by omega) (by omega) ?_
  refine f_istore (C.out _) 676 (dq dcW_update 23 rfl) rfl (Nat.le_of_ble_eq_true rfl) rfl rfl ?_
  refine f_aload_n (C.out _) 677 (dq dcW_update 24 rfl) rfl rfl rfl ?_
  refine f_sldk (hC.out _) 683 1 rfl (by omega) (dq dcW_update 25 rfl) (dq dcW_update 26 rfl) (dq dcW_update 27 rfl) (dq dcW_update 28 rfl) (dq dcW_update 29 rfl) rfl ?_
  refine f_sldk (hC.out _) 689 2 rfl (by omega) (dq dcW_update 30 rfl) (dq dcW_update 31 rfl) (dq dcW_update 32 rfl) (dq dcW_update 33 rfl) (dq dcW_update 34 rfl) rfl ?_
  refine f_sldk (hC.out _) 695 3 rfl (by omega) (dq dcW_update 35 rfl) (dq dcW_update 36 rfl) (dq dcW_update 37 rfl) (dq dcW_update 38 rfl) (dq dcW_update 39 rfl) rfl ?_
  refine f_sldk (hC.out _) 701 4 rfl (by omega) (dq dcW_update 40 rfl) (dq dcW_update 41 rfl) (dq dcW_update 42 rfl) (dq dcW_update 43 rfl) (dq dcW_update 44 rfl) rfl ?_
  refine f_callL (hC.out _) 704 hm okX12_update cvL_173 ⟨(Nat.le_of_ble_eq_true rfl), (Nat.le_of_ble_eq_true rfl)⟩ (dq dcW_update 45 rfl) rfl (Nat.le_of_ble_eq_true rfl) rfl rfl rfl rfl rfl (Nat.le_of_ble_eq_true rfl) (by omega) (by omega) ?_
  refine f_istore (C.out _) 706 (dq dcW_update 46 rfl) rfl (Nat.le_of_ble_eq_true rfl) rfl rfl ?_
  refine f_aload_n (C.out _) 707 (dq dcW_update 47 rfl) rfl rfl rfl ?_
  have spT : x_Sp MX12_thrown 0 0 [.ref 281] (St σ2) (iv code9) (St σ2) := h47 ▸ sp_mThrown
  refine f_callL (hC.out _) 710 spT okX12_thrown cvL_140 ⟨(Nat.le_of_ble_eq_true rfl), (Nat.le_of_ble_eq_true rfl)⟩ (dq dcW_update 48 rfl) rfl (Nat.le_of_ble_eq_true rfl) rfl rfl rfl rfl rfl (Nat.le_of_ble_eq_true rfl) (by omega) (by omega) ?_
  refine f_iload (C.out _) 712 (dq dcW_update 49 rfl) rfl rfl ?_
  refine f_icmp_eq (C.out _) 717 715 (dq dcW_update 50 rfl) rfl rfl hxc hxc (fun _ => ?_) (fun q => absurd rfl q)
  refine f_iload (C.out _) 719 (dq dcW_update 53 rfl) rfl rfl ?_
  refine f_if_ne (C.out _) 741 722 (dq dcW_update 54 rfl) rfl rfl hxc (fun h0 => ?_) (fun h0 => ?_)
  · skip
    refine f_goto (C.out _) 2507 (dq dcW_update 67 rfl) rfl ?_
    refine f_drop (lsL i) (fun k u hk => by match k, hk with | 0, hk => exact hk | 1, hk => exact hk | 2, hk => exact hk | 3, hk => exact hk | 4, hk => exact hk | 5, hk => cases hk | 6, hk => cases hk | 7, hk => cases hk | k + 8, hk => cases hk) ?_
    exact kk _ (hC.out _) _ hI2
  · have hv := (congrArg Int64.ofNat (congrFun (f0 h0) ((kG K).2 9))).trans (o9_of _)
    obtain rfl := hzy h0
    refine f_aload_n (C.out _) 723 (dq dcW_update 55 rfl) rfl rfl rfl ?_
    refine f_iconst (C.out _) 724 (dq dcW_update 56 rfl) rfl ?_
    refine f_laload9 (C.out _) 725 (dq dcW_update 57 rfl) rfl (Nat.le_of_ble_eq_true rfl) rfl hv ?_
    refine f_iload (C.out _) 727 (dq dcW_update 58 rfl) rfl rfl ?_
    refine f_ifeqz (C.out _) 734 730 (dq dcW_update 59 rfl) rfl rfl (fun hz9 => ?_) (fun hz9 => ?_)
    · rw [if_pos hz9]
      refine f_lconst (C.out _) 735 (dq dcW_update 62 rfl) rfl ?_
      refine f_lcmpE (C.out _) 736 (dq dcW_update 63 rfl) rfl ?_
      refine f_if_eq (C.out _) 741 739 (dq dcW_update 64 rfl) rfl rfl xr_0 (fun _ => ?_) (fun q => absurd rfl q)
      refine f_goto (C.out _) 2507 (dq dcW_update 67 rfl) rfl ?_
      refine f_drop (lsL i) (fun k u hk => by match k, hk with | 0, hk => exact hk | 1, hk => exact hk | 2, hk => exact hk | 3, hk => exact hk | 4, hk => exact hk | 5, hk => cases hk | 6, hk => cases hk | 7, hk => cases hk | k + 8, hk => cases hk) ?_
      exact kk _ (hC.out _) _ hI2
    · rw [if_neg hz9]
      refine f_lconst (C.out _) 731 (dq dcW_update 60 rfl) rfl ?_
      refine f_goto (C.out _) 735 (dq dcW_update 61 rfl) rfl ?_
      refine f_lcmpE (C.out _) 736 (dq dcW_update 63 rfl) rfl ?_
      refine f_if_eq (C.out _) 741 739 (dq dcW_update 64 rfl) rfl rfl xr_0 (fun _ => ?_) (fun q => absurd rfl q)
      refine f_goto (C.out _) 2507 (dq dcW_update 67 rfl) rfl ?_
      refine f_drop (lsL i) (fun k u hk => by match k, hk with | 0, hk => exact hk | 1, hk => exact hk | 2, hk => exact hk | 3, hk => exact hk | 4, hk => exact hk | 5, hk => cases hk | 6, hk => cases hk | 7, hk => cases hk | k + 8, hk => cases hk) ?_
      exact kk _ (hC.out _) _ hI2
def kW_remove : List (Nat × Instr × Nat) := [(744, .aload_n 1, 1), (745, .aload_n 0, 1), (746, .iload 4, 2), (748, .iconst 1, 1), (749, .iadd, 1), (750, .iaload, 1), (751, .aload_n 0, 1), (752, .iload 4, 2), (754, .iconst 2, 1), (755, .iadd, 1), (756, .iaload, 1), (757, .aload_n 3, 1), (758, .invokestatic 174, 3), (761, .istore 5, 2), (763, .aload_n 2, 1), (764, .aload_n 0, 1), (765, .iload 4, 2), (767, .iconst 1, 1), (768, .iadd, 1), (769, .iaload, 1), (770, .aload_n 0, 1), (771, .iload 4, 2), (773, .iconst 2, 1), (774, .iadd, 1), (775, .iaload, 1), (776, .invokevirtual 176, 3), (779, .istore 6, 2), (781, .aload_n 2, 1), (782, .invokevirtual 140, 3), (785, .iload 5, 2), (787, .if_icmp .eq 5, 3), (790, .iconst 0, 1), (791, .ireturn, 1), (792, .iload 5, 2), (794, .ifCond .ne 15, 3), (797, .aload_n 3, 1), (798, .iconst 0, 1), (799, .laload, 1), (800, .iload 6, 2), (802, .i2l, 1), (803, .lcmp, 1), (804, .ifCond .eq 5, 3), (807, .iconst 0, 1), (808, .ireturn, 1), (809, .goto 1698, 3)]
theorem dcW_remove : kW_remove.all (fun q => decide (decode code q.1 = .ok q.2)) = true := by decide +kernel
theorem lc_remove {K : x_KT} {b L i kc ks : Nat} {xs : Nat → Int32} {σ : xSig} (hC : x_LC K b L xs) (hI : INV i σ) (hi : i < 512) (hj : 5 * i + 5 ≤ L) (hkc : kc + 1 ≤ 601024) (hks : ks + 6 ≤ 7293034) (kk : ∀ K' : x_KT, x_LC K' b L xs → ∀ σ2 : xSig, INV (i + 1) σ2 → x_F K' 8 [(0, .ref b)] 2507 (lsL i) [] (St σ2) (kc + 1) (ks + 6)) : x_F K 8 [(0, .ref b)] 744 (lsL i) [] (St σ) kc ks := by
  obtain ⟨σ1, σ2, code9, z, y, hcode, hc0, hc1, hm, h47, hzy, hI2⟩ := st_remove hI hi (xs_r (xs := xs) (5 * i + 1)) (xs_r (xs := xs) (5 * i + 2))
  have hcr : 0 ≤ code9 ∧ code9 ≤ 2 := hcode
  have C := hC.1
  have hxc : xr code9 := by unfold xr; omega
  obtain ⟨f, f0, f1⟩ := f9_of code9 (zI z)
  have spH := sw_remove (f9 := f) hcr hc0 hc1 f0 f1
  refine f_aload_n C 745 (dq dcW_remove 0 rfl) rfl rfl rfl ?_
  refine f_sldk hC 751 1 rfl (by omega) (dq dcW_remove 1 rfl) (dq dcW_remove 2 rfl) (dq dcW_remove 3 rfl) (dq dcW_remove 4 rfl) (dq dcW_remove 5 rfl) rfl ?_
  refine f_sldk hC 757 2 rfl (by omega) (dq dcW_remove 6 rfl) (dq dcW_remove 7 rfl) (dq dcW_remove 8 rfl) (dq dcW_remove 9 rfl) (dq dcW_remove 10 rfl) rfl ?_
  refine f_aload_n C 758 (dq dcW_remove 11 rfl) rfl rfl rfl ?_
  refine f_callH hC 761 (n := 4) rfl spH cwL_remove msL_remove (by decide +kernel) ⟨(Nat.le_of_ble_eq_true rfl), (Nat.le_of_ble_eq_true rfl)⟩ (dq dcW_remove 12 rfl) rfl rfl rfl (Nat.le_of_ble_eq_true rfl) (by omega) (by omega) ?_
  refine f_istore (C.out _) 763 (dq dcW_remove 13 rfl) rfl (Nat.le_of_ble_eq_true rfl) rfl rfl ?_
  refine f_aload_n (C.out _) 764 (dq dcW_remove 14 rfl) rfl rfl rfl ?_
  refine f_sldk (hC.out _) 770 1 rfl (by omega) (dq dcW_remove 15 rfl) (dq dcW_remove 16 rfl) (dq dcW_remove 17 rfl) (dq dcW_remove 18 rfl) (dq dcW_remove 19 rfl) rfl ?_
  refine f_sldk (hC.out _) 776 2 rfl (by omega) (dq dcW_remove 20 rfl) (dq dcW_remove 21 rfl) (dq dcW_remove 22 rfl) (dq dcW_remove 23 rfl) (dq dcW_remove 24 rfl) rfl ?_
  refine f_callL (hC.out _) 779 hm okX12_remove cvL_176 ⟨(Nat.le_of_ble_eq_true rfl), (Nat.le_of_ble_eq_true rfl)⟩ (dq dcW_remove 25 rfl) rfl (Nat.le_of_ble_eq_true rfl) rfl rfl rfl rfl rfl (Nat.le_of_ble_eq_true rfl) (by omega) (by omega) ?_
  refine f_istore (C.out _) 781 (dq dcW_remove 26 rfl) rfl (Nat.le_of_ble_eq_true rfl) rfl rfl ?_
  refine f_aload_n (C.out _) 782 (dq dcW_remove 27 rfl) rfl rfl rfl ?_
  have spT : x_Sp MX12_thrown 0 0 [.ref 281] (St σ2) (iv code9) (St σ2) := h47 ▸ sp_mThrown
  refine f_callL (hC.out _) 785 spT okX12_thrown cvL_140 ⟨(Nat.le_of_ble_eq_true rfl), (Nat.le_of_ble_eq_true rfl)⟩ (dq dcW_remove 28 rfl) rfl (Nat.le_of_ble_eq_true rfl) rfl rfl rfl rfl rfl (Nat.le_of_ble_eq_true rfl) (by omega) (by omega) ?_
  refine f_iload (C.out _) 787 (dq dcW_remove 29 rfl) rfl rfl ?_
  refine f_icmp_eq (C.out _) 792 790 (dq dcW_remove 30 rfl) rfl rfl hxc hxc (fun _ => ?_) (fun q => absurd rfl q)
  refine f_iload (C.out _) 794 (dq dcW_remove 33 rfl) rfl rfl ?_
  refine f_if_ne (C.out _) 809 797 (dq dcW_remove 34 rfl) rfl rfl hxc (fun h0 => ?_) (fun h0 => ?_)
  · skip
    refine f_goto (C.out _) 2507 (dq dcW_remove 44 rfl) rfl ?_
    refine f_drop (lsL i) (fun k u hk => by match k, hk with | 0, hk => exact hk | 1, hk => exact hk | 2, hk => exact hk | 3, hk => exact hk | 4, hk => exact hk | 5, hk => cases hk | 6, hk => cases hk | 7, hk => cases hk | k + 8, hk => cases hk) ?_
    exact kk _ (hC.out _) _ hI2
  · have hv := (congrArg Int64.ofNat (congrFun (f0 h0) ((kG K).2 9))).trans (o9_of _)
    obtain rfl := hzy h0
    refine f_aload_n (C.out _) 798 (dq dcW_remove 35 rfl) rfl rfl rfl ?_
    refine f_iconst (C.out _) 799 (dq dcW_remove 36 rfl) rfl ?_
    refine f_laload9 (C.out _) 800 (dq dcW_remove 37 rfl) rfl (Nat.le_of_ble_eq_true rfl) rfl hv ?_
    refine f_iload (C.out _) 802 (dq dcW_remove 38 rfl) rfl rfl ?_
    refine f_i2lz (C.out _) 803 (dq dcW_remove 39 rfl) rfl ?_
    refine f_lcmpE (C.out _) 804 (dq dcW_remove 40 rfl) rfl ?_
    refine f_if_eq (C.out _) 809 807 (dq dcW_remove 41 rfl) rfl rfl xr_0 (fun _ => ?_) (fun q => absurd rfl q)
    refine f_goto (C.out _) 2507 (dq dcW_remove 44 rfl) rfl ?_
    refine f_drop (lsL i) (fun k u hk => by match k, hk with | 0, hk => exact hk | 1, hk => exact hk | 2, hk => exact hk | 3, hk => exact hk | 4, hk => exact hk | 5, hk => cases hk | 6, hk => cases hk | 7, hk => cases hk | k + 8, hk => cases hk) ?_
    exact kk _ (hC.out _) _ hI2
def kW_rule : List (Nat × Instr × Nat) := [(812, .aload_n 1, 1), (813, .aload_n 0, 1), (814, .iload 4, 2), (816, .iconst 1, 1), (817, .iadd, 1), (818, .iaload, 1), (819, .aload_n 0, 1), (820, .iload 4, 2), (822, .iconst 2, 1), (823, .iadd, 1), (824, .iaload, 1), (825, .aload_n 3, 1), (826, .invokestatic 177, 3), (829, .istore 5, 2), (831, .aload_n 2, 1), (832, .aload_n 0, 1), (833, .iload 4, 2), (835, .iconst 1, 1), (836, .iadd, 1), (837, .iaload, 1), (838, .aload_n 0, 1), (839, .iload 4, 2), (841, .iconst 2, 1), (842, .iadd, 1), (843, .iaload, 1), (844, .invokevirtual 179, 3), (847, .istore 6, 2), (849, .aload_n 2, 1), (850, .invokevirtual 140, 3), (853, .iload 5, 2), (855, .if_icmp .eq 5, 3), (858, .iconst 0, 1), (859, .ireturn, 1), (860, .iload 5, 2), (862, .ifCond .ne 15, 3), (865, .aload_n 3, 1), (866, .iconst 0, 1), (867, .laload, 1), (868, .iload 6, 2), (870, .i2l, 1), (871, .lcmp, 1), (872, .ifCond .eq 5, 3), (875, .iconst 0, 1), (876, .ireturn, 1), (877, .goto 1630, 3)]
theorem dcW_rule : kW_rule.all (fun q => decide (decode code q.1 = .ok q.2)) = true := by decide +kernel
theorem lc_rule {K : x_KT} {b L i kc ks : Nat} {xs : Nat → Int32} {σ : xSig} (hC : x_LC K b L xs) (hI : INV i σ) (hi : i < 512) (hj : 5 * i + 5 ≤ L) (hkc : kc + 1 ≤ 601024) (hks : ks + 6 ≤ 7293034) (kk : ∀ K' : x_KT, x_LC K' b L xs → ∀ σ2 : xSig, INV (i + 1) σ2 → x_F K' 8 [(0, .ref b)] 2507 (lsL i) [] (St σ2) (kc + 1) (ks + 6)) : x_F K 8 [(0, .ref b)] 812 (lsL i) [] (St σ) kc ks := by
  obtain ⟨σ1, σ2, code9, z, y, hcode, hc0, hc1, hm, h47, hzy, hI2⟩ := st_rule hI (xs_r (xs := xs) (5 * i + 1)) (xs_r (xs := xs) (5 * i + 2))
  have hcr : 0 ≤ code9 ∧ code9 ≤ 2 := hcode
  have C := hC.1
  have hxc : xr code9 := by unfold xr; omega
  obtain ⟨f, f0, f1⟩ := f9_of code9 (zI z)
  have spH := sw_rule (f9 := f) hcr hc0 hc1 f0 f1
  refine f_aload_n C 813 (dq dcW_rule 0 rfl) rfl rfl rfl ?_
  refine f_sldk hC 819 1 rfl (by omega) (dq dcW_rule 1 rfl) (dq dcW_rule 2 rfl) (dq dcW_rule 3 rfl) (dq dcW_rule 4 rfl) (dq dcW_rule 5 rfl) rfl ?_
  refine f_sldk hC 825 2 rfl (by omega) (dq dcW_rule 6 rfl) (dq dcW_rule 7 rfl) (dq dcW_rule 8 rfl) (dq dcW_rule 9 rfl) (dq dcW_rule 10 rfl) rfl ?_
  refine f_aload_n C 826 (dq dcW_rule 11 rfl) rfl rfl rfl ?_
  refine f_callH hC 829 (n := 4) rfl spH cwL_rule msL_rule (by decide +kernel) ⟨(Nat.le_of_ble_eq_true rfl), (Nat.le_of_ble_eq_true rfl)⟩ (dq dcW_rule 12 rfl) rfl rfl rfl (Nat.le_of_ble_eq_true rfl) (by omega) (by omega) ?_
  refine f_istore (C.out _) 831 (dq dcW_rule 13 rfl) rfl (Nat.le_of_ble_eq_true rfl) rfl rfl ?_
  refine f_aload_n (C.out _) 832 (dq dcW_rule 14 rfl) rfl rfl rfl ?_
  refine f_sldk (hC.out _) 838 1 rfl (by omega) (dq dcW_rule 15 rfl) (dq dcW_rule 16 rfl) (dq dcW_rule 17 rfl) (dq dcW_rule 18 rfl) (dq dcW_rule 19 rfl) rfl ?_
  refine f_sldk (hC.out _) 844 2 rfl (by omega) (dq dcW_rule 20 rfl) (dq dcW_rule 21 rfl) (dq dcW_rule 22 rfl) (dq dcW_rule 23 rfl) (dq dcW_rule 24 rfl) rfl ?_
  refine f_callL (hC.out _) 847 hm okX12_rule cvL_179 ⟨(Nat.le_of_ble_eq_true rfl), (Nat.le_of_ble_eq_true rfl)⟩ (dq dcW_rule 25 rfl) rfl (Nat.le_of_ble_eq_true rfl) rfl rfl rfl rfl rfl (Nat.le_of_ble_eq_true rfl) (by omega) (by omega) ?_
  refine f_istore (C.out _) 849 (dq dcW_rule 26 rfl) rfl (Nat.le_of_ble_eq_true rfl) rfl rfl ?_
  refine f_aload_n (C.out _) 850 (dq dcW_rule 27 rfl) rfl rfl rfl ?_
  have spT : x_Sp MX12_thrown 0 0 [.ref 281] (St σ2) (iv code9) (St σ2) := h47 ▸ sp_mThrown
  refine f_callL (hC.out _) 853 spT okX12_thrown cvL_140 ⟨(Nat.le_of_ble_eq_true rfl), (Nat.le_of_ble_eq_true rfl)⟩ (dq dcW_rule 28 rfl) rfl (Nat.le_of_ble_eq_true rfl) rfl rfl rfl rfl rfl (Nat.le_of_ble_eq_true rfl) (by omega) (by omega) ?_
  refine f_iload (C.out _) 855 (dq dcW_rule 29 rfl) rfl rfl ?_
  refine f_icmp_eq (C.out _) 860 858 (dq dcW_rule 30 rfl) rfl rfl hxc hxc (fun _ => ?_) (fun q => absurd rfl q)
  refine f_iload (C.out _) 862 (dq dcW_rule 33 rfl) rfl rfl ?_
  refine f_if_ne (C.out _) 877 865 (dq dcW_rule 34 rfl) rfl rfl hxc (fun h0 => ?_) (fun h0 => ?_)
  · skip
    refine f_goto (C.out _) 2507 (dq dcW_rule 44 rfl) rfl ?_
    refine f_drop (lsL i) (fun k u hk => by match k, hk with | 0, hk => exact hk | 1, hk => exact hk | 2, hk => exact hk | 3, hk => exact hk | 4, hk => exact hk | 5, hk => cases hk | 6, hk => cases hk | 7, hk => cases hk | k + 8, hk => cases hk) ?_
    exact kk _ (hC.out _) _ hI2
  · have hv := (congrArg Int64.ofNat (congrFun (f0 h0) ((kG K).2 9))).trans (o9_of _)
    obtain rfl := hzy h0
    refine f_aload_n (C.out _) 866 (dq dcW_rule 35 rfl) rfl rfl rfl ?_
    refine f_iconst (C.out _) 867 (dq dcW_rule 36 rfl) rfl ?_
    refine f_laload9 (C.out _) 868 (dq dcW_rule 37 rfl) rfl (Nat.le_of_ble_eq_true rfl) rfl hv ?_
    refine f_iload (C.out _) 870 (dq dcW_rule 38 rfl) rfl rfl ?_
    refine f_i2lz (C.out _) 871 (dq dcW_rule 39 rfl) rfl ?_
    refine f_lcmpE (C.out _) 872 (dq dcW_rule 40 rfl) rfl ?_
    refine f_if_eq (C.out _) 877 875 (dq dcW_rule 41 rfl) rfl rfl xr_0 (fun _ => ?_) (fun q => absurd rfl q)
    refine f_goto (C.out _) 2507 (dq dcW_rule 44 rfl) rfl ?_
    refine f_drop (lsL i) (fun k u hk => by match k, hk with | 0, hk => exact hk | 1, hk => exact hk | 2, hk => exact hk | 3, hk => exact hk | 4, hk => exact hk | 5, hk => cases hk | 6, hk => cases hk | 7, hk => cases hk | k + 8, hk => cases hk) ?_
    exact kk _ (hC.out _) _ hI2
def kW_index : List (Nat × Instr × Nat) := [(880, .aload_n 1, 1), (881, .aload_n 0, 1), (882, .iload 4, 2), (884, .iconst 1, 1), (885, .iadd, 1), (886, .iaload, 1), (887, .aload_n 0, 1), (888, .iload 4, 2), (890, .iconst 2, 1), (891, .iadd, 1), (892, .iaload, 1), (893, .ifCond .eq 7, 3), (896, .iconst 1, 1), (897, .goto 4, 3), (900, .iconst 0, 1), (901, .aload_n 3, 1), (902, .invokestatic 180, 3), (905, .istore 5, 2), (907, .aload_n 2, 1), (908, .aload_n 0, 1), (909, .iload 4, 2), (911, .iconst 1, 1), (912, .iadd, 1), (913, .iaload, 1), (914, .aload_n 0, 1), (915, .iload 4, 2), (917, .iconst 2, 1), (918, .iadd, 1), (919, .iaload, 1), (920, .ifCond .eq 7, 3), (923, .iconst 1, 1), (924, .goto 4, 3), (927, .iconst 0, 1), (928, .invokevirtual 183, 3), (931, .istore 6, 2), (933, .aload_n 2, 1), (934, .invokevirtual 140, 3), (937, .iload 5, 2), (939, .if_icmp .eq 5, 3), (942, .iconst 0, 1), (943, .ireturn, 1), (944, .iload 5, 2), (946, .ifCond .ne 15, 3), (949, .aload_n 3, 1), (950, .iconst 0, 1), (951, .laload, 1), (952, .iload 6, 2), (954, .i2l, 1), (955, .lcmp, 1), (956, .ifCond .eq 5, 3), (959, .iconst 0, 1), (960, .ireturn, 1), (961, .goto 1546, 3)]
theorem dcW_index : kW_index.all (fun q => decide (decode code q.1 = .ok q.2)) = true := by decide +kernel
theorem lc_index {K : x_KT} {b L i kc ks : Nat} {xs : Nat → Int32} {σ : xSig} (hC : x_LC K b L xs) (hI : INV i σ) (hi : i < 512) (hj : 5 * i + 5 ≤ L) (hkc : kc + 1 ≤ 601024) (hks : ks + 6 ≤ 7293034) (kk : ∀ K' : x_KT, x_LC K' b L xs → ∀ σ2 : xSig, INV (i + 1) σ2 → x_F K' 8 [(0, .ref b)] 2507 (lsL i) [] (St σ2) (kc + 1) (ks + 6)) : x_F K 8 [(0, .ref b)] 880 (lsL i) [] (St σ) kc ks := by
  by_cases hz : (xs (5 * i + 2)).toInt = 0
  · skip
    obtain ⟨σ1, σ2, code9, z, y, hcode, hc0, hc1, hm, h47, hzy, hI2⟩ := st_index hI (xs_r (xs := xs) (5 * i + 1)) (Or.inl rfl)
    have hcr : 0 ≤ code9 ∧ code9 ≤ 2 := hcode
    have C := hC.1
    have hxc : xr code9 := by unfold xr; omega
    obtain ⟨f, f0, f1⟩ := f9_of code9 (zI z)
    have spH := sw_index (f9 := f) hcr hc0 hc1 f0 f1
    refine f_aload_n C 881 (dq dcW_index 0 rfl) rfl rfl rfl ?_
    refine f_sldk hC 887 1 rfl (by omega) (dq dcW_index 1 rfl) (dq dcW_index 2 rfl) (dq dcW_index 3 rfl) (dq dcW_index 4 rfl) (dq dcW_index 5 rfl) rfl ?_
    refine f_sldk hC 893 2 rfl (by omega) (dq dcW_index 6 rfl) (dq dcW_index 7 rfl) (dq dcW_index 8 rfl) (dq dcW_index 9 rfl) (dq dcW_index 10 rfl) rfl ?_
    refine f_if_eq C 900 896 (dq dcW_index 11 rfl) rfl rfl (xs_r _) (fun _ => ?_) (fun q => absurd hz q)
    refine f_iconst C 901 (dq dcW_index 14 rfl) rfl ?_
    refine f_aload_n C 902 (dq dcW_index 15 rfl) rfl rfl rfl ?_
    refine f_callH hC 905 (n := 4) rfl spH cwL_index msL_index (by decide +kernel) ⟨(Nat.le_of_ble_eq_true rfl), (Nat.le_of_ble_eq_true rfl)⟩ (dq dcW_index 16 rfl) rfl rfl rfl (Nat.le_of_ble_eq_true rfl) (by omega) (by omega) ?_
    refine f_istore (C.out _) 907 (dq dcW_index 17 rfl) rfl (Nat.le_of_ble_eq_true rfl) rfl rfl ?_
    refine f_aload_n (C.out _) 908 (dq dcW_index 18 rfl) rfl rfl rfl ?_
    refine f_sldk (hC.out _) 914 1 rfl (by omega) (dq dcW_index 19 rfl) (dq dcW_index 20 rfl) (dq dcW_index 21 rfl) (dq dcW_index 22 rfl) (dq dcW_index 23 rfl) rfl ?_
    refine f_sldk (hC.out _) 920 2 rfl (by omega) (dq dcW_index 24 rfl) (dq dcW_index 25 rfl) (dq dcW_index 26 rfl) (dq dcW_index 27 rfl) (dq dcW_index 28 rfl) rfl ?_
    refine f_if_eq (C.out _) 927 923 (dq dcW_index 29 rfl) rfl rfl (xs_r _) (fun _ => ?_) (fun q => absurd hz q)
    refine f_iconst (C.out _) 928 (dq dcW_index 32 rfl) rfl ?_
    refine f_callL (hC.out _) 931 hm okX12_index cvL_183 ⟨(Nat.le_of_ble_eq_true rfl), (Nat.le_of_ble_eq_true rfl)⟩ (dq dcW_index 33 rfl) rfl (Nat.le_of_ble_eq_true rfl) rfl rfl rfl rfl rfl (Nat.le_of_ble_eq_true rfl) (by omega) (by omega) ?_
    refine f_istore (C.out _) 933 (dq dcW_index 34 rfl) rfl (Nat.le_of_ble_eq_true rfl) rfl rfl ?_
    refine f_aload_n (C.out _) 934 (dq dcW_index 35 rfl) rfl rfl rfl ?_
    have spT : x_Sp MX12_thrown 0 0 [.ref 281] (St σ2) (iv code9) (St σ2) := h47 ▸ sp_mThrown
    refine f_callL (hC.out _) 937 spT okX12_thrown cvL_140 ⟨(Nat.le_of_ble_eq_true rfl), (Nat.le_of_ble_eq_true rfl)⟩ (dq dcW_index 36 rfl) rfl (Nat.le_of_ble_eq_true rfl) rfl rfl rfl rfl rfl (Nat.le_of_ble_eq_true rfl) (by omega) (by omega) ?_
    refine f_iload (C.out _) 939 (dq dcW_index 37 rfl) rfl rfl ?_
    refine f_icmp_eq (C.out _) 944 942 (dq dcW_index 38 rfl) rfl rfl hxc hxc (fun _ => ?_) (fun q => absurd rfl q)
    refine f_iload (C.out _) 946 (dq dcW_index 41 rfl) rfl rfl ?_
    refine f_if_ne (C.out _) 961 949 (dq dcW_index 42 rfl) rfl rfl hxc (fun h0 => ?_) (fun h0 => ?_)
    · skip
      refine f_goto (C.out _) 2507 (dq dcW_index 52 rfl) rfl ?_
      refine f_drop (lsL i) (fun k u hk => by match k, hk with | 0, hk => exact hk | 1, hk => exact hk | 2, hk => exact hk | 3, hk => exact hk | 4, hk => exact hk | 5, hk => cases hk | 6, hk => cases hk | 7, hk => cases hk | k + 8, hk => cases hk) ?_
      exact kk _ (hC.out _) _ hI2
    · have hv := (congrArg Int64.ofNat (congrFun (f0 h0) ((kG K).2 9))).trans (o9_of _)
      obtain rfl := hzy h0
      refine f_aload_n (C.out _) 950 (dq dcW_index 43 rfl) rfl rfl rfl ?_
      refine f_iconst (C.out _) 951 (dq dcW_index 44 rfl) rfl ?_
      refine f_laload9 (C.out _) 952 (dq dcW_index 45 rfl) rfl (Nat.le_of_ble_eq_true rfl) rfl hv ?_
      refine f_iload (C.out _) 954 (dq dcW_index 46 rfl) rfl rfl ?_
      refine f_i2lz (C.out _) 955 (dq dcW_index 47 rfl) rfl ?_
      refine f_lcmpE (C.out _) 956 (dq dcW_index 48 rfl) rfl ?_
      refine f_if_eq (C.out _) 961 959 (dq dcW_index 49 rfl) rfl rfl xr_0 (fun _ => ?_) (fun q => absurd rfl q)
      refine f_goto (C.out _) 2507 (dq dcW_index 52 rfl) rfl ?_
      refine f_drop (lsL i) (fun k u hk => by match k, hk with | 0, hk => exact hk | 1, hk => exact hk | 2, hk => exact hk | 3, hk => exact hk | 4, hk => exact hk | 5, hk => cases hk | 6, hk => cases hk | 7, hk => cases hk | k + 8, hk => cases hk) ?_
      exact kk _ (hC.out _) _ hI2
  · skip
    obtain ⟨σ1, σ2, code9, z, y, hcode, hc0, hc1, hm, h47, hzy, hI2⟩ := st_index hI (xs_r (xs := xs) (5 * i + 1)) (Or.inr rfl)
    have hcr : 0 ≤ code9 ∧ code9 ≤ 2 := hcode
    have C := hC.1
    have hxc : xr code9 := by unfold xr; omega
    obtain ⟨f, f0, f1⟩ := f9_of code9 (zI z)
    have spH := sw_index (f9 := f) hcr hc0 hc1 f0 f1
    refine f_aload_n C 881 (dq dcW_index 0 rfl) rfl rfl rfl ?_
    refine f_sldk hC 887 1 rfl (by omega) (dq dcW_index 1 rfl) (dq dcW_index 2 rfl) (dq dcW_index 3 rfl) (dq dcW_index 4 rfl) (dq dcW_index 5 rfl) rfl ?_
    refine f_sldk hC 893 2 rfl (by omega) (dq dcW_index 6 rfl) (dq dcW_index 7 rfl) (dq dcW_index 8 rfl) (dq dcW_index 9 rfl) (dq dcW_index 10 rfl) rfl ?_
    refine f_if_eq C 900 896 (dq dcW_index 11 rfl) rfl rfl (xs_r _) (fun q => absurd q hz) (fun _ => ?_)
    refine f_iconst C 897 (dq dcW_index 12 rfl) rfl ?_
    refine f_goto C 901 (dq dcW_index 13 rfl) rfl ?_
    refine f_aload_n C 902 (dq dcW_index 15 rfl) rfl rfl rfl ?_
    refine f_callH hC 905 (n := 4) rfl spH cwL_index msL_index (by decide +kernel) ⟨(Nat.le_of_ble_eq_true rfl), (Nat.le_of_ble_eq_true rfl)⟩ (dq dcW_index 16 rfl) rfl rfl rfl (Nat.le_of_ble_eq_true rfl) (by omega) (by omega) ?_
    refine f_istore (C.out _) 907 (dq dcW_index 17 rfl) rfl (Nat.le_of_ble_eq_true rfl) rfl rfl ?_
    refine f_aload_n (C.out _) 908 (dq dcW_index 18 rfl) rfl rfl rfl ?_
    refine f_sldk (hC.out _) 914 1 rfl (by omega) (dq dcW_index 19 rfl) (dq dcW_index 20 rfl) (dq dcW_index 21 rfl) (dq dcW_index 22 rfl) (dq dcW_index 23 rfl) rfl ?_
    refine f_sldk (hC.out _) 920 2 rfl (by omega) (dq dcW_index 24 rfl) (dq dcW_index 25 rfl) (dq dcW_index 26 rfl) (dq dcW_index 27 rfl) (dq dcW_index 28 rfl) rfl ?_
    refine f_if_eq (C.out _) 927 923 (dq dcW_index 29 rfl) rfl rfl (xs_r _) (fun q => absurd q hz) (fun _ => ?_)
    refine f_iconst (C.out _) 924 (dq dcW_index 30 rfl) rfl ?_
    refine f_goto (C.out _) 928 (dq dcW_index 31 rfl) rfl ?_
    refine f_callL (hC.out _) 931 hm okX12_index cvL_183 ⟨(Nat.le_of_ble_eq_true rfl), (Nat.le_of_ble_eq_true rfl)⟩ (dq dcW_index 33 rfl) rfl (Nat.le_of_ble_eq_true rfl) rfl rfl rfl rfl rfl (Nat.le_of_ble_eq_true rfl) (by omega) (by omega) ?_
    refine f_istore (C.out _) 933 (dq dcW_index 34 rfl) rfl (Nat.le_of_ble_eq_true rfl) rfl rfl ?_
    refine f_aload_n (C.out _) 934 (dq dcW_index 35 rfl) rfl rfl rfl ?_
    have spT : x_Sp MX12_thrown 0 0 [.ref 281] (St σ2) (iv code9) (St σ2) := h47 ▸ sp_mThrown
    refine f_callL (hC.out _) 937 spT okX12_thrown cvL_140 ⟨(Nat.le_of_ble_eq_true rfl), (Nat.le_of_ble_eq_true rfl)⟩ (dq dcW_index 36 rfl) rfl (Nat.le_of_ble_eq_true rfl) rfl rfl rfl rfl rfl (Nat.le_of_ble_eq_true rfl) (by omega) (by omega) ?_
    refine f_iload (C.out _) 939 (dq dcW_index 37 rfl) rfl rfl ?_
    refine f_icmp_eq (C.out _) 944 942 (dq dcW_index 38 rfl) rfl rfl hxc hxc (fun _ => ?_) (fun q => absurd rfl q)
    refine f_iload (C.out _) 946 (dq dcW_index 41 rfl) rfl rfl ?_
    refine f_if_ne (C.out _) 961 949 (dq dcW_index 42 rfl) rfl rfl hxc (fun h0 => ?_) (fun h0 => ?_)
    · skip
      refine f_goto (C.out _) 2507 (dq dcW_index 52 rfl) rfl ?_
      refine f_drop (lsL i) (fun k u hk => by match k, hk with | 0, hk => exact hk | 1, hk => exact hk | 2, hk => exact hk | 3, hk => exact hk | 4, hk => exact hk | 5, hk => cases hk | 6, hk => cases hk | 7, hk => cases hk | k + 8, hk => cases hk) ?_
      exact kk _ (hC.out _) _ hI2
    · have hv := (congrArg Int64.ofNat (congrFun (f0 h0) ((kG K).2 9))).trans (o9_of _)
      obtain rfl := hzy h0
      refine f_aload_n (C.out _) 950 (dq dcW_index 43 rfl) rfl rfl rfl ?_
      refine f_iconst (C.out _) 951 (dq dcW_index 44 rfl) rfl ?_
      refine f_laload9 (C.out _) 952 (dq dcW_index 45 rfl) rfl (Nat.le_of_ble_eq_true rfl) rfl hv ?_
      refine f_iload (C.out _) 954 (dq dcW_index 46 rfl) rfl rfl ?_
      refine f_i2lz (C.out _) 955 (dq dcW_index 47 rfl) rfl ?_
      refine f_lcmpE (C.out _) 956 (dq dcW_index 48 rfl) rfl ?_
      refine f_if_eq (C.out _) 961 959 (dq dcW_index 49 rfl) rfl rfl xr_0 (fun _ => ?_) (fun q => absurd rfl q)
      refine f_goto (C.out _) 2507 (dq dcW_index 52 rfl) rfl ?_
      refine f_drop (lsL i) (fun k u hk => by match k, hk with | 0, hk => exact hk | 1, hk => exact hk | 2, hk => exact hk | 3, hk => exact hk | 4, hk => exact hk | 5, hk => cases hk | 6, hk => cases hk | 7, hk => cases hk | k + 8, hk => cases hk) ?_
      exact kk _ (hC.out _) _ hI2
def kW_dropIndex : List (Nat × Instr × Nat) := [(964, .aload_n 1, 1), (965, .aload_n 0, 1), (966, .iload 4, 2), (968, .iconst 1, 1), (969, .iadd, 1), (970, .iaload, 1), (971, .aload_n 3, 1), (972, .invokestatic 184, 3), (975, .istore 5, 2), (977, .aload_n 2, 1), (978, .aload_n 0, 1), (979, .iload 4, 2), (981, .iconst 1, 1), (982, .iadd, 1), (983, .iaload, 1), (984, .invokevirtual 186, 3), (987, .istore 6, 2), (989, .aload_n 2, 1), (990, .invokevirtual 140, 3), (993, .iload 5, 2), (995, .if_icmp .eq 5, 3), (998, .iconst 0, 1), (999, .ireturn, 1), (1000, .iload 5, 2), (1002, .ifCond .ne 15, 3), (1005, .aload_n 3, 1), (1006, .iconst 0, 1), (1007, .laload, 1), (1008, .iload 6, 2), (1010, .i2l, 1), (1011, .lcmp, 1), (1012, .ifCond .eq 5, 3), (1015, .iconst 0, 1), (1016, .ireturn, 1), (1017, .goto 1490, 3)]
theorem dcW_dropIndex : kW_dropIndex.all (fun q => decide (decode code q.1 = .ok q.2)) = true := by decide +kernel
theorem lc_dropIndex {K : x_KT} {b L i kc ks : Nat} {xs : Nat → Int32} {σ : xSig} (hC : x_LC K b L xs) (hI : INV i σ) (hi : i < 512) (hj : 5 * i + 5 ≤ L) (hkc : kc + 1 ≤ 601024) (hks : ks + 6 ≤ 7293034) (kk : ∀ K' : x_KT, x_LC K' b L xs → ∀ σ2 : xSig, INV (i + 1) σ2 → x_F K' 8 [(0, .ref b)] 2507 (lsL i) [] (St σ2) (kc + 1) (ks + 6)) : x_F K 8 [(0, .ref b)] 964 (lsL i) [] (St σ) kc ks := by
  obtain ⟨σ1, σ2, code9, z, y, hcode, hc0, hc1, hm, h47, hzy, hI2⟩ := st_dropIndex hI (xs_r (xs := xs) (5 * i + 1))
  have hcr : 0 ≤ code9 ∧ code9 ≤ 1 := hcode
  have C := hC.1
  have hxc : xr code9 := by unfold xr; omega
  obtain ⟨f, f0, f1⟩ := f9_of code9 (zI z)
  have spH := sw_dropIndex (f9 := f) hcr hc0 hc1 f0 f1
  refine f_aload_n C 965 (dq dcW_dropIndex 0 rfl) rfl rfl rfl ?_
  refine f_sldk hC 971 1 rfl (by omega) (dq dcW_dropIndex 1 rfl) (dq dcW_dropIndex 2 rfl) (dq dcW_dropIndex 3 rfl) (dq dcW_dropIndex 4 rfl) (dq dcW_dropIndex 5 rfl) rfl ?_
  refine f_aload_n C 972 (dq dcW_dropIndex 6 rfl) rfl rfl rfl ?_
  refine f_callH hC 975 (n := 3) rfl spH cwL_dropIndex msL_dropIndex (by decide +kernel) ⟨(Nat.le_of_ble_eq_true rfl), (Nat.le_of_ble_eq_true rfl)⟩ (dq dcW_dropIndex 7 rfl) rfl rfl rfl (Nat.le_of_ble_eq_true rfl) (by omega) (by omega) ?_
  refine f_istore (C.out _) 977 (dq dcW_dropIndex 8 rfl) rfl (Nat.le_of_ble_eq_true rfl) rfl rfl ?_
  refine f_aload_n (C.out _) 978 (dq dcW_dropIndex 9 rfl) rfl rfl rfl ?_
  refine f_sldk (hC.out _) 984 1 rfl (by omega) (dq dcW_dropIndex 10 rfl) (dq dcW_dropIndex 11 rfl) (dq dcW_dropIndex 12 rfl) (dq dcW_dropIndex 13 rfl) (dq dcW_dropIndex 14 rfl) rfl ?_
  refine f_callL (hC.out _) 987 hm okX12_dropIndex cvL_186 ⟨(Nat.le_of_ble_eq_true rfl), (Nat.le_of_ble_eq_true rfl)⟩ (dq dcW_dropIndex 15 rfl) rfl (Nat.le_of_ble_eq_true rfl) rfl rfl rfl rfl rfl (Nat.le_of_ble_eq_true rfl) (by omega) (by omega) ?_
  refine f_istore (C.out _) 989 (dq dcW_dropIndex 16 rfl) rfl (Nat.le_of_ble_eq_true rfl) rfl rfl ?_
  refine f_aload_n (C.out _) 990 (dq dcW_dropIndex 17 rfl) rfl rfl rfl ?_
  have spT : x_Sp MX12_thrown 0 0 [.ref 281] (St σ2) (iv code9) (St σ2) := h47 ▸ sp_mThrown
  refine f_callL (hC.out _) 993 spT okX12_thrown cvL_140 ⟨(Nat.le_of_ble_eq_true rfl), (Nat.le_of_ble_eq_true rfl)⟩ (dq dcW_dropIndex 18 rfl) rfl (Nat.le_of_ble_eq_true rfl) rfl rfl rfl rfl rfl (Nat.le_of_ble_eq_true rfl) (by omega) (by omega) ?_
  refine f_iload (C.out _) 995 (dq dcW_dropIndex 19 rfl) rfl rfl ?_
  refine f_icmp_eq (C.out _) 1000 998 (dq dcW_dropIndex 20 rfl) rfl rfl hxc hxc (fun _ => ?_) (fun q => absurd rfl q)
  refine f_iload (C.out _) 1002 (dq dcW_dropIndex 23 rfl) rfl rfl ?_
  refine f_if_ne (C.out _) 1017 1005 (dq dcW_dropIndex 24 rfl) rfl rfl hxc (fun h0 => ?_) (fun h0 => ?_)
  · skip
    refine f_goto (C.out _) 2507 (dq dcW_dropIndex 34 rfl) rfl ?_
    refine f_drop (lsL i) (fun k u hk => by match k, hk with | 0, hk => exact hk | 1, hk => exact hk | 2, hk => exact hk | 3, hk => exact hk | 4, hk => exact hk | 5, hk => cases hk | 6, hk => cases hk | 7, hk => cases hk | k + 8, hk => cases hk) ?_
    exact kk _ (hC.out _) _ hI2
  · have hv := (congrArg Int64.ofNat (congrFun (f0 h0) ((kG K).2 9))).trans (o9_of _)
    obtain rfl := hzy h0
    refine f_aload_n (C.out _) 1006 (dq dcW_dropIndex 25 rfl) rfl rfl rfl ?_
    refine f_iconst (C.out _) 1007 (dq dcW_dropIndex 26 rfl) rfl ?_
    refine f_laload9 (C.out _) 1008 (dq dcW_dropIndex 27 rfl) rfl (Nat.le_of_ble_eq_true rfl) rfl hv ?_
    refine f_iload (C.out _) 1010 (dq dcW_dropIndex 28 rfl) rfl rfl ?_
    refine f_i2lz (C.out _) 1011 (dq dcW_dropIndex 29 rfl) rfl ?_
    refine f_lcmpE (C.out _) 1012 (dq dcW_dropIndex 30 rfl) rfl ?_
    refine f_if_eq (C.out _) 1017 1015 (dq dcW_dropIndex 31 rfl) rfl rfl xr_0 (fun _ => ?_) (fun q => absurd rfl q)
    refine f_goto (C.out _) 2507 (dq dcW_dropIndex 34 rfl) rfl ?_
    refine f_drop (lsL i) (fun k u hk => by match k, hk with | 0, hk => exact hk | 1, hk => exact hk | 2, hk => exact hk | 3, hk => exact hk | 4, hk => exact hk | 5, hk => cases hk | 6, hk => cases hk | 7, hk => cases hk | k + 8, hk => cases hk) ?_
    exact kk _ (hC.out _) _ hI2
def kW_filter : List (Nat × Instr × Nat) := [(1020, .aload_n 1, 1), (1021, .aload_n 0, 1), (1022, .iload 4, 2), (1024, .iconst 1, 1), (1025, .iadd, 1), (1026, .iaload, 1), (1027, .aload_n 0, 1), (1028, .iload 4, 2), (1030, .iconst 2, 1), (1031, .iadd, 1), (1032, .iaload, 1), (1033, .aload_n 3, 1), (1034, .invokestatic 187, 3), (1037, .istore 5, 2), (1039, .aload_n 2, 1), (1040, .aload_n 0, 1), (1041, .iload 4, 2), (1043, .iconst 1, 1), (1044, .iadd, 1), (1045, .iaload, 1), (1046, .aload_n 0, 1), (1047, .iload 4, 2), (1049, .iconst 2, 1), (1050, .iadd, 1), (1051, .iaload, 1), (1052, .invokevirtual 189, 3), (1055, .istore 6, 2), (1057, .aload_n 2, 1), (1058, .invokevirtual 140, 3), (1061, .iload 5, 2), (1063, .if_icmp .eq 5, 3), (1066, .iconst 0, 1), (1067, .ireturn, 1), (1068, .iload 5, 2), (1070, .ifCond .ne 15, 3), (1073, .aload_n 3, 1), (1074, .iconst 0, 1), (1075, .laload, 1), (1076, .iload 6, 2), (1078, .i2l, 1), (1079, .lcmp, 1), (1080, .ifCond .eq 5, 3), (1083, .iconst 0, 1), (1084, .ireturn, 1), (1085, .goto 1422, 3)]
theorem dcW_filter : kW_filter.all (fun q => decide (decode code q.1 = .ok q.2)) = true := by decide +kernel
theorem lc_filter {K : x_KT} {b L i kc ks : Nat} {xs : Nat → Int32} {σ : xSig} (hC : x_LC K b L xs) (hI : INV i σ) (hi : i < 512) (hj : 5 * i + 5 ≤ L) (hkc : kc + 1 ≤ 601024) (hks : ks + 6 ≤ 7293034) (kk : ∀ K' : x_KT, x_LC K' b L xs → ∀ σ2 : xSig, INV (i + 1) σ2 → x_F K' 8 [(0, .ref b)] 2507 (lsL i) [] (St σ2) (kc + 1) (ks + 6)) : x_F K 8 [(0, .ref b)] 1020 (lsL i) [] (St σ) kc ks := by
  obtain ⟨σ1, σ2, code9, z, y, hcode, hc0, hc1, hm, h47, hzy, hI2⟩ := st_filter hI (xs_r (xs := xs) (5 * i + 1)) (xs_r (xs := xs) (5 * i + 2))
  have hcr : 0 ≤ code9 ∧ code9 ≤ 2 := hcode
  have C := hC.1
  have hxc : xr code9 := by unfold xr; omega
  obtain ⟨f, f0, f1⟩ := f9_of code9 (zI z)
  have spH := sw_filter (f9 := f) hcr hc0 hc1 f0 f1
  refine f_aload_n C 1021 (dq dcW_filter 0 rfl) rfl rfl rfl ?_
  refine f_sldk hC 1027 1 rfl (by omega) (dq dcW_filter 1 rfl) (dq dcW_filter 2 rfl) (dq dcW_filter 3 rfl) (dq dcW_filter 4 rfl) (dq dcW_filter 5 rfl) rfl ?_
  refine f_sldk hC 1033 2 rfl (by omega) (dq dcW_filter 6 rfl) (dq dcW_filter 7 rfl) (dq dcW_filter 8 rfl) (dq dcW_filter 9 rfl) (dq dcW_filter 10 rfl) rfl ?_
  refine f_aload_n C 1034 (dq dcW_filter 11 rfl) rfl rfl rfl ?_
  refine f_callH hC 1037 (n := 4) rfl spH cwL_filter msL_filter (by decide +kernel) ⟨(Nat.le_of_ble_eq_true rfl), (Nat.le_of_ble_eq_true rfl)⟩ (dq dcW_filter 12 rfl) rfl rfl rfl (Nat.le_of_ble_eq_true rfl) (by omega) (by omega) ?_
  refine f_istore (C.out _) 1039 (dq dcW_filter 13 rfl) rfl (Nat.le_of_ble_eq_true rfl) rfl rfl ?_
  refine f_aload_n (C.out _) 1040 (dq dcW_filter 14 rfl) rfl rfl rfl ?_
  refine f_sldk (hC.out _) 1046 1 rfl (by omega) (dq dcW_filter 15 rfl) (dq dcW_filter 16 rfl) (dq dcW_filter 17 rfl) (dq dcW_filter 18 rfl) (dq dcW_filter 19 rfl) rfl ?_
  refine f_sldk (hC.out _) 1052 2 rfl (by omega) (dq dcW_filter 20 rfl) (dq dcW_filter 21 rfl) (dq dcW_filter 22 rfl) (dq dcW_filter 23 rfl) (dq dcW_filter 24 rfl) rfl ?_
  refine f_callL (hC.out _) 1055 hm okX12_filter cvL_189 ⟨(Nat.le_of_ble_eq_true rfl), (Nat.le_of_ble_eq_true rfl)⟩ (dq dcW_filter 25 rfl) rfl (Nat.le_of_ble_eq_true rfl) rfl rfl rfl rfl rfl (Nat.le_of_ble_eq_true rfl) (by omega) (by omega) ?_
  refine f_istore (C.out _) 1057 (dq dcW_filter 26 rfl) rfl (Nat.le_of_ble_eq_true rfl) rfl rfl ?_
  refine f_aload_n (C.out _) 1058 (dq dcW_filter 27 rfl) rfl rfl rfl ?_
  have spT : x_Sp MX12_thrown 0 0 [.ref 281] (St σ2) (iv code9) (St σ2) := h47 ▸ sp_mThrown
  refine f_callL (hC.out _) 1061 spT okX12_thrown cvL_140 ⟨(Nat.le_of_ble_eq_true rfl), (Nat.le_of_ble_eq_true rfl)⟩ (dq dcW_filter 28 rfl) rfl (Nat.le_of_ble_eq_true rfl) rfl rfl rfl rfl rfl (Nat.le_of_ble_eq_true rfl) (by omega) (by omega) ?_
  refine f_iload (C.out _) 1063 (dq dcW_filter 29 rfl) rfl rfl ?_
  refine f_icmp_eq (C.out _) 1068 1066 (dq dcW_filter 30 rfl) rfl rfl hxc hxc (fun _ => ?_) (fun q => absurd rfl q)
  refine f_iload (C.out _) 1070 (dq dcW_filter 33 rfl) rfl rfl ?_
  refine f_if_ne (C.out _) 1085 1073 (dq dcW_filter 34 rfl) rfl rfl hxc (fun h0 => ?_) (fun h0 => ?_)
  · skip
    refine f_goto (C.out _) 2507 (dq dcW_filter 44 rfl) rfl ?_
    refine f_drop (lsL i) (fun k u hk => by match k, hk with | 0, hk => exact hk | 1, hk => exact hk | 2, hk => exact hk | 3, hk => exact hk | 4, hk => exact hk | 5, hk => cases hk | 6, hk => cases hk | 7, hk => cases hk | k + 8, hk => cases hk) ?_
    exact kk _ (hC.out _) _ hI2
  · have hv := (congrArg Int64.ofNat (congrFun (f0 h0) ((kG K).2 9))).trans (o9_of _)
    obtain rfl := hzy h0
    refine f_aload_n (C.out _) 1074 (dq dcW_filter 35 rfl) rfl rfl rfl ?_
    refine f_iconst (C.out _) 1075 (dq dcW_filter 36 rfl) rfl ?_
    refine f_laload9 (C.out _) 1076 (dq dcW_filter 37 rfl) rfl (Nat.le_of_ble_eq_true rfl) rfl hv ?_
    refine f_iload (C.out _) 1078 (dq dcW_filter 38 rfl) rfl rfl ?_
    refine f_i2lz (C.out _) 1079 (dq dcW_filter 39 rfl) rfl ?_
    refine f_lcmpE (C.out _) 1080 (dq dcW_filter 40 rfl) rfl ?_
    refine f_if_eq (C.out _) 1085 1083 (dq dcW_filter 41 rfl) rfl rfl xr_0 (fun _ => ?_) (fun q => absurd rfl q)
    refine f_goto (C.out _) 2507 (dq dcW_filter 44 rfl) rfl ?_
    refine f_drop (lsL i) (fun k u hk => by match k, hk with | 0, hk => exact hk | 1, hk => exact hk | 2, hk => exact hk | 3, hk => exact hk | 4, hk => exact hk | 5, hk => cases hk | 6, hk => cases hk | 7, hk => cases hk | k + 8, hk => cases hk) ?_
    exact kk _ (hC.out _) _ hI2
def kW_clear : List (Nat × Instr × Nat) := [(1088, .aload_n 1, 1), (1089, .invokevirtual 190, 3), (1092, .aload_n 2, 1), (1093, .invokevirtual 193, 3), (1096, .if_icmp .eq 1411, 3), (1099, .iconst 0, 1), (1100, .ireturn, 1)]
theorem dcW_clear : kW_clear.all (fun q => decide (decode code q.1 = .ok q.2)) = true := by decide +kernel
theorem lc_clear {K : x_KT} {b L i kc ks : Nat} {xs : Nat → Int32} {σ : xSig} (hC : x_LC K b L xs) (hI : INV i σ) (hi : i < 512) (hj : 5 * i + 5 ≤ L) (hkc : kc + 1 ≤ 601024) (hks : ks + 6 ≤ 7293034) (kk : ∀ K' : x_KT, x_LC K' b L xs → ∀ σ2 : xSig, INV (i + 1) σ2 → x_F K' 8 [(0, .ref b)] 2507 (lsL i) [] (St σ2) (kc + 1) (ks + 6)) : x_F K 8 [(0, .ref b)] 1088 (lsL i) [] (St σ) kc ks := by
  obtain ⟨σ1, σ2, code9, z, y, hcode, hc0, hc1, hm, h47, hzy, hI2⟩ := st_clear hI
  have hcr : 0 ≤ code9 ∧ code9 ≤ 0 := hcode
  have C := hC.1
  obtain rfl : code9 = 0 := by omega
  have spH := hc0 rfl
  obtain rfl := hzy rfl
  refine f_aload_n C 1089 (dq dcW_clear 0 rfl) rfl rfl rfl ?_
  refine f_callL hC 1092 spH okX11_clear cvL_190 ⟨(Nat.le_of_ble_eq_true rfl), (Nat.le_of_ble_eq_true rfl)⟩ (dq dcW_clear 1 rfl) rfl (Nat.le_of_ble_eq_true rfl) rfl rfl rfl rfl rfl (Nat.le_of_ble_eq_true rfl) (by omega) (by omega) ?_
  refine f_aload_n C 1093 (dq dcW_clear 2 rfl) rfl rfl rfl ?_
  refine f_callL hC 1096 hm okX12_clear cvL_193 ⟨(Nat.le_of_ble_eq_true rfl), (Nat.le_of_ble_eq_true rfl)⟩ (dq dcW_clear 3 rfl) rfl (Nat.le_of_ble_eq_true rfl) rfl rfl rfl rfl rfl (Nat.le_of_ble_eq_true rfl) (by omega) (by omega) ?_
  rw [← zI_i]
  refine f_icmp_eq C 2507 1099 (dq dcW_clear 4 rfl) rfl rfl (zI_r _) (zI_r _) (fun _ => ?_) (fun q => absurd rfl q)
  refine f_drop (lsL i) (fun k u hk => hk) ?_
  exact f_widen (by omega) (by omega) (kk _ hC _ hI2)
def kW_find : List (Nat × Instr × Nat) := [(1101, .aload_n 1, 1), (1102, .aload_n 0, 1), (1103, .iload 4, 2), (1105, .iconst 1, 1), (1106, .iadd, 1), (1107, .iaload, 1), (1108, .aload_n 3, 1), (1109, .invokestatic 194, 3), (1112, .istore 5, 2), (1114, .aload_n 2, 1), (1115, .aload_n 0, 1), (1116, .iload 4, 2), (1118, .iconst 1, 1), (1119, .iadd, 1), (1120, .iaload, 1), (1121, .invokevirtual 196, 3), (1124, .istore 6, 2), (1126, .aload_n 2, 1), (1127, .invokevirtual 140, 3), (1130, .iload 5, 2), (1132, .if_icmp .eq 5, 3), (1135, .iconst 0, 1), (1136, .ireturn, 1), (1137, .iload 5, 2), (1139, .ifCond .ne 15, 3), (1142, .aload_n 3, 1), (1143, .iconst 0, 1), (1144, .laload, 1), (1145, .iload 6, 2), (1147, .i2l, 1), (1148, .lcmp, 1), (1149, .ifCond .eq 5, 3), (1152, .iconst 0, 1), (1153, .ireturn, 1), (1154, .goto 1353, 3)]
theorem dcW_find : kW_find.all (fun q => decide (decode code q.1 = .ok q.2)) = true := by decide +kernel
theorem lc_find {K : x_KT} {b L i kc ks : Nat} {xs : Nat → Int32} {σ : xSig} (hC : x_LC K b L xs) (hI : INV i σ) (hi : i < 512) (hj : 5 * i + 5 ≤ L) (hkc : kc + 1 ≤ 601024) (hks : ks + 6 ≤ 7293034) (kk : ∀ K' : x_KT, x_LC K' b L xs → ∀ σ2 : xSig, INV (i + 1) σ2 → x_F K' 8 [(0, .ref b)] 2507 (lsL i) [] (St σ2) (kc + 1) (ks + 6)) : x_F K 8 [(0, .ref b)] 1101 (lsL i) [] (St σ) kc ks := by
  obtain ⟨σ1, σ2, code9, z, y, hcode, hc0, hc1, hm, h47, hzy, hI2⟩ := st_find hI hi (xs_r (xs := xs) (5 * i + 1))
  have hcr : 0 ≤ code9 ∧ code9 ≤ 1 := hcode
  have C := hC.1
  have hxc : xr code9 := by unfold xr; omega
  obtain ⟨f, f0, f1⟩ := f9_of code9 (zI z)
  have spH := sw_find (f9 := f) hcr hc0 hc1 f0 f1
  refine f_aload_n C 1102 (dq dcW_find 0 rfl) rfl rfl rfl ?_
  refine f_sldk hC 1108 1 rfl (by omega) (dq dcW_find 1 rfl) (dq dcW_find 2 rfl) (dq dcW_find 3 rfl) (dq dcW_find 4 rfl) (dq dcW_find 5 rfl) rfl ?_
  refine f_aload_n C 1109 (dq dcW_find 6 rfl) rfl rfl rfl ?_
  refine f_callH hC 1112 (n := 3) rfl spH cwL_find msL_find (by decide +kernel) ⟨(Nat.le_of_ble_eq_true rfl), (Nat.le_of_ble_eq_true rfl)⟩ (dq dcW_find 7 rfl) rfl rfl rfl (Nat.le_of_ble_eq_true rfl) (by omega) (by omega) ?_
  refine f_istore (C.out _) 1114 (dq dcW_find 8 rfl) rfl (Nat.le_of_ble_eq_true rfl) rfl rfl ?_
  refine f_aload_n (C.out _) 1115 (dq dcW_find 9 rfl) rfl rfl rfl ?_
  refine f_sldk (hC.out _) 1121 1 rfl (by omega) (dq dcW_find 10 rfl) (dq dcW_find 11 rfl) (dq dcW_find 12 rfl) (dq dcW_find 13 rfl) (dq dcW_find 14 rfl) rfl ?_
  refine f_callL (hC.out _) 1124 hm okX12_find cvL_196 ⟨(Nat.le_of_ble_eq_true rfl), (Nat.le_of_ble_eq_true rfl)⟩ (dq dcW_find 15 rfl) rfl (Nat.le_of_ble_eq_true rfl) rfl rfl rfl rfl rfl (Nat.le_of_ble_eq_true rfl) (by omega) (by omega) ?_
  refine f_istore (C.out _) 1126 (dq dcW_find 16 rfl) rfl (Nat.le_of_ble_eq_true rfl) rfl rfl ?_
  refine f_aload_n (C.out _) 1127 (dq dcW_find 17 rfl) rfl rfl rfl ?_
  have spT : x_Sp MX12_thrown 0 0 [.ref 281] (St σ2) (iv code9) (St σ2) := h47 ▸ sp_mThrown
  refine f_callL (hC.out _) 1130 spT okX12_thrown cvL_140 ⟨(Nat.le_of_ble_eq_true rfl), (Nat.le_of_ble_eq_true rfl)⟩ (dq dcW_find 18 rfl) rfl (Nat.le_of_ble_eq_true rfl) rfl rfl rfl rfl rfl (Nat.le_of_ble_eq_true rfl) (by omega) (by omega) ?_
  refine f_iload (C.out _) 1132 (dq dcW_find 19 rfl) rfl rfl ?_
  refine f_icmp_eq (C.out _) 1137 1135 (dq dcW_find 20 rfl) rfl rfl hxc hxc (fun _ => ?_) (fun q => absurd rfl q)
  refine f_iload (C.out _) 1139 (dq dcW_find 23 rfl) rfl rfl ?_
  refine f_if_ne (C.out _) 1154 1142 (dq dcW_find 24 rfl) rfl rfl hxc (fun h0 => ?_) (fun h0 => ?_)
  · skip
    refine f_goto (C.out _) 2507 (dq dcW_find 34 rfl) rfl ?_
    refine f_drop (lsL i) (fun k u hk => by match k, hk with | 0, hk => exact hk | 1, hk => exact hk | 2, hk => exact hk | 3, hk => exact hk | 4, hk => exact hk | 5, hk => cases hk | 6, hk => cases hk | 7, hk => cases hk | k + 8, hk => cases hk) ?_
    exact kk _ (hC.out _) _ hI2
  · have hv := (congrArg Int64.ofNat (congrFun (f0 h0) ((kG K).2 9))).trans (o9_of _)
    obtain rfl := hzy h0
    refine f_aload_n (C.out _) 1143 (dq dcW_find 25 rfl) rfl rfl rfl ?_
    refine f_iconst (C.out _) 1144 (dq dcW_find 26 rfl) rfl ?_
    refine f_laload9 (C.out _) 1145 (dq dcW_find 27 rfl) rfl (Nat.le_of_ble_eq_true rfl) rfl hv ?_
    refine f_iload (C.out _) 1147 (dq dcW_find 28 rfl) rfl rfl ?_
    refine f_i2lz (C.out _) 1148 (dq dcW_find 29 rfl) rfl ?_
    refine f_lcmpE (C.out _) 1149 (dq dcW_find 30 rfl) rfl ?_
    refine f_if_eq (C.out _) 1154 1152 (dq dcW_find 31 rfl) rfl rfl xr_0 (fun _ => ?_) (fun q => absurd rfl q)
    refine f_goto (C.out _) 2507 (dq dcW_find 34 rfl) rfl ?_
    refine f_drop (lsL i) (fun k u hk => by match k, hk with | 0, hk => exact hk | 1, hk => exact hk | 2, hk => exact hk | 3, hk => exact hk | 4, hk => exact hk | 5, hk => cases hk | 6, hk => cases hk | 7, hk => cases hk | k + 8, hk => cases hk) ?_
    exact kk _ (hC.out _) _ hI2
