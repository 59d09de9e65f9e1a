/-! ===== the law, case by case ===== -/
def kW_number : List (Nat × Instr × Nat) := [(264, .aload_n 1, 1), (265, .aload_n 0, 1), (266, .iload 4, 2), (268, .iconst 1, 1), (269, .iadd, 1), (270, .iaload, 1), (271, .aload_n 3, 1), (272, .invokestatic 143, 3), (275, .istore 5, 2), (277, .aload_n 2, 1), (278, .aload_n 0, 1), (279, .iload 4, 2), (281, .iconst 1, 1), (282, .iadd, 1), (283, .iaload, 1), (284, .invokevirtual 146, 3), (287, .istore 6, 2), (289, .aload_n 2, 1), (290, .invokevirtual 140, 3), (293, .iload 5, 2), (295, .if_icmp .eq 5, 3), (298, .iconst 0, 1), (299, .ireturn, 1), (300, .iload 5, 2), (302, .ifCond .ne 15, 3), (305, .aload_n 3, 1), (306, .iconst 0, 1), (307, .laload, 1), (308, .iload 6, 2), (310, .i2l, 1), (311, .lcmp, 1), (312, .ifCond .eq 5, 3), (315, .iconst 0, 1), (316, .ireturn, 1), (317, .goto 2190, 3)]
theorem dcW_number : kW_number.all (fun q => decide (decode code q.1 = .ok q.2)) = true := by decide +kernel
theorem lc_number {K : x_KT} {b L i kc ks : Nat} {xs : Nat → Int32} {σ : xSig} (hC : x_LC K b L xs) (hI : INV i σ) (hi : i < 512) (hj : 5 * i + 5 ≤ L) (hkc : kc + 1 ≤ 601024) (hks : ks + 6 ≤ 7293034) (kk : ∀ K' : x_KT, x_LC K' b L xs → ∀ σ2 : xSig, INV (i + 1) σ2 → x_F K' 8 [(0, .ref b)] 2507 (lsL i) [] (St σ2) (kc + 1) (ks + 6)) : x_F K 8 [(0, .ref b)] 264 (lsL i) [] (St σ) kc ks := by
  obtain ⟨σ1, σ2, code9, z, y, hcode, hc0, hc1, hm, h47, hzy, hI2⟩ := st_number hI (xs_r (xs := xs) (5 * i + 1))
  have hcr : 0 ≤ code9 ∧ code9 ≤ 2 := hcode
  have C := hC.1
  have hxc : xr code9 := by unfold xr; omega
  obtain ⟨f, f0, f1⟩ := f9_of code9 (zI z)
  have spH := sw_number (f9 := f) hcr hc0 hc1 f0 f1
  refine f_aload_n C 265 (dq dcW_number 0 rfl) rfl rfl rfl ?_
  refine f_sldk hC 271 1 rfl (by omega) (dq dcW_number 1 rfl) (dq dcW_number 2 rfl) (dq dcW_number 3 rfl) (dq dcW_number 4 rfl) (dq dcW_number 5 rfl) rfl ?_
  refine f_aload_n C 272 (dq dcW_number 6 rfl) rfl rfl rfl ?_
  refine f_callH hC 275 (n := 3) rfl spH cwL_number msL_number (by decide +kernel) ⟨(Nat.le_of_ble_eq_true rfl), (Nat.le_of_ble_eq_true rfl)⟩ (dq dcW_number 7 rfl) rfl rfl rfl (Nat.le_of_ble_eq_true rfl) (by omega) (by omega) ?_
  refine f_istore (C.out _) 277 (dq dcW_number 8 rfl) rfl (Nat.le_of_ble_eq_true rfl) rfl rfl ?_
  refine f_aload_n (C.out _) 278 (dq dcW_number 9 rfl) rfl rfl rfl ?_
  refine f_sldk (hC.out _) 284 1 rfl (by omega) (dq dcW_number 10 rfl) (dq dcW_number 11 rfl) (dq dcW_number 12 rfl) (dq dcW_number 13 rfl) (dq dcW_number 14 rfl) rfl ?_
  refine f_callL (hC.out _) 287 hm okX12_number cvL_146 ⟨(Nat.le_of_ble_eq_true rfl), (Nat.le_of_ble_eq_true rfl)⟩ (dq dcW_number 15 rfl) rfl (Nat.le_of_ble_eq_true rfl) rfl rfl rfl rfl rfl (Nat.le_of_ble_eq_true rfl) (by omega) (by omega) ?_
  refine f_istore (C.out _) 289 (dq dcW_number 16 rfl) rfl (Nat.le_of_ble_eq_true rfl) rfl rfl ?_
  refine f_aload_n (C.out _) 290 (dq dcW_number 17 rfl) rfl rfl rfl ?_
  have spT : x_Sp MX12_thrown 0 0 [.ref 281] (St σ2) (iv code9) (St σ2) := h47 ▸ sp_mThrown
  refine f_callL (hC.out _) 293 spT okX12_thrown cvL_140 ⟨(Nat.le_of_ble_eq_true rfl), (Nat.le_of_ble_eq_true rfl)⟩ (dq dcW_number 18 rfl) rfl (Nat.le_of_ble_eq_true rfl) rfl rfl rfl rfl rfl (Nat.le_of_ble_eq_true rfl) (by omega) (by omega) ?_
  refine f_iload (C.out _) 295 (dq dcW_number 19 rfl) rfl rfl ?_
  refine f_icmp_eq (C.out _) 300 298 (dq dcW_number 20 rfl) rfl rfl hxc hxc (fun _ => ?_) (fun q => absurd rfl q)
  refine f_iload (C.out _) 302 (dq dcW_number 23 rfl) rfl rfl ?_
  refine f_if_ne (C.out _) 317 305 (dq dcW_number 24 rfl) rfl rfl hxc (fun h0 => ?_) (fun h0 => ?_)
  · skip
    refine f_goto (C.out _) 2507 (dq dcW_number 34 rfl) rfl ?_
    refine f_drop (lsL i) (fun k u hk => by match k, hk with | 0, hk => exact hk | 1, hk => exact hk | 2, hk => exact hk | 3, hk => exact hk | 4, hk => exact hk | 5, hk => cases hk | 6, hk => cases hk | 7, hk => cases hk | k + 8, hk => cases hk) ?_
    exact kk _ (hC.out _) _ hI2
  · have hv := (congrArg Int64.ofNat (congrFun (f0 h0) ((kG K).2 9))).trans (o9_of _)
    obtain rfl := hzy h0
    refine f_aload_n (C.out _) 306 (dq dcW_number 25 rfl) rfl rfl rfl ?_
    refine f_iconst (C.out _) 307 (dq dcW_number 26 rfl) rfl ?_
    refine f_laload9 (C.out _) 308 (dq dcW_number 27 rfl) rfl (Nat.le_of_ble_eq_true rfl) rfl hv ?_
    refine f_iload (C.out _) 310 (dq dcW_number 28 rfl) rfl rfl ?_
    refine f_i2lz (C.out _) 311 (dq dcW_number 29 rfl) rfl ?_
    refine f_lcmpE (C.out _) 312 (dq dcW_number 30 rfl) rfl ?_
    refine f_if_eq (C.out _) 317 315 (dq dcW_number 31 rfl) rfl rfl xr_0 (fun _ => ?_) (fun q => absurd rfl q)
    refine f_goto (C.out _) 2507 (dq dcW_number 34 rfl) rfl ?_
    refine f_drop (lsL i) (fun k u hk => by match k, hk with | 0, hk => exact hk | 1, hk => exact hk | 2, hk => exact hk | 3, hk => exact hk | 4, hk => exact hk | 5, hk => cases hk | 6, hk => cases hk | 7, hk => cases hk | k + 8, hk => cases hk) ?_
    exact kk _ (hC.out _) _ hI2
def kW_drop : List (Nat × Instr × Nat) := [(564, .aload_n 1, 1), (565, .invokevirtual 162, 3), (568, .aload_n 2, 1), (569, .invokevirtual 165, 3), (572, .if_icmp .eq 1935, 3), (575, .iconst 0, 1), (576, .ireturn, 1)]
theorem dcW_drop : kW_drop.all (fun q => decide (decode code q.1 = .ok q.2)) = true := by decide +kernel
theorem lc_drop {K : x_KT} {b L i kc ks : Nat} {xs : Nat → Int32} {σ : xSig} (hC : x_LC K b L xs) (hI : INV i σ) (hi : i < 512) (hj : 5 * i + 5 ≤ L) (hkc : kc + 1 ≤ 601024) (hks : ks + 6 ≤ 7293034) (kk : ∀ K' : x_KT, x_LC K' b L xs → ∀ σ2 : xSig, INV (i + 1) σ2 → x_F K' 8 [(0, .ref b)] 2507 (lsL i) [] (St σ2) (kc + 1) (ks + 6)) : x_F K 8 [(0, .ref b)] 564 (lsL i) [] (St σ) kc ks := by
  obtain ⟨σ1, σ2, code9, z, y, hcode, hc0, hc1, hm, h47, hzy, hI2⟩ := st_drop hI
  have hcr : 0 ≤ code9 ∧ code9 ≤ 0 := hcode
  have C := hC.1
  obtain rfl : code9 = 0 := by omega
  have spH := hc0 rfl
  obtain rfl := hzy rfl
  refine f_aload_n C 565 (dq dcW_drop 0 rfl) rfl rfl rfl ?_
  refine f_callL hC 568 spH okX11_drop cvL_162 ⟨(Nat.le_of_ble_eq_true rfl), (Nat.le_of_ble_eq_true rfl)⟩ (dq dcW_drop 1 rfl) rfl (Nat.le_of_ble_eq_true rfl) rfl rfl rfl rfl rfl (Nat.le_of_ble_eq_true rfl) (by omega) (by omega) ?_
  refine f_aload_n C 569 (dq dcW_drop 2 rfl) rfl rfl rfl ?_
  refine f_callL hC 572 hm okX12_drop cvL_165 ⟨(Nat.le_of_ble_eq_true rfl), (Nat.le_of_ble_eq_true rfl)⟩ (dq dcW_drop 3 rfl) rfl (Nat.le_of_ble_eq_true rfl) rfl rfl rfl rfl rfl (Nat.le_of_ble_eq_true rfl) (by omega) (by omega) ?_
  rw [← zI_i]
  refine f_icmp_eq C 2507 575 (dq dcW_drop 4 rfl) rfl rfl (zI_r _) (zI_r _) (fun _ => ?_) (fun q => absurd rfl q)
  refine f_drop (lsL i) (fun k u hk => hk) ?_
  exact f_widen (by omega) (by omega) (kk _ hC _ hI2)
def kW_update : List (Nat × Instr × Nat) := [(645, .aload_n 1, 1), (646, .aload_n 0, 1), (647, .iload 4, 2), (649, .iconst 1, 1), (650, .iadd, 1), (651, .iaload, 1), (652, .aload_n 0, 1), (653, .iload 4, 2), (655, .iconst 2, 1), (656, .iadd, 1), (657, .iaload, 1), (658, .aload_n 0, 1), (659, .iload 4, 2), (661, .iconst 3, 1), (662, .iadd, 1), (663, .iaload, 1), (664, .aload_n 0, 1), (665, .iload 4, 2), (667, .iconst 4, 1), (668, .iadd, 1), (669, .iaload, 1), (670, .aload_n 3, 1), (671, .invokestatic 170, 3), (674, .istore 5, 2), (676, .aload_n 2, 1), (677, .aload_n 0, 1), (678, .iload 4, 2), (680, .iconst 1, 1), (681, .iadd, 1), (682, .iaload, 1), (683, .aload_n 0, 1), (684, .iload 4, 2), (686, .iconst 2, 1), (687, .iadd, 1), (688, .iaload, 1), (689, .aload_n 0, 1), (690, .iload 4, 2), (692, .iconst 3, 1), (693, .iadd, 1), (694, .iaload, 1), (695, .aload_n 0, 1), (696, .iload 4, 2), (698, .iconst 4, 1), (699, .iadd, 1), (700, .iaload, 1), (701, .invokevirtual 173, 3), (704, .istore 6, 2), (706, .aload_n 2, 1), (707, .invokevirtual 140, 3), (710, .iload 5, 2), (712, .if_icmp .eq 5, 3), (715, .iconst 0, 1), (716, .ireturn, 1), (717, .iload 5, 2), (719, .ifCond .ne 22, 3), (722, .aload_n 3, 1), (723, .iconst 0, 1), (724, .laload, 1), (725, .iload 6, 2), (727, .ifCond .eq 7, 3), (730, .lconst 1, 1), (731, .goto 4, 3), (734, .lconst 0, 1), (735, .lcmp, 1), (736, .ifCond .eq 5, 3), (739, .iconst 0, 1), (740, .ireturn, 1), (741, .goto 1766, 3)]
theorem dcW_update : kW_update.all (fun q => decide (decode code q.1 = .ok q.2)) = true := by decide +kernel
theorem lc_update {K : x_KT} {b L i kc ks : Nat} {xs : Nat → Int32} {σ : xSig} (hC : x_LC K b L xs) (hI : INV i σ) (hi : i < 512) (hj : 5 * i + 5 ≤ L) (hkc : kc + 1 ≤ 601024) (hks : ks + 6 ≤ 7293034) (kk : ∀ K' : x_KT, x_LC K' b L xs → ∀ σ2 : xSig, INV (i + 1) σ2 → x_F K' 8 [(0, .ref b)] 2507 (lsL i) [] (St σ2) (kc + 1) (ks + 6)) : x_F K 8 [(0, .ref b)] 645 (lsL i) [] (St σ) kc ks := by
  obtain ⟨σ1, σ2, code9, z, y, hcode, hc0, hc1, hm, h47, hzy, hI2⟩ := st_update hI hi (xs_r (xs := xs) (5 * i + 1)) (xs_r (xs := xs) (5 * i + 2)) (xs_r (xs := xs) (5 * i + 3)) (xs_r (xs := xs) (5 * i + 4))
  have hcr : 0 ≤ code9 ∧ code9 ≤ 3 := hcode
  have C := hC.1
  have hxc : xr code9 := by unfold xr; omega
  obtain ⟨f, f0, f1⟩ := f9_of code9 (if zI z = 0 then 0 else 1)
  have spH := sw_update (f9 := f) hcr hc0 hc1 f0 f1
  refine f_aload_n C 646 (dq dcW_update 0 rfl) rfl rfl rfl ?_
  refine f_sldk hC 652 1 rfl (by omega) (dq dcW_update 1 rfl) (dq dcW_update 2 rfl) (dq dcW_update 3 rfl) (dq dcW_update 4 rfl) (dq dcW_update 5 rfl) rfl ?_
  refine f_sldk hC 658 2 rfl (by omega) (dq dcW_update 6 rfl) (dq dcW_update 7 rfl) (dq dcW_update 8 rfl) (dq dcW_update 9 rfl) (dq dcW_update 10 rfl) rfl ?_
  refine f_sldk hC 664 3 rfl (by omega) (dq dcW_update 11 rfl) (dq dcW_update 12 rfl) (dq dcW_update 13 rfl) (dq dcW_update 14 rfl) (dq dcW_update 15 rfl) rfl ?_
  refine f_sldk hC 670 4 rfl (by omega) (dq dcW_update 16 rfl) (dq dcW_update 17 rfl) (dq dcW_update 18 rfl) (dq dcW_update 19 rfl) (dq dcW_update 20 rfl) rfl ?_
  refine f_aload_n C 671 (dq dcW_update 21 rfl) rfl rfl rfl ?_
  refine f_callH hC 674 (n := 6) rfl spH cwL_update msL_update (by decide +kernel) ⟨(Nat.le_of_ble_eq_true rfl), (Nat.le_of_ble_eq_true rfl)⟩ (dq dcW_update 22 rfl) rfl rfl rfl (Nat.le_of_ble_eq_true rfl) (by omega) (by omega) ?_
  refine f_istore (C.out _) 676 (dq dcW_update 23 rfl) rfl (Nat.le_of_ble_eq_true rfl) rfl rfl ?_
  refine f_aload_n (C.out _) 677 (dq dcW_update 24 rfl) rfl rfl rfl ?_
  refine f_sldk (hC.out _) 683 1 rfl (by omega) (dq dcW_update 25 rfl) (dq dcW_update 26 rfl) (dq dcW_update 27 rfl) (dq dcW_update 28 rfl) (dq dcW_update 29 rfl) rfl ?_
  refine f_sldk (hC.out _) 689 2 rfl (by omega) (dq dcW_update 30 rfl) (dq dcW_update 31 rfl) (dq dcW_update 32 rfl) (dq dcW_update 33 rfl) (dq dcW_update 34 rfl) rfl ?_
  refine f_sldk (hC.out _) 695 3 rfl (by omega) (dq dcW_update 35 rfl) (dq dcW_update 36 rfl) (dq dcW_update 37 rfl) (dq dcW_update 38 rfl) (dq dcW_update 39 rfl) rfl ?_
  refine f_sldk (hC.out _) 701 4 rfl (by omega) (dq dcW_update 40 rfl) (dq dcW_update 41 rfl) (dq dcW_update 42 rfl) (dq dcW_update 43 rfl) (dq dcW_update 44 rfl) rfl ?_
  refine f_callL (hC.out _) 704 hm okX12_update cvL_173 ⟨(Nat.le_of_ble_eq_true rfl), (Nat.le_of_ble_eq_true rfl)⟩ (dq dcW_update 45 rfl) rfl (Nat.le_of_ble_eq_true rfl) rfl rfl rfl rfl rfl (Nat.le_of_ble_eq_true rfl) (by omega) (by omega) ?_
  refine f_istore (C.out _) 706 (dq dcW_update 46 rfl) rfl (Nat.le_of_ble_eq_true rfl) rfl rfl ?_
  refine f_aload_n (C.out _) 707 (dq dcW_update 47 rfl) rfl rfl rfl ?_
  have spT : x_Sp MX12_thrown 0 0 [.ref 281] (St σ2) (iv code9) (St σ2) := h47 ▸ sp_mThrown
  refine f_callL (hC.out _) 710 spT okX12_thrown cvL_140 ⟨(Nat.le_of_ble_eq_true rfl), (Nat.le_of_ble_eq_true rfl)⟩ (dq dcW_update 48 rfl) rfl (Nat.le_of_ble_eq_true rfl) rfl rfl rfl rfl rfl (Nat.le_of_ble_eq_true rfl) (by omega) (by omega) ?_
  refine f_iload (C.out _) 712 (dq dcW_update 49 rfl) rfl rfl ?_
  refine f_icmp_eq (C.out _) 717 715 (dq dcW_update 50 rfl) rfl rfl hxc hxc (fun _ => ?_) (fun q => absurd rfl q)
  refine f_iload (C.out _) 719 (dq dcW_update 53 rfl) rfl rfl ?_
  refine f_if_ne (C.out _) 741 722 (dq dcW_update 54 rfl) rfl rfl hxc (fun h0 => ?_) (fun h0 => ?_)
  · skip
    refine f_goto (C.out _) 2507 (dq dcW_update 67 rfl) rfl ?_
    refine f_drop (lsL i) (fun k u hk => by match k, hk with | 0, hk => exact hk | 1, hk => exact hk | 2, hk => exact hk | 3, hk => exact hk | 4, hk => exact hk | 5, hk => cases hk | 6, hk => cases hk | 7, hk => cases hk | k + 8, hk => cases hk) ?_
    exact kk _ (hC.out _) _ hI2
  · have hv := (congrArg Int64.ofNat (congrFun (f0 h0) ((kG K).2 9))).trans (o9_of _)
    obtain rfl := hzy h0
    refine f_aload_n (C.out _) 723 (dq dcW_update 55 rfl) rfl rfl rfl ?_
    refine f_iconst (C.out _) 724 (dq dcW_update 56 rfl) rfl ?_
    refine f_laload9 (C.out _) 725 (dq dcW_update 57 rfl) rfl (Nat.le_of_ble_eq_true rfl) rfl hv ?_
    refine f_iload (C.out _) 727 (dq dcW_update 58 rfl) rfl rfl ?_
    refine f_ifeqz (C.out _) 734 730 (dq dcW_update 59 rfl) rfl rfl (fun hz9 => ?_) (fun hz9 => ?_)
    · rw [if_pos hz9]
      refine f_lconst (C.out _) 735 (dq dcW_update 62 rfl) rfl ?_
      refine f_lcmpE (C.out _) 736 (dq dcW_update 63 rfl) rfl ?_
      refine f_if_eq (C.out _) 741 739 (dq dcW_update 64 rfl) rfl rfl xr_0 (fun _ => ?_) (fun q => absurd rfl q)
      refine f_goto (C.out _) 2507 (dq dcW_update 67 rfl) rfl ?_
      refine f_drop (lsL i) (fun k u hk => by match k, hk with | 0, hk => exact hk | 1, hk => exact hk | 2, hk => exact hk | 3, hk => exact hk | 4, hk => exact hk | 5, hk => cases hk | 6, hk => cases hk | 7, hk => cases hk | k + 8, hk => cases hk) ?_
      exact kk _ (hC.out _) _ hI2
    · rw [if_neg hz9]
      refine f_lconst (C.out _) 731 (dq dcW_update 60 rfl) rfl ?_
      refine f_goto (C.out _) 735 (dq dcW_update 61 rfl) rfl ?_
      refine f_lcmpE (C.out _) 736 (dq dcW_update 63 rfl) rfl ?_
      refine f_if_eq (C.out _) 741 739 (dq dcW_update 64 rfl) rfl rfl xr_0 (fun _ => ?_) (fun q => absurd rfl q)
      refine f_goto (C.out _) 2507 (dq dcW_update 67 rfl) rfl ?_
      refine f_drop (lsL i) (fun k u hk => by match k, hk with | 0, hk => exact hk | 1, hk => exact hk | 2, hk => exact hk | 3, hk => exact hk | 4, hk => exact hk | 5, hk => cases hk | 6, hk => cases hk | 7, hk => cases hk | k + 8, hk => cases hk) ?_
      exact kk _ (hC.out _) _ hI2
def kW_index : List (Nat × Instr × Nat) := [(880, .aload_n 1, 1), (881, .aload_n 0, 1), (882, .iload 4, 2), (884, .iconst 1, 1), (885, .iadd, 1), (886, .iaload, 1), (887, .aload_n 0, 1), (888, .iload 4, 2), (890, .iconst 2, 1), (891, .iadd, 1), (892, .iaload, 1), (893, .ifCond .eq 7, 3), (896, .iconst 1, 1), (897, .goto 4, 3), (900, .iconst 0, 1), (901, .aload_n 3, 1), (902, .invokestatic 180, 3), (905, .istore 5, 2), (907, .aload_n 2, 1), (908, .aload_n 0, 1), (909, .iload 4, 2), (911, .iconst 1, 1), (912, .iadd, 1), (913, .iaload, 1), (914, .aload_n 0, 1), (915, .iload 4, 2), (917, .iconst 2, 1), (918, .iadd, 1), (919, .iaload, 1), (920, .ifCond .eq 7, 3), (923, .iconst 1, 1), (924, .goto 4, 3), (927, .iconst 0, 1), (928, .invokevirtual 183, 3), (931, .istore 6, 2), (933, .aload_n 2, 1), (934, .invokevirtual 140, 3), (937, .iload 5, 2), (939, .if_icmp .eq 5, 3), (942, .iconst 0, 1), (943, .ireturn, 1), (944, .iload 5, 2), (946, .ifCond .ne 15, 3), (949, .aload_n 3, 1), (950, .iconst 0, 1), (951, .laload, 1), (952, .iload 6, 2), (954, .i2l, 1), (955, .lcmp, 1), (956, .ifCond .eq 5, 3), (959, .iconst 0, 1), (960, .ireturn, 1), (961, .goto 1546, 3)]
theorem dcW_index : kW_index.all (fun q => decide (decode code q.1 = .ok q.2)) = true := by decide +kernel
theorem lc_index {K : x_KT} {b L i kc ks : Nat} {xs : Nat → Int32} {σ : xSig} (hC : x_LC K b L xs) (hI : INV i σ) (hi : i < 512) (hj : 5 * i + 5 ≤ L) (hkc : kc + 1 ≤ 601024) (hks : ks + 6 ≤ 7293034) (kk : ∀ K' : x_KT, x_LC K' b L xs → ∀ σ2 : xSig, INV (i + 1) σ2 → x_F K' 8 [(0, .ref b)] 2507 (lsL i) [] (St σ2) (kc + 1) (ks + 6)) : x_F K 8 [(0, .ref b)] 880 (lsL i) [] (St σ) kc ks := by
  by_cases hz : (xs (5 * i + 2)).toInt = 0
  · skip
    obtain ⟨σ1, σ2, code9, z, y, hcode, hc0, hc1, hm, h47, hzy, hI2⟩ := st_index hI (xs_r (xs := xs) (5 * i + 1)) (Or.inl rfl)
    have hcr : 0 ≤ code9 ∧ code9 ≤ 2 := hcode
    have C := hC.1
    have hxc : xr code9 := by unfold xr; omega
    obtain ⟨f, f0, f1⟩ := f9_of code9 (zI z)
    have spH := sw_index (f9 := f) hcr hc0 hc1 f0 f1
    refine f_aload_n C 881 (dq dcW_index 0 rfl) rfl rfl rfl ?_
    refine f_sldk hC 887 1 rfl (by omega) (dq dcW_index 1 rfl) (dq dcW_index 2 rfl) (dq dcW_index 3 rfl) (dq dcW_index 4 rfl) (dq dcW_index 5 rfl) rfl ?_
    refine f_sldk hC 893 2 rfl (by omega) (dq dcW_index 6 rfl) (dq dcW_index 7 rfl) (dq dcW_index 8 rfl) (dq dcW_index 9 rfl) (dq dcW_index 10 rfl) rfl ?_
    refine f_if_eq C 900 896 (dq dcW_index 11 rfl) rfl rfl (xs_r _) (fun _ => ?_) (fun q => absurd hz q)
    refine f_iconst C 901 (dq dcW_index 14 rfl) rfl ?_
    refine f_aload_n C 902 (dq dcW_index 15 rfl) rfl rfl rfl ?_
    refine f_callH hC 905 (n := 4) rfl spH cwL_index msL_index (by decide +kernel) ⟨(Nat.le_of_ble_eq_true rfl), (Nat.le_of_ble_eq_true rfl)⟩ (dq dcW_index 16 rfl) rfl rfl rfl (Nat.le_of_ble_eq_true rfl) (by omega) (by omega) ?_
    refine f_istore (C.out _) 907 (dq dcW_index 17 rfl) rfl (Nat.le_of_ble_eq_true rfl) rfl rfl ?_
    refine f_aload_n (C.out _) 908 (dq dcW_index 18 rfl) rfl rfl rfl ?_
    refine f_sldk (hC.out _) 914 1 rfl (by omega) (dq dcW_index 19 rfl) (dq dcW_index 20 rfl) (dq dcW_index 21 rfl) (dq dcW_index 22 rfl) (dq dcW_index 23 rfl) rfl ?_
    refine f_sldk (hC.out _) 920 2 rfl (by omega) (dq dcW_index 24 rfl) (dq dcW_index 25 rfl) (dq dcW_index 26 rfl) (dq dcW_index 27 rfl) (dq dcW_index 28 rfl) rfl ?_
    refine f_if_eq (C.out _) 927 923 (dq dcW_index 29 rfl) rfl rfl (xs_r _) (fun _ => ?_) (fun q => absurd hz q)
    refine f_iconst (C.out _) 928 (dq dcW_index 32 rfl) rfl ?_
    refine f_callL (hC.out _) 931 hm okX12_index cvL_183 ⟨(Nat.le_of_ble_eq_true rfl), (Nat.le_of_ble_eq_true rfl)⟩ (dq dcW_index 33 rfl) rfl (Nat.le_of_ble_eq_true rfl) rfl rfl rfl rfl rfl (Nat.le_of_ble_eq_true rfl) (by omega) (by omega) ?_
    refine f_istore (C.out _) 933 (dq dcW_index 34 rfl) rfl (Nat.le_of_ble_eq_true rfl) rfl rfl ?_
    refine f_aload_n (C.out _) 934 (dq dcW_index 35 rfl) rfl rfl rfl ?_
    have spT : x_Sp MX12_thrown 0 0 [.ref 281] (St σ2) (iv code9) (St σ2) := h47 ▸ sp_mThrown
    refine f_callL (hC.out _) 937 spT okX12_thrown cvL_140 ⟨(Nat.le_of_ble_eq_true rfl), (Nat.le_of_ble_eq_true rfl)⟩ (dq dcW_index 36 rfl) rfl (Nat.le_of_ble_eq_true rfl) rfl rfl rfl rfl rfl (Nat.le_of_ble_eq_true rfl) (by omega) (by omega) ?_
    refine f_iload (C.out _) 939 (dq dcW_index 37 rfl) rfl rfl ?_
    refine f_icmp_eq (C.out _) 944 942 (dq dcW_index 38 rfl) rfl rfl hxc hxc (fun _ => ?_) (fun q => absurd rfl q)
    refine f_iload (C.out _) 946 (dq dcW_index 41 rfl) rfl rfl ?_
    refine f_if_ne (C.out _) 961 949 (dq dcW_index 42 rfl) rfl rfl hxc (fun h0 => ?_) (fun h0 => ?_)
    · skip
      refine f_goto (C.out _) 2507 (dq dcW_index 52 rfl) rfl ?_
      refine f_drop (lsL i) (fun k u hk => by match k, hk with | 0, hk => exact hk | 1, hk => exact hk | 2, hk => exact hk | 3, hk => exact hk | 4, hk => exact hk | 5, hk => cases hk | 6, hk => cases hk | 7, hk => cases hk | k + 8, hk => cases hk) ?_
      exact kk _ (hC.out _) _ hI2
    · have hv := (congrArg Int64.ofNat (congrFun (f0 h0) ((kG K).2 9))).trans (o9_of _)
      obtain rfl := hzy h0
      refine f_aload_n (C.out _) 950 (dq dcW_index 43 rfl) rfl rfl rfl ?_
      refine f_iconst (C.out _) 951 (dq dcW_index 44 rfl) rfl ?_
      refine f_laload9 (C.out _) 952 (dq dcW_index 45 rfl) rfl (Nat.le_of_ble_eq_true rfl) rfl hv ?_
      refine f_iload (C.out _) 954 (dq dcW_index 46 rfl) rfl rfl ?_
      refine f_i2lz (C.out _) 955 (dq dcW_index 47 rfl) rfl ?_
      refine f_lcmpE (C.out _) 956 (dq dcW_index 48 rfl) rfl ?_
      refine f_if_eq (C.out _) 961 959 (dq dcW_index 49 rfl) rfl rfl xr_0 (fun _ => ?_) (fun q => absurd rfl q)
      refine f_goto (C.out _) 2507 (dq dcW_index 52 rfl) rfl ?_
      refine f_drop (lsL i) (fun k u hk => by match k, hk with | 0, hk => exact hk | 1, hk => exact hk | 2, hk => exact hk | 3, hk => exact hk | 4, hk => exact hk | 5, hk => cases hk | 6, hk => cases hk | 7, hk => cases hk | k + 8, hk => cases hk) ?_
      exact kk _ (hC.out _) _ hI2
  · skip
    obtain ⟨σ1, σ2, code9, z, y, hcode, hc0, hc1, hm, h47, hzy, hI2⟩ := st_index hI (xs_r (xs := xs) (5 * i + 1)) (Or.inr rfl)
    have hcr : 0 ≤ code9 ∧ code9 ≤ 2 := hcode
    have C := hC.1
    have hxc : xr code9 := by unfold xr; omega
    obtain ⟨f, f0, f1⟩ := f9_of code9 (zI z)
    have spH := sw_index (f9 := f) hcr hc0 hc1 f0 f1
    refine f_aload_n C 881 (dq dcW_index 0 rfl) rfl rfl rfl ?_
    refine f_sldk hC 887 1 rfl (by omega) (dq dcW_index 1 rfl) (dq dcW_index 2 rfl) (dq dcW_index 3 rfl) (dq dcW_index 4 rfl) (dq dcW_index 5 rfl) rfl ?_
    refine f_sldk hC 893 2 rfl (by omega) (dq dcW_index 6 rfl) (dq dcW_index 7 rfl) (dq dcW_index 8 rfl) (dq dcW_index 9 rfl) (dq dcW_index 10 rfl) rfl ?_
    refine f_if_eq C 900 896 (dq dcW_index 11 rfl) rfl rfl (xs_r _) (fun q => absurd q hz) (fun _ => ?_)
    refine f_iconst C 897 (dq dcW_index 12 rfl) rfl ?_
    refine f_goto C 901 (dq dcW_index 13 rfl) rfl ?_
    refine f_aload_n C 902 (dq dcW_index 15 rfl) rfl rfl rfl ?_
    refine f_callH hC 905 (n := 4) rfl spH cwL_index msL_index (by decide +kernel) ⟨(Nat.le_of_ble_eq_true rfl), (Nat.le_of_ble_eq_true rfl)⟩ (dq dcW_index 16 rfl) rfl rfl rfl (Nat.le_of_ble_eq_true rfl) (by omega) (by omega) ?_
    refine f_istore (C.out _) 907 (dq dcW_index 17 rfl) rfl (Nat.le_of_ble_eq_true rfl) rfl rfl ?_
    refine f_aload_n (C.out _) 908 (dq dcW_index 18 rfl) rfl rfl rfl ?_
    refine f_sldk (hC.out _) 914 1 rfl (by omega) (dq dcW_index 19 rfl) (dq dcW_index 20 rfl) (dq dcW_index 21 rfl) (dq dcW_index 22 rfl) (dq dcW_index 23 rfl) rfl ?_
    refine f_sldk (hC.out _) 920 2 rfl (by omega) (dq dcW_index 24 rfl) (dq dcW_index 25 rfl) (dq dcW_index 26 rfl) (dq dcW_index 27 rfl) (dq dcW_index 28 rfl) rfl ?_
    refine f_if_eq (C.out _) 927 923 (dq dcW_index 29 rfl) rfl rfl (xs_r _) (fun q => absurd q hz) (fun _ => ?_)
    refine f_iconst (C.out _) 924 (dq dcW_index 30 rfl) rfl ?_
    refine f_goto (C.out _) 928 (dq dcW_index 31 rfl) rfl ?_
    refine f_callL (hC.out _) 931 hm okX12_index cvL_183 ⟨(Nat.le_of_ble_eq_true rfl), (Nat.le_of_ble_eq_true rfl)⟩ (dq dcW_index 33 rfl) rfl (Nat.le_of_ble_eq_true rfl) rfl rfl rfl rfl rfl (Nat.le_of_ble_eq_true rfl) (by omega) (by omega) ?_
    refine f_istore (C.out _) 933 (dq dcW_index 34 rfl) rfl (Nat.le_of_ble_eq_true rfl) rfl rfl ?_
    refine f_aload_n (C.out _) 934 (dq dcW_index 35 rfl) rfl rfl rfl ?_
    have spT : x_Sp MX12_thrown 0 0 [.ref 281] (St σ2) (iv code9) (St σ2) := h47 ▸ sp_mThrown
    refine f_callL (hC.out _) 937 spT okX12_thrown cvL_140 ⟨(Nat.le_of_ble_eq_true rfl), (Nat.le_of_ble_eq_true rfl)⟩ (dq dcW_index 36 rfl) rfl (Nat.le_of_ble_eq_true rfl) rfl rfl rfl rfl rfl (Nat.le_of_ble_eq_true rfl) (by omega) (by omega) ?_
    refine f_iload (C.out _) 939 (dq dcW_index 37 rfl) rfl rfl ?_
    refine f_icmp_eq (C.out _) 944 942 (dq dcW_index 38 rfl) rfl rfl hxc hxc (fun _ => ?_) (fun q => absurd rfl q)
    refine f_iload (C.out _) 946 (dq dcW_index 41 rfl) rfl rfl ?_
    refine f_if_ne (C.out _) 961 949 (dq dcW_index 42 rfl) rfl rfl hxc (fun h0 => ?_) (fun h0 => ?_)
    · skip
      refine f_goto (C.out _) 2507 (dq dcW_index 52 rfl) rfl ?_
      refine f_drop (lsL i) (fun k u hk => by match k, hk with | 0, hk => exact hk | 1, hk => exact hk | 2, hk => exact hk | 3, hk => exact hk | 4, hk => exact hk | 5, hk => cases hk | 6, hk => cases hk | 7, hk => cases hk | k + 8, hk => cases hk) ?_
      exact kk _ (hC.out _) _ hI2
    · have hv := (congrArg Int64.ofNat (congrFun (f0 h0) ((kG K).2 9))).trans (o9_of _)
      obtain rfl := hzy h0
      refine f_aload_n (C.out _) 950 (dq dcW_index 43 rfl) rfl rfl rfl ?_
      refine f_iconst (C.out _) 951 (dq dcW_index 44 rfl) rfl ?_
      refine f_laload9 (C.out _) 952 (dq dcW_index 45 rfl) rfl (Nat.le_of_ble_eq_true rfl) rfl hv ?_
      refine f_iload (C.out _) 954 (dq dcW_index 46 rfl) rfl rfl ?_
      refine f_i2lz (C.out _) 955 (dq dcW_index 47 rfl) rfl ?_
      refine f_lcmpE (C.out _) 956 (dq dcW_index 48 rfl) rfl ?_
      refine f_if_eq (C.out _) 961 959 (dq dcW_index 49 rfl) rfl rfl xr_0 (fun _ => ?_) (fun q => absurd rfl q)
      refine f_goto (C.out _) 2507 (dq dcW_index 52 rfl) rfl ?_
      refine f_drop (lsL i) (fun k u hk => by match k, hk with | 0, hk => exact hk | 1, hk => exact hk | 2, hk => exact hk | 3, hk => exact hk | 4, hk => exact hk | 5, hk => cases hk | 6, hk => cases hk | 7, hk => cases hk | k + 8, hk => cases hk) ?_
      exact kk _ (hC.out _) _ hI2
def kW_grouped : List (Nat × Instr × Nat) := [(1350, .aload_n 1, 1), (1351, .aload_n 0, 1), (1352, .iload 4, 2), (1354, .iconst 1, 1), (1355, .iadd, 1), (1356, .iaload, 1), (1357, .aload_n 0, 1), (1358, .iload 4, 2), (1360, .iconst 2, 1), (1361, .iadd, 1), (1362, .iaload, 1), (1363, .aload_n 3, 1), (1364, .invokestatic 210, 3), (1367, .istore 5, 2), (1369, .aload_n 2, 1), (1370, .aload_n 0, 1), (1371, .iload 4, 2), (1373, .iconst 1, 1), (1374, .iadd, 1), (1375, .iaload, 1), (1376, .aload_n 0, 1), (1377, .iload 4, 2), (1379, .iconst 2, 1), (1380, .iadd, 1), (1381, .iaload, 1), (1382, .invokevirtual 212, 3), (1385, .lstore 6, 2), (1387, .aload_n 2, 1), (1388, .invokevirtual 140, 3), (1391, .iload 5, 2), (1393, .if_icmp .eq 5, 3), (1396, .iconst 0, 1), (1397, .ireturn, 1), (1398, .iload 5, 2), (1400, .ifCond .ne 14, 3), (1403, .aload_n 3, 1), (1404, .iconst 0, 1), (1405, .laload, 1), (1406, .lload 6, 2), (1408, .lcmp, 1), (1409, .ifCond .eq 5, 3), (1412, .iconst 0, 1), (1413, .ireturn, 1), (1414, .goto 1093, 3)]
theorem dcW_grouped : kW_grouped.all (fun q => decide (decode code q.1 = .ok q.2)) = true := by decide +kernel
theorem lc_grouped {K : x_KT} {b L i kc ks : Nat} {xs : Nat → Int32} {σ : xSig} (hC : x_LC K b L xs) (hI : INV i σ) (hi : i < 512) (hj : 5 * i + 5 ≤ L) (hkc : kc + 1 ≤ 601024) (hks : ks + 6 ≤ 7293034) (kk : ∀ K' : x_KT, x_LC K' b L xs → ∀ σ2 : xSig, INV (i + 1) σ2 → x_F K' 8 [(0, .ref b)] 2507 (lsL i) [] (St σ2) (kc + 1) (ks + 6)) : x_F K 8 [(0, .ref b)] 1350 (lsL i) [] (St σ) kc ks := by
  obtain ⟨σ1, σ2, code9, z, y, hcode, hc0, hc1, hm, h47, hzy, hI2⟩ := st_grouped hI (xs_r (xs := xs) (5 * i + 1)) (xs_r (xs := xs) (5 * i + 2))
  have hcr : 0 ≤ code9 ∧ code9 ≤ 2 := hcode
  have C := hC.1
  have hxc : xr code9 := by unfold xr; omega
  obtain ⟨f, f0, f1⟩ := f9_of code9 z
  have spH := sw_grouped (f9 := f) hcr hc0 hc1 f0 f1
  refine f_aload_n C 1351 (dq dcW_grouped 0 rfl) rfl rfl rfl ?_
  refine f_sldk hC 1357 1 rfl (by omega) (dq dcW_grouped 1 rfl) (dq dcW_grouped 2 rfl) (dq dcW_grouped 3 rfl) (dq dcW_grouped 4 rfl) (dq dcW_grouped 5 rfl) rfl ?_
  refine f_sldk hC 1363 2 rfl (by omega) (dq dcW_grouped 6 rfl) (dq dcW_grouped 7 rfl) (dq dcW_grouped 8 rfl) (dq dcW_grouped 9 rfl) (dq dcW_grouped 10 rfl) rfl ?_
  refine f_aload_n C 1364 (dq dcW_grouped 11 rfl) rfl rfl rfl ?_
  refine f_callH hC 1367 (n := 4) rfl spH cwL_grouped msL_grouped (by decide +kernel) ⟨(Nat.le_of_ble_eq_true rfl), (Nat.le_of_ble_eq_true rfl)⟩ (dq dcW_grouped 12 rfl) rfl rfl rfl (Nat.le_of_ble_eq_true rfl) (by omega) (by omega) ?_
  refine f_istore (C.out _) 1369 (dq dcW_grouped 13 rfl) rfl (Nat.le_of_ble_eq_true rfl) rfl rfl ?_
  refine f_aload_n (C.out _) 1370 (dq dcW_grouped 14 rfl) rfl rfl rfl ?_
  refine f_sldk (hC.out _) 1376 1 rfl (by omega) (dq dcW_grouped 15 rfl) (dq dcW_grouped 16 rfl) (dq dcW_grouped 17 rfl) (dq dcW_grouped 18 rfl) (dq dcW_grouped 19 rfl) rfl ?_
  refine f_sldk (hC.out _) 1382 2 rfl (by omega) (dq dcW_grouped 20 rfl) (dq dcW_grouped 21 rfl) (dq dcW_grouped 22 rfl) (dq dcW_grouped 23 rfl) (dq dcW_grouped 24 rfl) rfl ?_
  refine f_callL (hC.out _) 1385 hm okX12_grouped cvL_212 ⟨(Nat.le_of_ble_eq_true rfl), (Nat.le_of_ble_eq_true rfl)⟩ (dq dcW_grouped 25 rfl) rfl (Nat.le_of_ble_eq_true rfl) rfl rfl rfl rfl rfl (Nat.le_of_ble_eq_true rfl) (by omega) (by omega) ?_
  refine f_lstore (C.out _) 1387 (dq dcW_grouped 26 rfl) rfl (Nat.le_of_ble_eq_true rfl) rfl rfl ?_
  refine f_aload_n (C.out _) 1388 (dq dcW_grouped 27 rfl) rfl rfl rfl ?_
  have spT : x_Sp MX12_thrown 0 0 [.ref 281] (St σ2) (iv code9) (St σ2) := h47 ▸ sp_mThrown
  refine f_callL (hC.out _) 1391 spT okX12_thrown cvL_140 ⟨(Nat.le_of_ble_eq_true rfl), (Nat.le_of_ble_eq_true rfl)⟩ (dq dcW_grouped 28 rfl) rfl (Nat.le_of_ble_eq_true rfl) rfl rfl rfl rfl rfl (Nat.le_of_ble_eq_true rfl) (by omega) (by omega) ?_
  refine f_iload (C.out _) 1393 (dq dcW_grouped 29 rfl) rfl rfl ?_
  refine f_icmp_eq (C.out _) 1398 1396 (dq dcW_grouped 30 rfl) rfl rfl hxc hxc (fun _ => ?_) (fun q => absurd rfl q)
  refine f_iload (C.out _) 1400 (dq dcW_grouped 33 rfl) rfl rfl ?_
  refine f_if_ne (C.out _) 1414 1403 (dq dcW_grouped 34 rfl) rfl rfl hxc (fun h0 => ?_) (fun h0 => ?_)
  · skip
    refine f_goto (C.out _) 2507 (dq dcW_grouped 43 rfl) rfl ?_
    refine f_drop (lsL i) (fun k u hk => by match k, hk with | 0, hk => exact hk | 1, hk => exact hk | 2, hk => exact hk | 3, hk => exact hk | 4, hk => exact hk | 5, hk => cases hk | 6, hk => cases hk | 7, hk => cases hk | k + 8, hk => cases hk) ?_
    exact kk _ (hC.out _) _ hI2
  · have hv := (congrArg Int64.ofNat (congrFun (f0 h0) ((kG K).2 9))).trans (o9_of _)
    obtain rfl := hzy h0
    refine f_aload_n (C.out _) 1404 (dq dcW_grouped 35 rfl) rfl rfl rfl ?_
    refine f_iconst (C.out _) 1405 (dq dcW_grouped 36 rfl) rfl ?_
    refine f_laload9 (C.out _) 1406 (dq dcW_grouped 37 rfl) rfl (Nat.le_of_ble_eq_true rfl) rfl hv ?_
    refine f_lload (C.out _) 1408 (dq dcW_grouped 38 rfl) rfl rfl ?_
    refine f_lcmpE (C.out _) 1409 (dq dcW_grouped 39 rfl) rfl ?_
    refine f_if_eq (C.out _) 1414 1412 (dq dcW_grouped 40 rfl) rfl rfl xr_0 (fun _ => ?_) (fun q => absurd rfl q)
    refine f_goto (C.out _) 2507 (dq dcW_grouped 43 rfl) rfl ?_
    refine f_drop (lsL i) (fun k u hk => by match k, hk with | 0, hk => exact hk | 1, hk => exact hk | 2, hk => exact hk | 3, hk => exact hk | 4, hk => exact hk | 5, hk => cases hk | 6, hk => cases hk | 7, hk => cases hk | k + 8, hk => cases hk) ?_
    exact kk _ (hC.out _) _ hI2
