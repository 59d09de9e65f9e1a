/-! ===== the law, case by case ===== -/
def kW_nothing : List (Nat × Instr × Nat) := [(220, .aload_n 1, 1), (221, .aload_n 3, 1), (222, .invokestatic 134, 3), (225, .istore 5, 2), (227, .aload_n 2, 1), (228, .invokevirtual 139, 3), (231, .istore 6, 2), (233, .aload_n 2, 1), (234, .invokevirtual 140, 3), (237, .iload 5, 2), (239, .if_icmp .eq 5, 3), (242, .iconst 0, 1), (243, .ireturn, 1), (244, .iload 5, 2), (246, .ifCond .ne 15, 3), (249, .aload_n 3, 1), (250, .iconst 0, 1), (251, .laload, 1), (252, .iload 6, 2), (254, .i2l, 1), (255, .lcmp, 1), (256, .ifCond .eq 5, 3), (259, .iconst 0, 1), (260, .ireturn, 1), (261, .goto 2246, 3)]
theorem dcW_nothing : kW_nothing.all (fun q => decide (decode code q.1 = .ok q.2)) = true := by decide +kernel
theorem lc_nothing {K : x_KT} {b L i kc ks : Nat} {xs : Nat → Int32} {σ : xSig} (hC : x_LC K b L xs) (hI : INV i σ) (hi : i < 512) (hj : 5 * i + 5 ≤ L) (hkc : kc + 1 ≤ 601024) (hks : ks + 6 ≤ 7293034) (kk : ∀ K' : x_KT, x_LC K' b L xs → ∀ σ2 : xSig, INV (i + 1) σ2 → x_F K' 8 [(0, .ref b)] 2507 (lsL i) [] (St σ2) (kc + 1) (ks + 6)) : x_F K 8 [(0, .ref b)] 220 (lsL i) [] (St σ) kc ks := by
  obtain ⟨σ1, σ2, code9, z, y, hcode, hc0, hc1, hm, h47, hzy, hI2⟩ := st_nothing hI
  have hcr : 0 ≤ code9 ∧ code9 ≤ 1 := hcode
  have C := hC.1
  have hxc : xr code9 := by unfold xr; omega
  obtain ⟨f, f0, f1⟩ := f9_of code9 (zI z)
  have spH := sw_nothing (f9 := f) hcr hc0 hc1 f0 f1
  refine f_aload_n C 221 (dq dcW_nothing 0 rfl) rfl rfl rfl ?_
  refine f_aload_n C 222 (dq dcW_nothing 1 rfl) rfl rfl rfl ?_
  refine f_callH hC 225 (n := 2) rfl spH cwL_nothing msL_nothing (by decide +kernel) ⟨(Nat.le_of_ble_eq_true rfl), (Nat.le_of_ble_eq_true rfl)⟩ (dq dcW_nothing 2 rfl) rfl rfl rfl (Nat.le_of_ble_eq_true rfl) (by omega) (by omega) ?_
  refine f_istore (C.out _) 227 (dq dcW_nothing 3 rfl) rfl (Nat.le_of_ble_eq_true rfl) rfl rfl ?_
  refine f_aload_n (C.out _) 228 (dq dcW_nothing 4 rfl) rfl rfl rfl ?_
  refine f_callL (hC.out _) 231 hm okX12_nothing cvL_139 ⟨(Nat.le_of_ble_eq_true rfl), (Nat.le_of_ble_eq_true rfl)⟩ (dq dcW_nothing 5 rfl) rfl (Nat.le_of_ble_eq_true rfl) rfl rfl rfl rfl rfl (Nat.le_of_ble_eq_true rfl) (by omega) (by omega) ?_
  refine f_istore (C.out _) 233 (dq dcW_nothing 6 rfl) rfl (Nat.le_of_ble_eq_true rfl) rfl rfl ?_
  refine f_aload_n (C.out _) 234 (dq dcW_nothing 7 rfl) rfl rfl rfl ?_
  have spT : x_Sp MX12_thrown 0 0 [.ref 281] (St σ2) (iv code9) (St σ2) := h47 ▸ sp_mThrown
  refine f_callL (hC.out _) 237 spT okX12_thrown cvL_140 ⟨(Nat.le_of_ble_eq_true rfl), (Nat.le_of_ble_eq_true rfl)⟩ (dq dcW_nothing 8 rfl) rfl (Nat.le_of_ble_eq_true rfl) rfl rfl rfl rfl rfl (Nat.le_of_ble_eq_true rfl) (by omega) (by omega) ?_
  refine f_iload (C.out _) 239 (dq dcW_nothing 9 rfl) rfl rfl ?_
  refine f_icmp_eq (C.out _) 244 242 (dq dcW_nothing 10 rfl) rfl rfl hxc hxc (fun _ => ?_) (fun q => absurd rfl q)
  refine f_iload (C.out _) 246 (dq dcW_nothing 13 rfl) rfl rfl ?_
  refine f_if_ne (C.out _) 261 249 (dq dcW_nothing 14 rfl) rfl rfl hxc (fun h0 => ?_) (fun h0 => ?_)
  · skip
    refine f_goto (C.out _) 2507 (dq dcW_nothing 24 rfl) rfl ?_
    refine f_drop (lsL i) (fun k u hk => by match k, hk with | 0, hk => exact hk | 1, hk => exact hk | 2, hk => exact hk | 3, hk => exact hk | 4, hk => exact hk | 5, hk => cases hk | 6, hk => cases hk | 7, hk => cases hk | k + 8, hk => cases hk) ?_
    exact kk _ (hC.out _) _ hI2
  · have hv := (congrArg Int64.ofNat (congrFun (f0 h0) ((kG K).2 9))).trans (o9_of _)
    obtain rfl := hzy h0
    refine f_aload_n (C.out _) 250 (dq dcW_nothing 15 rfl) rfl rfl rfl ?_
    refine f_iconst (C.out _) 251 (dq dcW_nothing 16 rfl) rfl ?_
    refine f_laload9 (C.out _) 252 (dq dcW_nothing 17 rfl) rfl (Nat.le_of_ble_eq_true rfl) rfl hv ?_
    refine f_iload (C.out _) 254 (dq dcW_nothing 18 rfl) rfl rfl ?_
    refine f_i2lz (C.out _) 255 (dq dcW_nothing 19 rfl) rfl ?_
    refine f_lcmpE (C.out _) 256 (dq dcW_nothing 20 rfl) rfl ?_
    refine f_if_eq (C.out _) 261 259 (dq dcW_nothing 21 rfl) rfl rfl xr_0 (fun _ => ?_) (fun q => absurd rfl q)
    refine f_goto (C.out _) 2507 (dq dcW_nothing 24 rfl) rfl ?_
    refine f_drop (lsL i) (fun k u hk => by match k, hk with | 0, hk => exact hk | 1, hk => exact hk | 2, hk => exact hk | 3, hk => exact hk | 4, hk => exact hk | 5, hk => cases hk | 6, hk => cases hk | 7, hk => cases hk | k + 8, hk => cases hk) ?_
    exact kk _ (hC.out _) _ hI2
def kW_number : List (Nat × Instr × Nat) := [(264, .aload_n 1, 1), (265, .aload_n 0, 1), (266, .iload 4, 2), (268, .iconst 1, 1), (269, .iadd, 1), (270, .iaload, 1), (271, .aload_n 3, 1), (272, .invokestatic 143, 3), (275, .istore 5, 2), (277, .aload_n 2, 1), (278, .aload_n 0, 1), (279, .iload 4, 2), (281, .iconst 1, 1), (282, .iadd, 1), (283, .iaload, 1), (284, .invokevirtual 146, 3), (287, .istore 6, 2), (289, .aload_n 2, 1), (290, .invokevirtual 140, 3), (293, .iload 5, 2), (295, .if_icmp .eq 5, 3), (298, .iconst 0, 1), (299, .ireturn, 1), (300, .iload 5, 2), (302, .ifCond .ne 15, 3), (305, .aload_n 3, 1), (306, .iconst 0, 1), (307, .laload, 1), (308, .iload 6, 2), (310, .i2l, 1), (311, .lcmp, 1), (312, .ifCond .eq 5, 3), (315, .iconst 0, 1), (316, .ireturn, 1), (317, .goto 2190, 3)]
theorem dcW_number : kW_number.all (fun q => decide (decode code q.1 = .ok q.2)) = true := by decide +kernel
theorem lc_number {K : x_KT} {b L i kc ks : Nat} {xs : Nat → Int32} {σ : xSig} (hC : x_LC K b L xs) (hI : INV i σ) (hi : i < 512) (hj : 5 * i + 5 ≤ L) (hkc : kc + 1 ≤ 601024) (hks : ks + 6 ≤ 7293034) (kk : ∀ K' : x_KT, x_LC K' b L xs → ∀ σ2 : xSig, INV (i + 1) σ2 → x_F K' 8 [(0, .ref b)] 2507 (lsL i) [] (St σ2) (kc + 1) (ks + 6)) : x_F K 8 [(0, .ref b)] 264 (lsL i) [] (St σ) kc ks := by
  obtain ⟨σ1, σ2, code9, z, y, hcode, hc0, hc1, hm, h47, hzy, hI2⟩ := st_number hI (xs_r (xs := xs) (5 * i + 1))
  have hcr : 0 ≤ code9 ∧ code9 ≤ 2 := hcode
  have C := hC.1
  have hxc : xr code9 := by unfold xr; omega
  obtain ⟨f, f0, f1⟩ := f9_of code9 (zI z)
  have spH := sw_number (f9 := f) hcr hc0 hc1 f0 f1
  refine f_aload_n C 265 (dq dcW_number 0 rfl) rfl rfl rfl ?_
  refine f_sldk hC 271 1 rfl (by omega) (dq dcW_number 1 rfl) (dq dcW_number 2 rfl) (dq dcW_number 3 rfl) (dq dcW_number 4 rfl) (dq dcW_number 5 rfl) rfl ?_
  refine f_aload_n C 272 (dq dcW_number 6 rfl) rfl rfl rfl ?_
  refine f_callH hC 275 (n := 3) rfl spH cwL_number msL_number (by decide +kernel) ⟨(Nat.le_of_ble_eq_true rfl), (Nat.le_of_ble_eq_true rfl)⟩ (dq dcW_number 7 rfl) rfl rfl rfl (Nat.le_of_ble_eq_true rfl) (by omega) (by omega) ?_
  refine f_istore (C.out _) 277 (dq dcW_number 8 rfl) rfl (Nat.le_of_ble_eq_true rfl) rfl rfl ?_
  refine f_aload_n (C.out _) 278 (dq dcW_number 9 rfl) rfl rfl rfl ?_
  refine f_sldk (hC.out _) 284 1 rfl (by omega) (dq dcW_number 10 rfl) (dq dcW_number 11 rfl) (dq dcW_number 12 rfl) (dq dcW_number 13 rfl) (dq dcW_number 14 rfl) rfl ?_
  refine f_callL (hC.out _) 287 hm okX12_number cvL_146 ⟨(Nat.le_of_ble_eq_true rfl), (Nat.le_of_ble_eq_true rfl)⟩ (dq dcW_number 15 rfl) rfl (Nat.le_of_ble_eq_true rfl) rfl rfl rfl rfl rfl (Nat.le_of_ble_eq_true rfl) (by omega) (by omega) ?_
  refine f_istore (C.out _) 289 (dq dcW_number 16 rfl) rfl (Nat.le_of_ble_eq_true rfl) rfl rfl ?_
  refine f_aload_n (C.out _) 290 (dq dcW_number 17 rfl) rfl rfl rfl ?_
  have spT : x_Sp MX12_thrown 0 0 [.ref 281] (St σ2) (iv code9) (St σ2) := h47 ▸ sp_mThrown
  refine f_callL (hC.out _) 293 spT okX12_thrown cvL_140 ⟨(Nat.le_of_ble_eq_true rfl), (Nat.le_of_ble_eq_true rfl)⟩ (dq dcW_number 18 rfl) rfl (Nat.le_of_ble_eq_true rfl) rfl rfl rfl rfl rfl (Nat.le_of_ble_eq_true rfl) (by omega) (by omega) ?_
  refine f_iload (C.out _) 295 (dq dcW_number 19 rfl) rfl rfl ?_
  refine f_icmp_eq (C.out _) 300 298 (dq dcW_number 20 rfl) rfl rfl hxc hxc (fun _ => ?_) (fun q => absurd rfl q)
  refine f_iload (C.out _) 302 (dq dcW_number 23 rfl) rfl rfl ?_
  refine f_if_ne (C.out _) 317 305 (dq dcW_number 24 rfl) rfl rfl hxc (fun h0 => ?_) (fun h0 => ?_)
  · skip
    refine f_goto (C.out _) 2507 (dq dcW_number 34 rfl) rfl ?_
    refine f_drop (lsL i) (fun k u hk => by match k, hk with | 0, hk => exact hk | 1, hk => exact hk | 2, hk => exact hk | 3, hk => exact hk | 4, hk => exact hk | 5, hk => cases hk | 6, hk => cases hk | 7, hk => cases hk | k + 8, hk => cases hk) ?_
    exact kk _ (hC.out _) _ hI2
  · have hv := (congrArg Int64.ofNat (congrFun (f0 h0) ((kG K).2 9))).trans (o9_of _)
    obtain rfl := hzy h0
    refine f_aload_n (C.out _) 306 (dq dcW_number 25 rfl) rfl rfl rfl ?_
    refine f_iconst (C.out _) 307 (dq dcW_number 26 rfl) rfl ?_
    refine f_laload9 (C.out _) 308 (dq dcW_number 27 rfl) rfl (Nat.le_of_ble_eq_true rfl) rfl hv ?_
    refine f_iload (C.out _) 310 (dq dcW_number 28 rfl) rfl rfl ?_
    refine f_i2lz (C.out _) 311 (dq dcW_number 29 rfl) rfl ?_
    refine f_lcmpE (C.out _) 312 (dq dcW_number 30 rfl) rfl ?_
    refine f_if_eq (C.out _) 317 315 (dq dcW_number 31 rfl) rfl rfl xr_0 (fun _ => ?_) (fun q => absurd rfl q)
    refine f_goto (C.out _) 2507 (dq dcW_number 34 rfl) rfl ?_
    refine f_drop (lsL i) (fun k u hk => by match k, hk with | 0, hk => exact hk | 1, hk => exact hk | 2, hk => exact hk | 3, hk => exact hk | 4, hk => exact hk | 5, hk => cases hk | 6, hk => cases hk | 7, hk => cases hk | k + 8, hk => cases hk) ?_
    exact kk _ (hC.out _) _ hI2
def kW_word : List (Nat × Instr × Nat) := [(320, .aload_n 1, 1), (321, .aload_n 0, 1), (322, .iload 4, 2), (324, .iconst 1, 1), (325, .iadd, 1), (326, .iaload, 1), (327, .aload_n 3, 1), (328, .invokestatic 147, 3), (331, .istore 5, 2), (333, .aload_n 2, 1), (334, .aload_n 0, 1), (335, .iload 4, 2), (337, .iconst 1, 1), (338, .iadd, 1), (339, .iaload, 1), (340, .invokevirtual 149, 3), (343, .istore 6, 2), (345, .aload_n 2, 1), (346, .invokevirtual 140, 3), (349, .iload 5, 2), (351, .if_icmp .eq 5, 3), (354, .iconst 0, 1), (355, .ireturn, 1), (356, .iload 5, 2), (358, .ifCond .ne 15, 3), (361, .aload_n 3, 1), (362, .iconst 0, 1), (363, .laload, 1), (364, .iload 6, 2), (366, .i2l, 1), (367, .lcmp, 1), (368, .ifCond .eq 5, 3), (371, .iconst 0, 1), (372, .ireturn, 1), (373, .goto 2134, 3)]
theorem dcW_word : kW_word.all (fun q => decide (decode code q.1 = .ok q.2)) = true := by decide +kernel
theorem lc_word {K : x_KT} {b L i kc ks : Nat} {xs : Nat → Int32} {σ : xSig} (hC : x_LC K b L xs) (hI : INV i σ) (hi : i < 512) (hj : 5 * i + 5 ≤ L) (hkc : kc + 1 ≤ 601024) (hks : ks + 6 ≤ 7293034) (kk : ∀ K' : x_KT, x_LC K' b L xs → ∀ σ2 : xSig, INV (i + 1) σ2 → x_F K' 8 [(0, .ref b)] 2507 (lsL i) [] (St σ2) (kc + 1) (ks + 6)) : x_F K 8 [(0, .ref b)] 320 (lsL i) [] (St σ) kc ks := by
  obtain ⟨σ1, σ2, code9, z, y, hcode, hc0, hc1, hm, h47, hzy, hI2⟩ := st_word hI (xs_r (xs := xs) (5 * i + 1))
  have hcr : 0 ≤ code9 ∧ code9 ≤ 2 := hcode
  have C := hC.1
  have hxc : xr code9 := by unfold xr; omega
  obtain ⟨f, f0, f1⟩ := f9_of code9 (zI z)
  have spH := sw_word (f9 := f) hcr hc0 hc1 f0 f1
  refine f_aload_n C 321 (dq dcW_word 0 rfl) rfl rfl rfl ?_
  refine f_sldk hC 327 1 rfl (by omega) (dq dcW_word 1 rfl) (dq dcW_word 2 rfl) (dq dcW_word 3 rfl) (dq dcW_word 4 rfl) (dq dcW_word 5 rfl) rfl ?_
  refine f_aload_n C 328 (dq dcW_word 6 rfl) rfl rfl rfl ?_
  refine f_callH hC 331 (n := 3) rfl spH cwL_word msL_word (by decide +kernel) ⟨(Nat.le_of_ble_eq_true rfl), (Nat.le_of_ble_eq_true rfl)⟩ (dq dcW_word 7 rfl) rfl rfl rfl (Nat.le_of_ble_eq_true rfl) (by omega) (by omega) ?_
  refine f_istore (C.out _) 333 (dq dcW_word 8 rfl) rfl (Nat.le_of_ble_eq_true rfl) rfl rfl ?_
  refine f_aload_n (C.out _) 334 (dq dcW_word 9 rfl) rfl rfl rfl ?_
  refine f_sldk (hC.out _) 340 1 rfl (by omega) (dq dcW_word 10 rfl) (dq dcW_word 11 rfl) (dq dcW_word 12 rfl) (dq dcW_word 13 rfl) (dq dcW_word 14 rfl) rfl ?_
  refine f_callL (hC.out _) 343 hm okX12_word cvL_149 ⟨(Nat.le_of_ble_eq_true rfl), (Nat.le_of_ble_eq_true rfl)⟩ (dq dcW_word 15 rfl) rfl (Nat.le_of_ble_eq_true rfl) rfl rfl rfl rfl rfl (Nat.le_of_ble_eq_true rfl) (by omega) (by omega) ?_
  refine f_istore (C.out _) 345 (dq dcW_word 16 rfl) rfl (Nat.le_of_ble_eq_true rfl) rfl rfl ?_
  refine f_aload_n (C.out _) 346 (dq dcW_word 17 rfl) rfl rfl rfl ?_
  have spT : x_Sp MX12_thrown 0 0 [.ref 281] (St σ2) (iv code9) (St σ2) := h47 ▸ sp_mThrown
  refine f_callL (hC.out _) 349 spT okX12_thrown cvL_140 ⟨(Nat.le_of_ble_eq_true rfl), (Nat.le_of_ble_eq_true rfl)⟩ (dq dcW_word 18 rfl) rfl (Nat.le_of_ble_eq_true rfl) rfl rfl rfl rfl rfl (Nat.le_of_ble_eq_true rfl) (by omega) (by omega) ?_
  refine f_iload (C.out _) 351 (dq dcW_word 19 rfl) rfl rfl ?_
  refine f_icmp_eq (C.out _) 356 354 (dq dcW_word 20 rfl) rfl rfl hxc hxc (fun _ => ?_) (fun q => absurd rfl q)
  refine f_iload (C.out _) 358 (dq dcW_word 23 rfl) rfl rfl ?_
  refine f_if_ne (C.out _) 373 361 (dq dcW_word 24 rfl) rfl rfl hxc (fun h0 => ?_) (fun h0 => ?_)
  · skip
    refine f_goto (C.out _) 2507 (dq dcW_word 34 rfl) rfl ?_
    refine f_drop (lsL i) (fun k u hk => by match k, hk with | 0, hk => exact hk | 1, hk => exact hk | 2, hk => exact hk | 3, hk => exact hk | 4, hk => exact hk | 5, hk => cases hk | 6, hk => cases hk | 7, hk => cases hk | k + 8, hk => cases hk) ?_
    exact kk _ (hC.out _) _ hI2
  · have hv := (congrArg Int64.ofNat (congrFun (f0 h0) ((kG K).2 9))).trans (o9_of _)
    obtain rfl := hzy h0
    refine f_aload_n (C.out _) 362 (dq dcW_word 25 rfl) rfl rfl rfl ?_
    refine f_iconst (C.out _) 363 (dq dcW_word 26 rfl) rfl ?_
    refine f_laload9 (C.out _) 364 (dq dcW_word 27 rfl) rfl (Nat.le_of_ble_eq_true rfl) rfl hv ?_
    refine f_iload (C.out _) 366 (dq dcW_word 28 rfl) rfl rfl ?_
    refine f_i2lz (C.out _) 367 (dq dcW_word 29 rfl) rfl ?_
    refine f_lcmpE (C.out _) 368 (dq dcW_word 30 rfl) rfl ?_
    refine f_if_eq (C.out _) 373 371 (dq dcW_word 31 rfl) rfl rfl xr_0 (fun _ => ?_) (fun q => absurd rfl q)
    refine f_goto (C.out _) 2507 (dq dcW_word 34 rfl) rfl ?_
    refine f_drop (lsL i) (fun k u hk => by match k, hk with | 0, hk => exact hk | 1, hk => exact hk | 2, hk => exact hk | 3, hk => exact hk | 4, hk => exact hk | 5, hk => cases hk | 6, hk => cases hk | 7, hk => cases hk | k + 8, hk => cases hk) ?_
    exact kk _ (hC.out _) _ hI2
def kW_row : List (Nat × Instr × Nat) := [(376, .aload_n 1, 1), (377, .aload_n 3, 1), (378, .invokestatic 150, 3), (381, .istore 5, 2), (383, .aload_n 2, 1), (384, .invokevirtual 152, 3), (387, .istore 6, 2), (389, .aload_n 2, 1), (390, .invokevirtual 140, 3), (393, .iload 5, 2), (395, .if_icmp .eq 5, 3), (398, .iconst 0, 1), (399, .ireturn, 1), (400, .iload 5, 2), (402, .ifCond .ne 15, 3), (405, .aload_n 3, 1), (406, .iconst 0, 1), (407, .laload, 1), (408, .iload 6, 2), (410, .i2l, 1), (411, .lcmp, 1), (412, .ifCond .eq 5, 3), (415, .iconst 0, 1), (416, .ireturn, 1), (417, .goto 2090, 3)]
theorem dcW_row : kW_row.all (fun q => decide (decode code q.1 = .ok q.2)) = true := by decide +kernel
theorem lc_row {K : x_KT} {b L i kc ks : Nat} {xs : Nat → Int32} {σ : xSig} (hC : x_LC K b L xs) (hI : INV i σ) (hi : i < 512) (hj : 5 * i + 5 ≤ L) (hkc : kc + 1 ≤ 601024) (hks : ks + 6 ≤ 7293034) (kk : ∀ K' : x_KT, x_LC K' b L xs → ∀ σ2 : xSig, INV (i + 1) σ2 → x_F K' 8 [(0, .ref b)] 2507 (lsL i) [] (St σ2) (kc + 1) (ks + 6)) : x_F K 8 [(0, .ref b)] 376 (lsL i) [] (St σ) kc ks := by
  obtain ⟨σ1, σ2, code9, z, y, hcode, hc0, hc1, hm, h47, hzy, hI2⟩ := st_row hI
  have hcr : 0 ≤ code9 ∧ code9 ≤ 1 := hcode
  have C := hC.1
  have hxc : xr code9 := by unfold xr; omega
  obtain ⟨f, f0, f1⟩ := f9_of code9 (zI z)
  have spH := sw_row (f9 := f) hcr hc0 hc1 f0 f1
  refine f_aload_n C 377 (dq dcW_row 0 rfl) rfl rfl rfl ?_
  refine f_aload_n C 378 (dq dcW_row 1 rfl) rfl rfl rfl ?_
  refine f_callH hC 381 (n := 2) rfl spH cwL_row msL_row (by decide +kernel) ⟨(Nat.le_of_ble_eq_true rfl), (Nat.le_of_ble_eq_true rfl)⟩ (dq dcW_row 2 rfl) rfl rfl rfl (Nat.le_of_ble_eq_true rfl) (by omega) (by omega) ?_
  refine f_istore (C.out _) 383 (dq dcW_row 3 rfl) rfl (Nat.le_of_ble_eq_true rfl) rfl rfl ?_
  refine f_aload_n (C.out _) 384 (dq dcW_row 4 rfl) rfl rfl rfl ?_
  refine f_callL (hC.out _) 387 hm okX12_row cvL_152 ⟨(Nat.le_of_ble_eq_true rfl), (Nat.le_of_ble_eq_true rfl)⟩ (dq dcW_row 5 rfl) rfl (Nat.le_of_ble_eq_true rfl) rfl rfl rfl rfl rfl (Nat.le_of_ble_eq_true rfl) (by omega) (by omega) ?_
  refine f_istore (C.out _) 389 (dq dcW_row 6 rfl) rfl (Nat.le_of_ble_eq_true rfl) rfl rfl ?_
  refine f_aload_n (C.out _) 390 (dq dcW_row 7 rfl) rfl rfl rfl ?_
  have spT : x_Sp MX12_thrown 0 0 [.ref 281] (St σ2) (iv code9) (St σ2) := h47 ▸ sp_mThrown
  refine f_callL (hC.out _) 393 spT okX12_thrown cvL_140 ⟨(Nat.le_of_ble_eq_true rfl), (Nat.le_of_ble_eq_true rfl)⟩ (dq dcW_row 8 rfl) rfl (Nat.le_of_ble_eq_true rfl) rfl rfl rfl rfl rfl (Nat.le_of_ble_eq_true rfl) (by omega) (by omega) ?_
  refine f_iload (C.out _) 395 (dq dcW_row 9 rfl) rfl rfl ?_
  refine f_icmp_eq (C.out _) 400 398 (dq dcW_row 10 rfl) rfl rfl hxc hxc (fun _ => ?_) (fun q => absurd rfl q)
  refine f_iload (C.out _) 402 (dq dcW_row 13 rfl) rfl rfl ?_
  refine f_if_ne (C.out _) 417 405 (dq dcW_row 14 rfl) rfl rfl hxc (fun h0 => ?_) (fun h0 => ?_)
  · skip
    refine f_goto (C.out _) 2507 (dq dcW_row 24 rfl) rfl ?_
    refine f_drop (lsL i) (fun k u hk => by match k, hk with | 0, hk => exact hk | 1, hk => exact hk | 2, hk => exact hk | 3, hk => exact hk | 4, hk => exact hk | 5, hk => cases hk | 6, hk => cases hk | 7, hk => cases hk | k + 8, hk => cases hk) ?_
    exact kk _ (hC.out _) _ hI2
  · have hv := (congrArg Int64.ofNat (congrFun (f0 h0) ((kG K).2 9))).trans (o9_of _)
    obtain rfl := hzy h0
    refine f_aload_n (C.out _) 406 (dq dcW_row 15 rfl) rfl rfl rfl ?_
    refine f_iconst (C.out _) 407 (dq dcW_row 16 rfl) rfl ?_
    refine f_laload9 (C.out _) 408 (dq dcW_row 17 rfl) rfl (Nat.le_of_ble_eq_true rfl) rfl hv ?_
    refine f_iload (C.out _) 410 (dq dcW_row 18 rfl) rfl rfl ?_
    refine f_i2lz (C.out _) 411 (dq dcW_row 19 rfl) rfl ?_
    refine f_lcmpE (C.out _) 412 (dq dcW_row 20 rfl) rfl ?_
    refine f_if_eq (C.out _) 417 415 (dq dcW_row 21 rfl) rfl rfl xr_0 (fun _ => ?_) (fun q => absurd rfl q)
    refine f_goto (C.out _) 2507 (dq dcW_row 24 rfl) rfl ?_
    refine f_drop (lsL i) (fun k u hk => by match k, hk with | 0, hk => exact hk | 1, hk => exact hk | 2, hk => exact hk | 3, hk => exact hk | 4, hk => exact hk | 5, hk => cases hk | 6, hk => cases hk | 7, hk => cases hk | k + 8, hk => cases hk) ?_
    exact kk _ (hC.out _) _ hI2
def kW_object : List (Nat × Instr × Nat) := [(420, .aload_n 1, 1), (421, .aload_n 3, 1), (422, .invokestatic 153, 3), (425, .istore 5, 2), (427, .aload_n 2, 1), (428, .invokevirtual 155, 3), (431, .istore 6, 2), (433, .aload_n 2, 1), (434, .invokevirtual 140, 3), (437, .iload 5, 2), (439, .if_icmp .eq 5, 3), (442, .iconst 0, 1), (443, .ireturn, 1), (444, .iload 5, 2), (446, .ifCond .ne 15, 3), (449, .aload_n 3, 1), (450, .iconst 0, 1), (451, .laload, 1), (452, .iload 6, 2), (454, .i2l, 1), (455, .lcmp, 1), (456, .ifCond .eq 5, 3), (459, .iconst 0, 1), (460, .ireturn, 1), (461, .goto 2046, 3)]
theorem dcW_object : kW_object.all (fun q => decide (decode code q.1 = .ok q.2)) = true := by decide +kernel
theorem lc_object {K : x_KT} {b L i kc ks : Nat} {xs : Nat → Int32} {σ : xSig} (hC : x_LC K b L xs) (hI : INV i σ) (hi : i < 512) (hj : 5 * i + 5 ≤ L) (hkc : kc + 1 ≤ 601024) (hks : ks + 6 ≤ 7293034) (kk : ∀ K' : x_KT, x_LC K' b L xs → ∀ σ2 : xSig, INV (i + 1) σ2 → x_F K' 8 [(0, .ref b)] 2507 (lsL i) [] (St σ2) (kc + 1) (ks + 6)) : x_F K 8 [(0, .ref b)] 420 (lsL i) [] (St σ) kc ks := by
  obtain ⟨σ1, σ2, code9, z, y, hcode, hc0, hc1, hm, h47, hzy, hI2⟩ := st_object hI
  have hcr : 0 ≤ code9 ∧ code9 ≤ 1 := hcode
  have C := hC.1
  have hxc : xr code9 := by unfold xr; omega
  obtain ⟨f, f0, f1⟩ := f9_of code9 (zI z)
  have spH := sw_object (f9 := f) hcr hc0 hc1 f0 f1
  refine f_aload_n C 421 (dq dcW_object 0 rfl) rfl rfl rfl ?_
  refine f_aload_n C 422 (dq dcW_object 1 rfl) rfl rfl rfl ?_
  refine f_callH hC 425 (n := 2) rfl spH cwL_object msL_object (by decide +kernel) ⟨(Nat.le_of_ble_eq_true rfl), (Nat.le_of_ble_eq_true rfl)⟩ (dq dcW_object 2 rfl) rfl rfl rfl (Nat.le_of_ble_eq_true rfl) (by omega) (by omega) ?_
  refine f_istore (C.out _) 427 (dq dcW_object 3 rfl) rfl (Nat.le_of_ble_eq_true rfl) rfl rfl ?_
  refine f_aload_n (C.out _) 428 (dq dcW_object 4 rfl) rfl rfl rfl ?_
  refine f_callL (hC.out _) 431 hm okX12_object cvL_155 ⟨(Nat.le_of_ble_eq_true rfl), (Nat.le_of_ble_eq_true rfl)⟩ (dq dcW_object 5 rfl) rfl (Nat.le_of_ble_eq_true rfl) rfl rfl rfl rfl rfl (Nat.le_of_ble_eq_true rfl) (by omega) (by omega) ?_
  refine f_istore (C.out _) 433 (dq dcW_object 6 rfl) rfl (Nat.le_of_ble_eq_true rfl) rfl rfl ?_
  refine f_aload_n (C.out _) 434 (dq dcW_object 7 rfl) rfl rfl rfl ?_
  have spT : x_Sp MX12_thrown 0 0 [.ref 281] (St σ2) (iv code9) (St σ2) := h47 ▸ sp_mThrown
  refine f_callL (hC.out _) 437 spT okX12_thrown cvL_140 ⟨(Nat.le_of_ble_eq_true rfl), (Nat.le_of_ble_eq_true rfl)⟩ (dq dcW_object 8 rfl) rfl (Nat.le_of_ble_eq_true rfl) rfl rfl rfl rfl rfl (Nat.le_of_ble_eq_true rfl) (by omega) (by omega) ?_
  refine f_iload (C.out _) 439 (dq dcW_object 9 rfl) rfl rfl ?_
  refine f_icmp_eq (C.out _) 444 442 (dq dcW_object 10 rfl) rfl rfl hxc hxc (fun _ => ?_) (fun q => absurd rfl q)
  refine f_iload (C.out _) 446 (dq dcW_object 13 rfl) rfl rfl ?_
  refine f_if_ne (C.out _) 461 449 (dq dcW_object 14 rfl) rfl rfl hxc (fun h0 => ?_) (fun h0 => ?_)
  · skip
    refine f_goto (C.out _) 2507 (dq dcW_object 24 rfl) rfl ?_
    refine f_drop (lsL i) (fun k u hk => by match k, hk with | 0, hk => exact hk | 1, hk => exact hk | 2, hk => exact hk | 3, hk => exact hk | 4, hk => exact hk | 5, hk => cases hk | 6, hk => cases hk | 7, hk => cases hk | k + 8, hk => cases hk) ?_
    exact kk _ (hC.out _) _ hI2
  · have hv := (congrArg Int64.ofNat (congrFun (f0 h0) ((kG K).2 9))).trans (o9_of _)
    obtain rfl := hzy h0
    refine f_aload_n (C.out _) 450 (dq dcW_object 15 rfl) rfl rfl rfl ?_
    refine f_iconst (C.out _) 451 (dq dcW_object 16 rfl) rfl ?_
    refine f_laload9 (C.out _) 452 (dq dcW_object 17 rfl) rfl (Nat.le_of_ble_eq_true rfl) rfl hv ?_
    refine f_iload (C.out _) 454 (dq dcW_object 18 rfl) rfl rfl ?_
    refine f_i2lz (C.out _) 455 (dq dcW_object 19 rfl) rfl ?_
    refine f_lcmpE (C.out _) 456 (dq dcW_object 20 rfl) rfl ?_
    refine f_if_eq (C.out _) 461 459 (dq dcW_object 21 rfl) rfl rfl xr_0 (fun _ => ?_) (fun q => absurd rfl q)
    refine f_goto (C.out _) 2507 (dq dcW_object 24 rfl) rfl ?_
    refine f_drop (lsL i) (fun k u hk => by match k, hk with | 0, hk => exact hk | 1, hk => exact hk | 2, hk => exact hk | 3, hk => exact hk | 4, hk => exact hk | 5, hk => cases hk | 6, hk => cases hk | 7, hk => cases hk | k + 8, hk => cases hk) ?_
    exact kk _ (hC.out _) _ hI2
def kW_add : List (Nat × Instr × Nat) := [(464, .aload_n 1, 1), (465, .aload_n 3, 1), (466, .invokestatic 156, 3), (469, .istore 5, 2), (471, .aload_n 2, 1), (472, .invokevirtual 158, 3), (475, .istore 6, 2), (477, .aload_n 2, 1), (478, .invokevirtual 140, 3), (481, .iload 5, 2), (483, .if_icmp .eq 5, 3), (486, .iconst 0, 1), (487, .ireturn, 1), (488, .iload 5, 2), (490, .ifCond .ne 15, 3), (493, .aload_n 3, 1), (494, .iconst 0, 1), (495, .laload, 1), (496, .iload 6, 2), (498, .i2l, 1), (499, .lcmp, 1), (500, .ifCond .eq 5, 3), (503, .iconst 0, 1), (504, .ireturn, 1), (505, .goto 2002, 3)]
theorem dcW_add : kW_add.all (fun q => decide (decode code q.1 = .ok q.2)) = true := by decide +kernel
theorem lc_add {K : x_KT} {b L i kc ks : Nat} {xs : Nat → Int32} {σ : xSig} (hC : x_LC K b L xs) (hI : INV i σ) (hi : i < 512) (hj : 5 * i + 5 ≤ L) (hkc : kc + 1 ≤ 601024) (hks : ks + 6 ≤ 7293034) (kk : ∀ K' : x_KT, x_LC K' b L xs → ∀ σ2 : xSig, INV (i + 1) σ2 → x_F K' 8 [(0, .ref b)] 2507 (lsL i) [] (St σ2) (kc + 1) (ks + 6)) : x_F K 8 [(0, .ref b)] 464 (lsL i) [] (St σ) kc ks := by
  obtain ⟨σ1, σ2, code9, z, y, hcode, hc0, hc1, hm, h47, hzy, hI2⟩ := st_add hI
  have hcr : 0 ≤ code9 ∧ code9 ≤ 1 := hcode
  have C := hC.1
  have hxc : xr code9 := by unfold xr; omega
  obtain ⟨f, f0, f1⟩ := f9_of code9 (zI z)
  have spH := sw_add (f9 := f) hcr hc0 hc1 f0 f1
  refine f_aload_n C 465 (dq dcW_add 0 rfl) rfl rfl rfl ?_
  refine f_aload_n C 466 (dq dcW_add 1 rfl) rfl rfl rfl ?_
  refine f_callH hC 469 (n := 2) rfl spH cwL_add msL_add (by decide +kernel) ⟨(Nat.le_of_ble_eq_true rfl), (Nat.le_of_ble_eq_true rfl)⟩ (dq dcW_add 2 rfl) rfl rfl rfl (Nat.le_of_ble_eq_true rfl) (by omega) (by omega) ?_
  refine f_istore (C.out _) 471 (dq dcW_add 3 rfl) rfl (Nat.le_of_ble_eq_true rfl) rfl rfl ?_
  refine f_aload_n (C.out _) 472 (dq dcW_add 4 rfl) rfl rfl rfl ?_
  refine f_callL (hC.out _) 475 hm okX12_add cvL_158 ⟨(Nat.le_of_ble_eq_true rfl), (Nat.le_of_ble_eq_true rfl)⟩ (dq dcW_add 5 rfl) rfl (Nat.le_of_ble_eq_true rfl) rfl rfl rfl rfl rfl (Nat.le_of_ble_eq_true rfl) (by omega) (by omega) ?_
  refine f_istore (C.out _) 477 (dq dcW_add 6 rfl) rfl (Nat.le_of_ble_eq_true rfl) rfl rfl ?_
  refine f_aload_n (C.out _) 478 (dq dcW_add 7 rfl) rfl rfl rfl ?_
  have spT : x_Sp MX12_thrown 0 0 [.ref 281] (St σ2) (iv code9) (St σ2) := h47 ▸ sp_mThrown
  refine f_callL (hC.out _) 481 spT okX12_thrown cvL_140 ⟨(Nat.le_of_ble_eq_true rfl), (Nat.le_of_ble_eq_true rfl)⟩ (dq dcW_add 8 rfl) rfl (Nat.le_of_ble_eq_true rfl) rfl rfl rfl rfl rfl (Nat.le_of_ble_eq_true rfl) (by omega) (by omega) ?_
  refine f_iload (C.out _) 483 (dq dcW_add 9 rfl) rfl rfl ?_
  refine f_icmp_eq (C.out _) 488 486 (dq dcW_add 10 rfl) rfl rfl hxc hxc (fun _ => ?_) (fun q => absurd rfl q)
  refine f_iload (C.out _) 490 (dq dcW_add 13 rfl) rfl rfl ?_
  refine f_if_ne (C.out _) 505 493 (dq dcW_add 14 rfl) rfl rfl hxc (fun h0 => ?_) (fun h0 => ?_)
  · skip
    refine f_goto (C.out _) 2507 (dq dcW_add 24 rfl) rfl ?_
    refine f_drop (lsL i) (fun k u hk => by match k, hk with | 0, hk => exact hk | 1, hk => exact hk | 2, hk => exact hk | 3, hk => exact hk | 4, hk => exact hk | 5, hk => cases hk | 6, hk => cases hk | 7, hk => cases hk | k + 8, hk => cases hk) ?_
    exact kk _ (hC.out _) _ hI2
  · have hv := (congrArg Int64.ofNat (congrFun (f0 h0) ((kG K).2 9))).trans (o9_of _)
    obtain rfl := hzy h0
    refine f_aload_n (C.out _) 494 (dq dcW_add 15 rfl) rfl rfl rfl ?_
    refine f_iconst (C.out _) 495 (dq dcW_add 16 rfl) rfl ?_
    refine f_laload9 (C.out _) 496 (dq dcW_add 17 rfl) rfl (Nat.le_of_ble_eq_true rfl) rfl hv ?_
    refine f_iload (C.out _) 498 (dq dcW_add 18 rfl) rfl rfl ?_
    refine f_i2lz (C.out _) 499 (dq dcW_add 19 rfl) rfl ?_
    refine f_lcmpE (C.out _) 500 (dq dcW_add 20 rfl) rfl ?_
    refine f_if_eq (C.out _) 505 503 (dq dcW_add 21 rfl) rfl rfl xr_0 (fun _ => ?_) (fun q => absurd rfl q)
    refine f_goto (C.out _) 2507 (dq dcW_add 24 rfl) rfl ?_
    refine f_drop (lsL i) (fun k u hk => by match k, hk with | 0, hk => exact hk | 1, hk => exact hk | 2, hk => exact hk | 3, hk => exact hk | 4, hk => exact hk | 5, hk => cases hk | 6, hk => cases hk | 7, hk => cases hk | k + 8, hk => cases hk) ?_
    exact kk _ (hC.out _) _ hI2
def kW_give : List (Nat × Instr × Nat) := [(508, .aload_n 1, 1), (509, .aload_n 0, 1), (510, .iload 4, 2), (512, .iconst 1, 1), (513, .iadd, 1), (514, .iaload, 1), (515, .aload_n 3, 1), (516, .invokestatic 159, 3), (519, .istore 5, 2), (521, .aload_n 2, 1), (522, .aload_n 0, 1), (523, .iload 4, 2), (525, .iconst 1, 1), (526, .iadd, 1), (527, .iaload, 1), (528, .invokevirtual 161, 3), (531, .istore 6, 2), (533, .aload_n 2, 1), (534, .invokevirtual 140, 3), (537, .iload 5, 2), (539, .if_icmp .eq 5, 3), (542, .iconst 0, 1), (543, .ireturn, 1), (544, .iload 5, 2), (546, .ifCond .ne 15, 3), (549, .aload_n 3, 1), (550, .iconst 0, 1), (551, .laload, 1), (552, .iload 6, 2), (554, .i2l, 1), (555, .lcmp, 1), (556, .ifCond .eq 5, 3), (559, .iconst 0, 1), (560, .ireturn, 1), (561, .goto 1946, 3)]
theorem dcW_give : kW_give.all (fun q => decide (decode code q.1 = .ok q.2)) = true := by decide +kernel
theorem lc_give {K : x_KT} {b L i kc ks : Nat} {xs : Nat → Int32} {σ : xSig} (hC : x_LC K b L xs) (hI : INV i σ) (hi : i < 512) (hj : 5 * i + 5 ≤ L) (hkc : kc + 1 ≤ 601024) (hks : ks + 6 ≤ 7293034) (kk : ∀ K' : x_KT, x_LC K' b L xs → ∀ σ2 : xSig, INV (i + 1) σ2 → x_F K' 8 [(0, .ref b)] 2507 (lsL i) [] (St σ2) (kc + 1) (ks + 6)) : x_F K 8 [(0, .ref b)] 508 (lsL i) [] (St σ) kc ks := by
  obtain ⟨σ1, σ2, code9, z, y, hcode, hc0, hc1, hm, h47, hzy, hI2⟩ := st_give hI (xs_r (xs := xs) (5 * i + 1))
  have hcr : 0 ≤ code9 ∧ code9 ≤ 2 := hcode
  have C := hC.1
  have hxc : xr code9 := by unfold xr; omega
  obtain ⟨f, f0, f1⟩ := f9_of code9 (zI z)
  have spH := sw_give (f9 := f) hcr hc0 hc1 f0 f1
  refine f_aload_n C 509 (dq dcW_give 0 rfl) rfl rfl rfl ?_
  refine f_sldk hC 515 1 rfl (by omega) (dq dcW_give 1 rfl) (dq dcW_give 2 rfl) (dq dcW_give 3 rfl) (dq dcW_give 4 rfl) (dq dcW_give 5 rfl) rfl ?_
  refine f_aload_n C 516 (dq dcW_give 6 rfl) rfl rfl rfl ?_
  refine f_callH hC 519 (n := 3) rfl spH cwL_give msL_give (by decide +kernel) ⟨(Nat.le_of_ble_eq_true rfl), (Nat.le_of_ble_eq_true rfl)⟩ (dq dcW_give 7 rfl) rfl rfl rfl (Nat.le_of_ble_eq_true rfl) (by omega) (by omega) ?_
  refine f_istore (C.out _) 521 (dq dcW_give 8 rfl) rfl (Nat.le_of_ble_eq_true rfl) rfl rfl ?_
  refine f_aload_n (C.out _) 522 (dq dcW_give 9 rfl) rfl rfl rfl ?_
  refine f_sldk (hC.out _) 528 1 rfl (by omega) (dq dcW_give 10 rfl) (dq dcW_give 11 rfl) (dq dcW_give 12 rfl) (dq dcW_give 13 rfl) (dq dcW_give 14 rfl) rfl ?_
  refine f_callL (hC.out _) 531 hm okX12_give cvL_161 ⟨(Nat.le_of_ble_eq_true rfl), (Nat.le_of_ble_eq_true rfl)⟩ (dq dcW_give 15 rfl) rfl (Nat.le_of_ble_eq_true rfl) rfl rfl rfl rfl rfl (Nat.le_of_ble_eq_true rfl) (by omega) (by omega) ?_
  refine f_istore (C.out _) 533 (dq dcW_give 16 rfl) rfl (Nat.le_of_ble_eq_true rfl) rfl rfl ?_
  refine f_aload_n (C.out _) 534 (dq dcW_give 17 rfl) rfl rfl rfl ?_
  have spT : x_Sp MX12_thrown 0 0 [.ref 281] (St σ2) (iv code9) (St σ2) := h47 ▸ sp_mThrown
  refine f_callL (hC.out _) 537 spT okX12_thrown cvL_140 ⟨(Nat.le_of_ble_eq_true rfl), (Nat.le_of_ble_eq_true rfl)⟩ (dq dcW_give 18 rfl) rfl (Nat.le_of_ble_eq_true rfl) rfl rfl rfl rfl rfl (Nat.le_of_ble_eq_true rfl) (by omega) (by omega) ?_
  refine f_iload (C.out _) 539 (dq dcW_give 19 rfl) rfl rfl ?_
  refine f_icmp_eq (C.out _) 544 542 (dq dcW_give 20 rfl) rfl rfl hxc hxc (fun _ => ?_) (fun q => absurd rfl q)
  refine f_iload (C.out _) 546 (dq dcW_give 23 rfl) rfl rfl ?_
  refine f_if_ne (C.out _) 561 549 (dq dcW_give 24 rfl) rfl rfl hxc (fun h0 => ?_) (fun h0 => ?_)
  · skip
    refine f_goto (C.out _) 2507 (dq dcW_give 34 rfl) rfl ?_
    refine f_drop (lsL i) (fun k u hk => by match k, hk with | 0, hk => exact hk | 1, hk => exact hk | 2, hk => exact hk | 3, hk => exact hk | 4, hk => exact hk | 5, hk => cases hk | 6, hk => cases hk | 7, hk => cases hk | k + 8, hk => cases hk) ?_
    exact kk _ (hC.out _) _ hI2
  · have hv := (congrArg Int64.ofNat (congrFun (f0 h0) ((kG K).2 9))).trans (o9_of _)
    obtain rfl := hzy h0
    refine f_aload_n (C.out _) 550 (dq dcW_give 25 rfl) rfl rfl rfl ?_
    refine f_iconst (C.out _) 551 (dq dcW_give 26 rfl) rfl ?_
    refine f_laload9 (C.out _) 552 (dq dcW_give 27 rfl) rfl (Nat.le_of_ble_eq_true rfl) rfl hv ?_
    refine f_iload (C.out _) 554 (dq dcW_give 28 rfl) rfl rfl ?_
    refine f_i2lz (C.out _) 555 (dq dcW_give 29 rfl) rfl ?_
    refine f_lcmpE (C.out _) 556 (dq dcW_give 30 rfl) rfl ?_
    refine f_if_eq (C.out _) 561 559 (dq dcW_give 31 rfl) rfl rfl xr_0 (fun _ => ?_) (fun q => absurd rfl q)
    refine f_goto (C.out _) 2507 (dq dcW_give 34 rfl) rfl ?_
    refine f_drop (lsL i) (fun k u hk => by match k, hk with | 0, hk => exact hk | 1, hk => exact hk | 2, hk => exact hk | 3, hk => exact hk | 4, hk => exact hk | 5, hk => cases hk | 6, hk => cases hk | 7, hk => cases hk | k + 8, hk => cases hk) ?_
    exact kk _ (hC.out _) _ hI2
def kW_drop : List (Nat × Instr × Nat) := [(564, .aload_n 1, 1), (565, .invokevirtual 162, 3), (568, .aload_n 2, 1), (569, .invokevirtual 165, 3), (572, .if_icmp .eq 1935, 3), (575, .iconst 0, 1), (576, .ireturn, 1)]
theorem dcW_drop : kW_drop.all (fun q => decide (decode code q.1 = .ok q.2)) = true := by decide +kernel
theorem lc_drop {K : x_KT} {b L i kc ks : Nat} {xs : Nat → Int32} {σ : xSig} (hC : x_LC K b L xs) (hI : INV i σ) (hi : i < 512) (hj : 5 * i + 5 ≤ L) (hkc : kc + 1 ≤ 601024) (hks : ks + 6 ≤ 7293034) (kk : ∀ K' : x_KT, x_LC K' b L xs → ∀ σ2 : xSig, INV (i + 1) σ2 → x_F K' 8 [(0, .ref b)] 2507 (lsL i) [] (St σ2) (kc + 1) (ks + 6)) : x_F K 8 [(0, .ref b)] 564 (lsL i) [] (St σ) kc ks := by
  obtain ⟨σ1, σ2, code9, z, y, hcode, hc0, hc1, hm, h47, hzy, hI2⟩ := st_drop hI
  have hcr : 0 ≤ code9 ∧ code9 ≤ 0 := hcode
  have C := hC.1
  obtain rfl : code9 = 0 := by omega
  have spH := hc0 rfl
  obtain rfl := hzy rfl
  refine f_aload_n C 565 (dq dcW_drop 0 rfl) rfl rfl rfl ?_
  refine f_callL hC 568 spH okX11_drop cvL_162 ⟨(Nat.le_of_ble_eq_true rfl), (Nat.le_of_ble_eq_true rfl)⟩ (dq dcW_drop 1 rfl) rfl (Nat.le_of_ble_eq_true rfl) rfl rfl rfl rfl rfl (Nat.le_of_ble_eq_true rfl) (by omega) (by omega) ?_
  refine f_aload_n C 569 (dq dcW_drop 2 rfl) rfl rfl rfl ?_
  refine f_callL hC 572 hm okX12_drop cvL_165 ⟨(Nat.le_of_ble_eq_true rfl), (Nat.le_of_ble_eq_true rfl)⟩ (dq dcW_drop 3 rfl) rfl (Nat.le_of_ble_eq_true rfl) rfl rfl rfl rfl rfl (Nat.le_of_ble_eq_true rfl) (by omega) (by omega) ?_
  rw [← zI_i]
  refine f_icmp_eq C 2507 575 (dq dcW_drop 4 rfl) rfl rfl (zI_r _) (zI_r _) (fun _ => ?_) (fun q => absurd rfl q)
  refine f_drop (lsL i) (fun k u hk => hk) ?_
  exact f_widen (by omega) (by omega) (kk _ hC _ hI2)
def kW_insert : List (Nat × Instr × Nat) := [(577, .aload_n 1, 1), (578, .aload_n 0, 1), (579, .iload 4, 2), (581, .iconst 1, 1), (582, .iadd, 1), (583, .iaload, 1), (584, .aload_n 0, 1), (585, .iload 4, 2), (587, .iconst 2, 1), (588, .iadd, 1), (589, .iaload, 1), (590, .aload_n 3, 1), (591, .invokestatic 166, 3), (594, .istore 5, 2), (596, .aload_n 2, 1), (597, .aload_n 0, 1), (598, .iload 4, 2), (600, .iconst 1, 1), (601, .iadd, 1), (602, .iaload, 1), (603, .aload_n 0, 1), (604, .iload 4, 2), (606, .iconst 2, 1), (607, .iadd, 1), (608, .iaload, 1), (609, .invokevirtual 169, 3), (612, .istore 6, 2), (614, .aload_n 2, 1), (615, .invokevirtual 140, 3), (618, .iload 5, 2), (620, .if_icmp .eq 5, 3), (623, .iconst 0, 1), (624, .ireturn, 1), (625, .iload 5, 2), (627, .ifCond .ne 15, 3), (630, .aload_n 3, 1), (631, .iconst 0, 1), (632, .laload, 1), (633, .iload 6, 2), (635, .i2l, 1), (636, .lcmp, 1), (637, .ifCond .eq 5, 3), (640, .iconst 0, 1), (641, .ireturn, 1), (642, .goto 1865, 3)]
theorem dcW_insert : kW_insert.all (fun q => decide (decode code q.1 = .ok q.2)) = true := by decide +kernel
theorem lc_insert {K : x_KT} {b L i kc ks : Nat} {xs : Nat → Int32} {σ : xSig} (hC : x_LC K b L xs) (hI : INV i σ) (hi : i < 512) (hj : 5 * i + 5 ≤ L) (hkc : kc + 1 ≤ 601024) (hks : ks + 6 ≤ 7293034) (kk : ∀ K' : x_KT, x_LC K' b L xs → ∀ σ2 : xSig, INV (i + 1) σ2 → x_F K' 8 [(0, .ref b)] 2507 (lsL i) [] (St σ2) (kc + 1) (ks + 6)) : x_F K 8 [(0, .ref b)] 577 (lsL i) [] (St σ) kc ks := by
  obtain ⟨σ1, σ2, code9, z, y, hcode, hc0, hc1, hm, h47, hzy, hI2⟩ := st_insert hI hi (xs_r (xs := xs) (5 * i + 1)) (xs_r (xs := xs) (5 * i + 2))
  have hcr : 0 ≤ code9 ∧ code9 ≤ 2 := hcode
  have C := hC.1
  have hxc : xr code9 := by unfold xr; omega
  obtain ⟨f, f0, f1⟩ := f9_of code9 (zI z)
  have spH := sw_insert (f9 := f) hcr hc0 hc1 f0 f1
  refine f_aload_n C 578 (dq dcW_insert 0 rfl) rfl rfl rfl ?_
  refine f_sldk hC 584 1 rfl (by omega) (dq dcW_insert 1 rfl) (dq dcW_insert 2 rfl) (dq dcW_insert 3 rfl) (dq dcW_insert 4 rfl) (dq dcW_insert 5 rfl) rfl ?_
  refine f_sldk hC 590 2 rfl (by omega) (dq dcW_insert 6 rfl) (dq dcW_insert 7 rfl) (dq dcW_insert 8 rfl) (dq dcW_insert 9 rfl) (dq dcW_insert 10 rfl) rfl ?_
  refine f_aload_n C 591 (dq dcW_insert 11 rfl) rfl rfl rfl ?_
  refine f_callH hC 594 (n := 4) rfl spH cwL_insert msL_insert (by decide +kernel) ⟨(Nat.le_of_ble_eq_true rfl), (Nat.le_of_ble_eq_true rfl)⟩ (dq dcW_insert 12 rfl) rfl rfl rfl (Nat.le_of_ble_eq_true rfl) (by omega) (by omega) ?_
  refine f_istore (C.out _) 596 (dq dcW_insert 13 rfl) rfl (Nat.le_of_ble_eq_true rfl) rfl rfl ?_
  refine f_aload_n (C.out _) 597 (dq dcW_insert 14 rfl) rfl rfl rfl ?_
  refine f_sldk (hC.out _) 603 1 rfl (by omega) (dq dcW_insert 15 rfl) (dq dcW_insert 16 rfl) (dq dcW_insert 17 rfl) (dq dcW_insert 18 rfl) (dq dcW_insert 19 rfl) rfl ?_
  refine f_sldk (hC.out _) 609 2 rfl (by omega) (dq dcW_insert 20 rfl) (dq dcW_insert 21 rfl) (dq dcW_insert 22 rfl) (dq dcW_insert 23 rfl) (dq dcW_insert 24 rfl) rfl ?_
  refine f_callL (hC.out _) 612 hm okX12_insert cvL_169 ⟨(Nat.le_of_ble_eq_true rfl), (Nat.le_of_ble_eq_true rfl)⟩ (dq dcW_insert 25 rfl) rfl (Nat.le_of_ble_eq_true rfl) rfl rfl rfl rfl rfl (Nat.le_of_ble_eq_true rfl) (by omega) (by omega) ?_
  refine f_istore (C.out _) 614 (dq dcW_insert 26 rfl) rfl (Nat.le_of_ble_eq_true rfl) rfl rfl ?_
  refine f_aload_n (C.out _) 615 (dq dcW_insert 27 rfl) rfl rfl rfl ?_
  have spT : x_Sp MX12_thrown 0 0 [.ref 281] (St σ2) (iv code9) (St σ2) := h47 ▸ sp_mThrown
  refine f_callL (hC.out _) 618 spT okX12_thrown cvL_140 ⟨(Nat.le_of_ble_eq_true rfl), (Nat.le_of_ble_eq_true rfl)⟩ (dq dcW_insert 28 rfl) rfl (Nat.le_of_ble_eq_true rfl) rfl rfl rfl rfl rfl (Nat.le_of_ble_eq_true rfl) (by omega) (by omega) ?_
  refine f_iload (C.out _) 620 (dq dcW_insert 29 rfl) rfl rfl ?_
  refine f_icmp_eq (C.out _) 625 623 (dq dcW_insert 30 rfl) rfl rfl hxc hxc (fun _ => ?_) (fun q => absurd rfl q)
  refine f_iload (C.out _) 627 (dq dcW_insert 33 rfl) rfl rfl ?_
  refine f_if_ne (C.out _) 642 630 (dq dcW_insert 34 rfl) rfl rfl hxc (fun h0 => ?_) (fun h0 => ?_)
  · skip
    refine f_goto (C.out _) 2507 (dq dcW_insert 44 rfl) rfl ?_
    refine f_drop (lsL i) (fun k u hk => by match k, hk with | 0, hk => exact hk | 1, hk => exact hk | 2, hk => exact hk | 3, hk => exact hk | 4, hk => exact hk | 5, hk => cases hk | 6, hk => cases hk | 7, hk => cases hk | k + 8, hk => cases hk) ?_
    exact kk _ (hC.out _) _ hI2
  · have hv := (congrArg Int64.ofNat (congrFun (f0 h0) ((kG K).2 9))).trans (o9_of _)
    obtain rfl := hzy h0
    refine f_aload_n (C.out _) 631 (dq dcW_insert 35 rfl) rfl rfl rfl ?_
    refine f_iconst (C.out _) 632 (dq dcW_insert 36 rfl) rfl ?_
    refine f_laload9 (C.out _) 633 (dq dcW_insert 37 rfl) rfl (Nat.le_of_ble_eq_true rfl) rfl hv ?_
    refine f_iload (C.out _) 635 (dq dcW_insert 38 rfl) rfl rfl ?_
    refine f_i2lz (C.out _) 636 (dq dcW_insert 39 rfl) rfl ?_
    refine f_lcmpE (C.out _) 637 (dq dcW_insert 40 rfl) rfl ?_
    refine f_if_eq (C.out _) 642 640 (dq dcW_insert 41 rfl) rfl rfl xr_0 (fun _ => ?_) (fun q => absurd rfl q)
    refine f_goto (C.out _) 2507 (dq dcW_insert 44 rfl) rfl ?_
    refine f_drop (lsL i) (fun k u hk => by match k, hk with | 0, hk => exact hk | 1, hk => exact hk | 2, hk => exact hk | 3, hk => exact hk | 4, hk => exact hk | 5, hk => cases hk | 6, hk => cases hk | 7, hk => cases hk | k + 8, hk => cases hk) ?_
    exact kk _ (hC.out _) _ hI2
