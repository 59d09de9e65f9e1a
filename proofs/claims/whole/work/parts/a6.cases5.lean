/-! ===== the law, case by case ===== -/
def kW_entries : List (Nat × Instr × Nat) := [(2085, .aload_n 1, 1), (2086, .aload_n 0, 1), (2087, .iload 4, 2), (2089, .iconst 1, 1), (2090, .iadd, 1), (2091, .iaload, 1), (2092, .aload_n 3, 1), (2093, .invokestatic 250, 3), (2096, .istore 5, 2), (2098, .aload_n 2, 1), (2099, .aload_n 0, 1), (2100, .iload 4, 2), (2102, .iconst 1, 1), (2103, .iadd, 1), (2104, .iaload, 1), (2105, .invokevirtual 252, 3), (2108, .istore 6, 2), (2110, .aload_n 2, 1), (2111, .invokevirtual 140, 3), (2114, .iload 5, 2), (2116, .if_icmp .eq 5, 3), (2119, .iconst 0, 1), (2120, .ireturn, 1), (2121, .iload 5, 2), (2123, .ifCond .ne 15, 3), (2126, .aload_n 3, 1), (2127, .iconst 0, 1), (2128, .laload, 1), (2129, .iload 6, 2), (2131, .i2l, 1), (2132, .lcmp, 1), (2133, .ifCond .eq 5, 3), (2136, .iconst 0, 1), (2137, .ireturn, 1), (2138, .goto 369, 3)]
theorem dcW_entries : kW_entries.all (fun q => decide (decode code q.1 = .ok q.2)) = true := by decide +kernel
theorem lc_entries {K : x_KT} {b L i kc ks : Nat} {xs : Nat → Int32} {σ : xSig} (hC : x_LC K b L xs) (hI : INV i σ) (hi : i < 512) (hj : 5 * i + 5 ≤ L) (hkc : kc + 1 ≤ 601024) (hks : ks + 6 ≤ 7293034) (kk : ∀ K' : x_KT, x_LC K' b L xs → ∀ σ2 : xSig, INV (i + 1) σ2 → x_F K' 8 [(0, .ref b)] 2507 (lsL i) [] (St σ2) (kc + 1) (ks + 6)) : x_F K 8 [(0, .ref b)] 2085 (lsL i) [] (St σ) kc ks := by
  obtain ⟨σ1, σ2, code9, z, y, hcode, hc0, hc1, hm, h47, hzy, hI2⟩ := st_entries hI (xs_r (xs := xs) (5 * i + 1))
  have hcr : 0 ≤ code9 ∧ code9 ≤ 1 := hcode
  have C := hC.1
  have hxc : xr code9 := by unfold xr; omega
  obtain ⟨f, f0, f1⟩ := f9_of code9 (zI z)
  have spH := sw_entries (f9 := f) hcr hc0 hc1 f0 f1
  refine f_aload_n C 2086 (dq dcW_entries 0 rfl) rfl rfl rfl ?_
  refine f_sldk hC 2092 1 rfl (by omega) (dq dcW_entries 1 rfl) (dq dcW_entries 2 rfl) (dq dcW_entries 3 rfl) (dq dcW_entries 4 rfl) (dq dcW_entries 5 rfl) rfl ?_
  refine f_aload_n C 2093 (dq dcW_entries 6 rfl) rfl rfl rfl ?_
  refine f_callH hC 2096 (n := 3) rfl spH cwL_entries msL_entries (by decide +kernel) ⟨(Nat.le_of_ble_eq_true rfl), (Nat.le_of_ble_eq_true rfl)⟩ (dq dcW_entries 7 rfl) rfl rfl rfl (Nat.le_of_ble_eq_true rfl) (by omega) (by omega) ?_
  refine f_istore (C.out _) 2098 (dq dcW_entries 8 rfl) rfl (Nat.le_of_ble_eq_true rfl) rfl rfl ?_
  refine f_aload_n (C.out _) 2099 (dq dcW_entries 9 rfl) rfl rfl rfl ?_
  refine f_sldk (hC.out _) 2105 1 rfl (by omega) (dq dcW_entries 10 rfl) (dq dcW_entries 11 rfl) (dq dcW_entries 12 rfl) (dq dcW_entries 13 rfl) (dq dcW_entries 14 rfl) rfl ?_
  refine f_callL (hC.out _) 2108 hm okX12_entries cvL_252 ⟨(Nat.le_of_ble_eq_true rfl), (Nat.le_of_ble_eq_true rfl)⟩ (dq dcW_entries 15 rfl) rfl (Nat.le_of_ble_eq_true rfl) rfl rfl rfl rfl rfl (Nat.le_of_ble_eq_true rfl) (by omega) (by omega) ?_
  refine f_istore (C.out _) 2110 (dq dcW_entries 16 rfl) rfl (Nat.le_of_ble_eq_true rfl) rfl rfl ?_
  refine f_aload_n (C.out _) 2111 (dq dcW_entries 17 rfl) rfl rfl rfl ?_
  have spT : x_Sp MX12_thrown 0 0 [.ref 281] (St σ2) (iv code9) (St σ2) := h47 ▸ sp_mThrown
  refine f_callL (hC.out _) 2114 spT okX12_thrown cvL_140 ⟨(Nat.le_of_ble_eq_true rfl), (Nat.le_of_ble_eq_true rfl)⟩ (dq dcW_entries 18 rfl) rfl (Nat.le_of_ble_eq_true rfl) rfl rfl rfl rfl rfl (Nat.le_of_ble_eq_true rfl) (by omega) (by omega) ?_
  refine f_iload (C.out _) 2116 (dq dcW_entries 19 rfl) rfl rfl ?_
  refine f_icmp_eq (C.out _) 2121 2119 (dq dcW_entries 20 rfl) rfl rfl hxc hxc (fun _ => ?_) (fun q => absurd rfl q)
  refine f_iload (C.out _) 2123 (dq dcW_entries 23 rfl) rfl rfl ?_
  refine f_if_ne (C.out _) 2138 2126 (dq dcW_entries 24 rfl) rfl rfl hxc (fun h0 => ?_) (fun h0 => ?_)
  · skip
    refine f_goto (C.out _) 2507 (dq dcW_entries 34 rfl) rfl ?_
    refine f_drop (lsL i) (fun k u hk => by match k, hk with | 0, hk => exact hk | 1, hk => exact hk | 2, hk => exact hk | 3, hk => exact hk | 4, hk => exact hk | 5, hk => cases hk | 6, hk => cases hk | 7, hk => cases hk | k + 8, hk => cases hk) ?_
    exact kk _ (hC.out _) _ hI2
  · have hv := (congrArg Int64.ofNat (congrFun (f0 h0) ((kG K).2 9))).trans (o9_of _)
    obtain rfl := hzy h0
    refine f_aload_n (C.out _) 2127 (dq dcW_entries 25 rfl) rfl rfl rfl ?_
    refine f_iconst (C.out _) 2128 (dq dcW_entries 26 rfl) rfl ?_
    refine f_laload9 (C.out _) 2129 (dq dcW_entries 27 rfl) rfl (Nat.le_of_ble_eq_true rfl) rfl hv ?_
    refine f_iload (C.out _) 2131 (dq dcW_entries 28 rfl) rfl rfl ?_
    refine f_i2lz (C.out _) 2132 (dq dcW_entries 29 rfl) rfl ?_
    refine f_lcmpE (C.out _) 2133 (dq dcW_entries 30 rfl) rfl ?_
    refine f_if_eq (C.out _) 2138 2136 (dq dcW_entries 31 rfl) rfl rfl xr_0 (fun _ => ?_) (fun q => absurd rfl q)
    refine f_goto (C.out _) 2507 (dq dcW_entries 34 rfl) rfl ?_
    refine f_drop (lsL i) (fun k u hk => by match k, hk with | 0, hk => exact hk | 1, hk => exact hk | 2, hk => exact hk | 3, hk => exact hk | 4, hk => exact hk | 5, hk => cases hk | 6, hk => cases hk | 7, hk => cases hk | k + 8, hk => cases hk) ?_
    exact kk _ (hC.out _) _ hI2
def kW_entriesAnew : List (Nat × Instr × Nat) := [(2141, .aload_n 1, 1), (2142, .aload_n 0, 1), (2143, .iload 4, 2), (2145, .iconst 1, 1), (2146, .iadd, 1), (2147, .iaload, 1), (2148, .aload_n 3, 1), (2149, .invokestatic 253, 3), (2152, .istore 5, 2), (2154, .aload_n 2, 1), (2155, .aload_n 0, 1), (2156, .iload 4, 2), (2158, .iconst 1, 1), (2159, .iadd, 1), (2160, .iaload, 1), (2161, .invokevirtual 255, 3), (2164, .istore 6, 2), (2166, .aload_n 2, 1), (2167, .invokevirtual 140, 3), (2170, .iload 5, 2), (2172, .if_icmp .eq 5, 3), (2175, .iconst 0, 1), (2176, .ireturn, 1), (2177, .iload 5, 2), (2179, .ifCond .ne 15, 3), (2182, .aload_n 3, 1), (2183, .iconst 0, 1), (2184, .laload, 1), (2185, .iload 6, 2), (2187, .i2l, 1), (2188, .lcmp, 1), (2189, .ifCond .eq 5, 3), (2192, .iconst 0, 1), (2193, .ireturn, 1), (2194, .goto 313, 3)]
theorem dcW_entriesAnew : kW_entriesAnew.all (fun q => decide (decode code q.1 = .ok q.2)) = true := by decide +kernel
theorem lc_entriesAnew {K : x_KT} {b L i kc ks : Nat} {xs : Nat → Int32} {σ : xSig} (hC : x_LC K b L xs) (hI : INV i σ) (hi : i < 512) (hj : 5 * i + 5 ≤ L) (hkc : kc + 1 ≤ 601024) (hks : ks + 6 ≤ 7293034) (kk : ∀ K' : x_KT, x_LC K' b L xs → ∀ σ2 : xSig, INV (i + 1) σ2 → x_F K' 8 [(0, .ref b)] 2507 (lsL i) [] (St σ2) (kc + 1) (ks + 6)) : x_F K 8 [(0, .ref b)] 2141 (lsL i) [] (St σ) kc ks := by
  obtain ⟨σ1, σ2, code9, z, y, hcode, hc0, hc1, hm, h47, hzy, hI2⟩ := st_entriesAnew hI (xs_r (xs := xs) (5 * i + 1))
  have hcr : 0 ≤ code9 ∧ code9 ≤ 1 := hcode
  have C := hC.1
  have hxc : xr code9 := by unfold xr; omega
  obtain ⟨f, f0, f1⟩ := f9_of code9 (zI z)
  have spH := sw_entriesAnew (f9 := f) hcr hc0 hc1 f0 f1
  refine f_aload_n C 2142 (dq dcW_entriesAnew 0 rfl) rfl rfl rfl ?_
  refine f_sldk hC 2148 1 rfl (by omega) (dq dcW_entriesAnew 1 rfl) (dq dcW_entriesAnew 2 rfl) (dq dcW_entriesAnew 3 rfl) (dq dcW_entriesAnew 4 rfl) (dq dcW_entriesAnew 5 rfl) rfl ?_
  refine f_aload_n C 2149 (dq dcW_entriesAnew 6 rfl) rfl rfl rfl ?_
  refine f_callH hC 2152 (n := 3) rfl spH cwL_entriesAnew msL_entriesAnew (by decide +kernel) ⟨(Nat.le_of_ble_eq_true rfl), (Nat.le_of_ble_eq_true rfl)⟩ (dq dcW_entriesAnew 7 rfl) rfl rfl rfl (Nat.le_of_ble_eq_true rfl) (by omega) (by omega) ?_
  refine f_istore (C.out _) 2154 (dq dcW_entriesAnew 8 rfl) rfl (Nat.le_of_ble_eq_true rfl) rfl rfl ?_
  refine f_aload_n (C.out _) 2155 (dq dcW_entriesAnew 9 rfl) rfl rfl rfl ?_
  refine f_sldk (hC.out _) 2161 1 rfl (by omega) (dq dcW_entriesAnew 10 rfl) (dq dcW_entriesAnew 11 rfl) (dq dcW_entriesAnew 12 rfl) (dq dcW_entriesAnew 13 rfl) (dq dcW_entriesAnew 14 rfl) rfl ?_
  refine f_callL (hC.out _) 2164 hm okX12_entriesAnew cvL_255 ⟨(Nat.le_of_ble_eq_true rfl), (Nat.le_of_ble_eq_true rfl)⟩ (dq dcW_entriesAnew 15 rfl) rfl (Nat.le_of_ble_eq_true rfl) rfl rfl rfl rfl rfl (Nat.le_of_ble_eq_true rfl) (by omega) (by omega) ?_
  refine f_istore (C.out _) 2166 (dq dcW_entriesAnew 16 rfl) rfl (Nat.le_of_ble_eq_true rfl) rfl rfl ?_
  refine f_aload_n (C.out _) 2167 (dq dcW_entriesAnew 17 rfl) rfl rfl rfl ?_
  have spT : x_Sp MX12_thrown 0 0 [.ref 281] (St σ2) (iv code9) (St σ2) := h47 ▸ sp_mThrown
  refine f_callL (hC.out _) 2170 spT okX12_thrown cvL_140 ⟨(Nat.le_of_ble_eq_true rfl), (Nat.le_of_ble_eq_true rfl)⟩ (dq dcW_entriesAnew 18 rfl) rfl (Nat.le_of_ble_eq_true rfl) rfl rfl rfl rfl rfl (Nat.le_of_ble_eq_true rfl) (by omega) (by omega) ?_
  refine f_iload (C.out _) 2172 (dq dcW_entriesAnew 19 rfl) rfl rfl ?_
  refine f_icmp_eq (C.out _) 2177 2175 (dq dcW_entriesAnew 20 rfl) rfl rfl hxc hxc (fun _ => ?_) (fun q => absurd rfl q)
  refine f_iload (C.out _) 2179 (dq dcW_entriesAnew 23 rfl) rfl rfl ?_
  refine f_if_ne (C.out _) 2194 2182 (dq dcW_entriesAnew 24 rfl) rfl rfl hxc (fun h0 => ?_) (fun h0 => ?_)
  · skip
    refine f_goto (C.out _) 2507 (dq dcW_entriesAnew 34 rfl) rfl ?_
    refine f_drop (lsL i) (fun k u hk => by match k, hk with | 0, hk => exact hk | 1, hk => exact hk | 2, hk => exact hk | 3, hk => exact hk | 4, hk => exact hk | 5, hk => cases hk | 6, hk => cases hk | 7, hk => cases hk | k + 8, hk => cases hk) ?_
    exact kk _ (hC.out _) _ hI2
  · have hv := (congrArg Int64.ofNat (congrFun (f0 h0) ((kG K).2 9))).trans (o9_of _)
    obtain rfl := hzy h0
    refine f_aload_n (C.out _) 2183 (dq dcW_entriesAnew 25 rfl) rfl rfl rfl ?_
    refine f_iconst (C.out _) 2184 (dq dcW_entriesAnew 26 rfl) rfl ?_
    refine f_laload9 (C.out _) 2185 (dq dcW_entriesAnew 27 rfl) rfl (Nat.le_of_ble_eq_true rfl) rfl hv ?_
    refine f_iload (C.out _) 2187 (dq dcW_entriesAnew 28 rfl) rfl rfl ?_
    refine f_i2lz (C.out _) 2188 (dq dcW_entriesAnew 29 rfl) rfl ?_
    refine f_lcmpE (C.out _) 2189 (dq dcW_entriesAnew 30 rfl) rfl ?_
    refine f_if_eq (C.out _) 2194 2192 (dq dcW_entriesAnew 31 rfl) rfl rfl xr_0 (fun _ => ?_) (fun q => absurd rfl q)
    refine f_goto (C.out _) 2507 (dq dcW_entriesAnew 34 rfl) rfl ?_
    refine f_drop (lsL i) (fun k u hk => by match k, hk with | 0, hk => exact hk | 1, hk => exact hk | 2, hk => exact hk | 3, hk => exact hk | 4, hk => exact hk | 5, hk => cases hk | 6, hk => cases hk | 7, hk => cases hk | k + 8, hk => cases hk) ?_
    exact kk _ (hC.out _) _ hI2
def kW_chunk : List (Nat × Instr × Nat) := [(2197, .aload_n 1, 1), (2198, .aload_n 0, 1), (2199, .iload 4, 2), (2201, .iconst 1, 1), (2202, .iadd, 1), (2203, .iaload, 1), (2204, .aload_n 0, 1), (2205, .iload 4, 2), (2207, .iconst 2, 1), (2208, .iadd, 1), (2209, .iaload, 1), (2210, .aload_n 3, 1), (2211, .invokestatic 256, 3), (2214, .istore 5, 2), (2216, .aload_n 2, 1), (2217, .aload_n 0, 1), (2218, .iload 4, 2), (2220, .iconst 1, 1), (2221, .iadd, 1), (2222, .iaload, 1), (2223, .aload_n 0, 1), (2224, .iload 4, 2), (2226, .iconst 2, 1), (2227, .iadd, 1), (2228, .iaload, 1), (2229, .invokevirtual 258, 3), (2232, .istore 6, 2), (2234, .aload_n 2, 1), (2235, .invokevirtual 140, 3), (2238, .iload 5, 2), (2240, .if_icmp .eq 5, 3), (2243, .iconst 0, 1), (2244, .ireturn, 1), (2245, .iload 5, 2), (2247, .ifCond .ne 15, 3), (2250, .aload_n 3, 1), (2251, .iconst 0, 1), (2252, .laload, 1), (2253, .iload 6, 2), (2255, .i2l, 1), (2256, .lcmp, 1), (2257, .ifCond .eq 5, 3), (2260, .iconst 0, 1), (2261, .ireturn, 1), (2262, .goto 245, 3)]
theorem dcW_chunk : kW_chunk.all (fun q => decide (decode code q.1 = .ok q.2)) = true := by decide +kernel
theorem lc_chunk {K : x_KT} {b L i kc ks : Nat} {xs : Nat → Int32} {σ : xSig} (hC : x_LC K b L xs) (hI : INV i σ) (hi : i < 512) (hj : 5 * i + 5 ≤ L) (hkc : kc + 1 ≤ 601024) (hks : ks + 6 ≤ 7293034) (kk : ∀ K' : x_KT, x_LC K' b L xs → ∀ σ2 : xSig, INV (i + 1) σ2 → x_F K' 8 [(0, .ref b)] 2507 (lsL i) [] (St σ2) (kc + 1) (ks + 6)) : x_F K 8 [(0, .ref b)] 2197 (lsL i) [] (St σ) kc ks := by
  obtain ⟨σ1, σ2, code9, z, y, hcode, hc0, hc1, hm, h47, hzy, hI2⟩ := st_chunk hI (xs_r (xs := xs) (5 * i + 1)) (xs_r (xs := xs) (5 * i + 2))
  have hcr : 0 ≤ code9 ∧ code9 ≤ 2 := hcode
  have C := hC.1
  have hxc : xr code9 := by unfold xr; omega
  obtain ⟨f, f0, f1⟩ := f9_of code9 (zI z)
  have spH := sw_chunk (f9 := f) hcr hc0 hc1 f0 f1
  refine f_aload_n C 2198 (dq dcW_chunk 0 rfl) rfl rfl rfl ?_
  refine f_sldk hC 2204 1 rfl (by omega) (dq dcW_chunk 1 rfl) (dq dcW_chunk 2 rfl) (dq dcW_chunk 3 rfl) (dq dcW_chunk 4 rfl) (dq dcW_chunk 5 rfl) rfl ?_
  refine f_sldk hC 2210 2 rfl (by omega) (dq dcW_chunk 6 rfl) (dq dcW_chunk 7 rfl) (dq dcW_chunk 8 rfl) (dq dcW_chunk 9 rfl) (dq dcW_chunk 10 rfl) rfl ?_
  refine f_aload_n C 2211 (dq dcW_chunk 11 rfl) rfl rfl rfl ?_
  refine f_callH hC 2214 (n := 4) rfl spH cwL_chunk msL_chunk (by decide +kernel) ⟨(Nat.le_of_ble_eq_true rfl), (Nat.le_of_ble_eq_true rfl)⟩ (dq dcW_chunk 12 rfl) rfl rfl rfl (Nat.le_of_ble_eq_true rfl) (by omega) (by omega) ?_
  refine f_istore (C.out _) 2216 (dq dcW_chunk 13 rfl) rfl (Nat.le_of_ble_eq_true rfl) rfl rfl ?_
  refine f_aload_n (C.out _) 2217 (dq dcW_chunk 14 rfl) rfl rfl rfl ?_
  refine f_sldk (hC.out _) 2223 1 rfl (by omega) (dq dcW_chunk 15 rfl) (dq dcW_chunk 16 rfl) (dq dcW_chunk 17 rfl) (dq dcW_chunk 18 rfl) (dq dcW_chunk 19 rfl) rfl ?_
  refine f_sldk (hC.out _) 2229 2 rfl (by omega) (dq dcW_chunk 20 rfl) (dq dcW_chunk 21 rfl) (dq dcW_chunk 22 rfl) (dq dcW_chunk 23 rfl) (dq dcW_chunk 24 rfl) rfl ?_
  refine f_callL (hC.out _) 2232 hm okX12_chunk cvL_258 ⟨(Nat.le_of_ble_eq_true rfl), (Nat.le_of_ble_eq_true rfl)⟩ (dq dcW_chunk 25 rfl) rfl (Nat.le_of_ble_eq_true rfl) rfl rfl rfl rfl rfl (Nat.le_of_ble_eq_true rfl) (by omega) (by omega) ?_
  refine f_istore (C.out _) 2234 (dq dcW_chunk 26 rfl) rfl (Nat.le_of_ble_eq_true rfl) rfl rfl ?_
  refine f_aload_n (C.out _) 2235 (dq dcW_chunk 27 rfl) rfl rfl rfl ?_
  have spT : x_Sp MX12_thrown 0 0 [.ref 281] (St σ2) (iv code9) (St σ2) := h47 ▸ sp_mThrown
  refine f_callL (hC.out _) 2238 spT okX12_thrown cvL_140 ⟨(Nat.le_of_ble_eq_true rfl), (Nat.le_of_ble_eq_true rfl)⟩ (dq dcW_chunk 28 rfl) rfl (Nat.le_of_ble_eq_true rfl) rfl rfl rfl rfl rfl (Nat.le_of_ble_eq_true rfl) (by omega) (by omega) ?_
  refine f_iload (C.out _) 2240 (dq dcW_chunk 29 rfl) rfl rfl ?_
  refine f_icmp_eq (C.out _) 2245 2243 (dq dcW_chunk 30 rfl) rfl rfl hxc hxc (fun _ => ?_) (fun q => absurd rfl q)
  refine f_iload (C.out _) 2247 (dq dcW_chunk 33 rfl) rfl rfl ?_
  refine f_if_ne (C.out _) 2262 2250 (dq dcW_chunk 34 rfl) rfl rfl hxc (fun h0 => ?_) (fun h0 => ?_)
  · skip
    refine f_goto (C.out _) 2507 (dq dcW_chunk 44 rfl) rfl ?_
    refine f_drop (lsL i) (fun k u hk => by match k, hk with | 0, hk => exact hk | 1, hk => exact hk | 2, hk => exact hk | 3, hk => exact hk | 4, hk => exact hk | 5, hk => cases hk | 6, hk => cases hk | 7, hk => cases hk | k + 8, hk => cases hk) ?_
    exact kk _ (hC.out _) _ hI2
  · have hv := (congrArg Int64.ofNat (congrFun (f0 h0) ((kG K).2 9))).trans (o9_of _)
    obtain rfl := hzy h0
    refine f_aload_n (C.out _) 2251 (dq dcW_chunk 35 rfl) rfl rfl rfl ?_
    refine f_iconst (C.out _) 2252 (dq dcW_chunk 36 rfl) rfl ?_
    refine f_laload9 (C.out _) 2253 (dq dcW_chunk 37 rfl) rfl (Nat.le_of_ble_eq_true rfl) rfl hv ?_
    refine f_iload (C.out _) 2255 (dq dcW_chunk 38 rfl) rfl rfl ?_
    refine f_i2lz (C.out _) 2256 (dq dcW_chunk 39 rfl) rfl ?_
    refine f_lcmpE (C.out _) 2257 (dq dcW_chunk 40 rfl) rfl ?_
    refine f_if_eq (C.out _) 2262 2260 (dq dcW_chunk 41 rfl) rfl rfl xr_0 (fun _ => ?_) (fun q => absurd rfl q)
    refine f_goto (C.out _) 2507 (dq dcW_chunk 44 rfl) rfl ?_
    refine f_drop (lsL i) (fun k u hk => by match k, hk with | 0, hk => exact hk | 1, hk => exact hk | 2, hk => exact hk | 3, hk => exact hk | 4, hk => exact hk | 5, hk => cases hk | 6, hk => cases hk | 7, hk => cases hk | k + 8, hk => cases hk) ?_
    exact kk _ (hC.out _) _ hI2
def kW_shard : List (Nat × Instr × Nat) := [(2265, .aload_n 1, 1), (2266, .aload_n 0, 1), (2267, .iload 4, 2), (2269, .iconst 1, 1), (2270, .iadd, 1), (2271, .iaload, 1), (2272, .aload_n 0, 1), (2273, .iload 4, 2), (2275, .iconst 2, 1), (2276, .iadd, 1), (2277, .iaload, 1), (2278, .aload_n 3, 1), (2279, .invokestatic 259, 3), (2282, .istore 5, 2), (2284, .aload_n 2, 1), (2285, .aload_n 0, 1), (2286, .iload 4, 2), (2288, .iconst 1, 1), (2289, .iadd, 1), (2290, .iaload, 1), (2291, .aload_n 0, 1), (2292, .iload 4, 2), (2294, .iconst 2, 1), (2295, .iadd, 1), (2296, .iaload, 1), (2297, .invokevirtual 261, 3), (2300, .istore 6, 2), (2302, .aload_n 2, 1), (2303, .invokevirtual 140, 3), (2306, .iload 5, 2), (2308, .if_icmp .eq 5, 3), (2311, .iconst 0, 1), (2312, .ireturn, 1), (2313, .iload 5, 2), (2315, .ifCond .ne 15, 3), (2318, .aload_n 3, 1), (2319, .iconst 0, 1), (2320, .laload, 1), (2321, .iload 6, 2), (2323, .i2l, 1), (2324, .lcmp, 1), (2325, .ifCond .eq 5, 3), (2328, .iconst 0, 1), (2329, .ireturn, 1), (2330, .goto 177, 3)]
theorem dcW_shard : kW_shard.all (fun q => decide (decode code q.1 = .ok q.2)) = true := by decide +kernel
theorem lc_shard {K : x_KT} {b L i kc ks : Nat} {xs : Nat → Int32} {σ : xSig} (hC : x_LC K b L xs) (hI : INV i σ) (hi : i < 512) (hj : 5 * i + 5 ≤ L) (hkc : kc + 1 ≤ 601024) (hks : ks + 6 ≤ 7293034) (kk : ∀ K' : x_KT, x_LC K' b L xs → ∀ σ2 : xSig, INV (i + 1) σ2 → x_F K' 8 [(0, .ref b)] 2507 (lsL i) [] (St σ2) (kc + 1) (ks + 6)) : x_F K 8 [(0, .ref b)] 2265 (lsL i) [] (St σ) kc ks := by
  obtain ⟨σ1, σ2, code9, z, y, hcode, hc0, hc1, hm, h47, hzy, hI2⟩ := st_shard hI (xs_r (xs := xs) (5 * i + 1)) (xs_r (xs := xs) (5 * i + 2))
  have hcr : 0 ≤ code9 ∧ code9 ≤ 1 := hcode
  have C := hC.1
  have hxc : xr code9 := by unfold xr; omega
  obtain ⟨f, f0, f1⟩ := f9_of code9 (zI z)
  have spH := sw_shard (f9 := f) hcr hc0 hc1 f0 f1
  refine f_aload_n C 2266 (dq dcW_shard 0 rfl) rfl rfl rfl ?_
  refine f_sldk hC 2272 1 rfl (by omega) (dq dcW_shard 1 rfl) (dq dcW_shard 2 rfl) (dq dcW_shard 3 rfl) (dq dcW_shard 4 rfl) (dq dcW_shard 5 rfl) rfl ?_
  refine f_sldk hC 2278 2 rfl (by omega) (dq dcW_shard 6 rfl) (dq dcW_shard 7 rfl) (dq dcW_shard 8 rfl) (dq dcW_shard 9 rfl) (dq dcW_shard 10 rfl) rfl ?_
  refine f_aload_n C 2279 (dq dcW_shard 11 rfl) rfl rfl rfl ?_
  refine f_callH hC 2282 (n := 4) rfl spH cwL_shard msL_shard (by decide +kernel) ⟨(Nat.le_of_ble_eq_true rfl), (Nat.le_of_ble_eq_true rfl)⟩ (dq dcW_shard 12 rfl) rfl rfl rfl (Nat.le_of_ble_eq_true rfl) (by omega) (by omega) ?_
  refine f_istore (C.out _) 2284 (dq dcW_shard 13 rfl) rfl (Nat.le_of_ble_eq_true rfl) rfl rfl ?_
  refine f_aload_n (C.out _) 2285 (dq dcW_shard 14 rfl) rfl rfl rfl ?_
  refine f_sldk (hC.out _) 2291 1 rfl (by omega) (dq dcW_shard 15 rfl) (dq dcW_shard 16 rfl) (dq dcW_shard 17 rfl) (dq dcW_shard 18 rfl) (dq dcW_shard 19 rfl) rfl ?_
  refine f_sldk (hC.out _) 2297 2 rfl (by omega) (dq dcW_shard 20 rfl) (dq dcW_shard 21 rfl) (dq dcW_shard 22 rfl) (dq dcW_shard 23 rfl) (dq dcW_shard 24 rfl) rfl ?_
  refine f_callL (hC.out _) 2300 hm okX12_shard cvL_261 ⟨(Nat.le_of_ble_eq_true rfl), (Nat.le_of_ble_eq_true rfl)⟩ (dq dcW_shard 25 rfl) rfl (Nat.le_of_ble_eq_true rfl) rfl rfl rfl rfl rfl (Nat.le_of_ble_eq_true rfl) (by omega) (by omega) ?_
  refine f_istore (C.out _) 2302 (dq dcW_shard 26 rfl) rfl (Nat.le_of_ble_eq_true rfl) rfl rfl ?_
  refine f_aload_n (C.out _) 2303 (dq dcW_shard 27 rfl) rfl rfl rfl ?_
  have spT : x_Sp MX12_thrown 0 0 [.ref 281] (St σ2) (iv code9) (St σ2) := h47 ▸ sp_mThrown
  refine f_callL (hC.out _) 2306 spT okX12_thrown cvL_140 ⟨(Nat.le_of_ble_eq_true rfl), (Nat.le_of_ble_eq_true rfl)⟩ (dq dcW_shard 28 rfl) rfl (Nat.le_of_ble_eq_true rfl) rfl rfl rfl rfl rfl (Nat.le_of_ble_eq_true rfl) (by omega) (by omega) ?_
  refine f_iload (C.out _) 2308 (dq dcW_shard 29 rfl) rfl rfl ?_
  refine f_icmp_eq (C.out _) 2313 2311 (dq dcW_shard 30 rfl) rfl rfl hxc hxc (fun _ => ?_) (fun q => absurd rfl q)
  refine f_iload (C.out _) 2315 (dq dcW_shard 33 rfl) rfl rfl ?_
  refine f_if_ne (C.out _) 2330 2318 (dq dcW_shard 34 rfl) rfl rfl hxc (fun h0 => ?_) (fun h0 => ?_)
  · skip
    refine f_goto (C.out _) 2507 (dq dcW_shard 44 rfl) rfl ?_
    refine f_drop (lsL i) (fun k u hk => by match k, hk with | 0, hk => exact hk | 1, hk => exact hk | 2, hk => exact hk | 3, hk => exact hk | 4, hk => exact hk | 5, hk => cases hk | 6, hk => cases hk | 7, hk => cases hk | k + 8, hk => cases hk) ?_
    exact kk _ (hC.out _) _ hI2
  · have hv := (congrArg Int64.ofNat (congrFun (f0 h0) ((kG K).2 9))).trans (o9_of _)
    obtain rfl := hzy h0
    refine f_aload_n (C.out _) 2319 (dq dcW_shard 35 rfl) rfl rfl rfl ?_
    refine f_iconst (C.out _) 2320 (dq dcW_shard 36 rfl) rfl ?_
    refine f_laload9 (C.out _) 2321 (dq dcW_shard 37 rfl) rfl (Nat.le_of_ble_eq_true rfl) rfl hv ?_
    refine f_iload (C.out _) 2323 (dq dcW_shard 38 rfl) rfl rfl ?_
    refine f_i2lz (C.out _) 2324 (dq dcW_shard 39 rfl) rfl ?_
    refine f_lcmpE (C.out _) 2325 (dq dcW_shard 40 rfl) rfl ?_
    refine f_if_eq (C.out _) 2330 2328 (dq dcW_shard 41 rfl) rfl rfl xr_0 (fun _ => ?_) (fun q => absurd rfl q)
    refine f_goto (C.out _) 2507 (dq dcW_shard 44 rfl) rfl ?_
    refine f_drop (lsL i) (fun k u hk => by match k, hk with | 0, hk => exact hk | 1, hk => exact hk | 2, hk => exact hk | 3, hk => exact hk | 4, hk => exact hk | 5, hk => cases hk | 6, hk => cases hk | 7, hk => cases hk | k + 8, hk => cases hk) ?_
    exact kk _ (hC.out _) _ hI2
def kW_router : List (Nat × Instr × Nat) := [(2333, .aload_n 1, 1), (2334, .aload_n 0, 1), (2335, .iload 4, 2), (2337, .iconst 1, 1), (2338, .iadd, 1), (2339, .iaload, 1), (2340, .aload_n 0, 1), (2341, .iload 4, 2), (2343, .iconst 2, 1), (2344, .iadd, 1), (2345, .iaload, 1), (2346, .aload_n 3, 1), (2347, .invokestatic 262, 3), (2350, .istore 5, 2), (2352, .aload_n 2, 1), (2353, .aload_n 0, 1), (2354, .iload 4, 2), (2356, .iconst 1, 1), (2357, .iadd, 1), (2358, .iaload, 1), (2359, .aload_n 0, 1), (2360, .iload 4, 2), (2362, .iconst 2, 1), (2363, .iadd, 1), (2364, .iaload, 1), (2365, .invokevirtual 264, 3), (2368, .istore 6, 2), (2370, .aload_n 2, 1), (2371, .invokevirtual 140, 3), (2374, .iload 5, 2), (2376, .if_icmp .eq 5, 3), (2379, .iconst 0, 1), (2380, .ireturn, 1), (2381, .iload 5, 2), (2383, .ifCond .ne 15, 3), (2386, .aload_n 3, 1), (2387, .iconst 0, 1), (2388, .laload, 1), (2389, .iload 6, 2), (2391, .i2l, 1), (2392, .lcmp, 1), (2393, .ifCond .eq 5, 3), (2396, .iconst 0, 1), (2397, .ireturn, 1), (2398, .goto 109, 3)]
theorem dcW_router : kW_router.all (fun q => decide (decode code q.1 = .ok q.2)) = true := by decide +kernel
theorem lc_router {K : x_KT} {b L i kc ks : Nat} {xs : Nat → Int32} {σ : xSig} (hC : x_LC K b L xs) (hI : INV i σ) (hi : i < 512) (hj : 5 * i + 5 ≤ L) (hkc : kc + 1 ≤ 601024) (hks : ks + 6 ≤ 7293034) (kk : ∀ K' : x_KT, x_LC K' b L xs → ∀ σ2 : xSig, INV (i + 1) σ2 → x_F K' 8 [(0, .ref b)] 2507 (lsL i) [] (St σ2) (kc + 1) (ks + 6)) : x_F K 8 [(0, .ref b)] 2333 (lsL i) [] (St σ) kc ks := by
  obtain ⟨σ1, σ2, code9, z, y, hcode, hc0, hc1, hm, h47, hzy, hI2⟩ := st_router hI (xs_r (xs := xs) (5 * i + 1)) (xs_r (xs := xs) (5 * i + 2))
  have hcr : 0 ≤ code9 ∧ code9 ≤ 1 := hcode
  have C := hC.1
  have hxc : xr code9 := by unfold xr; omega
  obtain ⟨f, f0, f1⟩ := f9_of code9 (zI z)
  have spH := sw_router (f9 := f) hcr hc0 hc1 f0 f1
  refine f_aload_n C 2334 (dq dcW_router 0 rfl) rfl rfl rfl ?_
  refine f_sldk hC 2340 1 rfl (by omega) (dq dcW_router 1 rfl) (dq dcW_router 2 rfl) (dq dcW_router 3 rfl) (dq dcW_router 4 rfl) (dq dcW_router 5 rfl) rfl ?_
  refine f_sldk hC 2346 2 rfl (by omega) (dq dcW_router 6 rfl) (dq dcW_router 7 rfl) (dq dcW_router 8 rfl) (dq dcW_router 9 rfl) (dq dcW_router 10 rfl) rfl ?_
  refine f_aload_n C 2347 (dq dcW_router 11 rfl) rfl rfl rfl ?_
  refine f_callH hC 2350 (n := 4) rfl spH cwL_router msL_router (by decide +kernel) ⟨(Nat.le_of_ble_eq_true rfl), (Nat.le_of_ble_eq_true rfl)⟩ (dq dcW_router 12 rfl) rfl rfl rfl (Nat.le_of_ble_eq_true rfl) (by omega) (by omega) ?_
  refine f_istore (C.out _) 2352 (dq dcW_router 13 rfl) rfl (Nat.le_of_ble_eq_true rfl) rfl rfl ?_
  refine f_aload_n (C.out _) 2353 (dq dcW_router 14 rfl) rfl rfl rfl ?_
  refine f_sldk (hC.out _) 2359 1 rfl (by omega) (dq dcW_router 15 rfl) (dq dcW_router 16 rfl) (dq dcW_router 17 rfl) (dq dcW_router 18 rfl) (dq dcW_router 19 rfl) rfl ?_
  refine f_sldk (hC.out _) 2365 2 rfl (by omega) (dq dcW_router 20 rfl) (dq dcW_router 21 rfl) (dq dcW_router 22 rfl) (dq dcW_router 23 rfl) (dq dcW_router 24 rfl) rfl ?_
  refine f_callL (hC.out _) 2368 hm okX12_router cvL_264 ⟨(Nat.le_of_ble_eq_true rfl), (Nat.le_of_ble_eq_true rfl)⟩ (dq dcW_router 25 rfl) rfl (Nat.le_of_ble_eq_true rfl) rfl rfl rfl rfl rfl (Nat.le_of_ble_eq_true rfl) (by omega) (by omega) ?_
  refine f_istore (C.out _) 2370 (dq dcW_router 26 rfl) rfl (Nat.le_of_ble_eq_true rfl) rfl rfl ?_
  refine f_aload_n (C.out _) 2371 (dq dcW_router 27 rfl) rfl rfl rfl ?_
  have spT : x_Sp MX12_thrown 0 0 [.ref 281] (St σ2) (iv code9) (St σ2) := h47 ▸ sp_mThrown
  refine f_callL (hC.out _) 2374 spT okX12_thrown cvL_140 ⟨(Nat.le_of_ble_eq_true rfl), (Nat.le_of_ble_eq_true rfl)⟩ (dq dcW_router 28 rfl) rfl (Nat.le_of_ble_eq_true rfl) rfl rfl rfl rfl rfl (Nat.le_of_ble_eq_true rfl) (by omega) (by omega) ?_
  refine f_iload (C.out _) 2376 (dq dcW_router 29 rfl) rfl rfl ?_
  refine f_icmp_eq (C.out _) 2381 2379 (dq dcW_router 30 rfl) rfl rfl hxc hxc (fun _ => ?_) (fun q => absurd rfl q)
  refine f_iload (C.out _) 2383 (dq dcW_router 33 rfl) rfl rfl ?_
  refine f_if_ne (C.out _) 2398 2386 (dq dcW_router 34 rfl) rfl rfl hxc (fun h0 => ?_) (fun h0 => ?_)
  · skip
    refine f_goto (C.out _) 2507 (dq dcW_router 44 rfl) rfl ?_
    refine f_drop (lsL i) (fun k u hk => by match k, hk with | 0, hk => exact hk | 1, hk => exact hk | 2, hk => exact hk | 3, hk => exact hk | 4, hk => exact hk | 5, hk => cases hk | 6, hk => cases hk | 7, hk => cases hk | k + 8, hk => cases hk) ?_
    exact kk _ (hC.out _) _ hI2
  · have hv := (congrArg Int64.ofNat (congrFun (f0 h0) ((kG K).2 9))).trans (o9_of _)
    obtain rfl := hzy h0
    refine f_aload_n (C.out _) 2387 (dq dcW_router 35 rfl) rfl rfl rfl ?_
    refine f_iconst (C.out _) 2388 (dq dcW_router 36 rfl) rfl ?_
    refine f_laload9 (C.out _) 2389 (dq dcW_router 37 rfl) rfl (Nat.le_of_ble_eq_true rfl) rfl hv ?_
    refine f_iload (C.out _) 2391 (dq dcW_router 38 rfl) rfl rfl ?_
    refine f_i2lz (C.out _) 2392 (dq dcW_router 39 rfl) rfl ?_
    refine f_lcmpE (C.out _) 2393 (dq dcW_router 40 rfl) rfl ?_
    refine f_if_eq (C.out _) 2398 2396 (dq dcW_router 41 rfl) rfl rfl xr_0 (fun _ => ?_) (fun q => absurd rfl q)
    refine f_goto (C.out _) 2507 (dq dcW_router 44 rfl) rfl ?_
    refine f_drop (lsL i) (fun k u hk => by match k, hk with | 0, hk => exact hk | 1, hk => exact hk | 2, hk => exact hk | 3, hk => exact hk | 4, hk => exact hk | 5, hk => cases hk | 6, hk => cases hk | 7, hk => cases hk | k + 8, hk => cases hk) ?_
    exact kk _ (hC.out _) _ hI2
def kW_next : List (Nat × Instr × Nat) := [(2401, .aload_n 1, 1), (2402, .aload_n 0, 1), (2403, .iload 4, 2), (2405, .iconst 1, 1), (2406, .iadd, 1), (2407, .iaload, 1), (2408, .invokevirtual 265, 3), (2411, .aload_n 2, 1), (2412, .aload_n 0, 1), (2413, .iload 4, 2), (2415, .iconst 1, 1), (2416, .iadd, 1), (2417, .iaload, 1), (2418, .invokevirtual 268, 3), (2421, .if_icmp .eq 86, 3), (2424, .iconst 0, 1), (2425, .ireturn, 1)]
theorem dcW_next : kW_next.all (fun q => decide (decode code q.1 = .ok q.2)) = true := by decide +kernel
theorem lc_next {K : x_KT} {b L i kc ks : Nat} {xs : Nat → Int32} {σ : xSig} (hC : x_LC K b L xs) (hI : INV i σ) (hi : i < 512) (hj : 5 * i + 5 ≤ L) (hkc : kc + 1 ≤ 601024) (hks : ks + 6 ≤ 7293034) (kk : ∀ K' : x_KT, x_LC K' b L xs → ∀ σ2 : xSig, INV (i + 1) σ2 → x_F K' 8 [(0, .ref b)] 2507 (lsL i) [] (St σ2) (kc + 1) (ks + 6)) : x_F K 8 [(0, .ref b)] 2401 (lsL i) [] (St σ) kc ks := by
  obtain ⟨σ1, σ2, code9, z, y, hcode, hc0, hc1, hm, h47, hzy, hI2⟩ := st_next hI (Nat.le_of_lt hi) (xs_r (xs := xs) (5 * i + 1))
  have hcr : 0 ≤ code9 ∧ code9 ≤ 0 := hcode
  have C := hC.1
  obtain rfl : code9 = 0 := by omega
  have spH := hc0 rfl
  obtain rfl := hzy rfl
  refine f_aload_n C 2402 (dq dcW_next 0 rfl) rfl rfl rfl ?_
  refine f_sldk hC 2408 1 rfl (by omega) (dq dcW_next 1 rfl) (dq dcW_next 2 rfl) (dq dcW_next 3 rfl) (dq dcW_next 4 rfl) (dq dcW_next 5 rfl) rfl ?_
  refine f_callL hC 2411 spH okX11_next cvL_265 ⟨(Nat.le_of_ble_eq_true rfl), (Nat.le_of_ble_eq_true rfl)⟩ (dq dcW_next 6 rfl) rfl (Nat.le_of_ble_eq_true rfl) rfl rfl rfl rfl rfl (Nat.le_of_ble_eq_true rfl) (by omega) (by omega) ?_
  refine f_aload_n C 2412 (dq dcW_next 7 rfl) rfl rfl rfl ?_
  refine f_sldk hC 2418 1 rfl (by omega) (dq dcW_next 8 rfl) (dq dcW_next 9 rfl) (dq dcW_next 10 rfl) (dq dcW_next 11 rfl) (dq dcW_next 12 rfl) rfl ?_
  refine f_callL hC 2421 hm okX12_next cvL_268 ⟨(Nat.le_of_ble_eq_true rfl), (Nat.le_of_ble_eq_true rfl)⟩ (dq dcW_next 13 rfl) rfl (Nat.le_of_ble_eq_true rfl) rfl rfl rfl rfl rfl (Nat.le_of_ble_eq_true rfl) (by omega) (by omega) ?_
  rw [← zI_i]
  refine f_icmp_eq C 2507 2424 (dq dcW_next 14 rfl) rfl rfl (zI_r _) (zI_r _) (fun _ => ?_) (fun q => absurd rfl q)
  refine f_drop (lsL i) (fun k u hk => hk) ?_
  exact f_widen (by omega) (by omega) (kk _ hC _ hI2)
def kW_change : List (Nat × Instr × Nat) := [(2426, .aload_n 1, 1), (2427, .aload_n 0, 1), (2428, .iload 4, 2), (2430, .iconst 1, 1), (2431, .iadd, 1), (2432, .iaload, 1), (2433, .aload_n 0, 1), (2434, .iload 4, 2), (2436, .iconst 2, 1), (2437, .iadd, 1), (2438, .iaload, 1), (2439, .aload_n 3, 1), (2440, .invokestatic 269, 3), (2443, .istore 5, 2), (2445, .aload_n 2, 1), (2446, .aload_n 0, 1), (2447, .iload 4, 2), (2449, .iconst 1, 1), (2450, .iadd, 1), (2451, .iaload, 1), (2452, .aload_n 0, 1), (2453, .iload 4, 2), (2455, .iconst 2, 1), (2456, .iadd, 1), (2457, .iaload, 1), (2458, .invokevirtual 271, 3), (2461, .istore 6, 2), (2463, .aload_n 2, 1), (2464, .invokevirtual 140, 3), (2467, .iload 5, 2), (2469, .if_icmp .eq 5, 3), (2472, .iconst 0, 1), (2473, .ireturn, 1), (2474, .iload 5, 2), (2476, .ifCond .ne 15, 3), (2479, .aload_n 3, 1), (2480, .iconst 0, 1), (2481, .laload, 1), (2482, .iload 6, 2), (2484, .i2l, 1), (2485, .lcmp, 1), (2486, .ifCond .eq 5, 3), (2489, .iconst 0, 1), (2490, .ireturn, 1), (2491, .goto 16, 3)]
theorem dcW_change : kW_change.all (fun q => decide (decode code q.1 = .ok q.2)) = true := by decide +kernel
theorem lc_change {K : x_KT} {b L i kc ks : Nat} {xs : Nat → Int32} {σ : xSig} (hC : x_LC K b L xs) (hI : INV i σ) (hi : i < 512) (hj : 5 * i + 5 ≤ L) (hkc : kc + 1 ≤ 601024) (hks : ks + 6 ≤ 7293034) (kk : ∀ K' : x_KT, x_LC K' b L xs → ∀ σ2 : xSig, INV (i + 1) σ2 → x_F K' 8 [(0, .ref b)] 2507 (lsL i) [] (St σ2) (kc + 1) (ks + 6)) : x_F K 8 [(0, .ref b)] 2426 (lsL i) [] (St σ) kc ks := by
  obtain ⟨σ1, σ2, code9, z, y, hcode, hc0, hc1, hm, h47, hzy, hI2⟩ := st_change hI (Nat.le_of_lt hi) (xs_r (xs := xs) (5 * i + 1)) (xs_r (xs := xs) (5 * i + 2))
  have hcr : 0 ≤ code9 ∧ code9 ≤ 2 := hcode
  have C := hC.1
  have hxc : xr code9 := by unfold xr; omega
  obtain ⟨f, f0, f1⟩ := f9_of code9 (zI z)
  have spH := sw_change (f9 := f) hcr hc0 hc1 f0 f1
  refine f_aload_n C 2427 (dq dcW_change 0 rfl) rfl rfl rfl ?_
  refine f_sldk hC 2433 1 rfl (by omega) (dq dcW_change 1 rfl) (dq dcW_change 2 rfl) (dq dcW_change 3 rfl) (dq dcW_change 4 rfl) (dq dcW_change 5 rfl) rfl ?_
  refine f_sldk hC 2439 2 rfl (by omega) (dq dcW_change 6 rfl) (dq dcW_change 7 rfl) (dq dcW_change 8 rfl) (dq dcW_change 9 rfl) (dq dcW_change 10 rfl) rfl ?_
  refine f_aload_n C 2440 (dq dcW_change 11 rfl) rfl rfl rfl ?_
  refine f_callH hC 2443 (n := 4) rfl spH cwL_change msL_change (by decide +kernel) ⟨(Nat.le_of_ble_eq_true rfl), (Nat.le_of_ble_eq_true rfl)⟩ (dq dcW_change 12 rfl) rfl rfl rfl (Nat.le_of_ble_eq_true rfl) (by omega) (by omega) ?_
  refine f_istore (C.out _) 2445 (dq dcW_change 13 rfl) rfl (Nat.le_of_ble_eq_true rfl) rfl rfl ?_
  refine f_aload_n (C.out _) 2446 (dq dcW_change 14 rfl) rfl rfl rfl ?_
  refine f_sldk (hC.out _) 2452 1 rfl (by omega) (dq dcW_change 15 rfl) (dq dcW_change 16 rfl) (dq dcW_change 17 rfl) (dq dcW_change 18 rfl) (dq dcW_change 19 rfl) rfl ?_
  refine f_sldk (hC.out _) 2458 2 rfl (by omega) (dq dcW_change 20 rfl) (dq dcW_change 21 rfl) (dq dcW_change 22 rfl) (dq dcW_change 23 rfl) (dq dcW_change 24 rfl) rfl ?_
  refine f_callL (hC.out _) 2461 hm okX12_change cvL_271 ⟨(Nat.le_of_ble_eq_true rfl), (Nat.le_of_ble_eq_true rfl)⟩ (dq dcW_change 25 rfl) rfl (Nat.le_of_ble_eq_true rfl) rfl rfl rfl rfl rfl (Nat.le_of_ble_eq_true rfl) (by omega) (by omega) ?_
  refine f_istore (C.out _) 2463 (dq dcW_change 26 rfl) rfl (Nat.le_of_ble_eq_true rfl) rfl rfl ?_
  refine f_aload_n (C.out _) 2464 (dq dcW_change 27 rfl) rfl rfl rfl ?_
  have spT : x_Sp MX12_thrown 0 0 [.ref 281] (St σ2) (iv code9) (St σ2) := h47 ▸ sp_mThrown
  refine f_callL (hC.out _) 2467 spT okX12_thrown cvL_140 ⟨(Nat.le_of_ble_eq_true rfl), (Nat.le_of_ble_eq_true rfl)⟩ (dq dcW_change 28 rfl) rfl (Nat.le_of_ble_eq_true rfl) rfl rfl rfl rfl rfl (Nat.le_of_ble_eq_true rfl) (by omega) (by omega) ?_
  refine f_iload (C.out _) 2469 (dq dcW_change 29 rfl) rfl rfl ?_
  refine f_icmp_eq (C.out _) 2474 2472 (dq dcW_change 30 rfl) rfl rfl hxc hxc (fun _ => ?_) (fun q => absurd rfl q)
  refine f_iload (C.out _) 2476 (dq dcW_change 33 rfl) rfl rfl ?_
  refine f_if_ne (C.out _) 2491 2479 (dq dcW_change 34 rfl) rfl rfl hxc (fun h0 => ?_) (fun h0 => ?_)
  · skip
    refine f_goto (C.out _) 2507 (dq dcW_change 44 rfl) rfl ?_
    refine f_drop (lsL i) (fun k u hk => by match k, hk with | 0, hk => exact hk | 1, hk => exact hk | 2, hk => exact hk | 3, hk => exact hk | 4, hk => exact hk | 5, hk => cases hk | 6, hk => cases hk | 7, hk => cases hk | k + 8, hk => cases hk) ?_
    exact kk _ (hC.out _) _ hI2
  · have hv := (congrArg Int64.ofNat (congrFun (f0 h0) ((kG K).2 9))).trans (o9_of _)
    obtain rfl := hzy h0
    refine f_aload_n (C.out _) 2480 (dq dcW_change 35 rfl) rfl rfl rfl ?_
    refine f_iconst (C.out _) 2481 (dq dcW_change 36 rfl) rfl ?_
    refine f_laload9 (C.out _) 2482 (dq dcW_change 37 rfl) rfl (Nat.le_of_ble_eq_true rfl) rfl hv ?_
    refine f_iload (C.out _) 2484 (dq dcW_change 38 rfl) rfl rfl ?_
    refine f_i2lz (C.out _) 2485 (dq dcW_change 39 rfl) rfl ?_
    refine f_lcmpE (C.out _) 2486 (dq dcW_change 40 rfl) rfl ?_
    refine f_if_eq (C.out _) 2491 2489 (dq dcW_change 41 rfl) rfl rfl xr_0 (fun _ => ?_) (fun q => absurd rfl q)
    refine f_goto (C.out _) 2507 (dq dcW_change 44 rfl) rfl ?_
    refine f_drop (lsL i) (fun k u hk => by match k, hk with | 0, hk => exact hk | 1, hk => exact hk | 2, hk => exact hk | 3, hk => exact hk | 4, hk => exact hk | 5, hk => cases hk | 6, hk => cases hk | 7, hk => cases hk | k + 8, hk => cases hk) ?_
    exact kk _ (hC.out _) _ hI2
def kW_now : List (Nat × Instr × Nat) := [(2494, .aload_n 1, 1), (2495, .invokevirtual 272, 3), (2498, .aload_n 2, 1), (2499, .invokevirtual 275, 3), (2502, .if_icmp .eq 5, 3), (2505, .iconst 0, 1), (2506, .ireturn, 1)]
theorem dcW_now : kW_now.all (fun q => decide (decode code q.1 = .ok q.2)) = true := by decide +kernel
theorem lc_now {K : x_KT} {b L i kc ks : Nat} {xs : Nat → Int32} {σ : xSig} (hC : x_LC K b L xs) (hI : INV i σ) (hi : i < 512) (hj : 5 * i + 5 ≤ L) (hkc : kc + 1 ≤ 601024) (hks : ks + 6 ≤ 7293034) (kk : ∀ K' : x_KT, x_LC K' b L xs → ∀ σ2 : xSig, INV (i + 1) σ2 → x_F K' 8 [(0, .ref b)] 2507 (lsL i) [] (St σ2) (kc + 1) (ks + 6)) : x_F K 8 [(0, .ref b)] 2494 (lsL i) [] (St σ) kc ks := by
  obtain ⟨σ1, σ2, code9, z, y, hcode, hc0, hc1, hm, h47, hzy, hI2⟩ := st_now hI
  have hcr : 0 ≤ code9 ∧ code9 ≤ 0 := hcode
  have C := hC.1
  obtain rfl : code9 = 0 := by omega
  have spH := hc0 rfl
  obtain rfl := hzy rfl
  refine f_aload_n C 2495 (dq dcW_now 0 rfl) rfl rfl rfl ?_
  refine f_callL hC 2498 spH okX11_now cvL_272 ⟨(Nat.le_of_ble_eq_true rfl), (Nat.le_of_ble_eq_true rfl)⟩ (dq dcW_now 1 rfl) rfl (Nat.le_of_ble_eq_true rfl) rfl rfl rfl rfl rfl (Nat.le_of_ble_eq_true rfl) (by omega) (by omega) ?_
  refine f_aload_n C 2499 (dq dcW_now 2 rfl) rfl rfl rfl ?_
  refine f_callL hC 2502 hm okX12_now cvL_275 ⟨(Nat.le_of_ble_eq_true rfl), (Nat.le_of_ble_eq_true rfl)⟩ (dq dcW_now 3 rfl) rfl (Nat.le_of_ble_eq_true rfl) rfl rfl rfl rfl rfl (Nat.le_of_ble_eq_true rfl) (by omega) (by omega) ?_
  rw [← zI_i]
  refine f_icmp_eq C 2507 2505 (dq dcW_now 4 rfl) rfl rfl (zI_r _) (zI_r _) (fun _ => ?_) (fun q => absurd rfl q)
  refine f_drop (lsL i) (fun k u hk => hk) ?_
  exact f_widen (by omega) (by omega) (kk _ hC _ hI2)
