/-! ===== the law, case by case ===== -/
def kW_found : List (Nat × Instr × Nat) := [(1157, .aload_n 1, 1), (1158, .aload_n 0, 1), (1159, .iload 4, 2), (1161, .iconst 1, 1), (1162, .iadd, 1), (1163, .iaload, 1), (1164, .aload_n 3, 1), (1165, .invokestatic 197, 3), (1168, .istore 5, 2), (1170, .aload_n 2, 1), (1171, .aload_n 0, 1), (1172, .iload 4, 2), (1174, .iconst 1, 1), (1175, .iadd, 1), (1176, .iaload, 1), (1177, .invokevirtual 199, 3), (1180, .istore 6, 2), (1182, .aload_n 2, 1), (1183, .invokevirtual 140, 3), (1186, .iload 5, 2), (1188, .if_icmp .eq 5, 3), (1191, .iconst 0, 1), (1192, .ireturn, 1), (1193, .iload 5, 2), (1195, .ifCond .ne 15, 3), (1198, .aload_n 3, 1), (1199, .iconst 0, 1), (1200, .laload, 1), (1201, .iload 6, 2), (1203, .i2l, 1), (1204, .lcmp, 1), (1205, .ifCond .eq 5, 3), (1208, .iconst 0, 1), (1209, .ireturn, 1), (1210, .goto 1297, 3)]
theorem dcW_found : kW_found.all (fun q => decide (decode code q.1 = .ok q.2)) = true := by decide +kernel
theorem lc_found {K : x_KT} {b L i kc ks : Nat} {xs : Nat → Int32} {σ : xSig} (hC : x_LC K b L xs) (hI : INV i σ) (hi : i < 512) (hj : 5 * i + 5 ≤ L) (hkc : kc + 1 ≤ 601024) (hks : ks + 6 ≤ 7293034) (kk : ∀ K' : x_KT, x_LC K' b L xs → ∀ σ2 : xSig, INV (i + 1) σ2 → x_F K' 8 [(0, .ref b)] 2507 (lsL i) [] (St σ2) (kc + 1) (ks + 6)) : x_F K 8 [(0, .ref b)] 1157 (lsL i) [] (St σ) kc ks := by
  obtain ⟨σ1, σ2, code9, z, y, hcode, hc0, hc1, hm, h47, hzy, hI2⟩ := st_found hI (xs_r (xs := xs) (5 * i + 1))
  have hcr : 0 ≤ code9 ∧ code9 ≤ 1 := hcode
  have C := hC.1
  have hxc : xr code9 := by unfold xr; omega
  obtain ⟨f, f0, f1⟩ := f9_of code9 (zI z)
  have spH := sw_found (f9 := f) hcr hc0 hc1 f0 f1
  refine f_aload_n C 1158 (dq dcW_found 0 rfl) rfl rfl rfl ?_
  refine f_sldk hC 1164 1 rfl (by omega) (dq dcW_found 1 rfl) (dq dcW_found 2 rfl) (dq dcW_found 3 rfl) (dq dcW_found 4 rfl) (dq dcW_found 5 rfl) rfl ?_
  refine f_aload_n C 1165 (dq dcW_found 6 rfl) rfl rfl rfl ?_
  refine f_callH hC 1168 (n := 3) rfl spH cwL_found msL_found (by decide +kernel) ⟨(Nat.le_of_ble_eq_true rfl), (Nat.le_of_ble_eq_true rfl)⟩ (dq dcW_found 7 rfl) rfl rfl rfl (Nat.le_of_ble_eq_true rfl) (by omega) (by omega) ?_
  refine f_istore (C.out _) 1170 (dq dcW_found 8 rfl) rfl (Nat.le_of_ble_eq_true rfl) rfl rfl ?_
  refine f_aload_n (C.out _) 1171 (dq dcW_found 9 rfl) rfl rfl rfl ?_
  refine f_sldk (hC.out _) 1177 1 rfl (by omega) (dq dcW_found 10 rfl) (dq dcW_found 11 rfl) (dq dcW_found 12 rfl) (dq dcW_found 13 rfl) (dq dcW_found 14 rfl) rfl ?_
  refine f_callL (hC.out _) 1180 hm okX12_found cvL_199 ⟨(Nat.le_of_ble_eq_true rfl), (Nat.le_of_ble_eq_true rfl)⟩ (dq dcW_found 15 rfl) rfl (Nat.le_of_ble_eq_true rfl) rfl rfl rfl rfl rfl (Nat.le_of_ble_eq_true rfl) (by omega) (by omega) ?_
  refine f_istore (C.out _) 1182 (dq dcW_found 16 rfl) rfl (Nat.le_of_ble_eq_true rfl) rfl rfl ?_
  refine f_aload_n (C.out _) 1183 (dq dcW_found 17 rfl) rfl rfl rfl ?_
  have spT : x_Sp MX12_thrown 0 0 [.ref 281] (St σ2) (iv code9) (St σ2) := h47 ▸ sp_mThrown
  refine f_callL (hC.out _) 1186 spT okX12_thrown cvL_140 ⟨(Nat.le_of_ble_eq_true rfl), (Nat.le_of_ble_eq_true rfl)⟩ (dq dcW_found 18 rfl) rfl (Nat.le_of_ble_eq_true rfl) rfl rfl rfl rfl rfl (Nat.le_of_ble_eq_true rfl) (by omega) (by omega) ?_
  refine f_iload (C.out _) 1188 (dq dcW_found 19 rfl) rfl rfl ?_
  refine f_icmp_eq (C.out _) 1193 1191 (dq dcW_found 20 rfl) rfl rfl hxc hxc (fun _ => ?_) (fun q => absurd rfl q)
  refine f_iload (C.out _) 1195 (dq dcW_found 23 rfl) rfl rfl ?_
  refine f_if_ne (C.out _) 1210 1198 (dq dcW_found 24 rfl) rfl rfl hxc (fun h0 => ?_) (fun h0 => ?_)
  · skip
    refine f_goto (C.out _) 2507 (dq dcW_found 34 rfl) rfl ?_
    refine f_drop (lsL i) (fun k u hk => by match k, hk with | 0, hk => exact hk | 1, hk => exact hk | 2, hk => exact hk | 3, hk => exact hk | 4, hk => exact hk | 5, hk => cases hk | 6, hk => cases hk | 7, hk => cases hk | k + 8, hk => cases hk) ?_
    exact kk _ (hC.out _) _ hI2
  · have hv := (congrArg Int64.ofNat (congrFun (f0 h0) ((kG K).2 9))).trans (o9_of _)
    obtain rfl := hzy h0
    refine f_aload_n (C.out _) 1199 (dq dcW_found 25 rfl) rfl rfl rfl ?_
    refine f_iconst (C.out _) 1200 (dq dcW_found 26 rfl) rfl ?_
    refine f_laload9 (C.out _) 1201 (dq dcW_found 27 rfl) rfl (Nat.le_of_ble_eq_true rfl) rfl hv ?_
    refine f_iload (C.out _) 1203 (dq dcW_found 28 rfl) rfl rfl ?_
    refine f_i2lz (C.out _) 1204 (dq dcW_found 29 rfl) rfl ?_
    refine f_lcmpE (C.out _) 1205 (dq dcW_found 30 rfl) rfl ?_
    refine f_if_eq (C.out _) 1210 1208 (dq dcW_found 31 rfl) rfl rfl xr_0 (fun _ => ?_) (fun q => absurd rfl q)
    refine f_goto (C.out _) 2507 (dq dcW_found 34 rfl) rfl ?_
    refine f_drop (lsL i) (fun k u hk => by match k, hk with | 0, hk => exact hk | 1, hk => exact hk | 2, hk => exact hk | 3, hk => exact hk | 4, hk => exact hk | 5, hk => cases hk | 6, hk => cases hk | 7, hk => cases hk | k + 8, hk => cases hk) ?_
    exact kk _ (hC.out _) _ hI2
def kW_findAnew : List (Nat × Instr × Nat) := [(1213, .aload_n 1, 1), (1214, .invokevirtual 200, 3), (1217, .aload_n 2, 1), (1218, .invokevirtual 203, 3), (1221, .if_icmp .eq 1286, 3), (1224, .iconst 0, 1), (1225, .ireturn, 1)]
theorem dcW_findAnew : kW_findAnew.all (fun q => decide (decode code q.1 = .ok q.2)) = true := by decide +kernel
theorem lc_findAnew {K : x_KT} {b L i kc ks : Nat} {xs : Nat → Int32} {σ : xSig} (hC : x_LC K b L xs) (hI : INV i σ) (hi : i < 512) (hj : 5 * i + 5 ≤ L) (hkc : kc + 1 ≤ 601024) (hks : ks + 6 ≤ 7293034) (kk : ∀ K' : x_KT, x_LC K' b L xs → ∀ σ2 : xSig, INV (i + 1) σ2 → x_F K' 8 [(0, .ref b)] 2507 (lsL i) [] (St σ2) (kc + 1) (ks + 6)) : x_F K 8 [(0, .ref b)] 1213 (lsL i) [] (St σ) kc ks := by
  obtain ⟨σ1, σ2, code9, z, y, hcode, hc0, hc1, hm, h47, hzy, hI2⟩ := st_findAnew hI
  have hcr : 0 ≤ code9 ∧ code9 ≤ 0 := hcode
  have C := hC.1
  obtain rfl : code9 = 0 := by omega
  have spH := hc0 rfl
  obtain rfl := hzy rfl
  refine f_aload_n C 1214 (dq dcW_findAnew 0 rfl) rfl rfl rfl ?_
  refine f_callL hC 1217 spH okX11_findAnew cvL_200 ⟨(Nat.le_of_ble_eq_true rfl), (Nat.le_of_ble_eq_true rfl)⟩ (dq dcW_findAnew 1 rfl) rfl (Nat.le_of_ble_eq_true rfl) rfl rfl rfl rfl rfl (Nat.le_of_ble_eq_true rfl) (by omega) (by omega) ?_
  refine f_aload_n C 1218 (dq dcW_findAnew 2 rfl) rfl rfl rfl ?_
  refine f_callL hC 1221 hm okX12_findAnew cvL_203 ⟨(Nat.le_of_ble_eq_true rfl), (Nat.le_of_ble_eq_true rfl)⟩ (dq dcW_findAnew 3 rfl) rfl (Nat.le_of_ble_eq_true rfl) rfl rfl rfl rfl rfl (Nat.le_of_ble_eq_true rfl) (by omega) (by omega) ?_
  rw [← zI_i]
  refine f_icmp_eq C 2507 1224 (dq dcW_findAnew 4 rfl) rfl rfl (zI_r _) (zI_r _) (fun _ => ?_) (fun q => absurd rfl q)
  refine f_drop (lsL i) (fun k u hk => hk) ?_
  exact f_widen (by omega) (by omega) (kk _ hC _ hI2)
def kW_plan : List (Nat × Instr × Nat) := [(1226, .aload_n 1, 1), (1227, .aload_n 0, 1), (1228, .iload 4, 2), (1230, .iconst 1, 1), (1231, .iadd, 1), (1232, .iaload, 1), (1233, .aload_n 3, 1), (1234, .invokestatic 204, 3), (1237, .istore 5, 2), (1239, .aload_n 2, 1), (1240, .aload_n 0, 1), (1241, .iload 4, 2), (1243, .iconst 1, 1), (1244, .iadd, 1), (1245, .iaload, 1), (1246, .invokevirtual 206, 3), (1249, .istore 6, 2), (1251, .aload_n 2, 1), (1252, .invokevirtual 140, 3), (1255, .iload 5, 2), (1257, .if_icmp .eq 5, 3), (1260, .iconst 0, 1), (1261, .ireturn, 1), (1262, .iload 5, 2), (1264, .ifCond .ne 15, 3), (1267, .aload_n 3, 1), (1268, .iconst 0, 1), (1269, .laload, 1), (1270, .iload 6, 2), (1272, .i2l, 1), (1273, .lcmp, 1), (1274, .ifCond .eq 5, 3), (1277, .iconst 0, 1), (1278, .ireturn, 1), (1279, .goto 1228, 3)]
theorem dcW_plan : kW_plan.all (fun q => decide (decode code q.1 = .ok q.2)) = true := by decide +kernel
theorem lc_plan {K : x_KT} {b L i kc ks : Nat} {xs : Nat → Int32} {σ : xSig} (hC : x_LC K b L xs) (hI : INV i σ) (hi : i < 512) (hj : 5 * i + 5 ≤ L) (hkc : kc + 1 ≤ 601024) (hks : ks + 6 ≤ 7293034) (kk : ∀ K' : x_KT, x_LC K' b L xs → ∀ σ2 : xSig, INV (i + 1) σ2 → x_F K' 8 [(0, .ref b)] 2507 (lsL i) [] (St σ2) (kc + 1) (ks + 6)) : x_F K 8 [(0, .ref b)] 1226 (lsL i) [] (St σ) kc ks := by
  obtain ⟨σ1, σ2, code9, z, y, hcode, hc0, hc1, hm, h47, hzy, hI2⟩ := st_plan hI (xs_r (xs := xs) (5 * i + 1))
  have hcr : 0 ≤ code9 ∧ code9 ≤ 1 := hcode
  have C := hC.1
  have hxc : xr code9 := by unfold xr; omega
  obtain ⟨f, f0, f1⟩ := f9_of code9 (zI z)
  have spH := sw_plan (f9 := f) hcr hc0 hc1 f0 f1
  refine f_aload_n C 1227 (dq dcW_plan 0 rfl) rfl rfl rfl ?_
  refine f_sldk hC 1233 1 rfl (by omega) (dq dcW_plan 1 rfl) (dq dcW_plan 2 rfl) (dq dcW_plan 3 rfl) (dq dcW_plan 4 rfl) (dq dcW_plan 5 rfl) rfl ?_
  refine f_aload_n C 1234 (dq dcW_plan 6 rfl) rfl rfl rfl ?_
  refine f_callH hC 1237 (n := 3) rfl spH cwL_plan msL_plan (by decide +kernel) ⟨(Nat.le_of_ble_eq_true rfl), (Nat.le_of_ble_eq_true rfl)⟩ (dq dcW_plan 7 rfl) rfl rfl rfl (Nat.le_of_ble_eq_true rfl) (by omega) (by omega) ?_
  refine f_istore (C.out _) 1239 (dq dcW_plan 8 rfl) rfl (Nat.le_of_ble_eq_true rfl) rfl rfl ?_
  refine f_aload_n (C.out _) 1240 (dq dcW_plan 9 rfl) rfl rfl rfl ?_
  refine f_sldk (hC.out _) 1246 1 rfl (by omega) (dq dcW_plan 10 rfl) (dq dcW_plan 11 rfl) (dq dcW_plan 12 rfl) (dq dcW_plan 13 rfl) (dq dcW_plan 14 rfl) rfl ?_
  refine f_callL (hC.out _) 1249 hm okX12_plan cvL_206 ⟨(Nat.le_of_ble_eq_true rfl), (Nat.le_of_ble_eq_true rfl)⟩ (dq dcW_plan 15 rfl) rfl (Nat.le_of_ble_eq_true rfl) rfl rfl rfl rfl rfl (Nat.le_of_ble_eq_true rfl) (by omega) (by omega) ?_
  refine f_istore (C.out _) 1251 (dq dcW_plan 16 rfl) rfl (Nat.le_of_ble_eq_true rfl) rfl rfl ?_
  refine f_aload_n (C.out _) 1252 (dq dcW_plan 17 rfl) rfl rfl rfl ?_
  have spT : x_Sp MX12_thrown 0 0 [.ref 281] (St σ2) (iv code9) (St σ2) := h47 ▸ sp_mThrown
  refine f_callL (hC.out _) 1255 spT okX12_thrown cvL_140 ⟨(Nat.le_of_ble_eq_true rfl), (Nat.le_of_ble_eq_true rfl)⟩ (dq dcW_plan 18 rfl) rfl (Nat.le_of_ble_eq_true rfl) rfl rfl rfl rfl rfl (Nat.le_of_ble_eq_true rfl) (by omega) (by omega) ?_
  refine f_iload (C.out _) 1257 (dq dcW_plan 19 rfl) rfl rfl ?_
  refine f_icmp_eq (C.out _) 1262 1260 (dq dcW_plan 20 rfl) rfl rfl hxc hxc (fun _ => ?_) (fun q => absurd rfl q)
  refine f_iload (C.out _) 1264 (dq dcW_plan 23 rfl) rfl rfl ?_
  refine f_if_ne (C.out _) 1279 1267 (dq dcW_plan 24 rfl) rfl rfl hxc (fun h0 => ?_) (fun h0 => ?_)
  · skip
    refine f_goto (C.out _) 2507 (dq dcW_plan 34 rfl) rfl ?_
    refine f_drop (lsL i) (fun k u hk => by match k, hk with | 0, hk => exact hk | 1, hk => exact hk | 2, hk => exact hk | 3, hk => exact hk | 4, hk => exact hk | 5, hk => cases hk | 6, hk => cases hk | 7, hk => cases hk | k + 8, hk => cases hk) ?_
    exact kk _ (hC.out _) _ hI2
  · have hv := (congrArg Int64.ofNat (congrFun (f0 h0) ((kG K).2 9))).trans (o9_of _)
    obtain rfl := hzy h0
    refine f_aload_n (C.out _) 1268 (dq dcW_plan 25 rfl) rfl rfl rfl ?_
    refine f_iconst (C.out _) 1269 (dq dcW_plan 26 rfl) rfl ?_
    refine f_laload9 (C.out _) 1270 (dq dcW_plan 27 rfl) rfl (Nat.le_of_ble_eq_true rfl) rfl hv ?_
    refine f_iload (C.out _) 1272 (dq dcW_plan 28 rfl) rfl rfl ?_
    refine f_i2lz (C.out _) 1273 (dq dcW_plan 29 rfl) rfl ?_
    refine f_lcmpE (C.out _) 1274 (dq dcW_plan 30 rfl) rfl ?_
    refine f_if_eq (C.out _) 1279 1277 (dq dcW_plan 31 rfl) rfl rfl xr_0 (fun _ => ?_) (fun q => absurd rfl q)
    refine f_goto (C.out _) 2507 (dq dcW_plan 34 rfl) rfl ?_
    refine f_drop (lsL i) (fun k u hk => by match k, hk with | 0, hk => exact hk | 1, hk => exact hk | 2, hk => exact hk | 3, hk => exact hk | 4, hk => exact hk | 5, hk => cases hk | 6, hk => cases hk | 7, hk => cases hk | k + 8, hk => cases hk) ?_
    exact kk _ (hC.out _) _ hI2
def kW_group : List (Nat × Instr × Nat) := [(1282, .aload_n 1, 1), (1283, .aload_n 0, 1), (1284, .iload 4, 2), (1286, .iconst 1, 1), (1287, .iadd, 1), (1288, .iaload, 1), (1289, .aload_n 0, 1), (1290, .iload 4, 2), (1292, .iconst 2, 1), (1293, .iadd, 1), (1294, .iaload, 1), (1295, .aload_n 3, 1), (1296, .invokestatic 207, 3), (1299, .istore 5, 2), (1301, .aload_n 2, 1), (1302, .aload_n 0, 1), (1303, .iload 4, 2), (1305, .iconst 1, 1), (1306, .iadd, 1), (1307, .iaload, 1), (1308, .aload_n 0, 1), (1309, .iload 4, 2), (1311, .iconst 2, 1), (1312, .iadd, 1), (1313, .iaload, 1), (1314, .invokevirtual 209, 3), (1317, .istore 6, 2), (1319, .aload_n 2, 1), (1320, .invokevirtual 140, 3), (1323, .iload 5, 2), (1325, .if_icmp .eq 5, 3), (1328, .iconst 0, 1), (1329, .ireturn, 1), (1330, .iload 5, 2), (1332, .ifCond .ne 15, 3), (1335, .aload_n 3, 1), (1336, .iconst 0, 1), (1337, .laload, 1), (1338, .iload 6, 2), (1340, .i2l, 1), (1341, .lcmp, 1), (1342, .ifCond .eq 5, 3), (1345, .iconst 0, 1), (1346, .ireturn, 1), (1347, .goto 1160, 3)]
theorem dcW_group : kW_group.all (fun q => decide (decode code q.1 = .ok q.2)) = true := by decide +kernel
theorem lc_group {K : x_KT} {b L i kc ks : Nat} {xs : Nat → Int32} {σ : xSig} (hC : x_LC K b L xs) (hI : INV i σ) (hi : i < 512) (hj : 5 * i + 5 ≤ L) (hkc : kc + 1 ≤ 601024) (hks : ks + 6 ≤ 7293034) (kk : ∀ K' : x_KT, x_LC K' b L xs → ∀ σ2 : xSig, INV (i + 1) σ2 → x_F K' 8 [(0, .ref b)] 2507 (lsL i) [] (St σ2) (kc + 1) (ks + 6)) : x_F K 8 [(0, .ref b)] 1282 (lsL i) [] (St σ) kc ks := by
  obtain ⟨σ1, σ2, code9, z, y, hcode, hc0, hc1, hm, h47, hzy, hI2⟩ := st_group hI (xs_r (xs := xs) (5 * i + 1)) (xs_r (xs := xs) (5 * i + 2))
  have hcr : 0 ≤ code9 ∧ code9 ≤ 1 := hcode
  have C := hC.1
  have hxc : xr code9 := by unfold xr; omega
  obtain ⟨f, f0, f1⟩ := f9_of code9 (zI z)
  have spH := sw_group (f9 := f) hcr hc0 hc1 f0 f1
  refine f_aload_n C 1283 (dq dcW_group 0 rfl) rfl rfl rfl ?_
  refine f_sldk hC 1289 1 rfl (by omega) (dq dcW_group 1 rfl) (dq dcW_group 2 rfl) (dq dcW_group 3 rfl) (dq dcW_group 4 rfl) (dq dcW_group 5 rfl) rfl ?_
  refine f_sldk hC 1295 2 rfl (by omega) (dq dcW_group 6 rfl) (dq dcW_group 7 rfl) (dq dcW_group 8 rfl) (dq dcW_group 9 rfl) (dq dcW_group 10 rfl) rfl ?_
  refine f_aload_n C 1296 (dq dcW_group 11 rfl) rfl rfl rfl ?_
  refine f_callH hC 1299 (n := 4) rfl spH cwL_group msL_group (by decide +kernel) ⟨(Nat.le_of_ble_eq_true rfl), (Nat.le_of_ble_eq_true rfl)⟩ (dq dcW_group 12 rfl) rfl rfl rfl (Nat.le_of_ble_eq_true rfl) (by omega) (by omega) ?_
  refine f_istore (C.out _) 1301 (dq dcW_group 13 rfl) rfl (Nat.le_of_ble_eq_true rfl) rfl rfl ?_
  refine f_aload_n (C.out _) 1302 (dq dcW_group 14 rfl) rfl rfl rfl ?_
  refine f_sldk (hC.out _) 1308 1 rfl (by omega) (dq dcW_group 15 rfl) (dq dcW_group 16 rfl) (dq dcW_group 17 rfl) (dq dcW_group 18 rfl) (dq dcW_group 19 rfl) rfl ?_
  refine f_sldk (hC.out _) 1314 2 rfl (by omega) (dq dcW_group 20 rfl) (dq dcW_group 21 rfl) (dq dcW_group 22 rfl) (dq dcW_group 23 rfl) (dq dcW_group 24 rfl) rfl ?_
  refine f_callL (hC.out _) 1317 hm okX12_group cvL_209 ⟨(Nat.le_of_ble_eq_true rfl), (Nat.le_of_ble_eq_true rfl)⟩ (dq dcW_group 25 rfl) rfl (Nat.le_of_ble_eq_true rfl) rfl rfl rfl rfl rfl (Nat.le_of_ble_eq_true rfl) (by omega) (by omega) ?_
  refine f_istore (C.out _) 1319 (dq dcW_group 26 rfl) rfl (Nat.le_of_ble_eq_true rfl) rfl rfl ?_
  refine f_aload_n (C.out _) 1320 (dq dcW_group 27 rfl) rfl rfl rfl ?_
  have spT : x_Sp MX12_thrown 0 0 [.ref 281] (St σ2) (iv code9) (St σ2) := h47 ▸ sp_mThrown
  refine f_callL (hC.out _) 1323 spT okX12_thrown cvL_140 ⟨(Nat.le_of_ble_eq_true rfl), (Nat.le_of_ble_eq_true rfl)⟩ (dq dcW_group 28 rfl) rfl (Nat.le_of_ble_eq_true rfl) rfl rfl rfl rfl rfl (Nat.le_of_ble_eq_true rfl) (by omega) (by omega) ?_
  refine f_iload (C.out _) 1325 (dq dcW_group 29 rfl) rfl rfl ?_
  refine f_icmp_eq (C.out _) 1330 1328 (dq dcW_group 30 rfl) rfl rfl hxc hxc (fun _ => ?_) (fun q => absurd rfl q)
  refine f_iload (C.out _) 1332 (dq dcW_group 33 rfl) rfl rfl ?_
  refine f_if_ne (C.out _) 1347 1335 (dq dcW_group 34 rfl) rfl rfl hxc (fun h0 => ?_) (fun h0 => ?_)
  · skip
    refine f_goto (C.out _) 2507 (dq dcW_group 44 rfl) rfl ?_
    refine f_drop (lsL i) (fun k u hk => by match k, hk with | 0, hk => exact hk | 1, hk => exact hk | 2, hk => exact hk | 3, hk => exact hk | 4, hk => exact hk | 5, hk => cases hk | 6, hk => cases hk | 7, hk => cases hk | k + 8, hk => cases hk) ?_
    exact kk _ (hC.out _) _ hI2
  · have hv := (congrArg Int64.ofNat (congrFun (f0 h0) ((kG K).2 9))).trans (o9_of _)
    obtain rfl := hzy h0
    refine f_aload_n (C.out _) 1336 (dq dcW_group 35 rfl) rfl rfl rfl ?_
    refine f_iconst (C.out _) 1337 (dq dcW_group 36 rfl) rfl ?_
    refine f_laload9 (C.out _) 1338 (dq dcW_group 37 rfl) rfl (Nat.le_of_ble_eq_true rfl) rfl hv ?_
    refine f_iload (C.out _) 1340 (dq dcW_group 38 rfl) rfl rfl ?_
    refine f_i2lz (C.out _) 1341 (dq dcW_group 39 rfl) rfl ?_
    refine f_lcmpE (C.out _) 1342 (dq dcW_group 40 rfl) rfl ?_
    refine f_if_eq (C.out _) 1347 1345 (dq dcW_group 41 rfl) rfl rfl xr_0 (fun _ => ?_) (fun q => absurd rfl q)
    refine f_goto (C.out _) 2507 (dq dcW_group 44 rfl) rfl ?_
    refine f_drop (lsL i) (fun k u hk => by match k, hk with | 0, hk => exact hk | 1, hk => exact hk | 2, hk => exact hk | 3, hk => exact hk | 4, hk => exact hk | 5, hk => cases hk | 6, hk => cases hk | 7, hk => cases hk | k + 8, hk => cases hk) ?_
    exact kk _ (hC.out _) _ hI2
def kW_grouped : List (Nat × Instr × Nat) := [(1350, .aload_n 1, 1), (1351, .aload_n 0, 1), (1352, .iload 4, 2), (1354, .iconst 1, 1), (1355, .iadd, 1), (1356, .iaload, 1), (1357, .aload_n 0, 1), (1358, .iload 4, 2), (1360, .iconst 2, 1), (1361, .iadd, 1), (1362, .iaload, 1), (1363, .aload_n 3, 1), (1364, .invokestatic 210, 3), (1367, .istore 5, 2), (1369, .aload_n 2, 1), (1370, .aload_n 0, 1), (1371, .iload 4, 2), (1373, .iconst 1, 1), (1374, .iadd, 1), (1375, .iaload, 1), (1376, .aload_n 0, 1), (1377, .iload 4, 2), (1379, .iconst 2, 1), (1380, .iadd, 1), (1381, .iaload, 1), (1382, .invokevirtual 212, 3), (1385, .lstore 6, 2), (1387, .aload_n 2, 1), (1388, .invokevirtual 140, 3), (1391, .iload 5, 2), (1393, .if_icmp .eq 5, 3), (1396, .iconst 0, 1), (1397, .ireturn, 1), (1398, .iload 5, 2), (1400, .ifCond .ne 14, 3), (1403, .aload_n 3, 1), (1404, .iconst 0, 1), (1405, .laload, 1), (1406, .lload 6, 2), (1408, .lcmp, 1), (1409, .ifCond .eq 5, 3), (1412, .iconst 0, 1), (1413, .ireturn, 1), (1414, .goto 1093, 3)]
theorem dcW_grouped : kW_grouped.all (fun q => decide (decode code q.1 = .ok q.2)) = true := by decide +kernel
theorem lc_grouped {K : x_KT} {b L i kc ks : Nat} {xs : Nat → Int32} {σ : xSig} (hC : x_LC K b L xs) (hI : INV i σ) (hi : i < 512) (hj : 5 * i + 5 ≤ L) (hkc : kc + 1 ≤ 601024) (hks : ks + 6 ≤ 7293034) (kk : ∀ K' : x_KT, x_LC K' b L xs → ∀ σ2 : xSig, INV (i + 1) σ2 → x_F K' 8 [(0, .ref b)] 2507 (lsL i) [] (St σ2) (kc + 1) (ks + 6)) : x_F K 8 [(0, .ref b)] 1350 (lsL i) [] (St σ) kc ks := by
  obtain ⟨σ1, σ2, code9, z, y, hcode, hc0, hc1, hm, h47, hzy, hI2⟩ := st_grouped hI (xs_r (xs := xs) (5 * i + 1)) (xs_r (xs := xs) (5 * i + 2))
  have hcr : 0 ≤ code9 ∧ code9 ≤ 2 := hcode
  have C := hC.1
  have hxc : xr code9 := by unfold xr; omega
  obtain ⟨f, f0, f1⟩ := f9_of code9 z
  have spH := sw_grouped (f9 := f) hcr hc0 hc1 f0 f1
  refine f_aload_n C 1351 (dq dcW_grouped 0 rfl) rfl rfl rfl ?_
  refine f_sldk hC 1357 1 rfl (by omega) (dq dcW_grouped 1 rfl) (dq dcW_grouped 2 rfl) (dq dcW_grouped 3 rfl) (dq dcW_grouped 4 rfl) (dq dcW_grouped 5 rfl) rfl ?_
  refine f_sldk hC 1363 2 rfl (by omega) (dq dcW_grouped 6 rfl) (dq dcW_grouped 7 rfl) (dq dcW_grouped 8 rfl) (dq dcW_grouped 9 rfl) (dq dcW_grouped 10 rfl) rfl ?_
  refine f_aload_n C 1364 (dq dcW_grouped 11 rfl) rfl rfl rfl ?_
  refine f_callH hC 1367 (n := 4) rfl spH cwL_grouped msL_grouped (by decide +kernel) ⟨(Nat.le_of_ble_eq_true rfl), (Nat.le_of_ble_eq_true rfl)⟩ (dq dcW_grouped 12 rfl) rfl rfl rfl (Nat.le_of_ble_eq_true rfl) (by omega) (by omega) ?_
  refine f_istore (C.out _) 1369 (dq dcW_grouped 13 rfl) rfl (Nat.le_of_ble_eq_true rfl) rfl rfl ?_
  refine f_aload_n (C.out _) 1370 (dq dcW_grouped 14 rfl) rfl rfl rfl ?_
  refine f_sldk (hC.out _) 1376 1 rfl (by omega) (dq dcW_grouped 15 rfl) (dq dcW_grouped 16 rfl) (dq dcW_grouped 17 rfl) (dq dcW_grouped 18 rfl) (dq dcW_grouped 19 rfl) rfl ?_
  refine f_sldk (hC.out _) 1382 2 rfl (by omega) (dq dcW_grouped 20 rfl) (dq dcW_grouped 21 rfl) (dq dcW_grouped 22 rfl) (dq dcW_grouped 23 rfl) (dq dcW_grouped 24 rfl) rfl ?_
  refine f_callL (hC.out _) 1385 hm okX12_grouped cvL_212 ⟨(Nat.le_of_ble_eq_true rfl), (Nat.le_of_ble_eq_true rfl)⟩ (dq dcW_grouped 25 rfl) rfl (Nat.le_of_ble_eq_true rfl) rfl rfl rfl rfl rfl (Nat.le_of_ble_eq_true rfl) (by omega) (by omega) ?_
  refine f_lstore (C.out _) 1387 (dq dcW_grouped 26 rfl) rfl (Nat.le_of_ble_eq_true rfl) rfl rfl ?_
  refine f_aload_n (C.out _) 1388 (dq dcW_grouped 27 rfl) rfl rfl rfl ?_
  have spT : x_Sp MX12_thrown 0 0 [.ref 281] (St σ2) (iv code9) (St σ2) := h47 ▸ sp_mThrown
  refine f_callL (hC.out _) 1391 spT okX12_thrown cvL_140 ⟨(Nat.le_of_ble_eq_true rfl), (Nat.le_of_ble_eq_true rfl)⟩ (dq dcW_grouped 28 rfl) rfl (Nat.le_of_ble_eq_true rfl) rfl rfl rfl rfl rfl (Nat.le_of_ble_eq_true rfl) (by omega) (by omega) ?_
  refine f_iload (C.out _) 1393 (dq dcW_grouped 29 rfl) rfl rfl ?_
  refine f_icmp_eq (C.out _) 1398 1396 (dq dcW_grouped 30 rfl) rfl rfl hxc hxc (fun _ => ?_) (fun q => absurd rfl q)
  refine f_iload (C.out _) 1400 (dq dcW_grouped 33 rfl) rfl rfl ?_
  refine f_if_ne (C.out _) 1414 1403 (dq dcW_grouped 34 rfl) rfl rfl hxc (fun h0 => ?_) (fun h0 => ?_)
  · skip
    refine f_goto (C.out _) 2507 (dq dcW_grouped 43 rfl) rfl ?_
    refine f_drop (lsL i) (fun k u hk => by match k, hk with | 0, hk => exact hk | 1, hk => exact hk | 2, hk => exact hk | 3, hk => exact hk | 4, hk => exact hk | 5, hk => cases hk | 6, hk => cases hk | 7, hk => cases hk | k + 8, hk => cases hk) ?_
    exact kk _ (hC.out _) _ hI2
  · have hv := (congrArg Int64.ofNat (congrFun (f0 h0) ((kG K).2 9))).trans (o9_of _)
    obtain rfl := hzy h0
    refine f_aload_n (C.out _) 1404 (dq dcW_grouped 35 rfl) rfl rfl rfl ?_
    refine f_iconst (C.out _) 1405 (dq dcW_grouped 36 rfl) rfl ?_
    refine f_laload9 (C.out _) 1406 (dq dcW_grouped 37 rfl) rfl (Nat.le_of_ble_eq_true rfl) rfl hv ?_
    refine f_lload (C.out _) 1408 (dq dcW_grouped 38 rfl) rfl rfl ?_
    refine f_lcmpE (C.out _) 1409 (dq dcW_grouped 39 rfl) rfl ?_
    refine f_if_eq (C.out _) 1414 1412 (dq dcW_grouped 40 rfl) rfl rfl xr_0 (fun _ => ?_) (fun q => absurd rfl q)
    refine f_goto (C.out _) 2507 (dq dcW_grouped 43 rfl) rfl ?_
    refine f_drop (lsL i) (fun k u hk => by match k, hk with | 0, hk => exact hk | 1, hk => exact hk | 2, hk => exact hk | 3, hk => exact hk | 4, hk => exact hk | 5, hk => cases hk | 6, hk => cases hk | 7, hk => cases hk | k + 8, hk => cases hk) ?_
    exact kk _ (hC.out _) _ hI2
def kW_split : List (Nat × Instr × Nat) := [(1417, .aload_n 1, 1), (1418, .aload_n 0, 1), (1419, .iload 4, 2), (1421, .iconst 1, 1), (1422, .iadd, 1), (1423, .iaload, 1), (1424, .aload_n 0, 1), (1425, .iload 4, 2), (1427, .iconst 2, 1), (1428, .iadd, 1), (1429, .iaload, 1), (1430, .aload_n 3, 1), (1431, .invokestatic 213, 3), (1434, .istore 5, 2), (1436, .aload_n 2, 1), (1437, .aload_n 0, 1), (1438, .iload 4, 2), (1440, .iconst 1, 1), (1441, .iadd, 1), (1442, .iaload, 1), (1443, .aload_n 0, 1), (1444, .iload 4, 2), (1446, .iconst 2, 1), (1447, .iadd, 1), (1448, .iaload, 1), (1449, .invokevirtual 215, 3), (1452, .istore 6, 2), (1454, .aload_n 2, 1), (1455, .invokevirtual 140, 3), (1458, .iload 5, 2), (1460, .if_icmp .eq 5, 3), (1463, .iconst 0, 1), (1464, .ireturn, 1), (1465, .iload 5, 2), (1467, .ifCond .ne 15, 3), (1470, .aload_n 3, 1), (1471, .iconst 0, 1), (1472, .laload, 1), (1473, .iload 6, 2), (1475, .i2l, 1), (1476, .lcmp, 1), (1477, .ifCond .eq 5, 3), (1480, .iconst 0, 1), (1481, .ireturn, 1), (1482, .goto 1025, 3)]
theorem dcW_split : kW_split.all (fun q => decide (decode code q.1 = .ok q.2)) = true := by decide +kernel
theorem lc_split {K : x_KT} {b L i kc ks : Nat} {xs : Nat → Int32} {σ : xSig} (hC : x_LC K b L xs) (hI : INV i σ) (hi : i < 512) (hj : 5 * i + 5 ≤ L) (hkc : kc + 1 ≤ 601024) (hks : ks + 6 ≤ 7293034) (kk : ∀ K' : x_KT, x_LC K' b L xs → ∀ σ2 : xSig, INV (i + 1) σ2 → x_F K' 8 [(0, .ref b)] 2507 (lsL i) [] (St σ2) (kc + 1) (ks + 6)) : x_F K 8 [(0, .ref b)] 1417 (lsL i) [] (St σ) kc ks := by
  obtain ⟨σ1, σ2, code9, z, y, hcode, hc0, hc1, hm, h47, hzy, hI2⟩ := st_split hI (xs_r (xs := xs) (5 * i + 1)) (xs_r (xs := xs) (5 * i + 2))
  have hcr : 0 ≤ code9 ∧ code9 ≤ 3 := hcode
  have C := hC.1
  have hxc : xr code9 := by unfold xr; omega
  obtain ⟨f, f0, f1⟩ := f9_of code9 (zI z)
  have spH := sw_split (f9 := f) hcr hc0 hc1 f0 f1
  refine f_aload_n C 1418 (dq dcW_split 0 rfl) rfl rfl rfl ?_
  refine f_sldk hC 1424 1 rfl (by omega) (dq dcW_split 1 rfl) (dq dcW_split 2 rfl) (dq dcW_split 3 rfl) (dq dcW_split 4 rfl) (dq dcW_split 5 rfl) rfl ?_
  refine f_sldk hC 1430 2 rfl (by omega) (dq dcW_split 6 rfl) (dq dcW_split 7 rfl) (dq dcW_split 8 rfl) (dq dcW_split 9 rfl) (dq dcW_split 10 rfl) rfl ?_
  refine f_aload_n C 1431 (dq dcW_split 11 rfl) rfl rfl rfl ?_
  refine f_callH hC 1434 (n := 4) rfl spH cwL_split msL_split (by decide +kernel) ⟨(Nat.le_of_ble_eq_true rfl), (Nat.le_of_ble_eq_true rfl)⟩ (dq dcW_split 12 rfl) rfl rfl rfl (Nat.le_of_ble_eq_true rfl) (by omega) (by omega) ?_
  refine f_istore (C.out _) 1436 (dq dcW_split 13 rfl) rfl (Nat.le_of_ble_eq_true rfl) rfl rfl ?_
  refine f_aload_n (C.out _) 1437 (dq dcW_split 14 rfl) rfl rfl rfl ?_
  refine f_sldk (hC.out _) 1443 1 rfl (by omega) (dq dcW_split 15 rfl) (dq dcW_split 16 rfl) (dq dcW_split 17 rfl) (dq dcW_split 18 rfl) (dq dcW_split 19 rfl) rfl ?_
  refine f_sldk (hC.out _) 1449 2 rfl (by omega) (dq dcW_split 20 rfl) (dq dcW_split 21 rfl) (dq dcW_split 22 rfl) (dq dcW_split 23 rfl) (dq dcW_split 24 rfl) rfl ?_
  refine f_callL (hC.out _) 1452 hm okX12_split cvL_215 ⟨(Nat.le_of_ble_eq_true rfl), (Nat.le_of_ble_eq_true rfl)⟩ (dq dcW_split 25 rfl) rfl (Nat.le_of_ble_eq_true rfl) rfl rfl rfl rfl rfl (Nat.le_of_ble_eq_true rfl) (by omega) (by omega) ?_
  refine f_istore (C.out _) 1454 (dq dcW_split 26 rfl) rfl (Nat.le_of_ble_eq_true rfl) rfl rfl ?_
  refine f_aload_n (C.out _) 1455 (dq dcW_split 27 rfl) rfl rfl rfl ?_
  have spT : x_Sp MX12_thrown 0 0 [.ref 281] (St σ2) (iv code9) (St σ2) := h47 ▸ sp_mThrown
  refine f_callL (hC.out _) 1458 spT okX12_thrown cvL_140 ⟨(Nat.le_of_ble_eq_true rfl), (Nat.le_of_ble_eq_true rfl)⟩ (dq dcW_split 28 rfl) rfl (Nat.le_of_ble_eq_true rfl) rfl rfl rfl rfl rfl (Nat.le_of_ble_eq_true rfl) (by omega) (by omega) ?_
  refine f_iload (C.out _) 1460 (dq dcW_split 29 rfl) rfl rfl ?_
  refine f_icmp_eq (C.out _) 1465 1463 (dq dcW_split 30 rfl) rfl rfl hxc hxc (fun _ => ?_) (fun q => absurd rfl q)
  refine f_iload (C.out _) 1467 (dq dcW_split 33 rfl) rfl rfl ?_
  refine f_if_ne (C.out _) 1482 1470 (dq dcW_split 34 rfl) rfl rfl hxc (fun h0 => ?_) (fun h0 => ?_)
  · skip
    refine f_goto (C.out _) 2507 (dq dcW_split 44 rfl) rfl ?_
    refine f_drop (lsL i) (fun k u hk => by match k, hk with | 0, hk => exact hk | 1, hk => exact hk | 2, hk => exact hk | 3, hk => exact hk | 4, hk => exact hk | 5, hk => cases hk | 6, hk => cases hk | 7, hk => cases hk | k + 8, hk => cases hk) ?_
    exact kk _ (hC.out _) _ hI2
  · have hv := (congrArg Int64.ofNat (congrFun (f0 h0) ((kG K).2 9))).trans (o9_of _)
    obtain rfl := hzy h0
    refine f_aload_n (C.out _) 1471 (dq dcW_split 35 rfl) rfl rfl rfl ?_
    refine f_iconst (C.out _) 1472 (dq dcW_split 36 rfl) rfl ?_
    refine f_laload9 (C.out _) 1473 (dq dcW_split 37 rfl) rfl (Nat.le_of_ble_eq_true rfl) rfl hv ?_
    refine f_iload (C.out _) 1475 (dq dcW_split 38 rfl) rfl rfl ?_
    refine f_i2lz (C.out _) 1476 (dq dcW_split 39 rfl) rfl ?_
    refine f_lcmpE (C.out _) 1477 (dq dcW_split 40 rfl) rfl ?_
    refine f_if_eq (C.out _) 1482 1480 (dq dcW_split 41 rfl) rfl rfl xr_0 (fun _ => ?_) (fun q => absurd rfl q)
    refine f_goto (C.out _) 2507 (dq dcW_split 44 rfl) rfl ?_
    refine f_drop (lsL i) (fun k u hk => by match k, hk with | 0, hk => exact hk | 1, hk => exact hk | 2, hk => exact hk | 3, hk => exact hk | 4, hk => exact hk | 5, hk => cases hk | 6, hk => cases hk | 7, hk => cases hk | k + 8, hk => cases hk) ?_
    exact kk _ (hC.out _) _ hI2
def kW_move : List (Nat × Instr × Nat) := [(1485, .aload_n 1, 1), (1486, .aload_n 0, 1), (1487, .iload 4, 2), (1489, .iconst 1, 1), (1490, .iadd, 1), (1491, .iaload, 1), (1492, .aload_n 0, 1), (1493, .iload 4, 2), (1495, .iconst 2, 1), (1496, .iadd, 1), (1497, .iaload, 1), (1498, .aload_n 3, 1), (1499, .invokestatic 216, 3), (1502, .istore 5, 2), (1504, .aload_n 2, 1), (1505, .aload_n 0, 1), (1506, .iload 4, 2), (1508, .iconst 1, 1), (1509, .iadd, 1), (1510, .iaload, 1), (1511, .aload_n 0, 1), (1512, .iload 4, 2), (1514, .iconst 2, 1), (1515, .iadd, 1), (1516, .iaload, 1), (1517, .invokevirtual 218, 3), (1520, .istore 6, 2), (1522, .aload_n 2, 1), (1523, .invokevirtual 140, 3), (1526, .iload 5, 2), (1528, .if_icmp .eq 5, 3), (1531, .iconst 0, 1), (1532, .ireturn, 1), (1533, .iload 5, 2), (1535, .ifCond .ne 15, 3), (1538, .aload_n 3, 1), (1539, .iconst 0, 1), (1540, .laload, 1), (1541, .iload 6, 2), (1543, .i2l, 1), (1544, .lcmp, 1), (1545, .ifCond .eq 5, 3), (1548, .iconst 0, 1), (1549, .ireturn, 1), (1550, .goto 957, 3)]
theorem dcW_move : kW_move.all (fun q => decide (decode code q.1 = .ok q.2)) = true := by decide +kernel
theorem lc_move {K : x_KT} {b L i kc ks : Nat} {xs : Nat → Int32} {σ : xSig} (hC : x_LC K b L xs) (hI : INV i σ) (hi : i < 512) (hj : 5 * i + 5 ≤ L) (hkc : kc + 1 ≤ 601024) (hks : ks + 6 ≤ 7293034) (kk : ∀ K' : x_KT, x_LC K' b L xs → ∀ σ2 : xSig, INV (i + 1) σ2 → x_F K' 8 [(0, .ref b)] 2507 (lsL i) [] (St σ2) (kc + 1) (ks + 6)) : x_F K 8 [(0, .ref b)] 1485 (lsL i) [] (St σ) kc ks := by
  obtain ⟨σ1, σ2, code9, z, y, hcode, hc0, hc1, hm, h47, hzy, hI2⟩ := st_move hI (xs_r (xs := xs) (5 * i + 1)) (xs_r (xs := xs) (5 * i + 2))
  have hcr : 0 ≤ code9 ∧ code9 ≤ 3 := hcode
  have C := hC.1
  have hxc : xr code9 := by unfold xr; omega
  obtain ⟨f, f0, f1⟩ := f9_of code9 (zI z)
  have spH := sw_move (f9 := f) hcr hc0 hc1 f0 f1
  refine f_aload_n C 1486 (dq dcW_move 0 rfl) rfl rfl rfl ?_
  refine f_sldk hC 1492 1 rfl (by omega) (dq dcW_move 1 rfl) (dq dcW_move 2 rfl) (dq dcW_move 3 rfl) (dq dcW_move 4 rfl) (dq dcW_move 5 rfl) rfl ?_
  refine f_sldk hC 1498 2 rfl (by omega) (dq dcW_move 6 rfl) (dq dcW_move 7 rfl) (dq dcW_move 8 rfl) (dq dcW_move 9 rfl) (dq dcW_move 10 rfl) rfl ?_
  refine f_aload_n C 1499 (dq dcW_move 11 rfl) rfl rfl rfl ?_
  refine f_callH hC 1502 (n := 4) rfl spH cwL_move msL_move (by decide +kernel) ⟨(Nat.le_of_ble_eq_true rfl), (Nat.le_of_ble_eq_true rfl)⟩ (dq dcW_move 12 rfl) rfl rfl rfl (Nat.le_of_ble_eq_true rfl) (by omega) (by omega) ?_
  refine f_istore (C.out _) 1504 (dq dcW_move 13 rfl) rfl (Nat.le_of_ble_eq_true rfl) rfl rfl ?_
  refine f_aload_n (C.out _) 1505 (dq dcW_move 14 rfl) rfl rfl rfl ?_
  refine f_sldk (hC.out _) 1511 1 rfl (by omega) (dq dcW_move 15 rfl) (dq dcW_move 16 rfl) (dq dcW_move 17 rfl) (dq dcW_move 18 rfl) (dq dcW_move 19 rfl) rfl ?_
  refine f_sldk (hC.out _) 1517 2 rfl (by omega) (dq dcW_move 20 rfl) (dq dcW_move 21 rfl) (dq dcW_move 22 rfl) (dq dcW_move 23 rfl) (dq dcW_move 24 rfl) rfl ?_
  refine f_callL (hC.out _) 1520 hm okX12_move cvL_218 ⟨(Nat.le_of_ble_eq_true rfl), (Nat.le_of_ble_eq_true rfl)⟩ (dq dcW_move 25 rfl) rfl (Nat.le_of_ble_eq_true rfl) rfl rfl rfl rfl rfl (Nat.le_of_ble_eq_true rfl) (by omega) (by omega) ?_
  refine f_istore (C.out _) 1522 (dq dcW_move 26 rfl) rfl (Nat.le_of_ble_eq_true rfl) rfl rfl ?_
  refine f_aload_n (C.out _) 1523 (dq dcW_move 27 rfl) rfl rfl rfl ?_
  have spT : x_Sp MX12_thrown 0 0 [.ref 281] (St σ2) (iv code9) (St σ2) := h47 ▸ sp_mThrown
  refine f_callL (hC.out _) 1526 spT okX12_thrown cvL_140 ⟨(Nat.le_of_ble_eq_true rfl), (Nat.le_of_ble_eq_true rfl)⟩ (dq dcW_move 28 rfl) rfl (Nat.le_of_ble_eq_true rfl) rfl rfl rfl rfl rfl (Nat.le_of_ble_eq_true rfl) (by omega) (by omega) ?_
  refine f_iload (C.out _) 1528 (dq dcW_move 29 rfl) rfl rfl ?_
  refine f_icmp_eq (C.out _) 1533 1531 (dq dcW_move 30 rfl) rfl rfl hxc hxc (fun _ => ?_) (fun q => absurd rfl q)
  refine f_iload (C.out _) 1535 (dq dcW_move 33 rfl) rfl rfl ?_
  refine f_if_ne (C.out _) 1550 1538 (dq dcW_move 34 rfl) rfl rfl hxc (fun h0 => ?_) (fun h0 => ?_)
  · skip
    refine f_goto (C.out _) 2507 (dq dcW_move 44 rfl) rfl ?_
    refine f_drop (lsL i) (fun k u hk => by match k, hk with | 0, hk => exact hk | 1, hk => exact hk | 2, hk => exact hk | 3, hk => exact hk | 4, hk => exact hk | 5, hk => cases hk | 6, hk => cases hk | 7, hk => cases hk | k + 8, hk => cases hk) ?_
    exact kk _ (hC.out _) _ hI2
  · have hv := (congrArg Int64.ofNat (congrFun (f0 h0) ((kG K).2 9))).trans (o9_of _)
    obtain rfl := hzy h0
    refine f_aload_n (C.out _) 1539 (dq dcW_move 35 rfl) rfl rfl rfl ?_
    refine f_iconst (C.out _) 1540 (dq dcW_move 36 rfl) rfl ?_
    refine f_laload9 (C.out _) 1541 (dq dcW_move 37 rfl) rfl (Nat.le_of_ble_eq_true rfl) rfl hv ?_
    refine f_iload (C.out _) 1543 (dq dcW_move 38 rfl) rfl rfl ?_
    refine f_i2lz (C.out _) 1544 (dq dcW_move 39 rfl) rfl ?_
    refine f_lcmpE (C.out _) 1545 (dq dcW_move 40 rfl) rfl ?_
    refine f_if_eq (C.out _) 1550 1548 (dq dcW_move 41 rfl) rfl rfl xr_0 (fun _ => ?_) (fun q => absurd rfl q)
    refine f_goto (C.out _) 2507 (dq dcW_move 44 rfl) rfl ?_
    refine f_drop (lsL i) (fun k u hk => by match k, hk with | 0, hk => exact hk | 1, hk => exact hk | 2, hk => exact hk | 3, hk => exact hk | 4, hk => exact hk | 5, hk => cases hk | 6, hk => cases hk | 7, hk => cases hk | k + 8, hk => cases hk) ?_
    exact kk _ (hC.out _) _ hI2
def kW_copy : List (Nat × Instr × Nat) := [(1553, .aload_n 1, 1), (1554, .aload_n 0, 1), (1555, .iload 4, 2), (1557, .iconst 1, 1), (1558, .iadd, 1), (1559, .iaload, 1), (1560, .aload_n 3, 1), (1561, .invokestatic 219, 3), (1564, .istore 5, 2), (1566, .aload_n 2, 1), (1567, .aload_n 0, 1), (1568, .iload 4, 2), (1570, .iconst 1, 1), (1571, .iadd, 1), (1572, .iaload, 1), (1573, .invokevirtual 221, 3), (1576, .istore 6, 2), (1578, .aload_n 2, 1), (1579, .invokevirtual 140, 3), (1582, .iload 5, 2), (1584, .if_icmp .eq 5, 3), (1587, .iconst 0, 1), (1588, .ireturn, 1), (1589, .iload 5, 2), (1591, .ifCond .ne 15, 3), (1594, .aload_n 3, 1), (1595, .iconst 0, 1), (1596, .laload, 1), (1597, .iload 6, 2), (1599, .i2l, 1), (1600, .lcmp, 1), (1601, .ifCond .eq 5, 3), (1604, .iconst 0, 1), (1605, .ireturn, 1), (1606, .goto 901, 3)]
theorem dcW_copy : kW_copy.all (fun q => decide (decode code q.1 = .ok q.2)) = true := by decide +kernel
theorem lc_copy {K : x_KT} {b L i kc ks : Nat} {xs : Nat → Int32} {σ : xSig} (hC : x_LC K b L xs) (hI : INV i σ) (hi : i < 512) (hj : 5 * i + 5 ≤ L) (hkc : kc + 1 ≤ 601024) (hks : ks + 6 ≤ 7293034) (kk : ∀ K' : x_KT, x_LC K' b L xs → ∀ σ2 : xSig, INV (i + 1) σ2 → x_F K' 8 [(0, .ref b)] 2507 (lsL i) [] (St σ2) (kc + 1) (ks + 6)) : x_F K 8 [(0, .ref b)] 1553 (lsL i) [] (St σ) kc ks := by
  obtain ⟨σ1, σ2, code9, z, y, hcode, hc0, hc1, hm, h47, hzy, hI2⟩ := st_copy hI (xs_r (xs := xs) (5 * i + 1))
  have hcr : 0 ≤ code9 ∧ code9 ≤ 2 := hcode
  have C := hC.1
  have hxc : xr code9 := by unfold xr; omega
  obtain ⟨f, f0, f1⟩ := f9_of code9 (zI z)
  have spH := sw_copy (f9 := f) hcr hc0 hc1 f0 f1
  refine f_aload_n C 1554 (dq dcW_copy 0 rfl) rfl rfl rfl ?_
  refine f_sldk hC 1560 1 rfl (by omega) (dq dcW_copy 1 rfl) (dq dcW_copy 2 rfl) (dq dcW_copy 3 rfl) (dq dcW_copy 4 rfl) (dq dcW_copy 5 rfl) rfl ?_
  refine f_aload_n C 1561 (dq dcW_copy 6 rfl) rfl rfl rfl ?_
  refine f_callH hC 1564 (n := 3) rfl spH cwL_copy msL_copy (by decide +kernel) ⟨(Nat.le_of_ble_eq_true rfl), (Nat.le_of_ble_eq_true rfl)⟩ (dq dcW_copy 7 rfl) rfl rfl rfl (Nat.le_of_ble_eq_true rfl) (by omega) (by omega) ?_
  refine f_istore (C.out _) 1566 (dq dcW_copy 8 rfl) rfl (Nat.le_of_ble_eq_true rfl) rfl rfl ?_
  refine f_aload_n (C.out _) 1567 (dq dcW_copy 9 rfl) rfl rfl rfl ?_
  refine f_sldk (hC.out _) 1573 1 rfl (by omega) (dq dcW_copy 10 rfl) (dq dcW_copy 11 rfl) (dq dcW_copy 12 rfl) (dq dcW_copy 13 rfl) (dq dcW_copy 14 rfl) rfl ?_
  refine f_callL (hC.out _) 1576 hm okX12_copy cvL_221 ⟨(Nat.le_of_ble_eq_true rfl), (Nat.le_of_ble_eq_true rfl)⟩ (dq dcW_copy 15 rfl) rfl (Nat.le_of_ble_eq_true rfl) rfl rfl rfl rfl rfl (Nat.le_of_ble_eq_true rfl) (by omega) (by omega) ?_
  refine f_istore (C.out _) 1578 (dq dcW_copy 16 rfl) rfl (Nat.le_of_ble_eq_true rfl) rfl rfl ?_
  refine f_aload_n (C.out _) 1579 (dq dcW_copy 17 rfl) rfl rfl rfl ?_
  have spT : x_Sp MX12_thrown 0 0 [.ref 281] (St σ2) (iv code9) (St σ2) := h47 ▸ sp_mThrown
  refine f_callL (hC.out _) 1582 spT okX12_thrown cvL_140 ⟨(Nat.le_of_ble_eq_true rfl), (Nat.le_of_ble_eq_true rfl)⟩ (dq dcW_copy 18 rfl) rfl (Nat.le_of_ble_eq_true rfl) rfl rfl rfl rfl rfl (Nat.le_of_ble_eq_true rfl) (by omega) (by omega) ?_
  refine f_iload (C.out _) 1584 (dq dcW_copy 19 rfl) rfl rfl ?_
  refine f_icmp_eq (C.out _) 1589 1587 (dq dcW_copy 20 rfl) rfl rfl hxc hxc (fun _ => ?_) (fun q => absurd rfl q)
  refine f_iload (C.out _) 1591 (dq dcW_copy 23 rfl) rfl rfl ?_
  refine f_if_ne (C.out _) 1606 1594 (dq dcW_copy 24 rfl) rfl rfl hxc (fun h0 => ?_) (fun h0 => ?_)
  · skip
    refine f_goto (C.out _) 2507 (dq dcW_copy 34 rfl) rfl ?_
    refine f_drop (lsL i) (fun k u hk => by match k, hk with | 0, hk => exact hk | 1, hk => exact hk | 2, hk => exact hk | 3, hk => exact hk | 4, hk => exact hk | 5, hk => cases hk | 6, hk => cases hk | 7, hk => cases hk | k + 8, hk => cases hk) ?_
    exact kk _ (hC.out _) _ hI2
  · have hv := (congrArg Int64.ofNat (congrFun (f0 h0) ((kG K).2 9))).trans (o9_of _)
    obtain rfl := hzy h0
    refine f_aload_n (C.out _) 1595 (dq dcW_copy 25 rfl) rfl rfl rfl ?_
    refine f_iconst (C.out _) 1596 (dq dcW_copy 26 rfl) rfl ?_
    refine f_laload9 (C.out _) 1597 (dq dcW_copy 27 rfl) rfl (Nat.le_of_ble_eq_true rfl) rfl hv ?_
    refine f_iload (C.out _) 1599 (dq dcW_copy 28 rfl) rfl rfl ?_
    refine f_i2lz (C.out _) 1600 (dq dcW_copy 29 rfl) rfl ?_
    refine f_lcmpE (C.out _) 1601 (dq dcW_copy 30 rfl) rfl ?_
    refine f_if_eq (C.out _) 1606 1604 (dq dcW_copy 31 rfl) rfl rfl xr_0 (fun _ => ?_) (fun q => absurd rfl q)
    refine f_goto (C.out _) 2507 (dq dcW_copy 34 rfl) rfl ?_
    refine f_drop (lsL i) (fun k u hk => by match k, hk with | 0, hk => exact hk | 1, hk => exact hk | 2, hk => exact hk | 3, hk => exact hk | 4, hk => exact hk | 5, hk => cases hk | 6, hk => cases hk | 7, hk => cases hk | k + 8, hk => cases hk) ?_
    exact kk _ (hC.out _) _ hI2
