/-! ===== the face: indexes, queries ===== -/
theorem sp_indexX {σ : xSig} {x y : Int} (hx : xr x) (hp : ¬ (0 ≤ x ∧ x < 72)) : x_Sp MX11_index 1 6 [.ref 0, .int (ii x), .int (ii y)] (St σ) tIAE (St σ) := by
  have hi := sp_isPath (σ := σ) hx
  rw [decide_eq_false hp] at hi
  refine e_entry okX11_index (Nat.le_of_ble_eq_true rfl) (ls := [some _, some _, some _, none]) rfl ?_
  refine e_iload_n 0 1 rfl rfl rfl rfl ?_
  refine g_callS 1 4 (hi) okX11_isPath csX11_171 ⟨(Nat.le_of_ble_eq_true rfl), (Nat.le_of_ble_eq_true rfl)⟩ rfl rfl rfl rfl (Nat.le_of_ble_eq_true rfl) (Nat.le_of_ble_eq_true rfl) (Nat.le_of_ble_eq_true rfl) ?_
  refine e_ifb_ne 2 17 7 rfl rfl rfl (fun h2 => ?_) (fun h2 => ?_)
  · skip
    cases h2
  · skip
    exact e_throw 3 thX11_82_86 rfl rfl rfl rfl rfl stX11_221 (Nat.le_of_ble_eq_true rfl) (Nat.le_of_ble_eq_true rfl) (Nat.le_of_ble_eq_true rfl) (Nat.le_of_ble_eq_true rfl) (Nat.le_of_ble_eq_true rfl)
theorem sp_indexX2 {σ : xSig} (hX : IXR σ) {x y : Int} (hp : 0 ≤ x ∧ x < 72) (hc : fstIs (σ 249) (-1) 0 3 = -1 ∨ fstIs (σ 249) x 0 3 ≠ -1) : x_Sp MX11_index 1 6 [.ref 0, .int (ii x), .int (ii y)] (St σ) tISE (St σ) := by
  have hi := sp_isPath (σ := σ) (x := x) (by unfold xr; omega)
  rw [decide_eq_true hp] at hi
  have hb := fstIs_bnd (f := σ 249) (x := -1) 3 0
  have hhp := sp_hasPath hX (x := x) (by unfold xr; omega)
  have fin : ∀ z : Int, x_E MX11_index 1 6 41 [some (.ref 0), some (.int (ii x)), some (.int (ii y)), some (.int (ii z))] [] (St σ) 0 0 tISE (St σ) := by
    intro z
    exact e_throw 20 thX11_101_105 rfl rfl rfl rfl rfl stX11_229 (Nat.le_of_ble_eq_true rfl) (Nat.le_of_ble_eq_true rfl) (Nat.le_of_ble_eq_true rfl) (Nat.le_of_ble_eq_true rfl) (Nat.le_of_ble_eq_true rfl)
  refine e_entry okX11_index (Nat.le_of_ble_eq_true rfl) (ls := [some _, some _, some _, none]) rfl ?_
  refine e_iload_n 0 1 rfl rfl rfl rfl ?_
  refine g_callS 1 4 (hi) okX11_isPath csX11_171 ⟨(Nat.le_of_ble_eq_true rfl), (Nat.le_of_ble_eq_true rfl)⟩ rfl rfl rfl rfl (Nat.le_of_ble_eq_true rfl) (Nat.le_of_ble_eq_true rfl) (Nat.le_of_ble_eq_true rfl) ?_
  refine e_ifb_ne 2 17 7 rfl rfl rfl (fun h2 => ?_) (fun h2 => ?_)
  · skip
    refine e_aload_n 8 18 rfl rfl rfl rfl ?_
    refine g_getR 9 21 ckX11 flX11_47 rfl rfl (Nat.le_of_ble_eq_true rfl) rfl rfl ?_
    refine g_callV 10 24 (sp_lowestFree hX) okX4_lowestFree cvX11_223 ⟨(Nat.le_of_ble_eq_true rfl), (Nat.le_of_ble_eq_true rfl)⟩ rfl rfl (Nat.le_of_ble_eq_true rfl) rfl rfl rfl rfl rfl (Nat.le_of_ble_eq_true rfl) (Nat.le_of_ble_eq_true rfl) (Nat.le_of_ble_eq_true rfl) ?_
    refine e_istore_n 11 25 (ls' := [some _, some _, some _, some _]) rfl rfl rfl (Nat.le_of_ble_eq_true rfl) rfl ?_
    refine e_iload_n 12 26 rfl rfl rfl rfl ?_
    refine e_iconst 13 27 rfl rfl ?_
    refine e_icmp_eq 14 41 30 rfl rfl rfl (by unfold xr at *; omega) (by unfold xr at *; omega) (fun h3 => ?_) (fun h3 => ?_)
    · skip
      exact fin _
    · skip
      rw [decide_eq_true (hc.resolve_left h3)] at hhp
      refine e_aload_n 15 31 rfl rfl rfl rfl ?_
      refine g_getR 16 34 ckX11 flX11_47 rfl rfl (Nat.le_of_ble_eq_true rfl) rfl rfl ?_
      refine e_iload_n 17 35 rfl rfl rfl rfl ?_
      refine g_callV 18 38 (hhp) okX4_hasPath cvX11_226 ⟨(Nat.le_of_ble_eq_true rfl), (Nat.le_of_ble_eq_true rfl)⟩ rfl rfl (Nat.le_of_ble_eq_true rfl) rfl rfl rfl rfl rfl (Nat.le_of_ble_eq_true rfl) (Nat.le_of_ble_eq_true rfl) (Nat.le_of_ble_eq_true rfl) ?_
      refine e_ifb_eq 19 51 41 rfl rfl rfl (fun h4 => ?_) (fun h4 => ?_)
      · skip
        cases h4
      · skip
        exact fin _
  · skip
    cases h2
theorem sp_index1 {σ : xSig} (hX : IXR σ) {x y : Int} (hp : 0 ≤ x ∧ x < 72) (hy : y = 0 ∨ y = 1) (h1 : fstIs (σ 249) (-1) 0 3 ≠ -1) (h2 : fstIs (σ 249) x 0 3 = -1) : x_Sp MX11_index 0 0 [.ref 0, .int (ii x), .int (ii y)] (St σ) (iv (fstIs (σ 249) (-1) 0 3)) (St (xu (xu σ 249 (fstIs (σ 249) (-1) 0 3) x) 250 (fstIs (σ 249) (-1) 0 3) y)) := by
  have hi := sp_isPath (σ := σ) (x := x) (by unfold xr; omega)
  rw [decide_eq_true hp] at hi
  have hb := fstIs_bnd (f := σ 249) (x := -1) 3 0
  have hhp := sp_hasPath hX (x := x) (by unfold xr; omega)
  rw [decide_eq_false (fun q => q h2)] at hhp
  refine e_entry okX11_index (Nat.le_of_ble_eq_true rfl) (ls := [some _, some _, some _, none]) rfl ?_
  refine e_iload_n 0 1 rfl rfl rfl rfl ?_
  refine g_callS 1 4 (hi) okX11_isPath csX11_171 ⟨(Nat.le_of_ble_eq_true rfl), (Nat.le_of_ble_eq_true rfl)⟩ rfl rfl rfl rfl (Nat.le_of_ble_eq_true rfl) (Nat.le_of_ble_eq_true rfl) (Nat.le_of_ble_eq_true rfl) ?_
  refine e_ifb_ne 2 17 7 rfl rfl rfl (fun h3 => ?_) (fun h3 => ?_)
  · skip
    refine e_aload_n 8 18 rfl rfl rfl rfl ?_
    refine g_getR 9 21 ckX11 flX11_47 rfl rfl (Nat.le_of_ble_eq_true rfl) rfl rfl ?_
    refine g_callV 10 24 (sp_lowestFree hX) okX4_lowestFree cvX11_223 ⟨(Nat.le_of_ble_eq_true rfl), (Nat.le_of_ble_eq_true rfl)⟩ rfl rfl (Nat.le_of_ble_eq_true rfl) rfl rfl rfl rfl rfl (Nat.le_of_ble_eq_true rfl) (Nat.le_of_ble_eq_true rfl) (Nat.le_of_ble_eq_true rfl) ?_
    refine e_istore_n 11 25 (ls' := [some _, some _, some _, some _]) rfl rfl rfl (Nat.le_of_ble_eq_true rfl) rfl ?_
    refine e_iload_n 12 26 rfl rfl rfl rfl ?_
    refine e_iconst 13 27 rfl rfl ?_
    refine e_icmp_eq 14 41 30 rfl rfl rfl (by unfold xr at *; omega) (by unfold xr at *; omega) (fun h9 => absurd h9 (by omega)) (fun _ => ?_)
    refine e_aload_n 15 31 rfl rfl rfl rfl ?_
    refine g_getR 16 34 ckX11 flX11_47 rfl rfl (Nat.le_of_ble_eq_true rfl) rfl rfl ?_
    refine e_iload_n 17 35 rfl rfl rfl rfl ?_
    refine g_callV 18 38 (hhp) okX4_hasPath cvX11_226 ⟨(Nat.le_of_ble_eq_true rfl), (Nat.le_of_ble_eq_true rfl)⟩ rfl rfl (Nat.le_of_ble_eq_true rfl) rfl rfl rfl rfl rfl (Nat.le_of_ble_eq_true rfl) (Nat.le_of_ble_eq_true rfl) (Nat.le_of_ble_eq_true rfl) ?_
    refine e_ifb_eq 19 51 41 rfl rfl rfl (fun h4 => ?_) (fun h4 => ?_)
    · skip
      refine e_aload_n 25 52 rfl rfl rfl rfl ?_
      refine g_getR 26 55 ckX11 flX11_47 rfl rfl (Nat.le_of_ble_eq_true rfl) rfl rfl ?_
      refine e_iload_n 27 56 rfl rfl rfl rfl ?_
      refine e_iload_n 28 57 rfl rfl rfl rfl ?_
      refine e_iload_n 29 58 rfl rfl rfl rfl ?_
      refine g_callV 30 61 (sp_ixMake (by omega) hy) okX4_make cvX11_231 ⟨(Nat.le_of_ble_eq_true rfl), (Nat.le_of_ble_eq_true rfl)⟩ rfl rfl (Nat.le_of_ble_eq_true rfl) rfl rfl rfl rfl rfl (Nat.le_of_ble_eq_true rfl) (Nat.le_of_ble_eq_true rfl) (Nat.le_of_ble_eq_true rfl) ?_
      refine e_iload_n 31 62 rfl rfl rfl rfl ?_
      exact e_ireturn 32 rfl rfl (Nat.le_of_ble_eq_true rfl) (Nat.le_of_ble_eq_true rfl)
    · skip
      cases h4
  · skip
    cases h3
theorem sp_dropIndexX {σ : xSig} (hX : IXR σ) {k : Int} (hk : xr k) (hh : ihas σ k = false) : x_Sp MX11_dropIndex 1 6 [.ref 0, .int (ii k)] (St σ) tIOB (St σ) := by
  have hi := sp_ixHas hX hk
  rw [hh] at hi
  refine e_entry okX11_dropIndex (Nat.le_of_ble_eq_true rfl) (ls := [some _, some _]) rfl ?_
  refine e_aload_n 0 1 rfl rfl rfl rfl ?_
  refine g_getR 1 4 ckX11 flX11_47 rfl rfl (Nat.le_of_ble_eq_true rfl) rfl rfl ?_
  refine e_iload_n 2 5 rfl rfl rfl rfl ?_
  refine g_callV 3 8 (hi) okX4_has cvX11_235 ⟨(Nat.le_of_ble_eq_true rfl), (Nat.le_of_ble_eq_true rfl)⟩ rfl rfl (Nat.le_of_ble_eq_true rfl) rfl rfl rfl rfl rfl (Nat.le_of_ble_eq_true rfl) (Nat.le_of_ble_eq_true rfl) (Nat.le_of_ble_eq_true rfl) ?_
  refine e_ifb_ne 4 21 11 rfl rfl rfl (fun h2 => ?_) (fun h2 => ?_)
  · skip
    cases h2
  · skip
    exact e_throw 5 thX11_166_170 rfl rfl rfl rfl rfl stX11_236 (Nat.le_of_ble_eq_true rfl) (Nat.le_of_ble_eq_true rfl) (Nat.le_of_ble_eq_true rfl) (Nat.le_of_ble_eq_true rfl) (Nat.le_of_ble_eq_true rfl)
theorem sp_dropIndex1 {σ : xSig} (hX : IXR σ) {k : Int} (hh : ihas σ k = true) : x_Sp MX11_dropIndex 0 0 [.ref 0, .int (ii k)] (St σ) (iv (σ 248 6 - abl k (σ 248 6).toNat (xu σ 249 k (-1)) 248 6)) (St (abl k (σ 248 6).toNat (xu σ 249 k (-1)))) := by
  have hki := ihas_in hh
  have hi := sp_ixHas hX (i := k) (by unfold xr; omega)
  rw [hh] at hi
  refine e_entry okX11_dropIndex (Nat.le_of_ble_eq_true rfl) (ls := [some _, some _]) rfl ?_
  refine e_aload_n 0 1 rfl rfl rfl rfl ?_
  refine g_getR 1 4 ckX11 flX11_47 rfl rfl (Nat.le_of_ble_eq_true rfl) rfl rfl ?_
  refine e_iload_n 2 5 rfl rfl rfl rfl ?_
  refine g_callV 3 8 (hi) okX4_has cvX11_235 ⟨(Nat.le_of_ble_eq_true rfl), (Nat.le_of_ble_eq_true rfl)⟩ rfl rfl (Nat.le_of_ble_eq_true rfl) rfl rfl rfl rfl rfl (Nat.le_of_ble_eq_true rfl) (Nat.le_of_ble_eq_true rfl) (Nat.le_of_ble_eq_true rfl) ?_
  refine e_ifb_ne 4 21 11 rfl rfl rfl (fun h2 => ?_) (fun h2 => ?_)
  · skip
    refine e_aload_n 10 22 rfl rfl rfl rfl ?_
    refine g_getR 11 25 ckX11 flX11_47 rfl rfl (Nat.le_of_ble_eq_true rfl) rfl rfl ?_
    refine e_iload_n 12 26 rfl rfl rfl rfl ?_
    refine g_callV 13 29 (sp_abolish hX ⟨hki.1, hki.2.1⟩) okX4_abolish cvX11_238 ⟨(Nat.le_of_ble_eq_true rfl), (Nat.le_of_ble_eq_true rfl)⟩ rfl rfl (Nat.le_of_ble_eq_true rfl) rfl rfl rfl rfl rfl (Nat.le_of_ble_eq_true rfl) (Nat.le_of_ble_eq_true rfl) (Nat.le_of_ble_eq_true rfl) ?_
    exact e_ireturn 14 rfl rfl (Nat.le_of_ble_eq_true rfl) (Nat.le_of_ble_eq_true rfl)
  · skip
    cases h2
theorem sp_clear {σ : xSig} : x_Sp MX11_clear 0 0 [.ref 0] (St σ) (iv (σ 256 4)) (St (xu σ 256 4 0)) := by
  refine e_entry okX11_clear (Nat.le_of_ble_eq_true rfl) (ls := [some _]) rfl ?_
  refine e_aload_n 0 1 rfl rfl rfl rfl ?_
  refine g_getR 1 4 ckX11 flX11_54 rfl rfl (Nat.le_of_ble_eq_true rfl) rfl rfl ?_
  refine g_callV 2 7 (sp_takeAllFilters) okX7_takeAllFilters cvX11_254 ⟨(Nat.le_of_ble_eq_true rfl), (Nat.le_of_ble_eq_true rfl)⟩ rfl rfl (Nat.le_of_ble_eq_true rfl) rfl rfl rfl rfl rfl (Nat.le_of_ble_eq_true rfl) (Nat.le_of_ble_eq_true rfl) (Nat.le_of_ble_eq_true rfl) ?_
  exact e_ireturn 3 rfl rfl (Nat.le_of_ble_eq_true rfl) (Nat.le_of_ble_eq_true rfl)
theorem sp_foundX {σ : xSig} (h5 : 0 ≤ σ 256 5 ∧ σ 256 5 ≤ 60) {i : Int} (hi : xr i) (hh : ¬ (0 ≤ i ∧ i < σ 256 5)) : x_Sp MX11_found 1 6 [.ref 0, .int (ii i)] (St σ) tIOB (St σ) := by
  unfold xr at hi
  have fin : x_E MX11_found 1 6 15 [some (.ref 0), some (.int (ii i))] [] (St σ) 0 0 tIOB (St σ) := by
    exact e_throwW 7 thX11_166_170 rfl rfl rfl rfl rfl stX11_268 (Nat.le_of_ble_eq_true rfl) (Nat.le_of_ble_eq_true rfl) (Nat.le_of_ble_eq_true rfl) (Nat.le_of_ble_eq_true rfl) (Nat.le_of_ble_eq_true rfl)
  refine e_entry okX11_found (Nat.le_of_ble_eq_true rfl) (ls := [some _, some _]) rfl ?_
  refine e_iload_n 0 1 rfl rfl rfl rfl ?_
  refine e_if_lt 1 15 4 rfl rfl rfl (by unfold xr at *; omega) (fun h => ?_) (fun h => ?_)
  · skip
    exact fin
  · skip
    refine e_iload_n 2 5 rfl rfl rfl rfl ?_
    refine e_aload_n 3 6 rfl rfl rfl rfl ?_
    refine g_getR 4 9 ckX11 flX11_54 rfl rfl (Nat.le_of_ble_eq_true rfl) rfl rfl ?_
    refine g_callV 5 12 (sp_foundSize) okX7_foundSize cvX11_265 ⟨(Nat.le_of_ble_eq_true rfl), (Nat.le_of_ble_eq_true rfl)⟩ rfl rfl (Nat.le_of_ble_eq_true rfl) rfl rfl rfl rfl rfl (Nat.le_of_ble_eq_true rfl) (Nat.le_of_ble_eq_true rfl) (Nat.le_of_ble_eq_true rfl) ?_
    refine e_icmp_lt 6 26 15 rfl rfl rfl (by unfold xr at *; omega) (by unfold xr at *; omega) (fun h9 => absurd h9 (by omega)) (fun _ => ?_)
    exact fin
theorem sp_found1 {σ : xSig} (h5 : 0 ≤ σ 256 5 ∧ σ 256 5 ≤ 60) {i : Int} (hh : 0 ≤ i ∧ i < σ 256 5) : x_Sp MX11_found 0 0 [.ref 0, .int (ii i)] (St σ) (iv (σ 263 i)) (St σ) := by
  refine e_entry okX11_found (Nat.le_of_ble_eq_true rfl) (ls := [some _, some _]) rfl ?_
  refine e_iload_n 0 1 rfl rfl rfl rfl ?_
  refine e_if_lt 1 15 4 rfl rfl rfl (by unfold xr at *; omega) (fun h9 => absurd h9 (by omega)) (fun _ => ?_)
  refine e_iload_n 2 5 rfl rfl rfl rfl ?_
  refine e_aload_n 3 6 rfl rfl rfl rfl ?_
  refine g_getR 4 9 ckX11 flX11_54 rfl rfl (Nat.le_of_ble_eq_true rfl) rfl rfl ?_
  refine g_callV 5 12 (sp_foundSize) okX7_foundSize cvX11_265 ⟨(Nat.le_of_ble_eq_true rfl), (Nat.le_of_ble_eq_true rfl)⟩ rfl rfl (Nat.le_of_ble_eq_true rfl) rfl rfl rfl rfl rfl (Nat.le_of_ble_eq_true rfl) (Nat.le_of_ble_eq_true rfl) (Nat.le_of_ble_eq_true rfl) ?_
  refine e_icmp_lt 6 26 15 rfl rfl rfl (by unfold xr at *; omega) (by unfold xr at *; omega) (fun _ => ?_) (fun h9 => absurd h9 (by omega))
  refine e_aload_n 12 27 rfl rfl rfl rfl ?_
  refine g_getR 13 30 ckX11 flX11_54 rfl rfl (Nat.le_of_ble_eq_true rfl) rfl rfl ?_
  refine e_iload_n 14 31 rfl rfl rfl rfl ?_
  refine g_callV 15 34 (sp_foundAt h5 hh) okX7_foundAt cvX11_270 ⟨(Nat.le_of_ble_eq_true rfl), (Nat.le_of_ble_eq_true rfl)⟩ rfl rfl (Nat.le_of_ble_eq_true rfl) rfl rfl rfl rfl rfl (Nat.le_of_ble_eq_true rfl) (Nat.le_of_ble_eq_true rfl) (Nat.le_of_ble_eq_true rfl) ?_
  exact e_ireturn 16 rfl rfl (Nat.le_of_ble_eq_true rfl) (Nat.le_of_ble_eq_true rfl)
theorem sp_findAnew {σ : xSig} {T : Nat → List Int} (hA : VAll σ T) (h01 : n01 σ 27) (hL : FLT σ T) (hG : GDA σ T) : ∃ σ' : xSig, x_Sp MX11_findAnew 0 0 [.ref 0] (St σ) (iv (cft σ T)) (St σ') ∧ Fr 261 σ σ' := by
  obtain ⟨σ', k1, k2⟩ := sp_countFitting hA h01 hL hG
  refine ⟨σ', ?_, k2⟩
  refine e_entry okX11_findAnew (Nat.le_of_ble_eq_true rfl) (ls := [some _]) rfl ?_
  refine e_aload_n 0 1 rfl rfl rfl rfl ?_
  refine g_getR 1 4 ckX11 flX11_54 rfl rfl (Nat.le_of_ble_eq_true rfl) rfl rfl ?_
  refine e_aload_n 2 5 rfl rfl rfl rfl ?_
  refine g_getR 3 8 ckX11 flX11_19 rfl rfl (Nat.le_of_ble_eq_true rfl) rfl rfl ?_
  refine g_callV 4 11 (k1) okX7_countFitting cvX11_273 ⟨(Nat.le_of_ble_eq_true rfl), (Nat.le_of_ble_eq_true rfl)⟩ rfl rfl (Nat.le_of_ble_eq_true rfl) rfl rfl rfl rfl rfl (Nat.le_of_ble_eq_true rfl) (Nat.le_of_ble_eq_true rfl) (Nat.le_of_ble_eq_true rfl) ?_
  exact e_ireturn 5 rfl rfl (Nat.le_of_ble_eq_true rfl) (Nat.le_of_ble_eq_true rfl)
theorem sp_planX {σ : xSig} {w : Int} (hw : xr w) (hh : ¬ (0 ≤ w ∧ w ≤ 4)) : x_Sp MX11_plan 1 6 [.ref 0, .int (ii w)] (St σ) tIAE (St σ) := by
  unfold xr at hw
  have fin : x_E MX11_plan 1 6 9 [some (.ref 0), some (.int (ii w))] [] (St σ) 0 0 tIAE (St σ) := by
    exact e_throwW 5 thX11_82_86 rfl rfl rfl rfl rfl stX11_276 (Nat.le_of_ble_eq_true rfl) (Nat.le_of_ble_eq_true rfl) (Nat.le_of_ble_eq_true rfl) (Nat.le_of_ble_eq_true rfl) (Nat.le_of_ble_eq_true rfl)
  refine e_entry okX11_plan (Nat.le_of_ble_eq_true rfl) (ls := [some _, some _]) rfl ?_
  refine e_iload_n 0 1 rfl rfl rfl rfl ?_
  refine e_if_lt 1 9 4 rfl rfl rfl (by unfold xr at *; omega) (fun h => ?_) (fun h => ?_)
  · skip
    exact fin
  · skip
    refine e_iload_n 2 5 rfl rfl rfl rfl ?_
    refine e_iconst 3 6 rfl rfl ?_
    refine e_icmp_le 4 20 9 rfl rfl rfl (by unfold xr at *; omega) (by unfold xr at *; omega) (fun h9 => absurd h9 (by omega)) (fun _ => ?_)
    exact fin
theorem sp_plan1 {σ : xSig} (h9 : σ 256 9 = 0 ∨ σ 256 9 = 1) {w : Int} (hh : 0 ≤ w ∧ w ≤ 4) : x_Sp MX11_plan 0 0 [.ref 0, .int (ii w)] (St σ) (iv (if w = 4 then σ 248 6 else if w = 0 then σ 256 6 else if w = 1 then σ 256 7 else if w = 2 then σ 256 8 else σ 256 9)) (St σ) := by
  refine e_entry okX11_plan (Nat.le_of_ble_eq_true rfl) (ls := [some _, some _]) rfl ?_
  refine e_iload_n 0 1 rfl rfl rfl rfl ?_
  refine e_if_lt 1 9 4 rfl rfl rfl (by unfold xr at *; omega) (fun h9 => absurd h9 (by omega)) (fun _ => ?_)
  refine e_iload_n 2 5 rfl rfl rfl rfl ?_
  refine e_iconst 3 6 rfl rfl ?_
  refine e_icmp_le 4 20 9 rfl rfl rfl (by unfold xr at *; omega) (by unfold xr at *; omega) (fun _ => ?_) (fun h9 => absurd h9 (by omega))
  refine e_iload_n 10 21 rfl rfl rfl rfl ?_
  refine e_iconst 11 22 rfl rfl ?_
  refine e_icmp_ne 12 35 25 rfl rfl rfl (by unfold xr at *; omega) (by unfold xr at *; omega) (fun h => ?_) (fun h => ?_)
  · skip
    rw [if_neg h]
    refine e_aload_n 17 36 rfl rfl rfl rfl ?_
    refine g_getR 18 39 ckX11 flX11_54 rfl rfl (Nat.le_of_ble_eq_true rfl) rfl rfl ?_
    refine e_iload_n 19 40 rfl rfl rfl rfl ?_
    refine g_callV 20 43 (sp_latest h9 (w := w) (by unfold xr; omega)) okX7_latest cvX11_281 ⟨(Nat.le_of_ble_eq_true rfl), (Nat.le_of_ble_eq_true rfl)⟩ rfl rfl (Nat.le_of_ble_eq_true rfl) rfl rfl rfl rfl rfl (Nat.le_of_ble_eq_true rfl) (Nat.le_of_ble_eq_true rfl) (Nat.le_of_ble_eq_true rfl) ?_
    exact e_ireturn 21 rfl rfl (Nat.le_of_ble_eq_true rfl) (Nat.le_of_ble_eq_true rfl)
  · skip
    rw [if_pos h]
    refine e_aload_n 13 26 rfl rfl rfl rfl ?_
    refine g_getR 14 29 ckX11 flX11_47 rfl rfl (Nat.le_of_ble_eq_true rfl) rfl rfl ?_
    refine g_callV 15 32 (sp_plansKept) okX4_plansKept cvX11_278 ⟨(Nat.le_of_ble_eq_true rfl), (Nat.le_of_ble_eq_true rfl)⟩ rfl rfl (Nat.le_of_ble_eq_true rfl) rfl rfl rfl rfl rfl (Nat.le_of_ble_eq_true rfl) (Nat.le_of_ble_eq_true rfl) (Nat.le_of_ble_eq_true rfl) ?_
    refine e_goto 16 43 rfl rfl ?_
    exact e_ireturn 21 rfl rfl (Nat.le_of_ble_eq_true rfl) (Nat.le_of_ble_eq_true rfl)
theorem sp_groupX {σ : xSig} {x y : Int} (hx : xr x) (hy : xr y) (hh : ¬ ((0 ≤ x ∧ x < 72) ∧ 0 ≤ y ∧ y < 72)) : x_Sp MX11_group 1 6 [.ref 0, .int (ii x), .int (ii y)] (St σ) tIAE (St σ) := by
  have hi := sp_isPath (σ := σ) hx
  have hj := sp_isPath (σ := σ) hy
  have fin : x_E MX11_group 1 6 14 [some (.ref 0), some (.int (ii x)), some (.int (ii y))] [] (St σ) 0 0 tIAE (St σ) := by
    exact e_throw 6 thX11_82_86 rfl rfl rfl rfl rfl stX11_221 (Nat.le_of_ble_eq_true rfl) (Nat.le_of_ble_eq_true rfl) (Nat.le_of_ble_eq_true rfl) (Nat.le_of_ble_eq_true rfl) (Nat.le_of_ble_eq_true rfl)
  refine e_entry okX11_group (Nat.le_of_ble_eq_true rfl) (ls := [some _, some _, some _]) rfl ?_
  refine e_iload_n 0 1 rfl rfl rfl rfl ?_
  refine g_callS 1 4 (hi) okX11_isPath csX11_171 ⟨(Nat.le_of_ble_eq_true rfl), (Nat.le_of_ble_eq_true rfl)⟩ rfl rfl rfl rfl (Nat.le_of_ble_eq_true rfl) (Nat.le_of_ble_eq_true rfl) (Nat.le_of_ble_eq_true rfl) ?_
  refine e_ifb_eq 2 14 7 rfl rfl rfl (fun h2 => ?_) (fun h2 => ?_)
  · skip
    exact fin
  · skip
    have h3 := of_decide_eq_true h2
    rw [decide_eq_false (fun q => hh ⟨h3, q⟩)] at hj
    refine e_iload_n 3 8 rfl rfl rfl rfl ?_
    refine g_callS 4 11 (hj) okX11_isPath csX11_171 ⟨(Nat.le_of_ble_eq_true rfl), (Nat.le_of_ble_eq_true rfl)⟩ rfl rfl rfl rfl (Nat.le_of_ble_eq_true rfl) (Nat.le_of_ble_eq_true rfl) (Nat.le_of_ble_eq_true rfl) ?_
    refine e_ifb_ne 5 24 14 rfl rfl rfl (fun h4 => ?_) (fun h4 => ?_)
    · skip
      cases h4
    · skip
      exact fin
theorem sp_group1 {σ : xSig} {T : Nat → List Int} (hA : VAll σ T) (h01 : n01 σ 27) (hG : GDA σ T) {F : List Int} (hF : FH σ F) (hFr : ∀ n ∈ F, 0 ≤ n ∧ n < 100) {path sp : Int} (hp : 0 ≤ path ∧ path < 72) (hsp : 0 ≤ sp ∧ sp < 72) :
    ∃ σ' : xSig, x_Sp MX11_group 0 0 [.ref 0, .int (ii path), .int (ii sp)] (St σ) (iv (gBd σ T path sp F []).length) (St σ') ∧ GH σ' (gBd σ T path sp F []) ∧ GOK σ T (gBd σ T path sp F []) ∧ (∀ (j : Nat) (g : Gr), (gBd σ T path sp F [])[j]? = some g → σ' 274 j = prg T g) ∧ FX gL σ σ' := by
  obtain ⟨σ', k1, k2⟩ := sp_gBuild hA h01 hG hF hFr hp hsp
  have hi := sp_isPath (σ := σ) (x := path) (by unfold xr; omega)
  have hj := sp_isPath (σ := σ) (x := sp) (by unfold xr; omega)
  rw [decide_eq_true hp] at hi
  rw [decide_eq_true hsp] at hj
  refine ⟨σ', ?_, k2⟩
  refine e_entry okX11_group (Nat.le_of_ble_eq_true rfl) (ls := [some _, some _, some _]) rfl ?_
  refine e_iload_n 0 1 rfl rfl rfl rfl ?_
  refine g_callS 1 4 (hi) okX11_isPath csX11_171 ⟨(Nat.le_of_ble_eq_true rfl), (Nat.le_of_ble_eq_true rfl)⟩ rfl rfl rfl rfl (Nat.le_of_ble_eq_true rfl) (Nat.le_of_ble_eq_true rfl) (Nat.le_of_ble_eq_true rfl) ?_
  refine e_ifb_eq 2 14 7 rfl rfl rfl (fun h2 => ?_) (fun h2 => ?_)
  · skip
    cases h2
  · skip
    refine e_iload_n 3 8 rfl rfl rfl rfl ?_
    refine g_callS 4 11 (hj) okX11_isPath csX11_171 ⟨(Nat.le_of_ble_eq_true rfl), (Nat.le_of_ble_eq_true rfl)⟩ rfl rfl rfl rfl (Nat.le_of_ble_eq_true rfl) (Nat.le_of_ble_eq_true rfl) (Nat.le_of_ble_eq_true rfl) ?_
    refine e_ifb_ne 5 24 14 rfl rfl rfl (fun h3 => ?_) (fun h3 => ?_)
    · skip
      refine e_aload_n 11 25 rfl rfl rfl rfl ?_
      refine g_getR 12 28 ckX11 flX11_61 rfl rfl (Nat.le_of_ble_eq_true rfl) rfl rfl ?_
      refine e_aload_n 13 29 rfl rfl rfl rfl ?_
      refine g_getR 14 32 ckX11 flX11_19 rfl rfl (Nat.le_of_ble_eq_true rfl) rfl rfl ?_
      refine e_aload_n 15 33 rfl rfl rfl rfl ?_
      refine g_getR 16 36 ckX11 flX11_54 rfl rfl (Nat.le_of_ble_eq_true rfl) rfl rfl ?_
      refine e_iload_n 17 37 rfl rfl rfl rfl ?_
      refine e_iload_n 18 38 rfl rfl rfl rfl ?_
      refine g_callV 19 41 (k1) okX3_build cvX11_284 ⟨(Nat.le_of_ble_eq_true rfl), (Nat.le_of_ble_eq_true rfl)⟩ rfl rfl (Nat.le_of_ble_eq_true rfl) rfl rfl rfl rfl rfl (Nat.le_of_ble_eq_true rfl) (Nat.le_of_ble_eq_true rfl) (Nat.le_of_ble_eq_true rfl) ?_
      exact e_ireturn 20 rfl rfl (Nat.le_of_ble_eq_true rfl) (Nat.le_of_ble_eq_true rfl)
    · skip
      cases h3
theorem sp_groupedX {σ : xSig} (h6 : 0 ≤ σ 273 6 ∧ σ 273 6 ≤ 1440) {p w : Int} (hp : xr p) (hh : ¬ (0 ≤ p ∧ p < σ 273 6)) : x_Sp MX11_grouped 1 6 [.ref 0, .int (ii p), .int (ii w)] (St σ) tIOB (St σ) := by
  unfold xr at hp
  have fin : x_E MX11_grouped 1 6 15 [some (.ref 0), some (.int (ii p)), some (.int (ii w))] [] (St σ) 0 0 tIOB (St σ) := by
    exact e_throwW 7 thX11_166_170 rfl rfl rfl rfl rfl stX11_289 (Nat.le_of_ble_eq_true rfl) (Nat.le_of_ble_eq_true rfl) (Nat.le_of_ble_eq_true rfl) (Nat.le_of_ble_eq_true rfl) (Nat.le_of_ble_eq_true rfl)
  refine e_entry okX11_grouped (Nat.le_of_ble_eq_true rfl) (ls := [some _, some _, some _]) rfl ?_
  refine e_iload_n 0 1 rfl rfl rfl rfl ?_
  refine e_if_lt 1 15 4 rfl rfl rfl (by unfold xr at *; omega) (fun h => ?_) (fun h => ?_)
  · skip
    exact fin
  · skip
    refine e_iload_n 2 5 rfl rfl rfl rfl ?_
    refine e_aload_n 3 6 rfl rfl rfl rfl ?_
    refine g_getR 4 9 ckX11 flX11_61 rfl rfl (Nat.le_of_ble_eq_true rfl) rfl rfl ?_
    refine g_callV 5 12 (sp_gSize) okX3_size cvX11_288 ⟨(Nat.le_of_ble_eq_true rfl), (Nat.le_of_ble_eq_true rfl)⟩ rfl rfl (Nat.le_of_ble_eq_true rfl) rfl rfl rfl rfl rfl (Nat.le_of_ble_eq_true rfl) (Nat.le_of_ble_eq_true rfl) (Nat.le_of_ble_eq_true rfl) ?_
    refine e_icmp_lt 6 26 15 rfl rfl rfl (by unfold xr at *; omega) (by unfold xr at *; omega) (fun h9 => absurd h9 (by omega)) (fun _ => ?_)
    exact fin
theorem sp_groupedX2 {σ : xSig} (h6 : 0 ≤ σ 273 6 ∧ σ 273 6 ≤ 1440) {p w : Int} (hh : 0 ≤ p ∧ p < σ 273 6) (hw : xr w) (hw2 : ¬ (0 ≤ w ∧ w ≤ 2)) : x_Sp MX11_grouped 1 6 [.ref 0, .int (ii p), .int (ii w)] (St σ) tIAE (St σ) := by
  unfold xr at hw
  have fin : x_E MX11_grouped 1 6 35 [some (.ref 0), some (.int (ii p)), some (.int (ii w))] [] (St σ) 0 0 tIAE (St σ) := by
    exact e_throwW 17 thX11_82_86 rfl rfl rfl rfl rfl stX11_276 (Nat.le_of_ble_eq_true rfl) (Nat.le_of_ble_eq_true rfl) (Nat.le_of_ble_eq_true rfl) (Nat.le_of_ble_eq_true rfl) (Nat.le_of_ble_eq_true rfl)
  refine e_entry okX11_grouped (Nat.le_of_ble_eq_true rfl) (ls := [some _, some _, some _]) rfl ?_
  refine e_iload_n 0 1 rfl rfl rfl rfl ?_
  refine e_if_lt 1 15 4 rfl rfl rfl (by unfold xr at *; omega) (fun h9 => absurd h9 (by omega)) (fun _ => ?_)
  refine e_iload_n 2 5 rfl rfl rfl rfl ?_
  refine e_aload_n 3 6 rfl rfl rfl rfl ?_
  refine g_getR 4 9 ckX11 flX11_61 rfl rfl (Nat.le_of_ble_eq_true rfl) rfl rfl ?_
  refine g_callV 5 12 (sp_gSize) okX3_size cvX11_288 ⟨(Nat.le_of_ble_eq_true rfl), (Nat.le_of_ble_eq_true rfl)⟩ rfl rfl (Nat.le_of_ble_eq_true rfl) rfl rfl rfl rfl rfl (Nat.le_of_ble_eq_true rfl) (Nat.le_of_ble_eq_true rfl) (Nat.le_of_ble_eq_true rfl) ?_
  refine e_icmp_lt 6 26 15 rfl rfl rfl (by unfold xr at *; omega) (by unfold xr at *; omega) (fun _ => ?_) (fun h9 => absurd h9 (by omega))
  refine e_iload_n 12 27 rfl rfl rfl rfl ?_
  refine e_if_lt 13 35 30 rfl rfl rfl (by unfold xr at *; omega) (fun h => ?_) (fun h => ?_)
  · skip
    exact fin
  · skip
    refine e_iload_n 14 31 rfl rfl rfl rfl ?_
    refine e_iconst 15 32 rfl rfl ?_
    refine e_icmp_le 16 46 35 rfl rfl rfl (by unfold xr at *; omega) (by unfold xr at *; omega) (fun h9 => absurd h9 (by omega)) (fun _ => ?_)
    exact fin
theorem sp_grouped1 {σ : xSig} (h6 : 0 ≤ σ 273 6 ∧ σ 273 6 ≤ 1440) {p w : Int} (hh : 0 ≤ p ∧ p < σ 273 6) (hw : 0 ≤ w ∧ w ≤ 2) (h5 : xr (σ 275 p)) : x_Sp MX11_grouped 0 0 [.ref 0, .int (ii p), .int (ii w)] (St σ) (.inl (some (.long (ll (if w = 0 then σ 274 p else if w = 1 then σ 275 p else σ 276 p))))) (St σ) := by
  refine e_entry okX11_grouped (Nat.le_of_ble_eq_true rfl) (ls := [some _, some _, some _]) rfl ?_
  refine e_iload_n 0 1 rfl rfl rfl rfl ?_
  refine e_if_lt 1 15 4 rfl rfl rfl (by unfold xr at *; omega) (fun h9 => absurd h9 (by omega)) (fun _ => ?_)
  refine e_iload_n 2 5 rfl rfl rfl rfl ?_
  refine e_aload_n 3 6 rfl rfl rfl rfl ?_
  refine g_getR 4 9 ckX11 flX11_61 rfl rfl (Nat.le_of_ble_eq_true rfl) rfl rfl ?_
  refine g_callV 5 12 (sp_gSize) okX3_size cvX11_288 ⟨(Nat.le_of_ble_eq_true rfl), (Nat.le_of_ble_eq_true rfl)⟩ rfl rfl (Nat.le_of_ble_eq_true rfl) rfl rfl rfl rfl rfl (Nat.le_of_ble_eq_true rfl) (Nat.le_of_ble_eq_true rfl) (Nat.le_of_ble_eq_true rfl) ?_
  refine e_icmp_lt 6 26 15 rfl rfl rfl (by unfold xr at *; omega) (by unfold xr at *; omega) (fun _ => ?_) (fun h9 => absurd h9 (by omega))
  refine e_iload_n 12 27 rfl rfl rfl rfl ?_
  refine e_if_lt 13 35 30 rfl rfl rfl (by unfold xr at *; omega) (fun h9 => absurd h9 (by omega)) (fun _ => ?_)
  refine e_iload_n 14 31 rfl rfl rfl rfl ?_
  refine e_iconst 15 32 rfl rfl ?_
  refine e_icmp_le 16 46 35 rfl rfl rfl (by unfold xr at *; omega) (by unfold xr at *; omega) (fun _ => ?_) (fun h9 => absurd h9 (by omega))
  refine e_aload_n 22 47 rfl rfl rfl rfl ?_
  refine g_getR 23 50 ckX11 flX11_61 rfl rfl (Nat.le_of_ble_eq_true rfl) rfl rfl ?_
  refine e_iload_n 24 51 rfl rfl rfl rfl ?_
  refine e_iload_n 25 52 rfl rfl rfl rfl ?_
  refine g_callV 26 55 (sp_gTell h6 hh (w := w) (by unfold xr; omega) h5) okX3_tell cvX11_291 ⟨(Nat.le_of_ble_eq_true rfl), (Nat.le_of_ble_eq_true rfl)⟩ rfl rfl (Nat.le_of_ble_eq_true rfl) rfl rfl rfl rfl rfl (Nat.le_of_ble_eq_true rfl) (Nat.le_of_ble_eq_true rfl) (Nat.le_of_ble_eq_true rfl) ?_
  exact e_lreturn 27 rfl rfl (Nat.le_of_ble_eq_true rfl) (Nat.le_of_ble_eq_true rfl)
theorem sp_findX {σ : xSig} {r : Int} (hx : xr r) (hh : ¬ (0 ≤ r ∧ r < 2)) : x_Sp MX11_find 1 6 [.ref 0, .int (ii r)] (St σ) tIAE (St σ) := by
  have hi := sp_isRouter (σ := σ) hx
  rw [decide_eq_false hh] at hi
  refine e_entry okX11_find (Nat.le_of_ble_eq_true rfl) (ls := [some _, some _]) rfl ?_
  refine e_iload_n 0 1 rfl rfl rfl rfl ?_
  refine g_callS 1 4 (hi) okX11_isRouter csX11_140 ⟨(Nat.le_of_ble_eq_true rfl), (Nat.le_of_ble_eq_true rfl)⟩ rfl rfl rfl rfl (Nat.le_of_ble_eq_true rfl) (Nat.le_of_ble_eq_true rfl) (Nat.le_of_ble_eq_true rfl) ?_
  refine e_ifb_ne 2 17 7 rfl rfl rfl (fun h2 => ?_) (fun h2 => ?_)
  · skip
    cases h2
  · skip
    exact e_throw 3 thX11_82_86 rfl rfl rfl rfl rfl stX11_205 (Nat.le_of_ble_eq_true rfl) (Nat.le_of_ble_eq_true rfl) (Nat.le_of_ble_eq_true rfl) (Nat.le_of_ble_eq_true rfl) (Nat.le_of_ble_eq_true rfl)
theorem sp_find1 {σ σu : xSig} {T : Nat → List Int} {r : Int} (hr : 0 ≤ r ∧ r < 2) (hv : xr (σ 231 8)) (hvr : xr (σ 236 r)) (hu : σu = uro σ r) (hA : VAll σu T) (h01 : n01 σu 27) (hL : FLT σu T) (hX : IXR σu) (hG : GDA σu T) (hsz : 0 ≤ σu 25 4 ∧ σu 25 4 ≤ 100) (h6 : σu 248 6 < 512) (h256 : sOK (σu 256 6, σu 256 7, 0) 0) (hc : cnd σu ≤ 60)
    (hpl : pfr σu ≠ -1 → σu 252 (pfr σu) ≠ -1 → ihas σu (σu 252 (pfr σu)) = true ∧ ffi σu (σu 252 (pfr σu)) ≠ -1) :
    ∃ σ1 σ2 : xSig, x_Sp MX11_find 0 0 [.ref 0, .int (ii r)] (St σ) (iv (fnd (fits9 σu T) 0 100).length) (St σ2) ∧ QC σu σ1 T ∧ sOK (cps σu T) 4 ∧ FH σ2 (fnd (fits9 σu T) 0 100) ∧ SX σ1 σ2 := by
  have hi := sp_isRouter (σ := σ) (x := r) (by unfold xr; omega)
  rw [decide_eq_true hr] at hi
  obtain ⟨σ1, k1, k2, k3⟩ := sp_choosePlan hA h01 hL hX hG hsz h6 h256 hpl
  have hF1 : FX [248, 251, 252, 253, 254, 255, 256] σu σ1 := by
    intro b hb
    simp only [List.mem_cons, List.not_mem_nil, or_false, not_or] at hb
    have e1 := k2.1 b (by simp; omega)
    rw [e1]
    unfold cpr
    split
    · rfl
    · rw [kpp_o _ _ _ _ b (by simp; omega)]
      split
      · rfl
      · exact fgp_o _ _ b (by simp; omega)
  have h4 : σ1 256 4 = σu 256 4 := k2.2.2.2.2.2 4 (by decide) (by decide) (by decide) (by decide)
  obtain ⟨b1, b2, b3, b4, b5, b6, b7, b8, b9⟩ := pl_base hA h01 hL hG hF1 h4
  have ef : fits9 σ1 T = fits9 σu T := by
    funext n
    unfold fits9
    rw [hasd_congr (hF1 27 (by decide)), fal_congr h4 (fun i => b9 i)]
  have ec : cnd σ1 = cnd σu := by
    unfold cnd
    congr 1
    funext n
    rw [hasd_congr (hF1 27 (by decide))]
  obtain ⟨σ2, j1, j2, j3⟩ := sp_search b1 b2 b3 b4 (by rw [ec]; exact hc)
  rw [ef] at j1 j2
  have hur := sp_useRouter hr hv hvr
  rw [← hu] at hur
  refine ⟨σ1, σ2, ?_, k2, k3, j2, j3⟩
  refine e_entry okX11_find (Nat.le_of_ble_eq_true rfl) (ls := [some _, some _]) rfl ?_
  refine e_iload_n 0 1 rfl rfl rfl rfl ?_
  refine g_callS 1 4 (hi) okX11_isRouter csX11_140 ⟨(Nat.le_of_ble_eq_true rfl), (Nat.le_of_ble_eq_true rfl)⟩ rfl rfl rfl rfl (Nat.le_of_ble_eq_true rfl) (Nat.le_of_ble_eq_true rfl) (Nat.le_of_ble_eq_true rfl) ?_
  refine e_ifb_ne 2 17 7 rfl rfl rfl (fun h2 => ?_) (fun h2 => ?_)
  · skip
    refine e_aload_n 8 18 rfl rfl rfl rfl ?_
    refine g_getR 9 21 ckX11 flX11_26 rfl rfl (Nat.le_of_ble_eq_true rfl) rfl rfl ?_
    refine e_iload_n 10 22 rfl rfl rfl rfl ?_
    refine g_callV 11 25 (hur) okX0_useRouter cvX11_201 ⟨(Nat.le_of_ble_eq_true rfl), (Nat.le_of_ble_eq_true rfl)⟩ rfl rfl (Nat.le_of_ble_eq_true rfl) rfl rfl rfl rfl rfl (Nat.le_of_ble_eq_true rfl) (Nat.le_of_ble_eq_true rfl) (Nat.le_of_ble_eq_true rfl) ?_
    refine e_aload_n 12 26 rfl rfl rfl rfl ?_
    refine g_getR 13 29 ckX11 flX11_54 rfl rfl (Nat.le_of_ble_eq_true rfl) rfl rfl ?_
    refine e_aload_n 14 30 rfl rfl rfl rfl ?_
    refine g_getR 15 33 ckX11 flX11_19 rfl rfl (Nat.le_of_ble_eq_true rfl) rfl rfl ?_
    refine e_aload_n 16 34 rfl rfl rfl rfl ?_
    refine g_getR 17 37 ckX11 flX11_47 rfl rfl (Nat.le_of_ble_eq_true rfl) rfl rfl ?_
    refine g_callV 18 40 (k1) okX7_choosePlan cvX11_257 ⟨(Nat.le_of_ble_eq_true rfl), (Nat.le_of_ble_eq_true rfl)⟩ rfl rfl (Nat.le_of_ble_eq_true rfl) rfl rfl rfl rfl rfl (Nat.le_of_ble_eq_true rfl) (Nat.le_of_ble_eq_true rfl) (Nat.le_of_ble_eq_true rfl) ?_
    refine e_aload_n 19 41 rfl rfl rfl rfl ?_
    refine g_getR 20 44 ckX11 flX11_54 rfl rfl (Nat.le_of_ble_eq_true rfl) rfl rfl ?_
    refine e_aload_n 21 45 rfl rfl rfl rfl ?_
    refine g_getR 22 48 ckX11 flX11_19 rfl rfl (Nat.le_of_ble_eq_true rfl) rfl rfl ?_
    refine g_callV 23 51 (j1) okX7_search cvX11_261 ⟨(Nat.le_of_ble_eq_true rfl), (Nat.le_of_ble_eq_true rfl)⟩ rfl rfl (Nat.le_of_ble_eq_true rfl) rfl rfl rfl rfl rfl (Nat.le_of_ble_eq_true rfl) (Nat.le_of_ble_eq_true rfl) (Nat.le_of_ble_eq_true rfl) ?_
    exact e_ireturn 24 rfl rfl (Nat.le_of_ble_eq_true rfl) (Nat.le_of_ble_eq_true rfl)
  · skip
    cases h2
