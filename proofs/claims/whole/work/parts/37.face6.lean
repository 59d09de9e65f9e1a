/-! ===== the face: document, insert, filter ===== -/
theorem sp_documentX {σ : xSig} {n w : Int} (hw : xr w) (hh : ¬ (0 ≤ w ∧ w ≤ 2)) : x_Sp MX11_document 1 6 [.ref 0, .int (ii n), .int (ii w)] (St σ) tIAE (St σ) := by
  unfold xr at hw
  have fin : x_E MX11_document 1 6 9 [some (.ref 0), some (.int (ii n)), some (.int (ii w)), none] [] (St σ) 0 0 tIAE (St σ) := by
    exact e_throwW 5 thX11_82_86 rfl rfl rfl rfl rfl stX11_276 (Nat.le_of_ble_eq_true rfl) (Nat.le_of_ble_eq_true rfl) (Nat.le_of_ble_eq_true rfl) (Nat.le_of_ble_eq_true rfl) (Nat.le_of_ble_eq_true rfl)
  refine e_entry okX11_document (Nat.le_of_ble_eq_true rfl) (ls := [some _, some _, some _, none]) rfl ?_
  refine e_iload_n 0 1 rfl rfl rfl rfl ?_
  refine e_if_lt 1 9 4 rfl rfl rfl (by unfold xr at *; omega) (fun h => ?_) (fun h => ?_)
  · skip
    exact fin
  · skip
    refine e_iload_n 2 5 rfl rfl rfl rfl ?_
    refine e_iconst 3 6 rfl rfl ?_
    refine e_icmp_le 4 20 9 rfl rfl rfl (by unfold xr at *; omega) (by unfold xr at *; omega) (fun h9 => absurd h9 (by omega)) (fun _ => ?_)
    exact fin
theorem sp_documentN {σ : xSig} (h01 : n01 σ 27) {n w : Int} (hn : xr n) (hh : 0 ≤ w ∧ w ≤ 2) (hd : hasd σ n = false) : x_Sp MX11_document 0 0 [.ref 0, .int (ii n), .int (ii w)] (St σ) (iv (-1)) (St σ) := by
  have hi := sp_has h01 hn
  rw [hd] at hi
  refine e_entry okX11_document (Nat.le_of_ble_eq_true rfl) (ls := [some _, some _, some _, none]) rfl ?_
  refine e_iload_n 0 1 rfl rfl rfl rfl ?_
  refine e_if_lt 1 9 4 rfl rfl rfl (by unfold xr at *; omega) (fun h9 => absurd h9 (by omega)) (fun _ => ?_)
  refine e_iload_n 2 5 rfl rfl rfl rfl ?_
  refine e_iconst 3 6 rfl rfl ?_
  refine e_icmp_le 4 20 9 rfl rfl rfl (by unfold xr at *; omega) (by unfold xr at *; omega) (fun _ => ?_) (fun h9 => absurd h9 (by omega))
  refine e_aload_n 10 21 rfl rfl rfl rfl ?_
  refine g_getR 11 24 ckX11 flX11_19 rfl rfl (Nat.le_of_ble_eq_true rfl) rfl rfl ?_
  refine e_iload_n 12 25 rfl rfl rfl rfl ?_
  refine g_callV 13 28 (hi) okX8_has cvX11_151 ⟨(Nat.le_of_ble_eq_true rfl), (Nat.le_of_ble_eq_true rfl)⟩ rfl rfl (Nat.le_of_ble_eq_true rfl) rfl rfl rfl rfl rfl (Nat.le_of_ble_eq_true rfl) (Nat.le_of_ble_eq_true rfl) (Nat.le_of_ble_eq_true rfl) ?_
  refine e_ifb_ne 14 33 31 rfl rfl rfl (fun h2 => ?_) (fun h2 => ?_)
  · skip
    cases h2
  · skip
    refine e_iconst 15 32 rfl rfl ?_
    exact e_ireturn 16 rfl rfl (Nat.le_of_ble_eq_true rfl) (Nat.le_of_ble_eq_true rfl)
theorem sp_document1 {σ : xSig} {T : Nat → List Int} (hA : VAll σ T) (h01 : n01 σ 27) (h : CHR σ) {n : Nat} {w : Int} (hh : 0 ≤ w ∧ w ≤ 2) (hd : hasd σ n = true) : x_Sp MX11_document 0 0 [.ref 0, .int (ii n), .int (ii w)] (St σ) (iv (if w = 0 then shd σ (T (31 + 2 * n)) else if w = 1 then kyo σ (T (31 + 2 * n)) else pts (T (31 + 2 * n)))) (St σ) := by
  have hni := hasd_in hd
  have hi := sp_has h01 (n := n) (by unfold xr; omega)
  rw [hd] at hi
  have hat := sp_stAt h01 (n := n) (by unfold xr; omega)
  rw [da_has hd] at hat
  have hV := hA _ (vO_s n (by omega)).1
  refine e_entry okX11_document (Nat.le_of_ble_eq_true rfl) (ls := [some _, some _, some _, none]) rfl ?_
  refine e_iload_n 0 1 rfl rfl rfl rfl ?_
  refine e_if_lt 1 9 4 rfl rfl rfl (by unfold xr at *; omega) (fun h9 => absurd h9 (by omega)) (fun _ => ?_)
  refine e_iload_n 2 5 rfl rfl rfl rfl ?_
  refine e_iconst 3 6 rfl rfl ?_
  refine e_icmp_le 4 20 9 rfl rfl rfl (by unfold xr at *; omega) (by unfold xr at *; omega) (fun _ => ?_) (fun h9 => absurd h9 (by omega))
  refine e_aload_n 10 21 rfl rfl rfl rfl ?_
  refine g_getR 11 24 ckX11 flX11_19 rfl rfl (Nat.le_of_ble_eq_true rfl) rfl rfl ?_
  refine e_iload_n 12 25 rfl rfl rfl rfl ?_
  refine g_callV 13 28 (hi) okX8_has cvX11_151 ⟨(Nat.le_of_ble_eq_true rfl), (Nat.le_of_ble_eq_true rfl)⟩ rfl rfl (Nat.le_of_ble_eq_true rfl) rfl rfl rfl rfl rfl (Nat.le_of_ble_eq_true rfl) (Nat.le_of_ble_eq_true rfl) (Nat.le_of_ble_eq_true rfl) ?_
  refine e_ifb_ne 14 33 31 rfl rfl rfl (fun h2 => ?_) (fun h2 => ?_)
  · skip
    refine e_aload_n 17 34 rfl rfl rfl rfl ?_
    refine g_getR 18 37 ckX11 flX11_19 rfl rfl (Nat.le_of_ble_eq_true rfl) rfl rfl ?_
    refine e_iload_n 19 38 rfl rfl rfl rfl ?_
    refine g_callV 20 41 (hat) okX8_at cvX11_182 ⟨(Nat.le_of_ble_eq_true rfl), (Nat.le_of_ble_eq_true rfl)⟩ rfl rfl (Nat.le_of_ble_eq_true rfl) rfl rfl rfl rfl rfl (Nat.le_of_ble_eq_true rfl) (Nat.le_of_ble_eq_true rfl) (Nat.le_of_ble_eq_true rfl) ?_
    refine e_astore_n 21 42 (ls' := [some _, some _, some _, some _]) rfl rfl rfl (Nat.le_of_ble_eq_true rfl) rfl ?_
    refine e_iload_n 22 43 rfl rfl rfl rfl ?_
    refine e_if_ne 23 55 46 rfl rfl rfl (by unfold xr at *; omega) (fun h3 => ?_) (fun h3 => ?_)
    · skip
      rw [if_neg h3]
      refine e_iload_n 29 56 rfl rfl rfl rfl ?_
      refine e_iconst 30 57 rfl rfl ?_
      refine e_icmp_ne 31 71 60 rfl rfl rfl (by unfold xr at *; omega) (by unfold xr at *; omega) (fun h4 => ?_) (fun h4 => ?_)
      · skip
        rw [if_neg h4]
        refine e_aload_n 37 72 rfl rfl rfl rfl ?_
        refine g_callV 38 75 (sp_pts hV) okX10_parts cvX11_106 ⟨(Nat.le_of_ble_eq_true rfl), (Nat.le_of_ble_eq_true rfl)⟩ rfl rfl hV.1.1 hV.1.2.2.1 rfl rfl rfl rfl (Nat.le_of_ble_eq_true rfl) (Nat.le_of_ble_eq_true rfl) (Nat.le_of_ble_eq_true rfl) ?_
        exact e_ireturn 39 rfl rfl (Nat.le_of_ble_eq_true rfl) (Nat.le_of_ble_eq_true rfl)
      · skip
        rw [if_pos h4]
        refine e_aload_n 32 61 rfl rfl rfl rfl ?_
        refine g_getR 33 64 ckX11 flX11_26 rfl rfl (Nat.le_of_ble_eq_true rfl) rfl rfl ?_
        refine e_aload_n 34 65 rfl rfl rfl rfl ?_
        refine g_callV 35 68 (sp_keyOf h hV) okX0_keyOf cvX11_367 ⟨(Nat.le_of_ble_eq_true rfl), (Nat.le_of_ble_eq_true rfl)⟩ rfl rfl (Nat.le_of_ble_eq_true rfl) rfl rfl rfl rfl rfl (Nat.le_of_ble_eq_true rfl) (Nat.le_of_ble_eq_true rfl) (Nat.le_of_ble_eq_true rfl) ?_
        refine e_goto 36 75 rfl rfl ?_
        exact e_ireturn 39 rfl rfl (Nat.le_of_ble_eq_true rfl) (Nat.le_of_ble_eq_true rfl)
    · skip
      rw [if_pos h3]
      refine e_aload_n 24 47 rfl rfl rfl rfl ?_
      refine g_getR 25 50 ckX11 flX11_26 rfl rfl (Nat.le_of_ble_eq_true rfl) rfl rfl ?_
      refine e_aload_n 26 51 rfl rfl rfl rfl ?_
      refine g_callV 27 54 (sp_shardOf h hV) okX0_shardOf cvX11_363 ⟨(Nat.le_of_ble_eq_true rfl), (Nat.le_of_ble_eq_true rfl)⟩ rfl rfl (Nat.le_of_ble_eq_true rfl) rfl rfl rfl rfl rfl (Nat.le_of_ble_eq_true rfl) (Nat.le_of_ble_eq_true rfl) (Nat.le_of_ble_eq_true rfl) ?_
      exact e_ireturn 28 rfl rfl (Nat.le_of_ble_eq_true rfl) (Nat.le_of_ble_eq_true rfl)
  · skip
    cases h2
/-! filter -/
theorem sp_filterX {σ : xSig} {x y : Int} (hx : xr x) (hy : xr y) (hh : ¬ ((0 ≤ x ∧ x < 72) ∧ 0 ≤ y ∧ y ≤ 4)) : x_Sp MX11_filter 1 6 [.ref 0, .int (ii x), .int (ii y)] (St σ) tIAE (St σ) := by
  have h := sp_isPath (σ := σ) hx
  have fin : x_E MX11_filter 1 6 16 [some (.ref 0), some (.int (ii x)), some (.int (ii y))] [] (St σ) 0 0 tIAE (St σ) := by
    exact e_throw 8 thX11_82_86 rfl rfl rfl rfl rfl stX11_241 (Nat.le_of_ble_eq_true rfl) (Nat.le_of_ble_eq_true rfl) (Nat.le_of_ble_eq_true rfl) (Nat.le_of_ble_eq_true rfl) (Nat.le_of_ble_eq_true rfl)
  refine e_entry okX11_filter (Nat.le_of_ble_eq_true rfl) (ls := [some _, some _, some _]) rfl ?_
  refine e_iload_n 0 1 rfl rfl rfl rfl ?_
  refine g_callS 1 4 (h) okX11_isPath csX11_171 ⟨(Nat.le_of_ble_eq_true rfl), (Nat.le_of_ble_eq_true rfl)⟩ rfl rfl rfl rfl (Nat.le_of_ble_eq_true rfl) (Nat.le_of_ble_eq_true rfl) (Nat.le_of_ble_eq_true rfl) ?_
  refine e_ifb_eq 2 16 7 rfl rfl rfl (fun h2 => ?_) (fun h2 => ?_)
  · skip
    exact fin
  · skip
    have h3 := of_decide_eq_true h2
    refine e_iload_n 3 8 rfl rfl rfl rfl ?_
    refine e_if_lt 4 16 11 rfl rfl rfl (by unfold xr at *; omega) (fun h4 => ?_) (fun h4 => ?_)
    · skip
      exact fin
    · skip
      refine e_iload_n 5 12 rfl rfl rfl rfl ?_
      refine e_iconst 6 13 rfl rfl ?_
      refine e_icmp_le 7 26 16 rfl rfl rfl (by unfold xr at *; omega) (by unfold xr at *; omega) (fun h9 => absurd h9 (by omega)) (fun _ => ?_)
      exact fin
theorem sp_filterX2 {σ : xSig} (hn : 0 ≤ σ 1 2 ∧ σ 1 2 ≤ 10) (h4 : 0 ≤ σ 256 4 ∧ σ 256 4 ≤ 3) {x y : Int} (hp : 0 ≤ x ∧ x < 72) (hy : 0 ≤ y ∧ y ≤ 4) (hc : σ 1 2 = 0 ∨ σ 256 4 = 3) : x_Sp MX11_filter 1 6 [.ref 0, .int (ii x), .int (ii y)] (St σ) tISE (St σ) := by
  have h := sp_isPath (σ := σ) (x := x) (by unfold xr; omega)
  rw [decide_eq_true hp] at h
  have hf := sp_qFull (σ := σ) h4
  have fin : x_E MX11_filter 1 6 46 [some (.ref 0), some (.int (ii x)), some (.int (ii y))] [] (St σ) 0 0 tISE (St σ) := by
    exact e_throw 21 thX11_101_105 rfl rfl rfl rfl rfl stX11_246 (Nat.le_of_ble_eq_true rfl) (Nat.le_of_ble_eq_true rfl) (Nat.le_of_ble_eq_true rfl) (Nat.le_of_ble_eq_true rfl) (Nat.le_of_ble_eq_true rfl)
  refine e_entry okX11_filter (Nat.le_of_ble_eq_true rfl) (ls := [some _, some _, some _]) rfl ?_
  refine e_iload_n 0 1 rfl rfl rfl rfl ?_
  refine g_callS 1 4 (h) okX11_isPath csX11_171 ⟨(Nat.le_of_ble_eq_true rfl), (Nat.le_of_ble_eq_true rfl)⟩ rfl rfl rfl rfl (Nat.le_of_ble_eq_true rfl) (Nat.le_of_ble_eq_true rfl) (Nat.le_of_ble_eq_true rfl) ?_
  refine e_ifb_eq 2 16 7 rfl rfl rfl (fun h2 => ?_) (fun h2 => ?_)
  · skip
    cases h2
  · skip
    refine e_iload_n 3 8 rfl rfl rfl rfl ?_
    refine e_if_lt 4 16 11 rfl rfl rfl (by unfold xr at *; omega) (fun h9 => absurd h9 (by omega)) (fun _ => ?_)
    refine e_iload_n 5 12 rfl rfl rfl rfl ?_
    refine e_iconst 6 13 rfl rfl ?_
    refine e_icmp_le 7 26 16 rfl rfl rfl (by unfold xr at *; omega) (by unfold xr at *; omega) (fun _ => ?_) (fun h9 => absurd h9 (by omega))
    refine e_aload_n 13 27 rfl rfl rfl rfl ?_
    refine g_getR 14 30 ckX11 flX11_12 rfl rfl (Nat.le_of_ble_eq_true rfl) rfl rfl ?_
    refine g_callV 15 33 (sp_pEmpty hn) okX5_isEmpty cvX11_176 ⟨(Nat.le_of_ble_eq_true rfl), (Nat.le_of_ble_eq_true rfl)⟩ rfl rfl (Nat.le_of_ble_eq_true rfl) rfl rfl rfl rfl rfl (Nat.le_of_ble_eq_true rfl) (Nat.le_of_ble_eq_true rfl) (Nat.le_of_ble_eq_true rfl) ?_
    refine e_ifb_ne 16 46 36 rfl rfl rfl (fun h3 => ?_) (fun h3 => ?_)
    · skip
      exact fin
    · skip
      have h9 := of_decide_eq_false h3
      rw [decide_eq_true (by omega)] at hf
      refine e_aload_n 17 37 rfl rfl rfl rfl ?_
      refine g_getR 18 40 ckX11 flX11_54 rfl rfl (Nat.le_of_ble_eq_true rfl) rfl rfl ?_
      refine g_callV 19 43 (hf) okX7_isFull cvX11_243 ⟨(Nat.le_of_ble_eq_true rfl), (Nat.le_of_ble_eq_true rfl)⟩ rfl rfl (Nat.le_of_ble_eq_true rfl) rfl rfl rfl rfl rfl (Nat.le_of_ble_eq_true rfl) (Nat.le_of_ble_eq_true rfl) (Nat.le_of_ble_eq_true rfl) ?_
      refine e_ifb_eq 20 56 46 rfl rfl rfl (fun h5 => ?_) (fun h5 => ?_)
      · skip
        cases h5
      · skip
        exact fin
theorem sp_filterX3 {σ : xSig} {T : Nat → List Int} (hA : VAll σ T) (hn : 0 < σ 1 2 ∧ σ 1 2 ≤ 10) (h4 : 0 ≤ σ 256 4 ∧ σ 256 4 < 3) {x : Int} (hp : 0 ≤ x ∧ x < 72) (hk : knd (tok (T (vtop σ)) 0) ≠ 1) : x_Sp MX11_filter 1 6 [.ref 0, .int (ii x), .int (ii 4)] (St σ) tISE (St σ) := by
  have h := sp_isPath (σ := σ) (x := x) (by unfold xr; omega)
  rw [decide_eq_true hp] at h
  have hf := sp_qFull (σ := σ) (by omega)
  rw [decide_eq_false (by omega)] at hf
  have hpe := sp_pEmpty (σ := σ) (by omega)
  rw [decide_eq_false (by omega)] at hpe
  have hW : VH σ (vtop σ) (vCap (vtop σ)) (T (vtop σ)) := hA _ (pv_vO _)
  have hkk := sp_kindAt hW xr_0
  have hkb := knd_bnd (tok (T (vtop σ)) 0)
  refine e_entry okX11_filter (Nat.le_of_ble_eq_true rfl) (ls := [some _, some _, some _]) rfl ?_
  refine e_iload_n 0 1 rfl rfl rfl rfl ?_
  refine g_callS 1 4 (h) okX11_isPath csX11_171 ⟨(Nat.le_of_ble_eq_true rfl), (Nat.le_of_ble_eq_true rfl)⟩ rfl rfl rfl rfl (Nat.le_of_ble_eq_true rfl) (Nat.le_of_ble_eq_true rfl) (Nat.le_of_ble_eq_true rfl) ?_
  refine e_ifb_eq 2 16 7 rfl rfl rfl (fun h2 => ?_) (fun h2 => ?_)
  · skip
    cases h2
  · skip
    refine e_iload_n 3 8 rfl rfl rfl rfl ?_
    refine e_if_lt 4 16 11 rfl rfl rfl (by unfold xr at *; omega) (fun h9 => absurd h9 (by omega)) (fun _ => ?_)
    refine e_iload_n 5 12 rfl rfl rfl rfl ?_
    refine e_iconst 6 13 rfl rfl ?_
    refine e_icmp_le 7 26 16 rfl rfl rfl (by unfold xr at *; omega) (by unfold xr at *; omega) (fun _ => ?_) (fun h9 => absurd h9 (by omega))
    refine e_aload_n 13 27 rfl rfl rfl rfl ?_
    refine g_getR 14 30 ckX11 flX11_12 rfl rfl (Nat.le_of_ble_eq_true rfl) rfl rfl ?_
    refine g_callV 15 33 (hpe) okX5_isEmpty cvX11_176 ⟨(Nat.le_of_ble_eq_true rfl), (Nat.le_of_ble_eq_true rfl)⟩ rfl rfl (Nat.le_of_ble_eq_true rfl) rfl rfl rfl rfl rfl (Nat.le_of_ble_eq_true rfl) (Nat.le_of_ble_eq_true rfl) (Nat.le_of_ble_eq_true rfl) ?_
    refine e_ifb_ne 16 46 36 rfl rfl rfl (fun h3 => ?_) (fun h3 => ?_)
    · skip
      cases h3
    · skip
      refine e_aload_n 17 37 rfl rfl rfl rfl ?_
      refine g_getR 18 40 ckX11 flX11_54 rfl rfl (Nat.le_of_ble_eq_true rfl) rfl rfl ?_
      refine g_callV 19 43 (hf) okX7_isFull cvX11_243 ⟨(Nat.le_of_ble_eq_true rfl), (Nat.le_of_ble_eq_true rfl)⟩ rfl rfl (Nat.le_of_ble_eq_true rfl) rfl rfl rfl rfl rfl (Nat.le_of_ble_eq_true rfl) (Nat.le_of_ble_eq_true rfl) (Nat.le_of_ble_eq_true rfl) ?_
      refine e_ifb_eq 20 56 46 rfl rfl rfl (fun h5 => ?_) (fun h5 => ?_)
      · skip
        refine e_iload_n 26 57 rfl rfl rfl rfl ?_
        refine e_iconst 27 58 rfl rfl ?_
        refine e_icmp_ne 28 86 61 rfl rfl rfl (by unfold xr at *; omega) (by unfold xr at *; omega) (fun h9 => absurd h9 (by omega)) (fun _ => ?_)
        refine e_aload_n 29 62 rfl rfl rfl rfl ?_
        refine g_getR 30 65 ckX11 flX11_12 rfl rfl (Nat.le_of_ble_eq_true rfl) rfl rfl ?_
        refine g_callV 31 68 (sp_pTop (by omega)) okX5_top cvX11_95 ⟨(Nat.le_of_ble_eq_true rfl), (Nat.le_of_ble_eq_true rfl)⟩ rfl rfl (Nat.le_of_ble_eq_true rfl) rfl rfl rfl rfl rfl (Nat.le_of_ble_eq_true rfl) (Nat.le_of_ble_eq_true rfl) (Nat.le_of_ble_eq_true rfl) ?_
        refine e_iconst 32 69 rfl rfl ?_
        refine g_callV 33 72 (hkk) okX10_kindAt cvX11_98 ⟨(Nat.le_of_ble_eq_true rfl), (Nat.le_of_ble_eq_true rfl)⟩ rfl rfl hW.1.1 hW.1.2.2.1 rfl rfl rfl rfl (Nat.le_of_ble_eq_true rfl) (Nat.le_of_ble_eq_true rfl) (Nat.le_of_ble_eq_true rfl) ?_
        refine e_iconst 34 73 rfl rfl ?_
        refine e_icmp_eq 35 86 76 rfl rfl rfl (by unfold xr at *; omega) (by unfold xr at *; omega) (fun h9 => absurd h9 (by omega)) (fun _ => ?_)
        exact e_throw 36 thX11_101_105 rfl rfl rfl rfl rfl stX11_248 (Nat.le_of_ble_eq_true rfl) (Nat.le_of_ble_eq_true rfl) (Nat.le_of_ble_eq_true rfl) (Nat.le_of_ble_eq_true rfl) (Nat.le_of_ble_eq_true rfl)
      · skip
        cases h5
theorem sp_filter1 {σ : xSig} {T : Nat → List Int} (hA : VAll σ T) (hn : 0 < σ 1 2 ∧ σ 1 2 ≤ 10) (h4 : 0 ≤ σ 256 4 ∧ σ 256 4 < 3) {x y : Int} (hp : 0 ≤ x ∧ x < 72) (hy : 0 ≤ y ∧ y ≤ 4) (hk : y = 4 → knd (tok (T (vtop σ)) 0) = 1) (hl : (T (vtop σ)).length ≤ 72) :
    ∃ σ' : xSig, x_Sp MX11_filter 0 0 [.ref 0, .int (ii x), .int (ii y)] (St σ) (iv (σ 256 4 + 1)) (St (xu (xu σ' 256 4 (σ 256 4 + 1)) 1 2 (σ 1 2 - 1))) ∧ VAll σ' (uT T (qf (σ 256 4) + 1) (T (vtop σ))) ∧ NV [] (xu (xu σ (qf (σ 256 4)) 1 x) (qf (σ 256 4)) 2 y) σ' := by
  have h := sp_isPath (σ := σ) (x := x) (by unfold xr; omega)
  rw [decide_eq_true hp] at h
  have hf := sp_qFull (σ := σ) (by omega)
  rw [decide_eq_false (by omega)] at hf
  have hpe := sp_pEmpty (σ := σ) (by omega)
  rw [decide_eq_false (by omega)] at hpe
  have hvt : vO (vtop σ) = true := pv_vO _
  have hW : VH σ (vtop σ) (vCap (vtop σ)) (T (vtop σ)) := hA _ hvt
  have hkk := sp_kindAt hW xr_0
  have hkb := knd_bnd (tok (T (vtop σ)) 0)
  have hqn := qf_ne (σ 256 4)
  have hvn : vtop σ ≠ qf (σ 256 4) + 1 := by
    have : vtop σ = 5 + 2 * (σ 1 2 - 1).toNat := pv_in (by omega) (by omega)
    omega
  obtain ⟨σ', k1, k2, k3⟩ := sp_addFilter hA h4 hvt hvn hl (x := x) (y := y)
  have e1 : xu σ' 256 4 (σ 256 4 + 1) 1 2 = σ 1 2 := by
    rw [xu_other _ _ _ (by decide), k3 1 (by decide +kernel) (by simp), xu_other _ _ _ (by omega), xu_other _ _ _ (by omega)]
  have htt := sp_takeTop (σ := xu σ' 256 4 (σ 256 4 + 1)) (by omega)
  rw [e1] at htt
  have hqs := sp_qSize (σ := xu (xu σ' 256 4 (σ 256 4 + 1)) 1 2 (σ 1 2 - 1))
  rw [show xu (xu σ' 256 4 (σ 256 4 + 1)) 1 2 (σ 1 2 - 1) 256 4 = σ 256 4 + 1 by rw [xu_other _ _ _ (by decide), xu_same]] at hqs
  have fin : x_E MX11_filter 0 0 86 [some (.ref 0), some (.int (ii x)), some (.int (ii y))] [] (St σ) 0 0 (iv (σ 256 4 + 1)) (St (xu (xu σ' 256 4 (σ 256 4 + 1)) 1 2 (σ 1 2 - 1))) := by
    refine e_aload_n 41 87 rfl rfl rfl rfl ?_
    refine g_getR 42 90 ckX11 flX11_54 rfl rfl (Nat.le_of_ble_eq_true rfl) rfl rfl ?_
    refine e_iload_n 43 91 rfl rfl rfl rfl ?_
    refine e_iload_n 44 92 rfl rfl rfl rfl ?_
    refine e_aload_n 45 93 rfl rfl rfl rfl ?_
    refine g_getR 46 96 ckX11 flX11_12 rfl rfl (Nat.le_of_ble_eq_true rfl) rfl rfl ?_
    refine g_callV 47 99 (sp_pTop (by omega)) okX5_top cvX11_95 ⟨(Nat.le_of_ble_eq_true rfl), (Nat.le_of_ble_eq_true rfl)⟩ rfl rfl (Nat.le_of_ble_eq_true rfl) rfl rfl rfl rfl rfl (Nat.le_of_ble_eq_true rfl) (Nat.le_of_ble_eq_true rfl) (Nat.le_of_ble_eq_true rfl) ?_
    refine g_callV 48 102 (k1) okX7_addFilter cvX11_250 ⟨(Nat.le_of_ble_eq_true rfl), (Nat.le_of_ble_eq_true rfl)⟩ rfl rfl (Nat.le_of_ble_eq_true rfl) rfl rfl rfl rfl rfl (Nat.le_of_ble_eq_true rfl) (Nat.le_of_ble_eq_true rfl) (Nat.le_of_ble_eq_true rfl) ?_
    refine e_aload_n 49 103 rfl rfl rfl rfl ?_
    refine g_getR 50 106 ckX11 flX11_12 rfl rfl (Nat.le_of_ble_eq_true rfl) rfl rfl ?_
    refine g_callV 51 109 (htt) okX5_takeTop cvX11_116 ⟨(Nat.le_of_ble_eq_true rfl), (Nat.le_of_ble_eq_true rfl)⟩ rfl rfl (Nat.le_of_ble_eq_true rfl) rfl rfl rfl rfl rfl (Nat.le_of_ble_eq_true rfl) (Nat.le_of_ble_eq_true rfl) (Nat.le_of_ble_eq_true rfl) ?_
    refine e_pop 52 110 rfl rfl rfl ?_
    refine e_aload_n 53 111 rfl rfl rfl rfl ?_
    refine g_getR 54 114 ckX11 flX11_54 rfl rfl (Nat.le_of_ble_eq_true rfl) rfl rfl ?_
    refine g_callV 55 117 (hqs) okX7_size cvX11_253 ⟨(Nat.le_of_ble_eq_true rfl), (Nat.le_of_ble_eq_true rfl)⟩ rfl rfl (Nat.le_of_ble_eq_true rfl) rfl rfl rfl rfl rfl (Nat.le_of_ble_eq_true rfl) (Nat.le_of_ble_eq_true rfl) (Nat.le_of_ble_eq_true rfl) ?_
    exact e_ireturn 56 rfl rfl (Nat.le_of_ble_eq_true rfl) (Nat.le_of_ble_eq_true rfl)
  refine ⟨σ', ?_, k2, k3⟩
  refine e_entry okX11_filter (Nat.le_of_ble_eq_true rfl) (ls := [some _, some _, some _]) rfl ?_
  refine e_iload_n 0 1 rfl rfl rfl rfl ?_
  refine g_callS 1 4 (h) okX11_isPath csX11_171 ⟨(Nat.le_of_ble_eq_true rfl), (Nat.le_of_ble_eq_true rfl)⟩ rfl rfl rfl rfl (Nat.le_of_ble_eq_true rfl) (Nat.le_of_ble_eq_true rfl) (Nat.le_of_ble_eq_true rfl) ?_
  refine e_ifb_eq 2 16 7 rfl rfl rfl (fun h2 => ?_) (fun h2 => ?_)
  · skip
    cases h2
  · skip
    refine e_iload_n 3 8 rfl rfl rfl rfl ?_
    refine e_if_lt 4 16 11 rfl rfl rfl (by unfold xr at *; omega) (fun h9 => absurd h9 (by omega)) (fun _ => ?_)
    refine e_iload_n 5 12 rfl rfl rfl rfl ?_
    refine e_iconst 6 13 rfl rfl ?_
    refine e_icmp_le 7 26 16 rfl rfl rfl (by unfold xr at *; omega) (by unfold xr at *; omega) (fun _ => ?_) (fun h9 => absurd h9 (by omega))
    refine e_aload_n 13 27 rfl rfl rfl rfl ?_
    refine g_getR 14 30 ckX11 flX11_12 rfl rfl (Nat.le_of_ble_eq_true rfl) rfl rfl ?_
    refine g_callV 15 33 (hpe) okX5_isEmpty cvX11_176 ⟨(Nat.le_of_ble_eq_true rfl), (Nat.le_of_ble_eq_true rfl)⟩ rfl rfl (Nat.le_of_ble_eq_true rfl) rfl rfl rfl rfl rfl (Nat.le_of_ble_eq_true rfl) (Nat.le_of_ble_eq_true rfl) (Nat.le_of_ble_eq_true rfl) ?_
    refine e_ifb_ne 16 46 36 rfl rfl rfl (fun h3 => ?_) (fun h3 => ?_)
    · skip
      cases h3
    · skip
      refine e_aload_n 17 37 rfl rfl rfl rfl ?_
      refine g_getR 18 40 ckX11 flX11_54 rfl rfl (Nat.le_of_ble_eq_true rfl) rfl rfl ?_
      refine g_callV 19 43 (hf) okX7_isFull cvX11_243 ⟨(Nat.le_of_ble_eq_true rfl), (Nat.le_of_ble_eq_true rfl)⟩ rfl rfl (Nat.le_of_ble_eq_true rfl) rfl rfl rfl rfl rfl (Nat.le_of_ble_eq_true rfl) (Nat.le_of_ble_eq_true rfl) (Nat.le_of_ble_eq_true rfl) ?_
      refine e_ifb_eq 20 56 46 rfl rfl rfl (fun h5 => ?_) (fun h5 => ?_)
      · skip
        refine e_iload_n 26 57 rfl rfl rfl rfl ?_
        refine e_iconst 27 58 rfl rfl ?_
        refine e_icmp_ne 28 86 61 rfl rfl rfl (by unfold xr at *; omega) (by unfold xr at *; omega) (fun h6 => ?_) (fun h6 => ?_)
        · skip
          exact fin
        · skip
          rw [hk h6] at hkk
          refine e_aload_n 29 62 rfl rfl rfl rfl ?_
          refine g_getR 30 65 ckX11 flX11_12 rfl rfl (Nat.le_of_ble_eq_true rfl) rfl rfl ?_
          refine g_callV 31 68 (sp_pTop (by omega)) okX5_top cvX11_95 ⟨(Nat.le_of_ble_eq_true rfl), (Nat.le_of_ble_eq_true rfl)⟩ rfl rfl (Nat.le_of_ble_eq_true rfl) rfl rfl rfl rfl rfl (Nat.le_of_ble_eq_true rfl) (Nat.le_of_ble_eq_true rfl) (Nat.le_of_ble_eq_true rfl) ?_
          refine e_iconst 32 69 rfl rfl ?_
          refine g_callV 33 72 (hkk) okX10_kindAt cvX11_98 ⟨(Nat.le_of_ble_eq_true rfl), (Nat.le_of_ble_eq_true rfl)⟩ rfl rfl hW.1.1 hW.1.2.2.1 rfl rfl rfl rfl (Nat.le_of_ble_eq_true rfl) (Nat.le_of_ble_eq_true rfl) (Nat.le_of_ble_eq_true rfl) ?_
          refine e_iconst 34 73 rfl rfl ?_
          refine e_icmp_eq 35 86 76 rfl rfl rfl (by unfold xr at *; omega) (by unfold xr at *; omega) (fun _ => ?_) (fun h9 => absurd h9 (by omega))
          exact fin
      · skip
        cases h5
