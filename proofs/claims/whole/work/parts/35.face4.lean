/-! ===== the face: shards ===== -/
theorem sp_splitX {σ : xSig} (h : CHR σ) {c z : Int} (hc : xr c) (hh : chas σ c = false) : x_Sp MX11_split 1 6 [.ref 0, .int (ii c), .int (ii z)] (St σ) tIOB (St σ) := by
  have hi := sp_chHas h hc
  rw [hh] at hi
  refine e_entry okX11_split (Nat.le_of_ble_eq_true rfl) (ls := [some _, some _, some _]) rfl ?_
  refine e_aload_n 0 1 rfl rfl rfl rfl ?_
  refine g_getR 1 4 ckX11 flX11_26 rfl rfl (Nat.le_of_ble_eq_true rfl) rfl rfl ?_
  refine e_iload_n 2 5 rfl rfl rfl rfl ?_
  refine g_callV 3 8 (hi) okX0_has cvX11_295 ⟨(Nat.le_of_ble_eq_true rfl), (Nat.le_of_ble_eq_true rfl)⟩ rfl rfl (Nat.le_of_ble_eq_true rfl) rfl rfl rfl rfl rfl (Nat.le_of_ble_eq_true rfl) (Nat.le_of_ble_eq_true rfl) (Nat.le_of_ble_eq_true rfl) ?_
  refine e_ifb_ne 4 22 11 rfl rfl rfl (fun h2 => ?_) (fun h2 => ?_)
  · skip
    cases h2
  · skip
    exact e_throwW 5 thX11_166_170 rfl rfl rfl rfl rfl stX11_296 (Nat.le_of_ble_eq_true rfl) (Nat.le_of_ble_eq_true rfl) (Nat.le_of_ble_eq_true rfl) (Nat.le_of_ble_eq_true rfl) (Nat.le_of_ble_eq_true rfl)
theorem sp_splitX2 {σ : xSig} (h : CHR σ) {c z : Int} (hz : xr z) (hh : chas σ c = true) (hz2 : z ≤ cfst σ c ∨ cfst σ (c + 1) ≤ z) : x_Sp MX11_split 1 6 [.ref 0, .int (ii c), .int (ii z)] (St σ) tIAE (St σ) := by
  have hci : 0 ≤ c ∧ c < σ 231 7 := of_decide_eq_true hh
  have h7 := h.1
  have hi := sp_chHas h (c := c) (by unfold xr; omega)
  rw [hh] at hi
  have b1 := cfst_bnd h c
  have b2 := cfst_bnd h (c + 1)
  have fin : x_E MX11_split 1 6 46 [some (.ref 0), some (.int (ii c)), some (.int (ii z))] [] (St σ) 0 0 tIAE (St σ) := by
    exact e_throwW 22 thX11_82_86 rfl rfl rfl rfl rfl stX11_304 (Nat.le_of_ble_eq_true rfl) (Nat.le_of_ble_eq_true rfl) (Nat.le_of_ble_eq_true rfl) (Nat.le_of_ble_eq_true rfl) (Nat.le_of_ble_eq_true rfl)
  refine e_entry okX11_split (Nat.le_of_ble_eq_true rfl) (ls := [some _, some _, some _]) rfl ?_
  refine e_aload_n 0 1 rfl rfl rfl rfl ?_
  refine g_getR 1 4 ckX11 flX11_26 rfl rfl (Nat.le_of_ble_eq_true rfl) rfl rfl ?_
  refine e_iload_n 2 5 rfl rfl rfl rfl ?_
  refine g_callV 3 8 (hi) okX0_has cvX11_295 ⟨(Nat.le_of_ble_eq_true rfl), (Nat.le_of_ble_eq_true rfl)⟩ rfl rfl (Nat.le_of_ble_eq_true rfl) rfl rfl rfl rfl rfl (Nat.le_of_ble_eq_true rfl) (Nat.le_of_ble_eq_true rfl) (Nat.le_of_ble_eq_true rfl) ?_
  refine e_ifb_ne 4 22 11 rfl rfl rfl (fun h2 => ?_) (fun h2 => ?_)
  · skip
    refine e_iload_n 10 23 rfl rfl rfl rfl ?_
    refine e_aload_n 11 24 rfl rfl rfl rfl ?_
    refine g_getR 12 27 ckX11 flX11_26 rfl rfl (Nat.le_of_ble_eq_true rfl) rfl rfl ?_
    refine e_iload_n 13 28 rfl rfl rfl rfl ?_
    refine g_callV 14 31 (sp_firstOf h (c := c) (by unfold xr; omega)) okX0_firstOf cvX11_298 ⟨(Nat.le_of_ble_eq_true rfl), (Nat.le_of_ble_eq_true rfl)⟩ rfl rfl (Nat.le_of_ble_eq_true rfl) rfl rfl rfl rfl rfl (Nat.le_of_ble_eq_true rfl) (Nat.le_of_ble_eq_true rfl) (Nat.le_of_ble_eq_true rfl) ?_
    refine e_icmp_le 15 46 34 rfl rfl rfl (by unfold xr at *; omega) (by unfold xr at *; omega) (fun h3 => ?_) (fun h3 => ?_)
    · skip
      exact fin
    · skip
      refine e_iload_n 16 35 rfl rfl rfl rfl ?_
      refine e_aload_n 17 36 rfl rfl rfl rfl ?_
      refine g_getR 18 39 ckX11 flX11_26 rfl rfl (Nat.le_of_ble_eq_true rfl) rfl rfl ?_
      refine e_iload_n 19 40 rfl rfl rfl rfl ?_
      refine g_callV 20 43 (sp_chEndOf h (c := c) (by unfold xr; omega)) okX0_endOf cvX11_301 ⟨(Nat.le_of_ble_eq_true rfl), (Nat.le_of_ble_eq_true rfl)⟩ rfl rfl (Nat.le_of_ble_eq_true rfl) rfl rfl rfl rfl rfl (Nat.le_of_ble_eq_true rfl) (Nat.le_of_ble_eq_true rfl) (Nat.le_of_ble_eq_true rfl) ?_
      refine e_icmp_lt 21 57 46 rfl rfl rfl (by unfold xr at *; omega) (by unfold xr at *; omega) (fun h9 => absurd h9 (by omega)) (fun _ => ?_)
      exact fin
  · skip
    cases h2
theorem sp_splitX3 {σ : xSig} (h : CHR σ) {c z : Int} (hh : chas σ c = true) (hz2 : cfst σ c < z ∧ z < cfst σ (c + 1)) (hm : ismv σ c = true ∨ 12 ≤ σ 231 7) : x_Sp MX11_split 1 6 [.ref 0, .int (ii c), .int (ii z)] (St σ) tISE (St σ) := by
  have hci : 0 ≤ c ∧ c < σ 231 7 := of_decide_eq_true hh
  have h7 := h.1
  have hi := sp_chHas h (c := c) (by unfold xr; omega)
  rw [hh] at hi
  have b1 := cfst_bnd h c
  have b2 := cfst_bnd h (c + 1)
  have fin : x_E MX11_split 1 6 80 [some (.ref 0), some (.int (ii c)), some (.int (ii z))] [] (St σ) 0 0 tISE (St σ) := by
    exact e_throwW 37 thX11_101_105 rfl rfl rfl rfl rfl stX11_310 (Nat.le_of_ble_eq_true rfl) (Nat.le_of_ble_eq_true rfl) (Nat.le_of_ble_eq_true rfl) (Nat.le_of_ble_eq_true rfl) (Nat.le_of_ble_eq_true rfl)
  refine e_entry okX11_split (Nat.le_of_ble_eq_true rfl) (ls := [some _, some _, some _]) rfl ?_
  refine e_aload_n 0 1 rfl rfl rfl rfl ?_
  refine g_getR 1 4 ckX11 flX11_26 rfl rfl (Nat.le_of_ble_eq_true rfl) rfl rfl ?_
  refine e_iload_n 2 5 rfl rfl rfl rfl ?_
  refine g_callV 3 8 (hi) okX0_has cvX11_295 ⟨(Nat.le_of_ble_eq_true rfl), (Nat.le_of_ble_eq_true rfl)⟩ rfl rfl (Nat.le_of_ble_eq_true rfl) rfl rfl rfl rfl rfl (Nat.le_of_ble_eq_true rfl) (Nat.le_of_ble_eq_true rfl) (Nat.le_of_ble_eq_true rfl) ?_
  refine e_ifb_ne 4 22 11 rfl rfl rfl (fun h2 => ?_) (fun h2 => ?_)
  · skip
    refine e_iload_n 10 23 rfl rfl rfl rfl ?_
    refine e_aload_n 11 24 rfl rfl rfl rfl ?_
    refine g_getR 12 27 ckX11 flX11_26 rfl rfl (Nat.le_of_ble_eq_true rfl) rfl rfl ?_
    refine e_iload_n 13 28 rfl rfl rfl rfl ?_
    refine g_callV 14 31 (sp_firstOf h (c := c) (by unfold xr; omega)) okX0_firstOf cvX11_298 ⟨(Nat.le_of_ble_eq_true rfl), (Nat.le_of_ble_eq_true rfl)⟩ rfl rfl (Nat.le_of_ble_eq_true rfl) rfl rfl rfl rfl rfl (Nat.le_of_ble_eq_true rfl) (Nat.le_of_ble_eq_true rfl) (Nat.le_of_ble_eq_true rfl) ?_
    refine e_icmp_le 15 46 34 rfl rfl rfl (by unfold xr at *; omega) (by unfold xr at *; omega) (fun h9 => absurd h9 (by omega)) (fun _ => ?_)
    refine e_iload_n 16 35 rfl rfl rfl rfl ?_
    refine e_aload_n 17 36 rfl rfl rfl rfl ?_
    refine g_getR 18 39 ckX11 flX11_26 rfl rfl (Nat.le_of_ble_eq_true rfl) rfl rfl ?_
    refine e_iload_n 19 40 rfl rfl rfl rfl ?_
    refine g_callV 20 43 (sp_chEndOf h (c := c) (by unfold xr; omega)) okX0_endOf cvX11_301 ⟨(Nat.le_of_ble_eq_true rfl), (Nat.le_of_ble_eq_true rfl)⟩ rfl rfl (Nat.le_of_ble_eq_true rfl) rfl rfl rfl rfl rfl (Nat.le_of_ble_eq_true rfl) (Nat.le_of_ble_eq_true rfl) (Nat.le_of_ble_eq_true rfl) ?_
    refine e_icmp_lt 21 57 46 rfl rfl rfl (by unfold xr at *; omega) (by unfold xr at *; omega) (fun _ => ?_) (fun h9 => absurd h9 (by omega))
    refine e_aload_n 27 58 rfl rfl rfl rfl ?_
    refine g_getR 28 61 ckX11 flX11_26 rfl rfl (Nat.le_of_ble_eq_true rfl) rfl rfl ?_
    refine e_iload_n 29 62 rfl rfl rfl rfl ?_
    refine g_callV 30 65 (sp_isMoving h (c := c) (by unfold xr; omega)) okX0_isMoving cvX11_306 ⟨(Nat.le_of_ble_eq_true rfl), (Nat.le_of_ble_eq_true rfl)⟩ rfl rfl (Nat.le_of_ble_eq_true rfl) rfl rfl rfl rfl rfl (Nat.le_of_ble_eq_true rfl) (Nat.le_of_ble_eq_true rfl) (Nat.le_of_ble_eq_true rfl) ?_
    refine e_ifb_ne 31 80 68 rfl rfl rfl (fun h3 => ?_) (fun h3 => ?_)
    · skip
      exact fin
    · skip
      rw [h3] at hm
      have h12 := hm.resolve_left (by decide)
      refine e_aload_n 32 69 rfl rfl rfl rfl ?_
      refine g_getR 33 72 ckX11 flX11_26 rfl rfl (Nat.le_of_ble_eq_true rfl) rfl rfl ?_
      refine g_callV 34 75 (sp_chSize) okX0_size cvX11_309 ⟨(Nat.le_of_ble_eq_true rfl), (Nat.le_of_ble_eq_true rfl)⟩ rfl rfl (Nat.le_of_ble_eq_true rfl) rfl rfl rfl rfl rfl (Nat.le_of_ble_eq_true rfl) (Nat.le_of_ble_eq_true rfl) (Nat.le_of_ble_eq_true rfl) ?_
      refine e_bipush 35 77 rfl rfl rfl ?_
      refine e_icmp_lt 36 91 80 rfl rfl rfl (by unfold xr at *; omega) (by unfold xr at *; omega) (fun h9 => absurd h9 (by omega)) (fun _ => ?_)
      exact fin
  · skip
    cases h2
theorem sp_split1 {σ : xSig} (h : CHR σ) {c z : Int} (hh : chas σ c = true) (hz2 : cfst σ c < z ∧ z < cfst σ (c + 1)) (hm : ismv σ c = false) (h12 : σ 231 7 < 12) : x_Sp MX11_split 0 0 [.ref 0, .int (ii c), .int (ii z)] (St σ) (iv (σ 231 7 + 1)) (St (cutd σ c z)) := by
  have hci : 0 ≤ c ∧ c < σ 231 7 := of_decide_eq_true hh
  have h7 := h.1
  have hi := sp_chHas h (c := c) (by unfold xr; omega)
  rw [hh] at hi
  have b1 := cfst_bnd h c
  have b2 := cfst_bnd h (c + 1)
  have hmo := sp_isMoving h (c := c) (by unfold xr; omega)
  rw [hm] at hmo
  have hs := sp_chSize (σ := cutd σ c z)
  rw [show cutd σ c z 231 7 = σ 231 7 + 1 by unfold cutd; rw [if_neg (by decide), if_neg (by decide), if_pos rfl, if_pos rfl]] at hs
  refine e_entry okX11_split (Nat.le_of_ble_eq_true rfl) (ls := [some _, some _, some _]) rfl ?_
  refine e_aload_n 0 1 rfl rfl rfl rfl ?_
  refine g_getR 1 4 ckX11 flX11_26 rfl rfl (Nat.le_of_ble_eq_true rfl) rfl rfl ?_
  refine e_iload_n 2 5 rfl rfl rfl rfl ?_
  refine g_callV 3 8 (hi) okX0_has cvX11_295 ⟨(Nat.le_of_ble_eq_true rfl), (Nat.le_of_ble_eq_true rfl)⟩ rfl rfl (Nat.le_of_ble_eq_true rfl) rfl rfl rfl rfl rfl (Nat.le_of_ble_eq_true rfl) (Nat.le_of_ble_eq_true rfl) (Nat.le_of_ble_eq_true rfl) ?_
  refine e_ifb_ne 4 22 11 rfl rfl rfl (fun h2 => ?_) (fun h2 => ?_)
  · skip
    refine e_iload_n 10 23 rfl rfl rfl rfl ?_
    refine e_aload_n 11 24 rfl rfl rfl rfl ?_
    refine g_getR 12 27 ckX11 flX11_26 rfl rfl (Nat.le_of_ble_eq_true rfl) rfl rfl ?_
    refine e_iload_n 13 28 rfl rfl rfl rfl ?_
    refine g_callV 14 31 (sp_firstOf h (c := c) (by unfold xr; omega)) okX0_firstOf cvX11_298 ⟨(Nat.le_of_ble_eq_true rfl), (Nat.le_of_ble_eq_true rfl)⟩ rfl rfl (Nat.le_of_ble_eq_true rfl) rfl rfl rfl rfl rfl (Nat.le_of_ble_eq_true rfl) (Nat.le_of_ble_eq_true rfl) (Nat.le_of_ble_eq_true rfl) ?_
    refine e_icmp_le 15 46 34 rfl rfl rfl (by unfold xr at *; omega) (by unfold xr at *; omega) (fun h9 => absurd h9 (by omega)) (fun _ => ?_)
    refine e_iload_n 16 35 rfl rfl rfl rfl ?_
    refine e_aload_n 17 36 rfl rfl rfl rfl ?_
    refine g_getR 18 39 ckX11 flX11_26 rfl rfl (Nat.le_of_ble_eq_true rfl) rfl rfl ?_
    refine e_iload_n 19 40 rfl rfl rfl rfl ?_
    refine g_callV 20 43 (sp_chEndOf h (c := c) (by unfold xr; omega)) okX0_endOf cvX11_301 ⟨(Nat.le_of_ble_eq_true rfl), (Nat.le_of_ble_eq_true rfl)⟩ rfl rfl (Nat.le_of_ble_eq_true rfl) rfl rfl rfl rfl rfl (Nat.le_of_ble_eq_true rfl) (Nat.le_of_ble_eq_true rfl) (Nat.le_of_ble_eq_true rfl) ?_
    refine e_icmp_lt 21 57 46 rfl rfl rfl (by unfold xr at *; omega) (by unfold xr at *; omega) (fun _ => ?_) (fun h9 => absurd h9 (by omega))
    refine e_aload_n 27 58 rfl rfl rfl rfl ?_
    refine g_getR 28 61 ckX11 flX11_26 rfl rfl (Nat.le_of_ble_eq_true rfl) rfl rfl ?_
    refine e_iload_n 29 62 rfl rfl rfl rfl ?_
    refine g_callV 30 65 (hmo) okX0_isMoving cvX11_306 ⟨(Nat.le_of_ble_eq_true rfl), (Nat.le_of_ble_eq_true rfl)⟩ rfl rfl (Nat.le_of_ble_eq_true rfl) rfl rfl rfl rfl rfl (Nat.le_of_ble_eq_true rfl) (Nat.le_of_ble_eq_true rfl) (Nat.le_of_ble_eq_true rfl) ?_
    refine e_ifb_ne 31 80 68 rfl rfl rfl (fun h3 => ?_) (fun h3 => ?_)
    · skip
      cases h3
    · skip
      refine e_aload_n 32 69 rfl rfl rfl rfl ?_
      refine g_getR 33 72 ckX11 flX11_26 rfl rfl (Nat.le_of_ble_eq_true rfl) rfl rfl ?_
      refine g_callV 34 75 (sp_chSize) okX0_size cvX11_309 ⟨(Nat.le_of_ble_eq_true rfl), (Nat.le_of_ble_eq_true rfl)⟩ rfl rfl (Nat.le_of_ble_eq_true rfl) rfl rfl rfl rfl rfl (Nat.le_of_ble_eq_true rfl) (Nat.le_of_ble_eq_true rfl) (Nat.le_of_ble_eq_true rfl) ?_
      refine e_bipush 35 77 rfl rfl rfl ?_
      refine e_icmp_lt 36 91 80 rfl rfl rfl (by unfold xr at *; omega) (by unfold xr at *; omega) (fun _ => ?_) (fun h9 => absurd h9 (by omega))
      refine e_aload_n 42 92 rfl rfl rfl rfl ?_
      refine g_getR 43 95 ckX11 flX11_26 rfl rfl (Nat.le_of_ble_eq_true rfl) rfl rfl ?_
      refine e_iload_n 44 96 rfl rfl rfl rfl ?_
      refine e_iload_n 45 97 rfl rfl rfl rfl ?_
      refine g_callV 46 100 (sp_cut h hci h12) okX0_cut cvX11_312 ⟨(Nat.le_of_ble_eq_true rfl), (Nat.le_of_ble_eq_true rfl)⟩ rfl rfl (Nat.le_of_ble_eq_true rfl) rfl rfl rfl rfl rfl (Nat.le_of_ble_eq_true rfl) (Nat.le_of_ble_eq_true rfl) (Nat.le_of_ble_eq_true rfl) ?_
      refine e_aload_n 47 101 rfl rfl rfl rfl ?_
      refine g_getR 48 104 ckX11 flX11_26 rfl rfl (Nat.le_of_ble_eq_true rfl) rfl rfl ?_
      refine g_callV 49 107 (hs) okX0_size cvX11_309 ⟨(Nat.le_of_ble_eq_true rfl), (Nat.le_of_ble_eq_true rfl)⟩ rfl rfl (Nat.le_of_ble_eq_true rfl) rfl rfl rfl rfl rfl (Nat.le_of_ble_eq_true rfl) (Nat.le_of_ble_eq_true rfl) (Nat.le_of_ble_eq_true rfl) ?_
      exact e_ireturn 50 rfl rfl (Nat.le_of_ble_eq_true rfl) (Nat.le_of_ble_eq_true rfl)
  · skip
    cases h2
theorem sp_copyX {σ : xSig} {m : Int} (hm : xr m) (hh : ¬ (1 ≤ m ∧ m ≤ 20)) : x_Sp MX11_copy 1 6 [.ref 0, .int (ii m)] (St σ) tIAE (St σ) := by
  unfold xr at hm
  have fin : x_E MX11_copy 1 6 11 [some (.ref 0), some (.int (ii m))] [] (St σ) 0 0 tIAE (St σ) := by
    exact e_throwW 6 thX11_82_86 rfl rfl rfl rfl rfl stX11_335 (Nat.le_of_ble_eq_true rfl) (Nat.le_of_ble_eq_true rfl) (Nat.le_of_ble_eq_true rfl) (Nat.le_of_ble_eq_true rfl) (Nat.le_of_ble_eq_true rfl)
  refine e_entry okX11_copy (Nat.le_of_ble_eq_true rfl) (ls := [some _, some _]) rfl ?_
  refine e_iload_n 0 1 rfl rfl rfl rfl ?_
  refine e_iconst 1 2 rfl rfl ?_
  refine e_icmp_lt 2 11 5 rfl rfl rfl (by unfold xr at *; omega) (by unfold xr at *; omega) (fun h => ?_) (fun h => ?_)
  · skip
    exact fin
  · skip
    refine e_iload_n 3 6 rfl rfl rfl rfl ?_
    refine e_bipush 4 8 rfl rfl rfl ?_
    refine e_icmp_le 5 22 11 rfl rfl rfl (by unfold xr at *; omega) (by unfold xr at *; omega) (fun h9 => absurd h9 (by omega)) (fun _ => ?_)
    exact fin
theorem sp_copyX2 {σ : xSig} (h : CHR σ) {m : Int} (hh : 1 ≤ m ∧ m ≤ 20) (hv : hmv σ = false) : x_Sp MX11_copy 1 6 [.ref 0, .int (ii m)] (St σ) tISE (St σ) := by
  have hi := sp_hasMove h
  rw [hv] at hi
  refine e_entry okX11_copy (Nat.le_of_ble_eq_true rfl) (ls := [some _, some _]) rfl ?_
  refine e_iload_n 0 1 rfl rfl rfl rfl ?_
  refine e_iconst 1 2 rfl rfl ?_
  refine e_icmp_lt 2 11 5 rfl rfl rfl (by unfold xr at *; omega) (by unfold xr at *; omega) (fun h9 => absurd h9 (by omega)) (fun _ => ?_)
  refine e_iload_n 3 6 rfl rfl rfl rfl ?_
  refine e_bipush 4 8 rfl rfl rfl ?_
  refine e_icmp_le 5 22 11 rfl rfl rfl (by unfold xr at *; omega) (by unfold xr at *; omega) (fun _ => ?_) (fun h9 => absurd h9 (by omega))
  refine e_aload_n 11 23 rfl rfl rfl rfl ?_
  refine g_getR 12 26 ckX11 flX11_26 rfl rfl (Nat.le_of_ble_eq_true rfl) rfl rfl ?_
  refine g_callV 13 29 (hi) okX0_hasMove cvX11_324 ⟨(Nat.le_of_ble_eq_true rfl), (Nat.le_of_ble_eq_true rfl)⟩ rfl rfl (Nat.le_of_ble_eq_true rfl) rfl rfl rfl rfl rfl (Nat.le_of_ble_eq_true rfl) (Nat.le_of_ble_eq_true rfl) (Nat.le_of_ble_eq_true rfl) ?_
  refine e_ifb_ne 14 43 32 rfl rfl rfl (fun h2 => ?_) (fun h2 => ?_)
  · skip
    cases h2
  · skip
    exact e_throwW 15 thX11_101_105 rfl rfl rfl rfl rfl stX11_337 (Nat.le_of_ble_eq_true rfl) (Nat.le_of_ble_eq_true rfl) (Nat.le_of_ble_eq_true rfl) (Nat.le_of_ble_eq_true rfl) (Nat.le_of_ble_eq_true rfl)
theorem cpn_o (T : Nat → List Int) : ∀ (n i : Nat) (l : Int) (σ : xSig), FX [235] σ (cpn T i n l σ) ∧ (n01 σ 235 → n01 (cpn T i n l σ) 235) := by
  intro n
  induction n with
  | zero => intro i l σ; exact ⟨FX.rf, fun h => h⟩
  | succ n ih =>
    intro i l σ
    simp only [cpn]
    split
    · exact ⟨FX.rf, fun h => h⟩
    · split
      · have := ih (i + 1) (l - 1) (xu σ 235 i 1)
        exact ⟨(FX.rf.xu (by decide)).tr this.1, fun h => this.2 (n01_xu h i 1 (Or.inr rfl))⟩
      · exact ih _ _ _
theorem sp_copy1 {σ : xSig} {T : Nat → List Int} (hA : VAll σ T) (h01 : n01 σ 27) (h : CHR σ) {m : Int} (hh : 1 ≤ m ∧ m ≤ 20) (hv : hmv σ = true) : x_Sp MX11_copy 0 0 [.ref 0, .int (ii m)] (St σ) (iv (clf (cpn T 0 100 m σ) T)) (St (cpn T 0 100 m σ)) := by
  have hi := sp_hasMove h
  rw [hv] at hi
  obtain ⟨o, o2⟩ := cpn_o T 100 0 m σ
  have hcl := sp_countLeft (hA.fx o (by decide +kernel)) (by unfold n01; rw [o 27 (by decide)]; exact h01) (h.same ⟨o 231 (by decide), o 232 (by decide), o 233 (by decide)⟩ (o2 h.2.2.2.2.2.2.2))
  refine e_entry okX11_copy (Nat.le_of_ble_eq_true rfl) (ls := [some _, some _]) rfl ?_
  refine e_iload_n 0 1 rfl rfl rfl rfl ?_
  refine e_iconst 1 2 rfl rfl ?_
  refine e_icmp_lt 2 11 5 rfl rfl rfl (by unfold xr at *; omega) (by unfold xr at *; omega) (fun h9 => absurd h9 (by omega)) (fun _ => ?_)
  refine e_iload_n 3 6 rfl rfl rfl rfl ?_
  refine e_bipush 4 8 rfl rfl rfl ?_
  refine e_icmp_le 5 22 11 rfl rfl rfl (by unfold xr at *; omega) (by unfold xr at *; omega) (fun _ => ?_) (fun h9 => absurd h9 (by omega))
  refine e_aload_n 11 23 rfl rfl rfl rfl ?_
  refine g_getR 12 26 ckX11 flX11_26 rfl rfl (Nat.le_of_ble_eq_true rfl) rfl rfl ?_
  refine g_callV 13 29 (hi) okX0_hasMove cvX11_324 ⟨(Nat.le_of_ble_eq_true rfl), (Nat.le_of_ble_eq_true rfl)⟩ rfl rfl (Nat.le_of_ble_eq_true rfl) rfl rfl rfl rfl rfl (Nat.le_of_ble_eq_true rfl) (Nat.le_of_ble_eq_true rfl) (Nat.le_of_ble_eq_true rfl) ?_
  refine e_ifb_ne 14 43 32 rfl rfl rfl (fun h2 => ?_) (fun h2 => ?_)
  · skip
    refine e_aload_n 20 44 rfl rfl rfl rfl ?_
    refine g_getR 21 47 ckX11 flX11_26 rfl rfl (Nat.le_of_ble_eq_true rfl) rfl rfl ?_
    refine e_aload_n 22 48 rfl rfl rfl rfl ?_
    refine g_getR 23 51 ckX11 flX11_19 rfl rfl (Nat.le_of_ble_eq_true rfl) rfl rfl ?_
    refine e_iload_n 24 52 rfl rfl rfl rfl ?_
    refine g_callV 25 55 (sp_copySome hA h01 h hh) okX0_copySome cvX11_339 ⟨(Nat.le_of_ble_eq_true rfl), (Nat.le_of_ble_eq_true rfl)⟩ rfl rfl (Nat.le_of_ble_eq_true rfl) rfl rfl rfl rfl rfl (Nat.le_of_ble_eq_true rfl) (Nat.le_of_ble_eq_true rfl) (Nat.le_of_ble_eq_true rfl) ?_
    refine e_aload_n 26 56 rfl rfl rfl rfl ?_
    refine g_getR 27 59 ckX11 flX11_26 rfl rfl (Nat.le_of_ble_eq_true rfl) rfl rfl ?_
    refine e_aload_n 28 60 rfl rfl rfl rfl ?_
    refine g_getR 29 63 ckX11 flX11_19 rfl rfl (Nat.le_of_ble_eq_true rfl) rfl rfl ?_
    refine g_callV 30 66 (hcl) okX0_countLeft cvX11_332 ⟨(Nat.le_of_ble_eq_true rfl), (Nat.le_of_ble_eq_true rfl)⟩ rfl rfl (Nat.le_of_ble_eq_true rfl) rfl rfl rfl rfl rfl (Nat.le_of_ble_eq_true rfl) (Nat.le_of_ble_eq_true rfl) (Nat.le_of_ble_eq_true rfl) ?_
    exact e_ireturn 31 rfl rfl (Nat.le_of_ble_eq_true rfl) (Nat.le_of_ble_eq_true rfl)
  · skip
    cases h2
theorem sp_giveUpX {σ : xSig} (h : CHR σ) (hv : hmv σ = false) : x_Sp MX11_giveUp 1 6 [.ref 0] (St σ) tISE (St σ) := by
  have hi := sp_hasMove h
  rw [hv] at hi
  refine e_entry okX11_giveUp (Nat.le_of_ble_eq_true rfl) (ls := [some _]) rfl ?_
  refine e_aload_n 0 1 rfl rfl rfl rfl ?_
  refine g_getR 1 4 ckX11 flX11_26 rfl rfl (Nat.le_of_ble_eq_true rfl) rfl rfl ?_
  refine g_callV 2 7 (hi) okX0_hasMove cvX11_324 ⟨(Nat.le_of_ble_eq_true rfl), (Nat.le_of_ble_eq_true rfl)⟩ rfl rfl (Nat.le_of_ble_eq_true rfl) rfl rfl rfl rfl rfl (Nat.le_of_ble_eq_true rfl) (Nat.le_of_ble_eq_true rfl) (Nat.le_of_ble_eq_true rfl) ?_
  refine e_ifb_ne 3 21 10 rfl rfl rfl (fun h2 => ?_) (fun h2 => ?_)
  · skip
    cases h2
  · skip
    exact e_throwW 4 thX11_101_105 rfl rfl rfl rfl rfl stX11_337 (Nat.le_of_ble_eq_true rfl) (Nat.le_of_ble_eq_true rfl) (Nat.le_of_ble_eq_true rfl) (Nat.le_of_ble_eq_true rfl) (Nat.le_of_ble_eq_true rfl)
theorem sp_giveUp1 {σ : xSig} (h : CHR σ) (hv : hmv σ = true) : x_Sp MX11_giveUp 0 0 [.ref 0] (St σ) (iv (ncp σ)) (St (emv σ)) := by
  have hi := sp_hasMove h
  rw [hv] at hi
  refine e_entry okX11_giveUp (Nat.le_of_ble_eq_true rfl) (ls := [some _]) rfl ?_
  refine e_aload_n 0 1 rfl rfl rfl rfl ?_
  refine g_getR 1 4 ckX11 flX11_26 rfl rfl (Nat.le_of_ble_eq_true rfl) rfl rfl ?_
  refine g_callV 2 7 (hi) okX0_hasMove cvX11_324 ⟨(Nat.le_of_ble_eq_true rfl), (Nat.le_of_ble_eq_true rfl)⟩ rfl rfl (Nat.le_of_ble_eq_true rfl) rfl rfl rfl rfl rfl (Nat.le_of_ble_eq_true rfl) (Nat.le_of_ble_eq_true rfl) (Nat.le_of_ble_eq_true rfl) ?_
  refine e_ifb_ne 3 21 10 rfl rfl rfl (fun h2 => ?_) (fun h2 => ?_)
  · skip
    refine e_aload_n 9 22 rfl rfl rfl rfl ?_
    refine g_getR 10 25 ckX11 flX11_26 rfl rfl (Nat.le_of_ble_eq_true rfl) rfl rfl ?_
    refine g_callV 11 28 (sp_endMove h.2.2.2.2.2.2.2) okX0_endMove cvX11_348 ⟨(Nat.le_of_ble_eq_true rfl), (Nat.le_of_ble_eq_true rfl)⟩ rfl rfl (Nat.le_of_ble_eq_true rfl) rfl rfl rfl rfl rfl (Nat.le_of_ble_eq_true rfl) (Nat.le_of_ble_eq_true rfl) (Nat.le_of_ble_eq_true rfl) ?_
    exact e_ireturn 12 rfl rfl (Nat.le_of_ble_eq_true rfl) (Nat.le_of_ble_eq_true rfl)
  · skip
    cases h2
theorem clf_bnd (σ : xSig) (T : Nat → List Int) : 0 ≤ clf σ T ∧ clf σ T ≤ 100 := smN_01 (fun i => bi_01 _) 100 0
theorem sp_handOverX {σ : xSig} {T : Nat → List Int} (hA : VAll σ T) (h01 : n01 σ 27) (h : CHR σ) (hv : hmv σ = false ∨ 0 < clf σ T) : x_Sp MX11_handOver 1 6 [.ref 0] (St σ) tISE (St σ) := by
  have hi := sp_hasMove h
  have hb := clf_bnd σ T
  have fin : x_E MX11_handOver 1 6 24 [some (.ref 0)] [] (St σ) 0 0 tISE (St σ) := by
    exact e_throwW 10 thX11_101_105 rfl rfl rfl rfl rfl stX11_343 (Nat.le_of_ble_eq_true rfl) (Nat.le_of_ble_eq_true rfl) (Nat.le_of_ble_eq_true rfl) (Nat.le_of_ble_eq_true rfl) (Nat.le_of_ble_eq_true rfl)
  refine e_entry okX11_handOver (Nat.le_of_ble_eq_true rfl) (ls := [some _]) rfl ?_
  refine e_aload_n 0 1 rfl rfl rfl rfl ?_
  refine g_getR 1 4 ckX11 flX11_26 rfl rfl (Nat.le_of_ble_eq_true rfl) rfl rfl ?_
  refine g_callV 2 7 (hi) okX0_hasMove cvX11_324 ⟨(Nat.le_of_ble_eq_true rfl), (Nat.le_of_ble_eq_true rfl)⟩ rfl rfl (Nat.le_of_ble_eq_true rfl) rfl rfl rfl rfl rfl (Nat.le_of_ble_eq_true rfl) (Nat.le_of_ble_eq_true rfl) (Nat.le_of_ble_eq_true rfl) ?_
  refine e_ifb_eq 3 24 10 rfl rfl rfl (fun h2 => ?_) (fun h2 => ?_)
  · skip
    exact fin
  · skip
    rw [h2] at hv
    have hl := hv.resolve_left (by decide)
    refine e_aload_n 4 11 rfl rfl rfl rfl ?_
    refine g_getR 5 14 ckX11 flX11_26 rfl rfl (Nat.le_of_ble_eq_true rfl) rfl rfl ?_
    refine e_aload_n 6 15 rfl rfl rfl rfl ?_
    refine g_getR 7 18 ckX11 flX11_19 rfl rfl (Nat.le_of_ble_eq_true rfl) rfl rfl ?_
    refine g_callV 8 21 (sp_countLeft hA h01 h) okX0_countLeft cvX11_332 ⟨(Nat.le_of_ble_eq_true rfl), (Nat.le_of_ble_eq_true rfl)⟩ rfl rfl (Nat.le_of_ble_eq_true rfl) rfl rfl rfl rfl rfl (Nat.le_of_ble_eq_true rfl) (Nat.le_of_ble_eq_true rfl) (Nat.le_of_ble_eq_true rfl) ?_
    refine e_if_le 9 35 24 rfl rfl rfl (by unfold xr at *; omega) (fun h9 => absurd h9 (by omega)) (fun _ => ?_)
    exact fin
theorem sp_handOver1 {σ : xSig} {T : Nat → List Int} (hA : VAll σ T) (h01 : n01 σ 27) (h : CHR σ) (hm : 0 ≤ σ 231 11 ∧ σ 231 11 < σ 231 7) (hl : clf σ T = 0) : x_Sp MX11_handOver 0 0 [.ref 0] (St σ) (iv (cin σ T (σ 231 11))) (St (emv (fmv1 σ T))) := by
  have hi := sp_hasMove h
  rw [show hmv σ = true from decide_eq_true (by omega)] at hi
  have hcl := sp_countLeft hA h01 h
  rw [hl] at hcl
  refine e_entry okX11_handOver (Nat.le_of_ble_eq_true rfl) (ls := [some _]) rfl ?_
  refine e_aload_n 0 1 rfl rfl rfl rfl ?_
  refine g_getR 1 4 ckX11 flX11_26 rfl rfl (Nat.le_of_ble_eq_true rfl) rfl rfl ?_
  refine g_callV 2 7 (hi) okX0_hasMove cvX11_324 ⟨(Nat.le_of_ble_eq_true rfl), (Nat.le_of_ble_eq_true rfl)⟩ rfl rfl (Nat.le_of_ble_eq_true rfl) rfl rfl rfl rfl rfl (Nat.le_of_ble_eq_true rfl) (Nat.le_of_ble_eq_true rfl) (Nat.le_of_ble_eq_true rfl) ?_
  refine e_ifb_eq 3 24 10 rfl rfl rfl (fun h2 => ?_) (fun h2 => ?_)
  · skip
    cases h2
  · skip
    refine e_aload_n 4 11 rfl rfl rfl rfl ?_
    refine g_getR 5 14 ckX11 flX11_26 rfl rfl (Nat.le_of_ble_eq_true rfl) rfl rfl ?_
    refine e_aload_n 6 15 rfl rfl rfl rfl ?_
    refine g_getR 7 18 ckX11 flX11_19 rfl rfl (Nat.le_of_ble_eq_true rfl) rfl rfl ?_
    refine g_callV 8 21 (hcl) okX0_countLeft cvX11_332 ⟨(Nat.le_of_ble_eq_true rfl), (Nat.le_of_ble_eq_true rfl)⟩ rfl rfl (Nat.le_of_ble_eq_true rfl) rfl rfl rfl rfl rfl (Nat.le_of_ble_eq_true rfl) (Nat.le_of_ble_eq_true rfl) (Nat.le_of_ble_eq_true rfl) ?_
    refine e_if_le 9 35 24 rfl rfl rfl (by unfold xr at *; omega) (fun _ => ?_) (fun h9 => absurd h9 (by decide))
    refine e_aload_n 15 36 rfl rfl rfl rfl ?_
    refine g_getR 16 39 ckX11 flX11_26 rfl rfl (Nat.le_of_ble_eq_true rfl) rfl rfl ?_
    refine e_aload_n 17 40 rfl rfl rfl rfl ?_
    refine g_getR 18 43 ckX11 flX11_19 rfl rfl (Nat.le_of_ble_eq_true rfl) rfl rfl ?_
    refine g_callV 19 46 (sp_finishMove hA h01 h hm) okX0_finishMove cvX11_345 ⟨(Nat.le_of_ble_eq_true rfl), (Nat.le_of_ble_eq_true rfl)⟩ rfl rfl (Nat.le_of_ble_eq_true rfl) rfl rfl rfl rfl rfl (Nat.le_of_ble_eq_true rfl) (Nat.le_of_ble_eq_true rfl) (Nat.le_of_ble_eq_true rfl) ?_
    exact e_ireturn 20 rfl rfl (Nat.le_of_ble_eq_true rfl) (Nat.le_of_ble_eq_true rfl)
theorem sp_cleanX {σ : xSig} {s : Int} (hs : xr s) (hh : ¬ (0 ≤ s ∧ s < 3)) : x_Sp MX11_clean 1 6 [.ref 0, .int (ii s)] (St σ) tIAE (St σ) := by
  have hi := sp_isShard (σ := σ) hs
  rw [decide_eq_false hh] at hi
  refine e_entry okX11_clean (Nat.le_of_ble_eq_true rfl) (ls := [some _, some _]) rfl ?_
  refine e_iload_n 0 1 rfl rfl rfl rfl ?_
  refine g_callS 1 4 (hi) okX11_isShard csX11_316 ⟨(Nat.le_of_ble_eq_true rfl), (Nat.le_of_ble_eq_true rfl)⟩ rfl rfl rfl rfl (Nat.le_of_ble_eq_true rfl) (Nat.le_of_ble_eq_true rfl) (Nat.le_of_ble_eq_true rfl) ?_
  refine e_ifb_ne 2 18 7 rfl rfl rfl (fun h2 => ?_) (fun h2 => ?_)
  · skip
    cases h2
  · skip
    exact e_throwW 3 thX11_82_86 rfl rfl rfl rfl rfl stX11_319 (Nat.le_of_ble_eq_true rfl) (Nat.le_of_ble_eq_true rfl) (Nat.le_of_ble_eq_true rfl) (Nat.le_of_ble_eq_true rfl) (Nat.le_of_ble_eq_true rfl)
theorem sp_clean1 {σ : xSig} {s : Int} (hh : 0 ≤ s ∧ s < 3) : x_Sp MX11_clean 0 0 [.ref 0, .int (ii s)] (St σ) (iv (σ 234 s)) (St (xu σ 234 s 0)) := by
  have hi := sp_isShard (σ := σ) (x := s) (by unfold xr; omega)
  rw [decide_eq_true hh] at hi
  refine e_entry okX11_clean (Nat.le_of_ble_eq_true rfl) (ls := [some _, some _]) rfl ?_
  refine e_iload_n 0 1 rfl rfl rfl rfl ?_
  refine g_callS 1 4 (hi) okX11_isShard csX11_316 ⟨(Nat.le_of_ble_eq_true rfl), (Nat.le_of_ble_eq_true rfl)⟩ rfl rfl rfl rfl (Nat.le_of_ble_eq_true rfl) (Nat.le_of_ble_eq_true rfl) (Nat.le_of_ble_eq_true rfl) ?_
  refine e_ifb_ne 2 18 7 rfl rfl rfl (fun h2 => ?_) (fun h2 => ?_)
  · skip
    refine e_aload_n 8 19 rfl rfl rfl rfl ?_
    refine g_getR 9 22 ckX11 flX11_26 rfl rfl (Nat.le_of_ble_eq_true rfl) rfl rfl ?_
    refine e_iload_n 10 23 rfl rfl rfl rfl ?_
    refine g_callV 11 26 (sp_takeOrphans hh) okX0_takeOrphans cvX11_351 ⟨(Nat.le_of_ble_eq_true rfl), (Nat.le_of_ble_eq_true rfl)⟩ rfl rfl (Nat.le_of_ble_eq_true rfl) rfl rfl rfl rfl rfl (Nat.le_of_ble_eq_true rfl) (Nat.le_of_ble_eq_true rfl) (Nat.le_of_ble_eq_true rfl) ?_
    exact e_ireturn 12 rfl rfl (Nat.le_of_ble_eq_true rfl) (Nat.le_of_ble_eq_true rfl)
  · skip
    cases h2
theorem sp_keyX {σ : xSig} {f y : Int} (hf : xr f) (hh : ¬ (0 ≤ f ∧ f < 8)) : x_Sp MX11_key 1 6 [.ref 0, .int (ii f), .int (ii y)] (St σ) tIAE (St σ) := by
  have hi := sp_isField (σ := σ) hf
  rw [decide_eq_false hh] at hi
  refine e_entry okX11_key (Nat.le_of_ble_eq_true rfl) (ls := [some _, some _, some _]) rfl ?_
  refine e_iload_n 0 1 rfl rfl rfl rfl ?_
  refine g_callS 1 4 (hi) okX11_isField csX11_119 ⟨(Nat.le_of_ble_eq_true rfl), (Nat.le_of_ble_eq_true rfl)⟩ rfl rfl rfl rfl (Nat.le_of_ble_eq_true rfl) (Nat.le_of_ble_eq_true rfl) (Nat.le_of_ble_eq_true rfl) ?_
  refine e_ifb_ne 2 17 7 rfl rfl rfl (fun h2 => ?_) (fun h2 => ?_)
  · skip
    cases h2
  · skip
    exact e_throw 3 thX11_82_86 rfl rfl rfl rfl rfl stX11_122 (Nat.le_of_ble_eq_true rfl) (Nat.le_of_ble_eq_true rfl) (Nat.le_of_ble_eq_true rfl) (Nat.le_of_ble_eq_true rfl) (Nat.le_of_ble_eq_true rfl)
theorem sp_keyX2 {σ : xSig} (h : CHR σ) {f y : Int} (hh : 0 ≤ f ∧ f < 8) (hv : hmv σ = true) : x_Sp MX11_key 1 6 [.ref 0, .int (ii f), .int (ii y)] (St σ) tISE (St σ) := by
  have hi := sp_isField (σ := σ) (x := f) (by unfold xr; omega)
  rw [decide_eq_true hh] at hi
  have hm := sp_hasMove h
  rw [hv] at hm
  refine e_entry okX11_key (Nat.le_of_ble_eq_true rfl) (ls := [some _, some _, some _]) rfl ?_
  refine e_iload_n 0 1 rfl rfl rfl rfl ?_
  refine g_callS 1 4 (hi) okX11_isField csX11_119 ⟨(Nat.le_of_ble_eq_true rfl), (Nat.le_of_ble_eq_true rfl)⟩ rfl rfl rfl rfl (Nat.le_of_ble_eq_true rfl) (Nat.le_of_ble_eq_true rfl) (Nat.le_of_ble_eq_true rfl) ?_
  refine e_ifb_ne 2 17 7 rfl rfl rfl (fun h2 => ?_) (fun h2 => ?_)
  · skip
    refine e_aload_n 8 18 rfl rfl rfl rfl ?_
    refine g_getR 9 21 ckX11 flX11_26 rfl rfl (Nat.le_of_ble_eq_true rfl) rfl rfl ?_
    refine g_callV 10 24 (hm) okX0_hasMove cvX11_324 ⟨(Nat.le_of_ble_eq_true rfl), (Nat.le_of_ble_eq_true rfl)⟩ rfl rfl (Nat.le_of_ble_eq_true rfl) rfl rfl rfl rfl rfl (Nat.le_of_ble_eq_true rfl) (Nat.le_of_ble_eq_true rfl) (Nat.le_of_ble_eq_true rfl) ?_
    refine e_ifb_eq 11 38 27 rfl rfl rfl (fun h3 => ?_) (fun h3 => ?_)
    · skip
      cases h3
    · skip
      exact e_throwW 12 thX11_101_105 rfl rfl rfl rfl rfl stX11_354 (Nat.le_of_ble_eq_true rfl) (Nat.le_of_ble_eq_true rfl) (Nat.le_of_ble_eq_true rfl) (Nat.le_of_ble_eq_true rfl) (Nat.le_of_ble_eq_true rfl)
  · skip
    cases h2
theorem sp_key1 {σ : xSig} {T : Nat → List Int} (hA : VAll σ T) (h01 : n01 σ 27) (h : CHR σ) (hm : σ 231 11 = -1) {f y : Int} (hf : 0 ≤ f ∧ f < 8) (hy : y = 0 ∨ y = 1) :
    ∃ σ1 : xSig, sba σ σ1 ∧ x_Sp MX11_key 0 0 [.ref 0, .int (ii f), .int (ii y)] (St σ) (iv (kcn σ (kyd σ1 f y) T)) (St (kyd σ1 f y)) := by
  obtain ⟨σ1, k1, k2⟩ := sp_shardAnew hA h01 h hm hf hy
  have hi := sp_isField (σ := σ) (x := f) (by unfold xr; omega)
  rw [decide_eq_true hf] at hi
  have hmv' := sp_hasMove h
  rw [show hmv σ = false from decide_eq_false (fun q => q hm)] at hmv'
  refine ⟨σ1, k1, ?_⟩
  refine e_entry okX11_key (Nat.le_of_ble_eq_true rfl) (ls := [some _, some _, some _]) rfl ?_
  refine e_iload_n 0 1 rfl rfl rfl rfl ?_
  refine g_callS 1 4 (hi) okX11_isField csX11_119 ⟨(Nat.le_of_ble_eq_true rfl), (Nat.le_of_ble_eq_true rfl)⟩ rfl rfl rfl rfl (Nat.le_of_ble_eq_true rfl) (Nat.le_of_ble_eq_true rfl) (Nat.le_of_ble_eq_true rfl) ?_
  refine e_ifb_ne 2 17 7 rfl rfl rfl (fun h2 => ?_) (fun h2 => ?_)
  · skip
    refine e_aload_n 8 18 rfl rfl rfl rfl ?_
    refine g_getR 9 21 ckX11 flX11_26 rfl rfl (Nat.le_of_ble_eq_true rfl) rfl rfl ?_
    refine g_callV 10 24 (hmv') okX0_hasMove cvX11_324 ⟨(Nat.le_of_ble_eq_true rfl), (Nat.le_of_ble_eq_true rfl)⟩ rfl rfl (Nat.le_of_ble_eq_true rfl) rfl rfl rfl rfl rfl (Nat.le_of_ble_eq_true rfl) (Nat.le_of_ble_eq_true rfl) (Nat.le_of_ble_eq_true rfl) ?_
    refine e_ifb_eq 11 38 27 rfl rfl rfl (fun h3 => ?_) (fun h3 => ?_)
    · skip
      refine e_aload_n 17 39 rfl rfl rfl rfl ?_
      refine g_getR 18 42 ckX11 flX11_26 rfl rfl (Nat.le_of_ble_eq_true rfl) rfl rfl ?_
      refine e_aload_n 19 43 rfl rfl rfl rfl ?_
      refine g_getR 20 46 ckX11 flX11_19 rfl rfl (Nat.le_of_ble_eq_true rfl) rfl rfl ?_
      refine e_iload_n 21 47 rfl rfl rfl rfl ?_
      refine e_iload_n 22 48 rfl rfl rfl rfl ?_
      refine g_callV 23 51 (k2) okX0_shardAnew cvX11_356 ⟨(Nat.le_of_ble_eq_true rfl), (Nat.le_of_ble_eq_true rfl)⟩ rfl rfl (Nat.le_of_ble_eq_true rfl) rfl rfl rfl rfl rfl (Nat.le_of_ble_eq_true rfl) (Nat.le_of_ble_eq_true rfl) (Nat.le_of_ble_eq_true rfl) ?_
      exact e_ireturn 24 rfl rfl (Nat.le_of_ble_eq_true rfl) (Nat.le_of_ble_eq_true rfl)
    · skip
      cases h3
  · skip
    cases h2
theorem sp_moveX {σ : xSig} (h : CHR σ) {c z : Int} (hc : xr c) (hh : chas σ c = false) : x_Sp MX11_move 1 6 [.ref 0, .int (ii c), .int (ii z)] (St σ) tIOB (St σ) := by
  have hi := sp_chHas h hc
  rw [hh] at hi
  refine e_entry okX11_move (Nat.le_of_ble_eq_true rfl) (ls := [some _, some _, some _]) rfl ?_
  refine e_aload_n 0 1 rfl rfl rfl rfl ?_
  refine g_getR 1 4 ckX11 flX11_26 rfl rfl (Nat.le_of_ble_eq_true rfl) rfl rfl ?_
  refine e_iload_n 2 5 rfl rfl rfl rfl ?_
  refine g_callV 3 8 (hi) okX0_has cvX11_295 ⟨(Nat.le_of_ble_eq_true rfl), (Nat.le_of_ble_eq_true rfl)⟩ rfl rfl (Nat.le_of_ble_eq_true rfl) rfl rfl rfl rfl rfl (Nat.le_of_ble_eq_true rfl) (Nat.le_of_ble_eq_true rfl) (Nat.le_of_ble_eq_true rfl) ?_
  refine e_ifb_ne 4 22 11 rfl rfl rfl (fun h2 => ?_) (fun h2 => ?_)
  · skip
    cases h2
  · skip
    exact e_throwW 5 thX11_166_170 rfl rfl rfl rfl rfl stX11_296 (Nat.le_of_ble_eq_true rfl) (Nat.le_of_ble_eq_true rfl) (Nat.le_of_ble_eq_true rfl) (Nat.le_of_ble_eq_true rfl) (Nat.le_of_ble_eq_true rfl)
theorem sp_moveX2 {σ : xSig} (h : CHR σ) {c z : Int} (hz : xr z) (hh : chas σ c = true) (hs : ¬ (0 ≤ z ∧ z < 3)) : x_Sp MX11_move 1 6 [.ref 0, .int (ii c), .int (ii z)] (St σ) tIAE (St σ) := by
  have hci : 0 ≤ c ∧ c < σ 231 7 := of_decide_eq_true hh
  have h7 := h.1
  have hi := sp_chHas h (c := c) (by unfold xr; omega)
  rw [hh] at hi
  have hj := sp_isShard (σ := σ) hz
  rw [decide_eq_false hs] at hj
  refine e_entry okX11_move (Nat.le_of_ble_eq_true rfl) (ls := [some _, some _, some _]) rfl ?_
  refine e_aload_n 0 1 rfl rfl rfl rfl ?_
  refine g_getR 1 4 ckX11 flX11_26 rfl rfl (Nat.le_of_ble_eq_true rfl) rfl rfl ?_
  refine e_iload_n 2 5 rfl rfl rfl rfl ?_
  refine g_callV 3 8 (hi) okX0_has cvX11_295 ⟨(Nat.le_of_ble_eq_true rfl), (Nat.le_of_ble_eq_true rfl)⟩ rfl rfl (Nat.le_of_ble_eq_true rfl) rfl rfl rfl rfl rfl (Nat.le_of_ble_eq_true rfl) (Nat.le_of_ble_eq_true rfl) (Nat.le_of_ble_eq_true rfl) ?_
  refine e_ifb_ne 4 22 11 rfl rfl rfl (fun h2 => ?_) (fun h2 => ?_)
  · skip
    refine e_iload_n 10 23 rfl rfl rfl rfl ?_
    refine g_callS 11 26 (hj) okX11_isShard csX11_316 ⟨(Nat.le_of_ble_eq_true rfl), (Nat.le_of_ble_eq_true rfl)⟩ rfl rfl rfl rfl (Nat.le_of_ble_eq_true rfl) (Nat.le_of_ble_eq_true rfl) (Nat.le_of_ble_eq_true rfl) ?_
    refine e_ifb_ne 12 40 29 rfl rfl rfl (fun h3 => ?_) (fun h3 => ?_)
    · skip
      cases h3
    · skip
      exact e_throwW 13 thX11_82_86 rfl rfl rfl rfl rfl stX11_319 (Nat.le_of_ble_eq_true rfl) (Nat.le_of_ble_eq_true rfl) (Nat.le_of_ble_eq_true rfl) (Nat.le_of_ble_eq_true rfl) (Nat.le_of_ble_eq_true rfl)
  · skip
    cases h2
theorem sp_moveX3 {σ : xSig} (h : CHR σ) {c z : Int} (hh : chas σ c = true) (hs : 0 ≤ z ∧ z < 3) (hm : cown σ c = z ∨ hmv σ = true) : x_Sp MX11_move 1 6 [.ref 0, .int (ii c), .int (ii z)] (St σ) tISE (St σ) := by
  have hci : 0 ≤ c ∧ c < σ 231 7 := of_decide_eq_true hh
  have h7 := h.1
  have hi := sp_chHas h (c := c) (by unfold xr; omega)
  rw [hh] at hi
  have hj := sp_isShard (σ := σ) (x := z) (by unfold xr; omega)
  rw [decide_eq_true hs] at hj
  have hb := cown_bnd h c
  have hmo := sp_hasMove h
  have fin : x_E MX11_move 1 6 62 [some (.ref 0), some (.int (ii c)), some (.int (ii z))] [] (St σ) 0 0 tISE (St σ) := by
    exact e_throwW 28 thX11_101_105 rfl rfl rfl rfl rfl stX11_327 (Nat.le_of_ble_eq_true rfl) (Nat.le_of_ble_eq_true rfl) (Nat.le_of_ble_eq_true rfl) (Nat.le_of_ble_eq_true rfl) (Nat.le_of_ble_eq_true rfl)
  refine e_entry okX11_move (Nat.le_of_ble_eq_true rfl) (ls := [some _, some _, some _]) rfl ?_
  refine e_aload_n 0 1 rfl rfl rfl rfl ?_
  refine g_getR 1 4 ckX11 flX11_26 rfl rfl (Nat.le_of_ble_eq_true rfl) rfl rfl ?_
  refine e_iload_n 2 5 rfl rfl rfl rfl ?_
  refine g_callV 3 8 (hi) okX0_has cvX11_295 ⟨(Nat.le_of_ble_eq_true rfl), (Nat.le_of_ble_eq_true rfl)⟩ rfl rfl (Nat.le_of_ble_eq_true rfl) rfl rfl rfl rfl rfl (Nat.le_of_ble_eq_true rfl) (Nat.le_of_ble_eq_true rfl) (Nat.le_of_ble_eq_true rfl) ?_
  refine e_ifb_ne 4 22 11 rfl rfl rfl (fun h2 => ?_) (fun h2 => ?_)
  · skip
    refine e_iload_n 10 23 rfl rfl rfl rfl ?_
    refine g_callS 11 26 (hj) okX11_isShard csX11_316 ⟨(Nat.le_of_ble_eq_true rfl), (Nat.le_of_ble_eq_true rfl)⟩ rfl rfl rfl rfl (Nat.le_of_ble_eq_true rfl) (Nat.le_of_ble_eq_true rfl) (Nat.le_of_ble_eq_true rfl) ?_
    refine e_ifb_ne 12 40 29 rfl rfl rfl (fun h3 => ?_) (fun h3 => ?_)
    · skip
      refine e_aload_n 18 41 rfl rfl rfl rfl ?_
      refine g_getR 19 44 ckX11 flX11_26 rfl rfl (Nat.le_of_ble_eq_true rfl) rfl rfl ?_
      refine e_iload_n 20 45 rfl rfl rfl rfl ?_
      refine g_callV 21 48 (sp_ownerOf h (c := c) (by unfold xr; omega)) okX0_ownerOf cvX11_321 ⟨(Nat.le_of_ble_eq_true rfl), (Nat.le_of_ble_eq_true rfl)⟩ rfl rfl (Nat.le_of_ble_eq_true rfl) rfl rfl rfl rfl rfl (Nat.le_of_ble_eq_true rfl) (Nat.le_of_ble_eq_true rfl) (Nat.le_of_ble_eq_true rfl) ?_
      refine e_iload_n 22 49 rfl rfl rfl rfl ?_
      refine e_icmp_eq 23 62 52 rfl rfl rfl (by unfold xr at *; omega) (by unfold xr at *; omega) (fun h4 => ?_) (fun h4 => ?_)
      · skip
        exact fin
      · skip
        rw [hm.resolve_left h4] at hmo
        refine e_aload_n 24 53 rfl rfl rfl rfl ?_
        refine g_getR 25 56 ckX11 flX11_26 rfl rfl (Nat.le_of_ble_eq_true rfl) rfl rfl ?_
        refine g_callV 26 59 (hmo) okX0_hasMove cvX11_324 ⟨(Nat.le_of_ble_eq_true rfl), (Nat.le_of_ble_eq_true rfl)⟩ rfl rfl (Nat.le_of_ble_eq_true rfl) rfl rfl rfl rfl rfl (Nat.le_of_ble_eq_true rfl) (Nat.le_of_ble_eq_true rfl) (Nat.le_of_ble_eq_true rfl) ?_
        refine e_ifb_eq 27 73 62 rfl rfl rfl (fun h5 => ?_) (fun h5 => ?_)
        · skip
          cases h5
        · skip
          exact fin
    · skip
      cases h3
  · skip
    cases h2
theorem sp_move1 {σ : xSig} {T : Nat → List Int} (hA : VAll σ T) (h01 : n01 σ 27) (h : CHR σ) {c z : Int} (hh : chas σ c = true) (hs : 0 ≤ z ∧ z < 3) (hm : cown σ c ≠ z) (hm2 : hmv σ = false) : x_Sp MX11_move 0 0 [.ref 0, .int (ii c), .int (ii z)] (St σ) (iv (clf (xu (xu σ 231 11 c) 231 12 z) T)) (St (xu (xu σ 231 11 c) 231 12 z)) := by
  have hci : 0 ≤ c ∧ c < σ 231 7 := of_decide_eq_true hh
  have h7 := h.1
  have hi := sp_chHas h (c := c) (by unfold xr; omega)
  rw [hh] at hi
  have hj := sp_isShard (σ := σ) (x := z) (by unfold xr; omega)
  rw [decide_eq_true hs] at hj
  have hb := cown_bnd h c
  have hmo := sp_hasMove h
  rw [hm2] at hmo
  have hC : CHR (xu (xu σ 231 11 c) 231 12 z) := by
    obtain ⟨q1, q2, q3, q4, q5, q6, q7, q8⟩ := h
    have e : ∀ j, j ≠ 11 → j ≠ 12 → xu (xu σ 231 11 c) 231 12 z 231 j = σ 231 j := fun j h1 h2 => by rw [xu_ne _ (Or.inr h2), xu_ne _ (Or.inr h1)]
    refine ⟨by rw [e 7 (by decide) (by decide)]; exact q1, by rw [e 9 (by decide) (by decide)]; exact q2, by rw [e 10 (by decide) (by decide)]; exact q3, by rw [xu_ne _ (Or.inr (by decide)), xu_same]; omega, by rw [xu_same]; omega, fun i => by rw [xu_other _ _ _ (by decide), xu_other _ _ _ (by decide)]; exact q6 i, fun i => by rw [xu_other _ _ _ (by decide), xu_other _ _ _ (by decide)]; exact q7 i, fun i => by rw [xu_other _ _ _ (by decide), xu_other _ _ _ (by decide)]; exact q8 i⟩
  have hcl := sp_countLeft ((hA.xu 11 c (by decide +kernel)).xu 12 z (by decide +kernel)) (by unfold n01; rw [xu_other _ _ _ (by decide), xu_other _ _ _ (by decide)]; exact h01) hC
  refine e_entry okX11_move (Nat.le_of_ble_eq_true rfl) (ls := [some _, some _, some _]) rfl ?_
  refine e_aload_n 0 1 rfl rfl rfl rfl ?_
  refine g_getR 1 4 ckX11 flX11_26 rfl rfl (Nat.le_of_ble_eq_true rfl) rfl rfl ?_
  refine e_iload_n 2 5 rfl rfl rfl rfl ?_
  refine g_callV 3 8 (hi) okX0_has cvX11_295 ⟨(Nat.le_of_ble_eq_true rfl), (Nat.le_of_ble_eq_true rfl)⟩ rfl rfl (Nat.le_of_ble_eq_true rfl) rfl rfl rfl rfl rfl (Nat.le_of_ble_eq_true rfl) (Nat.le_of_ble_eq_true rfl) (Nat.le_of_ble_eq_true rfl) ?_
  refine e_ifb_ne 4 22 11 rfl rfl rfl (fun h2 => ?_) (fun h2 => ?_)
  · skip
    refine e_iload_n 10 23 rfl rfl rfl rfl ?_
    refine g_callS 11 26 (hj) okX11_isShard csX11_316 ⟨(Nat.le_of_ble_eq_true rfl), (Nat.le_of_ble_eq_true rfl)⟩ rfl rfl rfl rfl (Nat.le_of_ble_eq_true rfl) (Nat.le_of_ble_eq_true rfl) (Nat.le_of_ble_eq_true rfl) ?_
    refine e_ifb_ne 12 40 29 rfl rfl rfl (fun h3 => ?_) (fun h3 => ?_)
    · skip
      refine e_aload_n 18 41 rfl rfl rfl rfl ?_
      refine g_getR 19 44 ckX11 flX11_26 rfl rfl (Nat.le_of_ble_eq_true rfl) rfl rfl ?_
      refine e_iload_n 20 45 rfl rfl rfl rfl ?_
      refine g_callV 21 48 (sp_ownerOf h (c := c) (by unfold xr; omega)) okX0_ownerOf cvX11_321 ⟨(Nat.le_of_ble_eq_true rfl), (Nat.le_of_ble_eq_true rfl)⟩ rfl rfl (Nat.le_of_ble_eq_true rfl) rfl rfl rfl rfl rfl (Nat.le_of_ble_eq_true rfl) (Nat.le_of_ble_eq_true rfl) (Nat.le_of_ble_eq_true rfl) ?_
      refine e_iload_n 22 49 rfl rfl rfl rfl ?_
      refine e_icmp_eq 23 62 52 rfl rfl rfl (by unfold xr at *; omega) (by unfold xr at *; omega) (fun h9 => absurd h9 (by omega)) (fun _ => ?_)
      refine e_aload_n 24 53 rfl rfl rfl rfl ?_
      refine g_getR 25 56 ckX11 flX11_26 rfl rfl (Nat.le_of_ble_eq_true rfl) rfl rfl ?_
      refine g_callV 26 59 (hmo) okX0_hasMove cvX11_324 ⟨(Nat.le_of_ble_eq_true rfl), (Nat.le_of_ble_eq_true rfl)⟩ rfl rfl (Nat.le_of_ble_eq_true rfl) rfl rfl rfl rfl rfl (Nat.le_of_ble_eq_true rfl) (Nat.le_of_ble_eq_true rfl) (Nat.le_of_ble_eq_true rfl) ?_
      refine e_ifb_eq 27 73 62 rfl rfl rfl (fun h5 => ?_) (fun h5 => ?_)
      · skip
        refine e_aload_n 33 74 rfl rfl rfl rfl ?_
        refine g_getR 34 77 ckX11 flX11_26 rfl rfl (Nat.le_of_ble_eq_true rfl) rfl rfl ?_
        refine e_iload_n 35 78 rfl rfl rfl rfl ?_
        refine e_iload_n 36 79 rfl rfl rfl rfl ?_
        refine g_callV 37 82 (sp_beginMove) okX0_beginMove cvX11_329 ⟨(Nat.le_of_ble_eq_true rfl), (Nat.le_of_ble_eq_true rfl)⟩ rfl rfl (Nat.le_of_ble_eq_true rfl) rfl rfl rfl rfl rfl (Nat.le_of_ble_eq_true rfl) (Nat.le_of_ble_eq_true rfl) (Nat.le_of_ble_eq_true rfl) ?_
        refine e_aload_n 38 83 rfl rfl rfl rfl ?_
        refine g_getR 39 86 ckX11 flX11_26 rfl rfl (Nat.le_of_ble_eq_true rfl) rfl rfl ?_
        refine e_aload_n 40 87 rfl rfl rfl rfl ?_
        refine g_getR 41 90 ckX11 flX11_19 rfl rfl (Nat.le_of_ble_eq_true rfl) rfl rfl ?_
        refine g_callV 42 93 (hcl) okX0_countLeft cvX11_332 ⟨(Nat.le_of_ble_eq_true rfl), (Nat.le_of_ble_eq_true rfl)⟩ rfl rfl (Nat.le_of_ble_eq_true rfl) rfl rfl rfl rfl rfl (Nat.le_of_ble_eq_true rfl) (Nat.le_of_ble_eq_true rfl) (Nat.le_of_ble_eq_true rfl) ?_
        exact e_ireturn 43 rfl rfl (Nat.le_of_ble_eq_true rfl) (Nat.le_of_ble_eq_true rfl)
      · skip
        cases h5
    · skip
      cases h3
  · skip
    cases h2
