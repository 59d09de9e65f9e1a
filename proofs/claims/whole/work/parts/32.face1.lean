/-! ===== the face: the pile ===== -/
abbrev tISE : xO := .inr "java/lang/IllegalStateException"
abbrev tIAE : xO := .inr "java/lang/IllegalArgumentException"
abbrev tIOB : xO := .inr "java/lang/IndexOutOfBoundsException"
theorem sp_pileUpT {σ : xSig} (hn : 0 ≤ σ 1 2 ∧ σ 1 2 ≤ 10) (hf : ¬ σ 1 2 < 10) {x : Int} : x_Sp MX11_pileUp 1 6 [.ref 0, .int (ii x)] (St σ) tISE (St σ) := by
  refine e_entry okX11_pileUp (Nat.le_of_ble_eq_true rfl) (ls := [some _, some _]) rfl ?_
  refine e_aload_n 0 1 rfl rfl rfl rfl ?_
  refine g_getR 1 4 ckX11 flX11_12 rfl rfl (Nat.le_of_ble_eq_true rfl) rfl rfl ?_
  refine g_callV 2 7 (sp_pFull hn) okX5_isFull cvX11_408 ⟨(Nat.le_of_ble_eq_true rfl), (Nat.le_of_ble_eq_true rfl)⟩ rfl rfl (Nat.le_of_ble_eq_true rfl) rfl rfl rfl rfl rfl (Nat.le_of_ble_eq_true rfl) (Nat.le_of_ble_eq_true rfl) (Nat.le_of_ble_eq_true rfl) ?_
  rw [decide_eq_true (by omega : 10 ≤ σ 1 2)]
  refine e_ifb_eq 3 21 10 rfl rfl rfl (fun h => ?_) (fun h => ?_)
  · skip
    cases h
  · skip
    exact e_throwW 4 thX11_101_105 rfl rfl rfl rfl rfl stX11_409 (Nat.le_of_ble_eq_true rfl) (Nat.le_of_ble_eq_true rfl) (Nat.le_of_ble_eq_true rfl) (Nat.le_of_ble_eq_true rfl) (Nat.le_of_ble_eq_true rfl)
theorem sp_pileUp {σ : xSig} {T : Nat → List Int} (hA : VAll σ T) (hn : 0 ≤ σ 1 2 ∧ σ 1 2 < 10) {x : Int} (hx : 0 ≤ x ∧ x < 6000) :
    ∃ σ' : xSig, x_Sp MX11_pileUp 0 0 [.ref 0, .int (ii x)] (St σ) (iv (σ 1 2 + 1)) (St σ') ∧ VAll σ' (uT T (pv (σ 1 2)) (newv x)) ∧ NV [1] σ σ' ∧ σ' 1 2 = σ 1 2 + 1 := by
  obtain ⟨σ', k1, k2⟩ := sp_pPut hA hn hx
  refine ⟨σ', ?_, k2⟩
  refine e_entry okX11_pileUp (Nat.le_of_ble_eq_true rfl) (ls := [some _, some _]) rfl ?_
  refine e_aload_n 0 1 rfl rfl rfl rfl ?_
  refine g_getR 1 4 ckX11 flX11_12 rfl rfl (Nat.le_of_ble_eq_true rfl) rfl rfl ?_
  refine g_callV 2 7 (sp_pFull (by omega)) okX5_isFull cvX11_408 ⟨(Nat.le_of_ble_eq_true rfl), (Nat.le_of_ble_eq_true rfl)⟩ rfl rfl (Nat.le_of_ble_eq_true rfl) rfl rfl rfl rfl rfl (Nat.le_of_ble_eq_true rfl) (Nat.le_of_ble_eq_true rfl) (Nat.le_of_ble_eq_true rfl) ?_
  rw [decide_eq_false (by omega : ¬ 10 ≤ σ 1 2)]
  refine e_ifb_eq 3 21 10 rfl rfl rfl (fun h => ?_) (fun h => ?_)
  · skip
    refine e_aload_n 9 22 rfl rfl rfl rfl ?_
    refine g_getR 10 25 ckX11 flX11_12 rfl rfl (Nat.le_of_ble_eq_true rfl) rfl rfl ?_
    refine e_iload_n 11 26 rfl rfl rfl rfl ?_
    refine g_callV 12 29 (k1) okX5_put cvX11_411 ⟨(Nat.le_of_ble_eq_true rfl), (Nat.le_of_ble_eq_true rfl)⟩ rfl rfl (Nat.le_of_ble_eq_true rfl) rfl rfl rfl rfl rfl (Nat.le_of_ble_eq_true rfl) (Nat.le_of_ble_eq_true rfl) (Nat.le_of_ble_eq_true rfl) ?_
    exact e_ireturn 13 rfl rfl (Nat.le_of_ble_eq_true rfl) (Nat.le_of_ble_eq_true rfl)
  · skip
    cases h
theorem sp_isField {σ : xSig} {x : Int} (hx : xr x) : Rd MX11_isField [.int (ii x)] σ (zv (decide (0 ≤ x ∧ x < 8))) := by
  unfold xr at hx
  refine e_entry okX11_isField (Nat.le_of_ble_eq_true rfl) (ls := [some _]) rfl ?_
  refine e_iload_n 0 1 rfl rfl rfl rfl ?_
  refine e_if_lt 1 14 4 rfl rfl rfl (by unfold xr at *; omega) (fun h => ?_) (fun h => ?_)
  · skip
    rw [decide_eq_false (by omega)]
    refine e_iconst 7 15 rfl rfl ?_
    exact e_zreturn (x := 0) 8 rfl rfl (by omega) (Nat.le_of_ble_eq_true rfl) (Nat.le_of_ble_eq_true rfl)
  · skip
    refine e_iload_n 2 5 rfl rfl rfl rfl ?_
    refine e_bipush 3 7 rfl rfl rfl ?_
    refine e_icmp_ge 4 14 10 rfl rfl rfl (by unfold xr at *; omega) (by unfold xr at *; omega) (fun h2 => ?_) (fun h2 => ?_)
    · skip
      rw [decide_eq_false (by omega)]
      refine e_iconst 7 15 rfl rfl ?_
      exact e_zreturn (x := 0) 8 rfl rfl (by omega) (Nat.le_of_ble_eq_true rfl) (Nat.le_of_ble_eq_true rfl)
    · skip
      rw [decide_eq_true (by omega)]
      refine e_iconst 5 11 rfl rfl ?_
      refine e_goto 6 15 rfl rfl ?_
      exact e_zreturn (x := 1) 8 rfl rfl (by omega) (Nat.le_of_ble_eq_true rfl) (Nat.le_of_ble_eq_true rfl)
theorem sp_isPath {σ : xSig} {x : Int} (hx : xr x) : Rd MX11_isPath [.int (ii x)] σ (zv (decide (0 ≤ x ∧ x < 72))) := by
  unfold xr at hx
  refine e_entry okX11_isPath (Nat.le_of_ble_eq_true rfl) (ls := [some _]) rfl ?_
  refine e_iload_n 0 1 rfl rfl rfl rfl ?_
  refine e_if_lt 1 14 4 rfl rfl rfl (by unfold xr at *; omega) (fun h => ?_) (fun h => ?_)
  · skip
    rw [decide_eq_false (by omega)]
    refine e_iconst 7 15 rfl rfl ?_
    exact e_zreturn (x := 0) 8 rfl rfl (by omega) (Nat.le_of_ble_eq_true rfl) (Nat.le_of_ble_eq_true rfl)
  · skip
    refine e_iload_n 2 5 rfl rfl rfl rfl ?_
    refine e_bipush 3 7 rfl rfl rfl ?_
    refine e_icmp_ge 4 14 10 rfl rfl rfl (by unfold xr at *; omega) (by unfold xr at *; omega) (fun h2 => ?_) (fun h2 => ?_)
    · skip
      rw [decide_eq_false (by omega)]
      refine e_iconst 7 15 rfl rfl ?_
      exact e_zreturn (x := 0) 8 rfl rfl (by omega) (Nat.le_of_ble_eq_true rfl) (Nat.le_of_ble_eq_true rfl)
    · skip
      rw [decide_eq_true (by omega)]
      refine e_iconst 5 11 rfl rfl ?_
      refine e_goto 6 15 rfl rfl ?_
      exact e_zreturn (x := 1) 8 rfl rfl (by omega) (Nat.le_of_ble_eq_true rfl) (Nat.le_of_ble_eq_true rfl)
theorem sp_isShard {σ : xSig} {x : Int} (hx : xr x) : Rd MX11_isShard [.int (ii x)] σ (zv (decide (0 ≤ x ∧ x < 3))) := by
  unfold xr at hx
  refine e_entry okX11_isShard (Nat.le_of_ble_eq_true rfl) (ls := [some _]) rfl ?_
  refine e_iload_n 0 1 rfl rfl rfl rfl ?_
  refine e_if_lt 1 13 4 rfl rfl rfl (by unfold xr at *; omega) (fun h => ?_) (fun h => ?_)
  · skip
    rw [decide_eq_false (by omega)]
    refine e_iconst 7 14 rfl rfl ?_
    exact e_zreturn (x := 0) 8 rfl rfl (by omega) (Nat.le_of_ble_eq_true rfl) (Nat.le_of_ble_eq_true rfl)
  · skip
    refine e_iload_n 2 5 rfl rfl rfl rfl ?_
    refine e_iconst 3 6 rfl rfl ?_
    refine e_icmp_ge 4 13 9 rfl rfl rfl (by unfold xr at *; omega) (by unfold xr at *; omega) (fun h2 => ?_) (fun h2 => ?_)
    · skip
      rw [decide_eq_false (by omega)]
      refine e_iconst 7 14 rfl rfl ?_
      exact e_zreturn (x := 0) 8 rfl rfl (by omega) (Nat.le_of_ble_eq_true rfl) (Nat.le_of_ble_eq_true rfl)
    · skip
      rw [decide_eq_true (by omega)]
      refine e_iconst 5 10 rfl rfl ?_
      refine e_goto 6 14 rfl rfl ?_
      exact e_zreturn (x := 1) 8 rfl rfl (by omega) (Nat.le_of_ble_eq_true rfl) (Nat.le_of_ble_eq_true rfl)
theorem sp_isRouter {σ : xSig} {x : Int} (hx : xr x) : Rd MX11_isRouter [.int (ii x)] σ (zv (decide (0 ≤ x ∧ x < 2))) := by
  unfold xr at hx
  refine e_entry okX11_isRouter (Nat.le_of_ble_eq_true rfl) (ls := [some _]) rfl ?_
  refine e_iload_n 0 1 rfl rfl rfl rfl ?_
  refine e_if_lt 1 13 4 rfl rfl rfl (by unfold xr at *; omega) (fun h => ?_) (fun h => ?_)
  · skip
    rw [decide_eq_false (by omega)]
    refine e_iconst 7 14 rfl rfl ?_
    exact e_zreturn (x := 0) 8 rfl rfl (by omega) (Nat.le_of_ble_eq_true rfl) (Nat.le_of_ble_eq_true rfl)
  · skip
    refine e_iload_n 2 5 rfl rfl rfl rfl ?_
    refine e_iconst 3 6 rfl rfl ?_
    refine e_icmp_ge 4 13 9 rfl rfl rfl (by unfold xr at *; omega) (by unfold xr at *; omega) (fun h2 => ?_) (fun h2 => ?_)
    · skip
      rw [decide_eq_false (by omega)]
      refine e_iconst 7 14 rfl rfl ?_
      exact e_zreturn (x := 0) 8 rfl rfl (by omega) (Nat.le_of_ble_eq_true rfl) (Nat.le_of_ble_eq_true rfl)
    · skip
      rw [decide_eq_true (by omega)]
      refine e_iconst 5 10 rfl rfl ?_
      refine e_goto 6 14 rfl rfl ?_
      exact e_zreturn (x := 1) 8 rfl rfl (by omega) (Nat.le_of_ble_eq_true rfl) (Nat.le_of_ble_eq_true rfl)
/-! nothing, number, word, row, object -/
theorem sp_nothing1 {σ σ' : xSig} {z : Int} (h : x_Sp MX11_pileUp 0 0 [.ref 0, .int (ii 9)] (St σ) (iv z) (St σ')) : x_Sp MX11_nothing 0 0 [.ref 0] (St σ) (iv z) (St σ') := by
  refine e_entry okX11_nothing (Nat.le_of_ble_eq_true rfl) (ls := [some _]) rfl ?_
  refine e_aload_n 0 1 rfl rfl rfl rfl ?_
  refine e_bipush 1 3 rfl rfl rfl ?_
  refine g_callV 2 6 (h) okX11_pileUp cvX11_74 ⟨(Nat.le_of_ble_eq_true rfl), (Nat.le_of_ble_eq_true rfl)⟩ rfl rfl (Nat.le_of_ble_eq_true rfl) rfl rfl rfl rfl rfl (Nat.le_of_ble_eq_true rfl) (Nat.le_of_ble_eq_true rfl) (Nat.le_of_ble_eq_true rfl) ?_
  exact e_ireturn 3 rfl rfl (Nat.le_of_ble_eq_true rfl) (Nat.le_of_ble_eq_true rfl)
theorem sp_nothingT {σ : xSig} (h : x_Sp MX11_pileUp 1 6 [.ref 0, .int (ii 9)] (St σ) tISE (St σ)) : x_Sp MX11_nothing 1 6 [.ref 0] (St σ) tISE (St σ) := by
  refine e_entry okX11_nothing (Nat.le_of_ble_eq_true rfl) (ls := [some _]) rfl ?_
  refine e_aload_n 0 1 rfl rfl rfl rfl ?_
  refine e_bipush 1 3 rfl rfl rfl ?_
  exact e_callVT 2 (h) okX11_pileUp cvX11_74 ⟨(Nat.le_of_ble_eq_true rfl), (Nat.le_of_ble_eq_true rfl)⟩ rfl (Nat.le_of_ble_eq_true rfl) rfl rfl rfl rfl rfl (Nat.le_of_ble_eq_true rfl) (Nat.le_of_ble_eq_true rfl) (Nat.le_of_ble_eq_true rfl)
