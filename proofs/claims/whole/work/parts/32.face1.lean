/-! ===== the face: the pile ===== -/
abbrev tISE : xO := .inr "java/lang/IllegalStateException"
abbrev tIAE : xO := .inr "java/lang/IllegalArgumentException"
abbrev tIOB : xO := .inr "java/lang/IndexOutOfBoundsException"
theorem sp_pileUpT {σ : xSig} (hn : 0 ≤ σ 1 2 ∧ σ 1 2 ≤ 10) (hf : ¬ σ 1 2 < 10) {x : Int} : x_Sp MX11_pileUp 1 6 [.ref 0, .int (ii x)] (St σ) tISE (St σ) := by
  refine e_entry okX11_pileUp (Nat.le_of_ble_eq_true rfl) (ls := [some _, some _]) rfl ?_
  refine e_aload_n 0 1 rfl rfl rfl rfl ?_
  refine g_getR 1 4 ckX11 flX11_12 rfl rfl (Nat.le_of_ble_eq_true rfl) rfl rfl ?_
  refine g_callV 2 7 (sp_pFull hn) okX5_isFull cvX11_408 ⟨(Nat.le_of_ble_eq_true rfl), (Nat.le_of_ble_eq_true rfl)⟩ rfl rfl (Nat.le_of_ble_eq_true rfl) rfl rfl rfl rfl rfl (Nat.le_of_ble_eq_true rfl) (Nat.le_of_ble_eq_true rfl) (Nat.le_of_ble_eq_true rfl) ?_
  rw [decide_eq_true (by omega : 10 ≤ σ 1 2)]
  refine e_ifb_eq 3 21 10 rfl rfl rfl (fun h => ?_) (fun h => ?_)
  · skip
    cases h
  · skip
    exact e_throwW 4 thX11_101_105 rfl rfl rfl rfl rfl stX11_409 (Nat.le_of_ble_eq_true rfl) (Nat.le_of_ble_eq_true rfl) (Nat.le_of_ble_eq_true rfl) (Nat.le_of_ble_eq_true rfl) (Nat.le_of_ble_eq_true rfl)
theorem sp_pileUp {σ : xSig} {T : Nat → List Int} (hA : VAll σ T) (hn : 0 ≤ σ 1 2 ∧ σ 1 2 < 10) {x : Int} (hx : 0 ≤ x ∧ x < 6000) :
    ∃ σ' : xSig, x_Sp MX11_pileUp 0 0 [.ref 0, .int (ii x)] (St σ) (iv (σ 1 2 + 1)) (St σ') ∧ VAll σ' (uT T (pv (σ 1 2)) (newv x)) ∧ NV [1] σ σ' ∧ σ' 1 2 = σ 1 2 + 1 := by
  obtain ⟨σ', k1, k2⟩ := sp_pPut hA hn hx
  refine ⟨σ', ?_, k2⟩
  refine e_entry okX11_pileUp (Nat.le_of_ble_eq_true rfl) (ls := [some _, some _]) rfl ?_
  refine e_aload_n 0 1 rfl rfl rfl rfl ?_
  refine g_getR 1 4 ckX11 flX11_12 rfl rfl (Nat.le_of_ble_eq_true rfl) rfl rfl ?_
  refine g_callV 2 7 (sp_pFull (by omega)) okX5_isFull cvX11_408 ⟨(Nat.le_of_ble_eq_true rfl), (Nat.le_of_ble_eq_true rfl)⟩ rfl rfl (Nat.le_of_ble_eq_true rfl) rfl rfl rfl rfl rfl (Nat.le_of_ble_eq_true rfl) (Nat.le_of_ble_eq_true rfl) (Nat.le_of_ble_eq_true rfl) ?_
  rw [decide_eq_false (by omega : ¬ 10 ≤ σ 1 2)]
  refine e_ifb_eq 3 21 10 rfl rfl rfl (fun h => ?_) (fun h => ?_)
  · skip
    refine e_aload_n 9 22 rfl rfl rfl rfl ?_
    refine g_getR 10 25 ckX11 flX11_12 rfl rfl (Nat.le_of_ble_eq_true rfl) rfl rfl ?_
    refine e_iload_n 11 26 rfl rfl rfl rfl ?_
    refine g_callV 12 29 (k1) okX5_put cvX11_411 ⟨(Nat.le_of_ble_eq_true rfl), (Nat.le_of_ble_eq_true rfl)⟩ rfl rfl (Nat.le_of_ble_eq_true rfl) rfl rfl rfl rfl rfl (Nat.le_of_ble_eq_true rfl) (Nat.le_of_ble_eq_true rfl) (Nat.le_of_ble_eq_true rfl) ?_
    exact e_ireturn 13 rfl rfl (Nat.le_of_ble_eq_true rfl) (Nat.le_of_ble_eq_true rfl)
  · skip
    cases h
theorem sp_isField {σ : xSig} {x : Int} (hx : xr x) : Rd MX11_isField [.int (ii x)] σ (zv (decide (0 ≤ x ∧ x < 8))) := by
  unfold xr at hx
  refine e_entry okX11_isField (Nat.le_of_ble_eq_true rfl) (ls := [some _]) rfl ?_
  refine e_iload_n 0 1 rfl rfl rfl rfl ?_
  refine e_if_lt 1 14 4 rfl rfl rfl (by unfold xr at *; omega) (fun h => ?_) (fun h => ?_)
  · skip
    rw [decide_eq_false (by omega)]
    refine e_iconst 7 15 rfl rfl ?_
    exact e_zreturn (x := 0) 8 rfl rfl (by omega) (Nat.le_of_ble_eq_true rfl) (Nat.le_of_ble_eq_true rfl)
  · skip
    refine e_iload_n 2 5 rfl rfl rfl rfl ?_
    refine e_bipush 3 7 rfl rfl rfl ?_
    refine e_icmp_ge 4 14 10 rfl rfl rfl (by unfold xr at *; omega) (by unfold xr at *; omega) (fun h2 => ?_) (fun h2 => ?_)
    · skip
      rw [decide_eq_false (by omega)]
      refine e_iconst 7 15 rfl rfl ?_
      exact e_zreturn (x := 0) 8 rfl rfl (by omega) (Nat.le_of_ble_eq_true rfl) (Nat.le_of_ble_eq_true rfl)
    · skip
      rw [decide_eq_true (by omega)]
      refine e_iconst 5 11 rfl rfl ?_
      refine e_goto 6 15 rfl rfl ?_
      exact e_zreturn (x := 1) 8 rfl rfl (by omega) (Nat.le_of_ble_eq_true rfl) (Nat.le_of_ble_eq_true rfl)
theorem sp_isPath {σ : xSig} {x : Int} (hx : xr x) : Rd MX11_isPath [.int (ii x)] σ (zv (decide (0 ≤ x ∧ x < 72))) := by
  unfold xr at hx
  refine e_entry okX11_isPath (Nat.le_of_ble_eq_true rfl) (ls := [some _]) rfl ?_
  refine e_iload_n 0 1 rfl rfl rfl rfl ?_
  refine e_if_lt 1 14 4 rfl rfl rfl (by unfold xr at *; omega) (fun h => ?_) (fun h => ?_)
  · skip
    rw [decide_eq_false (by omega)]
    refine e_iconst 7 15 rfl rfl ?_
    exact e_zreturn (x := 0) 8 rfl rfl (by omega) (Nat.le_of_ble_eq_true rfl) (Nat.le_of_ble_eq_true rfl)
  · skip
    refine e_iload_n 2 5 rfl rfl rfl rfl ?_
    refine e_bipush 3 7 rfl rfl rfl ?_
    refine e_icmp_ge 4 14 10 rfl rfl rfl (by unfold xr at *; omega) (by unfold xr at *; omega) (fun h2 => ?_) (fun h2 => ?_)
    · skip
      rw [decide_eq_false (by omega)]
      refine e_iconst 7 15 rfl rfl ?_
      exact e_zreturn (x := 0) 8 rfl rfl (by omega) (Nat.le_of_ble_eq_true rfl) (Nat.le_of_ble_eq_true rfl)
    · skip
      rw [decide_eq_true (by omega)]
      refine e_iconst 5 11 rfl rfl ?_
      refine e_goto 6 15 rfl rfl ?_
      exact e_zreturn (x := 1) 8 rfl rfl (by omega) (Nat.le_of_ble_eq_true rfl) (Nat.le_of_ble_eq_true rfl)
theorem sp_isShard {σ : xSig} {x : Int} (hx : xr x) : Rd MX11_isShard [.int (ii x)] σ (zv (decide (0 ≤ x ∧ x < 3))) := by
  unfold xr at hx
  refine e_entry okX11_isShard (Nat.le_of_ble_eq_true rfl) (ls := [some _]) rfl ?_
  refine e_iload_n 0 1 rfl rfl rfl rfl ?_
  refine e_if_lt 1 13 4 rfl rfl rfl (by unfold xr at *; omega) (fun h => ?_) (fun h => ?_)
  · skip
    rw [decide_eq_false (by omega)]
    refine e_iconst 7 14 rfl rfl ?_
    exact e_zreturn (x := 0) 8 rfl rfl (by omega) (Nat.le_of_ble_eq_true rfl) (Nat.le_of_ble_eq_true rfl)
  · skip
    refine e_iload_n 2 5 rfl rfl rfl rfl ?_
    refine e_iconst 3 6 rfl rfl ?_
    refine e_icmp_ge 4 13 9 rfl rfl rfl (by unfold xr at *; omega) (by unfold xr at *; omega) (fun h2 => ?_) (fun h2 => ?_)
    · skip
      rw [decide_eq_false (by omega)]
      refine e_iconst 7 14 rfl rfl ?_
      exact e_zreturn (x := 0) 8 rfl rfl (by omega) (Nat.le_of_ble_eq_true rfl) (Nat.le_of_ble_eq_true rfl)
    · skip
      rw [decide_eq_true (by omega)]
      refine e_iconst 5 10 rfl rfl ?_
      refine e_goto 6 14 rfl rfl ?_
      exact e_zreturn (x := 1) 8 rfl rfl (by omega) (Nat.le_of_ble_eq_true rfl) (Nat.le_of_ble_eq_true rfl)
theorem sp_isRouter {σ : xSig} {x : Int} (hx : xr x) : Rd MX11_isRouter [.int (ii x)] σ (zv (decide (0 ≤ x ∧ x < 2))) := by
  unfold xr at hx
  refine e_entry okX11_isRouter (Nat.le_of_ble_eq_true rfl) (ls := [some _]) rfl ?_
  refine e_iload_n 0 1 rfl rfl rfl rfl ?_
  refine e_if_lt 1 13 4 rfl rfl rfl (by unfold xr at *; omega) (fun h => ?_) (fun h => ?_)
  · skip
    rw [decide_eq_false (by omega)]
    refine e_iconst 7 14 rfl rfl ?_
    exact e_zreturn (x := 0) 8 rfl rfl (by omega) (Nat.le_of_ble_eq_true rfl) (Nat.le_of_ble_eq_true rfl)
  · skip
    refine e_iload_n 2 5 rfl rfl rfl rfl ?_
    refine e_iconst 3 6 rfl rfl ?_
    refine e_icmp_ge 4 13 9 rfl rfl rfl (by unfold xr at *; omega) (by unfold xr at *; omega) (fun h2 => ?_) (fun h2 => ?_)
    · skip
      rw [decide_eq_false (by omega)]
      refine e_iconst 7 14 rfl rfl ?_
      exact e_zreturn (x := 0) 8 rfl rfl (by omega) (Nat.le_of_ble_eq_true rfl) (Nat.le_of_ble_eq_true rfl)
    · skip
      rw [decide_eq_true (by omega)]
      refine e_iconst 5 10 rfl rfl ?_
      refine e_goto 6 14 rfl rfl ?_
      exact e_zreturn (x := 1) 8 rfl rfl (by omega) (Nat.le_of_ble_eq_true rfl) (Nat.le_of_ble_eq_true rfl)
/-! nothing, number, word, row, object -/
theorem sp_nothing1 {σ σ' : xSig} {z : Int} (h : x_Sp MX11_pileUp 0 0 [.ref 0, .int (ii 9)] (St σ) (iv z) (St σ')) : x_Sp MX11_nothing 0 0 [.ref 0] (St σ) (iv z) (St σ') := by
  refine e_entry okX11_nothing (Nat.le_of_ble_eq_true rfl) (ls := [some _]) rfl ?_
  refine e_aload_n 0 1 rfl rfl rfl rfl ?_
  refine e_bipush 1 3 rfl rfl rfl ?_
  refine g_callV 2 6 (h) okX11_pileUp cvX11_74 ⟨(Nat.le_of_ble_eq_true rfl), (Nat.le_of_ble_eq_true rfl)⟩ rfl rfl (Nat.le_of_ble_eq_true rfl) rfl rfl rfl rfl rfl (Nat.le_of_ble_eq_true rfl) (Nat.le_of_ble_eq_true rfl) (Nat.le_of_ble_eq_true rfl) ?_
  exact e_ireturn 3 rfl rfl (Nat.le_of_ble_eq_true rfl) (Nat.le_of_ble_eq_true rfl)
theorem sp_nothingT {σ : xSig} (h : x_Sp MX11_pileUp 1 6 [.ref 0, .int (ii 9)] (St σ) tISE (St σ)) : x_Sp MX11_nothing 1 6 [.ref 0] (St σ) tISE (St σ) := by
  refine e_entry okX11_nothing (Nat.le_of_ble_eq_true rfl) (ls := [some _]) rfl ?_
  refine e_aload_n 0 1 rfl rfl rfl rfl ?_
  refine e_bipush 1 3 rfl rfl rfl ?_
  exact e_callVT 2 (h) okX11_pileUp cvX11_74 ⟨(Nat.le_of_ble_eq_true rfl), (Nat.le_of_ble_eq_true rfl)⟩ rfl (Nat.le_of_ble_eq_true rfl) rfl rfl rfl rfl rfl (Nat.le_of_ble_eq_true rfl) (Nat.le_of_ble_eq_true rfl) (Nat.le_of_ble_eq_true rfl)
theorem sp_number1 {σ σ' : xSig} {x z : Int} (hx : xr x) (hr : inr9 x = true) (h : x_Sp MX11_pileUp 0 0 [.ref 0, .int (ii (2000 + x))] (St σ) (iv z) (St σ')) : x_Sp MX11_number 0 0 [.ref 0, .int (ii x)] (St σ) (iv z) (St σ') := by
  have hi := sp_isNumber (σ := σ) hx
  rw [hr] at hi
  refine e_entry okX11_number (Nat.le_of_ble_eq_true rfl) (ls := [some _, some _]) rfl ?_
  refine e_iload_n 0 1 rfl rfl rfl rfl ?_
  refine g_callS 1 4 (hi) okX11_isNumber csX11_78 ⟨(Nat.le_of_ble_eq_true rfl), (Nat.le_of_ble_eq_true rfl)⟩ rfl rfl rfl rfl (Nat.le_of_ble_eq_true rfl) (Nat.le_of_ble_eq_true rfl) (Nat.le_of_ble_eq_true rfl) ?_
  refine e_ifb_ne 2 17 7 rfl rfl rfl (fun h2 => ?_) (fun h2 => ?_)
  · skip
    refine e_aload_n 8 18 rfl rfl rfl rfl ?_
    refine e_sipush 9 21 rfl rfl rfl ?_
    refine e_iload_n 10 22 rfl rfl rfl rfl ?_
    refine e_iadd 11 23 rfl rfl ?_
    refine g_callV 12 26 (h) okX11_pileUp cvX11_74 ⟨(Nat.le_of_ble_eq_true rfl), (Nat.le_of_ble_eq_true rfl)⟩ rfl rfl (Nat.le_of_ble_eq_true rfl) rfl rfl rfl rfl rfl (Nat.le_of_ble_eq_true rfl) (Nat.le_of_ble_eq_true rfl) (Nat.le_of_ble_eq_true rfl) ?_
    exact e_ireturn 13 rfl rfl (Nat.le_of_ble_eq_true rfl) (Nat.le_of_ble_eq_true rfl)
  · skip
    cases h2
theorem sp_numberT {σ : xSig} {x : Int} (hx : xr x) (hr : inr9 x = true) (h : x_Sp MX11_pileUp 1 6 [.ref 0, .int (ii (2000 + x))] (St σ) tISE (St σ)) : x_Sp MX11_number 1 6 [.ref 0, .int (ii x)] (St σ) tISE (St σ) := by
  have hi := sp_isNumber (σ := σ) hx
  rw [hr] at hi
  refine e_entry okX11_number (Nat.le_of_ble_eq_true rfl) (ls := [some _, some _]) rfl ?_
  refine e_iload_n 0 1 rfl rfl rfl rfl ?_
  refine g_callS 1 4 (hi) okX11_isNumber csX11_78 ⟨(Nat.le_of_ble_eq_true rfl), (Nat.le_of_ble_eq_true rfl)⟩ rfl rfl rfl rfl (Nat.le_of_ble_eq_true rfl) (Nat.le_of_ble_eq_true rfl) (Nat.le_of_ble_eq_true rfl) ?_
  refine e_ifb_ne 2 17 7 rfl rfl rfl (fun h2 => ?_) (fun h2 => ?_)
  · skip
    refine e_aload_n 8 18 rfl rfl rfl rfl ?_
    refine e_sipush 9 21 rfl rfl rfl ?_
    refine e_iload_n 10 22 rfl rfl rfl rfl ?_
    refine e_iadd 11 23 rfl rfl ?_
    exact e_callVT 12 (h) okX11_pileUp cvX11_74 ⟨(Nat.le_of_ble_eq_true rfl), (Nat.le_of_ble_eq_true rfl)⟩ rfl (Nat.le_of_ble_eq_true rfl) rfl rfl rfl rfl rfl (Nat.le_of_ble_eq_true rfl) (Nat.le_of_ble_eq_true rfl) (Nat.le_of_ble_eq_true rfl)
  · skip
    cases h2
theorem sp_numberX {σ : xSig} {x : Int} (hx : xr x) (hr : inr9 x = false) : x_Sp MX11_number 1 6 [.ref 0, .int (ii x)] (St σ) tIAE (St σ) := by
  have hi := sp_isNumber (σ := σ) hx
  rw [hr] at hi
  refine e_entry okX11_number (Nat.le_of_ble_eq_true rfl) (ls := [some _, some _]) rfl ?_
  refine e_iload_n 0 1 rfl rfl rfl rfl ?_
  refine g_callS 1 4 (hi) okX11_isNumber csX11_78 ⟨(Nat.le_of_ble_eq_true rfl), (Nat.le_of_ble_eq_true rfl)⟩ rfl rfl rfl rfl (Nat.le_of_ble_eq_true rfl) (Nat.le_of_ble_eq_true rfl) (Nat.le_of_ble_eq_true rfl) ?_
  refine e_ifb_ne 2 17 7 rfl rfl rfl (fun h2 => ?_) (fun h2 => ?_)
  · skip
    cases h2
  · skip
    exact e_throw 3 thX11_82_86 rfl rfl rfl rfl rfl stX11_84 (Nat.le_of_ble_eq_true rfl) (Nat.le_of_ble_eq_true rfl) (Nat.le_of_ble_eq_true rfl) (Nat.le_of_ble_eq_true rfl) (Nat.le_of_ble_eq_true rfl)
theorem sp_word1 {σ σ' : xSig} {x z : Int} (hr : 0 ≤ x ∧ x < 100) (h : x_Sp MX11_pileUp 0 0 [.ref 0, .int (ii (3000 + x))] (St σ) (iv z) (St σ')) : x_Sp MX11_word 0 0 [.ref 0, .int (ii x)] (St σ) (iv z) (St σ') := by
  refine e_entry okX11_word (Nat.le_of_ble_eq_true rfl) (ls := [some _, some _]) rfl ?_
  refine e_iload_n 0 1 rfl rfl rfl rfl ?_
  refine e_if_lt 1 10 4 rfl rfl rfl (by unfold xr at *; omega) (fun h9 => absurd h9 (by omega)) (fun _ => ?_)
  refine e_iload_n 2 5 rfl rfl rfl rfl ?_
  refine e_bipush 3 7 rfl rfl rfl ?_
  refine e_icmp_lt 4 20 10 rfl rfl rfl (by unfold xr at *; omega) (by unfold xr at *; omega) (fun _ => ?_) (fun h9 => absurd h9 (by omega))
  refine e_aload_n 10 21 rfl rfl rfl rfl ?_
  refine e_sipush 11 24 rfl rfl rfl ?_
  refine e_iload_n 12 25 rfl rfl rfl rfl ?_
  refine e_iadd 13 26 rfl rfl ?_
  refine g_callV 14 29 (h) okX11_pileUp cvX11_74 ⟨(Nat.le_of_ble_eq_true rfl), (Nat.le_of_ble_eq_true rfl)⟩ rfl rfl (Nat.le_of_ble_eq_true rfl) rfl rfl rfl rfl rfl (Nat.le_of_ble_eq_true rfl) (Nat.le_of_ble_eq_true rfl) (Nat.le_of_ble_eq_true rfl) ?_
  exact e_ireturn 15 rfl rfl (Nat.le_of_ble_eq_true rfl) (Nat.le_of_ble_eq_true rfl)
theorem sp_wordT {σ : xSig} {x : Int} (hr : 0 ≤ x ∧ x < 100) (h : x_Sp MX11_pileUp 1 6 [.ref 0, .int (ii (3000 + x))] (St σ) tISE (St σ)) : x_Sp MX11_word 1 6 [.ref 0, .int (ii x)] (St σ) tISE (St σ) := by
  refine e_entry okX11_word (Nat.le_of_ble_eq_true rfl) (ls := [some _, some _]) rfl ?_
  refine e_iload_n 0 1 rfl rfl rfl rfl ?_
  refine e_if_lt 1 10 4 rfl rfl rfl (by unfold xr at *; omega) (fun h9 => absurd h9 (by omega)) (fun _ => ?_)
  refine e_iload_n 2 5 rfl rfl rfl rfl ?_
  refine e_bipush 3 7 rfl rfl rfl ?_
  refine e_icmp_lt 4 20 10 rfl rfl rfl (by unfold xr at *; omega) (by unfold xr at *; omega) (fun _ => ?_) (fun h9 => absurd h9 (by omega))
  refine e_aload_n 10 21 rfl rfl rfl rfl ?_
  refine e_sipush 11 24 rfl rfl rfl ?_
  refine e_iload_n 12 25 rfl rfl rfl rfl ?_
  refine e_iadd 13 26 rfl rfl ?_
  exact e_callVT 14 (h) okX11_pileUp cvX11_74 ⟨(Nat.le_of_ble_eq_true rfl), (Nat.le_of_ble_eq_true rfl)⟩ rfl (Nat.le_of_ble_eq_true rfl) rfl rfl rfl rfl rfl (Nat.le_of_ble_eq_true rfl) (Nat.le_of_ble_eq_true rfl) (Nat.le_of_ble_eq_true rfl)
theorem sp_wordX {σ : xSig} {x : Int} (hx : xr x) (hr : x < 0 ∨ 100 ≤ x) : x_Sp MX11_word 1 6 [.ref 0, .int (ii x)] (St σ) tIAE (St σ) := by
  unfold xr at hx
  refine e_entry okX11_word (Nat.le_of_ble_eq_true rfl) (ls := [some _, some _]) rfl ?_
  refine e_iload_n 0 1 rfl rfl rfl rfl ?_
  refine e_if_lt 1 10 4 rfl rfl rfl (by unfold xr at *; omega) (fun h => ?_) (fun h => ?_)
  · skip
    exact e_throw 5 thX11_82_86 rfl rfl rfl rfl rfl stX11_89 (Nat.le_of_ble_eq_true rfl) (Nat.le_of_ble_eq_true rfl) (Nat.le_of_ble_eq_true rfl) (Nat.le_of_ble_eq_true rfl) (Nat.le_of_ble_eq_true rfl)
  · skip
    refine e_iload_n 2 5 rfl rfl rfl rfl ?_
    refine e_bipush 3 7 rfl rfl rfl ?_
    refine e_icmp_lt 4 20 10 rfl rfl rfl (by unfold xr at *; omega) (by unfold xr at *; omega) (fun h9 => absurd h9 (by omega)) (fun _ => ?_)
    exact e_throw 5 thX11_82_86 rfl rfl rfl rfl rfl stX11_89 (Nat.le_of_ble_eq_true rfl) (Nat.le_of_ble_eq_true rfl) (Nat.le_of_ble_eq_true rfl) (Nat.le_of_ble_eq_true rfl) (Nat.le_of_ble_eq_true rfl)
theorem sp_row1 {σ σ' : xSig} {z : Int} (h : x_Sp MX11_pileUp 0 0 [.ref 0, .int (ii 4000)] (St σ) (iv z) (St σ')) : x_Sp MX11_row 0 0 [.ref 0] (St σ) (iv z) (St σ') := by
  refine e_entry okX11_row (Nat.le_of_ble_eq_true rfl) (ls := [some _]) rfl ?_
  refine e_aload_n 0 1 rfl rfl rfl rfl ?_
  refine e_sipush 1 4 rfl rfl rfl ?_
  refine g_callV 2 7 (h) okX11_pileUp cvX11_74 ⟨(Nat.le_of_ble_eq_true rfl), (Nat.le_of_ble_eq_true rfl)⟩ rfl rfl (Nat.le_of_ble_eq_true rfl) rfl rfl rfl rfl rfl (Nat.le_of_ble_eq_true rfl) (Nat.le_of_ble_eq_true rfl) (Nat.le_of_ble_eq_true rfl) ?_
  exact e_ireturn 3 rfl rfl (Nat.le_of_ble_eq_true rfl) (Nat.le_of_ble_eq_true rfl)
theorem sp_rowT {σ : xSig} (h : x_Sp MX11_pileUp 1 6 [.ref 0, .int (ii 4000)] (St σ) tISE (St σ)) : x_Sp MX11_row 1 6 [.ref 0] (St σ) tISE (St σ) := by
  refine e_entry okX11_row (Nat.le_of_ble_eq_true rfl) (ls := [some _]) rfl ?_
  refine e_aload_n 0 1 rfl rfl rfl rfl ?_
  refine e_sipush 1 4 rfl rfl rfl ?_
  exact e_callVT 2 (h) okX11_pileUp cvX11_74 ⟨(Nat.le_of_ble_eq_true rfl), (Nat.le_of_ble_eq_true rfl)⟩ rfl (Nat.le_of_ble_eq_true rfl) rfl rfl rfl rfl rfl (Nat.le_of_ble_eq_true rfl) (Nat.le_of_ble_eq_true rfl) (Nat.le_of_ble_eq_true rfl)
theorem sp_object1 {σ σ' : xSig} {z : Int} (h : x_Sp MX11_pileUp 0 0 [.ref 0, .int (ii 5000)] (St σ) (iv z) (St σ')) : x_Sp MX11_object 0 0 [.ref 0] (St σ) (iv z) (St σ') := by
  refine e_entry okX11_object (Nat.le_of_ble_eq_true rfl) (ls := [some _]) rfl ?_
  refine e_aload_n 0 1 rfl rfl rfl rfl ?_
  refine e_sipush 1 4 rfl rfl rfl ?_
  refine g_callV 2 7 (h) okX11_pileUp cvX11_74 ⟨(Nat.le_of_ble_eq_true rfl), (Nat.le_of_ble_eq_true rfl)⟩ rfl rfl (Nat.le_of_ble_eq_true rfl) rfl rfl rfl rfl rfl (Nat.le_of_ble_eq_true rfl) (Nat.le_of_ble_eq_true rfl) (Nat.le_of_ble_eq_true rfl) ?_
  exact e_ireturn 3 rfl rfl (Nat.le_of_ble_eq_true rfl) (Nat.le_of_ble_eq_true rfl)
theorem sp_objectT {σ : xSig} (h : x_Sp MX11_pileUp 1 6 [.ref 0, .int (ii 5000)] (St σ) tISE (St σ)) : x_Sp MX11_object 1 6 [.ref 0] (St σ) tISE (St σ) := by
  refine e_entry okX11_object (Nat.le_of_ble_eq_true rfl) (ls := [some _]) rfl ?_
  refine e_aload_n 0 1 rfl rfl rfl rfl ?_
  refine e_sipush 1 4 rfl rfl rfl ?_
  exact e_callVT 2 (h) okX11_pileUp cvX11_74 ⟨(Nat.le_of_ble_eq_true rfl), (Nat.le_of_ble_eq_true rfl)⟩ rfl (Nat.le_of_ble_eq_true rfl) rfl rfl rfl rfl rfl (Nat.le_of_ble_eq_true rfl) (Nat.le_of_ble_eq_true rfl) (Nat.le_of_ble_eq_true rfl)
theorem sp_drop {σ : xSig} : x_Sp MX11_drop 0 0 [.ref 0] (St σ) (iv (σ 1 2)) (St (xu σ 1 2 0)) := by
  refine e_entry okX11_drop (Nat.le_of_ble_eq_true rfl) (ls := [some _]) rfl ?_
  refine e_aload_n 0 1 rfl rfl rfl rfl ?_
  refine g_getR 1 4 ckX11 flX11_12 rfl rfl (Nat.le_of_ble_eq_true rfl) rfl rfl ?_
  refine g_callV 2 7 (sp_takeAll) okX5_takeAll cvX11_137 ⟨(Nat.le_of_ble_eq_true rfl), (Nat.le_of_ble_eq_true rfl)⟩ rfl rfl (Nat.le_of_ble_eq_true rfl) rfl rfl rfl rfl rfl (Nat.le_of_ble_eq_true rfl) (Nat.le_of_ble_eq_true rfl) (Nat.le_of_ble_eq_true rfl) ?_
  exact e_ireturn 3 rfl rfl (Nat.le_of_ble_eq_true rfl) (Nat.le_of_ble_eq_true rfl)
/-! add, give -/
theorem pv_cap {i : Int} (h : 0 ≤ i ∧ i < 10) : vCap (pv i) = 72 := by
  rw [pv_in h.1 h.2]
  exact (vO_p _ (by omega)).2
theorem pv_ne {i j : Int} (h : 0 ≤ i ∧ i < 10) (hj : 0 ≤ j ∧ j < 10) (hne : i ≠ j) : pv i ≠ pv j := by
  rw [pv_in h.1 h.2, pv_in hj.1 hj.2]
  omega
def pts (t : List Int) : Int := cnt (t.take (vsc t 0))
theorem pts_bnd (t : List Int) : 0 ≤ pts t ∧ pts t ≤ t.length := by
  have := cnt_bnd (t.take (vsc t 0))
  rw [List.length_take] at this
  unfold pts
  omega
theorem sp_pts {σ : xSig} {a cap : Nat} {t : List Int} (hV : VH σ a cap t) : Rd MX10_parts [.ref a] σ (iv (pts t)) := sp_parts hV
theorem pts_tk {v : Fo} (h : ok1 v) : pts (tk v) = pa v := by
  have := vsc_cv (ok1_Cv h) []
  rw [List.append_nil] at this
  unfold pts
  rw [this, List.take_length, tk_cnt v false false 0 (by decide) (ok1_okf h)]
theorem sp_addX {σ : xSig} {T : Nat → List Int} (hA : VAll σ T) (hn : 0 ≤ σ 1 2 ∧ σ 1 2 ≤ 10) (hk : knd (tok (T (vbel σ)) 0) ≠ 3) : x_Sp MX11_add 1 6 [.ref 0] (St σ) tISE (St σ) := by
  have hV : VH σ (vbel σ) (vCap (vbel σ)) (T (vbel σ)) := hA _ (pv_vO (σ 1 2 - 2))
  have hkk := sp_kindAt hV xr_0
  have hkb := knd_bnd (tok (T (vbel σ)) 0)
  refine e_entry okX11_add (Nat.le_of_ble_eq_true rfl) (ls := [some _, none, none]) rfl ?_
  refine e_aload_n 0 1 rfl rfl rfl rfl ?_
  refine g_getR 1 4 ckX11 flX11_12 rfl rfl (Nat.le_of_ble_eq_true rfl) rfl rfl ?_
  refine g_callV 2 7 (sp_pBelow hn) okX5_below cvX11_91 ⟨(Nat.le_of_ble_eq_true rfl), (Nat.le_of_ble_eq_true rfl)⟩ rfl rfl (Nat.le_of_ble_eq_true rfl) rfl rfl rfl rfl rfl (Nat.le_of_ble_eq_true rfl) (Nat.le_of_ble_eq_true rfl) (Nat.le_of_ble_eq_true rfl) ?_
  refine e_astore_n 3 8 (ls' := [some _, some _, none]) rfl rfl rfl (Nat.le_of_ble_eq_true rfl) rfl ?_
  refine e_aload_n 4 9 rfl rfl rfl rfl ?_
  refine g_getR 5 12 ckX11 flX11_12 rfl rfl (Nat.le_of_ble_eq_true rfl) rfl rfl ?_
  refine g_callV 6 15 (sp_pTop hn) okX5_top cvX11_95 ⟨(Nat.le_of_ble_eq_true rfl), (Nat.le_of_ble_eq_true rfl)⟩ rfl rfl (Nat.le_of_ble_eq_true rfl) rfl rfl rfl rfl rfl (Nat.le_of_ble_eq_true rfl) (Nat.le_of_ble_eq_true rfl) (Nat.le_of_ble_eq_true rfl) ?_
  refine e_astore_n 7 16 (ls' := [some _, some _, some _]) rfl rfl rfl (Nat.le_of_ble_eq_true rfl) rfl ?_
  refine e_aload_n 8 17 rfl rfl rfl rfl ?_
  refine e_iconst 9 18 rfl rfl ?_
  refine g_callV 10 21 (hkk) okX10_kindAt cvX11_98 ⟨(Nat.le_of_ble_eq_true rfl), (Nat.le_of_ble_eq_true rfl)⟩ rfl rfl hV.1.1 hV.1.2.2.1 rfl rfl rfl rfl (Nat.le_of_ble_eq_true rfl) (Nat.le_of_ble_eq_true rfl) (Nat.le_of_ble_eq_true rfl) ?_
  refine e_iconst 11 22 rfl rfl ?_
  refine e_icmp_eq 12 35 25 rfl rfl rfl (by unfold xr at *; omega) (by unfold xr at *; omega) (fun h9 => absurd h9 (by omega)) (fun _ => ?_)
  exact e_throw 13 thX11_101_105 rfl rfl rfl rfl rfl stX11_103 (Nat.le_of_ble_eq_true rfl) (Nat.le_of_ble_eq_true rfl) (Nat.le_of_ble_eq_true rfl) (Nat.le_of_ble_eq_true rfl) (Nat.le_of_ble_eq_true rfl)
theorem sp_addX2 {σ : xSig} {T : Nat → List Int} (hA : VAll σ T) (hn : 0 ≤ σ 1 2 ∧ σ 1 2 ≤ 10) (hk : knd (tok (T (vbel σ)) 0) = 3) (hc : 24 < pts (T (vbel σ)) + pts (T (vtop σ))) : x_Sp MX11_add 1 6 [.ref 0] (St σ) tISE (St σ) := by
  have hV : VH σ (vbel σ) (vCap (vbel σ)) (T (vbel σ)) := hA _ (pv_vO (σ 1 2 - 2))
  have hW : VH σ (vtop σ) (vCap (vtop σ)) (T (vtop σ)) := hA _ (pv_vO (σ 1 2 - 1))
  have hkk := sp_kindAt hV xr_0
  have b1 := pts_bnd (T (vbel σ))
  have b2 := pts_bnd (T (vtop σ))
  have b3 := hV.2.2.1
  have b4 := hW.2.2.1
  have b5 := hV.2.2.2.1
  have b6 := hW.2.2.2.1
  rw [hk] at hkk
  refine e_entry okX11_add (Nat.le_of_ble_eq_true rfl) (ls := [some _, none, none]) rfl ?_
  refine e_aload_n 0 1 rfl rfl rfl rfl ?_
  refine g_getR 1 4 ckX11 flX11_12 rfl rfl (Nat.le_of_ble_eq_true rfl) rfl rfl ?_
  refine g_callV 2 7 (sp_pBelow hn) okX5_below cvX11_91 ⟨(Nat.le_of_ble_eq_true rfl), (Nat.le_of_ble_eq_true rfl)⟩ rfl rfl (Nat.le_of_ble_eq_true rfl) rfl rfl rfl rfl rfl (Nat.le_of_ble_eq_true rfl) (Nat.le_of_ble_eq_true rfl) (Nat.le_of_ble_eq_true rfl) ?_
  refine e_astore_n 3 8 (ls' := [some _, some _, none]) rfl rfl rfl (Nat.le_of_ble_eq_true rfl) rfl ?_
  refine e_aload_n 4 9 rfl rfl rfl rfl ?_
  refine g_getR 5 12 ckX11 flX11_12 rfl rfl (Nat.le_of_ble_eq_true rfl) rfl rfl ?_
  refine g_callV 6 15 (sp_pTop hn) okX5_top cvX11_95 ⟨(Nat.le_of_ble_eq_true rfl), (Nat.le_of_ble_eq_true rfl)⟩ rfl rfl (Nat.le_of_ble_eq_true rfl) rfl rfl rfl rfl rfl (Nat.le_of_ble_eq_true rfl) (Nat.le_of_ble_eq_true rfl) (Nat.le_of_ble_eq_true rfl) ?_
  refine e_astore_n 7 16 (ls' := [some _, some _, some _]) rfl rfl rfl (Nat.le_of_ble_eq_true rfl) rfl ?_
  refine e_aload_n 8 17 rfl rfl rfl rfl ?_
  refine e_iconst 9 18 rfl rfl ?_
  refine g_callV 10 21 (hkk) okX10_kindAt cvX11_98 ⟨(Nat.le_of_ble_eq_true rfl), (Nat.le_of_ble_eq_true rfl)⟩ rfl rfl hV.1.1 hV.1.2.2.1 rfl rfl rfl rfl (Nat.le_of_ble_eq_true rfl) (Nat.le_of_ble_eq_true rfl) (Nat.le_of_ble_eq_true rfl) ?_
  refine e_iconst 11 22 rfl rfl ?_
  refine e_icmp_eq 12 35 25 rfl rfl rfl (by unfold xr at *; omega) (by unfold xr at *; omega) (fun _ => ?_) (fun h9 => absurd h9 (by omega))
  refine e_aload_n 18 36 rfl rfl rfl rfl ?_
  refine g_callV 19 39 (sp_pts hV) okX10_parts cvX11_106 ⟨(Nat.le_of_ble_eq_true rfl), (Nat.le_of_ble_eq_true rfl)⟩ rfl rfl hV.1.1 hV.1.2.2.1 rfl rfl rfl rfl (Nat.le_of_ble_eq_true rfl) (Nat.le_of_ble_eq_true rfl) (Nat.le_of_ble_eq_true rfl) ?_
  refine e_aload_n 20 40 rfl rfl rfl rfl ?_
  refine g_callV 21 43 (sp_pts hW) okX10_parts cvX11_106 ⟨(Nat.le_of_ble_eq_true rfl), (Nat.le_of_ble_eq_true rfl)⟩ rfl rfl hW.1.1 hW.1.2.2.1 rfl rfl rfl rfl (Nat.le_of_ble_eq_true rfl) (Nat.le_of_ble_eq_true rfl) (Nat.le_of_ble_eq_true rfl) ?_
  refine e_iadd 22 44 rfl rfl ?_
  refine e_bipush 23 46 rfl rfl rfl ?_
  refine e_icmp_le 24 59 49 rfl rfl rfl (by unfold xr at *; omega) (by unfold xr at *; omega) (fun h9 => absurd h9 (by omega)) (fun _ => ?_)
  exact e_throw 25 thX11_101_105 rfl rfl rfl rfl rfl stX11_110 (Nat.le_of_ble_eq_true rfl) (Nat.le_of_ble_eq_true rfl) (Nat.le_of_ble_eq_true rfl) (Nat.le_of_ble_eq_true rfl) (Nat.le_of_ble_eq_true rfl)
theorem sp_add1 {σ : xSig} {T : Nat → List Int} (hA : VAll σ T) (hn : 2 ≤ σ 1 2 ∧ σ 1 2 ≤ 10) {c v : Fo} (hc : okf false false 0 c) (hv : ok1 v) (h1 : T (vbel σ) = tk (.sub c (.num 0))) (h2 : T (vtop σ) = tk v) (hp : 1 + pa c + pa v ≤ 24) :
    ∃ σ' : xSig, x_Sp MX11_add 0 0 [.ref 0] (St σ) (iv (σ 1 2 - 1)) (St (xu σ' 1 2 (σ 1 2 - 1))) ∧ VAll σ' (uT T (vbel σ) (tk (.sub (apd v c) (.num 0)))) ∧ NV [] σ σ' := by
  have hvb : vO (vbel σ) = true := pv_vO (σ 1 2 - 2)
  have hvt : vO (vtop σ) = true := pv_vO (σ 1 2 - 1)
  have hV : VH σ (vbel σ) (vCap (vbel σ)) (T (vbel σ)) := hA _ hvb
  have hW : VH σ (vtop σ) (vCap (vtop σ)) (T (vtop σ)) := hA _ hvt
  have hkk := sp_kindAt hV xr_0
  have hap := apd_ok c v 0 hc hv
  have hlen := tk_len (.sub (apd v c) (.num 0)) false false 0 ⟨rfl, hap.1, rfl, rfl⟩
  simp only [pa, hap.2, Bool.false_eq_true, if_false] at hlen
  have hne : vtop σ ≠ vbel σ := pv_ne (by omega) (by omega) (by omega)
  obtain ⟨e1, e2⟩ := vO_apart hvb hvt hne
  have hpa1 : pts (T (vbel σ)) = 1 + pa c := by rw [h1, pts_tk (Or.inr (Or.inr ⟨c, rfl, hc⟩))]; simp [pa]
  have hpa2 : pts (T (vtop σ)) = pa v := by rw [h2, pts_tk hv]
  have hpa := sp_pts hV
  have hpb := sp_pts hW
  rw [hpa1] at hpa
  rw [hpa2] at hpb
  have hb1 := pa_nn c
  have hb2 := pa_nn v
  have hk3 : knd (tok (T (vbel σ)) 0) = 3 := by rw [h1]; exact (by decide : knd 4000 = 3)
  rw [hk3] at hkk
  have hV' := hV
  rw [h1] at hV'
  have hW' := hW
  rw [h2] at hW'
  have ecap : vCap (vbel σ) = 72 := pv_cap (by omega)
  have etk : tk (.sub (apd v c) (.num 0)) = 4000 :: (tk c ++ tk v ++ [0]) := by rw [show tk (.sub (apd v c) (.num 0)) = 4000 :: (tk (apd v c) ++ [0]) from rfl, apd_tk c v _ _ hc]
  rw [etk] at hlen
  simp only [List.length_cons, List.length_append, List.length_nil] at hlen
  obtain ⟨σ', k1, k2, k3⟩ := sp_putBehind (p := []) (r := 4000 :: tk c) (s := []) (w := tk v) (by simpa [tk] using hV') (by rw [show 4000 :: tk c ++ 0 :: [] = 4000 :: (tk c ++ 0 :: []) from rfl, nd_cv2 trn_4 hc]; simp) hW' (by rw [ecap]; simp only [List.length_cons, List.length_nil]; omega) hne e1 e2
  rw [show (([] : List Int).length : Int) = 0 from rfl] at k1
  have hnv := k3.nv hvb
  have es : σ' 1 2 = σ 1 2 := by rw [hnv 1 (by decide +kernel) (by simp)]
  have htt := sp_takeTop (σ := σ') (by omega)
  rw [es] at htt
  refine ⟨σ', ?_, hA.put hvb (by rw [etk]; simpa using k2) k3, hnv⟩
  refine e_entry okX11_add (Nat.le_of_ble_eq_true rfl) (ls := [some _, none, none]) rfl ?_
  refine e_aload_n 0 1 rfl rfl rfl rfl ?_
  refine g_getR 1 4 ckX11 flX11_12 rfl rfl (Nat.le_of_ble_eq_true rfl) rfl rfl ?_
  refine g_callV 2 7 (sp_pBelow (by omega)) okX5_below cvX11_91 ⟨(Nat.le_of_ble_eq_true rfl), (Nat.le_of_ble_eq_true rfl)⟩ rfl rfl (Nat.le_of_ble_eq_true rfl) rfl rfl rfl rfl rfl (Nat.le_of_ble_eq_true rfl) (Nat.le_of_ble_eq_true rfl) (Nat.le_of_ble_eq_true rfl) ?_
  refine e_astore_n 3 8 (ls' := [some _, some _, none]) rfl rfl rfl (Nat.le_of_ble_eq_true rfl) rfl ?_
  refine e_aload_n 4 9 rfl rfl rfl rfl ?_
  refine g_getR 5 12 ckX11 flX11_12 rfl rfl (Nat.le_of_ble_eq_true rfl) rfl rfl ?_
  refine g_callV 6 15 (sp_pTop (by omega)) okX5_top cvX11_95 ⟨(Nat.le_of_ble_eq_true rfl), (Nat.le_of_ble_eq_true rfl)⟩ rfl rfl (Nat.le_of_ble_eq_true rfl) rfl rfl rfl rfl rfl (Nat.le_of_ble_eq_true rfl) (Nat.le_of_ble_eq_true rfl) (Nat.le_of_ble_eq_true rfl) ?_
  refine e_astore_n 7 16 (ls' := [some _, some _, some _]) rfl rfl rfl (Nat.le_of_ble_eq_true rfl) rfl ?_
  refine e_aload_n 8 17 rfl rfl rfl rfl ?_
  refine e_iconst 9 18 rfl rfl ?_
  refine g_callV 10 21 (hkk) okX10_kindAt cvX11_98 ⟨(Nat.le_of_ble_eq_true rfl), (Nat.le_of_ble_eq_true rfl)⟩ rfl rfl hV.1.1 hV.1.2.2.1 rfl rfl rfl rfl (Nat.le_of_ble_eq_true rfl) (Nat.le_of_ble_eq_true rfl) (Nat.le_of_ble_eq_true rfl) ?_
  refine e_iconst 11 22 rfl rfl ?_
  refine e_icmp_eq 12 35 25 rfl rfl rfl (by unfold xr at *; omega) (by unfold xr at *; omega) (fun _ => ?_) (fun h9 => absurd h9 (by omega))
  refine e_aload_n 18 36 rfl rfl rfl rfl ?_
  refine g_callV 19 39 (hpa) okX10_parts cvX11_106 ⟨(Nat.le_of_ble_eq_true rfl), (Nat.le_of_ble_eq_true rfl)⟩ rfl rfl hV.1.1 hV.1.2.2.1 rfl rfl rfl rfl (Nat.le_of_ble_eq_true rfl) (Nat.le_of_ble_eq_true rfl) (Nat.le_of_ble_eq_true rfl) ?_
  refine e_aload_n 20 40 rfl rfl rfl rfl ?_
  refine g_callV 21 43 (hpb) okX10_parts cvX11_106 ⟨(Nat.le_of_ble_eq_true rfl), (Nat.le_of_ble_eq_true rfl)⟩ rfl rfl hW.1.1 hW.1.2.2.1 rfl rfl rfl rfl (Nat.le_of_ble_eq_true rfl) (Nat.le_of_ble_eq_true rfl) (Nat.le_of_ble_eq_true rfl) ?_
  refine e_iadd 22 44 rfl rfl ?_
  refine e_bipush 23 46 rfl rfl rfl ?_
  refine e_icmp_le 24 59 49 rfl rfl rfl (by unfold xr at *; omega) (by unfold xr at *; omega) (fun _ => ?_) (fun h9 => absurd h9 (by omega))
  refine e_aload_n 30 60 rfl rfl rfl rfl ?_
  refine e_iconst 31 61 rfl rfl ?_
  refine e_aload_n 32 62 rfl rfl rfl rfl ?_
  refine g_callV 33 65 (k1) okX10_putBehind cvX11_112 ⟨(Nat.le_of_ble_eq_true rfl), (Nat.le_of_ble_eq_true rfl)⟩ rfl rfl hV.1.1 hV.1.2.2.1 rfl rfl rfl rfl (Nat.le_of_ble_eq_true rfl) (Nat.le_of_ble_eq_true rfl) (Nat.le_of_ble_eq_true rfl) ?_
  refine e_aload_n 34 66 rfl rfl rfl rfl ?_
  refine g_getR 35 69 ckX11 flX11_12 rfl rfl (Nat.le_of_ble_eq_true rfl) rfl rfl ?_
  refine g_callV 36 72 (htt) okX5_takeTop cvX11_116 ⟨(Nat.le_of_ble_eq_true rfl), (Nat.le_of_ble_eq_true rfl)⟩ rfl rfl (Nat.le_of_ble_eq_true rfl) rfl rfl rfl rfl rfl (Nat.le_of_ble_eq_true rfl) (Nat.le_of_ble_eq_true rfl) (Nat.le_of_ble_eq_true rfl) ?_
  exact e_ireturn 37 rfl rfl (Nat.le_of_ble_eq_true rfl) (Nat.le_of_ble_eq_true rfl)
/-! give -/
theorem sp_setF2 {σ : xSig} {a cap b cap' : Nat} {p0 s : List Int} {F w : Fo} {f : Int} (hf : 0 ≤ f ∧ f < 8) (hp0 : 0 < p0.length) (hF : okf true false 0 F) (hw : ok1 w) (hV : VH σ a cap (p0 ++ (tk F ++ 0 :: s))) (hW : VH σ b cap' (tk w)) (hn : (p0 ++ (tk (setf f w F) ++ 0 :: s)).length ≤ cap) (hb1 : b ≠ a) (hb2 : b ≠ a + 1) (hb3 : b + 1 ≠ a) :
    ∃ σ' : xSig, x_Sp MX10_setField 0 0 [.ref a, .int (ii (p0.length - 1)), .int (ii f), .ref b] (St σ) vv (St σ') ∧ VH σ' a cap (p0 ++ (tk (setf f w F) ++ 0 :: s)) ∧ Fr a σ σ' := by
  have hk := ssc_bef F f _ _ _ (by omega) hf.1 rfl hF s
  have ht := setf_tk F f w _ _ hF hw
  have hba := ba_tk F f _ _ _ hF
  rcases aft_cases (f := f) hF with ⟨G, a1, a2, a3, a4⟩ | ⟨a1, a2, a3⟩ | a
  · obtain ⟨v1, v2, v3, v4, v5⟩ := val_cases a2
    have e : tk F ++ 0 :: s = tk (bef f F) ++ (1 + f) :: tk (fst1 G) ++ (tk (nxt G) ++ 0 :: s) := by rw [hba, a1]; simp only [tk]; rw [v4]; simp
    rw [ht.1 G a1] at hn
    rw [e] at hk hV
    simp only [List.length_append, List.length_cons] at hn
    obtain ⟨σ', k1, k2, k3⟩ := sp_setField_has hf hp0 (ra := tk (bef f F)) (v := tk (fst1 G)) (rc := tk (nxt G) ++ 0 :: s) (by simpa using hV) hk (vsc_cv (ok1_Cv v1) _) hW (by simp only [List.length_append, List.length_cons]; omega) hb1 hb2 hb3
    refine ⟨σ', k1, ?_, k3⟩
    rw [ht.1 G a1]
    simpa using k2
  · have e : tk F ++ 0 :: s = tk (bef f F) ++ (tk (aft f F) ++ 0 :: s) := by rw [← List.append_assoc, ← hba]
    rw [ht.2 a3] at hn
    rw [e] at hk hV
    simp only [List.length_append, List.length_cons] at hn
    obtain ⟨σ', k1, k2, k3⟩ := sp_setField_new hf hp0 (ra := tk (bef f F)) (rb := tk (aft f F) ++ 0 :: s) (by simpa using hV) hk (aft_tok hf.1 hF a3 s) hW (by simp only [List.length_append, List.length_cons]; omega) hb1 hb2 hb3
    refine ⟨σ', k1, ?_, k3⟩
    rw [ht.2 a3]
    simpa using k2
  · omega
theorem parts_at {σ : xSig} {a cap : Nat} {F : Fo} {f : Int} (hf : 0 ≤ f ∧ f < 8) (hF : okf true false 0 F) (hV : VH σ a cap (5000 :: (tk F ++ [0]))) : ∃ at9 : Int, Rd MX10_placeOf [.ref a, .int (ii 0), .int (ii f)] σ (iv at9) ∧ Rd MX10_partsAt [.ref a, .int (ii at9)] σ (iv (pa (get f F))) := by
  have hV' : VH σ a cap ([5000] ++ (tk F ++ 0 :: [])) := hV
  have hpl := sp_plF (p0 := [5000]) hf (by decide) hV'
  rw [show ((([5000] : List Int).length : Nat) : Int) - 1 = 0 from rfl] at hpl
  refine ⟨_, hpl, ?_⟩
  rcases aft_cases (f := f) hF with ⟨G, a1, a2, a3, a4⟩ | ⟨a1, a2, a3⟩ | a
  · obtain ⟨e1, e2⟩ := at_fld hF a1 [5000] []
    rw [fld_at hf.1 hF a1, a3]
    have h9 := sp_partsAt hV' _ _ e1
    have hv := (val_cases a2).1
    rw [vsc_cv (ok1_Cv hv), List.take_left' rfl, tk_cnt _ false false 0 (by decide) (ok1_okf hv)] at h9
    exact h9
  · rw [plc_no (by omega) hf.1 hF a3, a1]
    exact sp_partsAtN hV' (by unfold xr; omega) (by decide)
  · omega
theorem sp_giveX0 {σ : xSig} {f : Int} (hx : xr f) (hf : ¬ (0 ≤ f ∧ f < 8)) : x_Sp MX11_give 1 6 [.ref 0, .int (ii f)] (St σ) tIAE (St σ) := by
  have hi := sp_isField (σ := σ) hx
  rw [decide_eq_false hf] at hi
  refine e_entry okX11_give (Nat.le_of_ble_eq_true rfl) (ls := [some _, some _, none, none, none]) rfl ?_
  refine e_iload_n 0 1 rfl rfl rfl rfl ?_
  refine g_callS 1 4 (hi) okX11_isField csX11_119 ⟨(Nat.le_of_ble_eq_true rfl), (Nat.le_of_ble_eq_true rfl)⟩ rfl rfl rfl rfl (Nat.le_of_ble_eq_true rfl) (Nat.le_of_ble_eq_true rfl) (Nat.le_of_ble_eq_true rfl) ?_
  refine e_ifb_ne 2 17 7 rfl rfl rfl (fun h2 => ?_) (fun h2 => ?_)
  · skip
    cases h2
  · skip
    exact e_throw 3 thX11_82_86 rfl rfl rfl rfl rfl stX11_122 (Nat.le_of_ble_eq_true rfl) (Nat.le_of_ble_eq_true rfl) (Nat.le_of_ble_eq_true rfl) (Nat.le_of_ble_eq_true rfl) (Nat.le_of_ble_eq_true rfl)
theorem sp_giveX {σ : xSig} {T : Nat → List Int} (hA : VAll σ T) (hn : 0 ≤ σ 1 2 ∧ σ 1 2 ≤ 10) {f : Int} (hf : 0 ≤ f ∧ f < 8) (hk : knd (tok (T (vbel σ)) 0) ≠ 4) : x_Sp MX11_give 1 6 [.ref 0, .int (ii f)] (St σ) tISE (St σ) := by
  have hi := sp_isField (σ := σ) (x := f) (by unfold xr; omega)
  rw [decide_eq_true hf] at hi
  have hV : VH σ (vbel σ) (vCap (vbel σ)) (T (vbel σ)) := hA _ (pv_vO (σ 1 2 - 2))
  have hkk := sp_kindAt hV xr_0
  have hkb := knd_bnd (tok (T (vbel σ)) 0)
  refine e_entry okX11_give (Nat.le_of_ble_eq_true rfl) (ls := [some _, some _, none, none, none]) rfl ?_
  refine e_iload_n 0 1 rfl rfl rfl rfl ?_
  refine g_callS 1 4 (hi) okX11_isField csX11_119 ⟨(Nat.le_of_ble_eq_true rfl), (Nat.le_of_ble_eq_true rfl)⟩ rfl rfl rfl rfl (Nat.le_of_ble_eq_true rfl) (Nat.le_of_ble_eq_true rfl) (Nat.le_of_ble_eq_true rfl) ?_
  refine e_ifb_ne 2 17 7 rfl rfl rfl (fun h2 => ?_) (fun h2 => ?_)
  · skip
    refine e_aload_n 8 18 rfl rfl rfl rfl ?_
    refine g_getR 9 21 ckX11 flX11_12 rfl rfl (Nat.le_of_ble_eq_true rfl) rfl rfl ?_
    refine g_callV 10 24 (sp_pBelow hn) okX5_below cvX11_91 ⟨(Nat.le_of_ble_eq_true rfl), (Nat.le_of_ble_eq_true rfl)⟩ rfl rfl (Nat.le_of_ble_eq_true rfl) rfl rfl rfl rfl rfl (Nat.le_of_ble_eq_true rfl) (Nat.le_of_ble_eq_true rfl) (Nat.le_of_ble_eq_true rfl) ?_
    refine e_astore_n 11 25 (ls' := [some _, some _, some _, none, none]) rfl rfl rfl (Nat.le_of_ble_eq_true rfl) rfl ?_
    refine e_aload_n 12 26 rfl rfl rfl rfl ?_
    refine g_getR 13 29 ckX11 flX11_12 rfl rfl (Nat.le_of_ble_eq_true rfl) rfl rfl ?_
    refine g_callV 14 32 (sp_pTop hn) okX5_top cvX11_95 ⟨(Nat.le_of_ble_eq_true rfl), (Nat.le_of_ble_eq_true rfl)⟩ rfl rfl (Nat.le_of_ble_eq_true rfl) rfl rfl rfl rfl rfl (Nat.le_of_ble_eq_true rfl) (Nat.le_of_ble_eq_true rfl) (Nat.le_of_ble_eq_true rfl) ?_
    refine e_astore_n 15 33 (ls' := [some _, some _, some _, some _, none]) rfl rfl rfl (Nat.le_of_ble_eq_true rfl) rfl ?_
    refine e_aload_n 16 34 rfl rfl rfl rfl ?_
    refine e_iconst 17 35 rfl rfl ?_
    refine g_callV 18 38 (hkk) okX10_kindAt cvX11_98 ⟨(Nat.le_of_ble_eq_true rfl), (Nat.le_of_ble_eq_true rfl)⟩ rfl rfl hV.1.1 hV.1.2.2.1 rfl rfl rfl rfl (Nat.le_of_ble_eq_true rfl) (Nat.le_of_ble_eq_true rfl) (Nat.le_of_ble_eq_true rfl) ?_
    refine e_iconst 19 39 rfl rfl ?_
    refine e_icmp_eq 20 52 42 rfl rfl rfl (by unfold xr at *; omega) (by unfold xr at *; omega) (fun h9 => absurd h9 (by omega)) (fun _ => ?_)
    exact e_throw 21 thX11_101_105 rfl rfl rfl rfl rfl stX11_124 (Nat.le_of_ble_eq_true rfl) (Nat.le_of_ble_eq_true rfl) (Nat.le_of_ble_eq_true rfl) (Nat.le_of_ble_eq_true rfl) (Nat.le_of_ble_eq_true rfl)
  · skip
    cases h2
theorem sp_giveX2 {σ : xSig} {T : Nat → List Int} (hA : VAll σ T) (hn : 0 ≤ σ 1 2 ∧ σ 1 2 ≤ 10) {f : Int} (hf : 0 ≤ f ∧ f < 8) {F : Fo} (hF : okf true false 0 F) (h1 : T (vbel σ) = 5000 :: (tk F ++ [0])) (hc : 24 < 1 + pa F - pa (get f F) + pts (T (vtop σ))) : x_Sp MX11_give 1 6 [.ref 0, .int (ii f)] (St σ) tISE (St σ) := by
  have hi := sp_isField (σ := σ) (x := f) (by unfold xr; omega)
  rw [decide_eq_true hf] at hi
  have hV : VH σ (vbel σ) (vCap (vbel σ)) (T (vbel σ)) := hA _ (pv_vO (σ 1 2 - 2))
  have hW : VH σ (vtop σ) (vCap (vtop σ)) (T (vtop σ)) := hA _ (pv_vO (σ 1 2 - 1))
  have hkk := sp_kindAt hV xr_0
  have hV' := hV
  rw [h1] at hV'
  obtain ⟨at9, p1, p2⟩ := parts_at hf hF hV'
  have hp := sp_pts hV
  rw [show pts (T (vbel σ)) = 1 + pa F by rw [h1, show 5000 :: (tk F ++ [0]) = tk (.add F (.num 0)) from rfl, pts_tk (Or.inr (Or.inl ⟨F, rfl, hF⟩))]; simp [pa]] at hp
  rw [show knd (tok (T (vbel σ)) 0) = 4 by rw [h1]; exact (by decide : knd 5000 = 4)] at hkk
  have b2 := pts_bnd (T (vtop σ))
  have b4 := hW.2.2.1
  have b6 := hW.2.2.2.1
  have b7 := get_pa F f _ _ hF
  have b8 := hV'.2.2.1
  have b9 := hV'.2.2.2.1
  have b10 := cnt_bnd (tk F)
  rw [tk_cnt F _ _ _ (by decide) hF] at b10
  simp only [List.length_cons, List.length_append, List.length_nil] at b8
  refine e_entry okX11_give (Nat.le_of_ble_eq_true rfl) (ls := [some _, some _, none, none, none]) rfl ?_
  refine e_iload_n 0 1 rfl rfl rfl rfl ?_
  refine g_callS 1 4 (hi) okX11_isField csX11_119 ⟨(Nat.le_of_ble_eq_true rfl), (Nat.le_of_ble_eq_true rfl)⟩ rfl rfl rfl rfl (Nat.le_of_ble_eq_true rfl) (Nat.le_of_ble_eq_true rfl) (Nat.le_of_ble_eq_true rfl) ?_
  refine e_ifb_ne 2 17 7 rfl rfl rfl (fun h2 => ?_) (fun h2 => ?_)
  · skip
    refine e_aload_n 8 18 rfl rfl rfl rfl ?_
    refine g_getR 9 21 ckX11 flX11_12 rfl rfl (Nat.le_of_ble_eq_true rfl) rfl rfl ?_
    refine g_callV 10 24 (sp_pBelow hn) okX5_below cvX11_91 ⟨(Nat.le_of_ble_eq_true rfl), (Nat.le_of_ble_eq_true rfl)⟩ rfl rfl (Nat.le_of_ble_eq_true rfl) rfl rfl rfl rfl rfl (Nat.le_of_ble_eq_true rfl) (Nat.le_of_ble_eq_true rfl) (Nat.le_of_ble_eq_true rfl) ?_
    refine e_astore_n 11 25 (ls' := [some _, some _, some _, none, none]) rfl rfl rfl (Nat.le_of_ble_eq_true rfl) rfl ?_
    refine e_aload_n 12 26 rfl rfl rfl rfl ?_
    refine g_getR 13 29 ckX11 flX11_12 rfl rfl (Nat.le_of_ble_eq_true rfl) rfl rfl ?_
    refine g_callV 14 32 (sp_pTop hn) okX5_top cvX11_95 ⟨(Nat.le_of_ble_eq_true rfl), (Nat.le_of_ble_eq_true rfl)⟩ rfl rfl (Nat.le_of_ble_eq_true rfl) rfl rfl rfl rfl rfl (Nat.le_of_ble_eq_true rfl) (Nat.le_of_ble_eq_true rfl) (Nat.le_of_ble_eq_true rfl) ?_
    refine e_astore_n 15 33 (ls' := [some _, some _, some _, some _, none]) rfl rfl rfl (Nat.le_of_ble_eq_true rfl) rfl ?_
    refine e_aload_n 16 34 rfl rfl rfl rfl ?_
    refine e_iconst 17 35 rfl rfl ?_
    refine g_callV 18 38 (hkk) okX10_kindAt cvX11_98 ⟨(Nat.le_of_ble_eq_true rfl), (Nat.le_of_ble_eq_true rfl)⟩ rfl rfl hV.1.1 hV.1.2.2.1 rfl rfl rfl rfl (Nat.le_of_ble_eq_true rfl) (Nat.le_of_ble_eq_true rfl) (Nat.le_of_ble_eq_true rfl) ?_
    refine e_iconst 19 39 rfl rfl ?_
    refine e_icmp_eq 20 52 42 rfl rfl rfl (by unfold xr at *; omega) (by unfold xr at *; omega) (fun _ => ?_) (fun h9 => absurd h9 (fun q => q rfl))
    refine e_aload_n 26 53 rfl rfl rfl rfl ?_
    refine e_aload_n 27 54 rfl rfl rfl rfl ?_
    refine e_iconst 28 55 rfl rfl ?_
    refine e_iload_n 29 56 rfl rfl rfl rfl ?_
    refine g_callV 30 59 (p1) okX10_placeOf cvX11_126 ⟨(Nat.le_of_ble_eq_true rfl), (Nat.le_of_ble_eq_true rfl)⟩ rfl rfl hV.1.1 hV.1.2.2.1 rfl rfl rfl rfl (Nat.le_of_ble_eq_true rfl) (Nat.le_of_ble_eq_true rfl) (Nat.le_of_ble_eq_true rfl) ?_
    refine g_callV 31 62 (p2) okX10_partsAt cvX11_130 ⟨(Nat.le_of_ble_eq_true rfl), (Nat.le_of_ble_eq_true rfl)⟩ rfl rfl hV.1.1 hV.1.2.2.1 rfl rfl rfl rfl (Nat.le_of_ble_eq_true rfl) (Nat.le_of_ble_eq_true rfl) (Nat.le_of_ble_eq_true rfl) ?_
    refine e_istore 32 64 (ls' := [some _, some _, some _, some _, some _]) rfl rfl (Nat.le_of_ble_eq_true rfl) rfl ?_
    refine e_aload_n 33 65 rfl rfl rfl rfl ?_
    refine g_callV 34 68 (hp) okX10_parts cvX11_106 ⟨(Nat.le_of_ble_eq_true rfl), (Nat.le_of_ble_eq_true rfl)⟩ rfl rfl hV.1.1 hV.1.2.2.1 rfl rfl rfl rfl (Nat.le_of_ble_eq_true rfl) (Nat.le_of_ble_eq_true rfl) (Nat.le_of_ble_eq_true rfl) ?_
    refine e_iload 35 70 rfl rfl rfl ?_
    refine e_isub 36 71 rfl rfl ?_
    refine e_aload_n 37 72 rfl rfl rfl rfl ?_
    refine g_callV 38 75 (sp_pts hW) okX10_parts cvX11_106 ⟨(Nat.le_of_ble_eq_true rfl), (Nat.le_of_ble_eq_true rfl)⟩ rfl rfl hW.1.1 hW.1.2.2.1 rfl rfl rfl rfl (Nat.le_of_ble_eq_true rfl) (Nat.le_of_ble_eq_true rfl) (Nat.le_of_ble_eq_true rfl) ?_
    refine e_iadd 39 76 rfl rfl ?_
    refine e_bipush 40 78 rfl rfl rfl ?_
    refine e_icmp_le 41 91 81 rfl rfl rfl (by unfold xr at *; omega) (by unfold xr at *; omega) (fun h9 => absurd h9 (by omega)) (fun _ => ?_)
    exact e_throw 42 thX11_101_105 rfl rfl rfl rfl rfl stX11_110 (Nat.le_of_ble_eq_true rfl) (Nat.le_of_ble_eq_true rfl) (Nat.le_of_ble_eq_true rfl) (Nat.le_of_ble_eq_true rfl) (Nat.le_of_ble_eq_true rfl)
  · skip
    cases h2
theorem sp_give1 {σ : xSig} {T : Nat → List Int} (hA : VAll σ T) (hn : 2 ≤ σ 1 2 ∧ σ 1 2 ≤ 10) {f : Int} (hf : 0 ≤ f ∧ f < 8) {F v : Fo} (hF : okf true false 0 F) (hv : ok1 v) (h1 : T (vbel σ) = 5000 :: (tk F ++ [0])) (h2 : T (vtop σ) = tk v) (hp : 1 + pa F - pa (get f F) + pa v ≤ 24) (hpF : pa F ≤ 23) :
    ∃ σ' : xSig, x_Sp MX11_give 0 0 [.ref 0, .int (ii f)] (St σ) (iv (σ 1 2 - 1)) (St (xu σ' 1 2 (σ 1 2 - 1))) ∧ VAll σ' (uT T (vbel σ) (5000 :: (tk (setf f v F) ++ [0]))) ∧ NV [] σ σ' := by
  have hi := sp_isField (σ := σ) (x := f) (by unfold xr; omega)
  rw [decide_eq_true hf] at hi
  have hvb : vO (vbel σ) = true := pv_vO (σ 1 2 - 2)
  have hvt : vO (vtop σ) = true := pv_vO (σ 1 2 - 1)
  have hV : VH σ (vbel σ) (vCap (vbel σ)) (T (vbel σ)) := hA _ hvb
  have hW : VH σ (vtop σ) (vCap (vtop σ)) (T (vtop σ)) := hA _ hvt
  have hkk := sp_kindAt hV xr_0
  have hV' := hV
  rw [h1] at hV'
  have hW' := hW
  rw [h2] at hW'
  obtain ⟨at9, p1, p2⟩ := parts_at hf hF hV'
  have hpp := sp_pts hV
  rw [show pts (T (vbel σ)) = 1 + pa F by rw [h1, show 5000 :: (tk F ++ [0]) = tk (.add F (.num 0)) from rfl, pts_tk (Or.inr (Or.inl ⟨F, rfl, hF⟩))]; simp [pa]] at hpp
  have hpw := sp_pts hW
  rw [show pts (T (vtop σ)) = pa v by rw [h2, pts_tk hv]] at hpw
  rw [show knd (tok (T (vbel σ)) 0) = 4 by rw [h1]; exact (by decide : knd 5000 = 4)] at hkk
  have b7 := get_pa F f _ _ hF
  have hset := setf_ok F f v _ _ hF hv hf.1 hf.2
  have hpa := setf_pa F f v _ _ hF hv
  have hlen := tk_len (.add (setf f v F) (.num 0)) false false 0 ⟨rfl, hset, rfl, rfl⟩
  simp only [pa, hpa, Bool.false_eq_true, if_false, tk, List.length_cons, List.length_append, List.length_nil] at hlen
  have hne : vtop σ ≠ vbel σ := pv_ne (by omega) (by omega) (by omega)
  obtain ⟨e1, e2⟩ := vO_apart hvb hvt hne
  have ecap : vCap (vbel σ) = 72 := pv_cap (by omega)
  have hb2 := pa_nn v
  obtain ⟨σ', k1, k2, k3⟩ := sp_setF2 (p0 := [5000]) (s := []) hf (by decide) hF hv hV' hW' (by rw [ecap]; simp only [List.length_cons, List.length_append, List.length_nil]; omega) hne e1 e2
  rw [show ((([5000] : List Int).length : Nat) : Int) - 1 = 0 from rfl] at k1
  have hnv := k3.nv hvb
  have es : σ' 1 2 = σ 1 2 := by rw [hnv 1 (by decide +kernel) (by simp)]
  have htt := sp_takeTop (σ := σ') (by omega)
  rw [es] at htt
  refine ⟨σ', ?_, hA.put hvb k2 k3, hnv⟩
  refine e_entry okX11_give (Nat.le_of_ble_eq_true rfl) (ls := [some _, some _, none, none, none]) rfl ?_
  refine e_iload_n 0 1 rfl rfl rfl rfl ?_
  refine g_callS 1 4 (hi) okX11_isField csX11_119 ⟨(Nat.le_of_ble_eq_true rfl), (Nat.le_of_ble_eq_true rfl)⟩ rfl rfl rfl rfl (Nat.le_of_ble_eq_true rfl) (Nat.le_of_ble_eq_true rfl) (Nat.le_of_ble_eq_true rfl) ?_
  refine e_ifb_ne 2 17 7 rfl rfl rfl (fun h9 => ?_) (fun h9 => ?_)
  · skip
    refine e_aload_n 8 18 rfl rfl rfl rfl ?_
    refine g_getR 9 21 ckX11 flX11_12 rfl rfl (Nat.le_of_ble_eq_true rfl) rfl rfl ?_
    refine g_callV 10 24 (sp_pBelow (by omega)) okX5_below cvX11_91 ⟨(Nat.le_of_ble_eq_true rfl), (Nat.le_of_ble_eq_true rfl)⟩ rfl rfl (Nat.le_of_ble_eq_true rfl) rfl rfl rfl rfl rfl (Nat.le_of_ble_eq_true rfl) (Nat.le_of_ble_eq_true rfl) (Nat.le_of_ble_eq_true rfl) ?_
    refine e_astore_n 11 25 (ls' := [some _, some _, some _, none, none]) rfl rfl rfl (Nat.le_of_ble_eq_true rfl) rfl ?_
    refine e_aload_n 12 26 rfl rfl rfl rfl ?_
    refine g_getR 13 29 ckX11 flX11_12 rfl rfl (Nat.le_of_ble_eq_true rfl) rfl rfl ?_
    refine g_callV 14 32 (sp_pTop (by omega)) okX5_top cvX11_95 ⟨(Nat.le_of_ble_eq_true rfl), (Nat.le_of_ble_eq_true rfl)⟩ rfl rfl (Nat.le_of_ble_eq_true rfl) rfl rfl rfl rfl rfl (Nat.le_of_ble_eq_true rfl) (Nat.le_of_ble_eq_true rfl) (Nat.le_of_ble_eq_true rfl) ?_
    refine e_astore_n 15 33 (ls' := [some _, some _, some _, some _, none]) rfl rfl rfl (Nat.le_of_ble_eq_true rfl) rfl ?_
    refine e_aload_n 16 34 rfl rfl rfl rfl ?_
    refine e_iconst 17 35 rfl rfl ?_
    refine g_callV 18 38 (hkk) okX10_kindAt cvX11_98 ⟨(Nat.le_of_ble_eq_true rfl), (Nat.le_of_ble_eq_true rfl)⟩ rfl rfl hV.1.1 hV.1.2.2.1 rfl rfl rfl rfl (Nat.le_of_ble_eq_true rfl) (Nat.le_of_ble_eq_true rfl) (Nat.le_of_ble_eq_true rfl) ?_
    refine e_iconst 19 39 rfl rfl ?_
    refine e_icmp_eq 20 52 42 rfl rfl rfl (by unfold xr at *; omega) (by unfold xr at *; omega) (fun _ => ?_) (fun h9 => absurd h9 (fun q => q rfl))
    refine e_aload_n 26 53 rfl rfl rfl rfl ?_
    refine e_aload_n 27 54 rfl rfl rfl rfl ?_
    refine e_iconst 28 55 rfl rfl ?_
    refine e_iload_n 29 56 rfl rfl rfl rfl ?_
    refine g_callV 30 59 (p1) okX10_placeOf cvX11_126 ⟨(Nat.le_of_ble_eq_true rfl), (Nat.le_of_ble_eq_true rfl)⟩ rfl rfl hV.1.1 hV.1.2.2.1 rfl rfl rfl rfl (Nat.le_of_ble_eq_true rfl) (Nat.le_of_ble_eq_true rfl) (Nat.le_of_ble_eq_true rfl) ?_
    refine g_callV 31 62 (p2) okX10_partsAt cvX11_130 ⟨(Nat.le_of_ble_eq_true rfl), (Nat.le_of_ble_eq_true rfl)⟩ rfl rfl hV.1.1 hV.1.2.2.1 rfl rfl rfl rfl (Nat.le_of_ble_eq_true rfl) (Nat.le_of_ble_eq_true rfl) (Nat.le_of_ble_eq_true rfl) ?_
    refine e_istore 32 64 (ls' := [some _, some _, some _, some _, some _]) rfl rfl (Nat.le_of_ble_eq_true rfl) rfl ?_
    refine e_aload_n 33 65 rfl rfl rfl rfl ?_
    refine g_callV 34 68 (hpp) okX10_parts cvX11_106 ⟨(Nat.le_of_ble_eq_true rfl), (Nat.le_of_ble_eq_true rfl)⟩ rfl rfl hV.1.1 hV.1.2.2.1 rfl rfl rfl rfl (Nat.le_of_ble_eq_true rfl) (Nat.le_of_ble_eq_true rfl) (Nat.le_of_ble_eq_true rfl) ?_
    refine e_iload 35 70 rfl rfl rfl ?_
    refine e_isub 36 71 rfl rfl ?_
    refine e_aload_n 37 72 rfl rfl rfl rfl ?_
    refine g_callV 38 75 (hpw) okX10_parts cvX11_106 ⟨(Nat.le_of_ble_eq_true rfl), (Nat.le_of_ble_eq_true rfl)⟩ rfl rfl hW.1.1 hW.1.2.2.1 rfl rfl rfl rfl (Nat.le_of_ble_eq_true rfl) (Nat.le_of_ble_eq_true rfl) (Nat.le_of_ble_eq_true rfl) ?_
    refine e_iadd 39 76 rfl rfl ?_
    refine e_bipush 40 78 rfl rfl rfl ?_
    refine e_icmp_le 41 91 81 rfl rfl rfl (by unfold xr at *; omega) (by unfold xr at *; omega) (fun _ => ?_) (fun h9 => absurd h9 (by omega))
    refine e_aload_n 47 92 rfl rfl rfl rfl ?_
    refine e_iconst 48 93 rfl rfl ?_
    refine e_iload_n 49 94 rfl rfl rfl rfl ?_
    refine e_aload_n 50 95 rfl rfl rfl rfl ?_
    refine g_callV 51 98 (k1) okX10_setField cvX11_133 ⟨(Nat.le_of_ble_eq_true rfl), (Nat.le_of_ble_eq_true rfl)⟩ rfl rfl hV.1.1 hV.1.2.2.1 rfl rfl rfl rfl (Nat.le_of_ble_eq_true rfl) (Nat.le_of_ble_eq_true rfl) (Nat.le_of_ble_eq_true rfl) ?_
    refine e_aload_n 52 99 rfl rfl rfl rfl ?_
    refine g_getR 53 102 ckX11 flX11_12 rfl rfl (Nat.le_of_ble_eq_true rfl) rfl rfl ?_
    refine g_callV 54 105 (htt) okX5_takeTop cvX11_116 ⟨(Nat.le_of_ble_eq_true rfl), (Nat.le_of_ble_eq_true rfl)⟩ rfl rfl (Nat.le_of_ble_eq_true rfl) rfl rfl rfl rfl rfl (Nat.le_of_ble_eq_true rfl) (Nat.le_of_ble_eq_true rfl) (Nat.le_of_ble_eq_true rfl) ?_
    exact e_ireturn 55 rfl rfl (Nat.le_of_ble_eq_true rfl) (Nat.le_of_ble_eq_true rfl)
  · skip
    cases h9
