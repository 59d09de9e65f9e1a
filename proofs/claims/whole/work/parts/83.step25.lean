/-! ===== steps: index ===== -/
theorem sp_mIsIndex {τ σ : xSig} (h7 : ∀ k : Int, 0 ≤ k → k < 3 → σ 288 k = bi (ihas τ k) ∧ (ihas τ k = true → σ 287 k = τ 249 k ∧ σ 289 k = τ 250 k)) {x : Int} (hx : xr x) : Rd MX12_isIndex [.ref 281, .int (ii x)] σ (zv (ihas τ x)) := by
  have pin := sp_mIn (σ := σ) (x := x) (y := 0) (z := 2) hx (by unfold xr; omega) (by unfold xr; omega)
  refine e_entry okX12_isIndex (Nat.le_of_ble_eq_true rfl) (ls := [some _, some _]) rfl ?_
  refine e_iload_n 0 1 rfl rfl rfl rfl ?_
  refine e_iconst 1 2 rfl rfl ?_
  refine e_iconst 2 3 rfl rfl ?_
  refine g_callS 3 6 (pin) okX12_in csX12_175 ⟨(Nat.le_of_ble_eq_true rfl), (Nat.le_of_ble_eq_true rfl)⟩ rfl rfl rfl rfl (Nat.le_of_ble_eq_true rfl) (Nat.le_of_ble_eq_true rfl) (Nat.le_of_ble_eq_true rfl) ?_
  refine e_ifb_eq 4 22 9 rfl rfl rfl (fun hb => ?_) (fun hb => ?_)
  · skip
    have hb' := of_decide_eq_false hb
    have e : ihas τ x = false := decide_eq_false (fun q => hb' (by omega))
    rw [e]
    refine e_iconst 12 23 rfl rfl ?_
    exact e_zreturn 13 rfl rfl (Or.inl rfl) (Nat.le_of_ble_eq_true rfl) (Nat.le_of_ble_eq_true rfl)
  · skip
    have hb' := of_decide_eq_true hb
    have e := (h7 x (by omega) (by omega)).1
    cases hh : ihas τ x with
    | true =>
      rw [hh] at e
      refine e_aload_n 5 10 rfl rfl rfl rfl ?_
      refine g_getR 6 13 ckX12 flX12_29 rfl rfl (Nat.le_of_ble_eq_true rfl) rfl rfl ?_
      refine e_iload_n 7 14 rfl rfl rfl rfl ?_
      refine g_baload 8 15 rfl rfl (Nat.le_of_ble_eq_true rfl) rfl (by omega) (by omega) (by omega) e ?_
      refine e_ifb_eq 9 22 18 rfl rfl rfl (fun hq => ?_) (fun hq => ?_)
      · skip
        cases hq
      · skip
        refine e_iconst 10 19 rfl rfl ?_
        refine e_goto 11 23 rfl rfl ?_
        exact e_zreturn 13 rfl rfl (Or.inr rfl) (Nat.le_of_ble_eq_true rfl) (Nat.le_of_ble_eq_true rfl)
    | false =>
      rw [hh] at e
      refine e_aload_n 5 10 rfl rfl rfl rfl ?_
      refine g_getR 6 13 ckX12 flX12_29 rfl rfl (Nat.le_of_ble_eq_true rfl) rfl rfl ?_
      refine e_iload_n 7 14 rfl rfl rfl rfl ?_
      refine g_baload 8 15 rfl rfl (Nat.le_of_ble_eq_true rfl) rfl (by omega) (by omega) (by omega) e ?_
      refine e_ifb_eq 9 22 18 rfl rfl rfl (fun hq => ?_) (fun hq => ?_)
      · skip
        refine e_iconst 12 23 rfl rfl ?_
        exact e_zreturn 13 rfl rfl (Or.inl rfl) (Nat.le_of_ble_eq_true rfl) (Nat.le_of_ble_eq_true rfl)
      · skip
        cases hq
/-- one place of the table of indexes -/
def ixs (τ : xSig) (x j : Int) (b : Bool) : Bool := b && !(ihas τ j && decide (τ 249 j = x))
def ixa (τ : xSig) (j a : Int) : Int := if ihas τ j = true then a else j
theorem ix_step {τ s : xSig} {x y j a : Int} {b : Bool} (hX : IXR τ) (h7 : ∀ k : Int, 0 ≤ k → k < 3 → s 288 k = bi (ihas τ k) ∧ (ihas τ k = true → s 287 k = τ 249 k ∧ s 289 k = τ 250 k)) (hx : xr x) (hj : 0 ≤ j ∧ j < 3) {o : xO} {Y : xS} (h : x_E MX12_index 0 0 8 [some (.ref 281), some (.int (ii x)), some (.int (ii y)), some (.int (ii (bi (ixs τ x j b)))), some (.int (ii (ixa τ j a))), some (.int (ii (j - 1)))] [] (St s) 0 0 o Y) : x_E MX12_index 0 0 8 [some (.ref 281), some (.int (ii x)), some (.int (ii y)), some (.int (ii (bi b))), some (.int (ii a)), some (.int (ii j))] [] (St s) 0 0 o Y := by
  obtain ⟨e1, e2⟩ := h7 j hj.1 hj.2
  have hpx : xr (τ 249 j) := by have := hX.1 j; unfold xr; omega
  -- from the second half on
  have k44 : ∀ b2 : Bool, b2 = ixs τ x j b → x_E MX12_index 0 0 43 [some (.ref 281), some (.int (ii x)), some (.int (ii y)), some (.int (ii (bi b))), some (.int (ii a)), some (.int (ii j))] [.int (ii (bi b2))] (St s) 0 0 o Y := by
    intro b2 hb2
    rw [← hb2] at h
    unfold ixa at h
    cases hh : ihas τ j with
    | true =>
      rw [hh] at e1 h
      rw [if_pos rfl] at h
      refine e_istore_n 24 44 (ls' := [some _, some _, some _, some _, some _, some _]) rfl rfl rfl (Nat.le_of_ble_eq_true rfl) rfl ?_
      refine e_aload_n 25 45 rfl rfl rfl rfl ?_
      refine g_getR 26 48 ckX12 flX12_29 rfl rfl (Nat.le_of_ble_eq_true rfl) rfl rfl ?_
      refine e_iload 27 50 rfl rfl rfl ?_
      refine g_baload 28 51 rfl rfl (Nat.le_of_ble_eq_true rfl) rfl (by omega) (by omega) (by omega) e1 ?_
      refine e_ifb_eq 29 59 54 rfl rfl rfl (fun hq => ?_) (fun hq => ?_)
      · skip
        cases hq
      · skip
        refine e_iload 30 56 rfl rfl rfl ?_
        refine e_goto 31 61 rfl rfl ?_
        refine e_istore 33 63 (ls' := [some _, some _, some _, some _, some _, some _]) rfl rfl (Nat.le_of_ble_eq_true rfl) rfl ?_
        refine e_iinc 34 66 (ls' := [some _, some _, some _, some _, some _, some _]) rfl rfl (Nat.le_of_ble_eq_true rfl) rfl rfl ?_
        refine e_goto 35 8 rfl rfl ?_
        exact h
    | false =>
      rw [hh] at e1 h
      rw [if_neg (by decide)] at h
      refine e_istore_n 24 44 (ls' := [some _, some _, some _, some _, some _, some _]) rfl rfl rfl (Nat.le_of_ble_eq_true rfl) rfl ?_
      refine e_aload_n 25 45 rfl rfl rfl rfl ?_
      refine g_getR 26 48 ckX12 flX12_29 rfl rfl (Nat.le_of_ble_eq_true rfl) rfl rfl ?_
      refine e_iload 27 50 rfl rfl rfl ?_
      refine g_baload 28 51 rfl rfl (Nat.le_of_ble_eq_true rfl) rfl (by omega) (by omega) (by omega) e1 ?_
      refine e_ifb_eq 29 59 54 rfl rfl rfl (fun hq => ?_) (fun hq => ?_)
      · skip
        refine e_iload 32 61 rfl rfl rfl ?_
        refine e_istore 33 63 (ls' := [some _, some _, some _, some _, some _, some _]) rfl rfl (Nat.le_of_ble_eq_true rfl) rfl ?_
        refine e_iinc 34 66 (ls' := [some _, some _, some _, some _, some _, some _]) rfl rfl (Nat.le_of_ble_eq_true rfl) rfl rfl ?_
        refine e_goto 35 8 rfl rfl ?_
        exact h
      · skip
        cases hq
  cases b with
  | false =>
    refine e_iload 6 10 rfl rfl rfl ?_
    refine e_if_lt 7 69 13 rfl rfl rfl (by unfold xr at *; omega) (fun h9 => absurd h9 (by omega)) (fun _ => ?_)
    refine e_iload_n 8 14 rfl rfl rfl rfl ?_
    refine e_ifb_eq 9 42 17 rfl rfl rfl (fun hq => ?_) (fun hq => ?_)
    · skip
      refine e_iconst 23 43 rfl rfl ?_
      exact k44 false rfl
    · skip
      cases hq
  | true =>
    cases hh : ihas τ j with
    | false =>
      have eb : true = ixs τ x j true := by unfold ixs; rw [hh]; rfl
      rw [hh] at e1
      refine e_iload 6 10 rfl rfl rfl ?_
      refine e_if_lt 7 69 13 rfl rfl rfl (by unfold xr at *; omega) (fun h9 => absurd h9 (by omega)) (fun _ => ?_)
      refine e_iload_n 8 14 rfl rfl rfl rfl ?_
      refine e_ifb_eq 9 42 17 rfl rfl rfl (fun hq => ?_) (fun hq => ?_)
      · skip
        cases hq
      · skip
        refine e_aload_n 10 18 rfl rfl rfl rfl ?_
        refine g_getR 11 21 ckX12 flX12_29 rfl rfl (Nat.le_of_ble_eq_true rfl) rfl rfl ?_
        refine e_iload 12 23 rfl rfl rfl ?_
        refine g_baload 13 24 rfl rfl (Nat.le_of_ble_eq_true rfl) rfl (by omega) (by omega) (by omega) e1 ?_
        refine e_ifb_eq 14 38 27 rfl rfl rfl (fun hq2 => ?_) (fun hq2 => ?_)
        · skip
          refine e_iconst 21 39 rfl rfl ?_
          refine e_goto 22 43 rfl rfl ?_
          exact k44 true eb
        · skip
          cases hq2
    | true =>
      rw [hh] at e1
      have e3 := (e2 hh).1
      refine e_iload 6 10 rfl rfl rfl ?_
      refine e_if_lt 7 69 13 rfl rfl rfl (by unfold xr at *; omega) (fun h9 => absurd h9 (by omega)) (fun _ => ?_)
      refine e_iload_n 8 14 rfl rfl rfl rfl ?_
      refine e_ifb_eq 9 42 17 rfl rfl rfl (fun hq => ?_) (fun hq => ?_)
      · skip
        cases hq
      · skip
        refine e_aload_n 10 18 rfl rfl rfl rfl ?_
        refine g_getR 11 21 ckX12 flX12_29 rfl rfl (Nat.le_of_ble_eq_true rfl) rfl rfl ?_
        refine e_iload 12 23 rfl rfl rfl ?_
        refine g_baload 13 24 rfl rfl (Nat.le_of_ble_eq_true rfl) rfl (by omega) (by omega) (by omega) e1 ?_
        refine e_ifb_eq 14 38 27 rfl rfl rfl (fun hq2 => ?_) (fun hq2 => ?_)
        · skip
          cases hq2
        · skip
          refine e_aload_n 15 28 rfl rfl rfl rfl ?_
          refine g_getR 16 31 ckX12 flX12_26 rfl rfl (Nat.le_of_ble_eq_true rfl) rfl rfl ?_
          refine e_iload 17 33 rfl rfl rfl ?_
          refine g_iaload 18 34 rfl rfl (Nat.le_of_ble_eq_true rfl) rfl (by omega) (by omega) (by omega) e3 ?_
          refine e_iload_n 19 35 rfl rfl rfl rfl ?_
          refine e_icmp_eq 20 42 38 rfl rfl rfl hpx hx (fun hpq => ?_) (fun hpq => ?_)
          · skip
            have eb : false = ixs τ x j true := by unfold ixs; rw [hh, decT (by omega)]; rfl
            refine e_iconst 23 43 rfl rfl ?_
            exact k44 false eb
          · skip
            have eb : true = ixs τ x j true := by unfold ixs; rw [hh, decF (by omega)]; rfl
            refine e_iconst 21 39 rfl rfl ?_
            refine e_goto 22 43 rfl rfl ?_
            exact k44 true eb
/-- the whole of the walk over the table -/
theorem ix_walk {τ s : xSig} {x y : Int} (hX : IXR τ) (h7 : ∀ k : Int, 0 ≤ k → k < 3 → s 288 k = bi (ihas τ k) ∧ (ihas τ k = true → s 287 k = τ 249 k ∧ s 289 k = τ 250 k)) (hx : xr x) {o : xO} {Y : xS} (h : x_E MX12_index 0 0 69 [some (.ref 281), some (.int (ii x)), some (.int (ii y)), some (.int (ii (bi (ixs τ x 0 (ixs τ x 1 (ixs τ x 2 true)))))), some (.int (ii (fstIs (τ 249) (-1) 0 3))), some (.int (ii (-1)))] [] (St s) 0 0 o Y) : x_Sp MX12_index 0 0 [.ref 281, .int (ii x), .int (ii y)] (St s) o Y := by
  have ea : fstIs (τ 249) (-1) 0 3 = ixa τ 0 (ixa τ 1 (ixa τ 2 (-1))) := by
    unfold ixa ihas fstIs fstIs fstIs fstIs
    simp only [decide_eq_true_eq]
    by_cases w0 : τ 249 0 = -1 <;> by_cases w1 : τ 249 1 = -1 <;> by_cases w2 : τ 249 2 = -1 <;> simp [w0, w1, w2]
  rw [ea] at h
  have k8 : x_E MX12_index 0 0 8 [some (.ref 281), some (.int (ii x)), some (.int (ii y)), some (.int (ii (bi (ixs τ x 0 (ixs τ x 1 (ixs τ x 2 true)))))), some (.int (ii (ixa τ 0 (ixa τ 1 (ixa τ 2 (-1)))))), some (.int (ii (0 - 1)))] [] (St s) 0 0 o Y := by
    refine e_iload 6 10 rfl rfl rfl ?_
    refine e_if_lt 7 69 13 rfl rfl rfl (by unfold xr at *; omega) (fun _ => ?_) (fun h9 => absurd h9 (by omega))
    exact h
  have k2 := ix_step (j := 2) (a := -1) (b := true) hX h7 hx (by omega) (ix_step (j := 1) hX h7 hx (by omega) (ix_step (j := 0) hX h7 hx (by omega) k8))
  refine e_entry okX12_index (Nat.le_of_ble_eq_true rfl) (ls := [some _, some _, some _, none, none, none]) rfl ?_
  refine e_iconst 0 1 rfl rfl ?_
  refine e_istore_n 1 2 (ls' := [some _, some _, some _, some _, none, none]) rfl rfl rfl (Nat.le_of_ble_eq_true rfl) rfl ?_
  refine e_iconst 2 3 rfl rfl ?_
  refine e_istore 3 5 (ls' := [some _, some _, some _, some _, some _, none]) rfl rfl (Nat.le_of_ble_eq_true rfl) rfl ?_
  refine e_iconst 4 6 rfl rfl ?_
  refine e_istore 5 8 (ls' := [some _, some _, some _, some _, some _, some _]) rfl rfl (Nat.le_of_ble_eq_true rfl) rfl ?_
  exact k2
