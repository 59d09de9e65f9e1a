/-! ===== the face: update ===== -/
theorem sp_updateX {σ : xSig} (h01 : n01 σ 27) {r n p op : Int} (hn : xr n) (hh : hasd σ n = false) : x_Sp MX11_update 1 6 [.ref 0, .int (ii r), .int (ii n), .int (ii p), .int (ii op)] (St σ) tIOB (St σ) := by
  have hhas := sp_has h01 hn
  rw [hh] at hhas
  refine e_entry okX11_update (Nat.le_of_ble_eq_true rfl) (ls := [some _, some _, some _, some _, some _, none, none]) rfl ?_
  refine e_aload_n 0 1 rfl rfl rfl rfl ?_
  refine g_getR 1 4 ckX11 flX11_19 rfl rfl (Nat.le_of_ble_eq_true rfl) rfl rfl ?_
  refine e_iload_n 2 5 rfl rfl rfl rfl ?_
  refine g_callV 3 8 (hhas) okX8_has cvX11_151 ⟨(Nat.le_of_ble_eq_true rfl), (Nat.le_of_ble_eq_true rfl)⟩ rfl rfl (Nat.le_of_ble_eq_true rfl) rfl rfl rfl rfl rfl (Nat.le_of_ble_eq_true rfl) (Nat.le_of_ble_eq_true rfl) (Nat.le_of_ble_eq_true rfl) ?_
  refine e_ifb_ne 4 21 11 rfl rfl rfl (fun h2 => ?_) (fun h2 => ?_)
  · skip
    cases h2
  · skip
    exact e_throw 5 thX11_166_170 rfl rfl rfl rfl rfl stX11_168 (Nat.le_of_ble_eq_true rfl) (Nat.le_of_ble_eq_true rfl) (Nat.le_of_ble_eq_true rfl) (Nat.le_of_ble_eq_true rfl) (Nat.le_of_ble_eq_true rfl)
theorem sp_updateX2 {σ : xSig} (h01 : n01 σ 27) {r n p op : Int} (hr : xr r) (hp : xr p) (ho : xr op) (hn : xr n) (hh : hasd σ n = true) (hb : ¬ ((0 ≤ r ∧ r < 2) ∧ (0 ≤ p ∧ p < 72) ∧ 0 ≤ op ∧ op ≤ 5)) : x_Sp MX11_update 1 6 [.ref 0, .int (ii r), .int (ii n), .int (ii p), .int (ii op)] (St σ) tIAE (St σ) := by
  have hhas := sp_has h01 hn
  rw [hh] at hhas
  have hi := sp_isRouter (σ := σ) hr
  have hj := sp_isPath (σ := σ) hp
  have fin : x_E MX11_update 1 6 46 [some (.ref 0), some (.int (ii r)), some (.int (ii n)), some (.int (ii p)), some (.int (ii op)), none, none] [] (St σ) 0 0 tIAE (St σ) := by
    exact e_throw 21 thX11_82_86 rfl rfl rfl rfl rfl stX11_174 (Nat.le_of_ble_eq_true rfl) (Nat.le_of_ble_eq_true rfl) (Nat.le_of_ble_eq_true rfl) (Nat.le_of_ble_eq_true rfl) (Nat.le_of_ble_eq_true rfl)
  refine e_entry okX11_update (Nat.le_of_ble_eq_true rfl) (ls := [some _, some _, some _, some _, some _, none, none]) rfl ?_
  refine e_aload_n 0 1 rfl rfl rfl rfl ?_
  refine g_getR 1 4 ckX11 flX11_19 rfl rfl (Nat.le_of_ble_eq_true rfl) rfl rfl ?_
  refine e_iload_n 2 5 rfl rfl rfl rfl ?_
  refine g_callV 3 8 (hhas) okX8_has cvX11_151 ⟨(Nat.le_of_ble_eq_true rfl), (Nat.le_of_ble_eq_true rfl)⟩ rfl rfl (Nat.le_of_ble_eq_true rfl) rfl rfl rfl rfl rfl (Nat.le_of_ble_eq_true rfl) (Nat.le_of_ble_eq_true rfl) (Nat.le_of_ble_eq_true rfl) ?_
  refine e_ifb_ne 4 21 11 rfl rfl rfl (fun h2 => ?_) (fun h2 => ?_)
  · skip
    refine e_iload_n 10 22 rfl rfl rfl rfl ?_
    refine g_callS 11 25 (hi) okX11_isRouter csX11_140 ⟨(Nat.le_of_ble_eq_true rfl), (Nat.le_of_ble_eq_true rfl)⟩ rfl rfl rfl rfl (Nat.le_of_ble_eq_true rfl) (Nat.le_of_ble_eq_true rfl) (Nat.le_of_ble_eq_true rfl) ?_
    refine e_ifb_eq 12 46 28 rfl rfl rfl (fun h3 => ?_) (fun h3 => ?_)
    · skip
      exact fin
    · skip
      have h4 := of_decide_eq_true h3
      refine e_iload_n 13 29 rfl rfl rfl rfl ?_
      refine g_callS 14 32 (hj) okX11_isPath csX11_171 ⟨(Nat.le_of_ble_eq_true rfl), (Nat.le_of_ble_eq_true rfl)⟩ rfl rfl rfl rfl (Nat.le_of_ble_eq_true rfl) (Nat.le_of_ble_eq_true rfl) (Nat.le_of_ble_eq_true rfl) ?_
      refine e_ifb_eq 15 46 35 rfl rfl rfl (fun h5 => ?_) (fun h5 => ?_)
      · skip
        exact fin
      · skip
        have h6 := of_decide_eq_true h5
        refine e_iload 16 37 rfl rfl rfl ?_
        refine e_if_lt 17 46 40 rfl rfl rfl (by unfold xr at *; omega) (fun h7 => ?_) (fun h7 => ?_)
        · skip
          exact fin
        · skip
          refine e_iload 18 42 rfl rfl rfl ?_
          refine e_iconst 19 43 rfl rfl ?_
          refine e_icmp_le 20 56 46 rfl rfl rfl (by unfold xr at *; omega) (by unfold xr at *; omega) (fun h9 => absurd h9 (by omega)) (fun _ => ?_)
          exact fin
  · skip
    cases h2
/-- from the good arguments on -/
theorem upd56 {σ : xSig} (h01 : n01 σ 27) {r n p op : Int} (hn : xr n) (hh : hasd σ n = true) (hr : 0 ≤ r ∧ r < 2) (hp : 0 ≤ p ∧ p < 72) (ho : 0 ≤ op ∧ op ≤ 5) {k m : Nat} {o : xO} {Y : xS} (h : x_E MX11_update k m 56 [some (.ref 0), some (.int (ii r)), some (.int (ii n)), some (.int (ii p)), some (.int (ii op)), none, none] [] (St σ) 0 0 o Y) : x_Sp MX11_update k m [.ref 0, .int (ii r), .int (ii n), .int (ii p), .int (ii op)] (St σ) o Y := by
  have hhas := sp_has h01 hn
  rw [hh] at hhas
  have hi := sp_isRouter (σ := σ) (x := r) (by unfold xr; omega)
  have hj := sp_isPath (σ := σ) (x := p) (by unfold xr; omega)
  rw [decide_eq_true hr] at hi
  rw [decide_eq_true hp] at hj
  refine e_entry okX11_update (Nat.le_of_ble_eq_true rfl) (ls := [some _, some _, some _, some _, some _, none, none]) rfl ?_
  refine e_aload_n 0 1 rfl rfl rfl rfl ?_
  refine g_getR 1 4 ckX11 flX11_19 rfl rfl (Nat.le_of_ble_eq_true rfl) rfl rfl ?_
  refine e_iload_n 2 5 rfl rfl rfl rfl ?_
  refine g_callV 3 8 (hhas) okX8_has cvX11_151 ⟨(Nat.le_of_ble_eq_true rfl), (Nat.le_of_ble_eq_true rfl)⟩ rfl rfl (Nat.le_of_ble_eq_true rfl) rfl rfl rfl rfl rfl (Nat.le_of_ble_eq_true rfl) (Nat.le_of_ble_eq_true rfl) (Nat.le_of_ble_eq_true rfl) ?_
  refine e_ifb_ne 4 21 11 rfl rfl rfl (fun h2 => ?_) (fun h2 => ?_)
  · skip
    refine e_iload_n 10 22 rfl rfl rfl rfl ?_
    refine g_callS 11 25 (hi) okX11_isRouter csX11_140 ⟨(Nat.le_of_ble_eq_true rfl), (Nat.le_of_ble_eq_true rfl)⟩ rfl rfl rfl rfl (Nat.le_of_ble_eq_true rfl) (Nat.le_of_ble_eq_true rfl) (Nat.le_of_ble_eq_true rfl) ?_
    refine e_ifb_eq 12 46 28 rfl rfl rfl (fun h3 => ?_) (fun h3 => ?_)
    · skip
      cases h3
    · skip
      refine e_iload_n 13 29 rfl rfl rfl rfl ?_
      refine g_callS 14 32 (hj) okX11_isPath csX11_171 ⟨(Nat.le_of_ble_eq_true rfl), (Nat.le_of_ble_eq_true rfl)⟩ rfl rfl rfl rfl (Nat.le_of_ble_eq_true rfl) (Nat.le_of_ble_eq_true rfl) (Nat.le_of_ble_eq_true rfl) ?_
      refine e_ifb_eq 15 46 35 rfl rfl rfl (fun h5 => ?_) (fun h5 => ?_)
      · skip
        cases h5
      · skip
        refine e_iload 16 37 rfl rfl rfl ?_
        refine e_if_lt 17 46 40 rfl rfl rfl (by unfold xr at *; omega) (fun h9 => absurd h9 (by omega)) (fun _ => ?_)
        refine e_iload 18 42 rfl rfl rfl ?_
        refine e_iconst 19 43 rfl rfl ?_
        refine e_icmp_le 20 56 46 rfl rfl rfl (by unfold xr at *; omega) (by unfold xr at *; omega) (fun _ => ?_) (fun h9 => absurd h9 (by omega))
        exact h
  · skip
    cases h2
theorem sp_updateX3 {σ : xSig} (h01 : n01 σ 27) {r n p op : Int} (hn : xr n) (hh : hasd σ n = true) (hr : 0 ≤ r ∧ r < 2) (hp : 0 ≤ p ∧ p < 72) (ho : 0 ≤ op ∧ op ≤ 5) (ho1 : op ≠ 1) (h0 : σ 1 2 = 0) : x_Sp MX11_update 1 6 [.ref 0, .int (ii r), .int (ii n), .int (ii p), .int (ii op)] (St σ) tISE (St σ) := by
  have he := sp_pEmpty (σ := σ) (by omega)
  rw [decide_eq_true h0] at he
  refine upd56 h01 hn hh hr hp ho ?_
  refine e_iload 26 58 rfl rfl rfl ?_
  refine e_iconst 27 59 rfl rfl ?_
  refine e_icmp_eq 28 82 62 rfl rfl rfl (by unfold xr at *; omega) (by unfold xr at *; omega) (fun h9 => absurd h9 (by omega)) (fun _ => ?_)
  refine e_aload_n 29 63 rfl rfl rfl rfl ?_
  refine g_getR 30 66 ckX11 flX11_12 rfl rfl (Nat.le_of_ble_eq_true rfl) rfl rfl ?_
  refine g_callV 31 69 (he) okX5_isEmpty cvX11_176 ⟨(Nat.le_of_ble_eq_true rfl), (Nat.le_of_ble_eq_true rfl)⟩ rfl rfl (Nat.le_of_ble_eq_true rfl) rfl rfl rfl rfl rfl (Nat.le_of_ble_eq_true rfl) (Nat.le_of_ble_eq_true rfl) (Nat.le_of_ble_eq_true rfl) ?_
  refine e_ifb_eq 32 82 72 rfl rfl rfl (fun h2 => ?_) (fun h2 => ?_)
  · skip
    cases h2
  · skip
    exact e_throw 33 thX11_101_105 rfl rfl rfl rfl rfl stX11_180 (Nat.le_of_ble_eq_true rfl) (Nat.le_of_ble_eq_true rfl) (Nat.le_of_ble_eq_true rfl) (Nat.le_of_ble_eq_true rfl) (Nat.le_of_ble_eq_true rfl)
