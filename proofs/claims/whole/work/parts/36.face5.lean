/-! ===== the face: what there is ===== -/
theorem sp_documents {σ : xSig} : x_Sp MX11_documents 0 0 [.ref 0] (St σ) (iv (σ 25 4)) (St σ) := by
  refine e_entry okX11_documents (Nat.le_of_ble_eq_true rfl) (ls := [some _]) rfl ?_
  refine e_aload_n 0 1 rfl rfl rfl rfl ?_
  refine g_getR 1 4 ckX11 flX11_19 rfl rfl (Nat.le_of_ble_eq_true rfl) rfl rfl ?_
  refine g_callV 2 7 (sp_stSize) okX8_size cvX11_154 ⟨(Nat.le_of_ble_eq_true rfl), (Nat.le_of_ble_eq_true rfl)⟩ rfl rfl (Nat.le_of_ble_eq_true rfl) rfl rfl rfl rfl rfl (Nat.le_of_ble_eq_true rfl) (Nat.le_of_ble_eq_true rfl) (Nat.le_of_ble_eq_true rfl) ?_
  exact e_ireturn 3 rfl rfl (Nat.le_of_ble_eq_true rfl) (Nat.le_of_ble_eq_true rfl)
theorem sp_now {σ : xSig} : x_Sp MX11_now 0 0 [.ref 0] (St σ) (iv (σ 0 9)) (St σ) := by
  refine e_entry okX11_now (Nat.le_of_ble_eq_true rfl) (ls := [some _]) rfl ?_
  refine e_aload_n 0 1 rfl rfl rfl rfl ?_
  refine g_getI 1 4 9 ckX11 flX11_69 rfl rfl (Nat.le_of_ble_eq_true rfl) rfl rfl rfl rfl ?_
  exact e_ireturn 2 rfl rfl (Nat.le_of_ble_eq_true rfl) (Nat.le_of_ble_eq_true rfl)
theorem sp_next {σ : xSig} (hc : 0 ≤ σ 239 3 ∧ σ 239 3 ≤ 1024) {i : Int} (hi : xr i) : x_Sp MX11_next 0 0 [.ref 0, .int (ii i)] (St σ) (iv (if (if i < 0 then 0 else i) < σ 239 3 then (if i < 0 then 0 else i) + 1 else -1)) (St σ) := by
  refine e_entry okX11_next (Nat.le_of_ble_eq_true rfl) (ls := [some _, some _]) rfl ?_
  refine e_aload_n 0 1 rfl rfl rfl rfl ?_
  refine g_getR 1 4 ckX11 flX11_33 rfl rfl (Nat.le_of_ble_eq_true rfl) rfl rfl ?_
  refine e_iload_n 2 5 rfl rfl rfl rfl ?_
  refine g_callV 3 8 (sp_firstBehind hc hi) okX9_firstBehind cvX11_400 ⟨(Nat.le_of_ble_eq_true rfl), (Nat.le_of_ble_eq_true rfl)⟩ rfl rfl (Nat.le_of_ble_eq_true rfl) rfl rfl rfl rfl rfl (Nat.le_of_ble_eq_true rfl) (Nat.le_of_ble_eq_true rfl) (Nat.le_of_ble_eq_true rfl) ?_
  exact e_ireturn 4 rfl rfl (Nat.le_of_ble_eq_true rfl) (Nat.le_of_ble_eq_true rfl)
theorem sp_changeX {σ : xSig} (hc : 0 ≤ σ 239 3 ∧ σ 239 3 ≤ 1024) {i w : Int} (hi : xr i) (hh : ¬ (1 ≤ i ∧ i ≤ σ 239 3)) : x_Sp MX11_change 1 6 [.ref 0, .int (ii i), .int (ii w)] (St σ) tIOB (St σ) := by
  have h := sp_enHas hc hi
  rw [decide_eq_false hh] at h
  refine e_entry okX11_change (Nat.le_of_ble_eq_true rfl) (ls := [some _, some _, some _]) rfl ?_
  refine e_aload_n 0 1 rfl rfl rfl rfl ?_
  refine g_getR 1 4 ckX11 flX11_33 rfl rfl (Nat.le_of_ble_eq_true rfl) rfl rfl ?_
  refine e_iload_n 2 5 rfl rfl rfl rfl ?_
  refine g_callV 3 8 (h) okX9_has cvX11_403 ⟨(Nat.le_of_ble_eq_true rfl), (Nat.le_of_ble_eq_true rfl)⟩ rfl rfl (Nat.le_of_ble_eq_true rfl) rfl rfl rfl rfl rfl (Nat.le_of_ble_eq_true rfl) (Nat.le_of_ble_eq_true rfl) (Nat.le_of_ble_eq_true rfl) ?_
  refine e_ifb_ne 4 22 11 rfl rfl rfl (fun h2 => ?_) (fun h2 => ?_)
  · skip
    cases h2
  · skip
    exact e_throwW 5 thX11_166_170 rfl rfl rfl rfl rfl stX11_404 (Nat.le_of_ble_eq_true rfl) (Nat.le_of_ble_eq_true rfl) (Nat.le_of_ble_eq_true rfl) (Nat.le_of_ble_eq_true rfl) (Nat.le_of_ble_eq_true rfl)
theorem sp_changeX2 {σ : xSig} (hc : 0 ≤ σ 239 3 ∧ σ 239 3 ≤ 1024) {i w : Int} (hw : xr w) (hh : 1 ≤ i ∧ i ≤ σ 239 3) (hw2 : ¬ (0 ≤ w ∧ w ≤ 2)) : x_Sp MX11_change 1 6 [.ref 0, .int (ii i), .int (ii w)] (St σ) tIAE (St σ) := by
  have h := sp_enHas hc (i := i) (by unfold xr; omega)
  rw [decide_eq_true hh] at h
  have fin : x_E MX11_change 1 6 31 [some (.ref 0), some (.int (ii i)), some (.int (ii w))] [] (St σ) 0 0 tIAE (St σ) := by
    exact e_throwW 15 thX11_82_86 rfl rfl rfl rfl rfl stX11_276 (Nat.le_of_ble_eq_true rfl) (Nat.le_of_ble_eq_true rfl) (Nat.le_of_ble_eq_true rfl) (Nat.le_of_ble_eq_true rfl) (Nat.le_of_ble_eq_true rfl)
  refine e_entry okX11_change (Nat.le_of_ble_eq_true rfl) (ls := [some _, some _, some _]) rfl ?_
  refine e_aload_n 0 1 rfl rfl rfl rfl ?_
  refine g_getR 1 4 ckX11 flX11_33 rfl rfl (Nat.le_of_ble_eq_true rfl) rfl rfl ?_
  refine e_iload_n 2 5 rfl rfl rfl rfl ?_
  refine g_callV 3 8 (h) okX9_has cvX11_403 ⟨(Nat.le_of_ble_eq_true rfl), (Nat.le_of_ble_eq_true rfl)⟩ rfl rfl (Nat.le_of_ble_eq_true rfl) rfl rfl rfl rfl rfl (Nat.le_of_ble_eq_true rfl) (Nat.le_of_ble_eq_true rfl) (Nat.le_of_ble_eq_true rfl) ?_
  refine e_ifb_ne 4 22 11 rfl rfl rfl (fun h2 => ?_) (fun h2 => ?_)
  · skip
    refine e_iload_n 10 23 rfl rfl rfl rfl ?_
    refine e_if_lt 11 31 26 rfl rfl rfl (by unfold xr at *; omega) (fun h3 => ?_) (fun h3 => ?_)
    · skip
      exact fin
    · skip
      refine e_iload_n 12 27 rfl rfl rfl rfl ?_
      refine e_iconst 13 28 rfl rfl ?_
      refine e_icmp_le 14 42 31 rfl rfl rfl (by unfold xr at *; omega) (by unfold xr at *; omega) (fun h9 => absurd h9 (by omega)) (fun _ => ?_)
      exact fin
  · skip
    cases h2
theorem sp_change1 {σ : xSig} (hc : 0 ≤ σ 239 3 ∧ σ 239 3 ≤ 1024) {i w : Int} (hh : 1 ≤ i ∧ i ≤ σ 239 3) (hw2 : 0 ≤ w ∧ w ≤ 2) : x_Sp MX11_change 0 0 [.ref 0, .int (ii i), .int (ii w)] (St σ) (iv (if w = 0 then σ 240 (i - 1) else if w = 1 then σ 241 (i - 1) else σ 242 (i - 1))) (St σ) := by
  have h := sp_enHas hc (i := i) (by unfold xr; omega)
  rw [decide_eq_true hh] at h
  refine e_entry okX11_change (Nat.le_of_ble_eq_true rfl) (ls := [some _, some _, some _]) rfl ?_
  refine e_aload_n 0 1 rfl rfl rfl rfl ?_
  refine g_getR 1 4 ckX11 flX11_33 rfl rfl (Nat.le_of_ble_eq_true rfl) rfl rfl ?_
  refine e_iload_n 2 5 rfl rfl rfl rfl ?_
  refine g_callV 3 8 (h) okX9_has cvX11_403 ⟨(Nat.le_of_ble_eq_true rfl), (Nat.le_of_ble_eq_true rfl)⟩ rfl rfl (Nat.le_of_ble_eq_true rfl) rfl rfl rfl rfl rfl (Nat.le_of_ble_eq_true rfl) (Nat.le_of_ble_eq_true rfl) (Nat.le_of_ble_eq_true rfl) ?_
  refine e_ifb_ne 4 22 11 rfl rfl rfl (fun h2 => ?_) (fun h2 => ?_)
  · skip
    refine e_iload_n 10 23 rfl rfl rfl rfl ?_
    refine e_if_lt 11 31 26 rfl rfl rfl (by unfold xr at *; omega) (fun h9 => absurd h9 (by omega)) (fun _ => ?_)
    refine e_iload_n 12 27 rfl rfl rfl rfl ?_
    refine e_iconst 13 28 rfl rfl ?_
    refine e_icmp_le 14 42 31 rfl rfl rfl (by unfold xr at *; omega) (by unfold xr at *; omega) (fun _ => ?_) (fun h9 => absurd h9 (by omega))
    refine e_aload_n 20 43 rfl rfl rfl rfl ?_
    refine g_getR 21 46 ckX11 flX11_33 rfl rfl (Nat.le_of_ble_eq_true rfl) rfl rfl ?_
    refine e_iload_n 22 47 rfl rfl rfl rfl ?_
    refine e_iload_n 23 48 rfl rfl rfl rfl ?_
    refine g_callV 24 51 (sp_enTell hc hh (w := w) (by unfold xr; omega)) okX9_tell cvX11_406 ⟨(Nat.le_of_ble_eq_true rfl), (Nat.le_of_ble_eq_true rfl)⟩ rfl rfl (Nat.le_of_ble_eq_true rfl) rfl rfl rfl rfl rfl (Nat.le_of_ble_eq_true rfl) (Nat.le_of_ble_eq_true rfl) (Nat.le_of_ble_eq_true rfl) ?_
    exact e_ireturn 25 rfl rfl (Nat.le_of_ble_eq_true rfl) (Nat.le_of_ble_eq_true rfl)
  · skip
    cases h2
theorem sp_routerX {σ : xSig} {r w : Int} (hr : xr r) (hw : xr w) (hh : ¬ ((0 ≤ r ∧ r < 2) ∧ 0 ≤ w ∧ w ≤ 1)) : x_Sp MX11_router 1 6 [.ref 0, .int (ii r), .int (ii w)] (St σ) tIAE (St σ) := by
  have h := sp_isRouter (σ := σ) hr
  have fin : x_E MX11_router 1 6 16 [some (.ref 0), some (.int (ii r)), some (.int (ii w))] [] (St σ) 0 0 tIAE (St σ) := by
    exact e_throwW 8 thX11_82_86 rfl rfl rfl rfl rfl stX11_392 (Nat.le_of_ble_eq_true rfl) (Nat.le_of_ble_eq_true rfl) (Nat.le_of_ble_eq_true rfl) (Nat.le_of_ble_eq_true rfl) (Nat.le_of_ble_eq_true rfl)
  refine e_entry okX11_router (Nat.le_of_ble_eq_true rfl) (ls := [some _, some _, some _]) rfl ?_
  refine e_iload_n 0 1 rfl rfl rfl rfl ?_
  refine g_callS 1 4 (h) okX11_isRouter csX11_140 ⟨(Nat.le_of_ble_eq_true rfl), (Nat.le_of_ble_eq_true rfl)⟩ rfl rfl rfl rfl (Nat.le_of_ble_eq_true rfl) (Nat.le_of_ble_eq_true rfl) (Nat.le_of_ble_eq_true rfl) ?_
  refine e_ifb_eq 2 16 7 rfl rfl rfl (fun h2 => ?_) (fun h2 => ?_)
  · skip
    exact fin
  · skip
    have h3 := of_decide_eq_true h2
    refine e_iload_n 3 8 rfl rfl rfl rfl ?_
    refine e_if_lt 4 16 11 rfl rfl rfl (by unfold xr at *; omega) (fun h4 => ?_) (fun h4 => ?_)
    · skip
      exact fin
    · skip
      refine e_iload_n 5 12 rfl rfl rfl rfl ?_
      refine e_iconst 6 13 rfl rfl ?_
      refine e_icmp_le 7 27 16 rfl rfl rfl (by unfold xr at *; omega) (by unfold xr at *; omega) (fun h9 => absurd h9 (by omega)) (fun _ => ?_)
      exact fin
theorem sp_router1 {σ : xSig} {r w : Int} (hr : 0 ≤ r ∧ r < 2) (hw : 0 ≤ w ∧ w ≤ 1) : x_Sp MX11_router 0 0 [.ref 0, .int (ii r), .int (ii w)] (St σ) (iv (if w = 0 then σ 236 r else σ 237 r)) (St σ) := by
  have h := sp_isRouter (σ := σ) (x := r) (by unfold xr; omega)
  rw [decide_eq_true hr] at h
  refine e_entry okX11_router (Nat.le_of_ble_eq_true rfl) (ls := [some _, some _, some _]) rfl ?_
  refine e_iload_n 0 1 rfl rfl rfl rfl ?_
  refine g_callS 1 4 (h) okX11_isRouter csX11_140 ⟨(Nat.le_of_ble_eq_true rfl), (Nat.le_of_ble_eq_true rfl)⟩ rfl rfl rfl rfl (Nat.le_of_ble_eq_true rfl) (Nat.le_of_ble_eq_true rfl) (Nat.le_of_ble_eq_true rfl) ?_
  refine e_ifb_eq 2 16 7 rfl rfl rfl (fun h2 => ?_) (fun h2 => ?_)
  · skip
    cases h2
  · skip
    refine e_iload_n 3 8 rfl rfl rfl rfl ?_
    refine e_if_lt 4 16 11 rfl rfl rfl (by unfold xr at *; omega) (fun h9 => absurd h9 (by omega)) (fun _ => ?_)
    refine e_iload_n 5 12 rfl rfl rfl rfl ?_
    refine e_iconst 6 13 rfl rfl ?_
    refine e_icmp_le 7 27 16 rfl rfl rfl (by unfold xr at *; omega) (by unfold xr at *; omega) (fun _ => ?_) (fun h9 => absurd h9 (by omega))
    refine e_iload_n 13 28 rfl rfl rfl rfl ?_
    refine e_if_ne 14 42 31 rfl rfl rfl (by unfold xr at *; omega) (fun h3 => ?_) (fun h3 => ?_)
    · skip
      rw [if_neg h3]
      refine e_aload_n 20 43 rfl rfl rfl rfl ?_
      refine g_getR 21 46 ckX11 flX11_26 rfl rfl (Nat.le_of_ble_eq_true rfl) rfl rfl ?_
      refine e_iload_n 22 47 rfl rfl rfl rfl ?_
      refine g_callV 23 50 (sp_routerStale hr) okX0_routerStale cvX11_397 ⟨(Nat.le_of_ble_eq_true rfl), (Nat.le_of_ble_eq_true rfl)⟩ rfl rfl (Nat.le_of_ble_eq_true rfl) rfl rfl rfl rfl rfl (Nat.le_of_ble_eq_true rfl) (Nat.le_of_ble_eq_true rfl) (Nat.le_of_ble_eq_true rfl) ?_
      exact e_ireturn 24 rfl rfl (Nat.le_of_ble_eq_true rfl) (Nat.le_of_ble_eq_true rfl)
    · skip
      rw [if_pos h3]
      refine e_aload_n 15 32 rfl rfl rfl rfl ?_
      refine g_getR 16 35 ckX11 flX11_26 rfl rfl (Nat.le_of_ble_eq_true rfl) rfl rfl ?_
      refine e_iload_n 17 36 rfl rfl rfl rfl ?_
      refine g_callV 18 39 (sp_routerVersion hr) okX0_routerVersion cvX11_394 ⟨(Nat.le_of_ble_eq_true rfl), (Nat.le_of_ble_eq_true rfl)⟩ rfl rfl (Nat.le_of_ble_eq_true rfl) rfl rfl rfl rfl rfl (Nat.le_of_ble_eq_true rfl) (Nat.le_of_ble_eq_true rfl) (Nat.le_of_ble_eq_true rfl) ?_
      refine e_goto 19 50 rfl rfl ?_
      exact e_ireturn 24 rfl rfl (Nat.le_of_ble_eq_true rfl) (Nat.le_of_ble_eq_true rfl)
theorem sp_shardX {σ : xSig} {s w : Int} (hs : xr s) (hw : xr w) (hh : ¬ ((0 ≤ s ∧ s < 3) ∧ 0 ≤ w ∧ w ≤ 2)) : x_Sp MX11_shard 1 6 [.ref 0, .int (ii s), .int (ii w)] (St σ) tIAE (St σ) := by
  have h := sp_isShard (σ := σ) hs
  have fin : x_E MX11_shard 1 6 16 [some (.ref 0), some (.int (ii s)), some (.int (ii w))] [] (St σ) 0 0 tIAE (St σ) := by
    exact e_throwW 8 thX11_82_86 rfl rfl rfl rfl rfl stX11_381 (Nat.le_of_ble_eq_true rfl) (Nat.le_of_ble_eq_true rfl) (Nat.le_of_ble_eq_true rfl) (Nat.le_of_ble_eq_true rfl) (Nat.le_of_ble_eq_true rfl)
  refine e_entry okX11_shard (Nat.le_of_ble_eq_true rfl) (ls := [some _, some _, some _]) rfl ?_
  refine e_iload_n 0 1 rfl rfl rfl rfl ?_
  refine g_callS 1 4 (h) okX11_isShard csX11_316 ⟨(Nat.le_of_ble_eq_true rfl), (Nat.le_of_ble_eq_true rfl)⟩ rfl rfl rfl rfl (Nat.le_of_ble_eq_true rfl) (Nat.le_of_ble_eq_true rfl) (Nat.le_of_ble_eq_true rfl) ?_
  refine e_ifb_eq 2 16 7 rfl rfl rfl (fun h2 => ?_) (fun h2 => ?_)
  · skip
    exact fin
  · skip
    have h3 := of_decide_eq_true h2
    refine e_iload_n 3 8 rfl rfl rfl rfl ?_
    refine e_if_lt 4 16 11 rfl rfl rfl (by unfold xr at *; omega) (fun h4 => ?_) (fun h4 => ?_)
    · skip
      exact fin
    · skip
      refine e_iload_n 5 12 rfl rfl rfl rfl ?_
      refine e_iconst 6 13 rfl rfl ?_
      refine e_icmp_le 7 27 16 rfl rfl rfl (by unfold xr at *; omega) (by unfold xr at *; omega) (fun h9 => absurd h9 (by omega)) (fun _ => ?_)
      exact fin
theorem sp_shard1 {σ : xSig} {T : Nat → List Int} (hA : VAll σ T) (h01 : n01 σ 27) (h : CHR σ) {s w : Int} (hs : 0 ≤ s ∧ s < 3) (hw : 0 ≤ w ∧ w ≤ 2) : x_Sp MX11_shard 0 0 [.ref 0, .int (ii s), .int (ii w)] (St σ) (iv (if w = 0 then cat9 σ T s else if w = 1 then σ 234 s else if s = σ 231 12 then ncp σ else 0)) (St σ) := by
  have hi := sp_isShard (σ := σ) (x := s) (by unfold xr; omega)
  rw [decide_eq_true hs] at hi
  refine e_entry okX11_shard (Nat.le_of_ble_eq_true rfl) (ls := [some _, some _, some _]) rfl ?_
  refine e_iload_n 0 1 rfl rfl rfl rfl ?_
  refine g_callS 1 4 (hi) okX11_isShard csX11_316 ⟨(Nat.le_of_ble_eq_true rfl), (Nat.le_of_ble_eq_true rfl)⟩ rfl rfl rfl rfl (Nat.le_of_ble_eq_true rfl) (Nat.le_of_ble_eq_true rfl) (Nat.le_of_ble_eq_true rfl) ?_
  refine e_ifb_eq 2 16 7 rfl rfl rfl (fun h2 => ?_) (fun h2 => ?_)
  · skip
    cases h2
  · skip
    refine e_iload_n 3 8 rfl rfl rfl rfl ?_
    refine e_if_lt 4 16 11 rfl rfl rfl (by unfold xr at *; omega) (fun h9 => absurd h9 (by omega)) (fun _ => ?_)
    refine e_iload_n 5 12 rfl rfl rfl rfl ?_
    refine e_iconst 6 13 rfl rfl ?_
    refine e_icmp_le 7 27 16 rfl rfl rfl (by unfold xr at *; omega) (by unfold xr at *; omega) (fun _ => ?_) (fun h9 => absurd h9 (by omega))
    refine e_iload_n 13 28 rfl rfl rfl rfl ?_
    refine e_if_ne 14 44 31 rfl rfl rfl (by unfold xr at *; omega) (fun h3 => ?_) (fun h3 => ?_)
    · skip
      rw [if_neg h3]
      refine e_iload_n 22 45 rfl rfl rfl rfl ?_
      refine e_iconst 23 46 rfl rfl ?_
      refine e_icmp_ne 24 60 49 rfl rfl rfl (by unfold xr at *; omega) (by unfold xr at *; omega) (fun h4 => ?_) (fun h4 => ?_)
      · skip
        rw [if_neg h4]
        refine e_aload_n 30 61 rfl rfl rfl rfl ?_
        refine g_getR 31 64 ckX11 flX11_26 rfl rfl (Nat.le_of_ble_eq_true rfl) rfl rfl ?_
        refine e_iload_n 32 65 rfl rfl rfl rfl ?_
        refine g_callV 33 68 (sp_copiesAt h hs) okX0_copiesAt cvX11_389 ⟨(Nat.le_of_ble_eq_true rfl), (Nat.le_of_ble_eq_true rfl)⟩ rfl rfl (Nat.le_of_ble_eq_true rfl) rfl rfl rfl rfl rfl (Nat.le_of_ble_eq_true rfl) (Nat.le_of_ble_eq_true rfl) (Nat.le_of_ble_eq_true rfl) ?_
        exact e_ireturn 34 rfl rfl (Nat.le_of_ble_eq_true rfl) (Nat.le_of_ble_eq_true rfl)
      · skip
        rw [if_pos h4]
        refine e_aload_n 25 50 rfl rfl rfl rfl ?_
        refine g_getR 26 53 ckX11 flX11_26 rfl rfl (Nat.le_of_ble_eq_true rfl) rfl rfl ?_
        refine e_iload_n 27 54 rfl rfl rfl rfl ?_
        refine g_callV 28 57 (sp_orphansOf hs) okX0_orphansOf cvX11_386 ⟨(Nat.le_of_ble_eq_true rfl), (Nat.le_of_ble_eq_true rfl)⟩ rfl rfl (Nat.le_of_ble_eq_true rfl) rfl rfl rfl rfl rfl (Nat.le_of_ble_eq_true rfl) (Nat.le_of_ble_eq_true rfl) (Nat.le_of_ble_eq_true rfl) ?_
        refine e_goto 29 68 rfl rfl ?_
        exact e_ireturn 34 rfl rfl (Nat.le_of_ble_eq_true rfl) (Nat.le_of_ble_eq_true rfl)
    · skip
      rw [if_pos h3]
      refine e_aload_n 15 32 rfl rfl rfl rfl ?_
      refine g_getR 16 35 ckX11 flX11_26 rfl rfl (Nat.le_of_ble_eq_true rfl) rfl rfl ?_
      refine e_aload_n 17 36 rfl rfl rfl rfl ?_
      refine g_getR 18 39 ckX11 flX11_19 rfl rfl (Nat.le_of_ble_eq_true rfl) rfl rfl ?_
      refine e_iload_n 19 40 rfl rfl rfl rfl ?_
      refine g_callV 20 43 (sp_countAt hA h01 h (c := s) (by unfold xr; omega)) okX0_countAt cvX11_383 ⟨(Nat.le_of_ble_eq_true rfl), (Nat.le_of_ble_eq_true rfl)⟩ rfl rfl (Nat.le_of_ble_eq_true rfl) rfl rfl rfl rfl rfl (Nat.le_of_ble_eq_true rfl) (Nat.le_of_ble_eq_true rfl) (Nat.le_of_ble_eq_true rfl) ?_
      exact e_ireturn 21 rfl rfl (Nat.le_of_ble_eq_true rfl) (Nat.le_of_ble_eq_true rfl)
theorem sp_chunkX {σ : xSig} (h : CHR σ) {c w : Int} (hc : xr c) (hh : chas σ c = false) : x_Sp MX11_chunk 1 6 [.ref 0, .int (ii c), .int (ii w)] (St σ) tIOB (St σ) := by
  have hi := sp_chHas h hc
  rw [hh] at hi
  refine e_entry okX11_chunk (Nat.le_of_ble_eq_true rfl) (ls := [some _, some _, some _]) rfl ?_
  refine e_aload_n 0 1 rfl rfl rfl rfl ?_
  refine g_getR 1 4 ckX11 flX11_26 rfl rfl (Nat.le_of_ble_eq_true rfl) rfl rfl ?_
  refine e_iload_n 2 5 rfl rfl rfl rfl ?_
  refine g_callV 3 8 (hi) okX0_has cvX11_295 ⟨(Nat.le_of_ble_eq_true rfl), (Nat.le_of_ble_eq_true rfl)⟩ rfl rfl (Nat.le_of_ble_eq_true rfl) rfl rfl rfl rfl rfl (Nat.le_of_ble_eq_true rfl) (Nat.le_of_ble_eq_true rfl) (Nat.le_of_ble_eq_true rfl) ?_
  refine e_ifb_ne 4 22 11 rfl rfl rfl (fun h2 => ?_) (fun h2 => ?_)
  · skip
    cases h2
  · skip
    exact e_throwW 5 thX11_166_170 rfl rfl rfl rfl rfl stX11_296 (Nat.le_of_ble_eq_true rfl) (Nat.le_of_ble_eq_true rfl) (Nat.le_of_ble_eq_true rfl) (Nat.le_of_ble_eq_true rfl) (Nat.le_of_ble_eq_true rfl)
theorem sp_chunkX2 {σ : xSig} (h : CHR σ) {c w : Int} (hw : xr w) (hh : chas σ c = true) (hw2 : ¬ (0 ≤ w ∧ w ≤ 3)) : x_Sp MX11_chunk 1 6 [.ref 0, .int (ii c), .int (ii w)] (St σ) tIAE (St σ) := by
  have hci : 0 ≤ c ∧ c < σ 231 7 := of_decide_eq_true hh
  have h7 := h.1
  have hi := sp_chHas h (c := c) (by unfold xr; omega)
  rw [hh] at hi
  have fin : x_E MX11_chunk 1 6 31 [some (.ref 0), some (.int (ii c)), some (.int (ii w))] [] (St σ) 0 0 tIAE (St σ) := by
    exact e_throwW 15 thX11_82_86 rfl rfl rfl rfl rfl stX11_276 (Nat.le_of_ble_eq_true rfl) (Nat.le_of_ble_eq_true rfl) (Nat.le_of_ble_eq_true rfl) (Nat.le_of_ble_eq_true rfl) (Nat.le_of_ble_eq_true rfl)
  refine e_entry okX11_chunk (Nat.le_of_ble_eq_true rfl) (ls := [some _, some _, some _]) rfl ?_
  refine e_aload_n 0 1 rfl rfl rfl rfl ?_
  refine g_getR 1 4 ckX11 flX11_26 rfl rfl (Nat.le_of_ble_eq_true rfl) rfl rfl ?_
  refine e_iload_n 2 5 rfl rfl rfl rfl ?_
  refine g_callV 3 8 (hi) okX0_has cvX11_295 ⟨(Nat.le_of_ble_eq_true rfl), (Nat.le_of_ble_eq_true rfl)⟩ rfl rfl (Nat.le_of_ble_eq_true rfl) rfl rfl rfl rfl rfl (Nat.le_of_ble_eq_true rfl) (Nat.le_of_ble_eq_true rfl) (Nat.le_of_ble_eq_true rfl) ?_
  refine e_ifb_ne 4 22 11 rfl rfl rfl (fun h2 => ?_) (fun h2 => ?_)
  · skip
    refine e_iload_n 10 23 rfl rfl rfl rfl ?_
    refine e_if_lt 11 31 26 rfl rfl rfl (by unfold xr at *; omega) (fun h3 => ?_) (fun h3 => ?_)
    · skip
      exact fin
    · skip
      refine e_iload_n 12 27 rfl rfl rfl rfl ?_
      refine e_iconst 13 28 rfl rfl ?_
      refine e_icmp_le 14 42 31 rfl rfl rfl (by unfold xr at *; omega) (by unfold xr at *; omega) (fun h9 => absurd h9 (by omega)) (fun _ => ?_)
      exact fin
  · skip
    cases h2
theorem sp_chunk1 {σ : xSig} {T : Nat → List Int} (hA : VAll σ T) (h01 : n01 σ 27) (h : CHR σ) {c w : Int} (hh : chas σ c = true) (hw : 0 ≤ w ∧ w ≤ 3) : x_Sp MX11_chunk 0 0 [.ref 0, .int (ii c), .int (ii w)] (St σ) (iv (if w = 0 then cfst σ c else if w = 1 then cown σ c else if w = 2 then cin σ T c else bi (ismv σ c))) (St σ) := by
  have hci : 0 ≤ c ∧ c < σ 231 7 := of_decide_eq_true hh
  have h7 := h.1
  have hcx : xr c := by unfold xr; omega
  have hi := sp_chHas h hcx
  rw [hh] at hi
  refine e_entry okX11_chunk (Nat.le_of_ble_eq_true rfl) (ls := [some _, some _, some _]) rfl ?_
  refine e_aload_n 0 1 rfl rfl rfl rfl ?_
  refine g_getR 1 4 ckX11 flX11_26 rfl rfl (Nat.le_of_ble_eq_true rfl) rfl rfl ?_
  refine e_iload_n 2 5 rfl rfl rfl rfl ?_
  refine g_callV 3 8 (hi) okX0_has cvX11_295 ⟨(Nat.le_of_ble_eq_true rfl), (Nat.le_of_ble_eq_true rfl)⟩ rfl rfl (Nat.le_of_ble_eq_true rfl) rfl rfl rfl rfl rfl (Nat.le_of_ble_eq_true rfl) (Nat.le_of_ble_eq_true rfl) (Nat.le_of_ble_eq_true rfl) ?_
  refine e_ifb_ne 4 22 11 rfl rfl rfl (fun h2 => ?_) (fun h2 => ?_)
  · skip
    refine e_iload_n 10 23 rfl rfl rfl rfl ?_
    refine e_if_lt 11 31 26 rfl rfl rfl (by unfold xr at *; omega) (fun h9 => absurd h9 (by omega)) (fun _ => ?_)
    refine e_iload_n 12 27 rfl rfl rfl rfl ?_
    refine e_iconst 13 28 rfl rfl ?_
    refine e_icmp_le 14 42 31 rfl rfl rfl (by unfold xr at *; omega) (by unfold xr at *; omega) (fun _ => ?_) (fun h9 => absurd h9 (by omega))
    refine e_iload_n 20 43 rfl rfl rfl rfl ?_
    refine e_if_ne 21 55 46 rfl rfl rfl (by unfold xr at *; omega) (fun h3 => ?_) (fun h3 => ?_)
    · skip
      rw [if_neg h3]
      refine e_iload_n 27 56 rfl rfl rfl rfl ?_
      refine e_iconst 28 57 rfl rfl ?_
      refine e_icmp_ne 29 69 60 rfl rfl rfl (by unfold xr at *; omega) (by unfold xr at *; omega) (fun h4 => ?_) (fun h4 => ?_)
      · skip
        rw [if_neg h4]
        refine e_iload_n 35 70 rfl rfl rfl rfl ?_
        refine e_iconst 36 71 rfl rfl ?_
        refine e_icmp_ne 37 89 74 rfl rfl rfl (by unfold xr at *; omega) (by unfold xr at *; omega) (fun h5 => ?_) (fun h5 => ?_)
        · skip
          rw [if_neg h5]
          refine e_aload_n 45 90 rfl rfl rfl rfl ?_
          refine g_getR 46 93 ckX11 flX11_26 rfl rfl (Nat.le_of_ble_eq_true rfl) rfl rfl ?_
          refine e_iload_n 47 94 rfl rfl rfl rfl ?_
          refine g_callV 48 97 (sp_isMoving h hcx) okX0_isMoving cvX11_306 ⟨(Nat.le_of_ble_eq_true rfl), (Nat.le_of_ble_eq_true rfl)⟩ rfl rfl (Nat.le_of_ble_eq_true rfl) rfl rfl rfl rfl rfl (Nat.le_of_ble_eq_true rfl) (Nat.le_of_ble_eq_true rfl) (Nat.le_of_ble_eq_true rfl) ?_
          refine e_ifb_eq 49 104 100 rfl rfl rfl (fun h6 => ?_) (fun h6 => ?_)
          · skip
            rw [h6, bi_f]
            refine e_iconst 52 105 rfl rfl ?_
            exact e_ireturn 53 rfl rfl (Nat.le_of_ble_eq_true rfl) (Nat.le_of_ble_eq_true rfl)
          · skip
            rw [h6, bi_t]
            refine e_iconst 50 101 rfl rfl ?_
            refine e_goto 51 105 rfl rfl ?_
            exact e_ireturn 53 rfl rfl (Nat.le_of_ble_eq_true rfl) (Nat.le_of_ble_eq_true rfl)
        · skip
          rw [if_pos h5]
          refine e_aload_n 38 75 rfl rfl rfl rfl ?_
          refine g_getR 39 78 ckX11 flX11_26 rfl rfl (Nat.le_of_ble_eq_true rfl) rfl rfl ?_
          refine e_aload_n 40 79 rfl rfl rfl rfl ?_
          refine g_getR 41 82 ckX11 flX11_19 rfl rfl (Nat.le_of_ble_eq_true rfl) rfl rfl ?_
          refine e_iload_n 42 83 rfl rfl rfl rfl ?_
          refine g_callV 43 86 (sp_countIn hA h01 h hcx) okX0_countIn cvX11_378 ⟨(Nat.le_of_ble_eq_true rfl), (Nat.le_of_ble_eq_true rfl)⟩ rfl rfl (Nat.le_of_ble_eq_true rfl) rfl rfl rfl rfl rfl (Nat.le_of_ble_eq_true rfl) (Nat.le_of_ble_eq_true rfl) (Nat.le_of_ble_eq_true rfl) ?_
          refine e_goto 44 105 rfl rfl ?_
          exact e_ireturn 53 rfl rfl (Nat.le_of_ble_eq_true rfl) (Nat.le_of_ble_eq_true rfl)
      · skip
        rw [if_pos h4]
        refine e_aload_n 30 61 rfl rfl rfl rfl ?_
        refine g_getR 31 64 ckX11 flX11_26 rfl rfl (Nat.le_of_ble_eq_true rfl) rfl rfl ?_
        refine e_iload_n 32 65 rfl rfl rfl rfl ?_
        refine g_callV 33 68 (sp_ownerOf h hcx) okX0_ownerOf cvX11_321 ⟨(Nat.le_of_ble_eq_true rfl), (Nat.le_of_ble_eq_true rfl)⟩ rfl rfl (Nat.le_of_ble_eq_true rfl) rfl rfl rfl rfl rfl (Nat.le_of_ble_eq_true rfl) (Nat.le_of_ble_eq_true rfl) (Nat.le_of_ble_eq_true rfl) ?_
        exact e_ireturn 34 rfl rfl (Nat.le_of_ble_eq_true rfl) (Nat.le_of_ble_eq_true rfl)
    · skip
      rw [if_pos h3]
      refine e_aload_n 22 47 rfl rfl rfl rfl ?_
      refine g_getR 23 50 ckX11 flX11_26 rfl rfl (Nat.le_of_ble_eq_true rfl) rfl rfl ?_
      refine e_iload_n 24 51 rfl rfl rfl rfl ?_
      refine g_callV 25 54 (sp_firstOf h hcx) okX0_firstOf cvX11_298 ⟨(Nat.le_of_ble_eq_true rfl), (Nat.le_of_ble_eq_true rfl)⟩ rfl rfl (Nat.le_of_ble_eq_true rfl) rfl rfl rfl rfl rfl (Nat.le_of_ble_eq_true rfl) (Nat.le_of_ble_eq_true rfl) (Nat.le_of_ble_eq_true rfl) ?_
      exact e_ireturn 26 rfl rfl (Nat.le_of_ble_eq_true rfl) (Nat.le_of_ble_eq_true rfl)
  · skip
    cases h2
theorem sp_entriesX {σ : xSig} (hX : IXR σ) {k : Int} (hk : xr k) (hh : ihas σ k = false) : x_Sp MX11_entries 1 6 [.ref 0, .int (ii k)] (St σ) tIOB (St σ) := by
  have hi := sp_ixHas hX hk
  rw [hh] at hi
  refine e_entry okX11_entries (Nat.le_of_ble_eq_true rfl) (ls := [some _, some _]) rfl ?_
  refine e_aload_n 0 1 rfl rfl rfl rfl ?_
  refine g_getR 1 4 ckX11 flX11_47 rfl rfl (Nat.le_of_ble_eq_true rfl) rfl rfl ?_
  refine e_iload_n 2 5 rfl rfl rfl rfl ?_
  refine g_callV 3 8 (hi) okX4_has cvX11_235 ⟨(Nat.le_of_ble_eq_true rfl), (Nat.le_of_ble_eq_true rfl)⟩ rfl rfl (Nat.le_of_ble_eq_true rfl) rfl rfl rfl rfl rfl (Nat.le_of_ble_eq_true rfl) (Nat.le_of_ble_eq_true rfl) (Nat.le_of_ble_eq_true rfl) ?_
  refine e_ifb_ne 4 21 11 rfl rfl rfl (fun h2 => ?_) (fun h2 => ?_)
  · skip
    cases h2
  · skip
    exact e_throw 5 thX11_166_170 rfl rfl rfl rfl rfl stX11_236 (Nat.le_of_ble_eq_true rfl) (Nat.le_of_ble_eq_true rfl) (Nat.le_of_ble_eq_true rfl) (Nat.le_of_ble_eq_true rfl) (Nat.le_of_ble_eq_true rfl)
theorem sp_entries1 {σ : xSig} {T : Nat → List Int} (hA : VAll σ T) (h01 : n01 σ 27) (hX : IXR σ) (hG : GDA σ T) {k : Int} (hh : ihas σ k = true) : ∃ σ' : xSig, x_Sp MX11_entries 0 0 [.ref 0, .int (ii k)] (St σ) (iv (ent σ T k)) (St σ') ∧ Fr 254 σ σ' := by
  have hki := ihas_in hh
  have hi := sp_ixHas hX (i := k) (by unfold xr; omega)
  rw [hh] at hi
  obtain ⟨σ', k1, k2⟩ := sp_countEntries hA h01 hX hG hh
  refine ⟨σ', ?_, k2⟩
  refine e_entry okX11_entries (Nat.le_of_ble_eq_true rfl) (ls := [some _, some _]) rfl ?_
  refine e_aload_n 0 1 rfl rfl rfl rfl ?_
  refine g_getR 1 4 ckX11 flX11_47 rfl rfl (Nat.le_of_ble_eq_true rfl) rfl rfl ?_
  refine e_iload_n 2 5 rfl rfl rfl rfl ?_
  refine g_callV 3 8 (hi) okX4_has cvX11_235 ⟨(Nat.le_of_ble_eq_true rfl), (Nat.le_of_ble_eq_true rfl)⟩ rfl rfl (Nat.le_of_ble_eq_true rfl) rfl rfl rfl rfl rfl (Nat.le_of_ble_eq_true rfl) (Nat.le_of_ble_eq_true rfl) (Nat.le_of_ble_eq_true rfl) ?_
  refine e_ifb_ne 4 21 11 rfl rfl rfl (fun h2 => ?_) (fun h2 => ?_)
  · skip
    refine e_aload_n 10 22 rfl rfl rfl rfl ?_
    refine g_getR 11 25 ckX11 flX11_47 rfl rfl (Nat.le_of_ble_eq_true rfl) rfl rfl ?_
    refine e_aload_n 12 26 rfl rfl rfl rfl ?_
    refine g_getR 13 29 ckX11 flX11_19 rfl rfl (Nat.le_of_ble_eq_true rfl) rfl rfl ?_
    refine e_iload_n 14 30 rfl rfl rfl rfl ?_
    refine g_callV 15 33 (k1) okX4_countEntries cvX11_374 ⟨(Nat.le_of_ble_eq_true rfl), (Nat.le_of_ble_eq_true rfl)⟩ rfl rfl (Nat.le_of_ble_eq_true rfl) rfl rfl rfl rfl rfl (Nat.le_of_ble_eq_true rfl) (Nat.le_of_ble_eq_true rfl) (Nat.le_of_ble_eq_true rfl) ?_
    exact e_ireturn 16 rfl rfl (Nat.le_of_ble_eq_true rfl) (Nat.le_of_ble_eq_true rfl)
  · skip
    cases h2
theorem sp_entriesAnewX {σ : xSig} (hX : IXR σ) {k : Int} (hk : xr k) (hh : ihas σ k = false) : x_Sp MX11_entriesAnew 1 6 [.ref 0, .int (ii k)] (St σ) tIOB (St σ) := by
  have hi := sp_ixHas hX hk
  rw [hh] at hi
  refine e_entry okX11_entriesAnew (Nat.le_of_ble_eq_true rfl) (ls := [some _, some _]) rfl ?_
  refine e_aload_n 0 1 rfl rfl rfl rfl ?_
  refine g_getR 1 4 ckX11 flX11_47 rfl rfl (Nat.le_of_ble_eq_true rfl) rfl rfl ?_
  refine e_iload_n 2 5 rfl rfl rfl rfl ?_
  refine g_callV 3 8 (hi) okX4_has cvX11_235 ⟨(Nat.le_of_ble_eq_true rfl), (Nat.le_of_ble_eq_true rfl)⟩ rfl rfl (Nat.le_of_ble_eq_true rfl) rfl rfl rfl rfl rfl (Nat.le_of_ble_eq_true rfl) (Nat.le_of_ble_eq_true rfl) (Nat.le_of_ble_eq_true rfl) ?_
  refine e_ifb_ne 4 21 11 rfl rfl rfl (fun h2 => ?_) (fun h2 => ?_)
  · skip
    cases h2
  · skip
    exact e_throw 5 thX11_166_170 rfl rfl rfl rfl rfl stX11_236 (Nat.le_of_ble_eq_true rfl) (Nat.le_of_ble_eq_true rfl) (Nat.le_of_ble_eq_true rfl) (Nat.le_of_ble_eq_true rfl) (Nat.le_of_ble_eq_true rfl)
theorem sp_entriesAnew1 {σ : xSig} {T : Nat → List Int} (hA : VAll σ T) (h01 : n01 σ 27) (hX : IXR σ) (hG : GDA σ T) {k : Int} (hh : ihas σ k = true) : ∃ σ' : xSig, x_Sp MX11_entriesAnew 0 0 [.ref 0, .int (ii k)] (St σ) (iv (ent σ T k)) (St σ') ∧ Fr 254 σ σ' := by
  have hki := ihas_in hh
  have hi := sp_ixHas hX (i := k) (by unfold xr; omega)
  rw [hh] at hi
  obtain ⟨σ', k1, k2⟩ := sp_countEntries hA h01 hX hG hh
  refine ⟨σ', ?_, k2⟩
  refine e_entry okX11_entriesAnew (Nat.le_of_ble_eq_true rfl) (ls := [some _, some _]) rfl ?_
  refine e_aload_n 0 1 rfl rfl rfl rfl ?_
  refine g_getR 1 4 ckX11 flX11_47 rfl rfl (Nat.le_of_ble_eq_true rfl) rfl rfl ?_
  refine e_iload_n 2 5 rfl rfl rfl rfl ?_
  refine g_callV 3 8 (hi) okX4_has cvX11_235 ⟨(Nat.le_of_ble_eq_true rfl), (Nat.le_of_ble_eq_true rfl)⟩ rfl rfl (Nat.le_of_ble_eq_true rfl) rfl rfl rfl rfl rfl (Nat.le_of_ble_eq_true rfl) (Nat.le_of_ble_eq_true rfl) (Nat.le_of_ble_eq_true rfl) ?_
  refine e_ifb_ne 4 21 11 rfl rfl rfl (fun h2 => ?_) (fun h2 => ?_)
  · skip
    refine e_aload_n 10 22 rfl rfl rfl rfl ?_
    refine g_getR 11 25 ckX11 flX11_47 rfl rfl (Nat.le_of_ble_eq_true rfl) rfl rfl ?_
    refine e_aload_n 12 26 rfl rfl rfl rfl ?_
    refine g_getR 13 29 ckX11 flX11_19 rfl rfl (Nat.le_of_ble_eq_true rfl) rfl rfl ?_
    refine e_iload_n 14 30 rfl rfl rfl rfl ?_
    refine g_callV 15 33 (k1) okX4_countEntries cvX11_374 ⟨(Nat.le_of_ble_eq_true rfl), (Nat.le_of_ble_eq_true rfl)⟩ rfl rfl (Nat.le_of_ble_eq_true rfl) rfl rfl rfl rfl rfl (Nat.le_of_ble_eq_true rfl) (Nat.le_of_ble_eq_true rfl) (Nat.le_of_ble_eq_true rfl) ?_
    exact e_ireturn 16 rfl rfl (Nat.le_of_ble_eq_true rfl) (Nat.le_of_ble_eq_true rfl)
  · skip
    cases h2
theorem sp_printX {σ : xSig} (h01 : n01 σ 27) {n : Int} (hn : xr n) (hh : hasd σ n = false) : x_Sp MX11_print 1 6 [.ref 0, .int (ii n)] (St σ) tIOB (St σ) := by
  have hi := sp_has h01 hn
  rw [hh] at hi
  refine e_entry okX11_print (Nat.le_of_ble_eq_true rfl) (ls := [some _, some _]) rfl ?_
  refine e_aload_n 0 1 rfl rfl rfl rfl ?_
  refine g_getR 1 4 ckX11 flX11_19 rfl rfl (Nat.le_of_ble_eq_true rfl) rfl rfl ?_
  refine e_iload_n 2 5 rfl rfl rfl rfl ?_
  refine g_callV 3 8 (hi) okX8_has cvX11_151 ⟨(Nat.le_of_ble_eq_true rfl), (Nat.le_of_ble_eq_true rfl)⟩ rfl rfl (Nat.le_of_ble_eq_true rfl) rfl rfl rfl rfl rfl (Nat.le_of_ble_eq_true rfl) (Nat.le_of_ble_eq_true rfl) (Nat.le_of_ble_eq_true rfl) ?_
  refine e_ifb_ne 4 21 11 rfl rfl rfl (fun h2 => ?_) (fun h2 => ?_)
  · skip
    cases h2
  · skip
    exact e_throw 5 thX11_166_170 rfl rfl rfl rfl rfl stX11_168 (Nat.le_of_ble_eq_true rfl) (Nat.le_of_ble_eq_true rfl) (Nat.le_of_ble_eq_true rfl) (Nat.le_of_ble_eq_true rfl) (Nat.le_of_ble_eq_true rfl)
theorem sp_print1 {σ : xSig} {T : Nat → List Int} (hA : VAll σ T) (h01 : n01 σ 27) {n : Nat} (hh : hasd σ n = true) : x_Sp MX11_print 0 0 [.ref 0, .int (ii n)] (St σ) (.inl (some (.long (ll (psc (T (31 + 2 * n)) 0 7))))) (St σ) := by
  have hni := hasd_in hh
  have hi := sp_has h01 (n := n) (by unfold xr; omega)
  rw [hh] at hi
  have hat := sp_stAt h01 (n := n) (by unfold xr; omega)
  rw [da_has hh] at hat
  have hV := hA _ (vO_s n (by omega)).1
  have hpr := sp_printAt hV [] (T (31 + 2 * n)) rfl
  rw [show (([] : List Int).length : Int) = 0 from rfl] at hpr
  refine e_entry okX11_print (Nat.le_of_ble_eq_true rfl) (ls := [some _, some _]) rfl ?_
  refine e_aload_n 0 1 rfl rfl rfl rfl ?_
  refine g_getR 1 4 ckX11 flX11_19 rfl rfl (Nat.le_of_ble_eq_true rfl) rfl rfl ?_
  refine e_iload_n 2 5 rfl rfl rfl rfl ?_
  refine g_callV 3 8 (hi) okX8_has cvX11_151 ⟨(Nat.le_of_ble_eq_true rfl), (Nat.le_of_ble_eq_true rfl)⟩ rfl rfl (Nat.le_of_ble_eq_true rfl) rfl rfl rfl rfl rfl (Nat.le_of_ble_eq_true rfl) (Nat.le_of_ble_eq_true rfl) (Nat.le_of_ble_eq_true rfl) ?_
  refine e_ifb_ne 4 21 11 rfl rfl rfl (fun h2 => ?_) (fun h2 => ?_)
  · skip
    refine e_aload_n 10 22 rfl rfl rfl rfl ?_
    refine g_getR 11 25 ckX11 flX11_19 rfl rfl (Nat.le_of_ble_eq_true rfl) rfl rfl ?_
    refine e_iload_n 12 26 rfl rfl rfl rfl ?_
    refine g_callV 13 29 (hat) okX8_at cvX11_182 ⟨(Nat.le_of_ble_eq_true rfl), (Nat.le_of_ble_eq_true rfl)⟩ rfl rfl (Nat.le_of_ble_eq_true rfl) rfl rfl rfl rfl rfl (Nat.le_of_ble_eq_true rfl) (Nat.le_of_ble_eq_true rfl) (Nat.le_of_ble_eq_true rfl) ?_
    refine e_iconst 14 30 rfl rfl ?_
    refine g_callV 15 33 (hpr) okX10_printAt cvX11_370 ⟨(Nat.le_of_ble_eq_true rfl), (Nat.le_of_ble_eq_true rfl)⟩ rfl rfl hV.1.1 hV.1.2.2.1 rfl rfl rfl rfl (Nat.le_of_ble_eq_true rfl) (Nat.le_of_ble_eq_true rfl) (Nat.le_of_ble_eq_true rfl) ?_
    exact e_lreturn 16 rfl rfl (Nat.le_of_ble_eq_true rfl) (Nat.le_of_ble_eq_true rfl)
  · skip
    cases h2
theorem sp_expireX {σ : xSig} {f : Int} (hf : xr f) (hh : ¬ (-1 ≤ f ∧ f < 8)) : x_Sp MX11_expire 1 6 [.ref 0, .int (ii f)] (St σ) tIAE (St σ) := by
  have hi := sp_isField (σ := σ) hf
  rw [decide_eq_false (by omega : ¬ (0 ≤ f ∧ f < 8))] at hi
  refine e_entry okX11_expire (Nat.le_of_ble_eq_true rfl) (ls := [some _, some _, none]) rfl ?_
  refine e_iload_n 0 1 rfl rfl rfl rfl ?_
  refine e_iconst 1 2 rfl rfl ?_
  refine e_icmp_eq 2 22 5 rfl rfl rfl (by unfold xr at *; omega) (by unfold xr at *; omega) (fun h9 => absurd h9 (by omega)) (fun _ => ?_)
  refine e_iload_n 3 6 rfl rfl rfl rfl ?_
  refine g_callS 4 9 (hi) okX11_isField csX11_119 ⟨(Nat.le_of_ble_eq_true rfl), (Nat.le_of_ble_eq_true rfl)⟩ rfl rfl rfl rfl (Nat.le_of_ble_eq_true rfl) (Nat.le_of_ble_eq_true rfl) (Nat.le_of_ble_eq_true rfl) ?_
  refine e_ifb_ne 5 22 12 rfl rfl rfl (fun h2 => ?_) (fun h2 => ?_)
  · skip
    cases h2
  · skip
    exact e_throw 6 thX11_82_86 rfl rfl rfl rfl rfl stX11_122 (Nat.le_of_ble_eq_true rfl) (Nat.le_of_ble_eq_true rfl) (Nat.le_of_ble_eq_true rfl) (Nat.le_of_ble_eq_true rfl) (Nat.le_of_ble_eq_true rfl)
theorem sp_expire1 {σ : xSig} {f : Int} (hh : -1 ≤ f ∧ f < 8) : x_Sp MX11_expire 0 0 [.ref 0, .int (ii f)] (St σ) (iv (σ 0 8)) (St (xu σ 0 8 f)) := by
  have hi := sp_isField (σ := σ) (x := f) (by unfold xr; omega)
  have fin : x_E MX11_expire 0 0 22 [some (.ref 0), some (.int (ii f)), none] [] (St σ) 0 0 (iv (σ 0 8)) (St (xu σ 0 8 f)) := by
    refine e_aload_n 11 23 rfl rfl rfl rfl ?_
    refine g_getI 12 26 8 ckX11 flX11_65 rfl rfl (Nat.le_of_ble_eq_true rfl) rfl rfl rfl rfl ?_
    refine e_istore_n 13 27 (ls' := [some _, some _, some _]) rfl rfl rfl (Nat.le_of_ble_eq_true rfl) rfl ?_
    refine e_aload_n 14 28 rfl rfl rfl rfl ?_
    refine e_iload_n 15 29 rfl rfl rfl rfl ?_
    refine g_putI 16 32 8 ckX11 flX11_65 rfl rfl (Nat.le_of_ble_eq_true rfl) rfl rfl rfl ?_
    refine e_iload_n 17 33 rfl rfl rfl rfl ?_
    exact e_ireturn 18 rfl rfl (Nat.le_of_ble_eq_true rfl) (Nat.le_of_ble_eq_true rfl)
  refine e_entry okX11_expire (Nat.le_of_ble_eq_true rfl) (ls := [some _, some _, none]) rfl ?_
  refine e_iload_n 0 1 rfl rfl rfl rfl ?_
  refine e_iconst 1 2 rfl rfl ?_
  refine e_icmp_eq 2 22 5 rfl rfl rfl (by unfold xr at *; omega) (by unfold xr at *; omega) (fun h1 => ?_) (fun h1 => ?_)
  · skip
    exact fin
  · skip
    rw [decide_eq_true (by omega : 0 ≤ f ∧ f < 8)] at hi
    refine e_iload_n 3 6 rfl rfl rfl rfl ?_
    refine g_callS 4 9 (hi) okX11_isField csX11_119 ⟨(Nat.le_of_ble_eq_true rfl), (Nat.le_of_ble_eq_true rfl)⟩ rfl rfl rfl rfl (Nat.le_of_ble_eq_true rfl) (Nat.le_of_ble_eq_true rfl) (Nat.le_of_ble_eq_true rfl) ?_
    refine e_ifb_ne 5 22 12 rfl rfl rfl (fun h2 => ?_) (fun h2 => ?_)
    · skip
      exact fin
    · skip
      cases h2
