/-! ===== the face: insert ===== -/
theorem putd_o (σ : xSig) (n : Int) : FX [25, 27] σ (putd σ n) := by
  unfold putd
  split
  · exact FX.rf
  · exact (FX.rf.xu (by decide)).xu (by decide)
theorem sp_insertX {σ : xSig} {r n : Int} (hr : xr r) (hn : xr n) (hh : ¬ ((0 ≤ r ∧ r < 2) ∧ 0 ≤ n ∧ n < 100)) : x_Sp MX11_insert 1 6 [.ref 0, .int (ii r), .int (ii n)] (St σ) tIAE (St σ) := by
  have h := sp_isRouter (σ := σ) hr
  have fin : x_E MX11_insert 1 6 17 [some (.ref 0), some (.int (ii r)), some (.int (ii n)), none] [] (St σ) 0 0 tIAE (St σ) := by
    exact e_throw 8 thX11_82_86 rfl rfl rfl rfl rfl stX11_143 (Nat.le_of_ble_eq_true rfl) (Nat.le_of_ble_eq_true rfl) (Nat.le_of_ble_eq_true rfl) (Nat.le_of_ble_eq_true rfl) (Nat.le_of_ble_eq_true rfl)
  refine e_entry okX11_insert (Nat.le_of_ble_eq_true rfl) (ls := [some _, some _, some _, none]) rfl ?_
  refine e_iload_n 0 1 rfl rfl rfl rfl ?_
  refine g_callS 1 4 (h) okX11_isRouter csX11_140 ⟨(Nat.le_of_ble_eq_true rfl), (Nat.le_of_ble_eq_true rfl)⟩ rfl rfl rfl rfl (Nat.le_of_ble_eq_true rfl) (Nat.le_of_ble_eq_true rfl) (Nat.le_of_ble_eq_true rfl) ?_
  refine e_ifb_eq 2 17 7 rfl rfl rfl (fun h2 => ?_) (fun h2 => ?_)
  · skip
    exact fin
  · skip
    have h3 := of_decide_eq_true h2
    refine e_iload_n 3 8 rfl rfl rfl rfl ?_
    refine e_if_lt 4 17 11 rfl rfl rfl (by unfold xr at *; omega) (fun h4 => ?_) (fun h4 => ?_)
    · skip
      exact fin
    · skip
      refine e_iload_n 5 12 rfl rfl rfl rfl ?_
      refine e_bipush 6 14 rfl rfl rfl ?_
      refine e_icmp_lt 7 27 17 rfl rfl rfl (by unfold xr at *; omega) (by unfold xr at *; omega) (fun h9 => absurd h9 (by omega)) (fun _ => ?_)
      exact fin
theorem sp_insertX2 {σ : xSig} {T : Nat → List Int} (hA : VAll σ T) (hru : ∀ i : Int, 0 ≤ σ 28 i ∧ σ 28 i ≤ 4) (hp : 0 ≤ σ 1 2 ∧ σ 1 2 ≤ 10) {r n : Int} (hr : 0 ≤ r ∧ r < 2) (hn : 0 ≤ n ∧ n < 100) (hc : knd (tok (T (vtop σ)) 0) ≠ 4 ∨ krl σ (T (vtop σ)) = false) : x_Sp MX11_insert 1 6 [.ref 0, .int (ii r), .int (ii n)] (St σ) tISE (St σ) := by
  have h := sp_isRouter (σ := σ) (x := r) (by unfold xr; omega)
  rw [decide_eq_true hr] at h
  have hW : VH σ (vtop σ) (vCap (vtop σ)) (T (vtop σ)) := hA _ (pv_vO _)
  have hkk := sp_kindAt hW xr_0
  have hkb := knd_bnd (tok (T (vtop σ)) 0)
  have hkr := sp_keepsRules hW hru
  have fin : x_E MX11_insert 1 6 55 [some (.ref 0), some (.int (ii r)), some (.int (ii n)), some (.ref (vtop σ))] [] (St σ) 0 0 tISE (St σ) := by
    exact e_throw 27 thX11_101_105 rfl rfl rfl rfl rfl stX11_149 (Nat.le_of_ble_eq_true rfl) (Nat.le_of_ble_eq_true rfl) (Nat.le_of_ble_eq_true rfl) (Nat.le_of_ble_eq_true rfl) (Nat.le_of_ble_eq_true rfl)
  refine e_entry okX11_insert (Nat.le_of_ble_eq_true rfl) (ls := [some _, some _, some _, none]) rfl ?_
  refine e_iload_n 0 1 rfl rfl rfl rfl ?_
  refine g_callS 1 4 (h) okX11_isRouter csX11_140 ⟨(Nat.le_of_ble_eq_true rfl), (Nat.le_of_ble_eq_true rfl)⟩ rfl rfl rfl rfl (Nat.le_of_ble_eq_true rfl) (Nat.le_of_ble_eq_true rfl) (Nat.le_of_ble_eq_true rfl) ?_
  refine e_ifb_eq 2 17 7 rfl rfl rfl (fun h2 => ?_) (fun h2 => ?_)
  · skip
    cases h2
  · skip
    refine e_iload_n 3 8 rfl rfl rfl rfl ?_
    refine e_if_lt 4 17 11 rfl rfl rfl (by unfold xr at *; omega) (fun h9 => absurd h9 (by omega)) (fun _ => ?_)
    refine e_iload_n 5 12 rfl rfl rfl rfl ?_
    refine e_bipush 6 14 rfl rfl rfl ?_
    refine e_icmp_lt 7 27 17 rfl rfl rfl (by unfold xr at *; omega) (by unfold xr at *; omega) (fun _ => ?_) (fun h9 => absurd h9 (by omega))
    refine e_aload_n 13 28 rfl rfl rfl rfl ?_
    refine g_getR 14 31 ckX11 flX11_12 rfl rfl (Nat.le_of_ble_eq_true rfl) rfl rfl ?_
    refine g_callV 15 34 (sp_pTop hp) okX5_top cvX11_95 ⟨(Nat.le_of_ble_eq_true rfl), (Nat.le_of_ble_eq_true rfl)⟩ rfl rfl (Nat.le_of_ble_eq_true rfl) rfl rfl rfl rfl rfl (Nat.le_of_ble_eq_true rfl) (Nat.le_of_ble_eq_true rfl) (Nat.le_of_ble_eq_true rfl) ?_
    refine e_astore_n 16 35 (ls' := [some _, some _, some _, some _]) rfl rfl rfl (Nat.le_of_ble_eq_true rfl) rfl ?_
    refine e_aload_n 17 36 rfl rfl rfl rfl ?_
    refine e_iconst 18 37 rfl rfl ?_
    refine g_callV 19 40 (hkk) okX10_kindAt cvX11_98 ⟨(Nat.le_of_ble_eq_true rfl), (Nat.le_of_ble_eq_true rfl)⟩ rfl rfl hW.1.1 hW.1.2.2.1 rfl rfl rfl rfl (Nat.le_of_ble_eq_true rfl) (Nat.le_of_ble_eq_true rfl) (Nat.le_of_ble_eq_true rfl) ?_
    refine e_iconst 20 41 rfl rfl ?_
    refine e_icmp_ne 21 55 44 rfl rfl rfl (by unfold xr at *; omega) (by unfold xr at *; omega) (fun h3 => ?_) (fun h3 => ?_)
    · skip
      exact fin
    · skip
      rw [hc.resolve_left (fun q => q h3)] at hkr
      refine e_aload_n 22 45 rfl rfl rfl rfl ?_
      refine g_getR 23 48 ckX11 flX11_19 rfl rfl (Nat.le_of_ble_eq_true rfl) rfl rfl ?_
      refine e_aload_n 24 49 rfl rfl rfl rfl ?_
      refine g_callV 25 52 (hkr) okX8_keepsRules cvX11_145 ⟨(Nat.le_of_ble_eq_true rfl), (Nat.le_of_ble_eq_true rfl)⟩ rfl rfl (Nat.le_of_ble_eq_true rfl) rfl rfl rfl rfl rfl (Nat.le_of_ble_eq_true rfl) (Nat.le_of_ble_eq_true rfl) (Nat.le_of_ble_eq_true rfl) ?_
      refine e_ifb_ne 26 65 55 rfl rfl rfl (fun h4 => ?_) (fun h4 => ?_)
      · skip
        cases h4
      · skip
        exact fin
theorem sp_insertX3 {σ : xSig} {T : Nat → List Int} (hA : VAll σ T) (h01 : n01 σ 27) (hru : ∀ i : Int, 0 ≤ σ 28 i ∧ σ 28 i ≤ 4) (hp : 0 ≤ σ 1 2 ∧ σ 1 2 ≤ 10) {r n : Int} (hr : 0 ≤ r ∧ r < 2) (hn : 0 ≤ n ∧ n < 100) (hk : knd (tok (T (vtop σ)) 0) = 4) (hl : krl σ (T (vtop σ)) = true) (hsz : 0 ≤ σ 25 4 ∧ σ 25 4 ≤ 100) (hc : hasd σ n = true ∨ 60 ≤ σ 25 4) : x_Sp MX11_insert 1 6 [.ref 0, .int (ii r), .int (ii n)] (St σ) tISE (St σ) := by
  have h := sp_isRouter (σ := σ) (x := r) (by unfold xr; omega)
  rw [decide_eq_true hr] at h
  have hW : VH σ (vtop σ) (vCap (vtop σ)) (T (vtop σ)) := hA _ (pv_vO _)
  have hkk := sp_kindAt hW xr_0
  have hkr := sp_keepsRules hW hru
  rw [hk] at hkk
  rw [hl] at hkr
  have fin : x_E MX11_insert 1 6 88 [some (.ref 0), some (.int (ii r)), some (.int (ii n)), some (.ref (vtop σ))] [] (St σ) 0 0 tISE (St σ) := by
    exact e_throw 42 thX11_101_105 rfl rfl rfl rfl rfl stX11_157 (Nat.le_of_ble_eq_true rfl) (Nat.le_of_ble_eq_true rfl) (Nat.le_of_ble_eq_true rfl) (Nat.le_of_ble_eq_true rfl) (Nat.le_of_ble_eq_true rfl)
  refine e_entry okX11_insert (Nat.le_of_ble_eq_true rfl) (ls := [some _, some _, some _, none]) rfl ?_
  refine e_iload_n 0 1 rfl rfl rfl rfl ?_
  refine g_callS 1 4 (h) okX11_isRouter csX11_140 ⟨(Nat.le_of_ble_eq_true rfl), (Nat.le_of_ble_eq_true rfl)⟩ rfl rfl rfl rfl (Nat.le_of_ble_eq_true rfl) (Nat.le_of_ble_eq_true rfl) (Nat.le_of_ble_eq_true rfl) ?_
  refine e_ifb_eq 2 17 7 rfl rfl rfl (fun h2 => ?_) (fun h2 => ?_)
  · skip
    cases h2
  · skip
    refine e_iload_n 3 8 rfl rfl rfl rfl ?_
    refine e_if_lt 4 17 11 rfl rfl rfl (by unfold xr at *; omega) (fun h9 => absurd h9 (by omega)) (fun _ => ?_)
    refine e_iload_n 5 12 rfl rfl rfl rfl ?_
    refine e_bipush 6 14 rfl rfl rfl ?_
    refine e_icmp_lt 7 27 17 rfl rfl rfl (by unfold xr at *; omega) (by unfold xr at *; omega) (fun _ => ?_) (fun h9 => absurd h9 (by omega))
    refine e_aload_n 13 28 rfl rfl rfl rfl ?_
    refine g_getR 14 31 ckX11 flX11_12 rfl rfl (Nat.le_of_ble_eq_true rfl) rfl rfl ?_
    refine g_callV 15 34 (sp_pTop hp) okX5_top cvX11_95 ⟨(Nat.le_of_ble_eq_true rfl), (Nat.le_of_ble_eq_true rfl)⟩ rfl rfl (Nat.le_of_ble_eq_true rfl) rfl rfl rfl rfl rfl (Nat.le_of_ble_eq_true rfl) (Nat.le_of_ble_eq_true rfl) (Nat.le_of_ble_eq_true rfl) ?_
    refine e_astore_n 16 35 (ls' := [some _, some _, some _, some _]) rfl rfl rfl (Nat.le_of_ble_eq_true rfl) rfl ?_
    refine e_aload_n 17 36 rfl rfl rfl rfl ?_
    refine e_iconst 18 37 rfl rfl ?_
    refine g_callV 19 40 (hkk) okX10_kindAt cvX11_98 ⟨(Nat.le_of_ble_eq_true rfl), (Nat.le_of_ble_eq_true rfl)⟩ rfl rfl hW.1.1 hW.1.2.2.1 rfl rfl rfl rfl (Nat.le_of_ble_eq_true rfl) (Nat.le_of_ble_eq_true rfl) (Nat.le_of_ble_eq_true rfl) ?_
    refine e_iconst 20 41 rfl rfl ?_
    refine e_icmp_ne 21 55 44 rfl rfl rfl (by unfold xr at *; omega) (by unfold xr at *; omega) (fun h9 => absurd h9 (fun q => q rfl)) (fun _ => ?_)
    refine e_aload_n 22 45 rfl rfl rfl rfl ?_
    refine g_getR 23 48 ckX11 flX11_19 rfl rfl (Nat.le_of_ble_eq_true rfl) rfl rfl ?_
    refine e_aload_n 24 49 rfl rfl rfl rfl ?_
    refine g_callV 25 52 (hkr) okX8_keepsRules cvX11_145 ⟨(Nat.le_of_ble_eq_true rfl), (Nat.le_of_ble_eq_true rfl)⟩ rfl rfl (Nat.le_of_ble_eq_true rfl) rfl rfl rfl rfl rfl (Nat.le_of_ble_eq_true rfl) (Nat.le_of_ble_eq_true rfl) (Nat.le_of_ble_eq_true rfl) ?_
    refine e_ifb_ne 26 65 55 rfl rfl rfl (fun h4 => ?_) (fun h4 => ?_)
    · skip
      refine e_aload_n 32 66 rfl rfl rfl rfl ?_
      refine g_getR 33 69 ckX11 flX11_19 rfl rfl (Nat.le_of_ble_eq_true rfl) rfl rfl ?_
      refine e_iload_n 34 70 rfl rfl rfl rfl ?_
      refine g_callV 35 73 (sp_has h01 (n := n) (by unfold xr; omega)) okX8_has cvX11_151 ⟨(Nat.le_of_ble_eq_true rfl), (Nat.le_of_ble_eq_true rfl)⟩ rfl rfl (Nat.le_of_ble_eq_true rfl) rfl rfl rfl rfl rfl (Nat.le_of_ble_eq_true rfl) (Nat.le_of_ble_eq_true rfl) (Nat.le_of_ble_eq_true rfl) ?_
      refine e_ifb_ne 36 88 76 rfl rfl rfl (fun h5 => ?_) (fun h5 => ?_)
      · skip
        exact fin
      · skip
        rw [h5] at hc
        have h60 := hc.resolve_left (by decide)
        refine e_aload_n 37 77 rfl rfl rfl rfl ?_
        refine g_getR 38 80 ckX11 flX11_19 rfl rfl (Nat.le_of_ble_eq_true rfl) rfl rfl ?_
        refine g_callV 39 83 (sp_stSize) okX8_size cvX11_154 ⟨(Nat.le_of_ble_eq_true rfl), (Nat.le_of_ble_eq_true rfl)⟩ rfl rfl (Nat.le_of_ble_eq_true rfl) rfl rfl rfl rfl rfl (Nat.le_of_ble_eq_true rfl) (Nat.le_of_ble_eq_true rfl) (Nat.le_of_ble_eq_true rfl) ?_
        refine e_bipush 40 85 rfl rfl rfl ?_
        refine e_icmp_lt 41 98 88 rfl rfl rfl (by unfold xr at *; omega) (by unfold xr at *; omega) (fun h9 => absurd h9 (by omega)) (fun _ => ?_)
        exact fin
    · skip
      cases h4
theorem sp_insert1 {σ : xSig} {T : Nat → List Int} (hA : VAll σ T) (h01 : n01 σ 27) (h : CHR σ) (hru : ∀ i : Int, 0 ≤ σ 28 i ∧ σ 28 i ≤ 4) (hp : 0 < σ 1 2 ∧ σ 1 2 ≤ 10) {r : Int} {n : Nat} (hr : 0 ≤ r ∧ r < 2) (hn : n < 100) (hk : knd (tok (T (vtop σ)) 0) = 4) (hl : krl σ (T (vtop σ)) = true) (hsz : 0 ≤ σ 25 4 ∧ σ 25 4 < 60) (hd : hasd σ n = false) (hv : xr (σ 231 8)) (hvr : xr (σ 236 r)) (hc : 0 ≤ σ 239 3 ∧ σ 239 3 < 1024) (hlen : (T (vtop σ)).length ≤ 72) :
    ∃ σ' : xSig, x_Sp MX11_insert 0 0 [.ref 0, .int (ii r), .int (ii n)] (St σ) (iv (shd σ (T (vtop σ)))) (St (tld (xu σ' 1 2 (σ 1 2 - 1)) (T (vtop σ)) 0 n r)) ∧ VAll σ' (uT T (31 + 2 * n) (T (vtop σ))) ∧ NV [] (putd σ n) σ' := by
  have hi := sp_isRouter (σ := σ) (x := r) (by unfold xr; omega)
  rw [decide_eq_true hr] at hi
  have hvt : vO (vtop σ) = true := pv_vO _
  have hW : VH σ (vtop σ) (vCap (vtop σ)) (T (vtop σ)) := hA _ hvt
  have hkk := sp_kindAt hW xr_0
  have hkr := sp_keepsRules hW hru
  rw [hk] at hkk
  rw [hl] at hkr
  have hhas := sp_has h01 (n := n) (by unfold xr; omega)
  rw [hd] at hhas
  have hvn : vtop σ ≠ 31 + 2 * n := by
    have : vtop σ = 5 + 2 * (σ 1 2 - 1).toNat := pv_in (by omega) (by omega)
    omega
  obtain ⟨σ', k1, k2, k3⟩ := sp_stPut hA h01 hn hvt hvn hlen
  have o := putd_o σ n
  have hb : ∀ b : Nat, vA b = false → b ∉ [25, 27] → σ' b = σ b := fun b q1 q2 => (k3 b q1 (by simp)).trans (o b q2)
  have e1 : σ' 1 2 = σ 1 2 := by rw [hb 1 (by decide +kernel) (by decide)]
  have htt := sp_takeTop (σ := σ') (by omega)
  rw [e1] at htt
  have hb2 : ∀ b : Nat, vA b = false → b ∉ [1, 25, 27] → xu σ' 1 2 (σ 1 2 - 1) b = σ b := fun b q1 q2 => by
    rw [xu_other _ _ _ (fun e => q2 (by rw [e]; decide))]
    exact hb b q1 (fun e => q2 (by simp only [List.mem_cons, List.not_mem_nil, or_false] at e ⊢; omega))
  have h27 : xu σ' 1 2 (σ 1 2 - 1) 27 = putd σ n 27 := by rw [xu_other _ _ _ (by decide), k3 27 (by decide +kernel) (by simp)]
  have ep : putd σ n = xu (xu σ 27 n 1) 25 4 (σ 25 4 + 1) := by unfold putd; rw [if_neg (by rw [hd]; decide)]
  have h01' : n01 (xu σ' 1 2 (σ 1 2 - 1)) 27 := by
    intro i
    rw [h27, ep, xu_other _ _ _ (by decide)]
    exact n01_xu h01 n 1 (Or.inr rfl) i
  have hd' : hasd (xu σ' 1 2 (σ 1 2 - 1)) n = true := by
    unfold hasd
    refine decide_eq_true ⟨by omega, by omega, ?_⟩
    rw [h27, ep, xu_other _ _ _ (by decide), xu_same]
  have hC' : CHR (xu σ' 1 2 (σ 1 2 - 1)) := h.fx (hb2 231 (by decide +kernel) (by decide)) (hb2 232 (by decide +kernel) (by decide)) (hb2 233 (by decide +kernel) (by decide)) (hb2 235 (by decide +kernel) (by decide))
  have htc := sp_tellChange (k2.xu 2 (σ 1 2 - 1) (by decide +kernel)) h01' hC' hd' hr (w := 0) (by rw [hb2 231 (by decide +kernel) (by decide)]; exact hv) (by rw [hb2 236 (by decide +kernel) (by decide)]; exact hvr) (by rw [hb2 239 (by decide +kernel) (by decide)]; exact hc)
  rw [uT_same, (chk_congr (σ := σ) (σ' := xu σ' 1 2 (σ 1 2 - 1)) ⟨hb2 231 (by decide +kernel) (by decide), hb2 232 (by decide +kernel) (by decide), hb2 233 (by decide +kernel) (by decide)⟩ (T (vtop σ))).2.1] at htc
  refine ⟨σ', ?_, k2, k3⟩
  refine e_entry okX11_insert (Nat.le_of_ble_eq_true rfl) (ls := [some _, some _, some _, none]) rfl ?_
  refine e_iload_n 0 1 rfl rfl rfl rfl ?_
  refine g_callS 1 4 (hi) okX11_isRouter csX11_140 ⟨(Nat.le_of_ble_eq_true rfl), (Nat.le_of_ble_eq_true rfl)⟩ rfl rfl rfl rfl (Nat.le_of_ble_eq_true rfl) (Nat.le_of_ble_eq_true rfl) (Nat.le_of_ble_eq_true rfl) ?_
  refine e_ifb_eq 2 17 7 rfl rfl rfl (fun h2 => ?_) (fun h2 => ?_)
  · skip
    cases h2
  · skip
    refine e_iload_n 3 8 rfl rfl rfl rfl ?_
    refine e_if_lt 4 17 11 rfl rfl rfl (by unfold xr at *; omega) (fun h9 => absurd h9 (by omega)) (fun _ => ?_)
    refine e_iload_n 5 12 rfl rfl rfl rfl ?_
    refine e_bipush 6 14 rfl rfl rfl ?_
    refine e_icmp_lt 7 27 17 rfl rfl rfl (by unfold xr at *; omega) (by unfold xr at *; omega) (fun _ => ?_) (fun h9 => absurd h9 (by omega))
    refine e_aload_n 13 28 rfl rfl rfl rfl ?_
    refine g_getR 14 31 ckX11 flX11_12 rfl rfl (Nat.le_of_ble_eq_true rfl) rfl rfl ?_
    refine g_callV 15 34 (sp_pTop (by omega)) okX5_top cvX11_95 ⟨(Nat.le_of_ble_eq_true rfl), (Nat.le_of_ble_eq_true rfl)⟩ rfl rfl (Nat.le_of_ble_eq_true rfl) rfl rfl rfl rfl rfl (Nat.le_of_ble_eq_true rfl) (Nat.le_of_ble_eq_true rfl) (Nat.le_of_ble_eq_true rfl) ?_
    refine e_astore_n 16 35 (ls' := [some _, some _, some _, some _]) rfl rfl rfl (Nat.le_of_ble_eq_true rfl) rfl ?_
    refine e_aload_n 17 36 rfl rfl rfl rfl ?_
    refine e_iconst 18 37 rfl rfl ?_
    refine g_callV 19 40 (hkk) okX10_kindAt cvX11_98 ⟨(Nat.le_of_ble_eq_true rfl), (Nat.le_of_ble_eq_true rfl)⟩ rfl rfl hW.1.1 hW.1.2.2.1 rfl rfl rfl rfl (Nat.le_of_ble_eq_true rfl) (Nat.le_of_ble_eq_true rfl) (Nat.le_of_ble_eq_true rfl) ?_
    refine e_iconst 20 41 rfl rfl ?_
    refine e_icmp_ne 21 55 44 rfl rfl rfl (by unfold xr at *; omega) (by unfold xr at *; omega) (fun h9 => absurd h9 (fun q => q rfl)) (fun _ => ?_)
    refine e_aload_n 22 45 rfl rfl rfl rfl ?_
    refine g_getR 23 48 ckX11 flX11_19 rfl rfl (Nat.le_of_ble_eq_true rfl) rfl rfl ?_
    refine e_aload_n 24 49 rfl rfl rfl rfl ?_
    refine g_callV 25 52 (hkr) okX8_keepsRules cvX11_145 ⟨(Nat.le_of_ble_eq_true rfl), (Nat.le_of_ble_eq_true rfl)⟩ rfl rfl (Nat.le_of_ble_eq_true rfl) rfl rfl rfl rfl rfl (Nat.le_of_ble_eq_true rfl) (Nat.le_of_ble_eq_true rfl) (Nat.le_of_ble_eq_true rfl) ?_
    refine e_ifb_ne 26 65 55 rfl rfl rfl (fun h4 => ?_) (fun h4 => ?_)
    · skip
      refine e_aload_n 32 66 rfl rfl rfl rfl ?_
      refine g_getR 33 69 ckX11 flX11_19 rfl rfl (Nat.le_of_ble_eq_true rfl) rfl rfl ?_
      refine e_iload_n 34 70 rfl rfl rfl rfl ?_
      refine g_callV 35 73 (hhas) okX8_has cvX11_151 ⟨(Nat.le_of_ble_eq_true rfl), (Nat.le_of_ble_eq_true rfl)⟩ rfl rfl (Nat.le_of_ble_eq_true rfl) rfl rfl rfl rfl rfl (Nat.le_of_ble_eq_true rfl) (Nat.le_of_ble_eq_true rfl) (Nat.le_of_ble_eq_true rfl) ?_
      refine e_ifb_ne 36 88 76 rfl rfl rfl (fun h5 => ?_) (fun h5 => ?_)
      · skip
        cases h5
      · skip
        refine e_aload_n 37 77 rfl rfl rfl rfl ?_
        refine g_getR 38 80 ckX11 flX11_19 rfl rfl (Nat.le_of_ble_eq_true rfl) rfl rfl ?_
        refine g_callV 39 83 (sp_stSize) okX8_size cvX11_154 ⟨(Nat.le_of_ble_eq_true rfl), (Nat.le_of_ble_eq_true rfl)⟩ rfl rfl (Nat.le_of_ble_eq_true rfl) rfl rfl rfl rfl rfl (Nat.le_of_ble_eq_true rfl) (Nat.le_of_ble_eq_true rfl) (Nat.le_of_ble_eq_true rfl) ?_
        refine e_bipush 40 85 rfl rfl rfl ?_
        refine e_icmp_lt 41 98 88 rfl rfl rfl (by unfold xr at *; omega) (by unfold xr at *; omega) (fun _ => ?_) (fun h9 => absurd h9 (by omega))
        refine e_aload_n 47 99 rfl rfl rfl rfl ?_
        refine g_getR 48 102 ckX11 flX11_19 rfl rfl (Nat.le_of_ble_eq_true rfl) rfl rfl ?_
        refine e_iload_n 49 103 rfl rfl rfl rfl ?_
        refine e_aload_n 50 104 rfl rfl rfl rfl ?_
        refine g_callV 51 107 (k1) okX8_put cvX11_159 ⟨(Nat.le_of_ble_eq_true rfl), (Nat.le_of_ble_eq_true rfl)⟩ rfl rfl (Nat.le_of_ble_eq_true rfl) rfl rfl rfl rfl rfl (Nat.le_of_ble_eq_true rfl) (Nat.le_of_ble_eq_true rfl) (Nat.le_of_ble_eq_true rfl) ?_
        refine e_aload_n 52 108 rfl rfl rfl rfl ?_
        refine g_getR 53 111 ckX11 flX11_12 rfl rfl (Nat.le_of_ble_eq_true rfl) rfl rfl ?_
        refine g_callV 54 114 (htt) okX5_takeTop cvX11_116 ⟨(Nat.le_of_ble_eq_true rfl), (Nat.le_of_ble_eq_true rfl)⟩ rfl rfl (Nat.le_of_ble_eq_true rfl) rfl rfl rfl rfl rfl (Nat.le_of_ble_eq_true rfl) (Nat.le_of_ble_eq_true rfl) (Nat.le_of_ble_eq_true rfl) ?_
        refine e_pop 55 115 rfl rfl rfl ?_
        refine e_aload_n 56 116 rfl rfl rfl rfl ?_
        refine e_iconst 57 117 rfl rfl ?_
        refine e_iload_n 58 118 rfl rfl rfl rfl ?_
        refine e_iload_n 59 119 rfl rfl rfl rfl ?_
        refine g_callV 60 122 (htc) okX11_tellChange cvX11_162 ⟨(Nat.le_of_ble_eq_true rfl), (Nat.le_of_ble_eq_true rfl)⟩ rfl rfl (Nat.le_of_ble_eq_true rfl) rfl rfl rfl rfl rfl (Nat.le_of_ble_eq_true rfl) (Nat.le_of_ble_eq_true rfl) (Nat.le_of_ble_eq_true rfl) ?_
        exact e_ireturn 61 rfl rfl (Nat.le_of_ble_eq_true rfl) (Nat.le_of_ble_eq_true rfl)
    · skip
      cases h4
