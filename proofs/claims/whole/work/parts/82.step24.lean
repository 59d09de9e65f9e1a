/-! ===== steps: filter ===== -/
theorem sp_mFilterAt {σ : xSig} {x : Int} : Rd MX12_filterAt [.ref 281, .int (ii x)] σ (iv (100 * (110 + x) + 1)) := by
  refine e_entry okX12_filterAt (Nat.le_of_ble_eq_true rfl) (ls := [some _, some _]) rfl ?_
  refine e_bipush 0 2 rfl rfl rfl ?_
  refine e_iload_n 1 3 rfl rfl rfl rfl ?_
  refine e_iadd 2 4 rfl rfl ?_
  refine g_callS 3 7 (sp_mBlock (x := 110 + x)) okX12_block csX12_142 ⟨(Nat.le_of_ble_eq_true rfl), (Nat.le_of_ble_eq_true rfl)⟩ rfl rfl rfl rfl (Nat.le_of_ble_eq_true rfl) (Nat.le_of_ble_eq_true rfl) (Nat.le_of_ble_eq_true rfl) ?_
  exact e_ireturn 4 rfl rfl (Nat.le_of_ble_eq_true rfl) (Nat.le_of_ble_eq_true rfl)
theorem st_filter {i : Nat} {σ : xSig} (h : INV i σ) {x y : Int} (hx0 : xr x) (hy0 : xr y) : STEP i MX11_filter MX12_filter iv [nIAE, nISE] [.int (ii x), .int (ii y)] σ := by
  have hM := h
  obtain ⟨T, G, hA, hM⟩ := hM
  have h3 : 0 ≤ σ 1 2 ∧ σ 1 2 ≤ 10 := hM.1 3
  have e5 : σ 281 3 = σ 1 2 := hM.2 5
  have h4 : 0 ≤ σ 256 4 ∧ σ 256 4 ≤ 3 := (hM.1 9).2.2
  have e14 : σ 281 14 = σ 256 4 := (hM.2 8).1
  have px := fun s => sp_mIn (σ := s) (x := x) (y := 0) (z := 71) hx0 (by unfold xr; omega) (by unfold xr; omega)
  have py := fun s => sp_mIn (σ := s) (x := y) (y := 0) (z := 4) hy0 (by unfold xr; omega) (by unfold xr; omega)
  have refu : ∀ (s : xSig) (a b : Bool), (a && (b && true)) = false → x_E MX12_filter 0 0 65 [some (.ref 281), some (.int (ii x)), some (.int (ii y)), some (.int (ii (bi a))), some (.int (ii (bi b)))] [] (St s) 0 0 (iv 0) (St (xu s 281 47 (gcode a b true))) := by
    intro s a b hz
    refine e_aload_n 35 66 rfl rfl rfl rfl ?_
    refine e_iload_n 36 67 rfl rfl rfl rfl ?_
    refine e_iload 37 69 rfl rfl rfl ?_
    refine e_iconst 38 70 rfl rfl ?_
    refine g_callV 39 73 (sp_mGoes (a := a) (b := b) (c := true)) okX12_goes cvX12_167 ⟨(Nat.le_of_ble_eq_true rfl), (Nat.le_of_ble_eq_true rfl)⟩ rfl rfl (Nat.le_of_ble_eq_true rfl) rfl rfl rfl rfl rfl (Nat.le_of_ble_eq_true rfl) (Nat.le_of_ble_eq_true rfl) (Nat.le_of_ble_eq_true rfl) ?_
    refine e_ifb_ne 40 78 76 rfl rfl rfl (fun hb => ?_) (fun hb => ?_)
    · skip
      exfalso
      rw [hz] at hb
      cases hb
    · skip
      refine e_iconst 41 77 rfl rfl ?_
      exact e_ireturn 42 rfl rfl (Nat.le_of_ble_eq_true rfl) (Nat.le_of_ble_eq_true rfl)
  have pre25 : ∀ (s : xSig) (a : Bool), a = decide ((0 ≤ x ∧ x ≤ 71) ∧ 0 ≤ y ∧ y ≤ 4) → ∀ {o : xO} {Y : xS}, x_E MX12_filter 0 0 25 [some (.ref 281), some (.int (ii x)), some (.int (ii y)), some (.int (ii (bi a))), none] [] (St s) 0 0 o Y → x_Sp MX12_filter 0 0 [.ref 281, .int (ii x), .int (ii y)] (St s) o Y := by
    intro s a ha o Y kk
    refine e_entry okX12_filter (Nat.le_of_ble_eq_true rfl) (ls := [some _, some _, some _, none, none]) rfl ?_
    refine e_iload_n 0 1 rfl rfl rfl rfl ?_
    refine e_iconst 1 2 rfl rfl ?_
    refine e_bipush 2 4 rfl rfl rfl ?_
    refine g_callS 3 7 (px s) okX12_in csX12_175 ⟨(Nat.le_of_ble_eq_true rfl), (Nat.le_of_ble_eq_true rfl)⟩ rfl rfl rfl rfl (Nat.le_of_ble_eq_true rfl) (Nat.le_of_ble_eq_true rfl) (Nat.le_of_ble_eq_true rfl) ?_
    refine e_ifb_eq 4 23 10 rfl rfl rfl (fun q1 => ?_) (fun q1 => ?_)
    · skip
      have q1' := of_decide_eq_false q1
      rw [ha, decF (fun q => q1' q.1)] at kk
      refine e_iconst 12 24 rfl rfl ?_
      refine e_istore_n 13 25 (ls' := [some _, some _, some _, some _, none]) rfl rfl rfl (Nat.le_of_ble_eq_true rfl) rfl ?_
      exact kk
    · skip
      have q1' := of_decide_eq_true q1
      refine e_iload_n 5 11 rfl rfl rfl rfl ?_
      refine e_iconst 6 12 rfl rfl ?_
      refine e_iconst 7 13 rfl rfl ?_
      refine g_callS 8 16 (py s) okX12_in csX12_175 ⟨(Nat.le_of_ble_eq_true rfl), (Nat.le_of_ble_eq_true rfl)⟩ rfl rfl rfl rfl (Nat.le_of_ble_eq_true rfl) (Nat.le_of_ble_eq_true rfl) (Nat.le_of_ble_eq_true rfl) ?_
      refine e_ifb_eq 9 23 19 rfl rfl rfl (fun q2 => ?_) (fun q2 => ?_)
      · skip
        have q2' := of_decide_eq_false q2
        rw [ha, decF (fun q => q2' q.2)] at kk
        refine e_iconst 12 24 rfl rfl ?_
        refine e_istore_n 13 25 (ls' := [some _, some _, some _, some _, none]) rfl rfl rfl (Nat.le_of_ble_eq_true rfl) rfl ?_
        exact kk
      · skip
        have q2' := of_decide_eq_true q2
        rw [ha, decT ⟨q1', q2'⟩] at kk
        refine e_iconst 10 20 rfl rfl ?_
        refine e_goto 11 24 rfl rfl ?_
        refine e_istore_n 13 25 (ls' := [some _, some _, some _, some _, none]) rfl rfl rfl (Nat.le_of_ble_eq_true rfl) rfl ?_
        exact kk
  -- past the pile and the filters
  have from25 : ∀ (s : xSig) (a : Bool) (u : Int), s 281 3 = σ 1 2 → s 281 14 = σ 256 4 → 0 < σ 1 2 → σ 256 4 < 3 → 0 ≤ u ∧ u ≤ 4 → s 282 (100 * (100 + (σ 1 2 - 1)) + 1) = u → ∀ {o : xO} {Y : xS}, x_E MX12_filter 0 0 65 [some (.ref 281), some (.int (ii x)), some (.int (ii y)), some (.int (ii (bi a))), some (.int (ii (bi (decide (y = 4 → u = 1)))))] [] (St s) 0 0 o Y → x_E MX12_filter 0 0 25 [some (.ref 281), some (.int (ii x)), some (.int (ii y)), some (.int (ii (bi a))), none] [] (St s) 0 0 o Y := by
    intro s a u a3 a14 hp hf hu hu2 o Y kk
    have qt : Rd MX12_top [.ref 281] s (iv (100 * (100 + (σ 1 2 - 1)) + 1)) := by
      have := sp_mTop (σ := s)
      rw [a3] at this
      exact this
    have hux : xr u := by unfold xr; omega
    refine e_aload_n 14 26 rfl rfl rfl rfl ?_
    refine g_getI 15 29 3 ckX12 flX12_146 rfl rfl (Nat.le_of_ble_eq_true rfl) rfl rfl rfl a3 ?_
    refine e_if_le 16 62 32 rfl rfl rfl (by unfold xr at *; omega) (fun h9 => absurd h9 (by omega)) (fun _ => ?_)
    refine e_aload_n 17 33 rfl rfl rfl rfl ?_
    refine g_getI 18 36 14 ckX12 flX12_279 rfl rfl (Nat.le_of_ble_eq_true rfl) rfl rfl rfl a14 ?_
    refine e_iconst 19 37 rfl rfl ?_
    refine e_icmp_ge 20 62 40 rfl rfl rfl (by unfold xr at *; omega) (by unfold xr at *; omega) (fun h9 => absurd h9 (by omega)) (fun _ => ?_)
    refine e_iload_n 21 41 rfl rfl rfl rfl ?_
    refine e_iconst 22 42 rfl rfl ?_
    refine e_icmp_ne 23 58 45 rfl rfl rfl hy0 (by unfold xr at *; omega) (fun hy => ?_) (fun hy => ?_)
    · skip
      rw [decT (fun q => absurd q hy)] at kk
      refine e_iconst 31 59 rfl rfl ?_
      refine e_goto 32 63 rfl rfl ?_
      refine e_istore 34 65 (ls' := [some _, some _, some _, some _, some _]) rfl rfl (Nat.le_of_ble_eq_true rfl) rfl ?_
      exact kk
    · skip
      refine e_aload_n 24 46 rfl rfl rfl rfl ?_
      refine g_getR 25 49 ckX12 flX12_7 rfl rfl (Nat.le_of_ble_eq_true rfl) rfl rfl ?_
      refine e_aload_n 26 50 rfl rfl rfl rfl ?_
      refine g_callV 27 53 (qt) okX12_top cvX12_182 ⟨(Nat.le_of_ble_eq_true rfl), (Nat.le_of_ble_eq_true rfl)⟩ rfl rfl (Nat.le_of_ble_eq_true rfl) rfl rfl rfl rfl rfl (Nat.le_of_ble_eq_true rfl) (Nat.le_of_ble_eq_true rfl) (Nat.le_of_ble_eq_true rfl) ?_
      refine g_iaload 28 54 rfl rfl (Nat.le_of_ble_eq_true rfl) rfl (by omega) (by omega) (by omega) hu2 ?_
      refine e_iconst 29 55 rfl rfl ?_
      refine e_icmp_ne 30 62 58 rfl rfl rfl hux (by unfold xr at *; omega) (fun hu1 => ?_) (fun hu1 => ?_)
      · skip
        rw [decF (fun q => hu1 (q (by omega)))] at kk
        refine e_iconst 33 63 rfl rfl ?_
        refine e_istore 34 65 (ls' := [some _, some _, some _, some _, some _]) rfl rfl (Nat.le_of_ble_eq_true rfl) rfl ?_
        exact kk
      · skip
        rw [decT (fun _ => (by omega : u = 1))] at kk
        refine e_iconst 31 59 rfl rfl ?_
        refine e_goto 32 63 rfl rfl ?_
        refine e_istore 34 65 (ls' := [some _, some _, some _, some _, some _]) rfl rfl (Nat.le_of_ble_eq_true rfl) rfl ?_
        exact kk
  by_cases hfit : (0 ≤ x ∧ x < 72) ∧ 0 ≤ y ∧ y ≤ 4
  case neg =>
    have hm : ∃ b, x_Sp MX12_filter 0 0 [.ref 281, .int (ii x), .int (ii y)] (St σ) (iv 0) (St (xu σ 281 47 (gcode false b true))) := by
      by_cases hp : 0 < σ 1 2 ∧ σ 256 4 < 3
      · obtain ⟨k, hk⟩ := Int.eq_ofNat_of_zero_le (show 0 ≤ σ 1 2 - 1 by omega)
        obtain ⟨t1, w1⟩ := hM.pile (k := k) (by omega)
        have hb1 := mv_fld w1.1
        have hkb := knd_bnd (tok (tk (G (5 + 2 * k))) 0)
        exact ⟨_, pre25 σ false (decF (by omega)).symm (from25 σ false (knd (tok (tk (G (5 + 2 * k))) 0)) e5 e14 hp.1 hp.2 hkb (by rw [hk]; exact hb1.1) (refu σ false _ rfl))⟩
      · refine ⟨false, pre25 σ false (decF (by omega)).symm ?_⟩
        by_cases hp0 : 0 < σ 1 2
        · skip
          refine e_aload_n 14 26 rfl rfl rfl rfl ?_
          refine g_getI 15 29 3 ckX12 flX12_146 rfl rfl (Nat.le_of_ble_eq_true rfl) rfl rfl rfl e5 ?_
          refine e_if_le 16 62 32 rfl rfl rfl (by unfold xr at *; omega) (fun h9 => absurd h9 (by omega)) (fun _ => ?_)
          refine e_aload_n 17 33 rfl rfl rfl rfl ?_
          refine g_getI 18 36 14 ckX12 flX12_279 rfl rfl (Nat.le_of_ble_eq_true rfl) rfl rfl rfl e14 ?_
          refine e_iconst 19 37 rfl rfl ?_
          refine e_icmp_ge 20 62 40 rfl rfl rfl (by unfold xr at *; omega) (by unfold xr at *; omega) (fun _ => ?_) (fun h9 => absurd h9 (by omega))
          refine e_iconst 33 63 rfl rfl ?_
          refine e_istore 34 65 (ls' := [some _, some _, some _, some _, some _]) rfl rfl (Nat.le_of_ble_eq_true rfl) rfl ?_
          exact refu σ false false rfl
        · skip
          refine e_aload_n 14 26 rfl rfl rfl rfl ?_
          refine g_getI 15 29 3 ckX12 flX12_146 rfl rfl (Nat.le_of_ble_eq_true rfl) rfl rfl rfl e5 ?_
          refine e_if_le 16 62 32 rfl rfl rfl (by unfold xr at *; omega) (fun _ => ?_) (fun h9 => absurd h9 (by omega))
          refine e_iconst 33 63 rfl rfl ?_
          refine e_istore 34 65 (ls' := [some _, some _, some _, some _, some _]) rfl rfl (Nat.le_of_ble_eq_true rfl) rfl ?_
          exact refu σ false false rfl
    obtain ⟨b, hm⟩ := hm
    exact STEP.refuse h 1 (by simp) (sp_filterX hx0 hy0 hfit) (σ2 := xu σ 281 47 1) (y := 0) hm (xu_same _ _ _ _) F47s
  obtain ⟨hx, hy⟩ := hfit
  by_cases hp : 0 < σ 1 2 ∧ σ 256 4 < 3
  case neg =>
    refine STEP.refuse h 2 (by simp) (sp_filterX2 h3 h4 hx hy (by omega)) (σ2 := xu σ 281 47 2) (y := 0) (pre25 σ true (decT (by omega)).symm ?_) (xu_same _ _ _ _) F47s
    by_cases hp0 : 0 < σ 1 2
    · skip
      refine e_aload_n 14 26 rfl rfl rfl rfl ?_
      refine g_getI 15 29 3 ckX12 flX12_146 rfl rfl (Nat.le_of_ble_eq_true rfl) rfl rfl rfl e5 ?_
      refine e_if_le 16 62 32 rfl rfl rfl (by unfold xr at *; omega) (fun h9 => absurd h9 (by omega)) (fun _ => ?_)
      refine e_aload_n 17 33 rfl rfl rfl rfl ?_
      refine g_getI 18 36 14 ckX12 flX12_279 rfl rfl (Nat.le_of_ble_eq_true rfl) rfl rfl rfl e14 ?_
      refine e_iconst 19 37 rfl rfl ?_
      refine e_icmp_ge 20 62 40 rfl rfl rfl (by unfold xr at *; omega) (by unfold xr at *; omega) (fun _ => ?_) (fun h9 => absurd h9 (by omega))
      refine e_iconst 33 63 rfl rfl ?_
      refine e_istore 34 65 (ls' := [some _, some _, some _, some _, some _]) rfl rfl (Nat.le_of_ble_eq_true rfl) rfl ?_
      exact refu σ true false rfl
    · skip
      refine e_aload_n 14 26 rfl rfl rfl rfl ?_
      refine g_getI 15 29 3 ckX12 flX12_146 rfl rfl (Nat.le_of_ble_eq_true rfl) rfl rfl rfl e5 ?_
      refine e_if_le 16 62 32 rfl rfl rfl (by unfold xr at *; omega) (fun _ => ?_) (fun h9 => absurd h9 (by omega))
      refine e_iconst 33 63 rfl rfl ?_
      refine e_istore 34 65 (ls' := [some _, some _, some _, some _, some _]) rfl rfl (Nat.le_of_ble_eq_true rfl) rfl ?_
      exact refu σ true false rfl
  obtain ⟨hp1, hp2⟩ := hp
  obtain ⟨k, hk⟩ := Int.eq_ofNat_of_zero_le (show 0 ≤ σ 1 2 - 1 by omega)
  have htop : vtop σ = 5 + 2 * k := by rw [show vtop σ = pv (σ 1 2 - 1) from rfl, pv_in (by omega) (by omega), hk]; rfl
  obtain ⟨t1, w1⟩ := hM.pile (k := k) (by omega)
  have hb1 := mv_fld w1.1
  have hkb := knd_bnd (tok (tk (G (5 + 2 * k))) 0)
  by_cases hk4 : y = 4 → knd (tok (tk (G (5 + 2 * k))) 0) = 1
  case neg =>
    have hy4 : y = 4 := by
      by_cases q : y = 4
      · exact q
      · exact absurd (fun q2 => absurd q2 q) hk4
    subst hy4
    refine STEP.refuse h 2 (by simp) (sp_filterX3 hA ⟨hp1, h3.2⟩ ⟨h4.1, hp2⟩ hx (by rw [htop, t1]; exact fun q => hk4 (fun _ => q))) (σ2 := xu σ 281 47 2) (y := 0) (pre25 σ true (decT (by omega)).symm (from25 σ true _ e5 e14 hp1 hp2 hkb (by rw [hk]; exact hb1.1) ?_)) (xu_same _ _ _ _) F47s
    rw [decF hk4]
    exact refu σ true false rfl
  sorry
