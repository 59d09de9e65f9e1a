/-! ===== steps: filter ===== -/
theorem sp_mFilterAt {σ : xSig} {x : Int} : Rd MX12_filterAt [.ref 281, .int (ii x)] σ (iv (100 * (110 + x) + 1)) := by
  refine e_entry okX12_filterAt (Nat.le_of_ble_eq_true rfl) (ls := [some _, some _]) rfl ?_
  refine e_bipush 0 2 rfl rfl rfl ?_
  refine e_iload_n 1 3 rfl rfl rfl rfl ?_
  refine e_iadd 2 4 rfl rfl ?_
  refine g_callS 3 7 (sp_mBlock (x := 110 + x)) okX12_block csX12_142 ⟨(Nat.le_of_ble_eq_true rfl), (Nat.le_of_ble_eq_true rfl)⟩ rfl rfl rfl rfl (Nat.le_of_ble_eq_true rfl) (Nat.le_of_ble_eq_true rfl) (Nat.le_of_ble_eq_true rfl) ?_
  exact e_ireturn 4 rfl rfl (Nat.le_of_ble_eq_true rfl) (Nat.le_of_ble_eq_true rfl)
theorem st_filter {i : Nat} {σ : xSig} (h : INV i σ) {x y : Int} (hx0 : xr x) (hy0 : xr y) : STEP i MX11_filter MX12_filter iv [nIAE, nISE] [.int (ii x), .int (ii y)] σ := by
  have hM := h
  obtain ⟨T, G, hA, hM⟩ := hM
  have h3 : 0 ≤ σ 1 2 ∧ σ 1 2 ≤ 10 := hM.1 3
  have e5 : σ 281 3 = σ 1 2 := hM.2 5
  have h4 : 0 ≤ σ 256 4 ∧ σ 256 4 ≤ 3 := (hM.1 9).2.2
  have e14 : σ 281 14 = σ 256 4 := (hM.2 8).1
  have px := fun s => sp_mIn (σ := s) (x := x) (y := 0) (z := 71) hx0 (by unfold xr; omega) (by unfold xr; omega)
  have py := fun s => sp_mIn (σ := s) (x := y) (y := 0) (z := 4) hy0 (by unfold xr; omega) (by unfold xr; omega)
  have refu : ∀ (s : xSig) (a b : Bool), (a && (b && true)) = false → x_E MX12_filter 0 0 65 [some (.ref 281), some (.int (ii x)), some (.int (ii y)), some (.int (ii (bi a))), some (.int (ii (bi b)))] [] (St s) 0 0 (iv 0) (St (xu s 281 47 (gcode a b true))) := by
    intro s a b hz
    refine e_aload_n 35 66 rfl rfl rfl rfl ?_
    refine e_iload_n 36 67 rfl rfl rfl rfl ?_
    refine e_iload 37 69 rfl rfl rfl ?_
    refine e_iconst 38 70 rfl rfl ?_
    refine g_callV 39 73 (sp_mGoes (a := a) (b := b) (c := true)) okX12_goes cvX12_167 ⟨(Nat.le_of_ble_eq_true rfl), (Nat.le_of_ble_eq_true rfl)⟩ rfl rfl (Nat.le_of_ble_eq_true rfl) rfl rfl rfl rfl rfl (Nat.le_of_ble_eq_true rfl) (Nat.le_of_ble_eq_true rfl) (Nat.le_of_ble_eq_true rfl) ?_
    refine e_ifb_ne 40 78 76 rfl rfl rfl (fun hb => ?_) (fun hb => ?_)
    · skip
      exfalso
      rw [hz] at hb
      cases hb
    · skip
      refine e_iconst 41 77 rfl rfl ?_
      exact e_ireturn 42 rfl rfl (Nat.le_of_ble_eq_true rfl) (Nat.le_of_ble_eq_true rfl)
  have pre25 : ∀ (s : xSig) (a : Bool), a = decide ((0 ≤ x ∧ x ≤ 71) ∧ 0 ≤ y ∧ y ≤ 4) → ∀ {o : xO} {Y : xS}, x_E MX12_filter 0 0 25 [some (.ref 281), some (.int (ii x)), some (.int (ii y)), some (.int (ii (bi a))), none] [] (St s) 0 0 o Y → x_Sp MX12_filter 0 0 [.ref 281, .int (ii x), .int (ii y)] (St s) o Y := by
    intro s a ha o Y kk
    refine e_entry okX12_filter (Nat.le_of_ble_eq_true rfl) (ls := [some _, some _, some _, none, none]) rfl ?_
    refine e_iload_n 0 1 rfl rfl rfl rfl ?_
    refine e_iconst 1 2 rfl rfl ?_
    refine e_bipush 2 4 rfl rfl rfl ?_
    refine g_callS 3 7 (px s) okX12_in csX12_175 ⟨(Nat.le_of_ble_eq_true rfl), (Nat.le_of_ble_eq_true rfl)⟩ rfl rfl rfl rfl (Nat.le_of_ble_eq_true rfl) (Nat.le_of_ble_eq_true rfl) (Nat.le_of_ble_eq_true rfl) ?_
    refine e_ifb_eq 4 23 10 rfl rfl rfl (fun q1 => ?_) (fun q1 => ?_)
    · skip
      have q1' := of_decide_eq_false q1
      rw [ha, decF (fun q => q1' q.1)] at kk
      refine e_iconst 12 24 rfl rfl ?_
      refine e_istore_n 13 25 (ls' := [some _, some _, some _, some _, none]) rfl rfl rfl (Nat.le_of_ble_eq_true rfl) rfl ?_
      exact kk
    · skip
      have q1' := of_decide_eq_true q1
      refine e_iload_n 5 11 rfl rfl rfl rfl ?_
      refine e_iconst 6 12 rfl rfl ?_
      refine e_iconst 7 13 rfl rfl ?_
      refine g_callS 8 16 (py s) okX12_in csX12_175 ⟨(Nat.le_of_ble_eq_true rfl), (Nat.le_of_ble_eq_true rfl)⟩ rfl rfl rfl rfl (Nat.le_of_ble_eq_true rfl) (Nat.le_of_ble_eq_true rfl) (Nat.le_of_ble_eq_true rfl) ?_
      refine e_ifb_eq 9 23 19 rfl rfl rfl (fun q2 => ?_) (fun q2 => ?_)
      · skip
        have q2' := of_decide_eq_false q2
        rw [ha, decF (fun q => q2' q.2)] at kk
        refine e_iconst 12 24 rfl rfl ?_
        refine e_istore_n 13 25 (ls' := [some _, some _, some _, some _, none]) rfl rfl rfl (Nat.le_of_ble_eq_true rfl) rfl ?_
        exact kk
      · skip
        have q2' := of_decide_eq_true q2
        rw [ha, decT ⟨q1', q2'⟩] at kk
        refine e_iconst 10 20 rfl rfl ?_
        refine e_goto 11 24 rfl rfl ?_
        refine e_istore_n 13 25 (ls' := [some _, some _, some _, some _, none]) rfl rfl rfl (Nat.le_of_ble_eq_true rfl) rfl ?_
        exact kk
  -- past the pile and the filters
  have from25 : ∀ (s : xSig) (a : Bool) (u : Int), s 281 3 = σ 1 2 → s 281 14 = σ 256 4 → 0 < σ 1 2 → σ 256 4 < 3 → 0 ≤ u ∧ u ≤ 4 → s 282 (100 * (100 + (σ 1 2 - 1)) + 1) = u → ∀ {o : xO} {Y : xS}, x_E MX12_filter 0 0 65 [some (.ref 281), some (.int (ii x)), some (.int (ii y)), some (.int (ii (bi a))), some (.int (ii (bi (decide (y = 4 → u = 1)))))] [] (St s) 0 0 o Y → x_E MX12_filter 0 0 25 [some (.ref 281), some (.int (ii x)), some (.int (ii y)), some (.int (ii (bi a))), none] [] (St s) 0 0 o Y := by
    intro s a u a3 a14 hp hf hu hu2 o Y kk
    have qt : Rd MX12_top [.ref 281] s (iv (100 * (100 + (σ 1 2 - 1)) + 1)) := by
      have := sp_mTop (σ := s)
      rw [a3] at this
      exact this
    have hux : xr u := by unfold xr; omega
    refine e_aload_n 14 26 rfl rfl rfl rfl ?_
    refine g_getI 15 29 3 ckX12 flX12_146 rfl rfl (Nat.le_of_ble_eq_true rfl) rfl rfl rfl a3 ?_
    refine e_if_le 16 62 32 rfl rfl rfl (by unfold xr at *; omega) (fun h9 => absurd h9 (by omega)) (fun _ => ?_)
    refine e_aload_n 17 33 rfl rfl rfl rfl ?_
    refine g_getI 18 36 14 ckX12 flX12_279 rfl rfl (Nat.le_of_ble_eq_true rfl) rfl rfl rfl a14 ?_
    refine e_iconst 19 37 rfl rfl ?_
    refine e_icmp_ge 20 62 40 rfl rfl rfl (by unfold xr at *; omega) (by unfold xr at *; omega) (fun h9 => absurd h9 (by omega)) (fun _ => ?_)
    refine e_iload_n 21 41 rfl rfl rfl rfl ?_
    refine e_iconst 22 42 rfl rfl ?_
    refine e_icmp_ne 23 58 45 rfl rfl rfl hy0 (by unfold xr at *; omega) (fun hy => ?_) (fun hy => ?_)
    · skip
      rw [decT (fun q => absurd q hy)] at kk
      refine e_iconst 31 59 rfl rfl ?_
      refine e_goto 32 63 rfl rfl ?_
      refine e_istore 34 65 (ls' := [some _, some _, some _, some _, some _]) rfl rfl (Nat.le_of_ble_eq_true rfl) rfl ?_
      exact kk
    · skip
      refine e_aload_n 24 46 rfl rfl rfl rfl ?_
      refine g_getR 25 49 ckX12 flX12_7 rfl rfl (Nat.le_of_ble_eq_true rfl) rfl rfl ?_
      refine e_aload_n 26 50 rfl rfl rfl rfl ?_
      refine g_callV 27 53 (qt) okX12_top cvX12_182 ⟨(Nat.le_of_ble_eq_true rfl), (Nat.le_of_ble_eq_true rfl)⟩ rfl rfl (Nat.le_of_ble_eq_true rfl) rfl rfl rfl rfl rfl (Nat.le_of_ble_eq_true rfl) (Nat.le_of_ble_eq_true rfl) (Nat.le_of_ble_eq_true rfl) ?_
      refine g_iaload 28 54 rfl rfl (Nat.le_of_ble_eq_true rfl) rfl (by omega) (by omega) (by omega) hu2 ?_
      refine e_iconst 29 55 rfl rfl ?_
      refine e_icmp_ne 30 62 58 rfl rfl rfl hux (by unfold xr at *; omega) (fun hu1 => ?_) (fun hu1 => ?_)
      · skip
        rw [decF (fun q => hu1 (q (by omega)))] at kk
        refine e_iconst 33 63 rfl rfl ?_
        refine e_istore 34 65 (ls' := [some _, some _, some _, some _, some _]) rfl rfl (Nat.le_of_ble_eq_true rfl) rfl ?_
        exact kk
      · skip
        rw [decT (fun _ => (by omega : u = 1))] at kk
        refine e_iconst 31 59 rfl rfl ?_
        refine e_goto 32 63 rfl rfl ?_
        refine e_istore 34 65 (ls' := [some _, some _, some _, some _, some _]) rfl rfl (Nat.le_of_ble_eq_true rfl) rfl ?_
        exact kk
  by_cases hfit : (0 ≤ x ∧ x < 72) ∧ 0 ≤ y ∧ y ≤ 4
  case neg =>
    have hm : ∃ b, x_Sp MX12_filter 0 0 [.ref 281, .int (ii x), .int (ii y)] (St σ) (iv 0) (St (xu σ 281 47 (gcode false b true))) := by
      by_cases hp : 0 < σ 1 2 ∧ σ 256 4 < 3
      · obtain ⟨k, hk⟩ := Int.eq_ofNat_of_zero_le (show 0 ≤ σ 1 2 - 1 by omega)
        obtain ⟨t1, w1⟩ := hM.pile (k := k) (by omega)
        have hb1 := mv_fld w1.1
        have hkb := knd_bnd (tok (tk (G (5 + 2 * k))) 0)
        exact ⟨_, pre25 σ false (decF (by omega)).symm (from25 σ false (knd (tok (tk (G (5 + 2 * k))) 0)) e5 e14 hp.1 hp.2 hkb (by rw [hk]; exact hb1.1) (refu σ false _ rfl))⟩
      · refine ⟨false, pre25 σ false (decF (by omega)).symm ?_⟩
        by_cases hp0 : 0 < σ 1 2
        · skip
          refine e_aload_n 14 26 rfl rfl rfl rfl ?_
          refine g_getI 15 29 3 ckX12 flX12_146 rfl rfl (Nat.le_of_ble_eq_true rfl) rfl rfl rfl e5 ?_
          refine e_if_le 16 62 32 rfl rfl rfl (by unfold xr at *; omega) (fun h9 => absurd h9 (by omega)) (fun _ => ?_)
          refine e_aload_n 17 33 rfl rfl rfl rfl ?_
          refine g_getI 18 36 14 ckX12 flX12_279 rfl rfl (Nat.le_of_ble_eq_true rfl) rfl rfl rfl e14 ?_
          refine e_iconst 19 37 rfl rfl ?_
          refine e_icmp_ge 20 62 40 rfl rfl rfl (by unfold xr at *; omega) (by unfold xr at *; omega) (fun _ => ?_) (fun h9 => absurd h9 (by omega))
          refine e_iconst 33 63 rfl rfl ?_
          refine e_istore 34 65 (ls' := [some _, some _, some _, some _, some _]) rfl rfl (Nat.le_of_ble_eq_true rfl) rfl ?_
          exact refu σ false false rfl
        · skip
          refine e_aload_n 14 26 rfl rfl rfl rfl ?_
          refine g_getI 15 29 3 ckX12 flX12_146 rfl rfl (Nat.le_of_ble_eq_true rfl) rfl rfl rfl e5 ?_
          refine e_if_le 16 62 32 rfl rfl rfl (by unfold xr at *; omega) (fun _ => ?_) (fun h9 => absurd h9 (by omega))
          refine e_iconst 33 63 rfl rfl ?_
          refine e_istore 34 65 (ls' := [some _, some _, some _, some _, some _]) rfl rfl (Nat.le_of_ble_eq_true rfl) rfl ?_
          exact refu σ false false rfl
    obtain ⟨b, hm⟩ := hm
    exact STEP.refuse h 1 (by simp) (sp_filterX hx0 hy0 hfit) (σ2 := xu σ 281 47 1) (y := 0) hm (xu_same _ _ _ _) F47s
  obtain ⟨hx, hy⟩ := hfit
  by_cases hp : 0 < σ 1 2 ∧ σ 256 4 < 3
  case neg =>
    refine STEP.refuse h 2 (by simp) (sp_filterX2 h3 h4 hx hy (by omega)) (σ2 := xu σ 281 47 2) (y := 0) (pre25 σ true (decT (by omega)).symm ?_) (xu_same _ _ _ _) F47s
    by_cases hp0 : 0 < σ 1 2
    · skip
      refine e_aload_n 14 26 rfl rfl rfl rfl ?_
      refine g_getI 15 29 3 ckX12 flX12_146 rfl rfl (Nat.le_of_ble_eq_true rfl) rfl rfl rfl e5 ?_
      refine e_if_le 16 62 32 rfl rfl rfl (by unfold xr at *; omega) (fun h9 => absurd h9 (by omega)) (fun _ => ?_)
      refine e_aload_n 17 33 rfl rfl rfl rfl ?_
      refine g_getI 18 36 14 ckX12 flX12_279 rfl rfl (Nat.le_of_ble_eq_true rfl) rfl rfl rfl e14 ?_
      refine e_iconst 19 37 rfl rfl ?_
      refine e_icmp_ge 20 62 40 rfl rfl rfl (by unfold xr at *; omega) (by unfold xr at *; omega) (fun _ => ?_) (fun h9 => absurd h9 (by omega))
      refine e_iconst 33 63 rfl rfl ?_
      refine e_istore 34 65 (ls' := [some _, some _, some _, some _, some _]) rfl rfl (Nat.le_of_ble_eq_true rfl) rfl ?_
      exact refu σ true false rfl
    · skip
      refine e_aload_n 14 26 rfl rfl rfl rfl ?_
      refine g_getI 15 29 3 ckX12 flX12_146 rfl rfl (Nat.le_of_ble_eq_true rfl) rfl rfl rfl e5 ?_
      refine e_if_le 16 62 32 rfl rfl rfl (by unfold xr at *; omega) (fun _ => ?_) (fun h9 => absurd h9 (by omega))
      refine e_iconst 33 63 rfl rfl ?_
      refine e_istore 34 65 (ls' := [some _, some _, some _, some _, some _]) rfl rfl (Nat.le_of_ble_eq_true rfl) rfl ?_
      exact refu σ true false rfl
  obtain ⟨hp1, hp2⟩ := hp
  obtain ⟨k, hk⟩ := Int.eq_ofNat_of_zero_le (show 0 ≤ σ 1 2 - 1 by omega)
  have htop : vtop σ = 5 + 2 * k := by rw [show vtop σ = pv (σ 1 2 - 1) from rfl, pv_in (by omega) (by omega), hk]; rfl
  obtain ⟨t1, w1⟩ := hM.pile (k := k) (by omega)
  have hb1 := mv_fld w1.1
  have hkb := knd_bnd (tok (tk (G (5 + 2 * k))) 0)
  by_cases hk4 : y = 4 → knd (tok (tk (G (5 + 2 * k))) 0) = 1
  case neg =>
    have hy4 : y = 4 := by
      by_cases q : y = 4
      · exact q
      · exact absurd (fun q2 => absurd q2 q) hk4
    subst hy4
    refine STEP.refuse h 2 (by simp) (sp_filterX3 hA ⟨hp1, h3.2⟩ ⟨h4.1, hp2⟩ hx (by rw [htop, t1]; exact fun q => hk4 (fun _ => q))) (σ2 := xu σ 281 47 2) (y := 0) (pre25 σ true (decT (by omega)).symm (from25 σ true _ e5 e14 hp1 hp2 hkb (by rw [hk]; exact hb1.1) ?_)) (xu_same _ _ _ _) F47s
    rw [decF hk4]
    exact refu σ true false rfl
  obtain ⟨fk, hfk⟩ := Int.eq_ofNat_of_zero_le h4.1
  have hfk3 : fk < 3 := by omega
  have hqf : qf (σ 256 4) = 264 + 3 * fk := by rw [qf_in h4.1 hp2, hfk]; rfl
  have hlen : (T (vtop σ)).length ≤ 72 := by
    rw [htop, t1]
    have := tk_len _ _ _ _ (ok1_okf w1.1.2.1)
    have := w1.2
    simp only [Bool.false_eq_true, if_false] at *
    omega
  obtain ⟨σ', x1, x2, x3⟩ := sp_filter1 hA ⟨hp1, h3.2⟩ ⟨h4.1, hp2⟩ hx hy (fun q => by rw [htop, t1]; exact hk4 q) hlen
  rw [hqf] at x2 x3
  rw [htop, show 264 + 3 * fk + 1 = 265 + 3 * fk by omega] at x2
  -- the class's end
  generalize hτ : xu (xu (xu (xu σ (264 + 3 * fk) 1 x) (264 + 3 * fk) 2 y) 256 4 (σ 256 4 + 1)) 1 2 (σ 1 2 - 1) = τ
  generalize hσ1 : xu (xu σ' 256 4 (σ 256 4 + 1)) 1 2 (σ 1 2 - 1) = σ1 at x1
  have te : ∀ b : Nat, vA b = false → σ1 b = τ b := fun b hb => by
    rw [← hσ1, ← hτ]
    funext j
    unfold xu
    have := congrFun (x3 b hb (by simp)) j
    unfold xu at this
    rw [this]
  have fc : FP [(256, 4), (1, 2), (264, -1), (267, -1), (270, -1)] σ τ := by
    rw [← hτ]
    have g : ∀ s : xSig, FP [(256, 4), (1, 2), (264, -1), (267, -1), (270, -1)] σ s → ∀ j v, FP [(256, 4), (1, 2), (264, -1), (267, -1), (270, -1)] σ (xu s (264 + 3 * fk) j v) := by
      intro s hs j v
      rcases (by omega : fk = 0 ∨ fk = 1 ∨ fk = 2) with rfl | rfl | rfl <;> exact hs.putA rfl
    exact FP.put (FP.put (g _ (g _ FP.rf _ _) _ _) rfl) rfl
  have t4 : τ 256 4 = fk + 1 := by rw [← hτ, xu_other _ _ _ (by decide), xu_same, hfk]
  have t12 : τ 1 2 = σ 1 2 - 1 := by rw [← hτ, xu_same]
  have tf : ∀ (j : Nat) (q : Int), j < 3 → τ (264 + 3 * j) q = if j = fk ∧ q = 1 then x else if j = fk ∧ q = 2 then y else σ (264 + 3 * j) q := by
    intro j q hj
    rw [← hτ, xu_other _ _ _ (by omega), xu_other _ _ _ (by omega)]
    unfold xu
    by_cases w : j = fk
    · subst w
      by_cases w1 : q = 1
      · rw [if_neg (by omega), if_pos ⟨rfl, w1⟩, if_pos ⟨rfl, w1⟩]
      · by_cases w2 : q = 2
        · rw [if_pos ⟨rfl, w2⟩, if_neg (fun z => w1 z.2), if_pos ⟨rfl, w2⟩]
        · rw [if_neg (fun z => w2 z.2), if_neg (fun z => w1 z.2), if_neg (fun z => w1 z.2), if_neg (fun z => w2 z.2)]
    · rw [if_neg (by omega), if_neg (by omega), if_neg (fun z => w z.1), if_neg (fun z => w z.1)]
  have g1 : ∀ b : Nat, 281 ≤ b → b < 314 → σ1 b = σ b := fun b hb hb3 => by
    have hv : ∀ b, b < 314 → 281 ≤ b → vA b = false := by decide +kernel
    rw [te b (hv b hb3 hb)]
    exact fc.cell b (by simp only [List.all_cons, List.all_nil, Bool.and_true, bne_iff_ne, Bool.and_eq_true]; omega)
  have hM1 : IM i σ T G σ1 := hM.fm g1
  -- the model
  have f0 : FP [(281, 47), (281, 7)] σ1 (xu (xu σ1 281 47 0) 281 7 0) := (FP.rf.put rfl).put rfl
  have hw0 : MV (xu (xu σ1 281 47 0) 281 7 0) 282 11300 (100 * (100 + k) + 1) (G (5 + 2 * k)) := w1.1.of (by rw [f0.cell 282 rfl]; exact g1 282 (by omega) (by omega))
  have hol := ok1_pa w1.1.2.1
  have hw24 := w1.2
  have hwb := hw0.2.2.2
  have ce := sp_mEnd hw0
  have hMD : MD (xu (xu σ1 281 47 0) 281 7 0) [] := ⟨xu_same _ _ _ _, EA.nil, by simp⟩
  have f1 : FP m11 (xu (xu σ1 281 47 0) 281 7 0) (xu (xu (xu σ1 281 47 0) 281 7 0) 311 0 (pa (G (5 + 2 * k)))) := FP.rf.x11
  obtain ⟨s3, a1, a2, a3⟩ := sp_mAdds (σ := xu (xu (xu σ1 281 47 0) 281 7 0) 311 0 (pa (G (5 + 2 * k)))) (p := 100 * (100 + k) + 1) (to := 100 * (100 + k) + 1 + (en (G (5 + 2 * k))).length) (t := en (G (5 + 2 * k))) isMS_all rfl (by omega) (by omega) (hw0.2.2.2.2.2.of11 isMA_all f1) (hMD.fp f1) (by simp only [List.length_nil]; omega)
  rw [List.nil_append] at a2
  have f3 : FP [(281, 47), (281, 7), (311, -1), (285, -1)] σ1 s3 := ((f0.mono rfl).tr (f1.mono rfl)).tr (a3.mono rfl)
  have c3 := sp_mLays (σ := s3) (at9 := 100 * (110 + (fk : Int)) + 1) (by omega) (by omega) a2
  generalize hs5 : lay9 s3 (100 * (110 + (fk : Int)) + 1) (en (G (5 + 2 * k))) (en (G (5 + 2 * k))).length = s5 at c3
  have e82 : ∀ j : Int, s5 282 j = lay9 s3 (100 * (110 + (fk : Int)) + 1) (en (G (5 + 2 * k))) (en (G (5 + 2 * k))).length 282 j := fun j => by rw [← hs5]
  have f5 : FP [(281, 47), (281, 7), (311, -1), (285, -1), (282, -1)] σ1 s5 := by
    rw [← hs5]
    refine FP.tr (f3.mono rfl) (fun b j q => ?_)
    rw [lay9_o _ _ _ _ (fun e => by subst e; simp [inP] at q)]
  generalize hs9 : xu (xu (xu (xu s5 290 fk x) 291 fk y) 281 14 (fk + 1)) 281 3 (σ 1 2 - 1) = s9
  have f9 : FP [(281, 47), (281, 7), (311, -1), (285, -1), (282, -1), (290, -1), (291, -1), (281, 14), (281, 3)] σ1 s9 := by
    rw [← hs9]
    exact FP.put (FP.put (FP.putA (FP.putA (f5.mono rfl) rfl) rfl) rfl) rfl
  have a14 : σ1 281 14 = fk := by rw [g1 281 (by omega) (by omega), e14, hfk]
  have a13 : σ1 281 3 = σ 1 2 := by rw [g1 281 (by omega) (by omega)]; exact e5
  have e9 : ∀ j, s9 282 j = s5 282 j := fun j => by rw [← hs9, xu_other _ _ _ (by decide), xu_other _ _ _ (by decide), xu_other _ _ _ (by decide), xu_other _ _ _ (by decide)]
  have hnew : MV s9 282 11300 (100 * (110 + (fk : Int)) + 1) (G (5 + 2 * k)) := by
    refine ⟨isMA_all, w1.1.2.1, w1.1.2.2.1, by omega, by omega, ?_⟩
    refine (lay9_in s3 _ _).of fun j _ _ => ?_
    rw [e9, e82]
  have hob : oB σ1 s9 (110 + fk) := fun j hj => by
    rw [e9, e82]
    unfold lay9
    rw [if_neg (by omega), f3.cell 282 rfl]
  have qt : ∀ s : xSig, s 281 3 = σ 1 2 → Rd MX12_top [.ref 281] s (iv (100 * (100 + k) + 1)) := fun s hs => by
    have := sp_mTop (σ := s)
    rw [hs, hk] at this
    exact this
  refine ⟨σ1, s9, 0, _, fk + 1, ⟨by omega, by simp⟩, fun _ => x1, fun q => absurd rfl q, pre25 σ1 true (decT (by omega)).symm (from25 σ1 true (knd (tok (tk (G (5 + 2 * k))) 0)) a13 (by rw [a14, hfk]) hp1 hp2 hkb (by rw [hk, g1 282 (by omega) (by omega)]; exact hb1.1) ?_), ?_, fun _ => by rw [hfk], ?_⟩
  · rw [decT hk4]
    have b1 : xu (xu σ1 281 47 0) 281 7 0 281 3 = σ 1 2 := by rw [f0 281 3 rfl]; exact a13
    have b3 : s3 281 14 = fk := by rw [f3 281 14 rfl]; exact a14
    have b5 : s5 281 14 = fk := by rw [f5 281 14 rfl]; exact a14
    have b5a : xu s5 290 fk x 281 14 = fk := by rw [xu_other _ _ _ (by decide)]; exact b5
    have b5b : xu (xu s5 290 fk x) 291 fk y 281 14 = fk := by rw [xu_other _ _ _ (by decide)]; exact b5a
    have b5c : xu (xu (xu s5 290 fk x) 291 fk y) 281 14 (fk + 1) 281 3 = σ 1 2 := by rw [xu_ne _ (Or.inr (by decide)), xu_other _ _ _ (by decide), xu_other _ _ _ (by decide), f5 281 3 rfl]; exact a13
    have b9 : s9 281 14 = fk + 1 := by rw [← hs9, xu_ne _ (Or.inr (by decide)), xu_same]
    refine e_aload_n 35 66 rfl rfl rfl rfl ?_
    refine e_iload_n 36 67 rfl rfl rfl rfl ?_
    refine e_iload 37 69 rfl rfl rfl ?_
    refine e_iconst 38 70 rfl rfl ?_
    refine g_callV 39 73 (sp_mGoesT) okX12_goes cvX12_167 ⟨(Nat.le_of_ble_eq_true rfl), (Nat.le_of_ble_eq_true rfl)⟩ rfl rfl (Nat.le_of_ble_eq_true rfl) rfl rfl rfl rfl rfl (Nat.le_of_ble_eq_true rfl) (Nat.le_of_ble_eq_true rfl) (Nat.le_of_ble_eq_true rfl) ?_
    refine e_ifb_ne 40 78 76 rfl rfl rfl (fun q => ?_) (fun q => ?_)
    · skip
      refine e_aload_n 43 79 rfl rfl rfl rfl ?_
      refine e_iconst 44 80 rfl rfl ?_
      refine g_putI 45 83 7 ckX12 flX12_179 rfl rfl (Nat.le_of_ble_eq_true rfl) rfl rfl rfl ?_
      refine e_aload_n 46 84 rfl rfl rfl rfl ?_
      refine e_aload_n 47 85 rfl rfl rfl rfl ?_
      refine g_getR 48 88 ckX12 flX12_7 rfl rfl (Nat.le_of_ble_eq_true rfl) rfl rfl ?_
      refine e_aload_n 49 89 rfl rfl rfl rfl ?_
      refine g_callV 50 92 (qt _ b1) okX12_top cvX12_182 ⟨(Nat.le_of_ble_eq_true rfl), (Nat.le_of_ble_eq_true rfl)⟩ rfl rfl (Nat.le_of_ble_eq_true rfl) rfl rfl rfl rfl rfl (Nat.le_of_ble_eq_true rfl) (Nat.le_of_ble_eq_true rfl) (Nat.le_of_ble_eq_true rfl) ?_
      refine e_aload_n 51 93 rfl rfl rfl rfl ?_
      refine e_aload_n 52 94 rfl rfl rfl rfl ?_
      refine g_getR 53 97 ckX12 flX12_7 rfl rfl (Nat.le_of_ble_eq_true rfl) rfl rfl ?_
      refine e_aload_n 54 98 rfl rfl rfl rfl ?_
      refine g_callV 55 101 (qt _ b1) okX12_top cvX12_182 ⟨(Nat.le_of_ble_eq_true rfl), (Nat.le_of_ble_eq_true rfl)⟩ rfl rfl (Nat.le_of_ble_eq_true rfl) rfl rfl rfl rfl rfl (Nat.le_of_ble_eq_true rfl) (Nat.le_of_ble_eq_true rfl) (Nat.le_of_ble_eq_true rfl) ?_
      refine g_callV 56 104 (ce) okX12_end cvX12_131 ⟨(Nat.le_of_ble_eq_true rfl), (Nat.le_of_ble_eq_true rfl)⟩ rfl rfl (Nat.le_of_ble_eq_true rfl) rfl rfl rfl rfl rfl (Nat.le_of_ble_eq_true rfl) (Nat.le_of_ble_eq_true rfl) (Nat.le_of_ble_eq_true rfl) ?_
      refine g_callV 57 107 (a1) okX12_adds cvX12_189 ⟨(Nat.le_of_ble_eq_true rfl), (Nat.le_of_ble_eq_true rfl)⟩ rfl rfl (Nat.le_of_ble_eq_true rfl) rfl rfl rfl rfl rfl (Nat.le_of_ble_eq_true rfl) (Nat.le_of_ble_eq_true rfl) (Nat.le_of_ble_eq_true rfl) ?_
      refine e_aload_n 58 108 rfl rfl rfl rfl ?_
      refine e_aload_n 59 109 rfl rfl rfl rfl ?_
      refine e_aload_n 60 110 rfl rfl rfl rfl ?_
      refine g_getI 61 113 14 ckX12 flX12_279 rfl rfl (Nat.le_of_ble_eq_true rfl) rfl rfl rfl b3 ?_
      refine g_callV 62 116 (sp_mFilterAt (x := fk)) okX12_filterAt cvX12_282 ⟨(Nat.le_of_ble_eq_true rfl), (Nat.le_of_ble_eq_true rfl)⟩ rfl rfl (Nat.le_of_ble_eq_true rfl) rfl rfl rfl rfl rfl (Nat.le_of_ble_eq_true rfl) (Nat.le_of_ble_eq_true rfl) (Nat.le_of_ble_eq_true rfl) ?_
      refine g_callV 63 119 (c3) okX12_lays cvX12_193 ⟨(Nat.le_of_ble_eq_true rfl), (Nat.le_of_ble_eq_true rfl)⟩ rfl rfl (Nat.le_of_ble_eq_true rfl) rfl rfl rfl rfl rfl (Nat.le_of_ble_eq_true rfl) (Nat.le_of_ble_eq_true rfl) (Nat.le_of_ble_eq_true rfl) ?_
      refine e_aload_n 64 120 rfl rfl rfl rfl ?_
      refine g_getR 65 123 ckX12 flX12_35 rfl rfl (Nat.le_of_ble_eq_true rfl) rfl rfl ?_
      refine e_aload_n 66 124 rfl rfl rfl rfl ?_
      refine g_getI 67 127 14 ckX12 flX12_279 rfl rfl (Nat.le_of_ble_eq_true rfl) rfl rfl rfl b5 ?_
      refine e_iload_n 68 128 rfl rfl rfl rfl ?_
      refine g_iastore 69 129 rfl rfl (Nat.le_of_ble_eq_true rfl) rfl (by omega) (by omega) (by omega) ?_
      refine e_aload_n 70 130 rfl rfl rfl rfl ?_
      refine g_getR 71 133 ckX12 flX12_38 rfl rfl (Nat.le_of_ble_eq_true rfl) rfl rfl ?_
      refine e_aload_n 72 134 rfl rfl rfl rfl ?_
      refine g_getI 73 137 14 ckX12 flX12_279 rfl rfl (Nat.le_of_ble_eq_true rfl) rfl rfl rfl b5a ?_
      refine e_iload_n 74 138 rfl rfl rfl rfl ?_
      refine g_iastore 75 139 rfl rfl (Nat.le_of_ble_eq_true rfl) rfl (by omega) (by omega) (by omega) ?_
      refine e_aload_n 76 140 rfl rfl rfl rfl ?_
      refine e_dup 77 141 rfl rfl rfl ?_
      refine g_getI 78 144 14 ckX12 flX12_279 rfl rfl (Nat.le_of_ble_eq_true rfl) rfl rfl rfl b5b ?_
      refine e_iconst 79 145 rfl rfl ?_
      refine e_iadd 80 146 rfl rfl ?_
      refine g_putI 81 149 14 ckX12 flX12_279 rfl rfl (Nat.le_of_ble_eq_true rfl) rfl rfl rfl ?_
      refine e_aload_n 82 150 rfl rfl rfl rfl ?_
      refine e_dup 83 151 rfl rfl rfl ?_
      refine g_getI 84 154 3 ckX12 flX12_146 rfl rfl (Nat.le_of_ble_eq_true rfl) rfl rfl rfl b5c ?_
      refine e_iconst 85 155 rfl rfl ?_
      refine e_isub 86 156 rfl rfl ?_
      refine g_putI 87 159 3 ckX12 flX12_146 rfl rfl (Nat.le_of_ble_eq_true rfl) rfl rfl rfl ?_
      rw [hs9]
      refine e_aload_n 88 160 rfl rfl rfl rfl ?_
      refine g_getI 89 163 14 ckX12 flX12_279 rfl rfl (Nat.le_of_ble_eq_true rfl) rfl rfl rfl b9 ?_
      exact e_ireturn 90 rfl rfl (Nat.le_of_ble_eq_true rfl) (Nat.le_of_ble_eq_true rfl)
    · skip
      cases q
  · rw [← hs9, xu_ne _ (Or.inr (by decide)), xu_ne _ (Or.inr (by decide)), xu_other _ _ _ (by decide), xu_other _ _ _ (by decide), ← hs5, lay9_o _ _ _ _ (by decide), a3 281 47 rfl, f1 281 47 rfl, xu_ne _ (Or.inr (by decide)), xu_same]
  · have to : ∀ b : Nat, b < 281 → b ≠ 256 → b ≠ 1 → b ≠ 264 → b ≠ 267 → b ≠ 270 → τ b = σ b := fun b _ n1 n2 n3 n4 n5 => fc.cell b (by simp only [List.all_cons, List.all_nil, Bool.and_true, bne_iff_ne, Bool.and_eq_true]; omega)
    have hhd : ∀ n : Int, hasd τ n = hasd σ n := fun n => by rw [hasd_congr (to 27 (by decide) (by decide) (by decide) (by decide) (by decide) (by decide))]
    have t6 : ∀ j : Int, j ≠ 4 → τ 256 j = σ 256 j := fun j hj => fc 256 j (by simp [inP]; omega)
    have s7 : sam (cK 7) σ τ := sam_fp fc rfl
    have hMf : IM (i + 1) τ (uT T (265 + 3 * fk) (T (5 + 2 * k))) (uG G (265 + 3 * fk) (G (5 + 2 * k))) s9 := by
      refine IM.gen [0, 1, 2, 3, 7, 9] [0, 1, 2, 5, 8] hM1 (by omega) fc f9 rfl rfl (Or.inr ⟨⟨by simp, by simp, by simp, by simp⟩, by simp, by simp, by simp⟩) (alc ?_ (alc ?_ (alc ?_ (alc ?_ (alc ?_ (alc ?_ al0)))))) (alc ?_ (alc ?_ (alc ?_ (alc ?_ (alc ?_ al0)))))
      · intro j hj
        rw [t12] at hj
        rw [uT_ne _ _ (by omega), uG_ne _ _ (by omega)]
        exact hM.1 0 j (by omega)
      · intro n hn hh
        rw [hhd] at hh
        rw [uT_ne _ _ (by omega), uG_ne _ _ (by omega)]
        exact hM.1 1 n hn hh
      · intro j hj3 hj
        rw [t4] at hj
        rw [tf j 1 hj3, tf j 2 hj3]
        by_cases w : j = fk
        · subst w
          rw [uT_same, uG_same, if_pos ⟨rfl, rfl⟩, if_neg (by omega), if_pos ⟨rfl, rfl⟩]
          exact ⟨t1, hx, hy, hk4⟩
        · rw [uT_ne _ _ (by omega), uG_ne _ _ (by omega), if_neg (fun z => w z.1), if_neg (fun z => w z.1), if_neg (fun z => w z.1)]
          rw [if_neg (fun z => w z.1)]
          exact hM.1 2 j hj3 (by omega)
      · show 0 ≤ τ 1 2 ∧ τ 1 2 ≤ 10
        omega
      · intro n hn h9
        rw [uT_ne _ _ (by omega)]
        exact KIc_fp (Nat.le_refl i) 7 s7 (hM.1 7) n hn h9
      · have q := hM.1 9
        show sOK (τ 256 6, τ 256 7, 0) 0 ∧ (τ 256 9 = 0 ∨ τ 256 9 = 1) ∧ (0 ≤ τ 256 4 ∧ τ 256 4 ≤ 3)
        rw [t6 6 (by decide), t6 7 (by decide), t6 9 (by decide)]
        exact ⟨q.1, q.2.1, by omega⟩
      · intro n hn hh
        rw [hhd] at hh
        rw [uG_ne _ _ (by omega)]
        exact (hM1.2 0 n hn hh).ob hob (by omega)
      · intro j hj
        rw [t12] at hj
        rw [uG_ne _ _ (by omega)]
        exact (hM1.2 1 j (by omega)).ob hob (by omega)
      · intro j hj
        rw [t4] at hj
        by_cases w : j = fk
        · subst w
          rw [uG_same]
          exact ⟨hnew, w1.2⟩
        · rw [uG_ne _ _ (by omega)]
          exact (hM1.2 2 j (by omega)).ob hob (by omega)
      · show s9 281 3 = τ 1 2
        rw [← hs9, xu_same, t12]
      · refine ⟨?_, fun j hj3 hj => ?_⟩
        · show s9 281 14 = τ 256 4
          rw [← hs9, xu_ne _ (Or.inr (by decide)), xu_same, t4]
        · rw [t4] at hj
          rw [tf j 1 hj3, tf j 2 hj3]
          have u0 : s9 290 j = if j = fk then x else σ1 290 j := by
            rw [← hs9, xu_other _ _ _ (by decide), xu_other _ _ _ (by decide), xu_other _ _ _ (by decide)]
            by_cases w : j = fk
            · rw [w, xu_same, if_pos rfl]
            · rw [xu_ne _ (Or.inr (by omega)), if_neg w, f5.cell 290 rfl]
          have u1 : s9 291 j = if j = fk then y else σ1 291 j := by
            rw [← hs9, xu_other _ _ _ (by decide), xu_other _ _ _ (by decide)]
            by_cases w : j = fk
            · rw [w, xu_same, if_pos rfl]
            · rw [xu_ne _ (Or.inr (by omega)), if_neg w, xu_other _ _ _ (by decide), f5.cell 291 rfl]
          rw [u0, u1]
          by_cases w : j = fk
          · rw [if_pos w, if_pos w, if_pos ⟨w, rfl⟩, if_neg (by omega), if_pos ⟨w, rfl⟩]
            exact ⟨rfl, rfl⟩
          · rw [if_neg w, if_neg w, if_neg (fun z => w z.1), if_neg (fun z => w z.1), if_neg (fun z => w z.1)]
            rw [if_neg (fun z => w z.1)]
            exact (hM1.2 8).2 j hj3 (by omega)
    have hAσ : VAll σ1 (uT T (265 + 3 * fk) (T (5 + 2 * k))) := by
      rw [← hσ1]
      exact VAll.xu (a := 1) (VAll.xu (a := 256) x2 4 _ (by decide +kernel)) 2 _ (by decide +kernel)
    refine INV.fin2 (VAll.fp hAσ f9 (by decide +kernel)) hMf (fun b hb hv => ?_)
    rw [f9.cell b (by simp only [List.all_cons, List.all_nil, Bool.and_true, bne_iff_ne, Bool.and_eq_true]; omega)]
    exact te b hv
