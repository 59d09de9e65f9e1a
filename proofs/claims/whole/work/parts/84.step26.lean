/-! ===== steps: index, the step ===== -/
theorem ixs_all {τ : xSig} {x : Int} (hx : 0 ≤ x) : ixs τ x 0 (ixs τ x 1 (ixs τ x 2 true)) = decide (fstIs (τ 249) x 0 3 = -1) := by
  have q : ∀ j : Int, (0 ≤ j ∧ j < 3) → ∀ b, ixs τ x j b = (b && !decide (τ 249 j = x)) := by
    intro j hj b
    unfold ixs ihas
    by_cases w : τ 249 j = x
    · rw [decT w, decT (by omega)]; rfl
    · rw [decF w, Bool.and_false]
  rw [q 0 (by omega), q 1 (by omega), q 2 (by omega)]
  unfold fstIs fstIs fstIs fstIs
  by_cases w0 : τ 249 0 = x <;> by_cases w1 : τ 249 1 = x <;> by_cases w2 : τ 249 2 = x <;> simp [w0, w1, w2]
theorem st_index {i : Nat} {σ : xSig} (h : INV i σ) {x y : Int} (hx0 : xr x) (hy : y = 0 ∨ y = 1) : STEP i MX11_index MX12_index iv [nIAE, nISE] [.int (ii x), .int (ii y)] σ := by
  have hM := h
  obtain ⟨T, G, hA, hM⟩ := hM
  obtain ⟨hX, h6, hpl, hnd⟩ := hM.1 8
  have h7 := hM.2 7
  have px := fun s => sp_mIn (σ := s) (x := x) (y := 0) (z := 71) hx0 (by unfold xr; omega) (by unfold xr; omega)
  have hat : -1 ≤ fstIs (σ 249) (-1) 0 3 ∧ fstIs (σ 249) (-1) 0 3 < 3 ∧ (fstIs (σ 249) (-1) 0 3 ≠ -1 → σ 249 (fstIs (σ 249) (-1) 0 3) = -1) := by
    unfold fstIs fstIs fstIs fstIs
    by_cases w0 : σ 249 0 = -1
    · simp [w0]
    · by_cases w1 : σ 249 1 = -1
      · simp [w0, w1]
      · by_cases w2 : σ 249 2 = -1 <;> simp [w0, w1, w2]
  obtain ⟨at9, hat9⟩ : ∃ a, fstIs (σ 249) (-1) 0 3 = a := ⟨_, rfl⟩
  obtain ⟨bx, hbx⟩ : ∃ b, ixs σ x 0 (ixs σ x 1 (ixs σ x 2 true)) = b := ⟨_, rfl⟩
  rw [hat9] at hat
  have hxa : xr at9 := by unfold xr; omega
  -- to the question
  have from69 : ∀ (s : xSig) (a b : Bool), a = decide (0 ≤ x ∧ x ≤ 71) → b = (bx && decide (at9 ≠ -1)) → ∀ {o : xO} {Y : xS}, x_E MX12_index 0 0 92 [some (.ref 281), some (.int (ii x)), some (.int (ii y)), some (.int (ii (bi bx))), some (.int (ii at9)), some (.int (ii (-1)))] [.int (ii (bi b)), .int (ii (bi a)), .ref 281] (St s) 0 0 o Y → x_E MX12_index 0 0 69 [some (.ref 281), some (.int (ii x)), some (.int (ii y)), some (.int (ii (bi bx))), some (.int (ii at9)), some (.int (ii (-1)))] [] (St s) 0 0 o Y := by
    intro s a b ha hb o Y kk
    rw [ha] at kk
    refine e_aload_n 36 70 rfl rfl rfl rfl ?_
    refine e_iload_n 37 71 rfl rfl rfl rfl ?_
    refine e_iconst 38 72 rfl rfl ?_
    refine e_bipush 39 74 rfl rfl rfl ?_
    refine g_callS 40 77 (px s) okX12_in csX12_175 ⟨(Nat.le_of_ble_eq_true rfl), (Nat.le_of_ble_eq_true rfl)⟩ rfl rfl rfl rfl (Nat.le_of_ble_eq_true rfl) (Nat.le_of_ble_eq_true rfl) (Nat.le_of_ble_eq_true rfl) ?_
    refine e_iload_n 41 78 rfl rfl rfl rfl ?_
    refine e_ifb_eq 42 91 81 rfl rfl rfl (fun hq => ?_) (fun hq => ?_)
    · skip
      rw [hb, hq, Bool.false_and] at kk
      rw [hq]
      refine e_iconst 48 92 rfl rfl ?_
      exact kk
    · skip
      rw [hb, hq, Bool.true_and] at kk
      rw [hq]
      refine e_iload 43 83 rfl rfl rfl ?_
      refine e_iconst 44 84 rfl rfl ?_
      refine e_icmp_eq 45 91 87 rfl rfl rfl hxa (by unfold xr at *; omega) (fun h1 => ?_) (fun h1 => ?_)
      · skip
        rw [decF (fun q => q (by omega))] at kk
        refine e_iconst 48 92 rfl rfl ?_
        exact kk
      · skip
        rw [decT (by omega)] at kk
        refine e_iconst 46 88 rfl rfl ?_
        refine e_goto 47 92 rfl rfl ?_
        exact kk
  have refu : ∀ (s : xSig) (a b : Bool), (a && (b && true)) = false → x_E MX12_index 0 0 92 [some (.ref 281), some (.int (ii x)), some (.int (ii y)), some (.int (ii (bi bx))), some (.int (ii at9)), some (.int (ii (-1)))] [.int (ii (bi b)), .int (ii (bi a)), .ref 281] (St s) 0 0 (iv 0) (St (xu s 281 47 (gcode a b true))) := by
    intro s a b hz
    refine e_iconst 49 93 rfl rfl ?_
    refine g_callV 50 96 (sp_mGoes (a := a) (b := b) (c := true)) okX12_goes cvX12_167 ⟨(Nat.le_of_ble_eq_true rfl), (Nat.le_of_ble_eq_true rfl)⟩ rfl rfl (Nat.le_of_ble_eq_true rfl) rfl rfl rfl rfl rfl (Nat.le_of_ble_eq_true rfl) (Nat.le_of_ble_eq_true rfl) (Nat.le_of_ble_eq_true rfl) ?_
    refine e_ifb_ne 51 101 99 rfl rfl rfl (fun hb => ?_) (fun hb => ?_)
    · skip
      exfalso
      rw [hz] at hb
      cases hb
    · skip
      refine e_iconst 52 100 rfl rfl ?_
      exact e_ireturn 53 rfl rfl (Nat.le_of_ble_eq_true rfl) (Nat.le_of_ble_eq_true rfl)
  have walk : ∀ (s : xSig) (τ : xSig), τ = σ → (∀ k : Int, 0 ≤ k → k < 3 → s 288 k = bi (ihas σ k) ∧ (ihas σ k = true → s 287 k = σ 249 k ∧ s 289 k = σ 250 k)) → ∀ {o : xO} {Y : xS}, x_E MX12_index 0 0 69 [some (.ref 281), some (.int (ii x)), some (.int (ii y)), some (.int (ii (bi bx))), some (.int (ii at9)), some (.int (ii (-1)))] [] (St s) 0 0 o Y → x_Sp MX12_index 0 0 [.ref 281, .int (ii x), .int (ii y)] (St s) o Y := fun s τ _ h79 {o Y} kk => ix_walk hX h79 hx0 (by rw [hbx, hat9]; exact kk)
  by_cases hp : 0 ≤ x ∧ x < 72
  case neg =>
    exact STEP.refuse h 1 (by simp) (sp_indexX hx0 hp) (σ2 := xu σ 281 47 1) (y := 0) (walk σ σ rfl h7 (from69 σ false _ (decF (by omega)).symm rfl (refu σ false _ rfl))) (xu_same _ _ _ _) F47s
  have hbe : bx = decide (fstIs (σ 249) x 0 3 = -1) := by rw [← hbx, ixs_all hp.1]
  by_cases hc : at9 = -1 ∨ fstIs (σ 249) x 0 3 ≠ -1
  · have hb0 : (bx && decide (at9 ≠ -1)) = false := by
      rw [hbe]
      rcases hc with q | q
      · rw [show decide (at9 ≠ -1) = false from decF (fun w => w q), Bool.and_false]
      · rw [decF q, Bool.false_and]
    exact STEP.refuse h 2 (by simp) (sp_indexX2 hX hp (by rw [hat9]; exact hc)) (σ2 := xu σ 281 47 2) (y := 0) (walk σ σ rfl h7 (from69 σ true false (decT (by omega)).symm hb0.symm (refu σ true false rfl))) (xu_same _ _ _ _) F47s
  · have c1 : at9 ≠ -1 := fun q => hc (Or.inl q)
    have c2 : fstIs (σ 249) x 0 3 = -1 := by
      by_cases q : fstIs (σ 249) x 0 3 = -1
      · exact q
      · exact absurd (Or.inr q) hc
    have hb1 : (bx && decide (at9 ≠ -1)) = true := by rw [hbe, decT c2, decT c1]; rfl
    have x1 := sp_index1 hX hp hy (by rw [hat9]; exact c1) c2
    rw [hat9] at x1
    have hfree := hat.2.2 c1
    have fL : FP [(249, -1), (250, -1), (281, 47), (287, -1), (288, -1), (289, -1)] σ (xu (xu σ 249 at9 x) 250 at9 y) := (FP.rf.putA rfl).putA rfl
    have fL2 : FP [(249, -1), (250, -1), (281, 47), (287, -1), (288, -1), (289, -1)] σ (xu (xu (xu (xu (xu (xu σ 249 at9 x) 250 at9 y) 281 47 0) 288 at9 1) 287 at9 x) 289 at9 y) := FP.putA (FP.putA (FP.putA (fL.put rfl) rfl) rfl) rfl
    have h78 : ∀ k : Int, 0 ≤ k → k < 3 → xu (xu σ 249 at9 x) 250 at9 y 288 k = bi (ihas σ k) ∧ (ihas σ k = true → xu (xu σ 249 at9 x) 250 at9 y 287 k = σ 249 k ∧ xu (xu σ 249 at9 x) 250 at9 y 289 k = σ 250 k) := by
      intro k k0 k3
      rw [xu_other _ _ _ (by decide), xu_other _ _ _ (by decide), xu_other _ _ _ (by decide), xu_other _ _ _ (by decide), xu_other _ _ _ (by decide), xu_other _ _ _ (by decide)]
      exact h7 k k0 k3
    refine ⟨_, xu (xu (xu (xu (xu (xu σ 249 at9 x) 250 at9 y) 281 47 0) 288 at9 1) 287 at9 x) 289 at9 y, 0, at9, at9, ⟨by omega, by simp⟩, fun _ => x1, fun q => absurd rfl q, walk _ σ rfl h78 (from69 _ true true (decT (by omega)).symm hb1.symm ?_), ?_, fun _ => rfl, ?_⟩
    · skip
      refine e_iconst 49 93 rfl rfl ?_
      refine g_callV 50 96 (sp_mGoesT) okX12_goes cvX12_167 ⟨(Nat.le_of_ble_eq_true rfl), (Nat.le_of_ble_eq_true rfl)⟩ rfl rfl (Nat.le_of_ble_eq_true rfl) rfl rfl rfl rfl rfl (Nat.le_of_ble_eq_true rfl) (Nat.le_of_ble_eq_true rfl) (Nat.le_of_ble_eq_true rfl) ?_
      refine e_ifb_ne 51 101 99 rfl rfl rfl (fun q => ?_) (fun q => ?_)
      · skip
        refine e_aload_n 54 102 rfl rfl rfl rfl ?_
        refine g_getR 55 105 ckX12 flX12_29 rfl rfl (Nat.le_of_ble_eq_true rfl) rfl rfl ?_
        refine e_iload 56 107 rfl rfl rfl ?_
        refine e_iconst 57 108 rfl rfl ?_
        refine g_bastore 58 109 rfl rfl (by omega) (Nat.le_of_ble_eq_true rfl) rfl (by omega) (by omega) (by omega) ?_
        refine e_aload_n 59 110 rfl rfl rfl rfl ?_
        refine g_getR 60 113 ckX12 flX12_26 rfl rfl (Nat.le_of_ble_eq_true rfl) rfl rfl ?_
        refine e_iload 61 115 rfl rfl rfl ?_
        refine e_iload_n 62 116 rfl rfl rfl rfl ?_
        refine g_iastore 63 117 rfl rfl (Nat.le_of_ble_eq_true rfl) rfl (by omega) (by omega) (by omega) ?_
        refine e_aload_n 64 118 rfl rfl rfl rfl ?_
        refine g_getR 65 121 ckX12 flX12_32 rfl rfl (Nat.le_of_ble_eq_true rfl) rfl rfl ?_
        refine e_iload 66 123 rfl rfl rfl ?_
        refine e_iload_n 67 124 rfl rfl rfl rfl ?_
        refine g_bastore 68 125 rfl rfl hy (Nat.le_of_ble_eq_true rfl) rfl (by omega) (by omega) (by omega) ?_
        refine e_iload 69 127 rfl rfl rfl ?_
        exact e_ireturn 70 rfl rfl (Nat.le_of_ble_eq_true rfl) (Nat.le_of_ble_eq_true rfl)
      · skip
        cases q
    · rw [xu_other _ _ _ (by decide), xu_other _ _ _ (by decide), xu_other _ _ _ (by decide), xu_same]
    · have v249 : ∀ k : Int, xu (xu (xu (xu (xu (xu σ 249 at9 x) 250 at9 y) 281 47 0) 288 at9 1) 287 at9 x) 289 at9 y 249 k = if k = at9 then x else σ 249 k := fun k => by simp [xu]
      have v250 : ∀ k : Int, xu (xu (xu (xu (xu (xu σ 249 at9 x) 250 at9 y) 281 47 0) 288 at9 1) 287 at9 x) 289 at9 y 250 k = if k = at9 then y else σ 250 k := fun k => by simp [xu]
      have v287 : ∀ k : Int, xu (xu (xu (xu (xu (xu σ 249 at9 x) 250 at9 y) 281 47 0) 288 at9 1) 287 at9 x) 289 at9 y 287 k = if k = at9 then x else σ 287 k := fun k => by simp [xu]
      have v288 : ∀ k : Int, xu (xu (xu (xu (xu (xu σ 249 at9 x) 250 at9 y) 281 47 0) 288 at9 1) 287 at9 x) 289 at9 y 288 k = if k = at9 then 1 else σ 288 k := fun k => by simp [xu]
      have v289 : ∀ k : Int, xu (xu (xu (xu (xu (xu σ 249 at9 x) 250 at9 y) 281 47 0) 288 at9 1) 287 at9 x) 289 at9 y 289 k = if k = at9 then y else σ 289 k := fun k => by simp [xu]
      generalize xu (xu (xu (xu (xu (xu σ 249 at9 x) 250 at9 y) 281 47 0) 288 at9 1) 287 at9 x) 289 at9 y = τ at *
      have ehn : ∀ k : Int, k ≠ at9 → ihas τ k = ihas σ k := fun k hk => by unfold ihas; rw [v249, if_neg hk]
      have eha : ihas τ at9 = true := by unfold ihas; rw [v249, if_pos rfl, decT (by omega)]
      have ena : ihas σ at9 = false := by unfold ihas; rw [hfree, decF (by omega)]
      have cel : ∀ b : Nat, b ≠ 249 → b ≠ 250 → b < 281 → τ b = σ b := fun b b1 b2 b3 => fL2.cell b (by simp only [List.all_cons, List.all_nil, Bool.and_true, bne_iff_ne, Bool.and_eq_true]; omega)
      have epl : plC τ = plC σ := by unfold plC; rw [cel 248 (by decide) (by decide) (by decide), cel 251 (by decide) (by decide) (by decide), cel 252 (by decide) (by decide) (by decide), cel 253 (by decide) (by decide) (by decide)]
      refine INV.go _ [8] [7] hA hM fL2 (by decide +kernel) rfl rfl (alc ?_ al0) (alc ?_ al0)
      · refine ⟨⟨fun k => ?_, fun k => ?_, ?_, ?_, ?_, ?_⟩, ?_, ?_, ?_⟩
        · rw [v249]
          split
          · omega
          · exact hX.1 k
        · rw [v250]
          split
          · omega
          · exact hX.2.1 k
        · rw [cel 248 (by decide) (by decide) (by decide)]; exact hX.2.2.1
        · rw [cel 251 (by decide) (by decide) (by decide)]; exact hX.2.2.2.1
        · rw [cel 252 (by decide) (by decide) (by decide)]; exact hX.2.2.2.2.1
        · rw [cel 253 (by decide) (by decide) (by decide)]; exact hX.2.2.2.2.2
        · rw [cel 248 (by decide) (by decide) (by decide)]; omega
        · rw [epl]
          intro q hq
          obtain ⟨r1, r2⟩ := hpl q hq
          refine ⟨r1, r2.imp (fun w => w) (fun w => ?_)⟩
          have hne : q.2.1 ≠ at9 := fun e => by rw [e, ena] at w; cases w.1
          refine ⟨by rw [ehn _ hne]; exact w.1, ?_⟩
          have : pxs τ q.2.1 = pxs σ q.2.1 := by unfold pxs; rw [v249, if_neg hne]
          rw [this]
          exact w.2
        · rw [epl]; exact hnd
      · intro k k0 k3
        rw [v287, v288, v289, v249, v250]
        by_cases w : k = at9
        · rw [if_pos w, if_pos w, if_pos w, if_pos w, if_pos w, w, eha]
          exact ⟨rfl, fun _ => ⟨rfl, rfl⟩⟩
        · rw [if_neg w, if_neg w, if_neg w, if_neg w, if_neg w, ehn k w]
          exact h7 k k0 k3
