/-! ===== steps: moves ===== -/
theorem decT {p : Prop} [Decidable p] (h : p) : decide p = true := decide_eq_true h
theorem hmv_t {σ : xSig} (h : σ 231 11 ≠ -1) : hmv σ = true := decide_eq_true h
theorem hmv_f {σ : xSig} (h : σ 231 11 = -1) : hmv σ = false := decide_eq_false (fun q => q h)
theorem zr_at {σ : xSig} {a : Nat} {i j : Int} (h : 0 ≤ j ∧ j < i) : zr σ a i a j = 0 := by
  unfold zr
  rw [if_pos ⟨rfl, h.1, h.2⟩]
theorem emv_f (σ : xSig) : FP [(235, -1), (231, 11), (231, 12)] σ (emv σ) := (((zr_f σ 235 100).mono rfl).put rfl).put rfl
/-- after a move's end: the class's rows that hang on it -/
theorem emv_K {i : Nat} {σ σ' : xSig} {T : Nat → List Int} {G : Nat → Fo} (h6 : KIc i σ T G 6) (h1 : σ' 231 = emv σ 231) (h2 : σ' 232 = σ 232) (h3 : σ' 233 = σ 233) (h5 : σ' 235 = emv σ 235) : KIc (i + 1) σ' T G 6 ∧ KIc (i + 1) σ' T G 7 := by
  obtain ⟨hC, q2, q3, q4, q5, q6, q7⟩ := h6
  obtain ⟨c1, c2, c3, c4, c5, c6, c7, c8⟩ := hC
  have e11 : σ' 231 11 = -1 := by rw [h1]; simp [emv, xu]
  have e12 : σ' 231 12 = -1 := by rw [h1]; simp [emv, xu]
  have ej : ∀ j : Int, j ≠ 11 → j ≠ 12 → σ' 231 j = σ 231 j := fun j a b => by rw [h1]; simp [emv, xu, zr, a, b]
  have e5 : ∀ j : Int, σ' 235 j = 0 ∨ σ' 235 j = 1 := fun j => by
    rw [h5]
    show emv σ 235 j = 0 ∨ emv σ 235 j = 1
    unfold emv
    rw [xu_other _ _ _ (by decide), xu_other _ _ _ (by decide)]
    unfold zr
    split
    · exact Or.inl rfl
    · exact c8 j
  refine ⟨⟨⟨?_, ?_, ?_, ?_, ?_, ?_, ?_, e5⟩, ?_, ?_, ?_, ?_, ?_, ?_⟩, fun n hn h9 => ?_⟩
  · rw [ej 7 (by decide) (by decide)]; exact c1
  · rw [ej 9 (by decide) (by decide)]; exact c2
  · rw [ej 10 (by decide) (by decide)]; exact c3
  · rw [e11]; omega
  · rw [e12]; omega
  · rw [h2]; exact c6
  · rw [h3]; exact c7
  · rw [h2]; exact q2
  · rw [h2, ej 7 (by decide) (by decide)]; exact q3
  · rw [h2, ej 7 (by decide) (by decide)]; exact q4
  · rw [e11, ej 7 (by decide) (by decide)]; omega
  · intro _; exact e12
  · intro q; exact absurd e11 q
  · exfalso
    have : σ' 235 n = 0 := by
      rw [h5]
      unfold emv
      rw [xu_other _ _ _ (by decide), xu_other _ _ _ (by decide)]
      exact zr_at ⟨by omega, by omega⟩
    omega
theorem st_giveUp {i : Nat} {σ : xSig} (h : INV i σ) : STEP i MX11_giveUp MX12_giveUp iv [nISE] [] σ := by
  have hM := h
  obtain ⟨T, G, hA, hM⟩ := hM
  obtain ⟨hC, hz, hinc, -, hmv9, ht1, ht2⟩ := hM.1 6
  obtain ⟨z, z1, z2, z3, z4⟩ := mfrom hC hinc hmv9 (hM.2 13)
  by_cases e : σ 231 11 = -1
  · have zz := z3.mpr e
    refine STEP.refuse h 1 (by simp) (sp_giveUpX hC (hmv_f e)) (σ2 := xu σ 281 47 1) (y := 0) ?_ (xu_same _ _ _ _) F47s
    refine e_entry okX12_giveUp (Nat.le_of_ble_eq_true rfl) (ls := [some _, none]) rfl ?_
    refine e_aload_n 0 1 rfl rfl rfl rfl ?_
    refine e_aload_n 1 2 rfl rfl rfl rfl ?_
    refine g_getI 2 5 25 ckX12 flX12_63 rfl rfl (Nat.le_of_ble_eq_true rfl) rfl rfl rfl z1 ?_
    refine e_iconst 3 6 rfl rfl ?_
    refine e_icmp_eq 4 13 9 rfl rfl rfl z2 (by unfold xr at *; omega) (fun _ => ?_) (fun h9 => absurd h9 (fun q => q zz))
    refine e_iconst 7 14 rfl rfl ?_
    refine e_iconst 8 15 rfl rfl ?_
    refine e_iconst 9 16 rfl rfl ?_
    refine g_callV 10 19 (sp_mGoes (a := false) (b := true) (c := true)) okX12_goes cvX12_167 ⟨(Nat.le_of_ble_eq_true rfl), (Nat.le_of_ble_eq_true rfl)⟩ rfl rfl (Nat.le_of_ble_eq_true rfl) rfl rfl rfl rfl rfl (Nat.le_of_ble_eq_true rfl) (Nat.le_of_ble_eq_true rfl) (Nat.le_of_ble_eq_true rfl) ?_
    refine e_ifb_ne 11 24 22 rfl rfl rfl (fun hb => ?_) (fun hb => ?_)
    · skip
      cases hb
    · skip
      refine e_iconst 12 23 rfl rfl ?_
      exact e_ireturn 13 rfl rfl (Nat.le_of_ble_eq_true rfl) (Nat.le_of_ble_eq_true rfl)
  · have zz : ¬ z = -1 := fun q => e (z3.mp q)
    have f1 := emv_f σ
    have f2 : FP [(235, -1), (231, 11), (231, 12), (281, 47), (281, 25), (299, -1)] σ (xu (emv σ) 281 47 0) := (f1.mono rfl).put rfl
    have hM0 : RMc σ G (xu (emv σ) 281 47 0) 14 ∧ ∀ n : Nat, n < 100 → xu (emv σ) 281 47 0 283 n = bi (hasd σ n) := ⟨fun n hn => by rw [show xu (emv σ) 281 47 0 299 n = σ 299 n by simp [xu, emv, zr]]; exact hM.2 14 n hn, fun n hn => by rw [f2.cell 283 rfl]; exact hM.2 3 n hn⟩
    have hcp := sp_mCopies (τ := σ) (σ := xu (emv σ) 281 47 0) hM0.2 (fun n hn => by rw [hM0.1 n hn]; exact hC.2.2.2.2.2.2.2 n)
    rw [mcp_eq (hM.1 7) hM0.1] at hcp
    have z1' : emv σ 281 25 = z := by rw [f1 281 25 rfl]; exact z1
    refine ⟨_, zr (xu (xu (emv σ) 281 47 0) 281 25 (-1)) 299 100, 0, _, _, ⟨by omega, by simp⟩, fun _ => sp_giveUp1 hC (hmv_t e), fun q => absurd rfl q, (?_ : x_Sp MX12_giveUp 0 0 _ _ (iv (ncp σ)) _), by rw [zr_other _ _ (by decide)]; simp [xu], fun _ => rfl, ?_⟩
    · skip
      refine e_entry okX12_giveUp (Nat.le_of_ble_eq_true rfl) (ls := [some _, none]) rfl ?_
      refine e_aload_n 0 1 rfl rfl rfl rfl ?_
      refine e_aload_n 1 2 rfl rfl rfl rfl ?_
      refine g_getI 2 5 25 ckX12 flX12_63 rfl rfl (Nat.le_of_ble_eq_true rfl) rfl rfl rfl z1' ?_
      refine e_iconst 3 6 rfl rfl ?_
      refine e_icmp_eq 4 13 9 rfl rfl rfl z2 (by unfold xr at *; omega) (fun h9 => absurd h9 zz) (fun _ => ?_)
      refine e_iconst 5 10 rfl rfl ?_
      refine e_goto 6 14 rfl rfl ?_
      refine e_iconst 8 15 rfl rfl ?_
      refine e_iconst 9 16 rfl rfl ?_
      refine g_callV 10 19 (sp_mGoes (a := true) (b := true) (c := true)) okX12_goes cvX12_167 ⟨(Nat.le_of_ble_eq_true rfl), (Nat.le_of_ble_eq_true rfl)⟩ rfl rfl (Nat.le_of_ble_eq_true rfl) rfl rfl rfl rfl rfl (Nat.le_of_ble_eq_true rfl) (Nat.le_of_ble_eq_true rfl) (Nat.le_of_ble_eq_true rfl) ?_
      refine e_ifb_ne 11 24 22 rfl rfl rfl (fun hb => ?_) (fun hb => ?_)
      · skip
        refine e_aload_n 14 25 rfl rfl rfl rfl ?_
        refine g_callV 15 28 (hcp) okX12_copies cvX12_337 ⟨(Nat.le_of_ble_eq_true rfl), (Nat.le_of_ble_eq_true rfl)⟩ rfl rfl (Nat.le_of_ble_eq_true rfl) rfl rfl rfl rfl rfl (Nat.le_of_ble_eq_true rfl) (Nat.le_of_ble_eq_true rfl) (Nat.le_of_ble_eq_true rfl) ?_
        refine e_istore_n 16 29 (ls' := [some _, some _]) rfl rfl rfl (Nat.le_of_ble_eq_true rfl) rfl ?_
        refine e_aload_n 17 30 rfl rfl rfl rfl ?_
        refine e_iconst 18 31 rfl rfl ?_
        refine g_putI 19 34 25 ckX12 flX12_63 rfl rfl (Nat.le_of_ble_eq_true rfl) rfl rfl rfl ?_
        refine e_aload_n 20 35 rfl rfl rfl rfl ?_
        refine g_callV 21 38 (sp_mForgets) okX12_forgets cvX12_331 ⟨(Nat.le_of_ble_eq_true rfl), (Nat.le_of_ble_eq_true rfl)⟩ rfl rfl (Nat.le_of_ble_eq_true rfl) rfl rfl rfl rfl rfl (Nat.le_of_ble_eq_true rfl) (Nat.le_of_ble_eq_true rfl) (Nat.le_of_ble_eq_true rfl) ?_
        refine e_iload_n 22 39 rfl rfl rfl rfl ?_
        exact e_ireturn 23 rfl rfl (Nat.le_of_ble_eq_true rfl) (Nat.le_of_ble_eq_true rfl)
      · skip
        cases hb
    · have f3 : FP [(235, -1), (231, 11), (231, 12), (281, 47), (281, 25), (299, -1)] σ (zr (xu (xu (emv σ) 281 47 0) 281 25 (-1)) 299 100) := (f2.put rfl).tr ((zr_f _ _ _).mono rfl)
      have g1 : ∀ b : Nat, b < 281 → zr (xu (xu (emv σ) 281 47 0) 281 25 (-1)) 299 100 b = emv σ b := fun b hb => by rw [zr_other _ _ (by omega), xu_other _ _ _ (by omega), xu_other _ _ _ (by omega)]
      have k67 := emv_K (hM.1 6) (σ' := zr (xu (xu (emv σ) 281 47 0) 281 25 (-1)) 299 100) (g1 231 (by omega)) (f3.cell 232 rfl) (f3.cell 233 rfl) (g1 235 (by omega))
      refine INV.go _ [6, 7] [13, 14] hA hM f3 (by decide +kernel) rfl rfl (alc k67.1 (alc k67.2 al0)) (alc ?_ (alc ?_ al0))
      · have e11 : zr (xu (xu (emv σ) 281 47 0) 281 25 (-1)) 299 100 231 11 = -1 := by rw [g1 231 (by omega)]; simp [emv, xu]
        refine ⟨fun _ => ?_, fun q => absurd e11 q⟩
        rw [zr_other _ _ (by decide)]
        simp [xu]
      · intro n hn
        rw [zr_at ⟨by omega, by omega⟩, g1 235 (by omega)]
        unfold emv
        rw [xu_other _ _ _ (by decide), xu_other _ _ _ (by decide), zr_at ⟨by omega, by omega⟩]
theorem fmv1_f (σ : xSig) (T : Nat → List Int) : FP [(234, -1), (233, -1), (231, 8)] σ (fmv1 σ T) := ((FP.rf.putA rfl).putA rfl).put rfl
theorem st_handOver {i : Nat} {σ : xSig} (h : INV i σ) : STEP i MX11_handOver MX12_handOver iv [nISE] [] σ := by
  have hM := h
  obtain ⟨T, G, hA, hM⟩ := hM
  have h01 := (hM.1 4).1
  obtain ⟨hC, hz, hinc, hlt, hmv9, ht1, ht2⟩ := hM.1 6
  obtain ⟨z, z1, z2, z3, z4⟩ := mfrom hC hinc hmv9 (hM.2 13)
  have h11 := hC.2.2.2.1
  by_cases e : σ 231 11 = -1
  · have zz := z3.mpr e
    refine STEP.refuse h 1 (by simp) (sp_handOverX hA h01 hC (Or.inl (hmv_f e))) (σ2 := xu σ 281 47 1) (y := 0) ?_ (xu_same _ _ _ _) F47s
    refine e_entry okX12_handOver (Nat.le_of_ble_eq_true rfl) (ls := [some _, none, none]) rfl ?_
    refine e_aload_n 0 1 rfl rfl rfl rfl ?_
    refine g_getI 1 4 25 ckX12 flX12_63 rfl rfl (Nat.le_of_ble_eq_true rfl) rfl rfl rfl z1 ?_
    refine e_iconst 2 5 rfl rfl ?_
    refine e_icmp_ne 3 12 8 rfl rfl rfl z2 (by unfold xr at *; omega) (fun h9 => absurd h9 (fun q => q zz)) (fun _ => ?_)
    refine e_iconst 4 9 rfl rfl ?_
    refine e_goto 5 20 rfl rfl ?_
    refine e_istore_n 10 21 (ls' := [some _, some _, none]) rfl rfl rfl (Nat.le_of_ble_eq_true rfl) rfl ?_
    refine e_aload_n 11 22 rfl rfl rfl rfl ?_
    refine e_aload_n 12 23 rfl rfl rfl rfl ?_
    refine g_getI 13 26 25 ckX12 flX12_63 rfl rfl (Nat.le_of_ble_eq_true rfl) rfl rfl rfl z1 ?_
    refine e_iconst 14 27 rfl rfl ?_
    refine e_icmp_eq 15 42 30 rfl rfl rfl z2 (by unfold xr at *; omega) (fun _ => ?_) (fun h9 => absurd h9 (fun q => q zz))
    refine e_iconst 22 43 rfl rfl ?_
    refine e_iconst 23 44 rfl rfl ?_
    refine e_iconst 24 45 rfl rfl ?_
    refine g_callV 25 48 (sp_mGoes (a := false) (b := true) (c := true)) okX12_goes cvX12_167 ⟨(Nat.le_of_ble_eq_true rfl), (Nat.le_of_ble_eq_true rfl)⟩ rfl rfl (Nat.le_of_ble_eq_true rfl) rfl rfl rfl rfl rfl (Nat.le_of_ble_eq_true rfl) (Nat.le_of_ble_eq_true rfl) (Nat.le_of_ble_eq_true rfl) ?_
    refine e_ifb_ne 26 53 51 rfl rfl rfl (fun hb => ?_) (fun hb => ?_)
    · skip
      cases hb
    · skip
      refine e_iconst 27 52 rfl rfl ?_
      exact e_ireturn 28 rfl rfl (Nat.le_of_ble_eq_true rfl) (Nat.le_of_ble_eq_true rfl)
  · have zz : ¬ z = -1 := fun q => e (z3.mp q)
    have hsp := cin_split (hM.1 7) hC.2.2.2.2.2.2.2
    have hcb := clf_bnd σ T
    have hnb : 0 ≤ ncp σ ∧ ncp σ ≤ 100 := smN_01 (fun i => by split <;> simp) 100 0
    -- the walk up to the question, from any numbers that say the same
    have pre : ∀ (σ0 : xSig), FP [(234, -1), (233, -1), (231, 8), (235, -1), (231, 11), (231, 12)] σ σ0 → ∃ σ1, FP m11 σ0 σ1 ∧ ∀ {o : xO} {Y : xS} (b : Bool), b = decide (clf σ T = 0) → x_E MX12_handOver 0 0 43 [some (.ref 281), some (.int (ii (cin σ T (σ 231 11)))), none] [.int (ii (bi b)), .ref 281] (St σ1) 0 0 o Y → x_Sp MX12_handOver 0 0 [.ref 281] (St σ0) o Y := by
      intro σ0 g0
      have hC0 := hM.chm.fp g0 rfl
      have hD0 := hM.docm.fp g0 rfl
      have hz0 : σ0 281 25 = z := by rw [g0 281 25 rfl]; exact z1
      have h130 : (σ 231 11 = -1 → σ0 281 25 = -1) ∧ (σ 231 11 ≠ -1 → σ0 281 25 = σ 232 (σ 231 11) ∧ σ0 281 26 = σ 231 12) := by
        rw [g0 281 25 rfl, g0 281 26 rfl]; exact hM.2 13
      have hmo := sp_mMoving hC0 hinc hmv9 h130
      obtain ⟨σ1, c1, f1⟩ := sp_mDocsOf hC0 hD0 (c := σ 231 11) (by unfold xr; omega)
      have hz1 : σ1 281 25 = z := by rw [f1 281 25 rfl]; exact hz0
      have h14 : RMc σ G σ1 14 := fun n hn => by rw [f1.cell 299 rfl, g0.cell 299 rfl]; exact hM.2 14 n hn
      have hcp := sp_mCopies (τ := σ) (σ := σ1) (hD0.fp f1 rfl).2 (fun n hn => by rw [h14 n hn]; exact hC.2.2.2.2.2.2.2 n)
      rw [mcp_eq (hM.1 7) h14] at hcp
      refine ⟨σ1, f1, fun {o Y} b hb kk => ?_⟩
      refine e_entry okX12_handOver (Nat.le_of_ble_eq_true rfl) (ls := [some _, none, none]) rfl ?_
      refine e_aload_n 0 1 rfl rfl rfl rfl ?_
      refine g_getI 1 4 25 ckX12 flX12_63 rfl rfl (Nat.le_of_ble_eq_true rfl) rfl rfl rfl hz0 ?_
      refine e_iconst 2 5 rfl rfl ?_
      refine e_icmp_ne 3 12 8 rfl rfl rfl z2 (by unfold xr at *; omega) (fun _ => ?_) (fun h9 => absurd h9 zz)
      refine e_aload_n 6 13 rfl rfl rfl rfl ?_
      refine e_aload_n 7 14 rfl rfl rfl rfl ?_
      refine g_callV 8 17 (hmo) okX12_moving cvX12_240 ⟨(Nat.le_of_ble_eq_true rfl), (Nat.le_of_ble_eq_true rfl)⟩ rfl rfl (Nat.le_of_ble_eq_true rfl) rfl rfl rfl rfl rfl (Nat.le_of_ble_eq_true rfl) (Nat.le_of_ble_eq_true rfl) (Nat.le_of_ble_eq_true rfl) ?_
      refine g_callV 9 20 (c1) okX12_documentsOf cvX12_334 ⟨(Nat.le_of_ble_eq_true rfl), (Nat.le_of_ble_eq_true rfl)⟩ rfl rfl (Nat.le_of_ble_eq_true rfl) rfl rfl rfl rfl rfl (Nat.le_of_ble_eq_true rfl) (Nat.le_of_ble_eq_true rfl) (Nat.le_of_ble_eq_true rfl) ?_
      refine e_istore_n 10 21 (ls' := [some _, some _, none]) rfl rfl rfl (Nat.le_of_ble_eq_true rfl) rfl ?_
      refine e_aload_n 11 22 rfl rfl rfl rfl ?_
      refine e_aload_n 12 23 rfl rfl rfl rfl ?_
      refine g_getI 13 26 25 ckX12 flX12_63 rfl rfl (Nat.le_of_ble_eq_true rfl) rfl rfl rfl hz1 ?_
      refine e_iconst 14 27 rfl rfl ?_
      refine e_icmp_eq 15 42 30 rfl rfl rfl z2 (by unfold xr at *; omega) (fun h9 => absurd h9 zz) (fun _ => ?_)
      refine e_aload_n 16 31 rfl rfl rfl rfl ?_
      refine g_callV 17 34 (hcp) okX12_copies cvX12_337 ⟨(Nat.le_of_ble_eq_true rfl), (Nat.le_of_ble_eq_true rfl)⟩ rfl rfl (Nat.le_of_ble_eq_true rfl) rfl rfl rfl rfl rfl (Nat.le_of_ble_eq_true rfl) (Nat.le_of_ble_eq_true rfl) (Nat.le_of_ble_eq_true rfl) ?_
      refine e_iload_n 18 35 rfl rfl rfl rfl ?_
      refine e_icmp_ne 19 42 38 rfl rfl rfl (by unfold xr at *; omega) (by unfold xr at *; omega) (fun hq => ?_) (fun hq => ?_)
      · skip
        rw [decide_eq_false (by omega)] at hb
        subst hb
        refine e_iconst 22 43 rfl rfl ?_
        exact kk
      · skip
        rw [decide_eq_true (by omega)] at hb
        subst hb
        refine e_iconst 20 39 rfl rfl ?_
        refine e_goto 21 43 rfl rfl ?_
        exact kk
    by_cases hl : clf σ T = 0
    · have hm9 : 0 ≤ σ 231 11 ∧ σ 231 11 < σ 231 7 := ⟨by omega, hmv9⟩
      have hcl := sp_handOver1 hA h01 hC hm9 hl
      have fe : FP [(234, -1), (233, -1), (231, 8), (235, -1), (231, 11), (231, 12)] σ (emv (fmv1 σ T)) := ((fmv1_f σ T).mono rfl).tr ((emv_f _).mono rfl)
      obtain ⟨σ1, f1, st⟩ := pre _ fe
      have g1 := fe.mono (K := [(234, -1), (233, -1), (231, 8), (235, -1), (231, 11), (231, 12), (311, -1)]) rfl |>.tr (f1.mono rfl)
      have f0 : FP [(281, 47)] σ1 (xu σ1 281 47 0) := F47
      have hC1 : CHM σ (xu σ1 281 47 0) := (hM.chm.fp g1 rfl).fp f0 rfl
      have h131 : (σ 231 11 = -1 → xu σ1 281 47 0 281 25 = -1) ∧ (σ 231 11 ≠ -1 → xu σ1 281 47 0 281 25 = σ 232 (σ 231 11) ∧ xu σ1 281 47 0 281 26 = σ 231 12) := by
        rw [f0 281 25 rfl, f0 281 26 rfl, g1 281 25 rfl, g1 281 26 rfl]; exact hM.2 13
      have hmo := sp_mMoving hC1 hinc hmv9 h131
      have e298 : xu σ1 281 47 0 298 (σ 231 11) = σ 233 (σ 231 11) := (hC1.2.1.2 _ hm9.1 hm9.2).2
      have h7b := hC.1
      have h33 := hC.2.2.2.2.2.2.1 (σ 231 11)
      have o1 : xu σ1 281 47 0 300 (σ 233 (σ 231 11)) = σ 234 (σ 233 (σ 231 11)) := by rw [f0.cell 300 rfl, g1.cell 300 rfl]; exact hM.2 15 _ h33.1 h33.2
      have o2 : xu (xu σ1 281 47 0) 300 (σ 233 (σ 231 11)) (σ 234 (σ 233 (σ 231 11)) + cin σ T (σ 231 11)) 281 26 = σ 231 12 := by rw [xu_other _ _ _ (by decide)]; exact (h131.2 e).2
      have o3 : zr (xu (xu (xu (xu σ1 281 47 0) 300 (σ 233 (σ 231 11)) (σ 234 (σ 233 (σ 231 11)) + cin σ T (σ 231 11))) 298 (σ 231 11) (σ 231 12)) 281 25 (-1)) 299 100 281 31 = σ 231 8 := by
        rw [zr_other _ _ (by decide)]
        have : σ1 281 31 = σ 231 8 := by rw [g1 281 31 rfl]; exact hM.2 17
        simp [xu, this]
      refine ⟨_, xu (zr (xu (xu (xu (xu σ1 281 47 0) 300 (σ 233 (σ 231 11)) (σ 234 (σ 233 (σ 231 11)) + cin σ T (σ 231 11))) 298 (σ 231 11) (σ 231 12)) 281 25 (-1)) 299 100) 281 31 (σ 231 8 + 1), 0, _, _, ⟨by omega, by simp⟩, fun _ => hcl, fun q => absurd rfl q, (?_ : x_Sp MX12_handOver 0 0 _ _ (iv (cin σ T (σ 231 11))) _), ?_, fun _ => rfl, ?_⟩
      · refine st true (decide_eq_true hl).symm ?_
        refine e_iconst 23 44 rfl rfl ?_
        refine e_iconst 24 45 rfl rfl ?_
        refine g_callV 25 48 (sp_mGoes (a := true) (b := true) (c := true)) okX12_goes cvX12_167 ⟨(Nat.le_of_ble_eq_true rfl), (Nat.le_of_ble_eq_true rfl)⟩ rfl rfl (Nat.le_of_ble_eq_true rfl) rfl rfl rfl rfl rfl (Nat.le_of_ble_eq_true rfl) (Nat.le_of_ble_eq_true rfl) (Nat.le_of_ble_eq_true rfl) ?_
        refine e_ifb_ne 26 53 51 rfl rfl rfl (fun hb => ?_) (fun hb => ?_)
        · skip
          refine e_aload_n 29 54 rfl rfl rfl rfl ?_
          refine g_callV 30 57 (hmo) okX12_moving cvX12_240 ⟨(Nat.le_of_ble_eq_true rfl), (Nat.le_of_ble_eq_true rfl)⟩ rfl rfl (Nat.le_of_ble_eq_true rfl) rfl rfl rfl rfl rfl (Nat.le_of_ble_eq_true rfl) (Nat.le_of_ble_eq_true rfl) (Nat.le_of_ble_eq_true rfl) ?_
          refine e_istore_n 31 58 (ls' := [some _, some _, some _]) rfl rfl rfl (Nat.le_of_ble_eq_true rfl) rfl ?_
          refine e_aload_n 32 59 rfl rfl rfl rfl ?_
          refine g_getR 33 62 ckX12 flX12_70 rfl rfl (Nat.le_of_ble_eq_true rfl) rfl rfl ?_
          refine e_aload_n 34 63 rfl rfl rfl rfl ?_
          refine g_getR 35 66 ckX12 flX12_60 rfl rfl (Nat.le_of_ble_eq_true rfl) rfl rfl ?_
          refine e_iload_n 36 67 rfl rfl rfl rfl ?_
          refine g_iaload 37 68 rfl rfl (Nat.le_of_ble_eq_true rfl) rfl (by omega) (by omega) (by omega) e298 ?_
          refine e_dup2 38 69 rfl rfl rfl rfl ?_
          refine g_iaload 39 70 rfl rfl (Nat.le_of_ble_eq_true rfl) rfl (by omega) (by omega) (by omega) o1 ?_
          refine e_iload_n 40 71 rfl rfl rfl rfl ?_
          refine e_iadd 41 72 rfl rfl ?_
          refine g_iastore 42 73 rfl rfl (Nat.le_of_ble_eq_true rfl) rfl (by omega) (by omega) (by omega) ?_
          refine e_aload_n 43 74 rfl rfl rfl rfl ?_
          refine g_getR 44 77 ckX12 flX12_60 rfl rfl (Nat.le_of_ble_eq_true rfl) rfl rfl ?_
          refine e_iload_n 45 78 rfl rfl rfl rfl ?_
          refine e_aload_n 46 79 rfl rfl rfl rfl ?_
          refine g_getI 47 82 26 ckX12 flX12_328 rfl rfl (Nat.le_of_ble_eq_true rfl) rfl rfl rfl o2 ?_
          refine g_iastore 48 83 rfl rfl (Nat.le_of_ble_eq_true rfl) rfl (by omega) (by omega) (by omega) ?_
          refine e_aload_n 49 84 rfl rfl rfl rfl ?_
          refine e_iconst 50 85 rfl rfl ?_
          refine g_putI 51 88 25 ckX12 flX12_63 rfl rfl (Nat.le_of_ble_eq_true rfl) rfl rfl rfl ?_
          refine e_aload_n 52 89 rfl rfl rfl rfl ?_
          refine g_callV 53 92 (sp_mForgets) okX12_forgets cvX12_331 ⟨(Nat.le_of_ble_eq_true rfl), (Nat.le_of_ble_eq_true rfl)⟩ rfl rfl (Nat.le_of_ble_eq_true rfl) rfl rfl rfl rfl rfl (Nat.le_of_ble_eq_true rfl) (Nat.le_of_ble_eq_true rfl) (Nat.le_of_ble_eq_true rfl) ?_
          refine e_aload_n 54 93 rfl rfl rfl rfl ?_
          refine e_dup 55 94 rfl rfl rfl ?_
          refine g_getI 56 97 31 ckX12 flX12_73 rfl rfl (Nat.le_of_ble_eq_true rfl) rfl rfl rfl o3 ?_
          refine e_iconst 57 98 rfl rfl ?_
          refine e_iadd 58 99 rfl rfl ?_
          refine g_putI 59 102 31 ckX12 flX12_73 rfl rfl (Nat.le_of_ble_eq_true rfl) rfl rfl rfl ?_
          refine e_iload_n 60 103 rfl rfl rfl rfl ?_
          exact e_ireturn 61 rfl rfl (Nat.le_of_ble_eq_true rfl) (Nat.le_of_ble_eq_true rfl)
        · skip
          cases hb
      · rw [xu_ne _ (Or.inr (by decide)), zr_other _ _ (by decide)]
        simp [xu]
      · have f4 : FP [(234, -1), (233, -1), (231, 8), (235, -1), (231, 11), (231, 12), (311, -1), (281, 47), (300, -1), (298, -1), (281, 25), (299, -1), (281, 31)] σ (xu (zr (xu (xu (xu (xu σ1 281 47 0) 300 (σ 233 (σ 231 11)) (σ 234 (σ 233 (σ 231 11)) + cin σ T (σ 231 11))) 298 (σ 231 11) (σ 231 12)) 281 25 (-1)) 299 100) 281 31 (σ 231 8 + 1)) := (((((((g1.mono rfl).put rfl).putA rfl).putA rfl).put rfl).tr ((zr_f _ _ _).mono rfl)).put rfl)
        generalize hσ2 : xu (zr (xu (xu (xu (xu σ1 281 47 0) 300 (σ 233 (σ 231 11)) (σ 234 (σ 233 (σ 231 11)) + cin σ T (σ 231 11))) 298 (σ 231 11) (σ 231 12)) 281 25 (-1)) 299 100) 281 31 (σ 231 8 + 1) = σ2 at f4
        have gc : ∀ b : Nat, b < 281 → σ2 b = emv (fmv1 σ T) b := fun b hb => by
          rw [← hσ2, xu_other _ _ _ (by omega), zr_other _ _ (by omega), xu_other _ _ _ (by omega), xu_other _ _ _ (by omega), xu_other _ _ _ (by omega), xu_other _ _ _ (by omega)]
          exact f1.cell b (by simp only [m11, List.all_cons, List.all_nil, Bool.and_true, bne_iff_ne]; omega)
        have m3 : ∀ j : Int, σ2 300 j = if j = σ 233 (σ 231 11) then σ 234 (σ 233 (σ 231 11)) + cin σ T (σ 231 11) else σ 300 j := fun j => by
          rw [← hσ2, xu_other _ _ _ (by decide), zr_other _ _ (by decide), xu_other _ _ _ (by decide), xu_other _ _ _ (by decide)]
          have : σ1 300 j = σ 300 j := by rw [g1.cell 300 rfl]
          simp [xu, this]
        have m4 : ∀ j : Int, σ2 298 j = if j = σ 231 11 then σ 231 12 else σ 298 j := fun j => by
          rw [← hσ2, xu_other _ _ _ (by decide), zr_other _ _ (by decide), xu_other _ _ _ (by decide)]
          have : σ1 298 j = σ 298 j := by rw [g1.cell 298 rfl]
          simp [xu, this]
        have c3 : ∀ j : Int, σ2 233 j = if j = σ 231 11 then σ 231 12 else σ 233 j := fun j => by
          rw [gc 233 (by omega)]
          simp [emv, xu, zr, fmv1]
        have c4 : ∀ j : Int, σ2 234 j = if j = σ 233 (σ 231 11) then σ 234 (σ 233 (σ 231 11)) + cin σ T (σ 231 11) else σ 234 j := fun j => by
          rw [gc 234 (by omega)]
          simp [emv, xu, zr, fmv1]
        have c8 : σ2 231 8 = σ 231 8 + 1 := by rw [gc 231 (by omega)]; simp [emv, xu, zr, fmv1]
        have c11 : σ2 231 11 = -1 := by rw [gc 231 (by omega)]; simp [emv, xu]
        have h6' : KIc i (fmv1 σ T) T G 6 := by
          obtain ⟨c1, c2, c3, c4, c5, c6, c7, c8⟩ := hC
          have q : ∀ j : Int, j ≠ 8 → fmv1 σ T 231 j = σ 231 j := fun j hj => by simp [fmv1, xu, hj]
          have q2 : fmv1 σ T 232 = σ 232 := (fmv1_f σ T).cell 232 rfl
          have q5 : fmv1 σ T 235 = σ 235 := (fmv1_f σ T).cell 235 rfl
          refine ⟨⟨?_, ?_, ?_, ?_, ?_, ?_, ?_, ?_⟩, ?_, ?_, ?_, ?_, ?_, ?_⟩
          · rw [q 7 (by decide)]; exact c1
          · rw [q 9 (by decide)]; exact c2
          · rw [q 10 (by decide)]; exact c3
          · rw [q 11 (by decide)]; exact c4
          · rw [q 12 (by decide)]; exact c5
          · rw [q2]; exact c6
          · intro j
            have : fmv1 σ T 233 j = if j = σ 231 11 then σ 231 12 else σ 233 j := by simp [fmv1, xu]
            rw [this]
            have := c7 j
            have := ht2 e
            split <;> omega
          · intro j; rw [q5]; exact c8 j
          · rw [q2]; exact hz
          · rw [q2, q 7 (by decide)]; exact hinc
          · rw [q2, q 7 (by decide)]; exact hlt
          · rw [q 11 (by decide), q 7 (by decide)]; exact hmv9
          · rw [q 11 (by decide), q 12 (by decide)]; exact ht1
          · rw [q 11 (by decide), q 12 (by decide)]; exact ht2
        have k67 := emv_K h6' (σ' := σ2) (gc 231 (by omega)) ((f4.cell 232 rfl).trans ((fmv1_f σ T).cell 232 rfl).symm) (by rw [gc 233 (by omega)]; exact (emv_f _).cell 233 rfl) (gc 235 (by omega))
        refine INV.go _ [6, 7, 12] [12, 13, 14, 15, 17] hA hM f4 (by decide +kernel) rfl rfl (alc k67.1 (alc k67.2 (alc ?_ al0))) (alc ?_ (alc ?_ (alc ?_ (alc ?_ (alc ?_ al0)))))
        · have q := hM.1 12
          have q1 := q.1
          refine ⟨by rw [c8]; omega, fun r r0 r2 => ?_⟩
          have := q.2 r r0 r2
          rw [f4.cell 236 rfl]
          omega
        · have q := hM.2 12
          have e7 : σ2 231 7 = σ 231 7 := f4 231 7 rfl
          refine ⟨by rw [f4 281 24 rfl, e7]; exact q.1, fun j j0 j1 => ?_⟩
          rw [e7] at j1
          have qj := q.2 j j0 j1
          refine ⟨by rw [f4.cell 297 rfl, f4.cell 232 rfl]; exact qj.1, ?_⟩
          rw [m4, c3, qj.2]
        · refine ⟨fun _ => ?_, fun q => absurd c11 q⟩
          rw [← hσ2, xu_ne _ (Or.inr (by decide)), zr_other _ _ (by decide)]
          simp [xu]
        · intro n hn
          have a1 : σ2 299 n = 0 := by rw [← hσ2, xu_other _ _ _ (by decide)]; exact zr_at ⟨by omega, by omega⟩
          have a2 : σ2 235 n = 0 := by
            rw [gc 235 (by omega)]
            unfold emv
            rw [xu_other _ _ _ (by decide), xu_other _ _ _ (by decide)]
            exact zr_at ⟨by omega, by omega⟩
          rw [a1, a2]
        · intro s s0 s3
          rw [m3, c4, hM.2 15 s s0 s3]
        · show σ2 281 31 = σ2 231 8
          rw [c8, ← hσ2, xu_same]
    · obtain ⟨σ1, f1, st⟩ := pre σ FP.rf
      refine STEP.refuse h 1 (by simp) (sp_handOverX hA h01 hC (Or.inr (by omega))) (σ2 := xu σ1 281 47 1) (y := 0) ?_ (xu_same _ _ _ _) ((f1.mono rfl).put rfl)
      refine st false (decide_eq_false hl).symm ?_
      refine e_iconst 23 44 rfl rfl ?_
      refine e_iconst 24 45 rfl rfl ?_
      refine g_callV 25 48 (sp_mGoes (a := false) (b := true) (c := true)) okX12_goes cvX12_167 ⟨(Nat.le_of_ble_eq_true rfl), (Nat.le_of_ble_eq_true rfl)⟩ rfl rfl (Nat.le_of_ble_eq_true rfl) rfl rfl rfl rfl rfl (Nat.le_of_ble_eq_true rfl) (Nat.le_of_ble_eq_true rfl) (Nat.le_of_ble_eq_true rfl) ?_
      refine e_ifb_ne 26 53 51 rfl rfl rfl (fun hb => ?_) (fun hb => ?_)
      · skip
        cases hb
      · skip
        refine e_iconst 27 52 rfl rfl ?_
        exact e_ireturn 28 rfl rfl (Nat.le_of_ble_eq_true rfl) (Nat.le_of_ble_eq_true rfl)
