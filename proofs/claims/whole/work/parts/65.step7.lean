/-! ===== steps: key ===== -/
theorem key_lp1 {τ : xSig} {T : Nat → List Int} {G : Nat → Fo} {f y : Int} : ∀ (m i : Nat) (σ : xSig), i + m = 100 → CHM τ σ → DOCM τ T G σ → ∃ σ', (∀ {o : xO} {Y : xS}, x_E MX12_key 0 0 68 [some (.ref 281), some (.int (ii f)), some (.int (ii y)), none, none] [] (St σ') 0 0 o Y → x_E MX12_key 0 0 32 [some (.ref 281), some (.int (ii f)), some (.int (ii y)), some (.int (ii i)), none] [] (St σ) 0 0 o Y) ∧ FP [(311, -1), (312, -1)] σ σ' ∧ (∀ n : Nat, i ≤ n → n < 100 → hasd τ n = true → σ' 312 n = shd τ (T (31 + 2 * n))) ∧ (∀ n : Nat, n < i → σ' 312 n = σ 312 n) := by
  intro m
  induction m with
  | zero =>
    intro i σ hi hC hD
    refine ⟨σ, fun {o Y} kk => ?_, FP.rf, fun n h1 h2 => by omega, fun n _ => rfl⟩
    refine e_iload_n 19 33 rfl rfl rfl rfl ?_
    refine e_bipush 20 35 rfl rfl rfl ?_
    refine e_icmp_ge 21 68 38 rfl rfl rfl (by unfold xr at *; omega) (by unfold xr at *; omega) (fun _ => ?_) (fun h9 => absurd h9 (by omega))
    refine e_dropm [true, true, true, false, false] (ls' := [some _, some _, some _, none, none]) rfl ?_
    exact kk
  | succ m ih =>
    intro i σ hi hC hD
    have e3 := hD.2 i (by omega)
    have fin : ∀ (v : Int) (σ1 : xSig), FP m11 σ σ1 → (hasd τ i = true → v = shd τ (T (31 + 2 * i))) → ∃ σ', (∀ {o : xO} {Y : xS}, x_E MX12_key 0 0 68 [some (.ref 281), some (.int (ii f)), some (.int (ii y)), none, none] [] (St σ') 0 0 o Y → x_E MX12_key 0 0 61 [some (.ref 281), some (.int (ii f)), some (.int (ii y)), some (.int (ii i)), none] [.int (ii v), .int (ii i), .ref 312] (St σ1) 0 0 o Y) ∧ FP [(311, -1), (312, -1)] σ1 σ' ∧ (∀ n : Nat, i ≤ n → n < 100 → hasd τ n = true → σ' 312 n = shd τ (T (31 + 2 * n))) ∧ (∀ n : Nat, n < i → σ' 312 n = σ 312 n) := by
      intro v σ1 g hv
      have f2 : FP [(311, -1), (312, -1)] σ (xu σ1 312 i v) := (g.mono rfl).putA rfl
      obtain ⟨σ', k1, k2, k3, k4⟩ := ih (i + 1) (xu σ1 312 i v) (by omega) (hC.fp f2 rfl) (hD.fp f2 rfl)
      refine ⟨σ', fun {o Y} kk => ?_, (FP.rf.putA rfl).tr k2, fun n h1 h2 hh => ?_, fun n hn => ?_⟩
      · have k1' := k1 kk
        refine g_iastore 35 62 rfl rfl (Nat.le_of_ble_eq_true rfl) rfl (by omega) (by omega) (by omega) ?_
        refine e_iinc 36 65 (ls' := [some _, some _, some _, some _, none]) rfl rfl (Nat.le_of_ble_eq_true rfl) rfl rfl ?_
        refine e_goto 37 32 rfl rfl ?_
        exact k1'
      · by_cases e : n = i
        · subst e
          rw [k4 n (by omega), xu_same]
          exact hv hh
        · exact k3 n (by omega) h2 hh
      · rw [k4 n (by omega), xu_ne _ (Or.inr (by omega)), g.cell 312 rfl]
    cases hh : hasd τ i with
    | false =>
      obtain ⟨σ', k1, k2, k3, k4⟩ := fin (-1) σ FP.rf (fun q => by rw [hh] at q; cases q)
      rw [hh] at e3
      refine ⟨σ', fun {o Y} kk => ?_, k2, k3, k4⟩
      refine e_iload_n 19 33 rfl rfl rfl rfl ?_
      refine e_bipush 20 35 rfl rfl rfl ?_
      refine e_icmp_ge 21 68 38 rfl rfl rfl (by unfold xr at *; omega) (by unfold xr at *; omega) (fun h9 => absurd h9 (by omega)) (fun _ => ?_)
      refine e_aload_n 22 39 rfl rfl rfl rfl ?_
      refine g_getR 23 42 ckX12 flX12_112 rfl rfl (Nat.le_of_ble_eq_true rfl) rfl rfl ?_
      refine e_iload_n 24 43 rfl rfl rfl rfl ?_
      refine e_aload_n 25 44 rfl rfl rfl rfl ?_
      refine g_getR 26 47 ckX12 flX12_13 rfl rfl (Nat.le_of_ble_eq_true rfl) rfl rfl ?_
      refine e_iload_n 27 48 rfl rfl rfl rfl ?_
      refine g_baload 28 49 rfl rfl (Nat.le_of_ble_eq_true rfl) rfl (by omega) (by omega) (by omega) e3 ?_
      refine e_ifb_eq 29 60 52 rfl rfl rfl (fun hb => ?_) (fun hb => ?_)
      · skip
        refine e_iconst 34 61 rfl rfl ?_
        exact k1 kk
      · skip
        cases hb
    | true =>
      rw [hh] at e3
      obtain ⟨F, d1, d2, d3⟩ := hD.1 i (by omega) hh
      obtain ⟨σ1, c1, f1⟩ := sp_mShardOf hC d2 d3
      obtain ⟨σ', k1, k2, k3, k4⟩ := fin (shd τ (T (31 + 2 * i))) σ1 f1 (fun _ => rfl)
      refine ⟨σ', fun {o Y} kk => ?_, (f1.mono rfl).tr k2, k3, k4⟩
      refine e_iload_n 19 33 rfl rfl rfl rfl ?_
      refine e_bipush 20 35 rfl rfl rfl ?_
      refine e_icmp_ge 21 68 38 rfl rfl rfl (by unfold xr at *; omega) (by unfold xr at *; omega) (fun h9 => absurd h9 (by omega)) (fun _ => ?_)
      refine e_aload_n 22 39 rfl rfl rfl rfl ?_
      refine g_getR 23 42 ckX12 flX12_112 rfl rfl (Nat.le_of_ble_eq_true rfl) rfl rfl ?_
      refine e_iload_n 24 43 rfl rfl rfl rfl ?_
      refine e_aload_n 25 44 rfl rfl rfl rfl ?_
      refine g_getR 26 47 ckX12 flX12_13 rfl rfl (Nat.le_of_ble_eq_true rfl) rfl rfl ?_
      refine e_iload_n 27 48 rfl rfl rfl rfl ?_
      refine g_baload 28 49 rfl rfl (Nat.le_of_ble_eq_true rfl) rfl (by omega) (by omega) (by omega) e3 ?_
      refine e_ifb_eq 29 60 52 rfl rfl rfl (fun hb => ?_) (fun hb => ?_)
      · skip
        cases hb
      · skip
        refine e_aload_n 30 53 rfl rfl rfl rfl ?_
        refine e_iload_n 31 54 rfl rfl rfl rfl ?_
        refine g_callV 32 57 (c1) okX12_shardOf cvX12_237 ⟨(Nat.le_of_ble_eq_true rfl), (Nat.le_of_ble_eq_true rfl)⟩ rfl rfl (Nat.le_of_ble_eq_true rfl) rfl rfl rfl rfl rfl (Nat.le_of_ble_eq_true rfl) (Nat.le_of_ble_eq_true rfl) (Nat.le_of_ble_eq_true rfl) ?_
        refine e_goto 33 61 rfl rfl ?_
        exact k1 kk
theorem key_lp2 {τ0 τ : xSig} {T : Nat → List Int} {G : Nat → Fo} {f y : Int} (hC0 : CHR τ0) {f9 : Nat → Int} (hf9 : ∀ n : Nat, f9 n = if hasd τ n = true ∧ shd τ (T (31 + 2 * n)) ≠ shd τ0 (T (31 + 2 * n)) then (1 : Int) else 0) : ∀ (m i : Nat) (acc : Int) (σ : xSig), i + m = 100 → CHM τ σ → DOCM τ T G σ → (∀ n : Nat, n < 100 → hasd τ n = true → σ 312 n = shd τ0 (T (31 + 2 * n))) → ∃ σ', x_E MX12_key 0 0 97 [some (.ref 281), some (.int (ii f)), some (.int (ii y)), some (.int (ii acc)), some (.int (ii i))] [] (St σ) 0 0 (iv (acc + smN f9 i m)) (St σ') ∧ FP m11 σ σ' := by
  intro m
  induction m with
  | zero =>
    intro i acc σ hi hC hD hL
    refine ⟨σ, ?_, FP.rf⟩
    rw [show acc + smN f9 i 0 = acc from Int.add_zero acc]
    refine e_iload 56 99 rfl rfl rfl ?_
    refine e_bipush 57 101 rfl rfl rfl ?_
    refine e_icmp_ge 58 144 104 rfl rfl rfl (by unfold xr at *; omega) (by unfold xr at *; omega) (fun _ => ?_) (fun h9 => absurd h9 (by omega))
    refine e_iload_n 80 145 rfl rfl rfl rfl ?_
    exact e_ireturn 81 rfl rfl (Nat.le_of_ble_eq_true rfl) (Nat.le_of_ble_eq_true rfl)
  | succ m ih =>
    intro i acc σ hi hC hD hL
    have e3 := hD.2 i (by omega)
    have fin : ∀ (z : Int) (σ1 : xSig), FP m11 σ σ1 → z = f9 i → ∃ σ', x_E MX12_key 0 0 136 [some (.ref 281), some (.int (ii f)), some (.int (ii y)), some (.int (ii acc)), some (.int (ii i))] [.int (ii z), .int (ii acc)] (St σ1) 0 0 (iv (acc + smN f9 i (m + 1))) (St σ') ∧ FP m11 σ1 σ' := by
      intro z σ1 g hz
      obtain ⟨σ', k1, k2⟩ := ih (i + 1) (acc + z) σ1 (by omega) (hC.fp g rfl) (hD.fp g rfl) (fun n hn hh => by rw [g.cell 312 rfl]; exact hL n hn hh)
      refine ⟨σ', ?_, k2⟩
      rw [show acc + smN f9 i (m + 1) = acc + z + smN f9 (i + 1) m by rw [smN, hz]; omega]
      refine e_iadd 76 137 rfl rfl ?_
      refine e_istore_n 77 138 (ls' := [some _, some _, some _, some _, some _]) rfl rfl rfl (Nat.le_of_ble_eq_true rfl) rfl ?_
      refine e_iinc 78 141 (ls' := [some _, some _, some _, some _, some _]) rfl rfl (Nat.le_of_ble_eq_true rfl) rfl rfl ?_
      refine e_goto 79 97 rfl rfl ?_
      exact k1
    cases hh : hasd τ i with
    | false =>
      obtain ⟨σ', k1, k2⟩ := fin 0 σ FP.rf (by rw [hf9, hh]; rfl)
      rw [hh] at e3
      refine ⟨σ', ?_, k2⟩
      refine e_iload 56 99 rfl rfl rfl ?_
      refine e_bipush 57 101 rfl rfl rfl ?_
      refine e_icmp_ge 58 144 104 rfl rfl rfl (by unfold xr at *; omega) (by unfold xr at *; omega) (fun h9 => absurd h9 (by omega)) (fun _ => ?_)
      refine e_iload_n 59 105 rfl rfl rfl rfl ?_
      refine e_aload_n 60 106 rfl rfl rfl rfl ?_
      refine g_getR 61 109 ckX12 flX12_13 rfl rfl (Nat.le_of_ble_eq_true rfl) rfl rfl ?_
      refine e_iload 62 111 rfl rfl rfl ?_
      refine g_baload 63 112 rfl rfl (Nat.le_of_ble_eq_true rfl) rfl (by omega) (by omega) (by omega) e3 ?_
      refine e_ifb_eq 64 135 115 rfl rfl rfl (fun h => ?_) (fun h => ?_)
      · skip
        refine e_iconst 75 136 rfl rfl ?_
        exact k1
      · skip
        cases h
    | true =>
      rw [hh] at e3
      obtain ⟨F, d1, d2, d3⟩ := hD.1 i (by omega) hh
      obtain ⟨σ1, c1, f1⟩ := sp_mShardOf hC d2 d3
      have hcb := shd_bnd hC.1.1 (T (31 + 2 * i))
      have hcb0 := shd_bnd hC0 (T (31 + 2 * i))
      have eL : σ1 312 i = shd τ0 (T (31 + 2 * i)) := by rw [f1.cell 312 rfl]; exact hL i (by omega) hh
      by_cases he : shd τ (T (31 + 2 * i)) = shd τ0 (T (31 + 2 * i))
      · obtain ⟨σ', k1, k2⟩ := fin 0 σ1 f1 (by rw [hf9, if_neg (fun q => q.2 he)])
        refine ⟨σ', ?_, f1.tr k2⟩
        refine e_iload 56 99 rfl rfl rfl ?_
        refine e_bipush 57 101 rfl rfl rfl ?_
        refine e_icmp_ge 58 144 104 rfl rfl rfl (by unfold xr at *; omega) (by unfold xr at *; omega) (fun h9 => absurd h9 (by omega)) (fun _ => ?_)
        refine e_iload_n 59 105 rfl rfl rfl rfl ?_
        refine e_aload_n 60 106 rfl rfl rfl rfl ?_
        refine g_getR 61 109 ckX12 flX12_13 rfl rfl (Nat.le_of_ble_eq_true rfl) rfl rfl ?_
        refine e_iload 62 111 rfl rfl rfl ?_
        refine g_baload 63 112 rfl rfl (Nat.le_of_ble_eq_true rfl) rfl (by omega) (by omega) (by omega) e3 ?_
        refine e_ifb_eq 64 135 115 rfl rfl rfl (fun h => ?_) (fun h => ?_)
        · skip
          cases h
        · skip
          refine e_aload_n 65 116 rfl rfl rfl rfl ?_
          refine e_iload 66 118 rfl rfl rfl ?_
          refine g_callV 67 121 (c1) okX12_shardOf cvX12_237 ⟨(Nat.le_of_ble_eq_true rfl), (Nat.le_of_ble_eq_true rfl)⟩ rfl rfl (Nat.le_of_ble_eq_true rfl) rfl rfl rfl rfl rfl (Nat.le_of_ble_eq_true rfl) (Nat.le_of_ble_eq_true rfl) (Nat.le_of_ble_eq_true rfl) ?_
          refine e_aload_n 68 122 rfl rfl rfl rfl ?_
          refine g_getR 69 125 ckX12 flX12_112 rfl rfl (Nat.le_of_ble_eq_true rfl) rfl rfl ?_
          refine e_iload 70 127 rfl rfl rfl ?_
          refine g_iaload 71 128 rfl rfl (Nat.le_of_ble_eq_true rfl) rfl (by omega) (by omega) (by omega) eL ?_
          refine e_icmp_eq 72 135 131 rfl rfl rfl (by unfold xr at *; omega) (by unfold xr at *; omega) (fun _ => ?_) (fun h9 => absurd h9 (fun q => q he))
          refine e_iconst 75 136 rfl rfl ?_
          exact k1
      · obtain ⟨σ', k1, k2⟩ := fin 1 σ1 f1 (by rw [hf9, if_pos ⟨hh, he⟩])
        refine ⟨σ', ?_, f1.tr k2⟩
        refine e_iload 56 99 rfl rfl rfl ?_
        refine e_bipush 57 101 rfl rfl rfl ?_
        refine e_icmp_ge 58 144 104 rfl rfl rfl (by unfold xr at *; omega) (by unfold xr at *; omega) (fun h9 => absurd h9 (by omega)) (fun _ => ?_)
        refine e_iload_n 59 105 rfl rfl rfl rfl ?_
        refine e_aload_n 60 106 rfl rfl rfl rfl ?_
        refine g_getR 61 109 ckX12 flX12_13 rfl rfl (Nat.le_of_ble_eq_true rfl) rfl rfl ?_
        refine e_iload 62 111 rfl rfl rfl ?_
        refine g_baload 63 112 rfl rfl (Nat.le_of_ble_eq_true rfl) rfl (by omega) (by omega) (by omega) e3 ?_
        refine e_ifb_eq 64 135 115 rfl rfl rfl (fun h => ?_) (fun h => ?_)
        · skip
          cases h
        · skip
          refine e_aload_n 65 116 rfl rfl rfl rfl ?_
          refine e_iload 66 118 rfl rfl rfl ?_
          refine g_callV 67 121 (c1) okX12_shardOf cvX12_237 ⟨(Nat.le_of_ble_eq_true rfl), (Nat.le_of_ble_eq_true rfl)⟩ rfl rfl (Nat.le_of_ble_eq_true rfl) rfl rfl rfl rfl rfl (Nat.le_of_ble_eq_true rfl) (Nat.le_of_ble_eq_true rfl) (Nat.le_of_ble_eq_true rfl) ?_
          refine e_aload_n 68 122 rfl rfl rfl rfl ?_
          refine g_getR 69 125 ckX12 flX12_112 rfl rfl (Nat.le_of_ble_eq_true rfl) rfl rfl ?_
          refine e_iload 70 127 rfl rfl rfl ?_
          refine g_iaload 71 128 rfl rfl (Nat.le_of_ble_eq_true rfl) rfl (by omega) (by omega) (by omega) eL ?_
          refine e_icmp_eq 72 135 131 rfl rfl rfl (by unfold xr at *; omega) (by unfold xr at *; omega) (fun h9 => absurd h9 he) (fun _ => ?_)
          refine e_iconst 73 132 rfl rfl ?_
          refine e_goto 74 136 rfl rfl ?_
          exact k1
theorem kyd_f (σ : xSig) (f y : Int) : FP [(231, 7), (231, 8), (231, 9), (231, 10), (232, -1), (233, -1), (234, -1)] σ (kyd σ f y) := by
  unfold kyd bgc
  exact ((((((((((((FP.rf.put rfl).put rfl).put rfl).putA rfl).putA rfl).putA rfl).putA rfl).putA rfl).putA rfl).putA rfl).putA rfl).putA rfl).put rfl
theorem kyd_v (σ : xSig) (f y : Int) : kyd σ f y 231 7 = 3 ∧ kyd σ f y 231 8 = σ 231 8 + 1 ∧ kyd σ f y 231 9 = f ∧ kyd σ f y 231 10 = y ∧ kyd σ f y 232 0 = 0 ∧ kyd σ f y 232 1 = 334 ∧ kyd σ f y 232 2 = 667 ∧ kyd σ f y 233 0 = 0 ∧ kyd σ f y 233 1 = 1 ∧ kyd σ f y 233 2 = 2 ∧ kyd σ f y 234 0 = 0 ∧ kyd σ f y 234 1 = 0 ∧ kyd σ f y 234 2 = 0 := by
  unfold kyd bgc
  simp [xu]
theorem mbg_v (σ : xSig) : mbg σ 281 24 = 3 ∧ mbg σ 297 0 = 0 ∧ mbg σ 297 1 = 334 ∧ mbg σ 297 2 = 667 ∧ mbg σ 298 0 = 0 ∧ mbg σ 298 1 = 1 ∧ mbg σ 298 2 = 2 ∧ mbg σ 300 0 = 0 ∧ mbg σ 300 1 = 0 ∧ mbg σ 300 2 = 0 := by
  unfold mbg
  simp [xu]
theorem st_key {i : Nat} {σ : xSig} (h : INV i σ) {f y : Int} (hf : xr f) (hy : y = 0 ∨ y = 1) : STEP i MX11_key MX12_key iv [nIAE, nISE] [.int (ii f), .int (ii y)] σ := by
  have hM := h
  obtain ⟨T, G, hA, hM⟩ := hM
  have h01 := (hM.1 4).1
  obtain ⟨hC, hz, hinc, hlt, hmv9, ht1, ht2⟩ := hM.1 6
  obtain ⟨z, z1, z2, z3, z4⟩ := mfrom hC hinc hmv9 (hM.2 13)
  by_cases hh : 0 ≤ f ∧ f < 8
  · by_cases e : σ 231 11 = -1
    · have zz := z3.mpr e
      obtain ⟨σ1, s1, hcl⟩ := sp_key1 hA h01 hC e hh hy
      have fs : FP [(238, -1)] σ σ1 := fun b j q => by
        have := wc_no (L := [238]) q
        simp only [List.mem_cons, List.not_mem_nil, or_false] at this
        rw [s1 b this]
      have hC1 : CHR σ1 := hC.fx (s1 231 (by decide)) (s1 232 (by decide)) (s1 233 (by decide)) (s1 235 (by decide))
      have e1 : σ1 231 11 = -1 := by rw [s1 231 (by decide)]; exact e
      have hCn : CHR (kyd σ1 f y) := bgc_CHR hC1 e1 hh hy
      have fk := kyd_f σ1 f y
      obtain ⟨v7, v8, v9, v10, v20, v21, v22, v30, v31, v32, v40, v41, v42⟩ := kyd_v σ1 f y
      have f1 : FP [(238, -1), (231, 7), (231, 8), (231, 9), (231, 10), (232, -1), (233, -1), (234, -1), (281, 47)] σ (xu (kyd σ1 f y) 281 47 0) := ((fs.mono rfl).tr (fk.mono rfl)).put rfl
      obtain ⟨σ2, k1, k2, k3, -⟩ := key_lp1 (τ := σ) (T := T) (G := G) (f := f) (y := y) 100 0 (xu (kyd σ1 f y) 281 47 0) (by omega) (hM.chm.fp f1 rfl) (hM.docm.fp f1 rfl)
      have f2 : FP [(238, -1), (231, 7), (231, 8), (231, 9), (231, 10), (232, -1), (233, -1), (234, -1), (281, 47), (311, -1), (312, -1)] σ σ2 := (f1.mono rfl).tr (k2.mono rfl)
      generalize hσ3 : xu (mbg (xu (xu σ2 281 29 f) 281 30 y)) 281 31 (σ 231 8 + 1) = σ3
      have f3 : FP [(281, 29), (281, 30), (281, 31), (281, 24), (297, -1), (298, -1), (300, -1)] σ2 σ3 := by
        rw [← hσ3]
        exact (((FP.rf.put rfl).put rfl).tr ((mbg_f _).mono rfl)).put rfl
      have f4 : FP [(238, -1), (231, 7), (231, 8), (231, 9), (231, 10), (232, -1), (233, -1), (234, -1), (281, 47), (311, -1), (312, -1), (281, 29), (281, 30), (281, 31), (281, 24), (297, -1), (298, -1), (300, -1)] σ σ3 := (f2.mono rfl).tr (f3.mono rfl)
      obtain ⟨m24, m70, m71, m72, m80, m81, m82, m00, m01, m02⟩ := mbg_v (xu (xu σ2 281 29 f) 281 30 y)
      have r24 : σ3 281 24 = 3 := by rw [← hσ3, xu_ne _ (Or.inr (by decide))]; exact m24
      have r97 : ∀ j : Int, 0 ≤ j → j < 3 → σ3 297 j = kyd σ1 f y 232 j ∧ σ3 298 j = kyd σ1 f y 233 j := fun j j0 j3 => by
        rw [← hσ3, xu_other _ _ _ (by decide), xu_other _ _ _ (by decide)]
        rcases (by omega : j = 0 ∨ j = 1 ∨ j = 2) with rfl | rfl | rfl
        · rw [m70, m80, v20, v30]; exact ⟨rfl, rfl⟩
        · rw [m71, m81, v21, v31]; exact ⟨rfl, rfl⟩
        · rw [m72, m82, v22, v32]; exact ⟨rfl, rfl⟩
      have r29 : σ3 281 29 = f ∧ σ3 281 30 = y := by
        rw [← hσ3]
        have q := (mbg_f (xu (xu σ2 281 29 f) 281 30 y))
        refine ⟨?_, ?_⟩
        · rw [xu_ne _ (Or.inr (by decide)), q 281 29 rfl]; simp [xu]
        · rw [xu_ne _ (Or.inr (by decide)), q 281 30 rfl]; simp [xu]
      have hC3 : CHM (kyd σ1 f y) σ3 := ⟨⟨hCn, v20⟩, ⟨by rw [r24, v7], fun j j0 j1 => r97 j j0 (by rw [v7] at j1; exact j1)⟩, by rw [v9, v10]; exact r29⟩
      have h27 : kyd σ1 f y 27 = σ 27 := by rw [fk.cell 27 rfl, s1 27 (by decide)]
      have hD3 : DOCM (kyd σ1 f y) T G σ3 := by
        have q := hM.docm.fp f4 rfl
        exact ⟨fun n hn hh9 => q.1 n hn (by rw [← hasd_congr h27]; exact hh9), fun n hn => by rw [hasd_congr h27]; exact q.2 n hn⟩
      obtain ⟨σ4, j1, j2⟩ := key_lp2 (τ0 := σ) (τ := kyd σ1 f y) (T := T) (G := G) (f := f) (y := y) hC (f9 := fun n => if hasd (kyd σ1 f y) n = true ∧ shd (kyd σ1 f y) (T (31 + 2 * n)) ≠ shd σ (T (31 + 2 * n)) then (1 : Int) else 0) (fun n => rfl) 100 0 0 σ3 (by omega) hC3 hD3 (fun n hn hh9 => by rw [f3.cell 312 rfl]; exact k3 n (by omega) hn (by rw [← hasd_congr h27]; exact hh9))
      have ekc : 0 + smN (fun n => if hasd (kyd σ1 f y) n = true ∧ shd (kyd σ1 f y) (T (31 + 2 * n)) ≠ shd σ (T (31 + 2 * n)) then (1 : Int) else 0) 0 100 = kcn σ (kyd σ1 f y) T := by
        rw [Int.zero_add]
        unfold kcn
        refine smN_congr 100 0 fun n _ _ => ?_
        rw [hasd_congr h27]
      rw [ekc] at j1
      have z1' : kyd σ1 f y 281 25 = z := by rw [fk 281 25 rfl, s1 281 (by decide)]; exact z1
      have p1 := sp_mIn (σ := kyd σ1 f y) (x := f) (y := 0) (z := 7) hf (by unfold xr; omega) (by unfold xr; omega)
      rw [decT (by omega)] at p1
      have e31 : mbg (xu (xu σ2 281 29 f) 281 30 y) 281 31 = σ 231 8 := by
        rw [(mbg_f _) 281 31 rfl, xu_ne _ (Or.inr (by decide)), xu_ne _ (Or.inr (by decide)), f2 281 31 rfl]
        exact hM.2 17
      have fin : x_E MX12_key 0 0 21 [some (.ref 281), some (.int (ii f)), some (.int (ii y)), none, none] [.int (ii 1), .int (ii (bi true)), .ref 281] (St (kyd σ1 f y)) 0 0 (iv (kcn σ (kyd σ1 f y) T)) (St σ4) := by
        refine e_iconst 12 22 rfl rfl ?_
        refine g_callV 13 25 (sp_mGoes (a := true) (b := true) (c := true)) okX12_goes cvX12_167 ⟨(Nat.le_of_ble_eq_true rfl), (Nat.le_of_ble_eq_true rfl)⟩ rfl rfl (Nat.le_of_ble_eq_true rfl) rfl rfl rfl rfl rfl (Nat.le_of_ble_eq_true rfl) (Nat.le_of_ble_eq_true rfl) (Nat.le_of_ble_eq_true rfl) ?_
        refine e_ifb_ne 14 30 28 rfl rfl rfl (fun hb => ?_) (fun hb => ?_)
        · skip
          refine e_iconst 17 31 rfl rfl ?_
          refine e_istore_n 18 32 (ls' := [some _, some _, some _, some _, none]) rfl rfl rfl (Nat.le_of_ble_eq_true rfl) rfl ?_
          refine k1 ?_
          refine e_aload_n 38 69 rfl rfl rfl rfl ?_
          refine e_iload_n 39 70 rfl rfl rfl rfl ?_
          refine g_putI 40 73 29 ckX12 flX12_203 rfl rfl (Nat.le_of_ble_eq_true rfl) rfl rfl rfl ?_
          refine e_aload_n 41 74 rfl rfl rfl rfl ?_
          refine e_iload_n 42 75 rfl rfl rfl rfl ?_
          refine g_putZ 43 78 30 ckX12 flX12_206 rfl rfl hy (Nat.le_of_ble_eq_true rfl) rfl rfl rfl ?_
          refine e_aload_n 44 79 rfl rfl rfl rfl ?_
          refine g_callV 45 82 (sp_mChunksAnew) okX12_chunksAnew cvX12_115 ⟨(Nat.le_of_ble_eq_true rfl), (Nat.le_of_ble_eq_true rfl)⟩ rfl rfl (Nat.le_of_ble_eq_true rfl) rfl rfl rfl rfl rfl (Nat.le_of_ble_eq_true rfl) (Nat.le_of_ble_eq_true rfl) (Nat.le_of_ble_eq_true rfl) ?_
          refine e_aload_n 46 83 rfl rfl rfl rfl ?_
          refine e_dup 47 84 rfl rfl rfl ?_
          refine g_getI 48 87 31 ckX12 flX12_73 rfl rfl (Nat.le_of_ble_eq_true rfl) rfl rfl rfl e31 ?_
          refine e_iconst 49 88 rfl rfl ?_
          refine e_iadd 50 89 rfl rfl ?_
          refine g_putI 51 92 31 ckX12 flX12_73 rfl rfl (Nat.le_of_ble_eq_true rfl) rfl rfl rfl ?_
          refine e_iconst 52 93 rfl rfl ?_
          refine e_istore_n 53 94 (ls' := [some _, some _, some _, some _, none]) rfl rfl rfl (Nat.le_of_ble_eq_true rfl) rfl ?_
          refine e_iconst 54 95 rfl rfl ?_
          refine e_istore 55 97 (ls' := [some _, some _, some _, some _, some _]) rfl rfl (Nat.le_of_ble_eq_true rfl) rfl ?_
          rw [hσ3]
          exact j1
        · skip
          cases hb
      refine ⟨_, σ4, 0, _, _, ⟨by omega, by simp⟩, fun _ => hcl, fun q => absurd rfl q, (?_ : x_Sp MX12_key 0 0 _ _ (iv (kcn σ (kyd σ1 f y) T)) _), ?_, fun _ => rfl, ?_⟩
      · skip
        refine e_entry okX12_key (Nat.le_of_ble_eq_true rfl) (ls := [some _, some _, some _, none, none]) rfl ?_
        refine e_aload_n 0 1 rfl rfl rfl rfl ?_
        refine e_iload_n 1 2 rfl rfl rfl rfl ?_
        refine e_iconst 2 3 rfl rfl ?_
        refine e_bipush 3 5 rfl rfl rfl ?_
        refine g_callS 4 8 (p1) okX12_in csX12_175 ⟨(Nat.le_of_ble_eq_true rfl), (Nat.le_of_ble_eq_true rfl)⟩ rfl rfl rfl rfl (Nat.le_of_ble_eq_true rfl) (Nat.le_of_ble_eq_true rfl) (Nat.le_of_ble_eq_true rfl) ?_
        refine e_aload_n 5 9 rfl rfl rfl rfl ?_
        refine g_getI 6 12 25 ckX12 flX12_63 rfl rfl (Nat.le_of_ble_eq_true rfl) rfl rfl rfl z1' ?_
        refine e_iconst 7 13 rfl rfl ?_
        refine e_icmp_ne 8 20 16 rfl rfl rfl z2 (by unfold xr at *; omega) (fun h9 => absurd h9 (fun q => q zz)) (fun _ => ?_)
        refine e_iconst 9 17 rfl rfl ?_
        refine e_goto 10 21 rfl rfl ?_
        exact fin
      · rw [j2 281 47 rfl, f3 281 47 rfl, k2 281 47 rfl, xu_same]
      · have f5 := f4.tr (j2.mono rfl)
        have gc : ∀ b : Nat, b < 281 → σ4 b = kyd σ1 f y b := fun b hb => by
          have n1 : ∀ L : List (Nat × Int), (L.all fun q => decide (281 ≤ q.1)) = true → (L.all fun q => q.1 != b) = true := fun L hL => List.all_eq_true.mpr fun q hq => by
            have := List.all_eq_true.mp hL q hq
            simp only [decide_eq_true_eq, bne_iff_ne] at this ⊢
            omega
          rw [j2.cell b (n1 _ rfl), f3.cell b (n1 _ rfl), k2.cell b (n1 _ rfl), xu_other _ _ _ (by omega)]
        have c11 : σ4 231 11 = -1 := by rw [gc 231 (by omega), fk 231 11 rfl]; exact e1
        refine INV.go _ [6, 7, 12] [12, 13, 15, 16, 17] hA hM f5 (by decide +kernel) rfl rfl (alc ?_ (alc ?_ (alc ?_ al0))) (alc ?_ (alc ?_ (alc ?_ (alc ?_ (alc ?_ al0)))))
        · have e7 : σ4 231 7 = 3 := by rw [gc 231 (by omega)]; exact v7
          have e20 : σ4 232 0 = 0 := by rw [gc 232 (by omega)]; exact v20
          have e21 : σ4 232 1 = 334 := by rw [gc 232 (by omega)]; exact v21
          have e22 : σ4 232 2 = 667 := by rw [gc 232 (by omega)]; exact v22
          refine ⟨hCn.fx (gc 231 (by omega)) (gc 232 (by omega)) (gc 233 (by omega)) (gc 235 (by omega)), e20, fun k k0 k1 => ?_, fun k k0 k1 => ?_, by rw [c11, e7]; omega, fun _ => ?_, fun q => absurd c11 q⟩
          · rw [e7] at k1
            rcases (by omega : k = 0 ∨ k = 1) with rfl | rfl
            · rw [e20]; show 0 < σ4 232 1; rw [e21]; omega
            · rw [e21]; show 334 < σ4 232 2; rw [e22]; omega
          · rw [e7] at k1
            rcases (by omega : k = 0 ∨ k = 1 ∨ k = 2) with rfl | rfl | rfl
            · rw [e20]; omega
            · rw [e21]; omega
            · rw [e22]; omega
          · rw [gc 231 (by omega), fk 231 12 rfl, s1 231 (by decide)]
            exact ht1 e
        · intro n hn h9
          rw [f5.cell 235 rfl] at h9
          exact absurd e (hM.1 7 n hn h9).2.1
        · have q := hM.1 12
          have q1 := q.1
          have e8 : σ4 231 8 = σ 231 8 + 1 := by rw [gc 231 (by omega), v8, s1 231 (by decide)]
          refine ⟨by rw [e8]; omega, fun r r0 r2 => ?_⟩
          have := q.2 r r0 r2
          rw [f5.cell 236 rfl]
          omega
        · refine ⟨by rw [j2 281 24 rfl, r24, gc 231 (by omega), v7], fun j j0 j1 => ?_⟩
          rw [gc 231 (by omega), v7] at j1
          rw [j2.cell 297 rfl, j2.cell 298 rfl, gc 232 (by omega), gc 233 (by omega)]
          exact r97 j j0 j1
        · refine ⟨fun _ => ?_, fun q => absurd c11 q⟩
          rw [f5 281 25 rfl]
          exact (hM.2 13).1 e
        · intro s s0 s3
          rw [j2.cell 300 rfl, gc 234 (by omega), ← hσ3, xu_other _ _ _ (by decide)]
          rcases (by omega : s = 0 ∨ s = 1 ∨ s = 2) with rfl | rfl | rfl
          · rw [m00, v40]
          · rw [m01, v41]
          · rw [m02, v42]
        · refine ⟨?_, ?_⟩
          · rw [j2 281 29 rfl, gc 231 (by omega), v9]; exact r29.1
          · rw [j2 281 30 rfl, gc 231 (by omega), v10]; exact r29.2
        · show σ4 281 31 = σ4 231 8
          rw [j2 281 31 rfl, gc 231 (by omega), v8, s1 231 (by decide), ← hσ3, xu_same]
    · have zz : ¬ z = -1 := fun q => e (z3.mp q)
      have p1 := sp_mIn (σ := σ) (x := f) (y := 0) (z := 7) hf (by unfold xr; omega) (by unfold xr; omega)
      rw [decT (by omega)] at p1
      refine STEP.refuse h 2 (by simp) (sp_keyX2 hC hh (hmv_t e)) (σ2 := xu σ 281 47 2) (y := 0) ?_ (xu_same _ _ _ _) F47s
      refine e_entry okX12_key (Nat.le_of_ble_eq_true rfl) (ls := [some _, some _, some _, none, none]) rfl ?_
      refine e_aload_n 0 1 rfl rfl rfl rfl ?_
      refine e_iload_n 1 2 rfl rfl rfl rfl ?_
      refine e_iconst 2 3 rfl rfl ?_
      refine e_bipush 3 5 rfl rfl rfl ?_
      refine g_callS 4 8 (p1) okX12_in csX12_175 ⟨(Nat.le_of_ble_eq_true rfl), (Nat.le_of_ble_eq_true rfl)⟩ rfl rfl rfl rfl (Nat.le_of_ble_eq_true rfl) (Nat.le_of_ble_eq_true rfl) (Nat.le_of_ble_eq_true rfl) ?_
      refine e_aload_n 5 9 rfl rfl rfl rfl ?_
      refine g_getI 6 12 25 ckX12 flX12_63 rfl rfl (Nat.le_of_ble_eq_true rfl) rfl rfl rfl z1 ?_
      refine e_iconst 7 13 rfl rfl ?_
      refine e_icmp_ne 8 20 16 rfl rfl rfl z2 (by unfold xr at *; omega) (fun _ => ?_) (fun h9 => absurd h9 zz)
      refine e_iconst 11 21 rfl rfl ?_
      refine e_iconst 12 22 rfl rfl ?_
      refine g_callV 13 25 (sp_mGoes (a := true) (b := false) (c := true)) okX12_goes cvX12_167 ⟨(Nat.le_of_ble_eq_true rfl), (Nat.le_of_ble_eq_true rfl)⟩ rfl rfl (Nat.le_of_ble_eq_true rfl) rfl rfl rfl rfl rfl (Nat.le_of_ble_eq_true rfl) (Nat.le_of_ble_eq_true rfl) (Nat.le_of_ble_eq_true rfl) ?_
      refine e_ifb_ne 14 30 28 rfl rfl rfl (fun hb => ?_) (fun hb => ?_)
      · skip
        cases hb
      · skip
        refine e_iconst 15 29 rfl rfl ?_
        exact e_ireturn 16 rfl rfl (Nat.le_of_ble_eq_true rfl) (Nat.le_of_ble_eq_true rfl)
  · have p1 := sp_mIn (σ := σ) (x := f) (y := 0) (z := 7) hf (by unfold xr; omega) (by unfold xr; omega)
    rw [decF (by omega)] at p1
    refine STEP.refuse h 1 (by simp) (sp_keyX hf hh) (σ2 := xu σ 281 47 1) (y := 0) ?_ (xu_same _ _ _ _) F47s
    have fin : ∀ b : Bool, x_E MX12_key 0 0 21 [some (.ref 281), some (.int (ii f)), some (.int (ii y)), none, none] [.int (ii (bi b)), .int (ii (bi false)), .ref 281] (St σ) 0 0 (iv 0) (St (xu σ 281 47 1)) := by
      intro b
      refine e_iconst 12 22 rfl rfl ?_
      refine g_callV 13 25 (sp_mGoes (a := false) (b := b) (c := true)) okX12_goes cvX12_167 ⟨(Nat.le_of_ble_eq_true rfl), (Nat.le_of_ble_eq_true rfl)⟩ rfl rfl (Nat.le_of_ble_eq_true rfl) rfl rfl rfl rfl rfl (Nat.le_of_ble_eq_true rfl) (Nat.le_of_ble_eq_true rfl) (Nat.le_of_ble_eq_true rfl) ?_
      refine e_ifb_ne 14 30 28 rfl rfl rfl (fun hb => ?_) (fun hb => ?_)
      · skip
        cases hb
      · skip
        refine e_iconst 15 29 rfl rfl ?_
        exact e_ireturn 16 rfl rfl (Nat.le_of_ble_eq_true rfl) (Nat.le_of_ble_eq_true rfl)
    refine e_entry okX12_key (Nat.le_of_ble_eq_true rfl) (ls := [some _, some _, some _, none, none]) rfl ?_
    refine e_aload_n 0 1 rfl rfl rfl rfl ?_
    refine e_iload_n 1 2 rfl rfl rfl rfl ?_
    refine e_iconst 2 3 rfl rfl ?_
    refine e_bipush 3 5 rfl rfl rfl ?_
    refine g_callS 4 8 (p1) okX12_in csX12_175 ⟨(Nat.le_of_ble_eq_true rfl), (Nat.le_of_ble_eq_true rfl)⟩ rfl rfl rfl rfl (Nat.le_of_ble_eq_true rfl) (Nat.le_of_ble_eq_true rfl) (Nat.le_of_ble_eq_true rfl) ?_
    refine e_aload_n 5 9 rfl rfl rfl rfl ?_
    refine g_getI 6 12 25 ckX12 flX12_63 rfl rfl (Nat.le_of_ble_eq_true rfl) rfl rfl rfl z1 ?_
    refine e_iconst 7 13 rfl rfl ?_
    refine e_icmp_ne 8 20 16 rfl rfl rfl z2 (by unfold xr at *; omega) (fun hq => ?_) (fun hq => ?_)
    · skip
      refine e_iconst 11 21 rfl rfl ?_
      exact fin false
    · skip
      refine e_iconst 9 17 rfl rfl ?_
      refine e_goto 10 21 rfl rfl ?_
      exact fin true
