/-! ===== steps: update, the step ===== -/
theorem IM.pq {i : Nat} {τ σ : xSig} {T : Nat → List Int} {G : Nat → Fo} (h : IM i τ T G σ) {d : Int} (hd : d = 0 ∨ (d = 1 ∧ 0 < τ 1 2)) : IM i (xu τ 1 2 (τ 1 2 - d)) T G (xu σ 281 3 (τ 1 2 - d)) := by
  rcases hd with rfl | ⟨rfl, hp⟩
  · have e5 : σ 281 3 = τ 1 2 := h.2 5
    rw [Int.sub_zero, xu_id, ← e5, xu_id]
    exact h
  · exact h.pop hp
theorem ppd_d {σ : xSig} {op d : Int} (hd : (op = 1 ∧ d = 0) ∨ (op ≠ 1 ∧ d = 1)) : ppd σ op = xu σ 1 2 (σ 1 2 - d) := by
  unfold ppd
  rcases hd with ⟨h, rfl⟩ | ⟨h, rfl⟩
  · rw [if_pos h, Int.sub_zero, xu_id]
  · rw [if_neg h]
theorem uro_ppd {σ σ' : xSig} {op d r : Int} (hd : (op = 1 ∧ d = 0) ∨ (op ≠ 1 ∧ d = 1)) (hx : ∀ b : Nat, vA b = false → σ' b = σ b) : ∀ b : Nat, vA b = false → uro (ppd σ' op) r b = xu (uro σ r) 1 2 (σ 1 2 - d) b := by
  intro b hb
  have e1 := hx 1 (by decide +kernel)
  have e231 := hx 231 (by decide +kernel)
  have e236 := hx 236 (by decide +kernel)
  have e237 := hx 237 (by decide +kernel)
  rw [ppd_d hd, e1]
  obtain ⟨c1, c2⟩ := uro_cg (σ := σ) (σ' := xu σ' 1 2 (σ 1 2 - d)) (r := r) ((xu_other _ _ _ (by decide)).trans e231) ((xu_other _ _ _ (by decide)).trans e236) ((xu_other _ _ _ (by decide)).trans e237)
  by_cases b6 : b = 236
  · subst b6
    rw [c1, xu_other _ _ _ (by decide)]
  by_cases b7 : b = 237
  · subst b7
    rw [c2, xu_other _ _ _ (by decide)]
  have o := fun s : xSig => uro_o s r b (by simp only [List.mem_cons, List.not_mem_nil, or_false]; omega)
  rw [o]
  funext j
  unfold xu
  rw [hx b hb, o]
theorem st_update {i : Nat} {σ : xSig} (h : INV i σ) (hi : i < 512) {r n p op : Int} (hr0 : xr r) (hn0 : xr n) (hp0 : xr p) (ho0 : xr op) : STEP i MX11_update MX12_update iv [nIOB, nIAE, nISE] [.int (ii r), .int (ii n), .int (ii p), .int (ii op)] σ := by
  have hM := h
  obtain ⟨T, G, hA, hM⟩ := hM
  have h3 : 0 ≤ σ 1 2 ∧ σ 1 2 ≤ 10 := hM.1 3
  have e5 : σ 281 3 = σ 1 2 := hM.2 5
  have h01 := (hM.1 4).1
  obtain ⟨hC, hz, hinc, hlt, hmv9, ht1, ht2⟩ := hM.1 6
  have hru : ∀ f : Int, 0 ≤ σ 28 f ∧ σ 28 f ≤ 4 := hM.1 5
  obtain ⟨n1, n2, n3, n4, n5, n6, n7⟩ := hM.ent hi
  have pr := fun s => sp_mIn (σ := s) (x := r) (y := 0) (z := 1) hr0 (by unfold xr; omega) (by unfold xr; omega)
  have pp := fun s => sp_mIn (σ := s) (x := p) (y := 0) (z := 71) hp0 (by unfold xr; omega) (by unfold xr; omega)
  have po := fun s => sp_mIn (σ := s) (x := op) (y := 0) (z := 5) ho0 (by unfold xr; omega) (by unfold xr; omega)
  -- refused, at the question
  have refu : ∀ (s : xSig) (b5 b6 c : Bool), (b5 && (b6 && c)) = false → x_E MX12_update 0 0 82 [some (.ref 281), some (.int (ii r)), some (.int (ii n)), some (.int (ii p)), some (.int (ii op)), some (.int (ii (bi b5))), some (.int (ii (bi b6))), none] [.int (ii (bi c))] (St s) 0 0 (iv 0) (St (xu s 281 47 (gcode b5 b6 c))) := by
    intro s b5 b6 c hz
    refine e_istore 42 84 (ls' := [some _, some _, some _, some _, some _, some _, some _, some _]) rfl rfl (Nat.le_of_ble_eq_true rfl) rfl ?_
    refine e_aload_n 43 85 rfl rfl rfl rfl ?_
    refine e_iload 44 87 rfl rfl rfl ?_
    refine e_iload 45 89 rfl rfl rfl ?_
    refine e_iload 46 91 rfl rfl rfl ?_
    refine g_callV 47 94 (sp_mGoes (a := b5) (b := b6) (c := c)) okX12_goes cvX12_167 ⟨(Nat.le_of_ble_eq_true rfl), (Nat.le_of_ble_eq_true rfl)⟩ rfl rfl (Nat.le_of_ble_eq_true rfl) rfl rfl rfl rfl rfl (Nat.le_of_ble_eq_true rfl) (Nat.le_of_ble_eq_true rfl) (Nat.le_of_ble_eq_true rfl) ?_
    refine e_ifb_ne 48 99 97 rfl rfl rfl (fun hb => ?_) (fun hb => ?_)
    · skip
      exfalso
      rw [hz] at hb
      cases hb
    · skip
      refine e_iconst 49 98 rfl rfl ?_
      exact e_zreturn 50 rfl rfl (by omega) (Nat.le_of_ble_eq_true rfl) (Nat.le_of_ble_eq_true rfl)
  have pre43 : ∀ (s : xSig) (b6 : Bool), (∀ n : Nat, n < 100 → s 283 n = bi (hasd σ n)) → b6 = decide ((0 ≤ r ∧ r ≤ 1) ∧ (0 ≤ p ∧ p ≤ 71) ∧ 0 ≤ op ∧ op ≤ 5) → ∀ {o : xO} {Y : xS}, x_E MX12_update 0 0 43 [some (.ref 281), some (.int (ii r)), some (.int (ii n)), some (.int (ii p)), some (.int (ii op)), some (.int (ii (bi (hasd σ n)))), some (.int (ii (bi b6))), none] [] (St s) 0 0 o Y → x_Sp MX12_update 0 0 [.ref 281, .int (ii r), .int (ii n), .int (ii p), .int (ii op)] (St s) o Y := by
    intro s b6 h83 hb6 o Y kk
    have bad : ¬((0 ≤ r ∧ r ≤ 1) ∧ (0 ≤ p ∧ p ≤ 71) ∧ 0 ≤ op ∧ op ≤ 5) → x_E MX12_update 0 0 40 [some (.ref 281), some (.int (ii r)), some (.int (ii n)), some (.int (ii p)), some (.int (ii op)), some (.int (ii (bi (hasd σ n)))), none, none] [] (St s) 0 0 o Y := fun q => by
      rw [hb6, decF q] at kk
      refine e_iconst 21 41 rfl rfl ?_
      refine e_istore 22 43 (ls' := [some _, some _, some _, some _, some _, some _, some _, none]) rfl rfl (Nat.le_of_ble_eq_true rfl) rfl ?_
      exact kk
    refine e_entry okX12_update (Nat.le_of_ble_eq_true rfl) (ls := [some _, some _, some _, some _, some _, none, none, none]) rfl ?_
    refine e_aload_n 0 1 rfl rfl rfl rfl ?_
    refine e_iload_n 1 2 rfl rfl rfl rfl ?_
    refine g_callV 2 5 (sp_mIsThere h83 hn0) okX12_isThere cvX12_261 ⟨(Nat.le_of_ble_eq_true rfl), (Nat.le_of_ble_eq_true rfl)⟩ rfl rfl (Nat.le_of_ble_eq_true rfl) rfl rfl rfl rfl rfl (Nat.le_of_ble_eq_true rfl) (Nat.le_of_ble_eq_true rfl) (Nat.le_of_ble_eq_true rfl) ?_
    refine e_istore 3 7 (ls' := [some _, some _, some _, some _, some _, some _, none, none]) rfl rfl (Nat.le_of_ble_eq_true rfl) rfl ?_
    refine e_iload_n 4 8 rfl rfl rfl rfl ?_
    refine e_iconst 5 9 rfl rfl ?_
    refine e_iconst 6 10 rfl rfl ?_
    refine g_callS 7 13 (pr s) okX12_in csX12_175 ⟨(Nat.le_of_ble_eq_true rfl), (Nat.le_of_ble_eq_true rfl)⟩ rfl rfl rfl rfl (Nat.le_of_ble_eq_true rfl) (Nat.le_of_ble_eq_true rfl) (Nat.le_of_ble_eq_true rfl) ?_
    refine e_ifb_eq 8 40 16 rfl rfl rfl (fun q1 => ?_) (fun q1 => ?_)
    · skip
      have q1' := of_decide_eq_false q1
      exact bad (fun q => q1' q.1)
    · skip
      have q1' := of_decide_eq_true q1
      refine e_iload_n 9 17 rfl rfl rfl rfl ?_
      refine e_iconst 10 18 rfl rfl ?_
      refine e_bipush 11 20 rfl rfl rfl ?_
      refine g_callS 12 23 (pp s) okX12_in csX12_175 ⟨(Nat.le_of_ble_eq_true rfl), (Nat.le_of_ble_eq_true rfl)⟩ rfl rfl rfl rfl (Nat.le_of_ble_eq_true rfl) (Nat.le_of_ble_eq_true rfl) (Nat.le_of_ble_eq_true rfl) ?_
      refine e_ifb_eq 13 40 26 rfl rfl rfl (fun q2 => ?_) (fun q2 => ?_)
      · skip
        have q2' := of_decide_eq_false q2
        exact bad (fun q => q2' q.2.1)
      · skip
        have q2' := of_decide_eq_true q2
        refine e_iload 14 28 rfl rfl rfl ?_
        refine e_iconst 15 29 rfl rfl ?_
        refine e_iconst 16 30 rfl rfl ?_
        refine g_callS 17 33 (po s) okX12_in csX12_175 ⟨(Nat.le_of_ble_eq_true rfl), (Nat.le_of_ble_eq_true rfl)⟩ rfl rfl rfl rfl (Nat.le_of_ble_eq_true rfl) (Nat.le_of_ble_eq_true rfl) (Nat.le_of_ble_eq_true rfl) ?_
        refine e_ifb_eq 18 40 36 rfl rfl rfl (fun q3 => ?_) (fun q3 => ?_)
        · skip
          have q3' := of_decide_eq_false q3
          exact bad (fun q => q3' q.2.2)
        · skip
          have q3' := of_decide_eq_true q3
          rw [hb6, decT ⟨q1', q2', q3'⟩] at kk
          refine e_iconst 19 37 rfl rfl ?_
          refine e_goto 20 41 rfl rfl ?_
          refine e_istore 22 43 (ls' := [some _, some _, some _, some _, some _, some _, some _, none]) rfl rfl (Nat.le_of_ble_eq_true rfl) rfl ?_
          exact kk
  cases hh : hasd σ n with
  | false =>
    refine STEP.refuse h 1 (by simp) (sp_updateX h01 hn0 hh) (σ2 := xu σ 281 47 1) (y := 0) (pre43 σ _ (hM.2 3) rfl ?_) (xu_same _ _ _ _) F47s
    rw [hh]
    refine e_iload 23 45 rfl rfl rfl ?_
    refine e_ifb_eq 24 81 48 rfl rfl rfl (fun q => ?_) (fun q => ?_)
    · skip
      refine e_iconst 41 82 rfl rfl ?_
      exact refu σ false _ false rfl
    · skip
      cases q
  | true =>
  by_cases hb : ((0 ≤ r ∧ r < 2) ∧ (0 ≤ p ∧ p < 72) ∧ 0 ≤ op ∧ op ≤ 5)
  case neg =>
    refine STEP.refuse h 2 (by simp) (sp_updateX2 h01 hr0 hp0 ho0 hn0 hh hb) (σ2 := xu σ 281 47 2) (y := 0) (pre43 σ false (hM.2 3) (decF (by omega)).symm ?_) (xu_same _ _ _ _) F47s
    rw [hh]
    refine e_iload 23 45 rfl rfl rfl ?_
    refine e_ifb_eq 24 81 48 rfl rfl rfl (fun q => ?_) (fun q => ?_)
    · skip
      cases q
    · skip
      refine e_iload 25 50 rfl rfl rfl ?_
      refine e_ifb_eq 26 81 53 rfl rfl rfl (fun q2 => ?_) (fun q2 => ?_)
      · skip
        refine e_iconst 41 82 rfl rfl ?_
        exact refu σ true false false rfl
      · skip
        cases q2
  obtain ⟨hr, hp, ho⟩ := hb
  obtain ⟨hn1, hn2, -⟩ := hasd_in hh
  obtain ⟨m, rfl⟩ := Int.eq_ofNat_of_zero_le hn1
  have hm : m < 100 := by omega
  have hxo : xr op := by unfold xr; omega
  by_cases h0 : op = 1 ∨ 0 < σ 1 2
  case neg =>
    have ho1 : op ≠ 1 := fun q => h0 (Or.inl q)
    have hs0 : σ 1 2 = 0 := by omega
    refine STEP.refuse h 3 (by simp) (sp_updateX3 h01 hn0 hh hr hp ho ho1 hs0) (σ2 := xu σ 281 47 3) (y := 0) (pre43 σ true (hM.2 3) (decT (by omega)).symm ?_) (xu_same _ _ _ _) F47s
    rw [hh]
    refine e_iload 23 45 rfl rfl rfl ?_
    refine e_ifb_eq 24 81 48 rfl rfl rfl (fun q => ?_) (fun q => ?_)
    · skip
      cases q
    · skip
      refine e_iload 25 50 rfl rfl rfl ?_
      refine e_ifb_eq 26 81 53 rfl rfl rfl (fun q2 => ?_) (fun q2 => ?_)
      · skip
        cases q2
      · skip
        refine e_iload 27 55 rfl rfl rfl ?_
        refine e_iconst 28 56 rfl rfl ?_
        refine e_icmp_eq 29 66 59 rfl rfl rfl hxo (by unfold xr at *; omega) (fun h9 => absurd h9 ho1) (fun _ => ?_)
        refine e_aload_n 30 60 rfl rfl rfl rfl ?_
        refine g_getI 31 63 3 ckX12 flX12_146 rfl rfl (Nat.le_of_ble_eq_true rfl) rfl rfl rfl e5 ?_
        refine e_if_le 32 81 66 rfl rfl rfl (by unfold xr at *; omega) (fun _ => ?_) (fun h9 => absurd h9 (by omega))
        refine e_iconst 41 82 rfl rfl ?_
        exact refu σ true true false rfl
  -- what is there
  obtain ⟨d1, F, d2⟩ := hM.1 1 m hm hh
  have d3 := hM.2 0 m hm hh
  rw [d2] at d1 d3
  have hDC : DC (T (31 + 2 * m)) F := doc_dc (τ := σ) (T := T) (G := G) d1 rfl d3.1.2.1 d3.2
  obtain ⟨w, hwC, hwM⟩ : ∃ w : Fo, (op = 1 ∨ (ok1 w ∧ T (vtop σ) = tk w ∧ (tk w).length ≤ 72)) ∧ (op = 1 ∨ (MV σ 282 11300 (100 * (100 + (σ 281 3 - 1)) + 1) w ∧ pa w ≤ 24)) := by
    by_cases ho1 : op = 1
    · exact ⟨.num 0, Or.inl ho1, Or.inl ho1⟩
    · have hpos := h0.resolve_left ho1
      obtain ⟨k, hk⟩ := Int.eq_ofNat_of_zero_le (show 0 ≤ σ 1 2 - 1 by omega)
      have htop : vtop σ = 5 + 2 * k := by rw [show vtop σ = pv (σ 1 2 - 1) from rfl, pv_in (by omega) (by omega), hk]; rfl
      obtain ⟨t1, w1⟩ := hM.pile (k := k) (by omega)
      refine ⟨G (5 + 2 * k), Or.inr ⟨w1.1.2.1, by rw [htop]; exact t1, ?_⟩, Or.inr ⟨?_, w1.2⟩⟩
      · have := tk_len _ _ _ _ (ok1_okf w1.1.2.1)
        have := w1.2
        simp only [Bool.false_eq_true, if_false] at *
        omega
      · rw [e5, hk]
        exact w1.1
  sorry
