/-! ===== steps: update, the step ===== -/
theorem IM.pq {i : Nat} {τ σ : xSig} {T : Nat → List Int} {G : Nat → Fo} (h : IM i τ T G σ) {d : Int} (hd : d = 0 ∨ (d = 1 ∧ 0 < τ 1 2)) : IM i (xu τ 1 2 (τ 1 2 - d)) T G (xu σ 281 3 (τ 1 2 - d)) := by
  rcases hd with rfl | ⟨rfl, hp⟩
  · have e5 : σ 281 3 = τ 1 2 := h.2 5
    rw [Int.sub_zero, xu_id, ← e5, xu_id]
    exact h
  · exact h.pop hp
theorem ppd_d {σ : xSig} {op d : Int} (hd : (op = 1 ∧ d = 0) ∨ (op ≠ 1 ∧ d = 1)) : ppd σ op = xu σ 1 2 (σ 1 2 - d) := by
  unfold ppd
  rcases hd with ⟨h, rfl⟩ | ⟨h, rfl⟩
  · rw [if_pos h, Int.sub_zero, xu_id]
  · rw [if_neg h]
theorem uro_ppd {σ σ' : xSig} {op d r : Int} (hd : (op = 1 ∧ d = 0) ∨ (op ≠ 1 ∧ d = 1)) (hx : ∀ b : Nat, vA b = false → σ' b = σ b) : ∀ b : Nat, vA b = false → uro (ppd σ' op) r b = xu (uro σ r) 1 2 (σ 1 2 - d) b := by
  intro b hb
  have e1 := hx 1 (by decide +kernel)
  have e231 := hx 231 (by decide +kernel)
  have e236 := hx 236 (by decide +kernel)
  have e237 := hx 237 (by decide +kernel)
  rw [ppd_d hd, e1]
  obtain ⟨c1, c2⟩ := uro_cg (σ := σ) (σ' := xu σ' 1 2 (σ 1 2 - d)) (r := r) ((xu_other _ _ _ (by decide)).trans e231) ((xu_other _ _ _ (by decide)).trans e236) ((xu_other _ _ _ (by decide)).trans e237)
  by_cases b6 : b = 236
  · subst b6
    rw [c1, xu_other _ _ _ (by decide)]
  by_cases b7 : b = 237
  · subst b7
    rw [c2, xu_other _ _ _ (by decide)]
  have o := fun s : xSig => uro_o s r b (by simp only [List.mem_cons, List.not_mem_nil, or_false]; omega)
  rw [o]
  funext j
  unfold xu
  rw [hx b hb, o]
theorem st_update {i : Nat} {σ : xSig} (h : INV i σ) (hi : i < 512) {r n p op : Int} (hr0 : xr r) (hn0 : xr n) (hp0 : xr p) (ho0 : xr op) : STEP i MX11_update MX12_update iv [nIOB, nIAE, nISE] [.int (ii r), .int (ii n), .int (ii p), .int (ii op)] σ := by
  have hM := h
  obtain ⟨T, G, hA, hM⟩ := hM
  have h3 : 0 ≤ σ 1 2 ∧ σ 1 2 ≤ 10 := hM.1 3
  have e5 : σ 281 3 = σ 1 2 := hM.2 5
  have h01 := (hM.1 4).1
  obtain ⟨hC, hz, hinc, hlt, hmv9, ht1, ht2⟩ := hM.1 6
  have hru : ∀ f : Int, 0 ≤ σ 28 f ∧ σ 28 f ≤ 4 := hM.1 5
  obtain ⟨n1, n2, n3, n4, n5, n6, n7⟩ := hM.ent hi
  have pr := fun s => sp_mIn (σ := s) (x := r) (y := 0) (z := 1) hr0 (by unfold xr; omega) (by unfold xr; omega)
  have pp := fun s => sp_mIn (σ := s) (x := p) (y := 0) (z := 71) hp0 (by unfold xr; omega) (by unfold xr; omega)
  have po := fun s => sp_mIn (σ := s) (x := op) (y := 0) (z := 5) ho0 (by unfold xr; omega) (by unfold xr; omega)
  -- refused, at the question
  have refu : ∀ (s : xSig) (b5 b6 c : Bool), (b5 && (b6 && c)) = false → x_E MX12_update 0 0 82 [some (.ref 281), some (.int (ii r)), some (.int (ii n)), some (.int (ii p)), some (.int (ii op)), some (.int (ii (bi b5))), some (.int (ii (bi b6))), none] [.int (ii (bi c))] (St s) 0 0 (iv 0) (St (xu s 281 47 (gcode b5 b6 c))) := by
    intro s b5 b6 c hz
    refine e_istore 42 84 (ls' := [some _, some _, some _, some _, some _, some _, some _, some _]) rfl rfl (Nat.le_of_ble_eq_true rfl) rfl ?_
    refine e_aload_n 43 85 rfl rfl rfl rfl ?_
    refine e_iload 44 87 rfl rfl rfl ?_
    refine e_iload 45 89 rfl rfl rfl ?_
    refine e_iload 46 91 rfl rfl rfl ?_
    refine g_callV 47 94 (sp_mGoes (a := b5) (b := b6) (c := c)) okX12_goes cvX12_167 ⟨(Nat.le_of_ble_eq_true rfl), (Nat.le_of_ble_eq_true rfl)⟩ rfl rfl (Nat.le_of_ble_eq_true rfl) rfl rfl rfl rfl rfl (Nat.le_of_ble_eq_true rfl) (Nat.le_of_ble_eq_true rfl) (Nat.le_of_ble_eq_true rfl) ?_
    refine e_ifb_ne 48 99 97 rfl rfl rfl (fun hb => ?_) (fun hb => ?_)
    · skip
      exfalso
      rw [hz] at hb
      cases hb
    · skip
      refine e_iconst 49 98 rfl rfl ?_
      exact e_zreturn 50 rfl rfl (by omega) (Nat.le_of_ble_eq_true rfl) (Nat.le_of_ble_eq_true rfl)
  have pre43 : ∀ (s : xSig) (b6 : Bool), (∀ n : Nat, n < 100 → s 283 n = bi (hasd σ n)) → b6 = decide ((0 ≤ r ∧ r ≤ 1) ∧ (0 ≤ p ∧ p ≤ 71) ∧ 0 ≤ op ∧ op ≤ 5) → ∀ {o : xO} {Y : xS}, x_E MX12_update 0 0 43 [some (.ref 281), some (.int (ii r)), some (.int (ii n)), some (.int (ii p)), some (.int (ii op)), some (.int (ii (bi (hasd σ n)))), some (.int (ii (bi b6))), none] [] (St s) 0 0 o Y → x_Sp MX12_update 0 0 [.ref 281, .int (ii r), .int (ii n), .int (ii p), .int (ii op)] (St s) o Y := by
    intro s b6 h83 hb6 o Y kk
    have bad : ¬((0 ≤ r ∧ r ≤ 1) ∧ (0 ≤ p ∧ p ≤ 71) ∧ 0 ≤ op ∧ op ≤ 5) → x_E MX12_update 0 0 40 [some (.ref 281), some (.int (ii r)), some (.int (ii n)), some (.int (ii p)), some (.int (ii op)), some (.int (ii (bi (hasd σ n)))), none, none] [] (St s) 0 0 o Y := fun q => by
      rw [hb6, decF q] at kk
      refine e_iconst 21 41 rfl rfl ?_
      refine e_istore 22 43 (ls' := [some _, some _, some _, some _, some _, some _, some _, none]) rfl rfl (Nat.le_of_ble_eq_true rfl) rfl ?_
      exact kk
    refine e_entry okX12_update (Nat.le_of_ble_eq_true rfl) (ls := [some _, some _, some _, some _, some _, none, none, none]) rfl ?_
    refine e_aload_n 0 1 rfl rfl rfl rfl ?_
    refine e_iload_n 1 2 rfl rfl rfl rfl ?_
    refine g_callV 2 5 (sp_mIsThere h83 hn0) okX12_isThere cvX12_261 ⟨(Nat.le_of_ble_eq_true rfl), (Nat.le_of_ble_eq_true rfl)⟩ rfl rfl (Nat.le_of_ble_eq_true rfl) rfl rfl rfl rfl rfl (Nat.le_of_ble_eq_true rfl) (Nat.le_of_ble_eq_true rfl) (Nat.le_of_ble_eq_true rfl) ?_
    refine e_istore 3 7 (ls' := [some _, some _, some _, some _, some _, some _, none, none]) rfl rfl (Nat.le_of_ble_eq_true rfl) rfl ?_
    refine e_iload_n 4 8 rfl rfl rfl rfl ?_
    refine e_iconst 5 9 rfl rfl ?_
    refine e_iconst 6 10 rfl rfl ?_
    refine g_callS 7 13 (pr s) okX12_in csX12_175 ⟨(Nat.le_of_ble_eq_true rfl), (Nat.le_of_ble_eq_true rfl)⟩ rfl rfl rfl rfl (Nat.le_of_ble_eq_true rfl) (Nat.le_of_ble_eq_true rfl) (Nat.le_of_ble_eq_true rfl) ?_
    refine e_ifb_eq 8 40 16 rfl rfl rfl (fun q1 => ?_) (fun q1 => ?_)
    · skip
      have q1' := of_decide_eq_false q1
      exact bad (fun q => q1' q.1)
    · skip
      have q1' := of_decide_eq_true q1
      refine e_iload_n 9 17 rfl rfl rfl rfl ?_
      refine e_iconst 10 18 rfl rfl ?_
      refine e_bipush 11 20 rfl rfl rfl ?_
      refine g_callS 12 23 (pp s) okX12_in csX12_175 ⟨(Nat.le_of_ble_eq_true rfl), (Nat.le_of_ble_eq_true rfl)⟩ rfl rfl rfl rfl (Nat.le_of_ble_eq_true rfl) (Nat.le_of_ble_eq_true rfl) (Nat.le_of_ble_eq_true rfl) ?_
      refine e_ifb_eq 13 40 26 rfl rfl rfl (fun q2 => ?_) (fun q2 => ?_)
      · skip
        have q2' := of_decide_eq_false q2
        exact bad (fun q => q2' q.2.1)
      · skip
        have q2' := of_decide_eq_true q2
        refine e_iload 14 28 rfl rfl rfl ?_
        refine e_iconst 15 29 rfl rfl ?_
        refine e_iconst 16 30 rfl rfl ?_
        refine g_callS 17 33 (po s) okX12_in csX12_175 ⟨(Nat.le_of_ble_eq_true rfl), (Nat.le_of_ble_eq_true rfl)⟩ rfl rfl rfl rfl (Nat.le_of_ble_eq_true rfl) (Nat.le_of_ble_eq_true rfl) (Nat.le_of_ble_eq_true rfl) ?_
        refine e_ifb_eq 18 40 36 rfl rfl rfl (fun q3 => ?_) (fun q3 => ?_)
        · skip
          have q3' := of_decide_eq_false q3
          exact bad (fun q => q3' q.2.2)
        · skip
          have q3' := of_decide_eq_true q3
          rw [hb6, decT ⟨q1', q2', q3'⟩] at kk
          refine e_iconst 19 37 rfl rfl ?_
          refine e_goto 20 41 rfl rfl ?_
          refine e_istore 22 43 (ls' := [some _, some _, some _, some _, some _, some _, some _, none]) rfl rfl (Nat.le_of_ble_eq_true rfl) rfl ?_
          exact kk
  cases hh : hasd σ n with
  | false =>
    refine STEP.refuse h 1 (by simp) (sp_updateX h01 hn0 hh) (σ2 := xu σ 281 47 1) (y := 0) (pre43 σ _ (hM.2 3) rfl ?_) (xu_same _ _ _ _) F47s
    rw [hh]
    refine e_iload 23 45 rfl rfl rfl ?_
    refine e_ifb_eq 24 81 48 rfl rfl rfl (fun q => ?_) (fun q => ?_)
    · skip
      refine e_iconst 41 82 rfl rfl ?_
      exact refu σ false _ false rfl
    · skip
      cases q
  | true =>
  by_cases hb : ((0 ≤ r ∧ r < 2) ∧ (0 ≤ p ∧ p < 72) ∧ 0 ≤ op ∧ op ≤ 5)
  case neg =>
    refine STEP.refuse h 2 (by simp) (sp_updateX2 h01 hr0 hp0 ho0 hn0 hh hb) (σ2 := xu σ 281 47 2) (y := 0) (pre43 σ false (hM.2 3) (decF (by omega)).symm ?_) (xu_same _ _ _ _) F47s
    rw [hh]
    refine e_iload 23 45 rfl rfl rfl ?_
    refine e_ifb_eq 24 81 48 rfl rfl rfl (fun q => ?_) (fun q => ?_)
    · skip
      cases q
    · skip
      refine e_iload 25 50 rfl rfl rfl ?_
      refine e_ifb_eq 26 81 53 rfl rfl rfl (fun q2 => ?_) (fun q2 => ?_)
      · skip
        refine e_iconst 41 82 rfl rfl ?_
        exact refu σ true false false rfl
      · skip
        cases q2
  obtain ⟨hr, hp, ho⟩ := hb
  obtain ⟨hn1, hn2, -⟩ := hasd_in hh
  obtain ⟨m, rfl⟩ := Int.eq_ofNat_of_zero_le hn1
  have hm : m < 100 := by omega
  have hxo : xr op := by unfold xr; omega
  by_cases h0 : op = 1 ∨ 0 < σ 1 2
  case neg =>
    have ho1 : op ≠ 1 := fun q => h0 (Or.inl q)
    have hs0 : σ 1 2 = 0 := by omega
    refine STEP.refuse h 3 (by simp) (sp_updateX3 h01 hn0 hh hr hp ho ho1 hs0) (σ2 := xu σ 281 47 3) (y := 0) (pre43 σ true (hM.2 3) (decT (by omega)).symm ?_) (xu_same _ _ _ _) F47s
    rw [hh]
    refine e_iload 23 45 rfl rfl rfl ?_
    refine e_ifb_eq 24 81 48 rfl rfl rfl (fun q => ?_) (fun q => ?_)
    · skip
      cases q
    · skip
      refine e_iload 25 50 rfl rfl rfl ?_
      refine e_ifb_eq 26 81 53 rfl rfl rfl (fun q2 => ?_) (fun q2 => ?_)
      · skip
        cases q2
      · skip
        refine e_iload 27 55 rfl rfl rfl ?_
        refine e_iconst 28 56 rfl rfl ?_
        refine e_icmp_eq 29 66 59 rfl rfl rfl hxo (by unfold xr at *; omega) (fun h9 => absurd h9 ho1) (fun _ => ?_)
        refine e_aload_n 30 60 rfl rfl rfl rfl ?_
        refine g_getI 31 63 3 ckX12 flX12_146 rfl rfl (Nat.le_of_ble_eq_true rfl) rfl rfl rfl e5 ?_
        refine e_if_le 32 81 66 rfl rfl rfl (by unfold xr at *; omega) (fun _ => ?_) (fun h9 => absurd h9 (by omega))
        refine e_iconst 41 82 rfl rfl ?_
        exact refu σ true true false rfl
  -- what is there
  obtain ⟨d1, F, d2⟩ := hM.1 1 m hm hh
  have d3 := hM.2 0 m hm hh
  rw [d2] at d1 d3
  have hDC : DC (T (31 + 2 * m)) F := doc_dc (τ := σ) (T := T) (G := G) d1 rfl d3.1.2.1 d3.2
  obtain ⟨w, hwC, hwM⟩ : ∃ w : Fo, (op = 1 ∨ (ok1 w ∧ T (vtop σ) = tk w ∧ (tk w).length ≤ 72)) ∧ (op = 1 ∨ (MV σ 282 11300 (100 * (100 + (σ 281 3 - 1)) + 1) w ∧ pa w ≤ 24)) := by
    by_cases ho1 : op = 1
    · exact ⟨.num 0, Or.inl ho1, Or.inl ho1⟩
    · have hpos := h0.resolve_left ho1
      obtain ⟨k, hk⟩ := Int.eq_ofNat_of_zero_le (show 0 ≤ σ 1 2 - 1 by omega)
      have htop : vtop σ = 5 + 2 * k := by rw [show vtop σ = pv (σ 1 2 - 1) from rfl, pv_in (by omega) (by omega), hk]; rfl
      obtain ⟨t1, w1⟩ := hM.pile (k := k) (by omega)
      refine ⟨G (5 + 2 * k), Or.inr ⟨w1.1.2.1, by rw [htop]; exact t1, ?_⟩, Or.inr ⟨?_, w1.2⟩⟩
      · have := tk_len _ _ _ _ (ok1_okf w1.1.2.1)
        have := w1.2
        simp only [Bool.false_eq_true, if_false] at *
        omega
      · rw [e5, hk]
        exact w1.1
  have hFo : okf true false 0 F := hDC.2.1
  have hwo : op = 1 ∨ ok1 w := hwC.imp (fun q => q) (fun q => q.1)
  -- the model's walk to the question, from a state that is the model's own still
  have to82 : ∀ s : xSig, (∀ b : Nat, 281 ≤ b → b < 314 → s b = σ b) → ∃ s', (∀ {o : xO} {Y : xS}, x_E MX12_update 0 0 82 [some (.ref 281), some (.int (ii r)), some (.int (ii (m : Nat))), some (.int (ii p)), some (.int (ii op)), some (.int (ii (bi true))), some (.int (ii (bi true))), none] [.int (ii (bi (upB σ (edD F p op w))))] (St s') 0 0 o Y → x_Sp MX12_update 0 0 [.ref 281, .int (ii r), .int (ii (m : Nat)), .int (ii p), .int (ii op)] (St s) o Y) ∧ (∀ F', edD F p op w = some F' → MD s' (en (.add F' (.num 0)))) ∧ FP up9 s s' := by
    intro s gs
    have hMs := hM.fm gs
    have hRs : MV s 282 11300 (100 * m + 1) (.add F (.num 0)) := d3.1.of (gs 282 (by omega) (by omega))
    obtain ⟨s', c1, c2, c3⟩ := sp_mUpdates (τ := σ) (s := s) (path := p) (op := op) (w := w) hm hp ho (hMs.2 6) hru hRs d3.2 (hwM.imp (fun q => q) (fun q => ⟨by rw [gs 281 (by omega) (by omega)]; exact q.1.of (gs 282 (by omega) (by omega)), q.2⟩))
    refine ⟨s', fun {o Y} kk => ?_, c2, c3⟩
    have a3 : s 281 3 = σ 1 2 := by rw [gs 281 (by omega) (by omega)]; exact e5
    refine pre43 s true (hMs.2 3) (decT (by omega)).symm ?_
    rw [hh]
    have k66 : x_E MX12_update 0 0 66 [some (.ref 281), some (.int (ii r)), some (.int (ii (m : Nat))), some (.int (ii p)), some (.int (ii op)), some (.int (ii (bi true))), some (.int (ii (bi true))), none] [] (St s) 0 0 o Y := by
      refine e_aload_n 33 67 rfl rfl rfl rfl ?_
      refine e_iload_n 34 68 rfl rfl rfl rfl ?_
      refine e_iload_n 35 69 rfl rfl rfl rfl ?_
      refine e_iload 36 71 rfl rfl rfl ?_
      refine g_callV 37 74 (c1) okX12_updates cvX12_264 ⟨(Nat.le_of_ble_eq_true rfl), (Nat.le_of_ble_eq_true rfl)⟩ rfl rfl (Nat.le_of_ble_eq_true rfl) rfl rfl rfl rfl rfl (Nat.le_of_ble_eq_true rfl) (Nat.le_of_ble_eq_true rfl) (Nat.le_of_ble_eq_true rfl) ?_
      refine e_ifb_eq 38 81 77 rfl rfl rfl (fun q => ?_) (fun q => ?_)
      · skip
        rw [q] at kk
        refine e_iconst 41 82 rfl rfl ?_
        exact kk
      · skip
        rw [q] at kk
        refine e_iconst 39 78 rfl rfl ?_
        refine e_goto 40 82 rfl rfl ?_
        exact kk
    refine e_iload 23 45 rfl rfl rfl ?_
    refine e_ifb_eq 24 81 48 rfl rfl rfl (fun q => ?_) (fun q => ?_)
    · skip
      cases q
    · skip
      refine e_iload 25 50 rfl rfl rfl ?_
      refine e_ifb_eq 26 81 53 rfl rfl rfl (fun q2 => ?_) (fun q2 => ?_)
      · skip
        cases q2
      · skip
        refine e_iload 27 55 rfl rfl rfl ?_
        refine e_iconst 28 56 rfl rfl ?_
        refine e_icmp_eq 29 66 59 rfl rfl rfl hxo (by unfold xr at *; omega) (fun h1 => ?_) (fun h1 => ?_)
        · skip
          exact k66
        · skip
          refine e_aload_n 30 60 rfl rfl rfl rfl ?_
          refine g_getI 31 63 3 ckX12 flX12_146 rfl rfl (Nat.le_of_ble_eq_true rfl) rfl rfl rfl a3 ?_
          refine e_if_le 32 81 66 rfl rfl rfl (by unfold xr at *; omega) (fun h9 => absurd h9 (by omega)) (fun _ => ?_)
          exact k66
  have no3 : ∀ (σ1 : xSig) (T' : Nat → List Int), upB σ (edD F p op w) = false → FX eL σ σ1 → VAll σ1 T' → (∀ a, a ≠ 244 → a ≠ 246 → T' a = T a) → x_Sp MX11_update 1 6 [.ref 0, .int (ii r), .int (ii (m : Nat)), .int (ii p), .int (ii op)] (St σ) tISE (St σ1) → STEP i MX11_update MX12_update iv [nIOB, nIAE, nISE] [.int (ii r), .int (ii (m : Nat)), .int (ii p), .int (ii op)] σ := by
    intro σ1 T' hu hx hA1 hT hcl
    obtain ⟨s', k1, -, k3⟩ := to82 σ1 (fun b hb _ => (eL_v hx).2 b hb)
    rw [hu] at k1
    exact upd_refuse hM hA1 hT hx hcl (k1 (refu s' true true false rfl)) (xu_same _ _ _ _) ((k3.mono rfl).put rfl)
  cases he : edD F p op w with
  | none =>
    obtain ⟨σ1, k1, k2⟩ := sp_updateX4 (t0 := []) (m0 := []) hA h01 (r := r) hh hr hp ho h3 h0 hDC hwC he
    obtain ⟨T', a1, a2⟩ := k2.any hA
    exact no3 σ1 T' (by rw [he]; rfl) k2.2.2.2 a1 a2 k1
  | some F' =>
    have hF' := edD_ok hFo hp hwo he
    have hv' : ok1 (.add F' (.num 0)) := Or.inr (Or.inl ⟨_, rfl, hF'⟩)
    have ept : pts (5000 :: (tk F' ++ [0])) = pa (.add F' (.num 0)) := pts_tk hv'
    by_cases hx : pts (5000 :: (tk F' ++ [0])) ≤ 24 ∧ krl σ (5000 :: (tk F' ++ [0])) = true
    case neg =>
      have hx' : 24 < pts (5000 :: (tk F' ++ [0])) ∨ krl σ (5000 :: (tk F' ++ [0])) = false := by
        by_cases q : 24 < pts (5000 :: (tk F' ++ [0]))
        · exact Or.inl q
        · refine Or.inr ?_
          cases q2 : krl σ (5000 :: (tk F' ++ [0])) with
          | false => rfl
          | true => exact absurd ⟨by omega, q2⟩ hx
      obtain ⟨σ1, k1, k2⟩ := sp_updateX5 hA h01 hru (r := r) hh hr hp ho h3 h0 hDC hwC he hx'
      obtain ⟨T', a1, a2⟩ := k2.any hA
      refine no3 σ1 T' ?_ k2.2.2.2 a1 a2 k1
      rw [he]
      show (decide (pa (.add F' (.num 0)) ≤ 24) && krF σ F') = false
      by_cases q : pa (.add F' (.num 0)) ≤ 24
      · have hDC' : DC (5000 :: (tk F' ++ [0])) F' := doc_dc (τ := σ) (T := T) (G := G) (v := .add F' (.num 0)) rfl rfl hv' q
        rw [← krl_F hDC', hx'.resolve_left (by omega), Bool.and_false]
      · rw [decF q, Bool.false_and]
    have h24' : pa (.add F' (.num 0)) ≤ 24 := by rw [← ept]; exact hx.1
    have hDC' : DC (5000 :: (tk F' ++ [0])) F' := doc_dc (τ := σ) (T := T) (G := G) (v := .add F' (.num 0)) rfl rfl hv' h24'
    have hup : upB σ (some F') = true := by
      show (decide (pa (.add F' (.num 0)) ≤ 24) && krF σ F') = true
      rw [decT h24', ← krl_F hDC', hx.2]
      rfl
    obtain ⟨v1, v2, v3, v4⟩ := hM.ver (by omega) hr
    obtain ⟨σ', x1, ⟨m1, x2⟩, x3, x4⟩ := sp_update1 hA h01 hC hru hh hr hp ho h3 h0 hDC hwC he hF' hx v1 v2 ⟨n1, n3⟩
    obtain ⟨e1, e2⟩ := eL_v x1
    obtain ⟨d, hd⟩ : ∃ d : Int, (op = 1 ∧ d = 0) ∨ (op ≠ 1 ∧ d = 1) := by
      by_cases q : op = 1
      · exact ⟨0, Or.inl ⟨q, rfl⟩⟩
      · exact ⟨1, Or.inr ⟨q, rfl⟩⟩
    have hd' : d = 0 ∨ (d = 1 ∧ 0 < σ 1 2) := by
      rcases hd with q | q
      · exact Or.inl q.2
      · exact Or.inr ⟨q.2, h0.resolve_left q.1⟩
    generalize ht9 : (5000 :: (tk F' ++ [0]) : List Int) = t at *
    have htF : t = tk (.add F' (.num 0)) := ht9.symm
    have elx : lexc t (T (31 + 2 * m)) = lexc (tk (.add F' (.num 0))) (tk (.add F (.num 0))) := by rw [htF, d1]
    -- the model, from the class's end to the comparison
    have cmp : ∀ σ1 : xSig, (∀ b : Nat, 281 ≤ b → b < 314 → σ1 b = σ b) → ∃ s3 s4 : xSig, (∀ {o : xO} {Y : xS}, x_E MX12_update 0 0 141 [some (.ref 281), some (.int (ii r)), some (.int (ii (m : Nat))), some (.int (ii p)), some (.int (ii op)), some (.int (ii (bi true))), some (.int (ii (bi true))), some (.int (ii (bi true)))] [.int (ii (lexc t (T (31 + 2 * m))))] (St s4) 0 0 o Y → x_Sp MX12_update 0 0 [.ref 281, .int (ii r), .int (ii (m : Nat)), .int (ii p), .int (ii op)] (St σ1) o Y) ∧ IM i (xu (uro σ r) 1 2 (σ 1 2 - d)) T G s3 ∧ FP m11 s3 s4 ∧ MD s3 (en (.add F' (.num 0))) ∧ FP [(311, -1), (281, 47), (301, -1), (302, -1), (281, 7), (285, -1), (284, -1), (281, 5), (281, 3)] σ1 s3 ∧ s3 281 47 = 0 := by
      intro σ1 g1
      obtain ⟨s', k1, k2, k3⟩ := to82 σ1 g1
      rw [he, hup] at k1
      have hM1 : IM i σ T G σ1 := hM.fm g1
      have hM2 := (hM1.fp k3 (by decide +kernel)).fp (F47 (c := 0)) (by decide +kernel)
      have hM3 := hM2.use hr
      have hu : x_Sp MX12_uses 0 0 [.ref 281, .int (ii r)] (St (xu s' 281 47 0)) vv (St (mur (xu s' 281 47 0) r)) := by
        refine sp_mUses hr ?_ ?_
        · rw [xu_other _ _ _ (by decide), k3.cell 301 rfl, g1 301 (by omega) (by omega), v3]; exact v2
        · rw [xu_ne _ (Or.inr (by decide)), k3 281 31 rfl, g1 281 (by omega) (by omega), v4]; exact v1
      have f2 : FP [(311, -1), (281, 47), (301, -1), (302, -1), (281, 7), (285, -1), (284, -1), (281, 5)] σ1 (mur (xu s' 281 47 0) r) := ((k3.mono rfl).put rfl).tr ((mur_f _ _).mono rfl)
      have f7 : mur (xu s' 281 47 0) r 281 47 = 0 := by rw [(mur_f _ _) 281 47 rfl, xu_same]
      have hMDs : MD (mur (xu s' 281 47 0) r) (en (.add F' (.num 0))) := by
        obtain ⟨y1, y2, y3⟩ := k2 F' he
        refine ⟨?_, y2.of fun j _ _ => ?_, y3⟩
        · rw [(mur_f _ _) 281 7 rfl, xu_ne _ (Or.inr (by decide))]; exact y1
        · rw [(mur_f _ _).cell 285 rfl, xu_other _ _ _ (by decide)]
      generalize hs2 : mur (xu s' 281 47 0) r = s2 at *
      have b3 : s2 281 3 = σ 1 2 := by rw [f2 281 3 rfl, g1 281 (by omega) (by omega)]; exact e5
      have hp3 : uro σ r 1 2 = σ 1 2 := by rw [uro_o σ r 1 (by decide)]
      have hM4 := hM3.pq (d := d) (by rw [hp3]; exact hd')
      rw [hp3] at hM4
      have f3 : FP [(281, 3)] s2 (xu s2 281 3 (σ 1 2 - d)) := FP.rf.put rfl
      have hMD3 : MD (xu s2 281 3 (σ 1 2 - d)) (en (.add F' (.num 0))) := ⟨by rw [f3 281 7 rfl]; exact hMDs.1, hMDs.2.1.of fun j _ _ => by rw [f3.cell 285 rfl], hMDs.2.2⟩
      have f23 : FP [(311, -1), (281, 47), (301, -1), (302, -1), (281, 7), (285, -1), (284, -1), (281, 5), (281, 3)] σ1 (xu s2 281 3 (σ 1 2 - d)) := (f2.mono rfl).tr (f3.mono rfl)
      have hR3 : MV (xu s2 281 3 (σ 1 2 - d)) 282 11300 (100 * m + 1) (.add F (.num 0)) := d3.1.of (by rw [f23.cell 282 rfl]; exact g1 282 (by omega) (by omega))
      obtain ⟨s4, c1, c2⟩ := sp_mCompare (made_mv hMD3 hv' (by omega)) hR3
      rw [← elx] at c1
      refine ⟨_, s4, fun {o Y} kk => k1 ?_, hM4, c2, hMD3, f23, by rw [f3 281 47 rfl]; exact f7⟩
      have k120 : x_E MX12_update 0 0 120 [some (.ref 281), some (.int (ii r)), some (.int (ii (m : Nat))), some (.int (ii p)), some (.int (ii op)), some (.int (ii (bi true))), some (.int (ii (bi true))), some (.int (ii (bi true)))] [.int (ii d), .int (ii (σ 1 2)), .ref 281] (St s2) 0 0 o Y := by
        have hdx : 0 ≤ d ∧ d ≤ 1 := by omega
        refine e_isub 63 121 rfl rfl ?_
        refine g_putI 64 124 3 ckX12 flX12_146 rfl rfl (Nat.le_of_ble_eq_true rfl) rfl rfl rfl ?_
        refine e_aload_n 65 125 rfl rfl rfl rfl ?_
        refine e_aload_n 66 126 rfl rfl rfl rfl ?_
        refine g_getR 67 129 ckX12 flX12_20 rfl rfl (Nat.le_of_ble_eq_true rfl) rfl rfl ?_
        refine e_iconst 68 130 rfl rfl ?_
        refine e_aload_n 69 131 rfl rfl rfl rfl ?_
        refine g_getR 70 134 ckX12 flX12_7 rfl rfl (Nat.le_of_ble_eq_true rfl) rfl rfl ?_
        refine e_iload_n 71 135 rfl rfl rfl rfl ?_
        refine g_callS 72 138 (sp_mBlock (x := m)) okX12_block csX12_142 ⟨(Nat.le_of_ble_eq_true rfl), (Nat.le_of_ble_eq_true rfl)⟩ rfl rfl rfl rfl (Nat.le_of_ble_eq_true rfl) (Nat.le_of_ble_eq_true rfl) (Nat.le_of_ble_eq_true rfl) ?_
        refine g_callV 73 141 (c1) okX12_compare cvX12_253 ⟨(Nat.le_of_ble_eq_true rfl), (Nat.le_of_ble_eq_true rfl)⟩ rfl rfl (Nat.le_of_ble_eq_true rfl) rfl rfl rfl rfl rfl (Nat.le_of_ble_eq_true rfl) (Nat.le_of_ble_eq_true rfl) (Nat.le_of_ble_eq_true rfl) ?_
        exact kk
      refine e_istore 42 84 (ls' := [some _, some _, some _, some _, some _, some _, some _, some _]) rfl rfl (Nat.le_of_ble_eq_true rfl) rfl ?_
      refine e_aload_n 43 85 rfl rfl rfl rfl ?_
      refine e_iload 44 87 rfl rfl rfl ?_
      refine e_iload 45 89 rfl rfl rfl ?_
      refine e_iload 46 91 rfl rfl rfl ?_
      refine g_callV 47 94 (sp_mGoesT) okX12_goes cvX12_167 ⟨(Nat.le_of_ble_eq_true rfl), (Nat.le_of_ble_eq_true rfl)⟩ rfl rfl (Nat.le_of_ble_eq_true rfl) rfl rfl rfl rfl rfl (Nat.le_of_ble_eq_true rfl) (Nat.le_of_ble_eq_true rfl) (Nat.le_of_ble_eq_true rfl) ?_
      refine e_ifb_ne 48 99 97 rfl rfl rfl (fun q => ?_) (fun q => ?_)
      · skip
        refine e_aload_n 51 100 rfl rfl rfl rfl ?_
        refine e_iload_n 52 101 rfl rfl rfl rfl ?_
        refine g_callV 53 104 (hu) okX12_uses cvX12_234 ⟨(Nat.le_of_ble_eq_true rfl), (Nat.le_of_ble_eq_true rfl)⟩ rfl rfl (Nat.le_of_ble_eq_true rfl) rfl rfl rfl rfl rfl (Nat.le_of_ble_eq_true rfl) (Nat.le_of_ble_eq_true rfl) (Nat.le_of_ble_eq_true rfl) ?_
        refine e_aload_n 54 105 rfl rfl rfl rfl ?_
        refine e_dup 55 106 rfl rfl rfl ?_
        refine g_getI 56 109 3 ckX12 flX12_146 rfl rfl (Nat.le_of_ble_eq_true rfl) rfl rfl rfl b3 ?_
        refine e_iload 57 111 rfl rfl rfl ?_
        refine e_iconst 58 112 rfl rfl ?_
        refine e_icmp_ne 59 119 115 rfl rfl rfl hxo (by unfold xr at *; omega) (fun h1 => ?_) (fun h1 => ?_)
        · skip
          have e : d = 1 := by omega
          rw [e] at k120
          refine e_iconst 62 120 rfl rfl ?_
          exact k120
        · skip
          have e : d = 0 := by omega
          rw [e] at k120
          refine e_iconst 60 116 rfl rfl ?_
          refine e_goto 61 120 rfl rfl ?_
          exact k120
      · skip
        cases q
    have up := uro_ppd (r := r) hd e1
    have gl9 : ∀ b : Nat, b < 281 → b ≠ 311 ∧ b ≠ 281 ∧ b ≠ 301 ∧ b ≠ 302 ∧ b ≠ 285 ∧ b ≠ 284 ∧ b ≠ 282 ∧ b ≠ 283 ∧ b ≠ 299 ∧ b ≠ 303 ∧ b ≠ 304 ∧ b ≠ 305 := fun b hb => by omega
    by_cases hlx : lexc t (T (31 + 2 * m)) = 0
    · -- the same as before
      have k1 := x3 hlx
      generalize hσ1 : uro (ppd σ' op) r = σ1 at *
      have g1 : ∀ b : Nat, 281 ≤ b → b < 314 → σ1 b = σ b := fun b hb hb3 => by
        have hv : ∀ b, b < 314 → 281 ≤ b → vA b = false := by decide +kernel
        rw [up b (hv b hb3 hb), xu_other _ _ _ (by omega), uro_o σ r b (by simp only [List.mem_cons, List.not_mem_nil, or_false]; omega)]
      obtain ⟨s3, s4, q1, q2, q3, q4, q5, q6⟩ := cmp σ1 g1
      have gl : FP [(311, -1), (281, 47), (301, -1), (302, -1), (281, 7), (285, -1), (284, -1), (281, 5), (281, 3)] σ1 s4 := q5.tr (q3.mono rfl)
      refine ⟨σ1, s4, 0, _, _, ⟨by omega, by simp⟩, fun _ => k1, fun q => absurd rfl q, q1 ?_, by rw [q3 281 47 rfl]; exact q6, fun _ => rfl, ?_⟩
      · show x_E MX12_update 0 0 141 _ _ _ 0 0 (zv false) _
        refine e_if_ne 74 146 144 rfl rfl rfl (by unfold xr at *; omega) (fun h9 => absurd h9 (fun q => q hlx)) (fun _ => ?_)
        refine e_iconst 75 145 rfl rfl ?_
        exact e_zreturn 76 rfl rfl (Or.inl rfl) (Nat.le_of_ble_eq_true rfl) (Nat.le_of_ble_eq_true rfl)
      · have hAσ : VAll σ1 (uT2 T F' m1) := by
          rw [← hσ1]
          exact (x2.fx (ppd_o σ' op) (by decide +kernel)).fx (uro_o _ r) (by decide +kernel)
        refine INV.fin2 (VAll.fp hAσ gl (by decide +kernel)) (((q2.fp q3 (by decide +kernel)).tT (fun a n4 n6 => uT2_o T F' m1 n4 n6)).mono (by omega)) (fun b hb hv => ?_)
        rw [gl.cell b (by have := gl9 b hb; simp only [List.all_cons, List.all_nil, Bool.and_true, bne_iff_ne, Bool.and_eq_true]; omega)]
        exact up b hv
    · -- another document
      obtain ⟨σ2, m2, k1, k2, k3⟩ := x4 hlx
      have hcn : σ 27 m = 1 := (hasd_in hh).2.2
      have hx : ∀ b : Nat, vA b = false → σ2 b = xu (xu (xu σ 1 2 (σ 1 2 - d)) 27 m 1) 25 4 (σ 25 4) b := fun b hb => by
        rw [k3 b hb (by simp), ppd_d hd, e1 1 (by decide +kernel)]
        funext j
        unfold xu
        rw [e1 b hb]
        by_cases w2 : b = 25 ∧ j = 4
        · rw [if_pos w2, if_neg (by omega), w2.1, w2.2]
        · rw [if_neg w2]
          by_cases w3 : b = 27 ∧ j = m
          · rw [if_pos w3, if_neg (by omega), w3.1, w3.2, hcn]
          · rw [if_neg w3]
      generalize hσ1 : tld σ2 t 1 m r = σ1 at k1
      have te := tell_eq (σ := σ) (r := r) (w := 1) (t := t) hx rfl rfl
      rw [hσ1] at te
      have g1 : ∀ b : Nat, 281 ≤ b → b < 314 → σ1 b = σ b := fun b hb hb3 => by
        have hv : ∀ b, b < 314 → 281 ≤ b → vA b = false := by decide +kernel
        rw [te b (hv b hb3 hb)]
        unfold entd
        rw [xu_other _ _ _ (by omega), xu_other _ _ _ (by omega), xu_other _ _ _ (by omega), xu_other _ _ _ (by omega), xu_other _ _ _ (by omega), xu_other _ _ _ (by omega), xu_other _ _ _ (by omega), xu_other _ _ _ (by omega)]
        exact uro_o σ r b (by simp only [List.mem_cons, List.not_mem_nil, or_false]; omega)
      obtain ⟨s3, s4, q1, q2, q3, q4, q5, q6⟩ := cmp σ1 g1
      have wl := ok1_pa hv'
      have hMD4 := q4.fp q3
      have c3 := sp_mLays (σ := s4) (at9 := 100 * (m : Int) + 1) (by omega) (by omega) hMD4
      generalize hs5 : lay9 s4 (100 * (m : Int) + 1) (en (.add F' (.num 0))) (en (.add F' (.num 0))).length = s5 at c3
      have e82 : ∀ j : Int, s5 282 j = lay9 s4 (100 * (m : Int) + 1) (en (.add F' (.num 0))) (en (.add F' (.num 0))).length 282 j := fun j => by rw [← hs5]
      have f5 : FP [(311, -1), (282, -1)] s3 s5 := by
        rw [← hs5]
        refine FP.tr (q3.mono rfl) (fun b j q => ?_)
        rw [lay9_o _ _ _ _ (fun e => by subst e; simp [inP] at q)]
      have hnew : MV s5 282 11300 (100 * (m : Int) + 1) (.add F' (.num 0)) := by
        refine ⟨isMA_all, hv', by omega, by omega, by omega, ?_⟩
        refine (lay9_in s4 _ _).of fun j _ _ => ?_
        rw [e82]
      generalize hτ : xu (uro σ r) 1 2 (σ 1 2 - d) = τ9 at *
      have o9 : ∀ b : Nat, b ≠ 1 → b ≠ 236 → b ≠ 237 → τ9 b = σ b := fun b b1 b6 b7 => by
        rw [← hτ, xu_other _ _ _ b1, uro_o σ r b (by simp only [List.mem_cons, List.not_mem_nil, or_false]; omega)]
      have ek := chk_congr (σ := σ) (σ' := τ9) ⟨o9 231 (by decide) (by decide) (by decide), o9 232 (by decide) (by decide) (by decide), o9 233 (by decide) (by decide) (by decide)⟩ t
      have eh : hmv τ9 = hmv σ := by unfold hmv; rw [o9 231 (by decide) (by decide) (by decide)]
      have hh9 : hasd τ9 m = true := by rw [hasd_congr (o9 27 (by decide) (by decide) (by decide))]; exact hh
      have hC3 := q2.1 6
      have hCm : CHM τ9 s5 := q2.chm.fp f5 rfl
      have q135 : (τ9 231 11 = -1 → s5 281 25 = -1) ∧ (τ9 231 11 ≠ -1 → s5 281 25 = τ9 232 (τ9 231 11) ∧ s5 281 26 = τ9 231 12) := by
        rw [f5 281 25 rfl, f5 281 26 rfl]
        exact q2.2 13
      obtain ⟨z, z1, z2, z3, z4⟩ := mfrom hC3.1 hC3.2.2.1 hC3.2.2.2.2.1 (σ := s5) q135
      obtain ⟨s6, c5, f6⟩ := sp_mChunkOf hCm hDC' hnew
      have hC6 := hCm.fp f6 rfl
      have c6 := sp_mMoving hC6 hC3.2.2.1 hC3.2.2.2.2.1 (by rw [f6 281 25 rfl, f6 281 26 rfl]; exact q135)
      -- the last walk: the flag, the entry
      have fin : ∀ (s : xSig) (b : Bool), FP m11 s5 s → b = (hmv τ9 && decide (chk τ9 t = τ9 231 11)) → ∃ σe, x_E MX12_update 0 0 184 [some (.ref 281), some (.int (ii r)), some (.int (ii (m : Nat))), some (.int (ii p)), some (.int (ii op)), some (.int (ii (bi true))), some (.int (ii (bi true))), some (.int (ii (bi true)))] [.int (ii (bi b)), .int (ii (m : Nat)), .ref 299] (St s) 0 0 (zv true) (St σe) ∧ σe 281 47 = 0 ∧ INV (i + 1) σe := by
        intro s b g hb
        have fx : FP [(311, -1), (299, -1)] s5 (xu s 299 m (bi b)) := (g.mono rfl).putA rfl
        have hnewx : MV (xu s 299 m (bi b)) 282 11300 (100 * (m : Int) + 1) (.add F' (.num 0)) := hnew.of (fx.cell 282 rfl)
        obtain ⟨s7, c7, f7⟩ := sp_mShardOf (hCm.fp fx rfl) hDC' hnewx
        have f57 : FP [(311, -1), (299, -1)] s5 s7 := fx.tr (f7.mono rfl)
        have f37 : FP [(311, -1), (282, -1), (299, -1)] s3 s7 := (f5.mono rfl).tr (f57.mono rfl)
        have e37 : s7 281 37 = σ 239 3 := by rw [f37 281 37 rfl, q5 281 37 rfl, g1 281 (by omega) (by omega)]; exact n7
        refine ⟨ment s7 1 m (shd τ9 t), ?_, ?_, ?_⟩
        · skip
          refine g_bastore 97 185 rfl rfl (bi_01 b) (Nat.le_of_ble_eq_true rfl) rfl (by omega) (by omega) (by omega) ?_
          refine e_aload_n 98 186 rfl rfl rfl rfl ?_
          refine e_iconst 99 187 rfl rfl ?_
          refine e_iload_n 100 188 rfl rfl rfl rfl ?_
          refine e_aload_n 101 189 rfl rfl rfl rfl ?_
          refine e_iload_n 102 190 rfl rfl rfl rfl ?_
          refine g_callV 103 193 (c7) okX12_shardOf cvX12_237 ⟨(Nat.le_of_ble_eq_true rfl), (Nat.le_of_ble_eq_true rfl)⟩ rfl rfl (Nat.le_of_ble_eq_true rfl) rfl rfl rfl rfl rfl (Nat.le_of_ble_eq_true rfl) (Nat.le_of_ble_eq_true rfl) (Nat.le_of_ble_eq_true rfl) ?_
          refine g_callV 104 196 (sp_mEnters (by rw [e37]; omega)) okX12_enters cvX12_243 ⟨(Nat.le_of_ble_eq_true rfl), (Nat.le_of_ble_eq_true rfl)⟩ rfl rfl (Nat.le_of_ble_eq_true rfl) rfl rfl rfl rfl rfl (Nat.le_of_ble_eq_true rfl) (Nat.le_of_ble_eq_true rfl) (Nat.le_of_ble_eq_true rfl) ?_
          refine e_iconst 105 197 rfl rfl ?_
          exact e_zreturn 106 rfl rfl (Or.inr rfl) (Nat.le_of_ble_eq_true rfl) (Nat.le_of_ble_eq_true rfl)
        · rw [(ment_f _ _ _ _) 281 47 rfl, f37 281 47 rfl]; exact q6
        · have hMd := q2.doc (σ' := s7) (i' := i + 1) (n := m) (F := F') (t := t) (c := σ 25 4) (by omega) hm htF hDC' (by
            rw [if_pos hh9, o9 25 (by decide) (by decide) (by decide)]) (by omega) (by
            rw [o9 239 (by decide) (by decide) (by decide)]; omega) (f37.mono rfl) (fun j hj => by
            rw [f57.cell 282 rfl, e82]
            unfold lay9
            rw [if_neg (by omega), q3.cell 282 rfl]) (hnew.of (f57.cell 282 rfl)) (fun j => by
            rw [f37.cell 283 rfl]
            by_cases w : j = m
            · rw [if_pos w, w]
              have := q2.2 3 m hm
              rw [hh9] at this
              exact this
            · rw [if_neg w]) (by
            rw [f37 281 2 rfl]
            have : s3 281 2 = τ9 25 4 := q2.2 4
            rw [o9 25 (by decide) (by decide) (by decide)] at this
            exact this) (fun j => by
            rw [f7.cell 299 rfl, ← hb]
            by_cases w : j = m
            · rw [w, xu_same, if_pos rfl]
            · rw [xu_ne _ (Or.inr w), if_neg w, g.cell 299 rfl, f5.cell 299 rfl])
          have hMe := hMd.etr (by
            have a1 : xu (xu (xu τ9 27 m 1) 25 4 (σ 25 4)) 235 m (bi (hmv τ9 && decide (chk τ9 t = τ9 231 11))) 239 3 = σ 239 3 := by
              rw [xu_other _ _ _ (by decide), xu_other _ _ _ (by decide), xu_other _ _ _ (by decide), o9 239 (by decide) (by decide) (by decide)]
            have a2 : xu (xu (xu τ9 27 m 1) 25 4 (σ 25 4)) 235 m (bi (hmv τ9 && decide (chk τ9 t = τ9 231 11))) 25 4 = σ 25 4 := by
              rw [xu_other _ _ _ (by decide), xu_same]
            rw [a1, a2]; omega) 1 m (shd τ9 t)
          have gl : FP [(311, -1), (281, 47), (301, -1), (302, -1), (281, 7), (285, -1), (284, -1), (281, 5), (281, 3), (282, -1), (299, -1), (303, -1), (304, -1), (305, -1), (281, 37)] σ1 (ment s7 1 m (shd τ9 t)) := ((q5.mono rfl).tr (f37.mono rfl)).tr ((ment_f _ _ _ _).mono rfl)
          have hAσ : VAll σ1 (uT (uT2 T F' m2) (31 + 2 * m) t) := by
            rw [← hσ1]
            exact k2.fp (tld_f _ _ _ _ _) (by decide +kernel)
          have hMf := hMe.tT (T' := uT (uT2 T F' m2) (31 + 2 * m) t) (fun a a4 a6 => by
            by_cases w : a = 31 + 2 * m
            · rw [w, uT_same, uT_same]
            · rw [uT_ne _ _ w, uT_ne _ _ w]
              exact uT2_o T F' m2 a4 a6)
          refine INV.fin2 (VAll.fp hAσ gl (by decide +kernel)) hMf (fun b9 hb9 hv9 => ?_)
          rw [gl.cell b9 (by have := gl9 b9 hb9; simp only [List.all_cons, List.all_nil, Bool.and_true, bne_iff_ne, Bool.and_eq_true]; omega), te b9 hv9, eh, ek.1, ek.2.1, o9 231 (by decide) (by decide) (by decide)]
      have pre2 : ∀ {o : xO} {Y : xS}, x_E MX12_update 0 0 154 [some (.ref 281), some (.int (ii r)), some (.int (ii (m : Nat))), some (.int (ii p)), some (.int (ii op)), some (.int (ii (bi true))), some (.int (ii (bi true))), some (.int (ii (bi true)))] [] (St s5) 0 0 o Y → x_Sp MX12_update 0 0 [.ref 281, .int (ii r), .int (ii (m : Nat)), .int (ii p), .int (ii op)] (St σ1) o Y := by
        intro o Y kk
        have hlr := lexc_in t (T (31 + 2 * m))
        refine q1 ?_
        refine e_if_ne 74 146 144 rfl rfl rfl (by unfold xr at *; omega) (fun _ => ?_) (fun h9 => absurd h9 hlx)
        refine e_aload_n 77 147 rfl rfl rfl rfl ?_
        refine e_iload_n 78 148 rfl rfl rfl rfl ?_
        refine g_callS 79 151 (sp_mBlock (x := m)) okX12_block csX12_142 ⟨(Nat.le_of_ble_eq_true rfl), (Nat.le_of_ble_eq_true rfl)⟩ rfl rfl rfl rfl (Nat.le_of_ble_eq_true rfl) (Nat.le_of_ble_eq_true rfl) (Nat.le_of_ble_eq_true rfl) ?_
        refine g_callV 80 154 (c3) okX12_lays cvX12_193 ⟨(Nat.le_of_ble_eq_true rfl), (Nat.le_of_ble_eq_true rfl)⟩ rfl rfl (Nat.le_of_ble_eq_true rfl) rfl rfl rfl rfl rfl (Nat.le_of_ble_eq_true rfl) (Nat.le_of_ble_eq_true rfl) (Nat.le_of_ble_eq_true rfl) ?_
        exact kk
      have hcb := chk_bnd hC3.1 t
      have h7b := hC3.1.1
      have h11b := hC3.1.2.2.2.1
      have hxc : xr (chk τ9 t) := by unfold xr; omega
      have hxm : xr (τ9 231 11) := by unfold xr; omega
      by_cases em : τ9 231 11 = -1
      · have zz := z3.mpr em
        obtain ⟨σe, j1, j2, j3⟩ := fin s5 false FP.rf (by rw [hmv_f em]; rfl)
        refine ⟨σ1, σe, 0, _, _, ⟨by omega, by simp⟩, fun _ => k1, fun q => absurd rfl q, pre2 ?_, j2, fun _ => rfl, j3⟩
        refine e_aload_n 81 155 rfl rfl rfl rfl ?_
        refine g_getR 82 158 ckX12 flX12_67 rfl rfl (Nat.le_of_ble_eq_true rfl) rfl rfl ?_
        refine e_iload_n 83 159 rfl rfl rfl rfl ?_
        refine e_aload_n 84 160 rfl rfl rfl rfl ?_
        refine g_getI 85 163 25 ckX12 flX12_63 rfl rfl (Nat.le_of_ble_eq_true rfl) rfl rfl rfl z1 ?_
        refine e_iconst 86 164 rfl rfl ?_
        refine e_icmp_eq 87 183 167 rfl rfl rfl z2 (by unfold xr at *; omega) (fun _ => ?_) (fun h9 => absurd h9 (fun q => q zz))
        refine e_iconst 96 184 rfl rfl ?_
        exact j1
      · have zz : ¬ z = -1 := fun q => em (z3.mp q)
        by_cases ec : chk τ9 t = τ9 231 11
        · obtain ⟨σe, j1, j2, j3⟩ := fin s6 true f6 (by rw [hmv_t em, decT ec]; rfl)
          refine ⟨σ1, σe, 0, _, _, ⟨by omega, by simp⟩, fun _ => k1, fun q => absurd rfl q, pre2 ?_, j2, fun _ => rfl, j3⟩
          refine e_aload_n 81 155 rfl rfl rfl rfl ?_
          refine g_getR 82 158 ckX12 flX12_67 rfl rfl (Nat.le_of_ble_eq_true rfl) rfl rfl ?_
          refine e_iload_n 83 159 rfl rfl rfl rfl ?_
          refine e_aload_n 84 160 rfl rfl rfl rfl ?_
          refine g_getI 85 163 25 ckX12 flX12_63 rfl rfl (Nat.le_of_ble_eq_true rfl) rfl rfl rfl z1 ?_
          refine e_iconst 86 164 rfl rfl ?_
          refine e_icmp_eq 87 183 167 rfl rfl rfl z2 (by unfold xr at *; omega) (fun h9 => absurd h9 zz) (fun _ => ?_)
          refine e_aload_n 88 168 rfl rfl rfl rfl ?_
          refine e_iload_n 89 169 rfl rfl rfl rfl ?_
          refine g_callV 90 172 (c5) okX12_chunkOf cvX12_217 ⟨(Nat.le_of_ble_eq_true rfl), (Nat.le_of_ble_eq_true rfl)⟩ rfl rfl (Nat.le_of_ble_eq_true rfl) rfl rfl rfl rfl rfl (Nat.le_of_ble_eq_true rfl) (Nat.le_of_ble_eq_true rfl) (Nat.le_of_ble_eq_true rfl) ?_
          refine e_aload_n 91 173 rfl rfl rfl rfl ?_
          refine g_callV 92 176 (c6) okX12_moving cvX12_240 ⟨(Nat.le_of_ble_eq_true rfl), (Nat.le_of_ble_eq_true rfl)⟩ rfl rfl (Nat.le_of_ble_eq_true rfl) rfl rfl rfl rfl rfl (Nat.le_of_ble_eq_true rfl) (Nat.le_of_ble_eq_true rfl) (Nat.le_of_ble_eq_true rfl) ?_
          refine e_icmp_ne 93 183 179 rfl rfl rfl hxc hxm (fun h9 => absurd h9 (fun q => q ec)) (fun _ => ?_)
          refine e_iconst 94 180 rfl rfl ?_
          refine e_goto 95 184 rfl rfl ?_
          exact j1
        · obtain ⟨σe, j1, j2, j3⟩ := fin s6 false f6 (by rw [decF ec, Bool.and_false])
          refine ⟨σ1, σe, 0, _, _, ⟨by omega, by simp⟩, fun _ => k1, fun q => absurd rfl q, pre2 ?_, j2, fun _ => rfl, j3⟩
          refine e_aload_n 81 155 rfl rfl rfl rfl ?_
          refine g_getR 82 158 ckX12 flX12_67 rfl rfl (Nat.le_of_ble_eq_true rfl) rfl rfl ?_
          refine e_iload_n 83 159 rfl rfl rfl rfl ?_
          refine e_aload_n 84 160 rfl rfl rfl rfl ?_
          refine g_getI 85 163 25 ckX12 flX12_63 rfl rfl (Nat.le_of_ble_eq_true rfl) rfl rfl rfl z1 ?_
          refine e_iconst 86 164 rfl rfl ?_
          refine e_icmp_eq 87 183 167 rfl rfl rfl z2 (by unfold xr at *; omega) (fun h9 => absurd h9 zz) (fun _ => ?_)
          refine e_aload_n 88 168 rfl rfl rfl rfl ?_
          refine e_iload_n 89 169 rfl rfl rfl rfl ?_
          refine g_callV 90 172 (c5) okX12_chunkOf cvX12_217 ⟨(Nat.le_of_ble_eq_true rfl), (Nat.le_of_ble_eq_true rfl)⟩ rfl rfl (Nat.le_of_ble_eq_true rfl) rfl rfl rfl rfl rfl (Nat.le_of_ble_eq_true rfl) (Nat.le_of_ble_eq_true rfl) (Nat.le_of_ble_eq_true rfl) ?_
          refine e_aload_n 91 173 rfl rfl rfl rfl ?_
          refine g_callV 92 176 (c6) okX12_moving cvX12_240 ⟨(Nat.le_of_ble_eq_true rfl), (Nat.le_of_ble_eq_true rfl)⟩ rfl rfl (Nat.le_of_ble_eq_true rfl) rfl rfl rfl rfl rfl (Nat.le_of_ble_eq_true rfl) (Nat.le_of_ble_eq_true rfl) (Nat.le_of_ble_eq_true rfl) ?_
          refine e_icmp_ne 93 183 179 rfl rfl rfl hxc hxm (fun _ => ?_) (fun h9 => absurd h9 ec)
          refine e_iconst 96 184 rfl rfl ?_
          exact j1
