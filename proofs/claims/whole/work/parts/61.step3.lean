/-! ===== steps: document, print, chunk, shard ===== -/
theorem smN_add {f g h : Nat → Int} : ∀ (n i : Nat), (∀ j, i ≤ j → j < i + n → f j = g j + h j) → smN f i n = smN g i n + smN h i n := by
  intro n
  induction n with
  | zero => intro i _; rfl
  | succ n ih =>
    intro i hj
    rw [smN, smN, smN, ih (i + 1) (fun j a b => hj j (by omega) (by omega)), hj i (by omega) (by omega)]
    omega
theorem mfrom {τ σ : xSig} (hC : CHR τ) (hinc : ∀ k : Int, 0 ≤ k → k + 1 < τ 231 7 → τ 232 k < τ 232 (k + 1)) (hm : τ 231 11 < τ 231 7) (h13 : (τ 231 11 = -1 → σ 281 25 = -1) ∧ (τ 231 11 ≠ -1 → σ 281 25 = τ 232 (τ 231 11) ∧ σ 281 26 = τ 231 12)) : ∃ z, σ 281 25 = z ∧ xr z ∧ (z = -1 ↔ τ 231 11 = -1) ∧ ∀ i : Int, 0 ≤ i → i < τ 231 7 → (z = τ 232 i ↔ i = τ 231 11) := by
  have h11 := hC.2.2.2.1
  have inc : ∀ (m : Nat) (i : Int), 0 ≤ i → i + 1 + m < τ 231 7 → τ 232 i < τ 232 (i + 1 + m) := by
    intro m
    induction m with
    | zero =>
      intro i i0 i1
      rw [show i + 1 + ((0 : Nat) : Int) = i + 1 by omega]
      exact hinc i i0 (by omega)
    | succ m ih =>
      intro i i0 i1
      have q1 := ih i i0 (by omega)
      have q2 := hinc (i + 1 + m) (by omega) (by omega)
      rw [show i + 1 + (m : Int) + 1 = i + 1 + ((m + 1 : Nat) : Int) by omega] at q2
      omega
  by_cases e : τ 231 11 = -1
  · refine ⟨-1, h13.1 e, by unfold xr; omega, by omega, fun i i0 i1 => ?_⟩
    have := hC.2.2.2.2.2.1 i
    omega
  · refine ⟨τ 232 (τ 231 11), (h13.2 e).1, by have := hC.2.2.2.2.2.1 (τ 231 11); unfold xr; omega, by have := hC.2.2.2.2.2.1 (τ 231 11); omega, fun i i0 i1 => ?_⟩
    constructor
    · intro q
      rcases Int.lt_trichotomy i (τ 231 11) with w | w | w
      · have := inc (τ 231 11 - i - 1).toNat i i0 (by omega)
        rw [show i + 1 + (((τ 231 11 - i - 1).toNat : Nat) : Int) = τ 231 11 by omega] at this
        omega
      · exact w
      · have := inc (i - τ 231 11 - 1).toNat (τ 231 11) (by omega) (by omega)
        rw [show τ 231 11 + 1 + (((i - τ 231 11 - 1).toNat : Nat) : Int) = i by omega] at this
        omega
    · intro q
      rw [q]
/-- the copies that the model counts are the class's -/
theorem mcp_eq {i : Nat} {τ σ : xSig} {T : Nat → List Int} {G : Nat → Fo} (h7 : KIc i τ T G 7) (h14 : RMc τ G σ 14) : mcp τ σ = ncp τ := by
  unfold mcp ncp
  refine smN_congr 100 0 fun j _ hj => ?_
  have e := h14 j (by omega)
  rw [e]
  by_cases q : τ 235 j = 1
  · rw [if_pos ⟨(h7 j (by omega) q).1, q⟩, if_pos q]
  · rw [if_neg (fun w => q w.2), if_neg q]
/-- documents of the chunk that moves: copied, or left -/
theorem cin_split {i : Nat} {τ : xSig} {T : Nat → List Int} {G : Nat → Fo} (h7 : KIc i τ T G 7) (h01 : n01 τ 235) : cin τ T (τ 231 11) = ncp τ + clf τ T := by
  unfold cin ncp clf
  refine smN_add 100 0 fun j _ hj => ?_
  unfold ilf
  by_cases q : τ 235 j = 1
  · obtain ⟨a, b, c⟩ := h7 j (by omega) q
    rw [if_pos ⟨a, c⟩, if_pos q, a, decide_eq_false (by omega)]
    rfl
  · rw [if_neg q]
    have q0 : τ 235 j = 0 := (h01 j).resolve_right q
    cases hh : hasd τ j with
    | false => rw [if_neg (fun w => by cases w.1)]; rfl
    | true =>
      by_cases e : chk τ (T (31 + 2 * j)) = τ 231 11
      · rw [if_pos ⟨rfl, e⟩, decide_eq_true ⟨e, q0⟩]; rfl
      · rw [if_neg (fun w => e w.2), decide_eq_false (fun w => e w.1)]; rfl
theorem st_print {i : Nat} {σ : xSig} (h : INV i σ) {n : Int} (hn : xr n) : STEP i MX11_print MX12_print lv9 [nIOB] [.int (ii n)] σ := by
  have hM := h
  obtain ⟨T, G, hA, hM⟩ := hM
  have h01 := (hM.1 4).1
  have hD := hM.docm
  have p1 := sp_mIsThere hD.2 hn
  cases hh : hasd σ n with
  | true =>
    have hni := hasd_in hh
    obtain ⟨m, rfl⟩ := Int.eq_ofNat_of_zero_le hni.1
    have hh2 : hasd σ (m : Nat) = true := hh
    obtain ⟨F, d1, d2, d3⟩ := hD.1 m (by omega) hh2
    rw [hh] at p1
    have f0 : FP scr9 σ (xu σ 281 47 0) := F47s
    obtain ⟨σ2, c1, f1⟩ := sp_mPrintOf (d3.of (f0.cell 282 rfl))
    have hc := sp_print1 hA h01 hh2
    have e : psc (T (31 + 2 * m)) 0 7 = prF (.add F (.num 0)) 7 := by
      have := psc_ok d3.2.1 [] 7
      rw [List.append_nil] at this
      rw [← this, d2.1]
      rfl
    rw [e] at hc
    refine STEP.read (mk := lv9) h hc (σ2 := σ2) ?_ (by rw [f1 281 47 rfl, xu_same]) FP.rf (f0.tr (f1.mono rfl))
    refine e_entry okX12_print (Nat.le_of_ble_eq_true rfl) (ls := [some _, some _]) rfl ?_
    refine e_aload_n 0 1 rfl rfl rfl rfl ?_
    refine e_aload_n 1 2 rfl rfl rfl rfl ?_
    refine e_iload_n 2 3 rfl rfl rfl rfl ?_
    refine g_callV 3 6 (p1) okX12_isThere cvX12_261 ⟨(Nat.le_of_ble_eq_true rfl), (Nat.le_of_ble_eq_true rfl)⟩ rfl rfl (Nat.le_of_ble_eq_true rfl) rfl rfl rfl rfl rfl (Nat.le_of_ble_eq_true rfl) (Nat.le_of_ble_eq_true rfl) (Nat.le_of_ble_eq_true rfl) ?_
    refine e_iconst 4 7 rfl rfl ?_
    refine e_iconst 5 8 rfl rfl ?_
    refine g_callV 6 11 (sp_mGoes (a := true) (b := true) (c := true)) okX12_goes cvX12_167 ⟨(Nat.le_of_ble_eq_true rfl), (Nat.le_of_ble_eq_true rfl)⟩ rfl rfl (Nat.le_of_ble_eq_true rfl) rfl rfl rfl rfl rfl (Nat.le_of_ble_eq_true rfl) (Nat.le_of_ble_eq_true rfl) (Nat.le_of_ble_eq_true rfl) ?_
    refine e_ifb_eq 7 29 14 rfl rfl rfl (fun hb => ?_) (fun hb => ?_)
    · skip
      cases hb
    · skip
      refine e_aload_n 8 15 rfl rfl rfl rfl ?_
      refine e_aload_n 9 16 rfl rfl rfl rfl ?_
      refine g_getR 10 19 ckX12 flX12_7 rfl rfl (Nat.le_of_ble_eq_true rfl) rfl rfl ?_
      refine e_iload_n 11 20 rfl rfl rfl rfl ?_
      refine g_callS 12 23 (sp_mBlock (x := m)) okX12_block csX12_142 ⟨(Nat.le_of_ble_eq_true rfl), (Nat.le_of_ble_eq_true rfl)⟩ rfl rfl rfl rfl (Nat.le_of_ble_eq_true rfl) (Nat.le_of_ble_eq_true rfl) (Nat.le_of_ble_eq_true rfl) ?_
      refine g_callV 13 26 (c1) okX12_printOf cvX12_321 ⟨(Nat.le_of_ble_eq_true rfl), (Nat.le_of_ble_eq_true rfl)⟩ rfl rfl (Nat.le_of_ble_eq_true rfl) rfl rfl rfl rfl rfl (Nat.le_of_ble_eq_true rfl) (Nat.le_of_ble_eq_true rfl) (Nat.le_of_ble_eq_true rfl) ?_
      refine e_goto 14 30 rfl rfl ?_
      exact e_lreturn 16 rfl rfl (Nat.le_of_ble_eq_true rfl) (Nat.le_of_ble_eq_true rfl)
  | false =>
    rw [hh] at p1
    refine STEP.refuse h 1 (by simp) (sp_printX h01 hn hh) (σ2 := xu σ 281 47 1) (y := 0) ?_ (xu_same _ _ _ _) F47s
    refine e_entry okX12_print (Nat.le_of_ble_eq_true rfl) (ls := [some _, some _]) rfl ?_
    refine e_aload_n 0 1 rfl rfl rfl rfl ?_
    refine e_aload_n 1 2 rfl rfl rfl rfl ?_
    refine e_iload_n 2 3 rfl rfl rfl rfl ?_
    refine g_callV 3 6 (p1) okX12_isThere cvX12_261 ⟨(Nat.le_of_ble_eq_true rfl), (Nat.le_of_ble_eq_true rfl)⟩ rfl rfl (Nat.le_of_ble_eq_true rfl) rfl rfl rfl rfl rfl (Nat.le_of_ble_eq_true rfl) (Nat.le_of_ble_eq_true rfl) (Nat.le_of_ble_eq_true rfl) ?_
    refine e_iconst 4 7 rfl rfl ?_
    refine e_iconst 5 8 rfl rfl ?_
    refine g_callV 6 11 (sp_mGoes (a := false) (b := true) (c := true)) okX12_goes cvX12_167 ⟨(Nat.le_of_ble_eq_true rfl), (Nat.le_of_ble_eq_true rfl)⟩ rfl rfl (Nat.le_of_ble_eq_true rfl) rfl rfl rfl rfl rfl (Nat.le_of_ble_eq_true rfl) (Nat.le_of_ble_eq_true rfl) (Nat.le_of_ble_eq_true rfl) ?_
    refine e_ifb_eq 7 29 14 rfl rfl rfl (fun hb => ?_) (fun hb => ?_)
    · skip
      refine e_lconst 15 30 rfl rfl ?_
      exact e_lreturn 16 rfl rfl (Nat.le_of_ble_eq_true rfl) (Nat.le_of_ble_eq_true rfl)
    · skip
      cases hb
theorem st_document {i : Nat} {σ : xSig} (h : INV i σ) {n w : Int} (hn : xr n) (hw : xr w) : STEP i MX11_document MX12_document iv [nIAE] [.int (ii n), .int (ii w)] σ := by
  have hM := h
  obtain ⟨T, G, hA, hM⟩ := hM
  have h01 := (hM.1 4).1
  have hC := (hM.1 6).1
  have hD := hM.docm
  have p2 := sp_mIn (σ := σ) (x := w) (y := 0) (z := 2) hw (by unfold xr; omega) (by unfold xr; omega)
  by_cases hh : 0 ≤ w ∧ w ≤ 2
  · rw [decide_eq_true hh] at p2
    have f0 : FP scr9 σ (xu σ 281 47 0) := F47s
    have hM0 := hM.fp f0 (by decide +kernel)
    have hD0 := hM0.docm
    have p1 := sp_mIsThere hD0.2 hn
    cases hd : hasd σ n with
    | false =>
      rw [hd] at p1
      refine STEP.read h (sp_documentN h01 hn hh hd) (σ2 := xu σ 281 47 0) ?_ (xu_same _ _ _ _) FP.rf F47s
      refine e_entry okX12_document (Nat.le_of_ble_eq_true rfl) (ls := [some _, some _, some _]) rfl ?_
      refine e_aload_n 0 1 rfl rfl rfl rfl ?_
      refine e_iload_n 1 2 rfl rfl rfl rfl ?_
      refine e_iconst 2 3 rfl rfl ?_
      refine e_iconst 3 4 rfl rfl ?_
      refine g_callS 4 7 (p2) okX12_in csX12_175 ⟨(Nat.le_of_ble_eq_true rfl), (Nat.le_of_ble_eq_true rfl)⟩ rfl rfl rfl rfl (Nat.le_of_ble_eq_true rfl) (Nat.le_of_ble_eq_true rfl) (Nat.le_of_ble_eq_true rfl) ?_
      refine e_iconst 5 8 rfl rfl ?_
      refine e_iconst 6 9 rfl rfl ?_
      refine g_callV 7 12 (sp_mGoes (a := true) (b := true) (c := true)) okX12_goes cvX12_167 ⟨(Nat.le_of_ble_eq_true rfl), (Nat.le_of_ble_eq_true rfl)⟩ rfl rfl (Nat.le_of_ble_eq_true rfl) rfl rfl rfl rfl rfl (Nat.le_of_ble_eq_true rfl) (Nat.le_of_ble_eq_true rfl) (Nat.le_of_ble_eq_true rfl) ?_
      refine e_ifb_ne 8 17 15 rfl rfl rfl (fun hb => ?_) (fun hb => ?_)
      · skip
        refine e_aload_n 11 18 rfl rfl rfl rfl ?_
        refine e_iload_n 12 19 rfl rfl rfl rfl ?_
        refine g_callV 13 22 (p1) okX12_isThere cvX12_261 ⟨(Nat.le_of_ble_eq_true rfl), (Nat.le_of_ble_eq_true rfl)⟩ rfl rfl (Nat.le_of_ble_eq_true rfl) rfl rfl rfl rfl rfl (Nat.le_of_ble_eq_true rfl) (Nat.le_of_ble_eq_true rfl) (Nat.le_of_ble_eq_true rfl) ?_
        refine e_ifb_ne 14 27 25 rfl rfl rfl (fun hb => ?_) (fun hb => ?_)
        · skip
          cases hb
        · skip
          refine e_iconst 15 26 rfl rfl ?_
          exact e_ireturn 16 rfl rfl (Nat.le_of_ble_eq_true rfl) (Nat.le_of_ble_eq_true rfl)
      · skip
        cases hb
    | true =>
      have hni := hasd_in hd
      obtain ⟨m, rfl⟩ := Int.eq_ofNat_of_zero_le hni.1
      have hd2 : hasd σ (m : Nat) = true := hd
      rw [hd] at p1
      obtain ⟨F, d1, d2, d3⟩ := hD0.1 m (by omega) hd2
      have hc := sp_document1 hA h01 hC hh hd2
      have st : ∀ {z : Int} {σ2 : xSig}, x_E MX12_document 0 0 27 [some (.ref 281), some (.int (ii (m : Nat))), some (.int (ii w))] [] (St (xu σ 281 47 0)) 0 0 (iv z) (St σ2) → x_Sp MX12_document 0 0 [.ref 281, .int (ii (m : Nat)), .int (ii w)] (St σ) (iv z) (St σ2) := by
        intro z σ2 kk
        refine e_entry okX12_document (Nat.le_of_ble_eq_true rfl) (ls := [some _, some _, some _]) rfl ?_
        refine e_aload_n 0 1 rfl rfl rfl rfl ?_
        refine e_iload_n 1 2 rfl rfl rfl rfl ?_
        refine e_iconst 2 3 rfl rfl ?_
        refine e_iconst 3 4 rfl rfl ?_
        refine g_callS 4 7 (p2) okX12_in csX12_175 ⟨(Nat.le_of_ble_eq_true rfl), (Nat.le_of_ble_eq_true rfl)⟩ rfl rfl rfl rfl (Nat.le_of_ble_eq_true rfl) (Nat.le_of_ble_eq_true rfl) (Nat.le_of_ble_eq_true rfl) ?_
        refine e_iconst 5 8 rfl rfl ?_
        refine e_iconst 6 9 rfl rfl ?_
        refine g_callV 7 12 (sp_mGoes (a := true) (b := true) (c := true)) okX12_goes cvX12_167 ⟨(Nat.le_of_ble_eq_true rfl), (Nat.le_of_ble_eq_true rfl)⟩ rfl rfl (Nat.le_of_ble_eq_true rfl) rfl rfl rfl rfl rfl (Nat.le_of_ble_eq_true rfl) (Nat.le_of_ble_eq_true rfl) (Nat.le_of_ble_eq_true rfl) ?_
        refine e_ifb_ne 8 17 15 rfl rfl rfl (fun hb => ?_) (fun hb => ?_)
        · skip
          refine e_aload_n 11 18 rfl rfl rfl rfl ?_
          refine e_iload_n 12 19 rfl rfl rfl rfl ?_
          refine g_callV 13 22 (p1) okX12_isThere cvX12_261 ⟨(Nat.le_of_ble_eq_true rfl), (Nat.le_of_ble_eq_true rfl)⟩ rfl rfl (Nat.le_of_ble_eq_true rfl) rfl rfl rfl rfl rfl (Nat.le_of_ble_eq_true rfl) (Nat.le_of_ble_eq_true rfl) (Nat.le_of_ble_eq_true rfl) ?_
          refine e_ifb_ne 14 27 25 rfl rfl rfl (fun hb => ?_) (fun hb => ?_)
          · skip
            exact kk
          · skip
            cases hb
        · skip
          cases hb
      rcases (by omega : w = 0 ∨ w = 1 ∨ w = 2) with rfl | rfl | rfl
      · obtain ⟨σ2, c1, f1⟩ := sp_mShardOf hM0.chm d2 d3
        rw [if_pos rfl] at hc
        refine STEP.read h hc (σ2 := σ2) (st ?_) (by rw [f1 281 47 rfl, xu_same]) FP.rf (f0.tr (f1.mono rfl))
        refine e_iload_n 17 28 rfl rfl rfl rfl ?_
        refine e_if_ne 18 39 31 rfl rfl rfl (by unfold xr at *; omega) (fun h9 => absurd h9 (by omega)) (fun _ => ?_)
        refine e_aload_n 19 32 rfl rfl rfl rfl ?_
        refine e_iload_n 20 33 rfl rfl rfl rfl ?_
        refine g_callV 21 36 (c1) okX12_shardOf cvX12_237 ⟨(Nat.le_of_ble_eq_true rfl), (Nat.le_of_ble_eq_true rfl)⟩ rfl rfl (Nat.le_of_ble_eq_true rfl) rfl rfl rfl rfl rfl (Nat.le_of_ble_eq_true rfl) (Nat.le_of_ble_eq_true rfl) (Nat.le_of_ble_eq_true rfl) ?_
        refine e_goto 22 64 rfl rfl ?_
        exact e_ireturn 36 rfl rfl (Nat.le_of_ble_eq_true rfl) (Nat.le_of_ble_eq_true rfl)
      · obtain ⟨σ2, c1, f1⟩ := sp_mKeyOf (τ := σ) hM0.chm.2.2 hC.2.1 hC.2.2.1 d2 d3
        rw [if_neg (by decide), if_pos rfl] at hc
        refine STEP.read h hc (σ2 := σ2) (st ?_) (by rw [f1 281 47 rfl, xu_same]) FP.rf (f0.tr (f1.mono rfl))
        refine e_iload_n 17 28 rfl rfl rfl rfl ?_
        refine e_if_ne 18 39 31 rfl rfl rfl (by unfold xr at *; omega) (fun _ => ?_) (fun h9 => absurd h9 (by omega))
        refine e_iload_n 23 40 rfl rfl rfl rfl ?_
        refine e_iconst 24 41 rfl rfl ?_
        refine e_icmp_ne 25 52 44 rfl rfl rfl (by unfold xr at *; omega) (by unfold xr at *; omega) (fun h9 => absurd h9 (by omega)) (fun _ => ?_)
        refine e_aload_n 26 45 rfl rfl rfl rfl ?_
        refine e_iload_n 27 46 rfl rfl rfl rfl ?_
        refine g_callV 28 49 (c1) okX12_keyOf cvX12_214 ⟨(Nat.le_of_ble_eq_true rfl), (Nat.le_of_ble_eq_true rfl)⟩ rfl rfl (Nat.le_of_ble_eq_true rfl) rfl rfl rfl rfl rfl (Nat.le_of_ble_eq_true rfl) (Nat.le_of_ble_eq_true rfl) (Nat.le_of_ble_eq_true rfl) ?_
        refine e_goto 29 64 rfl rfl ?_
        exact e_ireturn 36 rfl rfl (Nat.le_of_ble_eq_true rfl) (Nat.le_of_ble_eq_true rfl)
      · have c1 := sp_mParts d3
        have e : pts (T (31 + 2 * m)) = pa (.add F (.num 0)) := by
          rw [d2.1]
          exact pts_tk (v := .add F (.num 0)) d3.2.1
        rw [if_neg (by decide), if_neg (by decide), e] at hc
        have f1 : FP m11 (xu σ 281 47 0) (xu (xu σ 281 47 0) 311 0 (pa (.add F (.num 0)))) := FP.rf.x11
        refine STEP.read h hc (σ2 := _) (st ?_) (by rw [f1 281 47 rfl, xu_same]) FP.rf (f0.tr (f1.mono rfl))
        refine e_iload_n 17 28 rfl rfl rfl rfl ?_
        refine e_if_ne 18 39 31 rfl rfl rfl (by unfold xr at *; omega) (fun _ => ?_) (fun h9 => absurd h9 (by omega))
        refine e_iload_n 23 40 rfl rfl rfl rfl ?_
        refine e_iconst 24 41 rfl rfl ?_
        refine e_icmp_ne 25 52 44 rfl rfl rfl (by unfold xr at *; omega) (by unfold xr at *; omega) (fun _ => ?_) (fun h9 => absurd h9 (by omega))
        refine e_aload_n 30 53 rfl rfl rfl rfl ?_
        refine e_aload_n 31 54 rfl rfl rfl rfl ?_
        refine g_getR 32 57 ckX12 flX12_7 rfl rfl (Nat.le_of_ble_eq_true rfl) rfl rfl ?_
        refine e_iload_n 33 58 rfl rfl rfl rfl ?_
        refine g_callS 34 61 (sp_mBlock (x := m)) okX12_block csX12_142 ⟨(Nat.le_of_ble_eq_true rfl), (Nat.le_of_ble_eq_true rfl)⟩ rfl rfl rfl rfl (Nat.le_of_ble_eq_true rfl) (Nat.le_of_ble_eq_true rfl) (Nat.le_of_ble_eq_true rfl) ?_
        refine g_callV 35 64 (c1) okX12_parts cvX12_186 ⟨(Nat.le_of_ble_eq_true rfl), (Nat.le_of_ble_eq_true rfl)⟩ rfl rfl (Nat.le_of_ble_eq_true rfl) rfl rfl rfl rfl rfl (Nat.le_of_ble_eq_true rfl) (Nat.le_of_ble_eq_true rfl) (Nat.le_of_ble_eq_true rfl) ?_
        exact e_ireturn 36 rfl rfl (Nat.le_of_ble_eq_true rfl) (Nat.le_of_ble_eq_true rfl)
  · rw [decide_eq_false hh] at p2
    refine STEP.refuse h 1 (by simp) (sp_documentX hw hh) (σ2 := xu σ 281 47 1) (y := 0) ?_ (xu_same _ _ _ _) F47s
    refine e_entry okX12_document (Nat.le_of_ble_eq_true rfl) (ls := [some _, some _, some _]) rfl ?_
    refine e_aload_n 0 1 rfl rfl rfl rfl ?_
    refine e_iload_n 1 2 rfl rfl rfl rfl ?_
    refine e_iconst 2 3 rfl rfl ?_
    refine e_iconst 3 4 rfl rfl ?_
    refine g_callS 4 7 (p2) okX12_in csX12_175 ⟨(Nat.le_of_ble_eq_true rfl), (Nat.le_of_ble_eq_true rfl)⟩ rfl rfl rfl rfl (Nat.le_of_ble_eq_true rfl) (Nat.le_of_ble_eq_true rfl) (Nat.le_of_ble_eq_true rfl) ?_
    refine e_iconst 5 8 rfl rfl ?_
    refine e_iconst 6 9 rfl rfl ?_
    refine g_callV 7 12 (sp_mGoes (a := false) (b := true) (c := true)) okX12_goes cvX12_167 ⟨(Nat.le_of_ble_eq_true rfl), (Nat.le_of_ble_eq_true rfl)⟩ rfl rfl (Nat.le_of_ble_eq_true rfl) rfl rfl rfl rfl rfl (Nat.le_of_ble_eq_true rfl) (Nat.le_of_ble_eq_true rfl) (Nat.le_of_ble_eq_true rfl) ?_
    refine e_ifb_ne 8 17 15 rfl rfl rfl (fun hb => ?_) (fun hb => ?_)
    · skip
      cases hb
    · skip
      refine e_iconst 9 16 rfl rfl ?_
      exact e_ireturn 10 rfl rfl (Nat.le_of_ble_eq_true rfl) (Nat.le_of_ble_eq_true rfl)
theorem st_chunk {i : Nat} {σ : xSig} (h : INV i σ) {c w : Int} (hc0 : xr c) (hw : xr w) : STEP i MX11_chunk MX12_chunk iv [nIOB, nIAE] [.int (ii c), .int (ii w)] σ := by
  have hM := h
  obtain ⟨T, G, hA, hM⟩ := hM
  have h01 := (hM.1 4).1
  obtain ⟨hC, hz, hinc, -, hmv, -, -⟩ := hM.1 6
  have p1 := sp_mIsChunk (hM.chm.2.1.1) hC.1 hc0
  have p2 := sp_mIn (σ := σ) (x := w) (y := 0) (z := 3) hw (by unfold xr; omega) (by unfold xr; omega)
  cases hh : chas σ c with
  | true =>
    have hci : 0 ≤ c ∧ c < σ 231 7 := of_decide_eq_true hh
    have h7 := hC.1
    rw [hh] at p1
    by_cases hw2 : 0 ≤ w ∧ w ≤ 3
    · rw [decide_eq_true hw2] at p2
      have f0 : FP scr9 σ (xu σ 281 47 0) := F47s
      have hM0 := hM.fp f0 (by decide +kernel)
      have hcl := sp_chunk1 hA h01 hC hh hw2
      rw [show cfst σ c = σ 232 c by unfold cfst; rw [hh, if_pos rfl], show cown σ c = σ 233 c by unfold cown; rw [hh, if_pos rfl]] at hcl
      have r2 : xu σ 281 47 0 297 c = σ 232 c ∧ xu σ 281 47 0 298 c = σ 233 c := hM0.chm.2.1.2 c hci.1 hci.2
      have st : ∀ {z : Int} {σ2 : xSig}, x_E MX12_chunk 0 0 21 [some (.ref 281), some (.int (ii c)), some (.int (ii w))] [] (St (xu σ 281 47 0)) 0 0 (iv z) (St σ2) → x_Sp MX12_chunk 0 0 [.ref 281, .int (ii c), .int (ii w)] (St σ) (iv z) (St σ2) := by
        intro z σ2 kk
        refine e_entry okX12_chunk (Nat.le_of_ble_eq_true rfl) (ls := [some _, some _, some _]) rfl ?_
        refine e_aload_n 0 1 rfl rfl rfl rfl ?_
        refine e_aload_n 1 2 rfl rfl rfl rfl ?_
        refine e_iload_n 2 3 rfl rfl rfl rfl ?_
        refine g_callV 3 6 (p1) okX12_isChunk cvX12_325 ⟨(Nat.le_of_ble_eq_true rfl), (Nat.le_of_ble_eq_true rfl)⟩ rfl rfl (Nat.le_of_ble_eq_true rfl) rfl rfl rfl rfl rfl (Nat.le_of_ble_eq_true rfl) (Nat.le_of_ble_eq_true rfl) (Nat.le_of_ble_eq_true rfl) ?_
        refine e_iload_n 4 7 rfl rfl rfl rfl ?_
        refine e_iconst 5 8 rfl rfl ?_
        refine e_iconst 6 9 rfl rfl ?_
        refine g_callS 7 12 (p2) okX12_in csX12_175 ⟨(Nat.le_of_ble_eq_true rfl), (Nat.le_of_ble_eq_true rfl)⟩ rfl rfl rfl rfl (Nat.le_of_ble_eq_true rfl) (Nat.le_of_ble_eq_true rfl) (Nat.le_of_ble_eq_true rfl) ?_
        refine e_iconst 8 13 rfl rfl ?_
        refine g_callV 9 16 (sp_mGoes (a := true) (b := true) (c := true)) okX12_goes cvX12_167 ⟨(Nat.le_of_ble_eq_true rfl), (Nat.le_of_ble_eq_true rfl)⟩ rfl rfl (Nat.le_of_ble_eq_true rfl) rfl rfl rfl rfl rfl (Nat.le_of_ble_eq_true rfl) (Nat.le_of_ble_eq_true rfl) (Nat.le_of_ble_eq_true rfl) ?_
        refine e_ifb_ne 10 21 19 rfl rfl rfl (fun hb => ?_) (fun hb => ?_)
        · skip
          exact kk
        · skip
          cases hb
      rcases (by omega : w = 0 ∨ w = 1 ∨ w = 2 ∨ w = 3) with rfl | rfl | rfl | rfl
      · rw [if_pos rfl] at hcl
        refine STEP.read h hcl (σ2 := xu σ 281 47 0) (st ?_) (xu_same _ _ _ _) FP.rf f0
        refine e_iload_n 13 22 rfl rfl rfl rfl ?_
        refine e_if_ne 14 34 25 rfl rfl rfl (by unfold xr at *; omega) (fun h9 => absurd h9 (by omega)) (fun _ => ?_)
        refine e_aload_n 15 26 rfl rfl rfl rfl ?_
        refine g_getR 16 29 ckX12 flX12_57 rfl rfl (Nat.le_of_ble_eq_true rfl) rfl rfl ?_
        refine e_iload_n 17 30 rfl rfl rfl rfl ?_
        refine g_iaload 18 31 rfl rfl (Nat.le_of_ble_eq_true rfl) rfl (by omega) (by omega) (by omega) r2.1 ?_
        refine e_goto 19 79 rfl rfl ?_
        exact e_ireturn 45 rfl rfl (Nat.le_of_ble_eq_true rfl) (Nat.le_of_ble_eq_true rfl)
      · rw [if_neg (by decide), if_pos rfl] at hcl
        refine STEP.read h hcl (σ2 := xu σ 281 47 0) (st ?_) (xu_same _ _ _ _) FP.rf f0
        refine e_iload_n 13 22 rfl rfl rfl rfl ?_
        refine e_if_ne 14 34 25 rfl rfl rfl (by unfold xr at *; omega) (fun _ => ?_) (fun h9 => absurd h9 (by omega))
        refine e_iload_n 20 35 rfl rfl rfl rfl ?_
        refine e_iconst 21 36 rfl rfl ?_
        refine e_icmp_ne 22 48 39 rfl rfl rfl (by unfold xr at *; omega) (by unfold xr at *; omega) (fun h9 => absurd h9 (by omega)) (fun _ => ?_)
        refine e_aload_n 23 40 rfl rfl rfl rfl ?_
        refine g_getR 24 43 ckX12 flX12_60 rfl rfl (Nat.le_of_ble_eq_true rfl) rfl rfl ?_
        refine e_iload_n 25 44 rfl rfl rfl rfl ?_
        refine g_iaload 26 45 rfl rfl (Nat.le_of_ble_eq_true rfl) rfl (by omega) (by omega) (by omega) r2.2 ?_
        refine e_goto 27 79 rfl rfl ?_
        exact e_ireturn 45 rfl rfl (Nat.le_of_ble_eq_true rfl) (Nat.le_of_ble_eq_true rfl)
      · obtain ⟨σ2, c1, f1⟩ := sp_mDocsOf hM0.chm hM0.docm hc0
        rw [if_neg (by decide), if_neg (by decide), if_pos rfl] at hcl
        refine STEP.read h hcl (σ2 := σ2) (st ?_) (by rw [f1 281 47 rfl, xu_same]) FP.rf (f0.tr (f1.mono rfl))
        refine e_iload_n 13 22 rfl rfl rfl rfl ?_
        refine e_if_ne 14 34 25 rfl rfl rfl (by unfold xr at *; omega) (fun _ => ?_) (fun h9 => absurd h9 (by omega))
        refine e_iload_n 20 35 rfl rfl rfl rfl ?_
        refine e_iconst 21 36 rfl rfl ?_
        refine e_icmp_ne 22 48 39 rfl rfl rfl (by unfold xr at *; omega) (by unfold xr at *; omega) (fun _ => ?_) (fun h9 => absurd h9 (by omega))
        refine e_iload_n 28 49 rfl rfl rfl rfl ?_
        refine e_iconst 29 50 rfl rfl ?_
        refine e_icmp_ne 30 61 53 rfl rfl rfl (by unfold xr at *; omega) (by unfold xr at *; omega) (fun h9 => absurd h9 (by omega)) (fun _ => ?_)
        refine e_aload_n 31 54 rfl rfl rfl rfl ?_
        refine e_iload_n 32 55 rfl rfl rfl rfl ?_
        refine g_callV 33 58 (c1) okX12_documentsOf cvX12_334 ⟨(Nat.le_of_ble_eq_true rfl), (Nat.le_of_ble_eq_true rfl)⟩ rfl rfl (Nat.le_of_ble_eq_true rfl) rfl rfl rfl rfl rfl (Nat.le_of_ble_eq_true rfl) (Nat.le_of_ble_eq_true rfl) (Nat.le_of_ble_eq_true rfl) ?_
        refine e_goto 34 79 rfl rfl ?_
        exact e_ireturn 45 rfl rfl (Nat.le_of_ble_eq_true rfl) (Nat.le_of_ble_eq_true rfl)
      · rw [if_neg (by decide), if_neg (by decide), if_neg (by decide)] at hcl
        obtain ⟨z, z1, z2, z3, z4⟩ := mfrom hC hinc hmv (hM0.2 13)
        have z5 := z4 c hci.1 hci.2
        have hcb := hC.2.2.2.2.2.1 c
        have hxc : xr (σ 232 c) := by unfold xr; omega
        by_cases e : c = σ 231 11
        · rw [show ismv σ c = true from decide_eq_true ⟨by omega, e⟩] at hcl
          have e2 := z5.mpr e
          refine STEP.read h hcl (σ2 := xu σ 281 47 0) (st ?_) (xu_same _ _ _ _) FP.rf f0
          refine e_iload_n 13 22 rfl rfl rfl rfl ?_
          refine e_if_ne 14 34 25 rfl rfl rfl (by unfold xr at *; omega) (fun _ => ?_) (fun h9 => absurd h9 (by omega))
          refine e_iload_n 20 35 rfl rfl rfl rfl ?_
          refine e_iconst 21 36 rfl rfl ?_
          refine e_icmp_ne 22 48 39 rfl rfl rfl (by unfold xr at *; omega) (by unfold xr at *; omega) (fun _ => ?_) (fun h9 => absurd h9 (by omega))
          refine e_iload_n 28 49 rfl rfl rfl rfl ?_
          refine e_iconst 29 50 rfl rfl ?_
          refine e_icmp_ne 30 61 53 rfl rfl rfl (by unfold xr at *; omega) (by unfold xr at *; omega) (fun _ => ?_) (fun h9 => absurd h9 (by omega))
          refine e_aload_n 35 62 rfl rfl rfl rfl ?_
          refine g_getR 36 65 ckX12 flX12_57 rfl rfl (Nat.le_of_ble_eq_true rfl) rfl rfl ?_
          refine e_iload_n 37 66 rfl rfl rfl rfl ?_
          refine g_iaload 38 67 rfl rfl (Nat.le_of_ble_eq_true rfl) rfl (by omega) (by omega) (by omega) r2.1 ?_
          refine e_aload_n 39 68 rfl rfl rfl rfl ?_
          refine g_getI 40 71 25 ckX12 flX12_63 rfl rfl (Nat.le_of_ble_eq_true rfl) rfl rfl rfl z1 ?_
          refine e_icmp_ne 41 78 74 rfl rfl rfl hxc z2 (fun h9 => absurd h9 (fun q => q e2.symm)) (fun _ => ?_)
          refine e_iconst 42 75 rfl rfl ?_
          refine e_goto 43 79 rfl rfl ?_
          exact e_ireturn 45 rfl rfl (Nat.le_of_ble_eq_true rfl) (Nat.le_of_ble_eq_true rfl)
        · rw [show ismv σ c = false from decide_eq_false (fun q => e q.2)] at hcl
          have e2 : ¬ σ 232 c = z := fun q => e (z5.mp q.symm)
          refine STEP.read h hcl (σ2 := xu σ 281 47 0) (st ?_) (xu_same _ _ _ _) FP.rf f0
          refine e_iload_n 13 22 rfl rfl rfl rfl ?_
          refine e_if_ne 14 34 25 rfl rfl rfl (by unfold xr at *; omega) (fun _ => ?_) (fun h9 => absurd h9 (by omega))
          refine e_iload_n 20 35 rfl rfl rfl rfl ?_
          refine e_iconst 21 36 rfl rfl ?_
          refine e_icmp_ne 22 48 39 rfl rfl rfl (by unfold xr at *; omega) (by unfold xr at *; omega) (fun _ => ?_) (fun h9 => absurd h9 (by omega))
          refine e_iload_n 28 49 rfl rfl rfl rfl ?_
          refine e_iconst 29 50 rfl rfl ?_
          refine e_icmp_ne 30 61 53 rfl rfl rfl (by unfold xr at *; omega) (by unfold xr at *; omega) (fun _ => ?_) (fun h9 => absurd h9 (by omega))
          refine e_aload_n 35 62 rfl rfl rfl rfl ?_
          refine g_getR 36 65 ckX12 flX12_57 rfl rfl (Nat.le_of_ble_eq_true rfl) rfl rfl ?_
          refine e_iload_n 37 66 rfl rfl rfl rfl ?_
          refine g_iaload 38 67 rfl rfl (Nat.le_of_ble_eq_true rfl) rfl (by omega) (by omega) (by omega) r2.1 ?_
          refine e_aload_n 39 68 rfl rfl rfl rfl ?_
          refine g_getI 40 71 25 ckX12 flX12_63 rfl rfl (Nat.le_of_ble_eq_true rfl) rfl rfl rfl z1 ?_
          refine e_icmp_ne 41 78 74 rfl rfl rfl hxc z2 (fun _ => ?_) (fun h9 => absurd h9 e2)
          refine e_iconst 44 79 rfl rfl ?_
          exact e_ireturn 45 rfl rfl (Nat.le_of_ble_eq_true rfl) (Nat.le_of_ble_eq_true rfl)
    · rw [decide_eq_false hw2] at p2
      refine STEP.refuse h 2 (by simp) (sp_chunkX2 hC hw hh hw2) (σ2 := xu σ 281 47 2) (y := 0) ?_ (xu_same _ _ _ _) F47s
      refine e_entry okX12_chunk (Nat.le_of_ble_eq_true rfl) (ls := [some _, some _, some _]) rfl ?_
      refine e_aload_n 0 1 rfl rfl rfl rfl ?_
      refine e_aload_n 1 2 rfl rfl rfl rfl ?_
      refine e_iload_n 2 3 rfl rfl rfl rfl ?_
      refine g_callV 3 6 (p1) okX12_isChunk cvX12_325 ⟨(Nat.le_of_ble_eq_true rfl), (Nat.le_of_ble_eq_true rfl)⟩ rfl rfl (Nat.le_of_ble_eq_true rfl) rfl rfl rfl rfl rfl (Nat.le_of_ble_eq_true rfl) (Nat.le_of_ble_eq_true rfl) (Nat.le_of_ble_eq_true rfl) ?_
      refine e_iload_n 4 7 rfl rfl rfl rfl ?_
      refine e_iconst 5 8 rfl rfl ?_
      refine e_iconst 6 9 rfl rfl ?_
      refine g_callS 7 12 (p2) okX12_in csX12_175 ⟨(Nat.le_of_ble_eq_true rfl), (Nat.le_of_ble_eq_true rfl)⟩ rfl rfl rfl rfl (Nat.le_of_ble_eq_true rfl) (Nat.le_of_ble_eq_true rfl) (Nat.le_of_ble_eq_true rfl) ?_
      refine e_iconst 8 13 rfl rfl ?_
      refine g_callV 9 16 (sp_mGoes (a := true) (b := false) (c := true)) okX12_goes cvX12_167 ⟨(Nat.le_of_ble_eq_true rfl), (Nat.le_of_ble_eq_true rfl)⟩ rfl rfl (Nat.le_of_ble_eq_true rfl) rfl rfl rfl rfl rfl (Nat.le_of_ble_eq_true rfl) (Nat.le_of_ble_eq_true rfl) (Nat.le_of_ble_eq_true rfl) ?_
      refine e_ifb_ne 10 21 19 rfl rfl rfl (fun hb => ?_) (fun hb => ?_)
      · skip
        cases hb
      · skip
        refine e_iconst 11 20 rfl rfl ?_
        exact e_ireturn 12 rfl rfl (Nat.le_of_ble_eq_true rfl) (Nat.le_of_ble_eq_true rfl)
  | false =>
    rw [hh] at p1
    refine STEP.refuse h 1 (by simp) (sp_chunkX hC hc0 hh) (σ2 := xu σ 281 47 1) (y := 0) ?_ (xu_same _ _ _ _) F47s
    refine e_entry okX12_chunk (Nat.le_of_ble_eq_true rfl) (ls := [some _, some _, some _]) rfl ?_
    refine e_aload_n 0 1 rfl rfl rfl rfl ?_
    refine e_aload_n 1 2 rfl rfl rfl rfl ?_
    refine e_iload_n 2 3 rfl rfl rfl rfl ?_
    refine g_callV 3 6 (p1) okX12_isChunk cvX12_325 ⟨(Nat.le_of_ble_eq_true rfl), (Nat.le_of_ble_eq_true rfl)⟩ rfl rfl (Nat.le_of_ble_eq_true rfl) rfl rfl rfl rfl rfl (Nat.le_of_ble_eq_true rfl) (Nat.le_of_ble_eq_true rfl) (Nat.le_of_ble_eq_true rfl) ?_
    refine e_iload_n 4 7 rfl rfl rfl rfl ?_
    refine e_iconst 5 8 rfl rfl ?_
    refine e_iconst 6 9 rfl rfl ?_
    refine g_callS 7 12 (p2) okX12_in csX12_175 ⟨(Nat.le_of_ble_eq_true rfl), (Nat.le_of_ble_eq_true rfl)⟩ rfl rfl rfl rfl (Nat.le_of_ble_eq_true rfl) (Nat.le_of_ble_eq_true rfl) (Nat.le_of_ble_eq_true rfl) ?_
    refine e_iconst 8 13 rfl rfl ?_
    refine g_callV 9 16 (sp_mGoes (a := false) (b := decide (0 ≤ w ∧ w ≤ 3)) (c := true)) okX12_goes cvX12_167 ⟨(Nat.le_of_ble_eq_true rfl), (Nat.le_of_ble_eq_true rfl)⟩ rfl rfl (Nat.le_of_ble_eq_true rfl) rfl rfl rfl rfl rfl (Nat.le_of_ble_eq_true rfl) (Nat.le_of_ble_eq_true rfl) (Nat.le_of_ble_eq_true rfl) ?_
    refine e_ifb_ne 10 21 19 rfl rfl rfl (fun hb => ?_) (fun hb => ?_)
    · skip
      cases hb
    · skip
      refine e_iconst 11 20 rfl rfl ?_
      exact e_ireturn 12 rfl rfl (Nat.le_of_ble_eq_true rfl) (Nat.le_of_ble_eq_true rfl)
/-- the model's count of the documents of a shard -/
theorem sp_mShardLp {τ : xSig} {T : Nat → List Int} {G : Nat → Fo} {c w : Int} (hc : 0 ≤ c ∧ c < 3) {σ : xSig} (hC : CHM τ σ) (hD : DOCM τ T G σ) : ∃ σ', x_E MX12_shard 0 0 81 [some (.ref 281), some (.int (ii c)), some (.int (ii w)), some (.int (ii 0)), some (.int (ii ((0 : Nat) : Int)))] [] (St σ) 0 0 (iv (cat9 τ T c)) (St σ') ∧ FP m11 σ σ' := by
  unfold cat9
  generalize hfe : (fun n : Nat => if hasd τ n = true ∧ shd τ (T (31 + 2 * n)) = c then (1 : Int) else 0) = f9
  have hf9 : ∀ n : Nat, f9 n = if hasd τ n = true ∧ shd τ (T (31 + 2 * n)) = c then (1 : Int) else 0 := fun n => by rw [← hfe]
  have lp : ∀ (m i : Nat) (acc : Int) (σ : xSig), i + m = 100 → CHM τ σ → DOCM τ T G σ → ∃ σ', x_E MX12_shard 0 0 81 [some (.ref 281), some (.int (ii c)), some (.int (ii w)), some (.int (ii acc)), some (.int (ii i))] [] (St σ) 0 0 (iv (acc + smN f9 i m)) (St σ') ∧ FP m11 σ σ' := by
    intro m
    induction m with
    | zero =>
      intro i acc σ hi hC hD
      refine ⟨σ, ?_, FP.rf⟩
      rw [show acc + smN f9 i 0 = acc from Int.add_zero acc]
      refine e_iload 48 83 rfl rfl rfl ?_
      refine e_bipush 49 85 rfl rfl rfl ?_
      refine e_icmp_ge 50 122 88 rfl rfl rfl (by unfold xr at *; omega) (by unfold xr at *; omega) (fun _ => ?_) (fun h9 => absurd h9 (by omega))
      refine e_iload_n 69 123 rfl rfl rfl rfl ?_
      exact e_ireturn 70 rfl rfl (Nat.le_of_ble_eq_true rfl) (Nat.le_of_ble_eq_true rfl)
    | succ m ih =>
      intro i acc σ hi hC hD
      have e3 := hD.2 i (by omega)
      have fin : ∀ (z : Int) (σ1 : xSig), FP m11 σ σ1 → z = f9 i → ∃ σ', x_E MX12_shard 0 0 114 [some (.ref 281), some (.int (ii c)), some (.int (ii w)), some (.int (ii acc)), some (.int (ii i))] [.int (ii z), .int (ii acc)] (St σ1) 0 0 (iv (acc + smN f9 i (m + 1))) (St σ') ∧ FP m11 σ1 σ' := by
        intro z σ1 g hz
        obtain ⟨σ', k1, k2⟩ := ih (i + 1) (acc + z) σ1 (by omega) (hC.fp g rfl) (hD.fp g rfl)
        refine ⟨σ', ?_, k2⟩
        rw [show acc + smN f9 i (m + 1) = acc + z + smN f9 (i + 1) m by rw [smN, hz]; omega]
        refine e_iadd 65 115 rfl rfl ?_
        refine e_istore_n 66 116 (ls' := [some _, some _, some _, some _, some _]) rfl rfl rfl (Nat.le_of_ble_eq_true rfl) rfl ?_
        refine e_iinc 67 119 (ls' := [some _, some _, some _, some _, some _]) rfl rfl (Nat.le_of_ble_eq_true rfl) rfl rfl ?_
        refine e_goto 68 81 rfl rfl ?_
        exact k1
      cases hh : hasd τ i with
      | false =>
        obtain ⟨σ', k1, k2⟩ := fin 0 σ FP.rf (by rw [hf9, hh]; rfl)
        rw [hh] at e3
        refine ⟨σ', ?_, k2⟩
        refine e_iload 48 83 rfl rfl rfl ?_
        refine e_bipush 49 85 rfl rfl rfl ?_
        refine e_icmp_ge 50 122 88 rfl rfl rfl (by unfold xr at *; omega) (by unfold xr at *; omega) (fun h9 => absurd h9 (by omega)) (fun _ => ?_)
        refine e_iload_n 51 89 rfl rfl rfl rfl ?_
        refine e_aload_n 52 90 rfl rfl rfl rfl ?_
        refine g_getR 53 93 ckX12 flX12_13 rfl rfl (Nat.le_of_ble_eq_true rfl) rfl rfl ?_
        refine e_iload 54 95 rfl rfl rfl ?_
        refine g_baload 55 96 rfl rfl (Nat.le_of_ble_eq_true rfl) rfl (by omega) (by omega) (by omega) e3 ?_
        refine e_ifb_eq 56 113 99 rfl rfl rfl (fun h => ?_) (fun h => ?_)
        · skip
          refine e_iconst 64 114 rfl rfl ?_
          exact k1
        · skip
          cases h
      | true =>
        rw [hh] at e3
        obtain ⟨F, d1, d2, d3⟩ := hD.1 i (by omega) hh
        obtain ⟨σ1, c1, f1⟩ := sp_mShardOf hC d2 d3
        have hcb := shd_bnd hC.1.1 (T (31 + 2 * i))
        have hxc : xr (shd τ (T (31 + 2 * i))) := by unfold xr; omega
        by_cases he : shd τ (T (31 + 2 * i)) = c
        · obtain ⟨σ', k1, k2⟩ := fin 1 σ1 f1 (by rw [hf9, if_pos ⟨hh, he⟩])
          refine ⟨σ', ?_, f1.tr k2⟩
          refine e_iload 48 83 rfl rfl rfl ?_
          refine e_bipush 49 85 rfl rfl rfl ?_
          refine e_icmp_ge 50 122 88 rfl rfl rfl (by unfold xr at *; omega) (by unfold xr at *; omega) (fun h9 => absurd h9 (by omega)) (fun _ => ?_)
          refine e_iload_n 51 89 rfl rfl rfl rfl ?_
          refine e_aload_n 52 90 rfl rfl rfl rfl ?_
          refine g_getR 53 93 ckX12 flX12_13 rfl rfl (Nat.le_of_ble_eq_true rfl) rfl rfl ?_
          refine e_iload 54 95 rfl rfl rfl ?_
          refine g_baload 55 96 rfl rfl (Nat.le_of_ble_eq_true rfl) rfl (by omega) (by omega) (by omega) e3 ?_
          refine e_ifb_eq 56 113 99 rfl rfl rfl (fun h => ?_) (fun h => ?_)
          · skip
            cases h
          · skip
            refine e_aload_n 57 100 rfl rfl rfl rfl ?_
            refine e_iload 58 102 rfl rfl rfl ?_
            refine g_callV 59 105 (c1) okX12_shardOf cvX12_237 ⟨(Nat.le_of_ble_eq_true rfl), (Nat.le_of_ble_eq_true rfl)⟩ rfl rfl (Nat.le_of_ble_eq_true rfl) rfl rfl rfl rfl rfl (Nat.le_of_ble_eq_true rfl) (Nat.le_of_ble_eq_true rfl) (Nat.le_of_ble_eq_true rfl) ?_
            refine e_iload_n 60 106 rfl rfl rfl rfl ?_
            refine e_icmp_ne 61 113 109 rfl rfl rfl (by unfold xr at *; omega) (by unfold xr at *; omega) (fun h9 => absurd h9 (fun q => q he)) (fun _ => ?_)
            refine e_iconst 62 110 rfl rfl ?_
            refine e_goto 63 114 rfl rfl ?_
            exact k1
        · obtain ⟨σ', k1, k2⟩ := fin 0 σ1 f1 (by rw [hf9, if_neg (fun q => he q.2)])
          refine ⟨σ', ?_, f1.tr k2⟩
          refine e_iload 48 83 rfl rfl rfl ?_
          refine e_bipush 49 85 rfl rfl rfl ?_
          refine e_icmp_ge 50 122 88 rfl rfl rfl (by unfold xr at *; omega) (by unfold xr at *; omega) (fun h9 => absurd h9 (by omega)) (fun _ => ?_)
          refine e_iload_n 51 89 rfl rfl rfl rfl ?_
          refine e_aload_n 52 90 rfl rfl rfl rfl ?_
          refine g_getR 53 93 ckX12 flX12_13 rfl rfl (Nat.le_of_ble_eq_true rfl) rfl rfl ?_
          refine e_iload 54 95 rfl rfl rfl ?_
          refine g_baload 55 96 rfl rfl (Nat.le_of_ble_eq_true rfl) rfl (by omega) (by omega) (by omega) e3 ?_
          refine e_ifb_eq 56 113 99 rfl rfl rfl (fun h => ?_) (fun h => ?_)
          · skip
            cases h
          · skip
            refine e_aload_n 57 100 rfl rfl rfl rfl ?_
            refine e_iload 58 102 rfl rfl rfl ?_
            refine g_callV 59 105 (c1) okX12_shardOf cvX12_237 ⟨(Nat.le_of_ble_eq_true rfl), (Nat.le_of_ble_eq_true rfl)⟩ rfl rfl (Nat.le_of_ble_eq_true rfl) rfl rfl rfl rfl rfl (Nat.le_of_ble_eq_true rfl) (Nat.le_of_ble_eq_true rfl) (Nat.le_of_ble_eq_true rfl) ?_
            refine e_iload_n 60 106 rfl rfl rfl rfl ?_
            refine e_icmp_ne 61 113 109 rfl rfl rfl (by unfold xr at *; omega) (by unfold xr at *; omega) (fun _ => ?_) (fun h9 => absurd h9 he)
            refine e_iconst 64 114 rfl rfl ?_
            exact k1
  obtain ⟨σ', k1, k2⟩ := lp 100 0 0 σ (by omega) hC hD
  refine ⟨σ', ?_, k2⟩
  rw [Int.zero_add] at k1
  exact k1
theorem st_shard {i : Nat} {σ : xSig} (h : INV i σ) {s w : Int} (hs : xr s) (hw : xr w) : STEP i MX11_shard MX12_shard iv [nIAE] [.int (ii s), .int (ii w)] σ := by
  have hM := h
  obtain ⟨T, G, hA, hM⟩ := hM
  have h01 := (hM.1 4).1
  obtain ⟨hC, hz, hinc, -, hmv, ht1, ht2⟩ := hM.1 6
  have p1 := sp_mIn (σ := σ) (x := s) (y := 0) (z := 2) hs (by unfold xr; omega) (by unfold xr; omega)
  have p2 := sp_mIn (σ := σ) (x := w) (y := 0) (z := 2) hw (by unfold xr; omega) (by unfold xr; omega)
  by_cases hh : (0 ≤ s ∧ s < 3) ∧ 0 ≤ w ∧ w ≤ 2
  · rw [decide_eq_true (by omega)] at p1 p2
    have f0 : FP scr9 σ (xu σ 281 47 0) := F47s
    have hM0 := hM.fp f0 (by decide +kernel)
    have hcl := sp_shard1 hA h01 hC hh.1 hh.2
    have st : ∀ {z : Int} {σ2 : xSig}, x_E MX12_shard 0 0 34 [some (.ref 281), some (.int (ii s)), some (.int (ii w)), none, none] [] (St (xu σ 281 47 0)) 0 0 (iv z) (St σ2) → x_Sp MX12_shard 0 0 [.ref 281, .int (ii s), .int (ii w)] (St σ) (iv z) (St σ2) := by
      intro z σ2 kk
      refine e_entry okX12_shard (Nat.le_of_ble_eq_true rfl) (ls := [some _, some _, some _, none, none]) rfl ?_
      refine e_aload_n 0 1 rfl rfl rfl rfl ?_
      refine e_iload_n 1 2 rfl rfl rfl rfl ?_
      refine e_iconst 2 3 rfl rfl ?_
      refine e_iconst 3 4 rfl rfl ?_
      refine g_callS 4 7 (p1) okX12_in csX12_175 ⟨(Nat.le_of_ble_eq_true rfl), (Nat.le_of_ble_eq_true rfl)⟩ rfl rfl rfl rfl (Nat.le_of_ble_eq_true rfl) (Nat.le_of_ble_eq_true rfl) (Nat.le_of_ble_eq_true rfl) ?_
      refine e_ifb_eq 5 23 10 rfl rfl rfl (fun hb => ?_) (fun hb => ?_)
      · skip
        cases hb
      · skip
        refine e_iload_n 6 11 rfl rfl rfl rfl ?_
        refine e_iconst 7 12 rfl rfl ?_
        refine e_iconst 8 13 rfl rfl ?_
        refine g_callS 9 16 (p2) okX12_in csX12_175 ⟨(Nat.le_of_ble_eq_true rfl), (Nat.le_of_ble_eq_true rfl)⟩ rfl rfl rfl rfl (Nat.le_of_ble_eq_true rfl) (Nat.le_of_ble_eq_true rfl) (Nat.le_of_ble_eq_true rfl) ?_
        refine e_ifb_eq 10 23 19 rfl rfl rfl (fun hb => ?_) (fun hb => ?_)
        · skip
          cases hb
        · skip
          refine e_iconst 11 20 rfl rfl ?_
          refine e_goto 12 24 rfl rfl ?_
          refine e_iconst 14 25 rfl rfl ?_
          refine e_iconst 15 26 rfl rfl ?_
          refine g_callV 16 29 (sp_mGoes (a := true) (b := true) (c := true)) okX12_goes cvX12_167 ⟨(Nat.le_of_ble_eq_true rfl), (Nat.le_of_ble_eq_true rfl)⟩ rfl rfl (Nat.le_of_ble_eq_true rfl) rfl rfl rfl rfl rfl (Nat.le_of_ble_eq_true rfl) (Nat.le_of_ble_eq_true rfl) (Nat.le_of_ble_eq_true rfl) ?_
          refine e_ifb_ne 17 34 32 rfl rfl rfl (fun hb => ?_) (fun hb => ?_)
          · skip
            exact kk
          · skip
            cases hb
    rcases (by omega : w = 0 ∨ w = 1 ∨ w = 2) with rfl | rfl | rfl
    · obtain ⟨σ2, c1, f1⟩ := sp_mShardLp (w := 0) hh.1 hM0.chm hM0.docm
      rw [if_pos rfl] at hcl
      refine STEP.read h hcl (σ2 := σ2) (st ?_) (by rw [f1 281 47 rfl, xu_same]) FP.rf (f0.tr (f1.mono rfl))
      refine e_iload_n 20 35 rfl rfl rfl rfl ?_
      refine e_iconst 21 36 rfl rfl ?_
      refine e_icmp_ne 22 46 39 rfl rfl rfl (by unfold xr at *; omega) (by unfold xr at *; omega) (fun _ => ?_) (fun h9 => absurd h9 (by omega))
      refine e_iload_n 28 47 rfl rfl rfl rfl ?_
      refine e_iconst 29 48 rfl rfl ?_
      refine e_icmp_ne 30 76 51 rfl rfl rfl (by unfold xr at *; omega) (by unfold xr at *; omega) (fun _ => ?_) (fun h9 => absurd h9 (by omega))
      refine e_iconst 44 77 rfl rfl ?_
      refine e_istore_n 45 78 (ls' := [some _, some _, some _, some _, none]) rfl rfl rfl (Nat.le_of_ble_eq_true rfl) rfl ?_
      refine e_iconst 46 79 rfl rfl ?_
      refine e_istore 47 81 (ls' := [some _, some _, some _, some _, some _]) rfl rfl (Nat.le_of_ble_eq_true rfl) rfl ?_
      exact c1
    · rw [if_neg (by decide), if_pos rfl] at hcl
      have r1 : xu σ 281 47 0 300 s = σ 234 s := hM0.2 15 s hh.1.1 hh.1.2
      refine STEP.read h hcl (σ2 := xu σ 281 47 0) (st ?_) (xu_same _ _ _ _) FP.rf f0
      refine e_iload_n 20 35 rfl rfl rfl rfl ?_
      refine e_iconst 21 36 rfl rfl ?_
      refine e_icmp_ne 22 46 39 rfl rfl rfl (by unfold xr at *; omega) (by unfold xr at *; omega) (fun h9 => absurd h9 (by omega)) (fun _ => ?_)
      refine e_aload_n 23 40 rfl rfl rfl rfl ?_
      refine g_getR 24 43 ckX12 flX12_70 rfl rfl (Nat.le_of_ble_eq_true rfl) rfl rfl ?_
      refine e_iload_n 25 44 rfl rfl rfl rfl ?_
      refine g_iaload 26 45 rfl rfl (Nat.le_of_ble_eq_true rfl) rfl (by omega) (by omega) (by omega) r1 ?_
      exact e_ireturn 27 rfl rfl (Nat.le_of_ble_eq_true rfl) (Nat.le_of_ble_eq_true rfl)
    · rw [if_neg (by decide), if_neg (by decide)] at hcl
      obtain ⟨z, z1, z2, z3, z4⟩ := mfrom hC hinc hmv (hM0.2 13)
      have hcp := sp_mCopies (τ := σ) (σ := xu σ 281 47 0) hM0.docm.2 (fun n hn => by rw [hM0.2 14 n hn]; exact hC.2.2.2.2.2.2.2 n)
      rw [mcp_eq (hM0.1 7) (hM0.2 14)] at hcp
      by_cases e : σ 231 11 = -1
      · rw [if_neg (by have := ht1 e; omega)] at hcl
        refine STEP.read h hcl (σ2 := xu σ 281 47 0) (st ?_) (xu_same _ _ _ _) FP.rf f0
        have zz := z3.mpr e
        refine e_iload_n 20 35 rfl rfl rfl rfl ?_
        refine e_iconst 21 36 rfl rfl ?_
        refine e_icmp_ne 22 46 39 rfl rfl rfl (by unfold xr at *; omega) (by unfold xr at *; omega) (fun _ => ?_) (fun h9 => absurd h9 (by omega))
        refine e_iload_n 28 47 rfl rfl rfl rfl ?_
        refine e_iconst 29 48 rfl rfl ?_
        refine e_icmp_ne 30 76 51 rfl rfl rfl (by unfold xr at *; omega) (by unfold xr at *; omega) (fun h9 => absurd h9 (by omega)) (fun _ => ?_)
        refine e_aload_n 31 52 rfl rfl rfl rfl ?_
        refine g_getI 32 55 25 ckX12 flX12_63 rfl rfl (Nat.le_of_ble_eq_true rfl) rfl rfl rfl z1 ?_
        refine e_iconst 33 56 rfl rfl ?_
        refine e_icmp_eq 34 74 59 rfl rfl rfl z2 (by unfold xr at *; omega) (fun _ => ?_) (fun h9 => absurd h9 (fun q => q zz))
        refine e_iconst 42 75 rfl rfl ?_
        exact e_ireturn 43 rfl rfl (Nat.le_of_ble_eq_true rfl) (Nat.le_of_ble_eq_true rfl)
      · have zz : ¬ z = -1 := fun q => e (z3.mp q)
        have e26 : xu σ 281 47 0 281 26 = σ 231 12 := ((hM0.2 13).2 e).2
        have h12 := hC.2.2.2.2.1
        by_cases e2 : s = σ 231 12
        · rw [if_pos e2] at hcl
          refine STEP.read h hcl (σ2 := xu σ 281 47 0) (st ?_) (xu_same _ _ _ _) FP.rf f0
          refine e_iload_n 20 35 rfl rfl rfl rfl ?_
          refine e_iconst 21 36 rfl rfl ?_
          refine e_icmp_ne 22 46 39 rfl rfl rfl (by unfold xr at *; omega) (by unfold xr at *; omega) (fun _ => ?_) (fun h9 => absurd h9 (by omega))
          refine e_iload_n 28 47 rfl rfl rfl rfl ?_
          refine e_iconst 29 48 rfl rfl ?_
          refine e_icmp_ne 30 76 51 rfl rfl rfl (by unfold xr at *; omega) (by unfold xr at *; omega) (fun h9 => absurd h9 (by omega)) (fun _ => ?_)
          refine e_aload_n 31 52 rfl rfl rfl rfl ?_
          refine g_getI 32 55 25 ckX12 flX12_63 rfl rfl (Nat.le_of_ble_eq_true rfl) rfl rfl rfl z1 ?_
          refine e_iconst 33 56 rfl rfl ?_
          refine e_icmp_eq 34 74 59 rfl rfl rfl z2 (by unfold xr at *; omega) (fun h9 => absurd h9 zz) (fun _ => ?_)
          refine e_aload_n 35 60 rfl rfl rfl rfl ?_
          refine g_getI 36 63 26 ckX12 flX12_328 rfl rfl (Nat.le_of_ble_eq_true rfl) rfl rfl rfl e26 ?_
          refine e_iload_n 37 64 rfl rfl rfl rfl ?_
          refine e_icmp_ne 38 74 67 rfl rfl rfl (by unfold xr at *; omega) (by unfold xr at *; omega) (fun h9 => absurd h9 (fun q => q e2.symm)) (fun _ => ?_)
          refine e_aload_n 39 68 rfl rfl rfl rfl ?_
          refine g_callV 40 71 (hcp) okX12_copies cvX12_337 ⟨(Nat.le_of_ble_eq_true rfl), (Nat.le_of_ble_eq_true rfl)⟩ rfl rfl (Nat.le_of_ble_eq_true rfl) rfl rfl rfl rfl rfl (Nat.le_of_ble_eq_true rfl) (Nat.le_of_ble_eq_true rfl) (Nat.le_of_ble_eq_true rfl) ?_
          refine e_goto 41 75 rfl rfl ?_
          exact e_ireturn 43 rfl rfl (Nat.le_of_ble_eq_true rfl) (Nat.le_of_ble_eq_true rfl)
        · rw [if_neg e2] at hcl
          refine STEP.read h hcl (σ2 := xu σ 281 47 0) (st ?_) (xu_same _ _ _ _) FP.rf f0
          have e3 : ¬ σ 231 12 = s := fun q => e2 q.symm
          refine e_iload_n 20 35 rfl rfl rfl rfl ?_
          refine e_iconst 21 36 rfl rfl ?_
          refine e_icmp_ne 22 46 39 rfl rfl rfl (by unfold xr at *; omega) (by unfold xr at *; omega) (fun _ => ?_) (fun h9 => absurd h9 (by omega))
          refine e_iload_n 28 47 rfl rfl rfl rfl ?_
          refine e_iconst 29 48 rfl rfl ?_
          refine e_icmp_ne 30 76 51 rfl rfl rfl (by unfold xr at *; omega) (by unfold xr at *; omega) (fun h9 => absurd h9 (by omega)) (fun _ => ?_)
          refine e_aload_n 31 52 rfl rfl rfl rfl ?_
          refine g_getI 32 55 25 ckX12 flX12_63 rfl rfl (Nat.le_of_ble_eq_true rfl) rfl rfl rfl z1 ?_
          refine e_iconst 33 56 rfl rfl ?_
          refine e_icmp_eq 34 74 59 rfl rfl rfl z2 (by unfold xr at *; omega) (fun h9 => absurd h9 zz) (fun _ => ?_)
          refine e_aload_n 35 60 rfl rfl rfl rfl ?_
          refine g_getI 36 63 26 ckX12 flX12_328 rfl rfl (Nat.le_of_ble_eq_true rfl) rfl rfl rfl e26 ?_
          refine e_iload_n 37 64 rfl rfl rfl rfl ?_
          refine e_icmp_ne 38 74 67 rfl rfl rfl (by unfold xr at *; omega) (by unfold xr at *; omega) (fun _ => ?_) (fun h9 => absurd h9 e3)
          refine e_iconst 42 75 rfl rfl ?_
          exact e_ireturn 43 rfl rfl (Nat.le_of_ble_eq_true rfl) (Nat.le_of_ble_eq_true rfl)
  · refine STEP.refuse h 1 (by simp) (sp_shardX hs hw hh) (σ2 := xu σ 281 47 1) (y := 0) ?_ (xu_same _ _ _ _) F47s
    have fin : x_E MX12_shard 0 0 24 [some (.ref 281), some (.int (ii s)), some (.int (ii w)), none, none] [.int (ii 0), .ref 281] (St σ) 0 0 (iv 0) (St (xu σ 281 47 1)) := by
      refine e_iconst 14 25 rfl rfl ?_
      refine e_iconst 15 26 rfl rfl ?_
      refine g_callV 16 29 (sp_mGoes (a := false) (b := true) (c := true)) okX12_goes cvX12_167 ⟨(Nat.le_of_ble_eq_true rfl), (Nat.le_of_ble_eq_true rfl)⟩ rfl rfl (Nat.le_of_ble_eq_true rfl) rfl rfl rfl rfl rfl (Nat.le_of_ble_eq_true rfl) (Nat.le_of_ble_eq_true rfl) (Nat.le_of_ble_eq_true rfl) ?_
      refine e_ifb_ne 17 34 32 rfl rfl rfl (fun hb => ?_) (fun hb => ?_)
      · skip
        cases hb
      · skip
        refine e_iconst 18 33 rfl rfl ?_
        exact e_ireturn 19 rfl rfl (Nat.le_of_ble_eq_true rfl) (Nat.le_of_ble_eq_true rfl)
    refine e_entry okX12_shard (Nat.le_of_ble_eq_true rfl) (ls := [some _, some _, some _, none, none]) rfl ?_
    refine e_aload_n 0 1 rfl rfl rfl rfl ?_
    refine e_iload_n 1 2 rfl rfl rfl rfl ?_
    refine e_iconst 2 3 rfl rfl ?_
    refine e_iconst 3 4 rfl rfl ?_
    refine g_callS 4 7 (p1) okX12_in csX12_175 ⟨(Nat.le_of_ble_eq_true rfl), (Nat.le_of_ble_eq_true rfl)⟩ rfl rfl rfl rfl (Nat.le_of_ble_eq_true rfl) (Nat.le_of_ble_eq_true rfl) (Nat.le_of_ble_eq_true rfl) ?_
    refine e_ifb_eq 5 23 10 rfl rfl rfl (fun hb => ?_) (fun hb => ?_)
    · skip
      refine e_iconst 13 24 rfl rfl ?_
      exact fin
    · skip
      have hb1 := of_decide_eq_true hb
      refine e_iload_n 6 11 rfl rfl rfl rfl ?_
      refine e_iconst 7 12 rfl rfl ?_
      refine e_iconst 8 13 rfl rfl ?_
      refine g_callS 9 16 (p2) okX12_in csX12_175 ⟨(Nat.le_of_ble_eq_true rfl), (Nat.le_of_ble_eq_true rfl)⟩ rfl rfl rfl rfl (Nat.le_of_ble_eq_true rfl) (Nat.le_of_ble_eq_true rfl) (Nat.le_of_ble_eq_true rfl) ?_
      refine e_ifb_eq 10 23 19 rfl rfl rfl (fun hb => ?_) (fun hb => ?_)
      · skip
        refine e_iconst 13 24 rfl rfl ?_
        exact fin
      · skip
        have hb2 := of_decide_eq_true hb
        omega
