/-! ===== steps: move ===== -/
theorem st_move {i : Nat} {σ : xSig} (h : INV i σ) {c s : Int} (hc0 : xr c) (hs : xr s) : STEP i MX11_move MX12_move iv [nIOB, nIAE, nISE] [.int (ii c), .int (ii s)] σ := by
  have hM := h
  obtain ⟨T, G, hA, hM⟩ := hM
  have h01 := (hM.1 4).1
  obtain ⟨hC, hz, hinc, hlt, hmv9, ht1, ht2⟩ := hM.1 6
  obtain ⟨z, z1, z2, z3, z4⟩ := mfrom hC hinc hmv9 (hM.2 13)
  have h7 := hC.1
  have h11 := hC.2.2.2.1
  have hrow := hM.chm.2.1
  -- the walk up to the question
  have pre : ∀ (σ0 : xSig), σ0 281 24 = σ 231 7 → ∀ {o : xO} {Y : xS}, x_E MX12_move 0 0 18 [some (.ref 281), some (.int (ii c)), some (.int (ii s)), some (.int (ii (bi (chas σ c)))), some (.int (ii (bi (decide (0 ≤ s ∧ s ≤ 2)))))] [.int (ii (bi (decide (0 ≤ s ∧ s ≤ 2)))), .int (ii (bi (chas σ c))), .ref 281] (St σ0) 0 0 o Y → x_Sp MX12_move 0 0 [.ref 281, .int (ii c), .int (ii s)] (St σ0) o Y := by
    intro σ0 g24 o Y kk
    have p1 := sp_mIsChunk (σ := σ0) g24 hC.1 hc0
    have p2 := sp_mIn (σ := σ0) (x := s) (y := 0) (z := 2) hs (by unfold xr; omega) (by unfold xr; omega)
    refine e_entry okX12_move (Nat.le_of_ble_eq_true rfl) (ls := [some _, some _, some _, none, none]) rfl ?_
    refine e_aload_n 0 1 rfl rfl rfl rfl ?_
    refine e_iload_n 1 2 rfl rfl rfl rfl ?_
    refine g_callV 2 5 (p1) okX12_isChunk cvX12_325 ⟨(Nat.le_of_ble_eq_true rfl), (Nat.le_of_ble_eq_true rfl)⟩ rfl rfl (Nat.le_of_ble_eq_true rfl) rfl rfl rfl rfl rfl (Nat.le_of_ble_eq_true rfl) (Nat.le_of_ble_eq_true rfl) (Nat.le_of_ble_eq_true rfl) ?_
    refine e_istore_n 3 6 (ls' := [some _, some _, some _, some _, none]) rfl rfl rfl (Nat.le_of_ble_eq_true rfl) rfl ?_
    refine e_iload_n 4 7 rfl rfl rfl rfl ?_
    refine e_iconst 5 8 rfl rfl ?_
    refine e_iconst 6 9 rfl rfl ?_
    refine g_callS 7 12 (p2) okX12_in csX12_175 ⟨(Nat.le_of_ble_eq_true rfl), (Nat.le_of_ble_eq_true rfl)⟩ rfl rfl rfl rfl (Nat.le_of_ble_eq_true rfl) (Nat.le_of_ble_eq_true rfl) (Nat.le_of_ble_eq_true rfl) ?_
    refine e_istore 8 14 (ls' := [some _, some _, some _, some _, some _]) rfl rfl (Nat.le_of_ble_eq_true rfl) rfl ?_
    refine e_aload_n 9 15 rfl rfl rfl rfl ?_
    refine e_iload_n 10 16 rfl rfl rfl rfl ?_
    refine e_iload 11 18 rfl rfl rfl ?_
    exact kk
  have refu : ∀ (b1 b2 : Bool), x_E MX12_move 0 0 50 [some (.ref 281), some (.int (ii c)), some (.int (ii s)), some (.int (ii (bi b1))), some (.int (ii (bi b2)))] [.int (ii (bi false)), .int (ii (bi b2)), .int (ii (bi b1)), .ref 281] (St σ) 0 0 (iv 0) (St (xu σ 281 47 (gcode b1 b2 false))) := by
    intro b1 b2
    refine g_callV 29 53 (sp_mGoes (a := b1) (b := b2) (c := false)) okX12_goes cvX12_167 ⟨(Nat.le_of_ble_eq_true rfl), (Nat.le_of_ble_eq_true rfl)⟩ rfl rfl (Nat.le_of_ble_eq_true rfl) rfl rfl rfl rfl rfl (Nat.le_of_ble_eq_true rfl) (Nat.le_of_ble_eq_true rfl) (Nat.le_of_ble_eq_true rfl) ?_
    refine e_ifb_ne 30 58 56 rfl rfl rfl (fun hb => ?_) (fun hb => ?_)
    · skip
      exfalso
      rw [Bool.and_false, Bool.and_false] at hb
      cases hb
    · skip
      refine e_iconst 31 57 rfl rfl ?_
      exact e_ireturn 32 rfl rfl (Nat.le_of_ble_eq_true rfl) (Nat.le_of_ble_eq_true rfl)
  cases hh : chas σ c with
  | false =>
    refine STEP.refuse h 1 (by simp) (sp_moveX hC hc0 hh) (σ2 := xu σ 281 47 1) (y := 0) (pre σ hrow.1 ?_) (xu_same _ _ _ _) F47s
    rw [hh]
    refine e_iload_n 12 19 rfl rfl rfl rfl ?_
    refine e_ifb_eq 13 49 22 rfl rfl rfl (fun hb => ?_) (fun hb => ?_)
    · skip
      refine e_iconst 28 50 rfl rfl ?_
      exact refu false _
    · skip
      cases hb
  | true =>
    have hci : 0 ≤ c ∧ c < σ 231 7 := of_decide_eq_true hh
    by_cases hs2 : 0 ≤ s ∧ s < 3
    · have e298 : σ 298 c = σ 233 c := (hrow.2 c hci.1 hci.2).2
      have e297 : σ 297 c = σ 232 c := (hrow.2 c hci.1 hci.2).1
      have h33 := hC.2.2.2.2.2.2.1 c
      have eo : cown σ c = σ 233 c := by unfold cown; rw [hh, if_pos rfl]
      by_cases hok : σ 233 c = s ∨ σ 231 11 ≠ -1
      · refine STEP.refuse h 3 (by simp) (sp_moveX3 hC hh hs2 (hok.elim (fun q => Or.inl (by rw [eo]; exact q)) (fun q => Or.inr (hmv_t q)))) (σ2 := xu σ 281 47 3) (y := 0) (pre σ hrow.1 ?_) (xu_same _ _ _ _) F47s
        rw [hh, decT (by omega : 0 ≤ s ∧ s ≤ 2)]
        refine e_iload_n 12 19 rfl rfl rfl rfl ?_
        refine e_ifb_eq 13 49 22 rfl rfl rfl (fun hb => ?_) (fun hb => ?_)
        · skip
          cases hb
        · skip
          refine e_iload 14 24 rfl rfl rfl ?_
          refine e_ifb_eq 15 49 27 rfl rfl rfl (fun hb => ?_) (fun hb => ?_)
          · skip
            cases hb
          · skip
            refine e_aload_n 16 28 rfl rfl rfl rfl ?_
            refine g_getR 17 31 ckX12 flX12_60 rfl rfl (Nat.le_of_ble_eq_true rfl) rfl rfl ?_
            refine e_iload_n 18 32 rfl rfl rfl rfl ?_
            refine g_iaload 19 33 rfl rfl (Nat.le_of_ble_eq_true rfl) rfl (by omega) (by omega) (by omega) e298 ?_
            refine e_iload_n 20 34 rfl rfl rfl rfl ?_
            refine e_icmp_eq 21 49 37 rfl rfl rfl (by unfold xr at *; omega) (by unfold xr at *; omega) (fun hq => ?_) (fun hq => ?_)
            · skip
              refine e_iconst 28 50 rfl rfl ?_
              exact refu true true
            · skip
              have zz : ¬ z = -1 := fun q => by
                rcases hok with w | w
                · exact hq w
                · exact w (z3.mp q)
              refine e_aload_n 22 38 rfl rfl rfl rfl ?_
              refine g_getI 23 41 25 ckX12 flX12_63 rfl rfl (Nat.le_of_ble_eq_true rfl) rfl rfl rfl z1 ?_
              refine e_iconst 24 42 rfl rfl ?_
              refine e_icmp_ne 25 49 45 rfl rfl rfl z2 (by unfold xr at *; omega) (fun _ => ?_) (fun h9 => absurd h9 zz)
              refine e_iconst 28 50 rfl rfl ?_
              exact refu true true
      · have hne : ¬ σ 233 c = s := fun q => hok (Or.inl q)
        have e11 : σ 231 11 = -1 := by
          by_cases q : σ 231 11 = -1
          · exact q
          · exact absurd (Or.inr q) hok
        have zz := z3.mpr e11
        have hcl := sp_move1 hA h01 hC hh hs2 (by rw [eo]; exact hne) (hmv_f e11)
        have f1 : FP [(231, 11), (231, 12)] σ (xu (xu σ 231 11 c) 231 12 s) := (FP.rf.put rfl).put rfl
        have no235 : ∀ n : Nat, n < 100 → σ 235 n = 0 := fun n hn => (hC.2.2.2.2.2.2.2 n).resolve_right (fun q => (hM.1 7 n hn q).2.1 e11)
        have ecl : clf (xu (xu σ 231 11 c) 231 12 s) T = cin σ T c := by
          unfold clf cin
          refine smN_congr 100 0 fun j _ hj => ?_
          unfold ilf
          rw [hasd_congr (f1.cell 27 rfl), chk_congr9 (f1 231 7 rfl) (f1 231 9 rfl) (f1 231 10 rfl) (f1.cell 232 rfl), f1.cell 235 rfl, show xu (xu σ 231 11 c) 231 12 s 231 11 = c by simp [xu], no235 j (by omega)]
          cases hasd σ j with
          | false => rw [if_neg (fun q => by cases q.1)]; rfl
          | true =>
            by_cases e : chk σ (T (31 + 2 * j)) = c
            · rw [if_pos ⟨rfl, e⟩, decT ⟨e, rfl⟩]; rfl
            · rw [if_neg (fun q => e q.2), decF (fun q => e q.1)]; rfl
        have f2 : FP [(231, 11), (231, 12), (281, 47), (281, 25), (281, 26), (299, -1)] σ (zr (xu (xu (xu (xu (xu σ 231 11 c) 231 12 s) 281 47 0) 281 25 (σ 232 c)) 281 26 s) 299 100) := ((((f1.mono rfl).put rfl).put rfl).put rfl).tr ((zr_f _ _ _).mono rfl)
        obtain ⟨σ2, c1, f3⟩ := sp_mDocsOf (hM.chm.fp f2 rfl) (hM.docm.fp f2 rfl) hc0
        have e298' : xu (xu σ 231 11 c) 231 12 s 298 c = σ 233 c := by rw [f1.cell 298 rfl]; exact e298
        have z1' : xu (xu σ 231 11 c) 231 12 s 281 25 = z := by rw [f1 281 25 rfl]; exact z1
        have e297' : xu (xu (xu σ 231 11 c) 231 12 s) 281 47 0 297 c = σ 232 c := by rw [xu_other _ _ _ (by decide), f1.cell 297 rfl]; exact e297
        rw [ecl] at hcl
        refine ⟨_, σ2, 0, _, _, ⟨by omega, by simp⟩, fun _ => hcl, fun q => absurd rfl q, (?_ : x_Sp MX12_move 0 0 _ _ (iv (cin σ T c)) _), ?_, fun _ => rfl, ?_⟩
        · refine pre _ (by rw [f1 281 24 rfl]; exact hrow.1) ?_
          rw [hh, decT (by omega : 0 ≤ s ∧ s ≤ 2)]
          refine e_iload_n 12 19 rfl rfl rfl rfl ?_
          refine e_ifb_eq 13 49 22 rfl rfl rfl (fun hb => ?_) (fun hb => ?_)
          · skip
            cases hb
          · skip
            refine e_iload 14 24 rfl rfl rfl ?_
            refine e_ifb_eq 15 49 27 rfl rfl rfl (fun hb => ?_) (fun hb => ?_)
            · skip
              cases hb
            · skip
              refine e_aload_n 16 28 rfl rfl rfl rfl ?_
              refine g_getR 17 31 ckX12 flX12_60 rfl rfl (Nat.le_of_ble_eq_true rfl) rfl rfl ?_
              refine e_iload_n 18 32 rfl rfl rfl rfl ?_
              refine g_iaload 19 33 rfl rfl (Nat.le_of_ble_eq_true rfl) rfl (by omega) (by omega) (by omega) e298' ?_
              refine e_iload_n 20 34 rfl rfl rfl rfl ?_
              refine e_icmp_eq 21 49 37 rfl rfl rfl (by unfold xr at *; omega) (by unfold xr at *; omega) (fun h9 => absurd h9 (fun q => hne q)) (fun _ => ?_)
              refine e_aload_n 22 38 rfl rfl rfl rfl ?_
              refine g_getI 23 41 25 ckX12 flX12_63 rfl rfl (Nat.le_of_ble_eq_true rfl) rfl rfl rfl z1' ?_
              refine e_iconst 24 42 rfl rfl ?_
              refine e_icmp_ne 25 49 45 rfl rfl rfl z2 (by unfold xr at *; omega) (fun h9 => absurd h9 (fun q => q zz)) (fun _ => ?_)
              refine e_iconst 26 46 rfl rfl ?_
              refine e_goto 27 50 rfl rfl ?_
              refine g_callV 29 53 (sp_mGoes (a := true) (b := true) (c := true)) okX12_goes cvX12_167 ⟨(Nat.le_of_ble_eq_true rfl), (Nat.le_of_ble_eq_true rfl)⟩ rfl rfl (Nat.le_of_ble_eq_true rfl) rfl rfl rfl rfl rfl (Nat.le_of_ble_eq_true rfl) (Nat.le_of_ble_eq_true rfl) (Nat.le_of_ble_eq_true rfl) ?_
              refine e_ifb_ne 30 58 56 rfl rfl rfl (fun hb => ?_) (fun hb => ?_)
              · skip
                refine e_aload_n 33 59 rfl rfl rfl rfl ?_
                refine e_aload_n 34 60 rfl rfl rfl rfl ?_
                refine g_getR 35 63 ckX12 flX12_57 rfl rfl (Nat.le_of_ble_eq_true rfl) rfl rfl ?_
                refine e_iload_n 36 64 rfl rfl rfl rfl ?_
                refine g_iaload 37 65 rfl rfl (Nat.le_of_ble_eq_true rfl) rfl (by omega) (by omega) (by omega) e297' ?_
                refine g_putI 38 68 25 ckX12 flX12_63 rfl rfl (Nat.le_of_ble_eq_true rfl) rfl rfl rfl ?_
                refine e_aload_n 39 69 rfl rfl rfl rfl ?_
                refine e_iload_n 40 70 rfl rfl rfl rfl ?_
                refine g_putI 41 73 26 ckX12 flX12_328 rfl rfl (Nat.le_of_ble_eq_true rfl) rfl rfl rfl ?_
                refine e_aload_n 42 74 rfl rfl rfl rfl ?_
                refine g_callV 43 77 (sp_mForgets) okX12_forgets cvX12_331 ⟨(Nat.le_of_ble_eq_true rfl), (Nat.le_of_ble_eq_true rfl)⟩ rfl rfl (Nat.le_of_ble_eq_true rfl) rfl rfl rfl rfl rfl (Nat.le_of_ble_eq_true rfl) (Nat.le_of_ble_eq_true rfl) (Nat.le_of_ble_eq_true rfl) ?_
                refine e_aload_n 44 78 rfl rfl rfl rfl ?_
                refine e_iload_n 45 79 rfl rfl rfl rfl ?_
                refine g_callV 46 82 (c1) okX12_documentsOf cvX12_334 ⟨(Nat.le_of_ble_eq_true rfl), (Nat.le_of_ble_eq_true rfl)⟩ rfl rfl (Nat.le_of_ble_eq_true rfl) rfl rfl rfl rfl rfl (Nat.le_of_ble_eq_true rfl) (Nat.le_of_ble_eq_true rfl) (Nat.le_of_ble_eq_true rfl) ?_
                exact e_ireturn 47 rfl rfl (Nat.le_of_ble_eq_true rfl) (Nat.le_of_ble_eq_true rfl)
              · skip
                cases hb
        · rw [f3 281 47 rfl, zr_other _ _ (by decide)]
          simp [xu]
        · have f4 := (f2.mono (K := [(231, 11), (231, 12), (281, 47), (281, 25), (281, 26), (299, -1), (311, -1)]) rfl).tr (f3.mono rfl)
          have g1 : ∀ b : Nat, b < 281 → σ2 b = xu (xu σ 231 11 c) 231 12 s b := fun b hb => by
            rw [f3.cell b (by simp only [m11, List.all_cons, List.all_nil, Bool.and_true, bne_iff_ne]; omega), zr_other _ _ (by omega), xu_other _ _ _ (by omega), xu_other _ _ _ (by omega), xu_other _ _ _ (by omega)]
          have c11 : σ2 231 11 = c := by rw [g1 231 (by omega)]; simp [xu]
          have c12 : σ2 231 12 = s := by rw [g1 231 (by omega)]; simp [xu]
          have cj : ∀ j : Int, j ≠ 11 → j ≠ 12 → σ2 231 j = σ 231 j := fun j a b => by rw [g1 231 (by omega)]; simp [xu, a, b]
          have e2 : σ2 232 = σ 232 := f4.cell 232 rfl
          have e3 : σ2 233 = σ 233 := f4.cell 233 rfl
          have e5 : σ2 235 = σ 235 := f4.cell 235 rfl
          refine INV.go _ [6, 7] [13, 14] hA hM f4 (by decide +kernel) rfl rfl (alc ?_ (alc ?_ al0)) (alc ?_ (alc ?_ al0))
          · obtain ⟨c1, c2, c3, c4, c5, c6, c7, c8⟩ := hC
            refine ⟨⟨?_, ?_, ?_, ?_, ?_, ?_, ?_, ?_⟩, ?_, ?_, ?_, ?_, ?_, ?_⟩
            · rw [cj 7 (by decide) (by decide)]; exact c1
            · rw [cj 9 (by decide) (by decide)]; exact c2
            · rw [cj 10 (by decide) (by decide)]; exact c3
            · rw [c11]; omega
            · rw [c12]; omega
            · rw [e2]; exact c6
            · rw [e3]; exact c7
            · intro j; rw [e5]; exact c8 j
            · rw [e2]; exact hz
            · rw [e2, cj 7 (by decide) (by decide)]; exact hinc
            · rw [e2, cj 7 (by decide) (by decide)]; exact hlt
            · rw [c11, cj 7 (by decide) (by decide)]; exact hci.2
            · rw [c11]; intro q; omega
            · rw [c12]; intro _; omega
          · intro n hn h9
            rw [e5, no235 n hn] at h9
            omega
          · refine ⟨fun q => by rw [c11] at q; omega, fun _ => ?_⟩
            rw [c11, c12, e2, f3 281 25 rfl, f3 281 26 rfl, zr_other _ _ (by decide)]
            simp [xu]
          · intro n hn
            rw [e5, no235 n hn, f3.cell 299 rfl]
            exact zr_at ⟨by omega, by omega⟩
    · refine STEP.refuse h 2 (by simp) (sp_moveX2 hC hs hh hs2) (σ2 := xu σ 281 47 2) (y := 0) (pre σ hrow.1 ?_) (xu_same _ _ _ _) F47s
      rw [hh, decF (by omega : ¬ (0 ≤ s ∧ s ≤ 2))]
      refine e_iload_n 12 19 rfl rfl rfl rfl ?_
      refine e_ifb_eq 13 49 22 rfl rfl rfl (fun hb => ?_) (fun hb => ?_)
      · skip
        cases hb
      · skip
        refine e_iload 14 24 rfl rfl rfl ?_
        refine e_ifb_eq 15 49 27 rfl rfl rfl (fun hb => ?_) (fun hb => ?_)
        · skip
          refine e_iconst 28 50 rfl rfl ?_
          exact refu true false
        · skip
          cases hb
/-! ===== steps: copy ===== -/
theorem cpn_K {T : Nat → List Int} (i0 : Nat) {G : Nat → Fo} : ∀ (n i : Nat) (l : Int) (σ : xSig), KIc i0 σ T G 7 → σ 231 11 ≠ -1 → KIc i0 (cpn T i n l σ) T G 7 := by
  intro n
  induction n with
  | zero => intro i l σ h hm; exact h
  | succ n ih =>
    intro i l σ h hm
    rw [cpn]
    split
    · exact h
    · split
      · rename_i hl
        have f : FP [(235, -1)] σ (xu σ 235 i 1) := FP.rf.putA rfl
        refine ih (i + 1) _ _ (fun m hm2 h9 => ?_) (by rw [f 231 11 rfl]; exact hm)
        rw [hasd_congr (f.cell 27 rfl), f 231 11 rfl, chk_congr9 (f 231 7 rfl) (f 231 9 rfl) (f 231 10 rfl) (f.cell 232 rfl)]
        by_cases e : m = i
        · subst e
          unfold ilf at hl
          rw [Bool.and_eq_true] at hl
          exact ⟨hl.1, hm, (of_decide_eq_true hl.2).1⟩
        · rw [xu_ne _ (Or.inr (by omega))] at h9
          exact h m hm2 h9
      · exact ih (i + 1) l σ h hm
/-- the model's copying -/
theorem copy_lp {τ0 : xSig} {T : Nat → List Int} {G : Nat → Fo} {many : Int} : ∀ (m i : Nat) (l : Int) (σ τ : xSig), i + m = 100 → 0 ≤ l → l ≤ 20 → CHM τ0 σ → DOCM τ0 T G σ → FX [235] τ0 τ → n01 τ 235 → (∀ n : Nat, n < 100 → σ 299 n = τ 235 n) → τ0 231 11 < 100 ∧ -1 ≤ τ0 231 11 → ∃ σ', (∀ {o : xO} {Y : xS}, (∀ l2, x_E MX12_copy 0 0 98 [some (.ref 281), some (.int (ii many)), some (.int (ii (τ0 231 11))), some (.int (ii l2)), some (.int (ii 100))] [] (St σ') 0 0 o Y) → x_E MX12_copy 0 0 40 [some (.ref 281), some (.int (ii many)), some (.int (ii (τ0 231 11))), some (.int (ii l)), some (.int (ii i))] [] (St σ) 0 0 o Y) ∧ FP [(311, -1), (299, -1)] σ σ' ∧ (∀ n : Nat, n < 100 → σ' 299 n = cpn T i m l τ 235 n) := by
  intro m
  induction m with
  | zero =>
    intro i l σ τ hi h0 h20 hC hD hX h5 h9 hm
    refine ⟨σ, fun {o Y} kk => ?_, FP.rf, fun n hn => h9 n hn⟩
    have kk2 := kk l
    rw [show ((100 : Int)) = (i : Int) by omega] at kk2
    refine e_iload 24 42 rfl rfl rfl ?_
    refine e_bipush 25 44 rfl rfl rfl ?_
    refine e_icmp_ge 26 98 47 rfl rfl rfl (by unfold xr at *; omega) (by unfold xr at *; omega) (fun _ => ?_) (fun h9 => absurd h9 (by omega))
    exact kk2
  | succ m ih =>
    intro i l σ τ hi h0 h20 hC hD hX h5 h9 hm
    have e3 := hD.2 i (by omega)
    have hx := h5 i
    have hth : hasd τ i = hasd τ0 i := hasd_congr (hX 27 (by decide)) i
    have hch : ∀ t, chk τ t = chk τ0 t := fun t => chk_congr9 (by rw [hX 231 (by decide)]) (by rw [hX 231 (by decide)]) (by rw [hX 231 (by decide)]) (hX 232 (by decide)) t
    have h11 : τ 231 11 = τ0 231 11 := by rw [hX 231 (by decide)]
    -- nothing is copied here
    have skip : ∀ (σ1 : xSig), FP m11 σ σ1 → (l ≤ 0 ∨ ilf τ T i = false) → ∃ σ', (∀ {o : xO} {Y : xS}, (∀ l2, x_E MX12_copy 0 0 98 [some (.ref 281), some (.int (ii many)), some (.int (ii (τ0 231 11))), some (.int (ii l2)), some (.int (ii 100))] [] (St σ') 0 0 o Y) → x_E MX12_copy 0 0 92 [some (.ref 281), some (.int (ii many)), some (.int (ii (τ0 231 11))), some (.int (ii l)), some (.int (ii i))] [] (St σ1) 0 0 o Y) ∧ FP [(311, -1), (299, -1)] σ1 σ' ∧ (∀ n : Nat, n < 100 → σ' 299 n = cpn T i (m + 1) l τ 235 n) := by
      intro σ1 g hs
      obtain ⟨σ', k1, k2, k3⟩ := ih (i + 1) l σ1 τ (by omega) h0 h20 (hC.fp g rfl) (hD.fp g rfl) hX h5 (fun n hn => by rw [g.cell 299 rfl]; exact h9 n hn) hm
      refine ⟨σ', fun {o Y} kk => ?_, k2, fun n hn => ?_⟩
      · skip
        refine e_iinc 50 95 (ls' := [some _, some _, some _, some _, some _]) rfl rfl (Nat.le_of_ble_eq_true rfl) rfl rfl ?_
        refine e_goto 51 40 rfl rfl ?_
        exact k1 kk
      · rw [k3 n hn, cpn]
        by_cases hl : l ≤ 0
        · rw [if_pos hl]
          cases m with
          | zero => rfl
          | succ m => rw [cpn, if_pos hl]
        · rw [if_neg hl, if_neg (by rw [hs.resolve_left hl]; decide)]
    have st : ∀ {o : xO} {Y : xS}, x_E MX12_copy 0 0 47 [some (.ref 281), some (.int (ii many)), some (.int (ii (τ0 231 11))), some (.int (ii l)), some (.int (ii i))] [] (St σ) 0 0 o Y → x_E MX12_copy 0 0 40 [some (.ref 281), some (.int (ii many)), some (.int (ii (τ0 231 11))), some (.int (ii l)), some (.int (ii i))] [] (St σ) 0 0 o Y := by
      intro o Y kk
      refine e_iload 24 42 rfl rfl rfl ?_
      refine e_bipush 25 44 rfl rfl rfl ?_
      refine e_icmp_ge 26 98 47 rfl rfl rfl (by unfold xr at *; omega) (by unfold xr at *; omega) (fun h9 => absurd h9 (by omega)) (fun _ => ?_)
      exact kk
    have e9 := h9 i (by omega)
    cases hh : hasd τ0 i with
    | false =>
      rw [hh] at e3
      obtain ⟨σ', k1, k2, k3⟩ := skip σ FP.rf (Or.inr (by unfold ilf; rw [hth, hh]; rfl))
      refine ⟨σ', fun {o Y} kk => st ?_, k2, k3⟩
      refine e_aload_n 27 48 rfl rfl rfl rfl ?_
      refine g_getR 28 51 ckX12 flX12_13 rfl rfl (Nat.le_of_ble_eq_true rfl) rfl rfl ?_
      refine e_iload 29 53 rfl rfl rfl ?_
      refine g_baload 30 54 rfl rfl (Nat.le_of_ble_eq_true rfl) rfl (by omega) (by omega) (by omega) e3 ?_
      refine e_ifb_eq 31 92 57 rfl rfl rfl (fun hb => ?_) (fun hb => ?_)
      · skip
        exact k1 kk
      · skip
        cases hb
    | true =>
      rw [hh] at e3
      by_cases hcp : τ 235 i = 0
      · rw [hcp] at e9
        by_cases hl : l ≤ 0
        · obtain ⟨σ', k1, k2, k3⟩ := skip σ FP.rf (Or.inl hl)
          refine ⟨σ', fun {o Y} kk => st ?_, k2, k3⟩
          refine e_aload_n 27 48 rfl rfl rfl rfl ?_
          refine g_getR 28 51 ckX12 flX12_13 rfl rfl (Nat.le_of_ble_eq_true rfl) rfl rfl ?_
          refine e_iload 29 53 rfl rfl rfl ?_
          refine g_baload 30 54 rfl rfl (Nat.le_of_ble_eq_true rfl) rfl (by omega) (by omega) (by omega) e3 ?_
          refine e_ifb_eq 31 92 57 rfl rfl rfl (fun hb => ?_) (fun hb => ?_)
          · skip
            cases hb
          · skip
            refine e_aload_n 32 58 rfl rfl rfl rfl ?_
            refine g_getR 33 61 ckX12 flX12_67 rfl rfl (Nat.le_of_ble_eq_true rfl) rfl rfl ?_
            refine e_iload 34 63 rfl rfl rfl ?_
            refine g_baload 35 64 rfl rfl (Nat.le_of_ble_eq_true rfl) rfl (by omega) (by omega) (by omega) e9 ?_
            refine e_if_ne 36 92 67 rfl rfl rfl (by unfold xr at *; omega) (fun h9 => absurd h9 (fun q => q rfl)) (fun _ => ?_)
            refine e_iload_n 37 68 rfl rfl rfl rfl ?_
            refine e_if_le 38 92 71 rfl rfl rfl (by unfold xr at *; omega) (fun _ => ?_) (fun h9 => absurd h9 (by omega))
            exact k1 kk
        · obtain ⟨F, d1, d2, d3⟩ := hD.1 i (by omega) hh
          obtain ⟨σ1, c1, f1⟩ := sp_mChunkOf hC d2 d3
          have hcb := chk_bnd hC.1.1 (T (31 + 2 * i))
          have h7 := hC.1.1.1
          by_cases he : chk τ0 (T (31 + 2 * i)) = τ0 231 11
          · have hil : ilf τ T i = true := by
              unfold ilf
              rw [hth, hh, hch, h11, hcp, decT ⟨he, rfl⟩]
              rfl
            have fx : FX [235] τ0 (xu τ 235 i 1) := hX.xu (by decide)
            have f2 : FP [(311, -1), (299, -1)] σ (xu σ1 299 i 1) := (f1.mono rfl).putA rfl
            obtain ⟨σ', k1, k2, k3⟩ := ih (i + 1) (l - 1) (xu σ1 299 i 1) (xu τ 235 i 1) (by omega) (by omega) (by omega) (hC.fp f2 rfl) (hD.fp f2 rfl) fx (n01_xu h5 i 1 (Or.inr rfl)) (fun n hn => by
              by_cases e : n = i
              · rw [e, xu_same, xu_same]
              · rw [xu_ne _ (Or.inr (by omega)), xu_ne _ (Or.inr (by omega)), f1.cell 299 rfl]; exact h9 n hn) hm
            refine ⟨σ', fun {o Y} kk => st ?_, f2.tr k2, fun n hn => ?_⟩
            · have k1' := k1 kk
              refine e_aload_n 27 48 rfl rfl rfl rfl ?_
              refine g_getR 28 51 ckX12 flX12_13 rfl rfl (Nat.le_of_ble_eq_true rfl) rfl rfl ?_
              refine e_iload 29 53 rfl rfl rfl ?_
              refine g_baload 30 54 rfl rfl (Nat.le_of_ble_eq_true rfl) rfl (by omega) (by omega) (by omega) e3 ?_
              refine e_ifb_eq 31 92 57 rfl rfl rfl (fun hb => ?_) (fun hb => ?_)
              · skip
                cases hb
              · skip
                refine e_aload_n 32 58 rfl rfl rfl rfl ?_
                refine g_getR 33 61 ckX12 flX12_67 rfl rfl (Nat.le_of_ble_eq_true rfl) rfl rfl ?_
                refine e_iload 34 63 rfl rfl rfl ?_
                refine g_baload 35 64 rfl rfl (Nat.le_of_ble_eq_true rfl) rfl (by omega) (by omega) (by omega) e9 ?_
                refine e_if_ne 36 92 67 rfl rfl rfl (by unfold xr at *; omega) (fun h9 => absurd h9 (fun q => q rfl)) (fun _ => ?_)
                refine e_iload_n 37 68 rfl rfl rfl rfl ?_
                refine e_if_le 38 92 71 rfl rfl rfl (by unfold xr at *; omega) (fun h9 => absurd h9 (by omega)) (fun _ => ?_)
                refine e_aload_n 39 72 rfl rfl rfl rfl ?_
                refine e_iload 40 74 rfl rfl rfl ?_
                refine g_callV 41 77 (c1) okX12_chunkOf cvX12_217 ⟨(Nat.le_of_ble_eq_true rfl), (Nat.le_of_ble_eq_true rfl)⟩ rfl rfl (Nat.le_of_ble_eq_true rfl) rfl rfl rfl rfl rfl (Nat.le_of_ble_eq_true rfl) (Nat.le_of_ble_eq_true rfl) (Nat.le_of_ble_eq_true rfl) ?_
                refine e_iload_n 42 78 rfl rfl rfl rfl ?_
                refine e_icmp_ne 43 92 81 rfl rfl rfl (by unfold xr at *; omega) (by unfold xr at *; omega) (fun h9 => absurd h9 (fun q => q he)) (fun _ => ?_)
                refine e_aload_n 44 82 rfl rfl rfl rfl ?_
                refine g_getR 45 85 ckX12 flX12_67 rfl rfl (Nat.le_of_ble_eq_true rfl) rfl rfl ?_
                refine e_iload 46 87 rfl rfl rfl ?_
                refine e_iconst 47 88 rfl rfl ?_
                refine g_bastore 48 89 rfl rfl (by omega) (Nat.le_of_ble_eq_true rfl) rfl (by omega) (by omega) (by omega) ?_
                refine e_iinc 49 92 (ls' := [some _, some _, some _, some _, some _]) rfl rfl (Nat.le_of_ble_eq_true rfl) rfl rfl ?_
                refine e_iinc 50 95 (ls' := [some _, some _, some _, some _, some _]) rfl rfl (Nat.le_of_ble_eq_true rfl) rfl rfl ?_
                refine e_goto 51 40 rfl rfl ?_
                exact k1'
            · rw [k3 n hn, cpn, if_neg hl, if_pos hil]
          · obtain ⟨σ', k1, k2, k3⟩ := skip σ1 f1 (Or.inr (by
              unfold ilf
              rw [hch, h11, decF (fun q => he q.1), Bool.and_false]))
            refine ⟨σ', fun {o Y} kk => st ?_, (f1.mono rfl).tr k2, k3⟩
            refine e_aload_n 27 48 rfl rfl rfl rfl ?_
            refine g_getR 28 51 ckX12 flX12_13 rfl rfl (Nat.le_of_ble_eq_true rfl) rfl rfl ?_
            refine e_iload 29 53 rfl rfl rfl ?_
            refine g_baload 30 54 rfl rfl (Nat.le_of_ble_eq_true rfl) rfl (by omega) (by omega) (by omega) e3 ?_
            refine e_ifb_eq 31 92 57 rfl rfl rfl (fun hb => ?_) (fun hb => ?_)
            · skip
              cases hb
            · skip
              refine e_aload_n 32 58 rfl rfl rfl rfl ?_
              refine g_getR 33 61 ckX12 flX12_67 rfl rfl (Nat.le_of_ble_eq_true rfl) rfl rfl ?_
              refine e_iload 34 63 rfl rfl rfl ?_
              refine g_baload 35 64 rfl rfl (Nat.le_of_ble_eq_true rfl) rfl (by omega) (by omega) (by omega) e9 ?_
              refine e_if_ne 36 92 67 rfl rfl rfl (by unfold xr at *; omega) (fun h9 => absurd h9 (fun q => q rfl)) (fun _ => ?_)
              refine e_iload_n 37 68 rfl rfl rfl rfl ?_
              refine e_if_le 38 92 71 rfl rfl rfl (by unfold xr at *; omega) (fun h9 => absurd h9 (by omega)) (fun _ => ?_)
              refine e_aload_n 39 72 rfl rfl rfl rfl ?_
              refine e_iload 40 74 rfl rfl rfl ?_
              refine g_callV 41 77 (c1) okX12_chunkOf cvX12_217 ⟨(Nat.le_of_ble_eq_true rfl), (Nat.le_of_ble_eq_true rfl)⟩ rfl rfl (Nat.le_of_ble_eq_true rfl) rfl rfl rfl rfl rfl (Nat.le_of_ble_eq_true rfl) (Nat.le_of_ble_eq_true rfl) (Nat.le_of_ble_eq_true rfl) ?_
              refine e_iload_n 42 78 rfl rfl rfl rfl ?_
              refine e_icmp_ne 43 92 81 rfl rfl rfl (by unfold xr at *; omega) (by unfold xr at *; omega) (fun _ => ?_) (fun h9 => absurd h9 he)
              exact k1 kk
      · have hcp1 : τ 235 i = 1 := hx.resolve_left hcp
        rw [hcp1] at e9
        obtain ⟨σ', k1, k2, k3⟩ := skip σ FP.rf (Or.inr (by
          unfold ilf
          rw [hcp1, decF (by omega), Bool.and_false]))
        refine ⟨σ', fun {o Y} kk => st ?_, k2, k3⟩
        refine e_aload_n 27 48 rfl rfl rfl rfl ?_
        refine g_getR 28 51 ckX12 flX12_13 rfl rfl (Nat.le_of_ble_eq_true rfl) rfl rfl ?_
        refine e_iload 29 53 rfl rfl rfl ?_
        refine g_baload 30 54 rfl rfl (Nat.le_of_ble_eq_true rfl) rfl (by omega) (by omega) (by omega) e3 ?_
        refine e_ifb_eq 31 92 57 rfl rfl rfl (fun hb => ?_) (fun hb => ?_)
        · skip
          cases hb
        · skip
          refine e_aload_n 32 58 rfl rfl rfl rfl ?_
          refine g_getR 33 61 ckX12 flX12_67 rfl rfl (Nat.le_of_ble_eq_true rfl) rfl rfl ?_
          refine e_iload 34 63 rfl rfl rfl ?_
          refine g_baload 35 64 rfl rfl (Nat.le_of_ble_eq_true rfl) rfl (by omega) (by omega) (by omega) e9 ?_
          refine e_if_ne 36 92 67 rfl rfl rfl (by unfold xr at *; omega) (fun _ => ?_) (fun h9 => absurd h9 (by omega))
          exact k1 kk
theorem st_copy {i : Nat} {σ : xSig} (h : INV i σ) {m : Int} (hm : xr m) : STEP i MX11_copy MX12_copy iv [nIAE, nISE] [.int (ii m)] σ := by
  have hM := h
  obtain ⟨T, G, hA, hM⟩ := hM
  have h01 := (hM.1 4).1
  obtain ⟨hC, hz, hinc, hlt, hmv9, ht1, ht2⟩ := hM.1 6
  obtain ⟨z, z1, z2, z3, z4⟩ := mfrom hC hinc hmv9 (hM.2 13)
  have h7 := hC.1
  have h11 := hC.2.2.2.1
  by_cases hh : 1 ≤ m ∧ m ≤ 20
  · by_cases e : σ 231 11 = -1
    · have zz := z3.mpr e
      have p1 := sp_mIn (σ := σ) (x := m) (y := 1) (z := 20) hm (by unfold xr; omega) (by unfold xr; omega)
      rw [decT hh] at p1
      refine STEP.refuse h 2 (by simp) (sp_copyX2 hC hh (hmv_f e)) (σ2 := xu σ 281 47 2) (y := 0) ?_ (xu_same _ _ _ _) F47s
      refine e_entry okX12_copy (Nat.le_of_ble_eq_true rfl) (ls := [some _, some _, none, none, none]) rfl ?_
      refine e_aload_n 0 1 rfl rfl rfl rfl ?_
      refine e_iload_n 1 2 rfl rfl rfl rfl ?_
      refine e_iconst 2 3 rfl rfl ?_
      refine e_bipush 3 5 rfl rfl rfl ?_
      refine g_callS 4 8 (p1) okX12_in csX12_175 ⟨(Nat.le_of_ble_eq_true rfl), (Nat.le_of_ble_eq_true rfl)⟩ rfl rfl rfl rfl (Nat.le_of_ble_eq_true rfl) (Nat.le_of_ble_eq_true rfl) (Nat.le_of_ble_eq_true rfl) ?_
      refine e_aload_n 5 9 rfl rfl rfl rfl ?_
      refine g_getI 6 12 25 ckX12 flX12_63 rfl rfl (Nat.le_of_ble_eq_true rfl) rfl rfl rfl z1 ?_
      refine e_iconst 7 13 rfl rfl ?_
      refine e_icmp_eq 8 20 16 rfl rfl rfl z2 (by unfold xr at *; omega) (fun _ => ?_) (fun h9 => absurd h9 (fun q => q zz))
      refine e_iconst 11 21 rfl rfl ?_
      refine e_iconst 12 22 rfl rfl ?_
      refine g_callV 13 25 (sp_mGoes (a := true) (b := false) (c := true)) okX12_goes cvX12_167 ⟨(Nat.le_of_ble_eq_true rfl), (Nat.le_of_ble_eq_true rfl)⟩ rfl rfl (Nat.le_of_ble_eq_true rfl) rfl rfl rfl rfl rfl (Nat.le_of_ble_eq_true rfl) (Nat.le_of_ble_eq_true rfl) (Nat.le_of_ble_eq_true rfl) ?_
      refine e_ifb_ne 14 30 28 rfl rfl rfl (fun hb => ?_) (fun hb => ?_)
      · skip
        cases hb
      · skip
        refine e_iconst 15 29 rfl rfl ?_
        exact e_ireturn 16 rfl rfl (Nat.le_of_ble_eq_true rfl) (Nat.le_of_ble_eq_true rfl)
    · have zz : ¬ z = -1 := fun q => e (z3.mp q)
      have hcl := sp_copy1 hA h01 hC hh (hmv_t e)
      obtain ⟨cx, cn⟩ := cpn_o T 100 0 m σ
      have cn1 := cn hC.2.2.2.2.2.2.2
      have fx : FP [(235, -1)] σ (cpn T 0 100 m σ) := FX.fp cx
      have f1 : FP [(235, -1), (281, 47)] σ (xu (cpn T 0 100 m σ) 281 47 0) := (fx.mono rfl).put rfl
      have h13 : (σ 231 11 = -1 → xu (cpn T 0 100 m σ) 281 47 0 281 25 = -1) ∧ (σ 231 11 ≠ -1 → xu (cpn T 0 100 m σ) 281 47 0 281 25 = σ 232 (σ 231 11) ∧ xu (cpn T 0 100 m σ) 281 47 0 281 26 = σ 231 12) := by
        rw [f1 281 25 rfl, f1 281 26 rfl]; exact hM.2 13
      have hmo := sp_mMoving (hM.chm.fp f1 rfl) hinc hmv9 h13
      obtain ⟨σ3, k1, k2, k3⟩ := copy_lp (τ0 := σ) (T := T) (G := G) (many := m) 100 0 m (xu (cpn T 0 100 m σ) 281 47 0) σ (by omega) (by omega) (by omega) (hM.chm.fp f1 rfl) (hM.docm.fp f1 rfl) FX.rf hC.2.2.2.2.2.2.2 (fun n hn => by rw [xu_other _ _ _ (by decide), fx.cell 299 rfl]; exact hM.2 14 n hn) (by omega)
      have f2 : FP [(235, -1), (281, 47), (311, -1), (299, -1)] σ σ3 := (f1.mono rfl).tr (k2.mono rfl)
      obtain ⟨σ4, c1, f4⟩ := sp_mDocsOf (hM.chm.fp f2 rfl) (hM.docm.fp f2 rfl) (c := σ 231 11) (by unfold xr; omega)
      have hD4 := (hM.docm.fp f2 rfl).fp f4 rfl
      have e14 : ∀ n : Nat, n < 100 → σ4 299 n = cpn T 0 100 m σ 235 n := fun n hn => by rw [f4.cell 299 rfl]; exact k3 n hn
      have hcp := sp_mCopies (τ := σ) (σ := σ4) hD4.2 (fun n hn => by rw [e14 n hn]; exact cn1 n)
      have k7 := cpn_K i 100 0 m σ (hM.1 7) e
      have emcp : mcp σ σ4 = ncp (cpn T 0 100 m σ) := by
        rw [← mcp_eq (σ := σ4) k7 e14]
        unfold mcp
        refine smN_congr 100 0 fun j _ hj => ?_
        rw [hasd_congr (fx.cell 27 rfl)]
      have esp := cin_split k7 cn1
      have ecin : cin (cpn T 0 100 m σ) T (cpn T 0 100 m σ 231 11) = cin σ T (σ 231 11) := by
        unfold cin
        rw [fx 231 11 rfl]
        refine smN_congr 100 0 fun j _ hj => ?_
        rw [hasd_congr (fx.cell 27 rfl), chk_congr9 (fx 231 7 rfl) (fx 231 9 rfl) (fx 231 10 rfl) (fx.cell 232 rfl)]
      rw [ecin] at esp
      rw [emcp] at hcp
      have p1 := sp_mIn (σ := cpn T 0 100 m σ) (x := m) (y := 1) (z := 20) hm (by unfold xr; omega) (by unfold xr; omega)
      rw [decT hh] at p1
      have z1' : cpn T 0 100 m σ 281 25 = z := by rw [fx 281 25 rfl]; exact z1
      refine ⟨_, σ4, 0, _, _, ⟨by omega, by simp⟩, fun _ => hcl, fun q => absurd rfl q, (?_ : x_Sp MX12_copy 0 0 _ _ (iv (cin σ T (σ 231 11) - ncp (cpn T 0 100 m σ))) _), ?_, fun _ => by omega, ?_⟩
      · skip
        refine e_entry okX12_copy (Nat.le_of_ble_eq_true rfl) (ls := [some _, some _, none, none, none]) rfl ?_
        refine e_aload_n 0 1 rfl rfl rfl rfl ?_
        refine e_iload_n 1 2 rfl rfl rfl rfl ?_
        refine e_iconst 2 3 rfl rfl ?_
        refine e_bipush 3 5 rfl rfl rfl ?_
        refine g_callS 4 8 (p1) okX12_in csX12_175 ⟨(Nat.le_of_ble_eq_true rfl), (Nat.le_of_ble_eq_true rfl)⟩ rfl rfl rfl rfl (Nat.le_of_ble_eq_true rfl) (Nat.le_of_ble_eq_true rfl) (Nat.le_of_ble_eq_true rfl) ?_
        refine e_aload_n 5 9 rfl rfl rfl rfl ?_
        refine g_getI 6 12 25 ckX12 flX12_63 rfl rfl (Nat.le_of_ble_eq_true rfl) rfl rfl rfl z1' ?_
        refine e_iconst 7 13 rfl rfl ?_
        refine e_icmp_eq 8 20 16 rfl rfl rfl z2 (by unfold xr at *; omega) (fun h9 => absurd h9 zz) (fun _ => ?_)
        refine e_iconst 9 17 rfl rfl ?_
        refine e_goto 10 21 rfl rfl ?_
        refine e_iconst 12 22 rfl rfl ?_
        refine g_callV 13 25 (sp_mGoes (a := true) (b := true) (c := true)) okX12_goes cvX12_167 ⟨(Nat.le_of_ble_eq_true rfl), (Nat.le_of_ble_eq_true rfl)⟩ rfl rfl (Nat.le_of_ble_eq_true rfl) rfl rfl rfl rfl rfl (Nat.le_of_ble_eq_true rfl) (Nat.le_of_ble_eq_true rfl) (Nat.le_of_ble_eq_true rfl) ?_
        refine e_ifb_ne 14 30 28 rfl rfl rfl (fun hb => ?_) (fun hb => ?_)
        · skip
          refine e_aload_n 17 31 rfl rfl rfl rfl ?_
          refine g_callV 18 34 (hmo) okX12_moving cvX12_240 ⟨(Nat.le_of_ble_eq_true rfl), (Nat.le_of_ble_eq_true rfl)⟩ rfl rfl (Nat.le_of_ble_eq_true rfl) rfl rfl rfl rfl rfl (Nat.le_of_ble_eq_true rfl) (Nat.le_of_ble_eq_true rfl) (Nat.le_of_ble_eq_true rfl) ?_
          refine e_istore_n 19 35 (ls' := [some _, some _, some _, none, none]) rfl rfl rfl (Nat.le_of_ble_eq_true rfl) rfl ?_
          refine e_iload_n 20 36 rfl rfl rfl rfl ?_
          refine e_istore_n 21 37 (ls' := [some _, some _, some _, some _, none]) rfl rfl rfl (Nat.le_of_ble_eq_true rfl) rfl ?_
          refine e_iconst 22 38 rfl rfl ?_
          refine e_istore 23 40 (ls' := [some _, some _, some _, some _, some _]) rfl rfl (Nat.le_of_ble_eq_true rfl) rfl ?_
          refine k1 (fun l2 => ?_)
          refine e_aload_n 52 99 rfl rfl rfl rfl ?_
          refine e_iload_n 53 100 rfl rfl rfl rfl ?_
          refine g_callV 54 103 (c1) okX12_documentsOf cvX12_334 ⟨(Nat.le_of_ble_eq_true rfl), (Nat.le_of_ble_eq_true rfl)⟩ rfl rfl (Nat.le_of_ble_eq_true rfl) rfl rfl rfl rfl rfl (Nat.le_of_ble_eq_true rfl) (Nat.le_of_ble_eq_true rfl) (Nat.le_of_ble_eq_true rfl) ?_
          refine e_aload_n 55 104 rfl rfl rfl rfl ?_
          refine g_callV 56 107 (hcp) okX12_copies cvX12_337 ⟨(Nat.le_of_ble_eq_true rfl), (Nat.le_of_ble_eq_true rfl)⟩ rfl rfl (Nat.le_of_ble_eq_true rfl) rfl rfl rfl rfl rfl (Nat.le_of_ble_eq_true rfl) (Nat.le_of_ble_eq_true rfl) (Nat.le_of_ble_eq_true rfl) ?_
          refine e_isub 57 108 rfl rfl ?_
          exact e_ireturn 58 rfl rfl (Nat.le_of_ble_eq_true rfl) (Nat.le_of_ble_eq_true rfl)
        · skip
          cases hb
      · rw [f4 281 47 rfl, k2 281 47 rfl, xu_same]
      · have f5 : FP [(235, -1), (281, 47), (311, -1), (299, -1)] σ σ4 := f2.tr (f4.mono rfl)
        have g5 : σ4 235 = cpn T 0 100 m σ 235 := by rw [f4.cell 235 rfl, k2.cell 235 rfl, xu_other _ _ _ (by decide)]
        refine INV.go _ [6, 7] [14] hA hM f5 (by decide +kernel) rfl rfl (alc ?_ (alc ?_ al0)) (alc ?_ al0)
        · obtain ⟨c1, c2, c3, c4, c5, c6, c7, c8⟩ := hC
          have ej : σ4 231 = σ 231 := f5.cell 231 rfl
          have e2 : σ4 232 = σ 232 := f5.cell 232 rfl
          have e3 : σ4 233 = σ 233 := f5.cell 233 rfl
          refine ⟨⟨?_, ?_, ?_, ?_, ?_, ?_, ?_, ?_⟩, ?_, ?_, ?_, ?_, ?_, ?_⟩
          · rw [ej]; exact c1
          · rw [ej]; exact c2
          · rw [ej]; exact c3
          · rw [ej]; exact c4
          · rw [ej]; exact c5
          · rw [e2]; exact c6
          · rw [e3]; exact c7
          · intro j; rw [g5]; exact cn1 j
          · rw [e2]; exact hz
          · rw [e2, ej]; exact hinc
          · rw [e2, ej]; exact hlt
          · rw [ej]; exact hmv9
          · rw [ej]; exact ht1
          · rw [ej]; exact ht2
        · intro n hn h9
          rw [g5] at h9
          have q := k7 n hn h9
          rw [hasd_congr (fx.cell 27 rfl), fx 231 11 rfl, chk_congr9 (fx 231 7 rfl) (fx 231 9 rfl) (fx 231 10 rfl) (fx.cell 232 rfl)] at q
          rw [hasd_congr (f5.cell 27 rfl), f5 231 11 rfl, chk_congr9 (f5 231 7 rfl) (f5 231 9 rfl) (f5 231 10 rfl) (f5.cell 232 rfl)]
          exact q
        · intro n hn
          rw [e14 n hn, g5]
  · have p1 := sp_mIn (σ := σ) (x := m) (y := 1) (z := 20) hm (by unfold xr; omega) (by unfold xr; omega)
    rw [decF hh] at p1
    refine STEP.refuse h 1 (by simp) (sp_copyX hm hh) (σ2 := xu σ 281 47 1) (y := 0) ?_ (xu_same _ _ _ _) F47s
    have fin : ∀ b : Bool, x_E MX12_copy 0 0 21 [some (.ref 281), some (.int (ii m)), none, none, none] [.int (ii (bi b)), .int (ii (bi false)), .ref 281] (St σ) 0 0 (iv 0) (St (xu σ 281 47 1)) := by
      intro b
      refine e_iconst 12 22 rfl rfl ?_
      refine g_callV 13 25 (sp_mGoes (a := false) (b := b) (c := true)) okX12_goes cvX12_167 ⟨(Nat.le_of_ble_eq_true rfl), (Nat.le_of_ble_eq_true rfl)⟩ rfl rfl (Nat.le_of_ble_eq_true rfl) rfl rfl rfl rfl rfl (Nat.le_of_ble_eq_true rfl) (Nat.le_of_ble_eq_true rfl) (Nat.le_of_ble_eq_true rfl) ?_
      refine e_ifb_ne 14 30 28 rfl rfl rfl (fun hb => ?_) (fun hb => ?_)
      · skip
        cases hb
      · skip
        refine e_iconst 15 29 rfl rfl ?_
        exact e_ireturn 16 rfl rfl (Nat.le_of_ble_eq_true rfl) (Nat.le_of_ble_eq_true rfl)
    refine e_entry okX12_copy (Nat.le_of_ble_eq_true rfl) (ls := [some _, some _, none, none, none]) rfl ?_
    refine e_aload_n 0 1 rfl rfl rfl rfl ?_
    refine e_iload_n 1 2 rfl rfl rfl rfl ?_
    refine e_iconst 2 3 rfl rfl ?_
    refine e_bipush 3 5 rfl rfl rfl ?_
    refine g_callS 4 8 (p1) okX12_in csX12_175 ⟨(Nat.le_of_ble_eq_true rfl), (Nat.le_of_ble_eq_true rfl)⟩ rfl rfl rfl rfl (Nat.le_of_ble_eq_true rfl) (Nat.le_of_ble_eq_true rfl) (Nat.le_of_ble_eq_true rfl) ?_
    refine e_aload_n 5 9 rfl rfl rfl rfl ?_
    refine g_getI 6 12 25 ckX12 flX12_63 rfl rfl (Nat.le_of_ble_eq_true rfl) rfl rfl rfl z1 ?_
    refine e_iconst 7 13 rfl rfl ?_
    refine e_icmp_eq 8 20 16 rfl rfl rfl z2 (by unfold xr at *; omega) (fun hq => ?_) (fun hq => ?_)
    · skip
      refine e_iconst 11 21 rfl rfl ?_
      exact fin false
    · skip
      refine e_iconst 9 17 rfl rfl ?_
      refine e_goto 10 21 rfl rfl ?_
      exact fin true
