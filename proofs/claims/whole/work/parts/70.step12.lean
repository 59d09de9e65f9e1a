/-! ===== steps: remove, rule ===== -/
theorem IM.mono {i i' : Nat} {τ σ : xSig} {T : Nat → List Int} {G : Nat → Fo} (h : IM i τ T G σ) (hi : i ≤ i') : IM i' τ T G σ := ⟨fun k => KIc_fp hi k (fun _ _ _ => rfl) (h.1 k), h.2⟩
theorem IM.cls {i : Nat} {τ τ' σ : xSig} {T : Nat → List Int} {G : Nat → Fo} {L : List (Nat × Int)} (h : IM i τ T G σ) (hF : FP L τ τ') (hk : disK [] L = true) (hr : (List.range 23).all (fun k => !ovl (cT k) L) = true) : IM i τ' T G σ := by
  refine ⟨fun k => ?_, fun k => ?_⟩
  · by_cases hk2 : k < 15
    · exact KIc_fp (Nat.le_refl i) k (sam_fp hF (disK_at hk hk2 (by simp))) (h.1 k)
    · obtain ⟨m, rfl⟩ : ∃ m, k = m + 15 := ⟨k - 15, by omega⟩
      trivial
  · by_cases hk2 : k < 23
    · have := List.all_eq_true.mp hr k (List.mem_range.mpr hk2)
      rw [Bool.not_eq_true'] at this
      exact RMc_fp k (sam_fp hF this) (fun _ _ _ => rfl) (h.2 k)
    · obtain ⟨m, rfl⟩ : ∃ m, k = m + 23 := ⟨k - 23, by omega⟩
      trivial
/-- the invariant, at the end: the class's cells are what the model's cells speak of -/
theorem INV.fin {i : Nat} {τ σ : xSig} {T : Nat → List Int} {G : Nat → Fo} (hA : VAll τ T) (h : IM i τ T G σ) (hs : ∀ b : Nat, b < 281 → σ b = τ b) : INV i σ := by
  have hlt : ∀ k, k < 23 → (cT k).all (fun q => decide (q.1 < 281)) = true ∧ (cK k).all (fun q => decide (q.1 < 281)) = true := by decide +kernel
  have hsam : ∀ L : List (Nat × Int), L.all (fun q => decide (q.1 < 281)) = true → sam L τ σ := fun L hL b j hi => by
    obtain ⟨q, hq, hq2⟩ := List.any_eq_true.mp hi
    have := List.all_eq_true.mp hL q hq
    simp only [Bool.and_eq_true, beq_iff_eq, decide_eq_true_eq] at hq2 this
    rw [hs b (by omega)]
  refine ⟨T, G, hA.keep fun b hb => hs b ?_, ⟨fun k => ?_, fun k => ?_⟩⟩
  · rcases Nat.lt_or_ge b 281 with w | w
    · exact w
    · exfalso
      have hv : ∀ b, b < 315 → 281 ≤ b → vA b = false := by decide +kernel
      rcases Nat.lt_or_ge b 315 with w2 | w2
      · rw [hv b w2 w] at hb; cases hb
      · have n1 : vO b = false := by
          cases e : vO b with
          | false => rfl
          | true => have := vO_lt e; omega
        obtain ⟨c, rfl⟩ : ∃ c, b = c + 1 := ⟨b - 1, by omega⟩
        have n2 : vO c = false := by
          cases e : vO c with
          | false => rfl
          | true => have := vO_lt e; omega
        have hb2 : (vO (c + 1) || vO c) = true := hb
        rw [n1, n2] at hb2
        cases hb2
  · by_cases hk : k < 15
    · exact KIc_fp (Nat.le_refl i) k (hsam _ (hlt k (by omega)).2) (h.1 k)
    · obtain ⟨m, rfl⟩ : ∃ m, k = m + 15 := ⟨k - 15, by omega⟩
      trivial
  · by_cases hk : k < 23
    · exact RMc_fp k (hsam _ (hlt k hk).1) (fun _ _ _ => rfl) (h.2 k)
    · obtain ⟨m, rfl⟩ : ∃ m, k = m + 23 := ⟨k - 23, by omega⟩
      trivial
theorem IM.use {i : Nat} {τ σ : xSig} {T : Nat → List Int} {G : Nat → Fo} (h : IM i τ T G σ) {r : Int} (hr : 0 ≤ r ∧ r < 2) : IM i (uro τ r) T G (mur σ r) := by
  have fc : FP [(236, -1), (237, -1)] τ (uro τ r) := FX.fp (uro_o τ r)
  have fm := mur_f σ r
  refine ⟨fun k => ?_, fun k => ?_⟩
  · by_cases hk : k < 15
    · by_cases e : k = 12
      · subst e
        refine ⟨?_, uro_bnd (h.1 12) hr⟩
        rw [fc 231 8 rfl]; exact (h.1 12).1
      · exact KIc_fp (Nat.le_refl i) k (sam_fp fc (disK_at (S := [12]) rfl hk (by simp; omega))) (h.1 k)
    · obtain ⟨m, rfl⟩ : ∃ m, k = m + 15 := ⟨k - 15, by omega⟩
      trivial
  · by_cases hk : k < 23
    · by_cases e : k = 18
      · subst e
        exact mur_uro (h.2 17) (h.2 18) hr
      · exact RMc_fp k (sam_fp fc (disR_at (S := [18]) rfl hk (by simp; omega)).1) (sam_fp fm (disR_at (S := [18]) rfl hk (by simp; omega)).2) (h.2 k)
    · obtain ⟨m, rfl⟩ : ∃ m, k = m + 23 := ⟨k - 23, by omega⟩
      trivial
theorem st_remove {i : Nat} {σ : xSig} (h : INV i σ) (hi : i < 512) {r n : Int} (hr0 : xr r) (hn0 : xr n) : STEP i MX11_remove MX12_remove iv [nIOB, nIAE] [.int (ii r), .int (ii n)] σ := by
  have hM := h
  obtain ⟨T, G, hA, hM⟩ := hM
  have h01 := (hM.1 4).1
  have hC := (hM.1 6).1
  have pr := fun s => sp_mIn (σ := s) (x := r) (y := 0) (z := 1) hr0 (by unfold xr; omega) (by unfold xr; omega)
  cases hh : hasd σ n with
  | false =>
    have p1 := sp_mIsThere hM.docm.2 hn0
    rw [hh] at p1
    refine STEP.refuse h 1 (by simp) (sp_removeX h01 hn0 hh) (σ2 := xu σ 281 47 1) (y := 0) ?_ (xu_same _ _ _ _) F47s
    refine e_entry okX12_remove (Nat.le_of_ble_eq_true rfl) (ls := [some _, some _, some _]) rfl ?_
    refine e_aload_n 0 1 rfl rfl rfl rfl ?_
    refine e_aload_n 1 2 rfl rfl rfl rfl ?_
    refine e_iload_n 2 3 rfl rfl rfl rfl ?_
    refine g_callV 3 6 (p1) okX12_isThere cvX12_261 ⟨(Nat.le_of_ble_eq_true rfl), (Nat.le_of_ble_eq_true rfl)⟩ rfl rfl (Nat.le_of_ble_eq_true rfl) rfl rfl rfl rfl rfl (Nat.le_of_ble_eq_true rfl) (Nat.le_of_ble_eq_true rfl) (Nat.le_of_ble_eq_true rfl) ?_
    refine e_iload_n 4 7 rfl rfl rfl rfl ?_
    refine e_iconst 5 8 rfl rfl ?_
    refine e_iconst 6 9 rfl rfl ?_
    refine g_callS 7 12 (pr σ) okX12_in csX12_175 ⟨(Nat.le_of_ble_eq_true rfl), (Nat.le_of_ble_eq_true rfl)⟩ rfl rfl rfl rfl (Nat.le_of_ble_eq_true rfl) (Nat.le_of_ble_eq_true rfl) (Nat.le_of_ble_eq_true rfl) ?_
    refine e_iconst 8 13 rfl rfl ?_
    refine g_callV 9 16 (sp_mGoes (a := false) (b := decide (0 ≤ r ∧ r ≤ 1)) (c := true)) okX12_goes cvX12_167 ⟨(Nat.le_of_ble_eq_true rfl), (Nat.le_of_ble_eq_true rfl)⟩ rfl rfl (Nat.le_of_ble_eq_true rfl) rfl rfl rfl rfl rfl (Nat.le_of_ble_eq_true rfl) (Nat.le_of_ble_eq_true rfl) (Nat.le_of_ble_eq_true rfl) ?_
    refine e_ifb_ne 10 21 19 rfl rfl rfl (fun hb => ?_) (fun hb => ?_)
    · skip
      cases hb
    · skip
      refine e_iconst 11 20 rfl rfl ?_
      exact e_ireturn 12 rfl rfl (Nat.le_of_ble_eq_true rfl) (Nat.le_of_ble_eq_true rfl)
  | true =>
    have hni := hasd_in hh
    obtain ⟨m, rfl⟩ := Int.eq_ofNat_of_zero_le hni.1
    have hh2 : hasd σ (m : Nat) = true := hh
    by_cases hr : 0 ≤ r ∧ r < 2
    · rw [decT (by omega)] at pr
      obtain ⟨e1, e2, e3, e4, e5, e6, e7⟩ := hM.ent hi
      obtain ⟨v1, v2, v3, v4⟩ := hM.ver (by omega) hr
      have hcl := sp_remove1 hA h01 hC hh2 hr v1 v2 ⟨e1, e3⟩
      have fc : FP [(236, -1), (237, -1), (27, -1), (25, 4), (235, -1), (240, -1), (241, -1), (242, -1), (239, 3)] σ (tka (uro σ r) (T (31 + 2 * m)) m) := ((FX.fp (uro_o σ r)).mono rfl).tr ((tka_f _ _ _).mono rfl)
      have hM1 : IM i σ T G (tka (uro σ r) (T (31 + 2 * m)) m) := hM.fp fc (by decide +kernel)
      have hM2 := hM1.fp (F47 (c := 0)) (by decide +kernel)
      have hM3 := hM2.use hr
      have hD3 := hM3.docm
      have hh3 : hasd (uro σ r) m = true := by rw [hasd_congr ((uro_o σ r) 27 (by decide))]; exact hh2
      obtain ⟨F, d1, d2, d3⟩ := hD3.1 m (by omega) hh3
      have e37 : mur (xu (tka (uro σ r) (T (31 + 2 * m)) m) 281 47 0) r 281 37 = σ 239 3 := by
        rw [(mur_f _ r) 281 37 rfl, xu_ne _ (Or.inr (by decide)), fc 281 37 rfl]; exact e7
      obtain ⟨σ4, f4, c4⟩ := sp_mRemoves hM3.chm d2 d3 (by omega) (by rw [e37]; omega)
      have hM4 := (hM3.fp f4 (by decide +kernel)).tak (n := m) (by omega) hh3 rfl
      have es : shd (uro σ r) (T (31 + 2 * m)) = shd σ (T (31 + 2 * m)) := (uro_shd r _).2
      have hu : x_Sp MX12_uses 0 0 [.ref 281, .int (ii r)] (St (xu (tka (uro σ r) (T (31 + 2 * m)) m) 281 47 0)) vv (St (mur (xu (tka (uro σ r) (T (31 + 2 * m)) m) 281 47 0) r)) := by
        refine sp_mUses hr ?_ ?_
        · rw [xu_other _ _ _ (by decide), fc.cell 301 rfl, v3]; exact v2
        · rw [xu_ne _ (Or.inr (by decide)), fc 281 31 rfl, v4]; exact v1
      have p1 := sp_mIsThere (σ := tka (uro σ r) (T (31 + 2 * m)) m) hM1.docm.2 hn0
      rw [hh] at p1
      rw [es] at hM4 c4
      refine ⟨_, mrm σ4 m (shd σ (T (31 + 2 * m))), 0, _, _, ⟨by omega, by simp⟩, fun _ => hcl, fun q => absurd rfl q, (?_ : x_Sp MX12_remove 0 0 _ _ (iv (shd σ (T (31 + 2 * m)))) _), ?_, fun _ => rfl, ?_⟩
      · skip
        refine e_entry okX12_remove (Nat.le_of_ble_eq_true rfl) (ls := [some _, some _, some _]) rfl ?_
        refine e_aload_n 0 1 rfl rfl rfl rfl ?_
        refine e_aload_n 1 2 rfl rfl rfl rfl ?_
        refine e_iload_n 2 3 rfl rfl rfl rfl ?_
        refine g_callV 3 6 (p1) okX12_isThere cvX12_261 ⟨(Nat.le_of_ble_eq_true rfl), (Nat.le_of_ble_eq_true rfl)⟩ rfl rfl (Nat.le_of_ble_eq_true rfl) rfl rfl rfl rfl rfl (Nat.le_of_ble_eq_true rfl) (Nat.le_of_ble_eq_true rfl) (Nat.le_of_ble_eq_true rfl) ?_
        refine e_iload_n 4 7 rfl rfl rfl rfl ?_
        refine e_iconst 5 8 rfl rfl ?_
        refine e_iconst 6 9 rfl rfl ?_
        refine g_callS 7 12 (pr _) okX12_in csX12_175 ⟨(Nat.le_of_ble_eq_true rfl), (Nat.le_of_ble_eq_true rfl)⟩ rfl rfl rfl rfl (Nat.le_of_ble_eq_true rfl) (Nat.le_of_ble_eq_true rfl) (Nat.le_of_ble_eq_true rfl) ?_
        refine e_iconst 8 13 rfl rfl ?_
        refine g_callV 9 16 (sp_mGoesT) okX12_goes cvX12_167 ⟨(Nat.le_of_ble_eq_true rfl), (Nat.le_of_ble_eq_true rfl)⟩ rfl rfl (Nat.le_of_ble_eq_true rfl) rfl rfl rfl rfl rfl (Nat.le_of_ble_eq_true rfl) (Nat.le_of_ble_eq_true rfl) (Nat.le_of_ble_eq_true rfl) ?_
        refine e_ifb_ne 10 21 19 rfl rfl rfl (fun hb => ?_) (fun hb => ?_)
        · skip
          refine e_aload_n 13 22 rfl rfl rfl rfl ?_
          refine e_iload_n 14 23 rfl rfl rfl rfl ?_
          refine g_callV 15 26 (hu) okX12_uses cvX12_234 ⟨(Nat.le_of_ble_eq_true rfl), (Nat.le_of_ble_eq_true rfl)⟩ rfl rfl (Nat.le_of_ble_eq_true rfl) rfl rfl rfl rfl rfl (Nat.le_of_ble_eq_true rfl) (Nat.le_of_ble_eq_true rfl) (Nat.le_of_ble_eq_true rfl) ?_
          refine e_aload_n 16 27 rfl rfl rfl rfl ?_
          refine e_iload_n 17 28 rfl rfl rfl rfl ?_
          refine g_callV 18 31 (c4) okX12_removes cvX12_267 ⟨(Nat.le_of_ble_eq_true rfl), (Nat.le_of_ble_eq_true rfl)⟩ rfl rfl (Nat.le_of_ble_eq_true rfl) rfl rfl rfl rfl rfl (Nat.le_of_ble_eq_true rfl) (Nat.le_of_ble_eq_true rfl) (Nat.le_of_ble_eq_true rfl) ?_
          exact e_ireturn 19 rfl rfl (Nat.le_of_ble_eq_true rfl) (Nat.le_of_ble_eq_true rfl)
        · skip
          cases hb
      · rw [(mrm_f _ _ _) 281 47 rfl, f4 281 47 rfl, (mur_f _ _) 281 47 rfl, xu_same]
      · refine INV.fin (hA.fp fc (by decide +kernel)) (hM4.mono (Nat.le_succ i)) (fun b hb => ?_)
        rw [(mrm_f _ _ _).cell b (by simp only [List.all_cons, List.all_nil, Bool.and_true, bne_iff_ne, Bool.and_eq_true]; omega), f4.cell b (by simp only [m11, List.all_cons, List.all_nil, Bool.and_true, bne_iff_ne]; omega), (mur_f _ _).cell b (by simp only [List.all_cons, List.all_nil, Bool.and_true, bne_iff_ne, Bool.and_eq_true]; omega), xu_other _ _ _ (by omega)]
    · have p1 := sp_mIsThere hM.docm.2 hn0
      rw [hh] at p1
      rw [decF (by omega)] at pr
      refine STEP.refuse h 2 (by simp) (sp_removeX2 h01 hn0 hr0 hh hr) (σ2 := xu σ 281 47 2) (y := 0) ?_ (xu_same _ _ _ _) F47s
      refine e_entry okX12_remove (Nat.le_of_ble_eq_true rfl) (ls := [some _, some _, some _]) rfl ?_
      refine e_aload_n 0 1 rfl rfl rfl rfl ?_
      refine e_aload_n 1 2 rfl rfl rfl rfl ?_
      refine e_iload_n 2 3 rfl rfl rfl rfl ?_
      refine g_callV 3 6 (p1) okX12_isThere cvX12_261 ⟨(Nat.le_of_ble_eq_true rfl), (Nat.le_of_ble_eq_true rfl)⟩ rfl rfl (Nat.le_of_ble_eq_true rfl) rfl rfl rfl rfl rfl (Nat.le_of_ble_eq_true rfl) (Nat.le_of_ble_eq_true rfl) (Nat.le_of_ble_eq_true rfl) ?_
      refine e_iload_n 4 7 rfl rfl rfl rfl ?_
      refine e_iconst 5 8 rfl rfl ?_
      refine e_iconst 6 9 rfl rfl ?_
      refine g_callS 7 12 (pr σ) okX12_in csX12_175 ⟨(Nat.le_of_ble_eq_true rfl), (Nat.le_of_ble_eq_true rfl)⟩ rfl rfl rfl rfl (Nat.le_of_ble_eq_true rfl) (Nat.le_of_ble_eq_true rfl) (Nat.le_of_ble_eq_true rfl) ?_
      refine e_iconst 8 13 rfl rfl ?_
      refine g_callV 9 16 (sp_mGoes (a := true) (b := false) (c := true)) okX12_goes cvX12_167 ⟨(Nat.le_of_ble_eq_true rfl), (Nat.le_of_ble_eq_true rfl)⟩ rfl rfl (Nat.le_of_ble_eq_true rfl) rfl rfl rfl rfl rfl (Nat.le_of_ble_eq_true rfl) (Nat.le_of_ble_eq_true rfl) (Nat.le_of_ble_eq_true rfl) ?_
      refine e_ifb_ne 10 21 19 rfl rfl rfl (fun hb => ?_) (fun hb => ?_)
      · skip
        cases hb
      · skip
        refine e_iconst 11 20 rfl rfl ?_
        exact e_ireturn 12 rfl rfl (Nat.le_of_ble_eq_true rfl) (Nat.le_of_ble_eq_true rfl)
/-- the model's look whether all documents keep a rule -/
theorem rule_lp {τ : xSig} {T : Nat → List Int} {G : Nat → Fo} {f kd : Int} (hf : 0 ≤ f ∧ f < 8) (hk : 0 ≤ kd ∧ kd ≤ 4) : ∀ (m i : Nat) (b : Bool) (σ : xSig), i + m = 100 → DOCM τ T G σ → ∃ σ', (∀ {o : xO} {Y : xS}, x_E MX12_rule 0 0 101 [some (.ref 281), some (.int (ii f)), some (.int (ii kd)), some (.int (ii (bi true))), some (.int (ii (bi (b && alN (fun n => !hasd τ n || decide (kd = 0 ∨ fk (T (31 + 2 * n)) f = kd)) i m)))), none] [] (St σ') 0 0 o Y → x_E MX12_rule 0 0 31 [some (.ref 281), some (.int (ii f)), some (.int (ii kd)), some (.int (ii (bi true))), some (.int (ii (bi b))), some (.int (ii i))] [] (St σ) 0 0 o Y) ∧ FP m11 σ σ' := by
  intro m
  induction m with
  | zero =>
    intro i b σ hi hD
    refine ⟨σ, fun {o Y} kk => ?_, FP.rf⟩
    rw [show (b && alN (fun n => !hasd τ n || decide (kd = 0 ∨ fk (T (31 + 2 * n)) f = kd)) i 0) = b from Bool.and_true b] at kk
    refine e_iload 18 33 rfl rfl rfl ?_
    refine e_bipush 19 35 rfl rfl rfl ?_
    refine e_icmp_ge 20 101 38 rfl rfl rfl (by unfold xr at *; omega) (by unfold xr at *; omega) (fun _ => ?_) (fun h9 => absurd h9 (by omega))
    refine e_dropm [true, true, true, true, true, false] (ls' := [some _, some _, some _, some _, some _, none]) rfl ?_
    exact kk
  | succ m ih =>
    intro i b σ hi hD
    have e3 := hD.2 i (by omega)
    have fin : ∀ (z : Bool) (σ1 : xSig), FP m11 σ σ1 → z = (b && (!hasd τ i || decide (kd = 0 ∨ fk (T (31 + 2 * i)) f = kd))) → ∃ σ', (∀ {o : xO} {Y : xS}, x_E MX12_rule 0 0 101 [some (.ref 281), some (.int (ii f)), some (.int (ii kd)), some (.int (ii (bi true))), some (.int (ii (bi (b && alN (fun n => !hasd τ n || decide (kd = 0 ∨ fk (T (31 + 2 * n)) f = kd)) i (m + 1))))), none] [] (St σ') 0 0 o Y → x_E MX12_rule 0 0 93 [some (.ref 281), some (.int (ii f)), some (.int (ii kd)), some (.int (ii (bi true))), some (.int (ii (bi b))), some (.int (ii i))] [.int (ii (bi z))] (St σ1) 0 0 o Y) ∧ FP m11 σ1 σ' := by
      intro z σ1 g hz
      obtain ⟨σ', k1, k2⟩ := ih (i + 1) z σ1 (by omega) (hD.fp g rfl)
      refine ⟨σ', fun {o Y} kk => ?_, k2⟩
      rw [show (b && alN (fun n => !hasd τ n || decide (kd = 0 ∨ fk (T (31 + 2 * n)) f = kd)) i (m + 1)) = (z && alN (fun n => !hasd τ n || decide (kd = 0 ∨ fk (T (31 + 2 * n)) f = kd)) (i + 1) m) by rw [hz, Bool.and_assoc]; rfl] at kk
      have k1' := k1 kk
      refine e_istore 48 95 (ls' := [some _, some _, some _, some _, some _, some _]) rfl rfl (Nat.le_of_ble_eq_true rfl) rfl ?_
      refine e_iinc 49 98 (ls' := [some _, some _, some _, some _, some _, some _]) rfl rfl (Nat.le_of_ble_eq_true rfl) rfl rfl ?_
      refine e_goto 50 31 rfl rfl ?_
      exact k1'
    have st : ∀ {o : xO} {Y : xS}, x_E MX12_rule 0 0 42 [some (.ref 281), some (.int (ii f)), some (.int (ii kd)), some (.int (ii (bi true))), some (.int (ii (bi b))), some (.int (ii i))] [] (St σ) 0 0 o Y → x_E MX12_rule 0 0 31 [some (.ref 281), some (.int (ii f)), some (.int (ii kd)), some (.int (ii (bi true))), some (.int (ii (bi b))), some (.int (ii i))] [] (St σ) 0 0 o Y := by
      intro o Y kk
      refine e_iload 18 33 rfl rfl rfl ?_
      refine e_bipush 19 35 rfl rfl rfl ?_
      refine e_icmp_ge 20 101 38 rfl rfl rfl (by unfold xr at *; omega) (by unfold xr at *; omega) (fun h9 => absurd h9 (by omega)) (fun _ => ?_)
      refine e_iload_n 21 39 rfl rfl rfl rfl ?_
      refine e_ifb_eq 22 101 42 rfl rfl rfl (fun hq => ?_) (fun hq => ?_)
      · skip
        cases hq
      · skip
        exact kk
    cases b with
    | false =>
      obtain ⟨σ', k1, k2⟩ := fin false σ FP.rf rfl
      refine ⟨σ', fun {o Y} kk => st ?_, k2⟩
      refine e_iload 23 44 rfl rfl rfl ?_
      refine e_ifb_eq 24 92 47 rfl rfl rfl (fun hq => ?_) (fun hq => ?_)
      · skip
        refine e_iconst 47 93 rfl rfl ?_
        exact k1 kk
      · skip
        cases hq
    | true =>
      cases hh : hasd τ i with
      | false =>
        rw [hh] at e3
        obtain ⟨σ', k1, k2⟩ := fin true σ FP.rf (by rw [hh]; rfl)
        refine ⟨σ', fun {o Y} kk => st ?_, k2⟩
        refine e_iload 23 44 rfl rfl rfl ?_
        refine e_ifb_eq 24 92 47 rfl rfl rfl (fun hq => ?_) (fun hq => ?_)
        · skip
          cases hq
        · skip
          refine e_aload_n 25 48 rfl rfl rfl rfl ?_
          refine g_getR 26 51 ckX12 flX12_13 rfl rfl (Nat.le_of_ble_eq_true rfl) rfl rfl ?_
          refine e_iload 27 53 rfl rfl rfl ?_
          refine g_baload 28 54 rfl rfl (Nat.le_of_ble_eq_true rfl) rfl (by omega) (by omega) (by omega) e3 ?_
          refine e_ifb_eq 29 88 57 rfl rfl rfl (fun hq2 => ?_) (fun hq2 => ?_)
          · skip
            refine e_iconst 45 89 rfl rfl ?_
            refine e_goto 46 93 rfl rfl ?_
            exact k1 kk
          · skip
            cases hq2
      | true =>
        rw [hh] at e3
        obtain ⟨F, d1, d2, d3⟩ := hD.1 i (by omega) hh
        obtain ⟨r9, σ1, c1, f1, hr9⟩ := sp_mFieldOf d3 hf
        have hkp := sp_mKeeps (σ := σ1) (kd := kd) (x := 100 * i + 1) (y := f) d3.1 hk hr9
        rw [← (fk_hd d2 hf).1] at hkp
        obtain ⟨σ', k1, k2⟩ := fin (decide (kd = 0 ∨ fk (T (31 + 2 * i)) f = kd)) σ1 f1 (by rw [hh]; rfl)
        refine ⟨σ', fun {o Y} kk => st ?_, f1.tr k2⟩
        have k1' := k1 kk
        refine e_iload 23 44 rfl rfl rfl ?_
        refine e_ifb_eq 24 92 47 rfl rfl rfl (fun hq => ?_) (fun hq => ?_)
        · skip
          cases hq
        · skip
          refine e_aload_n 25 48 rfl rfl rfl rfl ?_
          refine g_getR 26 51 ckX12 flX12_13 rfl rfl (Nat.le_of_ble_eq_true rfl) rfl rfl ?_
          refine e_iload 27 53 rfl rfl rfl ?_
          refine g_baload 28 54 rfl rfl (Nat.le_of_ble_eq_true rfl) rfl (by omega) (by omega) (by omega) e3 ?_
          refine e_ifb_eq 29 88 57 rfl rfl rfl (fun hq2 => ?_) (fun hq2 => ?_)
          · skip
            cases hq2
          · skip
            refine e_aload_n 30 58 rfl rfl rfl rfl ?_
            refine g_getR 31 61 ckX12 flX12_7 rfl rfl (Nat.le_of_ble_eq_true rfl) rfl rfl ?_
            refine e_iload 32 63 rfl rfl rfl ?_
            refine g_callS 33 66 (sp_mBlock (x := i)) okX12_block csX12_142 ⟨(Nat.le_of_ble_eq_true rfl), (Nat.le_of_ble_eq_true rfl)⟩ rfl rfl rfl rfl (Nat.le_of_ble_eq_true rfl) (Nat.le_of_ble_eq_true rfl) (Nat.le_of_ble_eq_true rfl) ?_
            refine e_iload_n 34 67 rfl rfl rfl rfl ?_
            refine e_iload_n 35 68 rfl rfl rfl rfl ?_
            refine e_aload_n 36 69 rfl rfl rfl rfl ?_
            refine e_aload_n 37 70 rfl rfl rfl rfl ?_
            refine g_getR 38 73 ckX12 flX12_7 rfl rfl (Nat.le_of_ble_eq_true rfl) rfl rfl ?_
            refine e_iload 39 75 rfl rfl rfl ?_
            refine g_callS 40 78 (sp_mBlock (x := i)) okX12_block csX12_142 ⟨(Nat.le_of_ble_eq_true rfl), (Nat.le_of_ble_eq_true rfl)⟩ rfl rfl rfl rfl (Nat.le_of_ble_eq_true rfl) (Nat.le_of_ble_eq_true rfl) (Nat.le_of_ble_eq_true rfl) ?_
            refine e_iload_n 41 79 rfl rfl rfl rfl ?_
            refine g_callV 42 82 (c1) okX12_fieldOf cvX12_155 ⟨(Nat.le_of_ble_eq_true rfl), (Nat.le_of_ble_eq_true rfl)⟩ rfl rfl (Nat.le_of_ble_eq_true rfl) rfl rfl rfl rfl rfl (Nat.le_of_ble_eq_true rfl) (Nat.le_of_ble_eq_true rfl) (Nat.le_of_ble_eq_true rfl) ?_
            refine g_callS 43 85 (hkp) okX12_keeps csX12_223 ⟨(Nat.le_of_ble_eq_true rfl), (Nat.le_of_ble_eq_true rfl)⟩ rfl rfl rfl rfl (Nat.le_of_ble_eq_true rfl) (Nat.le_of_ble_eq_true rfl) (Nat.le_of_ble_eq_true rfl) ?_
            refine e_ifb_eq 44 92 88 rfl rfl rfl (fun hq3 => ?_) (fun hq3 => ?_)
            · skip
              rw [hq3] at k1'
              refine e_iconst 47 93 rfl rfl ?_
              exact k1'
            · skip
              rw [hq3] at k1'
              refine e_iconst 45 89 rfl rfl ?_
              refine e_goto 46 93 rfl rfl ?_
              exact k1'
theorem st_rule {i : Nat} {σ : xSig} (h : INV i σ) {f k : Int} (hf0 : xr f) (hk0 : xr k) : STEP i MX11_rule MX12_rule iv [nIAE, nISE] [.int (ii f), .int (ii k)] σ := by
  have hM := h
  obtain ⟨T, G, hA, hM⟩ := hM
  have h01 := (hM.1 4).1
  have h5 := hM.1 5
  have e6 := hM.2 6
  have pf := fun s => sp_mIn (σ := s) (x := f) (y := 0) (z := 7) hf0 (by unfold xr; omega) (by unfold xr; omega)
  have pk := fun s => sp_mIn (σ := s) (x := k) (y := 0) (z := 4) hk0 (by unfold xr; omega) (by unfold xr; omega)
  by_cases hh : (0 ≤ f ∧ f < 8) ∧ 0 ≤ k ∧ k ≤ 4
  · rw [decT (by omega)] at pf pk
    have pre : ∀ (s : xSig) {o : xO} {Y : xS}, x_E MX12_rule 0 0 31 [some (.ref 281), some (.int (ii f)), some (.int (ii k)), some (.int (ii (bi true))), some (.int (ii (bi true))), some (.int (ii ((0 : Nat) : Int)))] [] (St s) 0 0 o Y → x_Sp MX12_rule 0 0 [.ref 281, .int (ii f), .int (ii k)] (St s) o Y := by
      intro s o Y kk
      refine e_entry okX12_rule (Nat.le_of_ble_eq_true rfl) (ls := [some _, some _, some _, none, none, none]) rfl ?_
      refine e_iload_n 0 1 rfl rfl rfl rfl ?_
      refine e_iconst 1 2 rfl rfl ?_
      refine e_bipush 2 4 rfl rfl rfl ?_
      refine g_callS 3 7 (pf s) okX12_in csX12_175 ⟨(Nat.le_of_ble_eq_true rfl), (Nat.le_of_ble_eq_true rfl)⟩ rfl rfl rfl rfl (Nat.le_of_ble_eq_true rfl) (Nat.le_of_ble_eq_true rfl) (Nat.le_of_ble_eq_true rfl) ?_
      refine e_ifb_eq 4 23 10 rfl rfl rfl (fun hq => ?_) (fun hq => ?_)
      · skip
        cases hq
      · skip
        refine e_iload_n 5 11 rfl rfl rfl rfl ?_
        refine e_iconst 6 12 rfl rfl ?_
        refine e_iconst 7 13 rfl rfl ?_
        refine g_callS 8 16 (pk s) okX12_in csX12_175 ⟨(Nat.le_of_ble_eq_true rfl), (Nat.le_of_ble_eq_true rfl)⟩ rfl rfl rfl rfl (Nat.le_of_ble_eq_true rfl) (Nat.le_of_ble_eq_true rfl) (Nat.le_of_ble_eq_true rfl) ?_
        refine e_ifb_eq 9 23 19 rfl rfl rfl (fun hq2 => ?_) (fun hq2 => ?_)
        · skip
          cases hq2
        · skip
          refine e_iconst 10 20 rfl rfl ?_
          refine e_goto 11 24 rfl rfl ?_
          refine e_istore_n 13 25 (ls' := [some _, some _, some _, some _, none, none]) rfl rfl rfl (Nat.le_of_ble_eq_true rfl) rfl ?_
          refine e_iconst 14 26 rfl rfl ?_
          refine e_istore 15 28 (ls' := [some _, some _, some _, some _, some _, none]) rfl rfl (Nat.le_of_ble_eq_true rfl) rfl ?_
          refine e_iconst 16 29 rfl rfl ?_
          refine e_istore 17 31 (ls' := [some _, some _, some _, some _, some _, some _]) rfl rfl (Nat.le_of_ble_eq_true rfl) rfl ?_
          exact kk
    cases ha : akp σ T f k with
    | true =>
      have f0 : FP [(28, -1)] σ (xu σ 28 f k) := FP.rf.putA rfl
      obtain ⟨σ1, k1, k2⟩ := rule_lp (τ := σ) hh.1 hh.2 100 0 true (xu σ 28 f k) (by omega) (hM.docm.fp f0 rfl)
      rw [Bool.true_and, show alN (fun n => !hasd σ n || decide (k = 0 ∨ fk (T (31 + 2 * n)) f = k)) 0 100 = true from ha] at k1
      have r1 : xu σ1 281 47 0 286 f = σ 28 f := by rw [xu_other _ _ _ (by decide), k2.cell 286 rfl, f0.cell 286 rfl]; exact e6 f hh.1.1 hh.1.2
      refine ⟨_, xu (xu σ1 281 47 0) 286 f k, 0, _, _, ⟨by omega, by simp⟩, fun _ => sp_rule1 hA h01 hh.1 hh.2 ha, fun q => absurd rfl q, (?_ : x_Sp MX12_rule 0 0 _ _ (iv (σ 28 f)) _), by rw [xu_other _ _ _ (by decide), xu_same], fun _ => rfl, ?_⟩
      · refine pre _ (k1 ?_)
        refine e_aload_n 51 102 rfl rfl rfl rfl ?_
        refine e_iload_n 52 103 rfl rfl rfl rfl ?_
        refine e_iload 53 105 rfl rfl rfl ?_
        refine e_iconst 54 106 rfl rfl ?_
        refine g_callV 55 109 (sp_mGoesT) okX12_goes cvX12_167 ⟨(Nat.le_of_ble_eq_true rfl), (Nat.le_of_ble_eq_true rfl)⟩ rfl rfl (Nat.le_of_ble_eq_true rfl) rfl rfl rfl rfl rfl (Nat.le_of_ble_eq_true rfl) (Nat.le_of_ble_eq_true rfl) (Nat.le_of_ble_eq_true rfl) ?_
        refine e_ifb_ne 56 114 112 rfl rfl rfl (fun hb => ?_) (fun hb => ?_)
        · skip
          refine e_aload_n 59 115 rfl rfl rfl rfl ?_
          refine g_getR 60 118 ckX12 flX12_23 rfl rfl (Nat.le_of_ble_eq_true rfl) rfl rfl ?_
          refine e_iload_n 61 119 rfl rfl rfl rfl ?_
          refine g_iaload 62 120 rfl rfl (Nat.le_of_ble_eq_true rfl) rfl (by omega) (by omega) (by omega) r1 ?_
          refine e_istore 63 122 (ls' := [some _, some _, some _, some _, some _, some _]) rfl rfl (Nat.le_of_ble_eq_true rfl) rfl ?_
          refine e_aload_n 64 123 rfl rfl rfl rfl ?_
          refine g_getR 65 126 ckX12 flX12_23 rfl rfl (Nat.le_of_ble_eq_true rfl) rfl rfl ?_
          refine e_iload_n 66 127 rfl rfl rfl rfl ?_
          refine e_iload_n 67 128 rfl rfl rfl rfl ?_
          refine g_iastore 68 129 rfl rfl (Nat.le_of_ble_eq_true rfl) rfl (by omega) (by omega) (by omega) ?_
          refine e_iload 69 131 rfl rfl rfl ?_
          exact e_ireturn 70 rfl rfl (Nat.le_of_ble_eq_true rfl) (Nat.le_of_ble_eq_true rfl)
        · skip
          cases hb
      · have f1 : FP [(28, -1), (311, -1), (281, 47), (286, -1)] σ (xu (xu σ1 281 47 0) 286 f k) := (((f0.mono rfl).tr (k2.mono rfl)).put rfl).putA rfl
        have e28 : ∀ j, xu (xu σ1 281 47 0) 286 f k 28 j = if j = f then k else σ 28 j := fun j => by
          rw [xu_other _ _ _ (by decide), xu_other _ _ _ (by decide), k2.cell 28 rfl]
          simp [xu]
        refine INV.go _ [5] [6] hA hM f1 (by decide +kernel) rfl rfl (alc ?_ al0) (alc ?_ al0)
        · intro j
          rw [e28]
          split
          · exact hh.2
          · exact h5 j
        · intro j j0 j8
          rw [e28]
          by_cases e : j = f
          · rw [e, xu_same, if_pos rfl]
          · rw [xu_ne _ (Or.inr e), if_neg e, xu_other _ _ _ (by decide), k2.cell 286 rfl, f0.cell 286 rfl]
            exact e6 j j0 j8
    | false =>
      obtain ⟨σ1, k1, k2⟩ := rule_lp (τ := σ) hh.1 hh.2 100 0 true σ (by omega) hM.docm
      rw [Bool.true_and, show alN (fun n => !hasd σ n || decide (k = 0 ∨ fk (T (31 + 2 * n)) f = k)) 0 100 = false from ha] at k1
      refine STEP.refuse h 2 (by simp) (sp_ruleX2 hA h01 hh.1 hh.2 ha) (σ2 := xu σ1 281 47 2) (y := 0) (pre _ (k1 ?_)) (xu_same _ _ _ _) ((k2.mono rfl).put rfl)
      refine e_aload_n 51 102 rfl rfl rfl rfl ?_
      refine e_iload_n 52 103 rfl rfl rfl rfl ?_
      refine e_iload 53 105 rfl rfl rfl ?_
      refine e_iconst 54 106 rfl rfl ?_
      refine g_callV 55 109 (sp_mGoes (a := true) (b := false) (c := true)) okX12_goes cvX12_167 ⟨(Nat.le_of_ble_eq_true rfl), (Nat.le_of_ble_eq_true rfl)⟩ rfl rfl (Nat.le_of_ble_eq_true rfl) rfl rfl rfl rfl rfl (Nat.le_of_ble_eq_true rfl) (Nat.le_of_ble_eq_true rfl) (Nat.le_of_ble_eq_true rfl) ?_
      refine e_ifb_ne 56 114 112 rfl rfl rfl (fun hb => ?_) (fun hb => ?_)
      · skip
        cases hb
      · skip
        refine e_iconst 57 113 rfl rfl ?_
        exact e_ireturn 58 rfl rfl (Nat.le_of_ble_eq_true rfl) (Nat.le_of_ble_eq_true rfl)
  · refine STEP.refuse h 1 (by simp) (sp_ruleX hf0 hk0 hh) (σ2 := xu σ 281 47 1) (y := 0) ?_ (xu_same _ _ _ _) F47s
    have fin : x_E MX12_rule 0 0 24 [some (.ref 281), some (.int (ii f)), some (.int (ii k)), none, none, none] [.int (ii (bi false))] (St σ) 0 0 (iv 0) (St (xu σ 281 47 1)) := by
      refine e_istore_n 13 25 (ls' := [some _, some _, some _, some _, none, none]) rfl rfl rfl (Nat.le_of_ble_eq_true rfl) rfl ?_
      refine e_iconst 14 26 rfl rfl ?_
      refine e_istore 15 28 (ls' := [some _, some _, some _, some _, some _, none]) rfl rfl (Nat.le_of_ble_eq_true rfl) rfl ?_
      refine e_iconst 16 29 rfl rfl ?_
      refine e_istore 17 31 (ls' := [some _, some _, some _, some _, some _, some _]) rfl rfl (Nat.le_of_ble_eq_true rfl) rfl ?_
      refine e_iload 18 33 rfl rfl rfl ?_
      refine e_bipush 19 35 rfl rfl rfl ?_
      refine e_icmp_ge 20 101 38 rfl rfl rfl (by unfold xr at *; omega) (by unfold xr at *; omega) (fun h9 => absurd h9 (by omega)) (fun _ => ?_)
      refine e_iload_n 21 39 rfl rfl rfl rfl ?_
      refine e_ifb_eq 22 101 42 rfl rfl rfl (fun hq => ?_) (fun hq => ?_)
      · skip
        refine e_aload_n 51 102 rfl rfl rfl rfl ?_
        refine e_iload_n 52 103 rfl rfl rfl rfl ?_
        refine e_iload 53 105 rfl rfl rfl ?_
        refine e_iconst 54 106 rfl rfl ?_
        refine g_callV 55 109 (sp_mGoes (a := false) (b := true) (c := true)) okX12_goes cvX12_167 ⟨(Nat.le_of_ble_eq_true rfl), (Nat.le_of_ble_eq_true rfl)⟩ rfl rfl (Nat.le_of_ble_eq_true rfl) rfl rfl rfl rfl rfl (Nat.le_of_ble_eq_true rfl) (Nat.le_of_ble_eq_true rfl) (Nat.le_of_ble_eq_true rfl) ?_
        refine e_ifb_ne 56 114 112 rfl rfl rfl (fun hb => ?_) (fun hb => ?_)
        · skip
          cases hb
        · skip
          refine e_iconst 57 113 rfl rfl ?_
          exact e_ireturn 58 rfl rfl (Nat.le_of_ble_eq_true rfl) (Nat.le_of_ble_eq_true rfl)
      · skip
        cases hq
    refine e_entry okX12_rule (Nat.le_of_ble_eq_true rfl) (ls := [some _, some _, some _, none, none, none]) rfl ?_
    refine e_iload_n 0 1 rfl rfl rfl rfl ?_
    refine e_iconst 1 2 rfl rfl ?_
    refine e_bipush 2 4 rfl rfl rfl ?_
    refine g_callS 3 7 (pf σ) okX12_in csX12_175 ⟨(Nat.le_of_ble_eq_true rfl), (Nat.le_of_ble_eq_true rfl)⟩ rfl rfl rfl rfl (Nat.le_of_ble_eq_true rfl) (Nat.le_of_ble_eq_true rfl) (Nat.le_of_ble_eq_true rfl) ?_
    refine e_ifb_eq 4 23 10 rfl rfl rfl (fun hq => ?_) (fun hq => ?_)
    · skip
      refine e_iconst 12 24 rfl rfl ?_
      exact fin
    · skip
      have hq1 := of_decide_eq_true hq
      refine e_iload_n 5 11 rfl rfl rfl rfl ?_
      refine e_iconst 6 12 rfl rfl ?_
      refine e_iconst 7 13 rfl rfl ?_
      refine g_callS 8 16 (pk σ) okX12_in csX12_175 ⟨(Nat.le_of_ble_eq_true rfl), (Nat.le_of_ble_eq_true rfl)⟩ rfl rfl rfl rfl (Nat.le_of_ble_eq_true rfl) (Nat.le_of_ble_eq_true rfl) (Nat.le_of_ble_eq_true rfl) ?_
      refine e_ifb_eq 9 23 19 rfl rfl rfl (fun hq2 => ?_) (fun hq2 => ?_)
      · skip
        refine e_iconst 12 24 rfl rfl ?_
        exact fin
      · skip
        have hq3 := of_decide_eq_true hq2
        omega
