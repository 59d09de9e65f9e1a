/-! ===== steps: insert ===== -/
theorem IM.fm {i : Nat} {τ σ σ' : xSig} {T : Nat → List Int} {G : Nat → Fo} (h : IM i τ T G σ) (hs : ∀ b : Nat, 281 ≤ b → b < 314 → σ' b = σ b) : IM i τ T G σ' := by
  have hlt : ∀ k, k < 23 → (cM k).all (fun q => decide (281 ≤ q.1) && decide (q.1 < 314)) = true := by decide +kernel
  refine ⟨h.1, fun k => ?_⟩
  by_cases hk : k < 23
  · refine RMc_fp k (fun _ _ _ => rfl) (fun b j hi => ?_) (h.2 k)
    obtain ⟨q, hq, hq2⟩ := List.any_eq_true.mp hi
    have := List.all_eq_true.mp (hlt k hk) q hq
    simp only [Bool.and_eq_true, beq_iff_eq, decide_eq_true_eq] at hq2 this
    rw [hs b (by omega) (by omega)]
  · obtain ⟨m, rfl⟩ : ∃ m, k = m + 23 := ⟨k - 23, by omega⟩
    trivial
theorem xu_id (σ : xSig) (a : Nat) (j : Int) : xu σ a j (σ a j) = σ := by
  funext b i
  unfold xu
  split
  · next h => rw [h.1, h.2]
  · rfl
theorem tell_eq {σ σx : xSig} {p c r w s B : Int} {n : Int} {t : List Int} (hx : ∀ b : Nat, vA b = false → σx b = xu (xu (xu σ 1 2 p) 27 n 1) 25 4 c b) (hB : B = bi (hmv σ && decide (chk σ t = σ 231 11))) (hs : s = shd σ t) : ∀ b : Nat, vA b = false → tld σx t w n r b = entd (xu (xu (xu (xu (uro σ r) 1 2 p) 27 n 1) 25 4 c) 235 n B) w n s b := by
  have o1 : ∀ b : Nat, vA b = false → b ≠ 1 → b ≠ 27 → b ≠ 25 → σx b = σ b := fun b hb n1 n2 n3 => by rw [hx b hb, xu_other _ _ _ n3, xu_other _ _ _ n2, xu_other _ _ _ n1]
  have x231 := o1 231 (by decide +kernel) (by decide) (by decide) (by decide)
  have x232 := o1 232 (by decide +kernel) (by decide) (by decide) (by decide)
  have x233 := o1 233 (by decide +kernel) (by decide) (by decide) (by decide)
  have x235 := o1 235 (by decide +kernel) (by decide) (by decide) (by decide)
  have x236 := o1 236 (by decide +kernel) (by decide) (by decide) (by decide)
  have x237 := o1 237 (by decide +kernel) (by decide) (by decide) (by decide)
  have x239 := o1 239 (by decide +kernel) (by decide) (by decide) (by decide)
  have x240 := o1 240 (by decide +kernel) (by decide) (by decide) (by decide)
  have x241 := o1 241 (by decide +kernel) (by decide) (by decide) (by decide)
  have x242 := o1 242 (by decide +kernel) (by decide) (by decide) (by decide)
  obtain ⟨q1, q2, q3, q4, q5, q6⟩ := uro_235 σ r
  have ek := chk_congr (σ := σ) (σ' := σx) ⟨x231, x232, x233⟩ t
  obtain ⟨t1, t2, t3, t4⟩ := tld_ent σx t w n r
  have uo := uro_o σ r
  have hR : ∀ b : Nat, b ≠ 235 → b ≠ 240 → b ≠ 241 → b ≠ 242 → b ≠ 239 → entd (xu (xu (xu (xu (uro σ r) 1 2 p) 27 n 1) 25 4 c) 235 n B) w n s b = xu (xu (xu (uro σ r) 1 2 p) 27 n 1) 25 4 c b := fun b n1 n2 n3 n4 n5 => by
    unfold entd
    rw [xu_other _ _ _ n5, xu_other _ _ _ n4, xu_other _ _ _ n3, xu_other _ _ _ n2, xu_other _ _ _ n1]
  have r3 : xu (xu (xu (xu (uro σ r) 1 2 p) 27 n 1) 25 4 c) 235 n B 239 3 = σ 239 3 := by
    rw [xu_other _ _ _ (by decide), xu_other _ _ _ (by decide), xu_other _ _ _ (by decide), xu_other _ _ _ (by decide), q3]
  intro b hb
  by_cases e0 : b = 240
  · subst e0
    funext j
    rw [t2 j, x239, x240]
    unfold entd
    rw [r3]
    simp [xu, q4]
  by_cases e1 : b = 241
  · subst e1
    funext j
    rw [t3 j, x239, x241]
    unfold entd
    rw [r3]
    simp [xu, q5]
  by_cases e2 : b = 242
  · subst e2
    funext j
    rw [t4 j, x239, x242, ek.2.1]
    unfold entd
    rw [r3]
    simp [xu, q6, hs]
  by_cases e3 : b = 239
  · subst e3
    funext j
    unfold entd
    rw [r3]
    by_cases ej : j = 3
    · rw [ej, t1, x239, xu_same]
    · rw [(tld_f σx t w n r) 239 j (by simp [inP, ej]; omega), xu_ne _ (Or.inr ej), x239]
      simp [xu, q3]
  by_cases e4 : b = 235
  · subst e4
    funext j
    rw [tld_235, x235, ek.1, x231, show hmv σx = hmv σ by unfold hmv; rw [x231], ← hB]
    unfold entd
    simp [xu, q1]
  rw [hR b e4 e0 e1 e2 e3]
  by_cases e5 : b = 236
  · subst e5
    rw [(tld_236 σx t w n r).1, (uro_cg x231 x236 x237).1, xu_other _ _ _ (by decide), xu_other _ _ _ (by decide), xu_other _ _ _ (by decide)]
  by_cases e6 : b = 237
  · subst e6
    rw [(tld_236 σx t w n r).2, (uro_cg x231 x236 x237).2, xu_other _ _ _ (by decide), xu_other _ _ _ (by decide), xu_other _ _ _ (by decide)]
  rw [(tld_f σx t w n r).cell b (by simp only [List.all_cons, List.all_nil, Bool.and_true, bne_iff_ne, Bool.and_eq_true]; omega), hx b hb]
  have u0 : uro σ r b = σ b := uo b (by simp only [List.mem_cons, List.not_mem_nil, or_false]; omega)
  funext j
  unfold xu
  rw [u0]
/-- the tail of an insert, or of an update, of the model: what it leaves -/
theorem flag_v {τ : xSig} {t : List Int} (b : Bool) (h : b = (hmv τ && decide (chk τ t = τ 231 11))) : bi b = bi (hmv τ && decide (chk τ t = τ 231 11)) := by rw [h]
theorem st_insert {i : Nat} {σ : xSig} (h : INV i σ) (hi : i < 512) {r n : Int} (hr0 : xr r) (hn0 : xr n) : STEP i MX11_insert MX12_insert iv [nIAE, nISE] [.int (ii r), .int (ii n)] σ := by
  have hM := h
  obtain ⟨T, G, hA, hM⟩ := hM
  have h3 : 0 ≤ σ 1 2 ∧ σ 1 2 ≤ 10 := hM.1 3
  have e5 : σ 281 3 = σ 1 2 := hM.2 5
  have h01 := (hM.1 4).1
  obtain ⟨hC, hz, hinc, hlt, hmv9, ht1, ht2⟩ := hM.1 6
  have hru : ∀ f : Int, 0 ≤ σ 28 f ∧ σ 28 f ≤ 4 := hM.1 5
  obtain ⟨n1, n2, n3, n4, n5, n6, n7⟩ := hM.ent hi
  have pr := fun s => sp_mIn (σ := s) (x := r) (y := 0) (z := 1) hr0 (by unfold xr; omega) (by unfold xr; omega)
  have pn := fun s => sp_mIn (σ := s) (x := n) (y := 0) (z := 99) hn0 (by unfold xr; omega) (by unfold xr; omega)
  -- refused, at the question
  have refu : ∀ (s : xSig) (b1 : Bool), x_E MX12_insert 0 0 87 [some (.ref 281), some (.int (ii r)), some (.int (ii n)), some (.int (ii (bi b1))), none, none] [.int (ii 0)] (St s) 0 0 (iv 0) (St (xu s 281 47 (if b1 = false then 1 else 2))) := by
    intro s b1
    have eg : gcode b1 false true = (if b1 = false then 1 else 2) := by cases b1 <;> rfl
    rw [← eg]
    refine e_istore 45 89 (ls' := [some _, some _, some _, some _, some _, none]) rfl rfl (Nat.le_of_ble_eq_true rfl) rfl ?_
    refine e_aload_n 46 90 rfl rfl rfl rfl ?_
    refine e_iload_n 47 91 rfl rfl rfl rfl ?_
    refine e_iload 48 93 rfl rfl rfl ?_
    refine e_iconst 49 94 rfl rfl ?_
    refine g_callV 50 97 (sp_mGoes (a := b1) (b := false) (c := true)) okX12_goes cvX12_167 ⟨(Nat.le_of_ble_eq_true rfl), (Nat.le_of_ble_eq_true rfl)⟩ rfl rfl (Nat.le_of_ble_eq_true rfl) rfl rfl rfl rfl rfl (Nat.le_of_ble_eq_true rfl) (Nat.le_of_ble_eq_true rfl) (Nat.le_of_ble_eq_true rfl) ?_
    refine e_ifb_ne 51 102 100 rfl rfl rfl (fun hb => ?_) (fun hb => ?_)
    · skip
      exfalso
      rw [Bool.false_and, Bool.and_false] at hb
      cases hb
    · skip
      refine e_iconst 52 101 rfl rfl ?_
      exact e_ireturn 53 rfl rfl (Nat.le_of_ble_eq_true rfl) (Nat.le_of_ble_eq_true rfl)
  by_cases hfit : (0 ≤ r ∧ r < 2) ∧ 0 ≤ n ∧ n < 100
  · rw [decT (by omega)] at pr pn
    obtain ⟨m, rfl⟩ := Int.eq_ofNat_of_zero_le hfit.2.1
    have hm100 : m < 100 := by omega
    have pre : ∀ (s : xSig) {o : xO} {Y : xS}, x_E MX12_insert 0 0 29 [some (.ref 281), some (.int (ii r)), some (.int (ii (m : Nat))), some (.int (ii (bi true))), none, none] [] (St s) 0 0 o Y → x_Sp MX12_insert 0 0 [.ref 281, .int (ii r), .int (ii (m : Nat))] (St s) o Y := by
      intro s o Y kk
      refine e_entry okX12_insert (Nat.le_of_ble_eq_true rfl) (ls := [some _, some _, some _, none, none, none]) rfl ?_
      refine e_iload_n 0 1 rfl rfl rfl rfl ?_
      refine e_iconst 1 2 rfl rfl ?_
      refine e_iconst 2 3 rfl rfl ?_
      refine g_callS 3 6 (pr s) okX12_in csX12_175 ⟨(Nat.le_of_ble_eq_true rfl), (Nat.le_of_ble_eq_true rfl)⟩ rfl rfl rfl rfl (Nat.le_of_ble_eq_true rfl) (Nat.le_of_ble_eq_true rfl) (Nat.le_of_ble_eq_true rfl) ?_
      refine e_ifb_eq 4 23 9 rfl rfl rfl (fun hq => ?_) (fun hq => ?_)
      · skip
        cases hq
      · skip
        refine e_iload_n 5 10 rfl rfl rfl rfl ?_
        refine e_iconst 6 11 rfl rfl ?_
        refine e_bipush 7 13 rfl rfl rfl ?_
        refine g_callS 8 16 (pn s) okX12_in csX12_175 ⟨(Nat.le_of_ble_eq_true rfl), (Nat.le_of_ble_eq_true rfl)⟩ rfl rfl rfl rfl (Nat.le_of_ble_eq_true rfl) (Nat.le_of_ble_eq_true rfl) (Nat.le_of_ble_eq_true rfl) ?_
        refine e_ifb_eq 9 23 19 rfl rfl rfl (fun hq2 => ?_) (fun hq2 => ?_)
        · skip
          cases hq2
        · skip
          refine e_iconst 10 20 rfl rfl ?_
          refine e_goto 11 24 rfl rfl ?_
          refine e_istore_n 13 25 (ls' := [some _, some _, some _, some _, none, none]) rfl rfl rfl (Nat.le_of_ble_eq_true rfl) rfl ?_
          refine e_iload_n 14 26 rfl rfl rfl rfl ?_
          refine e_if_eq 15 86 29 rfl rfl rfl (by unfold xr at *; omega) (fun h9 => absurd h9 (by omega)) (fun _ => ?_)
          exact kk
    by_cases hp0 : 0 < σ 1 2
    · obtain ⟨k, hk⟩ := Int.eq_ofNat_of_zero_le (show 0 ≤ σ 1 2 - 1 by omega)
      have htop : vtop σ = 5 + 2 * k := by rw [show vtop σ = pv (σ 1 2 - 1) from rfl, pv_in (by omega) (by omega), hk]; rfl
      obtain ⟨t1, w1⟩ := hM.pile (k := k) (by omega)
      have hb1 := mv_fld w1.1
      have hkb := knd_bnd (tok (tk (G (5 + 2 * k))) 0)
      have qt : ∀ s : xSig, s 281 3 = σ 281 3 → Rd MX12_top [.ref 281] s (iv (100 * (100 + k) + 1)) := fun s hs => by
        have := sp_mTop (σ := s)
        rw [hs, e5, hk] at this
        exact this
      have e83 : σ 283 m = bi (hasd σ m) := hM.2 3 m hm100
      have e2 : σ 281 2 = σ 25 4 := hM.2 4
      -- from the pile's top on: the later questions, at numbers that say the same
      have q29 : ∀ (s : xSig), (∀ b : Nat, 281 ≤ b → b < 314 → s b = σ b) → knd (tok (tk (G (5 + 2 * k))) 0) = 4 → hasd σ m = false → σ 25 4 < 60 → ∀ {o : xO} {Y : xS}, x_E MX12_insert 0 0 67 [some (.ref 281), some (.int (ii r)), some (.int (ii (m : Nat))), some (.int (ii (bi true))), none, none] [] (St s) 0 0 o Y → x_E MX12_insert 0 0 29 [some (.ref 281), some (.int (ii r)), some (.int (ii (m : Nat))), some (.int (ii (bi true))), none, none] [] (St s) 0 0 o Y := by
        intro s gs hk4 hhn h60 o Y kk
        have a3 : s 281 3 = σ 1 2 := by rw [gs 281 (by omega) (by omega)]; exact e5
        have a82 : s 282 (100 * (100 + k) + 1) = 4 := by rw [gs 282 (by omega) (by omega), hb1.1]; exact hk4
        have a83 : s 283 m = bi false := by rw [gs 283 (by omega) (by omega), e83, hhn]
        have a2 : s 281 2 = σ 25 4 := by rw [gs 281 (by omega) (by omega)]; exact e2
        refine e_aload_n 16 30 rfl rfl rfl rfl ?_
        refine g_getI 17 33 3 ckX12 flX12_146 rfl rfl (Nat.le_of_ble_eq_true rfl) rfl rfl rfl a3 ?_
        refine e_if_le 18 86 36 rfl rfl rfl (by unfold xr at *; omega) (fun h9 => absurd h9 (by omega)) (fun _ => ?_)
        refine e_aload_n 19 37 rfl rfl rfl rfl ?_
        refine g_getR 20 40 ckX12 flX12_7 rfl rfl (Nat.le_of_ble_eq_true rfl) rfl rfl ?_
        refine e_aload_n 21 41 rfl rfl rfl rfl ?_
        refine g_callV 22 44 (qt s (a3.trans e5.symm)) okX12_top cvX12_182 ⟨(Nat.le_of_ble_eq_true rfl), (Nat.le_of_ble_eq_true rfl)⟩ rfl rfl (Nat.le_of_ble_eq_true rfl) rfl rfl rfl rfl rfl (Nat.le_of_ble_eq_true rfl) (Nat.le_of_ble_eq_true rfl) (Nat.le_of_ble_eq_true rfl) ?_
        refine g_iaload 23 45 rfl rfl (Nat.le_of_ble_eq_true rfl) rfl (by omega) (by omega) (by omega) a82 ?_
        refine e_iconst 24 46 rfl rfl ?_
        refine e_icmp_ne 25 86 49 rfl rfl rfl (by unfold xr at *; omega) (by unfold xr at *; omega) (fun h9 => absurd h9 (fun q => q rfl)) (fun _ => ?_)
        refine e_aload_n 26 50 rfl rfl rfl rfl ?_
        refine g_getR 27 53 ckX12 flX12_13 rfl rfl (Nat.le_of_ble_eq_true rfl) rfl rfl ?_
        refine e_iload_n 28 54 rfl rfl rfl rfl ?_
        refine g_baload 29 55 rfl rfl (Nat.le_of_ble_eq_true rfl) rfl (by omega) (by omega) (by omega) a83 ?_
        refine e_ifb_ne 30 86 58 rfl rfl rfl (fun hq => ?_) (fun hq => ?_)
        · skip
          cases hq
        · skip
          refine e_aload_n 31 59 rfl rfl rfl rfl ?_
          refine g_getI 32 62 2 ckX12 flX12_227 rfl rfl (Nat.le_of_ble_eq_true rfl) rfl rfl rfl a2 ?_
          refine e_bipush 33 64 rfl rfl rfl ?_
          refine e_icmp_ge 34 86 67 rfl rfl rfl (by unfold xr at *; omega) (by unfold xr at *; omega) (fun h9 => absurd h9 (by omega)) (fun _ => ?_)
          exact kk
      by_cases hob4 : knd (tok (T (vtop σ)) 0) = 4
      · have hob0 := hob4
        rw [htop, t1] at hob4
        rcases mv_hd w1.1 with ⟨x, e, -, u1, u2⟩ | ⟨F, e, hF, u1⟩ | ⟨F, e, -, u1, -⟩
        · rw [hb1.1, hob4] at u1; omega
        · have w1' := w1
          have t1' := t1
          rw [e] at w1' t1'
          have hDC : DC (T (5 + 2 * k)) F := doc_dc (τ := σ) (T := T) (G := G) t1' rfl w1'.1.2.1 w1'.2
          have ekr : krl σ (T (vtop σ)) = krF σ F := by rw [htop]; exact krl_F hDC
          cases hkr : krF σ F with
          | false =>
            rw [hkr] at ekr
            by_cases hwh : hasd σ m = true ∨ 60 ≤ σ 25 4
            · refine STEP.refuse h 2 (by simp) (sp_insertX2 hA hru h3 hfit.1 hfit.2 (Or.inr ekr)) (σ2 := xu σ 281 47 2) (y := 0) (pre σ ?_) (xu_same _ _ _ _) F47s
              have a82 : σ 282 (100 * (100 + k) + 1) = 4 := by rw [hb1.1]; exact hob4
              refine e_aload_n 16 30 rfl rfl rfl rfl ?_
              refine g_getI 17 33 3 ckX12 flX12_146 rfl rfl (Nat.le_of_ble_eq_true rfl) rfl rfl rfl e5 ?_
              refine e_if_le 18 86 36 rfl rfl rfl (by unfold xr at *; omega) (fun h9 => absurd h9 (by omega)) (fun _ => ?_)
              refine e_aload_n 19 37 rfl rfl rfl rfl ?_
              refine g_getR 20 40 ckX12 flX12_7 rfl rfl (Nat.le_of_ble_eq_true rfl) rfl rfl ?_
              refine e_aload_n 21 41 rfl rfl rfl rfl ?_
              refine g_callV 22 44 (qt σ rfl) okX12_top cvX12_182 ⟨(Nat.le_of_ble_eq_true rfl), (Nat.le_of_ble_eq_true rfl)⟩ rfl rfl (Nat.le_of_ble_eq_true rfl) rfl rfl rfl rfl rfl (Nat.le_of_ble_eq_true rfl) (Nat.le_of_ble_eq_true rfl) (Nat.le_of_ble_eq_true rfl) ?_
              refine g_iaload 23 45 rfl rfl (Nat.le_of_ble_eq_true rfl) rfl (by omega) (by omega) (by omega) a82 ?_
              refine e_iconst 24 46 rfl rfl ?_
              refine e_icmp_ne 25 86 49 rfl rfl rfl (by unfold xr at *; omega) (by unfold xr at *; omega) (fun h9 => absurd h9 (fun q => q rfl)) (fun _ => ?_)
              refine e_aload_n 26 50 rfl rfl rfl rfl ?_
              refine g_getR 27 53 ckX12 flX12_13 rfl rfl (Nat.le_of_ble_eq_true rfl) rfl rfl ?_
              refine e_iload_n 28 54 rfl rfl rfl rfl ?_
              refine g_baload 29 55 rfl rfl (Nat.le_of_ble_eq_true rfl) rfl (by omega) (by omega) (by omega) e83 ?_
              refine e_ifb_ne 30 86 58 rfl rfl rfl (fun hq => ?_) (fun hq => ?_)
              · skip
                refine e_iconst 44 87 rfl rfl ?_
                exact refu σ true
              · skip
                have h60 := hwh.resolve_left (by rw [hq]; decide)
                refine e_aload_n 31 59 rfl rfl rfl rfl ?_
                refine g_getI 32 62 2 ckX12 flX12_227 rfl rfl (Nat.le_of_ble_eq_true rfl) rfl rfl rfl e2 ?_
                refine e_bipush 33 64 rfl rfl rfl ?_
                refine e_icmp_ge 34 86 67 rfl rfl rfl (by unfold xr at *; omega) (by unfold xr at *; omega) (fun _ => ?_) (fun h9 => absurd h9 (by omega))
                refine e_iconst 44 87 rfl rfl ?_
                exact refu σ true
            · have hhn : hasd σ m = false := by
                cases w : hasd σ m with
                | true => exact absurd (Or.inl w) hwh
                | false => rfl
              obtain ⟨s1, c1, f1⟩ := sp_mKeepsAll (τ := σ) (hM.2 6) hru w1'.1
              rw [hkr] at c1
              refine STEP.refuse h 2 (by simp) (sp_insertX2 hA hru h3 hfit.1 hfit.2 (Or.inr ekr)) (σ2 := xu s1 281 47 2) (y := 0) (pre σ (q29 σ (fun _ _ _ => rfl) hob4 hhn (by omega) ?_)) (xu_same _ _ _ _) ((f1.mono rfl).put rfl)
              refine e_aload_n 35 68 rfl rfl rfl rfl ?_
              refine e_aload_n 36 69 rfl rfl rfl rfl ?_
              refine g_getR 37 72 ckX12 flX12_7 rfl rfl (Nat.le_of_ble_eq_true rfl) rfl rfl ?_
              refine e_aload_n 38 73 rfl rfl rfl rfl ?_
              refine g_callV 39 76 (qt σ rfl) okX12_top cvX12_182 ⟨(Nat.le_of_ble_eq_true rfl), (Nat.le_of_ble_eq_true rfl)⟩ rfl rfl (Nat.le_of_ble_eq_true rfl) rfl rfl rfl rfl rfl (Nat.le_of_ble_eq_true rfl) (Nat.le_of_ble_eq_true rfl) (Nat.le_of_ble_eq_true rfl) ?_
              refine g_callV 40 79 (c1) okX12_keepsAll cvX12_230 ⟨(Nat.le_of_ble_eq_true rfl), (Nat.le_of_ble_eq_true rfl)⟩ rfl rfl (Nat.le_of_ble_eq_true rfl) rfl rfl rfl rfl rfl (Nat.le_of_ble_eq_true rfl) (Nat.le_of_ble_eq_true rfl) (Nat.le_of_ble_eq_true rfl) ?_
              refine e_ifb_eq 41 86 82 rfl rfl rfl (fun hq => ?_) (fun hq => ?_)
              · skip
                refine e_iconst 44 87 rfl rfl ?_
                exact refu s1 true
              · skip
                cases hq
          | true =>
            rw [hkr] at ekr
            by_cases hwh : hasd σ m = true ∨ 60 ≤ σ 25 4
            · refine STEP.refuse h 2 (by simp) (sp_insertX3 hA h01 hru h3 hfit.1 hfit.2 hob0 ekr (by omega) hwh) (σ2 := xu σ 281 47 2) (y := 0) (pre σ ?_) (xu_same _ _ _ _) F47s
              have a82 : σ 282 (100 * (100 + k) + 1) = 4 := by rw [hb1.1]; exact hob4
              refine e_aload_n 16 30 rfl rfl rfl rfl ?_
              refine g_getI 17 33 3 ckX12 flX12_146 rfl rfl (Nat.le_of_ble_eq_true rfl) rfl rfl rfl e5 ?_
              refine e_if_le 18 86 36 rfl rfl rfl (by unfold xr at *; omega) (fun h9 => absurd h9 (by omega)) (fun _ => ?_)
              refine e_aload_n 19 37 rfl rfl rfl rfl ?_
              refine g_getR 20 40 ckX12 flX12_7 rfl rfl (Nat.le_of_ble_eq_true rfl) rfl rfl ?_
              refine e_aload_n 21 41 rfl rfl rfl rfl ?_
              refine g_callV 22 44 (qt σ rfl) okX12_top cvX12_182 ⟨(Nat.le_of_ble_eq_true rfl), (Nat.le_of_ble_eq_true rfl)⟩ rfl rfl (Nat.le_of_ble_eq_true rfl) rfl rfl rfl rfl rfl (Nat.le_of_ble_eq_true rfl) (Nat.le_of_ble_eq_true rfl) (Nat.le_of_ble_eq_true rfl) ?_
              refine g_iaload 23 45 rfl rfl (Nat.le_of_ble_eq_true rfl) rfl (by omega) (by omega) (by omega) a82 ?_
              refine e_iconst 24 46 rfl rfl ?_
              refine e_icmp_ne 25 86 49 rfl rfl rfl (by unfold xr at *; omega) (by unfold xr at *; omega) (fun h9 => absurd h9 (fun q => q rfl)) (fun _ => ?_)
              refine e_aload_n 26 50 rfl rfl rfl rfl ?_
              refine g_getR 27 53 ckX12 flX12_13 rfl rfl (Nat.le_of_ble_eq_true rfl) rfl rfl ?_
              refine e_iload_n 28 54 rfl rfl rfl rfl ?_
              refine g_baload 29 55 rfl rfl (Nat.le_of_ble_eq_true rfl) rfl (by omega) (by omega) (by omega) e83 ?_
              refine e_ifb_ne 30 86 58 rfl rfl rfl (fun hq => ?_) (fun hq => ?_)
              · skip
                refine e_iconst 44 87 rfl rfl ?_
                exact refu σ true
              · skip
                have h60 := hwh.resolve_left (by rw [hq]; decide)
                refine e_aload_n 31 59 rfl rfl rfl rfl ?_
                refine g_getI 32 62 2 ckX12 flX12_227 rfl rfl (Nat.le_of_ble_eq_true rfl) rfl rfl rfl e2 ?_
                refine e_bipush 33 64 rfl rfl rfl ?_
                refine e_icmp_ge 34 86 67 rfl rfl rfl (by unfold xr at *; omega) (by unfold xr at *; omega) (fun _ => ?_) (fun h9 => absurd h9 (by omega))
                refine e_iconst 44 87 rfl rfl ?_
                exact refu σ true
            · have hhn : hasd σ m = false := by
                cases w : hasd σ m with
                | true => exact absurd (Or.inl w) hwh
                | false => rfl
              obtain ⟨v1, v2, v3, v4⟩ := hM.ver (by omega) hfit.1
              obtain ⟨σ', k1, k2, k3⟩ := sp_insert1 hA h01 hC hru ⟨hp0, h3.2⟩ hfit.1 hm100 hob0 ekr (by omega) hhn v1 v2 ⟨n1, n3⟩ (by rw [htop]; exact hDC.len)
              rw [htop] at k1 k2
              have ep : putd σ m = xu (xu σ 27 m 1) 25 4 (σ 25 4 + 1) := by unfold putd; rw [if_neg (by rw [hhn]; decide)]
              generalize ht9 : T (5 + 2 * k) = t at *
              have hx : ∀ b : Nat, vA b = false → xu σ' 1 2 (σ 1 2 - 1) b = xu (xu (xu σ 1 2 (σ 1 2 - 1)) 27 m 1) 25 4 (σ 25 4 + 1) b := fun b hb => by
                funext j
                have q := congrFun (k3 b hb (by simp)) j
                rw [ep] at q
                unfold xu at q ⊢
                rw [q]
                by_cases w1 : b = 1 ∧ j = 2
                · rw [if_pos w1, if_neg (by omega), if_neg (by omega), if_pos w1]
                · rw [if_neg w1]
                  by_cases w2 : b = 25 ∧ j = 4
                  · rw [if_pos w2, if_pos w2]
                  · rw [if_neg w2, if_neg w2]
                    by_cases w3 : b = 27 ∧ j = m
                    · rw [if_pos w3, if_pos w3]
                    · rw [if_neg w3, if_neg w3, if_neg w1]
              -- the class's end
              generalize hσ1 : tld (xu σ' 1 2 (σ 1 2 - 1)) t 0 m r = σ1 at k1
              have te := tell_eq (σ := σ) (r := r) (w := 0) (t := t) hx rfl rfl
              rw [hσ1] at te
              have g1 : ∀ b : Nat, 281 ≤ b → b < 314 → σ1 b = σ b := fun b hb hb3 => by
                have hv : ∀ b, b < 314 → 281 ≤ b → vA b = false := by decide +kernel
                rw [te b (hv b hb3 hb)]
                unfold entd
                rw [xu_other _ _ _ (by omega), xu_other _ _ _ (by omega), xu_other _ _ _ (by omega), xu_other _ _ _ (by omega), xu_other _ _ _ (by omega), xu_other _ _ _ (by omega), xu_other _ _ _ (by omega), xu_other _ _ _ (by omega)]
                exact uro_o σ r b (by simp only [List.mem_cons, List.not_mem_nil, or_false]; omega)
              have hM1 : IM i σ T G σ1 := hM.fm g1
              have w1'' : MV σ1 282 11300 (100 * (100 + k) + 1) (.add F (.num 0)) := w1'.1.of (g1 282 (by omega) (by omega))
              obtain ⟨s1, c1, f1⟩ := sp_mKeepsAll (τ := σ) (hM1.2 6) hru w1''
              rw [hkr] at c1
              have hM2 := (hM1.fp f1 (by decide +kernel)).fp (F47 (c := 0)) (by decide +kernel)
              have hM3 := hM2.use hfit.1
              have hu : x_Sp MX12_uses 0 0 [.ref 281, .int (ii r)] (St (xu s1 281 47 0)) vv (St (mur (xu s1 281 47 0) r)) := by
                refine sp_mUses hfit.1 ?_ ?_
                · rw [xu_other _ _ _ (by decide), f1.cell 301 rfl, g1 301 (by omega) (by omega), v3]; exact v2
                · rw [xu_ne _ (Or.inr (by decide)), f1 281 31 rfl, g1 281 (by omega) (by omega), v4]; exact v1
              have hp3 : uro σ r 1 2 = σ 1 2 := by rw [uro_o σ r 1 (by decide)]
              have hM4 := hM3.pop (by rw [hp3]; exact hp0)
              rw [hp3] at hM4
              -- the model's numbers
              generalize hs2 : mur (xu s1 281 47 0) r = s2 at *
              have f2 : FP [(311, -1), (281, 47), (301, -1), (302, -1)] σ1 s2 := by rw [← hs2]; exact ((f1.mono rfl).put rfl).tr ((mur_f _ _).mono rfl)
              have b3 : s2 281 3 = σ 1 2 := by rw [f2 281 3 rfl, g1 281 (by omega) (by omega)]; exact e5
              have f3 : FP [(281, 7)] s2 (xu s2 281 7 0) := FP.rf.put rfl
              have hMD : MD (xu s2 281 7 0) [] := ⟨xu_same _ _ _ _, EA.nil, by simp⟩
              have wv : MV (xu s2 281 7 0) 282 11300 (100 * (100 + k) + 1) (.add F (.num 0)) := w1''.of (by rw [f3.cell 282 rfl, f2.cell 282 rfl])
              have bv := wv.2.2.2
              have hlv := (ok1_pa wv.2.1).2.1
              have hpv := wv.2.2.1
              have w24 := w1'.2
              have c2 := sp_mEnd wv
              have f4 : FP m11 (xu s2 281 7 0) (xu (xu s2 281 7 0) 311 0 (pa (.add F (.num 0)))) := FP.rf.x11
              obtain ⟨s3, a1, a2, a3⟩ := sp_mAdds (σ := xu (xu s2 281 7 0) 311 0 (pa (.add F (.num 0)))) (p := 100 * (100 + k) + 1) (to := 100 * (100 + k) + 1 + (en (.add F (.num 0))).length) (t := en (.add F (.num 0))) isMS_all rfl (by omega) (by omega) (bv.2.2.of11 isMA_all f4) (hMD.fp f4) (by simp only [List.length_nil]; omega)
              rw [List.nil_append] at a2
              have f5 : FP [(281, 7), (311, -1), (285, -1)] s2 s3 := ((f3.mono rfl).tr (f4.mono rfl)).tr (a3.mono rfl)
              have c3 := sp_mLays (σ := s3) (at9 := 100 * (m : Int) + 1) (by omega) (by omega) a2
              generalize hs7 : xu (xu (xu (lay9 s3 (100 * (m : Int) + 1) (en (.add F (.num 0))) (en (.add F (.num 0))).length) 281 3 (σ 1 2 - 1)) 283 m 1) 281 2 (σ 25 4 + 1) = s7
              have f6 : FP [(281, 7), (311, -1), (285, -1), (282, -1), (281, 3), (283, -1), (281, 2)] s2 s7 := by
                rw [← hs7]
                refine FP.put (FP.putA (FP.put (FP.tr (f5.mono rfl) (fun b j q => ?_)) rfl) rfl) rfl
                rw [lay9_o _ _ _ _ (fun e => by subst e; simp [inP] at q)]
              have e82 : ∀ j : Int, s7 282 j = lay9 s3 (100 * (m : Int) + 1) (en (.add F (.num 0))) (en (.add F (.num 0))).length 282 j := fun j => by rw [← hs7, xu_other _ _ _ (by decide), xu_other _ _ _ (by decide), xu_other _ _ _ (by decide)]
              have hnew : MV s7 282 11300 (100 * (m : Int) + 1) (.add F (.num 0)) := by
                refine ⟨isMA_all, wv.2.1, hpv, by omega, by omega, ?_⟩
                refine (lay9_in s3 _ _).of fun j _ _ => ?_
                rw [e82]
              have hCm : CHM (uro σ r) s7 := (hM3.chm).fp f6 rfl
              obtain ⟨s8, c4, f8⟩ := sp_mShardOf hCm hDC hnew
              have hnew8 := hnew.fp f8
              have hC8 := hCm.fp f8 rfl
              obtain ⟨s9, c5, f9⟩ := sp_mChunkOf hC8 hDC hnew8
              have hC9 := hC8.fp f9 rfl
              have hC3 := hM3.1 6
              have q13 : (uro σ r 231 11 = -1 → s9 281 25 = -1) ∧ (uro σ r 231 11 ≠ -1 → s9 281 25 = uro σ r 232 (uro σ r 231 11) ∧ s9 281 26 = uro σ r 231 12) := by
                rw [f9 281 25 rfl, f8 281 25 rfl, f6 281 25 rfl, f9 281 26 rfl, f8 281 26 rfl, f6 281 26 rfl]
                exact hM3.2 13
              have c6 := sp_mMoving hC9 hC3.2.2.1 hC3.2.2.2.2.1 q13
              obtain ⟨z, z1, z2, z3, z4⟩ := mfrom hC3.1 hC3.2.2.1 hC3.2.2.2.2.1 (σ := s8) (by rw [f8 281 25 rfl, f6 281 25 rfl, f8 281 26 rfl, f6 281 26 rfl]; exact hM3.2 13)
              have es : shd (uro σ r) t = shd σ t ∧ chk (uro σ r) t = chk σ t := ⟨(uro_shd r t).2, (uro_shd r t).1⟩
              -- the last walk: the flag, the entry
              have fin : ∀ (s : xSig) (b : Bool), FP m11 s7 s → b = (hmv (uro σ r) && decide (chk (uro σ r) t = uro σ r 231 11)) → ∃ σ2, x_E MX12_insert 0 0 208 [some (.ref 281), some (.int (ii r)), some (.int (ii (m : Nat))), some (.int (ii (bi true))), some (.int (ii (bi true))), some (.int (ii (shd (uro σ r) t)))] [.int (ii (bi b)), .int (ii (m : Nat)), .ref 299] (St s) 0 0 (iv (shd (uro σ r) t)) (St σ2) ∧ σ2 281 47 = 0 ∧ INV (i + 1) σ2 := by
                intro s b g hb
                have g2 : FP [(281, 7), (311, -1), (285, -1), (282, -1), (281, 3), (283, -1), (281, 2), (299, -1)] s2 (xu s 299 m (bi b)) := ((f6.mono rfl).tr (g.mono rfl)).putA rfl
                have e37 : xu s 299 m (bi b) 281 37 = σ 239 3 := by rw [g2 281 37 rfl, f2 281 37 rfl, g1 281 (by omega) (by omega)]; exact n7
                refine ⟨ment (xu s 299 m (bi b)) 0 m (shd (uro σ r) t), ?_, ?_, ?_⟩
                · skip
                  refine g_bastore 113 209 rfl rfl (bi_01 b) (Nat.le_of_ble_eq_true rfl) rfl (by omega) (by omega) (by omega) ?_
                  refine e_aload_n 114 210 rfl rfl rfl rfl ?_
                  refine e_iconst 115 211 rfl rfl ?_
                  refine e_iload_n 116 212 rfl rfl rfl rfl ?_
                  refine e_iload 117 214 rfl rfl rfl ?_
                  refine g_callV 118 217 (sp_mEnters (by rw [e37]; omega)) okX12_enters cvX12_243 ⟨(Nat.le_of_ble_eq_true rfl), (Nat.le_of_ble_eq_true rfl)⟩ rfl rfl (Nat.le_of_ble_eq_true rfl) rfl rfl rfl rfl rfl (Nat.le_of_ble_eq_true rfl) (Nat.le_of_ble_eq_true rfl) (Nat.le_of_ble_eq_true rfl) ?_
                  refine e_iload 119 219 rfl rfl rfl ?_
                  exact e_ireturn 120 rfl rfl (Nat.le_of_ble_eq_true rfl) (Nat.le_of_ble_eq_true rfl)
                · rw [(ment_f _ _ _ _) 281 47 rfl, g2 281 47 rfl, ← hs2, (mur_f _ _) 281 47 rfl, xu_same]
                · have g3 : FP [(282, -1), (283, -1), (281, 2), (299, -1), (285, -1), (281, 7), (311, -1)] (xu s2 281 3 (σ 1 2 - 1)) (xu s 299 m (bi b)) := by
                    refine FP.fix (g2.mono rfl) (by decide) ?_
                    rw [xu_other _ _ _ (by decide), g 281 3 rfl, ← hs7, xu_ne _ (Or.inr (by decide)), xu_other _ _ _ (by decide), xu_same]
                  have s7v : ∀ (b9 : Nat) (j : Int), b9 ≠ 299 → b9 ≠ 311 → xu s 299 m (bi b) b9 j = s7 b9 j := fun b9 j a b' => by rw [xu_other _ _ _ a]; exact g b9 j (by simp [inP]; omega)
                  have hMd := hM4.doc (i' := i + 1) (n := m) (F := F) (t := t) (c := σ 25 4 + 1) (by omega) hm100 t1' hDC (by
                    rw [show hasd (xu (uro σ r) 1 2 (σ 1 2 - 1)) m = false by rw [hasd_congr (by rw [xu_other _ _ _ (by decide), uro_o σ r 27 (by decide)])]; exact hhn, if_neg (by decide), xu_other _ _ _ (by decide), uro_o σ r 25 (by decide)]) (by omega) (by
                    rw [xu_other _ _ _ (by decide), uro_o σ r 239 (by decide)]; omega) g3 (fun j hj => by
                    rw [s7v 282 j (by decide) (by decide), xu_other _ _ _ (by decide), e82]
                    unfold lay9
                    rw [if_neg (by omega), f5.cell 282 rfl]) (hnew.of (by funext j; exact s7v 282 j (by decide) (by decide))) (fun j => by
                    rw [s7v 283 j (by decide) (by decide), xu_other _ _ _ (by decide), ← hs7, xu_other _ _ _ (by decide)]
                    by_cases w : j = m
                    · rw [w, xu_same, if_pos rfl]
                    · rw [xu_ne _ (Or.inr w), if_neg w, xu_other _ _ _ (by decide), lay9_o _ _ _ _ (by decide), f5.cell 283 rfl]) (by
                    rw [s7v 281 2 (by decide) (by decide), ← hs7, xu_same]) (fun j => by
                    rw [show hmv (xu (uro σ r) 1 2 (σ 1 2 - 1)) = hmv (uro σ r) by unfold hmv; rw [xu_other _ _ _ (by decide)], (chk_congr (σ := uro σ r) ⟨xu_other _ _ _ (by decide), xu_other _ _ _ (by decide), xu_other _ _ _ (by decide)⟩ t).1, show xu (uro σ r) 1 2 (σ 1 2 - 1) 231 = uro σ r 231 from xu_other _ _ _ (by decide), ← hb]
                    by_cases w : j = m
                    · rw [w, xu_same, if_pos rfl]
                    · rw [xu_ne _ (Or.inr w), if_neg w, xu_other _ _ _ (by decide), g.cell 299 rfl, f6.cell 299 rfl])
                  rw [show hmv (xu (uro σ r) 1 2 (σ 1 2 - 1)) = hmv (uro σ r) by unfold hmv; rw [xu_other _ _ _ (by decide)], (chk_congr (σ := uro σ r) ⟨xu_other _ _ _ (by decide), xu_other _ _ _ (by decide), xu_other _ _ _ (by decide)⟩ t).1, show xu (uro σ r) 1 2 (σ 1 2 - 1) 231 = uro σ r 231 from xu_other _ _ _ (by decide)] at hMd
                  have hMe := hMd.etr (by
                    have a1 : xu (xu (xu (xu (uro σ r) 1 2 (σ 1 2 - 1)) 27 m 1) 25 4 (σ 25 4 + 1)) 235 m (bi (hmv (uro σ r) && decide (chk (uro σ r) t = uro σ r 231 11))) 239 3 = σ 239 3 := by
                      rw [xu_other _ _ _ (by decide), xu_other _ _ _ (by decide), xu_other _ _ _ (by decide), xu_other _ _ _ (by decide), uro_o σ r 239 (by decide)]
                    have a2 : xu (xu (xu (xu (uro σ r) 1 2 (σ 1 2 - 1)) 27 m 1) 25 4 (σ 25 4 + 1)) 235 m (bi (hmv (uro σ r) && decide (chk (uro σ r) t = uro σ r 231 11))) 25 4 = σ 25 4 + 1 := by
                      rw [xu_other _ _ _ (by decide), xu_same]
                    rw [a1, a2]; omega) 0 m (shd (uro σ r) t)
                  rw [es.1, es.2, show hmv (uro σ r) = hmv σ by unfold hmv; rw [uro_o σ r 231 (by decide)], show uro σ r 231 = σ 231 from uro_o σ r 231 (by decide)] at hMe
                  have gl : FP [(311, -1), (281, 47), (301, -1), (302, -1), (281, 7), (285, -1), (282, -1), (281, 3), (283, -1), (281, 2), (299, -1), (303, -1), (304, -1), (305, -1), (281, 37)] σ1 (ment (xu s 299 m (bi b)) 0 m (shd (uro σ r) t)) := ((f2.mono rfl).tr (g2.mono rfl)).tr ((ment_f _ _ _ _).mono rfl)
                  refine INV.fin2 (VAll.fp ?_ gl (by decide +kernel)) (by rw [es.1]; exact hMe) (fun b9 hb9 hv9 => ?_)
                  · rw [← hσ1]
                    exact (k2.xu 2 _ (by decide +kernel)).fp (tld_f _ _ _ _ _) (by decide +kernel)
                  · rw [gl.cell b9 (by simp only [List.all_cons, List.all_nil, Bool.and_true, bne_iff_ne, Bool.and_eq_true]; omega)]
                    exact te b9 hv9
              have pre2 : ∀ {o : xO} {Y : xS}, x_E MX12_insert 0 0 178 [some (.ref 281), some (.int (ii r)), some (.int (ii (m : Nat))), some (.int (ii (bi true))), some (.int (ii (bi true))), some (.int (ii (shd (uro σ r) t)))] [] (St s8) 0 0 o Y → x_Sp MX12_insert 0 0 [.ref 281, .int (ii r), .int (ii (m : Nat))] (St σ1) o Y := by
                intro o Y kk
                have b2' : xu (xu (lay9 s3 (100 * (m : Int) + 1) (en (.add F (.num 0))) (en (.add F (.num 0))).length) 281 3 (σ 1 2 - 1)) 283 m 1 281 2 = σ 25 4 := by
                  rw [xu_other _ _ _ (by decide), xu_ne _ (Or.inr (by decide)), lay9_o _ _ _ _ (by decide), f5 281 2 rfl, f2 281 2 rfl, g1 281 (by omega) (by omega)]
                  exact e2
                have b3' : lay9 s3 (100 * (m : Int) + 1) (en (.add F (.num 0))) (en (.add F (.num 0))).length 281 3 = σ 1 2 := by
                  rw [lay9_o _ _ _ _ (by decide), f5 281 3 rfl]; exact b3
                refine pre σ1 (q29 σ1 g1 hob4 hhn (by omega) ?_)
                refine e_aload_n 35 68 rfl rfl rfl rfl ?_
                refine e_aload_n 36 69 rfl rfl rfl rfl ?_
                refine g_getR 37 72 ckX12 flX12_7 rfl rfl (Nat.le_of_ble_eq_true rfl) rfl rfl ?_
                refine e_aload_n 38 73 rfl rfl rfl rfl ?_
                refine g_callV 39 76 (qt σ1 (by rw [g1 281 (by omega) (by omega)])) okX12_top cvX12_182 ⟨(Nat.le_of_ble_eq_true rfl), (Nat.le_of_ble_eq_true rfl)⟩ rfl rfl (Nat.le_of_ble_eq_true rfl) rfl rfl rfl rfl rfl (Nat.le_of_ble_eq_true rfl) (Nat.le_of_ble_eq_true rfl) (Nat.le_of_ble_eq_true rfl) ?_
                refine g_callV 40 79 (c1) okX12_keepsAll cvX12_230 ⟨(Nat.le_of_ble_eq_true rfl), (Nat.le_of_ble_eq_true rfl)⟩ rfl rfl (Nat.le_of_ble_eq_true rfl) rfl rfl rfl rfl rfl (Nat.le_of_ble_eq_true rfl) (Nat.le_of_ble_eq_true rfl) (Nat.le_of_ble_eq_true rfl) ?_
                refine e_ifb_eq 41 86 82 rfl rfl rfl (fun hq => ?_) (fun hq => ?_)
                · skip
                  cases hq
                · skip
                  refine e_iconst 42 83 rfl rfl ?_
                  refine e_goto 43 87 rfl rfl ?_
                  refine e_istore 45 89 (ls' := [some _, some _, some _, some _, some _, none]) rfl rfl (Nat.le_of_ble_eq_true rfl) rfl ?_
                  refine e_aload_n 46 90 rfl rfl rfl rfl ?_
                  refine e_iload_n 47 91 rfl rfl rfl rfl ?_
                  refine e_iload 48 93 rfl rfl rfl ?_
                  refine e_iconst 49 94 rfl rfl ?_
                  refine g_callV 50 97 (sp_mGoesT) okX12_goes cvX12_167 ⟨(Nat.le_of_ble_eq_true rfl), (Nat.le_of_ble_eq_true rfl)⟩ rfl rfl (Nat.le_of_ble_eq_true rfl) rfl rfl rfl rfl rfl (Nat.le_of_ble_eq_true rfl) (Nat.le_of_ble_eq_true rfl) (Nat.le_of_ble_eq_true rfl) ?_
                  refine e_ifb_ne 51 102 100 rfl rfl rfl (fun hq2 => ?_) (fun hq2 => ?_)
                  · skip
                    refine e_aload_n 54 103 rfl rfl rfl rfl ?_
                    refine e_iload_n 55 104 rfl rfl rfl rfl ?_
                    refine g_callV 56 107 (hu) okX12_uses cvX12_234 ⟨(Nat.le_of_ble_eq_true rfl), (Nat.le_of_ble_eq_true rfl)⟩ rfl rfl (Nat.le_of_ble_eq_true rfl) rfl rfl rfl rfl rfl (Nat.le_of_ble_eq_true rfl) (Nat.le_of_ble_eq_true rfl) (Nat.le_of_ble_eq_true rfl) ?_
                    refine e_aload_n 57 108 rfl rfl rfl rfl ?_
                    refine e_iconst 58 109 rfl rfl ?_
                    refine g_putI 59 112 7 ckX12 flX12_179 rfl rfl (Nat.le_of_ble_eq_true rfl) rfl rfl rfl ?_
                    refine e_aload_n 60 113 rfl rfl rfl rfl ?_
                    refine e_aload_n 61 114 rfl rfl rfl rfl ?_
                    refine g_getR 62 117 ckX12 flX12_7 rfl rfl (Nat.le_of_ble_eq_true rfl) rfl rfl ?_
                    refine e_aload_n 63 118 rfl rfl rfl rfl ?_
                    refine g_callV 64 121 (qt (xu s2 281 7 0) (by rw [xu_ne _ (Or.inr (by decide)), b3, e5])) okX12_top cvX12_182 ⟨(Nat.le_of_ble_eq_true rfl), (Nat.le_of_ble_eq_true rfl)⟩ rfl rfl (Nat.le_of_ble_eq_true rfl) rfl rfl rfl rfl rfl (Nat.le_of_ble_eq_true rfl) (Nat.le_of_ble_eq_true rfl) (Nat.le_of_ble_eq_true rfl) ?_
                    refine e_aload_n 65 122 rfl rfl rfl rfl ?_
                    refine e_aload_n 66 123 rfl rfl rfl rfl ?_
                    refine g_getR 67 126 ckX12 flX12_7 rfl rfl (Nat.le_of_ble_eq_true rfl) rfl rfl ?_
                    refine e_aload_n 68 127 rfl rfl rfl rfl ?_
                    refine g_callV 69 130 (qt (xu s2 281 7 0) (by rw [xu_ne _ (Or.inr (by decide)), b3, e5])) okX12_top cvX12_182 ⟨(Nat.le_of_ble_eq_true rfl), (Nat.le_of_ble_eq_true rfl)⟩ rfl rfl (Nat.le_of_ble_eq_true rfl) rfl rfl rfl rfl rfl (Nat.le_of_ble_eq_true rfl) (Nat.le_of_ble_eq_true rfl) (Nat.le_of_ble_eq_true rfl) ?_
                    refine g_callV 70 133 (c2) okX12_end cvX12_131 ⟨(Nat.le_of_ble_eq_true rfl), (Nat.le_of_ble_eq_true rfl)⟩ rfl rfl (Nat.le_of_ble_eq_true rfl) rfl rfl rfl rfl rfl (Nat.le_of_ble_eq_true rfl) (Nat.le_of_ble_eq_true rfl) (Nat.le_of_ble_eq_true rfl) ?_
                    refine g_callV 71 136 (a1) okX12_adds cvX12_189 ⟨(Nat.le_of_ble_eq_true rfl), (Nat.le_of_ble_eq_true rfl)⟩ rfl rfl (Nat.le_of_ble_eq_true rfl) rfl rfl rfl rfl rfl (Nat.le_of_ble_eq_true rfl) (Nat.le_of_ble_eq_true rfl) (Nat.le_of_ble_eq_true rfl) ?_
                    refine e_aload_n 72 137 rfl rfl rfl rfl ?_
                    refine e_iload_n 73 138 rfl rfl rfl rfl ?_
                    refine g_callS 74 141 (sp_mBlock (x := m)) okX12_block csX12_142 ⟨(Nat.le_of_ble_eq_true rfl), (Nat.le_of_ble_eq_true rfl)⟩ rfl rfl rfl rfl (Nat.le_of_ble_eq_true rfl) (Nat.le_of_ble_eq_true rfl) (Nat.le_of_ble_eq_true rfl) ?_
                    refine g_callV 75 144 (c3) okX12_lays cvX12_193 ⟨(Nat.le_of_ble_eq_true rfl), (Nat.le_of_ble_eq_true rfl)⟩ rfl rfl (Nat.le_of_ble_eq_true rfl) rfl rfl rfl rfl rfl (Nat.le_of_ble_eq_true rfl) (Nat.le_of_ble_eq_true rfl) (Nat.le_of_ble_eq_true rfl) ?_
                    refine e_aload_n 76 145 rfl rfl rfl rfl ?_
                    refine e_dup 77 146 rfl rfl rfl ?_
                    refine g_getI 78 149 3 ckX12 flX12_146 rfl rfl (Nat.le_of_ble_eq_true rfl) rfl rfl rfl b3' ?_
                    refine e_iconst 79 150 rfl rfl ?_
                    refine e_isub 80 151 rfl rfl ?_
                    refine g_putI 81 154 3 ckX12 flX12_146 rfl rfl (Nat.le_of_ble_eq_true rfl) rfl rfl rfl ?_
                    refine e_aload_n 82 155 rfl rfl rfl rfl ?_
                    refine g_getR 83 158 ckX12 flX12_13 rfl rfl (Nat.le_of_ble_eq_true rfl) rfl rfl ?_
                    refine e_iload_n 84 159 rfl rfl rfl rfl ?_
                    refine e_iconst 85 160 rfl rfl ?_
                    refine g_bastore 86 161 rfl rfl (by omega) (Nat.le_of_ble_eq_true rfl) rfl (by omega) (by omega) (by omega) ?_
                    refine e_aload_n 87 162 rfl rfl rfl rfl ?_
                    refine e_dup 88 163 rfl rfl rfl ?_
                    refine g_getI 89 166 2 ckX12 flX12_227 rfl rfl (Nat.le_of_ble_eq_true rfl) rfl rfl rfl b2' ?_
                    refine e_iconst 90 167 rfl rfl ?_
                    refine e_iadd 91 168 rfl rfl ?_
                    refine g_putI 92 171 2 ckX12 flX12_227 rfl rfl (Nat.le_of_ble_eq_true rfl) rfl rfl rfl ?_
                    rw [hs7]
                    refine e_aload_n 93 172 rfl rfl rfl rfl ?_
                    refine e_iload_n 94 173 rfl rfl rfl rfl ?_
                    refine g_callV 95 176 (c4) okX12_shardOf cvX12_237 ⟨(Nat.le_of_ble_eq_true rfl), (Nat.le_of_ble_eq_true rfl)⟩ rfl rfl (Nat.le_of_ble_eq_true rfl) rfl rfl rfl rfl rfl (Nat.le_of_ble_eq_true rfl) (Nat.le_of_ble_eq_true rfl) (Nat.le_of_ble_eq_true rfl) ?_
                    refine e_istore 96 178 (ls' := [some _, some _, some _, some _, some _, some _]) rfl rfl (Nat.le_of_ble_eq_true rfl) rfl ?_
                    exact kk
                  · skip
                    cases hq2
              have hcb := chk_bnd hC3.1 t
              have h7b := hC3.1.1
              have h11b := hC3.1.2.2.2.1
              have hxc : xr (chk (uro σ r) t) := by unfold xr; omega
              have hxm : xr (uro σ r 231 11) := by unfold xr; omega
              rw [← es.1] at k1
              by_cases em : uro σ r 231 11 = -1
              · have zz := z3.mpr em
                obtain ⟨σ2, j1, j2, j3⟩ := fin s8 false f8 (by rw [hmv_f em]; rfl)
                refine ⟨_, σ2, 0, _, _, ⟨by omega, by simp⟩, fun _ => k1, fun q => absurd rfl q, pre2 ?_, j2, fun _ => rfl, j3⟩
                refine e_aload_n 97 179 rfl rfl rfl rfl ?_
                refine g_getR 98 182 ckX12 flX12_67 rfl rfl (Nat.le_of_ble_eq_true rfl) rfl rfl ?_
                refine e_iload_n 99 183 rfl rfl rfl rfl ?_
                refine e_aload_n 100 184 rfl rfl rfl rfl ?_
                refine g_getI 101 187 25 ckX12 flX12_63 rfl rfl (Nat.le_of_ble_eq_true rfl) rfl rfl rfl z1 ?_
                refine e_iconst 102 188 rfl rfl ?_
                refine e_icmp_eq 103 207 191 rfl rfl rfl z2 (by unfold xr at *; omega) (fun _ => ?_) (fun h9 => absurd h9 (fun q => q zz))
                refine e_iconst 112 208 rfl rfl ?_
                exact j1
              · have zz : ¬ z = -1 := fun q => em (z3.mp q)
                by_cases ec : chk (uro σ r) t = uro σ r 231 11
                · obtain ⟨σ2, j1, j2, j3⟩ := fin s9 true (f8.tr f9) (by rw [hmv_t em, decT ec]; rfl)
                  refine ⟨_, σ2, 0, _, _, ⟨by omega, by simp⟩, fun _ => k1, fun q => absurd rfl q, pre2 ?_, j2, fun _ => rfl, j3⟩
                  refine e_aload_n 97 179 rfl rfl rfl rfl ?_
                  refine g_getR 98 182 ckX12 flX12_67 rfl rfl (Nat.le_of_ble_eq_true rfl) rfl rfl ?_
                  refine e_iload_n 99 183 rfl rfl rfl rfl ?_
                  refine e_aload_n 100 184 rfl rfl rfl rfl ?_
                  refine g_getI 101 187 25 ckX12 flX12_63 rfl rfl (Nat.le_of_ble_eq_true rfl) rfl rfl rfl z1 ?_
                  refine e_iconst 102 188 rfl rfl ?_
                  refine e_icmp_eq 103 207 191 rfl rfl rfl z2 (by unfold xr at *; omega) (fun h9 => absurd h9 zz) (fun _ => ?_)
                  refine e_aload_n 104 192 rfl rfl rfl rfl ?_
                  refine e_iload_n 105 193 rfl rfl rfl rfl ?_
                  refine g_callV 106 196 (c5) okX12_chunkOf cvX12_217 ⟨(Nat.le_of_ble_eq_true rfl), (Nat.le_of_ble_eq_true rfl)⟩ rfl rfl (Nat.le_of_ble_eq_true rfl) rfl rfl rfl rfl rfl (Nat.le_of_ble_eq_true rfl) (Nat.le_of_ble_eq_true rfl) (Nat.le_of_ble_eq_true rfl) ?_
                  refine e_aload_n 107 197 rfl rfl rfl rfl ?_
                  refine g_callV 108 200 (c6) okX12_moving cvX12_240 ⟨(Nat.le_of_ble_eq_true rfl), (Nat.le_of_ble_eq_true rfl)⟩ rfl rfl (Nat.le_of_ble_eq_true rfl) rfl rfl rfl rfl rfl (Nat.le_of_ble_eq_true rfl) (Nat.le_of_ble_eq_true rfl) (Nat.le_of_ble_eq_true rfl) ?_
                  refine e_icmp_ne 109 207 203 rfl rfl rfl hxc hxm (fun h9 => absurd h9 (fun q => q ec)) (fun _ => ?_)
                  refine e_iconst 110 204 rfl rfl ?_
                  refine e_goto 111 208 rfl rfl ?_
                  exact j1
                · obtain ⟨σ2, j1, j2, j3⟩ := fin s9 false (f8.tr f9) (by rw [decF ec, Bool.and_false])
                  refine ⟨_, σ2, 0, _, _, ⟨by omega, by simp⟩, fun _ => k1, fun q => absurd rfl q, pre2 ?_, j2, fun _ => rfl, j3⟩
                  refine e_aload_n 97 179 rfl rfl rfl rfl ?_
                  refine g_getR 98 182 ckX12 flX12_67 rfl rfl (Nat.le_of_ble_eq_true rfl) rfl rfl ?_
                  refine e_iload_n 99 183 rfl rfl rfl rfl ?_
                  refine e_aload_n 100 184 rfl rfl rfl rfl ?_
                  refine g_getI 101 187 25 ckX12 flX12_63 rfl rfl (Nat.le_of_ble_eq_true rfl) rfl rfl rfl z1 ?_
                  refine e_iconst 102 188 rfl rfl ?_
                  refine e_icmp_eq 103 207 191 rfl rfl rfl z2 (by unfold xr at *; omega) (fun h9 => absurd h9 zz) (fun _ => ?_)
                  refine e_aload_n 104 192 rfl rfl rfl rfl ?_
                  refine e_iload_n 105 193 rfl rfl rfl rfl ?_
                  refine g_callV 106 196 (c5) okX12_chunkOf cvX12_217 ⟨(Nat.le_of_ble_eq_true rfl), (Nat.le_of_ble_eq_true rfl)⟩ rfl rfl (Nat.le_of_ble_eq_true rfl) rfl rfl rfl rfl rfl (Nat.le_of_ble_eq_true rfl) (Nat.le_of_ble_eq_true rfl) (Nat.le_of_ble_eq_true rfl) ?_
                  refine e_aload_n 107 197 rfl rfl rfl rfl ?_
                  refine g_callV 108 200 (c6) okX12_moving cvX12_240 ⟨(Nat.le_of_ble_eq_true rfl), (Nat.le_of_ble_eq_true rfl)⟩ rfl rfl (Nat.le_of_ble_eq_true rfl) rfl rfl rfl rfl rfl (Nat.le_of_ble_eq_true rfl) (Nat.le_of_ble_eq_true rfl) (Nat.le_of_ble_eq_true rfl) ?_
                  refine e_icmp_ne 109 207 203 rfl rfl rfl hxc hxm (fun _ => ?_) (fun h9 => absurd h9 ec)
                  refine e_iconst 112 208 rfl rfl ?_
                  exact j1
        · rw [hb1.1, hob4] at u1; omega
      · refine STEP.refuse h 2 (by simp) (sp_insertX2 hA hru h3 hfit.1 hfit.2 (Or.inl hob4)) (σ2 := xu σ 281 47 2) (y := 0) (pre σ ?_) (xu_same _ _ _ _) F47s
        rw [htop, t1] at hob4
        have u4 : ¬ σ 282 (100 * (100 + k) + 1) = 4 := by rw [hb1.1]; exact hob4
        have ux : xr (σ 282 (100 * (100 + k) + 1)) := by rw [hb1.1]; unfold xr; omega
        have hb4 := hb1.2.2.2
        refine e_aload_n 16 30 rfl rfl rfl rfl ?_
        refine g_getI 17 33 3 ckX12 flX12_146 rfl rfl (Nat.le_of_ble_eq_true rfl) rfl rfl rfl e5 ?_
        refine e_if_le 18 86 36 rfl rfl rfl (by unfold xr at *; omega) (fun h9 => absurd h9 (by omega)) (fun _ => ?_)
        refine e_aload_n 19 37 rfl rfl rfl rfl ?_
        refine g_getR 20 40 ckX12 flX12_7 rfl rfl (Nat.le_of_ble_eq_true rfl) rfl rfl ?_
        refine e_aload_n 21 41 rfl rfl rfl rfl ?_
        refine g_callV 22 44 (qt σ rfl) okX12_top cvX12_182 ⟨(Nat.le_of_ble_eq_true rfl), (Nat.le_of_ble_eq_true rfl)⟩ rfl rfl (Nat.le_of_ble_eq_true rfl) rfl rfl rfl rfl rfl (Nat.le_of_ble_eq_true rfl) (Nat.le_of_ble_eq_true rfl) (Nat.le_of_ble_eq_true rfl) ?_
        refine g_iaload 23 45 rfl rfl (Nat.le_of_ble_eq_true rfl) rfl (by omega) (by omega) (by omega) rfl ?_
        refine e_iconst 24 46 rfl rfl ?_
        refine e_icmp_ne 25 86 49 rfl rfl rfl ux (by unfold xr at *; omega) (fun _ => ?_) (fun h9 => absurd h9 u4)
        refine e_iconst 44 87 rfl rfl ?_
        exact refu σ true
    · have hk0 : knd (tok (T (vtop σ)) 0) ≠ 4 := by rw [show vtop σ = pv (σ 1 2 - 1) from rfl, no_bel hA (by omega)]; decide
      refine STEP.refuse h 2 (by simp) (sp_insertX2 hA hru h3 hfit.1 hfit.2 (Or.inl hk0)) (σ2 := xu σ 281 47 2) (y := 0) (pre σ ?_) (xu_same _ _ _ _) F47s
      refine e_aload_n 16 30 rfl rfl rfl rfl ?_
      refine g_getI 17 33 3 ckX12 flX12_146 rfl rfl (Nat.le_of_ble_eq_true rfl) rfl rfl rfl e5 ?_
      refine e_if_le 18 86 36 rfl rfl rfl (by unfold xr at *; omega) (fun _ => ?_) (fun h9 => absurd h9 (by omega))
      refine e_iconst 44 87 rfl rfl ?_
      exact refu σ true
  · refine STEP.refuse h 1 (by simp) (sp_insertX hr0 hn0 hfit) (σ2 := xu σ 281 47 1) (y := 0) ?_ (xu_same _ _ _ _) F47s
    have fin : x_E MX12_insert 0 0 24 [some (.ref 281), some (.int (ii r)), some (.int (ii n)), none, none, none] [.int (ii (bi false))] (St σ) 0 0 (iv 0) (St (xu σ 281 47 1)) := by
      refine e_istore_n 13 25 (ls' := [some _, some _, some _, some _, none, none]) rfl rfl rfl (Nat.le_of_ble_eq_true rfl) rfl ?_
      refine e_iload_n 14 26 rfl rfl rfl rfl ?_
      refine e_ifb_eq 15 86 29 rfl rfl rfl (fun hq => ?_) (fun hq => ?_)
      · skip
        refine e_iconst 44 87 rfl rfl ?_
        exact refu σ false
      · skip
        cases hq
    refine e_entry okX12_insert (Nat.le_of_ble_eq_true rfl) (ls := [some _, some _, some _, none, none, none]) rfl ?_
    refine e_iload_n 0 1 rfl rfl rfl rfl ?_
    refine e_iconst 1 2 rfl rfl ?_
    refine e_iconst 2 3 rfl rfl ?_
    refine g_callS 3 6 (pr σ) okX12_in csX12_175 ⟨(Nat.le_of_ble_eq_true rfl), (Nat.le_of_ble_eq_true rfl)⟩ rfl rfl rfl rfl (Nat.le_of_ble_eq_true rfl) (Nat.le_of_ble_eq_true rfl) (Nat.le_of_ble_eq_true rfl) ?_
    refine e_ifb_eq 4 23 9 rfl rfl rfl (fun hq => ?_) (fun hq => ?_)
    · skip
      refine e_iconst 12 24 rfl rfl ?_
      exact fin
    · skip
      have hq1 := of_decide_eq_true hq
      refine e_iload_n 5 10 rfl rfl rfl rfl ?_
      refine e_iconst 6 11 rfl rfl ?_
      refine e_bipush 7 13 rfl rfl rfl ?_
      refine g_callS 8 16 (pn σ) okX12_in csX12_175 ⟨(Nat.le_of_ble_eq_true rfl), (Nat.le_of_ble_eq_true rfl)⟩ rfl rfl rfl rfl (Nat.le_of_ble_eq_true rfl) (Nat.le_of_ble_eq_true rfl) (Nat.le_of_ble_eq_true rfl) ?_
      refine e_ifb_eq 9 23 19 rfl rfl rfl (fun hq2 => ?_) (fun hq2 => ?_)
      · skip
        refine e_iconst 12 24 rfl rfl ?_
        exact fin
      · skip
        have hq3 := of_decide_eq_true hq2
        omega
