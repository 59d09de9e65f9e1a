/-! ===== steps: refusals, and calls that read ===== -/
theorem STEP.refuse {i : Nat} {Mc Mm : x_MT} {mk : Int → xO} {E : List String} {av : List Value} {σ σ2 : xSig} {y : Int} (h : INV i σ) (c : Int) (hc : 1 ≤ c ∧ c ≤ E.length) (hcl : x_Sp Mc 1 6 (.ref 0 :: av) (St σ) (.inr (E.getD (c.toNat - 1) "")) (St σ)) (hm : x_Sp Mm 0 0 (.ref 281 :: av) (St σ) (mk y) (St σ2)) (h47 : σ2 281 47 = c) (hF : FP scr9 σ σ2) : STEP i Mc Mm mk E av σ :=
  ⟨σ, σ2, c, 0, y, ⟨by omega, hc.2⟩, fun q => by omega, fun _ => hcl, hm, h47, fun q => by omega, h.same scr9 hF (by decide +kernel)⟩
/-- the class's places that are only for the while -/
abbrev csc9 : List (Nat × Int) := [(238, -1), (254, -1), (255, -1), (261, -1), (262, -1), (279, -1), (280, -1)]
theorem STEP.read {i : Nat} {Mc Mm : x_MT} {mk : Int → xO} {E : List String} {av : List Value} {σ σ1 σ2 : xSig} {z : Int} (h : INV i σ) (hcl : x_Sp Mc 0 0 (.ref 0 :: av) (St σ) (mk z) (St σ1)) (hm : x_Sp Mm 0 0 (.ref 281 :: av) (St σ1) (mk z) (St σ2)) (h47 : σ2 281 47 = 0) (hF1 : FP csc9 σ σ1) (hF : FP scr9 σ1 σ2) : STEP i Mc Mm mk E av σ :=
  ⟨σ1, σ2, 0, z, z, ⟨by omega, by omega⟩, fun _ => hcl, fun q => absurd rfl q, hm, h47, fun _ => rfl, h.same (csc9 ++ scr9) ((hF1.mono (by decide)).tr (hF.mono (by decide))) (by decide +kernel)⟩
theorem F47s {σ : xSig} {c : Int} : FP scr9 σ (xu σ 281 47 c) := FP.rf.put rfl
theorem st_change {i : Nat} {σ : xSig} (h : INV i σ) (hi : i ≤ 512) {x w : Int} (hx : xr x) (hw : xr w) : STEP i MX11_change MX12_change iv [nIOB, nIAE] [.int (ii x), .int (ii w)] σ := by
  have hM := h
  obtain ⟨T, G, hA, hM⟩ := hM
  have e19 := hM.2 19
  have e4 : σ 281 37 = σ 239 3 := e19.1
  have h11 : 0 ≤ σ 239 3 ∧ σ 239 3 + σ 25 4 ≤ 2 * i := hM.1 11
  have h4 := hM.1 4
  have hc0 : 0 ≤ cnd σ := (smN_01 (fun i => bi_01 _) 100 0).1
  have hc : 0 ≤ σ 239 3 ∧ σ 239 3 ≤ 1024 := by have := h4.2.1; omega
  have p1 := sp_mIn (σ := σ) (x := x) (y := 1) (z := σ 239 3) hx (by unfold xr; omega) (by unfold xr; omega)
  have p2 := sp_mIn (σ := σ) (x := w) (y := 0) (z := 2) hw (by unfold xr; omega) (by unfold xr; omega)
  by_cases hh : 1 ≤ x ∧ x ≤ σ 239 3
  · rw [decide_eq_true hh] at p1
    by_cases hw2 : 0 ≤ w ∧ w ≤ 2
    · rw [decide_eq_true hw2] at p2
      refine STEP.read h (sp_change1 hc hh hw2) (σ2 := xu σ 281 47 0) ?_ (xu_same _ _ _ _) FP.rf F47s
      have q1 := e19.2 (x - 1) (by omega) (by omega)
      have r3 : xu σ 281 47 0 303 (x - 1) = σ 240 (x - 1) := by rw [xu_other _ _ _ (by decide)]; exact q1.1
      have r4 : xu σ 281 47 0 304 (x - 1) = σ 241 (x - 1) := by rw [xu_other _ _ _ (by decide)]; exact q1.2.1
      have r5 : xu σ 281 47 0 305 (x - 1) = σ 242 (x - 1) := by rw [xu_other _ _ _ (by decide)]; exact q1.2.2
      refine e_entry okX12_change (Nat.le_of_ble_eq_true rfl) (ls := [some _, some _, some _]) rfl ?_
      refine e_aload_n 0 1 rfl rfl rfl rfl ?_
      refine e_iload_n 1 2 rfl rfl rfl rfl ?_
      refine e_iconst 2 3 rfl rfl ?_
      refine e_aload_n 3 4 rfl rfl rfl rfl ?_
      refine g_getI 4 7 37 ckX12 flX12_220 rfl rfl (Nat.le_of_ble_eq_true rfl) rfl rfl rfl e4 ?_
      refine g_callS 5 10 (p1) okX12_in csX12_175 ⟨(Nat.le_of_ble_eq_true rfl), (Nat.le_of_ble_eq_true rfl)⟩ rfl rfl rfl rfl (Nat.le_of_ble_eq_true rfl) (Nat.le_of_ble_eq_true rfl) (Nat.le_of_ble_eq_true rfl) ?_
      refine e_iload_n 6 11 rfl rfl rfl rfl ?_
      refine e_iconst 7 12 rfl rfl ?_
      refine e_iconst 8 13 rfl rfl ?_
      refine g_callS 9 16 (p2) okX12_in csX12_175 ⟨(Nat.le_of_ble_eq_true rfl), (Nat.le_of_ble_eq_true rfl)⟩ rfl rfl rfl rfl (Nat.le_of_ble_eq_true rfl) (Nat.le_of_ble_eq_true rfl) (Nat.le_of_ble_eq_true rfl) ?_
      refine e_iconst 10 17 rfl rfl ?_
      refine g_callV 11 20 (sp_mGoes (a := true) (b := true) (c := true)) okX12_goes cvX12_167 ⟨(Nat.le_of_ble_eq_true rfl), (Nat.le_of_ble_eq_true rfl)⟩ rfl rfl (Nat.le_of_ble_eq_true rfl) rfl rfl rfl rfl rfl (Nat.le_of_ble_eq_true rfl) (Nat.le_of_ble_eq_true rfl) (Nat.le_of_ble_eq_true rfl) ?_
      refine e_ifb_ne 12 25 23 rfl rfl rfl (fun hb => ?_) (fun hb => ?_)
      · skip
        refine e_iload_n 15 26 rfl rfl rfl rfl ?_
        refine e_if_ne 16 40 29 rfl rfl rfl (by unfold xr at *; omega) (fun h1 => ?_) (fun h1 => ?_)
        · skip
          rw [if_neg h1]
          refine e_iload_n 24 41 rfl rfl rfl rfl ?_
          refine e_iconst 25 42 rfl rfl ?_
          refine e_icmp_ne 26 56 45 rfl rfl rfl (by unfold xr at *; omega) (by unfold xr at *; omega) (fun h2 => ?_) (fun h2 => ?_)
          · skip
            rw [if_neg h2]
            refine e_aload_n 34 57 rfl rfl rfl rfl ?_
            refine g_getR 35 60 ckX12 flX12_88 rfl rfl (Nat.le_of_ble_eq_true rfl) rfl rfl ?_
            refine e_iload_n 36 61 rfl rfl rfl rfl ?_
            refine e_iconst 37 62 rfl rfl ?_
            refine e_isub 38 63 rfl rfl ?_
            refine g_iaload 39 64 rfl rfl (Nat.le_of_ble_eq_true rfl) rfl (by omega) (by omega) (by omega) r5 ?_
            exact e_ireturn 40 rfl rfl (Nat.le_of_ble_eq_true rfl) (Nat.le_of_ble_eq_true rfl)
          · skip
            rw [if_pos h2]
            refine e_aload_n 27 46 rfl rfl rfl rfl ?_
            refine g_getR 28 49 ckX12 flX12_85 rfl rfl (Nat.le_of_ble_eq_true rfl) rfl rfl ?_
            refine e_iload_n 29 50 rfl rfl rfl rfl ?_
            refine e_iconst 30 51 rfl rfl ?_
            refine e_isub 31 52 rfl rfl ?_
            refine g_iaload 32 53 rfl rfl (Nat.le_of_ble_eq_true rfl) rfl (by omega) (by omega) (by omega) r4 ?_
            refine e_goto 33 64 rfl rfl ?_
            exact e_ireturn 40 rfl rfl (Nat.le_of_ble_eq_true rfl) (Nat.le_of_ble_eq_true rfl)
        · skip
          rw [if_pos h1]
          refine e_aload_n 17 30 rfl rfl rfl rfl ?_
          refine g_getR 18 33 ckX12 flX12_82 rfl rfl (Nat.le_of_ble_eq_true rfl) rfl rfl ?_
          refine e_iload_n 19 34 rfl rfl rfl rfl ?_
          refine e_iconst 20 35 rfl rfl ?_
          refine e_isub 21 36 rfl rfl ?_
          refine g_iaload 22 37 rfl rfl (Nat.le_of_ble_eq_true rfl) rfl (by omega) (by omega) (by omega) r3 ?_
          refine e_goto 23 64 rfl rfl ?_
          exact e_ireturn 40 rfl rfl (Nat.le_of_ble_eq_true rfl) (Nat.le_of_ble_eq_true rfl)
      · skip
        cases hb
    · rw [decide_eq_false hw2] at p2
      refine STEP.refuse h 2 (by simp) (sp_changeX2 hc hw hh hw2) (σ2 := xu σ 281 47 2) (y := 0) ?_ (xu_same _ _ _ _) F47s
      refine e_entry okX12_change (Nat.le_of_ble_eq_true rfl) (ls := [some _, some _, some _]) rfl ?_
      refine e_aload_n 0 1 rfl rfl rfl rfl ?_
      refine e_iload_n 1 2 rfl rfl rfl rfl ?_
      refine e_iconst 2 3 rfl rfl ?_
      refine e_aload_n 3 4 rfl rfl rfl rfl ?_
      refine g_getI 4 7 37 ckX12 flX12_220 rfl rfl (Nat.le_of_ble_eq_true rfl) rfl rfl rfl e4 ?_
      refine g_callS 5 10 (p1) okX12_in csX12_175 ⟨(Nat.le_of_ble_eq_true rfl), (Nat.le_of_ble_eq_true rfl)⟩ rfl rfl rfl rfl (Nat.le_of_ble_eq_true rfl) (Nat.le_of_ble_eq_true rfl) (Nat.le_of_ble_eq_true rfl) ?_
      refine e_iload_n 6 11 rfl rfl rfl rfl ?_
      refine e_iconst 7 12 rfl rfl ?_
      refine e_iconst 8 13 rfl rfl ?_
      refine g_callS 9 16 (p2) okX12_in csX12_175 ⟨(Nat.le_of_ble_eq_true rfl), (Nat.le_of_ble_eq_true rfl)⟩ rfl rfl rfl rfl (Nat.le_of_ble_eq_true rfl) (Nat.le_of_ble_eq_true rfl) (Nat.le_of_ble_eq_true rfl) ?_
      refine e_iconst 10 17 rfl rfl ?_
      refine g_callV 11 20 (sp_mGoes (a := true) (b := false) (c := true)) okX12_goes cvX12_167 ⟨(Nat.le_of_ble_eq_true rfl), (Nat.le_of_ble_eq_true rfl)⟩ rfl rfl (Nat.le_of_ble_eq_true rfl) rfl rfl rfl rfl rfl (Nat.le_of_ble_eq_true rfl) (Nat.le_of_ble_eq_true rfl) (Nat.le_of_ble_eq_true rfl) ?_
      refine e_ifb_ne 12 25 23 rfl rfl rfl (fun hb => ?_) (fun hb => ?_)
      · skip
        cases hb
      · skip
        refine e_iconst 13 24 rfl rfl ?_
        exact e_ireturn 14 rfl rfl (Nat.le_of_ble_eq_true rfl) (Nat.le_of_ble_eq_true rfl)
  · rw [decide_eq_false hh] at p1
    refine STEP.refuse h 1 (by simp) (sp_changeX hc hx hh) (σ2 := xu σ 281 47 1) (y := 0) ?_ (xu_same _ _ _ _) F47s
    refine e_entry okX12_change (Nat.le_of_ble_eq_true rfl) (ls := [some _, some _, some _]) rfl ?_
    refine e_aload_n 0 1 rfl rfl rfl rfl ?_
    refine e_iload_n 1 2 rfl rfl rfl rfl ?_
    refine e_iconst 2 3 rfl rfl ?_
    refine e_aload_n 3 4 rfl rfl rfl rfl ?_
    refine g_getI 4 7 37 ckX12 flX12_220 rfl rfl (Nat.le_of_ble_eq_true rfl) rfl rfl rfl e4 ?_
    refine g_callS 5 10 (p1) okX12_in csX12_175 ⟨(Nat.le_of_ble_eq_true rfl), (Nat.le_of_ble_eq_true rfl)⟩ rfl rfl rfl rfl (Nat.le_of_ble_eq_true rfl) (Nat.le_of_ble_eq_true rfl) (Nat.le_of_ble_eq_true rfl) ?_
    refine e_iload_n 6 11 rfl rfl rfl rfl ?_
    refine e_iconst 7 12 rfl rfl ?_
    refine e_iconst 8 13 rfl rfl ?_
    refine g_callS 9 16 (p2) okX12_in csX12_175 ⟨(Nat.le_of_ble_eq_true rfl), (Nat.le_of_ble_eq_true rfl)⟩ rfl rfl rfl rfl (Nat.le_of_ble_eq_true rfl) (Nat.le_of_ble_eq_true rfl) (Nat.le_of_ble_eq_true rfl) ?_
    refine e_iconst 10 17 rfl rfl ?_
    refine g_callV 11 20 (sp_mGoes (a := false) (b := decide (0 ≤ w ∧ w ≤ 2)) (c := true)) okX12_goes cvX12_167 ⟨(Nat.le_of_ble_eq_true rfl), (Nat.le_of_ble_eq_true rfl)⟩ rfl rfl (Nat.le_of_ble_eq_true rfl) rfl rfl rfl rfl rfl (Nat.le_of_ble_eq_true rfl) (Nat.le_of_ble_eq_true rfl) (Nat.le_of_ble_eq_true rfl) ?_
    refine e_ifb_ne 12 25 23 rfl rfl rfl (fun hb => ?_) (fun hb => ?_)
    · skip
      cases hb
    · skip
      refine e_iconst 13 24 rfl rfl ?_
      exact e_ireturn 14 rfl rfl (Nat.le_of_ble_eq_true rfl) (Nat.le_of_ble_eq_true rfl)
theorem st_router {i : Nat} {σ : xSig} (h : INV i σ) {r w : Int} (hr : xr r) (hw : xr w) : STEP i MX11_router MX12_router iv [nIAE] [.int (ii r), .int (ii w)] σ := by
  have hM := h
  obtain ⟨T, G, hA, hM⟩ := hM
  have e18 := hM.2 18
  have p1 := sp_mIn (σ := σ) (x := r) (y := 0) (z := 1) hr (by unfold xr; omega) (by unfold xr; omega)
  have p2 := sp_mIn (σ := σ) (x := w) (y := 0) (z := 1) hw (by unfold xr; omega) (by unfold xr; omega)
  by_cases hh : (0 ≤ r ∧ r < 2) ∧ 0 ≤ w ∧ w ≤ 1
  · rw [decide_eq_true (by omega)] at p1 p2
    refine STEP.read h (sp_router1 hh.1 hh.2) (σ2 := xu σ 281 47 0) ?_ (xu_same _ _ _ _) FP.rf F47s
    have q := e18 r (by omega) (by omega)
    have r1 : xu σ 281 47 0 301 r = σ 236 r := by rw [xu_other _ _ _ (by decide)]; exact q.1
    have r2 : xu σ 281 47 0 302 r = σ 237 r := by rw [xu_other _ _ _ (by decide)]; exact q.2
    refine e_entry okX12_router (Nat.le_of_ble_eq_true rfl) (ls := [some _, some _, some _]) rfl ?_
    refine e_aload_n 0 1 rfl rfl rfl rfl ?_
    refine e_iload_n 1 2 rfl rfl rfl rfl ?_
    refine e_iconst 2 3 rfl rfl ?_
    refine e_iconst 3 4 rfl rfl ?_
    refine g_callS 4 7 (p1) okX12_in csX12_175 ⟨(Nat.le_of_ble_eq_true rfl), (Nat.le_of_ble_eq_true rfl)⟩ rfl rfl rfl rfl (Nat.le_of_ble_eq_true rfl) (Nat.le_of_ble_eq_true rfl) (Nat.le_of_ble_eq_true rfl) ?_
    refine e_ifb_eq 5 23 10 rfl rfl rfl (fun hb => ?_) (fun hb => ?_)
    · skip
      cases hb
    · skip
      refine e_iload_n 6 11 rfl rfl rfl rfl ?_
      refine e_iconst 7 12 rfl rfl ?_
      refine e_iconst 8 13 rfl rfl ?_
      refine g_callS 9 16 (p2) okX12_in csX12_175 ⟨(Nat.le_of_ble_eq_true rfl), (Nat.le_of_ble_eq_true rfl)⟩ rfl rfl rfl rfl (Nat.le_of_ble_eq_true rfl) (Nat.le_of_ble_eq_true rfl) (Nat.le_of_ble_eq_true rfl) ?_
      refine e_ifb_eq 10 23 19 rfl rfl rfl (fun hb => ?_) (fun hb => ?_)
      · skip
        cases hb
      · skip
        refine e_iconst 11 20 rfl rfl ?_
        refine e_goto 12 24 rfl rfl ?_
        refine e_iconst 14 25 rfl rfl ?_
        refine e_iconst 15 26 rfl rfl ?_
        refine g_callV 16 29 (sp_mGoes (a := true) (b := true) (c := true)) okX12_goes cvX12_167 ⟨(Nat.le_of_ble_eq_true rfl), (Nat.le_of_ble_eq_true rfl)⟩ rfl rfl (Nat.le_of_ble_eq_true rfl) rfl rfl rfl rfl rfl (Nat.le_of_ble_eq_true rfl) (Nat.le_of_ble_eq_true rfl) (Nat.le_of_ble_eq_true rfl) ?_
        refine e_ifb_eq 17 54 32 rfl rfl rfl (fun hb => ?_) (fun hb => ?_)
        · skip
          cases hb
        · skip
          refine e_iload_n 18 33 rfl rfl rfl rfl ?_
          refine e_if_ne 19 45 36 rfl rfl rfl (by unfold xr at *; omega) (fun h1 => ?_) (fun h1 => ?_)
          · skip
            rw [if_neg h1]
            refine e_aload_n 25 46 rfl rfl rfl rfl ?_
            refine g_getR 26 49 ckX12 flX12_79 rfl rfl (Nat.le_of_ble_eq_true rfl) rfl rfl ?_
            refine e_iload_n 27 50 rfl rfl rfl rfl ?_
            refine g_iaload 28 51 rfl rfl (Nat.le_of_ble_eq_true rfl) rfl (by omega) (by omega) (by omega) r2 ?_
            refine e_goto 29 55 rfl rfl ?_
            exact e_ireturn 31 rfl rfl (Nat.le_of_ble_eq_true rfl) (Nat.le_of_ble_eq_true rfl)
          · skip
            rw [if_pos h1]
            refine e_aload_n 20 37 rfl rfl rfl rfl ?_
            refine g_getR 21 40 ckX12 flX12_76 rfl rfl (Nat.le_of_ble_eq_true rfl) rfl rfl ?_
            refine e_iload_n 22 41 rfl rfl rfl rfl ?_
            refine g_iaload 23 42 rfl rfl (Nat.le_of_ble_eq_true rfl) rfl (by omega) (by omega) (by omega) r1 ?_
            refine e_goto 24 55 rfl rfl ?_
            exact e_ireturn 31 rfl rfl (Nat.le_of_ble_eq_true rfl) (Nat.le_of_ble_eq_true rfl)
  · refine STEP.refuse h 1 (by simp) (sp_routerX hr hw hh) (σ2 := xu σ 281 47 1) (y := 0) ?_ (xu_same _ _ _ _) F47s
    have fin : x_E MX12_router 0 0 24 [some (.ref 281), some (.int (ii r)), some (.int (ii w))] [.int (ii 0), .ref 281] (St σ) 0 0 (iv 0) (St (xu σ 281 47 1)) := by
      refine e_iconst 14 25 rfl rfl ?_
      refine e_iconst 15 26 rfl rfl ?_
      refine g_callV 16 29 (sp_mGoes (a := false) (b := true) (c := true)) okX12_goes cvX12_167 ⟨(Nat.le_of_ble_eq_true rfl), (Nat.le_of_ble_eq_true rfl)⟩ rfl rfl (Nat.le_of_ble_eq_true rfl) rfl rfl rfl rfl rfl (Nat.le_of_ble_eq_true rfl) (Nat.le_of_ble_eq_true rfl) (Nat.le_of_ble_eq_true rfl) ?_
      refine e_ifb_eq 17 54 32 rfl rfl rfl (fun hb => ?_) (fun hb => ?_)
      · skip
        refine e_iconst 30 55 rfl rfl ?_
        exact e_ireturn 31 rfl rfl (Nat.le_of_ble_eq_true rfl) (Nat.le_of_ble_eq_true rfl)
      · skip
        cases hb
    refine e_entry okX12_router (Nat.le_of_ble_eq_true rfl) (ls := [some _, some _, some _]) rfl ?_
    refine e_aload_n 0 1 rfl rfl rfl rfl ?_
    refine e_iload_n 1 2 rfl rfl rfl rfl ?_
    refine e_iconst 2 3 rfl rfl ?_
    refine e_iconst 3 4 rfl rfl ?_
    refine g_callS 4 7 (p1) okX12_in csX12_175 ⟨(Nat.le_of_ble_eq_true rfl), (Nat.le_of_ble_eq_true rfl)⟩ rfl rfl rfl rfl (Nat.le_of_ble_eq_true rfl) (Nat.le_of_ble_eq_true rfl) (Nat.le_of_ble_eq_true rfl) ?_
    refine e_ifb_eq 5 23 10 rfl rfl rfl (fun hb => ?_) (fun hb => ?_)
    · skip
      refine e_iconst 13 24 rfl rfl ?_
      exact fin
    · skip
      have hb1 := of_decide_eq_true hb
      refine e_iload_n 6 11 rfl rfl rfl rfl ?_
      refine e_iconst 7 12 rfl rfl ?_
      refine e_iconst 8 13 rfl rfl ?_
      refine g_callS 9 16 (p2) okX12_in csX12_175 ⟨(Nat.le_of_ble_eq_true rfl), (Nat.le_of_ble_eq_true rfl)⟩ rfl rfl rfl rfl (Nat.le_of_ble_eq_true rfl) (Nat.le_of_ble_eq_true rfl) (Nat.le_of_ble_eq_true rfl) ?_
      refine e_ifb_eq 10 23 19 rfl rfl rfl (fun hb => ?_) (fun hb => ?_)
      · skip
        refine e_iconst 13 24 rfl rfl ?_
        exact fin
      · skip
        have hb2 := of_decide_eq_true hb
        omega
theorem st_expire {i : Nat} {σ : xSig} (h : INV i σ) {f : Int} (hf : xr f) : STEP i MX11_expire MX12_expire iv [nIAE] [.int (ii f)] σ := by
  have hM := h
  obtain ⟨T, G, hA, hM⟩ := hM
  have e20 : σ 281 38 = σ 0 8 := hM.2 20
  have p1 := sp_mIn (σ := xu σ 0 8 f) (x := f) (y := -1) (z := 7) hf (by unfold xr; omega) (by unfold xr; omega)
  by_cases hh : -1 ≤ f ∧ f < 8
  · rw [decide_eq_true (by omega)] at p1
    have r1 : xu (xu σ 0 8 f) 281 47 0 281 38 = σ 281 38 := by simp [xu]
    refine ⟨_, xu (xu (xu σ 0 8 f) 281 47 0) 281 38 f, 0, _, _, ⟨by omega, by simp⟩, fun _ => sp_expire1 hh, fun q => absurd rfl q, (?_ : x_Sp MX12_expire 0 0 _ _ (iv (σ 281 38)) _), by simp [xu], fun _ => e20, ?_⟩
    · skip
      refine e_entry okX12_expire (Nat.le_of_ble_eq_true rfl) (ls := [some _, some _, none]) rfl ?_
      refine e_aload_n 0 1 rfl rfl rfl rfl ?_
      refine e_iload_n 1 2 rfl rfl rfl rfl ?_
      refine e_iconst 2 3 rfl rfl ?_
      refine e_bipush 3 5 rfl rfl rfl ?_
      refine g_callS 4 8 (p1) okX12_in csX12_175 ⟨(Nat.le_of_ble_eq_true rfl), (Nat.le_of_ble_eq_true rfl)⟩ rfl rfl rfl rfl (Nat.le_of_ble_eq_true rfl) (Nat.le_of_ble_eq_true rfl) (Nat.le_of_ble_eq_true rfl) ?_
      refine e_iconst 5 9 rfl rfl ?_
      refine e_iconst 6 10 rfl rfl ?_
      refine g_callV 7 13 (sp_mGoes (a := true) (b := true) (c := true)) okX12_goes cvX12_167 ⟨(Nat.le_of_ble_eq_true rfl), (Nat.le_of_ble_eq_true rfl)⟩ rfl rfl (Nat.le_of_ble_eq_true rfl) rfl rfl rfl rfl rfl (Nat.le_of_ble_eq_true rfl) (Nat.le_of_ble_eq_true rfl) (Nat.le_of_ble_eq_true rfl) ?_
      refine e_ifb_ne 8 18 16 rfl rfl rfl (fun hb => ?_) (fun hb => ?_)
      · skip
        refine e_aload_n 11 19 rfl rfl rfl rfl ?_
        refine g_getI 12 22 38 ckX12 flX12_91 rfl rfl (Nat.le_of_ble_eq_true rfl) rfl rfl rfl r1 ?_
        refine e_istore_n 13 23 (ls' := [some _, some _, some _]) rfl rfl rfl (Nat.le_of_ble_eq_true rfl) rfl ?_
        refine e_aload_n 14 24 rfl rfl rfl rfl ?_
        refine e_iload_n 15 25 rfl rfl rfl rfl ?_
        refine g_putI 16 28 38 ckX12 flX12_91 rfl rfl (Nat.le_of_ble_eq_true rfl) rfl rfl rfl ?_
        refine e_iload_n 17 29 rfl rfl rfl rfl ?_
        exact e_ireturn 18 rfl rfl (Nat.le_of_ble_eq_true rfl) (Nat.le_of_ble_eq_true rfl)
      · skip
        cases hb
    · refine INV.go [(0, 8), (281, 47), (281, 38)] [13] [20] hA hM (((FP.rf.put rfl).put rfl).put rfl) (by decide +kernel) rfl rfl (alc ?_ al0) (alc ?_ al0)
      · have q : (-1 ≤ σ 0 8 ∧ σ 0 8 < 8) ∧ (0 ≤ σ 0 9 ∧ σ 0 9 ≤ 20 * i) := hM.1 13
        refine ⟨?_, ?_⟩
        · simp [xu]; omega
        · simp [xu]; omega
      · show xu (xu (xu σ 0 8 f) 281 47 0) 281 38 f 281 38 = xu (xu (xu σ 0 8 f) 281 47 0) 281 38 f 0 8
        simp [xu]
  · have p2 := sp_mIn (σ := σ) (x := f) (y := -1) (z := 7) hf (by unfold xr; omega) (by unfold xr; omega)
    rw [decide_eq_false (by omega)] at p2
    refine STEP.refuse h 1 (by simp) (sp_expireX hf hh) (σ2 := xu σ 281 47 1) (y := 0) ?_ (xu_same _ _ _ _) F47s
    refine e_entry okX12_expire (Nat.le_of_ble_eq_true rfl) (ls := [some _, some _, none]) rfl ?_
    refine e_aload_n 0 1 rfl rfl rfl rfl ?_
    refine e_iload_n 1 2 rfl rfl rfl rfl ?_
    refine e_iconst 2 3 rfl rfl ?_
    refine e_bipush 3 5 rfl rfl rfl ?_
    refine g_callS 4 8 (p2) okX12_in csX12_175 ⟨(Nat.le_of_ble_eq_true rfl), (Nat.le_of_ble_eq_true rfl)⟩ rfl rfl rfl rfl (Nat.le_of_ble_eq_true rfl) (Nat.le_of_ble_eq_true rfl) (Nat.le_of_ble_eq_true rfl) ?_
    refine e_iconst 5 9 rfl rfl ?_
    refine e_iconst 6 10 rfl rfl ?_
    refine g_callV 7 13 (sp_mGoes (a := false) (b := true) (c := true)) okX12_goes cvX12_167 ⟨(Nat.le_of_ble_eq_true rfl), (Nat.le_of_ble_eq_true rfl)⟩ rfl rfl (Nat.le_of_ble_eq_true rfl) rfl rfl rfl rfl rfl (Nat.le_of_ble_eq_true rfl) (Nat.le_of_ble_eq_true rfl) (Nat.le_of_ble_eq_true rfl) ?_
    refine e_ifb_ne 8 18 16 rfl rfl rfl (fun hb => ?_) (fun hb => ?_)
    · skip
      cases hb
    · skip
      refine e_iconst 9 17 rfl rfl ?_
      exact e_ireturn 10 rfl rfl (Nat.le_of_ble_eq_true rfl) (Nat.le_of_ble_eq_true rfl)
theorem st_clean {i : Nat} {σ : xSig} (h : INV i σ) {s : Int} (hs : xr s) : STEP i MX11_clean MX12_clean iv [nIAE] [.int (ii s)] σ := by
  have hM := h
  obtain ⟨T, G, hA, hM⟩ := hM
  have e15 := hM.2 15
  by_cases hh : 0 ≤ s ∧ s < 3
  · have p1 := sp_mIn (σ := xu σ 234 s 0) (x := s) (y := 0) (z := 2) hs (by unfold xr; omega) (by unfold xr; omega)
    rw [decide_eq_true (by omega)] at p1
    have r1 : xu (xu σ 234 s 0) 281 47 0 300 s = σ 300 s := by simp [xu]
    refine ⟨_, xu (xu (xu σ 234 s 0) 281 47 0) 300 s 0, 0, _, _, ⟨by omega, by simp⟩, fun _ => sp_clean1 hh, fun q => absurd rfl q, (?_ : x_Sp MX12_clean 0 0 _ _ (iv (σ 300 s)) _), by simp [xu], fun _ => e15 s hh.1 hh.2, ?_⟩
    · skip
      refine e_entry okX12_clean (Nat.le_of_ble_eq_true rfl) (ls := [some _, some _, none]) rfl ?_
      refine e_aload_n 0 1 rfl rfl rfl rfl ?_
      refine e_iload_n 1 2 rfl rfl rfl rfl ?_
      refine e_iconst 2 3 rfl rfl ?_
      refine e_iconst 3 4 rfl rfl ?_
      refine g_callS 4 7 (p1) okX12_in csX12_175 ⟨(Nat.le_of_ble_eq_true rfl), (Nat.le_of_ble_eq_true rfl)⟩ rfl rfl rfl rfl (Nat.le_of_ble_eq_true rfl) (Nat.le_of_ble_eq_true rfl) (Nat.le_of_ble_eq_true rfl) ?_
      refine e_iconst 5 8 rfl rfl ?_
      refine e_iconst 6 9 rfl rfl ?_
      refine g_callV 7 12 (sp_mGoes (a := true) (b := true) (c := true)) okX12_goes cvX12_167 ⟨(Nat.le_of_ble_eq_true rfl), (Nat.le_of_ble_eq_true rfl)⟩ rfl rfl (Nat.le_of_ble_eq_true rfl) rfl rfl rfl rfl rfl (Nat.le_of_ble_eq_true rfl) (Nat.le_of_ble_eq_true rfl) (Nat.le_of_ble_eq_true rfl) ?_
      refine e_ifb_ne 8 17 15 rfl rfl rfl (fun hb => ?_) (fun hb => ?_)
      · skip
        refine e_aload_n 11 18 rfl rfl rfl rfl ?_
        refine g_getR 12 21 ckX12 flX12_70 rfl rfl (Nat.le_of_ble_eq_true rfl) rfl rfl ?_
        refine e_iload_n 13 22 rfl rfl rfl rfl ?_
        refine g_iaload 14 23 rfl rfl (Nat.le_of_ble_eq_true rfl) rfl (by omega) (by omega) (by omega) r1 ?_
        refine e_istore_n 15 24 (ls' := [some _, some _, some _]) rfl rfl rfl (Nat.le_of_ble_eq_true rfl) rfl ?_
        refine e_aload_n 16 25 rfl rfl rfl rfl ?_
        refine g_getR 17 28 ckX12 flX12_70 rfl rfl (Nat.le_of_ble_eq_true rfl) rfl rfl ?_
        refine e_iload_n 18 29 rfl rfl rfl rfl ?_
        refine e_iconst 19 30 rfl rfl ?_
        refine g_iastore 20 31 rfl rfl (Nat.le_of_ble_eq_true rfl) rfl (by omega) (by omega) (by omega) ?_
        refine e_iload_n 21 32 rfl rfl rfl rfl ?_
        exact e_ireturn 22 rfl rfl (Nat.le_of_ble_eq_true rfl) (Nat.le_of_ble_eq_true rfl)
      · skip
        cases hb
    · refine INV.go [(234, -1), (281, 47), (300, -1)] [] [15] hA hM (((FP.rf.putA rfl).put rfl).putA rfl) (by decide +kernel) rfl rfl al0 (alc ?_ al0)
      intro s2 h0 h3
      have q := e15 s2 h0 h3
      simp only [xu]
      by_cases e : s2 = s
      · simp [e]
      · simp [e, q]
  · have p2 := sp_mIn (σ := σ) (x := s) (y := 0) (z := 2) hs (by unfold xr; omega) (by unfold xr; omega)
    rw [decide_eq_false (by omega)] at p2
    refine STEP.refuse h 1 (by simp) (sp_cleanX hs hh) (σ2 := xu σ 281 47 1) (y := 0) ?_ (xu_same _ _ _ _) F47s
    refine e_entry okX12_clean (Nat.le_of_ble_eq_true rfl) (ls := [some _, some _, none]) rfl ?_
    refine e_aload_n 0 1 rfl rfl rfl rfl ?_
    refine e_iload_n 1 2 rfl rfl rfl rfl ?_
    refine e_iconst 2 3 rfl rfl ?_
    refine e_iconst 3 4 rfl rfl ?_
    refine g_callS 4 7 (p2) okX12_in csX12_175 ⟨(Nat.le_of_ble_eq_true rfl), (Nat.le_of_ble_eq_true rfl)⟩ rfl rfl rfl rfl (Nat.le_of_ble_eq_true rfl) (Nat.le_of_ble_eq_true rfl) (Nat.le_of_ble_eq_true rfl) ?_
    refine e_iconst 5 8 rfl rfl ?_
    refine e_iconst 6 9 rfl rfl ?_
    refine g_callV 7 12 (sp_mGoes (a := false) (b := true) (c := true)) okX12_goes cvX12_167 ⟨(Nat.le_of_ble_eq_true rfl), (Nat.le_of_ble_eq_true rfl)⟩ rfl rfl (Nat.le_of_ble_eq_true rfl) rfl rfl rfl rfl rfl (Nat.le_of_ble_eq_true rfl) (Nat.le_of_ble_eq_true rfl) (Nat.le_of_ble_eq_true rfl) ?_
    refine e_ifb_ne 8 17 15 rfl rfl rfl (fun hb => ?_) (fun hb => ?_)
    · skip
      cases hb
    · skip
      refine e_iconst 9 16 rfl rfl ?_
      exact e_ireturn 10 rfl rfl (Nat.le_of_ble_eq_true rfl) (Nat.le_of_ble_eq_true rfl)
theorem st_plan {i : Nat} {σ : xSig} (h : INV i σ) {w : Int} (hw : xr w) : STEP i MX11_plan MX12_plan iv [nIAE] [.int (ii w)] σ := by
  have hM := h
  obtain ⟨T, G, hA, hM⟩ := hM
  have e10 := hM.2 10
  have e9 : σ 281 18 = σ 248 6 := (hM.2 9).1
  have k9 := (hM.1 9).2.1
  have p1 := sp_mIn (σ := σ) (x := w) (y := 0) (z := 4) hw (by unfold xr; omega) (by unfold xr; omega)
  by_cases hh : 0 ≤ w ∧ w ≤ 4
  · rw [decide_eq_true (by omega)] at p1
    refine STEP.read h (sp_plan1 k9 hh) (σ2 := xu σ 281 47 0) ?_ (xu_same _ _ _ _) FP.rf F47s
    have r1 : xu σ 281 47 0 281 18 = σ 248 6 := by rw [← e9]; simp [xu]
    have r2 : ¬ w = 4 → xu σ 281 47 0 295 w = if w = 0 then σ 256 6 else if w = 1 then σ 256 7 else if w = 2 then σ 256 8 else σ 256 9 := by
      intro hne
      rw [xu_other _ _ _ (by decide)]
      rcases (by omega : w = 0 ∨ w = 1 ∨ w = 2 ∨ w = 3) with rfl | rfl | rfl | rfl
      · exact e10.1
      · exact e10.2.1
      · exact e10.2.2.1
      · exact e10.2.2.2
    refine e_entry okX12_plan (Nat.le_of_ble_eq_true rfl) (ls := [some _, some _]) rfl ?_
    refine e_aload_n 0 1 rfl rfl rfl rfl ?_
    refine e_iload_n 1 2 rfl rfl rfl rfl ?_
    refine e_iconst 2 3 rfl rfl ?_
    refine e_iconst 3 4 rfl rfl ?_
    refine g_callS 4 7 (p1) okX12_in csX12_175 ⟨(Nat.le_of_ble_eq_true rfl), (Nat.le_of_ble_eq_true rfl)⟩ rfl rfl rfl rfl (Nat.le_of_ble_eq_true rfl) (Nat.le_of_ble_eq_true rfl) (Nat.le_of_ble_eq_true rfl) ?_
    refine e_iconst 5 8 rfl rfl ?_
    refine e_iconst 6 9 rfl rfl ?_
    refine g_callV 7 12 (sp_mGoes (a := true) (b := true) (c := true)) okX12_goes cvX12_167 ⟨(Nat.le_of_ble_eq_true rfl), (Nat.le_of_ble_eq_true rfl)⟩ rfl rfl (Nat.le_of_ble_eq_true rfl) rfl rfl rfl rfl rfl (Nat.le_of_ble_eq_true rfl) (Nat.le_of_ble_eq_true rfl) (Nat.le_of_ble_eq_true rfl) ?_
    refine e_ifb_eq 8 36 15 rfl rfl rfl (fun hb => ?_) (fun hb => ?_)
    · skip
      cases hb
    · skip
      refine e_iload_n 9 16 rfl rfl rfl rfl ?_
      refine e_iconst 10 17 rfl rfl ?_
      refine e_icmp_ne 11 27 20 rfl rfl rfl (by unfold xr at *; omega) (by unfold xr at *; omega) (fun h1 => ?_) (fun h1 => ?_)
      · skip
        rw [if_neg h1]
        refine e_aload_n 15 28 rfl rfl rfl rfl ?_
        refine g_getR 16 31 ckX12 flX12_51 rfl rfl (Nat.le_of_ble_eq_true rfl) rfl rfl ?_
        refine e_iload_n 17 32 rfl rfl rfl rfl ?_
        refine g_iaload 18 33 rfl rfl (Nat.le_of_ble_eq_true rfl) rfl (by omega) (by omega) (by omega) (r2 h1) ?_
        refine e_goto 19 37 rfl rfl ?_
        exact e_ireturn 21 rfl rfl (Nat.le_of_ble_eq_true rfl) (Nat.le_of_ble_eq_true rfl)
      · skip
        rw [if_pos h1]
        refine e_aload_n 12 21 rfl rfl rfl rfl ?_
        refine g_getI 13 24 18 ckX12 flX12_270 rfl rfl (Nat.le_of_ble_eq_true rfl) rfl rfl rfl r1 ?_
        refine e_goto 14 37 rfl rfl ?_
        exact e_ireturn 21 rfl rfl (Nat.le_of_ble_eq_true rfl) (Nat.le_of_ble_eq_true rfl)
  · rw [decide_eq_false (by omega)] at p1
    refine STEP.refuse h 1 (by simp) (sp_planX hw hh) (σ2 := xu σ 281 47 1) (y := 0) ?_ (xu_same _ _ _ _) F47s
    refine e_entry okX12_plan (Nat.le_of_ble_eq_true rfl) (ls := [some _, some _]) rfl ?_
    refine e_aload_n 0 1 rfl rfl rfl rfl ?_
    refine e_iload_n 1 2 rfl rfl rfl rfl ?_
    refine e_iconst 2 3 rfl rfl ?_
    refine e_iconst 3 4 rfl rfl ?_
    refine g_callS 4 7 (p1) okX12_in csX12_175 ⟨(Nat.le_of_ble_eq_true rfl), (Nat.le_of_ble_eq_true rfl)⟩ rfl rfl rfl rfl (Nat.le_of_ble_eq_true rfl) (Nat.le_of_ble_eq_true rfl) (Nat.le_of_ble_eq_true rfl) ?_
    refine e_iconst 5 8 rfl rfl ?_
    refine e_iconst 6 9 rfl rfl ?_
    refine g_callV 7 12 (sp_mGoes (a := false) (b := true) (c := true)) okX12_goes cvX12_167 ⟨(Nat.le_of_ble_eq_true rfl), (Nat.le_of_ble_eq_true rfl)⟩ rfl rfl (Nat.le_of_ble_eq_true rfl) rfl rfl rfl rfl rfl (Nat.le_of_ble_eq_true rfl) (Nat.le_of_ble_eq_true rfl) (Nat.le_of_ble_eq_true rfl) ?_
    refine e_ifb_eq 8 36 15 rfl rfl rfl (fun hb => ?_) (fun hb => ?_)
    · skip
      refine e_iconst 20 37 rfl rfl ?_
      exact e_ireturn 21 rfl rfl (Nat.le_of_ble_eq_true rfl) (Nat.le_of_ble_eq_true rfl)
    · skip
      cases hb
theorem st_found {i : Nat} {σ : xSig} (h : INV i σ) {x : Int} (hx : xr x) : STEP i MX11_found MX12_found iv [nIOB] [.int (ii x)] σ := by
  have hM := h
  obtain ⟨T, G, hA, hM⟩ := hM
  have e11 := hM.2 11
  have k10 := (hM.1 10).1
  have p1 := sp_mIn (σ := σ) (x := x) (y := 0) (z := σ 256 5 - 1) hx (by unfold xr; omega) (by unfold xr; omega)
  by_cases hh : 0 ≤ x ∧ x < σ 256 5
  · rw [decide_eq_true (by omega)] at p1
    refine STEP.read h (sp_found1 k10 hh) (σ2 := xu σ 281 47 0) ?_ (xu_same _ _ _ _) FP.rf F47s
    have r2 : xu σ 281 47 0 296 x = σ 263 x := by
      rw [xu_other _ _ _ (by decide)]
      obtain ⟨m, rfl⟩ := Int.eq_ofNat_of_zero_le hh.1
      exact e11.2 m hh.2
    refine e_entry okX12_found (Nat.le_of_ble_eq_true rfl) (ls := [some _, some _]) rfl ?_
    refine e_aload_n 0 1 rfl rfl rfl rfl ?_
    refine e_iload_n 1 2 rfl rfl rfl rfl ?_
    refine e_iconst 2 3 rfl rfl ?_
    refine e_aload_n 3 4 rfl rfl rfl rfl ?_
    refine g_getI 4 7 21 ckX12 flX12_308 rfl rfl (Nat.le_of_ble_eq_true rfl) rfl rfl rfl e11.1 ?_
    refine e_iconst 5 8 rfl rfl ?_
    refine e_isub 6 9 rfl rfl ?_
    refine g_callS 7 12 (p1) okX12_in csX12_175 ⟨(Nat.le_of_ble_eq_true rfl), (Nat.le_of_ble_eq_true rfl)⟩ rfl rfl rfl rfl (Nat.le_of_ble_eq_true rfl) (Nat.le_of_ble_eq_true rfl) (Nat.le_of_ble_eq_true rfl) ?_
    refine e_iconst 8 13 rfl rfl ?_
    refine e_iconst 9 14 rfl rfl ?_
    refine g_callV 10 17 (sp_mGoes (a := true) (b := true) (c := true)) okX12_goes cvX12_167 ⟨(Nat.le_of_ble_eq_true rfl), (Nat.le_of_ble_eq_true rfl)⟩ rfl rfl (Nat.le_of_ble_eq_true rfl) rfl rfl rfl rfl rfl (Nat.le_of_ble_eq_true rfl) (Nat.le_of_ble_eq_true rfl) (Nat.le_of_ble_eq_true rfl) ?_
    refine e_ifb_eq 11 29 20 rfl rfl rfl (fun hb => ?_) (fun hb => ?_)
    · skip
      cases hb
    · skip
      refine e_aload_n 12 21 rfl rfl rfl rfl ?_
      refine g_getR 13 24 ckX12 flX12_54 rfl rfl (Nat.le_of_ble_eq_true rfl) rfl rfl ?_
      refine e_iload_n 14 25 rfl rfl rfl rfl ?_
      refine g_iaload 15 26 rfl rfl (Nat.le_of_ble_eq_true rfl) rfl (by omega) (by omega) (by omega) r2 ?_
      refine e_goto 16 30 rfl rfl ?_
      exact e_ireturn 18 rfl rfl (Nat.le_of_ble_eq_true rfl) (Nat.le_of_ble_eq_true rfl)
  · rw [decide_eq_false (by omega)] at p1
    refine STEP.refuse h 1 (by simp) (sp_foundX k10 hx hh) (σ2 := xu σ 281 47 1) (y := 0) ?_ (xu_same _ _ _ _) F47s
    refine e_entry okX12_found (Nat.le_of_ble_eq_true rfl) (ls := [some _, some _]) rfl ?_
    refine e_aload_n 0 1 rfl rfl rfl rfl ?_
    refine e_iload_n 1 2 rfl rfl rfl rfl ?_
    refine e_iconst 2 3 rfl rfl ?_
    refine e_aload_n 3 4 rfl rfl rfl rfl ?_
    refine g_getI 4 7 21 ckX12 flX12_308 rfl rfl (Nat.le_of_ble_eq_true rfl) rfl rfl rfl e11.1 ?_
    refine e_iconst 5 8 rfl rfl ?_
    refine e_isub 6 9 rfl rfl ?_
    refine g_callS 7 12 (p1) okX12_in csX12_175 ⟨(Nat.le_of_ble_eq_true rfl), (Nat.le_of_ble_eq_true rfl)⟩ rfl rfl rfl rfl (Nat.le_of_ble_eq_true rfl) (Nat.le_of_ble_eq_true rfl) (Nat.le_of_ble_eq_true rfl) ?_
    refine e_iconst 8 13 rfl rfl ?_
    refine e_iconst 9 14 rfl rfl ?_
    refine g_callV 10 17 (sp_mGoes (a := false) (b := true) (c := true)) okX12_goes cvX12_167 ⟨(Nat.le_of_ble_eq_true rfl), (Nat.le_of_ble_eq_true rfl)⟩ rfl rfl (Nat.le_of_ble_eq_true rfl) rfl rfl rfl rfl rfl (Nat.le_of_ble_eq_true rfl) (Nat.le_of_ble_eq_true rfl) (Nat.le_of_ble_eq_true rfl) ?_
    refine e_ifb_eq 11 29 20 rfl rfl rfl (fun hb => ?_) (fun hb => ?_)
    · skip
      refine e_iconst 17 30 rfl rfl ?_
      exact e_ireturn 18 rfl rfl (Nat.le_of_ble_eq_true rfl) (Nat.le_of_ble_eq_true rfl)
    · skip
      cases hb
theorem st_grouped {i : Nat} {σ : xSig} (h : INV i σ) {x w : Int} (hx : xr x) (hw : xr w) : STEP i MX11_grouped MX12_grouped lv9 [nIOB, nIAE] [.int (ii x), .int (ii w)] σ := by
  have hM := h
  obtain ⟨T, G, hA, hM⟩ := hM
  have e22 := hM.2 22
  have k14 := hM.1 14
  have p1 := sp_mIn (σ := σ) (x := x) (y := 0) (z := σ 273 6 - 1) hx (by unfold xr; omega) (by have := k14.1; unfold xr; omega)
  have p2 := sp_mIn (σ := σ) (x := w) (y := 0) (z := 2) hw (by unfold xr; omega) (by unfold xr; omega)
  by_cases hh : 0 ≤ x ∧ x < σ 273 6
  · rw [decide_eq_true (by omega)] at p1
    by_cases hw2 : 0 ≤ w ∧ w ≤ 2
    · rw [decide_eq_true hw2] at p2
      have k5 := k14.2 x hh.1 hh.2
      have h1440 := k14.1
      refine STEP.read (mk := lv9) h (sp_grouped1 k14.1 hh hw2 (by unfold xr; omega)) (σ2 := xu σ 281 47 0) ?_ (xu_same _ _ _ _) FP.rf F47s
      have q1 := e22.2 x hh.1 hh.2
      have r0 : xu σ 281 47 0 310 x = σ 274 x := by rw [xu_other _ _ _ (by decide)]; exact q1.2.2
      have r1 : xu σ 281 47 0 308 x = σ 275 x := by rw [xu_other _ _ _ (by decide)]; exact q1.1
      have r2 : xu σ 281 47 0 309 x = σ 276 x := by rw [xu_other _ _ _ (by decide)]; exact q1.2.1
      refine e_entry okX12_grouped (Nat.le_of_ble_eq_true rfl) (ls := [some _, some _, some _]) rfl ?_
      refine e_aload_n 0 1 rfl rfl rfl rfl ?_
      refine e_iload_n 1 2 rfl rfl rfl rfl ?_
      refine e_iconst 2 3 rfl rfl ?_
      refine e_aload_n 3 4 rfl rfl rfl rfl ?_
      refine g_getI 4 7 46 ckX12 flX12_314 rfl rfl (Nat.le_of_ble_eq_true rfl) rfl rfl rfl e22.1 ?_
      refine e_iconst 5 8 rfl rfl ?_
      refine e_isub 6 9 rfl rfl ?_
      refine g_callS 7 12 (p1) okX12_in csX12_175 ⟨(Nat.le_of_ble_eq_true rfl), (Nat.le_of_ble_eq_true rfl)⟩ rfl rfl rfl rfl (Nat.le_of_ble_eq_true rfl) (Nat.le_of_ble_eq_true rfl) (Nat.le_of_ble_eq_true rfl) ?_
      refine e_iload_n 8 13 rfl rfl rfl rfl ?_
      refine e_iconst 9 14 rfl rfl ?_
      refine e_iconst 10 15 rfl rfl ?_
      refine g_callS 11 18 (p2) okX12_in csX12_175 ⟨(Nat.le_of_ble_eq_true rfl), (Nat.le_of_ble_eq_true rfl)⟩ rfl rfl rfl rfl (Nat.le_of_ble_eq_true rfl) (Nat.le_of_ble_eq_true rfl) (Nat.le_of_ble_eq_true rfl) ?_
      refine e_iconst 12 19 rfl rfl ?_
      refine g_callV 13 22 (sp_mGoes (a := true) (b := true) (c := true)) okX12_goes cvX12_167 ⟨(Nat.le_of_ble_eq_true rfl), (Nat.le_of_ble_eq_true rfl)⟩ rfl rfl (Nat.le_of_ble_eq_true rfl) rfl rfl rfl rfl rfl (Nat.le_of_ble_eq_true rfl) (Nat.le_of_ble_eq_true rfl) (Nat.le_of_ble_eq_true rfl) ?_
      refine e_ifb_ne 14 27 25 rfl rfl rfl (fun hb => ?_) (fun hb => ?_)
      · skip
        refine e_iload_n 17 28 rfl rfl rfl rfl ?_
        refine e_if_ne 18 40 31 rfl rfl rfl (by unfold xr at *; omega) (fun h1 => ?_) (fun h1 => ?_)
        · skip
          refine e_iload_n 24 41 rfl rfl rfl rfl ?_
          refine e_iconst 25 42 rfl rfl ?_
          refine e_icmp_ne 26 55 45 rfl rfl rfl (by unfold xr at *; omega) (by unfold xr at *; omega) (fun h2 => ?_) (fun h2 => ?_)
          · skip
            rw [if_neg h1, if_neg h2]
            refine e_aload_n 33 56 rfl rfl rfl rfl ?_
            refine g_getR 34 59 ckX12 flX12_103 rfl rfl (Nat.le_of_ble_eq_true rfl) rfl rfl ?_
            refine e_iload_n 35 60 rfl rfl rfl rfl ?_
            refine g_laload 36 61 rfl rfl (Nat.le_of_ble_eq_true rfl) rfl (by omega) (by omega) (by omega) r2 ?_
            exact e_lreturn 37 rfl rfl (Nat.le_of_ble_eq_true rfl) (Nat.le_of_ble_eq_true rfl)
          · skip
            rw [if_neg h1, if_pos h2]
            refine e_aload_n 27 46 rfl rfl rfl rfl ?_
            refine g_getR 28 49 ckX12 flX12_100 rfl rfl (Nat.le_of_ble_eq_true rfl) rfl rfl ?_
            refine e_iload_n 29 50 rfl rfl rfl rfl ?_
            refine g_iaload 30 51 rfl rfl (Nat.le_of_ble_eq_true rfl) rfl (by omega) (by omega) (by omega) r1 ?_
            refine e_i2l 31 52 rfl rfl (by unfold xr at *; omega) ?_
            refine e_goto 32 61 rfl rfl ?_
            exact e_lreturn 37 rfl rfl (Nat.le_of_ble_eq_true rfl) (Nat.le_of_ble_eq_true rfl)
        · skip
          rw [if_pos h1]
          refine e_aload_n 19 32 rfl rfl rfl rfl ?_
          refine g_getR 20 35 ckX12 flX12_106 rfl rfl (Nat.le_of_ble_eq_true rfl) rfl rfl ?_
          refine e_iload_n 21 36 rfl rfl rfl rfl ?_
          refine g_laload 22 37 rfl rfl (Nat.le_of_ble_eq_true rfl) rfl (by omega) (by omega) (by omega) r0 ?_
          refine e_goto 23 61 rfl rfl ?_
          exact e_lreturn 37 rfl rfl (Nat.le_of_ble_eq_true rfl) (Nat.le_of_ble_eq_true rfl)
      · skip
        cases hb
    · rw [decide_eq_false hw2] at p2
      refine STEP.refuse h 2 (by simp) (sp_groupedX2 k14.1 hh hw hw2) (σ2 := xu σ 281 47 2) (y := 0) ?_ (xu_same _ _ _ _) F47s
      refine e_entry okX12_grouped (Nat.le_of_ble_eq_true rfl) (ls := [some _, some _, some _]) rfl ?_
      refine e_aload_n 0 1 rfl rfl rfl rfl ?_
      refine e_iload_n 1 2 rfl rfl rfl rfl ?_
      refine e_iconst 2 3 rfl rfl ?_
      refine e_aload_n 3 4 rfl rfl rfl rfl ?_
      refine g_getI 4 7 46 ckX12 flX12_314 rfl rfl (Nat.le_of_ble_eq_true rfl) rfl rfl rfl e22.1 ?_
      refine e_iconst 5 8 rfl rfl ?_
      refine e_isub 6 9 rfl rfl ?_
      refine g_callS 7 12 (p1) okX12_in csX12_175 ⟨(Nat.le_of_ble_eq_true rfl), (Nat.le_of_ble_eq_true rfl)⟩ rfl rfl rfl rfl (Nat.le_of_ble_eq_true rfl) (Nat.le_of_ble_eq_true rfl) (Nat.le_of_ble_eq_true rfl) ?_
      refine e_iload_n 8 13 rfl rfl rfl rfl ?_
      refine e_iconst 9 14 rfl rfl ?_
      refine e_iconst 10 15 rfl rfl ?_
      refine g_callS 11 18 (p2) okX12_in csX12_175 ⟨(Nat.le_of_ble_eq_true rfl), (Nat.le_of_ble_eq_true rfl)⟩ rfl rfl rfl rfl (Nat.le_of_ble_eq_true rfl) (Nat.le_of_ble_eq_true rfl) (Nat.le_of_ble_eq_true rfl) ?_
      refine e_iconst 12 19 rfl rfl ?_
      refine g_callV 13 22 (sp_mGoes (a := true) (b := false) (c := true)) okX12_goes cvX12_167 ⟨(Nat.le_of_ble_eq_true rfl), (Nat.le_of_ble_eq_true rfl)⟩ rfl rfl (Nat.le_of_ble_eq_true rfl) rfl rfl rfl rfl rfl (Nat.le_of_ble_eq_true rfl) (Nat.le_of_ble_eq_true rfl) (Nat.le_of_ble_eq_true rfl) ?_
      refine e_ifb_ne 14 27 25 rfl rfl rfl (fun hb => ?_) (fun hb => ?_)
      · skip
        cases hb
      · skip
        refine e_lconst 15 26 rfl rfl ?_
        exact e_lreturn 16 rfl rfl (Nat.le_of_ble_eq_true rfl) (Nat.le_of_ble_eq_true rfl)
  · rw [decide_eq_false (by omega)] at p1
    refine STEP.refuse h 1 (by simp) (sp_groupedX k14.1 hx hh) (σ2 := xu σ 281 47 1) (y := 0) ?_ (xu_same _ _ _ _) F47s
    refine e_entry okX12_grouped (Nat.le_of_ble_eq_true rfl) (ls := [some _, some _, some _]) rfl ?_
    refine e_aload_n 0 1 rfl rfl rfl rfl ?_
    refine e_iload_n 1 2 rfl rfl rfl rfl ?_
    refine e_iconst 2 3 rfl rfl ?_
    refine e_aload_n 3 4 rfl rfl rfl rfl ?_
    refine g_getI 4 7 46 ckX12 flX12_314 rfl rfl (Nat.le_of_ble_eq_true rfl) rfl rfl rfl e22.1 ?_
    refine e_iconst 5 8 rfl rfl ?_
    refine e_isub 6 9 rfl rfl ?_
    refine g_callS 7 12 (p1) okX12_in csX12_175 ⟨(Nat.le_of_ble_eq_true rfl), (Nat.le_of_ble_eq_true rfl)⟩ rfl rfl rfl rfl (Nat.le_of_ble_eq_true rfl) (Nat.le_of_ble_eq_true rfl) (Nat.le_of_ble_eq_true rfl) ?_
    refine e_iload_n 8 13 rfl rfl rfl rfl ?_
    refine e_iconst 9 14 rfl rfl ?_
    refine e_iconst 10 15 rfl rfl ?_
    refine g_callS 11 18 (p2) okX12_in csX12_175 ⟨(Nat.le_of_ble_eq_true rfl), (Nat.le_of_ble_eq_true rfl)⟩ rfl rfl rfl rfl (Nat.le_of_ble_eq_true rfl) (Nat.le_of_ble_eq_true rfl) (Nat.le_of_ble_eq_true rfl) ?_
    refine e_iconst 12 19 rfl rfl ?_
    refine g_callV 13 22 (sp_mGoes (a := false) (b := decide (0 ≤ w ∧ w ≤ 2)) (c := true)) okX12_goes cvX12_167 ⟨(Nat.le_of_ble_eq_true rfl), (Nat.le_of_ble_eq_true rfl)⟩ rfl rfl (Nat.le_of_ble_eq_true rfl) rfl rfl rfl rfl rfl (Nat.le_of_ble_eq_true rfl) (Nat.le_of_ble_eq_true rfl) (Nat.le_of_ble_eq_true rfl) ?_
    refine e_ifb_ne 14 27 25 rfl rfl rfl (fun hb => ?_) (fun hb => ?_)
    · skip
      cases hb
    · skip
      refine e_lconst 15 26 rfl rfl ?_
      exact e_lreturn 16 rfl rfl (Nat.le_of_ble_eq_true rfl) (Nat.le_of_ble_eq_true rfl)
