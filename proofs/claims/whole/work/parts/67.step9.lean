/-! ===== steps: add, give ===== -/
theorem apd_en : ∀ F : Fo, ∀ (w : Fo) (lo : Int), okf false false lo F → ok1 w → en (apd w F) = en F ++ en w := by
  intro F w lo hF hw
  refine rowInd (P := fun F => en (apd w F) = en F ++ en w) ?_ (fun v n hv hn ih => ?_) F hF
  · show en (apd w (.num 0)) = _
    rcases hw with ⟨x, rfl, hx⟩ | ⟨c, rfl, hc⟩ | ⟨c, rfl, hc⟩ <;> rfl
  · have e : apd w (cat v n) = cat v (apd w n) := by
      rcases hv with ⟨x, rfl, hx⟩ | ⟨c, rfl, hc⟩ | ⟨c, rfl, hc⟩ <;> rfl
    rw [e, cat_en hv, cat_en hv, ih, List.append_assoc]
theorem sp_mGoesT {σ : xSig} : x_Sp MX12_goes 0 0 [.ref 281, .int (ii (bi true)), .int (ii (bi true)), .int (ii (bi true))] (St σ) (zv true) (St (xu σ 281 47 0)) := sp_mGoes (a := true) (b := true) (c := true)
/-- a value on the pile -/
theorem IM.pile {i : Nat} {τ σ : xSig} {T : Nat → List Int} {G : Nat → Fo} (h : IM i τ T G σ) {k : Nat} (hk : (k : Int) < τ 1 2) : T (5 + 2 * k) = tk (G (5 + 2 * k)) ∧ MW σ (100 * (100 + k) + 1) (G (5 + 2 * k)) := ⟨h.1 0 k hk, h.2 1 k hk⟩
theorem no_bel {σ : xSig} {T : Nat → List Int} (hA : VAll σ T) {j : Int} (h : j < 0) : knd (tok (T (pv j)) 0) = 0 := by
  rw [pv_out (Or.inl h)]
  have q := (hA 3 vO_3.1).2.2.1
  rw [vO_3.2] at q
  have : T 3 = [] := List.length_eq_zero_iff.mp (by omega)
  rw [this]
  decide
theorem pa_add (F : Fo) : pa (.add F (.num 0)) = 1 + pa F ∧ pa (.sub F (.num 0)) = 1 + pa F := ⟨by simp [pa], by simp [pa]⟩
theorem st_add {i : Nat} {σ : xSig} (h : INV i σ) : STEP i MX11_add MX12_add iv [nISE] [] σ := by
  have hM := h
  obtain ⟨T, G, hA, hM⟩ := hM
  have h3 : 0 ≤ σ 1 2 ∧ σ 1 2 ≤ 10 := hM.1 3
  have e5 : σ 281 3 = σ 1 2 := hM.2 5
  -- refused: what both ask is answered no
  have refu : ∀ (s : xSig), FP m11 σ s → x_E MX12_add 0 0 77 [some (.ref 281), none, none] [.int (ii 0), .ref 281] (St s) 0 0 (iv 0) (St (xu s 281 47 1)) := by
    intro s g
    refine e_iconst 42 78 rfl rfl ?_
    refine e_iconst 43 79 rfl rfl ?_
    refine g_callV 44 82 (sp_mGoes (a := false) (b := true) (c := true)) okX12_goes cvX12_167 ⟨(Nat.le_of_ble_eq_true rfl), (Nat.le_of_ble_eq_true rfl)⟩ rfl rfl (Nat.le_of_ble_eq_true rfl) rfl rfl rfl rfl rfl (Nat.le_of_ble_eq_true rfl) (Nat.le_of_ble_eq_true rfl) (Nat.le_of_ble_eq_true rfl) ?_
    refine e_ifb_ne 45 87 85 rfl rfl rfl (fun hb => ?_) (fun hb => ?_)
    · skip
      cases hb
    · skip
      refine e_iconst 46 86 rfl rfl ?_
      exact e_ireturn 47 rfl rfl (Nat.le_of_ble_eq_true rfl) (Nat.le_of_ble_eq_true rfl)
  by_cases h2 : 2 ≤ σ 1 2
  · obtain ⟨k, hk⟩ := Int.eq_ofNat_of_zero_le (show 0 ≤ σ 1 2 - 2 by omega)
    have hbel : vbel σ = 5 + 2 * k := by rw [show vbel σ = pv (σ 1 2 - 2) from rfl, pv_in (by omega) (by omega), hk]; rfl
    have htop : vtop σ = 5 + 2 * (k + 1) := by rw [show vtop σ = pv (σ 1 2 - 1) from rfl, pv_in (by omega) (by omega), show (σ 1 2 - 1).toNat = k + 1 by omega]
    obtain ⟨t1, w1⟩ := hM.pile (k := k) (by omega)
    obtain ⟨t2, w2⟩ := hM.pile (k := k + 1) (by omega)
    have hb1 := mv_fld w1.1
    have hkb := knd_bnd (tok (tk (G (5 + 2 * k))) 0)
    have q1 : ∀ s : xSig, s 281 3 = σ 281 3 → Rd MX12_pile [.int (ii (s 281 3 - 2))] s (iv (100 * (100 + k) + 1)) := fun s hs => by
      have := sp_mPile (σ := s) (x := s 281 3 - 2)
      rw [hs, e5, hk] at this
      rw [hs, e5, hk]
      exact this
    have qt : ∀ s : xSig, s 281 3 = σ 281 3 → Rd MX12_top [.ref 281] s (iv (100 * (100 + ((k + 1 : Nat) : Int)) + 1)) := fun s hs => by
      have := sp_mTop (σ := s)
      rw [hs, e5, show σ 1 2 - 1 = ((k + 1 : Nat) : Int) by omega] at this
      exact this
    by_cases hrow : knd (tok (T (vbel σ)) 0) = 3
    · have hkr := hrow
      rw [hbel, t1] at hrow
      rw [hrow] at hb1
      rcases mv_hd w1.1 with ⟨x, e, -, u1, u2⟩ | ⟨c, e, -, u1⟩ | ⟨c, e, hc, u1, uE, u47, ulen⟩
      · omega
      · omega
      · have hv := w2.1.2.1
        have hpv := (ok1_pa hv)
        rw [e] at w1 t1
        have pts1 : pts (T (vbel σ)) = 1 + pa c := by rw [hbel, t1]; exact (pts_tk (Or.inr (Or.inr ⟨c, rfl, hc⟩))).trans (pa_add c).2
        have pts2 : pts (T (vtop σ)) = pa (G (5 + 2 * (k + 1))) := by rw [htop, t2]; exact pts_tk hv
        -- the walk to the question
        have pre : ∀ (s : xSig), s 281 3 = σ 281 3 → (∀ j : Int, s 282 j = σ 282 j) → ∃ s1, FP m11 s s1 ∧ ∀ {o : xO} {Y : xS} (b : Bool), b = decide (1 + pa c + pa (G (5 + 2 * (k + 1))) ≤ 24) → x_E MX12_add 0 0 77 [some (.ref 281), none, none] [.int (ii (bi b)), .ref 281] (St s1) 0 0 o Y → x_Sp MX12_add 0 0 [.ref 281] (St s) o Y := by
          intro s g3 g82
          have m1 : MV s 282 11300 (100 * (100 + k) + 1) (.sub c (.num 0)) := w1.1.of (funext g82)
          have m2 : MV s 282 11300 (100 * (100 + ((k + 1 : Nat) : Int)) + 1) (G (5 + 2 * (k + 1))) := w2.1.of (funext g82)
          have c2 := sp_mParts m2
          have f2 : FP m11 s (xu s 311 0 (pa (G (5 + 2 * (k + 1))))) := FP.rf.x11
          have c1 := sp_mParts (m1.fp f2)
          have f1 := f2.x11 (v := pa (.sub c (.num 0)))
          refine ⟨_, f1, fun {o Y} b hb kk => ?_⟩
          have e82 : s 282 (100 * (100 + k) + 1) = 3 := by rw [g82]; exact hb1.1
          have pp := (pa_add c).2
          have pn1 := pa_nn c
          have w22 := w2.2
          have pn2 := pa_nn (G (5 + 2 * (k + 1)))
          have hg3 : xu s 311 0 (pa (G (5 + 2 * (k + 1)))) 281 3 = σ 281 3 := by rw [f2 281 3 rfl]; exact g3
          refine e_entry okX12_add (Nat.le_of_ble_eq_true rfl) (ls := [some _, none, none]) rfl ?_
          refine e_aload_n 0 1 rfl rfl rfl rfl ?_
          refine g_getI 1 4 3 ckX12 flX12_146 rfl rfl (Nat.le_of_ble_eq_true rfl) rfl rfl rfl rfl ?_
          refine e_iconst 2 5 rfl rfl ?_
          refine e_icmp_le 3 30 8 rfl rfl rfl (by unfold xr at *; omega) (by unfold xr at *; omega) (fun h9 => absurd h9 (by omega)) (fun _ => ?_)
          refine e_aload_n 4 9 rfl rfl rfl rfl ?_
          refine g_getR 5 12 ckX12 flX12_7 rfl rfl (Nat.le_of_ble_eq_true rfl) rfl rfl ?_
          refine e_aload_n 6 13 rfl rfl rfl rfl ?_
          refine g_getI 7 16 3 ckX12 flX12_146 rfl rfl (Nat.le_of_ble_eq_true rfl) rfl rfl rfl rfl ?_
          refine e_iconst 8 17 rfl rfl ?_
          refine e_isub 9 18 rfl rfl ?_
          refine g_callS 10 21 (q1 s g3) okX12_pile csX12_149 ⟨(Nat.le_of_ble_eq_true rfl), (Nat.le_of_ble_eq_true rfl)⟩ rfl rfl rfl rfl (Nat.le_of_ble_eq_true rfl) (Nat.le_of_ble_eq_true rfl) (Nat.le_of_ble_eq_true rfl) ?_
          refine g_iaload 11 22 rfl rfl (Nat.le_of_ble_eq_true rfl) rfl (by omega) (by omega) (by omega) e82 ?_
          refine e_iconst 12 23 rfl rfl ?_
          refine e_icmp_ne 13 30 26 rfl rfl rfl (by unfold xr at *; omega) (by unfold xr at *; omega) (fun h9 => absurd h9 (fun q => q rfl)) (fun _ => ?_)
          refine e_iconst 14 27 rfl rfl ?_
          refine e_goto 15 31 rfl rfl ?_
          refine e_istore_n 17 32 (ls' := [some _, some _, none]) rfl rfl rfl (Nat.le_of_ble_eq_true rfl) rfl ?_
          refine e_aload_n 18 33 rfl rfl rfl rfl ?_
          refine e_iload_n 19 34 rfl rfl rfl rfl ?_
          refine e_if_eq 20 76 37 rfl rfl rfl (by unfold xr at *; omega) (fun h9 => absurd h9 (by omega)) (fun _ => ?_)
          refine e_aload_n 21 38 rfl rfl rfl rfl ?_
          refine e_aload_n 22 39 rfl rfl rfl rfl ?_
          refine g_getR 23 42 ckX12 flX12_7 rfl rfl (Nat.le_of_ble_eq_true rfl) rfl rfl ?_
          refine e_aload_n 24 43 rfl rfl rfl rfl ?_
          refine g_callV 25 46 (qt s g3) okX12_top cvX12_182 ⟨(Nat.le_of_ble_eq_true rfl), (Nat.le_of_ble_eq_true rfl)⟩ rfl rfl (Nat.le_of_ble_eq_true rfl) rfl rfl rfl rfl rfl (Nat.le_of_ble_eq_true rfl) (Nat.le_of_ble_eq_true rfl) (Nat.le_of_ble_eq_true rfl) ?_
          refine g_callV 26 49 (c2) okX12_parts cvX12_186 ⟨(Nat.le_of_ble_eq_true rfl), (Nat.le_of_ble_eq_true rfl)⟩ rfl rfl (Nat.le_of_ble_eq_true rfl) rfl rfl rfl rfl rfl (Nat.le_of_ble_eq_true rfl) (Nat.le_of_ble_eq_true rfl) (Nat.le_of_ble_eq_true rfl) ?_
          refine e_aload_n 27 50 rfl rfl rfl rfl ?_
          refine e_aload_n 28 51 rfl rfl rfl rfl ?_
          refine g_getR 29 54 ckX12 flX12_7 rfl rfl (Nat.le_of_ble_eq_true rfl) rfl rfl ?_
          refine e_aload_n 30 55 rfl rfl rfl rfl ?_
          refine g_getI 31 58 3 ckX12 flX12_146 rfl rfl (Nat.le_of_ble_eq_true rfl) rfl rfl rfl rfl ?_
          refine e_iconst 32 59 rfl rfl ?_
          refine e_isub 33 60 rfl rfl ?_
          refine g_callS 34 63 (q1 _ hg3) okX12_pile csX12_149 ⟨(Nat.le_of_ble_eq_true rfl), (Nat.le_of_ble_eq_true rfl)⟩ rfl rfl rfl rfl (Nat.le_of_ble_eq_true rfl) (Nat.le_of_ble_eq_true rfl) (Nat.le_of_ble_eq_true rfl) ?_
          refine g_callV 35 66 (c1) okX12_parts cvX12_186 ⟨(Nat.le_of_ble_eq_true rfl), (Nat.le_of_ble_eq_true rfl)⟩ rfl rfl (Nat.le_of_ble_eq_true rfl) rfl rfl rfl rfl rfl (Nat.le_of_ble_eq_true rfl) (Nat.le_of_ble_eq_true rfl) (Nat.le_of_ble_eq_true rfl) ?_
          refine e_iadd 36 67 rfl rfl ?_
          refine e_bipush 37 69 rfl rfl rfl ?_
          refine e_icmp_gt 38 76 72 rfl rfl rfl (by unfold xr at *; omega) (by unfold xr at *; omega) (fun hq => ?_) (fun hq => ?_)
          · skip
            rw [decF (by omega)] at hb
            subst hb
            refine e_iconst 41 77 rfl rfl ?_
            refine e_dropm [true, false, false] (ls' := [some _, none, none]) rfl ?_
            exact kk
          · skip
            rw [decT (by omega)] at hb
            subst hb
            refine e_iconst 39 73 rfl rfl ?_
            refine e_goto 40 77 rfl rfl ?_
            refine e_dropm [true, false, false] (ls' := [some _, none, none]) rfl ?_
            exact kk
        by_cases h24 : 1 + pa c + pa (G (5 + 2 * (k + 1))) ≤ 24
        · obtain ⟨σ', k1, k2, k3⟩ := sp_add1 hA ⟨h2, h3.2⟩ hc hv (by rw [hbel]; exact t1) (by rw [htop]; exact t2) (by omega)
          have n281 : ∀ b : Nat, vA b = false → b ≠ 1 → xu σ' 1 2 (σ 1 2 - 1) b = σ b := fun b hb hb1 => by rw [xu_other _ _ _ hb1]; exact k3 b hb (by simp)
          have g3 : xu σ' 1 2 (σ 1 2 - 1) 281 3 = σ 281 3 := by rw [n281 281 (by decide +kernel) (by decide)]
          have g82 : xu σ' 1 2 (σ 1 2 - 1) 282 = σ 282 := n281 282 (by decide +kernel) (by decide)
          obtain ⟨s1, f1, st⟩ := pre _ g3 (fun j => by rw [g82])
          have f2 : FP [(311, -1), (281, 47)] (xu σ' 1 2 (σ 1 2 - 1)) (xu s1 281 47 0) := (f1.mono rfl).put rfl
          have f3 : FP [(311, -1), (281, 47), (281, 7)] (xu σ' 1 2 (σ 1 2 - 1)) (xu (xu s1 281 47 0) 281 7 0) := (f2.mono rfl).put rfl
          generalize hs3 : xu (xu s1 281 47 0) 281 7 0 = s3 at f3
          have m1 : MV s3 282 11300 (100 * (100 + k) + 1) (.sub c (.num 0)) := w1.1.of (by rw [f3.cell 282 rfl, g82])
          have m2 : MV s3 282 11300 (100 * (100 + ((k + 1 : Nat) : Int)) + 1) (G (5 + 2 * (k + 1))) := w2.1.of (by rw [f3.cell 282 rfl, g82])
          have hM0 : MD s3 [] := ⟨by rw [← hs3]; exact xu_same _ _ _ _, EA.nil, by simp⟩
          have c1 := sp_mEnd m1
          have f4 : FP m11 s3 (xu s3 311 0 (pa (.sub c (.num 0)))) := FP.rf.x11
          have b1 := m1.2.2.2
          have elen : ((en (.sub c (.num 0))).length : Int) = (en c).length + 2 := by simp only [en, List.length_cons, List.length_append, List.length_nil]; omega
          have ecl : ((3 :: en c).length : Int) = (en c).length + 1 := by simp
          have hl1 := (ok1_pa m1.2.1).2.1
          have pp := (pa_add c).2
          have eE : EA s3 282 (100 * (100 + k) + 1) (3 :: en c) := by
            have := m1.2.2.2.2.2
            simp only [en] at this
            exact (EA.app (t := 3 :: en c) (u := [-1]) this).1
          obtain ⟨s4, a1, a2, a3⟩ := sp_mAdds (σ := xu s3 311 0 (pa (.sub c (.num 0)))) (p := 100 * (100 + k) + 1) (to := 100 * (100 + k) + 1 + (en (.sub c (.num 0))).length - 1) (t := 3 :: en c) isMS_all (by omega) (by omega) (by omega) (eE.of11 isMA_all f4) (hM0.fp f4) (by simp only [List.length_nil, List.length_cons]; omega)
          rw [List.nil_append] at a2
          have f5 : FP [(311, -1), (285, -1), (281, 7)] s3 s4 := (f4.mono rfl).tr (a3.mono rfl)
          have m2' := m2.of (f5.cell 282 rfl)
          have c2 := sp_mEnd m2'
          have f6 : FP m11 s4 (xu s4 311 0 (pa (G (5 + 2 * (k + 1))))) := FP.rf.x11
          have b2 := m2'.2.2.2
          have hl2 := (ok1_pa m2'.2.1).2.1
          obtain ⟨s5, a4, a5, a6⟩ := sp_mAdds (σ := xu s4 311 0 (pa (G (5 + 2 * (k + 1))))) (p := 100 * (100 + ((k + 1 : Nat) : Int)) + 1) (to := 100 * (100 + ((k + 1 : Nat) : Int)) + 1 + (en (G (5 + 2 * (k + 1)))).length) (t := en (G (5 + 2 * (k + 1)))) isMS_all rfl (by omega) (by omega) (b2.2.2.of11 isMA_all f6) (a2.fp f6) (by simp only [List.length_cons]; omega)
          have a7 := a5.snoc (by simp only [List.length_append, List.length_cons]; omega) (-1)
          have f7 : FP [(311, -1), (285, -1), (281, 7)] s3 (xu (xu s5 285 (3 :: en c ++ en (G (5 + 2 * (k + 1)))).length (-1)) 281 7 ((3 :: en c ++ en (G (5 + 2 * (k + 1)))).length + 1)) := ((f5.tr (f6.mono rfl)).tr (a6.mono rfl)).tr (md_f.mono rfl)
          have eLL : (3 :: en c ++ en (G (5 + 2 * (k + 1)))).length = (en c).length + 1 + (en (G (5 + 2 * (k + 1)))).length := by simp; omega
          have eM : 3 :: en c ++ en (G (5 + 2 * (k + 1))) ++ [-1] = en (.sub (apd (G (5 + 2 * (k + 1))) c) (.num 0)) := by
            simp only [en, apd_en c _ 0 hc hv, List.cons_append]
          rw [eM] at a7
          generalize hs6 : xu (xu s5 285 (3 :: en c ++ en (G (5 + 2 * (k + 1)))).length (-1)) 281 7 ((3 :: en c ++ en (G (5 + 2 * (k + 1)))).length + 1) = s6 at a7 f7
          have hap := apd_ok c (G (5 + 2 * (k + 1))) 0 hc hv
          have vok : ok1 (.sub (apd (G (5 + 2 * (k + 1))) c) (.num 0)) := Or.inr (Or.inr ⟨_, rfl, hap.1⟩)
          have vpa : pa (.sub (apd (G (5 + 2 * (k + 1))) c) (.num 0)) ≤ 24 := by rw [(pa_add _).2, hap.2]; omega
          have vlen := (ok1_pa vok).2.1
          have c3 := sp_mLays (σ := s6) (at9 := 100 * (100 + k) + 1) (by omega) (by omega) a7
          have r3 : ∀ s : xSig, FP [(311, -1), (285, -1), (281, 7)] s3 s → s 281 3 = σ 281 3 := fun s g => by rw [g 281 3 rfl, f3 281 3 rfl]; exact g3
          have g6 := r3 _ f7
          have g5 : s5 281 7 = (3 :: en c ++ en (G (5 + 2 * (k + 1)))).length := a5.1
          have g7 : lay9 s6 (100 * (100 + k) + 1) (en (.sub (apd (G (5 + 2 * (k + 1))) c) (.num 0))) (en (.sub (apd (G (5 + 2 * (k + 1))) c) (.num 0))).length 281 3 = σ 281 3 := by rw [lay9_o _ _ _ _ (by decide)]; exact g6
          have hg2 : xu s1 281 47 0 281 3 = σ 281 3 := by rw [f2 281 3 rfl]; exact g3
          have r34 := r3 s4 f5
          have r36 : xu s4 311 0 (pa (G (5 + 2 * (k + 1)))) 281 3 = σ 281 3 := by rw [f6 281 3 rfl]; exact r34
          refine ⟨_, xu (lay9 s6 (100 * (100 + k) + 1) (en (.sub (apd (G (5 + 2 * (k + 1))) c) (.num 0))) (en (.sub (apd (G (5 + 2 * (k + 1))) c) (.num 0))).length) 281 3 (σ 281 3 - 1), 0, _, _, ⟨by omega, by simp⟩, fun _ => k1, fun q => absurd rfl q, (?_ : x_Sp MX12_add 0 0 _ _ (iv (σ 281 3 - 1)) _), ?_, fun _ => by rw [e5], ?_⟩
          · refine st true (decT (by omega)).symm ?_
            refine e_iconst 42 78 rfl rfl ?_
            refine e_iconst 43 79 rfl rfl ?_
            refine g_callV 44 82 (sp_mGoesT) okX12_goes cvX12_167 ⟨(Nat.le_of_ble_eq_true rfl), (Nat.le_of_ble_eq_true rfl)⟩ rfl rfl (Nat.le_of_ble_eq_true rfl) rfl rfl rfl rfl rfl (Nat.le_of_ble_eq_true rfl) (Nat.le_of_ble_eq_true rfl) (Nat.le_of_ble_eq_true rfl) ?_
            refine e_ifb_ne 45 87 85 rfl rfl rfl (fun hb => ?_) (fun hb => ?_)
            · skip
              refine e_aload_n 48 88 rfl rfl rfl rfl ?_
              refine g_getI 49 91 3 ckX12 flX12_146 rfl rfl (Nat.le_of_ble_eq_true rfl) rfl rfl rfl rfl ?_
              refine e_iconst 50 92 rfl rfl ?_
              refine e_isub 51 93 rfl rfl ?_
              refine g_callS 52 96 (q1 _ hg2) okX12_pile csX12_149 ⟨(Nat.le_of_ble_eq_true rfl), (Nat.le_of_ble_eq_true rfl)⟩ rfl rfl rfl rfl (Nat.le_of_ble_eq_true rfl) (Nat.le_of_ble_eq_true rfl) (Nat.le_of_ble_eq_true rfl) ?_
              refine e_istore_n 53 97 (ls' := [some _, none, some _]) rfl rfl rfl (Nat.le_of_ble_eq_true rfl) rfl ?_
              refine e_aload_n 54 98 rfl rfl rfl rfl ?_
              refine e_iconst 55 99 rfl rfl ?_
              refine g_putI 56 102 7 ckX12 flX12_179 rfl rfl (Nat.le_of_ble_eq_true rfl) rfl rfl rfl ?_
              rw [hs3]
              refine e_aload_n 57 103 rfl rfl rfl rfl ?_
              refine e_aload_n 58 104 rfl rfl rfl rfl ?_
              refine g_getR 59 107 ckX12 flX12_7 rfl rfl (Nat.le_of_ble_eq_true rfl) rfl rfl ?_
              refine e_iload_n 60 108 rfl rfl rfl rfl ?_
              refine e_aload_n 61 109 rfl rfl rfl rfl ?_
              refine e_aload_n 62 110 rfl rfl rfl rfl ?_
              refine g_getR 63 113 ckX12 flX12_7 rfl rfl (Nat.le_of_ble_eq_true rfl) rfl rfl ?_
              refine e_iload_n 64 114 rfl rfl rfl rfl ?_
              refine g_callV 65 117 (c1) okX12_end cvX12_131 ⟨(Nat.le_of_ble_eq_true rfl), (Nat.le_of_ble_eq_true rfl)⟩ rfl rfl (Nat.le_of_ble_eq_true rfl) rfl rfl rfl rfl rfl (Nat.le_of_ble_eq_true rfl) (Nat.le_of_ble_eq_true rfl) (Nat.le_of_ble_eq_true rfl) ?_
              refine e_iconst 66 118 rfl rfl ?_
              refine e_isub 67 119 rfl rfl ?_
              refine g_callV 68 122 (a1) okX12_adds cvX12_189 ⟨(Nat.le_of_ble_eq_true rfl), (Nat.le_of_ble_eq_true rfl)⟩ rfl rfl (Nat.le_of_ble_eq_true rfl) rfl rfl rfl rfl rfl (Nat.le_of_ble_eq_true rfl) (Nat.le_of_ble_eq_true rfl) (Nat.le_of_ble_eq_true rfl) ?_
              refine e_aload_n 69 123 rfl rfl rfl rfl ?_
              refine e_aload_n 70 124 rfl rfl rfl rfl ?_
              refine g_getR 71 127 ckX12 flX12_7 rfl rfl (Nat.le_of_ble_eq_true rfl) rfl rfl ?_
              refine e_aload_n 72 128 rfl rfl rfl rfl ?_
              refine g_callV 73 131 (qt s4 r34) okX12_top cvX12_182 ⟨(Nat.le_of_ble_eq_true rfl), (Nat.le_of_ble_eq_true rfl)⟩ rfl rfl (Nat.le_of_ble_eq_true rfl) rfl rfl rfl rfl rfl (Nat.le_of_ble_eq_true rfl) (Nat.le_of_ble_eq_true rfl) (Nat.le_of_ble_eq_true rfl) ?_
              refine e_aload_n 74 132 rfl rfl rfl rfl ?_
              refine e_aload_n 75 133 rfl rfl rfl rfl ?_
              refine g_getR 76 136 ckX12 flX12_7 rfl rfl (Nat.le_of_ble_eq_true rfl) rfl rfl ?_
              refine e_aload_n 77 137 rfl rfl rfl rfl ?_
              refine g_callV 78 140 (qt s4 r34) okX12_top cvX12_182 ⟨(Nat.le_of_ble_eq_true rfl), (Nat.le_of_ble_eq_true rfl)⟩ rfl rfl (Nat.le_of_ble_eq_true rfl) rfl rfl rfl rfl rfl (Nat.le_of_ble_eq_true rfl) (Nat.le_of_ble_eq_true rfl) (Nat.le_of_ble_eq_true rfl) ?_
              refine g_callV 79 143 (c2) okX12_end cvX12_131 ⟨(Nat.le_of_ble_eq_true rfl), (Nat.le_of_ble_eq_true rfl)⟩ rfl rfl (Nat.le_of_ble_eq_true rfl) rfl rfl rfl rfl rfl (Nat.le_of_ble_eq_true rfl) (Nat.le_of_ble_eq_true rfl) (Nat.le_of_ble_eq_true rfl) ?_
              refine g_callV 80 146 (a4) okX12_adds cvX12_189 ⟨(Nat.le_of_ble_eq_true rfl), (Nat.le_of_ble_eq_true rfl)⟩ rfl rfl (Nat.le_of_ble_eq_true rfl) rfl rfl rfl rfl rfl (Nat.le_of_ble_eq_true rfl) (Nat.le_of_ble_eq_true rfl) (Nat.le_of_ble_eq_true rfl) ?_
              refine e_aload_n 81 147 rfl rfl rfl rfl ?_
              refine g_getR 82 150 ckX12 flX12_20 rfl rfl (Nat.le_of_ble_eq_true rfl) rfl rfl ?_
              refine e_aload_n 83 151 rfl rfl rfl rfl ?_
              refine g_getI 84 154 7 ckX12 flX12_179 rfl rfl (Nat.le_of_ble_eq_true rfl) rfl rfl rfl g5 ?_
              refine e_iconst 85 155 rfl rfl ?_
              refine g_iastore 86 156 rfl rfl (Nat.le_of_ble_eq_true rfl) rfl (by omega) (by omega) (by omega) ?_
              refine e_aload_n 87 157 rfl rfl rfl rfl ?_
              refine e_dup 88 158 rfl rfl rfl ?_
              refine g_getI 89 161 7 ckX12 flX12_179 rfl rfl (Nat.le_of_ble_eq_true rfl) rfl rfl rfl ((congrFun (xu_other s5 _ _ (by decide : (281 : Nat) ≠ 285)) 7).trans g5) ?_
              refine e_iconst 90 162 rfl rfl ?_
              refine e_iadd 91 163 rfl rfl ?_
              refine g_putI 92 166 7 ckX12 flX12_179 rfl rfl (Nat.le_of_ble_eq_true rfl) rfl rfl rfl ?_
              rw [hs6]
              refine e_aload_n 93 167 rfl rfl rfl rfl ?_
              refine e_iload_n 94 168 rfl rfl rfl rfl ?_
              refine g_callV 95 171 (c3) okX12_lays cvX12_193 ⟨(Nat.le_of_ble_eq_true rfl), (Nat.le_of_ble_eq_true rfl)⟩ rfl rfl (Nat.le_of_ble_eq_true rfl) rfl rfl rfl rfl rfl (Nat.le_of_ble_eq_true rfl) (Nat.le_of_ble_eq_true rfl) (Nat.le_of_ble_eq_true rfl) ?_
              refine e_aload_n 96 172 rfl rfl rfl rfl ?_
              refine e_dup 97 173 rfl rfl rfl ?_
              refine g_getI 98 176 3 ckX12 flX12_146 rfl rfl (Nat.le_of_ble_eq_true rfl) rfl rfl rfl g7 ?_
              refine e_iconst 99 177 rfl rfl ?_
              refine e_isub 100 178 rfl rfl ?_
              refine g_putI 101 181 3 ckX12 flX12_146 rfl rfl (Nat.le_of_ble_eq_true rfl) rfl rfl rfl ?_
              refine e_aload_n 102 182 rfl rfl rfl rfl ?_
              refine g_getI 103 185 3 ckX12 flX12_146 rfl rfl (Nat.le_of_ble_eq_true rfl) rfl rfl rfl (xu_same _ 281 3 _) ?_
              exact e_ireturn 104 rfl rfl (Nat.le_of_ble_eq_true rfl) (Nat.le_of_ble_eq_true rfl)
            · skip
              cases hb
          · rw [xu_ne _ (Or.inr (by decide)), lay9_o _ _ _ _ (by decide), f7 281 47 rfl, ← hs3, xu_ne _ (Or.inr (by decide)), xu_same]
          · generalize hσ2 : xu (lay9 s6 (100 * (100 + k) + 1) (en (.sub (apd (G (5 + 2 * (k + 1))) c) (.num 0))) (en (.sub (apd (G (5 + 2 * (k + 1))) c) (.num 0))).length) 281 3 (σ 281 3 - 1) = σ2
            have f9 : FP [(311, -1), (281, 47), (281, 7), (285, -1), (282, -1), (281, 3)] (xu σ' 1 2 (σ 1 2 - 1)) σ2 := by
              rw [← hσ2]
              refine FP.put (FP.tr ((f3.mono rfl).tr (f7.mono rfl)) (fun b j q => ?_)) rfl
              rw [lay9_o _ _ _ _ (fun e => by subst e; simp [inP] at q)]
            have fv : FV [(1, -1), (311, -1), (281, 47), (281, 7), (285, -1), (282, -1), (281, 3)] σ σ2 := ((k3.fv.mono rfl).putA rfl).tr (f9.fv.mono rfl)
            have s12 : σ2 1 2 = k + 1 := by rw [f9.cell 1 rfl, xu_same]; omega
            refine pile_inv (k := k) (v := .sub (apd (G (5 + 2 * (k + 1))) c) (.num 0)) (T' := uT T (5 + 2 * k) (tk (.sub (apd (G (5 + 2 * (k + 1))) c) (.num 0)))) hM ?_ (by omega) s12 (by omega) ⟨vok, vpa⟩ (uT_same _ _ _) (fun a ha _ _ => uT_ne _ _ ha) fv rfl rfl (sam_fv fv (by decide +kernel) rfl) ?_ (fun j hj => ?_) ?_
            · rw [hbel] at k2
              exact (k2.xu 2 _ (by decide +kernel)).fp f9 (by decide +kernel)
            · refine ⟨isMA_all, vok, by omega, by omega, by omega, ?_⟩
              rw [← hσ2]
              refine (lay9_in s6 _ _).of fun j _ _ => ?_
              rw [xu_other _ _ _ (by decide)]
            · rw [← hσ2, xu_other _ _ _ (by decide)]
              unfold lay9
              rw [if_neg (by omega), f7.cell 282 rfl, f3.cell 282 rfl, g82]
            · rw [s12, ← hσ2, xu_same, e5]
              omega
        · obtain ⟨s1, f1, st⟩ := pre σ rfl (fun j => rfl)
          exact STEP.refuse h 1 (by simp) (sp_addX2 hA h3 hkr (by rw [pts1, pts2]; omega)) (σ2 := xu s1 281 47 1) (y := 0) (st false (decF h24).symm (refu s1 f1)) (xu_same _ _ _ _) ((f1.mono rfl).put rfl)
    · refine STEP.refuse h 1 (by simp) (sp_addX hA h3 hrow) (σ2 := xu σ 281 47 1) (y := 0) ?_ (xu_same _ _ _ _) F47s
      rw [hbel, t1] at hrow
      have u3 : ¬ σ 282 (100 * (100 + k) + 1) = 3 := by rw [hb1.1]; exact hrow
      have ux : xr (σ 282 (100 * (100 + k) + 1)) := by rw [hb1.1]; unfold xr; omega
      have hb4 := hb1.2.2.2
      refine e_entry okX12_add (Nat.le_of_ble_eq_true rfl) (ls := [some _, none, none]) rfl ?_
      refine e_aload_n 0 1 rfl rfl rfl rfl ?_
      refine g_getI 1 4 3 ckX12 flX12_146 rfl rfl (Nat.le_of_ble_eq_true rfl) rfl rfl rfl rfl ?_
      refine e_iconst 2 5 rfl rfl ?_
      refine e_icmp_le 3 30 8 rfl rfl rfl (by unfold xr at *; omega) (by unfold xr at *; omega) (fun h9 => absurd h9 (by omega)) (fun _ => ?_)
      refine e_aload_n 4 9 rfl rfl rfl rfl ?_
      refine g_getR 5 12 ckX12 flX12_7 rfl rfl (Nat.le_of_ble_eq_true rfl) rfl rfl ?_
      refine e_aload_n 6 13 rfl rfl rfl rfl ?_
      refine g_getI 7 16 3 ckX12 flX12_146 rfl rfl (Nat.le_of_ble_eq_true rfl) rfl rfl rfl rfl ?_
      refine e_iconst 8 17 rfl rfl ?_
      refine e_isub 9 18 rfl rfl ?_
      refine g_callS 10 21 (q1 σ rfl) okX12_pile csX12_149 ⟨(Nat.le_of_ble_eq_true rfl), (Nat.le_of_ble_eq_true rfl)⟩ rfl rfl rfl rfl (Nat.le_of_ble_eq_true rfl) (Nat.le_of_ble_eq_true rfl) (Nat.le_of_ble_eq_true rfl) ?_
      refine g_iaload 11 22 rfl rfl (Nat.le_of_ble_eq_true rfl) rfl (by omega) (by omega) (by omega) rfl ?_
      refine e_iconst 12 23 rfl rfl ?_
      refine e_icmp_ne 13 30 26 rfl rfl rfl ux (by unfold xr at *; omega) (fun _ => ?_) (fun h9 => absurd h9 u3)
      refine e_iconst 16 31 rfl rfl ?_
      refine e_istore_n 17 32 (ls' := [some _, some _, none]) rfl rfl rfl (Nat.le_of_ble_eq_true rfl) rfl ?_
      refine e_aload_n 18 33 rfl rfl rfl rfl ?_
      refine e_iload_n 19 34 rfl rfl rfl rfl ?_
      refine e_if_eq 20 76 37 rfl rfl rfl (by unfold xr at *; omega) (fun _ => ?_) (fun h9 => absurd h9 (by omega))
      refine e_iconst 41 77 rfl rfl ?_
      refine e_dropm [true, false, false] (ls' := [some _, none, none]) rfl ?_
      exact refu σ FP.rf
  · have hk0 : knd (tok (T (vbel σ)) 0) ≠ 3 := by rw [show vbel σ = pv (σ 1 2 - 2) from rfl, no_bel hA (by omega)]; decide
    refine STEP.refuse h 1 (by simp) (sp_addX hA h3 hk0) (σ2 := xu σ 281 47 1) (y := 0) ?_ (xu_same _ _ _ _) F47s
    refine e_entry okX12_add (Nat.le_of_ble_eq_true rfl) (ls := [some _, none, none]) rfl ?_
    refine e_aload_n 0 1 rfl rfl rfl rfl ?_
    refine g_getI 1 4 3 ckX12 flX12_146 rfl rfl (Nat.le_of_ble_eq_true rfl) rfl rfl rfl rfl ?_
    refine e_iconst 2 5 rfl rfl ?_
    refine e_icmp_le 3 30 8 rfl rfl rfl (by unfold xr at *; omega) (by unfold xr at *; omega) (fun _ => ?_) (fun h9 => absurd h9 (by omega))
    refine e_iconst 16 31 rfl rfl ?_
    refine e_istore_n 17 32 (ls' := [some _, some _, none]) rfl rfl rfl (Nat.le_of_ble_eq_true rfl) rfl ?_
    refine e_aload_n 18 33 rfl rfl rfl rfl ?_
    refine e_iload_n 19 34 rfl rfl rfl rfl ?_
    refine e_if_eq 20 76 37 rfl rfl rfl (by unfold xr at *; omega) (fun _ => ?_) (fun h9 => absurd h9 (by omega))
    refine e_iconst 41 77 rfl rfl ?_
    refine e_dropm [true, false, false] (ls' := [some _, none, none]) rfl ?_
    exact refu σ FP.rf
