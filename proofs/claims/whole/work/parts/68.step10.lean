/-! ===== steps: give ===== -/
theorem made_mv {s : xSig} {v : Fo} (h : MD s (en v)) (hv : ok1 v) (hp : pa v ≤ 52) : MV s 285 400 0 v := ⟨isMA_made, hv, hp, by omega, by have := h.2.2; omega, h.2.1⟩
theorem st_give {i : Nat} {σ : xSig} (h : INV i σ) {f : Int} (hf0 : xr f) : STEP i MX11_give MX12_give iv [nIAE, nISE] [.int (ii f)] σ := by
  have hM := h
  obtain ⟨T, G, hA, hM⟩ := hM
  have h3 : 0 ≤ σ 1 2 ∧ σ 1 2 ≤ 10 := hM.1 3
  have e5 : σ 281 3 = σ 1 2 := hM.2 5
  -- from the flags on: refused without a look
  have refu : ∀ (b1 b2 : Bool), b1 = decide (0 ≤ f ∧ f ≤ 7) → (b1 = false ∨ b2 = false) → x_E MX12_give 0 0 34 [some (.ref 281), some (.int (ii f)), some (.int (ii (bi b2))), some (.int (ii 0)), none] [] (St σ) 0 0 (iv 0) (St (xu σ 281 47 (if b1 = false then 1 else 2))) := by
    intro b1 b2 hb1 hb
    have p1 := sp_mIn (σ := σ) (x := f) (y := 0) (z := 7) hf0 (by unfold xr; omega) (by unfold xr; omega)
    rw [← hb1] at p1
    have eg : gcode b1 b2 true = (if b1 = false then 1 else 2) := by
      cases b1 with
      | false => rfl
      | true =>
        rcases hb with w | w
        · cases w
        · rw [w]; rfl
    have fin2 : ∀ w : Bool, w = b2 → x_E MX12_give 0 0 125 [some (.ref 281), some (.int (ii f)), some (.int (ii (bi b2))), some (.int (ii 0)), none] [.int (ii (bi w)), .int (ii (bi b1)), .ref 281] (St σ) 0 0 (iv 0) (St (xu σ 281 47 (if b1 = false then 1 else 2))) := by
      intro w hw
      subst hw
      rw [← eg]
      refine e_iconst 69 126 rfl rfl ?_
      refine g_callV 70 129 (sp_mGoes (a := b1) (b := w) (c := true)) okX12_goes cvX12_167 ⟨(Nat.le_of_ble_eq_true rfl), (Nat.le_of_ble_eq_true rfl)⟩ rfl rfl (Nat.le_of_ble_eq_true rfl) rfl rfl rfl rfl rfl (Nat.le_of_ble_eq_true rfl) (Nat.le_of_ble_eq_true rfl) (Nat.le_of_ble_eq_true rfl) ?_
      refine e_ifb_ne 71 134 132 rfl rfl rfl (fun hq => ?_) (fun hq => ?_)
      · skip
        exfalso
        rcases hb with u | u <;> rw [u] at hq <;> simp at hq
      · skip
        refine e_iconst 72 133 rfl rfl ?_
        exact e_ireturn 73 rfl rfl (Nat.le_of_ble_eq_true rfl) (Nat.le_of_ble_eq_true rfl)
    have fin : x_E MX12_give 0 0 102 [some (.ref 281), some (.int (ii f)), some (.int (ii (bi b2))), some (.int (ii 0)), none] [] (St σ) 0 0 (iv 0) (St (xu σ 281 47 (if b1 = false then 1 else 2))) := by
      refine e_aload_n 56 103 rfl rfl rfl rfl ?_
      refine e_iload_n 57 104 rfl rfl rfl rfl ?_
      refine e_iconst 58 105 rfl rfl ?_
      refine e_bipush 59 107 rfl rfl rfl ?_
      refine g_callS 60 110 (p1) okX12_in csX12_175 ⟨(Nat.le_of_ble_eq_true rfl), (Nat.le_of_ble_eq_true rfl)⟩ rfl rfl rfl rfl (Nat.le_of_ble_eq_true rfl) (Nat.le_of_ble_eq_true rfl) (Nat.le_of_ble_eq_true rfl) ?_
      refine e_iload_n 61 111 rfl rfl rfl rfl ?_
      refine e_ifb_eq 62 124 114 rfl rfl rfl (fun hq => ?_) (fun hq => ?_)
      · skip
        refine e_iconst 68 125 rfl rfl ?_
        exact fin2 false hq.symm
      · skip
        refine e_iload_n 63 115 rfl rfl rfl rfl ?_
        refine e_bipush 64 117 rfl rfl rfl ?_
        refine e_icmp_gt 65 124 120 rfl rfl rfl (by unfold xr at *; omega) (by unfold xr at *; omega) (fun h9 => absurd h9 (by omega)) (fun _ => ?_)
        refine e_iconst 66 121 rfl rfl ?_
        refine e_goto 67 125 rfl rfl ?_
        exact fin2 true hq.symm
    refine e_iload_n 20 35 rfl rfl rfl rfl ?_
    refine e_iconst 21 36 rfl rfl ?_
    refine e_bipush 22 38 rfl rfl rfl ?_
    refine g_callS 23 41 (p1) okX12_in csX12_175 ⟨(Nat.le_of_ble_eq_true rfl), (Nat.le_of_ble_eq_true rfl)⟩ rfl rfl rfl rfl (Nat.le_of_ble_eq_true rfl) (Nat.le_of_ble_eq_true rfl) (Nat.le_of_ble_eq_true rfl) ?_
    refine e_ifb_eq 24 102 44 rfl rfl rfl (fun hq => ?_) (fun hq => ?_)
    · skip
      exact fin
    · skip
      refine e_iload_n 25 45 rfl rfl rfl rfl ?_
      refine e_ifb_eq 26 102 48 rfl rfl rfl (fun hq2 => ?_) (fun hq2 => ?_)
      · skip
        exact fin
      · skip
        exfalso
        rcases hb with w | w
        · rw [hq] at w; cases w
        · rw [hq2] at w; cases w
  -- the first flag
  have pre : ∀ (s : xSig) (b2 : Bool), s 281 3 = σ 281 3 → (∀ j : Int, s 282 j = σ 282 j) → b2 = (decide (2 ≤ σ 1 2) && decide (σ 282 (100 * (100 + (σ 1 2 - 2)) + 1) = 4)) → (2 ≤ σ 1 2 → xr (σ 282 (100 * (100 + (σ 1 2 - 2)) + 1))) → ∀ {o : xO} {Y : xS}, x_E MX12_give 0 0 34 [some (.ref 281), some (.int (ii f)), some (.int (ii (bi b2))), some (.int (ii 0)), none] [] (St s) 0 0 o Y → x_Sp MX12_give 0 0 [.ref 281, .int (ii f)] (St s) o Y := by
    intro s b2 g3 g82 hb2 hx o Y kk
    have q1 : Rd MX12_pile [.int (ii (s 281 3 - 2))] s (iv (100 * (100 + (σ 1 2 - 2)) + 1)) := by
      have := sp_mPile (σ := s) (x := s 281 3 - 2)
      rw [g3, e5] at this
      rw [g3, e5]
      exact this
    by_cases w2 : 2 ≤ σ 1 2
    · have hx2 := hx w2
      rw [decT w2, Bool.true_and] at hb2
      have e82 := g82 (100 * (100 + (σ 1 2 - 2)) + 1)
      generalize σ 282 (100 * (100 + (σ 1 2 - 2)) + 1) = u at *
      refine e_entry okX12_give (Nat.le_of_ble_eq_true rfl) (ls := [some _, some _, none, none, none]) rfl ?_
      refine e_aload_n 0 1 rfl rfl rfl rfl ?_
      refine g_getI 1 4 3 ckX12 flX12_146 rfl rfl (Nat.le_of_ble_eq_true rfl) rfl rfl rfl rfl ?_
      refine e_iconst 2 5 rfl rfl ?_
      refine e_icmp_le 3 30 8 rfl rfl rfl (by unfold xr at *; omega) (by unfold xr at *; omega) (fun h9 => absurd h9 (by omega)) (fun _ => ?_)
      refine e_aload_n 4 9 rfl rfl rfl rfl ?_
      refine g_getR 5 12 ckX12 flX12_7 rfl rfl (Nat.le_of_ble_eq_true rfl) rfl rfl ?_
      refine e_aload_n 6 13 rfl rfl rfl rfl ?_
      refine g_getI 7 16 3 ckX12 flX12_146 rfl rfl (Nat.le_of_ble_eq_true rfl) rfl rfl rfl rfl ?_
      refine e_iconst 8 17 rfl rfl ?_
      refine e_isub 9 18 rfl rfl ?_
      refine g_callS 10 21 (q1) okX12_pile csX12_149 ⟨(Nat.le_of_ble_eq_true rfl), (Nat.le_of_ble_eq_true rfl)⟩ rfl rfl rfl rfl (Nat.le_of_ble_eq_true rfl) (Nat.le_of_ble_eq_true rfl) (Nat.le_of_ble_eq_true rfl) ?_
      refine g_iaload 11 22 rfl rfl (Nat.le_of_ble_eq_true rfl) rfl (by omega) (by omega) (by omega) e82 ?_
      refine e_iconst 12 23 rfl rfl ?_
      refine e_icmp_ne 13 30 26 rfl rfl rfl hx2 (by unfold xr at *; omega) (fun hq => ?_) (fun hq => ?_)
      · skip
        rw [decF hq] at hb2
        subst hb2
        refine e_iconst 16 31 rfl rfl ?_
        refine e_istore_n 17 32 (ls' := [some _, some _, some _, none, none]) rfl rfl rfl (Nat.le_of_ble_eq_true rfl) rfl ?_
        refine e_iconst 18 33 rfl rfl ?_
        refine e_istore_n 19 34 (ls' := [some _, some _, some _, some _, none]) rfl rfl rfl (Nat.le_of_ble_eq_true rfl) rfl ?_
        exact kk
      · skip
        rw [decT hq] at hb2
        subst hb2
        refine e_iconst 14 27 rfl rfl ?_
        refine e_goto 15 31 rfl rfl ?_
        refine e_istore_n 17 32 (ls' := [some _, some _, some _, none, none]) rfl rfl rfl (Nat.le_of_ble_eq_true rfl) rfl ?_
        refine e_iconst 18 33 rfl rfl ?_
        refine e_istore_n 19 34 (ls' := [some _, some _, some _, some _, none]) rfl rfl rfl (Nat.le_of_ble_eq_true rfl) rfl ?_
        exact kk
    · rw [decF w2, Bool.false_and] at hb2
      subst hb2
      refine e_entry okX12_give (Nat.le_of_ble_eq_true rfl) (ls := [some _, some _, none, none, none]) rfl ?_
      refine e_aload_n 0 1 rfl rfl rfl rfl ?_
      refine g_getI 1 4 3 ckX12 flX12_146 rfl rfl (Nat.le_of_ble_eq_true rfl) rfl rfl rfl rfl ?_
      refine e_iconst 2 5 rfl rfl ?_
      refine e_icmp_le 3 30 8 rfl rfl rfl (by unfold xr at *; omega) (by unfold xr at *; omega) (fun _ => ?_) (fun h9 => absurd h9 (by omega))
      refine e_iconst 16 31 rfl rfl ?_
      refine e_istore_n 17 32 (ls' := [some _, some _, some _, none, none]) rfl rfl rfl (Nat.le_of_ble_eq_true rfl) rfl ?_
      refine e_iconst 18 33 rfl rfl ?_
      refine e_istore_n 19 34 (ls' := [some _, some _, some _, some _, none]) rfl rfl rfl (Nat.le_of_ble_eq_true rfl) rfl ?_
      exact kk
  by_cases h2 : 2 ≤ σ 1 2
  · obtain ⟨k, hk⟩ := Int.eq_ofNat_of_zero_le (show 0 ≤ σ 1 2 - 2 by omega)
    have hbel : vbel σ = 5 + 2 * k := by rw [show vbel σ = pv (σ 1 2 - 2) from rfl, pv_in (by omega) (by omega), hk]; rfl
    have htop : vtop σ = 5 + 2 * (k + 1) := by rw [show vtop σ = pv (σ 1 2 - 1) from rfl, pv_in (by omega) (by omega), show (σ 1 2 - 1).toNat = k + 1 by omega]
    obtain ⟨t1, w1⟩ := hM.pile (k := k) (by omega)
    obtain ⟨t2, w2⟩ := hM.pile (k := k + 1) (by omega)
    have hb1 := mv_fld w1.1
    have hkb := knd_bnd (tok (tk (G (5 + 2 * k))) 0)
    have hxh : 2 ≤ σ 1 2 → xr (σ 282 (100 * (100 + (σ 1 2 - 2)) + 1)) := fun _ => by rw [hk, hb1.1]; unfold xr; omega
    by_cases hf : 0 ≤ f ∧ f < 8
    · by_cases hob4 : knd (tok (T (vbel σ)) 0) = 4
      · have hob0 := hob4
        rw [hbel, t1] at hob4
        rw [hob4] at hb1
        rcases mv_hd w1.1 with ⟨x, e, -, u1, u2⟩ | ⟨F, e, hF, u1⟩ | ⟨F, e, -, u1, -⟩
        · omega
        · have hv := w2.1.2.1
          have hpv := ok1_pa hv
          rw [e] at w1 t1
          have t1' : T (vbel σ) = 5000 :: (tk F ++ [0]) := by rw [hbel]; exact t1
          have pts2 : pts (T (vtop σ)) = pa (G (5 + 2 * (k + 1))) := by rw [htop, t2]; exact pts_tk hv
          have hpF : pa F ≤ 23 := by have := w1.2; rw [(pa_add F).1] at this; omega
          have hset := setf_ok F f (G (5 + 2 * (k + 1))) false 0 hF hv hf.1 hf.2
          have hpa := setf_pa F f (G (5 + 2 * (k + 1))) false 0 hF hv
          have hgp := get_pa F f false 0 hF
          have vok : ok1 (.add (setf f (G (5 + 2 * (k + 1))) F) (.num 0)) := Or.inr (Or.inl ⟨_, rfl, hset⟩)
          have w22 := w2.2
          have vpa : pa (.add (setf f (G (5 + 2 * (k + 1))) F) (.num 0)) = 1 + (pa F - pa (get f F) + pa (G (5 + 2 * (k + 1)))) := by rw [(pa_add _).1, hpa]
          have hpn := pa_nn (G (5 + 2 * (k + 1)))
          -- the walk from the flags to the last question
          have walk : ∀ (s : xSig), s 281 3 = σ 281 3 → (∀ j : Int, s 282 j = σ 282 j) → ∃ s1, FP bl9 s s1 ∧ MD s1 (en (.add (setf f (G (5 + 2 * (k + 1))) F) (.num 0))) ∧ ∀ {o : xO} {Y : xS} (b : Bool), b = decide (1 + (pa F - pa (get f F) + pa (G (5 + 2 * (k + 1)))) ≤ 24) → x_E MX12_give 0 0 126 [some (.ref 281), some (.int (ii f)), none, none, none] [.int (ii 1), .int (ii (bi b)), .int (ii (bi true)), .ref 281] (St s1) 0 0 o Y → x_E MX12_give 0 0 34 [some (.ref 281), some (.int (ii f)), some (.int (ii (bi true))), some (.int (ii 0)), none] [] (St s) 0 0 o Y := by
            intro s g3 g82
            have m1 : MV s 282 11300 (100 * (100 + k) + 1) (.add F (.num 0)) := w1.1.of (funext g82)
            have m2 : MV s 282 11300 (100 * (100 + ((k + 1 : Nat) : Int)) + 1) (G (5 + 2 * (k + 1))) := w2.1.of (funext g82)
            have q1 : ∀ s9 : xSig, s9 281 3 = σ 281 3 → Rd MX12_pile [.int (ii (s9 281 3 - 2))] s9 (iv (100 * (100 + k) + 1)) := fun s9 hs => by
              have := sp_mPile (σ := s9) (x := s9 281 3 - 2)
              rw [hs, e5, hk] at this
              rw [hs, e5, hk]
              exact this
            have qt : Rd MX12_top [.ref 281] s (iv (100 * (100 + ((k + 1 : Nat) : Int)) + 1)) := by
              have := sp_mTop (σ := s)
              rw [g3, e5, show σ 1 2 - 1 = ((k + 1 : Nat) : Int) by omega] at this
              exact this
            have c1 := sp_mEnd m2
            have f1 : FP m11 s (xu s 311 0 (pa (G (5 + 2 * (k + 1))))) := FP.rf.x11
            have m2' := m2.fp f1
            have b2 := m2.2.2.2
            have b1 := m1.2.2.2
            have l1 := (ok1_pa m1.2.1).2.1
            have p1' := (pa_add F).1
            obtain ⟨s1, a1, a2, a3⟩ := sp_mBuilds (σ := xu s 311 0 (pa (G (5 + 2 * (k + 1))))) (root := 100 * (100 + k) + 1) (ob := 100 * (100 + k) + 1) (f := f) (fr := 100 * (100 + ((k + 1 : Nat) : Int)) + 1) (to := 100 * (100 + ((k + 1 : Nat) : Int)) + 1 + (en (G (5 + 2 * (k + 1)))).length) (F := F) (w := G (5 + 2 * (k + 1))) (V := .add F (.num 0)) (pre := []) (post := []) isMS_all isMS_all hf hF (by omega) (m1.fp f1) (by simp [en]) (by simp) (Or.inr ⟨hv, m2'.2.2.2.2.2, by omega, rfl, by omega⟩) (by unfold xr; omega) (by omega)
            have hne : decide ((100 * (100 + ((k + 1 : Nat) : Int)) + 1) = 100 * (100 + ((k + 1 : Nat) : Int)) + 1 + (en (G (5 + 2 * (k + 1)))).length) = false := decF (by omega)
            rw [hne] at a2
            have f2 : FP bl9 s s1 := (f1.mono rfl).tr a3
            have c2 := sp_mParts (made_mv a2 vok (by omega))
            have f3 : FP m11 s1 (xu s1 311 0 (pa (.add (setf f (G (5 + 2 * (k + 1))) F) (.num 0)))) := FP.rf.x11
            refine ⟨_, f2.tr (f3.mono rfl), MD.fp a2 f3, fun {o Y} b hb kk => ?_⟩
            have pi1 := fun s9 => sp_mIn (σ := s9) (x := f) (y := 0) (z := 7) hf0 (by unfold xr; omega) (by unfold xr; omega)
            rw [decT (by omega : 0 ≤ f ∧ f ≤ 7)] at pi1
            rw [vpa] at c2 kk
            refine e_iload_n 20 35 rfl rfl rfl rfl ?_
            refine e_iconst 21 36 rfl rfl ?_
            refine e_bipush 22 38 rfl rfl rfl ?_
            refine g_callS 23 41 (pi1 s) okX12_in csX12_175 ⟨(Nat.le_of_ble_eq_true rfl), (Nat.le_of_ble_eq_true rfl)⟩ rfl rfl rfl rfl (Nat.le_of_ble_eq_true rfl) (Nat.le_of_ble_eq_true rfl) (Nat.le_of_ble_eq_true rfl) ?_
            refine e_ifb_eq 24 102 44 rfl rfl rfl (fun hq => ?_) (fun hq => ?_)
            · skip
              cases hq
            · skip
              refine e_iload_n 25 45 rfl rfl rfl rfl ?_
              refine e_ifb_eq 26 102 48 rfl rfl rfl (fun hq2 => ?_) (fun hq2 => ?_)
              · skip
                cases hq2
              · skip
                refine e_aload_n 27 49 rfl rfl rfl rfl ?_
                refine g_getI 28 52 3 ckX12 flX12_146 rfl rfl (Nat.le_of_ble_eq_true rfl) rfl rfl rfl rfl ?_
                refine e_iconst 29 53 rfl rfl ?_
                refine e_isub 30 54 rfl rfl ?_
                refine g_callS 31 57 (q1 s g3) okX12_pile csX12_149 ⟨(Nat.le_of_ble_eq_true rfl), (Nat.le_of_ble_eq_true rfl)⟩ rfl rfl rfl rfl (Nat.le_of_ble_eq_true rfl) (Nat.le_of_ble_eq_true rfl) (Nat.le_of_ble_eq_true rfl) ?_
                refine e_istore 32 59 (ls' := [some _, some _, some _, some _, some _]) rfl rfl (Nat.le_of_ble_eq_true rfl) rfl ?_
                refine e_aload_n 33 60 rfl rfl rfl rfl ?_
                refine e_aload_n 34 61 rfl rfl rfl rfl ?_
                refine g_getR 35 64 ckX12 flX12_7 rfl rfl (Nat.le_of_ble_eq_true rfl) rfl rfl ?_
                refine e_iload 36 66 rfl rfl rfl ?_
                refine e_iload 37 68 rfl rfl rfl ?_
                refine e_iload_n 38 69 rfl rfl rfl rfl ?_
                refine e_aload_n 39 70 rfl rfl rfl rfl ?_
                refine g_getR 40 73 ckX12 flX12_7 rfl rfl (Nat.le_of_ble_eq_true rfl) rfl rfl ?_
                refine e_aload_n 41 74 rfl rfl rfl rfl ?_
                refine g_callV 42 77 (qt) okX12_top cvX12_182 ⟨(Nat.le_of_ble_eq_true rfl), (Nat.le_of_ble_eq_true rfl)⟩ rfl rfl (Nat.le_of_ble_eq_true rfl) rfl rfl rfl rfl rfl (Nat.le_of_ble_eq_true rfl) (Nat.le_of_ble_eq_true rfl) (Nat.le_of_ble_eq_true rfl) ?_
                refine e_aload_n 43 78 rfl rfl rfl rfl ?_
                refine e_aload_n 44 79 rfl rfl rfl rfl ?_
                refine g_getR 45 82 ckX12 flX12_7 rfl rfl (Nat.le_of_ble_eq_true rfl) rfl rfl ?_
                refine e_aload_n 46 83 rfl rfl rfl rfl ?_
                refine e_callV12 47 86 (qt) okX12_top cvX12_182 ⟨(Nat.le_of_ble_eq_true rfl), (Nat.le_of_ble_eq_true rfl)⟩ (Nat.le_of_ble_eq_true rfl) rfl rfl (Nat.le_of_ble_eq_true rfl) rfl rfl rfl rfl rfl (Nat.le_of_ble_eq_true rfl) (Nat.le_of_ble_eq_true rfl) (Nat.le_of_ble_eq_true rfl) ?_
                refine g_callV 48 89 (c1) okX12_end cvX12_131 ⟨(Nat.le_of_ble_eq_true rfl), (Nat.le_of_ble_eq_true rfl)⟩ rfl rfl (Nat.le_of_ble_eq_true rfl) rfl rfl rfl rfl rfl (Nat.le_of_ble_eq_true rfl) (Nat.le_of_ble_eq_true rfl) (Nat.le_of_ble_eq_true rfl) ?_
                refine g_callV 49 92 (a1) okX12_builds cvX12_196 ⟨(Nat.le_of_ble_eq_true rfl), (Nat.le_of_ble_eq_true rfl)⟩ rfl rfl (Nat.le_of_ble_eq_true rfl) rfl rfl rfl rfl rfl (Nat.le_of_ble_eq_true rfl) (Nat.le_of_ble_eq_true rfl) (Nat.le_of_ble_eq_true rfl) ?_
                refine e_aload_n 50 93 rfl rfl rfl rfl ?_
                refine e_aload_n 51 94 rfl rfl rfl rfl ?_
                refine g_getR 52 97 ckX12 flX12_20 rfl rfl (Nat.le_of_ble_eq_true rfl) rfl rfl ?_
                refine e_iconst 53 98 rfl rfl ?_
                refine g_callV 54 101 (c2) okX12_parts cvX12_186 ⟨(Nat.le_of_ble_eq_true rfl), (Nat.le_of_ble_eq_true rfl)⟩ rfl rfl (Nat.le_of_ble_eq_true rfl) rfl rfl rfl rfl rfl (Nat.le_of_ble_eq_true rfl) (Nat.le_of_ble_eq_true rfl) (Nat.le_of_ble_eq_true rfl) ?_
                refine e_istore_n 55 102 (ls' := [some _, some _, some _, some _, some _]) rfl rfl rfl (Nat.le_of_ble_eq_true rfl) rfl ?_
                refine e_aload_n 56 103 rfl rfl rfl rfl ?_
                refine e_iload_n 57 104 rfl rfl rfl rfl ?_
                refine e_iconst 58 105 rfl rfl ?_
                refine e_bipush 59 107 rfl rfl rfl ?_
                refine g_callS 60 110 (pi1 _) okX12_in csX12_175 ⟨(Nat.le_of_ble_eq_true rfl), (Nat.le_of_ble_eq_true rfl)⟩ rfl rfl rfl rfl (Nat.le_of_ble_eq_true rfl) (Nat.le_of_ble_eq_true rfl) (Nat.le_of_ble_eq_true rfl) ?_
                refine e_iload_n 61 111 rfl rfl rfl rfl ?_
                refine e_ifb_eq 62 124 114 rfl rfl rfl (fun hq3 => ?_) (fun hq3 => ?_)
                · skip
                  cases hq3
                · skip
                  refine e_iload_n 63 115 rfl rfl rfl rfl ?_
                  refine e_bipush 64 117 rfl rfl rfl ?_
                  refine e_icmp_gt 65 124 120 rfl rfl rfl (by unfold xr at *; omega) (by unfold xr at *; omega) (fun hq4 => ?_) (fun hq4 => ?_)
                  · skip
                    rw [decF (by omega)] at hb
                    subst hb
                    refine e_iconst 68 125 rfl rfl ?_
                    refine e_iconst 69 126 rfl rfl ?_
                    refine e_dropm [true, true, false, false, false] (ls' := [some _, some _, none, none, none]) rfl ?_
                    exact kk
                  · skip
                    rw [decT (by omega)] at hb
                    subst hb
                    refine e_iconst 66 121 rfl rfl ?_
                    refine e_goto 67 125 rfl rfl ?_
                    refine e_iconst 69 126 rfl rfl ?_
                    refine e_dropm [true, true, false, false, false] (ls' := [some _, some _, none, none, none]) rfl ?_
                    exact kk
          by_cases h24 : 1 + (pa F - pa (get f F) + pa (G (5 + 2 * (k + 1)))) ≤ 24
          · obtain ⟨σ', k1, k2, k3⟩ := sp_give1 hA ⟨h2, h3.2⟩ hf hF hv t1' (by rw [htop]; exact t2) (by omega) hpF
            have n281 : ∀ b : Nat, vA b = false → b ≠ 1 → xu σ' 1 2 (σ 1 2 - 1) b = σ b := fun b hb hb1 => by rw [xu_other _ _ _ hb1]; exact k3 b hb (by simp)
            have g3 : xu σ' 1 2 (σ 1 2 - 1) 281 3 = σ 281 3 := by rw [n281 281 (by decide +kernel) (by decide)]
            have g82 : xu σ' 1 2 (σ 1 2 - 1) 282 = σ 282 := n281 282 (by decide +kernel) (by decide)
            obtain ⟨s1, f1, a2, st⟩ := walk _ g3 (fun j => by rw [g82])
            have f2 : FP [(285, -1), (281, 7), (311, -1), (281, 47)] (xu σ' 1 2 (σ 1 2 - 1)) (xu s1 281 47 0) := (f1.mono rfl).put rfl
            have a3 : MD (xu s1 281 47 0) (en (.add (setf f (G (5 + 2 * (k + 1))) F) (.num 0))) := ⟨by rw [xu_ne _ (Or.inr (by decide))]; exact a2.1, a2.2.1.of fun j _ _ => by rw [xu_other _ _ _ (by decide)], a2.2.2⟩
            have vlen := (ok1_pa vok).2.1
            have c3 := sp_mLays (σ := xu s1 281 47 0) (at9 := 100 * (100 + k) + 1) (by omega) (by omega) a3
            have q1 : Rd MX12_pile [.int (ii (xu s1 281 47 0 281 3 - 2))] (xu s1 281 47 0) (iv (100 * (100 + k) + 1)) := by
              have := sp_mPile (σ := xu s1 281 47 0) (x := xu s1 281 47 0 281 3 - 2)
              rw [f2 281 3 rfl, g3, e5, hk] at this
              rw [f2 281 3 rfl, g3, e5, hk]
              exact this
            generalize hs6 : xu s1 281 47 0 = s6 at *
            have g7 : lay9 s6 (100 * (100 + k) + 1) (en (.add (setf f (G (5 + 2 * (k + 1))) F) (.num 0))) (en (.add (setf f (G (5 + 2 * (k + 1))) F) (.num 0))).length 281 3 = σ 281 3 := by rw [lay9_o _ _ _ _ (by decide), f2 281 3 rfl]; exact g3
            refine ⟨_, xu (lay9 s6 (100 * (100 + k) + 1) (en (.add (setf f (G (5 + 2 * (k + 1))) F) (.num 0))) (en (.add (setf f (G (5 + 2 * (k + 1))) F) (.num 0))).length) 281 3 (σ 281 3 - 1), 0, _, _, ⟨by omega, by simp⟩, fun _ => k1, fun q => absurd rfl q, (?_ : x_Sp MX12_give 0 0 _ _ (iv (σ 281 3 - 1)) _), ?_, fun _ => by rw [e5], ?_⟩
            · refine pre _ true g3 (fun j => by rw [g82]) (by rw [decT h2, hk, decT u1]; rfl) hxh (st true (decT h24).symm ?_)
              refine g_callV 70 129 (sp_mGoesT) okX12_goes cvX12_167 ⟨(Nat.le_of_ble_eq_true rfl), (Nat.le_of_ble_eq_true rfl)⟩ rfl rfl (Nat.le_of_ble_eq_true rfl) rfl rfl rfl rfl rfl (Nat.le_of_ble_eq_true rfl) (Nat.le_of_ble_eq_true rfl) (Nat.le_of_ble_eq_true rfl) ?_
              refine e_ifb_ne 71 134 132 rfl rfl rfl (fun hb => ?_) (fun hb => ?_)
              · skip
                rw [hs6]
                refine e_aload_n 74 135 rfl rfl rfl rfl ?_
                refine e_aload_n 75 136 rfl rfl rfl rfl ?_
                refine g_getI 76 139 3 ckX12 flX12_146 rfl rfl (Nat.le_of_ble_eq_true rfl) rfl rfl rfl rfl ?_
                refine e_iconst 77 140 rfl rfl ?_
                refine e_isub 78 141 rfl rfl ?_
                refine g_callS 79 144 (q1) okX12_pile csX12_149 ⟨(Nat.le_of_ble_eq_true rfl), (Nat.le_of_ble_eq_true rfl)⟩ rfl rfl rfl rfl (Nat.le_of_ble_eq_true rfl) (Nat.le_of_ble_eq_true rfl) (Nat.le_of_ble_eq_true rfl) ?_
                refine g_callV 80 147 (c3) okX12_lays cvX12_193 ⟨(Nat.le_of_ble_eq_true rfl), (Nat.le_of_ble_eq_true rfl)⟩ rfl rfl (Nat.le_of_ble_eq_true rfl) rfl rfl rfl rfl rfl (Nat.le_of_ble_eq_true rfl) (Nat.le_of_ble_eq_true rfl) (Nat.le_of_ble_eq_true rfl) ?_
                refine e_aload_n 81 148 rfl rfl rfl rfl ?_
                refine e_dup 82 149 rfl rfl rfl ?_
                refine g_getI 83 152 3 ckX12 flX12_146 rfl rfl (Nat.le_of_ble_eq_true rfl) rfl rfl rfl g7 ?_
                refine e_iconst 84 153 rfl rfl ?_
                refine e_isub 85 154 rfl rfl ?_
                refine g_putI 86 157 3 ckX12 flX12_146 rfl rfl (Nat.le_of_ble_eq_true rfl) rfl rfl rfl ?_
                refine e_aload_n 87 158 rfl rfl rfl rfl ?_
                refine g_getI 88 161 3 ckX12 flX12_146 rfl rfl (Nat.le_of_ble_eq_true rfl) rfl rfl rfl (xu_same _ 281 3 _) ?_
                exact e_ireturn 89 rfl rfl (Nat.le_of_ble_eq_true rfl) (Nat.le_of_ble_eq_true rfl)
              · skip
                cases hb
            · rw [xu_ne _ (Or.inr (by decide)), lay9_o _ _ _ _ (by decide), ← hs6, xu_same]
            · generalize hσ2 : xu (lay9 s6 (100 * (100 + k) + 1) (en (.add (setf f (G (5 + 2 * (k + 1))) F) (.num 0))) (en (.add (setf f (G (5 + 2 * (k + 1))) F) (.num 0))).length) 281 3 (σ 281 3 - 1) = σ2
              have f9 : FP [(285, -1), (281, 7), (311, -1), (281, 47), (282, -1), (281, 3)] (xu σ' 1 2 (σ 1 2 - 1)) σ2 := by
                rw [← hσ2]
                refine FP.put (FP.tr (f2.mono rfl) (fun b j q => ?_)) rfl
                rw [lay9_o _ _ _ _ (fun e => by subst e; simp [inP] at q)]
              have fv : FV [(1, -1), (285, -1), (281, 7), (311, -1), (281, 47), (282, -1), (281, 3)] σ σ2 := ((k3.fv.mono rfl).putA rfl).tr (f9.fv.mono rfl)
              have s12 : σ2 1 2 = k + 1 := by rw [f9.cell 1 rfl, xu_same]; omega
              refine pile_inv (k := k) (v := .add (setf f (G (5 + 2 * (k + 1))) F) (.num 0)) (T' := uT T (5 + 2 * k) (5000 :: (tk (setf f (G (5 + 2 * (k + 1))) F) ++ [0]))) hM ?_ (by omega) s12 (by omega) ⟨vok, by omega⟩ (uT_same _ _ _) (fun a ha _ _ => uT_ne _ _ ha) fv rfl rfl (sam_fv fv (by decide +kernel) rfl) ?_ (fun j hj => ?_) ?_
              · rw [hbel] at k2
                exact (k2.xu 2 _ (by decide +kernel)).fp f9 (by decide +kernel)
              · refine ⟨isMA_all, vok, by omega, by omega, by omega, ?_⟩
                rw [← hσ2]
                refine (lay9_in s6 _ _).of fun j _ _ => ?_
                rw [xu_other _ _ _ (by decide)]
              · rw [← hσ2, xu_other _ _ _ (by decide)]
                unfold lay9
                rw [if_neg (by omega), f2.cell 282 rfl, g82]
              · rw [s12, ← hσ2, xu_same, e5]
                omega
          · obtain ⟨s1, f1, a2, st⟩ := walk σ rfl (fun j => rfl)
            refine STEP.refuse h 2 (by simp) (sp_giveX2 hA h3 hf hF t1' (by rw [pts2]; omega)) (σ2 := xu s1 281 47 2) (y := 0) (pre σ true rfl (fun j => rfl) (by rw [decT h2, hk, decT u1]; rfl) hxh (st false (decF h24).symm ?_)) (xu_same _ _ _ _) ((f1.mono rfl).put rfl)
            refine g_callV 70 129 (sp_mGoes (a := true) (b := false) (c := true)) okX12_goes cvX12_167 ⟨(Nat.le_of_ble_eq_true rfl), (Nat.le_of_ble_eq_true rfl)⟩ rfl rfl (Nat.le_of_ble_eq_true rfl) rfl rfl rfl rfl rfl (Nat.le_of_ble_eq_true rfl) (Nat.le_of_ble_eq_true rfl) (Nat.le_of_ble_eq_true rfl) ?_
            refine e_ifb_ne 71 134 132 rfl rfl rfl (fun hb => ?_) (fun hb => ?_)
            · skip
              cases hb
            · skip
              refine e_iconst 72 133 rfl rfl ?_
              exact e_ireturn 73 rfl rfl (Nat.le_of_ble_eq_true rfl) (Nat.le_of_ble_eq_true rfl)
        · omega
      · have u4 : ¬ σ 282 (100 * (100 + (σ 1 2 - 2)) + 1) = 4 := by rw [hk, hb1.1]; rw [hbel, t1] at hob4; exact hob4
        exact STEP.refuse h 2 (by simp) (sp_giveX hA h3 hf hob4) (σ2 := xu σ 281 47 2) (y := 0) (pre σ false rfl (fun j => rfl) (by rw [decF u4, Bool.and_false]) hxh (refu true false (decT (by omega)).symm (Or.inr rfl))) (xu_same _ _ _ _) F47s
    · exact STEP.refuse h 1 (by simp) (sp_giveX0 hf0 hf) (σ2 := xu σ 281 47 1) (y := 0) (pre σ _ rfl (fun j => rfl) rfl hxh (refu false _ (decF (by omega)).symm (Or.inl rfl))) (xu_same _ _ _ _) F47s
  · by_cases hf : 0 ≤ f ∧ f < 8
    · have hk0 : knd (tok (T (vbel σ)) 0) ≠ 4 := by rw [show vbel σ = pv (σ 1 2 - 2) from rfl, no_bel hA (by omega)]; decide
      exact STEP.refuse h 2 (by simp) (sp_giveX hA h3 hf hk0) (σ2 := xu σ 281 47 2) (y := 0) (pre σ false rfl (fun j => rfl) (by rw [decF h2, Bool.false_and]) (fun w => absurd w h2) (refu true false (decT (by omega)).symm (Or.inr rfl))) (xu_same _ _ _ _) F47s
    · exact STEP.refuse h 1 (by simp) (sp_giveX0 hf0 hf) (σ2 := xu σ 281 47 1) (y := 0) (pre σ false rfl (fun j => rfl) (by rw [decF h2, Bool.false_and]) (fun w => absurd w h2) (refu false false (decF (by omega)).symm (Or.inl rfl))) (xu_same _ _ _ _) F47s
