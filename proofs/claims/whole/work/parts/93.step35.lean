/-! ===== steps: find, the step ===== -/
abbrev mL9 : List (Nat × Int) := [(306, -1), (281, 41), (311, -1), (295, -1), (281, 18), (292, -1), (293, -1), (294, -1), (281, 21), (296, -1)]
/-- the model's find from where it looks for a plan -/
theorem fnd_run {i : Nat} {τ m : xSig} {T : Nat → List Int} {G : Nat → Fo} (hM : IM i τ T G m) (hi : i < 512) {r : Int} (h60 : (fnd (fits9 τ T) 0 100).length ≤ 60) (hok : sOK (cps τ T) 4) :
    ∃ mf : xSig, x_E MX12_find 0 0 33 [some (.ref 281), some (.int (ii r)), some (.long (ll (mk9 (shp τ)))), none, some (.int (ii (-1))), some (.int (ii 0)), none, none, none] [] (St m) 0 0 (iv (fnd (fits9 τ T) 0 100).length) (St mf) ∧ FP mL9 m mf ∧ (mf 295 0 = (cps τ T).1 ∧ mf 295 1 = (cps τ T).2.1 ∧ mf 295 2 = (cps τ T).2.2 ∧ mf 295 3 = bi (decide (pfr τ ≠ -1) && !isK τ T)) ∧ MH9 mf (fnd (fits9 τ T) 0 100) ∧ PLB (i + 1) τ (cpr τ T) mf := by
  obtain ⟨hX, h6, hpl, hnd⟩ := hM.1 8
  obtain ⟨e18, hpe⟩ := hM.2 9
  have hI := hM.fim
  have hN : FND τ T G m := ⟨hI, hM.docm, hM.2 7, hM.2 4⟩
  have hB : PLB i τ τ m := ⟨hX, h6, hpl, hnd, e18, hpe⟩
  have hX6 := hX.2.2.1
  obtain ⟨h41, h42, h43⟩ := hM.1 4
  have hcn : 0 ≤ cnd τ := (smN_01 (fun i => bi_01 _) 100 0).1
  have hd : 0 ≤ τ 25 4 ∧ τ 25 4 ≤ 100 := by omega
  obtain ⟨hsv, -⟩ := shp_v hI
  have hKb := mk9_bnd hsv
  have hpb := pfr_bnd hX
  have mem : ∀ j : Nat, (j : Int) < τ 248 6 → ∃ q ∈ plC τ, mk9 q.1 = m 292 j ∧ q.2.1 = m 293 j ∧ q.2.2 = m 294 j := by
    intro j hj
    have hm := List.mem_of_getElem? (plM_get (σ := m) (p := j) (by rw [e18]; exact hj))
    obtain ⟨q, hq1, hq2⟩ := List.mem_map.mp (hpe.mem_iff.mpr hm)
    exact ⟨q, hq1, congrArg (fun z : Pn => z.1) hq2, congrArg (fun z : Pn => z.2.1) hq2, congrArg (fun z : Pn => z.2.2) hq2⟩
  obtain ⟨N, hN9⟩ : ∃ N : Nat, τ 248 6 = N := ⟨(τ 248 6).toNat, by omega⟩
  obtain ⟨a1, ha1, hgo⟩ := fk_lp (s := m) (K := mk9 (shp τ)) (r := r) (N := N) (by omega) (by rw [e18]; exact hN9) (fun j hj => by
    obtain ⟨q, q1, q2, -⟩ := mem j (by omega)
    have := mk9_bnd (hpl q q1).1
    omega) hKb N 0 (-1) (by omega) (Or.inl ⟨rfl, fun j hj => by omega⟩)
  by_cases hp : pfr τ = -1
  · -- no plan
    have hno : shp τ ∉ (plC τ).map Prod.fst := by
      intro q
      obtain ⟨q0, q1, q2⟩ := List.mem_map.mp q
      unfold plC at q1
      obtain ⟨j, j1, j2⟩ := List.mem_map.mp q1
      have j3 := List.mem_range.mp j1
      rw [← j2] at q2
      have q3 : τ 251 j = shp τ := q2
      unfold pfr at hp
      rcases fstIs_bnd (f := τ 251) (x := shp τ) (τ 248 6).toNat 0 with w | w
      · exact w.2 j (by omega) (by omega) q3
      · omega
    have ea : a1 = -1 := by
      rcases ha1 with w | ⟨w1, w2, w3⟩
      · exact w.1
      · exfalso
        obtain ⟨j, rfl⟩ := Int.eq_ofNat_of_zero_le w1
        obtain ⟨q, q1, q2, -⟩ := mem j (by omega)
        exact hno (List.mem_map.mpr ⟨q, q1, mk9_inj (hpl q q1).1 hsv (q2.trans w3)⟩)
    subst ea
    have hK : isK τ T = false := decide_eq_false (fun q => q.1 hp)
    have ecps : cps τ T = tpS (trS τ T 0 3 (τ 256 6, τ 256 7, 0)) (-1) (τ 25 4) := by unfold cps; rw [if_neg (by rw [hK]; decide), if_pos hp]
    have ecpr : cpr τ T = kpp τ (shp τ) (cps τ T).1 (cps τ T).2.1 := by unfold cpr; rw [if_neg (by rw [hK]; decide), if_pos hp]
    have f0 : FP [(295, -1)] m (xu (xu m 295 2 0) 295 3 0) := (FP.rf.putA rfl).putA rfl
    have hN0 := hN.fp f0 rfl
    obtain ⟨s1, b1, g1, p1, q1, r1⟩ := tr3 hX hN0 (r := r) (K := mk9 (shp τ)) (b := -1) (f := -1) (t := (τ 256 6, τ 256 7, 0)) ⟨by simp [xu], fun _ => rfl, fun q => absurd rfl q, Int.le_refl 0, xm1, fun q => absurd rfl q⟩
    have hN1 := hN0.fp p1 rfl
    have t18 : s1 281 18 = τ 248 6 := by rw [p1 281 18 rfl, f0 281 18 rfl, e18]
    obtain ⟨s2, p2, u0, u1, u2, u3, u4, u5, r2⟩ := pl_new (s := s1) (r := r) (K := mk9 (shp τ)) hN1.2.2.2 hd q1 (by rw [t18]; omega)
    rw [← ecps] at u0 u1 u2 u4
    have hN2 := hN1.fp p2 rfl
    obtain ⟨mf, k1, k2, k3⟩ := fd_all (r := r) (K := mk9 (shp τ)) h60 hN2
    refine ⟨mf, hgo _ _ (f1_none (r1 _ _ (r2 _ _ k1))), ?_, ?_, k2, ?_⟩
    · exact FP.tr (f0.mono rfl) (FP.tr (p1.mono rfl) (FP.tr (p2.mono rfl) (k3.mono rfl)))
    · rw [k3.cell 295 rfl]
      refine ⟨u0, u1, u2, ?_⟩
      rw [u3, p1 295 3 rfl, hp]
      simp [xu, bi]
    · have epl : plM s1 = plM m := plM_congr (sam_fp (FP.tr (f0.mono rfl) (p1.mono rfl) : FP [(306, -1), (281, 41), (311, -1), (295, -1)] m s1) rfl)
      have epl2 : plM mf = plM s2 := plM_congr (sam_fp k3 rfl)
      rw [ecpr]
      refine hB.add hi hsv ?_ hok.1 hok.2.1 hno ?_ ?_
      · have ho : okT τ (cps τ T) := by
          rw [ecps]
          exact (okT.tr 3 0 _ ⟨Int.le_refl 0, fun q => absurd rfl q⟩).tp (Or.inl rfl)
        have hne : (cps τ T).2.2 ≠ 0 := by
          rw [ecps]
          show (trS τ T 0 3 (τ 256 6, τ 256 7, 0)).2.2 + 1 ≠ 0
          have := (okT.tr (T := T) 3 0 (τ 256 6, τ 256 7, 0) (⟨Int.le_refl 0, fun q => absurd rfl q⟩ : okT τ _)).1
          omega
        exact (ho.2 hne).imp (fun w => w) (fun w => ⟨w.1, hasFor_of hI w.1 w.2⟩)
      · rw [k3 281 18 rfl, u5, t18, e18]
      · rw [epl2, u4, epl]
  · -- a plan
    have hp2 : 0 ≤ pfr τ ∧ pfr τ < τ 248 6 := hpb.resolve_left hp
    have hp251 : τ 251 (pfr τ) = shp τ := by
      unfold pfr at hp ⊢
      rcases fstIs_bnd (f := τ 251) (x := shp τ) (τ 248 6).toNat 0 with w | w
      · exact absurd w.1 hp
      · exact w.2.2
    obtain ⟨p, hpn⟩ := Int.eq_ofNat_of_zero_le hp2.1
    have hpn' : pfr τ = (p : Int) := hpn
    have hget : (plC τ)[p]? = some (shp τ, τ 252 p, τ 253 p) := by
      rw [plC_get (by omega), ← hpn', hp251]
    have hpm := List.mem_of_getElem? hget
    have ha : 0 ≤ a1 ∧ a1 < N ∧ m 292 a1 = mk9 (shp τ) := by
      rcases ha1 with ⟨w1, w2⟩ | w
      · exfalso
        have hm2 := hpe.mem_iff.mp (List.mem_map.mpr ⟨_, hpm, rfl⟩)
        unfold plM at hm2
        obtain ⟨j, j1, j2⟩ := List.mem_map.mp hm2
        have j3 := List.mem_range.mp j1
        have j4 : m 292 j = mk9 (shp τ) := congrArg (fun z : Pn => z.1) j2
        exact w2 j (by omega) j4
      · exact w
    obtain ⟨a, rfl⟩ := Int.eq_ofNat_of_zero_le ha.1
    obtain ⟨q, q1, q2, q3, q4⟩ := mem a (by omega)
    have hqs : q.1 = shp τ := mk9_inj (hpl q q1).1 hsv (q2.trans ha.2.2)
    have hqq : q = (shp τ, τ 252 p, τ 253 p) := by
      have hc := (er_cons hget).map Prod.fst
      have hc2 := List.nodup_cons.mp (hc.nodup_iff.mp hnd)
      rcases List.mem_cons.mp ((er_cons hget).mem_iff.mp q1) with w | w
      · exact w
      · exact absurd (List.mem_map.mpr ⟨q, w, hqs⟩) hc2.1
    rw [hqq] at q3 q4
    have m293 : m 293 a = τ 252 p := q3.symm
    have m294 : m 294 a = τ 253 p := q4.symm
    have hgetM : (plM m)[a]? = some (mk9 (shp τ), τ 252 p, τ 253 p) := by
      rw [plM_get (by omega), ha.2.2, m293, m294]
    have hq52 := hX.2.2.2.2.1 p
    have hq53 := hX.2.2.2.2.2 p
    have hplb : 0 ≤ plk τ T ∧ plk τ T ≤ 100 := by
      unfold plk
      split
      · exact hd
      · exact lkd_bnd τ T _ _ _
    have hlk : ∀ u, FP [(295, -1)] m u → ∃ u', x_Sp MX12_looked 0 0 [.ref 281, .int (ii (τ 252 p))] (St u) (iv (plk τ T)) (St u') ∧ FP lk9 u u' := by
      intro u hu
      have hNu := hN.fp hu rfl
      unfold plk
      rw [hpn']
      by_cases w : τ 252 p = -1
      · rw [if_pos w, w]
        refine ⟨u, ?_, FP.rf⟩
        have := sp_mLooked0 (σ := u)
        rw [hNu.2.2.2] at this
        exact this
      · rw [if_neg w]
        have w2 := ((hpl _ hpm).2).resolve_left w
        have w3 := ihas_in w2.1
        exact sp_mLooked hX hNu.1 hNu.2.1 w2.1 (ffi_of hI hX w2.1 w2.2) ((hNu.2.2.1 _ w3.1 w3.2.1).2 w2.1)
    obtain ⟨s3, p3, v0, v1, v2, v3, kp, dr⟩ := f1_plan (s := m) (r := r) (K := mk9 (shp τ)) (N := N) (a := a) (x := τ 252 p) (v := plk τ T) (l := τ 253 p) ⟨by omega, by omega⟩ (by omega) m293 m294 hq53 hplb hlk
    have hN3 := hN.fp p3 rfl
    by_cases hle : plk τ T ≤ 2 * τ 253 p + 2
    · have hK : isK τ T = true := decide_eq_true ⟨hp, by rw [hpn']; exact hle⟩
      have ecps : cps τ T = (τ 252 p, plk τ T, 0) := by unfold cps; rw [if_pos hK, hpn']
      have ecpr : cpr τ T = τ := by unfold cpr; rw [if_pos hK]
      obtain ⟨mf, k1, k2, k3⟩ := fd_all (r := r) (K := mk9 (shp τ)) h60 hN3
      refine ⟨mf, hgo _ _ (kp hle _ _ k1), FP.tr (p3.mono rfl) (k3.mono rfl), ?_, k2, ?_⟩
      · rw [k3.cell 295 rfl, ecps, hK, Bool.not_true, Bool.and_false]
        exact ⟨v0, v1, v2, v3⟩
      · rw [ecpr]
        have epl : plM mf = plM m := plM_congr (sam_fp (FP.tr (p3.mono rfl) (k3.mono rfl) : FP [(306, -1), (281, 41), (311, -1), (295, -1), (281, 21), (296, -1)] m mf) rfl)
        refine ⟨hX, by omega, hpl, hnd, ?_, ?_⟩
        · rw [k3 281 18 rfl, p3 281 18 rfl, e18]
        · rw [epl]; exact hpe
    · have hK : isK τ T = false := decide_eq_false (fun q => hle (by have := q.2; rw [hpn'] at this; exact this))
      have ecps : cps τ T = tpS (trS τ T 0 3 (τ 252 p, plk τ T, 0)) (-1) (τ 25 4) := by unfold cps; rw [if_neg (by rw [hK]; decide), if_neg hp, hpn']
      have ecpr : cpr τ T = kpp (fgp τ p) (shp τ) (cps τ T).1 (cps τ T).2.1 := by unfold cpr; rw [if_neg (by rw [hK]; decide), if_neg hp, hpn']
      have s318 : s3 281 18 = τ 248 6 := by rw [p3 281 18 rfl, e18]
      have epl3 : plM s3 = plM m := plM_congr (sam_fp p3 rfl)
      obtain ⟨s4, hs4⟩ : ∃ s4, s4 = xu (dsh s3 a (s3 281 18 - 1)) 281 18 (s3 281 18 - 1) := ⟨_, rfl⟩
      have f4 : FP [(292, -1), (293, -1), (294, -1), (281, 18)] s3 s4 := by rw [hs4]; exact ((dsh_f s3 a _).mono rfl).put rfl
      have s418 : s4 281 18 = τ 248 6 - 1 := by rw [hs4, xu_same, s318]
      have epl4 : plM s4 = (plM m).eraseIdx a := by
        rw [hs4, dsh_pl (by omega), epl3]
      have f5 : FP [(292, -1), (293, -1), (294, -1), (281, 18), (295, -1)] s3 (xu s4 295 3 1) := (f4.mono rfl).putA rfl
      have hN5 := hN3.fp f5 rfl
      obtain ⟨hB5, hno⟩ := hB.del (m' := s4) hget hgetM (by rw [s418, e18]) epl4
      obtain ⟨s1, b1, g1, p1, q1, r1⟩ := tr3 hX hN5 (r := r) (K := mk9 (shp τ)) (b := -1) (f := -1) (t := (τ 252 p, plk τ T, 0)) ⟨by rw [xu_ne _ (Or.inr (by decide)), f4 295 2 rfl]; exact v2, fun _ => rfl, fun q => absurd rfl q, Int.le_refl 0, xm1, fun q => absurd rfl q⟩
      have hN1 := hN5.fp p1 rfl
      have t18 : s1 281 18 = τ 248 6 - 1 := by rw [p1 281 18 rfl, xu_other _ _ _ (by decide), s418]
      obtain ⟨s2, p2, u0, u1, u2, u3, u4, u5, r2⟩ := pl_new (s := s1) (r := r) (K := mk9 (shp τ)) hN1.2.2.2 hd q1 (by rw [t18]; omega)
      rw [← ecps] at u0 u1 u2 u4
      have hN2 := hN1.fp p2 rfl
      obtain ⟨mf, k1, k2, k3⟩ := fd_all (r := r) (K := mk9 (shp τ)) h60 hN2
      have k170 := r1 _ _ (r2 _ _ k1)
      rw [hs4] at k170
      refine ⟨mf, hgo _ _ (dr hle _ _ k170), ?_, ?_, k2, ?_⟩
      · exact FP.tr (p3.mono rfl) (FP.tr (f5.mono rfl) (FP.tr (p1.mono rfl) (FP.tr (p2.mono rfl) (k3.mono rfl))))
      · rw [k3.cell 295 rfl]
        refine ⟨u0, u1, u2, ?_⟩
        rw [u3, p1 295 3 rfl, xu_same, hK, decT hp]
        rfl
      · have epl1 : plM s1 = plM s4 := plM_congr (sam_fp (FP.tr ((FP.rf.putA rfl : FP [(295, -1)] s4 (xu s4 295 3 1)).mono rfl) (p1.mono rfl) : FP [(306, -1), (281, 41), (311, -1), (295, -1)] s4 s1) rfl)
        have epl2 : plM mf = plM s2 := plM_congr (sam_fp k3 rfl)
        rw [ecpr]
        refine hB5.add hi hsv ?_ hok.1 hok.2.1 hno ?_ ?_
        · have ho : okT τ (cps τ T) := by
            rw [ecps]
            exact (okT.tr 3 0 _ ⟨Int.le_refl 0, fun q => absurd rfl q⟩).tp (Or.inl rfl)
          have hne : (cps τ T).2.2 ≠ 0 := by
            rw [ecps]
            show (trS τ T 0 3 (τ 252 p, plk τ T, 0)).2.2 + 1 ≠ 0
            have := (okT.tr (T := T) 3 0 (τ 252 p, plk τ T, 0) (⟨Int.le_refl 0, fun q => absurd rfl q⟩ : okT τ _)).1
            omega
          exact (ho.2 hne).imp (fun w => w) (fun w => ⟨w.1, hasFor_of hI w.1 w.2⟩)
        · rw [k3 281 18 rfl, u5, t18, s418]
        · rw [epl2, u4, epl1]
abbrev fC9 : List (Nat × Int) := [(248, -1), (251, -1), (252, -1), (253, -1), (254, -1), (255, -1), (256, 5), (256, 6), (256, 7), (256, 8), (256, 9), (261, -1), (262, -1), (263, -1)]
theorem st_find {i : Nat} {σ : xSig} (h : INV i σ) (hi : i < 512) {r : Int} (hr0 : xr r) : STEP i MX11_find MX12_find iv [nIAE] [.int (ii r)] σ := by
  have hM := h
  obtain ⟨T, G, hA, hM⟩ := hM
  have pr := fun s => sp_mIn (σ := s) (x := r) (y := 0) (z := 1) hr0 (by unfold xr; omega) (by unfold xr; omega)
  by_cases hr : 0 ≤ r ∧ r < 2
  · rw [decT (by omega)] at pr
    obtain ⟨w1, w2, w3, w4⟩ := hM.ver (by omega) hr
    obtain ⟨τ, hτ⟩ : ∃ τ, τ = uro σ r := ⟨_, rfl⟩
    have hUM := hM.use hr
    rw [← hτ] at hUM
    have fu : FP [(236, -1), (237, -1)] σ τ := by rw [hτ]; exact FX.fp (uro_o σ r)
    have hAu : VAll τ T := hA.fp fu (by decide +kernel)
    obtain ⟨hX, h6, hpl, hnd⟩ := hUM.1 8
    have h4 := hUM.1 4
    have h42 : τ 25 4 = cnd τ := h4.2.1
    have h43 : cnd τ ≤ 60 := h4.2.2
    have hcn : 0 ≤ cnd τ := (smN_01 (fun i => bi_01 _) 100 0).1
    have hIu := hUM.fim
    have hpb := pfr_bnd hX
    obtain ⟨σ1, σ2, x1, q1, q2, q3, q4⟩ := sp_find1 (σ := σ) (σu := τ) hr w1 w2 hτ hAu h4.1 hUM.flt hX hUM.gda (by omega) (by omega) (hUM.1 9).1 h4.2.2 (by
      intro z1 z2
      have hp2 := hpb.resolve_left z1
      obtain ⟨p, hpn⟩ := Int.eq_ofNat_of_zero_le hp2.1
      have hpn' : pfr τ = (p : Int) := hpn
      rw [hpn'] at z2 ⊢
      have hpm := List.mem_of_getElem? (plC_get (σ := τ) (p := p) (by omega))
      have z3 := ((hpl _ hpm).2).resolve_left z2
      refine ⟨z3.1, ffi_of hIu hX z3.1 ?_⟩
      have e251 : τ 251 p = shp τ := by
        rw [← hpn']
        unfold pfr at z1 ⊢
        rcases fstIs_bnd (f := τ 251) (x := shp τ) (τ 248 6).toNat 0 with w | w
        · exact absurd w.1 z1
        · exact w.2.2
      have z4 := z3.2
      rw [← e251]
      exact z4)
    obtain ⟨y1, y2, y3, y4, y5, y6⟩ := q1
    have fcp : FX [248, 251, 252, 253] τ (cpr τ T) := by
      unfold cpr
      split
      · exact FX.rf
      · refine FX.tr ?_ (kpp_o _ _ _ _)
        split
        · exact FX.rf
        · exact fgp_o _ _
    have f1 : FP fC9 τ σ1 := by
      refine FP.tr ((FX.fp fcp).mono (L := wc [248, 251, 252, 253]) rfl) (fx256 (K := [254, 255]) (fun b hb => y1 b (fun q => hb (by simp at q ⊢; omega))) (fun j hj => ?_) rfl)
      rw [fcp 256 (by decide)]
      simp only [inP, List.any_cons, List.any_nil, Bool.or_false, Bool.or_eq_false_iff, Bool.and_eq_false_iff, beq_eq_false_iff_ne] at hj
      exact y6 j (by omega) (by omega) (by omega) (by omega)
    have f2 : FP fC9 σ1 σ2 := by
      refine fx256 (K := [261, 262, 263]) q4.1 (fun j hj => ?_) rfl
      simp only [inP, List.any_cons, List.any_nil, Bool.or_false, Bool.or_eq_false_iff, Bool.and_eq_false_iff, beq_eq_false_iff_ne] at hj
      exact q4.2 j (by omega)
    have f12 := f1.tr f2
    have fall : FP ((236, -1) :: (237, -1) :: fC9) σ σ2 := FP.tr (fu.mono rfl) (f12.mono rfl)
    have hAf : VAll σ2 T := hA.fp fall (by decide +kernel)
    have hM2 : IM i σ T G (xu σ2 281 47 0) := (hM.fp fall (by decide +kernel)).fp (F47 (c := 0)) (by decide +kernel)
    have hM3 := hM2.use hr
    rw [← hτ] at hM3
    have h60 : (fnd (fits9 τ T) 0 100).length ≤ 60 := q3.2.1
    obtain ⟨mf, k1, k2, ⟨l0, l1, l2, l3⟩, k3, k4⟩ := fnd_run hM3 hi (r := r) h60 q2
    have hu : x_Sp MX12_uses 0 0 [.ref 281, .int (ii r)] (St (xu σ2 281 47 0)) vv (St (mur (xu σ2 281 47 0) r)) := by
      refine sp_mUses hr ?_ ?_
      · rw [xu_other _ _ _ (by decide), fall.cell 301 rfl, w3]; exact w2
      · rw [xu_ne _ (Or.inr (by decide)), fall 281 31 rfl, w4]; exact w1
    have hsh := sp_mShape hM3.fim
    generalize hFF : fnd (fits9 τ T) 0 100 = FF at *
    have fm : FP ((281, 47) :: (301, -1) :: (302, -1) :: mL9) σ2 mf := FP.tr ((FP.rf.put rfl : FP [(281, 47)] σ2 (xu σ2 281 47 0)).mono rfl) (FP.tr ((mur_f _ r).mono rfl) (k2.mono rfl))
    have ecp : ∀ b : Nat, b = 248 ∨ b = 251 ∨ b = 252 ∨ b = 253 ∨ b = 249 ∨ b = 250 → σ2 b = cpr τ T b := fun b hb => by
      rw [q4.1 b (by simp; omega), y1 b (by simp; omega)]
    have epl : plC σ2 = plC (cpr τ T) := by unfold plC; rw [ecp 248 (by omega), ecp 251 (by omega), ecp 252 (by omega), ecp 253 (by omega)]
    obtain ⟨c1, c2, c3, c4, c5, c6⟩ := k4
    have z256 : ∀ j : Int, j ≠ 5 → σ2 256 j = σ1 256 j := q4.2
    refine ⟨σ2, mf, 0, _, _, ⟨by omega, by simp⟩, fun _ => x1, fun q => absurd rfl q, (?_ : x_Sp MX12_find 0 0 _ _ (iv (FF.length : Int)) _), ?_, fun _ => rfl, ?_⟩
    · skip
      refine e_entry okX12_find (Nat.le_of_ble_eq_true rfl) (ls := [some _, some _, none, none, none, none, none, none, none]) rfl ?_
      refine e_aload_n 0 1 rfl rfl rfl rfl ?_
      refine e_iload_n 1 2 rfl rfl rfl rfl ?_
      refine e_iconst 2 3 rfl rfl ?_
      refine e_iconst 3 4 rfl rfl ?_
      refine g_callS 4 7 (pr σ2) okX12_in csX12_175 ⟨(Nat.le_of_ble_eq_true rfl), (Nat.le_of_ble_eq_true rfl)⟩ rfl rfl rfl rfl (Nat.le_of_ble_eq_true rfl) (Nat.le_of_ble_eq_true rfl) (Nat.le_of_ble_eq_true rfl) ?_
      refine e_iconst 5 8 rfl rfl ?_
      refine e_iconst 6 9 rfl rfl ?_
      refine g_callV 7 12 (sp_mGoesT) okX12_goes cvX12_167 ⟨(Nat.le_of_ble_eq_true rfl), (Nat.le_of_ble_eq_true rfl)⟩ rfl rfl (Nat.le_of_ble_eq_true rfl) rfl rfl rfl rfl rfl (Nat.le_of_ble_eq_true rfl) (Nat.le_of_ble_eq_true rfl) (Nat.le_of_ble_eq_true rfl) ?_
      refine e_ifb_ne 8 17 15 rfl rfl rfl (fun hb => ?_) (fun hb => ?_)
      · skip
        refine e_aload_n 11 18 rfl rfl rfl rfl ?_
        refine e_iload_n 12 19 rfl rfl rfl rfl ?_
        refine g_callV 13 22 (hu) okX12_uses cvX12_234 ⟨(Nat.le_of_ble_eq_true rfl), (Nat.le_of_ble_eq_true rfl)⟩ rfl rfl (Nat.le_of_ble_eq_true rfl) rfl rfl rfl rfl rfl (Nat.le_of_ble_eq_true rfl) (Nat.le_of_ble_eq_true rfl) (Nat.le_of_ble_eq_true rfl) ?_
        refine e_aload_n 14 23 rfl rfl rfl rfl ?_
        refine g_callV 15 26 (hsh) okX12_shape cvX12_301 ⟨(Nat.le_of_ble_eq_true rfl), (Nat.le_of_ble_eq_true rfl)⟩ rfl rfl (Nat.le_of_ble_eq_true rfl) rfl rfl rfl rfl rfl (Nat.le_of_ble_eq_true rfl) (Nat.le_of_ble_eq_true rfl) (Nat.le_of_ble_eq_true rfl) ?_
        refine e_lstore_n 16 27 (ls' := [some _, some _, some _, none, none, none, none, none, none]) rfl rfl rfl (Nat.le_of_ble_eq_true rfl) rfl ?_
        refine e_iconst 17 28 rfl rfl ?_
        refine e_istore 18 30 (ls' := [some _, some _, some _, none, some _, none, none, none, none]) rfl rfl (Nat.le_of_ble_eq_true rfl) rfl ?_
        refine e_iconst 19 31 rfl rfl ?_
        refine e_istore 20 33 (ls' := [some _, some _, some _, none, some _, some _, none, none, none]) rfl rfl (Nat.le_of_ble_eq_true rfl) rfl ?_
        exact k1
      · skip
        cases hb
    · rw [k2 281 47 rfl, (mur_f _ _) 281 47 rfl, xu_same]
    · have key : IM (i + 1) σ2 T G mf := by
        refine (hM3.rows (Nat.le_succ i) [8, 9, 10] [9, 10, 11] (fC9 ++ mL9) (f12.mono rfl) (k2.mono rfl) (by decide +kernel) (by decide +kernel) (alc ?_ (alc ?_ (alc ?_ al0))) (alc ?_ (alc ?_ (alc ?_ al0))))
        · refine ⟨c1.fr fun b b1 b2 => ecp b (by omega), by rw [ecp 248 (by omega)]; exact c2, ?_, by rw [epl]; exact c4⟩
          rw [epl]
          intro q hq
          have e249 : σ2 249 = τ 249 := f12.cell 249 rfl
          obtain ⟨n1, n2⟩ := c3 q hq
          rw [ihas_congr e249, pxs_congr e249]
          exact ⟨n1, n2⟩
        · refine ⟨?_, ?_, ?_⟩
          · rw [z256 6 (by decide), z256 7 (by decide), y2, y3]
            exact ⟨q2.1, q2.2.1, Int.le_refl 0, Int.le_refl 0⟩
          · rw [z256 9 (by decide), y5]
            exact bi_01 _
          · rw [f12 256 4 rfl]
            exact (hUM.1 9).2.2
        · refine ⟨?_, fun k hk => ?_⟩
          · rw [q3.1]; omega
          · rw [q3.1] at hk
            rw [q3.2.2 k (by omega)]
            have hmem : FF.getD k 0 ∈ FF := by
              rw [List.getD_eq_getElem?_getD, List.getElem?_eq_getElem (by omega)]
              exact List.getElem_mem _
            rw [← hFF] at hmem ⊢
            have := fnd_mem 100 0 _ hmem
            omega
        · refine ⟨by rw [ecp 248 (by omega)]; exact c5, ?_⟩
          rw [epl]; exact c6
        · refine ⟨?_, ?_, ?_, ?_⟩
          · rw [l0, z256 6 (by decide), y2]
          · rw [l1, z256 7 (by decide), y3]
          · rw [l2, z256 8 (by decide), y4]
          · rw [l3, z256 9 (by decide), y5]
        · refine ⟨by rw [k3.1, q3.1], fun k hk => ?_⟩
          rw [q3.1] at hk
          rw [k3.2.2 k (by omega), q3.2.2 k (by omega)]
      refine INV.fin hAf key (fun b hb => ?_)
      exact fm.cell b (by simp only [List.all_cons, List.all_nil, Bool.and_true, bne_iff_ne, Bool.and_eq_true]; omega)
  · rw [decF (by omega)] at pr
    refine STEP.refuse h 1 (by simp) (sp_findX hr0 hr) (σ2 := xu σ 281 47 1) (y := 0) ?_ (xu_same _ _ _ _) F47s
    refine e_entry okX12_find (Nat.le_of_ble_eq_true rfl) (ls := [some _, some _, none, none, none, none, none, none, none]) rfl ?_
    refine e_aload_n 0 1 rfl rfl rfl rfl ?_
    refine e_iload_n 1 2 rfl rfl rfl rfl ?_
    refine e_iconst 2 3 rfl rfl ?_
    refine e_iconst 3 4 rfl rfl ?_
    refine g_callS 4 7 (pr σ) okX12_in csX12_175 ⟨(Nat.le_of_ble_eq_true rfl), (Nat.le_of_ble_eq_true rfl)⟩ rfl rfl rfl rfl (Nat.le_of_ble_eq_true rfl) (Nat.le_of_ble_eq_true rfl) (Nat.le_of_ble_eq_true rfl) ?_
    refine e_iconst 5 8 rfl rfl ?_
    refine e_iconst 6 9 rfl rfl ?_
    refine g_callV 7 12 (sp_mGoes (a := false) (b := true) (c := true)) okX12_goes cvX12_167 ⟨(Nat.le_of_ble_eq_true rfl), (Nat.le_of_ble_eq_true rfl)⟩ rfl rfl (Nat.le_of_ble_eq_true rfl) rfl rfl rfl rfl rfl (Nat.le_of_ble_eq_true rfl) (Nat.le_of_ble_eq_true rfl) (Nat.le_of_ble_eq_true rfl) ?_
    refine e_ifb_ne 8 17 15 rfl rfl rfl (fun hb => ?_) (fun hb => ?_)
    · skip
      cases hb
    · skip
      refine e_iconst 9 16 rfl rfl ?_
      exact e_ireturn 10 rfl rfl (Nat.le_of_ble_eq_true rfl) (Nat.le_of_ble_eq_true rfl)
