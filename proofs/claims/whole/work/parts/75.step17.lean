/-! ===== steps: works, updates ===== -/
theorem wv_ok {g w v : Fo} {op : Int} (hop : 0 ≤ op ∧ op ≤ 5) (h1 : op ≠ 1) (hw : ok1 w) (hg : g = .num 0 ∨ ok1 g) (h : wv g op w = some v) : (v = .num 0 ∧ g = .num 0 ∧ 4 ≤ op) ∨ (ok1 v ∧ pa v ≤ pa g + pa w + 1 ∧ (g = .num 0 → op < 4)) := by
  have hw1 := (ok1_pa hw).1
  have hgn := pa_nn g
  unfold wv at h
  rcases (by omega : op = 0 ∨ op = 2 ∨ op = 3 ∨ op = 4 ∨ op = 5) with rfl | rfl | rfl | rfl | rfl
  · rw [if_pos rfl] at h
    cases h
    exact Or.inr ⟨hw, by omega, fun _ => by omega⟩
  · rw [if_neg (by decide), if_neg (by decide), if_pos rfl] at h
    rcases hg with rfl | ⟨x, rfl, hx⟩ | ⟨c, rfl, hc⟩ | ⟨c, rfl, hc⟩
    · cases h
      exact Or.inr ⟨hw, by omega, fun _ => by omega⟩
    · have h' : (if knd x = 1 ∧ inr9 (x - 2000 + (tok (tk w) 0 - 2000)) = true then some (Int.Internal.Linear.Expr.mulR (.num 0) (2000 + (x - 2000 + (tok (tk w) 0 - 2000)))) else none) = some v := h
      split at h'
      · next q =>
        cases h'
        have := inr9_in q.2
        exact Or.inr ⟨Or.inl ⟨_, rfl, by unfold lfx; omega⟩, by simp only [pa]; omega, fun _ => by omega⟩
      · cases h'
    · cases h
    · cases h
  · rw [if_neg (by decide), if_neg (by decide), if_neg (by decide), if_pos rfl] at h
    rcases hg with rfl | ⟨x, rfl, hx⟩ | ⟨c, rfl, hc⟩ | ⟨c, rfl, hc⟩
    · cases h
      exact Or.inr ⟨Or.inr (Or.inr ⟨_, rfl, ok1_okf hw⟩), by simp only [pa]; omega, fun _ => by omega⟩
    · cases h
    · cases h
    · cases h
      have q := apd_ok c w 0 hc hw
      refine Or.inr ⟨Or.inr (Or.inr ⟨_, rfl, q.1⟩), ?_, fun _ => by omega⟩
      simp only [pa] at hgn ⊢
      omega
  · rw [if_neg (by decide), if_neg (by decide), if_neg (by decide), if_neg (by decide), if_pos rfl] at h
    rcases hg with rfl | ⟨x, rfl, hx⟩ | ⟨c, rfl, hc⟩ | ⟨c, rfl, hc⟩
    · cases h
      exact Or.inl ⟨rfl, rfl, by omega⟩
    · cases h
    · cases h
    · cases h
      have q := pul_ok c (tk w) 0 hc
      refine Or.inr ⟨Or.inr (Or.inr ⟨_, rfl, q.1⟩), ?_, fun q => by cases q⟩
      simp only [pa] at hgn ⊢
      omega
  · rw [if_neg (by decide), if_neg (by decide), if_neg (by decide), if_neg (by decide), if_neg (by decide)] at h
    rcases hg with rfl | ⟨x, rfl, hx⟩ | ⟨c, rfl, hc⟩ | ⟨c, rfl, hc⟩
    · cases h
      exact Or.inl ⟨rfl, rfl, by omega⟩
    · cases h
    · cases h
    · have h' : (ade (tok (tk w) 0 - 2000) c).map (fun m => Int.Internal.Linear.Expr.sub m (.num 0)) = some v := h
      obtain ⟨m, e1, rfl⟩ := Option.map_eq_some_iff.mp h'
      have q := ade_ok c _ 0 m hc e1
      refine Or.inr ⟨Or.inr (Or.inr ⟨_, rfl, q.1⟩), ?_, fun q => by cases q⟩
      simp only [pa] at hgn ⊢
      omega
/-- an operator of the model, at what is there -/
def wvb (g : Fo) (op : Int) (w : Fo) : Bool := if (op = 2 ∨ op = 5) ∧ knd (tok (tk w) 0) ≠ 1 then false else (wv g op w).isSome
theorem sp_mWorks {s : xSig} {op p : Int} {g w : Fo} (hop : 0 ≤ op ∧ op ≤ 5) (hw : op = 1 ∨ (MV s 282 11300 (100 * (100 + (s 281 3 - 1)) + 1) w ∧ pa w ≤ 48)) (hg : (g = .num 0 ∧ p = -1) ∨ (0 ≤ p ∧ MV s 282 11300 p g ∧ pa g ≤ 48)) :
    ∃ s', x_Sp MX12_works 0 0 [.ref 281, .int (ii op), .int (ii p)] (St s) (zv (wvb g op w)) (St s') ∧ (wvb g op w = true → ∀ v, wv g op w = some v → VD s' (en v)) ∧ FP wk9 s s' := by
  have f0 : FP wk9 s (xu s 281 5 0) := FP.rf.put rfl
  have hV0 : VD (xu s 281 5 0) [] := ⟨xu_same _ _ _ _, EA.nil, by simp⟩
  by_cases ho1 : op = 1
  · subst ho1
    refine ⟨xu s 281 5 0, ?_, fun _ v hv => by cases hv; exact hV0, f0⟩
    show x_Sp MX12_works 0 0 [.ref 281, .int (ii 1), .int (ii p)] (St s) (zv true) _
    refine e_entry okX12_works (Nat.le_of_ble_eq_true rfl) (ls := [some _, some _, some _, none, none, none, none, none]) rfl ?_
    refine e_aload_n 0 1 rfl rfl rfl rfl ?_
    refine e_iconst 1 2 rfl rfl ?_
    refine g_putI 2 5 5 ckX12 flX12_247 rfl rfl (Nat.le_of_ble_eq_true rfl) rfl rfl rfl ?_
    refine e_iload_n 3 6 rfl rfl rfl rfl ?_
    refine e_iconst 4 7 rfl rfl ?_
    refine e_icmp_ne 5 14 10 rfl rfl rfl (by unfold xr at *; omega) (by unfold xr at *; omega) (fun h9 => absurd h9 (fun q => q rfl)) (fun _ => ?_)
    refine e_iconst 6 11 rfl rfl ?_
    refine e_goto 7 18 rfl rfl ?_
    refine e_istore_n 10 19 (ls' := [some _, some _, some _, some _, none, none, none, none]) rfl rfl rfl (Nat.le_of_ble_eq_true rfl) rfl ?_
    refine e_iload_n 11 20 rfl rfl rfl rfl ?_
    refine e_if_ne 12 43 23 rfl rfl rfl (by unfold xr at *; omega) (fun _ => ?_) (fun h9 => absurd h9 (by omega))
    refine e_iload_n 25 44 rfl rfl rfl rfl ?_
    refine e_iconst 26 45 rfl rfl ?_
    refine e_icmp_ne 27 50 48 rfl rfl rfl (by unfold xr at *; omega) (by unfold xr at *; omega) (fun h9 => absurd h9 (fun q => q rfl)) (fun _ => ?_)
    refine e_iconst 28 49 rfl rfl ?_
    exact e_zreturn 29 rfl rfl (Or.inr rfl) (Nat.le_of_ble_eq_true rfl) (Nat.le_of_ble_eq_true rfl)
  replace hw := hw.resolve_left ho1
  obtain ⟨hw, hw48⟩ := hw
  have qt : Rd MX12_top [.ref 281] (xu s 281 5 0) (iv (100 * (100 + (s 281 3 - 1)) + 1)) := by
    have := sp_mTop (σ := xu s 281 5 0)
    rw [xu_ne _ (Or.inr (by decide))] at this
    exact this
  generalize ht : 100 * (100 + (s 281 3 - 1)) + 1 = t at *
  have hpr : xr p := by
    rcases hg with ⟨-, rfl⟩ | ⟨h0, hM, -⟩
    · unfold xr; omega
    · have := hM.2.2.2; unfold xr; omega
  have hw0 : MV (xu s 281 5 0) 282 11300 t w := hw.of (f0.cell 282 rfl)
  have hg0 : (g = .num 0 ∧ p = -1) ∨ (0 ≤ p ∧ MV (xu s 281 5 0) 282 11300 p g ∧ pa g ≤ 48) := hg.imp (fun q => q) (fun q => ⟨q.1, q.2.1.of (f0.cell 282 rfl), q.2.2⟩)
  have pre : ∀ {o : xO} {Y : xS}, x_E MX12_works 0 0 19 [some (.ref 281), some (.int (ii op)), some (.int (ii p)), some (.int (ii t)), none, none, none, none] [] (St (xu s 281 5 0)) 0 0 o Y → x_Sp MX12_works 0 0 [.ref 281, .int (ii op), .int (ii p)] (St s) o Y := by
    intro o Y kk
    have hxo : xr op := by unfold xr; omega
    refine e_entry okX12_works (Nat.le_of_ble_eq_true rfl) (ls := [some _, some _, some _, none, none, none, none, none]) rfl ?_
    refine e_aload_n 0 1 rfl rfl rfl rfl ?_
    refine e_iconst 1 2 rfl rfl ?_
    refine g_putI 2 5 5 ckX12 flX12_247 rfl rfl (Nat.le_of_ble_eq_true rfl) rfl rfl rfl ?_
    refine e_iload_n 3 6 rfl rfl rfl rfl ?_
    refine e_iconst 4 7 rfl rfl ?_
    refine e_icmp_ne 5 14 10 rfl rfl rfl hxo (by unfold xr at *; omega) (fun _ => ?_) (fun h9 => absurd h9 ho1)
    refine e_aload_n 8 15 rfl rfl rfl rfl ?_
    refine g_callV 9 18 (qt) okX12_top cvX12_182 ⟨(Nat.le_of_ble_eq_true rfl), (Nat.le_of_ble_eq_true rfl)⟩ rfl rfl (Nat.le_of_ble_eq_true rfl) rfl rfl rfl rfl rfl (Nat.le_of_ble_eq_true rfl) (Nat.le_of_ble_eq_true rfl) (Nat.le_of_ble_eq_true rfl) ?_
    refine e_istore_n 10 19 (ls' := [some _, some _, some _, some _, none, none, none, none]) rfl rfl rfl (Nat.le_of_ble_eq_true rfl) rfl ?_
    exact kk
  generalize xu s 281 5 0 = s0 at *
  have hol := ok1_pa hw.2.1
  have hwb := hw0.2.2.2
  have yw := mv_fld hw0
  have hkw := knd_bnd (tok (tk w) 0)
  have ce := sp_mEnd hw0
  have f1 : FP m11 s0 (xu s0 311 0 (pa w)) := FP.rf.x11
  rcases (by omega : op = 0 ∨ op = 2 ∨ op = 3 ∨ op = 4 ∨ op = 5) with rfl | rfl | rfl | rfl | rfl
  · -- set
    obtain ⟨s3, c3, k4, k5⟩ := sp_mValues (σ := xu s0 311 0 (pa w)) (p := t) (to := t + (en w).length) (t := en w) rfl (by omega) (by omega) (hw0.2.2.2.2.2.of11 isMA_all f1) (hV0.fp f1) (by simp only [List.length_nil]; omega)
    refine ⟨s3, pre ?_, fun _ v hv => by cases hv; simpa using k4, (f0.tr (f1.mono rfl)).tr (k5.mono rfl)⟩
    show x_E MX12_works 0 0 19 _ _ _ 0 0 (zv true) _
    refine e_iload_n 11 20 rfl rfl rfl rfl ?_
    refine e_if_ne 12 43 23 rfl rfl rfl (by unfold xr at *; omega) (fun h9 => absurd h9 (fun q => q rfl)) (fun _ => ?_)
    refine e_aload_n 13 24 rfl rfl rfl rfl ?_
    refine e_aload_n 14 25 rfl rfl rfl rfl ?_
    refine g_getR 15 28 ckX12 flX12_7 rfl rfl (Nat.le_of_ble_eq_true rfl) rfl rfl ?_
    refine e_iload_n 16 29 rfl rfl rfl rfl ?_
    refine e_aload_n 17 30 rfl rfl rfl rfl ?_
    refine e_aload_n 18 31 rfl rfl rfl rfl ?_
    refine g_getR 19 34 ckX12 flX12_7 rfl rfl (Nat.le_of_ble_eq_true rfl) rfl rfl ?_
    refine e_iload_n 20 35 rfl rfl rfl rfl ?_
    refine g_callV 21 38 (ce) okX12_end cvX12_131 ⟨(Nat.le_of_ble_eq_true rfl), (Nat.le_of_ble_eq_true rfl)⟩ rfl rfl (Nat.le_of_ble_eq_true rfl) rfl rfl rfl rfl rfl (Nat.le_of_ble_eq_true rfl) (Nat.le_of_ble_eq_true rfl) (Nat.le_of_ble_eq_true rfl) ?_
    refine g_callV 22 41 (c3) okX12_values cvX12_250 ⟨(Nat.le_of_ble_eq_true rfl), (Nat.le_of_ble_eq_true rfl)⟩ rfl rfl (Nat.le_of_ble_eq_true rfl) rfl rfl rfl rfl rfl (Nat.le_of_ble_eq_true rfl) (Nat.le_of_ble_eq_true rfl) (Nat.le_of_ble_eq_true rfl) ?_
    refine e_iconst 23 42 rfl rfl ?_
    exact e_zreturn 24 rfl rfl (Or.inr rfl) (Nat.le_of_ble_eq_true rfl) (Nat.le_of_ble_eq_true rfl)
  · -- add a number
    have ew : wvb g 2 w = if knd (tok (tk w) 0) ≠ 1 then false else (wv g 2 w).isSome := by
      unfold wvb
      simp
    by_cases hk : knd (tok (tk w) 0) = 1
    · rw [if_neg (fun q => q hk)] at ew
      obtain ⟨q1, q2, q3, q4⟩ := yw.2.1 hk
      obtain ⟨x, rfl, hx, hkx, htx⟩ := ok1_num hw.2.1 hk
      rw [htx] at q1 q3 q4
      have y1 : s0 282 t = 1 := by rw [yw.1]; exact hk
      -- the sum
      have e2 : ∀ (z y : Int) (b : Bool), xr y → z = x - 2000 + y → -2000 ≤ z ∧ z ≤ 2000 → ∃ s', VD s' [1, z] ∧ FP wk9 s0 s' ∧ s' = xu (xu (xu s0 284 0 1) 284 1 z) 281 5 2 := fun z y b _ _ _ => by
        have g1 : VD (xu (xu s0 284 0 1) 281 5 1) [1] := hV0.snoc (by simp) 1
        have g2 : VD (xu (xu (xu (xu s0 284 0 1) 281 5 1) 284 1 z) 281 5 2) [1, z] := g1.snoc (by simp) z
        have ew : xu (xu (xu s0 284 0 1) 284 1 z) 281 5 2 = xu (xu (xu (xu s0 284 0 1) 281 5 1) 284 1 z) 281 5 2 := by
          funext b9 j9
          unfold xu
          by_cases w1 : b9 = 281 ∧ j9 = 5
          · rw [if_pos w1, if_pos w1]
          · rw [if_neg w1, if_neg w1]
            by_cases w2 : b9 = 284 ∧ j9 = 1
            · rw [if_pos w2, if_pos w2]
            · rw [if_neg w2, if_neg w2, if_neg w1]
        exact ⟨_, by rw [ew]; exact g2, FP.put (FP.putA (FP.putA FP.rf rfl) rfl) rfl, rfl⟩
      rcases hg0 with ⟨rfl, rfl⟩ | ⟨hp0, hgm, -⟩
      · obtain ⟨s', v1, v2, v3⟩ := e2 (x - 2000 + 0) 0 true (by unfold xr; omega) rfl (by omega)
        have pin := fun s9 => sp_mIn (σ := s9) (x := x - 2000 + 0) (y := -999) (z := 999) (by unfold xr; omega) (by unfold xr; omega) (by unfold xr; omega)
        refine ⟨s', pre ?_, fun _ v hv => ?_, f0.tr v2⟩
        · rw [ew]
          show x_E MX12_works 0 0 19 _ _ _ 0 0 (zv true) _
          rw [v3]
          refine e_iload_n 11 20 rfl rfl rfl rfl ?_
          refine e_if_ne 12 43 23 rfl rfl rfl (by unfold xr at *; omega) (fun _ => ?_) (fun h9 => absurd h9 (by omega))
          refine e_iload_n 25 44 rfl rfl rfl rfl ?_
          refine e_iconst 26 45 rfl rfl ?_
          refine e_icmp_ne 27 50 48 rfl rfl rfl (by unfold xr at *; omega) (by unfold xr at *; omega) (fun _ => ?_) (fun h9 => absurd h9 (by omega))
          refine e_iload_n 30 51 rfl rfl rfl rfl ?_
          refine e_iconst 31 52 rfl rfl ?_
          refine e_icmp_eq 32 60 55 rfl rfl rfl (by unfold xr at *; omega) (by unfold xr at *; omega) (fun _ => ?_) (fun h9 => absurd h9 (fun q => q rfl))
          refine e_aload_n 36 61 rfl rfl rfl rfl ?_
          refine g_getR 37 64 ckX12 flX12_7 rfl rfl (Nat.le_of_ble_eq_true rfl) rfl rfl ?_
          refine e_iload_n 38 65 rfl rfl rfl rfl ?_
          refine g_iaload 39 66 rfl rfl (Nat.le_of_ble_eq_true rfl) rfl (by omega) (by omega) (by omega) y1 ?_
          refine e_iconst 40 67 rfl rfl ?_
          refine e_icmp_eq 41 72 70 rfl rfl rfl (by unfold xr at *; omega) (by unfold xr at *; omega) (fun _ => ?_) (fun h9 => absurd h9 (fun q => q rfl))
          refine e_iload_n 44 73 rfl rfl rfl rfl ?_
          refine e_iconst 45 74 rfl rfl ?_
          refine e_icmp_ne 46 170 77 rfl rfl rfl (by unfold xr at *; omega) (by unfold xr at *; omega) (fun h9 => absurd h9 (fun q => q rfl)) (fun _ => ?_)
          refine e_aload_n 47 78 rfl rfl rfl rfl ?_
          refine g_getR 48 81 ckX12 flX12_7 rfl rfl (Nat.le_of_ble_eq_true rfl) rfl rfl ?_
          refine e_iload_n 49 82 rfl rfl rfl rfl ?_
          refine e_iconst 50 83 rfl rfl ?_
          refine e_iadd 51 84 rfl rfl ?_
          refine g_iaload 52 85 rfl rfl (Nat.le_of_ble_eq_true rfl) rfl (by omega) (by omega) (by omega) q1 ?_
          refine e_iload_n 53 86 rfl rfl rfl rfl ?_
          refine e_iconst 54 87 rfl rfl ?_
          refine e_icmp_eq 55 100 90 rfl rfl rfl (by unfold xr at *; omega) (by unfold xr at *; omega) (fun _ => ?_) (fun h9 => absurd h9 (fun q => q rfl))
          refine e_iconst 62 101 rfl rfl ?_
          refine e_goto 63 112 rfl rfl ?_
          refine e_iadd 70 113 rfl rfl ?_
          refine e_istore 71 115 (ls' := [some _, some _, some _, some _, some _, none, none, none]) rfl rfl (Nat.le_of_ble_eq_true rfl) rfl ?_
          refine e_aload_n 72 116 rfl rfl rfl rfl ?_
          refine g_getR 73 119 ckX12 flX12_17 rfl rfl (Nat.le_of_ble_eq_true rfl) rfl rfl ?_
          refine e_iconst 74 120 rfl rfl ?_
          refine e_iconst 75 121 rfl rfl ?_
          refine g_iastore 76 122 rfl rfl (Nat.le_of_ble_eq_true rfl) rfl (by omega) (by omega) (by omega) ?_
          refine e_aload_n 77 123 rfl rfl rfl rfl ?_
          refine g_getR 78 126 ckX12 flX12_17 rfl rfl (Nat.le_of_ble_eq_true rfl) rfl rfl ?_
          refine e_iconst 79 127 rfl rfl ?_
          refine e_iload 80 129 rfl rfl rfl ?_
          refine g_iastore 81 130 rfl rfl (Nat.le_of_ble_eq_true rfl) rfl (by omega) (by omega) (by omega) ?_
          refine e_aload_n 82 131 rfl rfl rfl rfl ?_
          refine e_iconst 83 132 rfl rfl ?_
          refine g_putI 84 135 5 ckX12 flX12_247 rfl rfl (Nat.le_of_ble_eq_true rfl) rfl rfl rfl ?_
          refine e_iload_n 85 136 rfl rfl rfl rfl ?_
          refine e_iconst 86 137 rfl rfl ?_
          refine e_icmp_eq 87 150 140 rfl rfl rfl (by unfold xr at *; omega) (by unfold xr at *; omega) (fun _ => ?_) (fun h9 => absurd h9 (fun q => q rfl))
          refine e_iload 94 152 rfl rfl rfl ?_
          refine e_sipush 95 155 rfl rfl rfl ?_
          refine e_sipush 96 158 rfl rfl rfl ?_
          refine g_callS 97 161 (pin _) okX12_in csX12_175 ⟨(Nat.le_of_ble_eq_true rfl), (Nat.le_of_ble_eq_true rfl)⟩ rfl rfl rfl rfl (Nat.le_of_ble_eq_true rfl) (Nat.le_of_ble_eq_true rfl) (Nat.le_of_ble_eq_true rfl) ?_
          refine e_ifb_eq 98 168 164 rfl rfl rfl (fun hb2 => ?_) (fun hb2 => ?_)
          · skip
            have := of_decide_eq_false hb2
            omega
          · skip
            refine e_iconst 99 165 rfl rfl ?_
            refine e_goto 100 169 rfl rfl ?_
            exact e_zreturn 102 rfl rfl (Or.inr rfl) (Nat.le_of_ble_eq_true rfl) (Nat.le_of_ble_eq_true rfl)
        · cases hv
          have el : en (.mulR (.num 0) x) = [1, x - 2000 + 0] := by simp only [en, List.append_nil, Int.add_zero]; unfold lf; rw [hkx]; rfl
          rw [el]
          exact v1
      · have hgb := hgm.2.2.2
        have yg := mv_fld hgm
        have hkg := knd_bnd (tok (tk g) 0)
        by_cases hkg1 : knd (tok (tk g) 0) = 1
        · obtain ⟨r1, r2, r3, r4⟩ := yg.2.1 hkg1
          obtain ⟨xg, rfl, hxg, hkxg, htxg⟩ := ok1_num hgm.2.1 hkg1
          rw [htxg] at r1 r3 r4
          have y2 : s0 282 p = 1 := by rw [yg.1]; exact hkg1
          obtain ⟨s', v1, v2, v3⟩ := e2 (x - 2000 + (xg - 2000)) (xg - 2000) true (by unfold xr; omega) rfl (by omega)
          have pin := fun s9 => sp_mIn (σ := s9) (x := x - 2000 + (xg - 2000)) (y := -999) (z := 999) (by unfold xr; omega) (by unfold xr; omega) (by unfold xr; omega)
          have es : x - 2000 + (xg - 2000) = xg - 2000 + (x - 2000) := Int.add_comm _ _
          have ev : wv (.mulR (.num 0) xg) 2 (.mulR (.num 0) x) = if inr9 (x - 2000 + (xg - 2000)) = true then some (.mulR (.num 0) (2000 + (x - 2000 + (xg - 2000)))) else none := by
            rw [es]
            show (if knd xg = 1 ∧ inr9 (xg - 2000 + (tok (tk (.mulR (.num 0) x)) 0 - 2000)) = true then some (Int.Internal.Linear.Expr.mulR (.num 0) (2000 + (xg - 2000 + (tok (tk (.mulR (.num 0) x)) 0 - 2000)))) else none) = _
            rw [htx]
            by_cases hi : inr9 (xg - 2000 + (x - 2000)) = true
            · rw [if_pos ⟨hkxg, hi⟩, if_pos hi]
            · rw [if_neg (fun q => hi q.2), if_neg hi]
          refine ⟨s', pre ?_, fun _ v hv => ?_, f0.tr v2⟩
          · rw [ew, ev, v3]
            have en2 : (if inr9 (x - 2000 + (xg - 2000)) = true then some (Int.Internal.Linear.Expr.mulR (.num 0) (2000 + (x - 2000 + (xg - 2000)))) else none).isSome = inr9 (x - 2000 + (xg - 2000)) := by
              cases inr9 (x - 2000 + (xg - 2000)) <;> rfl
            rw [en2]
            have hpm : ¬ p = -1 := by omega
            have x1 : xu (xu (xu s0 284 0 1) 284 1 (x - 2000 + (xg - 2000))) 281 5 2 282 p = 1 := by
              rw [xu_other _ _ _ (by decide), xu_other _ _ _ (by decide), xu_other _ _ _ (by decide)]; exact y2
            refine e_iload_n 11 20 rfl rfl rfl rfl ?_
            refine e_if_ne 12 43 23 rfl rfl rfl (by unfold xr at *; omega) (fun _ => ?_) (fun h9 => absurd h9 (by omega))
            refine e_iload_n 25 44 rfl rfl rfl rfl ?_
            refine e_iconst 26 45 rfl rfl ?_
            refine e_icmp_ne 27 50 48 rfl rfl rfl (by unfold xr at *; omega) (by unfold xr at *; omega) (fun _ => ?_) (fun h9 => absurd h9 (by omega))
            refine e_iload_n 30 51 rfl rfl rfl rfl ?_
            refine e_iconst 31 52 rfl rfl ?_
            refine e_icmp_eq 32 60 55 rfl rfl rfl (by unfold xr at *; omega) (by unfold xr at *; omega) (fun _ => ?_) (fun h9 => absurd h9 (fun q => q rfl))
            refine e_aload_n 36 61 rfl rfl rfl rfl ?_
            refine g_getR 37 64 ckX12 flX12_7 rfl rfl (Nat.le_of_ble_eq_true rfl) rfl rfl ?_
            refine e_iload_n 38 65 rfl rfl rfl rfl ?_
            refine g_iaload 39 66 rfl rfl (Nat.le_of_ble_eq_true rfl) rfl (by omega) (by omega) (by omega) y1 ?_
            refine e_iconst 40 67 rfl rfl ?_
            refine e_icmp_eq 41 72 70 rfl rfl rfl (by unfold xr at *; omega) (by unfold xr at *; omega) (fun _ => ?_) (fun h9 => absurd h9 (fun q => q rfl))
            refine e_iload_n 44 73 rfl rfl rfl rfl ?_
            refine e_iconst 45 74 rfl rfl ?_
            refine e_icmp_ne 46 170 77 rfl rfl rfl (by unfold xr at *; omega) (by unfold xr at *; omega) (fun h9 => absurd h9 (fun q => q rfl)) (fun _ => ?_)
            refine e_aload_n 47 78 rfl rfl rfl rfl ?_
            refine g_getR 48 81 ckX12 flX12_7 rfl rfl (Nat.le_of_ble_eq_true rfl) rfl rfl ?_
            refine e_iload_n 49 82 rfl rfl rfl rfl ?_
            refine e_iconst 50 83 rfl rfl ?_
            refine e_iadd 51 84 rfl rfl ?_
            refine g_iaload 52 85 rfl rfl (Nat.le_of_ble_eq_true rfl) rfl (by omega) (by omega) (by omega) q1 ?_
            refine e_iload_n 53 86 rfl rfl rfl rfl ?_
            refine e_iconst 54 87 rfl rfl ?_
            refine e_icmp_eq 55 100 90 rfl rfl rfl hpr (by unfold xr at *; omega) (fun h9 => absurd h9 hpm) (fun _ => ?_)
            refine e_aload_n 56 91 rfl rfl rfl rfl ?_
            refine g_getR 57 94 ckX12 flX12_7 rfl rfl (Nat.le_of_ble_eq_true rfl) rfl rfl ?_
            refine e_iload_n 58 95 rfl rfl rfl rfl ?_
            refine g_iaload 59 96 rfl rfl (Nat.le_of_ble_eq_true rfl) rfl (by omega) (by omega) (by omega) y2 ?_
            refine e_iconst 60 97 rfl rfl ?_
            refine e_icmp_eq 61 104 100 rfl rfl rfl (by unfold xr at *; omega) (by unfold xr at *; omega) (fun _ => ?_) (fun h9 => absurd h9 (fun q => q rfl))
            refine e_aload_n 64 105 rfl rfl rfl rfl ?_
            refine g_getR 65 108 ckX12 flX12_7 rfl rfl (Nat.le_of_ble_eq_true rfl) rfl rfl ?_
            refine e_iload_n 66 109 rfl rfl rfl rfl ?_
            refine e_iconst 67 110 rfl rfl ?_
            refine e_iadd 68 111 rfl rfl ?_
            refine g_iaload 69 112 rfl rfl (Nat.le_of_ble_eq_true rfl) rfl (by omega) (by omega) (by omega) r1 ?_
            refine e_iadd 70 113 rfl rfl ?_
            refine e_istore 71 115 (ls' := [some _, some _, some _, some _, some _, none, none, none]) rfl rfl (Nat.le_of_ble_eq_true rfl) rfl ?_
            refine e_aload_n 72 116 rfl rfl rfl rfl ?_
            refine g_getR 73 119 ckX12 flX12_17 rfl rfl (Nat.le_of_ble_eq_true rfl) rfl rfl ?_
            refine e_iconst 74 120 rfl rfl ?_
            refine e_iconst 75 121 rfl rfl ?_
            refine g_iastore 76 122 rfl rfl (Nat.le_of_ble_eq_true rfl) rfl (by omega) (by omega) (by omega) ?_
            refine e_aload_n 77 123 rfl rfl rfl rfl ?_
            refine g_getR 78 126 ckX12 flX12_17 rfl rfl (Nat.le_of_ble_eq_true rfl) rfl rfl ?_
            refine e_iconst 79 127 rfl rfl ?_
            refine e_iload 80 129 rfl rfl rfl ?_
            refine g_iastore 81 130 rfl rfl (Nat.le_of_ble_eq_true rfl) rfl (by omega) (by omega) (by omega) ?_
            refine e_aload_n 82 131 rfl rfl rfl rfl ?_
            refine e_iconst 83 132 rfl rfl ?_
            refine g_putI 84 135 5 ckX12 flX12_247 rfl rfl (Nat.le_of_ble_eq_true rfl) rfl rfl rfl ?_
            refine e_iload_n 85 136 rfl rfl rfl rfl ?_
            refine e_iconst 86 137 rfl rfl ?_
            refine e_icmp_eq 87 150 140 rfl rfl rfl hpr (by unfold xr at *; omega) (fun h9 => absurd h9 hpm) (fun _ => ?_)
            refine e_aload_n 88 141 rfl rfl rfl rfl ?_
            refine g_getR 89 144 ckX12 flX12_7 rfl rfl (Nat.le_of_ble_eq_true rfl) rfl rfl ?_
            refine e_iload_n 90 145 rfl rfl rfl rfl ?_
            refine g_iaload 91 146 rfl rfl (Nat.le_of_ble_eq_true rfl) rfl (by omega) (by omega) (by omega) x1 ?_
            refine e_iconst 92 147 rfl rfl ?_
            refine e_icmp_ne 93 168 150 rfl rfl rfl (by unfold xr at *; omega) (by unfold xr at *; omega) (fun h9 => absurd h9 (fun q => q rfl)) (fun _ => ?_)
            refine e_iload 94 152 rfl rfl rfl ?_
            refine e_sipush 95 155 rfl rfl rfl ?_
            refine e_sipush 96 158 rfl rfl rfl ?_
            refine g_callS 97 161 (pin _) okX12_in csX12_175 ⟨(Nat.le_of_ble_eq_true rfl), (Nat.le_of_ble_eq_true rfl)⟩ rfl rfl rfl rfl (Nat.le_of_ble_eq_true rfl) (Nat.le_of_ble_eq_true rfl) (Nat.le_of_ble_eq_true rfl) ?_
            refine e_ifb_eq 98 168 164 rfl rfl rfl (fun hb2 => ?_) (fun hb2 => ?_)
            · skip
              have hi : inr9 (x - 2000 + (xg - 2000)) = false := by rw [← hb2]; rfl
              rw [hi]
              refine e_iconst 101 169 rfl rfl ?_
              exact e_zreturn 102 rfl rfl (Or.inl rfl) (Nat.le_of_ble_eq_true rfl) (Nat.le_of_ble_eq_true rfl)
            · skip
              have hi : inr9 (x - 2000 + (xg - 2000)) = true := by rw [← hb2]; rfl
              rw [hi]
              refine e_iconst 99 165 rfl rfl ?_
              refine e_goto 100 169 rfl rfl ?_
              exact e_zreturn 102 rfl rfl (Or.inr rfl) (Nat.le_of_ble_eq_true rfl) (Nat.le_of_ble_eq_true rfl)
          · rw [ev] at hv
            split at hv
            · next hi =>
              cases hv
              have hxi := inr9_in hi
              have hlx : lfx (2000 + (x - 2000 + (xg - 2000))) := Or.inr (Or.inl ⟨by omega, by omega⟩)
              have ek2 : knd (2000 + (x - 2000 + (xg - 2000))) = 1 := by
                rcases lfx_k hlx with ⟨q, -⟩ | ⟨-, q⟩ | ⟨q, -⟩
                · omega
                · exact q
                · omega
              have el : en (.mulR (.num 0) (2000 + (x - 2000 + (xg - 2000)))) = [1, x - 2000 + (xg - 2000)] := by
                simp only [en, List.append_nil]
                unfold lf
                rw [ek2, if_pos rfl, show 2000 + (x - 2000 + (xg - 2000)) - 2000 = x - 2000 + (xg - 2000) by omega]
              rw [el]
              exact v1
            · cases hv
        · -- not a number there
          have y2 : ¬ s0 282 p = 1 := by rw [yg.1]; exact hkg1
          have y2x : xr (s0 282 p) := by rw [yg.1]; unfold xr; omega
          obtain ⟨s', v1, v2, v3⟩ := e2 (x - 2000 + 0) 0 true (by unfold xr; omega) rfl (by omega)
          have ev : wv g 2 (.mulR (.num 0) x) = none := by
            rcases hgm.2.1 with ⟨y, rfl, hy⟩ | ⟨c, rfl, hc⟩ | ⟨c, rfl, hc⟩
            · show (if knd y = 1 ∧ _ then _ else none) = none
              rw [if_neg (fun q => hkg1 q.1)]
            · rfl
            · rfl
          refine ⟨s', pre ?_, fun _ v hv => (by rw [ev] at hv; cases hv), f0.tr v2⟩
          rw [ew, ev, v3]
          show x_E MX12_works 0 0 19 _ _ _ 0 0 (zv false) _
          have hpm : ¬ p = -1 := by omega
          have x1 : xu (xu (xu s0 284 0 1) 284 1 (x - 2000 + 0)) 281 5 2 282 p = s0 282 p := by
            rw [xu_other _ _ _ (by decide), xu_other _ _ _ (by decide), xu_other _ _ _ (by decide)]
          refine e_iload_n 11 20 rfl rfl rfl rfl ?_
          refine e_if_ne 12 43 23 rfl rfl rfl (by unfold xr at *; omega) (fun _ => ?_) (fun h9 => absurd h9 (by omega))
          refine e_iload_n 25 44 rfl rfl rfl rfl ?_
          refine e_iconst 26 45 rfl rfl ?_
          refine e_icmp_ne 27 50 48 rfl rfl rfl (by unfold xr at *; omega) (by unfold xr at *; omega) (fun _ => ?_) (fun h9 => absurd h9 (by omega))
          refine e_iload_n 30 51 rfl rfl rfl rfl ?_
          refine e_iconst 31 52 rfl rfl ?_
          refine e_icmp_eq 32 60 55 rfl rfl rfl (by unfold xr at *; omega) (by unfold xr at *; omega) (fun _ => ?_) (fun h9 => absurd h9 (fun q => q rfl))
          refine e_aload_n 36 61 rfl rfl rfl rfl ?_
          refine g_getR 37 64 ckX12 flX12_7 rfl rfl (Nat.le_of_ble_eq_true rfl) rfl rfl ?_
          refine e_iload_n 38 65 rfl rfl rfl rfl ?_
          refine g_iaload 39 66 rfl rfl (Nat.le_of_ble_eq_true rfl) rfl (by omega) (by omega) (by omega) y1 ?_
          refine e_iconst 40 67 rfl rfl ?_
          refine e_icmp_eq 41 72 70 rfl rfl rfl (by unfold xr at *; omega) (by unfold xr at *; omega) (fun _ => ?_) (fun h9 => absurd h9 (fun q => q rfl))
          refine e_iload_n 44 73 rfl rfl rfl rfl ?_
          refine e_iconst 45 74 rfl rfl ?_
          refine e_icmp_ne 46 170 77 rfl rfl rfl (by unfold xr at *; omega) (by unfold xr at *; omega) (fun h9 => absurd h9 (fun q => q rfl)) (fun _ => ?_)
          refine e_aload_n 47 78 rfl rfl rfl rfl ?_
          refine g_getR 48 81 ckX12 flX12_7 rfl rfl (Nat.le_of_ble_eq_true rfl) rfl rfl ?_
          refine e_iload_n 49 82 rfl rfl rfl rfl ?_
          refine e_iconst 50 83 rfl rfl ?_
          refine e_iadd 51 84 rfl rfl ?_
          refine g_iaload 52 85 rfl rfl (Nat.le_of_ble_eq_true rfl) rfl (by omega) (by omega) (by omega) q1 ?_
          refine e_iload_n 53 86 rfl rfl rfl rfl ?_
          refine e_iconst 54 87 rfl rfl ?_
          refine e_icmp_eq 55 100 90 rfl rfl rfl hpr (by unfold xr at *; omega) (fun h9 => absurd h9 hpm) (fun _ => ?_)
          refine e_aload_n 56 91 rfl rfl rfl rfl ?_
          refine g_getR 57 94 ckX12 flX12_7 rfl rfl (Nat.le_of_ble_eq_true rfl) rfl rfl ?_
          refine e_iload_n 58 95 rfl rfl rfl rfl ?_
          refine g_iaload 59 96 rfl rfl (Nat.le_of_ble_eq_true rfl) rfl (by omega) (by omega) (by omega) rfl ?_
          refine e_iconst 60 97 rfl rfl ?_
          refine e_icmp_eq 61 104 100 rfl rfl rfl y2x (by unfold xr at *; omega) (fun h9 => absurd h9 y2) (fun _ => ?_)
          refine e_iconst 62 101 rfl rfl ?_
          refine e_goto 63 112 rfl rfl ?_
          refine e_iadd 70 113 rfl rfl ?_
          refine e_istore 71 115 (ls' := [some _, some _, some _, some _, some _, none, none, none]) rfl rfl (Nat.le_of_ble_eq_true rfl) rfl ?_
          refine e_aload_n 72 116 rfl rfl rfl rfl ?_
          refine g_getR 73 119 ckX12 flX12_17 rfl rfl (Nat.le_of_ble_eq_true rfl) rfl rfl ?_
          refine e_iconst 74 120 rfl rfl ?_
          refine e_iconst 75 121 rfl rfl ?_
          refine g_iastore 76 122 rfl rfl (Nat.le_of_ble_eq_true rfl) rfl (by omega) (by omega) (by omega) ?_
          refine e_aload_n 77 123 rfl rfl rfl rfl ?_
          refine g_getR 78 126 ckX12 flX12_17 rfl rfl (Nat.le_of_ble_eq_true rfl) rfl rfl ?_
          refine e_iconst 79 127 rfl rfl ?_
          refine e_iload 80 129 rfl rfl rfl ?_
          refine g_iastore 81 130 rfl rfl (Nat.le_of_ble_eq_true rfl) rfl (by omega) (by omega) (by omega) ?_
          refine e_aload_n 82 131 rfl rfl rfl rfl ?_
          refine e_iconst 83 132 rfl rfl ?_
          refine g_putI 84 135 5 ckX12 flX12_247 rfl rfl (Nat.le_of_ble_eq_true rfl) rfl rfl rfl ?_
          refine e_iload_n 85 136 rfl rfl rfl rfl ?_
          refine e_iconst 86 137 rfl rfl ?_
          refine e_icmp_eq 87 150 140 rfl rfl rfl hpr (by unfold xr at *; omega) (fun h9 => absurd h9 hpm) (fun _ => ?_)
          refine e_aload_n 88 141 rfl rfl rfl rfl ?_
          refine g_getR 89 144 ckX12 flX12_7 rfl rfl (Nat.le_of_ble_eq_true rfl) rfl rfl ?_
          refine e_iload_n 90 145 rfl rfl rfl rfl ?_
          refine g_iaload 91 146 rfl rfl (Nat.le_of_ble_eq_true rfl) rfl (by omega) (by omega) (by omega) x1 ?_
          refine e_iconst 92 147 rfl rfl ?_
          refine e_icmp_ne 93 168 150 rfl rfl rfl y2x (by unfold xr at *; omega) (fun _ => ?_) (fun h9 => absurd h9 y2)
          refine e_iconst 101 169 rfl rfl ?_
          exact e_zreturn 102 rfl rfl (Or.inl rfl) (Nat.le_of_ble_eq_true rfl) (Nat.le_of_ble_eq_true rfl)
    · rw [if_pos hk] at ew
      refine ⟨s0, pre ?_, fun q => (by rw [ew] at q; cases q), f0⟩
      rw [ew]
      have y1 : ¬ s0 282 t = 1 := by rw [yw.1]; exact hk
      have y1x : xr (s0 282 t) := by rw [yw.1]; unfold xr; omega
      refine e_iload_n 11 20 rfl rfl rfl rfl ?_
      refine e_if_ne 12 43 23 rfl rfl rfl (by unfold xr at *; omega) (fun _ => ?_) (fun h9 => absurd h9 (by omega))
      refine e_iload_n 25 44 rfl rfl rfl rfl ?_
      refine e_iconst 26 45 rfl rfl ?_
      refine e_icmp_ne 27 50 48 rfl rfl rfl (by unfold xr at *; omega) (by unfold xr at *; omega) (fun _ => ?_) (fun h9 => absurd h9 (by omega))
      refine e_iload_n 30 51 rfl rfl rfl rfl ?_
      refine e_iconst 31 52 rfl rfl ?_
      refine e_icmp_eq 32 60 55 rfl rfl rfl (by unfold xr at *; omega) (by unfold xr at *; omega) (fun _ => ?_) (fun h9 => absurd h9 (fun q => q rfl))
      refine e_aload_n 36 61 rfl rfl rfl rfl ?_
      refine g_getR 37 64 ckX12 flX12_7 rfl rfl (Nat.le_of_ble_eq_true rfl) rfl rfl ?_
      refine e_iload_n 38 65 rfl rfl rfl rfl ?_
      refine g_iaload 39 66 rfl rfl (Nat.le_of_ble_eq_true rfl) rfl (by omega) (by omega) (by omega) rfl ?_
      refine e_iconst 40 67 rfl rfl ?_
      refine e_icmp_eq 41 72 70 rfl rfl rfl y1x (by unfold xr at *; omega) (fun h9 => absurd h9 y1) (fun _ => ?_)
      refine e_iconst 42 71 rfl rfl ?_
      exact e_zreturn 43 rfl rfl (Or.inl rfl) (Nat.le_of_ble_eq_true rfl) (Nat.le_of_ble_eq_true rfl)
  · -- append
    have ew : wvb g 3 w = (wv g 3 w).isSome := by unfold wvb; rw [if_neg (by omega)]
    have to170 : ∀ {o : xO} {Y : xS}, x_E MX12_works 0 0 170 [some (.ref 281), some (.int (ii 3)), some (.int (ii p)), some (.int (ii t)), none, none, none, none] [] (St s0) 0 0 o Y → x_E MX12_works 0 0 19 [some (.ref 281), some (.int (ii 3)), some (.int (ii p)), some (.int (ii t)), none, none, none, none] [] (St s0) 0 0 o Y := by
      intro o Y kk
      refine e_iload_n 11 20 rfl rfl rfl rfl ?_
      refine e_if_ne 12 43 23 rfl rfl rfl (by unfold xr at *; omega) (fun _ => ?_) (fun h9 => absurd h9 (by omega))
      refine e_iload_n 25 44 rfl rfl rfl rfl ?_
      refine e_iconst 26 45 rfl rfl ?_
      refine e_icmp_ne 27 50 48 rfl rfl rfl (by unfold xr at *; omega) (by unfold xr at *; omega) (fun _ => ?_) (fun h9 => absurd h9 (by omega))
      refine e_iload_n 30 51 rfl rfl rfl rfl ?_
      refine e_iconst 31 52 rfl rfl ?_
      refine e_icmp_eq 32 60 55 rfl rfl rfl (by unfold xr at *; omega) (by unfold xr at *; omega) (fun h9 => absurd h9 (by omega)) (fun _ => ?_)
      refine e_iload_n 33 56 rfl rfl rfl rfl ?_
      refine e_iconst 34 57 rfl rfl ?_
      refine e_icmp_ne 35 72 60 rfl rfl rfl (by unfold xr at *; omega) (by unfold xr at *; omega) (fun _ => ?_) (fun h9 => absurd h9 (by omega))
      refine e_iload_n 44 73 rfl rfl rfl rfl ?_
      refine e_iconst 45 74 rfl rfl ?_
      refine e_icmp_ne 46 170 77 rfl rfl rfl (by unfold xr at *; omega) (by unfold xr at *; omega) (fun _ => ?_) (fun h9 => absurd h9 (by omega))
      exact kk
    have close : ∀ (s1 : xSig) (m : List Int), FP wk9 s0 s1 → VD s1 m → m.length + (en w).length + 1 ≤ 400 → ∃ s', x_E MX12_works 0 0 231 [some (.ref 281), some (.int (ii 3)), some (.int (ii p)), some (.int (ii t)), none, none, none, none] [] (St s1) 0 0 (zv true) (St s') ∧ VD s' (m ++ en w ++ [-1]) ∧ FP wk9 s0 s' := by
      intro s1 m g1 h1 hl
      have hw1 := hw0.of (g1.cell 282 rfl)
      have ce1 := sp_mEnd hw1
      have f2 : FP m11 s1 (xu s1 311 0 (pa w)) := FP.rf.x11
      obtain ⟨s3, c3, k4, k5⟩ := sp_mValues (σ := xu s1 311 0 (pa w)) (p := t) (to := t + (en w).length) (t := en w) rfl (by omega) (by omega) (hw1.2.2.2.2.2.of11 isMA_all f2) (h1.fp f2) (by omega)
      have hlen : (m ++ en w).length = m.length + (en w).length := List.length_append
      generalize m ++ en w = m2 at *
      have sn := k4.snoc (by omega) (-1)
      have hVl := k4.2.2
      refine ⟨_, ?_, sn, FP.tr (g1.tr ((f2.mono rfl).tr (k5.mono rfl))) ((vd_f (σ := s3)).mono rfl)⟩
      have v1 := k4.1
      have v2 : xu s3 284 (m2.length : Int) (-1) 281 5 = m2.length := by rw [xu_other _ _ _ (by decide)]; exact v1
      refine e_aload_n 142 232 rfl rfl rfl rfl ?_
      refine e_aload_n 143 233 rfl rfl rfl rfl ?_
      refine g_getR 144 236 ckX12 flX12_7 rfl rfl (Nat.le_of_ble_eq_true rfl) rfl rfl ?_
      refine e_iload_n 145 237 rfl rfl rfl rfl ?_
      refine e_aload_n 146 238 rfl rfl rfl rfl ?_
      refine e_aload_n 147 239 rfl rfl rfl rfl ?_
      refine g_getR 148 242 ckX12 flX12_7 rfl rfl (Nat.le_of_ble_eq_true rfl) rfl rfl ?_
      refine e_iload_n 149 243 rfl rfl rfl rfl ?_
      refine g_callV 150 246 (ce1) okX12_end cvX12_131 ⟨(Nat.le_of_ble_eq_true rfl), (Nat.le_of_ble_eq_true rfl)⟩ rfl rfl (Nat.le_of_ble_eq_true rfl) rfl rfl rfl rfl rfl (Nat.le_of_ble_eq_true rfl) (Nat.le_of_ble_eq_true rfl) (Nat.le_of_ble_eq_true rfl) ?_
      refine g_callV 151 249 (c3) okX12_values cvX12_250 ⟨(Nat.le_of_ble_eq_true rfl), (Nat.le_of_ble_eq_true rfl)⟩ rfl rfl (Nat.le_of_ble_eq_true rfl) rfl rfl rfl rfl rfl (Nat.le_of_ble_eq_true rfl) (Nat.le_of_ble_eq_true rfl) (Nat.le_of_ble_eq_true rfl) ?_
      refine e_aload_n 152 250 rfl rfl rfl rfl ?_
      refine g_getR 153 253 ckX12 flX12_17 rfl rfl (Nat.le_of_ble_eq_true rfl) rfl rfl ?_
      refine e_aload_n 154 254 rfl rfl rfl rfl ?_
      refine g_getI 155 257 5 ckX12 flX12_247 rfl rfl (Nat.le_of_ble_eq_true rfl) rfl rfl rfl v1 ?_
      refine e_iconst 156 258 rfl rfl ?_
      refine g_iastore 157 259 rfl rfl (Nat.le_of_ble_eq_true rfl) rfl (by omega) (by omega) (by omega) ?_
      refine e_aload_n 158 260 rfl rfl rfl rfl ?_
      refine e_dup 159 261 rfl rfl rfl ?_
      refine g_getI 160 264 5 ckX12 flX12_247 rfl rfl (Nat.le_of_ble_eq_true rfl) rfl rfl rfl v2 ?_
      refine e_iconst 161 265 rfl rfl ?_
      refine e_iadd 162 266 rfl rfl ?_
      refine g_putI 163 269 5 ckX12 flX12_247 rfl rfl (Nat.le_of_ble_eq_true rfl) rfl rfl rfl ?_
      refine e_iconst 164 270 rfl rfl ?_
      exact e_zreturn 165 rfl rfl (Or.inr rfl) (Nat.le_of_ble_eq_true rfl) (Nat.le_of_ble_eq_true rfl)
    have h1 : VD (xu (xu s0 284 0 3) 281 5 1) [3] := hV0.snoc (by simp) 3
    have g1 : FP wk9 s0 (xu (xu s0 284 0 3) 281 5 1) := FP.put (FP.putA FP.rf rfl) rfl
    rcases hg0 with ⟨rfl, rfl⟩ | ⟨hp0, hgm, hg48⟩
    · obtain ⟨s', j1, j2, j3⟩ := close _ _ g1 h1 (by simp only [List.length_cons, List.length_nil]; omega)
      refine ⟨s', pre (to170 ?_), fun _ v hv => ?_, f0.tr j3⟩
      · rw [ew]
        show x_E MX12_works 0 0 170 _ _ _ 0 0 (zv true) _
        refine e_iload_n 103 171 rfl rfl rfl rfl ?_
        refine e_iconst 104 172 rfl rfl ?_
        refine e_icmp_eq 105 187 175 rfl rfl rfl (by unfold xr at *; omega) (by unfold xr at *; omega) (fun _ => ?_) (fun h9 => absurd h9 (fun q => q rfl))
        refine e_iload_n 114 188 rfl rfl rfl rfl ?_
        refine e_iconst 115 189 rfl rfl ?_
        refine e_icmp_ne 116 271 192 rfl rfl rfl (by unfold xr at *; omega) (by unfold xr at *; omega) (fun h9 => absurd h9 (fun q => q rfl)) (fun _ => ?_)
        refine e_aload_n 117 193 rfl rfl rfl rfl ?_
        refine g_getR 118 196 ckX12 flX12_17 rfl rfl (Nat.le_of_ble_eq_true rfl) rfl rfl ?_
        refine e_iconst 119 197 rfl rfl ?_
        refine e_iconst 120 198 rfl rfl ?_
        refine g_iastore 121 199 rfl rfl (Nat.le_of_ble_eq_true rfl) rfl (by omega) (by omega) (by omega) ?_
        refine e_aload_n 122 200 rfl rfl rfl rfl ?_
        refine e_iconst 123 201 rfl rfl ?_
        refine g_putI 124 204 5 ckX12 flX12_247 rfl rfl (Nat.le_of_ble_eq_true rfl) rfl rfl rfl ?_
        refine e_iload_n 125 205 rfl rfl rfl rfl ?_
        refine e_iconst 126 206 rfl rfl ?_
        refine e_icmp_eq 127 231 209 rfl rfl rfl (by unfold xr at *; omega) (by unfold xr at *; omega) (fun _ => ?_) (fun h9 => absurd h9 (fun q => q rfl))
        exact j1
      · cases hv
        simpa [en] using j2
    · have hgb := hgm.2.2.2
      have yg := mv_fld hgm
      have hkg := knd_bnd (tok (tk g) 0)
      have hpm : ¬ p = -1 := by omega
      have no : knd (tok (tk g) 0) ≠ 3 → wv g 3 w = none → ∃ s', x_Sp MX12_works 0 0 [.ref 281, .int (ii 3), .int (ii p)] (St s) (zv (wvb g 3 w)) (St s') ∧ (wvb g 3 w = true → ∀ v, wv g 3 w = some v → VD s' (en v)) ∧ FP wk9 s s' := by
        intro hk3 hn
        refine ⟨s0, pre (to170 ?_), fun _ v hv => (by rw [hn] at hv; cases hv), f0⟩
        rw [ew, hn]
        show x_E MX12_works 0 0 170 _ _ _ 0 0 (zv false) _
        have y1 : ¬ s0 282 p = 3 := by rw [yg.1]; exact hk3
        have y1x : xr (s0 282 p) := by rw [yg.1]; unfold xr; omega
        refine e_iload_n 103 171 rfl rfl rfl rfl ?_
        refine e_iconst 104 172 rfl rfl ?_
        refine e_icmp_eq 105 187 175 rfl rfl rfl hpr (by unfold xr at *; omega) (fun h9 => absurd h9 hpm) (fun _ => ?_)
        refine e_aload_n 106 176 rfl rfl rfl rfl ?_
        refine g_getR 107 179 ckX12 flX12_7 rfl rfl (Nat.le_of_ble_eq_true rfl) rfl rfl ?_
        refine e_iload_n 108 180 rfl rfl rfl rfl ?_
        refine g_iaload 109 181 rfl rfl (Nat.le_of_ble_eq_true rfl) rfl (by omega) (by omega) (by omega) rfl ?_
        refine e_iconst 110 182 rfl rfl ?_
        refine e_icmp_eq 111 187 185 rfl rfl rfl y1x (by unfold xr at *; omega) (fun h9 => absurd h9 y1) (fun _ => ?_)
        refine e_iconst 112 186 rfl rfl ?_
        exact e_zreturn 113 rfl rfl (Or.inl rfl) (Nat.le_of_ble_eq_true rfl) (Nat.le_of_ble_eq_true rfl)
      rcases mv_hd hgm with ⟨x, rfl, hx, u1, u2⟩ | ⟨c, rfl, hc, u1⟩ | ⟨c, rfl, hc, u1, u2, u3, u4⟩
      · exact no (by omega) rfl
      · exact no (by omega) rfl
      · have hcl := en_len c _ _ _ hc
        simp only [Bool.false_eq_true, if_false] at hcl
        have hpc : pa c ≤ 48 := by have := pa_nn c; simp only [pa] at hg48; omega
        have cg := sp_mEnd (hgm.of (g1.cell 282 rfl))
        have f2 : FP m11 (xu (xu s0 284 0 3) 281 5 1) (xu (xu (xu s0 284 0 3) 281 5 1) 311 0 (pa (.sub c (.num 0)))) := FP.rf.x11
        have el : (en (.sub c (.num 0))).length = (en c).length + 2 := by simp [en]
        obtain ⟨s3, c3, k4, k5⟩ := sp_mValues (σ := xu (xu (xu s0 284 0 3) 281 5 1) 311 0 (pa (.sub c (.num 0)))) (p := p + 1) (to := p + (en (.sub c (.num 0))).length - 1) (t := en c) (by omega) (by omega) (by omega) (((EA.app u2).1.of fun _ _ _ => by rw [g1.cell 282 rfl]).of11 isMA_all f2) (h1.fp f2) (by simp only [List.length_cons, List.length_nil]; omega)
        obtain ⟨s', j1, j2, j3⟩ := close s3 ([3] ++ en c) (g1.tr ((f2.mono rfl).tr (k5.mono rfl))) k4 (by simp only [List.length_append, List.length_cons, List.length_nil]; omega)
        refine ⟨s', pre (to170 ?_), fun _ v hv => ?_, f0.tr j3⟩
        · rw [ew]
          show x_E MX12_works 0 0 170 _ _ _ 0 0 (zv true) _
          refine e_iload_n 103 171 rfl rfl rfl rfl ?_
          refine e_iconst 104 172 rfl rfl ?_
          refine e_icmp_eq 105 187 175 rfl rfl rfl hpr (by unfold xr at *; omega) (fun h9 => absurd h9 hpm) (fun _ => ?_)
          refine e_aload_n 106 176 rfl rfl rfl rfl ?_
          refine g_getR 107 179 ckX12 flX12_7 rfl rfl (Nat.le_of_ble_eq_true rfl) rfl rfl ?_
          refine e_iload_n 108 180 rfl rfl rfl rfl ?_
          refine g_iaload 109 181 rfl rfl (Nat.le_of_ble_eq_true rfl) rfl (by omega) (by omega) (by omega) u1 ?_
          refine e_iconst 110 182 rfl rfl ?_
          refine e_icmp_eq 111 187 185 rfl rfl rfl (by unfold xr at *; omega) (by unfold xr at *; omega) (fun _ => ?_) (fun h9 => absurd h9 (fun q => q rfl))
          refine e_iload_n 114 188 rfl rfl rfl rfl ?_
          refine e_iconst 115 189 rfl rfl ?_
          refine e_icmp_ne 116 271 192 rfl rfl rfl (by unfold xr at *; omega) (by unfold xr at *; omega) (fun h9 => absurd h9 (fun q => q rfl)) (fun _ => ?_)
          refine e_aload_n 117 193 rfl rfl rfl rfl ?_
          refine g_getR 118 196 ckX12 flX12_17 rfl rfl (Nat.le_of_ble_eq_true rfl) rfl rfl ?_
          refine e_iconst 119 197 rfl rfl ?_
          refine e_iconst 120 198 rfl rfl ?_
          refine g_iastore 121 199 rfl rfl (Nat.le_of_ble_eq_true rfl) rfl (by omega) (by omega) (by omega) ?_
          refine e_aload_n 122 200 rfl rfl rfl rfl ?_
          refine e_iconst 123 201 rfl rfl ?_
          refine g_putI 124 204 5 ckX12 flX12_247 rfl rfl (Nat.le_of_ble_eq_true rfl) rfl rfl rfl ?_
          refine e_iload_n 125 205 rfl rfl rfl rfl ?_
          refine e_iconst 126 206 rfl rfl ?_
          refine e_icmp_eq 127 231 209 rfl rfl rfl hpr (by unfold xr at *; omega) (fun h9 => absurd h9 hpm) (fun _ => ?_)
          refine e_aload_n 128 210 rfl rfl rfl rfl ?_
          refine e_aload_n 129 211 rfl rfl rfl rfl ?_
          refine g_getR 130 214 ckX12 flX12_7 rfl rfl (Nat.le_of_ble_eq_true rfl) rfl rfl ?_
          refine e_iload_n 131 215 rfl rfl rfl rfl ?_
          refine e_iconst 132 216 rfl rfl ?_
          refine e_iadd 133 217 rfl rfl ?_
          refine e_aload_n 134 218 rfl rfl rfl rfl ?_
          refine e_aload_n 135 219 rfl rfl rfl rfl ?_
          refine g_getR 136 222 ckX12 flX12_7 rfl rfl (Nat.le_of_ble_eq_true rfl) rfl rfl ?_
          refine e_iload_n 137 223 rfl rfl rfl rfl ?_
          refine g_callV 138 226 (cg) okX12_end cvX12_131 ⟨(Nat.le_of_ble_eq_true rfl), (Nat.le_of_ble_eq_true rfl)⟩ rfl rfl (Nat.le_of_ble_eq_true rfl) rfl rfl rfl rfl rfl (Nat.le_of_ble_eq_true rfl) (Nat.le_of_ble_eq_true rfl) (Nat.le_of_ble_eq_true rfl) ?_
          refine e_iconst 139 227 rfl rfl ?_
          refine e_isub 140 228 rfl rfl ?_
          refine g_callV 141 231 (c3) okX12_values cvX12_250 ⟨(Nat.le_of_ble_eq_true rfl), (Nat.le_of_ble_eq_true rfl)⟩ rfl rfl (Nat.le_of_ble_eq_true rfl) rfl rfl rfl rfl rfl (Nat.le_of_ble_eq_true rfl) (Nat.le_of_ble_eq_true rfl) (Nat.le_of_ble_eq_true rfl) ?_
          exact j1
        · cases hv
          have e9 : en (.sub (apd w c) (.num 0)) = [3] ++ en c ++ en w ++ [-1] := by
            simp only [en]
            rw [apd_en c w 0 hc hw.2.1]
            simp
          rw [e9]
          exact j2
  · -- pull
    have ew : wvb g 4 w = (wv g 4 w).isSome := by unfold wvb; rw [if_neg (by omega)]
    have to170 : ∀ {o : xO} {Y : xS}, x_E MX12_works 0 0 170 [some (.ref 281), some (.int (ii 4)), some (.int (ii p)), some (.int (ii t)), none, none, none, none] [] (St s0) 0 0 o Y → x_E MX12_works 0 0 19 [some (.ref 281), some (.int (ii 4)), some (.int (ii p)), some (.int (ii t)), none, none, none, none] [] (St s0) 0 0 o Y := by
      intro o Y kk
      refine e_iload_n 11 20 rfl rfl rfl rfl ?_
      refine e_if_ne 12 43 23 rfl rfl rfl (by unfold xr at *; omega) (fun _ => ?_) (fun h9 => absurd h9 (by omega))
      refine e_iload_n 25 44 rfl rfl rfl rfl ?_
      refine e_iconst 26 45 rfl rfl ?_
      refine e_icmp_ne 27 50 48 rfl rfl rfl (by unfold xr at *; omega) (by unfold xr at *; omega) (fun _ => ?_) (fun h9 => absurd h9 (by omega))
      refine e_iload_n 30 51 rfl rfl rfl rfl ?_
      refine e_iconst 31 52 rfl rfl ?_
      refine e_icmp_eq 32 60 55 rfl rfl rfl (by unfold xr at *; omega) (by unfold xr at *; omega) (fun h9 => absurd h9 (by omega)) (fun _ => ?_)
      refine e_iload_n 33 56 rfl rfl rfl rfl ?_
      refine e_iconst 34 57 rfl rfl ?_
      refine e_icmp_ne 35 72 60 rfl rfl rfl (by unfold xr at *; omega) (by unfold xr at *; omega) (fun _ => ?_) (fun h9 => absurd h9 (by omega))
      refine e_iload_n 44 73 rfl rfl rfl rfl ?_
      refine e_iconst 45 74 rfl rfl ?_
      refine e_icmp_ne 46 170 77 rfl rfl rfl (by unfold xr at *; omega) (by unfold xr at *; omega) (fun _ => ?_) (fun h9 => absurd h9 (by omega))
      exact kk
    have h1 : VD (xu (xu s0 284 0 3) 281 5 1) [3] := hV0.snoc (by simp) 3
    have g1 : FP wk9 s0 (xu (xu s0 284 0 3) 281 5 1) := FP.put (FP.putA FP.rf rfl) rfl
    rcases hg0 with ⟨rfl, rfl⟩ | ⟨hp0, hgm, hg48⟩
    · refine ⟨s0, pre (to170 ?_), fun _ v hv => (by cases hv; exact hV0), f0⟩
      rw [ew]
      show x_E MX12_works 0 0 170 _ _ _ 0 0 (zv true) _
      refine e_iload_n 103 171 rfl rfl rfl rfl ?_
      refine e_iconst 104 172 rfl rfl ?_
      refine e_icmp_eq 105 187 175 rfl rfl rfl (by unfold xr at *; omega) (by unfold xr at *; omega) (fun _ => ?_) (fun h9 => absurd h9 (fun q => q rfl))
      refine e_iload_n 114 188 rfl rfl rfl rfl ?_
      refine e_iconst 115 189 rfl rfl ?_
      refine e_icmp_ne 116 271 192 rfl rfl rfl (by unfold xr at *; omega) (by unfold xr at *; omega) (fun _ => ?_) (fun h9 => absurd h9 (by omega))
      refine e_iload_n 166 272 rfl rfl rfl rfl ?_
      refine e_iconst 167 273 rfl rfl ?_
      refine e_icmp_ne 168 278 276 rfl rfl rfl (by unfold xr at *; omega) (by unfold xr at *; omega) (fun h9 => absurd h9 (fun q => q rfl)) (fun _ => ?_)
      refine e_iconst 169 277 rfl rfl ?_
      exact e_zreturn 170 rfl rfl (Or.inr rfl) (Nat.le_of_ble_eq_true rfl) (Nat.le_of_ble_eq_true rfl)
    · have hgb := hgm.2.2.2
      have yg := mv_fld hgm
      have hkg := knd_bnd (tok (tk g) 0)
      have hpm : ¬ p = -1 := by omega
      have no : knd (tok (tk g) 0) ≠ 3 → wv g 4 w = none → ∃ s', x_Sp MX12_works 0 0 [.ref 281, .int (ii 4), .int (ii p)] (St s) (zv (wvb g 4 w)) (St s') ∧ (wvb g 4 w = true → ∀ v, wv g 4 w = some v → VD s' (en v)) ∧ FP wk9 s s' := by
        intro hk3 hn
        refine ⟨s0, pre (to170 ?_), fun _ v hv => (by rw [hn] at hv; cases hv), f0⟩
        rw [ew, hn]
        show x_E MX12_works 0 0 170 _ _ _ 0 0 (zv false) _
        have y1 : ¬ s0 282 p = 3 := by rw [yg.1]; exact hk3
        have y1x : xr (s0 282 p) := by rw [yg.1]; unfold xr; omega
        refine e_iload_n 103 171 rfl rfl rfl rfl ?_
        refine e_iconst 104 172 rfl rfl ?_
        refine e_icmp_eq 105 187 175 rfl rfl rfl hpr (by unfold xr at *; omega) (fun h9 => absurd h9 hpm) (fun _ => ?_)
        refine e_aload_n 106 176 rfl rfl rfl rfl ?_
        refine g_getR 107 179 ckX12 flX12_7 rfl rfl (Nat.le_of_ble_eq_true rfl) rfl rfl ?_
        refine e_iload_n 108 180 rfl rfl rfl rfl ?_
        refine g_iaload 109 181 rfl rfl (Nat.le_of_ble_eq_true rfl) rfl (by omega) (by omega) (by omega) rfl ?_
        refine e_iconst 110 182 rfl rfl ?_
        refine e_icmp_eq 111 187 185 rfl rfl rfl y1x (by unfold xr at *; omega) (fun h9 => absurd h9 y1) (fun _ => ?_)
        refine e_iconst 112 186 rfl rfl ?_
        exact e_zreturn 113 rfl rfl (Or.inl rfl) (Nat.le_of_ble_eq_true rfl) (Nat.le_of_ble_eq_true rfl)
      rcases mv_hd hgm with ⟨x, rfl, hx, u1, u2⟩ | ⟨c, rfl, hc, u1⟩ | ⟨c, rfl, hc, u1, u2, u3, u4⟩
      · exact no (by omega) rfl
      · exact no (by omega) rfl
      · have hcl := en_len c _ _ _ hc
        simp only [Bool.false_eq_true, if_false] at hcl
        have hpc : pa c ≤ 48 := by have := pa_nn c; simp only [pa] at hg48; omega
        obtain ⟨s', j1, j2, j3⟩ := pull_lp (t := t) (w := w) (p9 := p) c hc (p + 1) _ [3] (by omega) (by omega) (by omega) (u2.of fun _ _ _ => by rw [g1.cell 282 rfl]) (hw0.of (g1.cell 282 rfl)) h1 (by simp only [List.length_cons, List.length_nil]; omega)
        refine ⟨s', pre (to170 ?_), fun _ v hv => ?_, f0.tr (g1.tr j3)⟩
        · rw [ew]
          show x_E MX12_works 0 0 170 _ _ _ 0 0 (zv true) _
          refine e_iload_n 103 171 rfl rfl rfl rfl ?_
          refine e_iconst 104 172 rfl rfl ?_
          refine e_icmp_eq 105 187 175 rfl rfl rfl hpr (by unfold xr at *; omega) (fun h9 => absurd h9 hpm) (fun _ => ?_)
          refine e_aload_n 106 176 rfl rfl rfl rfl ?_
          refine g_getR 107 179 ckX12 flX12_7 rfl rfl (Nat.le_of_ble_eq_true rfl) rfl rfl ?_
          refine e_iload_n 108 180 rfl rfl rfl rfl ?_
          refine g_iaload 109 181 rfl rfl (Nat.le_of_ble_eq_true rfl) rfl (by omega) (by omega) (by omega) u1 ?_
          refine e_iconst 110 182 rfl rfl ?_
          refine e_icmp_eq 111 187 185 rfl rfl rfl (by unfold xr at *; omega) (by unfold xr at *; omega) (fun _ => ?_) (fun h9 => absurd h9 (fun q => q rfl))
          refine e_iload_n 114 188 rfl rfl rfl rfl ?_
          refine e_iconst 115 189 rfl rfl ?_
          refine e_icmp_ne 116 271 192 rfl rfl rfl (by unfold xr at *; omega) (by unfold xr at *; omega) (fun _ => ?_) (fun h9 => absurd h9 (by omega))
          refine e_iload_n 166 272 rfl rfl rfl rfl ?_
          refine e_iconst 167 273 rfl rfl ?_
          refine e_icmp_ne 168 278 276 rfl rfl rfl hpr (by unfold xr at *; omega) (fun _ => ?_) (fun h9 => absurd h9 hpm)
          refine e_iconst 171 279 rfl rfl ?_
          refine e_istore 172 281 (ls' := [some _, some _, some _, some _, some _, none, none, none]) rfl rfl (Nat.le_of_ble_eq_true rfl) rfl ?_
          refine e_aload_n 173 282 rfl rfl rfl rfl ?_
          refine g_getR 174 285 ckX12 flX12_17 rfl rfl (Nat.le_of_ble_eq_true rfl) rfl rfl ?_
          refine e_iconst 175 286 rfl rfl ?_
          refine e_iconst 176 287 rfl rfl ?_
          refine g_iastore 177 288 rfl rfl (Nat.le_of_ble_eq_true rfl) rfl (by omega) (by omega) (by omega) ?_
          refine e_aload_n 178 289 rfl rfl rfl rfl ?_
          refine e_iconst 179 290 rfl rfl ?_
          refine g_putI 180 293 5 ckX12 flX12_247 rfl rfl (Nat.le_of_ble_eq_true rfl) rfl rfl rfl ?_
          refine e_iload_n 181 294 rfl rfl rfl rfl ?_
          refine e_iconst 182 295 rfl rfl ?_
          refine e_iadd 183 296 rfl rfl ?_
          refine e_istore 184 298 (ls' := [some _, some _, some _, some _, some _, some _, none, none]) rfl rfl (Nat.le_of_ble_eq_true rfl) rfl ?_
          exact j1
        · cases hv
          simpa [en] using j2
  · -- a number to each
    have ew : wvb g 5 w = if knd (tok (tk w) 0) ≠ 1 then false else (wv g 5 w).isSome := by
      unfold wvb
      simp
    by_cases hk : knd (tok (tk w) 0) = 1
    · rw [if_neg (fun q => q hk)] at ew
      obtain ⟨q1, q2, q3, q4⟩ := yw.2.1 hk
      have y1 : s0 282 t = 1 := by rw [yw.1]; exact hk
      have to170 : ∀ {o : xO} {Y : xS}, x_E MX12_works 0 0 170 [some (.ref 281), some (.int (ii 5)), some (.int (ii p)), some (.int (ii t)), none, none, none, none] [] (St s0) 0 0 o Y → x_E MX12_works 0 0 19 [some (.ref 281), some (.int (ii 5)), some (.int (ii p)), some (.int (ii t)), none, none, none, none] [] (St s0) 0 0 o Y := by
        intro o Y kk
        refine e_iload_n 11 20 rfl rfl rfl rfl ?_
        refine e_if_ne 12 43 23 rfl rfl rfl (by unfold xr at *; omega) (fun _ => ?_) (fun h9 => absurd h9 (by omega))
        refine e_iload_n 25 44 rfl rfl rfl rfl ?_
        refine e_iconst 26 45 rfl rfl ?_
        refine e_icmp_ne 27 50 48 rfl rfl rfl (by unfold xr at *; omega) (by unfold xr at *; omega) (fun _ => ?_) (fun h9 => absurd h9 (by omega))
        refine e_iload_n 30 51 rfl rfl rfl rfl ?_
        refine e_iconst 31 52 rfl rfl ?_
        refine e_icmp_eq 32 60 55 rfl rfl rfl (by unfold xr at *; omega) (by unfold xr at *; omega) (fun h9 => absurd h9 (by omega)) (fun _ => ?_)
        refine e_iload_n 33 56 rfl rfl rfl rfl ?_
        refine e_iconst 34 57 rfl rfl ?_
        refine e_icmp_ne 35 72 60 rfl rfl rfl (by unfold xr at *; omega) (by unfold xr at *; omega) (fun h9 => absurd h9 (fun q => q rfl)) (fun _ => ?_)
        refine e_aload_n 36 61 rfl rfl rfl rfl ?_
        refine g_getR 37 64 ckX12 flX12_7 rfl rfl (Nat.le_of_ble_eq_true rfl) rfl rfl ?_
        refine e_iload_n 38 65 rfl rfl rfl rfl ?_
        refine g_iaload 39 66 rfl rfl (Nat.le_of_ble_eq_true rfl) rfl (by omega) (by omega) (by omega) y1 ?_
        refine e_iconst 40 67 rfl rfl ?_
        refine e_icmp_eq 41 72 70 rfl rfl rfl (by unfold xr at *; omega) (by unfold xr at *; omega) (fun _ => ?_) (fun h9 => absurd h9 (fun q => q rfl))
        refine e_iload_n 44 73 rfl rfl rfl rfl ?_
        refine e_iconst 45 74 rfl rfl ?_
        refine e_icmp_ne 46 170 77 rfl rfl rfl (by unfold xr at *; omega) (by unfold xr at *; omega) (fun _ => ?_) (fun h9 => absurd h9 (by omega))
        exact kk
      have h1 : VD (xu (xu s0 284 0 3) 281 5 1) [3] := hV0.snoc (by simp) 3
      have g1 : FP wk9 s0 (xu (xu s0 284 0 3) 281 5 1) := FP.put (FP.putA FP.rf rfl) rfl
      rcases hg0 with ⟨rfl, rfl⟩ | ⟨hp0, hgm, hg48⟩
      · refine ⟨s0, pre (to170 ?_), fun _ v hv => (by cases hv; exact hV0), f0⟩
        rw [ew]
        show x_E MX12_works 0 0 170 _ _ _ 0 0 (zv true) _
        refine e_iload_n 103 171 rfl rfl rfl rfl ?_
        refine e_iconst 104 172 rfl rfl ?_
        refine e_icmp_eq 105 187 175 rfl rfl rfl (by unfold xr at *; omega) (by unfold xr at *; omega) (fun _ => ?_) (fun h9 => absurd h9 (fun q => q rfl))
        refine e_iload_n 114 188 rfl rfl rfl rfl ?_
        refine e_iconst 115 189 rfl rfl ?_
        refine e_icmp_ne 116 271 192 rfl rfl rfl (by unfold xr at *; omega) (by unfold xr at *; omega) (fun _ => ?_) (fun h9 => absurd h9 (by omega))
        refine e_iload_n 166 272 rfl rfl rfl rfl ?_
        refine e_iconst 167 273 rfl rfl ?_
        refine e_icmp_ne 168 278 276 rfl rfl rfl (by unfold xr at *; omega) (by unfold xr at *; omega) (fun h9 => absurd h9 (fun q => q rfl)) (fun _ => ?_)
        refine e_iconst 169 277 rfl rfl ?_
        exact e_zreturn 170 rfl rfl (Or.inr rfl) (Nat.le_of_ble_eq_true rfl) (Nat.le_of_ble_eq_true rfl)
      · have hgb := hgm.2.2.2
        have yg := mv_fld hgm
        have hkg := knd_bnd (tok (tk g) 0)
        have hpm : ¬ p = -1 := by omega
        have no : knd (tok (tk g) 0) ≠ 3 → wv g 5 w = none → ∃ s', x_Sp MX12_works 0 0 [.ref 281, .int (ii 5), .int (ii p)] (St s) (zv (wvb g 5 w)) (St s') ∧ (wvb g 5 w = true → ∀ v, wv g 5 w = some v → VD s' (en v)) ∧ FP wk9 s s' := by
          intro hk3 hn
          refine ⟨s0, pre (to170 ?_), fun _ v hv => (by rw [hn] at hv; cases hv), f0⟩
          rw [ew, hn]
          show x_E MX12_works 0 0 170 _ _ _ 0 0 (zv false) _
          have y1 : ¬ s0 282 p = 3 := by rw [yg.1]; exact hk3
          have y1x : xr (s0 282 p) := by rw [yg.1]; unfold xr; omega
          refine e_iload_n 103 171 rfl rfl rfl rfl ?_
          refine e_iconst 104 172 rfl rfl ?_
          refine e_icmp_eq 105 187 175 rfl rfl rfl hpr (by unfold xr at *; omega) (fun h9 => absurd h9 hpm) (fun _ => ?_)
          refine e_aload_n 106 176 rfl rfl rfl rfl ?_
          refine g_getR 107 179 ckX12 flX12_7 rfl rfl (Nat.le_of_ble_eq_true rfl) rfl rfl ?_
          refine e_iload_n 108 180 rfl rfl rfl rfl ?_
          refine g_iaload 109 181 rfl rfl (Nat.le_of_ble_eq_true rfl) rfl (by omega) (by omega) (by omega) rfl ?_
          refine e_iconst 110 182 rfl rfl ?_
          refine e_icmp_eq 111 187 185 rfl rfl rfl y1x (by unfold xr at *; omega) (fun h9 => absurd h9 y1) (fun _ => ?_)
          refine e_iconst 112 186 rfl rfl ?_
          exact e_zreturn 113 rfl rfl (Or.inl rfl) (Nat.le_of_ble_eq_true rfl) (Nat.le_of_ble_eq_true rfl)
        rcases mv_hd hgm with ⟨x, rfl, hx, u1, u2⟩ | ⟨c, rfl, hc, u1⟩ | ⟨c, rfl, hc, u1, u2, u3, u4⟩
        · exact no (by omega) rfl
        · exact no (by omega) rfl
        · have hcl := en_len c _ _ _ hc
          simp only [Bool.false_eq_true, if_false] at hcl
          have hpc : pa c ≤ 48 := by have := pa_nn c; simp only [pa] at hg48; omega
          obtain ⟨s', j1, j2, j3⟩ := each_lp (t := t) (z := tok (tk w) 0 - 2000) (w := w) (p9 := p) (by omega) (by omega) c hc (p + 1) true _ [3] (by omega) (by omega) (by omega) (u2.of fun _ _ _ => by rw [g1.cell 282 rfl]) (by rw [g1.cell 282 rfl]; exact ⟨q1, by omega, by omega⟩) h1 (by simp only [List.length_cons, List.length_nil]; omega)
          have ev : wv (.sub c (.num 0)) 5 w = (ade (tok (tk w) 0 - 2000) c).map fun m => .sub m (.num 0) := rfl
          refine ⟨s', pre (to170 ?_), fun _ v hv => ?_, f0.tr (g1.tr j3)⟩
          · rw [ew, ev, Option.isSome_map, ← Bool.true_and (ade (tok (tk w) 0 - 2000) c).isSome]
            refine e_iload_n 103 171 rfl rfl rfl rfl ?_
            refine e_iconst 104 172 rfl rfl ?_
            refine e_icmp_eq 105 187 175 rfl rfl rfl hpr (by unfold xr at *; omega) (fun h9 => absurd h9 hpm) (fun _ => ?_)
            refine e_aload_n 106 176 rfl rfl rfl rfl ?_
            refine g_getR 107 179 ckX12 flX12_7 rfl rfl (Nat.le_of_ble_eq_true rfl) rfl rfl ?_
            refine e_iload_n 108 180 rfl rfl rfl rfl ?_
            refine g_iaload 109 181 rfl rfl (Nat.le_of_ble_eq_true rfl) rfl (by omega) (by omega) (by omega) u1 ?_
            refine e_iconst 110 182 rfl rfl ?_
            refine e_icmp_eq 111 187 185 rfl rfl rfl (by unfold xr at *; omega) (by unfold xr at *; omega) (fun _ => ?_) (fun h9 => absurd h9 (fun q => q rfl))
            refine e_iload_n 114 188 rfl rfl rfl rfl ?_
            refine e_iconst 115 189 rfl rfl ?_
            refine e_icmp_ne 116 271 192 rfl rfl rfl (by unfold xr at *; omega) (by unfold xr at *; omega) (fun _ => ?_) (fun h9 => absurd h9 (by omega))
            refine e_iload_n 166 272 rfl rfl rfl rfl ?_
            refine e_iconst 167 273 rfl rfl ?_
            refine e_icmp_ne 168 278 276 rfl rfl rfl hpr (by unfold xr at *; omega) (fun _ => ?_) (fun h9 => absurd h9 hpm)
            refine e_iconst 171 279 rfl rfl ?_
            refine e_istore 172 281 (ls' := [some _, some _, some _, some _, some _, none, none, none]) rfl rfl (Nat.le_of_ble_eq_true rfl) rfl ?_
            refine e_aload_n 173 282 rfl rfl rfl rfl ?_
            refine g_getR 174 285 ckX12 flX12_17 rfl rfl (Nat.le_of_ble_eq_true rfl) rfl rfl ?_
            refine e_iconst 175 286 rfl rfl ?_
            refine e_iconst 176 287 rfl rfl ?_
            refine g_iastore 177 288 rfl rfl (Nat.le_of_ble_eq_true rfl) rfl (by omega) (by omega) (by omega) ?_
            refine e_aload_n 178 289 rfl rfl rfl rfl ?_
            refine e_iconst 179 290 rfl rfl ?_
            refine g_putI 180 293 5 ckX12 flX12_247 rfl rfl (Nat.le_of_ble_eq_true rfl) rfl rfl rfl ?_
            refine e_iload_n 181 294 rfl rfl rfl rfl ?_
            refine e_iconst 182 295 rfl rfl ?_
            refine e_iadd 183 296 rfl rfl ?_
            refine e_istore 184 298 (ls' := [some _, some _, some _, some _, some _, some _, none, none]) rfl rfl (Nat.le_of_ble_eq_true rfl) rfl ?_
            exact j1
          · rw [ev] at hv
            obtain ⟨m, hm, rfl⟩ := Option.map_eq_some_iff.mp hv
            simpa [en] using j2 m hm
    · rw [if_pos hk] at ew
      refine ⟨s0, pre ?_, fun q => (by rw [ew] at q; cases q), f0⟩
      rw [ew]
      have y1 : ¬ s0 282 t = 1 := by rw [yw.1]; exact hk
      have y1x : xr (s0 282 t) := by rw [yw.1]; unfold xr; omega
      refine e_iload_n 11 20 rfl rfl rfl rfl ?_
      refine e_if_ne 12 43 23 rfl rfl rfl (by unfold xr at *; omega) (fun _ => ?_) (fun h9 => absurd h9 (by omega))
      refine e_iload_n 25 44 rfl rfl rfl rfl ?_
      refine e_iconst 26 45 rfl rfl ?_
      refine e_icmp_ne 27 50 48 rfl rfl rfl (by unfold xr at *; omega) (by unfold xr at *; omega) (fun _ => ?_) (fun h9 => absurd h9 (by omega))
      refine e_iload_n 30 51 rfl rfl rfl rfl ?_
      refine e_iconst 31 52 rfl rfl ?_
      refine e_icmp_eq 32 60 55 rfl rfl rfl (by unfold xr at *; omega) (by unfold xr at *; omega) (fun h9 => absurd h9 (by omega)) (fun _ => ?_)
      refine e_iload_n 33 56 rfl rfl rfl rfl ?_
      refine e_iconst 34 57 rfl rfl ?_
      refine e_icmp_ne 35 72 60 rfl rfl rfl (by unfold xr at *; omega) (by unfold xr at *; omega) (fun h9 => absurd h9 (fun q => q rfl)) (fun _ => ?_)
      refine e_aload_n 36 61 rfl rfl rfl rfl ?_
      refine g_getR 37 64 ckX12 flX12_7 rfl rfl (Nat.le_of_ble_eq_true rfl) rfl rfl ?_
      refine e_iload_n 38 65 rfl rfl rfl rfl ?_
      refine g_iaload 39 66 rfl rfl (Nat.le_of_ble_eq_true rfl) rfl (by omega) (by omega) (by omega) rfl ?_
      refine e_iconst 40 67 rfl rfl ?_
      refine e_icmp_eq 41 72 70 rfl rfl rfl y1x (by unfold xr at *; omega) (fun h9 => absurd h9 y1) (fun _ => ?_)
      refine e_iconst 42 71 rfl rfl ?_
      exact e_zreturn 43 rfl rfl (Or.inl rfl) (Nat.le_of_ble_eq_true rfl) (Nat.le_of_ble_eq_true rfl)
