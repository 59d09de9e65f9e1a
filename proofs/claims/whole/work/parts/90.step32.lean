/-! ===== steps: find, the pieces ===== -/
def gsf (τ : xSig) (j : Int) : Int := τ (qf j) 1 * 5 + τ (qf j) 2 + 1
theorem shp_c {τ : xSig} (h4 : 0 ≤ τ 256 4 ∧ τ 256 4 ≤ 3) : (τ 256 4 = 0 ∧ shp τ = 0) ∨ (τ 256 4 = 1 ∧ shp τ = gsf τ 0) ∨ (τ 256 4 = 2 ∧ shp τ = gsf τ 0 * 361 + gsf τ 1) ∨ (τ 256 4 = 3 ∧ shp τ = (gsf τ 0 * 361 + gsf τ 1) * 361 + gsf τ 2) := by
  rcases (by omega : τ 256 4 = 0 ∨ τ 256 4 = 1 ∨ τ 256 4 = 2 ∨ τ 256 4 = 3) with h | h | h | h
  · exact Or.inl ⟨h, by unfold shp; rw [h]; rfl⟩
  · refine Or.inr (Or.inl ⟨h, ?_⟩)
    unfold shp
    rw [h]
    show shpN _ 0 1 0 = _
    simp [shpN, gsf]
  · refine Or.inr (Or.inr (Or.inl ⟨h, ?_⟩))
    unfold shp
    rw [h]
    show shpN _ 0 2 0 = _
    simp [shpN, gsf]
  · refine Or.inr (Or.inr (Or.inr ⟨h, ?_⟩))
    unfold shp
    rw [h]
    show shpN _ 0 3 0 = _
    simp [shpN, gsf]
theorem gsf_b {τ σ : xSig} {T : Nat → List Int} {G : Nat → Fo} (hI : FIM τ T G σ) {j : Nat} (hj : (j : Int) < τ 256 4) : σ 290 j = τ (qf j) 1 ∧ σ 291 j = τ (qf j) 2 ∧ (0 ≤ τ (qf j) 1 ∧ τ (qf j) 1 < 72) ∧ (0 ≤ τ (qf j) 2 ∧ τ (qf j) 2 ≤ 4) ∧ 1 ≤ gsf τ j ∧ gsf τ j ≤ 360 := by
  have h43 := hI.1
  obtain ⟨⟨g1, g2, -⟩, -, g5, g6, -⟩ := hI.2.2 j (by omega) hj
  exact ⟨g1, g2, g5, g6, by unfold gsf; omega, by unfold gsf; omega⟩
theorem shp_v {τ σ : xSig} {T : Nat → List Int} {G : Nat → Fo} (hI : FIM τ T G σ) : vshp (shp τ) ∧ ((τ 256 4 = 0 ∧ mk9 (shp τ) = 0) ∨ (τ 256 4 = 1 ∧ mk9 (shp τ) = gsf τ 0) ∨ (τ 256 4 = 2 ∧ mk9 (shp τ) = 400 * gsf τ 1 + gsf τ 0) ∨ (τ 256 4 = 3 ∧ mk9 (shp τ) = 400 * (400 * gsf τ 2 + gsf τ 1) + gsf τ 0)) := by
  rcases shp_c hI.1 with ⟨h, e⟩ | ⟨h, e⟩ | ⟨h, e⟩ | ⟨h, e⟩
  · rw [e, h]
    exact ⟨by unfold vshp; omega, Or.inl ⟨rfl, by decide⟩⟩
  · have b0 := (gsf_b hI (j := 0) (by omega)).2.2.2.2
    rw [e, h]
    generalize gsf τ 0 = g0 at *
    have b0' : 1 ≤ g0 ∧ g0 ≤ 360 := b0
    refine ⟨by unfold vshp; omega, Or.inr (Or.inl ⟨rfl, ?_⟩)⟩
    unfold mk9
    rw [if_neg (by omega), if_neg (by omega)]
    omega
  · have b0 : 1 ≤ gsf τ 0 ∧ gsf τ 0 ≤ 360 := (gsf_b hI (j := 0) (by omega)).2.2.2.2
    have b1 : 1 ≤ gsf τ 1 ∧ gsf τ 1 ≤ 360 := (gsf_b hI (j := 1) (by omega)).2.2.2.2
    rw [e, h]
    generalize gsf τ 0 = g0 at *
    generalize gsf τ 1 = g1 at *
    refine ⟨by unfold vshp; omega, Or.inr (Or.inr (Or.inl ⟨rfl, ?_⟩))⟩
    unfold mk9
    rw [if_neg (by omega), if_pos (by omega)]
    omega
  · have b0 : 1 ≤ gsf τ 0 ∧ gsf τ 0 ≤ 360 := (gsf_b hI (j := 0) (by omega)).2.2.2.2
    have b1 : 1 ≤ gsf τ 1 ∧ gsf τ 1 ≤ 360 := (gsf_b hI (j := 1) (by omega)).2.2.2.2
    have b2 : 1 ≤ gsf τ 2 ∧ gsf τ 2 ≤ 360 := (gsf_b hI (j := 2) (by omega)).2.2.2.2
    rw [e, h]
    generalize gsf τ 0 = g0 at *
    generalize gsf τ 1 = g1 at *
    generalize gsf τ 2 = g2 at *
    refine ⟨by unfold vshp; omega, Or.inr (Or.inr (Or.inr ⟨rfl, ?_⟩))⟩
    unfold mk9
    rw [if_pos (by omega)]
    omega
/-- an index can look by a filter of the shape at hand, and only then -/
theorem hasFor_of {τ σ : xSig} {T : Nat → List Int} {G : Nat → Fo} (hI : FIM τ T G σ) {x : Int} (hh : ihas τ x = true) (hf : ffi τ x ≠ -1) : hasFor (shp τ) (pxs τ x) := by
  obtain ⟨a1, a2, a3, a4⟩ := ffi_at hI.1 hh hf
  have h43 := hI.1
  generalize ffi τ x = k at *
  obtain ⟨k, rfl⟩ := Int.eq_ofNat_of_zero_le a1
  have b := gsf_b hI a2
  refine ⟨τ (qf k) 2, ⟨b.2.2.2.1.1, a4⟩, ?_⟩
  have eg : pxs τ x * 5 + τ (qf k) 2 + 1 = gsf τ k := by unfold gsf; rw [a3]
  rw [eg]
  rcases shp_c hI.1 with ⟨h, e⟩ | ⟨h, e⟩ | ⟨h, e⟩ | ⟨h, e⟩
  · omega
  · have b0 : 1 ≤ gsf τ 0 ∧ gsf τ 0 ≤ 360 := (gsf_b hI (j := 0) (by omega)).2.2.2.2
    obtain rfl : k = 0 := by omega
    rw [e]
    right; right
    show gsf τ 0 % 361 = gsf τ 0
    omega
  · have b0 : 1 ≤ gsf τ 0 ∧ gsf τ 0 ≤ 360 := (gsf_b hI (j := 0) (by omega)).2.2.2.2
    have b1 : 1 ≤ gsf τ 1 ∧ gsf τ 1 ≤ 360 := (gsf_b hI (j := 1) (by omega)).2.2.2.2
    rw [e]
    rcases (by omega : k = 0 ∨ k = 1) with rfl | rfl
    · right; left
      show (gsf τ 0 * 361 + gsf τ 1) / 361 % 361 = gsf τ 0
      omega
    · right; right
      show (gsf τ 0 * 361 + gsf τ 1) % 361 = gsf τ 1
      omega
  · have b0 : 1 ≤ gsf τ 0 ∧ gsf τ 0 ≤ 360 := (gsf_b hI (j := 0) (by omega)).2.2.2.2
    have b1 : 1 ≤ gsf τ 1 ∧ gsf τ 1 ≤ 360 := (gsf_b hI (j := 1) (by omega)).2.2.2.2
    have b2 : 1 ≤ gsf τ 2 ∧ gsf τ 2 ≤ 360 := (gsf_b hI (j := 2) (by omega)).2.2.2.2
    rw [e]
    rcases (by omega : k = 0 ∨ k = 1 ∨ k = 2) with rfl | rfl | rfl
    · left
      show ((gsf τ 0 * 361 + gsf τ 1) * 361 + gsf τ 2) / 130321 = gsf τ 0
      omega
    · right; left
      show ((gsf τ 0 * 361 + gsf τ 1) * 361 + gsf τ 2) / 361 % 361 = gsf τ 1
      omega
    · right; right
      show ((gsf τ 0 * 361 + gsf τ 1) * 361 + gsf τ 2) % 361 = gsf τ 2
      omega
theorem ffi_of {τ σ : xSig} {T : Nat → List Int} {G : Nat → Fo} (hI : FIM τ T G σ) (hX : IXR τ) {x : Int} (hh : ihas τ x = true) (hf : hasFor (shp τ) (pxs τ x)) : ffi τ x ≠ -1 := by
  have h43 := hI.1
  have hpx := pxs_has hX hh
  have key : ∀ j : Nat, (j : Int) < τ 256 4 → ∀ rel : Int, 0 ≤ rel → rel < 3 → gsf τ j = pxs τ x * 5 + rel + 1 → ffi τ x ≠ -1 := by
    intro j hj rel r0 r3 hg hn
    have b := gsf_b hI hj
    unfold gsf at hg
    unfold ffi at hn
    rw [if_pos hh] at hn
    rcases fstIs_bnd (f := fun i : Int => bi (decide (τ (qf i) 1 = pxs τ x ∧ τ (qf i) 2 < 3))) (x := 1) (τ 256 4).toNat 0 with q | ⟨q1, q2, q3⟩
    · have q2 := q.2 j (by omega) (by omega)
      exact q2 (by rw [decT (p := τ (qf j) 1 = pxs τ x ∧ τ (qf j) 2 < 3) ⟨by omega, by omega⟩]; rfl)
    · omega
  obtain ⟨rel, ⟨r0, r3⟩, hr⟩ := hf
  rcases shp_c hI.1 with ⟨h, e⟩ | ⟨h, e⟩ | ⟨h, e⟩ | ⟨h, e⟩
  · rw [e] at hr
    omega
  · have b0 : 1 ≤ gsf τ 0 ∧ gsf τ 0 ≤ 360 := (gsf_b hI (j := 0) (by omega)).2.2.2.2
    rw [e] at hr
    exact key 0 (by omega) rel r0 r3 (show gsf τ 0 = _ by omega)
  · have b0 : 1 ≤ gsf τ 0 ∧ gsf τ 0 ≤ 360 := (gsf_b hI (j := 0) (by omega)).2.2.2.2
    have b1 : 1 ≤ gsf τ 1 ∧ gsf τ 1 ≤ 360 := (gsf_b hI (j := 1) (by omega)).2.2.2.2
    rw [e] at hr
    rcases hr with hr | hr | hr
    · exfalso; omega
    · exact key 0 (by omega) rel r0 r3 (show gsf τ 0 = _ by omega)
    · exact key 1 (by omega) rel r0 r3 (show gsf τ 1 = _ by omega)
  · have b0 : 1 ≤ gsf τ 0 ∧ gsf τ 0 ≤ 360 := (gsf_b hI (j := 0) (by omega)).2.2.2.2
    have b1 : 1 ≤ gsf τ 1 ∧ gsf τ 1 ≤ 360 := (gsf_b hI (j := 1) (by omega)).2.2.2.2
    have b2 : 1 ≤ gsf τ 2 ∧ gsf τ 2 ≤ 360 := (gsf_b hI (j := 2) (by omega)).2.2.2.2
    rw [e] at hr
    rcases hr with hr | hr | hr
    · exact key 0 (by omega) rel r0 r3 (show gsf τ 0 = _ by omega)
    · exact key 1 (by omega) rel r0 r3 (show gsf τ 1 = _ by omega)
    · exact key 2 (by omega) rel r0 r3 (show gsf τ 2 = _ by omega)
theorem sh_st {τ σ : xSig} {T : Nat → List Int} {G : Nat → Fo} (hI : FIM τ T G σ) {j : Nat} (hj : (j : Int) < τ 256 4) {v : Int} {o : xO} {Y : xS} (kk : x_E MX12_shape 0 0 9 [some (.ref 281), some (.long (ll (400 * v + gsf τ j))), none, some (.int (ii ((j : Int) - 1)))] [] (St σ) 0 0 o Y) : x_E MX12_shape 0 0 9 [some (.ref 281), some (.long (ll v)), none, some (.int (ii j))] [] (St σ) 0 0 o Y := by
  have h43 := hI.1
  obtain ⟨g1, g2, g3, g4, -, -⟩ := gsf_b hI hj
  have eg : 400 * v + gsf τ j = 400 * v + 5 * τ (qf j) 1 + τ (qf j) 2 + 1 := by unfold gsf; omega
  rw [eg] at kk
  generalize τ (qf j) 1 = p at *
  generalize τ (qf j) 2 = r at *
  refine e_iload_n 7 10 rfl rfl rfl rfl ?_
  refine e_if_lt 8 47 13 rfl rfl rfl (by unfold xr at *; omega) (fun h9 => absurd h9 (by omega)) (fun _ => ?_)
  refine e_ldc2_w 9 16 kcX12_297 (by rfl : _ = ll 400) rfl rfl ?_
  refine e_lload_n 10 17 rfl rfl rfl rfl ?_
  refine e_lmul 11 18 rfl rfl ?_
  refine e_ldc2_w 12 21 kcX12_299 (by rfl : _ = ll 5) rfl rfl ?_
  refine e_aload_n 13 22 rfl rfl rfl rfl ?_
  refine g_getR 14 25 ckX12 flX12_35 rfl rfl (Nat.le_of_ble_eq_true rfl) rfl rfl ?_
  refine e_iload_n 15 26 rfl rfl rfl rfl ?_
  refine g_iaload 16 27 rfl rfl (Nat.le_of_ble_eq_true rfl) rfl (by omega) (by omega) (by omega) g1 ?_
  refine e_i2l 17 28 rfl rfl (by unfold xr at *; omega) ?_
  refine e_lmul 18 29 rfl rfl ?_
  refine e_ladd 19 30 rfl rfl ?_
  refine e_aload_n 20 31 rfl rfl rfl rfl ?_
  refine g_getR 21 34 ckX12 flX12_38 rfl rfl (Nat.le_of_ble_eq_true rfl) rfl rfl ?_
  refine e_iload_n 22 35 rfl rfl rfl rfl ?_
  refine g_iaload 23 36 rfl rfl (Nat.le_of_ble_eq_true rfl) rfl (by omega) (by omega) (by omega) g2 ?_
  refine e_i2l 24 37 rfl rfl (by unfold xr at *; omega) ?_
  refine e_ladd 25 38 rfl rfl ?_
  refine e_lconst 26 39 rfl rfl ?_
  refine e_ladd 27 40 rfl rfl ?_
  refine e_lstore_n 28 41 (ls' := [some _, some _, none, some _]) rfl rfl rfl (Nat.le_of_ble_eq_true rfl) rfl ?_
  refine e_iinc 29 44 (ls' := [some _, some _, none, some _]) rfl rfl (Nat.le_of_ble_eq_true rfl) rfl rfl ?_
  refine e_goto 30 9 rfl rfl ?_
  exact kk
theorem sp_mShape {τ σ : xSig} {T : Nat → List Int} {G : Nat → Fo} (hI : FIM τ T G σ) : Rd MX12_shape [.ref 281] σ (lv9 (mk9 (shp τ))) := by
  have e14 := hI.2.1
  have last : ∀ v : Int, v = mk9 (shp τ) → x_E MX12_shape 0 0 9 [some (.ref 281), some (.long (ll v)), none, some (.int (ii (-1)))] [] (St σ) 0 0 (lv9 (mk9 (shp τ))) (St σ) := by
    intro v hv
    rw [hv]
    refine e_iload_n 7 10 rfl rfl rfl rfl ?_
    refine e_if_lt 8 47 13 rfl rfl rfl (by unfold xr at *; omega) (fun _ => ?_) (fun h9 => absurd h9 (by omega))
    refine e_lload_n 31 48 rfl rfl rfl rfl ?_
    exact e_lreturn 32 rfl rfl (Nat.le_of_ble_eq_true rfl) (Nat.le_of_ble_eq_true rfl)
  have go : ∀ n : Nat, τ 256 4 = n → x_E MX12_shape 0 0 9 [some (.ref 281), some (.long (ll 0)), none, some (.int (ii ((n : Int) - 1)))] [] (St σ) 0 0 (lv9 (mk9 (shp τ))) (St σ) → Rd MX12_shape [.ref 281] σ (lv9 (mk9 (shp τ))) := by
    intro n hn kk
    refine e_entry okX12_shape (Nat.le_of_ble_eq_true rfl) (ls := [some _, none, none, none]) rfl ?_
    refine e_lconst 0 1 rfl rfl ?_
    refine e_lstore_n 1 2 (ls' := [some _, some _, none, none]) rfl rfl rfl (Nat.le_of_ble_eq_true rfl) rfl ?_
    refine e_aload_n 2 3 rfl rfl rfl rfl ?_
    refine g_getI 3 6 14 ckX12 flX12_279 rfl rfl (Nat.le_of_ble_eq_true rfl) rfl rfl rfl (e14.trans hn) ?_
    refine e_iconst 4 7 rfl rfl ?_
    refine e_isub 5 8 rfl rfl ?_
    refine e_istore_n 6 9 (ls' := [some _, some _, none, some _]) rfl rfl rfl (Nat.le_of_ble_eq_true rfl) rfl ?_
    exact kk
  rcases (shp_v hI).2 with ⟨h, e⟩ | ⟨h, e⟩ | ⟨h, e⟩ | ⟨h, e⟩
  · exact go 0 h (last 0 e.symm)
  · refine go 1 h (sh_st hI (j := 0) (by omega) (last _ ?_))
    rw [e]; simp
  · refine go 2 h (sh_st hI (j := 1) (by omega) (sh_st hI (j := 0) (by omega) (last _ ?_)))
    rw [e]; simp
  · refine go 3 h (sh_st hI (j := 2) (by omega) (sh_st hI (j := 1) (by omega) (sh_st hI (j := 0) (by omega) (last _ ?_))))
    rw [e]; simp
/-- what the search for a shape's plan has found -/
def fkI (s : xSig) (K a : Int) (i : Nat) : Prop := (a = -1 ∧ ∀ j : Nat, j < i → s 292 j ≠ K) ∨ (0 ≤ a ∧ a < i ∧ s 292 a = K)
theorem fk_lp {s : xSig} {K r : Int} {N : Nat} (hN : N ≤ 512) (h18 : s 281 18 = N) (hb : ∀ j : Nat, j < N → 0 ≤ s 292 j ∧ s 292 j < 64000000) (hK : 0 ≤ K ∧ K < 64000000) : ∀ (m i : Nat) (a : Int), i + m = N → fkI s K a i → ∃ a1, fkI s K a1 N ∧ ∀ (o : xO) (Y : xS), x_E MX12_find 0 0 69 [some (.ref 281), some (.int (ii r)), some (.long (ll K)), none, some (.int (ii a1)), some (.int (ii N)), none, none, none] [] (St s) 0 0 o Y → x_E MX12_find 0 0 33 [some (.ref 281), some (.int (ii r)), some (.long (ll K)), none, some (.int (ii a)), some (.int (ii i)), none, none, none] [] (St s) 0 0 o Y := by
  intro m
  induction m with
  | zero =>
    intro i a hi hf
    obtain rfl : i = N := by omega
    refine ⟨a, hf, fun o Y kk => ?_⟩
    refine e_iload 21 35 rfl rfl rfl ?_
    refine e_aload_n 22 36 rfl rfl rfl rfl ?_
    refine g_getI 23 39 18 ckX12 flX12_270 rfl rfl (Nat.le_of_ble_eq_true rfl) rfl rfl rfl h18 ?_
    refine e_icmp_ge 24 69 42 rfl rfl rfl (by unfold xr at *; omega) (by unfold xr at *; omega) (fun _ => ?_) (fun h9 => absurd h9 (by omega))
    exact kk
  | succ m ih =>
    intro i a hi hf
    have hbi := hb i (by omega)
    by_cases he : s 292 i = K
    · obtain ⟨a1, h1, h2⟩ := ih (i + 1) i (by omega) (Or.inr ⟨by omega, by omega, he⟩)
      refine ⟨a1, h1, fun o Y kk => ?_⟩
      have kk2 := h2 o Y kk
      refine e_iload 21 35 rfl rfl rfl ?_
      refine e_aload_n 22 36 rfl rfl rfl rfl ?_
      refine g_getI 23 39 18 ckX12 flX12_270 rfl rfl (Nat.le_of_ble_eq_true rfl) rfl rfl rfl h18 ?_
      refine e_icmp_ge 24 69 42 rfl rfl rfl (by unfold xr at *; omega) (by unfold xr at *; omega) (fun h9 => absurd h9 (by omega)) (fun _ => ?_)
      refine e_aload_n 25 43 rfl rfl rfl rfl ?_
      refine g_getR 26 46 ckX12 flX12_41 rfl rfl (Nat.le_of_ble_eq_true rfl) rfl rfl ?_
      refine e_iload 27 48 rfl rfl rfl ?_
      refine g_laload 28 49 rfl rfl (Nat.le_of_ble_eq_true rfl) rfl (by omega) (by omega) (by omega) he ?_
      refine e_lload_n 29 50 rfl rfl rfl rfl ?_
      refine e_lcmpI 30 51 rfl rfl (l_cmp_eq K) ?_
      refine e_if_ne 31 59 54 rfl rfl rfl (by unfold xr at *; omega) (fun h9 => absurd h9 (fun q => q rfl)) (fun _ => ?_)
      refine e_iload 32 56 rfl rfl rfl ?_
      refine e_goto 33 61 rfl rfl ?_
      refine e_istore 35 63 (ls' := [some _, some _, some _, none, some _, some _, none, none, none]) rfl rfl (Nat.le_of_ble_eq_true rfl) rfl ?_
      refine e_iinc 36 66 (ls' := [some _, some _, some _, none, some _, some _, none, none, none]) rfl rfl (Nat.le_of_ble_eq_true rfl) rfl rfl ?_
      refine e_goto 37 33 rfl rfl ?_
      exact kk2
    · obtain ⟨a1, h1, h2⟩ := ih (i + 1) a (by omega) (by
        rcases hf with ⟨q1, q2⟩ | ⟨q1, q2, q3⟩
        · refine Or.inl ⟨q1, fun j hj => ?_⟩
          by_cases e : j = i
          · rw [e]; exact he
          · exact q2 j (by omega)
        · exact Or.inr ⟨q1, by omega, q3⟩)
      obtain ⟨z, z1, z2, z3⟩ := l_cmp_ne (x := s 292 i) (y := K) (by omega) (by omega) he
      refine ⟨a1, h1, fun o Y kk => ?_⟩
      have kk2 := h2 o Y kk
      refine e_iload 21 35 rfl rfl rfl ?_
      refine e_aload_n 22 36 rfl rfl rfl rfl ?_
      refine g_getI 23 39 18 ckX12 flX12_270 rfl rfl (Nat.le_of_ble_eq_true rfl) rfl rfl rfl h18 ?_
      refine e_icmp_ge 24 69 42 rfl rfl rfl (by unfold xr at *; omega) (by unfold xr at *; omega) (fun h9 => absurd h9 (by omega)) (fun _ => ?_)
      refine e_aload_n 25 43 rfl rfl rfl rfl ?_
      refine g_getR 26 46 ckX12 flX12_41 rfl rfl (Nat.le_of_ble_eq_true rfl) rfl rfl ?_
      refine e_iload 27 48 rfl rfl rfl ?_
      refine g_laload 28 49 rfl rfl (Nat.le_of_ble_eq_true rfl) rfl (by omega) (by omega) (by omega) rfl ?_
      refine e_lload_n 29 50 rfl rfl rfl rfl ?_
      refine e_lcmpI 30 51 rfl rfl (z1) ?_
      refine e_if_ne 31 59 54 rfl rfl rfl z3 (fun _ => ?_) (fun h9 => absurd h9 z2)
      refine e_iload 34 61 rfl rfl rfl ?_
      refine e_istore 35 63 (ls' := [some _, some _, some _, none, some _, some _, none, none, none]) rfl rfl (Nat.le_of_ble_eq_true rfl) rfl ?_
      refine e_iinc 36 66 (ls' := [some _, some _, some _, none, some _, some _, none, none, none]) rfl rfl (Nat.le_of_ble_eq_true rfl) rfl rfl ?_
      refine e_goto 37 33 rfl rfl ?_
      exact kk2
/-- what find looks at, and does not change -/
def FND (τ : xSig) (T : Nat → List Int) (G : Nat → Fo) (s : xSig) : Prop := FIM τ T G s ∧ DOCM τ T G s ∧ (∀ k : Int, 0 ≤ k → k < 3 → s 288 k = bi (ihas τ k) ∧ (ihas τ k = true → s 287 k = τ 249 k ∧ s 289 k = τ 250 k)) ∧ s 281 2 = τ 25 4
abbrev cN9 : List (Nat × Int) := [(281, 14), (290, -1), (291, -1), (282, -1), (283, -1), (287, -1), (288, -1), (289, -1), (281, 2)]
theorem FND.fp {τ σ σ' : xSig} {T : Nat → List Int} {G : Nat → Fo} {L : List (Nat × Int)} (h : FND τ T G σ) (hF : FP L σ σ') (ho : ovl cN9 L = false) : FND τ T G σ' := by
  have s9 := sam_fp hF ho
  have c9 : ∀ K : List (Nat × Int), cov K cN9 = true → sam K σ σ' := fun K hK b j hi => s9 b j (by
    cases e : inP cN9 b j with
    | true => rfl
    | false => rw [cov_in hK e] at hi; cases hi)
  obtain ⟨h1, h2, h3, h4⟩ := h
  refine ⟨?_, ?_, fun k k0 k3 => ?_, by rw [s9.at 281 2 rfl]; exact h4⟩
  · obtain ⟨f1, f2, f3⟩ := h1
    refine ⟨f1, by rw [s9.at 281 14 rfl]; exact f2, fun k hk hk4 => ?_⟩
    obtain ⟨⟨g1, g2, g3⟩, g4⟩ := f3 k hk hk4
    refine ⟨⟨?_, ?_, ?_⟩, g4⟩
    · rw [s9.cell 290 rfl]; exact g1
    · rw [s9.cell 291 rfl]; exact g2
    · exact g3.of (s9.cell 282 rfl)
  · refine ⟨fun n hn hh => ?_, fun n hn => by rw [s9.cell 283 rfl]; exact h2.2 n hn⟩
    obtain ⟨F, d1, d2, d3⟩ := h2.1 n hn hh
    exact ⟨F, d1, d2, d3.of (s9.cell 282 rfl)⟩
  · rw [s9.cell 287 rfl, s9.cell 288 rfl, s9.cell 289 rfl]
    exact h3 k k0 k3
/-- the class's triple and what the model has -/
def trR (t : Int × Int × Int) (b f c : Int) : Prop := c = t.2.2 ∧ (t.2.2 = 0 → f = -1) ∧ (t.2.2 ≠ 0 → b = t.1 ∧ f = t.2.1) ∧ 0 ≤ t.2.2 ∧ xr f ∧ (t.2.2 ≠ 0 → 0 ≤ t.2.1)
theorem trR.tp {t : Int × Int × Int} {b f c : Int} (h : trR t b f c) {k n : Int} (hn : 0 ≤ n ∧ n ≤ 100) : trR (tpS t k n) (if f = -1 ∨ n < f then k else b) (if f = -1 ∨ n < f then n else f) (c + 1) := by
  obtain ⟨h1, h2, h3, h4, h5, h6⟩ := h
  have e : (t.2.2 = 0 ∨ n < t.2.1) ↔ (f = -1 ∨ n < f) := by
    by_cases q : t.2.2 = 0
    · exact ⟨fun _ => Or.inl (h2 q), fun _ => Or.inl q⟩
    · have a := (h3 q).2
      have b := h6 q
      omega
  unfold tpS
  refine ⟨by rw [h1], fun q => ?_, fun _ => ?_, ?_, ?_, fun _ => ?_⟩
  · exfalso
    have : t.2.2 + 1 = 0 := q
    omega
  · by_cases w : f = -1 ∨ n < f
    · rw [if_pos w, if_pos w]
      show k = (if t.2.2 = 0 ∨ n < t.2.1 then k else t.1) ∧ n = (if t.2.2 = 0 ∨ n < t.2.1 then n else t.2.1)
      rw [if_pos (e.mpr w), if_pos (e.mpr w)]
      exact ⟨rfl, rfl⟩
    · rw [if_neg w, if_neg w]
      show b = (if t.2.2 = 0 ∨ n < t.2.1 then k else t.1) ∧ f = (if t.2.2 = 0 ∨ n < t.2.1 then n else t.2.1)
      rw [if_neg (fun q => w (e.mp q)), if_neg (fun q => w (e.mp q))]
      exact h3 (fun q => w (Or.inl (h2 q)))
  · show 0 ≤ t.2.2 + 1
    omega
  · split
    · unfold xr; omega
    · exact h5
  · show 0 ≤ (if t.2.2 = 0 ∨ n < t.2.1 then n else t.2.1)
    split
    · exact hn.1
    · next w => exact h6 (fun q => w (Or.inl q))
theorem xm1 : xr (-1) := by unfold xr; omega
abbrev fL9 : List (Nat × Int) := [(306, -1), (281, 41), (311, -1), (295, 2)]
theorem tr_st {τ : xSig} {T : Nat → List Int} {G : Nat → Fo} (hX : IXR τ) {s : xSig} (hN : FND τ T G s) {r K b f : Int} {k : Nat} (hk : k < 3) {t : Int × Int × Int} (hR : trR t b f (s 295 2)) : ∃ (s' : xSig) (b' f' : Int), FP fL9 s s' ∧ trR (if ffi τ k = -1 then t else tpS t k (lk τ T k)) b' f' (s' 295 2) ∧ ∀ (o : xO) (Y : xS), x_E MX12_find 0 0 170 [some (.ref 281), some (.int (ii r)), some (.long (ll K)), none, some (.int (ii (-1))), some (.int (ii b')), some (.int (ii f')), some (.int (ii (((k + 1 : Nat)) : Int))), none] [] (St s') 0 0 o Y → x_E MX12_find 0 0 170 [some (.ref 281), some (.int (ii r)), some (.long (ll K)), none, some (.int (ii (-1))), some (.int (ii b)), some (.int (ii f)), some (.int (ii k)), none] [] (St s) 0 0 o Y := by
  obtain ⟨hI, hD, h7, h2⟩ := hN
  obtain ⟨e1, e2⟩ := h7 k (by omega) (by omega)
  cases hh : ihas τ k with
  | false =>
    have ef : ffi τ k = -1 := by unfold ffi; rw [hh]; rfl
    rw [if_pos ef]
    refine ⟨s, b, f, FP.rf, hR, fun o Y kk => ?_⟩
    rw [hh] at e1
    refine e_iload 101 172 rfl rfl rfl ?_
    refine e_iconst 102 173 rfl rfl ?_
    refine e_icmp_ge 103 264 176 rfl rfl rfl (by unfold xr at *; omega) (by unfold xr at *; omega) (fun h9 => absurd h9 (by omega)) (fun _ => ?_)
    refine e_aload_n 104 177 rfl rfl rfl rfl ?_
    refine g_getR 105 180 ckX12 flX12_29 rfl rfl (Nat.le_of_ble_eq_true rfl) rfl rfl ?_
    refine e_iload 106 182 rfl rfl rfl ?_
    refine g_baload 107 183 rfl rfl (Nat.le_of_ble_eq_true rfl) rfl (by omega) (by omega) (by omega) e1 ?_
    refine e_ifb_eq 108 258 186 rfl rfl rfl (fun h => ?_) (fun h => ?_)
    · skip
      refine e_iinc 146 261 (ls' := [some _, some _, some _, none, some _, some _, some _, some _, none]) rfl rfl (Nat.le_of_ble_eq_true rfl) rfl rfl ?_
      refine e_goto 147 170 rfl rfl ?_
      exact kk
    · skip
      cases h
  | true =>
    have e7 := e2 hh
    have pl := sp_mLookFilter hX hI hh e7.1
    rw [hh] at e1
    by_cases ef : ffi τ k = -1
    · rw [if_pos ef]
      rw [ef] at pl
      refine ⟨s, b, f, FP.rf, hR, fun o Y kk => ?_⟩
      refine e_iload 101 172 rfl rfl rfl ?_
      refine e_iconst 102 173 rfl rfl ?_
      refine e_icmp_ge 103 264 176 rfl rfl rfl (by unfold xr at *; omega) (by unfold xr at *; omega) (fun h9 => absurd h9 (by omega)) (fun _ => ?_)
      refine e_aload_n 104 177 rfl rfl rfl rfl ?_
      refine g_getR 105 180 ckX12 flX12_29 rfl rfl (Nat.le_of_ble_eq_true rfl) rfl rfl ?_
      refine e_iload 106 182 rfl rfl rfl ?_
      refine g_baload 107 183 rfl rfl (Nat.le_of_ble_eq_true rfl) rfl (by omega) (by omega) (by omega) e1 ?_
      refine e_ifb_eq 108 258 186 rfl rfl rfl (fun h => ?_) (fun h => ?_)
      · skip
        cases h
      · skip
        refine e_aload_n 109 187 rfl rfl rfl rfl ?_
        refine e_iload 110 189 rfl rfl rfl ?_
        refine g_callV 111 192 (pl) okX12_lookFilter cvX12_294 ⟨(Nat.le_of_ble_eq_true rfl), (Nat.le_of_ble_eq_true rfl)⟩ rfl rfl (Nat.le_of_ble_eq_true rfl) rfl rfl rfl rfl rfl (Nat.le_of_ble_eq_true rfl) (Nat.le_of_ble_eq_true rfl) (Nat.le_of_ble_eq_true rfl) ?_
        refine e_iconst 112 193 rfl rfl ?_
        refine e_icmp_eq 113 258 196 rfl rfl rfl (by unfold xr at *; omega) (by unfold xr at *; omega) (fun _ => ?_) (fun h9 => absurd h9 (fun q => q rfl))
        refine e_iinc 146 261 (ls' := [some _, some _, some _, none, some _, some _, some _, some _, none]) rfl rfl (Nat.le_of_ble_eq_true rfl) rfl rfl ?_
        refine e_goto 147 170 rfl rfl ?_
        exact kk
    · rw [if_neg ef]
      obtain ⟨s1, c1, f1⟩ := sp_mLooked hX hI hD hh ef e7
      have hln : 0 ≤ lk τ T k ∧ lk τ T k ≤ 100 := lkd_bnd τ T _ _ _
      have hfb := ffi_bnd τ k hI.1
      have hfx : xr (ffi τ k) := by have := hI.1; unfold xr; omega
      generalize ffi τ k = fk at *
      have e295 : s1 295 2 = s 295 2 := f1 295 2 rfl
      have hR2 := hR.tp (k := k) hln
      have hfr := hR.2.2.2.2.1
      have fo : FP fL9 s (xu s1 295 2 (s1 295 2 + 1)) := (f1.mono rfl).put rfl
      generalize lk τ T k = n at *
      rw [← e295] at hR2
      have hnx : xr n := by unfold xr; omega
      refine ⟨xu s1 295 2 (s1 295 2 + 1), _, _, fo, by rw [xu_same]; exact hR2, fun o Y kk => ?_⟩
      have k214 : x_E MX12_find 0 0 214 [some (.ref 281), some (.int (ii r)), some (.long (ll K)), none, some (.int (ii (-1))), some (.int (ii b)), some (.int (ii f)), some (.int (ii k)), some (.int (ii n))] [] (St (xu s1 295 2 (s1 295 2 + 1))) 0 0 o Y := by
        by_cases w1 : f = -1
        · rw [if_pos (Or.inl w1), if_pos (Or.inl w1)] at kk
          refine e_iload 126 216 rfl rfl rfl ?_
          refine e_iconst 127 217 rfl rfl ?_
          refine e_icmp_eq 128 227 220 rfl rfl rfl hfr xm1 (fun _ => ?_) (fun h9 => absurd h9 (fun q => q w1))
          refine e_iload 132 229 rfl rfl rfl ?_
          refine e_goto 133 234 rfl rfl ?_
          refine e_istore 135 236 (ls' := [some _, some _, some _, none, some _, some _, some _, some _, some _]) rfl rfl (Nat.le_of_ble_eq_true rfl) rfl ?_
          refine e_iload 136 238 rfl rfl rfl ?_
          refine e_iconst 137 239 rfl rfl ?_
          refine e_icmp_eq 138 249 242 rfl rfl rfl hfr xm1 (fun _ => ?_) (fun h9 => absurd h9 (fun q => q w1))
          refine e_iload 142 251 rfl rfl rfl ?_
          refine e_goto 143 256 rfl rfl ?_
          refine e_istore 145 258 (ls' := [some _, some _, some _, none, some _, some _, some _, some _, some _]) rfl rfl (Nat.le_of_ble_eq_true rfl) rfl ?_
          refine e_dropm [true, true, true, false, true, true, true, true, false] (ls' := [some _, some _, some _, none, some _, some _, some _, some _, none]) rfl ?_
          refine e_iinc 146 261 (ls' := [some _, some _, some _, none, some _, some _, some _, some _, none]) rfl rfl (Nat.le_of_ble_eq_true rfl) rfl rfl ?_
          refine e_goto 147 170 rfl rfl ?_
          exact kk
        · by_cases w2 : n < f
          · rw [if_pos (Or.inr w2), if_pos (Or.inr w2)] at kk
            refine e_iload 126 216 rfl rfl rfl ?_
            refine e_iconst 127 217 rfl rfl ?_
            refine e_icmp_eq 128 227 220 rfl rfl rfl hfr xm1 (fun h9 => absurd h9 w1) (fun _ => ?_)
            refine e_iload 129 222 rfl rfl rfl ?_
            refine e_iload 130 224 rfl rfl rfl ?_
            refine e_icmp_ge 131 232 227 rfl rfl rfl hnx hfr (fun h9 => absurd h9 (by omega)) (fun _ => ?_)
            refine e_iload 132 229 rfl rfl rfl ?_
            refine e_goto 133 234 rfl rfl ?_
            refine e_istore 135 236 (ls' := [some _, some _, some _, none, some _, some _, some _, some _, some _]) rfl rfl (Nat.le_of_ble_eq_true rfl) rfl ?_
            refine e_iload 136 238 rfl rfl rfl ?_
            refine e_iconst 137 239 rfl rfl ?_
            refine e_icmp_eq 138 249 242 rfl rfl rfl hfr xm1 (fun h9 => absurd h9 w1) (fun _ => ?_)
            refine e_iload 139 244 rfl rfl rfl ?_
            refine e_iload 140 246 rfl rfl rfl ?_
            refine e_icmp_ge 141 254 249 rfl rfl rfl hnx hfr (fun h9 => absurd h9 (by omega)) (fun _ => ?_)
            refine e_iload 142 251 rfl rfl rfl ?_
            refine e_goto 143 256 rfl rfl ?_
            refine e_istore 145 258 (ls' := [some _, some _, some _, none, some _, some _, some _, some _, some _]) rfl rfl (Nat.le_of_ble_eq_true rfl) rfl ?_
            refine e_dropm [true, true, true, false, true, true, true, true, false] (ls' := [some _, some _, some _, none, some _, some _, some _, some _, none]) rfl ?_
            refine e_iinc 146 261 (ls' := [some _, some _, some _, none, some _, some _, some _, some _, none]) rfl rfl (Nat.le_of_ble_eq_true rfl) rfl rfl ?_
            refine e_goto 147 170 rfl rfl ?_
            exact kk
          · rw [if_neg (fun q => q.elim w1 w2), if_neg (fun q => q.elim w1 w2)] at kk
            refine e_iload 126 216 rfl rfl rfl ?_
            refine e_iconst 127 217 rfl rfl ?_
            refine e_icmp_eq 128 227 220 rfl rfl rfl hfr xm1 (fun h9 => absurd h9 w1) (fun _ => ?_)
            refine e_iload 129 222 rfl rfl rfl ?_
            refine e_iload 130 224 rfl rfl rfl ?_
            refine e_icmp_ge 131 232 227 rfl rfl rfl hnx hfr (fun _ => ?_) (fun h9 => absurd h9 (by omega))
            refine e_iload 134 234 rfl rfl rfl ?_
            refine e_istore 135 236 (ls' := [some _, some _, some _, none, some _, some _, some _, some _, some _]) rfl rfl (Nat.le_of_ble_eq_true rfl) rfl ?_
            refine e_iload 136 238 rfl rfl rfl ?_
            refine e_iconst 137 239 rfl rfl ?_
            refine e_icmp_eq 138 249 242 rfl rfl rfl hfr xm1 (fun h9 => absurd h9 w1) (fun _ => ?_)
            refine e_iload 139 244 rfl rfl rfl ?_
            refine e_iload 140 246 rfl rfl rfl ?_
            refine e_icmp_ge 141 254 249 rfl rfl rfl hnx hfr (fun _ => ?_) (fun h9 => absurd h9 (by omega))
            refine e_iload 144 256 rfl rfl rfl ?_
            refine e_istore 145 258 (ls' := [some _, some _, some _, none, some _, some _, some _, some _, some _]) rfl rfl (Nat.le_of_ble_eq_true rfl) rfl ?_
            refine e_dropm [true, true, true, false, true, true, true, true, false] (ls' := [some _, some _, some _, none, some _, some _, some _, some _, none]) rfl ?_
            refine e_iinc 146 261 (ls' := [some _, some _, some _, none, some _, some _, some _, some _, none]) rfl rfl (Nat.le_of_ble_eq_true rfl) rfl rfl ?_
            refine e_goto 147 170 rfl rfl ?_
            exact kk
      refine e_iload 101 172 rfl rfl rfl ?_
      refine e_iconst 102 173 rfl rfl ?_
      refine e_icmp_ge 103 264 176 rfl rfl rfl (by unfold xr at *; omega) (by unfold xr at *; omega) (fun h9 => absurd h9 (by omega)) (fun _ => ?_)
      refine e_aload_n 104 177 rfl rfl rfl rfl ?_
      refine g_getR 105 180 ckX12 flX12_29 rfl rfl (Nat.le_of_ble_eq_true rfl) rfl rfl ?_
      refine e_iload 106 182 rfl rfl rfl ?_
      refine g_baload 107 183 rfl rfl (Nat.le_of_ble_eq_true rfl) rfl (by omega) (by omega) (by omega) e1 ?_
      refine e_ifb_eq 108 258 186 rfl rfl rfl (fun h => ?_) (fun h => ?_)
      · skip
        cases h
      · skip
        refine e_aload_n 109 187 rfl rfl rfl rfl ?_
        refine e_iload 110 189 rfl rfl rfl ?_
        refine g_callV 111 192 (pl) okX12_lookFilter cvX12_294 ⟨(Nat.le_of_ble_eq_true rfl), (Nat.le_of_ble_eq_true rfl)⟩ rfl rfl (Nat.le_of_ble_eq_true rfl) rfl rfl rfl rfl rfl (Nat.le_of_ble_eq_true rfl) (Nat.le_of_ble_eq_true rfl) (Nat.le_of_ble_eq_true rfl) ?_
        refine e_iconst 112 193 rfl rfl ?_
        refine e_icmp_eq 113 258 196 rfl rfl rfl hfx xm1 (fun h9 => absurd h9 ef) (fun _ => ?_)
        refine e_aload_n 114 197 rfl rfl rfl rfl ?_
        refine e_iload 115 199 rfl rfl rfl ?_
        refine g_callV 116 202 (c1) okX12_looked cvX12_305 ⟨(Nat.le_of_ble_eq_true rfl), (Nat.le_of_ble_eq_true rfl)⟩ rfl rfl (Nat.le_of_ble_eq_true rfl) rfl rfl rfl rfl rfl (Nat.le_of_ble_eq_true rfl) (Nat.le_of_ble_eq_true rfl) (Nat.le_of_ble_eq_true rfl) ?_
        refine e_istore 117 204 (ls' := [some _, some _, some _, none, some _, some _, some _, some _, some _]) rfl rfl (Nat.le_of_ble_eq_true rfl) rfl ?_
        refine e_aload_n 118 205 rfl rfl rfl rfl ?_
        refine g_getR 119 208 ckX12 flX12_51 rfl rfl (Nat.le_of_ble_eq_true rfl) rfl rfl ?_
        refine e_iconst 120 209 rfl rfl ?_
        refine e_dup2 121 210 rfl rfl rfl rfl ?_
        refine g_iaload 122 211 rfl rfl (Nat.le_of_ble_eq_true rfl) rfl (by omega) (by omega) (by omega) rfl ?_
        refine e_iconst 123 212 rfl rfl ?_
        refine e_iadd 124 213 rfl rfl ?_
        refine g_iastore 125 214 rfl rfl (Nat.le_of_ble_eq_true rfl) rfl (by omega) (by omega) (by omega) ?_
        exact k214
