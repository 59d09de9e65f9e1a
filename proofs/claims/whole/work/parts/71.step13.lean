/-! ===== steps: tick ===== -/
theorem tkN_none {T : Nat → List Int} : ∀ (n i : Nat) (τ : xSig), τ 0 8 = -1 → tkN T i n τ = τ ∧ tkC T i n τ = 0 := by
  intro n
  induction n with
  | zero => intro i τ h; exact ⟨rfl, rfl⟩
  | succ n ih =>
    intro i τ h
    have e : xpd τ T i = false := by unfold xpd; rw [decF (fun q => q h)]; rfl
    obtain ⟨h1, h2⟩ := ih (i + 1) τ h
    unfold tkN tkC
    rw [e]
    simp only [Bool.false_eq_true, if_false, bi_f]
    exact ⟨h1, by rw [h2]; rfl⟩
theorem tick_in {T : Nat → List Int} {G : Nat → Fo} {j : Nat} {tk9 k9 : Int} (hj : j ≤ 513) : ∀ (m i : Nat) (acc : Int) (τ σ : xSig), i + m = 100 → IM j τ T G σ → ∃ σ', (∀ {o : xO} {Y : xS}, x_E MX12_tick 0 0 137 [some (.ref 281), some (.int (ii tk9)), some (.int (ii (acc + tkC T i m τ))), some (.int (ii k9)), none, none] [] (St σ') 0 0 o Y → x_E MX12_tick 0 0 40 [some (.ref 281), some (.int (ii tk9)), some (.int (ii acc)), some (.int (ii k9)), some (.int (ii i)), none] [] (St σ) 0 0 o Y) ∧ IM j (tkN T i m τ) T G σ' ∧ FP [(311, -1), (283, -1), (299, -1), (281, 2), (303, -1), (304, -1), (305, -1), (281, 37)] σ σ' ∧ FP [(27, -1), (25, 4), (235, -1), (240, -1), (241, -1), (242, -1), (239, 3)] τ (tkN T i m τ) := by
  intro m
  induction m with
  | zero =>
    intro i acc τ σ hi hM
    refine ⟨σ, fun {o Y} kk => ?_, hM, FP.rf, FP.rf⟩
    rw [show acc + tkC T i 0 τ = acc from Int.add_zero acc] at kk
    refine e_iload 26 42 rfl rfl rfl ?_
    refine e_bipush 27 44 rfl rfl rfl ?_
    refine e_icmp_ge 28 137 47 rfl rfl rfl (by unfold xr at *; omega) (by unfold xr at *; omega) (fun _ => ?_) (fun h9 => absurd h9 (by omega))
    refine e_dropm [true, true, true, true, false, false] (ls' := [some _, some _, some _, some _, none, none]) rfl ?_
    exact kk
  | succ m ih =>
    intro i acc τ σ hi hM
    have e8 : σ 281 38 = τ 0 8 := hM.2 20
    have e9 : σ 281 39 = τ 0 9 := hM.2 21
    have h13 : (-1 ≤ τ 0 8 ∧ τ 0 8 < 8) ∧ (0 ≤ τ 0 9 ∧ τ 0 9 ≤ 20 * j) := hM.1 13
    by_cases hx : τ 0 8 = -1
    · obtain ⟨n1, n2⟩ := tkN_none (T := T) (m + 1) i τ hx
      rw [n1, n2]
      refine ⟨σ, fun {o Y} kk => ?_, hM, FP.rf, FP.rf⟩
      rw [Int.add_zero] at kk
      refine e_iload 26 42 rfl rfl rfl ?_
      refine e_bipush 27 44 rfl rfl rfl ?_
      refine e_icmp_ge 28 137 47 rfl rfl rfl (by unfold xr at *; omega) (by unfold xr at *; omega) (fun h9 => absurd h9 (by omega)) (fun _ => ?_)
      refine e_aload_n 29 48 rfl rfl rfl rfl ?_
      refine g_getI 30 51 38 ckX12 flX12_91 rfl rfl (Nat.le_of_ble_eq_true rfl) rfl rfl rfl (e8.trans hx) ?_
      refine e_iconst 31 52 rfl rfl ?_
      refine e_icmp_eq 32 137 55 rfl rfl rfl (by unfold xr at *; omega) (by unfold xr at *; omega) (fun _ => ?_) (fun h9 => absurd h9 (fun q => q rfl))
      refine e_dropm [true, true, true, true, false, false] (ls' := [some _, some _, some _, some _, none, none]) rfl ?_
      exact kk
    · have e3 := hM.docm.2 i (by omega)
      -- nothing goes here
      have skip : ∀ (σ1 : xSig) (p9 : Int), FP m11 σ σ1 → xpd τ T i = false → ∃ σ', (∀ {o : xO} {Y : xS}, x_E MX12_tick 0 0 137 [some (.ref 281), some (.int (ii tk9)), some (.int (ii (acc + tkC T i (m + 1) τ))), some (.int (ii k9)), none, none] [] (St σ') 0 0 o Y → x_E MX12_tick 0 0 131 [some (.ref 281), some (.int (ii tk9)), some (.int (ii acc)), some (.int (ii k9)), some (.int (ii i)), some (.int (ii p9))] [] (St σ1) 0 0 o Y) ∧ IM j (tkN T i (m + 1) τ) T G σ' ∧ FP [(311, -1), (283, -1), (299, -1), (281, 2), (303, -1), (304, -1), (305, -1), (281, 37)] σ σ' ∧ FP [(27, -1), (25, 4), (235, -1), (240, -1), (241, -1), (242, -1), (239, 3)] τ (tkN T i (m + 1) τ) := by
        intro σ1 p9 g hxp
        obtain ⟨σ', k1, k2, k3, k4⟩ := ih (i + 1) acc τ σ1 (by omega) (hM.fp g (by decide +kernel))
        have a1 : tkN T i (m + 1) τ = tkN T (i + 1) m τ := by rw [tkN, if_neg (by rw [hxp]; decide)]
        have a2 : tkC T i (m + 1) τ = tkC T (i + 1) m τ := by rw [tkC, if_neg (by rw [hxp]; decide), hxp]; exact Int.zero_add _
        rw [a1, a2]
        refine ⟨σ', fun {o Y} kk => ?_, k2, (g.mono rfl).tr k3, k4⟩
        have k1' := k1 kk
        refine e_iinc 72 134 (ls' := [some _, some _, some _, some _, some _, some _]) rfl rfl (Nat.le_of_ble_eq_true rfl) rfl rfl ?_
        refine e_goto 73 40 rfl rfl ?_
        refine e_dropm [true, true, true, true, true, false] (ls' := [some _, some _, some _, some _, some _, none]) rfl ?_
        exact k1'
      have st : ∀ {o : xO} {Y : xS}, x_E MX12_tick 0 0 55 [some (.ref 281), some (.int (ii tk9)), some (.int (ii acc)), some (.int (ii k9)), some (.int (ii i)), none] [] (St σ) 0 0 o Y → x_E MX12_tick 0 0 40 [some (.ref 281), some (.int (ii tk9)), some (.int (ii acc)), some (.int (ii k9)), some (.int (ii i)), none] [] (St σ) 0 0 o Y := by
        intro o Y kk
        refine e_iload 26 42 rfl rfl rfl ?_
        refine e_bipush 27 44 rfl rfl rfl ?_
        refine e_icmp_ge 28 137 47 rfl rfl rfl (by unfold xr at *; omega) (by unfold xr at *; omega) (fun h9 => absurd h9 (by omega)) (fun _ => ?_)
        refine e_aload_n 29 48 rfl rfl rfl rfl ?_
        refine g_getI 30 51 38 ckX12 flX12_91 rfl rfl (Nat.le_of_ble_eq_true rfl) rfl rfl rfl e8 ?_
        refine e_iconst 31 52 rfl rfl ?_
        refine e_icmp_eq 32 137 55 rfl rfl rfl (by unfold xr at *; omega) (by unfold xr at *; omega) (fun h9 => absurd h9 hx) (fun _ => ?_)
        exact kk
      cases hh : hasd τ i with
      | false =>
        rw [hh] at e3
        obtain ⟨σ', k1, k2, k3, k4⟩ := skip σ (-1) FP.rf (by unfold xpd; rw [hh, Bool.false_and, Bool.and_false])
        refine ⟨σ', fun {o Y} kk => st ?_, k2, k3, k4⟩
        have k1' := k1 kk
        refine e_aload_n 33 56 rfl rfl rfl rfl ?_
        refine g_getR 34 59 ckX12 flX12_13 rfl rfl (Nat.le_of_ble_eq_true rfl) rfl rfl ?_
        refine e_iload 35 61 rfl rfl rfl ?_
        refine g_baload 36 62 rfl rfl (Nat.le_of_ble_eq_true rfl) rfl (by omega) (by omega) (by omega) e3 ?_
        refine e_ifb_eq 37 85 65 rfl rfl rfl (fun hq => ?_) (fun hq => ?_)
        · skip
          refine e_iconst 47 86 rfl rfl ?_
          refine e_istore 48 88 (ls' := [some _, some _, some _, some _, some _, some _]) rfl rfl (Nat.le_of_ble_eq_true rfl) rfl ?_
          refine e_iload 49 90 rfl rfl rfl ?_
          refine e_iconst 50 91 rfl rfl ?_
          refine e_icmp_eq 51 131 94 rfl rfl rfl (by unfold xr at *; omega) (by unfold xr at *; omega) (fun _ => ?_) (fun h9 => absurd h9 (by omega))
          exact k1'
        · skip
          cases hq
      | true =>
        rw [hh] at e3
        obtain ⟨F, d1, d2, d3⟩ := hM.docm.1 i (by omega) hh
        obtain ⟨r9, σ1, c1, f1, hr9⟩ := sp_mFieldOf d3 (f := τ 0 8) (by omega)
        have hM1 := hM.fp f1 (by decide +kernel)
        have e9' : σ1 281 39 = τ 0 9 := hM1.2 21
        have hpl := tok_pl1 d2 (f := τ 0 8) (by omega)
        have hxe : xpd τ T i = decide (knd (hd9 F (τ 0 8)) = 1 ∧ hd9 F (τ 0 8) - 2000 ≤ τ 0 9) := by
          unfold xpd
          rw [decT hx, hh, hpl]
          rfl
        have st2 : ∀ {o : xO} {Y : xS}, x_E MX12_tick 0 0 88 [some (.ref 281), some (.int (ii tk9)), some (.int (ii acc)), some (.int (ii k9)), some (.int (ii i)), some (.int (ii r9))] [] (St σ1) 0 0 o Y → x_E MX12_tick 0 0 55 [some (.ref 281), some (.int (ii tk9)), some (.int (ii acc)), some (.int (ii k9)), some (.int (ii i)), none] [] (St σ) 0 0 o Y := by
          intro o Y kk
          refine e_aload_n 33 56 rfl rfl rfl rfl ?_
          refine g_getR 34 59 ckX12 flX12_13 rfl rfl (Nat.le_of_ble_eq_true rfl) rfl rfl ?_
          refine e_iload 35 61 rfl rfl rfl ?_
          refine g_baload 36 62 rfl rfl (Nat.le_of_ble_eq_true rfl) rfl (by omega) (by omega) (by omega) e3 ?_
          refine e_ifb_eq 37 85 65 rfl rfl rfl (fun hq => ?_) (fun hq => ?_)
          · skip
            cases hq
          · skip
            refine e_aload_n 38 66 rfl rfl rfl rfl ?_
            refine e_aload_n 39 67 rfl rfl rfl rfl ?_
            refine g_getR 40 70 ckX12 flX12_7 rfl rfl (Nat.le_of_ble_eq_true rfl) rfl rfl ?_
            refine e_iload 41 72 rfl rfl rfl ?_
            refine g_callS 42 75 (sp_mBlock (x := i)) okX12_block csX12_142 ⟨(Nat.le_of_ble_eq_true rfl), (Nat.le_of_ble_eq_true rfl)⟩ rfl rfl rfl rfl (Nat.le_of_ble_eq_true rfl) (Nat.le_of_ble_eq_true rfl) (Nat.le_of_ble_eq_true rfl) ?_
            refine e_aload_n 43 76 rfl rfl rfl rfl ?_
            refine g_getI 44 79 38 ckX12 flX12_91 rfl rfl (Nat.le_of_ble_eq_true rfl) rfl rfl rfl e8 ?_
            refine g_callV 45 82 (c1) okX12_fieldOf cvX12_155 ⟨(Nat.le_of_ble_eq_true rfl), (Nat.le_of_ble_eq_true rfl)⟩ rfl rfl (Nat.le_of_ble_eq_true rfl) rfl rfl rfl rfl rfl (Nat.le_of_ble_eq_true rfl) (Nat.le_of_ble_eq_true rfl) (Nat.le_of_ble_eq_true rfl) ?_
            refine e_goto 46 86 rfl rfl ?_
            refine e_istore 48 88 (ls' := [some _, some _, some _, some _, some _, some _]) rfl rfl (Nat.le_of_ble_eq_true rfl) rfl ?_
            exact kk
        rcases hr9 with ⟨g1, rfl⟩ | ⟨g0, g1⟩
        · have e0 : hd9 F (τ 0 8) = 0 := by unfold hd9; rw [g1]; rfl
          obtain ⟨σ', k1, k2, k3, k4⟩ := skip σ1 (-1) f1 (by rw [hxe, e0]; exact decF (fun q => absurd q.1 (by decide)))
          refine ⟨σ', fun {o Y} kk => st (st2 ?_), k2, k3, k4⟩
          have k1' := k1 kk
          refine e_iload 49 90 rfl rfl rfl ?_
          refine e_iconst 50 91 rfl rfl ?_
          refine e_icmp_eq 51 131 94 rfl rfl rfl (by unfold xr at *; omega) (by unfold xr at *; omega) (fun _ => ?_) (fun h9 => absurd h9 (by omega))
          exact k1'
        · have q := mv_fld g1
          rw [show tok (tk (get (τ 0 8) F)) 0 = hd9 F (τ 0 8) from rfl] at q
          generalize hd9 F (τ 0 8) = u at *
          have hkb := knd_bnd u
          by_cases hk1 : knd u = 1
          · obtain ⟨q1, q2, q3, q4⟩ := q.2.1 hk1
            rw [hk1] at q
            by_cases hle : u - 2000 ≤ τ 0 9
            · -- it goes
              have hxt : xpd τ T i = true := by rw [hxe]; exact decT ⟨hk1, hle⟩
              have h11 : 0 ≤ τ 239 3 ∧ τ 239 3 + τ 25 4 ≤ 2 * j := hM.1 11
              have h4 := hM.1 4
              have hc0 : 0 ≤ cnd τ := (smN_01 (fun i => bi_01 _) 100 0).1
              have e37 : σ1 281 37 = τ 239 3 := (hM1.2 19).1
              obtain ⟨σ2, f2, c2⟩ := sp_mRemoves hM1.chm d2 (d3.of (f1.cell 282 rfl)) (by omega) (by rw [e37]; have := h4.2.1; omega)
              have hM2 := (hM1.fp f2 (by decide +kernel)).tak (n := i) (by omega) hh rfl
              obtain ⟨σ', k1, k2, k3, k4⟩ := ih (i + 1) (acc + 1) (tka τ (T (31 + 2 * i)) i) (mrm σ2 i (shd τ (T (31 + 2 * i)))) (by omega) hM2
              have a1 : tkN T i (m + 1) τ = tkN T (i + 1) m (tka τ (T (31 + 2 * i)) i) := by rw [tkN, if_pos hxt]
              have a2 : acc + tkC T i (m + 1) τ = acc + 1 + tkC T (i + 1) m (tka τ (T (31 + 2 * i)) i) := by rw [tkC, if_pos hxt, hxt, bi_t]; omega
              rw [a1, a2]
              refine ⟨σ', fun {o Y} kk => st (st2 ?_), k2, (((f1.mono rfl).tr (f2.mono rfl)).tr ((mrm_f _ _ _).mono rfl)).tr k3, (tka_f _ _ _).tr k4⟩
              have k1' := k1 kk
              refine e_iload 49 90 rfl rfl rfl ?_
              refine e_iconst 50 91 rfl rfl ?_
              refine e_icmp_eq 51 131 94 rfl rfl rfl (by unfold xr at *; omega) (by unfold xr at *; omega) (fun h9 => absurd h9 (by omega)) (fun _ => ?_)
              refine e_aload_n 52 95 rfl rfl rfl rfl ?_
              refine g_getR 53 98 ckX12 flX12_7 rfl rfl (Nat.le_of_ble_eq_true rfl) rfl rfl ?_
              refine e_iload 54 100 rfl rfl rfl ?_
              refine g_iaload 55 101 rfl rfl (Nat.le_of_ble_eq_true rfl) rfl (by omega) (by omega) (by omega) q.1 ?_
              refine e_iconst 56 102 rfl rfl ?_
              refine e_icmp_ne 57 131 105 rfl rfl rfl (by unfold xr at *; omega) (by unfold xr at *; omega) (fun h9 => absurd h9 (fun q => q rfl)) (fun _ => ?_)
              refine e_aload_n 58 106 rfl rfl rfl rfl ?_
              refine g_getR 59 109 ckX12 flX12_7 rfl rfl (Nat.le_of_ble_eq_true rfl) rfl rfl ?_
              refine e_iload 60 111 rfl rfl rfl ?_
              refine e_iconst 61 112 rfl rfl ?_
              refine e_iadd 62 113 rfl rfl ?_
              refine g_iaload 63 114 rfl rfl (Nat.le_of_ble_eq_true rfl) rfl (by omega) (by omega) (by omega) q1 ?_
              refine e_aload_n 64 115 rfl rfl rfl rfl ?_
              refine g_getI 65 118 39 ckX12 flX12_340 rfl rfl (Nat.le_of_ble_eq_true rfl) rfl rfl rfl e9' ?_
              refine e_icmp_gt 66 131 121 rfl rfl rfl (by unfold xr at *; omega) (by unfold xr at *; omega) (fun h9 => absurd h9 (by omega)) (fun _ => ?_)
              refine e_aload_n 67 122 rfl rfl rfl rfl ?_
              refine e_iload 68 124 rfl rfl rfl ?_
              refine g_callV 69 127 (c2) okX12_removes cvX12_267 ⟨(Nat.le_of_ble_eq_true rfl), (Nat.le_of_ble_eq_true rfl)⟩ rfl rfl (Nat.le_of_ble_eq_true rfl) rfl rfl rfl rfl rfl (Nat.le_of_ble_eq_true rfl) (Nat.le_of_ble_eq_true rfl) (Nat.le_of_ble_eq_true rfl) ?_
              refine e_pop 70 128 rfl rfl rfl ?_
              refine e_iinc 71 131 (ls' := [some _, some _, some _, some _, some _, some _]) rfl rfl (Nat.le_of_ble_eq_true rfl) rfl rfl ?_
              refine e_iinc 72 134 (ls' := [some _, some _, some _, some _, some _, some _]) rfl rfl (Nat.le_of_ble_eq_true rfl) rfl rfl ?_
              refine e_goto 73 40 rfl rfl ?_
              refine e_dropm [true, true, true, true, true, false] (ls' := [some _, some _, some _, some _, some _, none]) rfl ?_
              exact k1'
            · obtain ⟨σ', k1, k2, k3, k4⟩ := skip σ1 r9 f1 (by rw [hxe]; exact decF (fun q => hle q.2))
              refine ⟨σ', fun {o Y} kk => st (st2 ?_), k2, k3, k4⟩
              have k1' := k1 kk
              refine e_iload 49 90 rfl rfl rfl ?_
              refine e_iconst 50 91 rfl rfl ?_
              refine e_icmp_eq 51 131 94 rfl rfl rfl (by unfold xr at *; omega) (by unfold xr at *; omega) (fun h9 => absurd h9 (by omega)) (fun _ => ?_)
              refine e_aload_n 52 95 rfl rfl rfl rfl ?_
              refine g_getR 53 98 ckX12 flX12_7 rfl rfl (Nat.le_of_ble_eq_true rfl) rfl rfl ?_
              refine e_iload 54 100 rfl rfl rfl ?_
              refine g_iaload 55 101 rfl rfl (Nat.le_of_ble_eq_true rfl) rfl (by omega) (by omega) (by omega) q.1 ?_
              refine e_iconst 56 102 rfl rfl ?_
              refine e_icmp_ne 57 131 105 rfl rfl rfl (by unfold xr at *; omega) (by unfold xr at *; omega) (fun h9 => absurd h9 (fun q => q rfl)) (fun _ => ?_)
              refine e_aload_n 58 106 rfl rfl rfl rfl ?_
              refine g_getR 59 109 ckX12 flX12_7 rfl rfl (Nat.le_of_ble_eq_true rfl) rfl rfl ?_
              refine e_iload 60 111 rfl rfl rfl ?_
              refine e_iconst 61 112 rfl rfl ?_
              refine e_iadd 62 113 rfl rfl ?_
              refine g_iaload 63 114 rfl rfl (Nat.le_of_ble_eq_true rfl) rfl (by omega) (by omega) (by omega) q1 ?_
              refine e_aload_n 64 115 rfl rfl rfl rfl ?_
              refine g_getI 65 118 39 ckX12 flX12_340 rfl rfl (Nat.le_of_ble_eq_true rfl) rfl rfl rfl e9' ?_
              refine e_icmp_gt 66 131 121 rfl rfl rfl (by unfold xr at *; omega) (by unfold xr at *; omega) (fun _ => ?_) (fun h9 => absurd h9 (by omega))
              exact k1'
          · obtain ⟨σ', k1, k2, k3, k4⟩ := skip σ1 r9 f1 (by rw [hxe]; exact decF (fun q => hk1 q.1))
            refine ⟨σ', fun {o Y} kk => st (st2 ?_), k2, k3, k4⟩
            have k1' := k1 kk
            have b1 := q.2.2.2
            refine e_iload 49 90 rfl rfl rfl ?_
            refine e_iconst 50 91 rfl rfl ?_
            refine e_icmp_eq 51 131 94 rfl rfl rfl (by unfold xr at *; omega) (by unfold xr at *; omega) (fun h9 => absurd h9 (by omega)) (fun _ => ?_)
            refine e_aload_n 52 95 rfl rfl rfl rfl ?_
            refine g_getR 53 98 ckX12 flX12_7 rfl rfl (Nat.le_of_ble_eq_true rfl) rfl rfl ?_
            refine e_iload 54 100 rfl rfl rfl ?_
            refine g_iaload 55 101 rfl rfl (Nat.le_of_ble_eq_true rfl) rfl (by omega) (by omega) (by omega) q.1 ?_
            refine e_iconst 56 102 rfl rfl ?_
            refine e_icmp_ne 57 131 105 rfl rfl rfl (by unfold xr at *; omega) (by unfold xr at *; omega) (fun _ => ?_) (fun h9 => absurd h9 hk1)
            exact k1'
theorem IM.tick {j : Nat} {τ σ : xSig} {T : Nat → List Int} {G : Nat → Fo} (h : IM j τ T G σ) (h9 : τ 0 9 + 1 ≤ 20 * j) : IM j (xu τ 0 9 (τ 0 9 + 1)) T G (xu σ 281 39 (τ 0 9 + 1)) := by
  have fc : FP [(0, 9)] τ (xu τ 0 9 (τ 0 9 + 1)) := FP.rf.put rfl
  have fm : FP [(281, 39)] σ (xu σ 281 39 (τ 0 9 + 1)) := FP.rf.put rfl
  refine ⟨fun k => ?_, fun k => ?_⟩
  · by_cases hk : k < 15
    · by_cases e : k = 13
      · subst e
        have q : (-1 ≤ τ 0 8 ∧ τ 0 8 < 8) ∧ (0 ≤ τ 0 9 ∧ τ 0 9 ≤ 20 * j) := h.1 13
        refine ⟨?_, ?_⟩
        · rw [fc 0 8 rfl]; exact q.1
        · rw [xu_same]; omega
      · exact KIc_fp (Nat.le_refl j) k (sam_fp fc (disK_at (S := [13]) rfl hk (by simp; omega))) (h.1 k)
    · obtain ⟨m, rfl⟩ : ∃ m, k = m + 15 := ⟨k - 15, by omega⟩
      trivial
  · by_cases hk : k < 23
    · by_cases e : k = 21
      · subst e
        show xu σ 281 39 (τ 0 9 + 1) 281 39 = xu τ 0 9 (τ 0 9 + 1) 0 9
        rw [xu_same, xu_same]
      · exact RMc_fp k (sam_fp fc (disR_at (S := [21]) rfl hk (by simp; omega)).1) (sam_fp fm (disR_at (S := [21]) rfl hk (by simp; omega)).2) (h.2 k)
    · obtain ⟨m, rfl⟩ : ∃ m, k = m + 23 := ⟨k - 23, by omega⟩
      trivial
abbrev tkl9 : List (Nat × Int) := [(311, -1), (283, -1), (299, -1), (281, 2), (303, -1), (304, -1), (305, -1), (281, 37), (281, 39)]
theorem tick_out {T : Nat → List Int} {G : Nat → Fo} {j : Nat} {tk9 : Int} (hj : j ≤ 513) (ht : 1 ≤ tk9 ∧ tk9 ≤ 20) : ∀ (m : Nat) (k acc : Int) (τ σ : xSig), k + m = tk9 → 0 ≤ k → IM j τ T G σ → τ 0 9 + m ≤ 20 * j → ∃ σ', x_E MX12_tick 0 0 22 [some (.ref 281), some (.int (ii tk9)), some (.int (ii acc)), some (.int (ii k)), none, none] [] (St σ) 0 0 (iv (acc + tkT T m τ)) (St σ') ∧ IM j (tkS T m τ) T G σ' ∧ FP tkl9 σ σ' := by
  intro m
  induction m with
  | zero =>
    intro k acc τ σ hk hk0 hM h9
    refine ⟨σ, ?_, hM, FP.rf⟩
    rw [show acc + tkT T 0 τ = acc from Int.add_zero acc]
    refine e_iload_n 15 23 rfl rfl rfl rfl ?_
    refine e_iload_n 16 24 rfl rfl rfl rfl ?_
    refine e_icmp_ge 17 143 27 rfl rfl rfl (by unfold xr at *; omega) (by unfold xr at *; omega) (fun _ => ?_) (fun h9 => absurd h9 (by omega))
    refine e_iload_n 76 144 rfl rfl rfl rfl ?_
    exact e_ireturn 77 rfl rfl (Nat.le_of_ble_eq_true rfl) (Nat.le_of_ble_eq_true rfl)
  | succ m ih =>
    intro k acc τ σ hk hk0 hM h9
    have e9 : σ 281 39 = τ 0 9 := hM.2 21
    have hM1 := hM.tick (by omega)
    obtain ⟨σ2, k1, k2, k3, k4⟩ := tick_in (tk9 := tk9) (k9 := k) hj 100 0 acc _ _ (by omega) hM1
    have n9 : tkN T 0 100 (xu τ 0 9 (τ 0 9 + 1)) 0 9 = τ 0 9 + 1 := by rw [tkN_9, xu_same]
    obtain ⟨σ3, j1, j2, j3⟩ := ih (k + 1) (acc + tkC T 0 100 (xu τ 0 9 (τ 0 9 + 1))) _ _ (by omega) (by omega) k2 (by rw [n9]; omega)
    refine ⟨σ3, ?_, j2, ((FP.rf.put rfl).tr (k3.mono rfl)).tr j3⟩
    rw [show acc + tkT T (m + 1) τ = acc + tkC T 0 100 (xu τ 0 9 (τ 0 9 + 1)) + tkT T m (tkN T 0 100 (xu τ 0 9 (τ 0 9 + 1))) by rw [tkT]; omega]
    refine e_iload_n 15 23 rfl rfl rfl rfl ?_
    refine e_iload_n 16 24 rfl rfl rfl rfl ?_
    refine e_icmp_ge 17 143 27 rfl rfl rfl (by unfold xr at *; omega) (by unfold xr at *; omega) (fun h9 => absurd h9 (by omega)) (fun _ => ?_)
    refine e_aload_n 18 28 rfl rfl rfl rfl ?_
    refine e_dup 19 29 rfl rfl rfl ?_
    refine g_getI 20 32 39 ckX12 flX12_340 rfl rfl (Nat.le_of_ble_eq_true rfl) rfl rfl rfl e9 ?_
    refine e_iconst 21 33 rfl rfl ?_
    refine e_iadd 22 34 rfl rfl ?_
    refine g_putI 23 37 39 ckX12 flX12_340 rfl rfl (Nat.le_of_ble_eq_true rfl) rfl rfl rfl ?_
    refine e_iconst 24 38 rfl rfl ?_
    refine e_istore 25 40 (ls' := [some _, some _, some _, some _, some _, none]) rfl rfl (Nat.le_of_ble_eq_true rfl) rfl ?_
    refine k1 ?_
    refine e_iinc 74 140 (ls' := [some _, some _, some _, some _, none, none]) rfl rfl (Nat.le_of_ble_eq_true rfl) rfl rfl ?_
    refine e_goto 75 22 rfl rfl ?_
    exact j1
theorem tkS_f {T : Nat → List Int} : ∀ (n : Nat) (τ : xSig), FP [(0, 9), (27, -1), (25, 4), (235, -1), (240, -1), (241, -1), (242, -1), (239, 3)] τ (tkS T n τ) := by
  have hN : ∀ (n i : Nat) (τ : xSig), FP [(27, -1), (25, 4), (235, -1), (240, -1), (241, -1), (242, -1), (239, 3)] τ (tkN T i n τ) := by
    intro n
    induction n with
    | zero => intro i τ; exact FP.rf
    | succ n ih =>
      intro i τ
      rw [tkN]
      split
      · exact (tka_f _ _ _).tr (ih _ _)
      · exact ih _ _
  intro n
  induction n with
  | zero => intro τ; exact FP.rf
  | succ n ih =>
    intro τ
    rw [tkS]
    exact ((FP.rf.put rfl).tr ((hN 100 0 _).mono rfl)).tr (ih _)
theorem st_tick {i : Nat} {σ : xSig} (h : INV i σ) (hi : i < 512) {m : Int} (hm : xr m) : STEP i MX11_tick MX12_tick iv [nIAE] [.int (ii m)] σ := by
  have hM := h
  obtain ⟨T, G, hA, hM⟩ := hM
  have pm := fun s => sp_mIn (σ := s) (x := m) (y := 1) (z := 20) hm (by unfold xr; omega) (by unfold xr; omega)
  by_cases hh : 1 ≤ m ∧ m ≤ 20
  · rw [decT hh] at pm
    have h13 : (-1 ≤ σ 0 8 ∧ σ 0 8 < 8) ∧ (0 ≤ σ 0 9 ∧ σ 0 9 ≤ 20 * i) := hM.1 13
    obtain ⟨e1, e2, e3, e4, e5, e6, e7⟩ := hM.ent hi
    have hK : TKI σ T := ⟨hA, (hM.1 4).1, (hM.1 6).1, h13.1, ⟨h13.2.1, by omega⟩, e1, by omega⟩
    have hcl := sp_tick1 hK hh (by omega)
    have fs := tkS_f (T := T) m.toNat σ
    have hM1 : IM (i + 1) σ T G (xu (tkS T m.toNat σ) 281 47 0) := ((hM.fp fs (by decide +kernel)).fp (F47 (c := 0)) (by decide +kernel)).mono (by omega)
    obtain ⟨σ2, j1, j2, j3⟩ := tick_out (tk9 := m) (by omega) hh m.toNat 0 0 σ _ (by omega) (by omega) hM1 (by omega)
    rw [Int.zero_add] at j1
    refine ⟨_, σ2, 0, _, _, ⟨by omega, by simp⟩, fun _ => hcl, fun q => absurd rfl q, (?_ : x_Sp MX12_tick 0 0 _ _ (iv (tkT T m.toNat σ)) _), by rw [j3 281 47 rfl, xu_same], fun _ => rfl, ?_⟩
    · skip
      refine e_entry okX12_tick (Nat.le_of_ble_eq_true rfl) (ls := [some _, some _, none, none, none, none]) rfl ?_
      refine e_aload_n 0 1 rfl rfl rfl rfl ?_
      refine e_iload_n 1 2 rfl rfl rfl rfl ?_
      refine e_iconst 2 3 rfl rfl ?_
      refine e_bipush 3 5 rfl rfl rfl ?_
      refine g_callS 4 8 (pm _) okX12_in csX12_175 ⟨(Nat.le_of_ble_eq_true rfl), (Nat.le_of_ble_eq_true rfl)⟩ rfl rfl rfl rfl (Nat.le_of_ble_eq_true rfl) (Nat.le_of_ble_eq_true rfl) (Nat.le_of_ble_eq_true rfl) ?_
      refine e_iconst 5 9 rfl rfl ?_
      refine e_iconst 6 10 rfl rfl ?_
      refine g_callV 7 13 (sp_mGoesT) okX12_goes cvX12_167 ⟨(Nat.le_of_ble_eq_true rfl), (Nat.le_of_ble_eq_true rfl)⟩ rfl rfl (Nat.le_of_ble_eq_true rfl) rfl rfl rfl rfl rfl (Nat.le_of_ble_eq_true rfl) (Nat.le_of_ble_eq_true rfl) (Nat.le_of_ble_eq_true rfl) ?_
      refine e_ifb_ne 8 18 16 rfl rfl rfl (fun hb => ?_) (fun hb => ?_)
      · skip
        refine e_iconst 11 19 rfl rfl ?_
        refine e_istore_n 12 20 (ls' := [some _, some _, some _, none, none, none]) rfl rfl rfl (Nat.le_of_ble_eq_true rfl) rfl ?_
        refine e_iconst 13 21 rfl rfl ?_
        refine e_istore_n 14 22 (ls' := [some _, some _, some _, some _, none, none]) rfl rfl rfl (Nat.le_of_ble_eq_true rfl) rfl ?_
        exact j1
      · skip
        cases hb
    · refine INV.fin (hA.fp fs (by decide +kernel)) j2 (fun b hb => ?_)
      rw [j3.cell b (by simp only [List.all_cons, List.all_nil, Bool.and_true, bne_iff_ne, Bool.and_eq_true]; omega), xu_other _ _ _ (by omega)]
  · rw [decF hh] at pm
    refine STEP.refuse h 1 (by simp) (sp_tickX hm hh) (σ2 := xu σ 281 47 1) (y := 0) ?_ (xu_same _ _ _ _) F47s
    refine e_entry okX12_tick (Nat.le_of_ble_eq_true rfl) (ls := [some _, some _, none, none, none, none]) rfl ?_
    refine e_aload_n 0 1 rfl rfl rfl rfl ?_
    refine e_iload_n 1 2 rfl rfl rfl rfl ?_
    refine e_iconst 2 3 rfl rfl ?_
    refine e_bipush 3 5 rfl rfl rfl ?_
    refine g_callS 4 8 (pm σ) okX12_in csX12_175 ⟨(Nat.le_of_ble_eq_true rfl), (Nat.le_of_ble_eq_true rfl)⟩ rfl rfl rfl rfl (Nat.le_of_ble_eq_true rfl) (Nat.le_of_ble_eq_true rfl) (Nat.le_of_ble_eq_true rfl) ?_
    refine e_iconst 5 9 rfl rfl ?_
    refine e_iconst 6 10 rfl rfl ?_
    refine g_callV 7 13 (sp_mGoes (a := false) (b := true) (c := true)) okX12_goes cvX12_167 ⟨(Nat.le_of_ble_eq_true rfl), (Nat.le_of_ble_eq_true rfl)⟩ rfl rfl (Nat.le_of_ble_eq_true rfl) rfl rfl rfl rfl rfl (Nat.le_of_ble_eq_true rfl) (Nat.le_of_ble_eq_true rfl) (Nat.le_of_ble_eq_true rfl) ?_
    refine e_ifb_ne 8 18 16 rfl rfl rfl (fun hb => ?_) (fun hb => ?_)
    · skip
      cases hb
    · skip
      refine e_iconst 9 17 rfl rfl ?_
      exact e_ireturn 10 rfl rfl (Nat.le_of_ble_eq_true rfl) (Nat.le_of_ble_eq_true rfl)
