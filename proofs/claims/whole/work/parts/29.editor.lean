theorem nd_cv2 {h : Int} (ht : trn h = 1) {c : Fo} {b : Bool} (hc : okf b false 0 c) (r : List Int) : vsc (h :: (tk c ++ 0 :: r)) 0 = (tk c).length + 2 := by
  have := vsc_cv (nd_Cv ht hc) r
  rw [show h :: (tk c ++ [0]) ++ r = h :: (tk c ++ 0 :: r) by simp] at this
  rw [this]
  simp
theorem lf_v2 {x : Int} (hx : lfx x) (r : List Int) : vsc (x :: r) 0 = 1 := by
  simp only [vsc]
  rw [(lfx_b hx).2.2, if_pos (by decide)]
theorem e_addToEach : ∀ F : Fo, ∀ (lo : Int), okf false false lo F → ∀ (p s : List Int) (R z : Int) (i : Nat) (σ : xSig), -10000 ≤ z ∧ z ≤ 10000 → i + nel F ≤ 24 → VH σ 244 152 (p ++ (tk F ++ 0 :: s)) → ∃ σ' : xSig, x_E MX1_addToEach 0 0 7 [some (.ref 243), some (.int (ii R)), some (.int (ii z)), some (.int (ii p.length)), some (.int (ii i))] [] (St σ) 0 0 (zv (ade z F).isSome) (St σ') ∧ (∀ m, ade z F = some m → VH σ' 244 152 (p ++ (tk m ++ 0 :: s))) ∧ (∃ t, VH σ' 244 152 t) ∧ Fr 244 σ σ' := by
  intro F
  induction F with
  | num z0 =>
    intro lo h p s R z i σ hz hi hV
    have hcap := hV.2.2.1
    simp only [List.length_append, List.length_cons] at hcap
    simp only [nel] at hi
    have hs := sp_signAt hV (i := p.length) (by unfold xr; omega)
    rw [show tok (p ++ (tk (.num z0) ++ 0 :: s)) p.length = 0 from tok_hd p 0 s] at hs
    refine ⟨σ, ?_, fun m e => ?_, ⟨_, hV⟩, Fr.rf⟩
    · rw [show (ade z (.num z0)).isSome = true from rfl]
      by_cases h24 : i < 24
      · skip
        refine e_iload 6 9 rfl rfl rfl ?_
        refine e_bipush 7 11 rfl rfl rfl ?_
        refine e_icmp_ge 8 63 14 rfl rfl rfl (by unfold xr at *; omega) (by unfold xr at *; omega) (fun h9 => absurd h9 (by omega)) (fun _ => ?_)
        refine e_aload_n 9 15 rfl rfl rfl rfl ?_
        refine g_getR 10 18 ckX1 flX1_14 rfl rfl (Nat.le_of_ble_eq_true rfl) rfl rfl ?_
        refine e_iload_n 11 19 rfl rfl rfl rfl ?_
        refine g_callV 12 22 (hs) okX10_signAt cvX1_82 ⟨(Nat.le_of_ble_eq_true rfl), (Nat.le_of_ble_eq_true rfl)⟩ rfl rfl (Nat.le_of_ble_eq_true rfl) rfl rfl rfl rfl rfl (Nat.le_of_ble_eq_true rfl) (Nat.le_of_ble_eq_true rfl) (Nat.le_of_ble_eq_true rfl) ?_
        refine e_if_eq 13 63 25 rfl rfl rfl (by unfold xr at *; omega) (fun _ => ?_) (fun h9 => absurd h9 (fun q => q rfl))
        refine e_iconst 34 64 rfl rfl ?_
        exact e_zreturn (x := 1) 35 rfl rfl (by omega) (Nat.le_of_ble_eq_true rfl) (Nat.le_of_ble_eq_true rfl)
      · skip
        refine e_iload 6 9 rfl rfl rfl ?_
        refine e_bipush 7 11 rfl rfl rfl ?_
        refine e_icmp_ge 8 63 14 rfl rfl rfl (by unfold xr at *; omega) (by unfold xr at *; omega) (fun _ => ?_) (fun h9 => absurd h9 (by omega))
        refine e_iconst 34 64 rfl rfl ?_
        exact e_zreturn (x := 1) 35 rfl rfl (by omega) (Nat.le_of_ble_eq_true rfl) (Nat.le_of_ble_eq_true rfl)
    · simp only [ade, Option.some.injEq] at e
      rw [← e]
      exact hV
  | var z0 =>
    intro lo h
    exact h.elim
  | neg z0 ih =>
    intro lo h
    exact h.elim
  | mulL k F ih =>
    intro lo h
    exact absurd h.1 (by decide)
  | mulR n x ih =>
    intro lo h p s R z i σ hz hi hV
    have h1 := lfx_b h.2.1
    have hnn := pa_nn n
    simp only [nel] at hi
    have hV' : VH σ 244 152 (p ++ x :: (tk n ++ 0 :: s)) := hV
    have hcap := hV'.2.2.1
    simp only [List.length_append, List.length_cons] at hcap
    have hxr : xr (p.length : Int) := by unfold xr; omega
    have hs := sp_signAt hV' hxr
    rw [tok_hd] at hs
    have hk := sp_kindAt hV' hxr
    rw [tok_hd] at hk
    have hkb := knd_bnd x
    by_cases hx1 : knd x = 1
    · have hadd := sp_addAt hV' hz
      have eA : ade z (.mulR n x) = if inr9 (x - 2000 + z) = true then (ade z n).map (fun m => .mulR m (2000 + (x - 2000 + z))) else none := by simp only [ade]; rw [if_pos hx1]
      rw [eA]
      cases hr : inr9 (x - 2000 + z) with
      | false =>
        rw [hr, if_neg (by decide)] at hadd
        rw [if_neg (by decide)]
        refine ⟨σ, ?_, fun m e => (by cases e), ⟨_, hV⟩, Fr.rf⟩
        refine e_iload 6 9 rfl rfl rfl ?_
        refine e_bipush 7 11 rfl rfl rfl ?_
        refine e_icmp_ge 8 63 14 rfl rfl rfl (by unfold xr at *; omega) (by unfold xr at *; omega) (fun h9 => absurd h9 (by omega)) (fun _ => ?_)
        refine e_aload_n 9 15 rfl rfl rfl rfl ?_
        refine g_getR 10 18 ckX1 flX1_14 rfl rfl (Nat.le_of_ble_eq_true rfl) rfl rfl ?_
        refine e_iload_n 11 19 rfl rfl rfl rfl ?_
        refine g_callV 12 22 (hs) okX10_signAt cvX1_82 ⟨(Nat.le_of_ble_eq_true rfl), (Nat.le_of_ble_eq_true rfl)⟩ rfl rfl (Nat.le_of_ble_eq_true rfl) rfl rfl rfl rfl rfl (Nat.le_of_ble_eq_true rfl) (Nat.le_of_ble_eq_true rfl) (Nat.le_of_ble_eq_true rfl) ?_
        refine e_if_eq 13 63 25 rfl rfl rfl (by unfold xr at *; omega) (fun h9 => absurd h9 (by omega)) (fun _ => ?_)
        refine e_aload_n 14 26 rfl rfl rfl rfl ?_
        refine g_getR 15 29 ckX1 flX1_14 rfl rfl (Nat.le_of_ble_eq_true rfl) rfl rfl ?_
        refine e_iload_n 16 30 rfl rfl rfl rfl ?_
        refine g_callV 17 33 (hk) okX10_kindAt cvX1_27 ⟨(Nat.le_of_ble_eq_true rfl), (Nat.le_of_ble_eq_true rfl)⟩ rfl rfl (Nat.le_of_ble_eq_true rfl) rfl rfl rfl rfl rfl (Nat.le_of_ble_eq_true rfl) (Nat.le_of_ble_eq_true rfl) (Nat.le_of_ble_eq_true rfl) ?_
        refine e_iconst 18 34 rfl rfl ?_
        refine e_icmp_ne 19 48 37 rfl rfl rfl (by unfold xr at *; omega) (by unfold xr at *; omega) (fun h9 => absurd h9 (fun q => q hx1)) (fun _ => ?_)
        refine e_aload_n 20 38 rfl rfl rfl rfl ?_
        refine e_iload_n 21 39 rfl rfl rfl rfl ?_
        refine e_iload_n 22 40 rfl rfl rfl rfl ?_
        refine g_callV 23 43 (hadd) okX1_addAt cvX1_68 ⟨(Nat.le_of_ble_eq_true rfl), (Nat.le_of_ble_eq_true rfl)⟩ rfl rfl (Nat.le_of_ble_eq_true rfl) rfl rfl rfl rfl rfl (Nat.le_of_ble_eq_true rfl) (Nat.le_of_ble_eq_true rfl) (Nat.le_of_ble_eq_true rfl) ?_
        refine e_ifb_ne 24 48 46 rfl rfl rfl (fun h9 => ?_) (fun h9 => ?_)
        · skip
          cases h9
        · skip
          refine e_iconst 25 47 rfl rfl ?_
          exact e_zreturn (x := 0) 26 rfl rfl (by omega) (Nat.le_of_ble_eq_true rfl) (Nat.le_of_ble_eq_true rfl)
      | true =>
        rw [hr, if_pos rfl] at hadd
        rw [if_pos rfl]
        have q3 : -999 ≤ x - 2000 + z ∧ x - 2000 + z ≤ 999 := of_decide_eq_true hr
        have hV1 := hV'.set (2000 + (x - 2000 + z)) (by omega)
        have he := sp_endOf hV1 p _ rfl
        rw [lf_v2 (by unfold lfx; omega)] at he
        obtain ⟨σ', m1, m2, m3, m4⟩ := ih _ h.2.2 (p ++ [2000 + (x - 2000 + z)]) s R z (i + 1) _ hz (by omega) (by rw [← app_s]; exact hV1)
        rw [len_s, show (((i + 1 : Nat)) : Int) = (i : Int) + 1 by omega] at m1
        refine ⟨σ', ?_, fun m e => ?_, m3, Fr.xu1.tr m4⟩
        · rw [Option.isSome_map]
          refine e_iload 6 9 rfl rfl rfl ?_
          refine e_bipush 7 11 rfl rfl rfl ?_
          refine e_icmp_ge 8 63 14 rfl rfl rfl (by unfold xr at *; omega) (by unfold xr at *; omega) (fun h9 => absurd h9 (by omega)) (fun _ => ?_)
          refine e_aload_n 9 15 rfl rfl rfl rfl ?_
          refine g_getR 10 18 ckX1 flX1_14 rfl rfl (Nat.le_of_ble_eq_true rfl) rfl rfl ?_
          refine e_iload_n 11 19 rfl rfl rfl rfl ?_
          refine g_callV 12 22 (hs) okX10_signAt cvX1_82 ⟨(Nat.le_of_ble_eq_true rfl), (Nat.le_of_ble_eq_true rfl)⟩ rfl rfl (Nat.le_of_ble_eq_true rfl) rfl rfl rfl rfl rfl (Nat.le_of_ble_eq_true rfl) (Nat.le_of_ble_eq_true rfl) (Nat.le_of_ble_eq_true rfl) ?_
          refine e_if_eq 13 63 25 rfl rfl rfl (by unfold xr at *; omega) (fun h9 => absurd h9 (by omega)) (fun _ => ?_)
          refine e_aload_n 14 26 rfl rfl rfl rfl ?_
          refine g_getR 15 29 ckX1 flX1_14 rfl rfl (Nat.le_of_ble_eq_true rfl) rfl rfl ?_
          refine e_iload_n 16 30 rfl rfl rfl rfl ?_
          refine g_callV 17 33 (hk) okX10_kindAt cvX1_27 ⟨(Nat.le_of_ble_eq_true rfl), (Nat.le_of_ble_eq_true rfl)⟩ rfl rfl (Nat.le_of_ble_eq_true rfl) rfl rfl rfl rfl rfl (Nat.le_of_ble_eq_true rfl) (Nat.le_of_ble_eq_true rfl) (Nat.le_of_ble_eq_true rfl) ?_
          refine e_iconst 18 34 rfl rfl ?_
          refine e_icmp_ne 19 48 37 rfl rfl rfl (by unfold xr at *; omega) (by unfold xr at *; omega) (fun h9 => absurd h9 (fun q => q hx1)) (fun _ => ?_)
          refine e_aload_n 20 38 rfl rfl rfl rfl ?_
          refine e_iload_n 21 39 rfl rfl rfl rfl ?_
          refine e_iload_n 22 40 rfl rfl rfl rfl ?_
          refine g_callV 23 43 (hadd) okX1_addAt cvX1_68 ⟨(Nat.le_of_ble_eq_true rfl), (Nat.le_of_ble_eq_true rfl)⟩ rfl rfl (Nat.le_of_ble_eq_true rfl) rfl rfl rfl rfl rfl (Nat.le_of_ble_eq_true rfl) (Nat.le_of_ble_eq_true rfl) (Nat.le_of_ble_eq_true rfl) ?_
          refine e_ifb_ne 24 48 46 rfl rfl rfl (fun h9 => ?_) (fun h9 => ?_)
          · skip
            refine e_aload_n 27 49 rfl rfl rfl rfl ?_
            refine g_getR 28 52 ckX1 flX1_14 rfl rfl (Nat.le_of_ble_eq_true rfl) rfl rfl ?_
            refine e_iload_n 29 53 rfl rfl rfl rfl ?_
            refine g_callV 30 56 (he) okX10_endOf cvX1_85 ⟨(Nat.le_of_ble_eq_true rfl), (Nat.le_of_ble_eq_true rfl)⟩ rfl rfl (Nat.le_of_ble_eq_true rfl) rfl rfl rfl rfl rfl (Nat.le_of_ble_eq_true rfl) (Nat.le_of_ble_eq_true rfl) (Nat.le_of_ble_eq_true rfl) ?_
            refine e_istore_n 31 57 (ls' := [some _, some _, some _, some _, some _]) rfl rfl rfl (Nat.le_of_ble_eq_true rfl) rfl ?_
            refine e_iinc 32 60 (ls' := [some _, some _, some _, some _, some _]) rfl rfl (Nat.le_of_ble_eq_true rfl) rfl rfl ?_
            refine e_goto 33 7 rfl rfl ?_
            exact m1
          · skip
            cases h9
        · obtain ⟨m', hm, rfl⟩ := Option.map_eq_some_iff.mp e
          have := m2 m' hm
          rw [← app_s] at this
          exact this
    · have eA : ade z (.mulR n x) = (ade z n).map (fun m => .mulR m x) := by simp only [ade]; rw [if_neg hx1]
      rw [eA]
      have he := sp_endOf hV' p _ rfl
      rw [lf_v2 h.2.1] at he
      obtain ⟨σ', m1, m2, m3, m4⟩ := ih _ h.2.2 (p ++ [x]) s R z (i + 1) σ hz (by omega) (by rw [← app_s]; exact hV')
      rw [len_s, show (((i + 1 : Nat)) : Int) = (i : Int) + 1 by omega] at m1
      refine ⟨σ', ?_, fun m e => ?_, m3, m4⟩
      · rw [Option.isSome_map]
        refine e_iload 6 9 rfl rfl rfl ?_
        refine e_bipush 7 11 rfl rfl rfl ?_
        refine e_icmp_ge 8 63 14 rfl rfl rfl (by unfold xr at *; omega) (by unfold xr at *; omega) (fun h9 => absurd h9 (by omega)) (fun _ => ?_)
        refine e_aload_n 9 15 rfl rfl rfl rfl ?_
        refine g_getR 10 18 ckX1 flX1_14 rfl rfl (Nat.le_of_ble_eq_true rfl) rfl rfl ?_
        refine e_iload_n 11 19 rfl rfl rfl rfl ?_
        refine g_callV 12 22 (hs) okX10_signAt cvX1_82 ⟨(Nat.le_of_ble_eq_true rfl), (Nat.le_of_ble_eq_true rfl)⟩ rfl rfl (Nat.le_of_ble_eq_true rfl) rfl rfl rfl rfl rfl (Nat.le_of_ble_eq_true rfl) (Nat.le_of_ble_eq_true rfl) (Nat.le_of_ble_eq_true rfl) ?_
        refine e_if_eq 13 63 25 rfl rfl rfl (by unfold xr at *; omega) (fun h9 => absurd h9 (by omega)) (fun _ => ?_)
        refine e_aload_n 14 26 rfl rfl rfl rfl ?_
        refine g_getR 15 29 ckX1 flX1_14 rfl rfl (Nat.le_of_ble_eq_true rfl) rfl rfl ?_
        refine e_iload_n 16 30 rfl rfl rfl rfl ?_
        refine g_callV 17 33 (hk) okX10_kindAt cvX1_27 ⟨(Nat.le_of_ble_eq_true rfl), (Nat.le_of_ble_eq_true rfl)⟩ rfl rfl (Nat.le_of_ble_eq_true rfl) rfl rfl rfl rfl rfl (Nat.le_of_ble_eq_true rfl) (Nat.le_of_ble_eq_true rfl) (Nat.le_of_ble_eq_true rfl) ?_
        refine e_iconst 18 34 rfl rfl ?_
        refine e_icmp_ne 19 48 37 rfl rfl rfl (by unfold xr at *; omega) (by unfold xr at *; omega) (fun _ => ?_) (fun h9 => absurd h9 (fun q => hx1 q))
        refine e_aload_n 27 49 rfl rfl rfl rfl ?_
        refine g_getR 28 52 ckX1 flX1_14 rfl rfl (Nat.le_of_ble_eq_true rfl) rfl rfl ?_
        refine e_iload_n 29 53 rfl rfl rfl rfl ?_
        refine g_callV 30 56 (he) okX10_endOf cvX1_85 ⟨(Nat.le_of_ble_eq_true rfl), (Nat.le_of_ble_eq_true rfl)⟩ rfl rfl (Nat.le_of_ble_eq_true rfl) rfl rfl rfl rfl rfl (Nat.le_of_ble_eq_true rfl) (Nat.le_of_ble_eq_true rfl) (Nat.le_of_ble_eq_true rfl) ?_
        refine e_istore_n 31 57 (ls' := [some _, some _, some _, some _, some _]) rfl rfl rfl (Nat.le_of_ble_eq_true rfl) rfl ?_
        refine e_iinc 32 60 (ls' := [some _, some _, some _, some _, some _]) rfl rfl (Nat.le_of_ble_eq_true rfl) rfl rfl ?_
        refine e_goto 33 7 rfl rfl ?_
        exact m1
      · obtain ⟨m', hm, rfl⟩ := Option.map_eq_some_iff.mp e
        have := m2 m' hm
        rw [← app_s] at this
        exact this
  | add c n ihc ihn =>
    intro lo h p s R z i σ hz hi hV
    have hnn := pa_nn n
    simp only [nel] at hi
    have hV' : VH σ 244 152 (p ++ 5000 :: (tk c ++ 0 :: (tk n ++ 0 :: s))) := by
      rw [show 5000 :: (tk c ++ 0 :: (tk n ++ 0 :: s)) = tk (.add c n) ++ 0 :: s by simp [tk]]
      exact hV
    have hcap := hV'.2.2.1
    simp only [List.length_append, List.length_cons] at hcap
    have hxr : xr (p.length : Int) := by unfold xr; omega
    have hs := sp_signAt hV' hxr
    rw [tok_hd] at hs
    have hk := sp_kindAt hV' hxr
    rw [tok_hd] at hk
    have hkb := knd_bnd 5000
    have eA : ade z (.add c n) = (ade z n).map (fun m => .add c m) := by simp only [ade]
    rw [eA]
    have he := sp_endOf hV' p _ rfl
    rw [nd_cv2 trn_5 h.2.1] at he
    obtain ⟨σ', m1, m2, m3, m4⟩ := ihn _ h.2.2 (p ++ 5000 :: (tk c ++ [0])) s R z (i + 1) σ hz (by omega) (by rw [show p ++ 5000 :: (tk c ++ [0]) ++ (tk n ++ 0 :: s) = p ++ 5000 :: (tk c ++ 0 :: (tk n ++ 0 :: s)) by simp]; exact hV')
    rw [len_n, show (((i + 1 : Nat)) : Int) = (i : Int) + 1 by omega] at m1
    rw [show ((p.length : Int) + (((tk c).length + 2 : Nat) : Int)) = p.length + (tk c).length + 2 by omega] at he
    refine ⟨σ', ?_, fun m e => ?_, m3, m4⟩
    · rw [Option.isSome_map]
      refine e_iload 6 9 rfl rfl rfl ?_
      refine e_bipush 7 11 rfl rfl rfl ?_
      refine e_icmp_ge 8 63 14 rfl rfl rfl (by unfold xr at *; omega) (by unfold xr at *; omega) (fun h9 => absurd h9 (by omega)) (fun _ => ?_)
      refine e_aload_n 9 15 rfl rfl rfl rfl ?_
      refine g_getR 10 18 ckX1 flX1_14 rfl rfl (Nat.le_of_ble_eq_true rfl) rfl rfl ?_
      refine e_iload_n 11 19 rfl rfl rfl rfl ?_
      refine g_callV 12 22 (hs) okX10_signAt cvX1_82 ⟨(Nat.le_of_ble_eq_true rfl), (Nat.le_of_ble_eq_true rfl)⟩ rfl rfl (Nat.le_of_ble_eq_true rfl) rfl rfl rfl rfl rfl (Nat.le_of_ble_eq_true rfl) (Nat.le_of_ble_eq_true rfl) (Nat.le_of_ble_eq_true rfl) ?_
      refine e_if_eq 13 63 25 rfl rfl rfl (by unfold xr at *; omega) (fun h9 => absurd h9 (by decide)) (fun _ => ?_)
      refine e_aload_n 14 26 rfl rfl rfl rfl ?_
      refine g_getR 15 29 ckX1 flX1_14 rfl rfl (Nat.le_of_ble_eq_true rfl) rfl rfl ?_
      refine e_iload_n 16 30 rfl rfl rfl rfl ?_
      refine g_callV 17 33 (hk) okX10_kindAt cvX1_27 ⟨(Nat.le_of_ble_eq_true rfl), (Nat.le_of_ble_eq_true rfl)⟩ rfl rfl (Nat.le_of_ble_eq_true rfl) rfl rfl rfl rfl rfl (Nat.le_of_ble_eq_true rfl) (Nat.le_of_ble_eq_true rfl) (Nat.le_of_ble_eq_true rfl) ?_
      refine e_iconst 18 34 rfl rfl ?_
      refine e_icmp_ne 19 48 37 rfl rfl rfl (by unfold xr at *; omega) (by unfold xr at *; omega) (fun _ => ?_) (fun h9 => absurd h9 (by decide))
      refine e_aload_n 27 49 rfl rfl rfl rfl ?_
      refine g_getR 28 52 ckX1 flX1_14 rfl rfl (Nat.le_of_ble_eq_true rfl) rfl rfl ?_
      refine e_iload_n 29 53 rfl rfl rfl rfl ?_
      refine g_callV 30 56 (he) okX10_endOf cvX1_85 ⟨(Nat.le_of_ble_eq_true rfl), (Nat.le_of_ble_eq_true rfl)⟩ rfl rfl (Nat.le_of_ble_eq_true rfl) rfl rfl rfl rfl rfl (Nat.le_of_ble_eq_true rfl) (Nat.le_of_ble_eq_true rfl) (Nat.le_of_ble_eq_true rfl) ?_
      refine e_istore_n 31 57 (ls' := [some _, some _, some _, some _, some _]) rfl rfl rfl (Nat.le_of_ble_eq_true rfl) rfl ?_
      refine e_iinc 32 60 (ls' := [some _, some _, some _, some _, some _]) rfl rfl (Nat.le_of_ble_eq_true rfl) rfl rfl ?_
      refine e_goto 33 7 rfl rfl ?_
      exact m1
    · obtain ⟨m', hm, rfl⟩ := Option.map_eq_some_iff.mp e
      have := m2 m' hm
      rw [show p ++ 5000 :: (tk c ++ [0]) ++ (tk m' ++ 0 :: s) = p ++ (tk (.add c m') ++ 0 :: s) by simp [tk]] at this
      exact this
  | sub c n ihc ihn =>
    intro lo h p s R z i σ hz hi hV
    have hnn := pa_nn n
    simp only [nel] at hi
    have hV' : VH σ 244 152 (p ++ 4000 :: (tk c ++ 0 :: (tk n ++ 0 :: s))) := by
      rw [show 4000 :: (tk c ++ 0 :: (tk n ++ 0 :: s)) = tk (.sub c n) ++ 0 :: s by simp [tk]]
      exact hV
    have hcap := hV'.2.2.1
    simp only [List.length_append, List.length_cons] at hcap
    have hxr : xr (p.length : Int) := by unfold xr; omega
    have hs := sp_signAt hV' hxr
    rw [tok_hd] at hs
    have hk := sp_kindAt hV' hxr
    rw [tok_hd] at hk
    have hkb := knd_bnd 4000
    have eA : ade z (.sub c n) = (ade z n).map (fun m => .sub c m) := by simp only [ade]
    rw [eA]
    have he := sp_endOf hV' p _ rfl
    rw [nd_cv2 trn_4 h.2.1] at he
    obtain ⟨σ', m1, m2, m3, m4⟩ := ihn _ h.2.2 (p ++ 4000 :: (tk c ++ [0])) s R z (i + 1) σ hz (by omega) (by rw [show p ++ 4000 :: (tk c ++ [0]) ++ (tk n ++ 0 :: s) = p ++ 4000 :: (tk c ++ 0 :: (tk n ++ 0 :: s)) by simp]; exact hV')
    rw [len_n, show (((i + 1 : Nat)) : Int) = (i : Int) + 1 by omega] at m1
    rw [show ((p.length : Int) + (((tk c).length + 2 : Nat) : Int)) = p.length + (tk c).length + 2 by omega] at he
    refine ⟨σ', ?_, fun m e => ?_, m3, m4⟩
    · rw [Option.isSome_map]
      refine e_iload 6 9 rfl rfl rfl ?_
      refine e_bipush 7 11 rfl rfl rfl ?_
      refine e_icmp_ge 8 63 14 rfl rfl rfl (by unfold xr at *; omega) (by unfold xr at *; omega) (fun h9 => absurd h9 (by omega)) (fun _ => ?_)
      refine e_aload_n 9 15 rfl rfl rfl rfl ?_
      refine g_getR 10 18 ckX1 flX1_14 rfl rfl (Nat.le_of_ble_eq_true rfl) rfl rfl ?_
      refine e_iload_n 11 19 rfl rfl rfl rfl ?_
      refine g_callV 12 22 (hs) okX10_signAt cvX1_82 ⟨(Nat.le_of_ble_eq_true rfl), (Nat.le_of_ble_eq_true rfl)⟩ rfl rfl (Nat.le_of_ble_eq_true rfl) rfl rfl rfl rfl rfl (Nat.le_of_ble_eq_true rfl) (Nat.le_of_ble_eq_true rfl) (Nat.le_of_ble_eq_true rfl) ?_
      refine e_if_eq 13 63 25 rfl rfl rfl (by unfold xr at *; omega) (fun h9 => absurd h9 (by decide)) (fun _ => ?_)
      refine e_aload_n 14 26 rfl rfl rfl rfl ?_
      refine g_getR 15 29 ckX1 flX1_14 rfl rfl (Nat.le_of_ble_eq_true rfl) rfl rfl ?_
      refine e_iload_n 16 30 rfl rfl rfl rfl ?_
      refine g_callV 17 33 (hk) okX10_kindAt cvX1_27 ⟨(Nat.le_of_ble_eq_true rfl), (Nat.le_of_ble_eq_true rfl)⟩ rfl rfl (Nat.le_of_ble_eq_true rfl) rfl rfl rfl rfl rfl (Nat.le_of_ble_eq_true rfl) (Nat.le_of_ble_eq_true rfl) (Nat.le_of_ble_eq_true rfl) ?_
      refine e_iconst 18 34 rfl rfl ?_
      refine e_icmp_ne 19 48 37 rfl rfl rfl (by unfold xr at *; omega) (by unfold xr at *; omega) (fun _ => ?_) (fun h9 => absurd h9 (by decide))
      refine e_aload_n 27 49 rfl rfl rfl rfl ?_
      refine g_getR 28 52 ckX1 flX1_14 rfl rfl (Nat.le_of_ble_eq_true rfl) rfl rfl ?_
      refine e_iload_n 29 53 rfl rfl rfl rfl ?_
      refine g_callV 30 56 (he) okX10_endOf cvX1_85 ⟨(Nat.le_of_ble_eq_true rfl), (Nat.le_of_ble_eq_true rfl)⟩ rfl rfl (Nat.le_of_ble_eq_true rfl) rfl rfl rfl rfl rfl (Nat.le_of_ble_eq_true rfl) (Nat.le_of_ble_eq_true rfl) (Nat.le_of_ble_eq_true rfl) ?_
      refine e_istore_n 31 57 (ls' := [some _, some _, some _, some _, some _]) rfl rfl rfl (Nat.le_of_ble_eq_true rfl) rfl ?_
      refine e_iinc 32 60 (ls' := [some _, some _, some _, some _, some _]) rfl rfl (Nat.le_of_ble_eq_true rfl) rfl rfl ?_
      refine e_goto 33 7 rfl rfl ?_
      exact m1
    · obtain ⟨m', hm, rfl⟩ := Option.map_eq_some_iff.mp e
      have := m2 m' hm
      rw [show p ++ 4000 :: (tk c ++ [0]) ++ (tk m' ++ 0 :: s) = p ++ (tk (.sub c m') ++ 0 :: s) by simp [tk]] at this
      exact this
theorem sp_addToEach {σ : xSig} {c : Fo} {p s : List Int} {z : Int} (hc : okf false false 0 c) (hn : nel c ≤ 24) (hp : 0 < p.length) (hz : -10000 ≤ z ∧ z ≤ 10000) (hV : VH σ 244 152 (p ++ (tk c ++ 0 :: s))) :
    ∃ σ' : xSig, x_Sp MX1_addToEach 0 0 [.ref 243, .int (ii (p.length - 1)), .int (ii z)] (St σ) (zv (ade z c).isSome) (St σ') ∧ (∀ m, ade z c = some m → VH σ' 244 152 (p ++ (tk m ++ 0 :: s))) ∧ (∃ t, VH σ' 244 152 t) ∧ Fr 244 σ σ' := by
  obtain ⟨σ', m1, m2⟩ := e_addToEach c 0 hc p s (p.length - 1) z 0 σ hz (by omega) hV
  refine ⟨σ', ?_, m2⟩
  refine e_entry okX1_addToEach (Nat.le_of_ble_eq_true rfl) (ls := [some _, some _, some _, none, none]) rfl ?_
  refine e_iload_n 0 1 rfl rfl rfl rfl ?_
  refine e_iconst 1 2 rfl rfl ?_
  refine e_iadd 2 3 rfl rfl ?_
  refine e_istore_n 3 4 (ls' := [some _, some _, some _, some _, none]) rfl rfl rfl (Nat.le_of_ble_eq_true rfl) rfl ?_
  refine e_iconst 4 5 rfl rfl ?_
  refine e_istore 5 7 (ls' := [some _, some _, some _, some _, some _]) rfl rfl (Nat.le_of_ble_eq_true rfl) rfl ?_
  rw [show (p.length : Int) - 1 + 1 = p.length by omega]
  exact m1
theorem e_pullFrom : ∀ F : Fo, ∀ (lo : Int), okf false false lo F → ∀ (p s w : List Int) (R : Int) (i b cap : Nat) (σ : xSig), i + nel F ≤ 24 → Cv w → vO b = true → b ≠ 244 → VH σ b cap w → VH σ 244 152 (p ++ (tk F ++ 0 :: s)) → ∃ σ' : xSig, x_E MX1_pullFrom 0 0 7 [some (.ref 243), some (.int (ii R)), some (.ref b), some (.int (ii p.length)), some (.int (ii i)), none] [] (St σ) 0 0 (zv true) (St σ') ∧ VH σ' 244 152 (p ++ (tk (pul w F) ++ 0 :: s)) ∧ Fr 244 σ σ' := by
  intro F
  induction F with
  | num z0 =>
    intro lo h p s w R i b cap σ hi hw hb hb2 hW hV
    have hcap := hV.2.2.1
    simp only [List.length_append, List.length_cons] at hcap
    simp only [nel] at hi
    have hs := sp_signAt hV (i := p.length) (by unfold xr; omega)
    rw [show tok (p ++ (tk (.num z0) ++ 0 :: s)) p.length = 0 from tok_hd p 0 s] at hs
    refine ⟨σ, ?_, hV, Fr.rf⟩
    by_cases h24 : i < 24
    · skip
      refine e_iload 6 9 rfl rfl rfl ?_
      refine e_bipush 7 11 rfl rfl rfl ?_
      refine e_icmp_ge 8 70 14 rfl rfl rfl (by unfold xr at *; omega) (by unfold xr at *; omega) (fun h9 => absurd h9 (by omega)) (fun _ => ?_)
      refine e_aload_n 9 15 rfl rfl rfl rfl ?_
      refine g_getR 10 18 ckX1 flX1_14 rfl rfl (Nat.le_of_ble_eq_true rfl) rfl rfl ?_
      refine e_iload_n 11 19 rfl rfl rfl rfl ?_
      refine g_callV 12 22 (hs) okX10_signAt cvX1_82 ⟨(Nat.le_of_ble_eq_true rfl), (Nat.le_of_ble_eq_true rfl)⟩ rfl rfl (Nat.le_of_ble_eq_true rfl) rfl rfl rfl rfl rfl (Nat.le_of_ble_eq_true rfl) (Nat.le_of_ble_eq_true rfl) (Nat.le_of_ble_eq_true rfl) ?_
      refine e_if_eq 13 70 25 rfl rfl rfl (by unfold xr at *; omega) (fun _ => ?_) (fun h9 => absurd h9 (fun q => q rfl))
      refine e_iconst 36 71 rfl rfl ?_
      exact e_zreturn (x := 1) 37 rfl rfl (by omega) (Nat.le_of_ble_eq_true rfl) (Nat.le_of_ble_eq_true rfl)
    · skip
      refine e_iload 6 9 rfl rfl rfl ?_
      refine e_bipush 7 11 rfl rfl rfl ?_
      refine e_icmp_ge 8 70 14 rfl rfl rfl (by unfold xr at *; omega) (by unfold xr at *; omega) (fun _ => ?_) (fun h9 => absurd h9 (by omega))
      refine e_iconst 36 71 rfl rfl ?_
      exact e_zreturn (x := 1) 37 rfl rfl (by omega) (Nat.le_of_ble_eq_true rfl) (Nat.le_of_ble_eq_true rfl)
  | var z0 =>
    intro lo h
    exact h.elim
  | neg z0 ih =>
    intro lo h
    exact h.elim
  | mulL k F ih =>
    intro lo h
    exact absurd h.1 (by decide)
  | mulR n x ih =>
    intro lo h p s w R i b cap σ hi hw hb hb2 hW hV
    have h1 := lfx_b h.2.1
    have hnn := pa_nn n
    simp only [nel] at hi
    have hV' : VH σ 244 152 (p ++ x :: (tk n ++ 0 :: s)) := hV
    have hcap := hV'.2.2.1
    simp only [List.length_append, List.length_cons] at hcap
    have hxr : xr (p.length : Int) := by unfold xr; omega
    have hs := sp_signAt hV' hxr
    rw [tok_hd] at hs
    have he := sp_endOf hV' p _ rfl
    rw [lf_v2 h.2.1] at he
    have ho := sp_order hV' hW p [x] (tk n ++ 0 :: s) [] w [] (by simp) (by simp) (ok1_Cv (Or.inl ⟨x, rfl, h.2.1⟩ : ok1 (.mulR (.num 0) x))) hw
    have hlx := lexc_in [x] w
    obtain ⟨e1, e2⟩ := vO_apart vO_244.1 hb hb2
    by_cases hq : lexc [x] w = 0
    · obtain ⟨σ1, k1, k2, k3⟩ := sp_takeOut (p := p) (m := [x]) (s := tk n ++ 0 :: s) (by simpa using hV')
      rw [show (([x] : List Int).length : Int) = 1 from rfl] at k1
      obtain ⟨σ', m1, m2, m3⟩ := ih _ h.2.2 p s w R (i + 1) b cap σ1 (by omega) hw hb hb2 (hW.fr k3 hb2 e1 e2) k2
      rw [show (((i + 1 : Nat)) : Int) = (i : Int) + 1 by omega] at m1
      rw [hq] at ho
      refine ⟨σ', ?_, by simp only [pul]; rw [if_pos hq]; exact m2, k3.tr m3⟩
      refine e_iload 6 9 rfl rfl rfl ?_
      refine e_bipush 7 11 rfl rfl rfl ?_
      refine e_icmp_ge 8 70 14 rfl rfl rfl (by unfold xr at *; omega) (by unfold xr at *; omega) (fun h9 => absurd h9 (by omega)) (fun _ => ?_)
      refine e_aload_n 9 15 rfl rfl rfl rfl ?_
      refine g_getR 10 18 ckX1 flX1_14 rfl rfl (Nat.le_of_ble_eq_true rfl) rfl rfl ?_
      refine e_iload_n 11 19 rfl rfl rfl rfl ?_
      refine g_callV 12 22 (hs) okX10_signAt cvX1_82 ⟨(Nat.le_of_ble_eq_true rfl), (Nat.le_of_ble_eq_true rfl)⟩ rfl rfl (Nat.le_of_ble_eq_true rfl) rfl rfl rfl rfl rfl (Nat.le_of_ble_eq_true rfl) (Nat.le_of_ble_eq_true rfl) (Nat.le_of_ble_eq_true rfl) ?_
      refine e_if_eq 13 70 25 rfl rfl rfl (by unfold xr at *; omega) (fun h9 => absurd h9 (by omega)) (fun _ => ?_)
      refine e_aload_n 14 26 rfl rfl rfl rfl ?_
      refine g_getR 15 29 ckX1 flX1_14 rfl rfl (Nat.le_of_ble_eq_true rfl) rfl rfl ?_
      refine e_iload_n 16 30 rfl rfl rfl rfl ?_
      refine g_callV 17 33 (he) okX10_endOf cvX1_85 ⟨(Nat.le_of_ble_eq_true rfl), (Nat.le_of_ble_eq_true rfl)⟩ rfl rfl (Nat.le_of_ble_eq_true rfl) rfl rfl rfl rfl rfl (Nat.le_of_ble_eq_true rfl) (Nat.le_of_ble_eq_true rfl) (Nat.le_of_ble_eq_true rfl) ?_
      refine e_istore 18 35 (ls' := [some _, some _, some _, some _, some _, some _]) rfl rfl (Nat.le_of_ble_eq_true rfl) rfl ?_
      refine e_aload_n 19 36 rfl rfl rfl rfl ?_
      refine g_getR 20 39 ckX1 flX1_14 rfl rfl (Nat.le_of_ble_eq_true rfl) rfl rfl ?_
      refine e_iload_n 21 40 rfl rfl rfl rfl ?_
      refine e_aload_n 22 41 rfl rfl rfl rfl ?_
      refine e_iconst 23 42 rfl rfl ?_
      refine g_callS 24 45 (ho) okX10_order csX1_88 ⟨(Nat.le_of_ble_eq_true rfl), (Nat.le_of_ble_eq_true rfl)⟩ rfl rfl rfl rfl (Nat.le_of_ble_eq_true rfl) (Nat.le_of_ble_eq_true rfl) (Nat.le_of_ble_eq_true rfl) ?_
      refine e_if_ne 25 61 48 rfl rfl rfl (by unfold xr at *; omega) (fun h9 => absurd h9 (fun q => q rfl)) (fun _ => ?_)
      refine e_aload_n 26 49 rfl rfl rfl rfl ?_
      refine g_getR 27 52 ckX1 flX1_14 rfl rfl (Nat.le_of_ble_eq_true rfl) rfl rfl ?_
      refine e_iload_n 28 53 rfl rfl rfl rfl ?_
      refine e_iload 29 55 rfl rfl rfl ?_
      refine g_callV 30 58 (k1) okX10_takeOut cvX1_92 ⟨(Nat.le_of_ble_eq_true rfl), (Nat.le_of_ble_eq_true rfl)⟩ rfl rfl (Nat.le_of_ble_eq_true rfl) rfl rfl rfl rfl rfl (Nat.le_of_ble_eq_true rfl) (Nat.le_of_ble_eq_true rfl) (Nat.le_of_ble_eq_true rfl) ?_
      refine e_goto 31 64 rfl rfl ?_
      refine e_iinc 34 67 (ls' := [some _, some _, some _, some _, some _, some _]) rfl rfl (Nat.le_of_ble_eq_true rfl) rfl rfl ?_
      refine e_goto 35 7 rfl rfl ?_
      refine e_dropm [true, true, true, true, true, false] (ls' := [some _, some _, some _, some _, some _, none]) rfl ?_
      exact m1
    · obtain ⟨σ', m1, m2, m3⟩ := ih _ h.2.2 (p ++ [x]) s w R (i + 1) b cap σ (by omega) hw hb hb2 hW (by rw [← app_s]; exact hV')
      rw [len_s, show (((i + 1 : Nat)) : Int) = (i : Int) + 1 by omega] at m1
      refine ⟨σ', ?_, by simp only [pul]; rw [if_neg hq]; rw [← app_s] at m2; exact m2, m3⟩
      refine e_iload 6 9 rfl rfl rfl ?_
      refine e_bipush 7 11 rfl rfl rfl ?_
      refine e_icmp_ge 8 70 14 rfl rfl rfl (by unfold xr at *; omega) (by unfold xr at *; omega) (fun h9 => absurd h9 (by omega)) (fun _ => ?_)
      refine e_aload_n 9 15 rfl rfl rfl rfl ?_
      refine g_getR 10 18 ckX1 flX1_14 rfl rfl (Nat.le_of_ble_eq_true rfl) rfl rfl ?_
      refine e_iload_n 11 19 rfl rfl rfl rfl ?_
      refine g_callV 12 22 (hs) okX10_signAt cvX1_82 ⟨(Nat.le_of_ble_eq_true rfl), (Nat.le_of_ble_eq_true rfl)⟩ rfl rfl (Nat.le_of_ble_eq_true rfl) rfl rfl rfl rfl rfl (Nat.le_of_ble_eq_true rfl) (Nat.le_of_ble_eq_true rfl) (Nat.le_of_ble_eq_true rfl) ?_
      refine e_if_eq 13 70 25 rfl rfl rfl (by unfold xr at *; omega) (fun h9 => absurd h9 (by omega)) (fun _ => ?_)
      refine e_aload_n 14 26 rfl rfl rfl rfl ?_
      refine g_getR 15 29 ckX1 flX1_14 rfl rfl (Nat.le_of_ble_eq_true rfl) rfl rfl ?_
      refine e_iload_n 16 30 rfl rfl rfl rfl ?_
      refine g_callV 17 33 (he) okX10_endOf cvX1_85 ⟨(Nat.le_of_ble_eq_true rfl), (Nat.le_of_ble_eq_true rfl)⟩ rfl rfl (Nat.le_of_ble_eq_true rfl) rfl rfl rfl rfl rfl (Nat.le_of_ble_eq_true rfl) (Nat.le_of_ble_eq_true rfl) (Nat.le_of_ble_eq_true rfl) ?_
      refine e_istore 18 35 (ls' := [some _, some _, some _, some _, some _, some _]) rfl rfl (Nat.le_of_ble_eq_true rfl) rfl ?_
      refine e_aload_n 19 36 rfl rfl rfl rfl ?_
      refine g_getR 20 39 ckX1 flX1_14 rfl rfl (Nat.le_of_ble_eq_true rfl) rfl rfl ?_
      refine e_iload_n 21 40 rfl rfl rfl rfl ?_
      refine e_aload_n 22 41 rfl rfl rfl rfl ?_
      refine e_iconst 23 42 rfl rfl ?_
      refine g_callS 24 45 (ho) okX10_order csX1_88 ⟨(Nat.le_of_ble_eq_true rfl), (Nat.le_of_ble_eq_true rfl)⟩ rfl rfl rfl rfl (Nat.le_of_ble_eq_true rfl) (Nat.le_of_ble_eq_true rfl) (Nat.le_of_ble_eq_true rfl) ?_
      refine e_if_ne 25 61 48 rfl rfl rfl (by unfold xr at *; omega) (fun _ => ?_) (fun h9 => absurd h9 (by omega))
      refine e_iload 32 63 rfl rfl rfl ?_
      refine e_istore_n 33 64 (ls' := [some _, some _, some _, some _, some _, some _]) rfl rfl rfl (Nat.le_of_ble_eq_true rfl) rfl ?_
      refine e_iinc 34 67 (ls' := [some _, some _, some _, some _, some _, some _]) rfl rfl (Nat.le_of_ble_eq_true rfl) rfl rfl ?_
      refine e_goto 35 7 rfl rfl ?_
      refine e_dropm [true, true, true, true, true, false] (ls' := [some _, some _, some _, some _, some _, none]) rfl ?_
      exact m1
  | add c n ihc ihn =>
    intro lo h p s w R i b cap σ hi hw hb hb2 hW hV
    have hnn := pa_nn n
    simp only [nel] at hi
    have hV' : VH σ 244 152 (p ++ 5000 :: (tk c ++ 0 :: (tk n ++ 0 :: s))) := by
      rw [show 5000 :: (tk c ++ 0 :: (tk n ++ 0 :: s)) = tk (.add c n) ++ 0 :: s by simp [tk]]
      exact hV
    have hcap := hV'.2.2.1
    simp only [List.length_append, List.length_cons] at hcap
    have hxr : xr (p.length : Int) := by unfold xr; omega
    have hs := sp_signAt hV' hxr
    rw [tok_hd] at hs
    have he := sp_endOf hV' p _ rfl
    rw [nd_cv2 trn_5 h.2.1, show ((p.length : Int) + (((tk c).length + 2 : Nat) : Int)) = p.length + (tk c).length + 2 by omega] at he
    have etk : tk (.add c (.num 0)) = 5000 :: (tk c ++ [0]) := rfl
    have ho := sp_order hV' hW p (tk (.add c (.num 0))) (tk n ++ 0 :: s) [] w [] (by simp [tk]) (by simp) (nd_Cv trn_5 h.2.1) hw
    have hlx := lexc_in (tk (.add c (.num 0))) w
    obtain ⟨e1, e2⟩ := vO_apart vO_244.1 hb hb2
    by_cases hq : lexc (tk (.add c (.num 0))) w = 0
    · obtain ⟨σ1, k1, k2, k3⟩ := sp_takeOut (p := p) (m := tk (.add c (.num 0))) (s := tk n ++ 0 :: s) (by simpa [tk] using hV')
      rw [show (((tk (.add c (.num 0))).length : Nat) : Int) = (tk c).length + 2 by simp [tk]; omega, ← Int.add_assoc] at k1
      obtain ⟨σ', m1, m2, m3⟩ := ihn _ h.2.2 p s w R (i + 1) b cap σ1 (by omega) hw hb hb2 (hW.fr k3 hb2 e1 e2) k2
      rw [show (((i + 1 : Nat)) : Int) = (i : Int) + 1 by omega] at m1
      rw [hq] at ho
      refine ⟨σ', ?_, by simp only [pul]; rw [if_pos hq]; exact m2, k3.tr m3⟩
      refine e_iload 6 9 rfl rfl rfl ?_
      refine e_bipush 7 11 rfl rfl rfl ?_
      refine e_icmp_ge 8 70 14 rfl rfl rfl (by unfold xr at *; omega) (by unfold xr at *; omega) (fun h9 => absurd h9 (by omega)) (fun _ => ?_)
      refine e_aload_n 9 15 rfl rfl rfl rfl ?_
      refine g_getR 10 18 ckX1 flX1_14 rfl rfl (Nat.le_of_ble_eq_true rfl) rfl rfl ?_
      refine e_iload_n 11 19 rfl rfl rfl rfl ?_
      refine g_callV 12 22 (hs) okX10_signAt cvX1_82 ⟨(Nat.le_of_ble_eq_true rfl), (Nat.le_of_ble_eq_true rfl)⟩ rfl rfl (Nat.le_of_ble_eq_true rfl) rfl rfl rfl rfl rfl (Nat.le_of_ble_eq_true rfl) (Nat.le_of_ble_eq_true rfl) (Nat.le_of_ble_eq_true rfl) ?_
      refine e_if_eq 13 70 25 rfl rfl rfl (by unfold xr at *; omega) (fun h9 => absurd h9 (by decide)) (fun _ => ?_)
      refine e_aload_n 14 26 rfl rfl rfl rfl ?_
      refine g_getR 15 29 ckX1 flX1_14 rfl rfl (Nat.le_of_ble_eq_true rfl) rfl rfl ?_
      refine e_iload_n 16 30 rfl rfl rfl rfl ?_
      refine g_callV 17 33 (he) okX10_endOf cvX1_85 ⟨(Nat.le_of_ble_eq_true rfl), (Nat.le_of_ble_eq_true rfl)⟩ rfl rfl (Nat.le_of_ble_eq_true rfl) rfl rfl rfl rfl rfl (Nat.le_of_ble_eq_true rfl) (Nat.le_of_ble_eq_true rfl) (Nat.le_of_ble_eq_true rfl) ?_
      refine e_istore 18 35 (ls' := [some _, some _, some _, some _, some _, some _]) rfl rfl (Nat.le_of_ble_eq_true rfl) rfl ?_
      refine e_aload_n 19 36 rfl rfl rfl rfl ?_
      refine g_getR 20 39 ckX1 flX1_14 rfl rfl (Nat.le_of_ble_eq_true rfl) rfl rfl ?_
      refine e_iload_n 21 40 rfl rfl rfl rfl ?_
      refine e_aload_n 22 41 rfl rfl rfl rfl ?_
      refine e_iconst 23 42 rfl rfl ?_
      refine g_callS 24 45 (ho) okX10_order csX1_88 ⟨(Nat.le_of_ble_eq_true rfl), (Nat.le_of_ble_eq_true rfl)⟩ rfl rfl rfl rfl (Nat.le_of_ble_eq_true rfl) (Nat.le_of_ble_eq_true rfl) (Nat.le_of_ble_eq_true rfl) ?_
      refine e_if_ne 25 61 48 rfl rfl rfl (by unfold xr at *; omega) (fun h9 => absurd h9 (fun q => q rfl)) (fun _ => ?_)
      refine e_aload_n 26 49 rfl rfl rfl rfl ?_
      refine g_getR 27 52 ckX1 flX1_14 rfl rfl (Nat.le_of_ble_eq_true rfl) rfl rfl ?_
      refine e_iload_n 28 53 rfl rfl rfl rfl ?_
      refine e_iload 29 55 rfl rfl rfl ?_
      refine g_callV 30 58 (k1) okX10_takeOut cvX1_92 ⟨(Nat.le_of_ble_eq_true rfl), (Nat.le_of_ble_eq_true rfl)⟩ rfl rfl (Nat.le_of_ble_eq_true rfl) rfl rfl rfl rfl rfl (Nat.le_of_ble_eq_true rfl) (Nat.le_of_ble_eq_true rfl) (Nat.le_of_ble_eq_true rfl) ?_
      refine e_goto 31 64 rfl rfl ?_
      refine e_iinc 34 67 (ls' := [some _, some _, some _, some _, some _, some _]) rfl rfl (Nat.le_of_ble_eq_true rfl) rfl rfl ?_
      refine e_goto 35 7 rfl rfl ?_
      refine e_dropm [true, true, true, true, true, false] (ls' := [some _, some _, some _, some _, some _, none]) rfl ?_
      exact m1
    · obtain ⟨σ', m1, m2, m3⟩ := ihn _ h.2.2 (p ++ 5000 :: (tk c ++ [0])) s w R (i + 1) b cap σ (by omega) hw hb hb2 hW (by rw [show p ++ 5000 :: (tk c ++ [0]) ++ (tk n ++ 0 :: s) = p ++ 5000 :: (tk c ++ 0 :: (tk n ++ 0 :: s)) by simp]; exact hV')
      rw [len_n, show (((i + 1 : Nat)) : Int) = (i : Int) + 1 by omega] at m1
      refine ⟨σ', ?_, by simp only [pul]; rw [if_neg hq]; simpa [tk] using m2, m3⟩
      refine e_iload 6 9 rfl rfl rfl ?_
      refine e_bipush 7 11 rfl rfl rfl ?_
      refine e_icmp_ge 8 70 14 rfl rfl rfl (by unfold xr at *; omega) (by unfold xr at *; omega) (fun h9 => absurd h9 (by omega)) (fun _ => ?_)
      refine e_aload_n 9 15 rfl rfl rfl rfl ?_
      refine g_getR 10 18 ckX1 flX1_14 rfl rfl (Nat.le_of_ble_eq_true rfl) rfl rfl ?_
      refine e_iload_n 11 19 rfl rfl rfl rfl ?_
      refine g_callV 12 22 (hs) okX10_signAt cvX1_82 ⟨(Nat.le_of_ble_eq_true rfl), (Nat.le_of_ble_eq_true rfl)⟩ rfl rfl (Nat.le_of_ble_eq_true rfl) rfl rfl rfl rfl rfl (Nat.le_of_ble_eq_true rfl) (Nat.le_of_ble_eq_true rfl) (Nat.le_of_ble_eq_true rfl) ?_
      refine e_if_eq 13 70 25 rfl rfl rfl (by unfold xr at *; omega) (fun h9 => absurd h9 (by decide)) (fun _ => ?_)
      refine e_aload_n 14 26 rfl rfl rfl rfl ?_
      refine g_getR 15 29 ckX1 flX1_14 rfl rfl (Nat.le_of_ble_eq_true rfl) rfl rfl ?_
      refine e_iload_n 16 30 rfl rfl rfl rfl ?_
      refine g_callV 17 33 (he) okX10_endOf cvX1_85 ⟨(Nat.le_of_ble_eq_true rfl), (Nat.le_of_ble_eq_true rfl)⟩ rfl rfl (Nat.le_of_ble_eq_true rfl) rfl rfl rfl rfl rfl (Nat.le_of_ble_eq_true rfl) (Nat.le_of_ble_eq_true rfl) (Nat.le_of_ble_eq_true rfl) ?_
      refine e_istore 18 35 (ls' := [some _, some _, some _, some _, some _, some _]) rfl rfl (Nat.le_of_ble_eq_true rfl) rfl ?_
      refine e_aload_n 19 36 rfl rfl rfl rfl ?_
      refine g_getR 20 39 ckX1 flX1_14 rfl rfl (Nat.le_of_ble_eq_true rfl) rfl rfl ?_
      refine e_iload_n 21 40 rfl rfl rfl rfl ?_
      refine e_aload_n 22 41 rfl rfl rfl rfl ?_
      refine e_iconst 23 42 rfl rfl ?_
      refine g_callS 24 45 (ho) okX10_order csX1_88 ⟨(Nat.le_of_ble_eq_true rfl), (Nat.le_of_ble_eq_true rfl)⟩ rfl rfl rfl rfl (Nat.le_of_ble_eq_true rfl) (Nat.le_of_ble_eq_true rfl) (Nat.le_of_ble_eq_true rfl) ?_
      refine e_if_ne 25 61 48 rfl rfl rfl (by unfold xr at *; omega) (fun _ => ?_) (fun h9 => absurd h9 (by omega))
      refine e_iload 32 63 rfl rfl rfl ?_
      refine e_istore_n 33 64 (ls' := [some _, some _, some _, some _, some _, some _]) rfl rfl rfl (Nat.le_of_ble_eq_true rfl) rfl ?_
      refine e_iinc 34 67 (ls' := [some _, some _, some _, some _, some _, some _]) rfl rfl (Nat.le_of_ble_eq_true rfl) rfl rfl ?_
      refine e_goto 35 7 rfl rfl ?_
      refine e_dropm [true, true, true, true, true, false] (ls' := [some _, some _, some _, some _, some _, none]) rfl ?_
      exact m1
  | sub c n ihc ihn =>
    intro lo h p s w R i b cap σ hi hw hb hb2 hW hV
    have hnn := pa_nn n
    simp only [nel] at hi
    have hV' : VH σ 244 152 (p ++ 4000 :: (tk c ++ 0 :: (tk n ++ 0 :: s))) := by
      rw [show 4000 :: (tk c ++ 0 :: (tk n ++ 0 :: s)) = tk (.sub c n) ++ 0 :: s by simp [tk]]
      exact hV
    have hcap := hV'.2.2.1
    simp only [List.length_append, List.length_cons] at hcap
    have hxr : xr (p.length : Int) := by unfold xr; omega
    have hs := sp_signAt hV' hxr
    rw [tok_hd] at hs
    have he := sp_endOf hV' p _ rfl
    rw [nd_cv2 trn_4 h.2.1, show ((p.length : Int) + (((tk c).length + 2 : Nat) : Int)) = p.length + (tk c).length + 2 by omega] at he
    have etk : tk (.sub c (.num 0)) = 4000 :: (tk c ++ [0]) := rfl
    have ho := sp_order hV' hW p (tk (.sub c (.num 0))) (tk n ++ 0 :: s) [] w [] (by simp [tk]) (by simp) (nd_Cv trn_4 h.2.1) hw
    have hlx := lexc_in (tk (.sub c (.num 0))) w
    obtain ⟨e1, e2⟩ := vO_apart vO_244.1 hb hb2
    by_cases hq : lexc (tk (.sub c (.num 0))) w = 0
    · obtain ⟨σ1, k1, k2, k3⟩ := sp_takeOut (p := p) (m := tk (.sub c (.num 0))) (s := tk n ++ 0 :: s) (by simpa [tk] using hV')
      rw [show (((tk (.sub c (.num 0))).length : Nat) : Int) = (tk c).length + 2 by simp [tk]; omega, ← Int.add_assoc] at k1
      obtain ⟨σ', m1, m2, m3⟩ := ihn _ h.2.2 p s w R (i + 1) b cap σ1 (by omega) hw hb hb2 (hW.fr k3 hb2 e1 e2) k2
      rw [show (((i + 1 : Nat)) : Int) = (i : Int) + 1 by omega] at m1
      rw [hq] at ho
      refine ⟨σ', ?_, by simp only [pul]; rw [if_pos hq]; exact m2, k3.tr m3⟩
      refine e_iload 6 9 rfl rfl rfl ?_
      refine e_bipush 7 11 rfl rfl rfl ?_
      refine e_icmp_ge 8 70 14 rfl rfl rfl (by unfold xr at *; omega) (by unfold xr at *; omega) (fun h9 => absurd h9 (by omega)) (fun _ => ?_)
      refine e_aload_n 9 15 rfl rfl rfl rfl ?_
      refine g_getR 10 18 ckX1 flX1_14 rfl rfl (Nat.le_of_ble_eq_true rfl) rfl rfl ?_
      refine e_iload_n 11 19 rfl rfl rfl rfl ?_
      refine g_callV 12 22 (hs) okX10_signAt cvX1_82 ⟨(Nat.le_of_ble_eq_true rfl), (Nat.le_of_ble_eq_true rfl)⟩ rfl rfl (Nat.le_of_ble_eq_true rfl) rfl rfl rfl rfl rfl (Nat.le_of_ble_eq_true rfl) (Nat.le_of_ble_eq_true rfl) (Nat.le_of_ble_eq_true rfl) ?_
      refine e_if_eq 13 70 25 rfl rfl rfl (by unfold xr at *; omega) (fun h9 => absurd h9 (by decide)) (fun _ => ?_)
      refine e_aload_n 14 26 rfl rfl rfl rfl ?_
      refine g_getR 15 29 ckX1 flX1_14 rfl rfl (Nat.le_of_ble_eq_true rfl) rfl rfl ?_
      refine e_iload_n 16 30 rfl rfl rfl rfl ?_
      refine g_callV 17 33 (he) okX10_endOf cvX1_85 ⟨(Nat.le_of_ble_eq_true rfl), (Nat.le_of_ble_eq_true rfl)⟩ rfl rfl (Nat.le_of_ble_eq_true rfl) rfl rfl rfl rfl rfl (Nat.le_of_ble_eq_true rfl) (Nat.le_of_ble_eq_true rfl) (Nat.le_of_ble_eq_true rfl) ?_
      refine e_istore 18 35 (ls' := [some _, some _, some _, some _, some _, some _]) rfl rfl (Nat.le_of_ble_eq_true rfl) rfl ?_
      refine e_aload_n 19 36 rfl rfl rfl rfl ?_
      refine g_getR 20 39 ckX1 flX1_14 rfl rfl (Nat.le_of_ble_eq_true rfl) rfl rfl ?_
      refine e_iload_n 21 40 rfl rfl rfl rfl ?_
      refine e_aload_n 22 41 rfl rfl rfl rfl ?_
      refine e_iconst 23 42 rfl rfl ?_
      refine g_callS 24 45 (ho) okX10_order csX1_88 ⟨(Nat.le_of_ble_eq_true rfl), (Nat.le_of_ble_eq_true rfl)⟩ rfl rfl rfl rfl (Nat.le_of_ble_eq_true rfl) (Nat.le_of_ble_eq_true rfl) (Nat.le_of_ble_eq_true rfl) ?_
      refine e_if_ne 25 61 48 rfl rfl rfl (by unfold xr at *; omega) (fun h9 => absurd h9 (fun q => q rfl)) (fun _ => ?_)
      refine e_aload_n 26 49 rfl rfl rfl rfl ?_
      refine g_getR 27 52 ckX1 flX1_14 rfl rfl (Nat.le_of_ble_eq_true rfl) rfl rfl ?_
      refine e_iload_n 28 53 rfl rfl rfl rfl ?_
      refine e_iload 29 55 rfl rfl rfl ?_
      refine g_callV 30 58 (k1) okX10_takeOut cvX1_92 ⟨(Nat.le_of_ble_eq_true rfl), (Nat.le_of_ble_eq_true rfl)⟩ rfl rfl (Nat.le_of_ble_eq_true rfl) rfl rfl rfl rfl rfl (Nat.le_of_ble_eq_true rfl) (Nat.le_of_ble_eq_true rfl) (Nat.le_of_ble_eq_true rfl) ?_
      refine e_goto 31 64 rfl rfl ?_
      refine e_iinc 34 67 (ls' := [some _, some _, some _, some _, some _, some _]) rfl rfl (Nat.le_of_ble_eq_true rfl) rfl rfl ?_
      refine e_goto 35 7 rfl rfl ?_
      refine e_dropm [true, true, true, true, true, false] (ls' := [some _, some _, some _, some _, some _, none]) rfl ?_
      exact m1
    · obtain ⟨σ', m1, m2, m3⟩ := ihn _ h.2.2 (p ++ 4000 :: (tk c ++ [0])) s w R (i + 1) b cap σ (by omega) hw hb hb2 hW (by rw [show p ++ 4000 :: (tk c ++ [0]) ++ (tk n ++ 0 :: s) = p ++ 4000 :: (tk c ++ 0 :: (tk n ++ 0 :: s)) by simp]; exact hV')
      rw [len_n, show (((i + 1 : Nat)) : Int) = (i : Int) + 1 by omega] at m1
      refine ⟨σ', ?_, by simp only [pul]; rw [if_neg hq]; simpa [tk] using m2, m3⟩
      refine e_iload 6 9 rfl rfl rfl ?_
      refine e_bipush 7 11 rfl rfl rfl ?_
      refine e_icmp_ge 8 70 14 rfl rfl rfl (by unfold xr at *; omega) (by unfold xr at *; omega) (fun h9 => absurd h9 (by omega)) (fun _ => ?_)
      refine e_aload_n 9 15 rfl rfl rfl rfl ?_
      refine g_getR 10 18 ckX1 flX1_14 rfl rfl (Nat.le_of_ble_eq_true rfl) rfl rfl ?_
      refine e_iload_n 11 19 rfl rfl rfl rfl ?_
      refine g_callV 12 22 (hs) okX10_signAt cvX1_82 ⟨(Nat.le_of_ble_eq_true rfl), (Nat.le_of_ble_eq_true rfl)⟩ rfl rfl (Nat.le_of_ble_eq_true rfl) rfl rfl rfl rfl rfl (Nat.le_of_ble_eq_true rfl) (Nat.le_of_ble_eq_true rfl) (Nat.le_of_ble_eq_true rfl) ?_
      refine e_if_eq 13 70 25 rfl rfl rfl (by unfold xr at *; omega) (fun h9 => absurd h9 (by decide)) (fun _ => ?_)
      refine e_aload_n 14 26 rfl rfl rfl rfl ?_
      refine g_getR 15 29 ckX1 flX1_14 rfl rfl (Nat.le_of_ble_eq_true rfl) rfl rfl ?_
      refine e_iload_n 16 30 rfl rfl rfl rfl ?_
      refine g_callV 17 33 (he) okX10_endOf cvX1_85 ⟨(Nat.le_of_ble_eq_true rfl), (Nat.le_of_ble_eq_true rfl)⟩ rfl rfl (Nat.le_of_ble_eq_true rfl) rfl rfl rfl rfl rfl (Nat.le_of_ble_eq_true rfl) (Nat.le_of_ble_eq_true rfl) (Nat.le_of_ble_eq_true rfl) ?_
      refine e_istore 18 35 (ls' := [some _, some _, some _, some _, some _, some _]) rfl rfl (Nat.le_of_ble_eq_true rfl) rfl ?_
      refine e_aload_n 19 36 rfl rfl rfl rfl ?_
      refine g_getR 20 39 ckX1 flX1_14 rfl rfl (Nat.le_of_ble_eq_true rfl) rfl rfl ?_
      refine e_iload_n 21 40 rfl rfl rfl rfl ?_
      refine e_aload_n 22 41 rfl rfl rfl rfl ?_
      refine e_iconst 23 42 rfl rfl ?_
      refine g_callS 24 45 (ho) okX10_order csX1_88 ⟨(Nat.le_of_ble_eq_true rfl), (Nat.le_of_ble_eq_true rfl)⟩ rfl rfl rfl rfl (Nat.le_of_ble_eq_true rfl) (Nat.le_of_ble_eq_true rfl) (Nat.le_of_ble_eq_true rfl) ?_
      refine e_if_ne 25 61 48 rfl rfl rfl (by unfold xr at *; omega) (fun _ => ?_) (fun h9 => absurd h9 (by omega))
      refine e_iload 32 63 rfl rfl rfl ?_
      refine e_istore_n 33 64 (ls' := [some _, some _, some _, some _, some _, some _]) rfl rfl rfl (Nat.le_of_ble_eq_true rfl) rfl ?_
      refine e_iinc 34 67 (ls' := [some _, some _, some _, some _, some _, some _]) rfl rfl (Nat.le_of_ble_eq_true rfl) rfl rfl ?_
      refine e_goto 35 7 rfl rfl ?_
      refine e_dropm [true, true, true, true, true, false] (ls' := [some _, some _, some _, some _, some _, none]) rfl ?_
      exact m1
theorem sp_pullFrom {σ : xSig} {c : Fo} {p s w : List Int} {b cap : Nat} (hc : okf false false 0 c) (hn : nel c ≤ 24) (hp : 0 < p.length) (hw : Cv w) (hb : vO b = true) (hb2 : b ≠ 244) (hW : VH σ b cap w) (hV : VH σ 244 152 (p ++ (tk c ++ 0 :: s))) :
    ∃ σ' : xSig, x_Sp MX1_pullFrom 0 0 [.ref 243, .int (ii (p.length - 1)), .ref b] (St σ) (zv true) (St σ') ∧ VH σ' 244 152 (p ++ (tk (pul w c) ++ 0 :: s)) ∧ Fr 244 σ σ' := by
  obtain ⟨σ', m1, m2⟩ := e_pullFrom c 0 hc p s w (p.length - 1) 0 b cap σ (by omega) hw hb hb2 hW hV
  refine ⟨σ', ?_, m2⟩
  refine e_entry okX1_pullFrom (Nat.le_of_ble_eq_true rfl) (ls := [some _, some _, some _, none, none, none]) rfl ?_
  refine e_iload_n 0 1 rfl rfl rfl rfl ?_
  refine e_iconst 1 2 rfl rfl ?_
  refine e_iadd 2 3 rfl rfl ?_
  refine e_istore_n 3 4 (ls' := [some _, some _, some _, some _, none, none]) rfl rfl rfl (Nat.le_of_ble_eq_true rfl) rfl ?_
  refine e_iconst 4 5 rfl rfl ?_
  refine e_istore 5 7 (ls' := [some _, some _, some _, some _, some _, none]) rfl rfl (Nat.le_of_ble_eq_true rfl) rfl ?_
  rw [show (p.length : Int) - 1 + 1 = p.length by omega]
  exact m1
