/-! ===== steps: updates, from its start ===== -/
theorem sp_mUpdates {τ s : xSig} {m : Nat} {path op : Int} {F w : Fo} (hm : m < 100) (hp : 0 ≤ path ∧ path < 72) (hop : 0 ≤ op ∧ op ≤ 5) (h6 : ∀ f : Int, 0 ≤ f → f < 8 → s 286 f = τ 28 f) (hru : ∀ f : Int, 0 ≤ τ 28 f ∧ τ 28 f ≤ 4) (hR : MV s 282 11300 (100 * m + 1) (.add F (.num 0))) (h24 : pa (.add F (.num 0)) ≤ 24)
    (hw : op = 1 ∨ (MV s 282 11300 (100 * (100 + (s 281 3 - 1)) + 1) w ∧ pa w ≤ 24)) :
    ∃ s', x_Sp MX12_updates 0 0 [.ref 281, .int (ii m), .int (ii path), .int (ii op)] (St s) (zv (upB τ (edD F path op w))) (St s') ∧ (∀ F', edD F path op w = some F' → MD s' (en (.add F' (.num 0)))) ∧ FP up9 s s' := by
  have hF : okf true false 0 F := by
    rcases hR.2.1 with ⟨x, hx, -⟩ | ⟨c, hx, h3⟩ | ⟨c, hx, h3⟩
    · cases hx
    · cases hx; exact h3
    · cases hx
  have e9 : pa (.add F (.num 0)) = 1 + pa F := by simp [pa]
  have hxp : xr path := by unfold xr; omega
  have hwf : ∀ {σ1 : xSig}, FP m11 s σ1 → op = 1 ∨ (MV σ1 282 11300 (100 * (100 + (σ1 281 3 - 1)) + 1) w ∧ pa w ≤ 24) := fun f => hw.imp (fun q => q) (fun q => ⟨by rw [f 281 3 rfl]; exact q.1.fp f, q.2⟩)
  have h6f : ∀ {σ1 : xSig}, FP m11 s σ1 → ∀ f : Int, 0 ≤ f → f < 8 → σ1 286 f = τ 28 f := fun f g a b => by rw [f.cell 286 rfl]; exact h6 g a b
  by_cases h8 : path < 8
  · obtain ⟨p, s1, a1, a2, a3⟩ := sp_mFieldOf hR (f := path) ⟨hp.1, h8⟩
    obtain ⟨s', k1, k2, k3⟩ := upd115 (τ := τ) (m := m) (path := path) (op := op) (R := 100 * m + 1) (fi := path) (ob := 100 * m + 1) (f := path) (x8 := -1) (p := p) (F := F) (Fi := F) (w := w) (wrap := fun G => G) (pre := []) (post := []) hop (h6f a2) hru (hR.fp a2) h24 hF ⟨hp.1, h8⟩ rfl (by simp) (by omega) (fun G hG => ⟨hG, rfl, by simp only [pa]; omega⟩) (hwf a2) a3
    have eE : (if (op = 2 ∨ op = 5) ∧ knd (tok (tk w) 0) ≠ 1 then none else (edF F path op w).map fun G => G) = edD F path op w := by
      unfold edD
      rw [if_pos h8, Option.map_id']
    rw [eE] at k1 k2
    refine ⟨s', ?_, k2, (a2.mono rfl).tr k3⟩
    refine e_entry okX12_updates (Nat.le_of_ble_eq_true rfl) (ls := [some _, some _, some _, some _, none, none, none, none, none, none, none, none]) rfl ?_
    refine e_iload_n 0 1 rfl rfl rfl rfl ?_
    refine g_callS 1 4 (sp_mBlock (x := m)) okX12_block csX12_142 ⟨(Nat.le_of_ble_eq_true rfl), (Nat.le_of_ble_eq_true rfl)⟩ rfl rfl rfl rfl (Nat.le_of_ble_eq_true rfl) (Nat.le_of_ble_eq_true rfl) (Nat.le_of_ble_eq_true rfl) ?_
    refine e_istore 2 6 (ls' := [some _, some _, some _, some _, some _, none, none, none, none, none, none, none]) rfl rfl (Nat.le_of_ble_eq_true rfl) rfl ?_
    refine e_iload_n 3 7 rfl rfl rfl rfl ?_
    refine e_bipush 4 9 rfl rfl rfl ?_
    refine e_icmp_ge 5 16 12 rfl rfl rfl hxp (by unfold xr at *; omega) (fun h9 => absurd h9 (by omega)) (fun _ => ?_)
    refine e_iload_n 6 13 rfl rfl rfl rfl ?_
    refine e_goto 7 23 rfl rfl ?_
    refine e_istore 13 25 (ls' := [some _, some _, some _, some _, some _, some _, none, none, none, none, none, none]) rfl rfl (Nat.le_of_ble_eq_true rfl) rfl ?_
    refine e_iload 14 27 rfl rfl rfl ?_
    refine e_istore 15 29 (ls' := [some _, some _, some _, some _, some _, some _, some _, none, none, none, none, none]) rfl rfl (Nat.le_of_ble_eq_true rfl) rfl ?_
    refine e_iload_n 16 30 rfl rfl rfl rfl ?_
    refine e_bipush 17 32 rfl rfl rfl ?_
    refine e_icmp_ge 18 39 35 rfl rfl rfl hxp (by unfold xr at *; omega) (fun h9 => absurd h9 (by omega)) (fun _ => ?_)
    refine e_iload_n 19 36 rfl rfl rfl rfl ?_
    refine e_goto 20 43 rfl rfl ?_
    refine e_istore 24 45 (ls' := [some _, some _, some _, some _, some _, some _, some _, some _, none, none, none, none]) rfl rfl (Nat.le_of_ble_eq_true rfl) rfl ?_
    refine e_iconst 25 46 rfl rfl ?_
    refine e_istore 26 48 (ls' := [some _, some _, some _, some _, some _, some _, some _, some _, some _, none, none, none]) rfl rfl (Nat.le_of_ble_eq_true rfl) rfl ?_
    refine e_iload_n 27 49 rfl rfl rfl rfl ?_
    refine e_bipush 28 51 rfl rfl rfl ?_
    refine e_icmp_lt 29 91 54 rfl rfl rfl hxp (by unfold xr at *; omega) (fun _ => ?_) (fun h9 => absurd h9 (by omega))
    refine e_iload 50 93 rfl rfl rfl ?_
    refine e_iconst 51 94 rfl rfl ?_
    refine e_icmp_ne 52 101 97 rfl rfl rfl (by unfold xr at *; omega) (by unfold xr at *; omega) (fun _ => ?_) (fun h9 => absurd h9 (by omega))
    refine e_aload_n 55 102 rfl rfl rfl rfl ?_
    refine e_aload_n 56 103 rfl rfl rfl rfl ?_
    refine g_getR 57 106 ckX12 flX12_7 rfl rfl (Nat.le_of_ble_eq_true rfl) rfl rfl ?_
    refine e_iload 58 108 rfl rfl rfl ?_
    refine e_iload 59 110 rfl rfl rfl ?_
    refine g_callV 60 113 (a1) okX12_fieldOf cvX12_155 ⟨(Nat.le_of_ble_eq_true rfl), (Nat.le_of_ble_eq_true rfl)⟩ rfl rfl (Nat.le_of_ble_eq_true rfl) rfl rfl rfl rfl rfl (Nat.le_of_ble_eq_true rfl) (Nat.le_of_ble_eq_true rfl) (Nat.le_of_ble_eq_true rfl) ?_
    refine e_istore 61 115 (ls' := [some _, some _, some _, some _, some _, some _, some _, some _, some _, some _, none, none]) rfl rfl (Nat.le_of_ble_eq_true rfl) rfl ?_
    exact k1
  · have hfi : 0 ≤ (path - 8) / 8 ∧ (path - 8) / 8 < 8 := by omega
    have hfr : 0 ≤ path % 8 ∧ path % 8 < 8 := by omega
    have eF : path / 8 - 1 = (path - 8) / 8 := by omega
    obtain ⟨r, s1, a1, a2, a3⟩ := sp_mFieldOf2 hR (f := (path - 8) / 8) hfi
    -- to the object in it
    have pre87 : ∀ {o : xO} {Y : xS}, x_E MX12_updates 0 0 68 [some (.ref 281), some (.int (ii (m : Nat))), some (.int (ii path)), some (.int (ii op)), some (.int (ii (100 * m + 1))), some (.int (ii ((path - 8) / 8))), some (.int (ii (100 * m + 1))), some (.int (ii (path % 8))), some (.int (ii r)), none, none, none] [] (St s1) 0 0 o Y → x_Sp MX12_updates 0 0 [.ref 281, .int (ii m), .int (ii path), .int (ii op)] (St s) o Y := by
      intro o Y kk
      refine e_entry okX12_updates (Nat.le_of_ble_eq_true rfl) (ls := [some _, some _, some _, some _, none, none, none, none, none, none, none, none]) rfl ?_
      refine e_iload_n 0 1 rfl rfl rfl rfl ?_
      refine g_callS 1 4 (sp_mBlock (x := m)) okX12_block csX12_142 ⟨(Nat.le_of_ble_eq_true rfl), (Nat.le_of_ble_eq_true rfl)⟩ rfl rfl rfl rfl (Nat.le_of_ble_eq_true rfl) (Nat.le_of_ble_eq_true rfl) (Nat.le_of_ble_eq_true rfl) ?_
      refine e_istore 2 6 (ls' := [some _, some _, some _, some _, some _, none, none, none, none, none, none, none]) rfl rfl (Nat.le_of_ble_eq_true rfl) rfl ?_
      refine e_iload_n 3 7 rfl rfl rfl rfl ?_
      refine e_bipush 4 9 rfl rfl rfl ?_
      refine e_icmp_ge 5 16 12 rfl rfl rfl hxp (by unfold xr at *; omega) (fun _ => ?_) (fun h9 => absurd h9 (by omega))
      refine e_iload_n 8 17 rfl rfl rfl rfl ?_
      refine e_bipush 9 19 rfl rfl rfl ?_
      refine e_isub 10 20 rfl rfl ?_
      refine e_bipush 11 22 rfl rfl rfl ?_
      refine e_idiv 12 23 rfl rfl (by decide) (ii_div (by omega) (by omega)) ?_
      refine e_istore 13 25 (ls' := [some _, some _, some _, some _, some _, some _, none, none, none, none, none, none]) rfl rfl (Nat.le_of_ble_eq_true rfl) rfl ?_
      refine e_iload 14 27 rfl rfl rfl ?_
      refine e_istore 15 29 (ls' := [some _, some _, some _, some _, some _, some _, some _, none, none, none, none, none]) rfl rfl (Nat.le_of_ble_eq_true rfl) rfl ?_
      refine e_iload_n 16 30 rfl rfl rfl rfl ?_
      refine e_bipush 17 32 rfl rfl rfl ?_
      refine e_icmp_ge 18 39 35 rfl rfl rfl hxp (by unfold xr at *; omega) (fun _ => ?_) (fun h9 => absurd h9 (by omega))
      refine e_iload_n 21 40 rfl rfl rfl rfl ?_
      refine e_bipush 22 42 rfl rfl rfl ?_
      refine e_irem 23 43 rfl rfl (by decide) (ii_rem (by omega) (by omega)) ?_
      refine e_istore 24 45 (ls' := [some _, some _, some _, some _, some _, some _, some _, some _, none, none, none, none]) rfl rfl (Nat.le_of_ble_eq_true rfl) rfl ?_
      refine e_iconst 25 46 rfl rfl ?_
      refine e_istore 26 48 (ls' := [some _, some _, some _, some _, some _, some _, some _, some _, some _, none, none, none]) rfl rfl (Nat.le_of_ble_eq_true rfl) rfl ?_
      refine e_iload_n 27 49 rfl rfl rfl rfl ?_
      refine e_bipush 28 51 rfl rfl rfl ?_
      refine e_icmp_lt 29 91 54 rfl rfl rfl hxp (by unfold xr at *; omega) (fun h9 => absurd h9 (by omega)) (fun _ => ?_)
      refine e_aload_n 30 55 rfl rfl rfl rfl ?_
      refine e_aload_n 31 56 rfl rfl rfl rfl ?_
      refine g_getR 32 59 ckX12 flX12_7 rfl rfl (Nat.le_of_ble_eq_true rfl) rfl rfl ?_
      refine e_iload 33 61 rfl rfl rfl ?_
      refine e_iload 34 63 rfl rfl rfl ?_
      refine g_callV 35 66 (a1) okX12_fieldOf cvX12_155 ⟨(Nat.le_of_ble_eq_true rfl), (Nat.le_of_ble_eq_true rfl)⟩ rfl rfl (Nat.le_of_ble_eq_true rfl) rfl rfl rfl rfl rfl (Nat.le_of_ble_eq_true rfl) (Nat.le_of_ble_eq_true rfl) (Nat.le_of_ble_eq_true rfl) ?_
      refine e_istore 36 68 (ls' := [some _, some _, some _, some _, some _, some _, some _, some _, some _, none, none, none]) rfl rfl (Nat.le_of_ble_eq_true rfl) rfl ?_
      exact kk
    rcases a3 with ⟨b1, rfl⟩ | ⟨b0, b1, pre, post, b2, b3, b4⟩
    · obtain ⟨s', k1, k2, k3⟩ := upd115n (τ := τ) (m := m) (path := path) (op := op) (R := 100 * m + 1) (fi := (path - 8) / 8) (f := path % 8) (F := F) (w := w) hop (h6f a2) hru (hR.fp a2) hF h24 hfi hfr b1 (hwf a2)
      have eD : edD F path op w = if (op = 2 ∨ op = 5) ∧ knd (tok (tk w) 0) ≠ 1 then none else if op = 1 ∨ op = 4 ∨ op = 5 then some F else (edF (.num 0) (path % 8) op w).map fun m => setf ((path - 8) / 8) (.add m (.num 0)) F := by
        unfold edD
        rw [if_neg h8, eF]
        generalize get ((path - 8) / 8) F = g at b1
        subst b1
        rfl
      rw [← eD] at k1 k2
      refine ⟨s', pre87 ?_, k2, (a2.mono rfl).tr k3⟩
      refine e_iload 37 70 rfl rfl rfl ?_
      refine e_iconst 38 71 rfl rfl ?_
      refine e_icmp_eq 39 87 74 rfl rfl rfl (by unfold xr at *; omega) (by unfold xr at *; omega) (fun _ => ?_) (fun h9 => absurd h9 (fun q => q rfl))
      refine e_iload 48 89 rfl rfl rfl ?_
      refine e_istore 49 91 (ls' := [some _, some _, some _, some _, some _, some _, some _, some _, some _, none, none, none]) rfl rfl (Nat.le_of_ble_eq_true rfl) rfl ?_
      refine e_iload 50 93 rfl rfl rfl ?_
      refine e_iconst 51 94 rfl rfl ?_
      refine e_icmp_ne 52 101 97 rfl rfl rfl (by unfold xr at *; omega) (by unfold xr at *; omega) (fun h9 => absurd h9 (fun q => q rfl)) (fun _ => ?_)
      refine e_iconst 53 98 rfl rfl ?_
      refine e_goto 54 113 rfl rfl ?_
      refine e_istore 61 115 (ls' := [some _, some _, some _, some _, some _, some _, some _, some _, some _, some _, none, none]) rfl rfl (Nat.le_of_ble_eq_true rfl) rfl ?_
      exact k1
    · have hrb := b1.2.2.2
      have hrm : ¬ r = -1 := by omega
      have hxr : xr r := by unfold xr; omega
      have yf := mv_fld b1
      have hkb := knd_bnd (tok (tk (get ((path - 8) / 8) F)) 0)
      have no : s1 282 r ≠ 4 → edD F path op w = none → ∃ s', x_Sp MX12_updates 0 0 [.ref 281, .int (ii m), .int (ii path), .int (ii op)] (St s) (zv (upB τ (edD F path op w))) (St s') ∧ (∀ F', edD F path op w = some F' → MD s' (en (.add F' (.num 0)))) ∧ FP up9 s s' := by
        intro h4 hn
        rw [hn]
        refine ⟨s1, pre87 ?_, fun F' h => (by cases h), a2.mono rfl⟩
        have h4x : xr (s1 282 r) := by rw [yf.1]; unfold xr; omega
        show x_E MX12_updates 0 0 68 _ _ _ 0 0 (zv false) _
        refine e_iload 37 70 rfl rfl rfl ?_
        refine e_iconst 38 71 rfl rfl ?_
        refine e_icmp_eq 39 87 74 rfl rfl rfl hxr (by unfold xr at *; omega) (fun h9 => absurd h9 hrm) (fun _ => ?_)
        refine e_aload_n 40 75 rfl rfl rfl rfl ?_
        refine g_getR 41 78 ckX12 flX12_7 rfl rfl (Nat.le_of_ble_eq_true rfl) rfl rfl ?_
        refine e_iload 42 80 rfl rfl rfl ?_
        refine g_iaload 43 81 rfl rfl (Nat.le_of_ble_eq_true rfl) rfl (by omega) (by omega) (by omega) rfl ?_
        refine e_iconst 44 82 rfl rfl ?_
        refine e_icmp_eq 45 87 85 rfl rfl rfl h4x (by unfold xr at *; omega) (fun h9 => absurd h9 h4) (fun _ => ?_)
        refine e_iconst 46 86 rfl rfl ?_
        exact e_zreturn 47 rfl rfl (Or.inl rfl) (Nat.le_of_ble_eq_true rfl) (Nat.le_of_ble_eq_true rfl)
      have b1' := b1
      rcases mv_hd b1 with ⟨x, e, hx, u1, u2⟩ | ⟨c, e, hc, u1⟩ | ⟨c, e, hc, u1, u2, u3, u4⟩
      · exact no (by omega) (by
          unfold edD
          rw [if_neg h8, eF]
          clear b1 b1' b3 b4 yf hkb no
          generalize get ((path - 8) / 8) F = g at e
          subst e
          split <;> rfl)
      · rw [e] at b1' b3
        obtain ⟨p, s2, c1, c2, c3⟩ := sp_mFieldOf b1' (f := path % 8) hfr
        have a4 : FP m11 s s2 := a2.tr c2
        have hpc : pa (.add c (.num 0)) ≤ pa F := by
          have := (get_pa F ((path - 8) / 8) _ _ hF).2
          rw [e] at this
          exact this
        have e8 : pa (.add c (.num 0)) = 1 + pa c := by simp [pa]
        obtain ⟨s', k1, k2, k3⟩ := upd115 (τ := τ) (m := m) (path := path) (op := op) (R := 100 * m + 1) (fi := (path - 8) / 8) (ob := r) (f := path % 8) (x8 := r) (p := p) (F := F) (Fi := c) (w := w) (wrap := fun G => setf ((path - 8) / 8) (.add G (.num 0)) F) (pre := 4 :: pre) (post := post ++ [-1]) hop (h6f a4) hru (hR.fp a4) h24 hc hfr (by
          show 4 :: (en F ++ [-1]) = _
          rw [b3]
          simp [en]) (by rw [b2]; simp only [List.length_cons]; omega) (by omega) (fun G hG => by
          have hGo : ok1 (.add G (.num 0)) := Or.inr (Or.inl ⟨_, rfl, hG⟩)
          refine ⟨setf_ok F _ _ _ _ hF hGo hfi.1 hfi.2, ?_, ?_⟩
          · show 4 :: (en (setf ((path - 8) / 8) (.add G (.num 0)) F) ++ [-1]) = _
            rw [b4 _ hGo]
            simp [en]
          · have := setf_pa F ((path - 8) / 8) (.add G (.num 0)) false 0 hF hGo
            rw [e, e8] at this
            have e7 : pa (.add G (.num 0)) = 1 + pa G := by simp [pa]
            rw [e7] at this
            have e6 : pa (.add (setf ((path - 8) / 8) (.add G (.num 0)) F) (.num 0)) = 1 + pa (setf ((path - 8) / 8) (.add G (.num 0)) F) := by simp [pa]
            rw [e6]
            omega) (hwf a4) c3
        have eD : edD F path op w = if (op = 2 ∨ op = 5) ∧ knd (tok (tk w) 0) ≠ 1 then none else (edF c (path % 8) op w).map fun m => setf ((path - 8) / 8) (.add m (.num 0)) F := by
          unfold edD
          rw [if_neg h8, eF]
          clear b1 b1' b3 b4 yf hkb no c1 c2 c3 k1 k2 k3
          generalize get ((path - 8) / 8) F = g at e
          subst e
          rfl
        rw [← eD] at k1 k2
        refine ⟨s', pre87 ?_, k2, (a4.mono rfl).tr k3⟩
        refine e_iload 37 70 rfl rfl rfl ?_
        refine e_iconst 38 71 rfl rfl ?_
        refine e_icmp_eq 39 87 74 rfl rfl rfl hxr (by unfold xr at *; omega) (fun h9 => absurd h9 hrm) (fun _ => ?_)
        refine e_aload_n 40 75 rfl rfl rfl rfl ?_
        refine g_getR 41 78 ckX12 flX12_7 rfl rfl (Nat.le_of_ble_eq_true rfl) rfl rfl ?_
        refine e_iload 42 80 rfl rfl rfl ?_
        refine g_iaload 43 81 rfl rfl (Nat.le_of_ble_eq_true rfl) rfl (by omega) (by omega) (by omega) u1 ?_
        refine e_iconst 44 82 rfl rfl ?_
        refine e_icmp_eq 45 87 85 rfl rfl rfl (by unfold xr at *; omega) (by unfold xr at *; omega) (fun _ => ?_) (fun h9 => absurd h9 (fun q => q rfl))
        refine e_iload 48 89 rfl rfl rfl ?_
        refine e_istore 49 91 (ls' := [some _, some _, some _, some _, some _, some _, some _, some _, some _, none, none, none]) rfl rfl (Nat.le_of_ble_eq_true rfl) rfl ?_
        refine e_iload 50 93 rfl rfl rfl ?_
        refine e_iconst 51 94 rfl rfl ?_
        refine e_icmp_ne 52 101 97 rfl rfl rfl hxr (by unfold xr at *; omega) (fun _ => ?_) (fun h9 => absurd h9 hrm)
        refine e_aload_n 55 102 rfl rfl rfl rfl ?_
        refine e_aload_n 56 103 rfl rfl rfl rfl ?_
        refine g_getR 57 106 ckX12 flX12_7 rfl rfl (Nat.le_of_ble_eq_true rfl) rfl rfl ?_
        refine e_iload 58 108 rfl rfl rfl ?_
        refine e_iload 59 110 rfl rfl rfl ?_
        refine g_callV 60 113 (c1) okX12_fieldOf cvX12_155 ⟨(Nat.le_of_ble_eq_true rfl), (Nat.le_of_ble_eq_true rfl)⟩ rfl rfl (Nat.le_of_ble_eq_true rfl) rfl rfl rfl rfl rfl (Nat.le_of_ble_eq_true rfl) (Nat.le_of_ble_eq_true rfl) (Nat.le_of_ble_eq_true rfl) ?_
        refine e_istore 61 115 (ls' := [some _, some _, some _, some _, some _, some _, some _, some _, some _, some _, none, none]) rfl rfl (Nat.le_of_ble_eq_true rfl) rfl ?_
        exact k1
      · exact no (by omega) (by
          unfold edD
          rw [if_neg h8, eF]
          clear b1 b1' b3 b4 yf hkb no
          generalize get ((path - 8) / 8) F = g at e
          subst e
          split <;> rfl)
