/-! ===== steps: updates, whole ===== -/
/-- no object there: one is made -/
theorem upd115n {τ s : xSig} {m path op R fi f : Int} {F w : Fo} (hop : 0 ≤ op ∧ op ≤ 5) (h6 : ∀ f : Int, 0 ≤ f → f < 8 → s 286 f = τ 28 f) (hru : ∀ f : Int, 0 ≤ τ 28 f ∧ τ 28 f ≤ 4) (hR : MV s 282 11300 R (.add F (.num 0))) (hF : okf true false 0 F) (h24 : pa (.add F (.num 0)) ≤ 24) (hfi : 0 ≤ fi ∧ fi < 8) (hf : 0 ≤ f ∧ f < 8) (hgn : get fi F = .num 0)
    (hw : op = 1 ∨ (MV s 282 11300 (100 * (100 + (s 281 3 - 1)) + 1) w ∧ pa w ≤ 24)) :
    ∃ s', x_E MX12_updates 0 0 115 [some (.ref 281), some (.int (ii m)), some (.int (ii path)), some (.int (ii op)), some (.int (ii R)), some (.int (ii fi)), some (.int (ii (-1))), some (.int (ii f)), some (.int (ii (-1))), some (.int (ii (-1))), none, none] [] (St s) 0 0 (zv (upB τ (if (op = 2 ∨ op = 5) ∧ knd (tok (tk w) 0) ≠ 1 then none else if op = 1 ∨ op = 4 ∨ op = 5 then some F else (edF (.num 0) f op w).map fun m => setf fi (.add m (.num 0)) F))) (St s') ∧ (∀ F', (if (op = 2 ∨ op = 5) ∧ knd (tok (tk w) 0) ≠ 1 then none else if op = 1 ∨ op = 4 ∨ op = 5 then some F else (edF (.num 0) f op w).map fun m => setf fi (.add m (.num 0)) F) = some F' → MD s' (en (.add F' (.num 0)))) ∧ FP up9 s s' := by
  have hRb := hR.2.2.2
  have hol := ok1_pa hR.2.1
  have hw1 : op = 1 ∨ ok1 w := hw.imp (fun q => q) (fun q => q.1.2.1)
  have hxo : xr op := by unfold xr; omega
  have hpF : pa F ≤ 23 := by have : pa (.add F (.num 0)) = 1 + pa F := by simp [pa]
                             omega
  obtain ⟨s1, c1, c2, c3⟩ := sp_mWorks (p := -1) (g := .num 0) hop (hw.imp (fun q => q) (fun q => ⟨q.1, by omega⟩)) (Or.inl ⟨rfl, rfl⟩)
  have ee := edF_wv (.num 0) f op w hw1 hop
  have g1 : FP up9 s s1 := c3.mono rfl
  have hR1 := hR.of (c3.cell 282 rfl)
  have h61 : ∀ f : Int, 0 ≤ f → f < 8 → s1 286 f = τ 28 f := fun f a b => by rw [c3.cell 286 rfl]; exact h6 f a b
  by_cases hck : (op = 2 ∨ op = 5) ∧ knd (tok (tk w) 0) ≠ 1
  · have hb : wvb (.num 0) op w = false := by unfold wvb; rw [if_pos hck]
    rw [hb] at c1
    rw [if_pos hck]
    refine ⟨s1, ?_, fun F' h => (by cases h), g1⟩
    show x_E MX12_updates 0 0 115 _ _ _ 0 0 (zv false) _
    refine e_aload_n 62 116 rfl rfl rfl rfl ?_
    refine e_iload_n 63 117 rfl rfl rfl rfl ?_
    refine e_iload 64 119 rfl rfl rfl ?_
    refine g_callV 65 122 (c1) okX12_works cvX12_257 ⟨(Nat.le_of_ble_eq_true rfl), (Nat.le_of_ble_eq_true rfl)⟩ rfl rfl (Nat.le_of_ble_eq_true rfl) rfl rfl rfl rfl rfl (Nat.le_of_ble_eq_true rfl) (Nat.le_of_ble_eq_true rfl) (Nat.le_of_ble_eq_true rfl) ?_
    refine e_ifb_ne 66 127 125 rfl rfl rfl (fun hq => ?_) (fun hq => ?_)
    · skip
      cases hq
    · skip
      refine e_iconst 67 126 rfl rfl ?_
      exact e_zreturn 68 rfl rfl (Or.inl rfl) (Nat.le_of_ble_eq_true rfl) (Nat.le_of_ble_eq_true rfl)
  rw [if_neg hck]
  by_cases hA : op = 1 ∨ 4 ≤ op
  · have hb : wvb (.num 0) op w = true := by
      unfold wvb
      rw [if_neg hck]
      rcases (by omega : op = 1 ∨ op = 4 ∨ op = 5) with rfl | rfl | rfl <;> rfl
    rw [hb] at c1
    rw [if_pos (by omega : op = 1 ∨ op = 4 ∨ op = 5)]
    obtain ⟨s', k1, k2, k3⟩ := upd155 (τ := τ) (m := m) (path := path) (op := op) (fi := fi) (ob := -1) (f := f) (x8 := -1) (x9 := -1) hR1 h24 rfl hF (by omega) h61 hru
    refine ⟨s', ?_, fun F' h => by cases h; exact k2, g1.tr k3⟩
    refine e_aload_n 62 116 rfl rfl rfl rfl ?_
    refine e_iload_n 63 117 rfl rfl rfl rfl ?_
    refine e_iload 64 119 rfl rfl rfl ?_
    refine g_callV 65 122 (c1) okX12_works cvX12_257 ⟨(Nat.le_of_ble_eq_true rfl), (Nat.le_of_ble_eq_true rfl)⟩ rfl rfl (Nat.le_of_ble_eq_true rfl) rfl rfl rfl rfl rfl (Nat.le_of_ble_eq_true rfl) (Nat.le_of_ble_eq_true rfl) (Nat.le_of_ble_eq_true rfl) ?_
    refine e_ifb_ne 66 127 125 rfl rfl rfl (fun hq => ?_) (fun hq => ?_)
    · skip
      refine e_iload 69 129 rfl rfl rfl ?_
      refine e_iconst 70 130 rfl rfl ?_
      refine e_icmp_ne 71 147 133 rfl rfl rfl (by unfold xr at *; omega) (by unfold xr at *; omega) (fun h9 => absurd h9 (fun q => q rfl)) (fun _ => ?_)
      refine e_iload_n 72 134 rfl rfl rfl rfl ?_
      refine e_iconst 73 135 rfl rfl ?_
      refine e_icmp_eq 74 143 138 rfl rfl rfl hxo (by unfold xr at *; omega) (fun h1 => ?_) (fun h1 => ?_)
      · skip
        refine e_iconst 78 144 rfl rfl ?_
        refine e_goto 79 148 rfl rfl ?_
        refine e_istore 81 150 (ls' := [some _, some _, some _, some _, some _, some _, some _, some _, some _, some _, some _, none]) rfl rfl (Nat.le_of_ble_eq_true rfl) rfl ?_
        refine e_iload 82 152 rfl rfl rfl ?_
        refine e_if_eq 83 183 155 rfl rfl rfl (by unfold xr at *; omega) (fun h9 => absurd h9 (by omega)) (fun _ => ?_)
        exact k1
      · skip
        refine e_iload_n 75 139 rfl rfl rfl rfl ?_
        refine e_iconst 76 140 rfl rfl ?_
        refine e_icmp_lt 77 147 143 rfl rfl rfl hxo (by unfold xr at *; omega) (fun h9 => absurd h9 (by omega)) (fun _ => ?_)
        refine e_iconst 78 144 rfl rfl ?_
        refine e_goto 79 148 rfl rfl ?_
        refine e_istore 81 150 (ls' := [some _, some _, some _, some _, some _, some _, some _, some _, some _, some _, some _, none]) rfl rfl (Nat.le_of_ble_eq_true rfl) rfl ?_
        refine e_iload 82 152 rfl rfl rfl ?_
        refine e_if_eq 83 183 155 rfl rfl rfl (by unfold xr at *; omega) (fun h9 => absurd h9 (by omega)) (fun _ => ?_)
        exact k1
    · skip
      cases hq
  · have h1 : op ≠ 1 := fun q => hA (Or.inl q)
    obtain ⟨hwM, hw24⟩ := hw.resolve_left h1
    have hwo := hwM.2.1
    rw [if_neg (by omega : ¬(op = 1 ∨ op = 4 ∨ op = 5))]
    obtain ⟨v, hv⟩ : ∃ v, wv (.num 0) op w = some v := by
      rcases (by omega : op = 0 ∨ op = 2 ∨ op = 3) with rfl | rfl | rfl <;> exact ⟨_, rfl⟩
    have hb : wvb (.num 0) op w = true := by
      unfold wvb
      rw [if_neg hck, hv]
      rfl
    rw [hb] at c1
    have hv' : wv (get f (.num 0)) op w = some v := hv
    rw [ee, hv', Option.map_some, Option.map_some]
    obtain ⟨q1, q2⟩ : ok1 v ∧ pa v ≤ 25 := by
      rcases wv_ok hop h1 hwo (Or.inl rfl) hv with ⟨-, -, q⟩ | ⟨q1, q2, -⟩
      · omega
      · have : pa (.num 0) = 0 := rfl
        exact ⟨q1, by omega⟩
    have hV := c2 hb v hv
    rw [wset_ok q1 h1]
    have hG : okf true false 0 (setf f v (.num 0)) := setf_ok (.num 0) f v _ _ ⟨rfl, rfl⟩ q1 hf.1 hf.2
    have hGp : pa (setf f v (.num 0)) = pa v := by
      have := setf_pa (.num 0) f v false 0 ⟨rfl, rfl⟩ q1
      have e0 : pa (.num 0) = 0 := rfl
      have e1 : pa (get f (.num 0)) = 0 := rfl
      omega
    have hGe : en (setf f v (.num 0)) = f :: en v := by
      have : setf f v (.num 0) = .mulL f v := by
        rcases q1 with ⟨x, rfl, -⟩ | ⟨c, rfl, -⟩ | ⟨c, rfl, -⟩ <;> rfl
      rw [this]
      rfl
    generalize setf f v (.num 0) = G at *
    have hGo : ok1 (.add G (.num 0)) := Or.inr (Or.inl ⟨_, rfl, hG⟩)
    have hlv := ok1_pa q1
    have hF' : okf true false 0 (setf fi (.add G (.num 0)) F) := setf_ok F fi _ _ _ hF hGo hfi.1 hfi.2
    have hFp : pa (.add (setf fi (.add G (.num 0)) F) (.num 0)) ≤ 52 := by
      have := setf_pa F fi (.add G (.num 0)) false 0 hF hGo
      rw [hgn] at this
      have e0 : pa (.num 0) = 0 := rfl
      simp only [pa] at this ⊢
      omega
    -- the shift, and what is put round it
    obtain ⟨n, hn⟩ : ∃ n : Nat, (en v).length = n := ⟨_, rfl⟩
    have hV5 : s1 281 5 = n := by rw [hV.1, hn]
    have v5 : ∀ j : Int, sft s1 n 281 j = s1 281 j := fun j => sft_f s1 n 281 j (by simp [inP])
    have f9 : FP up9 s1 (xu (xu (xu (xu (sft s1 n) 284 0 4) 284 1 f) 284 (n + 2) (-1)) 281 5 (n + 3)) := by
      refine FP.put (FP.putA (FP.putA (FP.putA ((sft_f s1 n).mono rfl) rfl) rfl) rfl) rfl
    have hE2 : EA (xu (xu (xu (xu (sft s1 n) 284 0 4) 284 1 f) 284 (n + 2) (-1)) 281 5 (n + 3)) 284 0 (en (.add G (.num 0))) := by
      have e : en (.add G (.num 0)) = 4 :: f :: (en v ++ [-1]) := by
        simp only [en, hGe]
        rfl
      rw [e]
      refine EA.mk ?_ (EA.mk ?_ (EA.cat (fun i hi => ?_) (EA.mk ?_ EA.nil)))
      · rw [xu_other _ _ _ (by decide), xu_ne _ (Or.inr (by omega)), xu_ne _ (Or.inr (by omega)), xu_same]
      · rw [xu_other _ _ _ (by decide), xu_ne _ (Or.inr (by omega)), Int.zero_add, xu_same]
      · rw [hn] at hi
        rw [xu_other _ _ _ (by decide), xu_ne _ (Or.inr (by omega)), xu_ne _ (Or.inr (by omega)), xu_ne _ (Or.inr (by omega))]
        unfold sft
        rw [if_pos ⟨rfl, by omega, by omega⟩]
        have := hV.2.1 i (by omega)
        rw [← this]
        congr 1
        omega
      · rw [xu_other _ _ _ (by decide), hn, show (0 : Int) + 1 + 1 + n = n + 2 by omega, xu_same]
    have h85 : xu (xu (xu (xu (sft s1 n) 284 0 4) 284 1 f) 284 (n + 2) (-1)) 281 5 (n + 3) 281 5 = n + 3 := xu_same _ _ _ _
    have w1 : xu (xu (sft s1 n) 284 0 4) 284 1 f 281 5 = n := by rw [xu_other _ _ _ (by decide), xu_other _ _ _ (by decide), v5, hV5]
    have w2 : xu (xu (xu (sft s1 n) 284 0 4) 284 1 f) 284 (n + 2) (-1) 281 5 = n := by rw [xu_other _ _ _ (by decide)]; exact w1
    generalize hs2 : xu (xu (xu (xu (sft s1 n) 284 0 4) 284 1 f) 284 (n + 2) (-1)) 281 5 (n + 3) = s2 at *
    have hel : (en (.add G (.num 0))).length = n + 3 := by
      simp only [en, hGe, List.length_cons, List.length_append, List.length_nil]
      omega
    obtain ⟨s3, b1, b2, b3⟩ := sp_mBuilds (σ := s2) (root := R) (ob := R) (f := fi) (fr := 0) (to := n + 3) (F := F) (w := .add G (.num 0)) (V := .add F (.num 0)) (pre := []) (post := []) isMS_all isMS_val hfi hF (by omega) (hR1.of (f9.cell 282 rfl)) rfl (by simp) (Or.inr ⟨hGo, hE2, by omega, by rw [hel]; omega, by omega⟩) (by unfold xr; omega) (by rw [hel]; omega)
    rw [decF (by omega)] at b2
    have b2' : MD s3 (en (.add (setf fi (.add G (.num 0)) F) (.num 0))) := b2
    have g3 : FP up9 s s3 := (g1.tr f9).tr (b3.mono rfl)
    obtain ⟨s4, d1, d2⟩ := upd319 (τ := τ) (m := m) (path := path) (op := op) (R := R) (fi := fi) (ob := -1) (f := f) (x8 := -1) (x9 := -1) (x10 := bi false) b2' hF' hFp (fun f a b => by rw [g3.cell 286 rfl]; exact h6 f a b) hru
    refine ⟨s4, ?_, fun F' h => (by cases h; exact b2'.fp d2), g3.tr (d2.mono rfl)⟩
    have k224 : x_E MX12_updates 0 0 224 [some (.ref 281), some (.int (ii m)), some (.int (ii path)), some (.int (ii op)), some (.int (ii R)), some (.int (ii fi)), some (.int (ii (-1))), some (.int (ii f)), some (.int (ii (-1))), some (.int (ii (-1))), some (.int (ii (bi false))), none] [] (St (sft s1 n)) 0 0 (zv (upB τ (some (setf fi (.add G (.num 0)) F)))) (St s4) := by
      refine e_aload_n 120 225 rfl rfl rfl rfl ?_
      refine g_getR 121 228 ckX12 flX12_17 rfl rfl (Nat.le_of_ble_eq_true rfl) rfl rfl ?_
      refine e_iconst 122 229 rfl rfl ?_
      refine e_iconst 123 230 rfl rfl ?_
      refine g_iastore 124 231 rfl rfl (Nat.le_of_ble_eq_true rfl) rfl (by omega) (by omega) (by omega) ?_
      refine e_aload_n 125 232 rfl rfl rfl rfl ?_
      refine g_getR 126 235 ckX12 flX12_17 rfl rfl (Nat.le_of_ble_eq_true rfl) rfl rfl ?_
      refine e_iconst 127 236 rfl rfl ?_
      refine e_iload 128 238 rfl rfl rfl ?_
      refine g_iastore 129 239 rfl rfl (Nat.le_of_ble_eq_true rfl) rfl (by omega) (by omega) (by omega) ?_
      refine e_aload_n 130 240 rfl rfl rfl rfl ?_
      refine g_getR 131 243 ckX12 flX12_17 rfl rfl (Nat.le_of_ble_eq_true rfl) rfl rfl ?_
      refine e_aload_n 132 244 rfl rfl rfl rfl ?_
      refine g_getI 133 247 5 ckX12 flX12_247 rfl rfl (Nat.le_of_ble_eq_true rfl) rfl rfl rfl w1 ?_
      refine e_iconst 134 248 rfl rfl ?_
      refine e_iadd 135 249 rfl rfl ?_
      refine e_iconst 136 250 rfl rfl ?_
      refine g_iastore 137 251 rfl rfl (Nat.le_of_ble_eq_true rfl) rfl (by omega) (by omega) (by omega) ?_
      refine e_aload_n 138 252 rfl rfl rfl rfl ?_
      refine e_dup 139 253 rfl rfl rfl ?_
      refine g_getI 140 256 5 ckX12 flX12_247 rfl rfl (Nat.le_of_ble_eq_true rfl) rfl rfl rfl w2 ?_
      refine e_iconst 141 257 rfl rfl ?_
      refine e_iadd 142 258 rfl rfl ?_
      refine g_putI 143 261 5 ckX12 flX12_247 rfl rfl (Nat.le_of_ble_eq_true rfl) rfl rfl rfl ?_
      rw [hs2]
      refine e_aload_n 144 262 rfl rfl rfl rfl ?_
      refine e_aload_n 145 263 rfl rfl rfl rfl ?_
      refine g_getR 146 266 ckX12 flX12_7 rfl rfl (Nat.le_of_ble_eq_true rfl) rfl rfl ?_
      refine e_iload 147 268 rfl rfl rfl ?_
      refine e_iload 148 270 rfl rfl rfl ?_
      refine e_iload 149 272 rfl rfl rfl ?_
      refine e_aload_n 150 273 rfl rfl rfl rfl ?_
      refine g_getR 151 276 ckX12 flX12_17 rfl rfl (Nat.le_of_ble_eq_true rfl) rfl rfl ?_
      refine e_iconst 152 277 rfl rfl ?_
      refine e_aload_n 153 278 rfl rfl rfl rfl ?_
      refine g_getI 154 281 5 ckX12 flX12_247 rfl rfl (Nat.le_of_ble_eq_true rfl) rfl rfl rfl h85 ?_
      refine g_callV 155 284 (b1) okX12_builds cvX12_196 ⟨(Nat.le_of_ble_eq_true rfl), (Nat.le_of_ble_eq_true rfl)⟩ rfl rfl (Nat.le_of_ble_eq_true rfl) rfl rfl rfl rfl rfl (Nat.le_of_ble_eq_true rfl) (Nat.le_of_ble_eq_true rfl) (Nat.le_of_ble_eq_true rfl) ?_
      refine e_goto 156 319 rfl rfl ?_
      exact d1
    have k197 := sft_lp n (by omega) s1 k224
    have hA2 : ¬ op = 1 := h1
    have hA4 : op < 4 := by omega
    refine e_aload_n 62 116 rfl rfl rfl rfl ?_
    refine e_iload_n 63 117 rfl rfl rfl rfl ?_
    refine e_iload 64 119 rfl rfl rfl ?_
    refine g_callV 65 122 (c1) okX12_works cvX12_257 ⟨(Nat.le_of_ble_eq_true rfl), (Nat.le_of_ble_eq_true rfl)⟩ rfl rfl (Nat.le_of_ble_eq_true rfl) rfl rfl rfl rfl rfl (Nat.le_of_ble_eq_true rfl) (Nat.le_of_ble_eq_true rfl) (Nat.le_of_ble_eq_true rfl) ?_
    refine e_ifb_ne 66 127 125 rfl rfl rfl (fun hq => ?_) (fun hq => ?_)
    · skip
      refine e_iload 69 129 rfl rfl rfl ?_
      refine e_iconst 70 130 rfl rfl ?_
      refine e_icmp_ne 71 147 133 rfl rfl rfl (by unfold xr at *; omega) (by unfold xr at *; omega) (fun h9 => absurd h9 (fun q => q rfl)) (fun _ => ?_)
      refine e_iload_n 72 134 rfl rfl rfl rfl ?_
      refine e_iconst 73 135 rfl rfl ?_
      refine e_icmp_eq 74 143 138 rfl rfl rfl hxo (by unfold xr at *; omega) (fun h9 => absurd h9 hA2) (fun _ => ?_)
      refine e_iload_n 75 139 rfl rfl rfl rfl ?_
      refine e_iconst 76 140 rfl rfl ?_
      refine e_icmp_lt 77 147 143 rfl rfl rfl hxo (by unfold xr at *; omega) (fun _ => ?_) (fun h9 => absurd h9 (by omega))
      refine e_iconst 80 148 rfl rfl ?_
      refine e_istore 81 150 (ls' := [some _, some _, some _, some _, some _, some _, some _, some _, some _, some _, some _, none]) rfl rfl (Nat.le_of_ble_eq_true rfl) rfl ?_
      refine e_iload 82 152 rfl rfl rfl ?_
      refine e_if_eq 83 183 155 rfl rfl rfl (by unfold xr at *; omega) (fun _ => ?_) (fun h9 => absurd h9 (by omega))
      refine e_iload 98 185 rfl rfl rfl ?_
      refine e_iconst 99 186 rfl rfl ?_
      refine e_icmp_ne 100 287 189 rfl rfl rfl (by unfold xr at *; omega) (by unfold xr at *; omega) (fun h9 => absurd h9 (fun q => q rfl)) (fun _ => ?_)
      refine e_aload_n 101 190 rfl rfl rfl rfl ?_
      refine g_getI 102 193 5 ckX12 flX12_247 rfl rfl (Nat.le_of_ble_eq_true rfl) rfl rfl rfl hV5 ?_
      refine e_iconst 103 194 rfl rfl ?_
      refine e_isub 104 195 rfl rfl ?_
      refine e_istore 105 197 (ls' := [some _, some _, some _, some _, some _, some _, some _, some _, some _, some _, some _, some _]) rfl rfl (Nat.le_of_ble_eq_true rfl) rfl ?_
      exact k197
    · skip
      cases hq
