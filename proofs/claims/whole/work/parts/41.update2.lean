/-! ===== the face: update, done ===== -/
/-- what stands after an edit that is taken: the numbers, the signs; m1: what the Editor's second value holds -/
abbrev uT2 (T : Nat → List Int) (F' : Fo) (m1 : List Int) : Nat → List Int := uT (uT T 244 (5000 :: (tk F' ++ [0]))) 246 m1
theorem uT2_o (T : Nat → List Int) (F' : Fo) (m1 : List Int) {b : Nat} (h4 : b ≠ 244) (h6 : b ≠ 246) : uT2 T F' m1 b = T b := (uT_ne _ _ h6).trans (uT_ne _ _ h4)
theorem uT2_4 (T : Nat → List Int) (F' : Fo) (m1 : List Int) : uT2 T F' m1 244 = 5000 :: (tk F' ++ [0]) := (uT_ne _ _ (by omega)).trans (uT_same _ _ _)
/-- the pile without its top value, but for UNSET -/
def ppd (σ : xSig) (op : Int) : xSig := if op = 1 then σ else xu σ 1 2 (σ 1 2 - 1)
theorem ppd_o (σ : xSig) (op : Int) : FX [1] σ (ppd σ op) := by
  unfold ppd
  split
  · exact FX.rf
  · exact FX.rf.xu (by decide)
theorem sp_update1 {σ : xSig} {T : Nat → List Int} {F F' w : Fo} (hA : VAll σ T) (h01 : n01 σ 27) (h : CHR σ) (hru : ∀ i : Int, 0 ≤ σ 28 i ∧ σ 28 i ≤ 4) {r p op : Int} {n : Nat} (hh : hasd σ n = true) (hr : 0 ≤ r ∧ r < 2) (hp : 0 ≤ p ∧ p < 72) (ho : 0 ≤ op ∧ op ≤ 5) (hs : 0 ≤ σ 1 2 ∧ σ 1 2 ≤ 10) (h0 : op = 1 ∨ 0 < σ 1 2) (hD : DC (T (31 + 2 * n)) F) (hw : op = 1 ∨ (ok1 w ∧ T (vtop σ) = tk w ∧ (tk w).length ≤ 72)) (he : edD F p op w = some F') (hF' : okf true false 0 F') (hx : pts (5000 :: (tk F' ++ [0])) ≤ 24 ∧ krl σ (5000 :: (tk F' ++ [0])) = true) (hv : xr (σ 231 8)) (hvr : xr (σ 236 r)) (hc : 0 ≤ σ 239 3 ∧ σ 239 3 < 1024) :
    ∃ σ' : xSig, FX eL σ σ' ∧ (∃ m1, VAll σ' (uT2 T F' m1)) ∧
      (lexc (5000 :: (tk F' ++ [0])) (T (31 + 2 * n)) = 0 → x_Sp MX11_update 0 0 [.ref 0, .int (ii r), .int (ii n), .int (ii p), .int (ii op)] (St σ) (zv false) (St (uro (ppd σ' op) r))) ∧
      (lexc (5000 :: (tk F' ++ [0])) (T (31 + 2 * n)) ≠ 0 → ∃ σ2 m1, x_Sp MX11_update 0 0 [.ref 0, .int (ii r), .int (ii n), .int (ii p), .int (ii op)] (St σ) (zv true) (St (tld σ2 (5000 :: (tk F' ++ [0])) 1 n r)) ∧ VAll σ2 (uT (uT2 T F' m1) (31 + 2 * n) (5000 :: (tk F' ++ [0]))) ∧ NV [] (ppd σ' op) σ2) := by
  have hni := hasd_in hh
  have hat := sp_stAt h01 (n := n) (by unfold xr; omega)
  rw [da_has hh] at hat
  have hvt : vO (vtop σ) = true := pv_vO _
  have hvb : vtop σ ≤ 23 := by unfold vtop pv; split <;> omega
  have hw' : op = 1 ∨ (ok1 w ∧ vO (vtop σ) = true ∧ vtop σ ≠ 244 ∧ vtop σ ≠ 246 ∧ VH σ (vtop σ) (vCap (vtop σ)) (tk w) ∧ (tk w).length ≤ 72) := by
    rcases hw with h | ⟨a, b, c⟩
    · exact Or.inl h
    · exact Or.inr ⟨a, hvt, by omega, by omega, by rw [← b]; exact hA _ hvt, c⟩
  obtain ⟨σ', k1, k2⟩ := sp_canEdit hp ho hD (vO_s n (by omega)).1 (by omega) (hA _ (vO_s n (by omega)).1) hw' (by have := hA 246 vO_246.1; rw [vO_246.2] at this; exact this) (by have := hA 244 vO_244.1; rw [vO_244.2] at this; exact this)
  rw [he] at k1 k2
  obtain ⟨m1, hA1⟩ := k2.all hA
  have hF : FX eL σ σ' := k2.2.2.2
  have hV : VH σ' 244 152 (5000 :: (tk F' ++ [0])) := k2.1 F' rfl
  have hpb := pts_bnd (5000 :: (tk F' ++ [0]))
  have hru' : ∀ i : Int, 0 ≤ σ' 28 i ∧ σ' 28 i ≤ 4 := fun i => by rw [hF 28 (by decide)]; exact hru i
  have hkr := sp_keepsRules hV hru'
  rw [show krl σ' (5000 :: (tk F' ++ [0])) = krl σ (5000 :: (tk F' ++ [0])) by unfold krl; rw [hF 28 (by decide)], hx.2] at hkr
  have hpo := ppd_o σ' op
  have e1 : σ' 1 = σ 1 := hF 1 (by decide)
  have hb0 : ∀ b : Nat, b ∉ [1, 244, 245, 246, 247] → ppd σ' op b = σ b := fun b q => (hpo b (fun e => q (by simp only [List.mem_cons, List.not_mem_nil, or_false] at e ⊢; omega))).trans (hF b (fun e => q (by simp only [eL, List.mem_cons, List.not_mem_nil, or_false] at e ⊢; omega)))
  have hA2 : VAll (ppd σ' op) (uT2 T F' m1) := by
    refine hA1.keep fun b hb => hpo b (fun e => ?_)
    simp only [List.mem_cons, List.not_mem_nil, or_false] at e
    rw [e] at hb
    exact absurd hb (by decide +kernel)
  have hVd : VH (ppd σ' op) (31 + 2 * n) (vCap (31 + 2 * n)) (T (31 + 2 * n)) := by
    have := hA2 (31 + 2 * n) (vO_s n (by omega)).1
    rw [uT2_o _ _ _ (by omega) (by omega)] at this
    exact this
  have hVe : VH (ppd σ' op) 244 152 (5000 :: (tk F' ++ [0])) := by
    have := hA2 244 vO_244.1
    rw [uT2_4, vO_244.2] at this
    exact this
  have hcv : Cv (5000 :: (tk F' ++ [0])) := nd_Cv trn_5 hF'
  have hcd : Cv (T (31 + 2 * n)) := by rw [hD.1]; exact nd_Cv trn_5 hD.2.1
  have hord := sp_order hVe hVd [] (5000 :: (tk F' ++ [0])) [] [] (T (31 + 2 * n)) [] (by simp) (by simp) hcv hcd
  have hC2 : CHR (ppd σ' op) := h.fx (hb0 231 (by decide)) (hb0 232 (by decide)) (hb0 233 (by decide)) (hb0 235 (by decide))
  have hup := sp_useRouter (σ := ppd σ' op) hr (by rw [hb0 231 (by decide)]; exact hv) (by rw [hb0 236 (by decide)]; exact hvr)
  have lx := lexc_in (5000 :: (tk F' ++ [0])) (T (31 + 2 * n))
  have go : ∀ {o : xO} {Y : xS}, x_E MX11_update 0 0 179 [some (.ref 0), some (.int (ii r)), some (.int (ii n)), some (.int (ii p)), some (.int (ii op)), some (.ref (31 + 2 * n)), some (.ref 244)] [] (St (ppd σ' op)) 0 0 o Y → x_Sp MX11_update 0 0 [.ref 0, .int (ii r), .int (ii n), .int (ii p), .int (ii op)] (St σ) o Y := by
    intro o Y hgo
    refine upd82 h01 (by unfold xr; omega) hh hr hp ho hs h0 ?_
    refine e_aload_n 38 83 rfl rfl rfl rfl ?_
    refine g_getR 39 86 ckX11 flX11_19 rfl rfl (Nat.le_of_ble_eq_true rfl) rfl rfl ?_
    refine e_iload_n 40 87 rfl rfl rfl rfl ?_
    refine g_callV 41 90 (hat) okX8_at cvX11_182 ⟨(Nat.le_of_ble_eq_true rfl), (Nat.le_of_ble_eq_true rfl)⟩ rfl rfl (Nat.le_of_ble_eq_true rfl) rfl rfl rfl rfl rfl (Nat.le_of_ble_eq_true rfl) (Nat.le_of_ble_eq_true rfl) (Nat.le_of_ble_eq_true rfl) ?_
    refine e_astore 42 92 (ls' := [some _, some _, some _, some _, some _, some _, none]) rfl rfl (Nat.le_of_ble_eq_true rfl) rfl ?_
    refine e_aload_n 43 93 rfl rfl rfl rfl ?_
    refine g_getR 44 96 ckX11 flX11_40 rfl rfl (Nat.le_of_ble_eq_true rfl) rfl rfl ?_
    refine e_aload 45 98 rfl rfl rfl ?_
    refine e_iload_n 46 99 rfl rfl rfl rfl ?_
    refine e_iload 47 101 rfl rfl rfl ?_
    refine e_aload_n 48 102 rfl rfl rfl rfl ?_
    refine g_getR 49 105 ckX11 flX11_12 rfl rfl (Nat.le_of_ble_eq_true rfl) rfl rfl ?_
    refine g_callV 50 108 (sp_pTop hs) okX5_top cvX11_95 ⟨(Nat.le_of_ble_eq_true rfl), (Nat.le_of_ble_eq_true rfl)⟩ rfl rfl (Nat.le_of_ble_eq_true rfl) rfl rfl rfl rfl rfl (Nat.le_of_ble_eq_true rfl) (Nat.le_of_ble_eq_true rfl) (Nat.le_of_ble_eq_true rfl) ?_
    refine g_callV 51 111 (k1) okX1_canEdit cvX11_186 ⟨(Nat.le_of_ble_eq_true rfl), (Nat.le_of_ble_eq_true rfl)⟩ rfl rfl (Nat.le_of_ble_eq_true rfl) rfl rfl rfl rfl rfl (Nat.le_of_ble_eq_true rfl) (Nat.le_of_ble_eq_true rfl) (Nat.le_of_ble_eq_true rfl) ?_
    refine e_ifb_ne 52 124 114 rfl rfl rfl (fun h2 => ?_) (fun h2 => ?_)
    · skip
      refine e_aload_n 58 125 rfl rfl rfl rfl ?_
      refine g_getR 59 128 ckX11 flX11_40 rfl rfl (Nat.le_of_ble_eq_true rfl) rfl rfl ?_
      refine g_callV 60 131 (sp_edited) okX1_edited cvX11_192 ⟨(Nat.le_of_ble_eq_true rfl), (Nat.le_of_ble_eq_true rfl)⟩ rfl rfl (Nat.le_of_ble_eq_true rfl) rfl rfl rfl rfl rfl (Nat.le_of_ble_eq_true rfl) (Nat.le_of_ble_eq_true rfl) (Nat.le_of_ble_eq_true rfl) ?_
      refine e_astore 61 133 (ls' := [some _, some _, some _, some _, some _, some _, some _]) rfl rfl (Nat.le_of_ble_eq_true rfl) rfl ?_
      refine e_aload 62 135 rfl rfl rfl ?_
      refine g_callV 63 138 (sp_pts hV) okX10_parts cvX11_106 ⟨(Nat.le_of_ble_eq_true rfl), (Nat.le_of_ble_eq_true rfl)⟩ rfl rfl (Nat.le_of_ble_eq_true rfl) rfl rfl rfl rfl rfl (Nat.le_of_ble_eq_true rfl) (Nat.le_of_ble_eq_true rfl) (Nat.le_of_ble_eq_true rfl) ?_
      refine e_bipush 64 140 rfl rfl rfl ?_
      refine e_icmp_gt 65 155 143 rfl rfl rfl (by unfold xr at *; omega) (by unfold xr at *; omega) (fun h9 => absurd h9 (by omega)) (fun _ => ?_)
      refine e_aload_n 66 144 rfl rfl rfl rfl ?_
      refine g_getR 67 147 ckX11 flX11_19 rfl rfl (Nat.le_of_ble_eq_true rfl) rfl rfl ?_
      refine e_aload 68 149 rfl rfl rfl ?_
      refine g_callV 69 152 (hkr) okX8_keepsRules cvX11_145 ⟨(Nat.le_of_ble_eq_true rfl), (Nat.le_of_ble_eq_true rfl)⟩ rfl rfl (Nat.le_of_ble_eq_true rfl) rfl rfl rfl rfl rfl (Nat.le_of_ble_eq_true rfl) (Nat.le_of_ble_eq_true rfl) (Nat.le_of_ble_eq_true rfl) ?_
      refine e_ifb_ne 70 165 155 rfl rfl rfl (fun h4 => ?_) (fun h4 => ?_)
      · skip
        refine e_iload 76 167 rfl rfl rfl ?_
        refine e_iconst 77 168 rfl rfl ?_
        refine e_icmp_eq 78 179 171 rfl rfl rfl (by unfold xr at *; omega) (by unfold xr at *; omega) (fun h5 => ?_) (fun h5 => ?_)
        · skip
          have e5 : ppd σ' op = σ' := by unfold ppd; rw [if_pos h5]
          rw [e5] at hgo
          exact hgo
        · skip
          have e5 : ppd σ' op = xu σ' 1 2 (σ' 1 2 - 1) := by unfold ppd; rw [if_neg h5]
          rw [e5] at hgo
          refine e_aload_n 79 172 rfl rfl rfl rfl ?_
          refine g_getR 80 175 ckX11 flX11_12 rfl rfl (Nat.le_of_ble_eq_true rfl) rfl rfl ?_
          refine g_callV 81 178 (sp_takeTop (σ := σ') (by rw [e1]; omega)) okX5_takeTop cvX11_116 ⟨(Nat.le_of_ble_eq_true rfl), (Nat.le_of_ble_eq_true rfl)⟩ rfl rfl (Nat.le_of_ble_eq_true rfl) rfl rfl rfl rfl rfl (Nat.le_of_ble_eq_true rfl) (Nat.le_of_ble_eq_true rfl) (Nat.le_of_ble_eq_true rfl) ?_
          refine e_pop 82 179 rfl rfl rfl ?_
          exact hgo
      · skip
        cases h4
    · skip
      cases h2
  refine ⟨σ', hF, ⟨m1, hA1⟩, fun hl => go ?_, fun hl => ?_⟩
  · rw [hl] at hord
    refine e_aload 83 181 rfl rfl rfl ?_
    refine e_iconst 84 182 rfl rfl ?_
    refine e_aload 85 184 rfl rfl rfl ?_
    refine e_iconst 86 185 rfl rfl ?_
    refine g_callS 87 188 (hord) okX10_order csX11_197 ⟨(Nat.le_of_ble_eq_true rfl), (Nat.le_of_ble_eq_true rfl)⟩ rfl rfl rfl rfl (Nat.le_of_ble_eq_true rfl) (Nat.le_of_ble_eq_true rfl) (Nat.le_of_ble_eq_true rfl) ?_
    refine e_if_ne 88 201 191 rfl rfl rfl (by unfold xr at *; omega) (fun h9 => absurd h9 (fun q => q rfl)) (fun _ => ?_)
    refine e_aload_n 89 192 rfl rfl rfl rfl ?_
    refine g_getR 90 195 ckX11 flX11_26 rfl rfl (Nat.le_of_ble_eq_true rfl) rfl rfl ?_
    refine e_iload_n 91 196 rfl rfl rfl rfl ?_
    refine g_callV 92 199 (hup) okX0_useRouter cvX11_201 ⟨(Nat.le_of_ble_eq_true rfl), (Nat.le_of_ble_eq_true rfl)⟩ rfl rfl (Nat.le_of_ble_eq_true rfl) rfl rfl rfl rfl rfl (Nat.le_of_ble_eq_true rfl) (Nat.le_of_ble_eq_true rfl) (Nat.le_of_ble_eq_true rfl) ?_
    refine e_iconst 93 200 rfl rfl ?_
    exact e_zreturn (x := 0) 94 rfl rfl (by omega) (Nat.le_of_ble_eq_true rfl) (Nat.le_of_ble_eq_true rfl)
  · obtain ⟨σ2, j1, j2, j3⟩ := sp_stPut hA2 (fun i => by rw [hb0 27 (by decide)]; exact h01 i) (n := n) (b := 244) (by omega) vO_244.1 (by omega) (by rw [uT2_4]; have := tk_len F' _ _ _ hF'; simp only [Bool.false_eq_true, if_false] at this; have q : pts (5000 :: (tk F' ++ [0])) = 1 + pa F' := (pts_tk (v := .add F' (.num 0)) (Or.inr (Or.inl ⟨F', rfl, hF'⟩))).trans (by simp [pa]); simp only [List.length_cons, List.length_append, List.length_nil]; omega)
    rw [uT2_4] at j2
    have hhd : hasd (ppd σ' op) n = true := by rw [hasd_congr (hb0 27 (by decide))]; exact hh
    have ep : putd (ppd σ' op) n = ppd σ' op := by unfold putd; rw [if_pos hhd]
    rw [ep] at j3
    have hb3 : ∀ b : Nat, vA b = false → b ∉ [1, 244, 245, 246, 247] → σ2 b = σ b := fun b q1 q2 => (j3 b q1 (by simp)).trans (hb0 b q2)
    have hC3 : CHR σ2 := h.fx (hb3 231 (by decide +kernel) (by decide)) (hb3 232 (by decide +kernel) (by decide)) (hb3 233 (by decide +kernel) (by decide)) (hb3 235 (by decide +kernel) (by decide))
    have htc := sp_tellChange j2 (n := n) (fun i => by rw [hb3 27 (by decide +kernel) (by decide)]; exact h01 i) hC3 (by rw [hasd_congr (hb3 27 (by decide +kernel) (by decide))]; exact hh) hr (w := 1) (by rw [hb3 231 (by decide +kernel) (by decide)]; exact hv) (by rw [hb3 236 (by decide +kernel) (by decide)]; exact hvr) (by rw [hb3 239 (by decide +kernel) (by decide)]; exact hc)
    rw [uT_same] at htc
    refine ⟨σ2, m1, go ?_, j2, j3⟩
    refine e_aload 83 181 rfl rfl rfl ?_
    refine e_iconst 84 182 rfl rfl ?_
    refine e_aload 85 184 rfl rfl rfl ?_
    refine e_iconst 86 185 rfl rfl ?_
    refine g_callS 87 188 (hord) okX10_order csX11_197 ⟨(Nat.le_of_ble_eq_true rfl), (Nat.le_of_ble_eq_true rfl)⟩ rfl rfl rfl rfl (Nat.le_of_ble_eq_true rfl) (Nat.le_of_ble_eq_true rfl) (Nat.le_of_ble_eq_true rfl) ?_
    refine e_if_ne 88 201 191 rfl rfl rfl (by unfold xr at *; omega) (fun _ => ?_) (fun h9 => absurd h9 (by omega))
    refine e_aload_n 95 202 rfl rfl rfl rfl ?_
    refine g_getR 96 205 ckX11 flX11_19 rfl rfl (Nat.le_of_ble_eq_true rfl) rfl rfl ?_
    refine e_iload_n 97 206 rfl rfl rfl rfl ?_
    refine e_aload 98 208 rfl rfl rfl ?_
    refine g_callV 99 211 (j1) okX8_put cvX11_159 ⟨(Nat.le_of_ble_eq_true rfl), (Nat.le_of_ble_eq_true rfl)⟩ rfl rfl (Nat.le_of_ble_eq_true rfl) rfl rfl rfl rfl rfl (Nat.le_of_ble_eq_true rfl) (Nat.le_of_ble_eq_true rfl) (Nat.le_of_ble_eq_true rfl) ?_
    refine e_aload_n 100 212 rfl rfl rfl rfl ?_
    refine e_iconst 101 213 rfl rfl ?_
    refine e_iload_n 102 214 rfl rfl rfl rfl ?_
    refine e_iload_n 103 215 rfl rfl rfl rfl ?_
    refine g_callV 104 218 (htc) okX11_tellChange cvX11_162 ⟨(Nat.le_of_ble_eq_true rfl), (Nat.le_of_ble_eq_true rfl)⟩ rfl rfl (Nat.le_of_ble_eq_true rfl) rfl rfl rfl rfl rfl (Nat.le_of_ble_eq_true rfl) (Nat.le_of_ble_eq_true rfl) (Nat.le_of_ble_eq_true rfl) ?_
    refine e_pop 105 219 rfl rfl rfl ?_
    refine e_iconst 106 220 rfl rfl ?_
    exact e_zreturn (x := 1) 107 rfl rfl (by omega) (Nat.le_of_ble_eq_true rfl) (Nat.le_of_ble_eq_true rfl)
