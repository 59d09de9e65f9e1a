/-! ===== the face: documents ===== -/
theorem uro_o (σ : xSig) (r : Int) : FX [236, 237] σ (uro σ r) := by
  unfold uro
  split
  · exact FX.rf
  · exact (FX.rf.xu (by decide)).xu (by decide)
theorem CHR.fx {σ σ' : xSig} (h : CHR σ) (h1 : σ' 231 = σ 231) (h2 : σ' 232 = σ 232) (h3 : σ' 233 = σ 233) (h4 : σ' 235 = σ 235) : CHR σ' := h.same ⟨h1, h2, h3⟩ (fun i => by rw [h4]; exact h.2.2.2.2.2.2.2 i)
theorem uro_CHR {σ : xSig} (h : CHR σ) (r : Int) : CHR (uro σ r) := by
  have o := uro_o σ r
  exact h.fx (o 231 (by decide)) (o 232 (by decide)) (o 233 (by decide)) (o 235 (by decide))
theorem uro_shd {σ : xSig} (r : Int) (t : List Int) : chk (uro σ r) t = chk σ t ∧ shd (uro σ r) t = shd σ t := by
  have o := uro_o σ r
  have := chk_congr (σ := σ) (σ' := uro σ r) ⟨o 231 (by decide), o 232 (by decide), o 233 (by decide)⟩ t
  exact ⟨this.1, this.2.1⟩
theorem shd_bnd {σ : xSig} (h : CHR σ) (t : List Int) : 0 ≤ shd σ t ∧ shd σ t < 3 := by
  rw [shd_eq h]
  exact h.2.2.2.2.2.2.1 _
/-- a change is told -/
def tld (σ : xSig) (t : List Int) (w n r : Int) : xSig := entd (cao (uro σ r) n t) w n (shd σ t)
theorem sp_tellChange {σ : xSig} {T : Nat → List Int} (hA : VAll σ T) (h01 : n01 σ 27) (h : CHR σ) {n : Nat} (hn : hasd σ n = true) {r w : Int} (hr : 0 ≤ r ∧ r < 2) (hv : xr (σ 231 8)) (hvr : xr (σ 236 r)) (hc : 0 ≤ σ 239 3 ∧ σ 239 3 < 1024) : x_Sp MX11_tellChange 0 0 [.ref 0, .int (ii w), .int (ii n), .int (ii r)] (St σ) (iv (shd σ (T (31 + 2 * n)))) (St (tld σ (T (31 + 2 * n)) w n r)) := by
  have hni := hasd_in hn
  have hat := sp_stAt h01 (n := n) (by unfold xr; omega)
  rw [da_has hn] at hat
  have hvd := (vO_s n (by omega)).1
  have o := uro_o σ r
  have hV1 : VH (uro σ r) (31 + 2 * n) (vCap (31 + 2 * n)) (T (31 + 2 * n)) := (hA.fx o (by decide +kernel)) _ hvd
  have hcp := sp_copyAtOnce (uro_CHR h r) hV1 (n := n) (by omega)
  have e3 : cao (uro σ r) n (T (31 + 2 * n)) 239 3 = σ 239 3 := by unfold cao; rw [xu_other _ _ _ (by decide), o 239 (by decide)]
  have hen := sp_enPut (σ := cao (uro σ r) n (T (31 + 2 * n))) (by rw [e3]; exact hc) (w := w) (n := n) (s := shd σ (T (31 + 2 * n)))
  unfold tld
  refine e_entry okX11_tellChange (Nat.le_of_ble_eq_true rfl) (ls := [some _, some _, some _, some _, none, none]) rfl ?_
  refine e_aload_n 0 1 rfl rfl rfl rfl ?_
  refine g_getR 1 4 ckX11 flX11_19 rfl rfl (Nat.le_of_ble_eq_true rfl) rfl rfl ?_
  refine e_iload_n 2 5 rfl rfl rfl rfl ?_
  refine g_callV 3 8 (hat) okX8_at cvX11_182 ⟨(Nat.le_of_ble_eq_true rfl), (Nat.le_of_ble_eq_true rfl)⟩ rfl rfl (Nat.le_of_ble_eq_true rfl) rfl rfl rfl rfl rfl (Nat.le_of_ble_eq_true rfl) (Nat.le_of_ble_eq_true rfl) (Nat.le_of_ble_eq_true rfl) ?_
  refine e_astore 4 10 (ls' := [some _, some _, some _, some _, some _, none]) rfl rfl (Nat.le_of_ble_eq_true rfl) rfl ?_
  refine e_aload_n 5 11 rfl rfl rfl rfl ?_
  refine g_getR 6 14 ckX11 flX11_26 rfl rfl (Nat.le_of_ble_eq_true rfl) rfl rfl ?_
  refine e_aload 7 16 rfl rfl rfl ?_
  refine g_callV 8 19 (sp_shardOf h (hA _ hvd)) okX0_shardOf cvX11_363 ⟨(Nat.le_of_ble_eq_true rfl), (Nat.le_of_ble_eq_true rfl)⟩ rfl rfl (Nat.le_of_ble_eq_true rfl) rfl rfl rfl rfl rfl (Nat.le_of_ble_eq_true rfl) (Nat.le_of_ble_eq_true rfl) (Nat.le_of_ble_eq_true rfl) ?_
  refine e_istore 9 21 (ls' := [some _, some _, some _, some _, some _, some _]) rfl rfl (Nat.le_of_ble_eq_true rfl) rfl ?_
  refine e_aload_n 10 22 rfl rfl rfl rfl ?_
  refine g_getR 11 25 ckX11 flX11_26 rfl rfl (Nat.le_of_ble_eq_true rfl) rfl rfl ?_
  refine e_iload_n 12 26 rfl rfl rfl rfl ?_
  refine g_callV 13 29 (sp_useRouter hr hv hvr) okX0_useRouter cvX11_201 ⟨(Nat.le_of_ble_eq_true rfl), (Nat.le_of_ble_eq_true rfl)⟩ rfl rfl (Nat.le_of_ble_eq_true rfl) rfl rfl rfl rfl rfl (Nat.le_of_ble_eq_true rfl) (Nat.le_of_ble_eq_true rfl) (Nat.le_of_ble_eq_true rfl) ?_
  refine e_aload_n 14 30 rfl rfl rfl rfl ?_
  refine g_getR 15 33 ckX11 flX11_26 rfl rfl (Nat.le_of_ble_eq_true rfl) rfl rfl ?_
  refine e_iload_n 16 34 rfl rfl rfl rfl ?_
  refine e_aload 17 36 rfl rfl rfl ?_
  refine g_callV 18 39 (hcp) okX0_copyAtOnce cvX11_413 ⟨(Nat.le_of_ble_eq_true rfl), (Nat.le_of_ble_eq_true rfl)⟩ rfl rfl (Nat.le_of_ble_eq_true rfl) rfl rfl rfl rfl rfl (Nat.le_of_ble_eq_true rfl) (Nat.le_of_ble_eq_true rfl) (Nat.le_of_ble_eq_true rfl) ?_
  refine e_aload_n 19 40 rfl rfl rfl rfl ?_
  refine g_getR 20 43 ckX11 flX11_33 rfl rfl (Nat.le_of_ble_eq_true rfl) rfl rfl ?_
  refine e_iload_n 21 44 rfl rfl rfl rfl ?_
  refine e_iload_n 22 45 rfl rfl rfl rfl ?_
  refine e_iload 23 47 rfl rfl rfl ?_
  refine g_callV 24 50 (hen) okX9_put cvX11_416 ⟨(Nat.le_of_ble_eq_true rfl), (Nat.le_of_ble_eq_true rfl)⟩ rfl rfl (Nat.le_of_ble_eq_true rfl) rfl rfl rfl rfl rfl (Nat.le_of_ble_eq_true rfl) (Nat.le_of_ble_eq_true rfl) (Nat.le_of_ble_eq_true rfl) ?_
  refine e_iload 25 52 rfl rfl rfl ?_
  exact e_ireturn 26 rfl rfl (Nat.le_of_ble_eq_true rfl) (Nat.le_of_ble_eq_true rfl)
/-- a document is taken away -/
def tka (σ : xSig) (t : List Int) (n : Int) : xSig := entd (xu (outd σ n) 235 n 0) 2 n (shd σ t)
theorem sp_takeAway {σ : xSig} {T : Nat → List Int} (hA : VAll σ T) (h01 : n01 σ 27) (h : CHR σ) {n : Nat} (hn : hasd σ n = true) (hc : 0 ≤ σ 239 3 ∧ σ 239 3 < 1024) : x_Sp MX11_takeAway 0 0 [.ref 0, .int (ii n)] (St σ) (iv (shd σ (T (31 + 2 * n)))) (St (tka σ (T (31 + 2 * n)) n)) := by
  have hni := hasd_in hn
  have hat := sp_stAt h01 (n := n) (by unfold xr; omega)
  rw [da_has hn] at hat
  have hvd := (vO_s n (by omega)).1
  have e3 : xu (outd σ n) 235 n 0 239 3 = σ 239 3 := by unfold outd; rw [xu_other _ _ _ (by decide), xu_other _ _ _ (by decide), xu_other _ _ _ (by decide)]
  have hen := sp_enPut (σ := xu (outd σ n) 235 n 0) (by rw [e3]; exact hc) (w := 2) (n := n) (s := shd σ (T (31 + 2 * n)))
  unfold tka
  refine e_entry okX11_takeAway (Nat.le_of_ble_eq_true rfl) (ls := [some _, some _, none]) rfl ?_
  refine e_aload_n 0 1 rfl rfl rfl rfl ?_
  refine g_getR 1 4 ckX11 flX11_26 rfl rfl (Nat.le_of_ble_eq_true rfl) rfl rfl ?_
  refine e_aload_n 2 5 rfl rfl rfl rfl ?_
  refine g_getR 3 8 ckX11 flX11_19 rfl rfl (Nat.le_of_ble_eq_true rfl) rfl rfl ?_
  refine e_iload_n 4 9 rfl rfl rfl rfl ?_
  refine g_callV 5 12 (hat) okX8_at cvX11_182 ⟨(Nat.le_of_ble_eq_true rfl), (Nat.le_of_ble_eq_true rfl)⟩ rfl rfl (Nat.le_of_ble_eq_true rfl) rfl rfl rfl rfl rfl (Nat.le_of_ble_eq_true rfl) (Nat.le_of_ble_eq_true rfl) (Nat.le_of_ble_eq_true rfl) ?_
  refine g_callV 6 15 (sp_shardOf h (hA _ hvd)) okX0_shardOf cvX11_363 ⟨(Nat.le_of_ble_eq_true rfl), (Nat.le_of_ble_eq_true rfl)⟩ rfl rfl (Nat.le_of_ble_eq_true rfl) rfl rfl rfl rfl rfl (Nat.le_of_ble_eq_true rfl) (Nat.le_of_ble_eq_true rfl) (Nat.le_of_ble_eq_true rfl) ?_
  refine e_istore_n 7 16 (ls' := [some _, some _, some _]) rfl rfl rfl (Nat.le_of_ble_eq_true rfl) rfl ?_
  refine e_aload_n 8 17 rfl rfl rfl rfl ?_
  refine g_getR 9 20 ckX11 flX11_19 rfl rfl (Nat.le_of_ble_eq_true rfl) rfl rfl ?_
  refine e_iload_n 10 21 rfl rfl rfl rfl ?_
  refine g_callV 11 24 (sp_stOut hn) okX8_takeOut cvX11_419 ⟨(Nat.le_of_ble_eq_true rfl), (Nat.le_of_ble_eq_true rfl)⟩ rfl rfl (Nat.le_of_ble_eq_true rfl) rfl rfl rfl rfl rfl (Nat.le_of_ble_eq_true rfl) (Nat.le_of_ble_eq_true rfl) (Nat.le_of_ble_eq_true rfl) ?_
  refine e_aload_n 12 25 rfl rfl rfl rfl ?_
  refine g_getR 13 28 ckX11 flX11_26 rfl rfl (Nat.le_of_ble_eq_true rfl) rfl rfl ?_
  refine e_iload_n 14 29 rfl rfl rfl rfl ?_
  refine g_callV 15 32 (sp_dropCopy (n := n) (by omega)) okX0_dropCopy cvX11_422 ⟨(Nat.le_of_ble_eq_true rfl), (Nat.le_of_ble_eq_true rfl)⟩ rfl rfl (Nat.le_of_ble_eq_true rfl) rfl rfl rfl rfl rfl (Nat.le_of_ble_eq_true rfl) (Nat.le_of_ble_eq_true rfl) (Nat.le_of_ble_eq_true rfl) ?_
  refine e_aload_n 16 33 rfl rfl rfl rfl ?_
  refine g_getR 17 36 ckX11 flX11_33 rfl rfl (Nat.le_of_ble_eq_true rfl) rfl rfl ?_
  refine e_iconst 18 37 rfl rfl ?_
  refine e_iload_n 19 38 rfl rfl rfl rfl ?_
  refine e_iload_n 20 39 rfl rfl rfl rfl ?_
  refine g_callV 21 42 (hen) okX9_put cvX11_416 ⟨(Nat.le_of_ble_eq_true rfl), (Nat.le_of_ble_eq_true rfl)⟩ rfl rfl (Nat.le_of_ble_eq_true rfl) rfl rfl rfl rfl rfl (Nat.le_of_ble_eq_true rfl) (Nat.le_of_ble_eq_true rfl) (Nat.le_of_ble_eq_true rfl) ?_
  refine e_iload_n 22 43 rfl rfl rfl rfl ?_
  exact e_ireturn 23 rfl rfl (Nat.le_of_ble_eq_true rfl) (Nat.le_of_ble_eq_true rfl)
/-- whether a document's time is over -/
def xpd (σ : xSig) (T : Nat → List Int) (n : Nat) : Bool := decide (σ 0 8 ≠ -1) && (hasd σ n && decide (knd (tok (T (31 + 2 * n)) (pl1 (T (31 + 2 * n)) (σ 0 8))) = 1 ∧ tok (T (31 + 2 * n)) (pl1 (T (31 + 2 * n)) (σ 0 8)) - 2000 ≤ σ 0 9))
theorem sp_isExpired {σ : xSig} {T : Nat → List Int} (hA : VAll σ T) (h01 : n01 σ 27) (h8 : -1 ≤ σ 0 8 ∧ σ 0 8 < 8) (h9 : xr (σ 0 9)) {n : Nat} (hn : n < 100) : Rd MX11_isExpired [.ref 0, .int (ii n)] σ (zv (xpd σ T n)) := by
  have no : xpd σ T n = false → ∀ ls, ls = [some (.ref 0), some (.int (ii n)), none, none] → x_E MX11_isExpired 0 0 19 ls [] (St σ) 0 0 (zv (xpd σ T n)) (St σ) := by
    intro e ls hls
    subst hls
    rw [e]
    refine e_iconst 9 20 rfl rfl ?_
    exact e_zreturn (x := 0) 10 rfl rfl (by omega) (Nat.le_of_ble_eq_true rfl) (Nat.le_of_ble_eq_true rfl)
  have hhas := sp_has h01 (n := n) (by unfold xr; omega)
  refine e_entry okX11_isExpired (Nat.le_of_ble_eq_true rfl) (ls := [some _, some _, none, none]) rfl ?_
  refine e_aload_n 0 1 rfl rfl rfl rfl ?_
  refine g_getI 1 4 8 ckX11 flX11_65 rfl rfl (Nat.le_of_ble_eq_true rfl) rfl rfl rfl rfl ?_
  refine e_iconst 2 5 rfl rfl ?_
  refine e_icmp_eq 3 19 8 rfl rfl rfl (by unfold xr at *; omega) (by unfold xr at *; omega) (fun h1 => ?_) (fun h1 => ?_)
  · skip
    exact no (by unfold xpd; rw [decide_eq_false (fun q => q h1), Bool.false_and]) _ rfl
  · skip
    refine e_aload_n 4 9 rfl rfl rfl rfl ?_
    refine g_getR 5 12 ckX11 flX11_19 rfl rfl (Nat.le_of_ble_eq_true rfl) rfl rfl ?_
    refine e_iload_n 6 13 rfl rfl rfl rfl ?_
    refine g_callV 7 16 (hhas) okX8_has cvX11_151 ⟨(Nat.le_of_ble_eq_true rfl), (Nat.le_of_ble_eq_true rfl)⟩ rfl rfl (Nat.le_of_ble_eq_true rfl) rfl rfl rfl rfl rfl (Nat.le_of_ble_eq_true rfl) (Nat.le_of_ble_eq_true rfl) (Nat.le_of_ble_eq_true rfl) ?_
    refine e_ifb_ne 8 21 19 rfl rfl rfl (fun h2 => ?_) (fun h2 => ?_)
    · skip
      have hat := sp_stAt h01 (n := n) (by unfold xr; omega)
      rw [da_has h2] at hat
      have hV := hA _ (vO_s n hn).1
      have hb := pl1_bnd hV (σ 0 8)
      have hxr : xr (pl1 (T (31 + 2 * n)) (σ 0 8)) := by unfold xr; omega
      have hkb := knd_bnd (tok (T (31 + 2 * n)) (pl1 (T (31 + 2 * n)) (σ 0 8)))
      have htb := hV.bnd (pl1 (T (31 + 2 * n)) (σ 0 8))
      unfold xpd
      rw [decide_eq_true h1, Bool.true_and, h2, Bool.true_and]
      refine e_aload_n 11 22 rfl rfl rfl rfl ?_
      refine g_getR 12 25 ckX11 flX11_19 rfl rfl (Nat.le_of_ble_eq_true rfl) rfl rfl ?_
      refine e_iload_n 13 26 rfl rfl rfl rfl ?_
      refine g_callV 14 29 (hat) okX8_at cvX11_182 ⟨(Nat.le_of_ble_eq_true rfl), (Nat.le_of_ble_eq_true rfl)⟩ rfl rfl (Nat.le_of_ble_eq_true rfl) rfl rfl rfl rfl rfl (Nat.le_of_ble_eq_true rfl) (Nat.le_of_ble_eq_true rfl) (Nat.le_of_ble_eq_true rfl) ?_
      refine e_astore_n 15 30 (ls' := [some _, some _, some _, none]) rfl rfl rfl (Nat.le_of_ble_eq_true rfl) rfl ?_
      refine e_aload_n 16 31 rfl rfl rfl rfl ?_
      refine e_iconst 17 32 rfl rfl ?_
      refine e_aload_n 18 33 rfl rfl rfl rfl ?_
      refine g_getI 19 36 8 ckX11 flX11_65 rfl rfl (Nat.le_of_ble_eq_true rfl) rfl rfl rfl rfl ?_
      refine g_callV 20 39 (sp_pl1 hV (f := σ 0 8) (by omega)) okX10_placeOf cvX11_126 ⟨(Nat.le_of_ble_eq_true rfl), (Nat.le_of_ble_eq_true rfl)⟩ rfl rfl hV.1.1 hV.1.2.2.1 rfl rfl rfl rfl (Nat.le_of_ble_eq_true rfl) (Nat.le_of_ble_eq_true rfl) (Nat.le_of_ble_eq_true rfl) ?_
      refine e_istore_n 21 40 (ls' := [some _, some _, some _, some _]) rfl rfl rfl (Nat.le_of_ble_eq_true rfl) rfl ?_
      refine e_aload_n 22 41 rfl rfl rfl rfl ?_
      refine e_iload_n 23 42 rfl rfl rfl rfl ?_
      refine g_callV 24 45 (sp_kindAt hV hxr) okX10_kindAt cvX11_98 ⟨(Nat.le_of_ble_eq_true rfl), (Nat.le_of_ble_eq_true rfl)⟩ rfl rfl hV.1.1 hV.1.2.2.1 rfl rfl rfl rfl (Nat.le_of_ble_eq_true rfl) (Nat.le_of_ble_eq_true rfl) (Nat.le_of_ble_eq_true rfl) ?_
      refine e_iconst 25 46 rfl rfl ?_
      refine e_icmp_ne 26 65 49 rfl rfl rfl (by unfold xr at *; omega) (by unfold xr at *; omega) (fun h3 => ?_) (fun h3 => ?_)
      · skip
        rw [decide_eq_false (fun q => h3 q.1)]
        refine e_iconst 35 66 rfl rfl ?_
        exact e_zreturn (x := 0) 36 rfl rfl (by omega) (Nat.le_of_ble_eq_true rfl) (Nat.le_of_ble_eq_true rfl)
      · skip
        refine e_aload_n 27 50 rfl rfl rfl rfl ?_
        refine e_iload_n 28 51 rfl rfl rfl rfl ?_
        refine g_callV 29 54 (sp_numberAt hV hxr) okX10_numberAt cvX11_425 ⟨(Nat.le_of_ble_eq_true rfl), (Nat.le_of_ble_eq_true rfl)⟩ rfl rfl hV.1.1 hV.1.2.2.1 rfl rfl rfl rfl (Nat.le_of_ble_eq_true rfl) (Nat.le_of_ble_eq_true rfl) (Nat.le_of_ble_eq_true rfl) ?_
        refine e_aload_n 30 55 rfl rfl rfl rfl ?_
        refine g_getI 31 58 9 ckX11 flX11_69 rfl rfl (Nat.le_of_ble_eq_true rfl) rfl rfl rfl rfl ?_
        refine e_icmp_gt 32 65 61 rfl rfl rfl (by unfold xr at *; omega) (by unfold xr at *; omega) (fun h4 => ?_) (fun h4 => ?_)
        · skip
          rw [decide_eq_false (fun q => by omega)]
          refine e_iconst 35 66 rfl rfl ?_
          exact e_zreturn (x := 0) 36 rfl rfl (by omega) (Nat.le_of_ble_eq_true rfl) (Nat.le_of_ble_eq_true rfl)
        · skip
          rw [decide_eq_true ⟨h3, by omega⟩]
          refine e_iconst 33 62 rfl rfl ?_
          refine e_goto 34 66 rfl rfl ?_
          exact e_zreturn (x := 1) 36 rfl rfl (by omega) (Nat.le_of_ble_eq_true rfl) (Nat.le_of_ble_eq_true rfl)
    · skip
      exact no (by unfold xpd; rw [h2, Bool.false_and, Bool.and_false]) _ rfl
theorem sp_removeX {σ : xSig} (h01 : n01 σ 27) {n r : Int} (hn : xr n) (hh : hasd σ n = false) : x_Sp MX11_remove 1 6 [.ref 0, .int (ii r), .int (ii n)] (St σ) tIOB (St σ) := by
  have hhas := sp_has h01 hn
  rw [hh] at hhas
  refine e_entry okX11_remove (Nat.le_of_ble_eq_true rfl) (ls := [some _, some _, some _]) rfl ?_
  refine e_aload_n 0 1 rfl rfl rfl rfl ?_
  refine g_getR 1 4 ckX11 flX11_19 rfl rfl (Nat.le_of_ble_eq_true rfl) rfl rfl ?_
  refine e_iload_n 2 5 rfl rfl rfl rfl ?_
  refine g_callV 3 8 (hhas) okX8_has cvX11_151 ⟨(Nat.le_of_ble_eq_true rfl), (Nat.le_of_ble_eq_true rfl)⟩ rfl rfl (Nat.le_of_ble_eq_true rfl) rfl rfl rfl rfl rfl (Nat.le_of_ble_eq_true rfl) (Nat.le_of_ble_eq_true rfl) (Nat.le_of_ble_eq_true rfl) ?_
  refine e_ifb_ne 4 21 11 rfl rfl rfl (fun h2 => ?_) (fun h2 => ?_)
  · skip
    cases h2
  · skip
    exact e_throw 5 thX11_166_170 rfl rfl rfl rfl rfl stX11_168 (Nat.le_of_ble_eq_true rfl) (Nat.le_of_ble_eq_true rfl) (Nat.le_of_ble_eq_true rfl) (Nat.le_of_ble_eq_true rfl) (Nat.le_of_ble_eq_true rfl)
theorem sp_removeX2 {σ : xSig} (h01 : n01 σ 27) {n r : Int} (hn : xr n) (hx : xr r) (hh : hasd σ n = true) (hr : ¬ (0 ≤ r ∧ r < 2)) : x_Sp MX11_remove 1 6 [.ref 0, .int (ii r), .int (ii n)] (St σ) tIAE (St σ) := by
  have hhas := sp_has h01 hn
  rw [hh] at hhas
  have hi := sp_isRouter (σ := σ) hx
  rw [decide_eq_false hr] at hi
  refine e_entry okX11_remove (Nat.le_of_ble_eq_true rfl) (ls := [some _, some _, some _]) rfl ?_
  refine e_aload_n 0 1 rfl rfl rfl rfl ?_
  refine g_getR 1 4 ckX11 flX11_19 rfl rfl (Nat.le_of_ble_eq_true rfl) rfl rfl ?_
  refine e_iload_n 2 5 rfl rfl rfl rfl ?_
  refine g_callV 3 8 (hhas) okX8_has cvX11_151 ⟨(Nat.le_of_ble_eq_true rfl), (Nat.le_of_ble_eq_true rfl)⟩ rfl rfl (Nat.le_of_ble_eq_true rfl) rfl rfl rfl rfl rfl (Nat.le_of_ble_eq_true rfl) (Nat.le_of_ble_eq_true rfl) (Nat.le_of_ble_eq_true rfl) ?_
  refine e_ifb_ne 4 21 11 rfl rfl rfl (fun h2 => ?_) (fun h2 => ?_)
  · skip
    refine e_iload_n 10 22 rfl rfl rfl rfl ?_
    refine g_callS 11 25 (hi) okX11_isRouter csX11_140 ⟨(Nat.le_of_ble_eq_true rfl), (Nat.le_of_ble_eq_true rfl)⟩ rfl rfl rfl rfl (Nat.le_of_ble_eq_true rfl) (Nat.le_of_ble_eq_true rfl) (Nat.le_of_ble_eq_true rfl) ?_
    refine e_ifb_ne 12 38 28 rfl rfl rfl (fun h3 => ?_) (fun h3 => ?_)
    · skip
      cases h3
    · skip
      exact e_throw 13 thX11_82_86 rfl rfl rfl rfl rfl stX11_205 (Nat.le_of_ble_eq_true rfl) (Nat.le_of_ble_eq_true rfl) (Nat.le_of_ble_eq_true rfl) (Nat.le_of_ble_eq_true rfl) (Nat.le_of_ble_eq_true rfl)
  · skip
    cases h2
theorem sp_remove1 {σ : xSig} {T : Nat → List Int} (hA : VAll σ T) (h01 : n01 σ 27) (h : CHR σ) {n : Nat} (hn : hasd σ n = true) {r : Int} (hr : 0 ≤ r ∧ r < 2) (hv : xr (σ 231 8)) (hvr : xr (σ 236 r)) (hc : 0 ≤ σ 239 3 ∧ σ 239 3 < 1024) : x_Sp MX11_remove 0 0 [.ref 0, .int (ii r), .int (ii n)] (St σ) (iv (shd σ (T (31 + 2 * n)))) (St (tka (uro σ r) (T (31 + 2 * n)) n)) := by
  have hni := hasd_in hn
  have hhas := sp_has h01 (n := n) (by unfold xr; omega)
  rw [hn] at hhas
  have hi := sp_isRouter (σ := σ) (x := r) (by unfold xr; omega)
  rw [decide_eq_true hr] at hi
  have o := uro_o σ r
  have hta := sp_takeAway (hA.fx o (by decide +kernel)) (by unfold n01; rw [o 27 (by decide)]; exact h01) (uro_CHR h r) (n := n) (by rw [hasd_congr (o 27 (by decide))]; exact hn) (by rw [o 239 (by decide)]; exact hc)
  rw [(uro_shd r _).2] at hta
  refine e_entry okX11_remove (Nat.le_of_ble_eq_true rfl) (ls := [some _, some _, some _]) rfl ?_
  refine e_aload_n 0 1 rfl rfl rfl rfl ?_
  refine g_getR 1 4 ckX11 flX11_19 rfl rfl (Nat.le_of_ble_eq_true rfl) rfl rfl ?_
  refine e_iload_n 2 5 rfl rfl rfl rfl ?_
  refine g_callV 3 8 (hhas) okX8_has cvX11_151 ⟨(Nat.le_of_ble_eq_true rfl), (Nat.le_of_ble_eq_true rfl)⟩ rfl rfl (Nat.le_of_ble_eq_true rfl) rfl rfl rfl rfl rfl (Nat.le_of_ble_eq_true rfl) (Nat.le_of_ble_eq_true rfl) (Nat.le_of_ble_eq_true rfl) ?_
  refine e_ifb_ne 4 21 11 rfl rfl rfl (fun h2 => ?_) (fun h2 => ?_)
  · skip
    refine e_iload_n 10 22 rfl rfl rfl rfl ?_
    refine g_callS 11 25 (hi) okX11_isRouter csX11_140 ⟨(Nat.le_of_ble_eq_true rfl), (Nat.le_of_ble_eq_true rfl)⟩ rfl rfl rfl rfl (Nat.le_of_ble_eq_true rfl) (Nat.le_of_ble_eq_true rfl) (Nat.le_of_ble_eq_true rfl) ?_
    refine e_ifb_ne 12 38 28 rfl rfl rfl (fun h3 => ?_) (fun h3 => ?_)
    · skip
      refine e_aload_n 18 39 rfl rfl rfl rfl ?_
      refine g_getR 19 42 ckX11 flX11_26 rfl rfl (Nat.le_of_ble_eq_true rfl) rfl rfl ?_
      refine e_iload_n 20 43 rfl rfl rfl rfl ?_
      refine g_callV 21 46 (sp_useRouter hr hv hvr) okX0_useRouter cvX11_201 ⟨(Nat.le_of_ble_eq_true rfl), (Nat.le_of_ble_eq_true rfl)⟩ rfl rfl (Nat.le_of_ble_eq_true rfl) rfl rfl rfl rfl rfl (Nat.le_of_ble_eq_true rfl) (Nat.le_of_ble_eq_true rfl) (Nat.le_of_ble_eq_true rfl) ?_
      refine e_aload_n 22 47 rfl rfl rfl rfl ?_
      refine e_iload_n 23 48 rfl rfl rfl rfl ?_
      refine g_callV 24 51 (hta) okX11_takeAway cvX11_207 ⟨(Nat.le_of_ble_eq_true rfl), (Nat.le_of_ble_eq_true rfl)⟩ rfl rfl (Nat.le_of_ble_eq_true rfl) rfl rfl rfl rfl rfl (Nat.le_of_ble_eq_true rfl) (Nat.le_of_ble_eq_true rfl) (Nat.le_of_ble_eq_true rfl) ?_
      exact e_ireturn 25 rfl rfl (Nat.le_of_ble_eq_true rfl) (Nat.le_of_ble_eq_true rfl)
    · skip
      cases h3
  · skip
    cases h2
theorem sp_ruleX {σ : xSig} {f k : Int} (hx : xr f) (hy : xr k) (hh : ¬ ((0 ≤ f ∧ f < 8) ∧ 0 ≤ k ∧ k ≤ 4)) : x_Sp MX11_rule 1 6 [.ref 0, .int (ii f), .int (ii k)] (St σ) tIAE (St σ) := by
  unfold xr at hy
  have hi := sp_isField (σ := σ) hx
  have fin : x_E MX11_rule 1 6 16 [some (.ref 0), some (.int (ii f)), some (.int (ii k))] [] (St σ) 0 0 tIAE (St σ) := by
    exact e_throw 8 thX11_82_86 rfl rfl rfl rfl rfl stX11_210 (Nat.le_of_ble_eq_true rfl) (Nat.le_of_ble_eq_true rfl) (Nat.le_of_ble_eq_true rfl) (Nat.le_of_ble_eq_true rfl) (Nat.le_of_ble_eq_true rfl)
  refine e_entry okX11_rule (Nat.le_of_ble_eq_true rfl) (ls := [some _, some _, some _]) rfl ?_
  refine e_iload_n 0 1 rfl rfl rfl rfl ?_
  refine g_callS 1 4 (hi) okX11_isField csX11_119 ⟨(Nat.le_of_ble_eq_true rfl), (Nat.le_of_ble_eq_true rfl)⟩ rfl rfl rfl rfl (Nat.le_of_ble_eq_true rfl) (Nat.le_of_ble_eq_true rfl) (Nat.le_of_ble_eq_true rfl) ?_
  refine e_ifb_eq 2 16 7 rfl rfl rfl (fun h2 => ?_) (fun h2 => ?_)
  · skip
    exact fin
  · skip
    have h3 := of_decide_eq_true h2
    refine e_iload_n 3 8 rfl rfl rfl rfl ?_
    refine e_if_lt 4 16 11 rfl rfl rfl (by unfold xr at *; omega) (fun h4 => ?_) (fun h4 => ?_)
    · skip
      exact fin
    · skip
      refine e_iload_n 5 12 rfl rfl rfl rfl ?_
      refine e_iconst 6 13 rfl rfl ?_
      refine e_icmp_le 7 26 16 rfl rfl rfl (by unfold xr at *; omega) (by unfold xr at *; omega) (fun h9 => absurd h9 (by omega)) (fun _ => ?_)
      exact fin
theorem sp_ruleX2 {σ : xSig} {T : Nat → List Int} (hA : VAll σ T) (h01 : n01 σ 27) {f k : Int} (hf : 0 ≤ f ∧ f < 8) (hk : 0 ≤ k ∧ k ≤ 4) (hh : akp σ T f k = false) : x_Sp MX11_rule 1 6 [.ref 0, .int (ii f), .int (ii k)] (St σ) tISE (St σ) := by
  have hi := sp_isField (σ := σ) (x := f) (by unfold xr; omega)
  rw [decide_eq_true hf] at hi
  have ha := sp_allKeep hA h01 hf (kd := k) (by unfold xr; omega)
  rw [hh] at ha
  refine e_entry okX11_rule (Nat.le_of_ble_eq_true rfl) (ls := [some _, some _, some _]) rfl ?_
  refine e_iload_n 0 1 rfl rfl rfl rfl ?_
  refine g_callS 1 4 (hi) okX11_isField csX11_119 ⟨(Nat.le_of_ble_eq_true rfl), (Nat.le_of_ble_eq_true rfl)⟩ rfl rfl rfl rfl (Nat.le_of_ble_eq_true rfl) (Nat.le_of_ble_eq_true rfl) (Nat.le_of_ble_eq_true rfl) ?_
  refine e_ifb_eq 2 16 7 rfl rfl rfl (fun h2 => ?_) (fun h2 => ?_)
  · skip
    cases h2
  · skip
    refine e_iload_n 3 8 rfl rfl rfl rfl ?_
    refine e_if_lt 4 16 11 rfl rfl rfl (by unfold xr at *; omega) (fun h9 => absurd h9 (by omega)) (fun _ => ?_)
    refine e_iload_n 5 12 rfl rfl rfl rfl ?_
    refine e_iconst 6 13 rfl rfl ?_
    refine e_icmp_le 7 26 16 rfl rfl rfl (by unfold xr at *; omega) (by unfold xr at *; omega) (fun _ => ?_) (fun h9 => absurd h9 (by omega))
    refine e_aload_n 13 27 rfl rfl rfl rfl ?_
    refine g_getR 14 30 ckX11 flX11_19 rfl rfl (Nat.le_of_ble_eq_true rfl) rfl rfl ?_
    refine e_iload_n 15 31 rfl rfl rfl rfl ?_
    refine e_iload_n 16 32 rfl rfl rfl rfl ?_
    refine g_callV 17 35 (ha) okX8_allKeep cvX11_212 ⟨(Nat.le_of_ble_eq_true rfl), (Nat.le_of_ble_eq_true rfl)⟩ rfl rfl (Nat.le_of_ble_eq_true rfl) rfl rfl rfl rfl rfl (Nat.le_of_ble_eq_true rfl) (Nat.le_of_ble_eq_true rfl) (Nat.le_of_ble_eq_true rfl) ?_
    refine e_ifb_ne 18 48 38 rfl rfl rfl (fun h3 => ?_) (fun h3 => ?_)
    · skip
      cases h3
    · skip
      exact e_throw 19 thX11_101_105 rfl rfl rfl rfl rfl stX11_216 (Nat.le_of_ble_eq_true rfl) (Nat.le_of_ble_eq_true rfl) (Nat.le_of_ble_eq_true rfl) (Nat.le_of_ble_eq_true rfl) (Nat.le_of_ble_eq_true rfl)
theorem sp_rule1 {σ : xSig} {T : Nat → List Int} (hA : VAll σ T) (h01 : n01 σ 27) {f k : Int} (hf : 0 ≤ f ∧ f < 8) (hk : 0 ≤ k ∧ k ≤ 4) (hh : akp σ T f k = true) : x_Sp MX11_rule 0 0 [.ref 0, .int (ii f), .int (ii k)] (St σ) (iv (σ 28 f)) (St (xu σ 28 f k)) := by
  have hi := sp_isField (σ := σ) (x := f) (by unfold xr; omega)
  rw [decide_eq_true hf] at hi
  have ha := sp_allKeep hA h01 hf (kd := k) (by unfold xr; omega)
  rw [hh] at ha
  refine e_entry okX11_rule (Nat.le_of_ble_eq_true rfl) (ls := [some _, some _, some _]) rfl ?_
  refine e_iload_n 0 1 rfl rfl rfl rfl ?_
  refine g_callS 1 4 (hi) okX11_isField csX11_119 ⟨(Nat.le_of_ble_eq_true rfl), (Nat.le_of_ble_eq_true rfl)⟩ rfl rfl rfl rfl (Nat.le_of_ble_eq_true rfl) (Nat.le_of_ble_eq_true rfl) (Nat.le_of_ble_eq_true rfl) ?_
  refine e_ifb_eq 2 16 7 rfl rfl rfl (fun h2 => ?_) (fun h2 => ?_)
  · skip
    cases h2
  · skip
    refine e_iload_n 3 8 rfl rfl rfl rfl ?_
    refine e_if_lt 4 16 11 rfl rfl rfl (by unfold xr at *; omega) (fun h9 => absurd h9 (by omega)) (fun _ => ?_)
    refine e_iload_n 5 12 rfl rfl rfl rfl ?_
    refine e_iconst 6 13 rfl rfl ?_
    refine e_icmp_le 7 26 16 rfl rfl rfl (by unfold xr at *; omega) (by unfold xr at *; omega) (fun _ => ?_) (fun h9 => absurd h9 (by omega))
    refine e_aload_n 13 27 rfl rfl rfl rfl ?_
    refine g_getR 14 30 ckX11 flX11_19 rfl rfl (Nat.le_of_ble_eq_true rfl) rfl rfl ?_
    refine e_iload_n 15 31 rfl rfl rfl rfl ?_
    refine e_iload_n 16 32 rfl rfl rfl rfl ?_
    refine g_callV 17 35 (ha) okX8_allKeep cvX11_212 ⟨(Nat.le_of_ble_eq_true rfl), (Nat.le_of_ble_eq_true rfl)⟩ rfl rfl (Nat.le_of_ble_eq_true rfl) rfl rfl rfl rfl rfl (Nat.le_of_ble_eq_true rfl) (Nat.le_of_ble_eq_true rfl) (Nat.le_of_ble_eq_true rfl) ?_
    refine e_ifb_ne 18 48 38 rfl rfl rfl (fun h3 => ?_) (fun h3 => ?_)
    · skip
      refine e_aload_n 24 49 rfl rfl rfl rfl ?_
      refine g_getR 25 52 ckX11 flX11_19 rfl rfl (Nat.le_of_ble_eq_true rfl) rfl rfl ?_
      refine e_iload_n 26 53 rfl rfl rfl rfl ?_
      refine e_iload_n 27 54 rfl rfl rfl rfl ?_
      refine g_callV 28 57 (sp_setRule hf) okX8_setRule cvX11_218 ⟨(Nat.le_of_ble_eq_true rfl), (Nat.le_of_ble_eq_true rfl)⟩ rfl rfl (Nat.le_of_ble_eq_true rfl) rfl rfl rfl rfl rfl (Nat.le_of_ble_eq_true rfl) (Nat.le_of_ble_eq_true rfl) (Nat.le_of_ble_eq_true rfl) ?_
      exact e_ireturn 29 rfl rfl (Nat.le_of_ble_eq_true rfl) (Nat.le_of_ble_eq_true rfl)
    · skip
      cases h3
