/-! ===== the face: update ===== -/
theorem sp_updateX {σ : xSig} (h01 : n01 σ 27) {r n p op : Int} (hn : xr n) (hh : hasd σ n = false) : x_Sp MX11_update 1 6 [.ref 0, .int (ii r), .int (ii n), .int (ii p), .int (ii op)] (St σ) tIOB (St σ) := by
  have hhas := sp_has h01 hn
  rw [hh] at hhas
  refine e_entry okX11_update (Nat.le_of_ble_eq_true rfl) (ls := [some _, some _, some _, some _, some _, none, none]) rfl ?_
  refine e_aload_n 0 1 rfl rfl rfl rfl ?_
  refine g_getR 1 4 ckX11 flX11_19 rfl rfl (Nat.le_of_ble_eq_true rfl) rfl rfl ?_
  refine e_iload_n 2 5 rfl rfl rfl rfl ?_
  refine g_callV 3 8 (hhas) okX8_has cvX11_151 ⟨(Nat.le_of_ble_eq_true rfl), (Nat.le_of_ble_eq_true rfl)⟩ rfl rfl (Nat.le_of_ble_eq_true rfl) rfl rfl rfl rfl rfl (Nat.le_of_ble_eq_true rfl) (Nat.le_of_ble_eq_true rfl) (Nat.le_of_ble_eq_true rfl) ?_
  refine e_ifb_ne 4 21 11 rfl rfl rfl (fun h2 => ?_) (fun h2 => ?_)
  · skip
    cases h2
  · skip
    exact e_throw 5 thX11_166_170 rfl rfl rfl rfl rfl stX11_168 (Nat.le_of_ble_eq_true rfl) (Nat.le_of_ble_eq_true rfl) (Nat.le_of_ble_eq_true rfl) (Nat.le_of_ble_eq_true rfl) (Nat.le_of_ble_eq_true rfl)
theorem sp_updateX2 {σ : xSig} (h01 : n01 σ 27) {r n p op : Int} (hr : xr r) (hp : xr p) (ho : xr op) (hn : xr n) (hh : hasd σ n = true) (hb : ¬ ((0 ≤ r ∧ r < 2) ∧ (0 ≤ p ∧ p < 72) ∧ 0 ≤ op ∧ op ≤ 5)) : x_Sp MX11_update 1 6 [.ref 0, .int (ii r), .int (ii n), .int (ii p), .int (ii op)] (St σ) tIAE (St σ) := by
  have hhas := sp_has h01 hn
  rw [hh] at hhas
  have hi := sp_isRouter (σ := σ) hr
  have hj := sp_isPath (σ := σ) hp
  have fin : x_E MX11_update 1 6 46 [some (.ref 0), some (.int (ii r)), some (.int (ii n)), some (.int (ii p)), some (.int (ii op)), none, none] [] (St σ) 0 0 tIAE (St σ) := by
    exact e_throw 21 thX11_82_86 rfl rfl rfl rfl rfl stX11_174 (Nat.le_of_ble_eq_true rfl) (Nat.le_of_ble_eq_true rfl) (Nat.le_of_ble_eq_true rfl) (Nat.le_of_ble_eq_true rfl) (Nat.le_of_ble_eq_true rfl)
  refine e_entry okX11_update (Nat.le_of_ble_eq_true rfl) (ls := [some _, some _, some _, some _, some _, none, none]) rfl ?_
  refine e_aload_n 0 1 rfl rfl rfl rfl ?_
  refine g_getR 1 4 ckX11 flX11_19 rfl rfl (Nat.le_of_ble_eq_true rfl) rfl rfl ?_
  refine e_iload_n 2 5 rfl rfl rfl rfl ?_
  refine g_callV 3 8 (hhas) okX8_has cvX11_151 ⟨(Nat.le_of_ble_eq_true rfl), (Nat.le_of_ble_eq_true rfl)⟩ rfl rfl (Nat.le_of_ble_eq_true rfl) rfl rfl rfl rfl rfl (Nat.le_of_ble_eq_true rfl) (Nat.le_of_ble_eq_true rfl) (Nat.le_of_ble_eq_true rfl) ?_
  refine e_ifb_ne 4 21 11 rfl rfl rfl (fun h2 => ?_) (fun h2 => ?_)
  · skip
    refine e_iload_n 10 22 rfl rfl rfl rfl ?_
    refine g_callS 11 25 (hi) okX11_isRouter csX11_140 ⟨(Nat.le_of_ble_eq_true rfl), (Nat.le_of_ble_eq_true rfl)⟩ rfl rfl rfl rfl (Nat.le_of_ble_eq_true rfl) (Nat.le_of_ble_eq_true rfl) (Nat.le_of_ble_eq_true rfl) ?_
    refine e_ifb_eq 12 46 28 rfl rfl rfl (fun h3 => ?_) (fun h3 => ?_)
    · skip
      exact fin
    · skip
      have h4 := of_decide_eq_true h3
      refine e_iload_n 13 29 rfl rfl rfl rfl ?_
      refine g_callS 14 32 (hj) okX11_isPath csX11_171 ⟨(Nat.le_of_ble_eq_true rfl), (Nat.le_of_ble_eq_true rfl)⟩ rfl rfl rfl rfl (Nat.le_of_ble_eq_true rfl) (Nat.le_of_ble_eq_true rfl) (Nat.le_of_ble_eq_true rfl) ?_
      refine e_ifb_eq 15 46 35 rfl rfl rfl (fun h5 => ?_) (fun h5 => ?_)
      · skip
        exact fin
      · skip
        have h6 := of_decide_eq_true h5
        refine e_iload 16 37 rfl rfl rfl ?_
        refine e_if_lt 17 46 40 rfl rfl rfl (by unfold xr at *; omega) (fun h7 => ?_) (fun h7 => ?_)
        · skip
          exact fin
        · skip
          refine e_iload 18 42 rfl rfl rfl ?_
          refine e_iconst 19 43 rfl rfl ?_
          refine e_icmp_le 20 56 46 rfl rfl rfl (by unfold xr at *; omega) (by unfold xr at *; omega) (fun h9 => absurd h9 (by omega)) (fun _ => ?_)
          exact fin
  · skip
    cases h2
/-- from the good arguments on -/
theorem upd56 {σ : xSig} (h01 : n01 σ 27) {r n p op : Int} (hn : xr n) (hh : hasd σ n = true) (hr : 0 ≤ r ∧ r < 2) (hp : 0 ≤ p ∧ p < 72) (ho : 0 ≤ op ∧ op ≤ 5) {k m : Nat} {o : xO} {Y : xS} (h : x_E MX11_update k m 56 [some (.ref 0), some (.int (ii r)), some (.int (ii n)), some (.int (ii p)), some (.int (ii op)), none, none] [] (St σ) 0 0 o Y) : x_Sp MX11_update k m [.ref 0, .int (ii r), .int (ii n), .int (ii p), .int (ii op)] (St σ) o Y := by
  have hhas := sp_has h01 hn
  rw [hh] at hhas
  have hi := sp_isRouter (σ := σ) (x := r) (by unfold xr; omega)
  have hj := sp_isPath (σ := σ) (x := p) (by unfold xr; omega)
  rw [decide_eq_true hr] at hi
  rw [decide_eq_true hp] at hj
  refine e_entry okX11_update (Nat.le_of_ble_eq_true rfl) (ls := [some _, some _, some _, some _, some _, none, none]) rfl ?_
  refine e_aload_n 0 1 rfl rfl rfl rfl ?_
  refine g_getR 1 4 ckX11 flX11_19 rfl rfl (Nat.le_of_ble_eq_true rfl) rfl rfl ?_
  refine e_iload_n 2 5 rfl rfl rfl rfl ?_
  refine g_callV 3 8 (hhas) okX8_has cvX11_151 ⟨(Nat.le_of_ble_eq_true rfl), (Nat.le_of_ble_eq_true rfl)⟩ rfl rfl (Nat.le_of_ble_eq_true rfl) rfl rfl rfl rfl rfl (Nat.le_of_ble_eq_true rfl) (Nat.le_of_ble_eq_true rfl) (Nat.le_of_ble_eq_true rfl) ?_
  refine e_ifb_ne 4 21 11 rfl rfl rfl (fun h2 => ?_) (fun h2 => ?_)
  · skip
    refine e_iload_n 10 22 rfl rfl rfl rfl ?_
    refine g_callS 11 25 (hi) okX11_isRouter csX11_140 ⟨(Nat.le_of_ble_eq_true rfl), (Nat.le_of_ble_eq_true rfl)⟩ rfl rfl rfl rfl (Nat.le_of_ble_eq_true rfl) (Nat.le_of_ble_eq_true rfl) (Nat.le_of_ble_eq_true rfl) ?_
    refine e_ifb_eq 12 46 28 rfl rfl rfl (fun h3 => ?_) (fun h3 => ?_)
    · skip
      cases h3
    · skip
      refine e_iload_n 13 29 rfl rfl rfl rfl ?_
      refine g_callS 14 32 (hj) okX11_isPath csX11_171 ⟨(Nat.le_of_ble_eq_true rfl), (Nat.le_of_ble_eq_true rfl)⟩ rfl rfl rfl rfl (Nat.le_of_ble_eq_true rfl) (Nat.le_of_ble_eq_true rfl) (Nat.le_of_ble_eq_true rfl) ?_
      refine e_ifb_eq 15 46 35 rfl rfl rfl (fun h5 => ?_) (fun h5 => ?_)
      · skip
        cases h5
      · skip
        refine e_iload 16 37 rfl rfl rfl ?_
        refine e_if_lt 17 46 40 rfl rfl rfl (by unfold xr at *; omega) (fun h9 => absurd h9 (by omega)) (fun _ => ?_)
        refine e_iload 18 42 rfl rfl rfl ?_
        refine e_iconst 19 43 rfl rfl ?_
        refine e_icmp_le 20 56 46 rfl rfl rfl (by unfold xr at *; omega) (by unfold xr at *; omega) (fun _ => ?_) (fun h9 => absurd h9 (by omega))
        exact h
  · skip
    cases h2
theorem sp_updateX3 {σ : xSig} (h01 : n01 σ 27) {r n p op : Int} (hn : xr n) (hh : hasd σ n = true) (hr : 0 ≤ r ∧ r < 2) (hp : 0 ≤ p ∧ p < 72) (ho : 0 ≤ op ∧ op ≤ 5) (ho1 : op ≠ 1) (h0 : σ 1 2 = 0) : x_Sp MX11_update 1 6 [.ref 0, .int (ii r), .int (ii n), .int (ii p), .int (ii op)] (St σ) tISE (St σ) := by
  have he := sp_pEmpty (σ := σ) (by omega)
  rw [decide_eq_true h0] at he
  refine upd56 h01 hn hh hr hp ho ?_
  refine e_iload 26 58 rfl rfl rfl ?_
  refine e_iconst 27 59 rfl rfl ?_
  refine e_icmp_eq 28 82 62 rfl rfl rfl (by unfold xr at *; omega) (by unfold xr at *; omega) (fun h9 => absurd h9 (by omega)) (fun _ => ?_)
  refine e_aload_n 29 63 rfl rfl rfl rfl ?_
  refine g_getR 30 66 ckX11 flX11_12 rfl rfl (Nat.le_of_ble_eq_true rfl) rfl rfl ?_
  refine g_callV 31 69 (he) okX5_isEmpty cvX11_176 ⟨(Nat.le_of_ble_eq_true rfl), (Nat.le_of_ble_eq_true rfl)⟩ rfl rfl (Nat.le_of_ble_eq_true rfl) rfl rfl rfl rfl rfl (Nat.le_of_ble_eq_true rfl) (Nat.le_of_ble_eq_true rfl) (Nat.le_of_ble_eq_true rfl) ?_
  refine e_ifb_eq 32 82 72 rfl rfl rfl (fun h2 => ?_) (fun h2 => ?_)
  · skip
    cases h2
  · skip
    exact e_throw 33 thX11_101_105 rfl rfl rfl rfl rfl stX11_180 (Nat.le_of_ble_eq_true rfl) (Nat.le_of_ble_eq_true rfl) (Nat.le_of_ble_eq_true rfl) (Nat.le_of_ble_eq_true rfl) (Nat.le_of_ble_eq_true rfl)
/-- to where the edit begins -/
theorem upd82 {σ : xSig} (h01 : n01 σ 27) {r n p op : Int} (hn : xr n) (hh : hasd σ n = true) (hr : 0 ≤ r ∧ r < 2) (hp : 0 ≤ p ∧ p < 72) (ho : 0 ≤ op ∧ op ≤ 5) (hs : 0 ≤ σ 1 2 ∧ σ 1 2 ≤ 10) (h0 : op = 1 ∨ 0 < σ 1 2) {k m : Nat} {o : xO} {Y : xS} (h : x_E MX11_update k m 82 [some (.ref 0), some (.int (ii r)), some (.int (ii n)), some (.int (ii p)), some (.int (ii op)), none, none] [] (St σ) 0 0 o Y) : x_Sp MX11_update k m [.ref 0, .int (ii r), .int (ii n), .int (ii p), .int (ii op)] (St σ) o Y := by
  refine upd56 h01 hn hh hr hp ho ?_
  have he := sp_pEmpty (σ := σ) hs
  refine e_iload 26 58 rfl rfl rfl ?_
  refine e_iconst 27 59 rfl rfl ?_
  refine e_icmp_eq 28 82 62 rfl rfl rfl (by unfold xr at *; omega) (by unfold xr at *; omega) (fun h1 => ?_) (fun h1 => ?_)
  · skip
    exact h
  · skip
    rw [decide_eq_false (by omega)] at he
    refine e_aload_n 29 63 rfl rfl rfl rfl ?_
    refine g_getR 30 66 ckX11 flX11_12 rfl rfl (Nat.le_of_ble_eq_true rfl) rfl rfl ?_
    refine g_callV 31 69 (he) okX5_isEmpty cvX11_176 ⟨(Nat.le_of_ble_eq_true rfl), (Nat.le_of_ble_eq_true rfl)⟩ rfl rfl (Nat.le_of_ble_eq_true rfl) rfl rfl rfl rfl rfl (Nat.le_of_ble_eq_true rfl) (Nat.le_of_ble_eq_true rfl) (Nat.le_of_ble_eq_true rfl) ?_
    refine e_ifb_eq 32 82 72 rfl rfl rfl (fun h2 => ?_) (fun h2 => ?_)
    · skip
      exact h
    · skip
      cases h2
theorem sp_edited {σ : xSig} : Rd MX1_edited [.ref 243] σ (rv 244) := by
  refine e_entry okX1_edited (Nat.le_of_ble_eq_true rfl) (ls := [some _]) rfl ?_
  refine e_aload_n 0 1 rfl rfl rfl rfl ?_
  refine g_getR 1 4 ckX1 flX1_14 rfl rfl (Nat.le_of_ble_eq_true rfl) rfl rfl ?_
  exact e_areturn 2 rfl rfl (Nat.le_of_ble_eq_true rfl) (Nat.le_of_ble_eq_true rfl)
/-- the edit is refused -/
theorem sp_updateX4 {σ : xSig} {T : Nat → List Int} {t0 m0 : List Int} {F w : Fo} (hA : VAll σ T) (h01 : n01 σ 27) {r p op : Int} {n : Nat} (hh : hasd σ n = true) (hr : 0 ≤ r ∧ r < 2) (hp : 0 ≤ p ∧ p < 72) (ho : 0 ≤ op ∧ op ≤ 5) (hs : 0 ≤ σ 1 2 ∧ σ 1 2 ≤ 10) (h0 : op = 1 ∨ 0 < σ 1 2) (hD : DC (T (31 + 2 * n)) F) (hw : op = 1 ∨ (ok1 w ∧ T (vtop σ) = tk w ∧ (tk w).length ≤ 72)) (he : edD F p op w = none) :
    ∃ σ' : xSig, x_Sp MX11_update 1 6 [.ref 0, .int (ii r), .int (ii n), .int (ii p), .int (ii op)] (St σ) tISE (St σ') ∧ EDR σ σ' [5000] [] none := by
  have hni := hasd_in hh
  have hat := sp_stAt h01 (n := n) (by unfold xr; omega)
  rw [da_has hh] at hat
  have hvt : vO (vtop σ) = true := pv_vO _
  have hvb : vtop σ ≤ 23 := by unfold vtop pv; split <;> omega
  have hw' : op = 1 ∨ (ok1 w ∧ vO (vtop σ) = true ∧ vtop σ ≠ 244 ∧ vtop σ ≠ 246 ∧ VH σ (vtop σ) (vCap (vtop σ)) (tk w) ∧ (tk w).length ≤ 72) := by
    rcases hw with h | ⟨a, b, c⟩
    · exact Or.inl h
    · exact Or.inr ⟨a, hvt, by omega, by omega, by rw [← b]; exact hA _ hvt, c⟩
  obtain ⟨σ', k1, k2⟩ := sp_canEdit hp ho hD (vO_s n (by omega)).1 (by omega) (hA _ (vO_s n (by omega)).1) hw' (by have := hA 246 vO_246.1; rw [vO_246.2] at this; exact this) (by have := hA 244 vO_244.1; rw [vO_244.2] at this; exact this)
  rw [he] at k1 k2
  refine ⟨σ', upd82 h01 (by unfold xr; omega) hh hr hp ho hs h0 ?_, k2⟩
  refine e_aload_n 38 83 rfl rfl rfl rfl ?_
  refine g_getR 39 86 ckX11 flX11_19 rfl rfl (Nat.le_of_ble_eq_true rfl) rfl rfl ?_
  refine e_iload_n 40 87 rfl rfl rfl rfl ?_
  refine g_callV 41 90 (hat) okX8_at cvX11_182 ⟨(Nat.le_of_ble_eq_true rfl), (Nat.le_of_ble_eq_true rfl)⟩ rfl rfl (Nat.le_of_ble_eq_true rfl) rfl rfl rfl rfl rfl (Nat.le_of_ble_eq_true rfl) (Nat.le_of_ble_eq_true rfl) (Nat.le_of_ble_eq_true rfl) ?_
  refine e_astore 42 92 (ls' := [some _, some _, some _, some _, some _, some _, none]) rfl rfl (Nat.le_of_ble_eq_true rfl) rfl ?_
  refine e_aload_n 43 93 rfl rfl rfl rfl ?_
  refine g_getR 44 96 ckX11 flX11_40 rfl rfl (Nat.le_of_ble_eq_true rfl) rfl rfl ?_
  refine e_aload 45 98 rfl rfl rfl ?_
  refine e_iload_n 46 99 rfl rfl rfl rfl ?_
  refine e_iload 47 101 rfl rfl rfl ?_
  refine e_aload_n 48 102 rfl rfl rfl rfl ?_
  refine g_getR 49 105 ckX11 flX11_12 rfl rfl (Nat.le_of_ble_eq_true rfl) rfl rfl ?_
  refine g_callV 50 108 (sp_pTop hs) okX5_top cvX11_95 ⟨(Nat.le_of_ble_eq_true rfl), (Nat.le_of_ble_eq_true rfl)⟩ rfl rfl (Nat.le_of_ble_eq_true rfl) rfl rfl rfl rfl rfl (Nat.le_of_ble_eq_true rfl) (Nat.le_of_ble_eq_true rfl) (Nat.le_of_ble_eq_true rfl) ?_
  refine g_callV 51 111 (k1) okX1_canEdit cvX11_186 ⟨(Nat.le_of_ble_eq_true rfl), (Nat.le_of_ble_eq_true rfl)⟩ rfl rfl (Nat.le_of_ble_eq_true rfl) rfl rfl rfl rfl rfl (Nat.le_of_ble_eq_true rfl) (Nat.le_of_ble_eq_true rfl) (Nat.le_of_ble_eq_true rfl) ?_
  refine e_ifb_ne 52 124 114 rfl rfl rfl (fun h2 => ?_) (fun h2 => ?_)
  · skip
    cases h2
  · skip
    exact e_throw 53 thX11_101_105 rfl rfl rfl rfl rfl stX11_190 (Nat.le_of_ble_eq_true rfl) (Nat.le_of_ble_eq_true rfl) (Nat.le_of_ble_eq_true rfl) (Nat.le_of_ble_eq_true rfl) (Nat.le_of_ble_eq_true rfl)
theorem EDR.all {σ σ' : xSig} {T : Nat → List Int} {p0 s : List Int} {F' : Fo} (hA : VAll σ T) (h : EDR σ σ' p0 s (some F')) : ∃ m1, VAll σ' (uT (uT T 244 (p0 ++ (tk F' ++ 0 :: s))) 246 m1) := by
  obtain ⟨h1, h2, ⟨m1, h3⟩, h4⟩ := h
  refine ⟨m1, fun a ha => ?_⟩
  by_cases e6 : a = 246
  · subst e6
    rw [uT_same, vO_246.2]
    exact h3
  · rw [uT_ne _ _ e6]
    by_cases e4 : a = 244
    · subst e4
      rw [uT_same, vO_244.2]
      exact h1 F' rfl
    · rw [uT_ne _ _ e4]
      obtain ⟨q1, q2⟩ := vO_apart vO_244.1 ha e4
      obtain ⟨q3, q4⟩ := vO_apart vO_246.1 ha e6
      have n1 : a ∉ eL := by simp only [eL, List.mem_cons, List.not_mem_nil, or_false]; omega
      have n2 : a + 1 ∉ eL := by simp only [eL, List.mem_cons, List.not_mem_nil, or_false]; omega
      exact (hA a ha).same (h4 a n1) (h4 (a + 1) n2)
theorem sp_updateX5 {σ : xSig} {T : Nat → List Int} {F F' w : Fo} (hA : VAll σ T) (h01 : n01 σ 27) (hru : ∀ i : Int, 0 ≤ σ 28 i ∧ σ 28 i ≤ 4) {r p op : Int} {n : Nat} (hh : hasd σ n = true) (hr : 0 ≤ r ∧ r < 2) (hp : 0 ≤ p ∧ p < 72) (ho : 0 ≤ op ∧ op ≤ 5) (hs : 0 ≤ σ 1 2 ∧ σ 1 2 ≤ 10) (h0 : op = 1 ∨ 0 < σ 1 2) (hD : DC (T (31 + 2 * n)) F) (hw : op = 1 ∨ (ok1 w ∧ T (vtop σ) = tk w ∧ (tk w).length ≤ 72)) (he : edD F p op w = some F') (hx : 24 < pts (5000 :: (tk F' ++ [0])) ∨ krl σ (5000 :: (tk F' ++ [0])) = false) :
    ∃ σ' : xSig, x_Sp MX11_update 1 6 [.ref 0, .int (ii r), .int (ii n), .int (ii p), .int (ii op)] (St σ) tISE (St σ') ∧ EDR σ σ' [5000] [] (some F') := by
  have hni := hasd_in hh
  have hat := sp_stAt h01 (n := n) (by unfold xr; omega)
  rw [da_has hh] at hat
  have hvt : vO (vtop σ) = true := pv_vO _
  have hvb : vtop σ ≤ 23 := by unfold vtop pv; split <;> omega
  have hw' : op = 1 ∨ (ok1 w ∧ vO (vtop σ) = true ∧ vtop σ ≠ 244 ∧ vtop σ ≠ 246 ∧ VH σ (vtop σ) (vCap (vtop σ)) (tk w) ∧ (tk w).length ≤ 72) := by
    rcases hw with h | ⟨a, b, c⟩
    · exact Or.inl h
    · exact Or.inr ⟨a, hvt, by omega, by omega, by rw [← b]; exact hA _ hvt, c⟩
  obtain ⟨σ', k1, k2⟩ := sp_canEdit hp ho hD (vO_s n (by omega)).1 (by omega) (hA _ (vO_s n (by omega)).1) hw' (by have := hA 246 vO_246.1; rw [vO_246.2] at this; exact this) (by have := hA 244 vO_244.1; rw [vO_244.2] at this; exact this)
  rw [he] at k1 k2
  have hV : VH σ' 244 152 (5000 :: (tk F' ++ [0])) := k2.1 F' rfl
  have hpb := pts_bnd (5000 :: (tk F' ++ [0]))
  have hcap := hV.2.2.1
  have hru' : ∀ i : Int, 0 ≤ σ' 28 i ∧ σ' 28 i ≤ 4 := fun i => by rw [k2.2.2.2 28 (by decide)]; exact hru i
  have hkr := sp_keepsRules hV hru'
  rw [show krl σ' (5000 :: (tk F' ++ [0])) = krl σ (5000 :: (tk F' ++ [0])) by unfold krl; rw [k2.2.2.2 28 (by decide)]] at hkr
  refine ⟨σ', upd82 h01 (by unfold xr; omega) hh hr hp ho hs h0 ?_, k2⟩
  have fin : x_E MX11_update 1 6 155 [some (.ref 0), some (.int (ii r)), some (.int (ii n)), some (.int (ii p)), some (.int (ii op)), some (.ref (31 + 2 * n)), some (.ref 244)] [] (St σ') 0 0 tISE (St σ') := by
    exact e_throw 71 thX11_101_105 rfl rfl rfl rfl rfl stX11_195 (Nat.le_of_ble_eq_true rfl) (Nat.le_of_ble_eq_true rfl) (Nat.le_of_ble_eq_true rfl) (Nat.le_of_ble_eq_true rfl) (Nat.le_of_ble_eq_true rfl)
  refine e_aload_n 38 83 rfl rfl rfl rfl ?_
  refine g_getR 39 86 ckX11 flX11_19 rfl rfl (Nat.le_of_ble_eq_true rfl) rfl rfl ?_
  refine e_iload_n 40 87 rfl rfl rfl rfl ?_
  refine g_callV 41 90 (hat) okX8_at cvX11_182 ⟨(Nat.le_of_ble_eq_true rfl), (Nat.le_of_ble_eq_true rfl)⟩ rfl rfl (Nat.le_of_ble_eq_true rfl) rfl rfl rfl rfl rfl (Nat.le_of_ble_eq_true rfl) (Nat.le_of_ble_eq_true rfl) (Nat.le_of_ble_eq_true rfl) ?_
  refine e_astore 42 92 (ls' := [some _, some _, some _, some _, some _, some _, none]) rfl rfl (Nat.le_of_ble_eq_true rfl) rfl ?_
  refine e_aload_n 43 93 rfl rfl rfl rfl ?_
  refine g_getR 44 96 ckX11 flX11_40 rfl rfl (Nat.le_of_ble_eq_true rfl) rfl rfl ?_
  refine e_aload 45 98 rfl rfl rfl ?_
  refine e_iload_n 46 99 rfl rfl rfl rfl ?_
  refine e_iload 47 101 rfl rfl rfl ?_
  refine e_aload_n 48 102 rfl rfl rfl rfl ?_
  refine g_getR 49 105 ckX11 flX11_12 rfl rfl (Nat.le_of_ble_eq_true rfl) rfl rfl ?_
  refine g_callV 50 108 (sp_pTop hs) okX5_top cvX11_95 ⟨(Nat.le_of_ble_eq_true rfl), (Nat.le_of_ble_eq_true rfl)⟩ rfl rfl (Nat.le_of_ble_eq_true rfl) rfl rfl rfl rfl rfl (Nat.le_of_ble_eq_true rfl) (Nat.le_of_ble_eq_true rfl) (Nat.le_of_ble_eq_true rfl) ?_
  refine g_callV 51 111 (k1) okX1_canEdit cvX11_186 ⟨(Nat.le_of_ble_eq_true rfl), (Nat.le_of_ble_eq_true rfl)⟩ rfl rfl (Nat.le_of_ble_eq_true rfl) rfl rfl rfl rfl rfl (Nat.le_of_ble_eq_true rfl) (Nat.le_of_ble_eq_true rfl) (Nat.le_of_ble_eq_true rfl) ?_
  refine e_ifb_ne 52 124 114 rfl rfl rfl (fun h2 => ?_) (fun h2 => ?_)
  · skip
    refine e_aload_n 58 125 rfl rfl rfl rfl ?_
    refine g_getR 59 128 ckX11 flX11_40 rfl rfl (Nat.le_of_ble_eq_true rfl) rfl rfl ?_
    refine g_callV 60 131 (sp_edited) okX1_edited cvX11_192 ⟨(Nat.le_of_ble_eq_true rfl), (Nat.le_of_ble_eq_true rfl)⟩ rfl rfl (Nat.le_of_ble_eq_true rfl) rfl rfl rfl rfl rfl (Nat.le_of_ble_eq_true rfl) (Nat.le_of_ble_eq_true rfl) (Nat.le_of_ble_eq_true rfl) ?_
    refine e_astore 61 133 (ls' := [some _, some _, some _, some _, some _, some _, some _]) rfl rfl (Nat.le_of_ble_eq_true rfl) rfl ?_
    refine e_aload 62 135 rfl rfl rfl ?_
    refine g_callV 63 138 (sp_pts hV) okX10_parts cvX11_106 ⟨(Nat.le_of_ble_eq_true rfl), (Nat.le_of_ble_eq_true rfl)⟩ rfl rfl (Nat.le_of_ble_eq_true rfl) rfl rfl rfl rfl rfl (Nat.le_of_ble_eq_true rfl) (Nat.le_of_ble_eq_true rfl) (Nat.le_of_ble_eq_true rfl) ?_
    refine e_bipush 64 140 rfl rfl rfl ?_
    refine e_icmp_gt 65 155 143 rfl rfl rfl (by unfold xr at *; omega) (by unfold xr at *; omega) (fun h3 => ?_) (fun h3 => ?_)
    · skip
      exact fin
    · skip
      rw [hx.resolve_left (by omega)] at hkr
      refine e_aload_n 66 144 rfl rfl rfl rfl ?_
      refine g_getR 67 147 ckX11 flX11_19 rfl rfl (Nat.le_of_ble_eq_true rfl) rfl rfl ?_
      refine e_aload 68 149 rfl rfl rfl ?_
      refine g_callV 69 152 (hkr) okX8_keepsRules cvX11_145 ⟨(Nat.le_of_ble_eq_true rfl), (Nat.le_of_ble_eq_true rfl)⟩ rfl rfl (Nat.le_of_ble_eq_true rfl) rfl rfl rfl rfl rfl (Nat.le_of_ble_eq_true rfl) (Nat.le_of_ble_eq_true rfl) (Nat.le_of_ble_eq_true rfl) ?_
      refine e_ifb_ne 70 165 155 rfl rfl rfl (fun h4 => ?_) (fun h4 => ?_)
      · skip
        cases h4
      · skip
        exact fin
  · skip
    cases h2
