/-! ===== steps: update ===== -/
theorem edD_ok {F F' w : Fo} {path op : Int} (hF : okf true false 0 F) (hp : 0 ≤ path ∧ path < 72) (hw : op = 1 ∨ ok1 w) (h : edD F path op w = some F') : okf true false 0 F' := by
  unfold edD at h
  split at h
  · cases h
  · split at h
    · exact edF_ok ⟨hp.1, by omega⟩ hF hw h
    · have hfi : 0 ≤ path / 8 - 1 ∧ path / 8 - 1 < 8 := by omega
      have hfr : 0 ≤ path % 8 ∧ path % 8 < 8 := by omega
      have hg := get_ok1 (path / 8 - 1) hF
      generalize get (path / 8 - 1) F = g at h hg
      rcases hg with rfl | ⟨⟨x, rfl, -⟩ | ⟨c, rfl, hc⟩ | ⟨c, rfl, -⟩, -⟩
      · have h' : (if op = 1 ∨ op = 4 ∨ op = 5 then some F else (edF (.num 0) (path % 8) op w).map fun m => setf (path / 8 - 1) (.add m (.num 0)) F) = some F' := h
        split at h'
        · cases h'; exact hF
        · obtain ⟨m, e1, rfl⟩ := Option.map_eq_some_iff.mp h'
          exact setf_ok F _ _ _ _ hF (Or.inr (Or.inl ⟨_, rfl, edF_ok hfr (show okf true false 0 (.num 0) from ⟨rfl, rfl⟩) hw e1⟩)) hfi.1 hfi.2
      · cases h
      · have h' : ((edF c (path % 8) op w).map fun m => setf (path / 8 - 1) (.add m (.num 0)) F) = some F' := h
        obtain ⟨m, e1, rfl⟩ := Option.map_eq_some_iff.mp h'
        exact setf_ok F _ _ _ _ hF (Or.inr (Or.inl ⟨_, rfl, edF_ok hfr hc hw e1⟩)) hfi.1 hfi.2
      · cases h
theorem IM.tT {i : Nat} {τ σ : xSig} {T T' : Nat → List Int} {G : Nat → Fo} (h : IM i τ T G σ) (hT : ∀ a, a ≠ 244 → a ≠ 246 → T' a = T a) : IM i τ T' G σ := by
  have h3 : 0 ≤ τ 1 2 ∧ τ 1 2 ≤ 10 := h.1 3
  refine ⟨fun k => ?_, h.2⟩
  have q := h.1 k
  match k, q with
  | 0, q => intro k hk; rw [hT _ (by omega) (by omega)]; exact q k hk
  | 1, q => intro n hn hh; rw [hT _ (by omega) (by omega)]; exact q n hn hh
  | 2, q => intro k hk hk2; rw [hT _ (by omega) (by omega)]; exact q k hk hk2
  | 3, q => exact q
  | 4, q => exact q
  | 5, q => exact q
  | 6, q => exact q
  | 7, q => intro n hn hh; rw [hT _ (by omega) (by omega)]; exact q n hn hh
  | 8, q => exact q
  | 9, q => exact q
  | 10, q => exact q
  | 11, q => exact q
  | 12, q => exact q
  | 13, q => exact q
  | 14, q => exact q
  | _ + 15, q => exact q
theorem EDR.any {σ σ' : xSig} {T : Nat → List Int} {p0 s : List Int} {o : Option Fo} (hA : VAll σ T) (h : EDR σ σ' p0 s o) : ∃ T', VAll σ' T' ∧ ∀ a, a ≠ 244 → a ≠ 246 → T' a = T a := by
  obtain ⟨h1, ⟨m0, h2⟩, ⟨m1, h3⟩, h4⟩ := h
  refine ⟨uT (uT T 244 m0) 246 m1, fun a ha => ?_, fun a n4 n6 => (uT_ne _ _ n6).trans (uT_ne _ _ n4)⟩
  by_cases e6 : a = 246
  · subst e6
    rw [uT_same, vO_246.2]
    exact h3
  · rw [uT_ne _ _ e6]
    by_cases e4 : a = 244
    · subst e4
      rw [uT_same, vO_244.2]
      exact h2
    · rw [uT_ne _ _ e4]
      obtain ⟨q1, q2⟩ := vO_apart vO_244.1 ha e4
      obtain ⟨q3, q4⟩ := vO_apart vO_246.1 ha e6
      have n1 : a ∉ eL := by simp only [eL, List.mem_cons, List.not_mem_nil, or_false]; omega
      have n2 : a + 1 ∉ eL := by simp only [eL, List.mem_cons, List.not_mem_nil, or_false]; omega
      exact (hA a ha).same (h4 a n1) (h4 (a + 1) n2)
theorem eL_v {σ σ' : xSig} (h : FX eL σ σ') : (∀ b : Nat, vA b = false → σ' b = σ b) ∧ ∀ b : Nat, 281 ≤ b → σ' b = σ b := by
  refine ⟨fun b hb => h b (fun q => ?_), fun b hb => h b (fun q => ?_)⟩
  · have : ∀ b ∈ eL, vA b = true := by decide +kernel
    rw [this b q] at hb
    cases hb
  · simp only [eL, List.mem_cons, List.not_mem_nil, or_false] at q
    omega
/-- refused, after the edit was tried -/
theorem upd_refuse {i : Nat} {σ σ1 σ2 : xSig} {T T' : Nat → List Int} {G : Nat → Fo} {r n p op y : Int} (hM : IM i σ T G σ) (hA : VAll σ1 T') (hT : ∀ a, a ≠ 244 → a ≠ 246 → T' a = T a) (hx : FX eL σ σ1) (hcl : x_Sp MX11_update 1 6 [.ref 0, .int (ii r), .int (ii n), .int (ii p), .int (ii op)] (St σ) tISE (St σ1)) (hm : x_Sp MX12_update 0 0 [.ref 281, .int (ii r), .int (ii n), .int (ii p), .int (ii op)] (St σ1) (iv y) (St σ2)) (h47 : σ2 281 47 = 3) (hF : FP scr9 σ1 σ2) : STEP i MX11_update MX12_update iv [nIOB, nIAE, nISE] [.int (ii r), .int (ii n), .int (ii p), .int (ii op)] σ := by
  obtain ⟨e1, e2⟩ := eL_v hx
  refine ⟨σ1, σ2, 3, 0, y, ⟨by omega, by simp⟩, fun q => absurd q (by decide), fun _ => hcl, hm, h47, fun q => absurd q (by decide), ?_⟩
  refine INV.fin2 (VAll.fp hA hF (by decide +kernel)) ((((hM.fm (fun b hb _ => e2 b hb)).tT hT).fp hF (by decide +kernel)).mono (by omega)) (fun b hb hv => ?_)
  rw [hF.cell b (by simp only [scr9, List.all_cons, List.all_nil, Bool.and_true, bne_iff_ne, Bool.and_eq_true]; omega)]
  exact e1 b hv
