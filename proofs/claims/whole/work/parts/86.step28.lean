/-! ===== steps: dropIndex ===== -/
theorem lst_gone {α : Type} (f : Nat → α) (M p : Nat) (hp : p < M + 1) : ((List.range M).map fun j => if j = p then f M else f j).Perm (((List.range (M + 1)).map f).eraseIdx p) := by
  rw [List.range_succ, List.map_append]
  by_cases h : p = M
  · subst h
    rw [List.eraseIdx_append_of_length_le (by simp)]
    simp only [List.length_map, List.length_range, Nat.sub_self, List.map_cons, List.map_nil, List.eraseIdx_cons_zero, List.append_nil]
    refine List.Perm.of_eq (List.map_congr_left fun j hj => ?_)
    rw [if_neg (by have := List.mem_range.mp hj; omega)]
  · have hpM : p < M := by omega
    have e : ((List.range M).map fun j => if j = p then f M else f j) = ((List.range M).map f).set p (f M) := by
      refine List.ext_getElem? fun j => ?_
      rw [List.getElem?_set]
      simp only [List.getElem?_map, List.length_map, List.length_range]
      by_cases c : p = j
      · subst c
        rw [if_pos rfl, if_pos hpM, List.getElem?_range hpM]
        simp
      · rw [if_neg c]
        by_cases c2 : j < M
        · rw [List.getElem?_range c2]
          simp only [Option.map_some]
          rw [if_neg (fun q => c q.symm)]
        · rw [List.getElem?_eq_none (by simp; omega)]
          rfl
    rw [e, List.set_eq_take_append_cons_drop, if_pos (by simp; omega), List.eraseIdx_append_of_lt_length (by simp; omega), List.eraseIdx_eq_take_drop_succ]
    simp only [List.map_cons, List.map_nil]
    exact List.perm_middle.trans (List.perm_append_singleton _ _).symm
theorem fgp_pl {σ : xSig} {p : Nat} (hp : (p : Int) < σ 248 6) : (plC (fgp σ p)).Perm ((plC σ).eraseIdx p) := by
  obtain ⟨M, hM⟩ : ∃ M : Nat, σ 248 6 = M + 1 := ⟨(σ 248 6 - 1).toNat, by omega⟩
  have hg := lst_gone (fun j : Nat => ((σ 251 j, σ 252 j, σ 253 j) : Pn)) M p (by omega)
  unfold plC
  rw [fgp_6, hM, show ((M : Int) + 1 - 1).toNat = M by omega, show ((M : Int) + 1).toNat = M + 1 by omega]
  refine List.Perm.trans (List.Perm.of_eq (List.map_congr_left fun j hj => ?_)) hg
  have eM : (M : Int) + 1 - 1 = M := by omega
  by_cases c : j = p
  · rw [if_pos c, c]
    simp [fgp, xu, hM, eM]
  · have c2 : ¬ (j : Int) = p := by omega
    rw [if_neg c]
    simp [fgp, xu, c2]
theorem flt_er {α : Type} (P : α → Bool) : ∀ (l : List α) (i : Nat) (a : α), l[i]? = some a → P a = false → (l.eraseIdx i).filter P = l.filter P
  | [], i, a, h, _ => by simp at h
  | b :: l, 0, a, h, hp => by
    simp only [List.getElem?_cons_zero, Option.some.injEq] at h
    subst h
    rw [List.eraseIdx_cons_zero, List.filter_cons, hp]
    rfl
  | b :: l, i + 1, a, h, hp => by
    rw [List.getElem?_cons_succ] at h
    rw [List.eraseIdx_cons_succ, List.filter_cons, List.filter_cons, flt_er P l i a h hp]
theorem plC_get {σ : xSig} {p : Nat} (hp : (p : Int) < σ 248 6) : (plC σ)[p]? = some (σ 251 p, σ 252 p, σ 253 p) := by
  unfold plC
  rw [List.getElem?_map, List.getElem?_range (by omega)]
  rfl
theorem plM_get {σ : xSig} {p : Nat} (hp : (p : Int) < σ 281 18) : (plM σ)[p]? = some (σ 292 p, σ 293 p, σ 294 p) := by
  unfold plM
  rw [List.getElem?_map, List.getElem?_range (by omega)]
  rfl
theorem plC_len (σ : xSig) : (plC σ).length = (σ 248 6).toNat := by unfold plC; simp
theorem plM_len (σ : xSig) : (plM σ).length = (σ 281 18).toNat := by unfold plM; simp
/-- of another index -/
def noI (k : Int) (q : Pn) : Bool := decide (q.2.1 ≠ k)
theorem fgp_f (σ : xSig) (p : Int) : FP [(248, 6), (251, -1), (252, -1), (253, -1)] σ (fgp σ p) := (((FP.rf.putA rfl).putA rfl).putA rfl).put rfl
theorem abl_pl {k : Int} : ∀ (n : Nat) (σ : xSig), IXR σ → (n : Int) ≤ σ 248 6 → (∀ p : Nat, n ≤ p → (p : Int) < σ 248 6 → σ 252 p ≠ k) → (plC (abl k n σ)).Perm ((plC σ).filter (noI k)) ∧ IXR (abl k n σ) ∧ FP [(248, 6), (251, -1), (252, -1), (253, -1)] σ (abl k n σ) ∧ abl k n σ 248 6 ≤ σ 248 6 := by
  intro n
  induction n with
  | zero =>
    intro σ hX h6 hq
    refine ⟨?_, hX, FP.rf, Int.le_refl _⟩
    simp only [abl]
    rw [List.filter_eq_self.mpr]
    intro q hqm
    unfold plC at hqm
    obtain ⟨p, hp, rfl⟩ := List.mem_map.mp hqm
    have := List.mem_range.mp hp
    exact decide_eq_true (hq p (by omega) (by omega))
  | succ n ih =>
    intro σ hX h6 hq
    simp only [abl]
    have h512 := hX.2.2.1
    by_cases h : iop σ n = k
    · rw [if_pos h]
      have hk : σ 252 n = k := by unfold iop at h; rwa [if_pos (by omega)] at h
      obtain ⟨g1, g2, g3, g4⟩ := ih (fgp σ n) (IXR_fgp hX (by omega)) (by rw [fgp_6]; omega) (by
        intro p hp1 hp2
        rw [fgp_6] at hp2
        have v : fgp σ n 252 p = if (p : Int) = n then σ 252 (σ 248 6 - 1) else σ 252 p := by
          unfold fgp
          rw [xu_other _ _ _ (by decide), xu_other _ _ _ (by decide)]
          unfold xu
          by_cases c : (p : Int) = n
          · rw [if_pos ⟨rfl, c⟩, if_pos c]
          · rw [if_neg (fun q => c q.2), if_neg c]
            simp
        rw [v]
        split
        · have := hq (σ 248 6 - 1).toNat (by omega) (by omega)
          rwa [show (((σ 248 6 - 1).toNat : Nat) : Int) = σ 248 6 - 1 by omega] at this
        · exact hq p (by omega) (by omega))
      refine ⟨g1.trans ?_, g2, (fgp_f σ n).tr g3, ?_⟩
      · have e := (fgp_pl (σ := σ) (p := n) (by omega)).filter (noI k)
        rwa [flt_er (noI k) (plC σ) n _ (plC_get (by omega)) (decide_eq_false (fun q => q hk))] at e
      · rw [fgp_6] at g4; omega
    · rw [if_neg h]
      have hk : σ 252 n ≠ k := by unfold iop at h; rwa [if_pos (by omega)] at h
      exact ih σ hX (by omega) (fun p hp1 hp2 => by
        by_cases c : p = n
        · rw [c]; exact hk
        · exact hq p (by omega) hp2)
theorem mdx_lp {x : Int} (hx : 0 ≤ x ∧ x < 3) : ∀ (n : Nat) (c : Int) (s : xSig), (n : Int) ≤ s 281 18 → s 281 18 ≤ 512 → (∀ p : Nat, n ≤ p → (p : Int) < s 281 18 → s 293 p ≠ x) → (∀ p : Nat, (p : Int) < s 281 18 → xr (s 293 p)) → ∃ s', x_E MX12_dropIndex 0 0 32 [some (.ref 281), some (.int (ii x)), some (.int (ii c)), some (.int (ii ((n : Int) - 1)))] [] (St s) 0 0 (iv (c + (s 281 18 - s' 281 18))) (St s') ∧ FP [(281, 18), (292, -1), (293, -1), (294, -1)] s s' ∧ plM s' = (plM s).filter (noI x) ∧ 0 ≤ s' 281 18 := by
  intro n
  induction n with
  | zero =>
    intro c s h1 h2 hq hr
    refine ⟨s, ?_, FP.rf, ?_, by omega⟩
    · rw [show c + (s 281 18 - s 281 18) = c by omega]
      refine e_iload_n 22 33 rfl rfl rfl rfl ?_
      refine e_if_lt 23 60 36 rfl rfl rfl (by unfold xr at *; omega) (fun _ => ?_) (fun h9 => absurd h9 (by omega))
      refine e_iload_n 36 61 rfl rfl rfl rfl ?_
      exact e_ireturn 37 rfl rfl (Nat.le_of_ble_eq_true rfl) (Nat.le_of_ble_eq_true rfl)
    · rw [List.filter_eq_self.mpr]
      intro q hqm
      unfold plM at hqm
      obtain ⟨p, hp, rfl⟩ := List.mem_map.mp hqm
      have := List.mem_range.mp hp
      exact decide_eq_true (hq p (by omega) (by omega))
  | succ n ih =>
    intro c s h1 h2 hq hr
    rw [show (((n + 1 : Nat)) : Int) - 1 = (n : Int) by omega]
    have hxr : xr (s 293 n) := hr n (by omega)
    have hxx : xr x := by unfold xr; omega
    by_cases h : s 293 n = x
    · have pd := sp_mDropPlan (s := s) (p := n) (by omega) (by omega) h2
      have e6 : xu (dsh s n (s 281 18 - 1)) 281 18 (s 281 18 - 1) 281 18 = s 281 18 - 1 := xu_same _ _ _ _
      have v : ∀ p : Nat, xu (dsh s n (s 281 18 - 1)) 281 18 (s 281 18 - 1) 293 p = if (n : Int) ≤ p ∧ (p : Int) < s 281 18 - 1 then s 293 (((p + 1 : Nat)) : Int) else s 293 p := fun p => by
        rw [xu_other _ _ _ (by decide)]
        unfold dsh
        by_cases c1 : (n : Int) ≤ p ∧ (p : Int) < s 281 18 - 1
        · rw [if_pos ⟨by decide, c1⟩, if_pos c1]
          rfl
        · rw [if_neg (fun q => c1 q.2), if_neg c1]
      obtain ⟨s', k1, k2, k3, k4⟩ := ih (c + 1) (xu (dsh s n (s 281 18 - 1)) 281 18 (s 281 18 - 1)) (by rw [e6]; omega) (by rw [e6]; omega) (by
        intro p hp1 hp2
        rw [e6] at hp2
        rw [v, if_pos (by omega)]
        exact hq (p + 1) (by omega) (by omega)) (by
        intro p hp2
        rw [e6] at hp2
        rw [v]
        split
        · exact hr (p + 1) (by omega)
        · exact hr p (by omega))
      rw [e6] at k1
      refine ⟨s', ?_, ?_, ?_, k4⟩
      · rw [show c + (s 281 18 - s' 281 18) = c + 1 + (s 281 18 - 1 - s' 281 18) by omega]
        refine e_iload_n 22 33 rfl rfl rfl rfl ?_
        refine e_if_lt 23 60 36 rfl rfl rfl (by unfold xr at *; omega) (fun h9 => absurd h9 (by omega)) (fun _ => ?_)
        refine e_aload_n 24 37 rfl rfl rfl rfl ?_
        refine g_getR 25 40 ckX12 flX12_45 rfl rfl (Nat.le_of_ble_eq_true rfl) rfl rfl ?_
        refine e_iload_n 26 41 rfl rfl rfl rfl ?_
        refine g_iaload 27 42 rfl rfl (Nat.le_of_ble_eq_true rfl) rfl (by omega) (by omega) (by omega) rfl ?_
        refine e_iload_n 28 43 rfl rfl rfl rfl ?_
        refine e_icmp_ne 29 54 46 rfl rfl rfl hxr hxx (fun h9 => absurd h9 (fun q => q h)) (fun _ => ?_)
        refine e_aload_n 30 47 rfl rfl rfl rfl ?_
        refine e_iload_n 31 48 rfl rfl rfl rfl ?_
        refine g_callV 32 51 (pd) okX12_dropPlan cvX12_276 ⟨(Nat.le_of_ble_eq_true rfl), (Nat.le_of_ble_eq_true rfl)⟩ rfl rfl (Nat.le_of_ble_eq_true rfl) rfl rfl rfl rfl rfl (Nat.le_of_ble_eq_true rfl) (Nat.le_of_ble_eq_true rfl) (Nat.le_of_ble_eq_true rfl) ?_
        refine e_iinc 33 54 (ls' := [some _, some _, some _, some _]) rfl rfl (Nat.le_of_ble_eq_true rfl) rfl rfl ?_
        refine e_iinc 34 57 (ls' := [some _, some _, some _, some _]) rfl rfl (Nat.le_of_ble_eq_true rfl) rfl rfl ?_
        refine e_goto 35 32 rfl rfl ?_
        exact k1
      · refine FP.tr ?_ k2
        exact ((dsh_f s n _).mono rfl).put rfl
      · rw [k3, dsh_pl (by omega)]
        exact flt_er (noI x) (plM s) n _ (plM_get (by omega)) (decide_eq_false (fun q => q h))
    · obtain ⟨s', k1, k2, k3, k4⟩ := ih c s (by omega) h2 (fun p hp1 hp2 => by
        by_cases c1 : p = n
        · rw [c1]; exact h
        · exact hq p (by omega) hp2) hr
      refine ⟨s', ?_, k2, k3, k4⟩
      refine e_iload_n 22 33 rfl rfl rfl rfl ?_
      refine e_if_lt 23 60 36 rfl rfl rfl (by unfold xr at *; omega) (fun h9 => absurd h9 (by omega)) (fun _ => ?_)
      refine e_aload_n 24 37 rfl rfl rfl rfl ?_
      refine g_getR 25 40 ckX12 flX12_45 rfl rfl (Nat.le_of_ble_eq_true rfl) rfl rfl ?_
      refine e_iload_n 26 41 rfl rfl rfl rfl ?_
      refine g_iaload 27 42 rfl rfl (Nat.le_of_ble_eq_true rfl) rfl (by omega) (by omega) (by omega) rfl ?_
      refine e_iload_n 28 43 rfl rfl rfl rfl ?_
      refine e_icmp_ne 29 54 46 rfl rfl rfl hxr hxx (fun _ => ?_) (fun h9 => absurd h9 h)
      refine e_iinc 34 57 (ls' := [some _, some _, some _, some _]) rfl rfl (Nat.le_of_ble_eq_true rfl) rfl rfl ?_
      refine e_goto 35 32 rfl rfl ?_
      exact k1
theorem st_dropIndex {i : Nat} {σ : xSig} (h : INV i σ) {x : Int} (hx0 : xr x) : STEP i MX11_dropIndex MX12_dropIndex iv [nIOB] [.int (ii x)] σ := by
  have hM := h
  obtain ⟨T, G, hA, hM⟩ := hM
  obtain ⟨hX, h6, hpl, hnd⟩ := hM.1 8
  have h7 := hM.2 7
  obtain ⟨e18, hpe⟩ := hM.2 9
  cases hh : ihas σ x with
  | false =>
    have c1 := sp_mIsIndex h7 hx0
    rw [hh] at c1
    refine STEP.refuse h 1 (by simp) (sp_dropIndexX hX hx0 hh) (σ2 := xu σ 281 47 1) (y := 0) ?_ (xu_same _ _ _ _) F47s
    refine e_entry okX12_dropIndex (Nat.le_of_ble_eq_true rfl) (ls := [some _, some _, none, none]) rfl ?_
    refine e_aload_n 0 1 rfl rfl rfl rfl ?_
    refine e_aload_n 1 2 rfl rfl rfl rfl ?_
    refine e_iload_n 2 3 rfl rfl rfl rfl ?_
    refine g_callV 3 6 (c1) okX12_isIndex cvX12_273 ⟨(Nat.le_of_ble_eq_true rfl), (Nat.le_of_ble_eq_true rfl)⟩ rfl rfl (Nat.le_of_ble_eq_true rfl) rfl rfl rfl rfl rfl (Nat.le_of_ble_eq_true rfl) (Nat.le_of_ble_eq_true rfl) (Nat.le_of_ble_eq_true rfl) ?_
    refine e_iconst 4 7 rfl rfl ?_
    refine e_iconst 5 8 rfl rfl ?_
    refine g_callV 6 11 (sp_mGoes (a := false) (b := true) (c := true)) okX12_goes cvX12_167 ⟨(Nat.le_of_ble_eq_true rfl), (Nat.le_of_ble_eq_true rfl)⟩ rfl rfl (Nat.le_of_ble_eq_true rfl) rfl rfl rfl rfl rfl (Nat.le_of_ble_eq_true rfl) (Nat.le_of_ble_eq_true rfl) (Nat.le_of_ble_eq_true rfl) ?_
    refine e_ifb_ne 7 16 14 rfl rfl rfl (fun hb => ?_) (fun hb => ?_)
    · skip
      cases hb
    · skip
      refine e_iconst 8 15 rfl rfl ?_
      exact e_ireturn 9 rfl rfl (Nat.le_of_ble_eq_true rfl) (Nat.le_of_ble_eq_true rfl)
  | true =>
    have hx := ihas_in hh
    have x1 := sp_dropIndex1 hX hh
    obtain ⟨σ0, hσ0⟩ : ∃ s, s = xu σ 249 x (-1) := ⟨_, rfl⟩
    have hF0 : FP [(249, -1)] σ σ0 := by rw [hσ0]; exact FP.rf.putA rfl
    have hX0 : IXR σ0 := by
      obtain ⟨q1, q2, q3, q4, q5, q6⟩ := hX
      rw [hσ0]
      refine ⟨xu_all (P := fun z => -1 ≤ z ∧ z < 72) q1 (fun _ => by omega), ?_, ?_, ?_, ?_, ?_⟩
      · intro j; rw [xu_other _ _ _ (by decide)]; exact q2 j
      · rw [xu_other _ _ _ (by decide)]; exact q3
      · rw [xu_other _ _ _ (by decide)]; exact q4
      · rw [xu_other _ _ _ (by decide)]; exact q5
      · rw [xu_other _ _ _ (by decide)]; exact q6
    have e06 : σ0 248 6 = σ 248 6 := hF0 248 6 rfl
    have epl0 : plC σ0 = plC σ := by unfold plC; rw [hF0.cell 248 rfl, hF0.cell 251 rfl, hF0.cell 252 rfl, hF0.cell 253 rfl]
    rw [← hσ0] at x1
    obtain ⟨a1, a2, a3, a4⟩ := abl_pl (k := x) (σ 248 6).toNat σ0 hX0 (by have := hX.2.2.1; omega) (fun p hp1 hp2 => by omega)
    obtain ⟨σ1, hσ1⟩ : ∃ s, s = abl x (σ 248 6).toNat σ0 := ⟨_, rfl⟩
    rw [← hσ1] at x1 a1 a2 a3 a4
    rw [epl0] at a1
    have hF1 : FP [(249, -1), (248, 6), (251, -1), (252, -1), (253, -1)] σ σ1 := (hF0.mono rfl).tr (a3.mono rfl)
    have ml : ∀ b : Nat, 281 ≤ b → σ1 b = σ b := fun b hb => hF1.cell b (by simp only [List.all_cons, List.all_nil, Bool.and_true, bne_iff_ne, Bool.and_eq_true]; omega)
    have h71 : ∀ k : Int, 0 ≤ k → k < 3 → σ1 288 k = bi (ihas σ k) ∧ (ihas σ k = true → σ1 287 k = σ 249 k ∧ σ1 289 k = σ 250 k) := fun k k0 k3 => by
      rw [ml 287 (by decide), ml 288 (by decide), ml 289 (by decide)]
      exact h7 k k0 k3
    have c1 := sp_mIsIndex (σ := σ1) h71 hx0
    rw [hh] at c1
    have s18 : xu (xu σ1 281 47 0) 288 x 0 281 18 = σ 248 6 := by rw [xu_other _ _ _ (by decide), xu_ne _ (Or.inr (by decide)), ml 281 (by decide)]; exact e18
    have s293 : ∀ p : Int, xu (xu σ1 281 47 0) 288 x 0 293 p = σ 293 p := fun p => by rw [xu_other _ _ _ (by decide), xu_other _ _ _ (by decide), ml 293 (by decide)]
    have eM : plM (xu (xu σ1 281 47 0) 288 x 0) = plM σ := by
      unfold plM
      rw [s18, e18, xu_other _ _ _ (by decide), xu_other _ _ _ (by decide), xu_other _ _ _ (by decide), xu_other _ _ _ (by decide), xu_other _ _ _ (by decide), xu_other _ _ _ (by decide), ml 292 (by decide), ml 293 (by decide), ml 294 (by decide)]
    have h512 := hX.2.2.1
    have hq293 : ∀ p : Nat, (p : Int) < σ 248 6 → xr (σ 293 p) := fun p hp => by
      have hm := List.mem_of_getElem? (plM_get (σ := σ) (p := p) (by rw [e18]; exact hp))
      have hm2 := hpe.mem_iff.mpr hm
      obtain ⟨q, hq1, hq2⟩ := List.mem_map.mp hm2
      have hq3 : q.2.1 = σ 293 p := by have := congrArg (fun z : Pn => z.2.1) hq2; exact this
      rw [← hq3]
      rcases (hpl q hq1).2 with w | w
      · rw [w]; unfold xr; omega
      · have := ihas_in w.1
        unfold xr; omega
    obtain ⟨s', k1, k2, k3, k4⟩ := mdx_lp (x := x) ⟨hx.1, hx.2.1⟩ (σ 248 6).toNat 0 (xu (xu σ1 281 47 0) 288 x 0) (by rw [s18]; omega) (by rw [s18]; omega) (fun p hp1 hp2 => by rw [s18] at hp2; omega) (fun p hp => by rw [s18] at hp; rw [s293]; exact hq293 p hp)
    rw [s18, show (((σ 248 6).toNat : Nat) : Int) = σ 248 6 by omega] at k1
    rw [eM] at k3
    have hF2 : FP [(249, -1), (248, 6), (251, -1), (252, -1), (253, -1), (281, 47), (288, -1), (281, 18), (292, -1), (293, -1), (294, -1)] σ s' := FP.tr (((hF1.mono rfl).put rfl).putA rfl) (k2.mono rfl)
    have cl : ∀ b : Nat, b < 281 → s' b = σ1 b := fun b hb => by
      have e1 := k2.cell b (by simp only [List.all_cons, List.all_nil, Bool.and_true, bne_iff_ne, Bool.and_eq_true]; omega)
      rw [e1, xu_other _ _ _ (by omega), xu_other _ _ _ (by omega)]
    have eC : plC s' = plC σ1 := by unfold plC; rw [cl 248 (by decide), cl 251 (by decide), cl 252 (by decide), cl 253 (by decide)]
    have v249 : ∀ k : Int, s' 249 k = if k = x then -1 else σ 249 k := fun k => by
      rw [cl 249 (by decide), a3.cell 249 rfl, hσ0]
      unfold xu
      by_cases w : k = x
      · rw [if_pos ⟨rfl, w⟩, if_pos w]
      · rw [if_neg (fun q => w q.2), if_neg w]
    have e250 : s' 250 = σ 250 := by rw [cl 250 (by decide)]; exact hF1.cell 250 rfl
    have hlen : s' 281 18 = s' 248 6 := by
      have l1 := a1.length_eq
      have l2 := hpe.filter (noI x)
      rw [List.filter_map] at l2
      have l3 := l2.length_eq
      rw [List.length_map, ← k3, plM_len] at l3
      rw [plC_len] at l1
      have l4 : List.filter (noI x ∘ mkP) (plC σ) = List.filter (noI x) (plC σ) := rfl
      rw [l4] at l3
      have := a2.2.2.1
      rw [cl 248 (by decide)]
      omega
    refine ⟨σ1, s', 0, _, 0 + (σ 248 6 - s' 281 18), ⟨by omega, by simp⟩, fun _ => x1, fun q => absurd rfl q, ?_, ?_, fun _ => ?_, ?_⟩
    · skip
      refine e_entry okX12_dropIndex (Nat.le_of_ble_eq_true rfl) (ls := [some _, some _, none, none]) rfl ?_
      refine e_aload_n 0 1 rfl rfl rfl rfl ?_
      refine e_aload_n 1 2 rfl rfl rfl rfl ?_
      refine e_iload_n 2 3 rfl rfl rfl rfl ?_
      refine g_callV 3 6 (c1) okX12_isIndex cvX12_273 ⟨(Nat.le_of_ble_eq_true rfl), (Nat.le_of_ble_eq_true rfl)⟩ rfl rfl (Nat.le_of_ble_eq_true rfl) rfl rfl rfl rfl rfl (Nat.le_of_ble_eq_true rfl) (Nat.le_of_ble_eq_true rfl) (Nat.le_of_ble_eq_true rfl) ?_
      refine e_iconst 4 7 rfl rfl ?_
      refine e_iconst 5 8 rfl rfl ?_
      refine g_callV 6 11 (sp_mGoesT) okX12_goes cvX12_167 ⟨(Nat.le_of_ble_eq_true rfl), (Nat.le_of_ble_eq_true rfl)⟩ rfl rfl (Nat.le_of_ble_eq_true rfl) rfl rfl rfl rfl rfl (Nat.le_of_ble_eq_true rfl) (Nat.le_of_ble_eq_true rfl) (Nat.le_of_ble_eq_true rfl) ?_
      refine e_ifb_ne 7 16 14 rfl rfl rfl (fun hb => ?_) (fun hb => ?_)
      · skip
        refine e_aload_n 10 17 rfl rfl rfl rfl ?_
        refine g_getR 11 20 ckX12 flX12_29 rfl rfl (Nat.le_of_ble_eq_true rfl) rfl rfl ?_
        refine e_iload_n 12 21 rfl rfl rfl rfl ?_
        refine e_iconst 13 22 rfl rfl ?_
        refine g_bastore 14 23 rfl rfl (by omega) (Nat.le_of_ble_eq_true rfl) rfl (by omega) (by omega) (by omega) ?_
        refine e_iconst 15 24 rfl rfl ?_
        refine e_istore_n 16 25 (ls' := [some _, some _, some _, none]) rfl rfl rfl (Nat.le_of_ble_eq_true rfl) rfl ?_
        refine e_aload_n 17 26 rfl rfl rfl rfl ?_
        refine g_getI 18 29 18 ckX12 flX12_270 rfl rfl (Nat.le_of_ble_eq_true rfl) rfl rfl rfl s18 ?_
        refine e_iconst 19 30 rfl rfl ?_
        refine e_isub 20 31 rfl rfl ?_
        refine e_istore_n 21 32 (ls' := [some _, some _, some _, some _]) rfl rfl rfl (Nat.le_of_ble_eq_true rfl) rfl ?_
        exact k1
      · skip
        cases hb
    · rw [k2 281 47 rfl, xu_other _ _ _ (by decide), xu_same]
    · rw [hlen, cl 248 (by decide)]; omega
    · refine INV.go _ [8] [7, 9] hA hM hF2 (by decide +kernel) rfl rfl (alc ?_ al0) (alc ?_ (alc ?_ al0))
      · refine ⟨a2.fr fun b b1 b2 => cl b (by omega), ?_, ?_, ?_⟩
        · rw [cl 248 (by decide)]; omega
        · rw [eC]
          intro q hq
          have hq2 := List.mem_filter.mp (a1.mem_iff.mp hq)
          have hq3 : q.2.1 ≠ x := of_decide_eq_true hq2.2
          obtain ⟨r1, r2⟩ := hpl q hq2.1
          refine ⟨r1, r2.imp (fun w => w) (fun w => ?_)⟩
          have e1 : ihas s' q.2.1 = ihas σ q.2.1 := by unfold ihas; rw [v249, if_neg hq3]
          have e2 : pxs s' q.2.1 = pxs σ q.2.1 := by unfold pxs; rw [v249, if_neg hq3]
          rw [e1, e2]
          exact w
        · rw [eC, (a1.map Prod.fst).nodup_iff]
          exact hnd.sublist (List.filter_sublist.map _)
      · intro k k0 k3
        have e288 : s' 288 k = if k = x then 0 else σ 288 k := by
          rw [k2.cell 288 rfl]
          unfold xu
          by_cases w : k = x
          · rw [if_pos ⟨rfl, w⟩, if_pos w]
          · rw [if_neg (fun q => w q.2), if_neg w, if_neg (fun q => absurd q.1 (by decide))]
            exact congrFun (ml 288 (by decide)) k
        have e287 : s' 287 = σ 287 := hF2.cell 287 rfl
        have e289 : s' 289 = σ 289 := hF2.cell 289 rfl
        rw [e288, e287, e289, e250, v249]
        by_cases w : k = x
        · have ei : ihas s' k = false := decide_eq_false (fun q => q.2.2 (by rw [v249, if_pos w]))
          rw [if_pos w, ei]
          exact ⟨rfl, fun q => by cases q⟩
        · have ei : ihas s' k = ihas σ k := by unfold ihas; rw [v249, if_neg w]
          rw [if_neg w, if_neg w, ei]
          exact h7 k k0 k3
      · refine ⟨hlen, ?_⟩
        rw [eC, k3]
        have l2 := hpe.filter (noI x)
        rw [List.filter_map] at l2
        exact (a1.map mkP).trans l2
