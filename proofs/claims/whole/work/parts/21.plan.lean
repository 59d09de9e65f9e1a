/-! ===== Query: shape, plans ===== -/
def shpN (g : Nat → Int) : Nat → Nat → Int → Int
  | _, 0, s => s
  | i, n + 1, s => shpN g (i + 1) n (s * 361 + g i)
def shp (σ : xSig) : Int := shpN (fun i => σ (qf i) 1 * 5 + σ (qf i) 2 + 1) 0 (σ 256 4).toNat 0
theorem sp_qShape {σ : xSig} : Rd MX7_shape [.ref 256] σ (iv (shp σ)) ∨ ¬ (0 ≤ σ 256 4 ∧ σ 256 4 ≤ 3) := by
  by_cases h4 : 0 ≤ σ 256 4 ∧ σ 256 4 ≤ 3
  · refine Or.inl ?_
    have loop : ∀ (n i : Nat) (s : Int), (i : Int) + n = σ 256 4 → x_E MX7_shape 0 0 4 [some (.ref 256), some (.int (ii s)), some (.int (ii i))] [] (St σ) 0 0 (iv (shpN (fun i => σ (qf i) 1 * 5 + σ (qf i) 2 + 1) i n s)) (St σ) := by
      intro n
      induction n with
      | zero =>
        intro i s hi
        refine e_iload_n 4 5 rfl rfl rfl rfl ?_
        refine e_aload_n 5 6 rfl rfl rfl rfl ?_
        refine g_getI 6 9 4 ckX7 flX7_33 rfl rfl (Nat.le_of_ble_eq_true rfl) rfl rfl rfl rfl ?_
        refine e_icmp_ge 7 33 12 rfl rfl rfl (by unfold xr at *; omega) (by unfold xr at *; omega) (fun _ => ?_) (fun h9 => absurd h9 (by omega))
        refine e_iload_n 19 34 rfl rfl rfl rfl ?_
        exact e_ireturn 20 rfl rfl (Nat.le_of_ble_eq_true rfl) (Nat.le_of_ble_eq_true rfl)
      | succ n ih =>
        intro i s hi
        have hq := qf_isFi i
        have hn := ih (i + 1) (s * 361 + (σ (qf i) 1 * 5 + σ (qf i) 2 + 1)) (by omega)
        rw [show (((i + 1 : Nat)) : Int) = (i : Int) + 1 by omega] at hn
        simp only [shpN]
        refine e_iload_n 4 5 rfl rfl rfl rfl ?_
        refine e_aload_n 5 6 rfl rfl rfl rfl ?_
        refine g_getI 6 9 4 ckX7 flX7_33 rfl rfl (Nat.le_of_ble_eq_true rfl) rfl rfl rfl rfl ?_
        refine e_icmp_ge 7 33 12 rfl rfl rfl (by unfold xr at *; omega) (by unfold xr at *; omega) (fun h9 => absurd h9 (by omega)) (fun _ => ?_)
        refine e_iload_n 8 13 rfl rfl rfl rfl ?_
        refine e_sipush 9 16 rfl rfl rfl ?_
        refine e_imul 10 17 rfl rfl ?_
        refine e_aload_n 11 18 rfl rfl rfl rfl ?_
        refine e_iload_n 12 19 rfl rfl rfl rfl ?_
        refine g_callV 13 22 (sp_filterAt (by unfold xr; omega)) okX7_filterAt cvX7_57 ⟨(Nat.le_of_ble_eq_true rfl), (Nat.le_of_ble_eq_true rfl)⟩ rfl rfl (Nat.le_of_ble_eq_true rfl) rfl rfl rfl rfl rfl (Nat.le_of_ble_eq_true rfl) (Nat.le_of_ble_eq_true rfl) (Nat.le_of_ble_eq_true rfl) ?_
        refine g_callV 14 25 (sp_fShape hq) okX2_shape cvX7_90 ⟨(Nat.le_of_ble_eq_true rfl), (Nat.le_of_ble_eq_true rfl)⟩ rfl rfl hq.1  hq.2.1 rfl rfl rfl rfl (Nat.le_of_ble_eq_true rfl) (Nat.le_of_ble_eq_true rfl) (Nat.le_of_ble_eq_true rfl) ?_
        refine e_iadd 15 26 rfl rfl ?_
        refine e_istore_n 16 27 (ls' := [some _, some _, some _]) rfl rfl rfl (Nat.le_of_ble_eq_true rfl) rfl ?_
        refine e_iinc 17 30 (ls' := [some _, some _, some _]) rfl rfl (Nat.le_of_ble_eq_true rfl) rfl rfl ?_
        refine e_goto 18 4 rfl rfl ?_
        exact hn
    refine e_entry okX7_shape (Nat.le_of_ble_eq_true rfl) (ls := [some _, none, none]) rfl ?_
    refine e_iconst 0 1 rfl rfl ?_
    refine e_istore_n 1 2 (ls' := [some _, some _, none]) rfl rfl rfl (Nat.le_of_ble_eq_true rfl) rfl ?_
    refine e_iconst 2 3 rfl rfl ?_
    refine e_istore_n 3 4 (ls' := [some _, some _, some _]) rfl rfl rfl (Nat.le_of_ble_eq_true rfl) rfl ?_
    exact loop (σ 256 4).toNat 0 0 (by omega)
  · exact Or.inr h4
theorem sp_shape {σ : xSig} (h4 : 0 ≤ σ 256 4 ∧ σ 256 4 ≤ 3) : Rd MX7_shape [.ref 256] σ (iv (shp σ)) := sp_qShape.resolve_right (fun q => q h4)
theorem shp_bnd {σ : xSig} {T : Nat → List Int} (hL : FLT σ T) : 0 ≤ shp σ ∧ shp σ < 47045881 := by
  obtain ⟨h4, h5⟩ := hL
  have g : ∀ i : Nat, (i : Int) < σ 256 4 → 1 ≤ σ (qf i) 1 * 5 + σ (qf i) 2 + 1 ∧ σ (qf i) 1 * 5 + σ (qf i) 2 + 1 ≤ 360 := fun i hi => by
    obtain ⟨h6, h7, _⟩ := h5 i hi
    omega
  unfold shp
  rcases (by omega : σ 256 4 = 0 ∨ σ 256 4 = 1 ∨ σ 256 4 = 2 ∨ σ 256 4 = 3) with e | e | e | e <;> rw [e] at g ⊢ <;> simp only [shpN, show (0 : Int).toNat = 0 from rfl, show (1 : Int).toNat = 1 from rfl, show (2 : Int).toNat = 2 from rfl, show (3 : Int).toNat = 3 from rfl, show (0 + 1 : Nat) = 1 from rfl, show (1 + 1 : Nat) = 2 from rfl]
  · omega
  · have g0 := g 0 (by decide)
    omega
  · have g0 := g 0 (by decide)
    have g1 := g 1 (by decide)
    omega
  · have g0 := g 0 (by decide)
    have g1 := g 1 (by decide)
    have g2 := g 2 (by decide)
    omega
/-- which filter an index looks by; -1 -/
def ffi (σ : xSig) (k : Int) : Int := if ihas σ k = true then fstIs (fun i => bi (decide (σ (qf i) 1 = pxs σ k ∧ σ (qf i) 2 < 3))) 1 0 (σ 256 4).toNat else -1
theorem ffi_bnd (σ : xSig) (k : Int) (h4 : 0 ≤ σ 256 4 ∧ σ 256 4 ≤ 3) : -1 ≤ ffi σ k ∧ ffi σ k < σ 256 4 ∨ (ffi σ k = -1) := by
  unfold ffi
  split
  · rcases fstIs_bnd (f := fun i => bi (decide (σ (qf i) 1 = pxs σ k ∧ σ (qf i) 2 < 3))) (x := 1) (σ 256 4).toNat 0 with h | h <;> omega
  · exact Or.inr rfl
theorem sp_filterFor {σ : xSig} {T : Nat → List Int} (hL : FLT σ T) (hX : IXR σ) {k : Int} (hk : xr k) : Rd MX7_filterFor [.ref 256, .int (ii k), .ref 248] σ (rv (qf (ffi σ k))) := by
  have h4 := hL.1
  have hpo := sp_pathOf (σ := σ) hk
  have hih := sp_ixHas hX hk
  cases hi : ihas σ k with
  | false =>
    rw [hi] at hih
    have e : qf (ffi σ k) = 258 := by unfold ffi; rw [hi]; rfl
    rw [e]
    by_cases h0 : σ 256 4 = 0
    · skip
      refine e_entry okX7_filterFor (Nat.le_of_ble_eq_true rfl) (ls := [some _, some _, some _, none, none]) rfl ?_
      refine e_iconst 0 1 rfl rfl ?_
      refine e_istore_n 1 2 (ls' := [some _, some _, some _, some _, none]) rfl rfl rfl (Nat.le_of_ble_eq_true rfl) rfl ?_
      refine e_iload_n 2 3 rfl rfl rfl rfl ?_
      refine e_aload_n 3 4 rfl rfl rfl rfl ?_
      refine g_getI 4 7 4 ckX7 flX7_33 rfl rfl (Nat.le_of_ble_eq_true rfl) rfl rfl rfl rfl ?_
      refine e_icmp_ge 5 47 10 rfl rfl rfl (by unfold xr at *; omega) (by unfold xr at *; omega) (fun _ => ?_) (fun h9 => absurd h9 (by omega))
      refine e_aload_n 24 48 rfl rfl rfl rfl ?_
      refine g_getR 25 51 ckX7 flX7_18 rfl rfl (Nat.le_of_ble_eq_true rfl) rfl rfl ?_
      exact e_areturn 26 rfl rfl (Nat.le_of_ble_eq_true rfl) (Nat.le_of_ble_eq_true rfl)
    · skip
      refine e_entry okX7_filterFor (Nat.le_of_ble_eq_true rfl) (ls := [some _, some _, some _, none, none]) rfl ?_
      refine e_iconst 0 1 rfl rfl ?_
      refine e_istore_n 1 2 (ls' := [some _, some _, some _, some _, none]) rfl rfl rfl (Nat.le_of_ble_eq_true rfl) rfl ?_
      refine e_iload_n 2 3 rfl rfl rfl rfl ?_
      refine e_aload_n 3 4 rfl rfl rfl rfl ?_
      refine g_getI 4 7 4 ckX7 flX7_33 rfl rfl (Nat.le_of_ble_eq_true rfl) rfl rfl rfl rfl ?_
      refine e_icmp_ge 5 47 10 rfl rfl rfl (by unfold xr at *; omega) (by unfold xr at *; omega) (fun h9 => absurd h9 (by omega)) (fun _ => ?_)
      refine e_aload_n 6 11 rfl rfl rfl rfl ?_
      refine e_iload_n 7 12 rfl rfl rfl rfl ?_
      refine g_callV 8 15 (hih) okX4_has cvX7_133 ⟨(Nat.le_of_ble_eq_true rfl), (Nat.le_of_ble_eq_true rfl)⟩ rfl rfl (Nat.le_of_ble_eq_true rfl) rfl rfl rfl rfl rfl (Nat.le_of_ble_eq_true rfl) (Nat.le_of_ble_eq_true rfl) (Nat.le_of_ble_eq_true rfl) ?_
      refine e_ifb_eq 9 47 18 rfl rfl rfl (fun h2 => ?_) (fun h2 => ?_)
      · skip
        refine e_aload_n 24 48 rfl rfl rfl rfl ?_
        refine g_getR 25 51 ckX7 flX7_18 rfl rfl (Nat.le_of_ble_eq_true rfl) rfl rfl ?_
        exact e_areturn 26 rfl rfl (Nat.le_of_ble_eq_true rfl) (Nat.le_of_ble_eq_true rfl)
      · skip
        cases h2
  | true =>
    rw [hi] at hih
    have hp := pxs_has hX hi
    have loop : ∀ (n i : Nat), (i : Int) + n = σ 256 4 → x_E MX7_filterFor 0 0 2 [some (.ref 256), some (.int (ii k)), some (.ref 248), some (.int (ii i)), none] [] (St σ) 0 0 (rv (qf (fstIs (fun i => bi (decide (σ (qf i) 1 = pxs σ k ∧ σ (qf i) 2 < 3))) 1 i n))) (St σ) := by
      intro n
      induction n with
      | zero =>
        intro i hi
        rw [show fstIs (fun i => bi (decide (σ (qf i) 1 = pxs σ k ∧ σ (qf i) 2 < 3))) 1 i 0 = -1 from rfl, qf_out (Or.inl (by decide))]
        refine e_iload_n 2 3 rfl rfl rfl rfl ?_
        refine e_aload_n 3 4 rfl rfl rfl rfl ?_
        refine g_getI 4 7 4 ckX7 flX7_33 rfl rfl (Nat.le_of_ble_eq_true rfl) rfl rfl rfl rfl ?_
        refine e_icmp_ge 5 47 10 rfl rfl rfl (by unfold xr at *; omega) (by unfold xr at *; omega) (fun _ => ?_) (fun h9 => absurd h9 (by omega))
        refine e_aload_n 24 48 rfl rfl rfl rfl ?_
        refine g_getR 25 51 ckX7 flX7_18 rfl rfl (Nat.le_of_ble_eq_true rfl) rfl rfl ?_
        exact e_areturn 26 rfl rfl (Nat.le_of_ble_eq_true rfl) (Nat.le_of_ble_eq_true rfl)
      | succ n ih =>
        intro i hi
        obtain ⟨f1, f2, f3⟩ := hL.2 i (by omega)
        have hq := qf_isFi i
        have hn := ih (i + 1) (by omega)
        rw [show (((i + 1 : Nat)) : Int) = (i : Int) + 1 by omega] at hn
        have hf := sp_isFor hq f2 (by unfold xr; omega) (x := pxs σ k) (by unfold xr; omega)
        have e : fstIs (fun i => bi (decide (σ (qf i) 1 = pxs σ k ∧ σ (qf i) 2 < 3))) 1 i (n + 1) = if bi (decide (σ (qf i) 1 = pxs σ k ∧ σ (qf i) 2 < 3)) = 1 then (i : Int) else fstIs (fun i => bi (decide (σ (qf i) 1 = pxs σ k ∧ σ (qf i) 2 < 3))) 1 (i + 1) n := rfl
        rw [e]
        refine e_iload_n 2 3 rfl rfl rfl rfl ?_
        refine e_aload_n 3 4 rfl rfl rfl rfl ?_
        refine g_getI 4 7 4 ckX7 flX7_33 rfl rfl (Nat.le_of_ble_eq_true rfl) rfl rfl rfl rfl ?_
        refine e_icmp_ge 5 47 10 rfl rfl rfl (by unfold xr at *; omega) (by unfold xr at *; omega) (fun h9 => absurd h9 (by omega)) (fun _ => ?_)
        refine e_aload_n 6 11 rfl rfl rfl rfl ?_
        refine e_iload_n 7 12 rfl rfl rfl rfl ?_
        refine g_callV 8 15 (hih) okX4_has cvX7_133 ⟨(Nat.le_of_ble_eq_true rfl), (Nat.le_of_ble_eq_true rfl)⟩ rfl rfl (Nat.le_of_ble_eq_true rfl) rfl rfl rfl rfl rfl (Nat.le_of_ble_eq_true rfl) (Nat.le_of_ble_eq_true rfl) (Nat.le_of_ble_eq_true rfl) ?_
        refine e_ifb_eq 9 47 18 rfl rfl rfl (fun h2 => ?_) (fun h2 => ?_)
        · skip
          cases h2
        · skip
          refine e_aload_n 10 19 rfl rfl rfl rfl ?_
          refine e_iload_n 11 20 rfl rfl rfl rfl ?_
          refine g_callV 12 23 (sp_filterAt (by unfold xr; omega)) okX7_filterAt cvX7_57 ⟨(Nat.le_of_ble_eq_true rfl), (Nat.le_of_ble_eq_true rfl)⟩ rfl rfl (Nat.le_of_ble_eq_true rfl) rfl rfl rfl rfl rfl (Nat.le_of_ble_eq_true rfl) (Nat.le_of_ble_eq_true rfl) (Nat.le_of_ble_eq_true rfl) ?_
          refine e_astore 13 25 (ls' := [some _, some _, some _, some _, some _]) rfl rfl (Nat.le_of_ble_eq_true rfl) rfl ?_
          refine e_aload 14 27 rfl rfl rfl ?_
          refine e_aload_n 15 28 rfl rfl rfl rfl ?_
          refine e_iload_n 16 29 rfl rfl rfl rfl ?_
          refine g_callV 17 32 (hpo) okX4_pathOf cvX7_134 ⟨(Nat.le_of_ble_eq_true rfl), (Nat.le_of_ble_eq_true rfl)⟩ rfl rfl (Nat.le_of_ble_eq_true rfl) rfl rfl rfl rfl rfl (Nat.le_of_ble_eq_true rfl) (Nat.le_of_ble_eq_true rfl) (Nat.le_of_ble_eq_true rfl) ?_
          refine g_callV 18 35 (hf) okX2_isFor cvX7_137 ⟨(Nat.le_of_ble_eq_true rfl), (Nat.le_of_ble_eq_true rfl)⟩ rfl rfl hq.1  hq.2.1 rfl rfl rfl rfl (Nat.le_of_ble_eq_true rfl) (Nat.le_of_ble_eq_true rfl) (Nat.le_of_ble_eq_true rfl) ?_
          refine e_ifb_eq 19 41 38 rfl rfl rfl (fun h3 => ?_) (fun h3 => ?_)
          · skip
            rw [h3, if_neg (by decide)]
            refine e_iinc 22 44 (ls' := [some _, some _, some _, some _, some _]) rfl rfl (Nat.le_of_ble_eq_true rfl) rfl rfl ?_
            refine e_goto 23 2 rfl rfl ?_
            refine e_dropm [true, true, true, true, false] (ls' := [some _, some _, some _, some _, none]) rfl ?_
            exact hn
          · skip
            rw [h3, if_pos (show bi true = 1 from rfl)]
            refine e_aload 20 40 rfl rfl rfl ?_
            exact e_areturn 21 rfl rfl (Nat.le_of_ble_eq_true rfl) (Nat.le_of_ble_eq_true rfl)
    have e : ffi σ k = fstIs (fun i => bi (decide (σ (qf i) 1 = pxs σ k ∧ σ (qf i) 2 < 3))) 1 0 (σ 256 4).toNat := by unfold ffi; rw [if_pos hi]
    rw [e]
    refine e_entry okX7_filterFor (Nat.le_of_ble_eq_true rfl) (ls := [some _, some _, some _, none, none]) rfl ?_
    refine e_iconst 0 1 rfl rfl ?_
    refine e_istore_n 1 2 (ls' := [some _, some _, some _, some _, none]) rfl rfl rfl (Nat.le_of_ble_eq_true rfl) rfl ?_
    exact loop (σ 256 4).toNat 0 (by omega)
/-- a plan is tried: (used, looked, tried) -/
def tpS (s : Int × Int × Int) (k l : Int) : Int × Int × Int := (if s.2.2 = 0 ∨ l < s.2.1 then k else s.1, if s.2.2 = 0 ∨ l < s.2.1 then l else s.2.1, s.2.2 + 1)
/-- what a choice of plans may touch: the scratch, and used, looked, tried -/
def QU (σ σ' : xSig) (s : Int × Int × Int) : Prop := FX [254, 255, 256] σ σ' ∧ σ' 256 6 = s.1 ∧ σ' 256 7 = s.2.1 ∧ σ' 256 8 = s.2.2 ∧ ∀ j : Int, j ≠ 6 → j ≠ 7 → j ≠ 8 → σ' 256 j = σ 256 j
theorem QU.rf {σ : xSig} : QU σ σ (σ 256 6, σ 256 7, σ 256 8) := ⟨FX.rf, rfl, rfl, rfl, fun _ _ _ _ => rfl⟩
theorem QU.fr {σ σ1 σ2 : xSig} {s : Int × Int × Int} (h : QU σ σ1 s) (h2 : Fr 254 σ1 σ2) : QU σ σ2 s := by
  have e : σ2 256 = σ1 256 := h2 256 (by decide) (by decide)
  exact ⟨h.1.tr (FX.of h2 (by decide) (by decide)), by rw [e]; exact h.2.1, by rw [e]; exact h.2.2.1, by rw [e]; exact h.2.2.2.1, fun j a b c => by rw [e]; exact h.2.2.2.2 j a b c⟩
theorem sp_tryPlan {σ σ1 : xSig} {s : Int × Int × Int} (hU : QU σ σ1 s) (h7 : xr s.2.1) (h8 : xr s.2.2) {k l : Int} (hl : xr l) :
    ∃ σ' : xSig, x_Sp MX7_tryPlan 0 0 [.ref 256, .int (ii k), .int (ii l)] (St σ1) vv (St σ') ∧ QU σ σ' (tpS s k l) := by
  obtain ⟨u1, u2, u3, u4, u5⟩ := hU
  by_cases hc : s.2.2 = 0 ∨ l < s.2.1
  · have e8 : xu (xu σ1 256 6 k) 256 7 l 256 8 = s.2.2 := by rw [xu_ne _ (Or.inr (by decide)), xu_ne _ (Or.inr (by decide))]; exact u4
    refine ⟨xu (xu (xu σ1 256 6 k) 256 7 l) 256 8 (s.2.2 + 1), ?_, ((u1.xu (by decide)).xu (by decide)).xu (by decide), ?_, ?_, ?_, fun j a b c => ?_⟩
    · have fin : x_E MX7_tryPlan 0 0 15 [some (.ref 256), some (.int (ii k)), some (.int (ii l))] [] (St σ1) 0 0 vv (St (xu (xu (xu σ1 256 6 k) 256 7 l) 256 8 (s.2.2 + 1))) := by
        refine e_aload_n 7 16 rfl rfl rfl rfl ?_
        refine e_iload_n 8 17 rfl rfl rfl rfl ?_
        refine g_putI 9 20 6 ckX7 flX7_40 rfl rfl (Nat.le_of_ble_eq_true rfl) rfl rfl rfl ?_
        refine e_aload_n 10 21 rfl rfl rfl rfl ?_
        refine e_iload_n 11 22 rfl rfl rfl rfl ?_
        refine g_putI 12 25 7 ckX7 flX7_43 rfl rfl (Nat.le_of_ble_eq_true rfl) rfl rfl rfl ?_
        refine e_aload_n 13 26 rfl rfl rfl rfl ?_
        refine e_dup 14 27 rfl rfl rfl ?_
        refine g_getI 15 30 8 ckX7 flX7_46 rfl rfl (Nat.le_of_ble_eq_true rfl) rfl rfl rfl e8 ?_
        refine e_iconst 16 31 rfl rfl ?_
        refine e_iadd 17 32 rfl rfl ?_
        refine g_putI 18 35 8 ckX7 flX7_46 rfl rfl (Nat.le_of_ble_eq_true rfl) rfl rfl rfl ?_
        exact e_return 19 rfl rfl (Nat.le_of_ble_eq_true rfl) (Nat.le_of_ble_eq_true rfl)
      refine e_entry okX7_tryPlan (Nat.le_of_ble_eq_true rfl) (ls := [some _, some _, some _]) rfl ?_
      refine e_aload_n 0 1 rfl rfl rfl rfl ?_
      refine g_getI 1 4 8 ckX7 flX7_46 rfl rfl (Nat.le_of_ble_eq_true rfl) rfl rfl rfl u4 ?_
      refine e_if_eq 2 15 7 rfl rfl rfl h8 (fun h => ?_) (fun h => ?_)
      · skip
        exact fin
      · skip
        refine e_iload_n 3 8 rfl rfl rfl rfl ?_
        refine e_aload_n 4 9 rfl rfl rfl rfl ?_
        refine g_getI 5 12 7 ckX7 flX7_43 rfl rfl (Nat.le_of_ble_eq_true rfl) rfl rfl rfl u3 ?_
        refine e_icmp_ge 6 25 15 rfl rfl rfl hl h7 (fun h9 => absurd h9 (by omega)) (fun _ => ?_)
        exact fin
    · rw [xu_ne _ (Or.inr (by decide)), xu_ne _ (Or.inr (by decide)), xu_same]; unfold tpS; rw [if_pos hc]
    · rw [xu_ne _ (Or.inr (by decide)), xu_same]; simp only [tpS]; rw [if_pos hc]
    · rw [xu_same]; rfl
    · rw [xu_ne _ (Or.inr c), xu_ne _ (Or.inr b), xu_ne _ (Or.inr a)]; exact u5 j a b c
  · refine ⟨xu σ1 256 8 (s.2.2 + 1), ?_, u1.xu (by decide), ?_, ?_, ?_, fun j a b c => ?_⟩
    · skip
      refine e_entry okX7_tryPlan (Nat.le_of_ble_eq_true rfl) (ls := [some _, some _, some _]) rfl ?_
      refine e_aload_n 0 1 rfl rfl rfl rfl ?_
      refine g_getI 1 4 8 ckX7 flX7_46 rfl rfl (Nat.le_of_ble_eq_true rfl) rfl rfl rfl u4 ?_
      refine e_if_eq 2 15 7 rfl rfl rfl h8 (fun h9 => absurd h9 (by omega)) (fun _ => ?_)
      refine e_iload_n 3 8 rfl rfl rfl rfl ?_
      refine e_aload_n 4 9 rfl rfl rfl rfl ?_
      refine g_getI 5 12 7 ckX7 flX7_43 rfl rfl (Nat.le_of_ble_eq_true rfl) rfl rfl rfl u3 ?_
      refine e_icmp_ge 6 25 15 rfl rfl rfl hl h7 (fun _ => ?_) (fun h9 => absurd h9 (by omega))
      refine e_aload_n 13 26 rfl rfl rfl rfl ?_
      refine e_dup 14 27 rfl rfl rfl ?_
      refine g_getI 15 30 8 ckX7 flX7_46 rfl rfl (Nat.le_of_ble_eq_true rfl) rfl rfl rfl u4 ?_
      refine e_iconst 16 31 rfl rfl ?_
      refine e_iadd 17 32 rfl rfl ?_
      refine g_putI 18 35 8 ckX7 flX7_46 rfl rfl (Nat.le_of_ble_eq_true rfl) rfl rfl rfl ?_
      exact e_return 19 rfl rfl (Nat.le_of_ble_eq_true rfl) (Nat.le_of_ble_eq_true rfl)
    · rw [xu_ne _ (Or.inr (by decide))]; unfold tpS; rw [if_neg hc]; exact u2
    · rw [xu_ne _ (Or.inr (by decide))]; simp only [tpS]; rw [if_neg hc]; exact u3
    · rw [xu_same]; rfl
    · rw [xu_ne _ (Or.inr c)]; exact u5 j a b c
/-- at how many documents a plan by an index looks -/
def lk (σ : xSig) (T : Nat → List Int) (k : Int) : Int := lkd σ T (σ (qf (ffi σ k)) 2) (T (qf (ffi σ k) + 1)) k
theorem ihas_congr {σ σ' : xSig} (h : σ' 249 = σ 249) (k : Int) : ihas σ' k = ihas σ k := by unfold ihas; rw [h]
theorem pxs_congr {σ σ' : xSig} (h : σ' 249 = σ 249) (k : Int) : pxs σ' k = pxs σ k := by unfold pxs; rw [h]
theorem qfI {σ σ' : xSig} (h : ∀ i : Nat, σ' (qf i) = σ (qf i)) (i : Int) : σ' (qf i) = σ (qf i) := by
  by_cases h0 : 0 ≤ i
  · have := h i.toNat
    rw [show ((i.toNat : Nat) : Int) = i by omega] at this
    exact this
  · have := h 3
    rw [qf_out (by omega)] at this ⊢
    exact this
theorem ffi_congr {σ σ' : xSig} (h : σ' 249 = σ 249) (h4 : σ' 256 4 = σ 256 4) (hq : ∀ i : Nat, σ' (qf i) = σ (qf i)) (k : Int) : ffi σ' k = ffi σ k := by
  have e : (fun i : Int => bi (decide (σ' (qf i) 1 = pxs σ k ∧ σ' (qf i) 2 < 3))) = (fun i => bi (decide (σ (qf i) 1 = pxs σ k ∧ σ (qf i) 2 < 3))) := by
    funext i
    simp only [qfI hq i]
  unfold ffi
  rw [ihas_congr h, pxs_congr h, h4, e]
theorem lkd_congr {σ σ' : xSig} (h27 : σ' 27 = σ 27) (h : σ' 249 = σ 249) (h2 : σ' 250 = σ 250) (T : Nat → List Int) (rel : Int) (w : List Int) (k : Int) : lkd σ' T rel w k = lkd σ T rel w k := by
  have e1 : ∀ n : Nat, hasd σ' n = hasd σ n := fun n => hasd_congr h27 n
  have e2 : ∀ t, lk1 σ' rel w t k = lk1 σ rel w t k := fun t => by unfold lk1 hasn; rw [pxs_congr h, h2]
  unfold lkd
  congr 1
  funext n
  rw [e1, e2]
theorem smN_01 {f : Nat → Int} (h : ∀ i, f i = 0 ∨ f i = 1) (n i : Nat) : 0 ≤ smN f i n ∧ smN f i n ≤ n := smN_bnd (fun i => by have := h i; omega) n i
theorem lkd_bnd (σ : xSig) (T : Nat → List Int) (rel : Int) (w : List Int) (k : Int) : 0 ≤ lkd σ T rel w k ∧ lkd σ T rel w k ≤ 100 := smN_01 (fun i => by split <;> simp) 100 0
def trS (σ : xSig) (T : Nat → List Int) : Nat → Nat → Int × Int × Int → Int × Int × Int
  | _, 0, s => s
  | i, n + 1, s => trS σ T (i + 1) n (if ffi σ i = -1 then s else tpS s i (lk σ T i))
def sOK (s : Int × Int × Int) (n : Int) : Prop := (-1 ≤ s.1 ∧ s.1 < 3) ∧ (0 ≤ s.2.1 ∧ s.2.1 ≤ 100) ∧ (0 ≤ s.2.2 ∧ s.2.2 ≤ n)
theorem sOK.tp {s : Int × Int × Int} {n : Int} (h : sOK s n) {k l : Int} (hk : -1 ≤ k ∧ k < 3) (hl : 0 ≤ l ∧ l ≤ 100) : sOK (tpS s k l) (n + 1) := by
  obtain ⟨h1, h2, h3⟩ := h
  unfold tpS sOK
  refine ⟨?_, ?_, ?_⟩ <;> simp only
  · split <;> omega
  · split <;> omega
  · omega
theorem qf_258 {x : Int} (h : -1 ≤ x ∧ x < 3) : qf x = 258 ↔ x = -1 := by
  constructor
  · intro e
    rcases (by omega : x = -1 ∨ (0 ≤ x ∧ x < 3)) with q | q
    · exact q
    · rw [qf_in q.1 q.2] at e
      omega
  · intro e
    exact qf_out (by omega)
theorem sp_tryPlans {σ : xSig} {T : Nat → List Int} (hA : VAll σ T) (h01 : n01 σ 27) (hL : FLT σ T) (hX : IXR σ) (hG : GDA σ T) (hsz : 0 ≤ σ 25 4 ∧ σ 25 4 ≤ 100) {σ1 : xSig} {s : Int × Int × Int} (hU : QU σ σ1 s) (hs : sOK s 0) :
    ∃ σ' : xSig, x_Sp MX7_tryPlans 0 0 [.ref 256, .ref 25, .ref 248] (St σ1) vv (St σ') ∧ QU σ σ' (tpS (trS σ T 0 3 s) (-1) (σ 25 4)) ∧ sOK (tpS (trS σ T 0 3 s) (-1) (σ 25 4)) 4 := by
  have loop : ∀ (n i : Nat) (s : Int × Int × Int) (σ1 : xSig), i + n = 3 → QU σ σ1 s → sOK s i → ∃ σ' : xSig, x_E MX7_tryPlans 0 0 2 [some (.ref 256), some (.ref 25), some (.ref 248), some (.int (ii i)), none] [] (St σ1) 0 0 vv (St σ') ∧ QU σ σ' (tpS (trS σ T i n s) (-1) (σ 25 4)) ∧ sOK (tpS (trS σ T i n s) (-1) (σ 25 4)) 4 := by
    intro n
    induction n with
    | zero =>
      intro i s σ1 hi hU hs
      obtain ⟨s1, s2, s3⟩ := hs
      obtain ⟨σ', k1, k2⟩ := sp_tryPlan hU (by unfold xr; omega) (by unfold xr; omega) (k := -1) (l := σ 25 4) (by unfold xr; omega)
      have e4 : σ1 25 4 = σ 25 4 := by rw [hU.1 25 (by decide)]
      have hsz1 := sp_stSize (σ := σ1)
      rw [e4] at hsz1
      refine ⟨σ', ?_, k2, ?_⟩
      · skip
        refine e_iload_n 2 3 rfl rfl rfl rfl ?_
        refine e_iconst 3 4 rfl rfl ?_
        refine e_icmp_ge 4 43 7 rfl rfl rfl (by unfold xr at *; omega) (by unfold xr at *; omega) (fun _ => ?_) (fun h9 => absurd h9 (by omega))
        refine e_aload_n 24 44 rfl rfl rfl rfl ?_
        refine e_iconst 25 45 rfl rfl ?_
        refine e_aload_n 26 46 rfl rfl rfl rfl ?_
        refine g_callV 27 49 (hsz1) okX8_size cvX7_104 ⟨(Nat.le_of_ble_eq_true rfl), (Nat.le_of_ble_eq_true rfl)⟩ rfl rfl (Nat.le_of_ble_eq_true rfl) rfl rfl rfl rfl rfl (Nat.le_of_ble_eq_true rfl) (Nat.le_of_ble_eq_true rfl) (Nat.le_of_ble_eq_true rfl) ?_
        refine g_callV 28 52 (k1) okX7_tryPlan cvX7_129 ⟨(Nat.le_of_ble_eq_true rfl), (Nat.le_of_ble_eq_true rfl)⟩ rfl rfl (Nat.le_of_ble_eq_true rfl) rfl rfl rfl rfl rfl (Nat.le_of_ble_eq_true rfl) (Nat.le_of_ble_eq_true rfl) (Nat.le_of_ble_eq_true rfl) ?_
        exact e_return 29 rfl rfl (Nat.le_of_ble_eq_true rfl) (Nat.le_of_ble_eq_true rfl)
      · have := (show sOK s 3 from ⟨s1, s2, by omega⟩).tp (k := -1) (l := σ 25 4) (by omega) hsz
        exact this
    | succ n ih =>
      intro i s σ1 hi hU hs
      have hs' := hs
      obtain ⟨s1, s2, s3⟩ := hs'
      have h27 := hU.1 27 (by decide)
      have h249 := hU.1 249 (by decide)
      have h250 := hU.1 250 (by decide)
      have eq4 : σ1 256 4 = σ 256 4 := hU.2.2.2.2 4 (by decide) (by decide) (by decide)
      have eqq : ∀ i : Nat, σ1 (qf i) = σ (qf i) := fun i => by have := qf_ne i; exact hU.1 _ (by simp; omega)
      have hX1 : IXR σ1 := hX.fr fun b q1 q2 => hU.1 b (by simp; omega)
      have hL1 := hL.fr eq4 eqq
      have h01' : n01 σ1 27 := by unfold n01; rw [h27]; exact h01
      have hG1 : GDA σ1 T := fun n hn hh => hG n hn (by rw [← hasd_congr h27]; exact hh)
      have hA1 : VAll σ1 T := hA.keep fun b hb => hU.1 b (fun e => by
        simp only [List.mem_cons, List.not_mem_nil, or_false] at e
        rcases e with e | e | e <;> rw [e] at hb <;> revert hb <;> decide +kernel)
      have hff := sp_filterFor hL1 hX1 (k := i) (by unfold xr; omega)
      rw [ffi_congr h249 eq4 eqq] at hff
      have hfb := ffi_bnd σ i hL.1
      have hL4 := hL.1
      have hqb := qf_258 (x := ffi σ i) (by omega)
      simp only [trS]
      by_cases hc : ffi σ i = -1
      · rw [if_pos hc]
        obtain ⟨σ', m1, m2, m3⟩ := ih (i + 1) s σ1 (by omega) hU ⟨s1, s2, by omega⟩
        rw [show (((i + 1 : Nat)) : Int) = (i : Int) + 1 by omega] at m1
        refine ⟨σ', ?_, m2, m3⟩
        refine e_iload_n 2 3 rfl rfl rfl rfl ?_
        refine e_iconst 3 4 rfl rfl ?_
        refine e_icmp_ge 4 43 7 rfl rfl rfl (by unfold xr at *; omega) (by unfold xr at *; omega) (fun h9 => absurd h9 (by omega)) (fun _ => ?_)
        refine e_aload_n 5 8 rfl rfl rfl rfl ?_
        refine e_iload_n 6 9 rfl rfl rfl rfl ?_
        refine e_aload_n 7 10 rfl rfl rfl rfl ?_
        refine g_callV 8 13 (hff) okX7_filterFor cvX7_106 ⟨(Nat.le_of_ble_eq_true rfl), (Nat.le_of_ble_eq_true rfl)⟩ rfl rfl (Nat.le_of_ble_eq_true rfl) rfl rfl rfl rfl rfl (Nat.le_of_ble_eq_true rfl) (Nat.le_of_ble_eq_true rfl) (Nat.le_of_ble_eq_true rfl) ?_
        refine e_astore 9 15 (ls' := [some _, some _, some _, some _, some _]) rfl rfl (Nat.le_of_ble_eq_true rfl) rfl ?_
        refine e_aload 10 17 rfl rfl rfl ?_
        refine e_aload_n 11 18 rfl rfl rfl rfl ?_
        refine g_getR 12 21 ckX7 flX7_18 rfl rfl (Nat.le_of_ble_eq_true rfl) rfl rfl ?_
        refine e_acmp_eq 13 37 24 rfl rfl rfl (fun h2 => ?_) (fun h2 => ?_)
        · skip
          refine e_iinc 22 40 (ls' := [some _, some _, some _, some _, some _]) rfl rfl (Nat.le_of_ble_eq_true rfl) rfl rfl ?_
          refine e_goto 23 2 rfl rfl ?_
          refine e_dropm [true, true, true, true, false] (ls' := [some _, some _, some _, some _, none]) rfl ?_
          exact m1
        · skip
          exact absurd (hqb.mpr hc) h2
      · rw [if_neg hc]
        have hib : ihas σ i = true := by
          cases h : ihas σ i with
          | true => rfl
          | false => exact absurd (by unfold ffi; rw [h]; rfl) hc
        have ent : ((ffi σ i).toNat : Int) = ffi σ i := by omega
        obtain ⟨f1, f2, f3⟩ := hL.2 (ffi σ i).toNat (by omega)
        rw [ent] at f2 f3
        have e2 : σ1 (qf (ffi σ i)) 2 = σ (qf (ffi σ i)) 2 := by have := eqq (ffi σ i).toNat; rw [ent] at this; rw [this]
        obtain ⟨σ2, k1, k2⟩ := sp_countLooked hA1 h01' hX1 hG1 (k := i) (by rw [ihas_congr h249]; exact hib) (qf_isFi (ffi σ i)) f3 (by rw [e2]; exact f2)
        rw [lkd_congr h27 h249 h250, e2] at k1
        have hlb := lkd_bnd σ T (σ (qf (ffi σ i)) 2) (T (qf (ffi σ i) + 1)) i
        obtain ⟨σ3, j1, j2⟩ := sp_tryPlan (hU.fr k2) (by unfold xr; omega) (by unfold xr; omega) (k := i) (l := lk σ T i) (by unfold lk xr; omega)
        obtain ⟨σ', m1, m2, m3⟩ := ih (i + 1) _ σ3 (by omega) j2 (by rw [show (((i + 1 : Nat)) : Int) = (i : Int) + 1 by omega]; exact hs.tp (by omega) (by unfold lk; omega))
        rw [show (((i + 1 : Nat)) : Int) = (i : Int) + 1 by omega] at m1
        refine ⟨σ', ?_, m2, m3⟩
        refine e_iload_n 2 3 rfl rfl rfl rfl ?_
        refine e_iconst 3 4 rfl rfl ?_
        refine e_icmp_ge 4 43 7 rfl rfl rfl (by unfold xr at *; omega) (by unfold xr at *; omega) (fun h9 => absurd h9 (by omega)) (fun _ => ?_)
        refine e_aload_n 5 8 rfl rfl rfl rfl ?_
        refine e_iload_n 6 9 rfl rfl rfl rfl ?_
        refine e_aload_n 7 10 rfl rfl rfl rfl ?_
        refine g_callV 8 13 (hff) okX7_filterFor cvX7_106 ⟨(Nat.le_of_ble_eq_true rfl), (Nat.le_of_ble_eq_true rfl)⟩ rfl rfl (Nat.le_of_ble_eq_true rfl) rfl rfl rfl rfl rfl (Nat.le_of_ble_eq_true rfl) (Nat.le_of_ble_eq_true rfl) (Nat.le_of_ble_eq_true rfl) ?_
        refine e_astore 9 15 (ls' := [some _, some _, some _, some _, some _]) rfl rfl (Nat.le_of_ble_eq_true rfl) rfl ?_
        refine e_aload 10 17 rfl rfl rfl ?_
        refine e_aload_n 11 18 rfl rfl rfl rfl ?_
        refine g_getR 12 21 ckX7 flX7_18 rfl rfl (Nat.le_of_ble_eq_true rfl) rfl rfl ?_
        refine e_acmp_eq 13 37 24 rfl rfl rfl (fun h2 => ?_) (fun h2 => ?_)
        · skip
          exact absurd (hqb.mp h2) hc
        · skip
          refine e_aload_n 14 25 rfl rfl rfl rfl ?_
          refine e_iload_n 15 26 rfl rfl rfl rfl ?_
          refine e_aload_n 16 27 rfl rfl rfl rfl ?_
          refine e_aload_n 17 28 rfl rfl rfl rfl ?_
          refine e_iload_n 18 29 rfl rfl rfl rfl ?_
          refine e_aload 19 31 rfl rfl rfl ?_
          refine g_callV 20 34 (k1) okX4_countLooked cvX7_110 ⟨(Nat.le_of_ble_eq_true rfl), (Nat.le_of_ble_eq_true rfl)⟩ rfl rfl (Nat.le_of_ble_eq_true rfl) rfl rfl rfl rfl rfl (Nat.le_of_ble_eq_true rfl) (Nat.le_of_ble_eq_true rfl) (Nat.le_of_ble_eq_true rfl) ?_
          refine g_callV 21 37 (j1) okX7_tryPlan cvX7_129 ⟨(Nat.le_of_ble_eq_true rfl), (Nat.le_of_ble_eq_true rfl)⟩ rfl rfl (Nat.le_of_ble_eq_true rfl) rfl rfl rfl rfl rfl (Nat.le_of_ble_eq_true rfl) (Nat.le_of_ble_eq_true rfl) (Nat.le_of_ble_eq_true rfl) ?_
          refine e_iinc 22 40 (ls' := [some _, some _, some _, some _, some _]) rfl rfl (Nat.le_of_ble_eq_true rfl) rfl rfl ?_
          refine e_goto 23 2 rfl rfl ?_
          refine e_dropm [true, true, true, true, false] (ls' := [some _, some _, some _, some _, none]) rfl ?_
          exact m1
  obtain ⟨σ', m1, m2⟩ := loop 3 0 s σ1 rfl hU hs
  refine ⟨σ', ?_, m2⟩
  refine e_entry okX7_tryPlans (Nat.le_of_ble_eq_true rfl) (ls := [some _, some _, some _, none, none]) rfl ?_
  refine e_iconst 0 1 rfl rfl ?_
  refine e_istore_n 1 2 (ls' := [some _, some _, some _, some _, none]) rfl rfl rfl (Nat.le_of_ble_eq_true rfl) rfl ?_
  exact m1
/-! the choice -/
theorem fgp_o (σ : xSig) (p : Int) : FX [248, 251, 252, 253] σ (fgp σ p) := (((FX.rf.xu (by decide)).xu (by decide)).xu (by decide)).xu (by decide)
theorem kpp_o (σ : xSig) (s i l : Int) : FX [248, 251, 252, 253] σ (kpp σ s i l) := (((FX.rf.xu (by decide)).xu (by decide)).xu (by decide)).xu (by decide)
/-- the plan that is kept for the filters; its look -/
def pfr (σ : xSig) : Int := fstIs (σ 251) (shp σ) 0 (σ 248 6).toNat
def plk (σ : xSig) (T : Nat → List Int) : Int := if σ 252 (pfr σ) = -1 then σ 25 4 else lk σ T (σ 252 (pfr σ))
def isK (σ : xSig) (T : Nat → List Int) : Bool := decide (pfr σ ≠ -1 ∧ plk σ T ≤ 2 * σ 253 (pfr σ) + 2)
/-- what is used, looked at, tried, in the end -/
def cps (σ : xSig) (T : Nat → List Int) : Int × Int × Int := if isK σ T = true then (σ 252 (pfr σ), plk σ T, 0) else tpS (trS σ T 0 3 (if pfr σ = -1 then (σ 256 6, σ 256 7, 0) else (σ 252 (pfr σ), plk σ T, 0))) (-1) (σ 25 4)
def cpr (σ : xSig) (T : Nat → List Int) : xSig := if isK σ T = true then σ else kpp (if pfr σ = -1 then σ else fgp σ (pfr σ)) (shp σ) (cps σ T).1 (cps σ T).2.1
def QC (σ σ' : xSig) (T : Nat → List Int) : Prop := FX [254, 255, 256] (cpr σ T) σ' ∧ σ' 256 6 = (cps σ T).1 ∧ σ' 256 7 = (cps σ T).2.1 ∧ σ' 256 8 = (cps σ T).2.2 ∧ σ' 256 9 = bi (decide (pfr σ ≠ -1) && !isK σ T) ∧ ∀ j : Int, j ≠ 6 → j ≠ 7 → j ≠ 8 → j ≠ 9 → σ' 256 j = σ 256 j
theorem pfr_bnd {σ : xSig} (hX : IXR σ) : pfr σ = -1 ∨ (0 ≤ pfr σ ∧ pfr σ < σ 248 6) := by
  have h6 := hX.2.2.1
  unfold pfr
  rcases fstIs_bnd (f := σ 251) (x := shp σ) (σ 248 6).toNat 0 with h | h <;> omega
theorem xu_xu (σ : xSig) (a : Nat) (j v w : Int) : xu (xu σ a j v) a j w = xu σ a j w := by
  funext b i
  unfold xu
  split <;> rfl
theorem QU.xuX {σ σ1 σ2 : xSig} {s : Int × Int × Int} (h : QU σ σ1 s) (hw : FX [248, 251, 252, 253] σ1 σ2) : FX [248, 251, 252, 253, 254, 255, 256] σ σ2 := fun b hb => by
  simp only [List.mem_cons, List.not_mem_nil, or_false, not_or] at hb
  exact (hw b (by simp; omega)).trans (h.1 b (by simp; omega))
theorem kpp_same {σ σ1 : xSig} (s i l : Int) (h : ∀ b : Nat, b ∈ [248, 251, 252, 253] → σ1 b = σ b) : ∀ b : Nat, σ1 b = σ b ∨ b ∈ [248, 251, 252, 253] → kpp σ1 s i l b = kpp σ s i l b := by
  have h0 := h 248 (by decide)
  intro b hb
  unfold kpp
  rw [h0]
  funext j
  have e : σ1 b = σ b := hb.elim (fun q => q) (fun q => h b q)
  simp only [xu, e]
