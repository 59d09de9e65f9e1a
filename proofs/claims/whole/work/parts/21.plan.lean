/-! ===== Query: shape, plans ===== -/
def shpN (g : Nat → Int) : Nat → Nat → Int → Int
  | _, 0, s => s
  | i, n + 1, s => shpN g (i + 1) n (s * 361 + g i)
def shp (σ : xSig) : Int := shpN (fun i => σ (qf i) 1 * 5 + σ (qf i) 2 + 1) 0 (σ 256 4).toNat 0
theorem sp_qShape {σ : xSig} : Rd MX7_shape [.ref 256] σ (iv (shp σ)) ∨ ¬ (0 ≤ σ 256 4 ∧ σ 256 4 ≤ 3) := by
  by_cases h4 : 0 ≤ σ 256 4 ∧ σ 256 4 ≤ 3
  · refine Or.inl ?_
    have loop : ∀ (n i : Nat) (s : Int), (i : Int) + n = σ 256 4 → x_E MX7_shape 0 0 4 [some (.ref 256), some (.int (ii s)), some (.int (ii i))] [] (St σ) 0 0 (iv (shpN (fun i => σ (qf i) 1 * 5 + σ (qf i) 2 + 1) i n s)) (St σ) := by
      intro n
      induction n with
      | zero =>
        intro i s hi
        refine e_iload_n 4 5 rfl rfl rfl rfl ?_
        refine e_aload_n 5 6 rfl rfl rfl rfl ?_
        refine g_getI 6 9 4 ckX7 flX7_33 rfl rfl (Nat.le_of_ble_eq_true rfl) rfl rfl rfl rfl ?_
        refine e_icmp_ge 7 33 12 rfl rfl rfl (by unfold xr at *; omega) (by unfold xr at *; omega) (fun _ => ?_) (fun h9 => absurd h9 (by omega))
        refine e_iload_n 19 34 rfl rfl rfl rfl ?_
        exact e_ireturn 20 rfl rfl (Nat.le_of_ble_eq_true rfl) (Nat.le_of_ble_eq_true rfl)
      | succ n ih =>
        intro i s hi
        have hq := qf_isFi i
        have hn := ih (i + 1) (s * 361 + (σ (qf i) 1 * 5 + σ (qf i) 2 + 1)) (by omega)
        rw [show (((i + 1 : Nat)) : Int) = (i : Int) + 1 by omega] at hn
        simp only [shpN]
        refine e_iload_n 4 5 rfl rfl rfl rfl ?_
        refine e_aload_n 5 6 rfl rfl rfl rfl ?_
        refine g_getI 6 9 4 ckX7 flX7_33 rfl rfl (Nat.le_of_ble_eq_true rfl) rfl rfl rfl rfl ?_
        refine e_icmp_ge 7 33 12 rfl rfl rfl (by unfold xr at *; omega) (by unfold xr at *; omega) (fun h9 => absurd h9 (by omega)) (fun _ => ?_)
        refine e_iload_n 8 13 rfl rfl rfl rfl ?_
        refine e_sipush 9 16 rfl rfl rfl ?_
        refine e_imul 10 17 rfl rfl ?_
        refine e_aload_n 11 18 rfl rfl rfl rfl ?_
        refine e_iload_n 12 19 rfl rfl rfl rfl ?_
        refine g_callV 13 22 (sp_filterAt (by unfold xr; omega)) okX7_filterAt cvX7_57 ⟨(Nat.le_of_ble_eq_true rfl), (Nat.le_of_ble_eq_true rfl)⟩ rfl rfl (Nat.le_of_ble_eq_true rfl) rfl rfl rfl rfl rfl (Nat.le_of_ble_eq_true rfl) (Nat.le_of_ble_eq_true rfl) (Nat.le_of_ble_eq_true rfl) ?_
        refine g_callV 14 25 (sp_fShape hq) okX2_shape cvX7_90 ⟨(Nat.le_of_ble_eq_true rfl), (Nat.le_of_ble_eq_true rfl)⟩ rfl rfl hq.1  hq.2.1 rfl rfl rfl rfl (Nat.le_of_ble_eq_true rfl) (Nat.le_of_ble_eq_true rfl) (Nat.le_of_ble_eq_true rfl) ?_
        refine e_iadd 15 26 rfl rfl ?_
        refine e_istore_n 16 27 (ls' := [some _, some _, some _]) rfl rfl rfl (Nat.le_of_ble_eq_true rfl) rfl ?_
        refine e_iinc 17 30 (ls' := [some _, some _, some _]) rfl rfl (Nat.le_of_ble_eq_true rfl) rfl rfl ?_
        refine e_goto 18 4 rfl rfl ?_
        exact hn
    refine e_entry okX7_shape (Nat.le_of_ble_eq_true rfl) (ls := [some _, none, none]) rfl ?_
    refine e_iconst 0 1 rfl rfl ?_
    refine e_istore_n 1 2 (ls' := [some _, some _, none]) rfl rfl rfl (Nat.le_of_ble_eq_true rfl) rfl ?_
    refine e_iconst 2 3 rfl rfl ?_
    refine e_istore_n 3 4 (ls' := [some _, some _, some _]) rfl rfl rfl (Nat.le_of_ble_eq_true rfl) rfl ?_
    exact loop (σ 256 4).toNat 0 0 (by omega)
  · exact Or.inr h4
theorem sp_shape {σ : xSig} (h4 : 0 ≤ σ 256 4 ∧ σ 256 4 ≤ 3) : Rd MX7_shape [.ref 256] σ (iv (shp σ)) := sp_qShape.resolve_right (fun q => q h4)
theorem shp_bnd {σ : xSig} {T : Nat → List Int} (hL : FLT σ T) : 0 ≤ shp σ ∧ shp σ < 47045881 := by
  obtain ⟨h4, h5⟩ := hL
  have g : ∀ i : Nat, (i : Int) < σ 256 4 → 1 ≤ σ (qf i) 1 * 5 + σ (qf i) 2 + 1 ∧ σ (qf i) 1 * 5 + σ (qf i) 2 + 1 ≤ 360 := fun i hi => by
    obtain ⟨h6, h7, _⟩ := h5 i hi
    omega
  unfold shp
  rcases (by omega : σ 256 4 = 0 ∨ σ 256 4 = 1 ∨ σ 256 4 = 2 ∨ σ 256 4 = 3) with e | e | e | e <;> rw [e] at g ⊢ <;> simp only [shpN, show (0 : Int).toNat = 0 from rfl, show (1 : Int).toNat = 1 from rfl, show (2 : Int).toNat = 2 from rfl, show (3 : Int).toNat = 3 from rfl, show (0 + 1 : Nat) = 1 from rfl, show (1 + 1 : Nat) = 2 from rfl]
  · omega
  · have g0 := g 0 (by decide)
    omega
  · have g0 := g 0 (by decide)
    have g1 := g 1 (by decide)
    omega
  · have g0 := g 0 (by decide)
    have g1 := g 1 (by decide)
    have g2 := g 2 (by decide)
    omega
/-- which filter an index looks by; -1 -/
def ffi (σ : xSig) (k : Int) : Int := if ihas σ k = true then fstIs (fun i => bi (decide (σ (qf i) 1 = pxs σ k ∧ σ (qf i) 2 < 3))) 1 0 (σ 256 4).toNat else -1
theorem ffi_bnd (σ : xSig) (k : Int) (h4 : 0 ≤ σ 256 4 ∧ σ 256 4 ≤ 3) : -1 ≤ ffi σ k ∧ ffi σ k < σ 256 4 ∨ (ffi σ k = -1) := by
  unfold ffi
  split
  · rcases fstIs_bnd (f := fun i => bi (decide (σ (qf i) 1 = pxs σ k ∧ σ (qf i) 2 < 3))) (x := 1) (σ 256 4).toNat 0 with h | h <;> omega
  · exact Or.inr rfl
theorem sp_filterFor {σ : xSig} {T : Nat → List Int} (hL : FLT σ T) (hX : IXR σ) {k : Int} (hk : xr k) : Rd MX7_filterFor [.ref 256, .int (ii k), .ref 248] σ (rv (qf (ffi σ k))) := by
  have h4 := hL.1
  have hpo := sp_pathOf (σ := σ) hk
  have hih := sp_ixHas hX hk
  cases hi : ihas σ k with
  | false =>
    rw [hi] at hih
    have e : qf (ffi σ k) = 258 := by unfold ffi; rw [hi]; rfl
    rw [e]
    by_cases h0 : σ 256 4 = 0
    · skip
      refine e_entry okX7_filterFor (Nat.le_of_ble_eq_true rfl) (ls := [some _, some _, some _, none, none]) rfl ?_
      refine e_iconst 0 1 rfl rfl ?_
      refine e_istore_n 1 2 (ls' := [some _, some _, some _, some _, none]) rfl rfl rfl (Nat.le_of_ble_eq_true rfl) rfl ?_
      refine e_iload_n 2 3 rfl rfl rfl rfl ?_
      refine e_aload_n 3 4 rfl rfl rfl rfl ?_
      refine g_getI 4 7 4 ckX7 flX7_33 rfl rfl (Nat.le_of_ble_eq_true rfl) rfl rfl rfl rfl ?_
      refine e_icmp_ge 5 47 10 rfl rfl rfl (by unfold xr at *; omega) (by unfold xr at *; omega) (fun _ => ?_) (fun h9 => absurd h9 (by omega))
      refine e_aload_n 24 48 rfl rfl rfl rfl ?_
      refine g_getR 25 51 ckX7 flX7_18 rfl rfl (Nat.le_of_ble_eq_true rfl) rfl rfl ?_
      exact e_areturn 26 rfl rfl (Nat.le_of_ble_eq_true rfl) (Nat.le_of_ble_eq_true rfl)
    · skip
      refine e_entry okX7_filterFor (Nat.le_of_ble_eq_true rfl) (ls := [some _, some _, some _, none, none]) rfl ?_
      refine e_iconst 0 1 rfl rfl ?_
      refine e_istore_n 1 2 (ls' := [some _, some _, some _, some _, none]) rfl rfl rfl (Nat.le_of_ble_eq_true rfl) rfl ?_
      refine e_iload_n 2 3 rfl rfl rfl rfl ?_
      refine e_aload_n 3 4 rfl rfl rfl rfl ?_
      refine g_getI 4 7 4 ckX7 flX7_33 rfl rfl (Nat.le_of_ble_eq_true rfl) rfl rfl rfl rfl ?_
      refine e_icmp_ge 5 47 10 rfl rfl rfl (by unfold xr at *; omega) (by unfold xr at *; omega) (fun h9 => absurd h9 (by omega)) (fun _ => ?_)
      refine e_aload_n 6 11 rfl rfl rfl rfl ?_
      refine e_iload_n 7 12 rfl rfl rfl rfl ?_
      refine g_callV 8 15 (hih) okX4_has cvX7_133 ⟨(Nat.le_of_ble_eq_true rfl), (Nat.le_of_ble_eq_true rfl)⟩ rfl rfl (Nat.le_of_ble_eq_true rfl) rfl rfl rfl rfl rfl (Nat.le_of_ble_eq_true rfl) (Nat.le_of_ble_eq_true rfl) (Nat.le_of_ble_eq_true rfl) ?_
      refine e_ifb_eq 9 47 18 rfl rfl rfl (fun h2 => ?_) (fun h2 => ?_)
      · skip
        refine e_aload_n 24 48 rfl rfl rfl rfl ?_
        refine g_getR 25 51 ckX7 flX7_18 rfl rfl (Nat.le_of_ble_eq_true rfl) rfl rfl ?_
        exact e_areturn 26 rfl rfl (Nat.le_of_ble_eq_true rfl) (Nat.le_of_ble_eq_true rfl)
      · skip
        cases h2
  | true =>
    rw [hi] at hih
    have hp := pxs_has hX hi
    have loop : ∀ (n i : Nat), (i : Int) + n = σ 256 4 → x_E MX7_filterFor 0 0 2 [some (.ref 256), some (.int (ii k)), some (.ref 248), some (.int (ii i)), none] [] (St σ) 0 0 (rv (qf (fstIs (fun i => bi (decide (σ (qf i) 1 = pxs σ k ∧ σ (qf i) 2 < 3))) 1 i n))) (St σ) := by
      intro n
      induction n with
      | zero =>
        intro i hi
        rw [show fstIs (fun i => bi (decide (σ (qf i) 1 = pxs σ k ∧ σ (qf i) 2 < 3))) 1 i 0 = -1 from rfl, qf_out (Or.inl (by decide))]
        refine e_iload_n 2 3 rfl rfl rfl rfl ?_
        refine e_aload_n 3 4 rfl rfl rfl rfl ?_
        refine g_getI 4 7 4 ckX7 flX7_33 rfl rfl (Nat.le_of_ble_eq_true rfl) rfl rfl rfl rfl ?_
        refine e_icmp_ge 5 47 10 rfl rfl rfl (by unfold xr at *; omega) (by unfold xr at *; omega) (fun _ => ?_) (fun h9 => absurd h9 (by omega))
        refine e_aload_n 24 48 rfl rfl rfl rfl ?_
        refine g_getR 25 51 ckX7 flX7_18 rfl rfl (Nat.le_of_ble_eq_true rfl) rfl rfl ?_
        exact e_areturn 26 rfl rfl (Nat.le_of_ble_eq_true rfl) (Nat.le_of_ble_eq_true rfl)
      | succ n ih =>
        intro i hi
        obtain ⟨f1, f2, f3⟩ := hL.2 i (by omega)
        have hq := qf_isFi i
        have hn := ih (i + 1) (by omega)
        rw [show (((i + 1 : Nat)) : Int) = (i : Int) + 1 by omega] at hn
        have hf := sp_isFor hq f2 (by unfold xr; omega) (x := pxs σ k) (by unfold xr; omega)
        have e : fstIs (fun i => bi (decide (σ (qf i) 1 = pxs σ k ∧ σ (qf i) 2 < 3))) 1 i (n + 1) = if bi (decide (σ (qf i) 1 = pxs σ k ∧ σ (qf i) 2 < 3)) = 1 then (i : Int) else fstIs (fun i => bi (decide (σ (qf i) 1 = pxs σ k ∧ σ (qf i) 2 < 3))) 1 (i + 1) n := rfl
        rw [e]
        refine e_iload_n 2 3 rfl rfl rfl rfl ?_
        refine e_aload_n 3 4 rfl rfl rfl rfl ?_
        refine g_getI 4 7 4 ckX7 flX7_33 rfl rfl (Nat.le_of_ble_eq_true rfl) rfl rfl rfl rfl ?_
        refine e_icmp_ge 5 47 10 rfl rfl rfl (by unfold xr at *; omega) (by unfold xr at *; omega) (fun h9 => absurd h9 (by omega)) (fun _ => ?_)
        refine e_aload_n 6 11 rfl rfl rfl rfl ?_
        refine e_iload_n 7 12 rfl rfl rfl rfl ?_
        refine g_callV 8 15 (hih) okX4_has cvX7_133 ⟨(Nat.le_of_ble_eq_true rfl), (Nat.le_of_ble_eq_true rfl)⟩ rfl rfl (Nat.le_of_ble_eq_true rfl) rfl rfl rfl rfl rfl (Nat.le_of_ble_eq_true rfl) (Nat.le_of_ble_eq_true rfl) (Nat.le_of_ble_eq_true rfl) ?_
        refine e_ifb_eq 9 47 18 rfl rfl rfl (fun h2 => ?_) (fun h2 => ?_)
        · skip
          cases h2
        · skip
          refine e_aload_n 10 19 rfl rfl rfl rfl ?_
          refine e_iload_n 11 20 rfl rfl rfl rfl ?_
          refine g_callV 12 23 (sp_filterAt (by unfold xr; omega)) okX7_filterAt cvX7_57 ⟨(Nat.le_of_ble_eq_true rfl), (Nat.le_of_ble_eq_true rfl)⟩ rfl rfl (Nat.le_of_ble_eq_true rfl) rfl rfl rfl rfl rfl (Nat.le_of_ble_eq_true rfl) (Nat.le_of_ble_eq_true rfl) (Nat.le_of_ble_eq_true rfl) ?_
          refine e_astore 13 25 (ls' := [some _, some _, some _, some _, some _]) rfl rfl (Nat.le_of_ble_eq_true rfl) rfl ?_
          refine e_aload 14 27 rfl rfl rfl ?_
          refine e_aload_n 15 28 rfl rfl rfl rfl ?_
          refine e_iload_n 16 29 rfl rfl rfl rfl ?_
          refine g_callV 17 32 (hpo) okX4_pathOf cvX7_134 ⟨(Nat.le_of_ble_eq_true rfl), (Nat.le_of_ble_eq_true rfl)⟩ rfl rfl (Nat.le_of_ble_eq_true rfl) rfl rfl rfl rfl rfl (Nat.le_of_ble_eq_true rfl) (Nat.le_of_ble_eq_true rfl) (Nat.le_of_ble_eq_true rfl) ?_
          refine g_callV 18 35 (hf) okX2_isFor cvX7_137 ⟨(Nat.le_of_ble_eq_true rfl), (Nat.le_of_ble_eq_true rfl)⟩ rfl rfl hq.1  hq.2.1 rfl rfl rfl rfl (Nat.le_of_ble_eq_true rfl) (Nat.le_of_ble_eq_true rfl) (Nat.le_of_ble_eq_true rfl) ?_
          refine e_ifb_eq 19 41 38 rfl rfl rfl (fun h3 => ?_) (fun h3 => ?_)
          · skip
            rw [h3, if_neg (by decide)]
            refine e_iinc 22 44 (ls' := [some _, some _, some _, some _, some _]) rfl rfl (Nat.le_of_ble_eq_true rfl) rfl rfl ?_
            refine e_goto 23 2 rfl rfl ?_
            refine e_dropm [true, true, true, true, false] (ls' := [some _, some _, some _, some _, none]) rfl ?_
            exact hn
          · skip
            rw [h3, if_pos (show bi true = 1 from rfl)]
            refine e_aload 20 40 rfl rfl rfl ?_
            exact e_areturn 21 rfl rfl (Nat.le_of_ble_eq_true rfl) (Nat.le_of_ble_eq_true rfl)
    have e : ffi σ k = fstIs (fun i => bi (decide (σ (qf i) 1 = pxs σ k ∧ σ (qf i) 2 < 3))) 1 0 (σ 256 4).toNat := by unfold ffi; rw [if_pos hi]
    rw [e]
    refine e_entry okX7_filterFor (Nat.le_of_ble_eq_true rfl) (ls := [some _, some _, some _, none, none]) rfl ?_
    refine e_iconst 0 1 rfl rfl ?_
    refine e_istore_n 1 2 (ls' := [some _, some _, some _, some _, none]) rfl rfl rfl (Nat.le_of_ble_eq_true rfl) rfl ?_
    exact loop (σ 256 4).toNat 0 (by omega)
/-- a plan is tried: (used, looked, tried) -/
def tpS (s : Int × Int × Int) (k l : Int) : Int × Int × Int := (if s.2.2 = 0 ∨ l < s.2.1 then k else s.1, if s.2.2 = 0 ∨ l < s.2.1 then l else s.2.1, s.2.2 + 1)
/-- what a choice of plans may touch: the scratch, and used, looked, tried -/
def QU (σ σ' : xSig) (s : Int × Int × Int) : Prop := FX [254, 255, 256] σ σ' ∧ σ' 256 6 = s.1 ∧ σ' 256 7 = s.2.1 ∧ σ' 256 8 = s.2.2 ∧ ∀ j : Int, j ≠ 6 → j ≠ 7 → j ≠ 8 → σ' 256 j = σ 256 j
theorem QU.rf {σ : xSig} : QU σ σ (σ 256 6, σ 256 7, σ 256 8) := ⟨FX.rf, rfl, rfl, rfl, fun _ _ _ _ => rfl⟩
theorem QU.fr {σ σ1 σ2 : xSig} {s : Int × Int × Int} (h : QU σ σ1 s) (h2 : Fr 254 σ1 σ2) : QU σ σ2 s := by
  have e : σ2 256 = σ1 256 := h2 256 (by decide) (by decide)
  exact ⟨h.1.tr (FX.of h2 (by decide) (by decide)), by rw [e]; exact h.2.1, by rw [e]; exact h.2.2.1, by rw [e]; exact h.2.2.2.1, fun j a b c => by rw [e]; exact h.2.2.2.2 j a b c⟩
theorem sp_tryPlan {σ σ1 : xSig} {s : Int × Int × Int} (hU : QU σ σ1 s) (h7 : xr s.2.1) (h8 : xr s.2.2) {k l : Int} (hl : xr l) :
    ∃ σ' : xSig, x_Sp MX7_tryPlan 0 0 [.ref 256, .int (ii k), .int (ii l)] (St σ1) vv (St σ') ∧ QU σ σ' (tpS s k l) := by
  obtain ⟨u1, u2, u3, u4, u5⟩ := hU
  by_cases hc : s.2.2 = 0 ∨ l < s.2.1
  · have e8 : xu (xu σ1 256 6 k) 256 7 l 256 8 = s.2.2 := by rw [xu_ne _ (Or.inr (by decide)), xu_ne _ (Or.inr (by decide))]; exact u4
    refine ⟨xu (xu (xu σ1 256 6 k) 256 7 l) 256 8 (s.2.2 + 1), ?_, ((u1.xu (by decide)).xu (by decide)).xu (by decide), ?_, ?_, ?_, fun j a b c => ?_⟩
    · have fin : x_E MX7_tryPlan 0 0 15 [some (.ref 256), some (.int (ii k)), some (.int (ii l))] [] (St σ1) 0 0 vv (St (xu (xu (xu σ1 256 6 k) 256 7 l) 256 8 (s.2.2 + 1))) := by
        refine e_aload_n 7 16 rfl rfl rfl rfl ?_
        refine e_iload_n 8 17 rfl rfl rfl rfl ?_
        refine g_putI 9 20 6 ckX7 flX7_40 rfl rfl (Nat.le_of_ble_eq_true rfl) rfl rfl rfl ?_
        refine e_aload_n 10 21 rfl rfl rfl rfl ?_
        refine e_iload_n 11 22 rfl rfl rfl rfl ?_
        refine g_putI 12 25 7 ckX7 flX7_43 rfl rfl (Nat.le_of_ble_eq_true rfl) rfl rfl rfl ?_
        refine e_aload_n 13 26 rfl rfl rfl rfl ?_
        refine e_dup 14 27 rfl rfl rfl ?_
        refine g_getI 15 30 8 ckX7 flX7_46 rfl rfl (Nat.le_of_ble_eq_true rfl) rfl rfl rfl e8 ?_
        refine e_iconst 16 31 rfl rfl ?_
        refine e_iadd 17 32 rfl rfl ?_
        refine g_putI 18 35 8 ckX7 flX7_46 rfl rfl (Nat.le_of_ble_eq_true rfl) rfl rfl rfl ?_
        exact e_return 19 rfl rfl (Nat.le_of_ble_eq_true rfl) (Nat.le_of_ble_eq_true rfl)
      refine e_entry okX7_tryPlan (Nat.le_of_ble_eq_true rfl) (ls := [some _, some _, some _]) rfl ?_
      refine e_aload_n 0 1 rfl rfl rfl rfl ?_
      refine g_getI 1 4 8 ckX7 flX7_46 rfl rfl (Nat.le_of_ble_eq_true rfl) rfl rfl rfl u4 ?_
      refine e_if_eq 2 15 7 rfl rfl rfl h8 (fun h => ?_) (fun h => ?_)
      · skip
        exact fin
      · skip
        refine e_iload_n 3 8 rfl rfl rfl rfl ?_
        refine e_aload_n 4 9 rfl rfl rfl rfl ?_
        refine g_getI 5 12 7 ckX7 flX7_43 rfl rfl (Nat.le_of_ble_eq_true rfl) rfl rfl rfl u3 ?_
        refine e_icmp_ge 6 25 15 rfl rfl rfl hl h7 (fun h9 => absurd h9 (by omega)) (fun _ => ?_)
        exact fin
    · rw [xu_ne _ (Or.inr (by decide)), xu_ne _ (Or.inr (by decide)), xu_same]; unfold tpS; rw [if_pos hc]
    · rw [xu_ne _ (Or.inr (by decide)), xu_same]; simp only [tpS]; rw [if_pos hc]
    · rw [xu_same]; rfl
    · rw [xu_ne _ (Or.inr c), xu_ne _ (Or.inr b), xu_ne _ (Or.inr a)]; exact u5 j a b c
  · refine ⟨xu σ1 256 8 (s.2.2 + 1), ?_, u1.xu (by decide), ?_, ?_, ?_, fun j a b c => ?_⟩
    · skip
      refine e_entry okX7_tryPlan (Nat.le_of_ble_eq_true rfl) (ls := [some _, some _, some _]) rfl ?_
      refine e_aload_n 0 1 rfl rfl rfl rfl ?_
      refine g_getI 1 4 8 ckX7 flX7_46 rfl rfl (Nat.le_of_ble_eq_true rfl) rfl rfl rfl u4 ?_
      refine e_if_eq 2 15 7 rfl rfl rfl h8 (fun h9 => absurd h9 (by omega)) (fun _ => ?_)
      refine e_iload_n 3 8 rfl rfl rfl rfl ?_
      refine e_aload_n 4 9 rfl rfl rfl rfl ?_
      refine g_getI 5 12 7 ckX7 flX7_43 rfl rfl (Nat.le_of_ble_eq_true rfl) rfl rfl rfl u3 ?_
      refine e_icmp_ge 6 25 15 rfl rfl rfl hl h7 (fun _ => ?_) (fun h9 => absurd h9 (by omega))
      refine e_aload_n 13 26 rfl rfl rfl rfl ?_
      refine e_dup 14 27 rfl rfl rfl ?_
      refine g_getI 15 30 8 ckX7 flX7_46 rfl rfl (Nat.le_of_ble_eq_true rfl) rfl rfl rfl u4 ?_
      refine e_iconst 16 31 rfl rfl ?_
      refine e_iadd 17 32 rfl rfl ?_
      refine g_putI 18 35 8 ckX7 flX7_46 rfl rfl (Nat.le_of_ble_eq_true rfl) rfl rfl rfl ?_
      exact e_return 19 rfl rfl (Nat.le_of_ble_eq_true rfl) (Nat.le_of_ble_eq_true rfl)
    · rw [xu_ne _ (Or.inr (by decide))]; unfold tpS; rw [if_neg hc]; exact u2
    · rw [xu_ne _ (Or.inr (by decide))]; simp only [tpS]; rw [if_neg hc]; exact u3
    · rw [xu_same]; rfl
    · rw [xu_ne _ (Or.inr c)]; exact u5 j a b c
/-- at how many documents a plan by an index looks -/
def lk (σ : xSig) (T : Nat → List Int) (k : Int) : Int := lkd σ T (σ (qf (ffi σ k)) 2) (T (qf (ffi σ k) + 1)) k
theorem ihas_congr {σ σ' : xSig} (h : σ' 249 = σ 249) (k : Int) : ihas σ' k = ihas σ k := by unfold ihas; rw [h]
theorem pxs_congr {σ σ' : xSig} (h : σ' 249 = σ 249) (k : Int) : pxs σ' k = pxs σ k := by unfold pxs; rw [h]
theorem qfI {σ σ' : xSig} (h : ∀ i : Nat, σ' (qf i) = σ (qf i)) (i : Int) : σ' (qf i) = σ (qf i) := by
  by_cases h0 : 0 ≤ i
  · have := h i.toNat
    rw [show ((i.toNat : Nat) : Int) = i by omega] at this
    exact this
  · have := h 3
    rw [qf_out (by omega)] at this ⊢
    exact this
theorem ffi_congr {σ σ' : xSig} (h : σ' 249 = σ 249) (h4 : σ' 256 4 = σ 256 4) (hq : ∀ i : Nat, σ' (qf i) = σ (qf i)) (k : Int) : ffi σ' k = ffi σ k := by
  have e : (fun i : Int => bi (decide (σ' (qf i) 1 = pxs σ k ∧ σ' (qf i) 2 < 3))) = (fun i => bi (decide (σ (qf i) 1 = pxs σ k ∧ σ (qf i) 2 < 3))) := by
    funext i
    simp only [qfI hq i]
  unfold ffi
  rw [ihas_congr h, pxs_congr h, h4, e]
theorem lkd_congr {σ σ' : xSig} (h27 : σ' 27 = σ 27) (h : σ' 249 = σ 249) (h2 : σ' 250 = σ 250) (T : Nat → List Int) (rel : Int) (w : List Int) (k : Int) : lkd σ' T rel w k = lkd σ T rel w k := by
  have e1 : ∀ n : Nat, hasd σ' n = hasd σ n := fun n => hasd_congr h27 n
  have e2 : ∀ t, lk1 σ' rel w t k = lk1 σ rel w t k := fun t => by unfold lk1 hasn; rw [pxs_congr h, h2]
  unfold lkd
  congr 1
  funext n
  rw [e1, e2]
theorem smN_01 {f : Nat → Int} (h : ∀ i, f i = 0 ∨ f i = 1) (n i : Nat) : 0 ≤ smN f i n ∧ smN f i n ≤ n := smN_bnd (fun i => by have := h i; omega) n i
theorem lkd_bnd (σ : xSig) (T : Nat → List Int) (rel : Int) (w : List Int) (k : Int) : 0 ≤ lkd σ T rel w k ∧ lkd σ T rel w k ≤ 100 := smN_01 (fun i => by split <;> simp) 100 0
def trS (σ : xSig) (T : Nat → List Int) : Nat → Nat → Int × Int × Int → Int × Int × Int
  | _, 0, s => s
  | i, n + 1, s => trS σ T (i + 1) n (if ffi σ i = -1 then s else tpS s i (lk σ T i))
def sOK (s : Int × Int × Int) (n : Int) : Prop := (-1 ≤ s.1 ∧ s.1 < 3) ∧ (0 ≤ s.2.1 ∧ s.2.1 ≤ 100) ∧ (0 ≤ s.2.2 ∧ s.2.2 ≤ n)
theorem sOK.tp {s : Int × Int × Int} {n : Int} (h : sOK s n) {k l : Int} (hk : -1 ≤ k ∧ k < 3) (hl : 0 ≤ l ∧ l ≤ 100) : sOK (tpS s k l) (n + 1) := by
  obtain ⟨h1, h2, h3⟩ := h
  unfold tpS sOK
  refine ⟨?_, ?_, ?_⟩ <;> simp only
  · split <;> omega
  · split <;> omega
  · omega
theorem qf_258 {x : Int} (h : -1 ≤ x ∧ x < 3) : qf x = 258 ↔ x = -1 := by
  constructor
  · intro e
    rcases (by omega : x = -1 ∨ (0 ≤ x ∧ x < 3)) with q | q
    · exact q
    · rw [qf_in q.1 q.2] at e
      omega
  · intro e
    exact qf_out (by omega)
theorem sp_tryPlans {σ : xSig} {T : Nat → List Int} (hA : VAll σ T) (h01 : n01 σ 27) (hL : FLT σ T) (hX : IXR σ) (hG : GDA σ T) (hsz : 0 ≤ σ 25 4 ∧ σ 25 4 ≤ 100) {σ1 : xSig} {s : Int × Int × Int} (hU : QU σ σ1 s) (hs : sOK s 0) :
    ∃ σ' : xSig, x_Sp MX7_tryPlans 0 0 [.ref 256, .ref 25, .ref 248] (St σ1) vv (St σ') ∧ QU σ σ' (tpS (trS σ T 0 3 s) (-1) (σ 25 4)) ∧ sOK (tpS (trS σ T 0 3 s) (-1) (σ 25 4)) 4 := by
  have loop : ∀ (n i : Nat) (s : Int × Int × Int) (σ1 : xSig), i + n = 3 → QU σ σ1 s → sOK s i → ∃ σ' : xSig, x_E MX7_tryPlans 0 0 2 [some (.ref 256), some (.ref 25), some (.ref 248), some (.int (ii i)), none] [] (St σ1) 0 0 vv (St σ') ∧ QU σ σ' (tpS (trS σ T i n s) (-1) (σ 25 4)) ∧ sOK (tpS (trS σ T i n s) (-1) (σ 25 4)) 4 := by
    intro n
    induction n with
    | zero =>
      intro i s σ1 hi hU hs
      obtain ⟨s1, s2, s3⟩ := hs
      obtain ⟨σ', k1, k2⟩ := sp_tryPlan hU (by unfold xr; omega) (by unfold xr; omega) (k := -1) (l := σ 25 4) (by unfold xr; omega)
      have e4 : σ1 25 4 = σ 25 4 := by rw [hU.1 25 (by decide)]
      have hsz1 := sp_stSize (σ := σ1)
      rw [e4] at hsz1
      refine ⟨σ', ?_, k2, ?_⟩
      · skip
        refine e_iload_n 2 3 rfl rfl rfl rfl ?_
        refine e_iconst 3 4 rfl rfl ?_
        refine e_icmp_ge 4 43 7 rfl rfl rfl (by unfold xr at *; omega) (by unfold xr at *; omega) (fun _ => ?_) (fun h9 => absurd h9 (by omega))
        refine e_aload_n 24 44 rfl rfl rfl rfl ?_
        refine e_iconst 25 45 rfl rfl ?_
        refine e_aload_n 26 46 rfl rfl rfl rfl ?_
        refine g_callV 27 49 (hsz1) okX8_size cvX7_104 ⟨(Nat.le_of_ble_eq_true rfl), (Nat.le_of_ble_eq_true rfl)⟩ rfl rfl (Nat.le_of_ble_eq_true rfl) rfl rfl rfl rfl rfl (Nat.le_of_ble_eq_true rfl) (Nat.le_of_ble_eq_true rfl) (Nat.le_of_ble_eq_true rfl) ?_
        refine g_callV 28 52 (k1) okX7_tryPlan cvX7_129 ⟨(Nat.le_of_ble_eq_true rfl), (Nat.le_of_ble_eq_true rfl)⟩ rfl rfl (Nat.le_of_ble_eq_true rfl) rfl rfl rfl rfl rfl (Nat.le_of_ble_eq_true rfl) (Nat.le_of_ble_eq_true rfl) (Nat.le_of_ble_eq_true rfl) ?_
        exact e_return 29 rfl rfl (Nat.le_of_ble_eq_true rfl) (Nat.le_of_ble_eq_true rfl)
      · have := (show sOK s 3 from ⟨s1, s2, by omega⟩).tp (k := -1) (l := σ 25 4) (by omega) hsz
        exact this
    | succ n ih =>
      intro i s σ1 hi hU hs
      have hs' := hs
      obtain ⟨s1, s2, s3⟩ := hs'
      have h27 := hU.1 27 (by decide)
      have h249 := hU.1 249 (by decide)
      have h250 := hU.1 250 (by decide)
      have eq4 : σ1 256 4 = σ 256 4 := hU.2.2.2.2 4 (by decide) (by decide) (by decide)
      have eqq : ∀ i : Nat, σ1 (qf i) = σ (qf i) := fun i => by have := qf_ne i; exact hU.1 _ (by simp; omega)
      have hX1 : IXR σ1 := hX.fr fun b q1 q2 => hU.1 b (by simp; omega)
      have hL1 := hL.fr eq4 eqq
      have h01' : n01 σ1 27 := by unfold n01; rw [h27]; exact h01
      have hG1 : GDA σ1 T := fun n hn hh => hG n hn (by rw [← hasd_congr h27]; exact hh)
      have hA1 : VAll σ1 T := hA.keep fun b hb => hU.1 b (fun e => by
        simp only [List.mem_cons, List.not_mem_nil, or_false] at e
        rcases e with e | e | e <;> rw [e] at hb <;> revert hb <;> decide +kernel)
      have hff := sp_filterFor hL1 hX1 (k := i) (by unfold xr; omega)
      rw [ffi_congr h249 eq4 eqq] at hff
      have hfb := ffi_bnd σ i hL.1
      have hL4 := hL.1
      have hqb := qf_258 (x := ffi σ i) (by omega)
      simp only [trS]
      by_cases hc : ffi σ i = -1
      · rw [if_pos hc]
        obtain ⟨σ', m1, m2, m3⟩ := ih (i + 1) s σ1 (by omega) hU ⟨s1, s2, by omega⟩
        rw [show (((i + 1 : Nat)) : Int) = (i : Int) + 1 by omega] at m1
        refine ⟨σ', ?_, m2, m3⟩
        refine e_iload_n 2 3 rfl rfl rfl rfl ?_
        refine e_iconst 3 4 rfl rfl ?_
        refine e_icmp_ge 4 43 7 rfl rfl rfl (by unfold xr at *; omega) (by unfold xr at *; omega) (fun h9 => absurd h9 (by omega)) (fun _ => ?_)
        refine e_aload_n 5 8 rfl rfl rfl rfl ?_
        refine e_iload_n 6 9 rfl rfl rfl rfl ?_
        refine e_aload_n 7 10 rfl rfl rfl rfl ?_
        refine g_callV 8 13 (hff) okX7_filterFor cvX7_106 ⟨(Nat.le_of_ble_eq_true rfl), (Nat.le_of_ble_eq_true rfl)⟩ rfl rfl (Nat.le_of_ble_eq_true rfl) rfl rfl rfl rfl rfl (Nat.le_of_ble_eq_true rfl) (Nat.le_of_ble_eq_true rfl) (Nat.le_of_ble_eq_true rfl) ?_
        refine e_astore 9 15 (ls' := [some _, some _, some _, some _, some _]) rfl rfl (Nat.le_of_ble_eq_true rfl) rfl ?_
        refine e_aload 10 17 rfl rfl rfl ?_
        refine e_aload_n 11 18 rfl rfl rfl rfl ?_
        refine g_getR 12 21 ckX7 flX7_18 rfl rfl (Nat.le_of_ble_eq_true rfl) rfl rfl ?_
        refine e_acmp_eq 13 37 24 rfl rfl rfl (fun h2 => ?_) (fun h2 => ?_)
        · skip
          refine e_iinc 22 40 (ls' := [some _, some _, some _, some _, some _]) rfl rfl (Nat.le_of_ble_eq_true rfl) rfl rfl ?_
          refine e_goto 23 2 rfl rfl ?_
          refine e_dropm [true, true, true, true, false] (ls' := [some _, some _, some _, some _, none]) rfl ?_
          exact m1
        · skip
          exact absurd (hqb.mpr hc) h2
      · rw [if_neg hc]
        have hib : ihas σ i = true := by
          cases h : ihas σ i with
          | true => rfl
          | false => exact absurd (by unfold ffi; rw [h]; rfl) hc
        have ent : ((ffi σ i).toNat : Int) = ffi σ i := by omega
        obtain ⟨f1, f2, f3⟩ := hL.2 (ffi σ i).toNat (by omega)
        rw [ent] at f2 f3
        have e2 : σ1 (qf (ffi σ i)) 2 = σ (qf (ffi σ i)) 2 := by have := eqq (ffi σ i).toNat; rw [ent] at this; rw [this]
        obtain ⟨σ2, k1, k2⟩ := sp_countLooked hA1 h01' hX1 hG1 (k := i) (by rw [ihas_congr h249]; exact hib) (qf_isFi (ffi σ i)) f3 (by rw [e2]; exact f2)
        rw [lkd_congr h27 h249 h250, e2] at k1
        have hlb := lkd_bnd σ T (σ (qf (ffi σ i)) 2) (T (qf (ffi σ i) + 1)) i
        obtain ⟨σ3, j1, j2⟩ := sp_tryPlan (hU.fr k2) (by unfold xr; omega) (by unfold xr; omega) (k := i) (l := lk σ T i) (by unfold lk xr; omega)
        obtain ⟨σ', m1, m2, m3⟩ := ih (i + 1) _ σ3 (by omega) j2 (by rw [show (((i + 1 : Nat)) : Int) = (i : Int) + 1 by omega]; exact hs.tp (by omega) (by unfold lk; omega))
        rw [show (((i + 1 : Nat)) : Int) = (i : Int) + 1 by omega] at m1
        refine ⟨σ', ?_, m2, m3⟩
        refine e_iload_n 2 3 rfl rfl rfl rfl ?_
        refine e_iconst 3 4 rfl rfl ?_
        refine e_icmp_ge 4 43 7 rfl rfl rfl (by unfold xr at *; omega) (by unfold xr at *; omega) (fun h9 => absurd h9 (by omega)) (fun _ => ?_)
        refine e_aload_n 5 8 rfl rfl rfl rfl ?_
        refine e_iload_n 6 9 rfl rfl rfl rfl ?_
        refine e_aload_n 7 10 rfl rfl rfl rfl ?_
        refine g_callV 8 13 (hff) okX7_filterFor cvX7_106 ⟨(Nat.le_of_ble_eq_true rfl), (Nat.le_of_ble_eq_true rfl)⟩ rfl rfl (Nat.le_of_ble_eq_true rfl) rfl rfl rfl rfl rfl (Nat.le_of_ble_eq_true rfl) (Nat.le_of_ble_eq_true rfl) (Nat.le_of_ble_eq_true rfl) ?_
        refine e_astore 9 15 (ls' := [some _, some _, some _, some _, some _]) rfl rfl (Nat.le_of_ble_eq_true rfl) rfl ?_
        refine e_aload 10 17 rfl rfl rfl ?_
        refine e_aload_n 11 18 rfl rfl rfl rfl ?_
        refine g_getR 12 21 ckX7 flX7_18 rfl rfl (Nat.le_of_ble_eq_true rfl) rfl rfl ?_
        refine e_acmp_eq 13 37 24 rfl rfl rfl (fun h2 => ?_) (fun h2 => ?_)
        · skip
          exact absurd (hqb.mp h2) hc
        · skip
          refine e_aload_n 14 25 rfl rfl rfl rfl ?_
          refine e_iload_n 15 26 rfl rfl rfl rfl ?_
          refine e_aload_n 16 27 rfl rfl rfl rfl ?_
          refine e_aload_n 17 28 rfl rfl rfl rfl ?_
          refine e_iload_n 18 29 rfl rfl rfl rfl ?_
          refine e_aload 19 31 rfl rfl rfl ?_
          refine g_callV 20 34 (k1) okX4_countLooked cvX7_110 ⟨(Nat.le_of_ble_eq_true rfl), (Nat.le_of_ble_eq_true rfl)⟩ rfl rfl (Nat.le_of_ble_eq_true rfl) rfl rfl rfl rfl rfl (Nat.le_of_ble_eq_true rfl) (Nat.le_of_ble_eq_true rfl) (Nat.le_of_ble_eq_true rfl) ?_
          refine g_callV 21 37 (j1) okX7_tryPlan cvX7_129 ⟨(Nat.le_of_ble_eq_true rfl), (Nat.le_of_ble_eq_true rfl)⟩ rfl rfl (Nat.le_of_ble_eq_true rfl) rfl rfl rfl rfl rfl (Nat.le_of_ble_eq_true rfl) (Nat.le_of_ble_eq_true rfl) (Nat.le_of_ble_eq_true rfl) ?_
          refine e_iinc 22 40 (ls' := [some _, some _, some _, some _, some _]) rfl rfl (Nat.le_of_ble_eq_true rfl) rfl rfl ?_
          refine e_goto 23 2 rfl rfl ?_
          refine e_dropm [true, true, true, true, false] (ls' := [some _, some _, some _, some _, none]) rfl ?_
          exact m1
  obtain ⟨σ', m1, m2⟩ := loop 3 0 s σ1 rfl hU hs
  refine ⟨σ', ?_, m2⟩
  refine e_entry okX7_tryPlans (Nat.le_of_ble_eq_true rfl) (ls := [some _, some _, some _, none, none]) rfl ?_
  refine e_iconst 0 1 rfl rfl ?_
  refine e_istore_n 1 2 (ls' := [some _, some _, some _, some _, none]) rfl rfl rfl (Nat.le_of_ble_eq_true rfl) rfl ?_
  exact m1
/-! the choice -/
theorem fgp_o (σ : xSig) (p : Int) : FX [248, 251, 252, 253] σ (fgp σ p) := (((FX.rf.xu (by decide)).xu (by decide)).xu (by decide)).xu (by decide)
theorem kpp_o (σ : xSig) (s i l : Int) : FX [248, 251, 252, 253] σ (kpp σ s i l) := (((FX.rf.xu (by decide)).xu (by decide)).xu (by decide)).xu (by decide)
/-- the plan that is kept for the filters; its look -/
def pfr (σ : xSig) : Int := fstIs (σ 251) (shp σ) 0 (σ 248 6).toNat
def plk (σ : xSig) (T : Nat → List Int) : Int := if σ 252 (pfr σ) = -1 then σ 25 4 else lk σ T (σ 252 (pfr σ))
def isK (σ : xSig) (T : Nat → List Int) : Bool := decide (pfr σ ≠ -1 ∧ plk σ T ≤ 2 * σ 253 (pfr σ) + 2)
/-- what is used, looked at, tried, in the end -/
def cps (σ : xSig) (T : Nat → List Int) : Int × Int × Int := if isK σ T = true then (σ 252 (pfr σ), plk σ T, 0) else tpS (trS σ T 0 3 (if pfr σ = -1 then (σ 256 6, σ 256 7, 0) else (σ 252 (pfr σ), plk σ T, 0))) (-1) (σ 25 4)
def cpr (σ : xSig) (T : Nat → List Int) : xSig := if isK σ T = true then σ else kpp (if pfr σ = -1 then σ else fgp σ (pfr σ)) (shp σ) (cps σ T).1 (cps σ T).2.1
def QC (σ σ' : xSig) (T : Nat → List Int) : Prop := FX [254, 255, 256] (cpr σ T) σ' ∧ σ' 256 6 = (cps σ T).1 ∧ σ' 256 7 = (cps σ T).2.1 ∧ σ' 256 8 = (cps σ T).2.2 ∧ σ' 256 9 = bi (decide (pfr σ ≠ -1) && !isK σ T) ∧ ∀ j : Int, j ≠ 6 → j ≠ 7 → j ≠ 8 → j ≠ 9 → σ' 256 j = σ 256 j
theorem pfr_bnd {σ : xSig} (hX : IXR σ) : pfr σ = -1 ∨ (0 ≤ pfr σ ∧ pfr σ < σ 248 6) := by
  have h6 := hX.2.2.1
  unfold pfr
  rcases fstIs_bnd (f := σ 251) (x := shp σ) (σ 248 6).toNat 0 with h | h <;> omega
theorem xu_xu (σ : xSig) (a : Nat) (j v w : Int) : xu (xu σ a j v) a j w = xu σ a j w := by
  funext b i
  unfold xu
  split <;> rfl
theorem QU.xuX {σ σ1 σ2 : xSig} {s : Int × Int × Int} (h : QU σ σ1 s) (hw : FX [248, 251, 252, 253] σ1 σ2) : FX [248, 251, 252, 253, 254, 255, 256] σ σ2 := fun b hb => by
  simp only [List.mem_cons, List.not_mem_nil, or_false, not_or] at hb
  exact (hw b (by simp; omega)).trans (h.1 b (by simp; omega))
theorem kpp_same {σ σ1 : xSig} (s i l : Int) (h : ∀ b : Nat, b ∈ [248, 251, 252, 253] → σ1 b = σ b) : ∀ b : Nat, σ1 b = σ b ∨ b ∈ [248, 251, 252, 253] → kpp σ1 s i l b = kpp σ s i l b := by
  have h0 := h 248 (by decide)
  intro b hb
  unfold kpp
  rw [h0]
  funext j
  have e : σ1 b = σ b := hb.elim (fun q => q) (fun q => h b q)
  simp only [xu, e]
theorem IXR_fgp {σ : xSig} (hX : IXR σ) {p : Int} (hp : 0 < σ 248 6) : IXR (fgp σ p) := by
  obtain ⟨q1, q2, q3, q4, q5, q6⟩ := hX
  have o := fgp_o σ p
  refine ⟨?_, ?_, ?_, ?_, fgp_252 q5 p, ?_⟩
  · rw [show fgp σ p 249 = σ 249 by unfold fgp; rw [xu_other _ _ _ (by decide), xu_other _ _ _ (by decide), xu_other _ _ _ (by decide), xu_other _ _ _ (by decide)]]; exact q1
  · unfold n01; rw [show fgp σ p 250 = σ 250 by unfold fgp; rw [xu_other _ _ _ (by decide), xu_other _ _ _ (by decide), xu_other _ _ _ (by decide), xu_other _ _ _ (by decide)]]; exact q2
  · rw [fgp_6]; omega
  · unfold fgp
    exact xu_all (P := fun z => 0 ≤ z ∧ z < 100000000) (xu_all (P := fun z => 0 ≤ z ∧ z < 100000000) (xu_all (P := fun z => 0 ≤ z ∧ z < 100000000) (xu_all (P := fun z => 0 ≤ z ∧ z < 100000000) q4 (fun _ => q4 _)) (fun q => absurd q (by decide))) (fun q => absurd q (by decide))) (fun q => absurd q (by decide))
  · unfold fgp
    exact xu_all (P := fun z => 0 ≤ z ∧ z ≤ 100) (xu_all (P := fun z => 0 ≤ z ∧ z ≤ 100) (xu_all (P := fun z => 0 ≤ z ∧ z ≤ 100) (xu_all (P := fun z => 0 ≤ z ∧ z ≤ 100) q6 (fun q => absurd q (by decide))) (fun q => absurd q (by decide))) (fun _ => q6 _)) (fun q => absurd q (by decide))
theorem IXR_kpp {σ : xSig} (hX : IXR σ) (h6 : σ 248 6 < 512) {s i l : Int} (hs : 0 ≤ s ∧ s < 100000000) (hi : -1 ≤ i ∧ i < 3) (hl : 0 ≤ l ∧ l ≤ 100) : IXR (kpp σ s i l) := by
  obtain ⟨q1, q2, q3, q4, q5, q6⟩ := hX
  refine ⟨?_, ?_, ?_, ?_, ?_, ?_⟩
  · rw [show kpp σ s i l 249 = σ 249 by unfold kpp; rw [xu_other _ _ _ (by decide), xu_other _ _ _ (by decide), xu_other _ _ _ (by decide), xu_other _ _ _ (by decide)]]; exact q1
  · unfold n01; rw [show kpp σ s i l 250 = σ 250 by unfold kpp; rw [xu_other _ _ _ (by decide), xu_other _ _ _ (by decide), xu_other _ _ _ (by decide), xu_other _ _ _ (by decide)]]; exact q2
  · rw [show kpp σ s i l 248 6 = σ 248 6 + 1 from xu_same _ _ _ _]; omega
  · unfold kpp
    exact xu_all (P := fun z => 0 ≤ z ∧ z < 100000000) (xu_all (P := fun z => 0 ≤ z ∧ z < 100000000) (xu_all (P := fun z => 0 ≤ z ∧ z < 100000000) (xu_all (P := fun z => 0 ≤ z ∧ z < 100000000) q4 (fun _ => hs)) (fun q => absurd q (by decide))) (fun q => absurd q (by decide))) (fun q => absurd q (by decide))
  · unfold kpp
    exact xu_all (P := fun z => -1 ≤ z ∧ z < 3) (xu_all (P := fun z => -1 ≤ z ∧ z < 3) (xu_all (P := fun z => -1 ≤ z ∧ z < 3) (xu_all (P := fun z => -1 ≤ z ∧ z < 3) q5 (fun q => absurd q (by decide))) (fun _ => hi)) (fun q => absurd q (by decide))) (fun q => absurd q (by decide))
  · unfold kpp
    exact xu_all (P := fun z => 0 ≤ z ∧ z ≤ 100) (xu_all (P := fun z => 0 ≤ z ∧ z ≤ 100) (xu_all (P := fun z => 0 ≤ z ∧ z ≤ 100) (xu_all (P := fun z => 0 ≤ z ∧ z ≤ 100) q6 (fun q => absurd q (by decide))) (fun q => absurd q (by decide))) (fun _ => hl)) (fun q => absurd q (by decide))
theorem fgp_same {σ σ1 : xSig} (p : Int) (h : ∀ b : Nat, b ∈ [248, 251, 252, 253] → σ1 b = σ b) : ∀ b : Nat, σ1 b = σ b ∨ b ∈ [248, 251, 252, 253] → fgp σ1 p b = fgp σ p b := by
  have h0 := h 248 (by decide)
  have h1 := h 251 (by decide)
  have h2 := h 252 (by decide)
  have h3 := h 253 (by decide)
  intro b hb
  unfold fgp
  rw [h0, h1, h2, h3]
  funext j
  have e : σ1 b = σ b := hb.elim (fun q => q) (fun q => h b q)
  simp only [xu, e]
theorem pl_base {σ σ1 : xSig} {T : Nat → List Int} (hA : VAll σ T) (h01 : n01 σ 27) (hL : FLT σ T) (hG : GDA σ T) (hF : FX [248, 251, 252, 253, 254, 255, 256] σ σ1) (h4 : σ1 256 4 = σ 256 4) :
    VAll σ1 T ∧ n01 σ1 27 ∧ FLT σ1 T ∧ GDA σ1 T ∧ (∀ k, ffi σ1 k = ffi σ k) ∧ (∀ k, lk σ1 T k = lk σ T k) ∧ σ1 25 = σ 25 ∧ (∀ k, ihas σ1 k = ihas σ k) ∧ (∀ i : Int, σ1 (qf i) = σ (qf i)) := by
  have h27 := hF 27 (by decide)
  have h249 := hF 249 (by decide)
  have h250 := hF 250 (by decide)
  have eqq : ∀ i : Nat, σ1 (qf i) = σ (qf i) := fun i => by have := qf_ne i; exact hF _ (by simp; omega)
  have ef := fun k => ffi_congr h249 h4 eqq k
  refine ⟨hA.keep fun b hb => hF b (fun e => ?_), by unfold n01; rw [h27]; exact h01, hL.fr h4 eqq, fun n hn hh => hG n hn (by rw [← hasd_congr h27]; exact hh), ef, fun k => ?_, hF 25 (by decide), ihas_congr h249, qfI eqq⟩
  · simp only [List.mem_cons, List.not_mem_nil, or_false] at e
    rcases e with e | e | e | e | e | e | e <;> rw [e] at hb <;> revert hb <;> decide +kernel
  · unfold lk
    rw [ef, qfI eqq, lkd_congr h27 h249 h250]
theorem trS_congr {σ σ1 : xSig} {T : Nat → List Int} (h1 : ∀ k, ffi σ1 k = ffi σ k) (h2 : ∀ k, lk σ1 T k = lk σ T k) : ∀ (n i : Nat) (s : Int × Int × Int), trS σ1 T i n s = trS σ T i n s := by
  intro n
  induction n with
  | zero => intro i s; rfl
  | succ n ih => intro i s; simp only [trS, h1, h2]; exact ih _ _
theorem cp_tl {σ σb σ1 : xSig} {T : Nat → List Int} (hA : VAll σ T) (h01 : n01 σ 27) (hL : FLT σ T) (hG : GDA σ T) (hsz : 0 ≤ σ 25 4 ∧ σ 25 4 ≤ 100) (hF : FX [248, 251, 252, 253, 254, 255, 256] σ σb) (h4 : σb 256 4 = σ 256 4) (hX : IXR σb) (h6 : σb 248 6 < 512) {s : Int × Int × Int} (hU : QU σb σ1 s) (hs : sOK s 0) (p : Int) :
    ∃ σ' : xSig, x_E MX7_choosePlan 0 0 104 [some (.ref 256), some (.ref 25), some (.ref 248), some (.int (ii (shp σ))), some (.int (ii p))] [] (St σ1) 0 0 vv (St σ') ∧ FX [254, 255, 256] (kpp σb (shp σ) (tpS (trS σ T 0 3 s) (-1) (σ 25 4)).1 (tpS (trS σ T 0 3 s) (-1) (σ 25 4)).2.1) σ' ∧ σ' 256 6 = (tpS (trS σ T 0 3 s) (-1) (σ 25 4)).1 ∧ σ' 256 7 = (tpS (trS σ T 0 3 s) (-1) (σ 25 4)).2.1 ∧ σ' 256 8 = (tpS (trS σ T 0 3 s) (-1) (σ 25 4)).2.2 ∧ (∀ j : Int, j ≠ 6 → j ≠ 7 → j ≠ 8 → σ' 256 j = σb 256 j) ∧ sOK (tpS (trS σ T 0 3 s) (-1) (σ 25 4)) 4 := by
  obtain ⟨b1, b2, b3, b4, b5, b6, b7, b8, b9⟩ := pl_base hA h01 hL hG hF h4
  obtain ⟨σ2, k1, k2, k3⟩ := sp_tryPlans b1 b2 b3 hX b4 (by rw [b7]; exact hsz) hU hs
  rw [trS_congr b5 b6, b7] at k2 k3
  obtain ⟨u1, u2, u3, u4, u5⟩ := k2
  have h248 : σ2 248 = σb 248 := u1 248 (by decide)
  have hX6 := hX.2.2.1
  have e256 : kpp σ2 (shp σ) (tpS (trS σ T 0 3 s) (-1) (σ 25 4)).1 (tpS (trS σ T 0 3 s) (-1) (σ 25 4)).2.1 256 = σ2 256 := kpp_o _ _ _ _ 256 (by decide)
  refine ⟨kpp σ2 (shp σ) (tpS (trS σ T 0 3 s) (-1) (σ 25 4)).1 (tpS (trS σ T 0 3 s) (-1) (σ 25 4)).2.1, ?_, ?_, by rw [e256]; exact u2, by rw [e256]; exact u3, by rw [e256]; exact u4, fun j h1 h2 h3 => by rw [e256]; exact u5 j h1 h2 h3, k3⟩
  · skip
    refine e_aload_n 57 105 rfl rfl rfl rfl ?_
    refine e_aload_n 58 106 rfl rfl rfl rfl ?_
    refine e_aload_n 59 107 rfl rfl rfl rfl ?_
    refine g_callV 60 110 (k1) okX7_tryPlans cvX7_121 ⟨(Nat.le_of_ble_eq_true rfl), (Nat.le_of_ble_eq_true rfl)⟩ rfl rfl (Nat.le_of_ble_eq_true rfl) rfl rfl rfl rfl rfl (Nat.le_of_ble_eq_true rfl) (Nat.le_of_ble_eq_true rfl) (Nat.le_of_ble_eq_true rfl) ?_
    refine e_aload_n 61 111 rfl rfl rfl rfl ?_
    refine e_iload_n 62 112 rfl rfl rfl rfl ?_
    refine e_aload_n 63 113 rfl rfl rfl rfl ?_
    refine g_getI 64 116 6 ckX7 flX7_40 rfl rfl (Nat.le_of_ble_eq_true rfl) rfl rfl rfl u2 ?_
    refine e_aload_n 65 117 rfl rfl rfl rfl ?_
    refine g_getI 66 120 7 ckX7 flX7_43 rfl rfl (Nat.le_of_ble_eq_true rfl) rfl rfl rfl u3 ?_
    refine g_callV 67 123 (sp_keepPlan (σ := σ2) (by rw [h248]; omega)) okX4_keepPlan cvX7_125 ⟨(Nat.le_of_ble_eq_true rfl), (Nat.le_of_ble_eq_true rfl)⟩ rfl rfl (Nat.le_of_ble_eq_true rfl) rfl rfl rfl rfl rfl (Nat.le_of_ble_eq_true rfl) (Nat.le_of_ble_eq_true rfl) (Nat.le_of_ble_eq_true rfl) ?_
    exact e_return 68 rfl rfl (Nat.le_of_ble_eq_true rfl) (Nat.le_of_ble_eq_true rfl)
  · intro b hb
    refine kpp_same _ _ _ (fun b hb2 => u1 b (fun e => ?_)) b (Or.inl (u1 b hb))
    simp only [List.mem_cons, List.not_mem_nil, or_false] at e hb2
    omega
theorem sp_choosePlan {σ : xSig} {T : Nat → List Int} (hA : VAll σ T) (h01 : n01 σ 27) (hL : FLT σ T) (hX : IXR σ) (hG : GDA σ T) (hsz : 0 ≤ σ 25 4 ∧ σ 25 4 ≤ 100) (h6 : σ 248 6 < 512) (h256 : sOK (σ 256 6, σ 256 7, 0) 0)
    (hpl : pfr σ ≠ -1 → σ 252 (pfr σ) ≠ -1 → ihas σ (σ 252 (pfr σ)) = true ∧ ffi σ (σ 252 (pfr σ)) ≠ -1) :
    ∃ σ' : xSig, x_Sp MX7_choosePlan 0 0 [.ref 256, .ref 25, .ref 248] (St σ) vv (St σ') ∧ QC σ σ' T ∧ sOK (cps σ T) 4 := by
  have hL4 := hL.1
  have hsb := shp_bnd hL
  have hX6 := hX.2.2.1
  have hpb := pfr_bnd hX
  have ed : ∀ w : Int, xu (xu σ 256 8 0) 256 9 w 256 4 = σ 256 4 := fun w => by rw [xu_ne _ (Or.inr (by decide)), xu_ne _ (Or.inr (by decide))]
  have hpf0 : ∀ σ1 : xSig, FX [256] σ σ1 → Rd MX4_planFor [.ref 248, .int (ii (shp σ))] σ1 (iv (pfr σ)) := by
    intro σ1 h1
    have hX1 : IXR σ1 := hX.fr fun b q1 q2 => h1 b (by simp; omega)
    have := sp_planFor hX1 (x := shp σ) (by unfold xr; omega)
    rw [h1 251 (by decide), h1 248 (by decide)] at this
    exact this
  by_cases hp : pfr σ = -1
  · have hK : isK σ T = false := decide_eq_false (fun q => q.1 hp)
    have hU : QU (xu σ 256 9 0) (xu (xu σ 256 8 0) 256 9 0) (σ 256 6, σ 256 7, 0) := by
      refine ⟨fun b hb => ?_, ?_, ?_, ?_, fun j h1 h2 h3 => ?_⟩
      · have : b ≠ 256 := fun e => hb (by rw [e]; decide)
        rw [xu_other _ _ _ this, xu_other _ _ _ this, xu_other _ _ _ this]
      · rw [xu_ne _ (Or.inr (by decide)), xu_ne _ (Or.inr (by decide))]
      · rw [xu_ne _ (Or.inr (by decide)), xu_ne _ (Or.inr (by decide))]
      · rw [xu_ne _ (Or.inr (by decide)), xu_same]
      · unfold xu
        by_cases e : j = 9
        · rw [if_pos ⟨rfl, e⟩, if_pos ⟨rfl, e⟩]
        · rw [if_neg (fun q => e q.2), if_neg (fun q => h3 q.2), if_neg (fun q => e q.2)]
    have hXb : IXR (xu σ 256 9 0) := hX.fr fun b q1 q2 => xu_other _ _ _ (by omega)
    obtain ⟨σ', m1, m2, m3, m4, m5, m6, m7⟩ := cp_tl hA h01 hL hG hsz (FX.rf.xu (by decide) : FX [248, 251, 252, 253, 254, 255, 256] σ (xu σ 256 9 0)) (xu_ne _ (Or.inr (by decide))) hXb (by rw [xu_ne _ (Or.inl (by decide))]; exact h6) hU h256 (-1)
    have ecps : cps σ T = tpS (trS σ T 0 3 (σ 256 6, σ 256 7, 0)) (-1) (σ 25 4) := by unfold cps; rw [if_neg (by rw [hK]; decide), if_pos hp]
    have ecpr : cpr σ T = kpp σ (shp σ) (cps σ T).1 (cps σ T).2.1 := by unfold cpr; rw [if_neg (by rw [hK]; decide), if_pos hp]
    rw [← ecps] at m2 m3 m4 m5 m7
    refine ⟨σ', ?_, ⟨?_, m3, m4, m5, ?_, fun j h1 h2 h3 h4 => ?_⟩, m7⟩
    · have hpf := hpf0 σ FX.rf
      rw [hp] at hpf
      refine e_entry okX7_choosePlan (Nat.le_of_ble_eq_true rfl) (ls := [some _, some _, some _, none, none]) rfl ?_
      refine e_aload_n 0 1 rfl rfl rfl rfl ?_
      refine g_callV 1 4 (sp_shape hL4) okX7_shape cvX7_94 ⟨(Nat.le_of_ble_eq_true rfl), (Nat.le_of_ble_eq_true rfl)⟩ rfl rfl (Nat.le_of_ble_eq_true rfl) rfl rfl rfl rfl rfl (Nat.le_of_ble_eq_true rfl) (Nat.le_of_ble_eq_true rfl) (Nat.le_of_ble_eq_true rfl) ?_
      refine e_istore_n 2 5 (ls' := [some _, some _, some _, some _, none]) rfl rfl rfl (Nat.le_of_ble_eq_true rfl) rfl ?_
      refine e_aload_n 3 6 rfl rfl rfl rfl ?_
      refine e_iload_n 4 7 rfl rfl rfl rfl ?_
      refine g_callV 5 10 (hpf) okX4_planFor cvX7_95 ⟨(Nat.le_of_ble_eq_true rfl), (Nat.le_of_ble_eq_true rfl)⟩ rfl rfl (Nat.le_of_ble_eq_true rfl) rfl rfl rfl rfl rfl (Nat.le_of_ble_eq_true rfl) (Nat.le_of_ble_eq_true rfl) (Nat.le_of_ble_eq_true rfl) ?_
      refine e_istore 6 12 (ls' := [some _, some _, some _, some _, some _]) rfl rfl (Nat.le_of_ble_eq_true rfl) rfl ?_
      refine e_aload_n 7 13 rfl rfl rfl rfl ?_
      refine e_iconst 8 14 rfl rfl ?_
      refine g_putI 9 17 8 ckX7 flX7_46 rfl rfl (Nat.le_of_ble_eq_true rfl) rfl rfl rfl ?_
      refine e_aload_n 10 18 rfl rfl rfl rfl ?_
      refine e_iconst 11 19 rfl rfl ?_
      refine g_putZ 12 22 9 ckX7 flX7_49 rfl rfl (by omega) (Nat.le_of_ble_eq_true rfl) rfl rfl rfl ?_
      refine e_iload 13 24 rfl rfl rfl ?_
      refine e_iconst 14 25 rfl rfl ?_
      refine e_icmp_eq 15 104 28 rfl rfl rfl (by unfold xr at *; omega) (by unfold xr at *; omega) (fun _ => ?_) (fun h9 => absurd h9 (fun q => q rfl))
      exact m1
    · rw [ecpr]
      intro b hb
      rw [m2 b hb]
      refine kpp_same _ _ _ (fun b hb2 => xu_other _ _ _ (fun e => by rw [e] at hb2; revert hb2; decide)) b (Or.inl (xu_other _ _ _ (fun e => hb (by rw [e]; decide))))
    · rw [m6 9 (by decide) (by decide) (by decide), xu_same, hp]; rfl
    · rw [m6 j h1 h2 h3, xu_ne _ (Or.inr h4)]
  · have hp2 : 0 ≤ pfr σ ∧ pfr σ < σ 248 6 := hpb.resolve_left hp
    have hq52 := hX.2.2.2.2.1 (pfr σ)
    have hq53 := hX.2.2.2.2.2 (pfr σ)
    have hplb : 0 ≤ plk σ T ∧ plk σ T ≤ 100 := by
      unfold plk
      split
      · exact hsz
      · exact lkd_bnd σ T _ _ _
    have g75 : ∀ σ3 : xSig, QU (xu σ 256 9 0) σ3 (σ 252 (pfr σ), plk σ T, 0) → ∃ σ' : xSig, x_E MX7_choosePlan 0 0 75 [some (.ref 256), some (.ref 25), some (.ref 248), some (.int (ii (shp σ))), some (.int (ii (pfr σ)))] [] (St σ3) 0 0 vv (St σ') ∧ QC σ σ' T ∧ sOK (cps σ T) 4 := by
      intro σ3 hU
      have hU' := hU
      obtain ⟨u1, u2, u3, u4, u5⟩ := hU'
      have u3' : σ3 256 7 = plk σ T := u3
      have h3 : FX [254, 255, 256] σ σ3 := (FX.rf.xu (by decide) : FX [254, 255, 256] σ (xu σ 256 9 0)).tr u1
      have hlo := sp_looksOfPlan (σ := σ3) (p := pfr σ) (by unfold xr; omega)
      rw [show lop σ3 (pfr σ) = σ 253 (pfr σ) by unfold lop; rw [if_pos (by omega), h3 253 (by decide)]] at hlo
      by_cases hc : plk σ T ≤ 2 * σ 253 (pfr σ) + 2
      · have hK : isK σ T = true := decide_eq_true ⟨hp, hc⟩
        have ecps : cps σ T = (σ 252 (pfr σ), plk σ T, 0) := by unfold cps; rw [if_pos hK]
        have ecpr : cpr σ T = σ := by unfold cpr; rw [if_pos hK]
        refine ⟨σ3, ?_, ⟨by rw [ecpr]; exact h3, by rw [ecps]; exact u2, by rw [ecps]; exact u3, by rw [ecps]; exact u4, ?_, fun j h1 h2 h3 h4 => ?_⟩, ?_⟩
        · skip
          refine e_aload_n 40 76 rfl rfl rfl rfl ?_
          refine g_getI 41 79 7 ckX7 flX7_43 rfl rfl (Nat.le_of_ble_eq_true rfl) rfl rfl rfl u3' ?_
          refine e_iconst 42 80 rfl rfl ?_
          refine e_aload_n 43 81 rfl rfl rfl rfl ?_
          refine e_iload 44 83 rfl rfl rfl ?_
          refine g_callV 45 86 (hlo) okX4_looksOfPlan cvX7_114 ⟨(Nat.le_of_ble_eq_true rfl), (Nat.le_of_ble_eq_true rfl)⟩ rfl rfl (Nat.le_of_ble_eq_true rfl) rfl rfl rfl rfl rfl (Nat.le_of_ble_eq_true rfl) (Nat.le_of_ble_eq_true rfl) (Nat.le_of_ble_eq_true rfl) ?_
          refine e_imul 46 87 rfl rfl ?_
          refine e_iconst 47 88 rfl rfl ?_
          refine e_iadd 48 89 rfl rfl ?_
          refine e_icmp_gt 49 93 92 rfl rfl rfl (by unfold xr at *; omega) (by unfold xr at *; omega) (fun h9 => absurd h9 (by omega)) (fun _ => ?_)
          exact e_return 50 rfl rfl (Nat.le_of_ble_eq_true rfl) (Nat.le_of_ble_eq_true rfl)
        · rw [u5 9 (by decide) (by decide) (by decide), xu_same, hK, Bool.not_true, Bool.and_false]; rfl
        · rw [u5 j h1 h2 h3, xu_ne _ (Or.inr h4)]
        · rw [ecps]; exact ⟨hq52, hplb, by simp⟩
      · have hK : isK σ T = false := decide_eq_false (fun q => hc q.2)
        have ecps : cps σ T = tpS (trS σ T 0 3 (σ 252 (pfr σ), plk σ T, 0)) (-1) (σ 25 4) := by unfold cps; rw [if_neg (by rw [hK]; decide), if_neg hp]
        have ecpr : cpr σ T = kpp (fgp σ (pfr σ)) (shp σ) (cps σ T).1 (cps σ T).2.1 := by unfold cpr; rw [if_neg (by rw [hK]; decide), if_neg hp]
        have e3f : ∀ b : Nat, b ∉ [254, 255, 256] → fgp σ3 (pfr σ) b = fgp σ (pfr σ) b := fun b hb => fgp_same _ (fun b hb2 => h3 b (fun e => by
          simp only [List.mem_cons, List.not_mem_nil, or_false] at e hb2
          omega)) b (Or.inl (h3 b hb))
        have e3q : fgp σ3 (pfr σ) 256 = σ3 256 := fgp_o σ3 _ 256 (by decide)
        have e0q : fgp σ (pfr σ) 256 = σ 256 := fgp_o σ _ 256 (by decide)
        have hU4 : QU (xu (fgp σ (pfr σ)) 256 9 1) (xu (fgp σ3 (pfr σ)) 256 9 1) (σ 252 (pfr σ), plk σ T, 0) := by
          refine ⟨fun b hb => ?_, ?_, ?_, ?_, fun j h1 h2 h3 => ?_⟩
          · have : b ≠ 256 := fun e => hb (by rw [e]; decide)
            rw [xu_other _ _ _ this, xu_other _ _ _ this]
            exact e3f b hb
          · rw [xu_ne _ (Or.inr (by decide)), e3q]; exact u2
          · rw [xu_ne _ (Or.inr (by decide)), e3q]; exact u3
          · rw [xu_ne _ (Or.inr (by decide)), e3q]; exact u4
          · by_cases e : j = 9
            · rw [e, xu_same, xu_same]
            · rw [xu_ne _ (Or.inr e), xu_ne _ (Or.inr e), e3q, e0q, u5 j h1 h2 h3, xu_ne _ (Or.inr e)]
        have hXb : IXR (xu (fgp σ (pfr σ)) 256 9 1) := (IXR_fgp hX (p := pfr σ) (by omega)).fr fun b q1 q2 => xu_other _ _ _ (by omega)
        have hFb : FX [248, 251, 252, 253, 254, 255, 256] σ (xu (fgp σ (pfr σ)) 256 9 1) := fun b hb => by
          simp only [List.mem_cons, List.not_mem_nil, or_false, not_or] at hb
          rw [xu_other _ _ _ (by omega)]
          exact fgp_o σ _ b (by simp; omega)
        obtain ⟨σ', m1, m2, m3, m4, m5, m6, m7⟩ := cp_tl hA h01 hL hG hsz hFb (by rw [xu_ne _ (Or.inr (by decide)), e0q]) hXb (by rw [xu_ne _ (Or.inl (by decide)), fgp_6]; omega) hU4 ⟨hq52, hplb, by simp⟩ (pfr σ)
        rw [← ecps] at m2 m3 m4 m5 m7
        have hfg := sp_forgetPlan (σ := σ3) (by rw [h3 248 (by decide)]; omega) (p := pfr σ) (by rw [h3 248 (by decide)]; exact hp2)
        refine ⟨σ', ?_, ⟨?_, m3, m4, m5, ?_, fun j h1 h2 h3 h4 => ?_⟩, m7⟩
        · skip
          refine e_aload_n 40 76 rfl rfl rfl rfl ?_
          refine g_getI 41 79 7 ckX7 flX7_43 rfl rfl (Nat.le_of_ble_eq_true rfl) rfl rfl rfl u3' ?_
          refine e_iconst 42 80 rfl rfl ?_
          refine e_aload_n 43 81 rfl rfl rfl rfl ?_
          refine e_iload 44 83 rfl rfl rfl ?_
          refine g_callV 45 86 (hlo) okX4_looksOfPlan cvX7_114 ⟨(Nat.le_of_ble_eq_true rfl), (Nat.le_of_ble_eq_true rfl)⟩ rfl rfl (Nat.le_of_ble_eq_true rfl) rfl rfl rfl rfl rfl (Nat.le_of_ble_eq_true rfl) (Nat.le_of_ble_eq_true rfl) (Nat.le_of_ble_eq_true rfl) ?_
          refine e_imul 46 87 rfl rfl ?_
          refine e_iconst 47 88 rfl rfl ?_
          refine e_iadd 48 89 rfl rfl ?_
          refine e_icmp_gt 49 93 92 rfl rfl rfl (by unfold xr at *; omega) (by unfold xr at *; omega) (fun _ => ?_) (fun h9 => absurd h9 (by omega))
          refine e_aload_n 51 94 rfl rfl rfl rfl ?_
          refine e_iload 52 96 rfl rfl rfl ?_
          refine g_callV 53 99 (hfg) okX4_forgetPlan cvX7_117 ⟨(Nat.le_of_ble_eq_true rfl), (Nat.le_of_ble_eq_true rfl)⟩ rfl rfl (Nat.le_of_ble_eq_true rfl) rfl rfl rfl rfl rfl (Nat.le_of_ble_eq_true rfl) (Nat.le_of_ble_eq_true rfl) (Nat.le_of_ble_eq_true rfl) ?_
          refine e_aload_n 54 100 rfl rfl rfl rfl ?_
          refine e_iconst 55 101 rfl rfl ?_
          refine g_putZ 56 104 9 ckX7 flX7_49 rfl rfl (by omega) (Nat.le_of_ble_eq_true rfl) rfl rfl rfl ?_
          exact m1
        · rw [ecpr]
          intro b hb
          rw [m2 b hb]
          refine kpp_same _ _ _ (fun b hb2 => xu_other _ _ _ (fun e => by rw [e] at hb2; revert hb2; decide)) b (Or.inl (xu_other _ _ _ (fun e => hb (by rw [e]; decide))))
        · rw [m6 9 (by decide) (by decide) (by decide), xu_same, hK, decide_eq_true hp]; rfl
        · rw [m6 j h1 h2 h3, xu_ne _ (Or.inr h4), e0q]
    have hpf := hpf0 σ FX.rf
    have hio := sp_indexOfPlan (σ := xu (xu σ 256 8 0) 256 9 0) (p := pfr σ) (by unfold xr; omega)
    rw [show iop (xu (xu σ 256 8 0) 256 9 0) (pfr σ) = σ 252 (pfr σ) by unfold iop; rw [if_pos (by omega), xu_ne _ (Or.inl (by decide)), xu_ne _ (Or.inl (by decide))]] at hio
    have e6 : xu (xu (xu σ 256 8 0) 256 9 0) 256 6 (σ 252 (pfr σ)) 256 6 = σ 252 (pfr σ) := xu_same _ _ _ _
    have hU2 : ∀ l, QU (xu σ 256 9 0) (xu (xu (xu (xu σ 256 8 0) 256 9 0) 256 6 (σ 252 (pfr σ))) 256 7 l) (σ 252 (pfr σ), l, 0) := by
      intro l
      refine ⟨fun b hb => ?_, ?_, ?_, ?_, fun j h1 h2 h3 => ?_⟩
      · have : b ≠ 256 := fun e => hb (by rw [e]; decide)
        rw [xu_other _ _ _ this, xu_other _ _ _ this, xu_other _ _ _ this, xu_other _ _ _ this, xu_other _ _ _ this]
      · rw [xu_ne _ (Or.inr (by decide)), xu_same]
      · rw [xu_same]
      · rw [xu_ne _ (Or.inr (by decide)), xu_ne _ (Or.inr (by decide)), xu_ne _ (Or.inr (by decide)), xu_same]
      · by_cases e : j = 9
        · rw [e, xu_ne _ (Or.inr (by decide)), xu_ne _ (Or.inr (by decide)), xu_same, xu_same]
        · rw [xu_ne _ (Or.inr h2), xu_ne _ (Or.inr h1), xu_ne _ (Or.inr e), xu_ne _ (Or.inr h3), xu_ne _ (Or.inr e)]
    by_cases hk : σ 252 (pfr σ) = -1
    · have epl : plk σ T = σ 25 4 := by unfold plk; rw [if_pos hk]
      have hU3 := hU2 (σ 25 4)
      rw [← epl] at hU3
      obtain ⟨σ', m1, m2⟩ := g75 _ hU3
      rw [epl] at m1
      have hs4 := sp_stSize (σ := xu (xu (xu σ 256 8 0) 256 9 0) 256 6 (σ 252 (pfr σ)))
      rw [show xu (xu (xu σ 256 8 0) 256 9 0) 256 6 (σ 252 (pfr σ)) 25 4 = σ 25 4 by rw [xu_ne _ (Or.inl (by decide)), xu_ne _ (Or.inl (by decide)), xu_ne _ (Or.inl (by decide))]] at hs4
      refine ⟨σ', ?_, m2⟩
      refine e_entry okX7_choosePlan (Nat.le_of_ble_eq_true rfl) (ls := [some _, some _, some _, none, none]) rfl ?_
      refine e_aload_n 0 1 rfl rfl rfl rfl ?_
      refine g_callV 1 4 (sp_shape hL4) okX7_shape cvX7_94 ⟨(Nat.le_of_ble_eq_true rfl), (Nat.le_of_ble_eq_true rfl)⟩ rfl rfl (Nat.le_of_ble_eq_true rfl) rfl rfl rfl rfl rfl (Nat.le_of_ble_eq_true rfl) (Nat.le_of_ble_eq_true rfl) (Nat.le_of_ble_eq_true rfl) ?_
      refine e_istore_n 2 5 (ls' := [some _, some _, some _, some _, none]) rfl rfl rfl (Nat.le_of_ble_eq_true rfl) rfl ?_
      refine e_aload_n 3 6 rfl rfl rfl rfl ?_
      refine e_iload_n 4 7 rfl rfl rfl rfl ?_
      refine g_callV 5 10 (hpf) okX4_planFor cvX7_95 ⟨(Nat.le_of_ble_eq_true rfl), (Nat.le_of_ble_eq_true rfl)⟩ rfl rfl (Nat.le_of_ble_eq_true rfl) rfl rfl rfl rfl rfl (Nat.le_of_ble_eq_true rfl) (Nat.le_of_ble_eq_true rfl) (Nat.le_of_ble_eq_true rfl) ?_
      refine e_istore 6 12 (ls' := [some _, some _, some _, some _, some _]) rfl rfl (Nat.le_of_ble_eq_true rfl) rfl ?_
      refine e_aload_n 7 13 rfl rfl rfl rfl ?_
      refine e_iconst 8 14 rfl rfl ?_
      refine g_putI 9 17 8 ckX7 flX7_46 rfl rfl (Nat.le_of_ble_eq_true rfl) rfl rfl rfl ?_
      refine e_aload_n 10 18 rfl rfl rfl rfl ?_
      refine e_iconst 11 19 rfl rfl ?_
      refine g_putZ 12 22 9 ckX7 flX7_49 rfl rfl (by omega) (Nat.le_of_ble_eq_true rfl) rfl rfl rfl ?_
      refine e_iload 13 24 rfl rfl rfl ?_
      refine e_iconst 14 25 rfl rfl ?_
      refine e_icmp_eq 15 104 28 rfl rfl rfl (by unfold xr at *; omega) (by unfold xr at *; omega) (fun h9 => absurd h9 (by omega)) (fun _ => ?_)
      refine e_aload_n 16 29 rfl rfl rfl rfl ?_
      refine e_aload_n 17 30 rfl rfl rfl rfl ?_
      refine e_iload 18 32 rfl rfl rfl ?_
      refine g_callV 19 35 (hio) okX4_indexOfPlan cvX7_101 ⟨(Nat.le_of_ble_eq_true rfl), (Nat.le_of_ble_eq_true rfl)⟩ rfl rfl (Nat.le_of_ble_eq_true rfl) rfl rfl rfl rfl rfl (Nat.le_of_ble_eq_true rfl) (Nat.le_of_ble_eq_true rfl) (Nat.le_of_ble_eq_true rfl) ?_
      refine g_putI 20 38 6 ckX7 flX7_40 rfl rfl (Nat.le_of_ble_eq_true rfl) rfl rfl rfl ?_
      refine e_aload_n 21 39 rfl rfl rfl rfl ?_
      refine e_aload_n 22 40 rfl rfl rfl rfl ?_
      refine g_getI 23 43 6 ckX7 flX7_40 rfl rfl (Nat.le_of_ble_eq_true rfl) rfl rfl rfl e6 ?_
      refine e_iconst 24 44 rfl rfl ?_
      refine e_icmp_ne 25 54 47 rfl rfl rfl (by unfold xr at *; omega) (by unfold xr at *; omega) (fun h9 => absurd h9 (by omega)) (fun _ => ?_)
      refine e_aload_n 26 48 rfl rfl rfl rfl ?_
      refine g_callV 27 51 (hs4) okX8_size cvX7_104 ⟨(Nat.le_of_ble_eq_true rfl), (Nat.le_of_ble_eq_true rfl)⟩ rfl rfl (Nat.le_of_ble_eq_true rfl) rfl rfl rfl rfl rfl (Nat.le_of_ble_eq_true rfl) (Nat.le_of_ble_eq_true rfl) (Nat.le_of_ble_eq_true rfl) ?_
      refine e_goto 28 72 rfl rfl ?_
      refine g_putI 39 75 7 ckX7 flX7_43 rfl rfl (Nat.le_of_ble_eq_true rfl) rfl rfl rfl ?_
      exact m1
    · obtain ⟨p1, p2⟩ := hpl hp hk
      have epl : plk σ T = lk σ T (σ 252 (pfr σ)) := by unfold plk; rw [if_neg hk]
      have hF2 : FX [248, 251, 252, 253, 254, 255, 256] σ (xu (xu (xu σ 256 8 0) 256 9 0) 256 6 (σ 252 (pfr σ))) := ((FX.rf.xu (by decide)).xu (by decide)).xu (by decide)
      have h24 : xu (xu (xu σ 256 8 0) 256 9 0) 256 6 (σ 252 (pfr σ)) 256 4 = σ 256 4 := by rw [xu_ne _ (Or.inr (by decide)), xu_ne _ (Or.inr (by decide)), xu_ne _ (Or.inr (by decide))]
      obtain ⟨b1, b2, b3, b4, b5, b6, b7, b8, b9⟩ := pl_base hA h01 hL hG hF2 h24
      have hX2 : IXR (xu (xu (xu σ 256 8 0) 256 9 0) 256 6 (σ 252 (pfr σ))) := hX.fr fun b q1 q2 => by rw [xu_other _ _ _ (by omega), xu_other _ _ _ (by omega), xu_other _ _ _ (by omega)]
      have hff := sp_filterFor b3 hX2 (k := σ 252 (pfr σ)) (by unfold xr; omega)
      rw [b5] at hff
      have hfb := ffi_bnd σ (σ 252 (pfr σ)) hL4
      have ent : ((ffi σ (σ 252 (pfr σ))).toNat : Int) = ffi σ (σ 252 (pfr σ)) := by omega
      obtain ⟨f1, f2, f3⟩ := hL.2 (ffi σ (σ 252 (pfr σ))).toNat (by omega)
      rw [ent] at f2 f3
      obtain ⟨σ2, k1, k2⟩ := sp_countLooked b1 b2 hX2 b4 (k := σ 252 (pfr σ)) (by rw [b8]; exact p1) (qf_isFi (ffi σ (σ 252 (pfr σ)))) f3 (by rw [b9]; exact f2)
      have elk : lkd (xu (xu (xu σ 256 8 0) 256 9 0) 256 6 (σ 252 (pfr σ))) T (xu (xu (xu σ 256 8 0) 256 9 0) 256 6 (σ 252 (pfr σ)) (qf (ffi σ (σ 252 (pfr σ)))) 2) (T (qf (ffi σ (σ 252 (pfr σ))) + 1)) (σ 252 (pfr σ)) = plk σ T := by
        rw [epl, ← b6]
        unfold lk
        rw [b5]
      rw [elk] at k1
      have hU3 : QU (xu σ 256 9 0) (xu σ2 256 7 (plk σ T)) (σ 252 (pfr σ), plk σ T, 0) := by
        obtain ⟨u1, u2, u3, u4, u5⟩ := hU2 (plk σ T)
        have e2 : σ2 256 = xu (xu (xu σ 256 8 0) 256 9 0) 256 6 (σ 252 (pfr σ)) 256 := k2 256 (by decide) (by decide)
        have e2x : ∀ j v, xu σ2 256 7 v 256 j = xu (xu (xu (xu σ 256 8 0) 256 9 0) 256 6 (σ 252 (pfr σ))) 256 7 v 256 j := fun j v => by unfold xu; rw [e2]; rfl
        refine ⟨fun b hb => ?_, ?_, ?_, ?_, fun j h1 h2 h3 => ?_⟩
        · have hb2 : b ≠ 256 ∧ b ≠ 254 ∧ b ≠ 255 := by
            simp only [List.mem_cons, List.not_mem_nil, or_false, not_or] at hb
            omega
          rw [xu_other _ _ _ hb2.1, k2 b hb2.2.1 hb2.2.2, ← u1 b hb]
          exact (xu_other _ _ _ hb2.1).symm
        · rw [e2x]; exact u2
        · rw [e2x]; exact u3
        · rw [e2x]; exact u4
        · rw [e2x]; exact u5 j h1 h2 h3
      obtain ⟨σ', m1, m2⟩ := g75 _ hU3
      refine ⟨σ', ?_, m2⟩
      refine e_entry okX7_choosePlan (Nat.le_of_ble_eq_true rfl) (ls := [some _, some _, some _, none, none]) rfl ?_
      refine e_aload_n 0 1 rfl rfl rfl rfl ?_
      refine g_callV 1 4 (sp_shape hL4) okX7_shape cvX7_94 ⟨(Nat.le_of_ble_eq_true rfl), (Nat.le_of_ble_eq_true rfl)⟩ rfl rfl (Nat.le_of_ble_eq_true rfl) rfl rfl rfl rfl rfl (Nat.le_of_ble_eq_true rfl) (Nat.le_of_ble_eq_true rfl) (Nat.le_of_ble_eq_true rfl) ?_
      refine e_istore_n 2 5 (ls' := [some _, some _, some _, some _, none]) rfl rfl rfl (Nat.le_of_ble_eq_true rfl) rfl ?_
      refine e_aload_n 3 6 rfl rfl rfl rfl ?_
      refine e_iload_n 4 7 rfl rfl rfl rfl ?_
      refine g_callV 5 10 (hpf) okX4_planFor cvX7_95 ⟨(Nat.le_of_ble_eq_true rfl), (Nat.le_of_ble_eq_true rfl)⟩ rfl rfl (Nat.le_of_ble_eq_true rfl) rfl rfl rfl rfl rfl (Nat.le_of_ble_eq_true rfl) (Nat.le_of_ble_eq_true rfl) (Nat.le_of_ble_eq_true rfl) ?_
      refine e_istore 6 12 (ls' := [some _, some _, some _, some _, some _]) rfl rfl (Nat.le_of_ble_eq_true rfl) rfl ?_
      refine e_aload_n 7 13 rfl rfl rfl rfl ?_
      refine e_iconst 8 14 rfl rfl ?_
      refine g_putI 9 17 8 ckX7 flX7_46 rfl rfl (Nat.le_of_ble_eq_true rfl) rfl rfl rfl ?_
      refine e_aload_n 10 18 rfl rfl rfl rfl ?_
      refine e_iconst 11 19 rfl rfl ?_
      refine g_putZ 12 22 9 ckX7 flX7_49 rfl rfl (by omega) (Nat.le_of_ble_eq_true rfl) rfl rfl rfl ?_
      refine e_iload 13 24 rfl rfl rfl ?_
      refine e_iconst 14 25 rfl rfl ?_
      refine e_icmp_eq 15 104 28 rfl rfl rfl (by unfold xr at *; omega) (by unfold xr at *; omega) (fun h9 => absurd h9 (by omega)) (fun _ => ?_)
      refine e_aload_n 16 29 rfl rfl rfl rfl ?_
      refine e_aload_n 17 30 rfl rfl rfl rfl ?_
      refine e_iload 18 32 rfl rfl rfl ?_
      refine g_callV 19 35 (hio) okX4_indexOfPlan cvX7_101 ⟨(Nat.le_of_ble_eq_true rfl), (Nat.le_of_ble_eq_true rfl)⟩ rfl rfl (Nat.le_of_ble_eq_true rfl) rfl rfl rfl rfl rfl (Nat.le_of_ble_eq_true rfl) (Nat.le_of_ble_eq_true rfl) (Nat.le_of_ble_eq_true rfl) ?_
      refine g_putI 20 38 6 ckX7 flX7_40 rfl rfl (Nat.le_of_ble_eq_true rfl) rfl rfl rfl ?_
      refine e_aload_n 21 39 rfl rfl rfl rfl ?_
      refine e_aload_n 22 40 rfl rfl rfl rfl ?_
      refine g_getI 23 43 6 ckX7 flX7_40 rfl rfl (Nat.le_of_ble_eq_true rfl) rfl rfl rfl e6 ?_
      refine e_iconst 24 44 rfl rfl ?_
      refine e_icmp_ne 25 54 47 rfl rfl rfl (by unfold xr at *; omega) (by unfold xr at *; omega) (fun _ => ?_) (fun h9 => absurd h9 (by omega))
      refine e_aload_n 29 55 rfl rfl rfl rfl ?_
      refine e_aload_n 30 56 rfl rfl rfl rfl ?_
      refine e_aload_n 31 57 rfl rfl rfl rfl ?_
      refine g_getI 32 60 6 ckX7 flX7_40 rfl rfl (Nat.le_of_ble_eq_true rfl) rfl rfl rfl e6 ?_
      refine e_aload_n 33 61 rfl rfl rfl rfl ?_
      refine e_aload_n 34 62 rfl rfl rfl rfl ?_
      refine g_getI 35 65 6 ckX7 flX7_40 rfl rfl (Nat.le_of_ble_eq_true rfl) rfl rfl rfl e6 ?_
      refine e_aload_n 36 66 rfl rfl rfl rfl ?_
      refine g_callV 37 69 (hff) okX7_filterFor cvX7_106 ⟨(Nat.le_of_ble_eq_true rfl), (Nat.le_of_ble_eq_true rfl)⟩ rfl rfl (Nat.le_of_ble_eq_true rfl) rfl rfl rfl rfl rfl (Nat.le_of_ble_eq_true rfl) (Nat.le_of_ble_eq_true rfl) (Nat.le_of_ble_eq_true rfl) ?_
      refine g_callV 38 72 (k1) okX4_countLooked cvX7_110 ⟨(Nat.le_of_ble_eq_true rfl), (Nat.le_of_ble_eq_true rfl)⟩ rfl rfl (Nat.le_of_ble_eq_true rfl) rfl rfl rfl rfl rfl (Nat.le_of_ble_eq_true rfl) (Nat.le_of_ble_eq_true rfl) (Nat.le_of_ble_eq_true rfl) ?_
      refine g_putI 39 75 7 ckX7 flX7_43 rfl rfl (Nat.le_of_ble_eq_true rfl) rfl rfl rfl ?_
      exact m1
