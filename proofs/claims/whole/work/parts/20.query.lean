/-! ===== Query ===== -/
def FX (L : List Nat) (σ σ' : xSig) : Prop := ∀ b : Nat, b ∉ L → σ' b = σ b
theorem FX.rf {L : List Nat} {σ : xSig} : FX L σ σ := fun _ _ => rfl
theorem FX.tr {L : List Nat} {σ σ1 σ2 : xSig} (h : FX L σ σ1) (h2 : FX L σ1 σ2) : FX L σ σ2 := fun b hb => (h2 b hb).trans (h b hb)
theorem FX.of {L : List Nat} {σ σ' : xSig} {p : Nat} (h : Fr p σ σ') (h1 : p ∈ L) (h2 : p + 1 ∈ L) : FX L σ σ' := fun b hb => h b (fun e => hb (by rw [e]; exact h1)) (fun e => hb (by rw [e]; exact h2))
theorem FX.xu {L : List Nat} {σ σ' : xSig} {a : Nat} {j v : Int} (h : FX L σ σ') (ha : a ∈ L) : FX L σ (xu σ' a j v) := fun b hb => (xu_other _ _ _ (fun e => hb (by rw [e]; exact ha))).trans (h b hb)
/-- the object of a filter's number; the one for none -/
def qf (i : Int) : Nat := if 0 ≤ i ∧ i < 3 then 264 + 3 * i.toNat else 258
theorem qf_in {i : Int} (h0 : 0 ≤ i) (h1 : i < 3) : qf i = 264 + 3 * i.toNat := by unfold qf; rw [if_pos ⟨h0, h1⟩]
theorem qf_out {i : Int} (h : i < 0 ∨ 3 ≤ i) : qf i = 258 := by unfold qf; rw [if_neg (by omega)]
theorem qf_isFi (i : Int) : isFi (qf i) := by
  by_cases h : 0 ≤ i ∧ i < 3
  · rw [qf_in h.1 h.2]
    exact isFi_s _ (by omega)
  · rw [qf_out (by omega)]
    exact isFi_n
theorem isFi_not {q b : Nat} (h : isFi q) (hb : SH b ≠ .inr (.inr (2, [some (some (b + 1)), none, none]))) : q ≠ b := fun e => hb (by rw [← e]; exact h.2.1)
theorem qf_ne (i : Int) : qf i = 258 ∨ (264 ≤ qf i ∧ qf i ≤ 270) := by unfold qf; split <;> omega
def FLT (σ : xSig) (T : Nat → List Int) : Prop := (0 ≤ σ 256 4 ∧ σ 256 4 ≤ 3) ∧ ∀ i : Nat, (i : Int) < σ 256 4 → (0 ≤ σ (qf i) 1 ∧ σ (qf i) 1 < 72) ∧ (0 ≤ σ (qf i) 2 ∧ σ (qf i) 2 ≤ 4) ∧ Cv (T (qf i + 1))
theorem sp_qSize {σ : xSig} : Rd MX7_size [.ref 256] σ (iv (σ 256 4)) := by
  refine e_entry okX7_size (Nat.le_of_ble_eq_true rfl) (ls := [some _]) rfl ?_
  refine e_aload_n 0 1 rfl rfl rfl rfl ?_
  refine g_getI 1 4 4 ckX7 flX7_33 rfl rfl (Nat.le_of_ble_eq_true rfl) rfl rfl rfl rfl ?_
  exact e_ireturn 2 rfl rfl (Nat.le_of_ble_eq_true rfl) (Nat.le_of_ble_eq_true rfl)
theorem sp_qFull {σ : xSig} (h : 0 ≤ σ 256 4 ∧ σ 256 4 ≤ 3) : Rd MX7_isFull [.ref 256] σ (zv (decide (3 ≤ σ 256 4))) := by
  refine e_entry okX7_isFull (Nat.le_of_ble_eq_true rfl) (ls := [some _]) rfl ?_
  refine e_aload_n 0 1 rfl rfl rfl rfl ?_
  refine g_getI 1 4 4 ckX7 flX7_33 rfl rfl (Nat.le_of_ble_eq_true rfl) rfl rfl rfl rfl ?_
  refine e_aload_n 2 5 rfl rfl rfl rfl ?_
  refine g_getR 3 8 ckX7 flX7_11 rfl rfl (Nat.le_of_ble_eq_true rfl) rfl rfl ?_
  refine g_alenR 4 9 rfl rfl (Nat.le_of_ble_eq_true rfl) SH_257 (Or.inr rfl) ?_
  simp only [List.length_map, List.length_range]
  refine e_icmp_lt 5 16 12 rfl rfl rfl (by unfold xr at *; omega) (by unfold xr at *; omega) (fun h2 => ?_) (fun h2 => ?_)
  · skip
    rw [decide_eq_false (by omega)]
    refine e_iconst 8 17 rfl rfl ?_
    exact e_zreturn (x := 0) 9 rfl rfl (by omega) (Nat.le_of_ble_eq_true rfl) (Nat.le_of_ble_eq_true rfl)
  · skip
    rw [decide_eq_true (by omega)]
    refine e_iconst 6 13 rfl rfl ?_
    refine e_goto 7 17 rfl rfl ?_
    exact e_zreturn (x := 1) 9 rfl rfl (by omega) (Nat.le_of_ble_eq_true rfl) (Nat.le_of_ble_eq_true rfl)
theorem sp_filterAt {σ : xSig} {i : Int} (hi : xr i) : Rd MX7_filterAt [.ref 256, .int (ii i)] σ (rv (qf i)) := by
  unfold xr at hi
  have fin : ∀ q : Nat, q = qf i → x_E MX7_filterAt 0 0 26 [some (.ref 256), some (.int (ii i)), none] [.ref q] (St σ) 0 0 (rv (qf i)) (St σ) := by
    intro q hq
    rw [← hq]
    refine e_astore_n 14 27 (ls' := [some _, some _, some _]) rfl rfl rfl (Nat.le_of_ble_eq_true rfl) rfl ?_
    refine e_aload_n 15 28 rfl rfl rfl rfl ?_
    refine e_ifnonnull 16 38 rfl rfl ?_
    refine e_aload_n 20 39 rfl rfl rfl rfl ?_
    exact e_areturn 21 rfl rfl (Nat.le_of_ble_eq_true rfl) (Nat.le_of_ble_eq_true rfl)
  refine e_entry okX7_filterAt (Nat.le_of_ble_eq_true rfl) (ls := [some _, some _, none]) rfl ?_
  refine e_iload_n 0 1 rfl rfl rfl rfl ?_
  refine e_if_lt 1 22 4 rfl rfl rfl (by unfold xr at *; omega) (fun h => ?_) (fun h => ?_)
  · skip
    refine e_aload_n 12 23 rfl rfl rfl rfl ?_
    refine g_getR 13 26 ckX7 flX7_18 rfl rfl (Nat.le_of_ble_eq_true rfl) rfl rfl ?_
    exact fin 258 (qf_out (by omega)).symm
  · skip
    refine e_iload_n 2 5 rfl rfl rfl rfl ?_
    refine e_aload_n 3 6 rfl rfl rfl rfl ?_
    refine g_getR 4 9 ckX7 flX7_11 rfl rfl (Nat.le_of_ble_eq_true rfl) rfl rfl ?_
    refine g_alenR 5 10 rfl rfl (Nat.le_of_ble_eq_true rfl) SH_257 (Or.inr rfl) ?_
    simp only [List.length_map, List.length_range]
    refine e_icmp_ge 6 22 13 rfl rfl rfl (by unfold xr at *; omega) (by unfold xr at *; omega) (fun h2 => ?_) (fun h2 => ?_)
    · skip
      refine e_aload_n 12 23 rfl rfl rfl rfl ?_
      refine g_getR 13 26 ckX7 flX7_18 rfl rfl (Nat.le_of_ble_eq_true rfl) rfl rfl ?_
      exact fin 258 (qf_out (by omega)).symm
    · skip
      refine e_aload_n 7 14 rfl rfl rfl rfl ?_
      refine g_getR 8 17 ckX7 flX7_11 rfl rfl (Nat.le_of_ble_eq_true rfl) rfl rfl ?_
      refine e_iload_n 9 18 rfl rfl rfl rfl ?_
      refine g_aaload 10 19 rfl rfl (Nat.le_of_ble_eq_true rfl) SH_257 (Or.inr rfl) (by omega) (rng_at (by omega)) (by simp) ?_
      refine e_goto 11 26 rfl rfl ?_
      exact fin (264 + 3 * i.toNat) (qf_in h (by omega)).symm
theorem sp_addFilter {σ : xSig} {T : Nat → List Int} (hA : VAll σ T) (h : 0 ≤ σ 256 4 ∧ σ 256 4 < 3) {b : Nat} (hb : vO b = true) (hne : b ≠ qf (σ 256 4) + 1) (hl : (T b).length ≤ 72) {x y : Int} :
    ∃ σ' : xSig, x_Sp MX7_addFilter 0 0 [.ref 256, .int (ii x), .int (ii y), .ref b] (St σ) vv (St (xu σ' 256 4 (σ 256 4 + 1))) ∧ VAll σ' (uT T (qf (σ 256 4) + 1) (T b)) ∧ NV [] (xu (xu σ (qf (σ 256 4)) 1 x) (qf (σ 256 4)) 2 y) σ' := by
  have hq := qf_isFi (σ 256 4)
  obtain ⟨σ', h1, h2, h3⟩ := sp_fBecome hA hq hb hne hl (x := x) (y := y)
  refine ⟨σ', ?_, h2, h3⟩
  have hqn := qf_ne (σ 256 4)
  have e4 : σ' 256 4 = σ 256 4 := by
    rw [h3 256 (by decide +kernel) (by simp), xu_ne _ (Or.inl (by omega)), xu_ne _ (Or.inl (by omega))]
  refine e_entry okX7_addFilter (Nat.le_of_ble_eq_true rfl) (ls := [some _, some _, some _, some _]) rfl ?_
  refine e_aload_n 0 1 rfl rfl rfl rfl ?_
  refine g_callV 1 4 (sp_qFull (by omega)) okX7_isFull cvX7_53 ⟨(Nat.le_of_ble_eq_true rfl), (Nat.le_of_ble_eq_true rfl)⟩ rfl rfl (Nat.le_of_ble_eq_true rfl) rfl rfl rfl rfl rfl (Nat.le_of_ble_eq_true rfl) (Nat.le_of_ble_eq_true rfl) (Nat.le_of_ble_eq_true rfl) ?_
  rw [decide_eq_false (by omega : ¬ 3 ≤ σ 256 4)]
  refine e_ifb_ne 2 31 7 rfl rfl rfl (fun h9 => ?_) (fun h9 => ?_)
  · skip
    cases h9
  · skip
    refine e_aload_n 3 8 rfl rfl rfl rfl ?_
    refine e_aload_n 4 9 rfl rfl rfl rfl ?_
    refine g_getI 5 12 4 ckX7 flX7_33 rfl rfl (Nat.le_of_ble_eq_true rfl) rfl rfl rfl rfl ?_
    refine g_callV 6 15 (sp_filterAt (by unfold xr; omega)) okX7_filterAt cvX7_57 ⟨(Nat.le_of_ble_eq_true rfl), (Nat.le_of_ble_eq_true rfl)⟩ rfl rfl (Nat.le_of_ble_eq_true rfl) rfl rfl rfl rfl rfl (Nat.le_of_ble_eq_true rfl) (Nat.le_of_ble_eq_true rfl) (Nat.le_of_ble_eq_true rfl) ?_
    refine e_iload_n 7 16 rfl rfl rfl rfl ?_
    refine e_iload_n 8 17 rfl rfl rfl rfl ?_
    refine e_aload_n 9 18 rfl rfl rfl rfl ?_
    refine g_callV 10 21 (h1) okX2_become cvX7_61 ⟨(Nat.le_of_ble_eq_true rfl), (Nat.le_of_ble_eq_true rfl)⟩ rfl rfl hq.1  hq.2.1 rfl rfl rfl rfl (Nat.le_of_ble_eq_true rfl) (Nat.le_of_ble_eq_true rfl) (Nat.le_of_ble_eq_true rfl) ?_
    refine e_aload_n 11 22 rfl rfl rfl rfl ?_
    refine e_dup 12 23 rfl rfl rfl ?_
    refine g_getI 13 26 4 ckX7 flX7_33 rfl rfl (Nat.le_of_ble_eq_true rfl) rfl rfl rfl e4 ?_
    refine e_iconst 14 27 rfl rfl ?_
    refine e_iadd 15 28 rfl rfl ?_
    refine g_putI 16 31 4 ckX7 flX7_33 rfl rfl (Nat.le_of_ble_eq_true rfl) rfl rfl rfl ?_
    exact e_return 17 rfl rfl (Nat.le_of_ble_eq_true rfl) (Nat.le_of_ble_eq_true rfl)
theorem sp_takeAllFilters {σ : xSig} : x_Sp MX7_takeAllFilters 0 0 [.ref 256] (St σ) (iv (σ 256 4)) (St (xu σ 256 4 0)) := by
  refine e_entry okX7_takeAllFilters (Nat.le_of_ble_eq_true rfl) (ls := [some _, none]) rfl ?_
  refine e_aload_n 0 1 rfl rfl rfl rfl ?_
  refine g_getI 1 4 4 ckX7 flX7_33 rfl rfl (Nat.le_of_ble_eq_true rfl) rfl rfl rfl rfl ?_
  refine e_istore_n 2 5 (ls' := [some _, some _]) rfl rfl rfl (Nat.le_of_ble_eq_true rfl) rfl ?_
  refine e_aload_n 3 6 rfl rfl rfl rfl ?_
  refine e_iconst 4 7 rfl rfl ?_
  refine g_putI 5 10 4 ckX7 flX7_33 rfl rfl (Nat.le_of_ble_eq_true rfl) rfl rfl rfl ?_
  refine e_iload_n 6 11 rfl rfl rfl rfl ?_
  exact e_ireturn 7 rfl rfl (Nat.le_of_ble_eq_true rfl) (Nat.le_of_ble_eq_true rfl)
theorem sp_foundSize {σ : xSig} : Rd MX7_foundSize [.ref 256] σ (iv (σ 256 5)) := by
  refine e_entry okX7_foundSize (Nat.le_of_ble_eq_true rfl) (ls := [some _]) rfl ?_
  refine e_aload_n 0 1 rfl rfl rfl rfl ?_
  refine g_getI 1 4 5 ckX7 flX7_37 rfl rfl (Nat.le_of_ble_eq_true rfl) rfl rfl rfl rfl ?_
  exact e_ireturn 2 rfl rfl (Nat.le_of_ble_eq_true rfl) (Nat.le_of_ble_eq_true rfl)
theorem sp_foundAt {σ : xSig} (h5 : 0 ≤ σ 256 5 ∧ σ 256 5 ≤ 60) {i : Int} (hi : 0 ≤ i ∧ i < σ 256 5) : Rd MX7_foundAt [.ref 256, .int (ii i)] σ (iv (σ 263 i)) := by
  refine e_entry okX7_foundAt (Nat.le_of_ble_eq_true rfl) (ls := [some _, some _]) rfl ?_
  refine e_iload_n 0 1 rfl rfl rfl rfl ?_
  refine e_if_lt 1 30 4 rfl rfl rfl (by unfold xr at *; omega) (fun h9 => absurd h9 (by omega)) (fun _ => ?_)
  refine e_iload_n 2 5 rfl rfl rfl rfl ?_
  refine e_aload_n 3 6 rfl rfl rfl rfl ?_
  refine g_getI 4 9 5 ckX7 flX7_37 rfl rfl (Nat.le_of_ble_eq_true rfl) rfl rfl rfl rfl ?_
  refine e_icmp_ge 5 30 12 rfl rfl rfl (by unfold xr at *; omega) (by unfold xr at *; omega) (fun h9 => absurd h9 (by omega)) (fun _ => ?_)
  refine e_iload_n 6 13 rfl rfl rfl rfl ?_
  refine e_aload_n 7 14 rfl rfl rfl rfl ?_
  refine g_getR 8 17 ckX7 flX7_29 rfl rfl (Nat.le_of_ble_eq_true rfl) rfl rfl ?_
  refine g_alen 9 18 rfl rfl (Nat.le_of_ble_eq_true rfl) rfl (Nat.le_of_ble_eq_true rfl) ?_
  refine e_icmp_ge 10 30 21 rfl rfl rfl (by unfold xr at *; omega) (by unfold xr at *; omega) (fun h9 => absurd h9 (by omega)) (fun _ => ?_)
  refine e_aload_n 11 22 rfl rfl rfl rfl ?_
  refine g_getR 12 25 ckX7 flX7_29 rfl rfl (Nat.le_of_ble_eq_true rfl) rfl rfl ?_
  refine e_iload_n 13 26 rfl rfl rfl rfl ?_
  refine g_iaload 14 27 rfl rfl (Nat.le_of_ble_eq_true rfl) rfl (by omega) (by omega) (by omega) rfl ?_
  refine e_goto 15 31 rfl rfl ?_
  exact e_ireturn 17 rfl rfl (Nat.le_of_ble_eq_true rfl) (Nat.le_of_ble_eq_true rfl)
theorem sp_latest {σ : xSig} (h9 : σ 256 9 = 0 ∨ σ 256 9 = 1) {w : Int} (hw : xr w) : Rd MX7_latest [.ref 256, .int (ii w)] σ (iv (if w = 0 then σ 256 6 else if w = 1 then σ 256 7 else if w = 2 then σ 256 8 else σ 256 9)) := by
  refine e_entry okX7_latest (Nat.le_of_ble_eq_true rfl) (ls := [some _, some _]) rfl ?_
  refine e_iload_n 0 1 rfl rfl rfl rfl ?_
  refine e_if_ne 1 9 4 rfl rfl rfl (by unfold xr at *; omega) (fun h => ?_) (fun h => ?_)
  · skip
    rw [if_neg h]
    refine e_iload_n 5 10 rfl rfl rfl rfl ?_
    refine e_iconst 6 11 rfl rfl ?_
    refine e_icmp_ne 7 19 14 rfl rfl rfl (by unfold xr at *; omega) (by unfold xr at *; omega) (fun h2 => ?_) (fun h2 => ?_)
    · skip
      rw [if_neg h2]
      refine e_iload_n 11 20 rfl rfl rfl rfl ?_
      refine e_iconst 12 21 rfl rfl ?_
      refine e_icmp_ne 13 31 24 rfl rfl rfl (by unfold xr at *; omega) (by unfold xr at *; omega) (fun h3 => ?_) (fun h3 => ?_)
      · skip
        rw [if_neg h3]
        refine e_aload_n 17 32 rfl rfl rfl rfl ?_
        refine g_getI 18 35 9 ckX7 flX7_49 rfl rfl (Nat.le_of_ble_eq_true rfl) rfl rfl rfl rfl ?_
        refine e_if_eq 19 42 38 rfl rfl rfl (by unfold xr at *; omega) (fun h4 => ?_) (fun h4 => ?_)
        · skip
          rw [h4]
          refine e_iconst 22 43 rfl rfl ?_
          exact e_ireturn 23 rfl rfl (Nat.le_of_ble_eq_true rfl) (Nat.le_of_ble_eq_true rfl)
        · skip
          rw [show σ 256 9 = 1 by omega]
          refine e_iconst 20 39 rfl rfl ?_
          refine e_goto 21 43 rfl rfl ?_
          exact e_ireturn 23 rfl rfl (Nat.le_of_ble_eq_true rfl) (Nat.le_of_ble_eq_true rfl)
      · skip
        rw [if_pos h3]
        refine e_aload_n 14 25 rfl rfl rfl rfl ?_
        refine g_getI 15 28 8 ckX7 flX7_46 rfl rfl (Nat.le_of_ble_eq_true rfl) rfl rfl rfl rfl ?_
        refine e_goto 16 43 rfl rfl ?_
        exact e_ireturn 23 rfl rfl (Nat.le_of_ble_eq_true rfl) (Nat.le_of_ble_eq_true rfl)
    · skip
      rw [if_pos h2]
      refine e_aload_n 8 15 rfl rfl rfl rfl ?_
      refine g_getI 9 18 7 ckX7 flX7_43 rfl rfl (Nat.le_of_ble_eq_true rfl) rfl rfl rfl rfl ?_
      exact e_ireturn 10 rfl rfl (Nat.le_of_ble_eq_true rfl) (Nat.le_of_ble_eq_true rfl)
  · skip
    rw [if_pos h]
    refine e_aload_n 2 5 rfl rfl rfl rfl ?_
    refine g_getI 3 8 6 ckX7 flX7_40 rfl rfl (Nat.le_of_ble_eq_true rfl) rfl rfl rfl rfl ?_
    exact e_ireturn 4 rfl rfl (Nat.le_of_ble_eq_true rfl) (Nat.le_of_ble_eq_true rfl)
/-- whether a document fits all filters -/
def fal (σ : xSig) (T : Nat → List Int) (t : List Int) : Bool := alN (fun i => (atp t (σ (qf i) 1)).any (ffit (σ (qf i) 2) (T (qf i + 1)) t)) 0 (σ 256 4).toNat
theorem sp_fitsAll {σ : xSig} {T : Nat → List Int} (hA : VAll σ T) (hL : FLT σ T) {a : Nat} (ha : vO a = true) (hG : GD (T a)) :
    ∃ σ' : xSig, x_Sp MX7_fitsAll 0 0 [.ref 256, .ref a] (St σ) (zv (fal σ T (T a))) (St σ') ∧ Fr 261 σ σ' := by
  have h4 := hL.1
  have loop : ∀ (n i : Nat) (σ1 : xSig), (i : Int) + n = σ 256 4 → Fr 261 σ σ1 → ∃ σ' : xSig, x_E MX7_fitsAll 0 0 2 [some (.ref 256), some (.ref a), some (.int (ii i)), none] [] (St σ1) 0 0 (zv (alN (fun i => (atp (T a) (σ (qf i) 1)).any (ffit (σ (qf i) 2) (T (qf i + 1)) (T a))) i n)) (St σ') ∧ Fr 261 σ σ' := by
    intro n
    induction n with
    | zero =>
      intro i σ1 hi hF
      have e4 : σ1 256 4 = σ 256 4 := by rw [hF 256 (by decide) (by decide)]
      refine ⟨σ1, ?_, hF⟩
      refine e_iload_n 2 3 rfl rfl rfl rfl ?_
      refine e_aload_n 3 4 rfl rfl rfl rfl ?_
      refine g_getI 4 7 4 ckX7 flX7_33 rfl rfl (Nat.le_of_ble_eq_true rfl) rfl rfl rfl e4 ?_
      refine e_icmp_ge 5 48 10 rfl rfl rfl (by unfold xr at *; omega) (by unfold xr at *; omega) (fun _ => ?_) (fun h9 => absurd h9 (by omega))
      refine e_iconst 26 49 rfl rfl ?_
      exact e_zreturn (x := 1) 27 rfl rfl (by omega) (Nat.le_of_ble_eq_true rfl) (Nat.le_of_ble_eq_true rfl)
    | succ n ih =>
      intro i σ1 hi hF
      have e4 : σ1 256 4 = σ 256 4 := by rw [hF 256 (by decide) (by decide)]
      obtain ⟨f1, f2, f3⟩ := hL.2 i (by omega)
      have hq := qf_isFi i
      have hqn := qf_ne i
      have eq1 : σ1 (qf i) = σ (qf i) := hF (qf i) (by omega) (by omega)
      have hA1 := hA.pl isPl_s.2.1 hF
      have hV1 := hA1 a ha
      obtain ⟨g3, g4⟩ := hG.2 _ f1.1 f1.2
      obtain ⟨σ2, k1, k2, k3⟩ := sp_gather hV1 ha hG.1 isPl_s.2.1 f1 g3
      have hV2 := hV1.pl ha isPl_s.2.1 k3
      have hW2 := (hA1 _ hq.2.2.1).pl hq.2.2.1 isPl_s.2.1 k3
      rw [hq.2.2.2.1] at hW2
      have eq2 : σ2 (qf i) = σ (qf i) := (k3 (qf i) (by omega) (by omega)).trans eq1
      have hfs := sp_fitsSome hq hW2 f3 (by rw [eq2]; exact f2) hV2 k2 g4
      rw [eq2] at hfs
      have efp : σ1 (qf i) 1 = σ (qf i) 1 := by rw [eq1]
      simp only [alN]
      cases hb : (atp (T a) (σ (qf i) 1)).any (ffit (σ (qf i) 2) (T (qf i + 1)) (T a)) with
      | false =>
        rw [hb] at hfs
        refine ⟨σ2, ?_, hF.tr k3⟩
        rw [Bool.false_and]
        refine e_iload_n 2 3 rfl rfl rfl rfl ?_
        refine e_aload_n 3 4 rfl rfl rfl rfl ?_
        refine g_getI 4 7 4 ckX7 flX7_33 rfl rfl (Nat.le_of_ble_eq_true rfl) rfl rfl rfl e4 ?_
        refine e_icmp_ge 5 48 10 rfl rfl rfl (by unfold xr at *; omega) (by unfold xr at *; omega) (fun h9 => absurd h9 (by omega)) (fun _ => ?_)
        refine e_aload_n 6 11 rfl rfl rfl rfl ?_
        refine e_iload_n 7 12 rfl rfl rfl rfl ?_
        refine g_callV 8 15 (sp_filterAt (by unfold xr; omega)) okX7_filterAt cvX7_57 ⟨(Nat.le_of_ble_eq_true rfl), (Nat.le_of_ble_eq_true rfl)⟩ rfl rfl (Nat.le_of_ble_eq_true rfl) rfl rfl rfl rfl rfl (Nat.le_of_ble_eq_true rfl) (Nat.le_of_ble_eq_true rfl) (Nat.le_of_ble_eq_true rfl) ?_
        refine e_astore_n 9 16 (ls' := [some _, some _, some _, some _]) rfl rfl rfl (Nat.le_of_ble_eq_true rfl) rfl ?_
        refine e_aload_n 10 17 rfl rfl rfl rfl ?_
        refine g_getR 11 20 ckX7 flX7_25 rfl rfl (Nat.le_of_ble_eq_true rfl) rfl rfl ?_
        refine e_aload_n 12 21 rfl rfl rfl rfl ?_
        refine e_aload_n 13 22 rfl rfl rfl rfl ?_
        refine g_getIN 14 25 1 ckX2 fnX7_79 rfl rfl hq.1 hq.2.1 rfl rfl efp ?_
        refine g_callV 15 28 (k1) okX6_gather cvX7_82 ⟨(Nat.le_of_ble_eq_true rfl), (Nat.le_of_ble_eq_true rfl)⟩ rfl rfl isPl_s.2.1.1 isPl_s.2.1.2.2.1 rfl rfl rfl rfl (Nat.le_of_ble_eq_true rfl) (Nat.le_of_ble_eq_true rfl) (Nat.le_of_ble_eq_true rfl) ?_
        refine e_aload_n 16 29 rfl rfl rfl rfl ?_
        refine e_aload_n 17 30 rfl rfl rfl rfl ?_
        refine e_aload_n 18 31 rfl rfl rfl rfl ?_
        refine g_getR 19 34 ckX7 flX7_25 rfl rfl (Nat.le_of_ble_eq_true rfl) rfl rfl ?_
        refine g_callV 20 37 (hfs) okX2_fitsSome cvX7_86 ⟨(Nat.le_of_ble_eq_true rfl), (Nat.le_of_ble_eq_true rfl)⟩ rfl rfl hq.1 hq.2.1 rfl rfl rfl rfl (Nat.le_of_ble_eq_true rfl) (Nat.le_of_ble_eq_true rfl) (Nat.le_of_ble_eq_true rfl) ?_
        refine e_ifb_ne 21 42 40 rfl rfl rfl (fun h => ?_) (fun h => ?_)
        · skip
          cases h
        · skip
          refine e_iconst 22 41 rfl rfl ?_
          exact e_zreturn (x := 0) 23 rfl rfl (by omega) (Nat.le_of_ble_eq_true rfl) (Nat.le_of_ble_eq_true rfl)
      | true =>
        rw [hb] at hfs
        obtain ⟨σ', m1, m2⟩ := ih (i + 1) σ2 (by omega) (hF.tr k3)
        rw [show (((i + 1 : Nat)) : Int) = (i : Int) + 1 by omega] at m1
        refine ⟨σ', ?_, m2⟩
        rw [Bool.true_and]
        refine e_iload_n 2 3 rfl rfl rfl rfl ?_
        refine e_aload_n 3 4 rfl rfl rfl rfl ?_
        refine g_getI 4 7 4 ckX7 flX7_33 rfl rfl (Nat.le_of_ble_eq_true rfl) rfl rfl rfl e4 ?_
        refine e_icmp_ge 5 48 10 rfl rfl rfl (by unfold xr at *; omega) (by unfold xr at *; omega) (fun h9 => absurd h9 (by omega)) (fun _ => ?_)
        refine e_aload_n 6 11 rfl rfl rfl rfl ?_
        refine e_iload_n 7 12 rfl rfl rfl rfl ?_
        refine g_callV 8 15 (sp_filterAt (by unfold xr; omega)) okX7_filterAt cvX7_57 ⟨(Nat.le_of_ble_eq_true rfl), (Nat.le_of_ble_eq_true rfl)⟩ rfl rfl (Nat.le_of_ble_eq_true rfl) rfl rfl rfl rfl rfl (Nat.le_of_ble_eq_true rfl) (Nat.le_of_ble_eq_true rfl) (Nat.le_of_ble_eq_true rfl) ?_
        refine e_astore_n 9 16 (ls' := [some _, some _, some _, some _]) rfl rfl rfl (Nat.le_of_ble_eq_true rfl) rfl ?_
        refine e_aload_n 10 17 rfl rfl rfl rfl ?_
        refine g_getR 11 20 ckX7 flX7_25 rfl rfl (Nat.le_of_ble_eq_true rfl) rfl rfl ?_
        refine e_aload_n 12 21 rfl rfl rfl rfl ?_
        refine e_aload_n 13 22 rfl rfl rfl rfl ?_
        refine g_getIN 14 25 1 ckX2 fnX7_79 rfl rfl hq.1 hq.2.1 rfl rfl efp ?_
        refine g_callV 15 28 (k1) okX6_gather cvX7_82 ⟨(Nat.le_of_ble_eq_true rfl), (Nat.le_of_ble_eq_true rfl)⟩ rfl rfl isPl_s.2.1.1 isPl_s.2.1.2.2.1 rfl rfl rfl rfl (Nat.le_of_ble_eq_true rfl) (Nat.le_of_ble_eq_true rfl) (Nat.le_of_ble_eq_true rfl) ?_
        refine e_aload_n 16 29 rfl rfl rfl rfl ?_
        refine e_aload_n 17 30 rfl rfl rfl rfl ?_
        refine e_aload_n 18 31 rfl rfl rfl rfl ?_
        refine g_getR 19 34 ckX7 flX7_25 rfl rfl (Nat.le_of_ble_eq_true rfl) rfl rfl ?_
        refine g_callV 20 37 (hfs) okX2_fitsSome cvX7_86 ⟨(Nat.le_of_ble_eq_true rfl), (Nat.le_of_ble_eq_true rfl)⟩ rfl rfl hq.1 hq.2.1 rfl rfl rfl rfl (Nat.le_of_ble_eq_true rfl) (Nat.le_of_ble_eq_true rfl) (Nat.le_of_ble_eq_true rfl) ?_
        refine e_ifb_ne 21 42 40 rfl rfl rfl (fun h => ?_) (fun h => ?_)
        · skip
          refine e_iinc 24 45 (ls' := [some _, some _, some _, some _]) rfl rfl (Nat.le_of_ble_eq_true rfl) rfl rfl ?_
          refine e_goto 25 2 rfl rfl ?_
          refine e_dropm [true, true, true, false] (ls' := [some _, some _, some _, none]) rfl ?_
          exact m1
        · skip
          cases h
  obtain ⟨σ', m1, m2⟩ := loop (σ 256 4).toNat 0 σ (by omega) Fr.rf
  refine ⟨σ', ?_, m2⟩
  refine e_entry okX7_fitsAll (Nat.le_of_ble_eq_true rfl) (ls := [some _, some _, none, none]) rfl ?_
  refine e_iconst 0 1 rfl rfl ?_
  refine e_istore_n 1 2 (ls' := [some _, some _, some _, none]) rfl rfl rfl (Nat.le_of_ble_eq_true rfl) rfl ?_
  exact m1
/-- what hangs on rows that a query does not touch -/
theorem fal_congr {σ σ' : xSig} (h4 : σ' 256 4 = σ 256 4) (hq : ∀ i : Nat, σ' (qf i) = σ (qf i)) (T : Nat → List Int) (t : List Int) : fal σ' T t = fal σ T t := by
  unfold fal
  rw [h4]
  congr 1
  funext i
  rw [hq i]
theorem FLT.fr {σ σ' : xSig} {T : Nat → List Int} (h : FLT σ T) (h4 : σ' 256 4 = σ 256 4) (hq : ∀ i : Nat, σ' (qf i) = σ (qf i)) : FLT σ' T := by
  refine ⟨by rw [h4]; exact h.1, fun i hi => ?_⟩
  rw [hq i]
  exact h.2 i (by rw [← h4]; exact hi)
def cft (σ : xSig) (T : Nat → List Int) : Int := smN (fun n => if hasd σ n = true ∧ fal σ T (T (31 + 2 * n)) = true then 1 else 0) 0 100
theorem sp_countFitting {σ : xSig} {T : Nat → List Int} (hA : VAll σ T) (h01 : n01 σ 27) (hL : FLT σ T) (hG : GDA σ T) :
    ∃ σ' : xSig, x_Sp MX7_countFitting 0 0 [.ref 256, .ref 25] (St σ) (iv (cft σ T)) (St σ') ∧ Fr 261 σ σ' := by
  have loop : ∀ (n i : Nat) (w : Int) (σ1 : xSig), i + n = 100 → Fr 261 σ σ1 → 0 ≤ w → w ≤ i → ∃ σ' : xSig, x_E MX7_countFitting 0 0 4 [some (.ref 256), some (.ref 25), some (.int (ii w)), some (.int (ii i))] [] (St σ1) 0 0 (iv (w + smN (fun n => if hasd σ n = true ∧ fal σ T (T (31 + 2 * n)) = true then 1 else 0) i n)) (St σ') ∧ Fr 261 σ σ' := by
    intro n
    induction n with
    | zero =>
      intro i w σ1 hi hF h0 h1
      refine ⟨σ1, ?_, hF⟩
      simp only [smN, Int.add_zero]
      refine e_iload_n 4 5 rfl rfl rfl rfl ?_
      refine e_bipush 5 7 rfl rfl rfl ?_
      refine e_icmp_ge 6 39 10 rfl rfl rfl (by unfold xr at *; omega) (by unfold xr at *; omega) (fun _ => ?_) (fun h9 => absurd h9 (by omega))
      refine e_iload_n 20 40 rfl rfl rfl rfl ?_
      exact e_ireturn 21 rfl rfl (Nat.le_of_ble_eq_true rfl) (Nat.le_of_ble_eq_true rfl)
    | succ n ih =>
      intro i w σ1 hi hF h0 h1
      have h27 := hF 27 (by decide) (by decide)
      have h01' : n01 σ1 27 := by unfold n01; rw [h27]; exact h01
      have hh : hasd σ1 i = hasd σ i := hasd_congr h27 i
      have hhas := sp_has h01' (n := i) (by unfold xr; omega)
      rw [hh] at hhas
      have eq4 : σ1 256 4 = σ 256 4 := by rw [hF 256 (by decide) (by decide)]
      have eqq : ∀ i : Nat, σ1 (qf i) = σ (qf i) := fun i => by have := qf_ne i; exact hF _ (by omega) (by omega)
      simp only [smN]
      cases h : hasd σ i with
      | false =>
        obtain ⟨σ', m1, m2⟩ := ih (i + 1) w σ1 (by omega) hF h0 (by omega)
        rw [show (((i + 1 : Nat)) : Int) = (i : Int) + 1 by omega] at m1
        refine ⟨σ', ?_, m2⟩
        rw [if_neg (fun z => by cases z.1), Int.zero_add]
        refine e_iload_n 4 5 rfl rfl rfl rfl ?_
        refine e_bipush 5 7 rfl rfl rfl ?_
        refine e_icmp_ge 6 39 10 rfl rfl rfl (by unfold xr at *; omega) (by unfold xr at *; omega) (fun h9 => absurd h9 (by omega)) (fun _ => ?_)
        refine e_aload_n 7 11 rfl rfl rfl rfl ?_
        refine e_iload_n 8 12 rfl rfl rfl rfl ?_
        refine g_callV 9 15 (hhas) okX8_has cvX7_65 ⟨(Nat.le_of_ble_eq_true rfl), (Nat.le_of_ble_eq_true rfl)⟩ rfl rfl (Nat.le_of_ble_eq_true rfl) rfl rfl rfl rfl rfl (Nat.le_of_ble_eq_true rfl) (Nat.le_of_ble_eq_true rfl) (Nat.le_of_ble_eq_true rfl) ?_
        refine e_ifb_eq 10 33 18 rfl rfl rfl (fun h2 => ?_) (fun h2 => ?_)
        · skip
          refine e_iinc 18 36 (ls' := [some _, some _, some _, some _]) rfl rfl (Nat.le_of_ble_eq_true rfl) rfl rfl ?_
          refine e_goto 19 4 rfl rfl ?_
          exact m1
        · skip
          rw [h] at h2
          cases h2
      | true =>
        have hat := sp_stAt h01' (n := i) (by unfold xr; omega)
        rw [da_has (hh.trans h)] at hat
        obtain ⟨σ2, k1, k2⟩ := sp_fitsAll (hA.pl isPl_s.2.1 hF) (hL.fr eq4 eqq) (vO_s i (by omega)).1 (hG i (by omega) h)
        rw [fal_congr eq4 eqq] at k1
        obtain ⟨σ', m1, m2⟩ := ih (i + 1) (w + bi (fal σ T (T (31 + 2 * i)))) σ2 (by omega) (hF.tr k2) (by have := bi_01 (fal σ T (T (31 + 2 * i))); omega) (by have := bi_01 (fal σ T (T (31 + 2 * i))); omega)
        rw [show (((i + 1 : Nat)) : Int) = (i : Int) + 1 by omega] at m1
        refine ⟨σ', ?_, m2⟩
        refine e_iload_n 4 5 rfl rfl rfl rfl ?_
        refine e_bipush 5 7 rfl rfl rfl ?_
        refine e_icmp_ge 6 39 10 rfl rfl rfl (by unfold xr at *; omega) (by unfold xr at *; omega) (fun h9 => absurd h9 (by omega)) (fun _ => ?_)
        refine e_aload_n 7 11 rfl rfl rfl rfl ?_
        refine e_iload_n 8 12 rfl rfl rfl rfl ?_
        refine g_callV 9 15 (hhas) okX8_has cvX7_65 ⟨(Nat.le_of_ble_eq_true rfl), (Nat.le_of_ble_eq_true rfl)⟩ rfl rfl (Nat.le_of_ble_eq_true rfl) rfl rfl rfl rfl rfl (Nat.le_of_ble_eq_true rfl) (Nat.le_of_ble_eq_true rfl) (Nat.le_of_ble_eq_true rfl) ?_
        refine e_ifb_eq 10 33 18 rfl rfl rfl (fun h2 => ?_) (fun h2 => ?_)
        · skip
          rw [h] at h2
          cases h2
        · skip
          refine e_aload_n 11 19 rfl rfl rfl rfl ?_
          refine e_aload_n 12 20 rfl rfl rfl rfl ?_
          refine e_iload_n 13 21 rfl rfl rfl rfl ?_
          refine g_callV 14 24 (hat) okX8_at cvX7_71 ⟨(Nat.le_of_ble_eq_true rfl), (Nat.le_of_ble_eq_true rfl)⟩ rfl rfl (Nat.le_of_ble_eq_true rfl) rfl rfl rfl rfl rfl (Nat.le_of_ble_eq_true rfl) (Nat.le_of_ble_eq_true rfl) (Nat.le_of_ble_eq_true rfl) ?_
          refine g_callV 15 27 (k1) okX7_fitsAll cvX7_75 ⟨(Nat.le_of_ble_eq_true rfl), (Nat.le_of_ble_eq_true rfl)⟩ rfl rfl (Nat.le_of_ble_eq_true rfl) rfl rfl rfl rfl rfl (Nat.le_of_ble_eq_true rfl) (Nat.le_of_ble_eq_true rfl) (Nat.le_of_ble_eq_true rfl) ?_
          refine e_ifb_eq 16 33 30 rfl rfl rfl (fun h3 => ?_) (fun h3 => ?_)
          · skip
            rw [h3, bi_f, Int.add_zero] at m1
            rw [h3, if_neg (fun z => by cases z.2), Int.zero_add]
            refine e_iinc 18 36 (ls' := [some _, some _, some _, some _]) rfl rfl (Nat.le_of_ble_eq_true rfl) rfl rfl ?_
            refine e_goto 19 4 rfl rfl ?_
            exact m1
          · skip
            rw [h3, bi_t] at m1
            rw [h3, if_pos ⟨rfl, rfl⟩, ← Int.add_assoc]
            refine e_iinc 17 33 (ls' := [some _, some _, some _, some _]) rfl rfl (Nat.le_of_ble_eq_true rfl) rfl rfl ?_
            refine e_iinc 18 36 (ls' := [some _, some _, some _, some _]) rfl rfl (Nat.le_of_ble_eq_true rfl) rfl rfl ?_
            refine e_goto 19 4 rfl rfl ?_
            exact m1
  obtain ⟨σ', m1, m2⟩ := loop 100 0 0 σ rfl Fr.rf (by omega) (by omega)
  rw [Int.zero_add] at m1
  refine ⟨σ', ?_, m2⟩
  refine e_entry okX7_countFitting (Nat.le_of_ble_eq_true rfl) (ls := [some _, some _, none, none]) rfl ?_
  refine e_iconst 0 1 rfl rfl ?_
  refine e_istore_n 1 2 (ls' := [some _, some _, some _, none]) rfl rfl rfl (Nat.le_of_ble_eq_true rfl) rfl ?_
  refine e_iconst 2 3 rfl rfl ?_
  refine e_istore_n 3 4 (ls' := [some _, some _, some _, some _]) rfl rfl rfl (Nat.le_of_ble_eq_true rfl) rfl ?_
  exact m1
/-- the numbers of the documents that fit -/
def fnd (P : Nat → Bool) : Nat → Nat → List Int
  | _, 0 => []
  | i, n + 1 => (if P i = true then [(i : Int)] else []) ++ fnd P (i + 1) n
def cnd (σ : xSig) : Int := smN (fun n => bi (hasd σ n)) 0 100
def fits9 (σ : xSig) (T : Nat → List Int) (n : Nat) : Bool := hasd σ n && fal σ T (T (31 + 2 * n))
theorem fnd_le {P Q : Nat → Bool} (h : ∀ n, P n = true → Q n = true) : ∀ (n i : Nat), ((fnd P i n).length : Int) ≤ smN (fun n => bi (Q n)) i n := by
  intro n
  induction n with
  | zero => intro i; simp [fnd, smN]
  | succ n ih =>
    intro i
    have := ih (i + 1)
    have h2 := bi_01 (Q i)
    simp only [fnd, smN, List.length_append]
    cases hp : P i with
    | false => simp; omega
    | true => rw [h i hp, bi_t]; simp; omega
/-- what a search leaves: the numbers found -/
def FH (σ : xSig) (F : List Int) : Prop := σ 256 5 = F.length ∧ F.length ≤ 60 ∧ ∀ i : Nat, i < F.length → σ 263 i = F.getD i 0
theorem FH.snoc {σ : xSig} {F : List Int} (h : FH σ F) (hl : F.length < 60) (i : Int) : FH (xu (xu σ 263 F.length i) 256 5 (F.length + 1)) (F ++ [i]) := by
  obtain ⟨h2, h3, h4⟩ := h
  refine ⟨by rw [xu_same]; simp, by simp; omega, fun j hj => ?_⟩
  rw [xu_other _ _ _ (by decide), List.getD_eq_getElem?_getD]
  simp only [List.length_append, List.length_singleton] at hj
  by_cases e : j = F.length
  · subst e
    rw [xu_same, List.getElem?_append_right (Nat.le_refl _), Nat.sub_self]
    rfl
  · rw [xu_ne _ (Or.inr (by omega)), h4 j (by omega), List.getElem?_append_left (by omega), List.getD_eq_getElem?_getD]
theorem FH.fr {σ σ' : xSig} {F : List Int} (h : FH σ F) (h1 : σ' 256 = σ 256) (h2 : σ' 263 = σ 263) : FH σ' F := ⟨by rw [h1]; exact h.1, h.2.1, fun i hi => by rw [h2]; exact h.2.2 i hi⟩
def SX (σ σ' : xSig) : Prop := FX [256, 261, 262, 263] σ σ' ∧ ∀ j : Int, j ≠ 5 → σ' 256 j = σ 256 j
theorem SX.tr {σ σ1 σ2 : xSig} (h : SX σ σ1) (h2 : SX σ1 σ2) : SX σ σ2 := ⟨h.1.tr h2.1, fun j hj => (h2.2 j hj).trans (h.2 j hj)⟩
theorem SX.of {σ σ1 : xSig} (h : Fr 261 σ σ1) : SX σ σ1 := ⟨FX.of h (by decide) (by decide), fun j _ => by rw [h 256 (by decide) (by decide)]⟩
theorem SX.put {σ : xSig} {k i w : Int} : SX σ (xu (xu σ 263 k i) 256 5 w) := ⟨(FX.rf.xu (by decide)).xu (by decide), fun j hj => by rw [xu_ne _ (Or.inr hj), xu_ne _ (Or.inl (by decide))]⟩
theorem VAll.sx {σ σ' : xSig} {T : Nat → List Int} (h : VAll σ T) (h2 : SX σ σ') : VAll σ' T := h.keep fun b hb => h2.1 b (fun e => by
  simp only [List.mem_cons, List.not_mem_nil, or_false] at e
  rcases e with e | e | e | e <;> rw [e] at hb <;> revert hb <;> decide +kernel)
theorem sp_search {σ : xSig} {T : Nat → List Int} (hA : VAll σ T) (h01 : n01 σ 27) (hL : FLT σ T) (hG : GDA σ T) (hc : cnd σ ≤ 60) :
    ∃ σ' : xSig, x_Sp MX7_search 0 0 [.ref 256, .ref 25] (St σ) (iv (fnd (fits9 σ T) 0 100).length) (St σ') ∧ FH σ' (fnd (fits9 σ T) 0 100) ∧ SX σ σ' := by
  have hall := fnd_le (P := fits9 σ T) (Q := fun n => hasd σ n) (fun n h => by unfold fits9 at h; exact (Bool.and_eq_true _ _ ▸ h).1) 100 0
  have loop : ∀ (n i : Nat) (F : List Int) (σ1 : xSig), i + n = 100 → F ++ fnd (fits9 σ T) i n = fnd (fits9 σ T) 0 100 → SX σ σ1 → FH σ1 F → ∃ σ' : xSig, x_E MX7_search 0 0 7 [some (.ref 256), some (.ref 25), some (.int (ii i))] [] (St σ1) 0 0 (iv (fnd (fits9 σ T) 0 100).length) (St σ') ∧ FH σ' (fnd (fits9 σ T) 0 100) ∧ SX σ σ' := by
    intro n
    induction n with
    | zero =>
      intro i F σ1 hi hF0 hS hF
      have eF : F = fnd (fits9 σ T) 0 100 := by rw [← hF0]; simp [fnd]
      have e5 := hF.1
      rw [← eF]
      refine ⟨σ1, ?_, hF, hS⟩
      refine e_iload_n 5 8 rfl rfl rfl rfl ?_
      refine e_bipush 6 10 rfl rfl rfl ?_
      refine e_icmp_ge 7 71 13 rfl rfl rfl (by unfold xr at *; omega) (by unfold xr at *; omega) (fun _ => ?_) (fun h9 => absurd h9 (by omega))
      refine e_aload_n 38 72 rfl rfl rfl rfl ?_
      refine g_getI 39 75 5 ckX7 flX7_37 rfl rfl (Nat.le_of_ble_eq_true rfl) rfl rfl rfl e5 ?_
      exact e_ireturn 40 rfl rfl (Nat.le_of_ble_eq_true rfl) (Nat.le_of_ble_eq_true rfl)
    | succ n ih =>
      intro i F σ1 hi hF0 hS hF
      have e5 := hF.1
      have h60 := hF.2.1
      have h27 := hS.1 27 (by decide)
      have h01' : n01 σ1 27 := by unfold n01; rw [h27]; exact h01
      have hh : hasd σ1 i = hasd σ i := hasd_congr h27 i
      have hhas := sp_has h01' (n := i) (by unfold xr; omega)
      rw [hh] at hhas
      have eq4 : σ1 256 4 = σ 256 4 := hS.2 4 (by decide)
      have eqq : ∀ i : Nat, σ1 (qf i) = σ (qf i) := fun i => by have := qf_ne i; exact hS.1 _ (by simp; omega)
      by_cases hfull : F.length = 60
      · have eF : fnd (fits9 σ T) i (n + 1) = [] := by
          have := congrArg List.length hF0
          rw [List.length_append] at this
          have h9 : cnd σ = smN (fun n => bi (hasd σ n)) 0 100 := rfl
          exact List.eq_nil_of_length_eq_zero (by omega)
        rw [eF, List.append_nil] at hF0
        rw [← hF0]
        refine ⟨σ1, ?_, hF, hS⟩
        refine e_iload_n 5 8 rfl rfl rfl rfl ?_
        refine e_bipush 6 10 rfl rfl rfl ?_
        refine e_icmp_ge 7 71 13 rfl rfl rfl (by unfold xr at *; omega) (by unfold xr at *; omega) (fun h9 => absurd h9 (by omega)) (fun _ => ?_)
        refine e_aload_n 8 14 rfl rfl rfl rfl ?_
        refine g_getI 9 17 5 ckX7 flX7_37 rfl rfl (Nat.le_of_ble_eq_true rfl) rfl rfl rfl e5 ?_
        refine e_aload_n 10 18 rfl rfl rfl rfl ?_
        refine g_getR 11 21 ckX7 flX7_29 rfl rfl (Nat.le_of_ble_eq_true rfl) rfl rfl ?_
        refine g_alen 12 22 rfl rfl (Nat.le_of_ble_eq_true rfl) rfl (Nat.le_of_ble_eq_true rfl) ?_
        refine e_icmp_ge 13 71 25 rfl rfl rfl (by unfold xr at *; omega) (by unfold xr at *; omega) (fun _ => ?_) (fun h9 => absurd h9 (by omega))
        refine e_aload_n 38 72 rfl rfl rfl rfl ?_
        refine g_getI 39 75 5 ckX7 flX7_37 rfl rfl (Nat.le_of_ble_eq_true rfl) rfl rfl rfl e5 ?_
        exact e_ireturn 40 rfl rfl (Nat.le_of_ble_eq_true rfl) (Nat.le_of_ble_eq_true rfl)
      · cases h : hasd σ i with
        | false =>
          obtain ⟨σ', m1, m2⟩ := ih (i + 1) F σ1 (by omega) (by rw [← hF0]; simp [fnd, fits9, h]) hS hF
          rw [show (((i + 1 : Nat)) : Int) = (i : Int) + 1 by omega] at m1
          refine ⟨σ', ?_, m2⟩
          refine e_iload_n 5 8 rfl rfl rfl rfl ?_
          refine e_bipush 6 10 rfl rfl rfl ?_
          refine e_icmp_ge 7 71 13 rfl rfl rfl (by unfold xr at *; omega) (by unfold xr at *; omega) (fun h9 => absurd h9 (by omega)) (fun _ => ?_)
          refine e_aload_n 8 14 rfl rfl rfl rfl ?_
          refine g_getI 9 17 5 ckX7 flX7_37 rfl rfl (Nat.le_of_ble_eq_true rfl) rfl rfl rfl e5 ?_
          refine e_aload_n 10 18 rfl rfl rfl rfl ?_
          refine g_getR 11 21 ckX7 flX7_29 rfl rfl (Nat.le_of_ble_eq_true rfl) rfl rfl ?_
          refine g_alen 12 22 rfl rfl (Nat.le_of_ble_eq_true rfl) rfl (Nat.le_of_ble_eq_true rfl) ?_
          refine e_icmp_ge 13 71 25 rfl rfl rfl (by unfold xr at *; omega) (by unfold xr at *; omega) (fun h9 => absurd h9 (by omega)) (fun _ => ?_)
          refine e_aload_n 14 26 rfl rfl rfl rfl ?_
          refine e_iload_n 15 27 rfl rfl rfl rfl ?_
          refine g_callV 16 30 (hhas) okX8_has cvX7_65 ⟨(Nat.le_of_ble_eq_true rfl), (Nat.le_of_ble_eq_true rfl)⟩ rfl rfl (Nat.le_of_ble_eq_true rfl) rfl rfl rfl rfl rfl (Nat.le_of_ble_eq_true rfl) (Nat.le_of_ble_eq_true rfl) (Nat.le_of_ble_eq_true rfl) ?_
          refine e_ifb_eq 17 65 33 rfl rfl rfl (fun h2 => ?_) (fun h2 => ?_)
          · skip
            refine e_iinc 36 68 (ls' := [some _, some _, some _]) rfl rfl (Nat.le_of_ble_eq_true rfl) rfl rfl ?_
            refine e_goto 37 7 rfl rfl ?_
            exact m1
          · skip
            rw [h] at h2
            cases h2
        | true =>
          have hat := sp_stAt h01' (n := i) (by unfold xr; omega)
          rw [da_has (hh.trans h)] at hat
          obtain ⟨σ2, k1, k2⟩ := sp_fitsAll (hA.sx hS) (hL.fr eq4 eqq) (vO_s i (by omega)).1 (hG i (by omega) h)
          rw [fal_congr eq4 eqq] at k1
          have hS2 := hS.tr (SX.of k2)
          have hF2 := hF.fr (k2 256 (by decide) (by decide)) (k2 263 (by decide) (by decide))
          have e52 := hF2.1
          cases h3 : fal σ T (T (31 + 2 * i)) with
          | false =>
            rw [h3] at k1
            obtain ⟨σ', m1, m2⟩ := ih (i + 1) F σ2 (by omega) (by rw [← hF0]; simp [fnd, fits9, h, h3]) hS2 hF2
            rw [show (((i + 1 : Nat)) : Int) = (i : Int) + 1 by omega] at m1
            refine ⟨σ', ?_, m2⟩
            refine e_iload_n 5 8 rfl rfl rfl rfl ?_
            refine e_bipush 6 10 rfl rfl rfl ?_
            refine e_icmp_ge 7 71 13 rfl rfl rfl (by unfold xr at *; omega) (by unfold xr at *; omega) (fun h9 => absurd h9 (by omega)) (fun _ => ?_)
            refine e_aload_n 8 14 rfl rfl rfl rfl ?_
            refine g_getI 9 17 5 ckX7 flX7_37 rfl rfl (Nat.le_of_ble_eq_true rfl) rfl rfl rfl e5 ?_
            refine e_aload_n 10 18 rfl rfl rfl rfl ?_
            refine g_getR 11 21 ckX7 flX7_29 rfl rfl (Nat.le_of_ble_eq_true rfl) rfl rfl ?_
            refine g_alen 12 22 rfl rfl (Nat.le_of_ble_eq_true rfl) rfl (Nat.le_of_ble_eq_true rfl) ?_
            refine e_icmp_ge 13 71 25 rfl rfl rfl (by unfold xr at *; omega) (by unfold xr at *; omega) (fun h9 => absurd h9 (by omega)) (fun _ => ?_)
            refine e_aload_n 14 26 rfl rfl rfl rfl ?_
            refine e_iload_n 15 27 rfl rfl rfl rfl ?_
            refine g_callV 16 30 (hhas) okX8_has cvX7_65 ⟨(Nat.le_of_ble_eq_true rfl), (Nat.le_of_ble_eq_true rfl)⟩ rfl rfl (Nat.le_of_ble_eq_true rfl) rfl rfl rfl rfl rfl (Nat.le_of_ble_eq_true rfl) (Nat.le_of_ble_eq_true rfl) (Nat.le_of_ble_eq_true rfl) ?_
            refine e_ifb_eq 17 65 33 rfl rfl rfl (fun h2 => ?_) (fun h2 => ?_)
            · skip
              rw [h] at h2
              cases h2
            · skip
              refine e_aload_n 18 34 rfl rfl rfl rfl ?_
              refine e_aload_n 19 35 rfl rfl rfl rfl ?_
              refine e_iload_n 20 36 rfl rfl rfl rfl ?_
              refine g_callV 21 39 (hat) okX8_at cvX7_71 ⟨(Nat.le_of_ble_eq_true rfl), (Nat.le_of_ble_eq_true rfl)⟩ rfl rfl (Nat.le_of_ble_eq_true rfl) rfl rfl rfl rfl rfl (Nat.le_of_ble_eq_true rfl) (Nat.le_of_ble_eq_true rfl) (Nat.le_of_ble_eq_true rfl) ?_
              refine g_callV 22 42 (k1) okX7_fitsAll cvX7_75 ⟨(Nat.le_of_ble_eq_true rfl), (Nat.le_of_ble_eq_true rfl)⟩ rfl rfl (Nat.le_of_ble_eq_true rfl) rfl rfl rfl rfl rfl (Nat.le_of_ble_eq_true rfl) (Nat.le_of_ble_eq_true rfl) (Nat.le_of_ble_eq_true rfl) ?_
              refine e_ifb_eq 23 65 45 rfl rfl rfl (fun h4 => ?_) (fun h4 => ?_)
              · skip
                refine e_iinc 36 68 (ls' := [some _, some _, some _]) rfl rfl (Nat.le_of_ble_eq_true rfl) rfl rfl ?_
                refine e_goto 37 7 rfl rfl ?_
                exact m1
              · skip
                cases h4
          | true =>
            rw [h3] at k1
            have e53 : xu σ2 263 F.length i 256 5 = F.length := (xu_ne _ (Or.inl (by decide))).trans e52
            obtain ⟨σ', m1, m2⟩ := ih (i + 1) (F ++ [(i : Int)]) (xu (xu σ2 263 F.length i) 256 5 (F.length + 1)) (by omega) (by rw [← hF0]; simp [fnd, fits9, h, h3]) (hS2.tr SX.put) (hF2.snoc (by omega) i)
            rw [show (((i + 1 : Nat)) : Int) = (i : Int) + 1 by omega] at m1
            refine ⟨σ', ?_, m2⟩
            refine e_iload_n 5 8 rfl rfl rfl rfl ?_
            refine e_bipush 6 10 rfl rfl rfl ?_
            refine e_icmp_ge 7 71 13 rfl rfl rfl (by unfold xr at *; omega) (by unfold xr at *; omega) (fun h9 => absurd h9 (by omega)) (fun _ => ?_)
            refine e_aload_n 8 14 rfl rfl rfl rfl ?_
            refine g_getI 9 17 5 ckX7 flX7_37 rfl rfl (Nat.le_of_ble_eq_true rfl) rfl rfl rfl e5 ?_
            refine e_aload_n 10 18 rfl rfl rfl rfl ?_
            refine g_getR 11 21 ckX7 flX7_29 rfl rfl (Nat.le_of_ble_eq_true rfl) rfl rfl ?_
            refine g_alen 12 22 rfl rfl (Nat.le_of_ble_eq_true rfl) rfl (Nat.le_of_ble_eq_true rfl) ?_
            refine e_icmp_ge 13 71 25 rfl rfl rfl (by unfold xr at *; omega) (by unfold xr at *; omega) (fun h9 => absurd h9 (by omega)) (fun _ => ?_)
            refine e_aload_n 14 26 rfl rfl rfl rfl ?_
            refine e_iload_n 15 27 rfl rfl rfl rfl ?_
            refine g_callV 16 30 (hhas) okX8_has cvX7_65 ⟨(Nat.le_of_ble_eq_true rfl), (Nat.le_of_ble_eq_true rfl)⟩ rfl rfl (Nat.le_of_ble_eq_true rfl) rfl rfl rfl rfl rfl (Nat.le_of_ble_eq_true rfl) (Nat.le_of_ble_eq_true rfl) (Nat.le_of_ble_eq_true rfl) ?_
            refine e_ifb_eq 17 65 33 rfl rfl rfl (fun h2 => ?_) (fun h2 => ?_)
            · skip
              rw [h] at h2
              cases h2
            · skip
              refine e_aload_n 18 34 rfl rfl rfl rfl ?_
              refine e_aload_n 19 35 rfl rfl rfl rfl ?_
              refine e_iload_n 20 36 rfl rfl rfl rfl ?_
              refine g_callV 21 39 (hat) okX8_at cvX7_71 ⟨(Nat.le_of_ble_eq_true rfl), (Nat.le_of_ble_eq_true rfl)⟩ rfl rfl (Nat.le_of_ble_eq_true rfl) rfl rfl rfl rfl rfl (Nat.le_of_ble_eq_true rfl) (Nat.le_of_ble_eq_true rfl) (Nat.le_of_ble_eq_true rfl) ?_
              refine g_callV 22 42 (k1) okX7_fitsAll cvX7_75 ⟨(Nat.le_of_ble_eq_true rfl), (Nat.le_of_ble_eq_true rfl)⟩ rfl rfl (Nat.le_of_ble_eq_true rfl) rfl rfl rfl rfl rfl (Nat.le_of_ble_eq_true rfl) (Nat.le_of_ble_eq_true rfl) (Nat.le_of_ble_eq_true rfl) ?_
              refine e_ifb_eq 23 65 45 rfl rfl rfl (fun h4 => ?_) (fun h4 => ?_)
              · skip
                cases h4
              · skip
                refine e_aload_n 24 46 rfl rfl rfl rfl ?_
                refine g_getR 25 49 ckX7 flX7_29 rfl rfl (Nat.le_of_ble_eq_true rfl) rfl rfl ?_
                refine e_aload_n 26 50 rfl rfl rfl rfl ?_
                refine g_getI 27 53 5 ckX7 flX7_37 rfl rfl (Nat.le_of_ble_eq_true rfl) rfl rfl rfl e52 ?_
                refine e_iload_n 28 54 rfl rfl rfl rfl ?_
                refine g_iastore 29 55 rfl rfl (Nat.le_of_ble_eq_true rfl) rfl (by omega) (by omega) (by omega) ?_
                refine e_aload_n 30 56 rfl rfl rfl rfl ?_
                refine e_dup 31 57 rfl rfl rfl ?_
                refine g_getI 32 60 5 ckX7 flX7_37 rfl rfl (Nat.le_of_ble_eq_true rfl) rfl rfl rfl e53 ?_
                refine e_iconst 33 61 rfl rfl ?_
                refine e_iadd 34 62 rfl rfl ?_
                refine g_putI 35 65 5 ckX7 flX7_37 rfl rfl (Nat.le_of_ble_eq_true rfl) rfl rfl rfl ?_
                refine e_iinc 36 68 (ls' := [some _, some _, some _]) rfl rfl (Nat.le_of_ble_eq_true rfl) rfl rfl ?_
                refine e_goto 37 7 rfl rfl ?_
                exact m1
  have hS0 : SX σ (xu σ 256 5 0) := ⟨FX.rf.xu (by decide), fun j hj => xu_ne _ (Or.inr hj)⟩
  obtain ⟨σ', m1, m2, m3⟩ := loop 100 0 [] (xu σ 256 5 0) rfl rfl hS0 ⟨by rw [xu_same]; rfl, by simp, fun i hi => by simp at hi⟩
  refine ⟨σ', ?_, m2, m3⟩
  refine e_entry okX7_search (Nat.le_of_ble_eq_true rfl) (ls := [some _, some _, none]) rfl ?_
  refine e_aload_n 0 1 rfl rfl rfl rfl ?_
  refine e_iconst 1 2 rfl rfl ?_
  refine g_putI 2 5 5 ckX7 flX7_37 rfl rfl (Nat.le_of_ble_eq_true rfl) rfl rfl rfl ?_
  refine e_iconst 3 6 rfl rfl ?_
  refine e_istore_n 4 7 (ls' := [some _, some _, some _]) rfl rfl rfl (Nat.le_of_ble_eq_true rfl) rfl ?_
  exact m1
