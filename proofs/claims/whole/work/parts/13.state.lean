/-! ===== all objects of Value; the others' numbers ===== -/
def vO (a : Nat) : Bool := match shO (SH a) with
  | some q => q.1 == 10
  | none => false
def vA : Nat → Bool
  | 0 => vO 0
  | c + 1 => vO (c + 1) || vO c
def vCap (a : Nat) : Nat := match shA (SH (a + 1)) with
  | some q => q.2
  | none => 0
def vchk (a : Nat) : Bool := !vO a || (decide (a + 1 < 314) && (decide (shO (SH a) = some (10, [some (some (a + 1)), none])) && (decide (shA (SH (a + 1)) = some (0, vCap a)) && !vO (a + 1))))
theorem vchk_all : ∀ a, a < 314 → vchk a = true := by decide +kernel
theorem vO_all (a : Nat) (h : a < 314) (hv : vO a = true) : a + 1 < 314 ∧ shO (SH a) = some (10, [some (some (a + 1)), none]) ∧ shA (SH (a + 1)) = some (0, vCap a) ∧ vO (a + 1) = false := by
  have q := vchk_all a h
  unfold vchk at q
  rw [hv] at q
  simp only [Bool.not_true, Bool.false_or, Bool.and_eq_true, decide_eq_true_eq, Bool.not_eq_true'] at q
  exact q
theorem vO_lt {a : Nat} (h : vO a = true) : a < 314 := by
  rcases Nat.lt_or_ge a 314 with q | q
  · exact q
  · exfalso
    have hl : SHL.length = 314 := by decide +kernel
    have e : SH a = .inl (0, 0) := by
      unfold SH
      rw [List.getD_eq_getElem?_getD, List.getElem?_eq_none_iff.mpr (by omega)]
      rfl
    unfold vO at h
    rw [e] at h
    cases h
theorem vO_val {a : Nat} (h : vO a = true) : isVal a (vCap a) := by
  have q := vO_all a (vO_lt h) h
  exact isVal_of ⟨vO_lt h, q.1, q.2.1, q.2.2.1⟩
theorem vO_next {a : Nat} (h : vO a = true) : vO (a + 1) = false := (vO_all a (vO_lt h) h).2.2.2
theorem vO_apart {a b : Nat} (ha : vO a = true) (hb : vO b = true) (h : b ≠ a) : b ≠ a + 1 ∧ b + 1 ≠ a := by
  refine ⟨fun q => ?_, fun q => ?_⟩
  · have := vO_next ha
    rw [← q, hb] at this
    cases this
  · have := vO_next hb
    rw [q, ha] at this
    cases this
def VAll (σ : xSig) (T : Nat → List Int) : Prop := ∀ a, vO a = true → VH σ a (vCap a) (T a)
def uT (T : Nat → List Int) (a : Nat) (t : List Int) : Nat → List Int := fun b => if b = a then t else T b
theorem uT_same (T : Nat → List Int) (a : Nat) (t : List Int) : uT T a t a = t := by simp [uT]
theorem uT_ne (T : Nat → List Int) {a b : Nat} (t : List Int) (h : b ≠ a) : uT T a t b = T b := by simp [uT, h]
theorem VAll.put {σ σ' : xSig} {T : Nat → List Int} {a : Nat} {t : List Int} (h : VAll σ T) (ha : vO a = true) (h1 : VH σ' a (vCap a) t) (hF : Fr a σ σ') : VAll σ' (uT T a t) := by
  intro b hb
  by_cases e : b = a
  · subst e
    rw [uT_same]
    exact h1
  · rw [uT_ne _ _ e]
    obtain ⟨e1, e2⟩ := vO_apart ha hb e
    exact (h b hb).fr hF e e1 e2
/-- the numbers of what is no Value, but for some cells, stay -/
def NV (L : List Nat) (σ σ' : xSig) : Prop := ∀ b : Nat, vA b = false → b ∉ L → σ' b = σ b
theorem NV.rf {σ : xSig} {L : List Nat} : NV L σ σ := fun _ _ _ => rfl
theorem NV.tr {L1 L2 : List Nat} {σ σ1 σ2 : xSig} (h : NV L1 σ σ1) (h2 : NV L2 σ1 σ2) : NV (L1 ++ L2) σ σ2 := fun b h3 h4 => (h2 b h3 (fun q => h4 (List.mem_append_right _ q))).trans (h b h3 (fun q => h4 (List.mem_append_left _ q)))
theorem NV.mono {L1 L2 : List Nat} {σ σ1 : xSig} (h : NV L1 σ σ1) (hs : ∀ b ∈ L1, b ∈ L2) : NV L2 σ σ1 := fun b h3 h4 => h b h3 (fun q => h4 (hs b q))
theorem vA_of {a : Nat} (h : vO a = true) : vA a = true ∧ vA (a + 1) = true := by
  refine ⟨?_, by simp [vA, h]⟩
  cases a with
  | zero => exact h
  | succ c => simp [vA, h]
theorem Fr.nv {σ σ' : xSig} {a : Nat} (h : Fr a σ σ') (ha : vO a = true) : NV [] σ σ' := by
  intro b hb _
  refine h b (fun e => ?_) (fun e => ?_)
  · rw [e, (vA_of ha).1] at hb; cases hb
  · rw [e, (vA_of ha).2] at hb; cases hb
theorem VAll.keep {σ σ' : xSig} {T : Nat → List Int} (h : VAll σ T) (hs : ∀ b : Nat, vA b = true → σ' b = σ b) : VAll σ' T := fun a ha => (h a ha).same (hs a (vA_of ha).1) (hs (a + 1) (vA_of ha).2)
theorem VAll.xu {σ : xSig} {T : Nat → List Int} (h : VAll σ T) {a : Nat} (j v : Int) (ha : vA a = false) : VAll (xu σ a j v) T := h.keep fun b hb => xu_other σ j v (fun e => by rw [e, ha] at hb; cases hb)
theorem NV.xu {σ : xSig} (a : Nat) (j v : Int) : NV [a] σ (xu σ a j v) := fun b _ h => xu_other σ j v (fun e => h (by simp [e]))
theorem SH_2 : SH 2 = .inr (.inl (3, (List.range 10).map fun i => some (5 + 2 * i))) := rfl
theorem SH_26 : SH 26 = .inr (.inl (3, (List.range 100).map fun i => some (31 + 2 * i))) := rfl
theorem SH_257 : SH 257 = .inr (.inl (4, (List.range 3).map fun i => some (264 + 3 * i))) := rfl
theorem rng_at {n k : Nat} {f : Nat → Nat} (h : k < n) : ((List.range n).map fun i => some (f i))[k]? = some (some (f k)) := by simp [h]
theorem vO_p : ∀ i, i < 10 → vO (5 + 2 * i) = true ∧ vCap (5 + 2 * i) = 72 := by decide +kernel
theorem vO_s : ∀ i, i < 100 → vO (31 + 2 * i) = true ∧ vCap (31 + 2 * i) = 72 := by decide +kernel
theorem vO_f : ∀ i, i < 3 → vO (265 + 3 * i) = true ∧ vCap (265 + 3 * i) = 72 := by decide +kernel
theorem vO_3 : vO 3 = true ∧ vCap 3 = 0 := by decide +kernel
theorem vO_29 : vO 29 = true ∧ vCap 29 = 0 := by decide +kernel
theorem vO_244 : vO 244 = true ∧ vCap 244 = 152 := by decide +kernel
theorem vO_246 : vO 246 = true ∧ vCap 246 = 72 := by decide +kernel
theorem vO_259 : vO 259 = true ∧ vCap 259 = 72 := by decide +kernel
/-! ===== Pile ===== -/
def pv (i : Int) : Nat := if 0 ≤ i ∧ i < 10 then 5 + 2 * i.toNat else 3
theorem pv_in {i : Int} (h0 : 0 ≤ i) (h1 : i < 10) : pv i = 5 + 2 * i.toNat := by unfold pv; rw [if_pos ⟨h0, h1⟩]
theorem pv_out {i : Int} (h : i < 0 ∨ 10 ≤ i) : pv i = 3 := by unfold pv; rw [if_neg (by omega)]
theorem pv_vO (i : Int) : vO (pv i) = true := by
  unfold pv
  split
  · exact (vO_p _ (by omega)).1
  · exact vO_3.1
abbrev vtop (σ : xSig) : Nat := pv (σ 1 2 - 1)
abbrev vbel (σ : xSig) : Nat := pv (σ 1 2 - 2)
theorem sp_pEmpty {σ : xSig} (hn : 0 ≤ σ 1 2 ∧ σ 1 2 ≤ 10) : Rd MX5_isEmpty [.ref 1] σ (zv (decide (σ 1 2 = 0))) := by
  refine e_entry okX5_isEmpty (Nat.le_of_ble_eq_true rfl) (ls := [some _]) rfl ?_
  refine e_aload_n 0 1 rfl rfl rfl rfl ?_
  refine g_getI 1 4 2 ckX5 flX5_24 rfl rfl (Nat.le_of_ble_eq_true rfl) rfl rfl rfl rfl ?_
  refine e_if_ne 2 11 7 rfl rfl rfl (by unfold xr at *; omega) (fun h => ?_) (fun h => ?_)
  · skip
    rw [decide_eq_false h]
    refine e_iconst 5 12 rfl rfl ?_
    exact e_zreturn (x := 0) 6 rfl rfl (by omega) (Nat.le_of_ble_eq_true rfl) (Nat.le_of_ble_eq_true rfl)
  · skip
    rw [decide_eq_true h]
    refine e_iconst 3 8 rfl rfl ?_
    refine e_goto 4 12 rfl rfl ?_
    exact e_zreturn (x := 1) 6 rfl rfl (by omega) (Nat.le_of_ble_eq_true rfl) (Nat.le_of_ble_eq_true rfl)
theorem sp_pFull {σ : xSig} (hn : 0 ≤ σ 1 2 ∧ σ 1 2 ≤ 10) : Rd MX5_isFull [.ref 1] σ (zv (decide (10 ≤ σ 1 2))) := by
  refine e_entry okX5_isFull (Nat.le_of_ble_eq_true rfl) (ls := [some _]) rfl ?_
  refine e_aload_n 0 1 rfl rfl rfl rfl ?_
  refine g_getI 1 4 2 ckX5 flX5_24 rfl rfl (Nat.le_of_ble_eq_true rfl) rfl rfl rfl rfl ?_
  refine e_aload_n 2 5 rfl rfl rfl rfl ?_
  refine g_getR 3 8 ckX5 flX5_11 rfl rfl (Nat.le_of_ble_eq_true rfl) rfl rfl ?_
  refine g_alenR 4 9 rfl rfl (Nat.le_of_ble_eq_true rfl) SH_2 (Or.inl rfl) ?_
  simp only [List.length_map, List.length_range]
  refine e_icmp_lt 5 16 12 rfl rfl rfl (by unfold xr at *; omega) (by unfold xr at *; omega) (fun h => ?_) (fun h => ?_)
  · skip
    rw [decide_eq_false (by omega)]
    refine e_iconst 8 17 rfl rfl ?_
    exact e_zreturn (x := 0) 9 rfl rfl (by omega) (Nat.le_of_ble_eq_true rfl) (Nat.le_of_ble_eq_true rfl)
  · skip
    rw [decide_eq_true (by omega)]
    refine e_iconst 6 13 rfl rfl ?_
    refine e_goto 7 17 rfl rfl ?_
    exact e_zreturn (x := 1) 9 rfl rfl (by omega) (Nat.le_of_ble_eq_true rfl) (Nat.le_of_ble_eq_true rfl)
theorem sp_pAt {σ : xSig} {i : Int} (hi : xr i) : Rd MX5_at [.ref 1, .int (ii i)] σ (rv (pv i)) := by
  unfold xr at hi
  refine e_entry okX5_at (Nat.le_of_ble_eq_true rfl) (ls := [some _, some _, none]) rfl ?_
  refine e_iload_n 0 1 rfl rfl rfl rfl ?_
  refine e_if_lt 1 22 4 rfl rfl rfl (by unfold xr at *; omega) (fun h => ?_) (fun h => ?_)
  · skip
    rw [pv_out (by omega)]
    refine e_aload_n 12 23 rfl rfl rfl rfl ?_
    refine g_getR 13 26 ckX5 flX5_20 rfl rfl (Nat.le_of_ble_eq_true rfl) rfl rfl ?_
    refine e_astore_n 14 27 (ls' := [some _, some _, some _]) rfl rfl rfl (Nat.le_of_ble_eq_true rfl) rfl ?_
    refine e_aload_n 15 28 rfl rfl rfl rfl ?_
    refine e_ifnonnull 16 38 rfl rfl ?_
    refine e_aload_n 20 39 rfl rfl rfl rfl ?_
    exact e_areturn 21 rfl rfl (Nat.le_of_ble_eq_true rfl) (Nat.le_of_ble_eq_true rfl)
  · skip
    refine e_iload_n 2 5 rfl rfl rfl rfl ?_
    refine e_aload_n 3 6 rfl rfl rfl rfl ?_
    refine g_getR 4 9 ckX5 flX5_11 rfl rfl (Nat.le_of_ble_eq_true rfl) rfl rfl ?_
    refine g_alenR 5 10 rfl rfl (Nat.le_of_ble_eq_true rfl) SH_2 (Or.inl rfl) ?_
    simp only [List.length_map, List.length_range]
    refine e_icmp_ge 6 22 13 rfl rfl rfl (by unfold xr at *; omega) (by unfold xr at *; omega) (fun h2 => ?_) (fun h2 => ?_)
    · skip
      rw [pv_out (by omega)]
      refine e_aload_n 12 23 rfl rfl rfl rfl ?_
      refine g_getR 13 26 ckX5 flX5_20 rfl rfl (Nat.le_of_ble_eq_true rfl) rfl rfl ?_
      refine e_astore_n 14 27 (ls' := [some _, some _, some _]) rfl rfl rfl (Nat.le_of_ble_eq_true rfl) rfl ?_
      refine e_aload_n 15 28 rfl rfl rfl rfl ?_
      refine e_ifnonnull 16 38 rfl rfl ?_
      refine e_aload_n 20 39 rfl rfl rfl rfl ?_
      exact e_areturn 21 rfl rfl (Nat.le_of_ble_eq_true rfl) (Nat.le_of_ble_eq_true rfl)
    · skip
      rw [pv_in h (by omega)]
      refine e_aload_n 7 14 rfl rfl rfl rfl ?_
      refine g_getR 8 17 ckX5 flX5_11 rfl rfl (Nat.le_of_ble_eq_true rfl) rfl rfl ?_
      refine e_iload_n 9 18 rfl rfl rfl rfl ?_
      refine g_aaload 10 19 rfl rfl (Nat.le_of_ble_eq_true rfl) SH_2 (Or.inl rfl) (by omega) (rng_at (by omega)) (by simp) ?_
      refine e_goto 11 26 rfl rfl ?_
      refine e_astore_n 14 27 (ls' := [some _, some _, some _]) rfl rfl rfl (Nat.le_of_ble_eq_true rfl) rfl ?_
      refine e_aload_n 15 28 rfl rfl rfl rfl ?_
      refine e_ifnonnull 16 38 rfl rfl ?_
      refine e_aload_n 20 39 rfl rfl rfl rfl ?_
      exact e_areturn 21 rfl rfl (Nat.le_of_ble_eq_true rfl) (Nat.le_of_ble_eq_true rfl)
theorem sp_pTop {σ : xSig} (hn : 0 ≤ σ 1 2 ∧ σ 1 2 ≤ 10) : Rd MX5_top [.ref 1] σ (rv (vtop σ)) := by
  refine e_entry okX5_top (Nat.le_of_ble_eq_true rfl) (ls := [some _]) rfl ?_
  refine e_aload_n 0 1 rfl rfl rfl rfl ?_
  refine e_aload_n 1 2 rfl rfl rfl rfl ?_
  refine g_getI 2 5 2 ckX5 flX5_24 rfl rfl (Nat.le_of_ble_eq_true rfl) rfl rfl rfl rfl ?_
  refine e_iconst 3 6 rfl rfl ?_
  refine e_isub 4 7 rfl rfl ?_
  refine g_callV 5 10 (sp_pAt (i := σ 1 2 - 1) (by unfold xr; omega)) okX5_at cvX5_39 ⟨(Nat.le_of_ble_eq_true rfl), (Nat.le_of_ble_eq_true rfl)⟩ rfl rfl (Nat.le_of_ble_eq_true rfl) rfl rfl rfl rfl rfl (Nat.le_of_ble_eq_true rfl) (Nat.le_of_ble_eq_true rfl) (Nat.le_of_ble_eq_true rfl) ?_
  exact e_areturn 6 rfl rfl (Nat.le_of_ble_eq_true rfl) (Nat.le_of_ble_eq_true rfl)
theorem sp_pBelow {σ : xSig} (hn : 0 ≤ σ 1 2 ∧ σ 1 2 ≤ 10) : Rd MX5_below [.ref 1] σ (rv (vbel σ)) := by
  refine e_entry okX5_below (Nat.le_of_ble_eq_true rfl) (ls := [some _]) rfl ?_
  refine e_aload_n 0 1 rfl rfl rfl rfl ?_
  refine e_aload_n 1 2 rfl rfl rfl rfl ?_
  refine g_getI 2 5 2 ckX5 flX5_24 rfl rfl (Nat.le_of_ble_eq_true rfl) rfl rfl rfl rfl ?_
  refine e_iconst 3 6 rfl rfl ?_
  refine e_isub 4 7 rfl rfl ?_
  refine g_callV 5 10 (sp_pAt (i := σ 1 2 - 2) (by unfold xr; omega)) okX5_at cvX5_39 ⟨(Nat.le_of_ble_eq_true rfl), (Nat.le_of_ble_eq_true rfl)⟩ rfl rfl (Nat.le_of_ble_eq_true rfl) rfl rfl rfl rfl rfl (Nat.le_of_ble_eq_true rfl) (Nat.le_of_ble_eq_true rfl) (Nat.le_of_ble_eq_true rfl) ?_
  exact e_areturn 6 rfl rfl (Nat.le_of_ble_eq_true rfl) (Nat.le_of_ble_eq_true rfl)
theorem sp_takeTop {σ : xSig} (hn : 0 < σ 1 2 ∧ σ 1 2 ≤ 10) : x_Sp MX5_takeTop 0 0 [.ref 1] (St σ) (iv (σ 1 2 - 1)) (St (xu σ 1 2 (σ 1 2 - 1))) := by
  refine e_entry okX5_takeTop (Nat.le_of_ble_eq_true rfl) (ls := [some _]) rfl ?_
  refine e_aload_n 0 1 rfl rfl rfl rfl ?_
  refine g_getI 1 4 2 ckX5 flX5_24 rfl rfl (Nat.le_of_ble_eq_true rfl) rfl rfl rfl rfl ?_
  refine e_if_le 2 17 7 rfl rfl rfl (by unfold xr at *; omega) (fun h9 => absurd h9 (by omega)) (fun _ => ?_)
  refine e_aload_n 3 8 rfl rfl rfl rfl ?_
  refine e_dup 4 9 rfl rfl rfl ?_
  refine g_getI 5 12 2 ckX5 flX5_24 rfl rfl (Nat.le_of_ble_eq_true rfl) rfl rfl rfl rfl ?_
  refine e_iconst 6 13 rfl rfl ?_
  refine e_isub 7 14 rfl rfl ?_
  refine g_putI 8 17 2 ckX5 flX5_24 rfl rfl (Nat.le_of_ble_eq_true rfl) rfl rfl rfl ?_
  refine e_aload_n 9 18 rfl rfl rfl rfl ?_
  refine g_getI 10 21 2 ckX5 flX5_24 rfl rfl (Nat.le_of_ble_eq_true rfl) rfl rfl rfl (xu_same σ 1 2 (σ 1 2 - 1)) ?_
  exact e_ireturn 11 rfl rfl (Nat.le_of_ble_eq_true rfl) (Nat.le_of_ble_eq_true rfl)
theorem sp_takeAll {σ : xSig} : x_Sp MX5_takeAll 0 0 [.ref 1] (St σ) (iv (σ 1 2)) (St (xu σ 1 2 0)) := by
  refine e_entry okX5_takeAll (Nat.le_of_ble_eq_true rfl) (ls := [some _, none]) rfl ?_
  refine e_aload_n 0 1 rfl rfl rfl rfl ?_
  refine g_getI 1 4 2 ckX5 flX5_24 rfl rfl (Nat.le_of_ble_eq_true rfl) rfl rfl rfl rfl ?_
  refine e_istore_n 2 5 (ls' := [some _, some _]) rfl rfl rfl (Nat.le_of_ble_eq_true rfl) rfl ?_
  refine e_aload_n 3 6 rfl rfl rfl rfl ?_
  refine e_iconst 4 7 rfl rfl ?_
  refine g_putI 5 10 2 ckX5 flX5_24 rfl rfl (Nat.le_of_ble_eq_true rfl) rfl rfl rfl ?_
  refine e_iload_n 6 11 rfl rfl rfl rfl ?_
  exact e_ireturn 7 rfl rfl (Nat.le_of_ble_eq_true rfl) (Nat.le_of_ble_eq_true rfl)
