/-! ===== a call of both ===== -/
abbrev nISE : String := "java/lang/IllegalStateException"
abbrev nIAE : String := "java/lang/IllegalArgumentException"
abbrev nIOB : String := "java/lang/IndexOutOfBoundsException"
abbrev lv9 (x : Int) : xO := .inl (some (.long (ll x)))
/-- one call of the class, then of the model: the same answer, the same exception; the invariant stays -/
def STEP (i : Nat) (Mc Mm : x_MT) (mk : Int → xO) (E : List String) (av : List Value) (σ : xSig) : Prop :=
  ∃ (σ1 σ2 : xSig) (code z y : Int), (0 ≤ code ∧ code ≤ E.length) ∧ (code = 0 → x_Sp Mc 0 0 (.ref 0 :: av) (St σ) (mk z) (St σ1)) ∧ (code ≠ 0 → x_Sp Mc 1 6 (.ref 0 :: av) (St σ) (.inr (E.getD (code.toNat - 1) "")) (St σ1)) ∧
    x_Sp Mm 0 0 (.ref 281 :: av) (St σ1) (mk y) (St σ2) ∧ σ2 281 47 = code ∧ (code = 0 → y = z) ∧ INV (i + 1) σ2
theorem al0 {P : Nat → Prop} : ∀ k ∈ ([] : List Nat), P k := fun k hk => by simp at hk
theorem alc {P : Nat → Prop} {a : Nat} {L : List Nat} (h : P a) (h2 : ∀ k ∈ L, P k) : ∀ k ∈ a :: L, P k := fun k hk => by
  rcases List.mem_cons.mp hk with e | e
  · rw [e]; exact h
  · exact h2 k e
theorem VAll.fp {σ σ' : xSig} {T : Nat → List Int} {L : List (Nat × Int)} (h : VAll σ T) (hF : FP L σ σ') (hL : (L.all fun q => !vA q.1) = true) : VAll σ' T := h.keep fun b hb => hF.cell b (List.all_eq_true.mpr fun q hq => by
  have := List.all_eq_true.mp hL q hq
  simp only [Bool.not_eq_true', bne_iff_ne] at this ⊢
  intro e
  rw [e, hb] at this
  cases this)
theorem INV.go {i : Nat} {σ σ' : xSig} {T : Nat → List Int} {G : Nat → Fo} (L : List (Nat × Int)) (S1 S2 : List Nat) (hA : VAll σ T) (hM : IM i σ T G σ) (hF : FP L σ σ') (hL : (L.all fun q => !vA q.1) = true) (hk : disK S1 L = true) (hr : disR S2 L = true) (h1 : ∀ k ∈ S1, KIc (i + 1) σ' T G k) (h2 : ∀ k ∈ S2, RMc σ' G σ' k) : INV (i + 1) σ' :=
  ⟨T, G, hA.fp hF hL, hM.1.step S1 L (by omega) hF.fv hk (Or.inl ⟨rfl, rfl⟩) h1, hM.2.step S2 L hF.fv hr (Or.inl rfl) h2⟩
/-- what both may change with no meaning -/
theorem INV.same {i : Nat} {σ σ' : xSig} (L : List (Nat × Int)) (h : INV i σ) (hF : FP L σ σ') (hL : ((L.all fun q => !vA q.1) && (disK [] L && disR [] L)) = true) : INV (i + 1) σ' := by
  obtain ⟨T, G, hA, hM⟩ := h
  simp only [Bool.and_eq_true] at hL
  exact INV.go L [] [] hA hM hF hL.1 hL.2.1 hL.2.2 al0 al0
theorem F47 {σ : xSig} {c : Int} : FP [(281, 47)] σ (xu σ 281 47 c) := FP.rf.put rfl
theorem g47 (a b c : Bool) : 0 ≤ gcode a b c ∧ gcode a b c ≤ 3 := by cases a <;> cases b <;> cases c <;> simp [gcode]
/-! drop, clear, documents, now, next -/
theorem st_drop {i : Nat} {σ : xSig} (h : INV i σ) : STEP i MX11_drop MX12_drop iv [] [] σ := by
  obtain ⟨T, G, hA, hM⟩ := h
  have e5 : σ 281 3 = σ 1 2 := hM.2 5
  have hm : x_Sp MX12_drop 0 0 [.ref 281] (St (xu σ 1 2 0)) (iv (σ 281 3)) (St (xu (xu (xu σ 1 2 0) 281 47 0) 281 3 0)) := by
    have q : xu (xu σ 1 2 0) 281 47 0 281 3 = σ 281 3 := by simp [xu]
    refine e_entry okX12_drop (Nat.le_of_ble_eq_true rfl) (ls := [some _, none]) rfl ?_
    refine e_aload_n 0 1 rfl rfl rfl rfl ?_
    refine e_iconst 1 2 rfl rfl ?_
    refine g_putI 2 5 47 ckX12 flX12_118 rfl rfl (Nat.le_of_ble_eq_true rfl) rfl rfl rfl ?_
    refine e_aload_n 3 6 rfl rfl rfl rfl ?_
    refine g_getI 4 9 3 ckX12 flX12_146 rfl rfl (Nat.le_of_ble_eq_true rfl) rfl rfl rfl q ?_
    refine e_istore_n 5 10 (ls' := [some _, some _]) rfl rfl rfl (Nat.le_of_ble_eq_true rfl) rfl ?_
    refine e_aload_n 6 11 rfl rfl rfl rfl ?_
    refine e_iconst 7 12 rfl rfl ?_
    refine g_putI 8 15 3 ckX12 flX12_146 rfl rfl (Nat.le_of_ble_eq_true rfl) rfl rfl rfl ?_
    refine e_iload_n 9 16 rfl rfl rfl rfl ?_
    exact e_ireturn 10 rfl rfl (Nat.le_of_ble_eq_true rfl) (Nat.le_of_ble_eq_true rfl)
  refine ⟨_, _, 0, _, _, ⟨by omega, by simp⟩, fun _ => sp_drop, fun q => absurd rfl q, hm, by simp [xu], fun _ => e5, ?_⟩
  refine INV.go [(1, 2), (281, 47), (281, 3)] [0, 3] [1, 5] hA hM (((FP.rf.put rfl).put rfl).put rfl) (by decide +kernel) rfl rfl (alc ?_ (alc ?_ al0)) (alc ?_ (alc ?_ al0))
  · intro k hk
    have : xu (xu (xu σ 1 2 0) 281 47 0) 281 3 0 1 2 = 0 := by simp [xu]
    rw [this] at hk
    omega
  · show 0 ≤ xu (xu (xu σ 1 2 0) 281 47 0) 281 3 0 1 2 ∧ xu (xu (xu σ 1 2 0) 281 47 0) 281 3 0 1 2 ≤ 10
    simp [xu]
  · intro k hk
    have : xu (xu (xu σ 1 2 0) 281 47 0) 281 3 0 1 2 = 0 := by simp [xu]
    rw [this] at hk
    omega
  · show xu (xu (xu σ 1 2 0) 281 47 0) 281 3 0 281 3 = xu (xu (xu σ 1 2 0) 281 47 0) 281 3 0 1 2
    simp [xu]
theorem st_clear {i : Nat} {σ : xSig} (h : INV i σ) : STEP i MX11_clear MX12_clear iv [] [] σ := by
  obtain ⟨T, G, hA, hM⟩ := h
  have e8 : σ 281 14 = σ 256 4 := (hM.2 8).1
  have hm : x_Sp MX12_clear 0 0 [.ref 281] (St (xu σ 256 4 0)) (iv (σ 281 14)) (St (xu (xu (xu σ 256 4 0) 281 47 0) 281 14 0)) := by
    have q : xu (xu σ 256 4 0) 281 47 0 281 14 = σ 281 14 := by simp [xu]
    refine e_entry okX12_clear (Nat.le_of_ble_eq_true rfl) (ls := [some _, none]) rfl ?_
    refine e_aload_n 0 1 rfl rfl rfl rfl ?_
    refine e_iconst 1 2 rfl rfl ?_
    refine g_putI 2 5 47 ckX12 flX12_118 rfl rfl (Nat.le_of_ble_eq_true rfl) rfl rfl rfl ?_
    refine e_aload_n 3 6 rfl rfl rfl rfl ?_
    refine g_getI 4 9 14 ckX12 flX12_279 rfl rfl (Nat.le_of_ble_eq_true rfl) rfl rfl rfl q ?_
    refine e_istore_n 5 10 (ls' := [some _, some _]) rfl rfl rfl (Nat.le_of_ble_eq_true rfl) rfl ?_
    refine e_aload_n 6 11 rfl rfl rfl rfl ?_
    refine e_iconst 7 12 rfl rfl ?_
    refine g_putI 8 15 14 ckX12 flX12_279 rfl rfl (Nat.le_of_ble_eq_true rfl) rfl rfl rfl ?_
    refine e_iload_n 9 16 rfl rfl rfl rfl ?_
    exact e_ireturn 10 rfl rfl (Nat.le_of_ble_eq_true rfl) (Nat.le_of_ble_eq_true rfl)
  have z4 : xu (xu (xu σ 256 4 0) 281 47 0) 281 14 0 256 4 = 0 := by simp [xu]
  refine ⟨_, _, 0, _, _, ⟨by omega, by simp⟩, fun _ => sp_clear, fun q => absurd rfl q, hm, by simp [xu], fun _ => e8, ?_⟩
  refine INV.go [(256, 4), (281, 47), (281, 14)] [2, 9] [2, 8] hA hM (((FP.rf.put rfl).put rfl).put rfl) (by decide +kernel) rfl rfl (alc ?_ (alc ?_ al0)) (alc ?_ (alc ?_ al0))
  · intro k _ hk
    rw [z4] at hk
    omega
  · have q := hM.1 9
    refine ⟨?_, ?_, by rw [z4]; omega⟩
    · have q1 := q.1
      simpa [xu] using q1
    · have q2 := q.2.1
      simpa [xu] using q2
  · intro k hk
    rw [z4] at hk
    omega
  · refine ⟨by rw [z4]; simp [xu], fun k _ hk => ?_⟩
    rw [z4] at hk
    omega
theorem st_documents {i : Nat} {σ : xSig} (h : INV i σ) : STEP i MX11_documents MX12_documents iv [] [] σ := by
  have hM := h
  obtain ⟨T, G, hA, hM⟩ := hM
  have e4 : σ 281 2 = σ 25 4 := hM.2 4
  have hm : x_Sp MX12_documents 0 0 [.ref 281] (St σ) (iv (σ 281 2)) (St (xu σ 281 47 0)) := by
    have q : xu σ 281 47 0 281 2 = σ 281 2 := by simp [xu]
    refine e_entry okX12_documents (Nat.le_of_ble_eq_true rfl) (ls := [some _]) rfl ?_
    refine e_aload_n 0 1 rfl rfl rfl rfl ?_
    refine e_iconst 1 2 rfl rfl ?_
    refine g_putI 2 5 47 ckX12 flX12_118 rfl rfl (Nat.le_of_ble_eq_true rfl) rfl rfl rfl ?_
    refine e_aload_n 3 6 rfl rfl rfl rfl ?_
    refine g_getI 4 9 2 ckX12 flX12_227 rfl rfl (Nat.le_of_ble_eq_true rfl) rfl rfl rfl q ?_
    exact e_ireturn 5 rfl rfl (Nat.le_of_ble_eq_true rfl) (Nat.le_of_ble_eq_true rfl)
  exact ⟨_, _, 0, _, _, ⟨by omega, by simp⟩, fun _ => sp_documents, fun q => absurd rfl q, hm, xu_same _ _ _ _, fun _ => e4, h.same [(281, 47)] F47 (by decide +kernel)⟩
theorem st_now {i : Nat} {σ : xSig} (h : INV i σ) : STEP i MX11_now MX12_now iv [] [] σ := by
  have hM := h
  obtain ⟨T, G, hA, hM⟩ := hM
  have e4 : σ 281 39 = σ 0 9 := hM.2 21
  have hm : x_Sp MX12_now 0 0 [.ref 281] (St σ) (iv (σ 281 39)) (St (xu σ 281 47 0)) := by
    have q : xu σ 281 47 0 281 39 = σ 281 39 := by simp [xu]
    refine e_entry okX12_now (Nat.le_of_ble_eq_true rfl) (ls := [some _]) rfl ?_
    refine e_aload_n 0 1 rfl rfl rfl rfl ?_
    refine e_iconst 1 2 rfl rfl ?_
    refine g_putI 2 5 47 ckX12 flX12_118 rfl rfl (Nat.le_of_ble_eq_true rfl) rfl rfl rfl ?_
    refine e_aload_n 3 6 rfl rfl rfl rfl ?_
    refine g_getI 4 9 39 ckX12 flX12_340 rfl rfl (Nat.le_of_ble_eq_true rfl) rfl rfl rfl q ?_
    exact e_ireturn 5 rfl rfl (Nat.le_of_ble_eq_true rfl) (Nat.le_of_ble_eq_true rfl)
  exact ⟨_, _, 0, _, _, ⟨by omega, by simp⟩, fun _ => sp_now, fun q => absurd rfl q, hm, xu_same _ _ _ _, fun _ => e4, h.same [(281, 47)] F47 (by decide +kernel)⟩
theorem st_next {i : Nat} {σ : xSig} (h : INV i σ) (hi : i ≤ 512) {x : Int} (hx : xr x) : STEP i MX11_next MX12_next iv [] [.int (ii x)] σ := by
  have hM := h
  obtain ⟨T, G, hA, hM⟩ := hM
  have e4 : σ 281 37 = σ 239 3 := (hM.2 19).1
  have h11 : 0 ≤ σ 239 3 ∧ σ 239 3 + σ 25 4 ≤ 2 * i := hM.1 11
  have h4 := hM.1 4
  have hc0 : 0 ≤ cnd σ := (smN_01 (fun i => bi_01 _) 100 0).1
  have hc : 0 ≤ σ 239 3 ∧ σ 239 3 ≤ 1024 := by have := h4.2.1; omega
  have q : xu σ 281 47 0 281 37 = σ 239 3 := by rw [← e4]; simp [xu]
  have hm : ∃ y, x_Sp MX12_next 0 0 [.ref 281, .int (ii x)] (St σ) (iv y) (St (xu σ 281 47 0)) ∧ y = (if (if x < 0 then 0 else x) < σ 239 3 then (if x < 0 then 0 else x) + 1 else -1) := by
    have fin : ∀ z : Int, xr z → z = (if x < 0 then 1 else if x = 2147483647 then x else x + 1) → ∃ y, x_E MX12_next 0 0 27 [some (.ref 281), some (.int (ii x)), none] [.int (ii z)] (St (xu σ 281 47 0)) 0 0 (iv y) (St (xu σ 281 47 0)) ∧ y = (if (if x < 0 then 0 else x) < σ 239 3 then (if x < 0 then 0 else x) + 1 else -1) := by
      intro z hz hz2
      unfold xr at hx hz
      by_cases hle : z ≤ σ 239 3
      · refine ⟨z, ?_, ?_⟩
        · skip
          refine e_istore_n 15 28 (ls' := [some _, some _, some _]) rfl rfl rfl (Nat.le_of_ble_eq_true rfl) rfl ?_
          refine e_iload_n 16 29 rfl rfl rfl rfl ?_
          refine e_aload_n 17 30 rfl rfl rfl rfl ?_
          refine g_getI 18 33 37 ckX12 flX12_220 rfl rfl (Nat.le_of_ble_eq_true rfl) rfl rfl rfl q ?_
          refine e_icmp_gt 19 40 36 rfl rfl rfl (by unfold xr at *; omega) (by unfold xr at *; omega) (fun h9 => absurd h9 (by omega)) (fun _ => ?_)
          refine e_iload_n 20 37 rfl rfl rfl rfl ?_
          refine e_goto 21 41 rfl rfl ?_
          exact e_ireturn 23 rfl rfl (Nat.le_of_ble_eq_true rfl) (Nat.le_of_ble_eq_true rfl)
        · split at hz2
          · rw [if_pos (by omega)]; omega
          · split at hz2
            · omega
            · rw [if_pos (by omega)]; omega
      · refine ⟨-1, ?_, ?_⟩
        · skip
          refine e_istore_n 15 28 (ls' := [some _, some _, some _]) rfl rfl rfl (Nat.le_of_ble_eq_true rfl) rfl ?_
          refine e_iload_n 16 29 rfl rfl rfl rfl ?_
          refine e_aload_n 17 30 rfl rfl rfl rfl ?_
          refine g_getI 18 33 37 ckX12 flX12_220 rfl rfl (Nat.le_of_ble_eq_true rfl) rfl rfl rfl q ?_
          refine e_icmp_gt 19 40 36 rfl rfl rfl (by unfold xr at *; omega) (by unfold xr at *; omega) (fun _ => ?_) (fun h9 => absurd h9 (by omega))
          refine e_iconst 22 41 rfl rfl ?_
          exact e_ireturn 23 rfl rfl (Nat.le_of_ble_eq_true rfl) (Nat.le_of_ble_eq_true rfl)
        · split at hz2
          · rw [if_neg (by omega)]
          · split at hz2
            · rw [if_neg (by omega)]
            · rw [if_neg (by omega)]
    by_cases h0 : x < 0
    · obtain ⟨y, k1, k2⟩ := fin 1 (by unfold xr; omega) (by rw [if_pos h0])
      refine ⟨y, ?_, k2⟩
      refine e_entry okX12_next (Nat.le_of_ble_eq_true rfl) (ls := [some _, some _, none]) rfl ?_
      refine e_aload_n 0 1 rfl rfl rfl rfl ?_
      refine e_iconst 1 2 rfl rfl ?_
      refine g_putI 2 5 47 ckX12 flX12_118 rfl rfl (Nat.le_of_ble_eq_true rfl) rfl rfl rfl ?_
      refine e_iload_n 3 6 rfl rfl rfl rfl ?_
      refine e_if_ge 4 13 9 rfl rfl rfl (by unfold xr at *; omega) (fun h9 => absurd h9 (by omega)) (fun _ => ?_)
      refine e_iconst 5 10 rfl rfl ?_
      refine e_goto 6 27 rfl rfl ?_
      exact k1
    · by_cases h1 : x = 2147483647
      · obtain ⟨y, k1, k2⟩ := fin x hx (by rw [if_neg h0, if_pos h1])
        refine ⟨y, ?_, k2⟩
        refine e_entry okX12_next (Nat.le_of_ble_eq_true rfl) (ls := [some _, some _, none]) rfl ?_
        refine e_aload_n 0 1 rfl rfl rfl rfl ?_
        refine e_iconst 1 2 rfl rfl ?_
        refine g_putI 2 5 47 ckX12 flX12_118 rfl rfl (Nat.le_of_ble_eq_true rfl) rfl rfl rfl ?_
        refine e_iload_n 3 6 rfl rfl rfl rfl ?_
        refine e_if_ge 4 13 9 rfl rfl rfl (by unfold xr at *; omega) (fun _ => ?_) (fun h9 => absurd h9 (by omega))
        refine e_iload_n 7 14 rfl rfl rfl rfl ?_
        refine e_ldc_w 8 17 kcX12_348 (by rfl : _ = ii 2147483647) rfl rfl ?_
        refine e_icmp_ne 9 24 20 rfl rfl rfl (by unfold xr at *; omega) (by unfold xr at *; omega) (fun h9 => absurd h9 (fun q => q h1)) (fun _ => ?_)
        refine e_iload_n 10 21 rfl rfl rfl rfl ?_
        refine e_goto 11 27 rfl rfl ?_
        exact k1
      · obtain ⟨y, k1, k2⟩ := fin (x + 1) (by unfold xr at *; omega) (by rw [if_neg h0, if_neg h1])
        refine ⟨y, ?_, k2⟩
        refine e_entry okX12_next (Nat.le_of_ble_eq_true rfl) (ls := [some _, some _, none]) rfl ?_
        refine e_aload_n 0 1 rfl rfl rfl rfl ?_
        refine e_iconst 1 2 rfl rfl ?_
        refine g_putI 2 5 47 ckX12 flX12_118 rfl rfl (Nat.le_of_ble_eq_true rfl) rfl rfl rfl ?_
        refine e_iload_n 3 6 rfl rfl rfl rfl ?_
        refine e_if_ge 4 13 9 rfl rfl rfl (by unfold xr at *; omega) (fun _ => ?_) (fun h9 => absurd h9 (by omega))
        refine e_iload_n 7 14 rfl rfl rfl rfl ?_
        refine e_ldc_w 8 17 kcX12_348 (by rfl : _ = ii 2147483647) rfl rfl ?_
        refine e_icmp_ne 9 24 20 rfl rfl rfl (by unfold xr at *; omega) (by unfold xr at *; omega) (fun _ => ?_) (fun h9 => absurd h9 h1)
        refine e_iload_n 12 25 rfl rfl rfl rfl ?_
        refine e_iconst 13 26 rfl rfl ?_
        refine e_iadd 14 27 rfl rfl ?_
        exact k1
  obtain ⟨y, k1, k2⟩ := hm
  exact ⟨_, _, 0, _, _, ⟨by omega, by simp⟩, fun _ => sp_next hc hx, fun q => absurd rfl q, k1, xu_same _ _ _ _, fun _ => k2, h.same [(281, 47)] F47 (by decide +kernel)⟩
/-! change, router, expire, clean, plan, found -/
theorem decF {p : Prop} [Decidable p] (h : ¬ p) : decide p = false := decide_eq_false h
