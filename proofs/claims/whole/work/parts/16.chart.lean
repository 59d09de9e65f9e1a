/-! ===== Chart: reading ===== -/
/-- the chart's numbers are in their ranges -/
def CHR (σ : xSig) : Prop := (1 ≤ σ 231 7 ∧ σ 231 7 ≤ 12) ∧ (0 ≤ σ 231 9 ∧ σ 231 9 < 8) ∧ (σ 231 10 = 0 ∨ σ 231 10 = 1) ∧ (-1 ≤ σ 231 11 ∧ σ 231 11 < 12) ∧ (-1 ≤ σ 231 12 ∧ σ 231 12 < 3) ∧ (∀ i : Int, 0 ≤ σ 232 i ∧ σ 232 i ≤ 1000) ∧ (∀ i : Int, 0 ≤ σ 233 i ∧ σ 233 i < 3) ∧ n01 σ 235
theorem sp_chSize {σ : xSig} : Rd MX0_size [.ref 231] σ (iv (σ 231 7)) := by
  refine e_entry okX0_size (Nat.le_of_ble_eq_true rfl) (ls := [some _]) rfl ?_
  refine e_aload_n 0 1 rfl rfl rfl rfl ?_
  refine g_getI 1 4 7 ckX0 flX0_34 rfl rfl (Nat.le_of_ble_eq_true rfl) rfl rfl rfl rfl ?_
  exact e_ireturn 2 rfl rfl (Nat.le_of_ble_eq_true rfl) (Nat.le_of_ble_eq_true rfl)
def chas (σ : xSig) (c : Int) : Bool := decide (0 ≤ c ∧ c < σ 231 7)
theorem sp_chHas {σ : xSig} (h : CHR σ) {c : Int} (hc : xr c) : Rd MX0_has [.ref 231, .int (ii c)] σ (zv (chas σ c)) := by
  have h1 := h.1
  unfold xr at hc
  have no : chas σ c = false → x_E MX0_has 0 0 22 [some (.ref 231), some (.int (ii c))] [] (St σ) 0 0 (zv (chas σ c)) (St σ) := by
    intro e
    rw [e]
    refine e_iconst 11 23 rfl rfl ?_
    exact e_zreturn (x := 0) 12 rfl rfl (by omega) (Nat.le_of_ble_eq_true rfl) (Nat.le_of_ble_eq_true rfl)
  refine e_entry okX0_has (Nat.le_of_ble_eq_true rfl) (ls := [some _, some _]) rfl ?_
  refine e_iload_n 0 1 rfl rfl rfl rfl ?_
  refine e_if_lt 1 22 4 rfl rfl rfl (by unfold xr at *; omega) (fun h2 => ?_) (fun h2 => ?_)
  · skip
    exact no (decide_eq_false (by omega))
  · skip
    refine e_iload_n 2 5 rfl rfl rfl rfl ?_
    refine e_aload_n 3 6 rfl rfl rfl rfl ?_
    refine g_getI 4 9 7 ckX0 flX0_34 rfl rfl (Nat.le_of_ble_eq_true rfl) rfl rfl rfl rfl ?_
    refine e_icmp_ge 5 22 12 rfl rfl rfl (by unfold xr at *; omega) (by unfold xr at *; omega) (fun h3 => ?_) (fun h3 => ?_)
    · skip
      exact no (decide_eq_false (by omega))
    · skip
      refine e_iload_n 6 13 rfl rfl rfl rfl ?_
      refine e_bipush 7 15 rfl rfl rfl ?_
      refine e_icmp_ge 8 22 18 rfl rfl rfl (by unfold xr at *; omega) (by unfold xr at *; omega) (fun h9 => absurd h9 (by omega)) (fun _ => ?_)
      rw [show chas σ c = true from decide_eq_true (by omega)]
      refine e_iconst 9 19 rfl rfl ?_
      refine e_goto 10 23 rfl rfl ?_
      exact e_zreturn (x := 1) 12 rfl rfl (by omega) (Nat.le_of_ble_eq_true rfl) (Nat.le_of_ble_eq_true rfl)
def cfst (σ : xSig) (c : Int) : Int := if chas σ c = true then σ 232 c else 1000
def cown (σ : xSig) (c : Int) : Int := if chas σ c = true then σ 233 c else -1
theorem cfst_bnd {σ : xSig} (h : CHR σ) (c : Int) : 0 ≤ cfst σ c ∧ cfst σ c ≤ 1000 := by
  unfold cfst
  split
  · exact h.2.2.2.2.2.1 c
  · omega
theorem cown_bnd {σ : xSig} (h : CHR σ) (c : Int) : -1 ≤ cown σ c ∧ cown σ c < 3 := by
  unfold cown
  split
  · have := h.2.2.2.2.2.2.1 c; omega
  · omega
theorem sp_firstOf {σ : xSig} (h : CHR σ) {c : Int} (hc : xr c) : Rd MX0_firstOf [.ref 231, .int (ii c)] σ (iv (cfst σ c)) := by
  have h1 := h.1
  refine e_entry okX0_firstOf (Nat.le_of_ble_eq_true rfl) (ls := [some _, some _]) rfl ?_
  refine e_aload_n 0 1 rfl rfl rfl rfl ?_
  refine e_iload_n 1 2 rfl rfl rfl rfl ?_
  refine g_callV 2 5 (sp_chHas h hc) okX0_has cvX0_57 ⟨(Nat.le_of_ble_eq_true rfl), (Nat.le_of_ble_eq_true rfl)⟩ rfl rfl (Nat.le_of_ble_eq_true rfl) rfl rfl rfl rfl rfl (Nat.le_of_ble_eq_true rfl) (Nat.le_of_ble_eq_true rfl) (Nat.le_of_ble_eq_true rfl) ?_
  refine e_ifb_eq 3 17 8 rfl rfl rfl (fun h2 => ?_) (fun h2 => ?_)
  · skip
    rw [show cfst σ c = 1000 by unfold cfst; rw [h2]; rfl]
    refine e_sipush 9 20 rfl rfl rfl ?_
    exact e_ireturn 10 rfl rfl (Nat.le_of_ble_eq_true rfl) (Nat.le_of_ble_eq_true rfl)
  · skip
    have h3 : 0 ≤ c ∧ c < σ 231 7 := of_decide_eq_true h2
    rw [show cfst σ c = σ 232 c by unfold cfst; rw [if_pos h2]]
    refine e_aload_n 4 9 rfl rfl rfl rfl ?_
    refine g_getR 5 12 ckX0 flX0_9 rfl rfl (Nat.le_of_ble_eq_true rfl) rfl rfl ?_
    refine e_iload_n 6 13 rfl rfl rfl rfl ?_
    refine g_iaload 7 14 rfl rfl (Nat.le_of_ble_eq_true rfl) rfl (by omega) (by omega) (by omega) rfl ?_
    refine e_goto 8 20 rfl rfl ?_
    exact e_ireturn 10 rfl rfl (Nat.le_of_ble_eq_true rfl) (Nat.le_of_ble_eq_true rfl)
theorem sp_chEndOf {σ : xSig} (h : CHR σ) {c : Int} (hc : xr (c + 1)) : Rd MX0_endOf [.ref 231, .int (ii c)] σ (iv (cfst σ (c + 1))) := by
  refine e_entry okX0_endOf (Nat.le_of_ble_eq_true rfl) (ls := [some _, some _]) rfl ?_
  refine e_aload_n 0 1 rfl rfl rfl rfl ?_
  refine e_iload_n 1 2 rfl rfl rfl rfl ?_
  refine e_iconst 2 3 rfl rfl ?_
  refine e_iadd 3 4 rfl rfl ?_
  refine g_callV 4 7 (sp_firstOf h hc) okX0_firstOf cvX0_61 ⟨(Nat.le_of_ble_eq_true rfl), (Nat.le_of_ble_eq_true rfl)⟩ rfl rfl (Nat.le_of_ble_eq_true rfl) rfl rfl rfl rfl rfl (Nat.le_of_ble_eq_true rfl) (Nat.le_of_ble_eq_true rfl) (Nat.le_of_ble_eq_true rfl) ?_
  exact e_ireturn 5 rfl rfl (Nat.le_of_ble_eq_true rfl) (Nat.le_of_ble_eq_true rfl)
theorem sp_ownerOf {σ : xSig} (h : CHR σ) {c : Int} (hc : xr c) : Rd MX0_ownerOf [.ref 231, .int (ii c)] σ (iv (cown σ c)) := by
  have h1 := h.1
  refine e_entry okX0_ownerOf (Nat.le_of_ble_eq_true rfl) (ls := [some _, some _]) rfl ?_
  refine e_aload_n 0 1 rfl rfl rfl rfl ?_
  refine e_iload_n 1 2 rfl rfl rfl rfl ?_
  refine g_callV 2 5 (sp_chHas h hc) okX0_has cvX0_57 ⟨(Nat.le_of_ble_eq_true rfl), (Nat.le_of_ble_eq_true rfl)⟩ rfl rfl (Nat.le_of_ble_eq_true rfl) rfl rfl rfl rfl rfl (Nat.le_of_ble_eq_true rfl) (Nat.le_of_ble_eq_true rfl) (Nat.le_of_ble_eq_true rfl) ?_
  refine e_ifb_eq 3 17 8 rfl rfl rfl (fun h2 => ?_) (fun h2 => ?_)
  · skip
    rw [show cown σ c = -1 by unfold cown; rw [h2]; rfl]
    refine e_iconst 9 18 rfl rfl ?_
    exact e_ireturn 10 rfl rfl (Nat.le_of_ble_eq_true rfl) (Nat.le_of_ble_eq_true rfl)
  · skip
    have h3 : 0 ≤ c ∧ c < σ 231 7 := of_decide_eq_true h2
    rw [show cown σ c = σ 233 c by unfold cown; rw [if_pos h2]]
    refine e_aload_n 4 9 rfl rfl rfl rfl ?_
    refine g_getR 5 12 ckX0 flX0_15 rfl rfl (Nat.le_of_ble_eq_true rfl) rfl rfl ?_
    refine e_iload_n 6 13 rfl rfl rfl rfl ?_
    refine g_iaload 7 14 rfl rfl (Nat.le_of_ble_eq_true rfl) rfl (by omega) (by omega) (by omega) rfl ?_
    refine e_goto 8 18 rfl rfl ?_
    exact e_ireturn 10 rfl rfl (Nat.le_of_ble_eq_true rfl) (Nat.le_of_ble_eq_true rfl)
def fnum (t : List Int) (f : Int) : Int := tok t (pl1 t f) - 2000
def fwrd (t : List Int) (f : Int) : Int := tok t (pl1 t f) - 3000
def kyo (σ : xSig) (t : List Int) : Int :=
  if σ 231 10 = 0 then (if fk t (σ 231 9) = 1 then (if 0 < fnum t (σ 231 9) then fnum t (σ 231 9) else 0) else 0)
  else if fk t (σ 231 9) = 1 then 7919 * (fnum t (σ 231 9) + 1000) % 1000 else if fk t (σ 231 9) = 2 then (104729 * fwrd t (σ 231 9) + 500) % 1000 else 250
theorem knd_1 {x : Int} (h : knd x = 1) : 1001 ≤ x ∧ x < 3000 := by
  unfold knd at h
  split at h
  · omega
  · split at h
    · omega
    · split at h
      · omega
      · split at h
        · omega
        · omega
theorem knd_2 {x : Int} (h : knd x = 2) : 3000 ≤ x ∧ x < 4000 := by
  unfold knd at h
  split at h
  · omega
  · split at h
    · omega
    · split at h
      · omega
      · split at h <;> omega
theorem kyo_bnd (σ : xSig) (t : List Int) : 0 ≤ kyo σ t ∧ kyo σ t < 1000 := by
  unfold kyo
  split
  · split
    · next h =>
      have := knd_1 h
      unfold fnum
      split <;> omega
    · omega
  · split
    · omega
    · split <;> omega
theorem sp_keyOf {σ : xSig} (h : CHR σ) {a cap : Nat} {t : List Int} (hV : VH σ a cap t) : Rd MX0_keyOf [.ref 231, .ref a] σ (iv (kyo σ t)) := by
  have hkf := h.2.1
  have hhs := h.2.2.1
  have hb := pl1_bnd hV (σ 231 9)
  have hkb := knd_bnd (tok t (pl1 t (σ 231 9)))
  have hxr : xr (pl1 t (σ 231 9)) := by unfold xr; omega
  unfold kyo fk fnum fwrd
  refine e_entry okX0_keyOf (Nat.le_of_ble_eq_true rfl) (ls := [some _, some _, none, none]) rfl ?_
  refine e_aload_n 0 1 rfl rfl rfl rfl ?_
  refine e_iconst 1 2 rfl rfl ?_
  refine e_aload_n 2 3 rfl rfl rfl rfl ?_
  refine g_getI 3 6 9 ckX0 flX0_41 rfl rfl (Nat.le_of_ble_eq_true rfl) rfl rfl rfl rfl ?_
  refine g_callV 4 9 (sp_pl1 hV hkf) okX10_placeOf cvX0_65 ⟨(Nat.le_of_ble_eq_true rfl), (Nat.le_of_ble_eq_true rfl)⟩ rfl rfl hV.1.1 hV.1.2.2.1 rfl rfl rfl rfl (Nat.le_of_ble_eq_true rfl) (Nat.le_of_ble_eq_true rfl) (Nat.le_of_ble_eq_true rfl) ?_
  refine e_istore_n 5 10 (ls' := [some _, some _, some _, none]) rfl rfl rfl (Nat.le_of_ble_eq_true rfl) rfl ?_
  refine e_aload_n 6 11 rfl rfl rfl rfl ?_
  refine e_iload_n 7 12 rfl rfl rfl rfl ?_
  refine g_callV 8 15 (sp_kindAt hV hxr) okX10_kindAt cvX0_71 ⟨(Nat.le_of_ble_eq_true rfl), (Nat.le_of_ble_eq_true rfl)⟩ rfl rfl hV.1.1 hV.1.2.2.1 rfl rfl rfl rfl (Nat.le_of_ble_eq_true rfl) (Nat.le_of_ble_eq_true rfl) (Nat.le_of_ble_eq_true rfl) ?_
  refine e_istore_n 9 16 (ls' := [some _, some _, some _, some _]) rfl rfl rfl (Nat.le_of_ble_eq_true rfl) rfl ?_
  refine e_aload_n 10 17 rfl rfl rfl rfl ?_
  refine g_getI 11 20 10 ckX0 flX0_44 rfl rfl (Nat.le_of_ble_eq_true rfl) rfl rfl rfl rfl ?_
  refine e_if_ne 12 42 23 rfl rfl rfl (by unfold xr at *; omega) (fun h1 => ?_) (fun h1 => ?_)
  · skip
    rw [if_neg h1]
    refine e_iload_n 24 43 rfl rfl rfl rfl ?_
    refine e_iconst 25 44 rfl rfl ?_
    refine e_icmp_ne 26 65 47 rfl rfl rfl (by unfold xr at *; omega) (by unfold xr at *; omega) (fun h2 => ?_) (fun h2 => ?_)
    · skip
      rw [if_neg h2]
      refine e_iload_n 37 66 rfl rfl rfl rfl ?_
      refine e_iconst 38 67 rfl rfl ?_
      refine e_icmp_ne 39 89 70 rfl rfl rfl (by unfold xr at *; omega) (by unfold xr at *; omega) (fun h3 => ?_) (fun h3 => ?_)
      · skip
        rw [if_neg h3]
        refine e_sipush 50 92 rfl rfl rfl ?_
        exact e_ireturn 51 rfl rfl (Nat.le_of_ble_eq_true rfl) (Nat.le_of_ble_eq_true rfl)
      · skip
        have hw := knd_2 h3
        rw [if_pos h3]
        refine e_ldc 40 72 kcX0_82 (by rfl : _ = ii 104729) rfl rfl ?_
        refine e_aload_n 41 73 rfl rfl rfl rfl ?_
        refine e_iload_n 42 74 rfl rfl rfl rfl ?_
        refine g_callV 43 77 (sp_wordAt hV hxr) okX10_wordAt cvX0_83 ⟨(Nat.le_of_ble_eq_true rfl), (Nat.le_of_ble_eq_true rfl)⟩ rfl rfl hV.1.1 hV.1.2.2.1 rfl rfl rfl rfl (Nat.le_of_ble_eq_true rfl) (Nat.le_of_ble_eq_true rfl) (Nat.le_of_ble_eq_true rfl) ?_
        refine e_imul 44 78 rfl rfl ?_
        refine e_sipush 45 81 rfl rfl rfl ?_
        refine e_iadd 46 82 rfl rfl ?_
        refine e_sipush 47 85 rfl rfl rfl ?_
        refine e_irem 48 86 rfl rfl (by decide) (ii_rem (by omega) (by omega)) ?_
        refine e_goto 49 92 rfl rfl ?_
        exact e_ireturn 51 rfl rfl (Nat.le_of_ble_eq_true rfl) (Nat.le_of_ble_eq_true rfl)
    · skip
      have hw := knd_1 h2
      rw [if_pos h2]
      refine e_sipush 27 50 rfl rfl rfl ?_
      refine e_aload_n 28 51 rfl rfl rfl rfl ?_
      refine e_iload_n 29 52 rfl rfl rfl rfl ?_
      refine g_callV 30 55 (sp_numberAt hV hxr) okX10_numberAt cvX0_74 ⟨(Nat.le_of_ble_eq_true rfl), (Nat.le_of_ble_eq_true rfl)⟩ rfl rfl hV.1.1 hV.1.2.2.1 rfl rfl rfl rfl (Nat.le_of_ble_eq_true rfl) (Nat.le_of_ble_eq_true rfl) (Nat.le_of_ble_eq_true rfl) ?_
      refine e_sipush 31 58 rfl rfl rfl ?_
      refine e_iadd 32 59 rfl rfl ?_
      refine e_imul 33 60 rfl rfl ?_
      refine e_sipush 34 63 rfl rfl rfl ?_
      refine e_irem 35 64 rfl rfl (by decide) (ii_rem (by omega) (by omega)) ?_
      exact e_ireturn 36 rfl rfl (Nat.le_of_ble_eq_true rfl) (Nat.le_of_ble_eq_true rfl)
  · skip
    rw [if_pos h1]
    refine e_iload_n 13 24 rfl rfl rfl rfl ?_
    refine e_iconst 14 25 rfl rfl ?_
    refine e_icmp_ne 15 40 28 rfl rfl rfl (by unfold xr at *; omega) (by unfold xr at *; omega) (fun h2 => ?_) (fun h2 => ?_)
    · skip
      rw [if_neg h2]
      refine e_iconst 22 41 rfl rfl ?_
      exact e_ireturn 23 rfl rfl (Nat.le_of_ble_eq_true rfl) (Nat.le_of_ble_eq_true rfl)
    · skip
      have hw := knd_1 h2
      rw [if_pos h2]
      refine e_iconst 16 29 rfl rfl ?_
      refine e_aload_n 17 30 rfl rfl rfl rfl ?_
      refine e_iload_n 18 31 rfl rfl rfl rfl ?_
      refine g_callV 19 34 (sp_numberAt hV hxr) okX10_numberAt cvX0_74 ⟨(Nat.le_of_ble_eq_true rfl), (Nat.le_of_ble_eq_true rfl)⟩ rfl rfl hV.1.1 hV.1.2.2.1 rfl rfl rfl rfl (Nat.le_of_ble_eq_true rfl) (Nat.le_of_ble_eq_true rfl) (Nat.le_of_ble_eq_true rfl) ?_
      refine e_max 20 37 rfl rfl mxX0_77 (Nat.le_of_ble_eq_true rfl) (Nat.le_of_ble_eq_true rfl) (Nat.le_of_ble_eq_true rfl) (Nat.le_of_ble_eq_true rfl) (Nat.le_of_ble_eq_true rfl) (by unfold xr at *; omega) (by unfold xr at *; omega) ?_
      refine e_goto 21 41 rfl rfl ?_
      exact e_ireturn 23 rfl rfl (Nat.le_of_ble_eq_true rfl) (Nat.le_of_ble_eq_true rfl)
/-- the last place from i on, n places, whose key is not above k; else c -/
def lstLe (f : Int → Int) (k : Int) : Nat → Nat → Int → Int
  | _, 0, c => c
  | i, n + 1, c => lstLe f k (i + 1) n (if f i ≤ k then (i : Int) else c)
theorem lstLe_bnd {f : Int → Int} {k : Int} : ∀ (n i : Nat) (c : Int), 0 ≤ c → c < i → 0 ≤ lstLe f k i n c ∧ lstLe f k i n c < i + n := by
  intro n
  induction n with
  | zero => intro i c h1 h2; simp only [lstLe]; omega
  | succ n ih =>
    intro i c h1 h2
    simp only [lstLe]
    have := ih (i + 1) (if f i ≤ k then (i : Int) else c) (by split <;> omega) (by split <;> omega)
    omega
def chk (σ : xSig) (t : List Int) : Int := lstLe (cfst σ) (kyo σ t) 1 (σ 231 7 - 1).toNat 0
theorem chk_bnd {σ : xSig} (h : CHR σ) (t : List Int) : 0 ≤ chk σ t ∧ chk σ t < σ 231 7 := by
  have h1 := h.1
  have := lstLe_bnd (f := cfst σ) (k := kyo σ t) (σ 231 7 - 1).toNat 1 0 (by omega) (by omega)
  unfold chk
  omega
theorem sp_chunkOf {σ : xSig} (h : CHR σ) {a cap : Nat} {t : List Int} (hV : VH σ a cap t) : Rd MX0_chunkOf [.ref 231, .ref a] σ (iv (chk σ t)) := by
  have h1 := h.1
  have hkb := kyo_bnd σ t
  have loop : ∀ (n i : Nat) (c : Int), (i : Int) + n = σ 231 7 → 0 ≤ c → c < i → x_E MX0_chunkOf 0 0 11 [some (.ref 231), some (.ref a), some (.int (ii (kyo σ t))), some (.int (ii c)), some (.int (ii i))] [] (St σ) 0 0 (iv (lstLe (cfst σ) (kyo σ t) i n c)) (St σ) := by
    intro n
    induction n with
    | zero =>
      intro i c hi h0 h2
      refine e_iload 8 13 rfl rfl rfl ?_
      refine e_aload_n 9 14 rfl rfl rfl rfl ?_
      refine g_getI 10 17 7 ckX0 flX0_34 rfl rfl (Nat.le_of_ble_eq_true rfl) rfl rfl rfl rfl ?_
      refine e_icmp_ge 11 39 20 rfl rfl rfl (by unfold xr at *; omega) (by unfold xr at *; omega) (fun _ => ?_) (fun h9 => absurd h9 (by omega))
      refine e_iload_n 21 40 rfl rfl rfl rfl ?_
      exact e_ireturn 22 rfl rfl (Nat.le_of_ble_eq_true rfl) (Nat.le_of_ble_eq_true rfl)
    | succ n ih =>
      intro i c hi h0 h2
      have hf := cfst_bnd h i
      simp only [lstLe]
      have hn := fun c' (q0 : 0 ≤ c') (q1 : c' < (i : Int) + 1) => ih (i + 1) c' (by omega) q0 (by omega)
      rw [show (((i + 1 : Nat)) : Int) = (i : Int) + 1 by omega] at hn
      refine e_iload 8 13 rfl rfl rfl ?_
      refine e_aload_n 9 14 rfl rfl rfl rfl ?_
      refine g_getI 10 17 7 ckX0 flX0_34 rfl rfl (Nat.le_of_ble_eq_true rfl) rfl rfl rfl rfl ?_
      refine e_icmp_ge 11 39 20 rfl rfl rfl (by unfold xr at *; omega) (by unfold xr at *; omega) (fun h9 => absurd h9 (by omega)) (fun _ => ?_)
      refine e_aload_n 12 21 rfl rfl rfl rfl ?_
      refine e_iload 13 23 rfl rfl rfl ?_
      refine g_callV 14 26 (sp_firstOf h (c := i) (by unfold xr; omega)) okX0_firstOf cvX0_61 ⟨(Nat.le_of_ble_eq_true rfl), (Nat.le_of_ble_eq_true rfl)⟩ rfl rfl (Nat.le_of_ble_eq_true rfl) rfl rfl rfl rfl rfl (Nat.le_of_ble_eq_true rfl) (Nat.le_of_ble_eq_true rfl) (Nat.le_of_ble_eq_true rfl) ?_
      refine e_iload_n 15 27 rfl rfl rfl rfl ?_
      refine e_icmp_gt 16 33 30 rfl rfl rfl (by unfold xr at *; omega) (by unfold xr at *; omega) (fun h3 => ?_) (fun h3 => ?_)
      · skip
        rw [if_neg (by omega)]
        refine e_iinc 19 36 (ls' := [some _, some _, some _, some _, some _]) rfl rfl (Nat.le_of_ble_eq_true rfl) rfl rfl ?_
        refine e_goto 20 11 rfl rfl ?_
        exact hn c h0 (by omega)
      · skip
        rw [if_pos h3]
        refine e_iload 17 32 rfl rfl rfl ?_
        refine e_istore_n 18 33 (ls' := [some _, some _, some _, some _, some _]) rfl rfl rfl (Nat.le_of_ble_eq_true rfl) rfl ?_
        refine e_iinc 19 36 (ls' := [some _, some _, some _, some _, some _]) rfl rfl (Nat.le_of_ble_eq_true rfl) rfl rfl ?_
        refine e_goto 20 11 rfl rfl ?_
        exact hn i (by omega) (by omega)
  refine e_entry okX0_chunkOf (Nat.le_of_ble_eq_true rfl) (ls := [some _, some _, none, none, none]) rfl ?_
  refine e_aload_n 0 1 rfl rfl rfl rfl ?_
  refine e_aload_n 1 2 rfl rfl rfl rfl ?_
  refine g_callV 2 5 (sp_keyOf h hV) okX0_keyOf cvX0_86 ⟨(Nat.le_of_ble_eq_true rfl), (Nat.le_of_ble_eq_true rfl)⟩ rfl rfl (Nat.le_of_ble_eq_true rfl) rfl rfl rfl rfl rfl (Nat.le_of_ble_eq_true rfl) (Nat.le_of_ble_eq_true rfl) (Nat.le_of_ble_eq_true rfl) ?_
  refine e_istore_n 3 6 (ls' := [some _, some _, some _, none, none]) rfl rfl rfl (Nat.le_of_ble_eq_true rfl) rfl ?_
  refine e_iconst 4 7 rfl rfl ?_
  refine e_istore_n 5 8 (ls' := [some _, some _, some _, some _, none]) rfl rfl rfl (Nat.le_of_ble_eq_true rfl) rfl ?_
  refine e_iconst 6 9 rfl rfl ?_
  refine e_istore 7 11 (ls' := [some _, some _, some _, some _, some _]) rfl rfl (Nat.le_of_ble_eq_true rfl) rfl ?_
  exact loop (σ 231 7 - 1).toNat 1 0 (by omega) (by omega) (by omega)
def shd (σ : xSig) (t : List Int) : Int := cown σ (chk σ t)
theorem shd_eq {σ : xSig} (h : CHR σ) (t : List Int) : shd σ t = σ 233 (chk σ t) := by
  have := chk_bnd h t
  unfold shd cown chas
  rw [if_pos (decide_eq_true this)]
theorem sp_shardOf {σ : xSig} (h : CHR σ) {a cap : Nat} {t : List Int} (hV : VH σ a cap t) : Rd MX0_shardOf [.ref 231, .ref a] σ (iv (shd σ t)) := by
  have h1 := h.1
  have hb := chk_bnd h t
  refine e_entry okX0_shardOf (Nat.le_of_ble_eq_true rfl) (ls := [some _, some _]) rfl ?_
  refine e_aload_n 0 1 rfl rfl rfl rfl ?_
  refine e_aload_n 1 2 rfl rfl rfl rfl ?_
  refine e_aload_n 2 3 rfl rfl rfl rfl ?_
  refine g_callV 3 6 (sp_chunkOf h hV) okX0_chunkOf cvX0_90 ⟨(Nat.le_of_ble_eq_true rfl), (Nat.le_of_ble_eq_true rfl)⟩ rfl rfl (Nat.le_of_ble_eq_true rfl) rfl rfl rfl rfl rfl (Nat.le_of_ble_eq_true rfl) (Nat.le_of_ble_eq_true rfl) (Nat.le_of_ble_eq_true rfl) ?_
  refine g_callV 4 9 (sp_ownerOf h (by unfold xr; omega)) okX0_ownerOf cvX0_93 ⟨(Nat.le_of_ble_eq_true rfl), (Nat.le_of_ble_eq_true rfl)⟩ rfl rfl (Nat.le_of_ble_eq_true rfl) rfl rfl rfl rfl rfl (Nat.le_of_ble_eq_true rfl) (Nat.le_of_ble_eq_true rfl) (Nat.le_of_ble_eq_true rfl) ?_
  exact e_ireturn 5 rfl rfl (Nat.le_of_ble_eq_true rfl) (Nat.le_of_ble_eq_true rfl)
def cin (σ : xSig) (T : Nat → List Int) (c : Int) : Int := smN (fun n => if hasd σ n = true ∧ chk σ (T (31 + 2 * n)) = c then 1 else 0) 0 100
def cat9 (σ : xSig) (T : Nat → List Int) (c : Int) : Int := smN (fun n => if hasd σ n = true ∧ shd σ (T (31 + 2 * n)) = c then 1 else 0) 0 100
theorem sp_countIn {σ : xSig} {T : Nat → List Int} (hA : VAll σ T) (h01 : n01 σ 27) (h : CHR σ) {c : Int} (hc : xr c) : Rd MX0_countIn [.ref 231, .ref 25, .int (ii c)] σ (iv (cin σ T c)) := by
  have h1 := h.1
  have loop : ∀ (n i : Nat) (w : Int), i + n = 100 → 0 ≤ w → w ≤ i → x_E MX0_countIn 0 0 5 [some (.ref 231), some (.ref 25), some (.int (ii c)), some (.int (ii w)), some (.int (ii i))] [] (St σ) 0 0 (iv (w + smN (fun n => if hasd σ n = true ∧ chk σ (T (31 + 2 * n)) = c then 1 else 0) i n)) (St σ) := by
    intro n
    induction n with
    | zero =>
      intro i w hi h0 h2
      simp only [smN, Int.add_zero]
      refine e_iload 4 7 rfl rfl rfl ?_
      refine e_bipush 5 9 rfl rfl rfl ?_
      refine e_icmp_ge 6 44 12 rfl rfl rfl (by unfold xr at *; omega) (by unfold xr at *; omega) (fun _ => ?_) (fun h9 => absurd h9 (by omega))
      refine e_iload_n 21 45 rfl rfl rfl rfl ?_
      exact e_ireturn 22 rfl rfl (Nat.le_of_ble_eq_true rfl) (Nat.le_of_ble_eq_true rfl)
    | succ n ih =>
      intro i w hi h0 h2
      have hn := fun w' (q0 : 0 ≤ w') (q1 : w' ≤ (i : Int) + 1) => ih (i + 1) w' (by omega) q0 (by omega)
      rw [show (((i + 1 : Nat)) : Int) = (i : Int) + 1 by omega] at hn
      simp only [smN]
      refine e_iload 4 7 rfl rfl rfl ?_
      refine e_bipush 5 9 rfl rfl rfl ?_
      refine e_icmp_ge 6 44 12 rfl rfl rfl (by unfold xr at *; omega) (by unfold xr at *; omega) (fun h9 => absurd h9 (by omega)) (fun _ => ?_)
      refine e_aload_n 7 13 rfl rfl rfl rfl ?_
      refine e_iload 8 15 rfl rfl rfl ?_
      refine g_callV 9 18 (sp_has h01 (n := i) (by unfold xr; omega)) okX8_has cvX0_96 ⟨(Nat.le_of_ble_eq_true rfl), (Nat.le_of_ble_eq_true rfl)⟩ rfl rfl (Nat.le_of_ble_eq_true rfl) rfl rfl rfl rfl rfl (Nat.le_of_ble_eq_true rfl) (Nat.le_of_ble_eq_true rfl) (Nat.le_of_ble_eq_true rfl) ?_
      refine e_ifb_eq 10 38 21 rfl rfl rfl (fun h3 => ?_) (fun h3 => ?_)
      · skip
        rw [if_neg (fun q => by rw [h3] at q; cases q.1), Int.zero_add]
        refine e_iinc 19 41 (ls' := [some _, some _, some _, some _, some _]) rfl rfl (Nat.le_of_ble_eq_true rfl) rfl rfl ?_
        refine e_goto 20 5 rfl rfl ?_
        exact hn w h0 (by omega)
      · skip
        have hat := sp_stAt h01 (n := i) (by unfold xr; omega)
        rw [da_has h3] at hat
        have hb := chk_bnd h (T (31 + 2 * i))
        refine e_aload_n 11 22 rfl rfl rfl rfl ?_
        refine e_aload_n 12 23 rfl rfl rfl rfl ?_
        refine e_iload 13 25 rfl rfl rfl ?_
        refine g_callV 14 28 (hat) okX8_at cvX0_99 ⟨(Nat.le_of_ble_eq_true rfl), (Nat.le_of_ble_eq_true rfl)⟩ rfl rfl (Nat.le_of_ble_eq_true rfl) rfl rfl rfl rfl rfl (Nat.le_of_ble_eq_true rfl) (Nat.le_of_ble_eq_true rfl) (Nat.le_of_ble_eq_true rfl) ?_
        refine g_callV 15 31 (sp_chunkOf h (hA _ (vO_s i (by omega)).1)) okX0_chunkOf cvX0_90 ⟨(Nat.le_of_ble_eq_true rfl), (Nat.le_of_ble_eq_true rfl)⟩ rfl rfl (Nat.le_of_ble_eq_true rfl) rfl rfl rfl rfl rfl (Nat.le_of_ble_eq_true rfl) (Nat.le_of_ble_eq_true rfl) (Nat.le_of_ble_eq_true rfl) ?_
        refine e_iload_n 16 32 rfl rfl rfl rfl ?_
        refine e_icmp_ne 17 38 35 rfl rfl rfl (by unfold xr at *; omega) (by unfold xr at *; omega) (fun h4 => ?_) (fun h4 => ?_)
        · skip
          rw [if_neg (fun q => h4 q.2), Int.zero_add]
          refine e_iinc 19 41 (ls' := [some _, some _, some _, some _, some _]) rfl rfl (Nat.le_of_ble_eq_true rfl) rfl rfl ?_
          refine e_goto 20 5 rfl rfl ?_
          exact hn w h0 (by omega)
        · skip
          rw [if_pos ⟨h3, h4⟩, ← Int.add_assoc]
          refine e_iinc 18 38 (ls' := [some _, some _, some _, some _, some _]) rfl rfl (Nat.le_of_ble_eq_true rfl) rfl rfl ?_
          refine e_iinc 19 41 (ls' := [some _, some _, some _, some _, some _]) rfl rfl (Nat.le_of_ble_eq_true rfl) rfl rfl ?_
          refine e_goto 20 5 rfl rfl ?_
          exact hn (w + 1) (by omega) (by omega)
  refine e_entry okX0_countIn (Nat.le_of_ble_eq_true rfl) (ls := [some _, some _, some _, none, none]) rfl ?_
  refine e_iconst 0 1 rfl rfl ?_
  refine e_istore_n 1 2 (ls' := [some _, some _, some _, some _, none]) rfl rfl rfl (Nat.le_of_ble_eq_true rfl) rfl ?_
  refine e_iconst 2 3 rfl rfl ?_
  refine e_istore 3 5 (ls' := [some _, some _, some _, some _, some _]) rfl rfl (Nat.le_of_ble_eq_true rfl) rfl ?_
  have h9 := loop 100 0 0 rfl (by omega) (by omega)
  rw [Int.zero_add] at h9
  exact h9
theorem sp_countAt {σ : xSig} {T : Nat → List Int} (hA : VAll σ T) (h01 : n01 σ 27) (h : CHR σ) {c : Int} (hc : xr c) : Rd MX0_countAt [.ref 231, .ref 25, .int (ii c)] σ (iv (cat9 σ T c)) := by
  have h1 := h.1
  have loop : ∀ (n i : Nat) (w : Int), i + n = 100 → 0 ≤ w → w ≤ i → x_E MX0_countAt 0 0 5 [some (.ref 231), some (.ref 25), some (.int (ii c)), some (.int (ii w)), some (.int (ii i))] [] (St σ) 0 0 (iv (w + smN (fun n => if hasd σ n = true ∧ shd σ (T (31 + 2 * n)) = c then 1 else 0) i n)) (St σ) := by
    intro n
    induction n with
    | zero =>
      intro i w hi h0 h2
      simp only [smN, Int.add_zero]
      refine e_iload 4 7 rfl rfl rfl ?_
      refine e_bipush 5 9 rfl rfl rfl ?_
      refine e_icmp_ge 6 44 12 rfl rfl rfl (by unfold xr at *; omega) (by unfold xr at *; omega) (fun _ => ?_) (fun h9 => absurd h9 (by omega))
      refine e_iload_n 21 45 rfl rfl rfl rfl ?_
      exact e_ireturn 22 rfl rfl (Nat.le_of_ble_eq_true rfl) (Nat.le_of_ble_eq_true rfl)
    | succ n ih =>
      intro i w hi h0 h2
      have hn := fun w' (q0 : 0 ≤ w') (q1 : w' ≤ (i : Int) + 1) => ih (i + 1) w' (by omega) q0 (by omega)
      rw [show (((i + 1 : Nat)) : Int) = (i : Int) + 1 by omega] at hn
      simp only [smN]
      refine e_iload 4 7 rfl rfl rfl ?_
      refine e_bipush 5 9 rfl rfl rfl ?_
      refine e_icmp_ge 6 44 12 rfl rfl rfl (by unfold xr at *; omega) (by unfold xr at *; omega) (fun h9 => absurd h9 (by omega)) (fun _ => ?_)
      refine e_aload_n 7 13 rfl rfl rfl rfl ?_
      refine e_iload 8 15 rfl rfl rfl ?_
      refine g_callV 9 18 (sp_has h01 (n := i) (by unfold xr; omega)) okX8_has cvX0_96 ⟨(Nat.le_of_ble_eq_true rfl), (Nat.le_of_ble_eq_true rfl)⟩ rfl rfl (Nat.le_of_ble_eq_true rfl) rfl rfl rfl rfl rfl (Nat.le_of_ble_eq_true rfl) (Nat.le_of_ble_eq_true rfl) (Nat.le_of_ble_eq_true rfl) ?_
      refine e_ifb_eq 10 38 21 rfl rfl rfl (fun h3 => ?_) (fun h3 => ?_)
      · skip
        rw [if_neg (fun q => by rw [h3] at q; cases q.1), Int.zero_add]
        refine e_iinc 19 41 (ls' := [some _, some _, some _, some _, some _]) rfl rfl (Nat.le_of_ble_eq_true rfl) rfl rfl ?_
        refine e_goto 20 5 rfl rfl ?_
        exact hn w h0 (by omega)
      · skip
        have hat := sp_stAt h01 (n := i) (by unfold xr; omega)
        rw [da_has h3] at hat
        have hb := cown_bnd h (chk σ (T (31 + 2 * i)))
        have hb2 : shd σ (T (31 + 2 * i)) = cown σ (chk σ (T (31 + 2 * i))) := rfl
        refine e_aload_n 11 22 rfl rfl rfl rfl ?_
        refine e_aload_n 12 23 rfl rfl rfl rfl ?_
        refine e_iload 13 25 rfl rfl rfl ?_
        refine g_callV 14 28 (hat) okX8_at cvX0_99 ⟨(Nat.le_of_ble_eq_true rfl), (Nat.le_of_ble_eq_true rfl)⟩ rfl rfl (Nat.le_of_ble_eq_true rfl) rfl rfl rfl rfl rfl (Nat.le_of_ble_eq_true rfl) (Nat.le_of_ble_eq_true rfl) (Nat.le_of_ble_eq_true rfl) ?_
        refine g_callV 15 31 (sp_shardOf h (hA _ (vO_s i (by omega)).1)) okX0_shardOf cvX0_103 ⟨(Nat.le_of_ble_eq_true rfl), (Nat.le_of_ble_eq_true rfl)⟩ rfl rfl (Nat.le_of_ble_eq_true rfl) rfl rfl rfl rfl rfl (Nat.le_of_ble_eq_true rfl) (Nat.le_of_ble_eq_true rfl) (Nat.le_of_ble_eq_true rfl) ?_
        refine e_iload_n 16 32 rfl rfl rfl rfl ?_
        refine e_icmp_ne 17 38 35 rfl rfl rfl (by unfold xr at *; omega) (by unfold xr at *; omega) (fun h4 => ?_) (fun h4 => ?_)
        · skip
          rw [if_neg (fun q => h4 q.2), Int.zero_add]
          refine e_iinc 19 41 (ls' := [some _, some _, some _, some _, some _]) rfl rfl (Nat.le_of_ble_eq_true rfl) rfl rfl ?_
          refine e_goto 20 5 rfl rfl ?_
          exact hn w h0 (by omega)
        · skip
          rw [if_pos ⟨h3, h4⟩, ← Int.add_assoc]
          refine e_iinc 18 38 (ls' := [some _, some _, some _, some _, some _]) rfl rfl (Nat.le_of_ble_eq_true rfl) rfl rfl ?_
          refine e_iinc 19 41 (ls' := [some _, some _, some _, some _, some _]) rfl rfl (Nat.le_of_ble_eq_true rfl) rfl rfl ?_
          refine e_goto 20 5 rfl rfl ?_
          exact hn (w + 1) (by omega) (by omega)
  refine e_entry okX0_countAt (Nat.le_of_ble_eq_true rfl) (ls := [some _, some _, some _, none, none]) rfl ?_
  refine e_iconst 0 1 rfl rfl ?_
  refine e_istore_n 1 2 (ls' := [some _, some _, some _, some _, none]) rfl rfl rfl (Nat.le_of_ble_eq_true rfl) rfl ?_
  refine e_iconst 2 3 rfl rfl ?_
  refine e_istore 3 5 (ls' := [some _, some _, some _, some _, some _]) rfl rfl (Nat.le_of_ble_eq_true rfl) rfl ?_
  have h9 := loop 100 0 0 rfl (by omega) (by omega)
  rw [Int.zero_add] at h9
  exact h9
def hmv (σ : xSig) : Bool := decide (σ 231 11 ≠ -1)
theorem sp_hasMove {σ : xSig} (h : CHR σ) : Rd MX0_hasMove [.ref 231] σ (zv (hmv σ)) := by
  have h1 := h.2.2.2.1
  refine e_entry okX0_hasMove (Nat.le_of_ble_eq_true rfl) (ls := [some _]) rfl ?_
  refine e_aload_n 0 1 rfl rfl rfl rfl ?_
  refine g_getI 1 4 11 ckX0 flX0_48 rfl rfl (Nat.le_of_ble_eq_true rfl) rfl rfl rfl rfl ?_
  refine e_iconst 2 5 rfl rfl ?_
  refine e_icmp_eq 3 12 8 rfl rfl rfl (by unfold xr at *; omega) (by unfold xr at *; omega) (fun h2 => ?_) (fun h2 => ?_)
  · skip
    rw [show hmv σ = false from decide_eq_false (fun q => q h2)]
    refine e_iconst 6 13 rfl rfl ?_
    exact e_zreturn (x := 0) 7 rfl rfl (by omega) (Nat.le_of_ble_eq_true rfl) (Nat.le_of_ble_eq_true rfl)
  · skip
    rw [show hmv σ = true from decide_eq_true h2]
    refine e_iconst 4 9 rfl rfl ?_
    refine e_goto 5 13 rfl rfl ?_
    exact e_zreturn (x := 1) 7 rfl rfl (by omega) (Nat.le_of_ble_eq_true rfl) (Nat.le_of_ble_eq_true rfl)
def ismv (σ : xSig) (c : Int) : Bool := decide (σ 231 11 ≠ -1 ∧ c = σ 231 11)
theorem sp_isMoving {σ : xSig} (h : CHR σ) {c : Int} (hc : xr c) : Rd MX0_isMoving [.ref 231, .int (ii c)] σ (zv (ismv σ c)) := by
  have h1 := h.2.2.2.1
  unfold xr at hc
  refine e_entry okX0_isMoving (Nat.le_of_ble_eq_true rfl) (ls := [some _, some _]) rfl ?_
  refine e_aload_n 0 1 rfl rfl rfl rfl ?_
  refine g_callV 1 4 (sp_hasMove h) okX0_hasMove cvX0_106 ⟨(Nat.le_of_ble_eq_true rfl), (Nat.le_of_ble_eq_true rfl)⟩ rfl rfl (Nat.le_of_ble_eq_true rfl) rfl rfl rfl rfl rfl (Nat.le_of_ble_eq_true rfl) (Nat.le_of_ble_eq_true rfl) (Nat.le_of_ble_eq_true rfl) ?_
  refine e_ifb_eq 2 19 7 rfl rfl rfl (fun h2 => ?_) (fun h2 => ?_)
  · skip
    rw [show ismv σ c = false from decide_eq_false (fun q => (of_decide_eq_false h2) q.1)]
    refine e_iconst 9 20 rfl rfl ?_
    exact e_zreturn (x := 0) 10 rfl rfl (by omega) (Nat.le_of_ble_eq_true rfl) (Nat.le_of_ble_eq_true rfl)
  · skip
    refine e_iload_n 3 8 rfl rfl rfl rfl ?_
    refine e_aload_n 4 9 rfl rfl rfl rfl ?_
    refine g_getI 5 12 11 ckX0 flX0_48 rfl rfl (Nat.le_of_ble_eq_true rfl) rfl rfl rfl rfl ?_
    refine e_icmp_ne 6 19 15 rfl rfl rfl (by unfold xr at *; omega) (by unfold xr at *; omega) (fun h3 => ?_) (fun h3 => ?_)
    · skip
      rw [show ismv σ c = false from decide_eq_false (fun q => h3 q.2)]
      refine e_iconst 9 20 rfl rfl ?_
      exact e_zreturn (x := 0) 10 rfl rfl (by omega) (Nat.le_of_ble_eq_true rfl) (Nat.le_of_ble_eq_true rfl)
    · skip
      rw [show ismv σ c = true from decide_eq_true ⟨of_decide_eq_true h2, h3⟩]
      refine e_iconst 7 16 rfl rfl ?_
      refine e_goto 8 20 rfl rfl ?_
      exact e_zreturn (x := 1) 10 rfl rfl (by omega) (Nat.le_of_ble_eq_true rfl) (Nat.le_of_ble_eq_true rfl)
def ilf (σ : xSig) (T : Nat → List Int) (n : Nat) : Bool := hasd σ n && decide (chk σ (T (31 + 2 * n)) = σ 231 11 ∧ σ 235 n = 0)
theorem sp_isLeft {σ : xSig} {T : Nat → List Int} (hA : VAll σ T) (h01 : n01 σ 27) (h : CHR σ) {n : Nat} (hn : n < 100) : Rd MX0_isLeft [.ref 231, .ref 25, .int (ii n)] σ (zv (ilf σ T n)) := by
  have h1 := h.2.2.2.1
  have h2 := h.2.2.2.2.2.2.2 n
  have h0 := h.1
  refine e_entry okX0_isLeft (Nat.le_of_ble_eq_true rfl) (ls := [some _, some _, some _]) rfl ?_
  refine e_aload_n 0 1 rfl rfl rfl rfl ?_
  refine e_iload_n 1 2 rfl rfl rfl rfl ?_
  refine g_callV 2 5 (sp_has h01 (n := n) (by unfold xr; omega)) okX8_has cvX0_96 ⟨(Nat.le_of_ble_eq_true rfl), (Nat.le_of_ble_eq_true rfl)⟩ rfl rfl (Nat.le_of_ble_eq_true rfl) rfl rfl rfl rfl rfl (Nat.le_of_ble_eq_true rfl) (Nat.le_of_ble_eq_true rfl) (Nat.le_of_ble_eq_true rfl) ?_
  refine e_ifb_eq 3 50 8 rfl rfl rfl (fun h3 => ?_) (fun h3 => ?_)
  · skip
    rw [show ilf σ T n = false by unfold ilf; rw [h3]; rfl]
    refine e_iconst 26 51 rfl rfl ?_
    exact e_zreturn (x := 0) 27 rfl rfl (by omega) (Nat.le_of_ble_eq_true rfl) (Nat.le_of_ble_eq_true rfl)
  · skip
    have hat := sp_stAt h01 (n := n) (by unfold xr; omega)
    rw [da_has h3] at hat
    have hb := chk_bnd h (T (31 + 2 * n))
    refine e_aload_n 4 9 rfl rfl rfl rfl ?_
    refine e_aload_n 5 10 rfl rfl rfl rfl ?_
    refine e_iload_n 6 11 rfl rfl rfl rfl ?_
    refine g_callV 7 14 (hat) okX8_at cvX0_99 ⟨(Nat.le_of_ble_eq_true rfl), (Nat.le_of_ble_eq_true rfl)⟩ rfl rfl (Nat.le_of_ble_eq_true rfl) rfl rfl rfl rfl rfl (Nat.le_of_ble_eq_true rfl) (Nat.le_of_ble_eq_true rfl) (Nat.le_of_ble_eq_true rfl) ?_
    refine g_callV 8 17 (sp_chunkOf h (hA _ (vO_s n hn).1)) okX0_chunkOf cvX0_90 ⟨(Nat.le_of_ble_eq_true rfl), (Nat.le_of_ble_eq_true rfl)⟩ rfl rfl (Nat.le_of_ble_eq_true rfl) rfl rfl rfl rfl rfl (Nat.le_of_ble_eq_true rfl) (Nat.le_of_ble_eq_true rfl) (Nat.le_of_ble_eq_true rfl) ?_
    refine e_aload_n 9 18 rfl rfl rfl rfl ?_
    refine g_getI 10 21 11 ckX0 flX0_48 rfl rfl (Nat.le_of_ble_eq_true rfl) rfl rfl rfl rfl ?_
    refine e_icmp_ne 11 50 24 rfl rfl rfl (by unfold xr at *; omega) (by unfold xr at *; omega) (fun h4 => ?_) (fun h4 => ?_)
    · skip
      rw [show ilf σ T n = false by unfold ilf; rw [h3, Bool.true_and]; exact decide_eq_false (fun q => h4 q.1)]
      refine e_iconst 26 51 rfl rfl ?_
      exact e_zreturn (x := 0) 27 rfl rfl (by omega) (Nat.le_of_ble_eq_true rfl) (Nat.le_of_ble_eq_true rfl)
    · skip
      refine e_iload_n 12 25 rfl rfl rfl rfl ?_
      refine e_if_lt 13 50 28 rfl rfl rfl (by unfold xr at *; omega) (fun h9 => absurd h9 (by omega)) (fun _ => ?_)
      refine e_iload_n 14 29 rfl rfl rfl rfl ?_
      refine e_aload_n 15 30 rfl rfl rfl rfl ?_
      refine g_getR 16 33 ckX0 flX0_21 rfl rfl (Nat.le_of_ble_eq_true rfl) rfl rfl ?_
      refine g_alen 17 34 rfl rfl (Nat.le_of_ble_eq_true rfl) rfl (Nat.le_of_ble_eq_true rfl) ?_
      refine e_icmp_ge 18 50 37 rfl rfl rfl (by unfold xr at *; omega) (by unfold xr at *; omega) (fun h9 => absurd h9 (by omega)) (fun _ => ?_)
      refine e_aload_n 19 38 rfl rfl rfl rfl ?_
      refine g_getR 20 41 ckX0 flX0_21 rfl rfl (Nat.le_of_ble_eq_true rfl) rfl rfl ?_
      refine e_iload_n 21 42 rfl rfl rfl rfl ?_
      refine g_baload 22 43 rfl rfl (Nat.le_of_ble_eq_true rfl) rfl (by omega) (by omega) (by omega) rfl ?_
      refine e_if_ne 23 50 46 rfl rfl rfl (by unfold xr at *; omega) (fun h5 => ?_) (fun h5 => ?_)
      · skip
        rw [show ilf σ T n = false by unfold ilf; rw [h3, Bool.true_and]; exact decide_eq_false (fun q => h5 q.2)]
        refine e_iconst 26 51 rfl rfl ?_
        exact e_zreturn (x := 0) 27 rfl rfl (by omega) (Nat.le_of_ble_eq_true rfl) (Nat.le_of_ble_eq_true rfl)
      · skip
        rw [show ilf σ T n = true by unfold ilf; rw [h3, Bool.true_and]; exact decide_eq_true ⟨h4, h5⟩]
        refine e_iconst 24 47 rfl rfl ?_
        refine e_goto 25 51 rfl rfl ?_
        exact e_zreturn (x := 1) 27 rfl rfl (by omega) (Nat.le_of_ble_eq_true rfl) (Nat.le_of_ble_eq_true rfl)
def clf (σ : xSig) (T : Nat → List Int) : Int := smN (fun n => bi (ilf σ T n)) 0 100
theorem sp_countLeft {σ : xSig} {T : Nat → List Int} (hA : VAll σ T) (h01 : n01 σ 27) (h : CHR σ) : Rd MX0_countLeft [.ref 231, .ref 25] σ (iv (clf σ T)) := by
  have loop : ∀ (n i : Nat) (w : Int), i + n = 100 → 0 ≤ w → w ≤ i → x_E MX0_countLeft 0 0 4 [some (.ref 231), some (.ref 25), some (.int (ii w)), some (.int (ii i))] [] (St σ) 0 0 (iv (w + smN (fun n => bi (ilf σ T n)) i n)) (St σ) := by
    intro n
    induction n with
    | zero =>
      intro i w hi h0 h2
      simp only [smN, Int.add_zero]
      refine e_iload_n 4 5 rfl rfl rfl rfl ?_
      refine e_bipush 5 7 rfl rfl rfl ?_
      refine e_icmp_ge 6 28 10 rfl rfl rfl (by unfold xr at *; omega) (by unfold xr at *; omega) (fun _ => ?_) (fun h9 => absurd h9 (by omega))
      refine e_iload_n 15 29 rfl rfl rfl rfl ?_
      exact e_ireturn 16 rfl rfl (Nat.le_of_ble_eq_true rfl) (Nat.le_of_ble_eq_true rfl)
    | succ n ih =>
      intro i w hi h0 h2
      have hn := fun w' (q0 : 0 ≤ w') (q1 : w' ≤ (i : Int) + 1) => ih (i + 1) w' (by omega) q0 (by omega)
      rw [show (((i + 1 : Nat)) : Int) = (i : Int) + 1 by omega] at hn
      simp only [smN]
      refine e_iload_n 4 5 rfl rfl rfl rfl ?_
      refine e_bipush 5 7 rfl rfl rfl ?_
      refine e_icmp_ge 6 28 10 rfl rfl rfl (by unfold xr at *; omega) (by unfold xr at *; omega) (fun h9 => absurd h9 (by omega)) (fun _ => ?_)
      refine e_aload_n 7 11 rfl rfl rfl rfl ?_
      refine e_aload_n 8 12 rfl rfl rfl rfl ?_
      refine e_iload_n 9 13 rfl rfl rfl rfl ?_
      refine g_callV 10 16 (sp_isLeft hA h01 h (n := i) (by omega)) okX0_isLeft cvX0_110 ⟨(Nat.le_of_ble_eq_true rfl), (Nat.le_of_ble_eq_true rfl)⟩ rfl rfl (Nat.le_of_ble_eq_true rfl) rfl rfl rfl rfl rfl (Nat.le_of_ble_eq_true rfl) (Nat.le_of_ble_eq_true rfl) (Nat.le_of_ble_eq_true rfl) ?_
      refine e_ifb_eq 11 22 19 rfl rfl rfl (fun h3 => ?_) (fun h3 => ?_)
      · skip
        rw [h3, show bi false = 0 from rfl, Int.zero_add]
        refine e_iinc 13 25 (ls' := [some _, some _, some _, some _]) rfl rfl (Nat.le_of_ble_eq_true rfl) rfl rfl ?_
        refine e_goto 14 4 rfl rfl ?_
        exact hn w h0 (by omega)
      · skip
        rw [h3, show bi true = 1 from rfl, ← Int.add_assoc]
        refine e_iinc 12 22 (ls' := [some _, some _, some _, some _]) rfl rfl (Nat.le_of_ble_eq_true rfl) rfl rfl ?_
        refine e_iinc 13 25 (ls' := [some _, some _, some _, some _]) rfl rfl (Nat.le_of_ble_eq_true rfl) rfl rfl ?_
        refine e_goto 14 4 rfl rfl ?_
        exact hn (w + 1) (by omega) (by omega)
  refine e_entry okX0_countLeft (Nat.le_of_ble_eq_true rfl) (ls := [some _, some _, none, none]) rfl ?_
  refine e_iconst 0 1 rfl rfl ?_
  refine e_istore_n 1 2 (ls' := [some _, some _, some _, none]) rfl rfl rfl (Nat.le_of_ble_eq_true rfl) rfl ?_
  refine e_iconst 2 3 rfl rfl ?_
  refine e_istore_n 3 4 (ls' := [some _, some _, some _, some _]) rfl rfl rfl (Nat.le_of_ble_eq_true rfl) rfl ?_
  have h9 := loop 100 0 0 rfl (by omega) (by omega)
  rw [Int.zero_add] at h9
  exact h9
