/-! ===== Store, Stream ===== -/
def alN (P : Nat → Bool) : Nat → Nat → Bool
  | _, 0 => true
  | i, n + 1 => P i && alN P (i + 1) n
def smN (f : Nat → Int) : Nat → Nat → Int
  | _, 0 => 0
  | i, n + 1 => f i + smN f (i + 1) n
theorem smN_bnd {f : Nat → Int} (h : ∀ i, 0 ≤ f i ∧ f i ≤ 1) : ∀ (n i : Nat), 0 ≤ smN f i n ∧ smN f i n ≤ n := by
  intro n
  induction n with
  | zero => intro i; simp [smN]
  | succ n ih => intro i; have := ih (i + 1); have := h i; simp only [smN]; omega
theorem smN_congr {f g : Nat → Int} : ∀ (n i : Nat), (∀ j, i ≤ j → j < i + n → f j = g j) → smN f i n = smN g i n := by
  intro n
  induction n with
  | zero => intro i _; rfl
  | succ n ih => intro i h; simp only [smN]; rw [h i (Nat.le_refl i) (by omega), ih (i + 1) (fun j h1 h2 => h j (by omega) (by omega))]
theorem alN_congr {f g : Nat → Bool} : ∀ (n i : Nat), (∀ j, i ≤ j → j < i + n → f j = g j) → alN f i n = alN g i n := by
  intro n
  induction n with
  | zero => intro i _; rfl
  | succ n ih => intro i h; simp only [alN]; rw [h i (Nat.le_refl i) (by omega), ih (i + 1) (fun j h1 h2 => h j (by omega) (by omega))]
theorem alN_true {f : Nat → Bool} : ∀ (n i : Nat), alN f i n = true ↔ ∀ j, i ≤ j → j < i + n → f j = true := by
  intro n
  induction n with
  | zero => intro i; simp [alN]; omega
  | succ n ih =>
    intro i
    simp only [alN, Bool.and_eq_true, ih]
    constructor
    · rintro ⟨h1, h2⟩ j h3 h4
      by_cases e : j = i
      · rw [e]; exact h1
      · exact h2 j (by omega) (by omega)
    · intro h
      exact ⟨h i (Nat.le_refl i) (by omega), fun j h1 h2 => h j (by omega) (by omega)⟩
abbrev n01 (σ : xSig) (a : Nat) : Prop := ∀ i : Int, σ a i = 0 ∨ σ a i = 1
def hasd (σ : xSig) (n : Int) : Bool := decide (0 ≤ n ∧ n < 100 ∧ σ 27 n = 1)
def da (σ : xSig) (n : Int) : Nat := if hasd σ n = true then 31 + 2 * n.toNat else 29
theorem hasd_in {σ : xSig} {n : Int} (h : hasd σ n = true) : 0 ≤ n ∧ n < 100 ∧ σ 27 n = 1 := by simpa [hasd] using h
theorem da_vO (σ : xSig) (n : Int) : vO (da σ n) = true := by
  unfold da
  split
  · next h => exact (vO_s _ (by have := hasd_in h; omega)).1
  · exact vO_29.1
theorem da_has {σ : xSig} {n : Nat} (h : hasd σ n = true) : da σ n = 31 + 2 * n := by unfold da; rw [if_pos h]; rfl
theorem da_no {σ : xSig} {n : Int} (h : hasd σ n = false) : da σ n = 29 := by unfold da; rw [h]; rfl
/-- the place, and the kind, of a field of an object -/
def pl1 (t : List Int) (f : Int) : Int := plc (t.take 1) (t.drop 1) f
def fk (t : List Int) (f : Int) : Int := knd (tok t (pl1 t f))
theorem pl1_bnd {σ : xSig} {a cap : Nat} {t : List Int} (hV : VH σ a cap t) (f : Int) : -1 ≤ pl1 t f ∧ pl1 t f ≤ 300 := by
  have := plc_bnd (t.take 1) (t.drop 1) f
  have h1 := hV.2.2.1
  have h2 := hV.2.2.2.1
  rw [List.length_take, List.length_drop] at this
  unfold pl1
  omega
theorem sp_pl1 {σ : xSig} {a cap : Nat} {t : List Int} (hV : VH σ a cap t) {f : Int} (hf : 0 ≤ f ∧ f < 8) : Rd MX10_placeOf [.ref a, .int (ii 0), .int (ii f)] σ (iv (pl1 t f)) := by
  cases t with
  | nil =>
    have e : pl1 [] f = -1 := by
      unfold pl1 plc
      rw [show tok (List.drop 1 ([] : List Int)) ((ssc (List.drop 1 ([] : List Int)) f 0 : Nat) : Int) = 0 from tok_big (by simp), if_neg (by omega)]
    rw [e]
    exact sp_placeOf0 hV hf
  | cons x r => exact sp_placeOf hV hf [x] r rfl (by simp)
theorem sp_stSize {σ : xSig} : Rd MX8_size [.ref 25] σ (iv (σ 25 4)) := by
  refine e_entry okX8_size (Nat.le_of_ble_eq_true rfl) (ls := [some _]) rfl ?_
  refine e_aload_n 0 1 rfl rfl rfl rfl ?_
  refine g_getI 1 4 4 ckX8 flX8_32 rfl rfl (Nat.le_of_ble_eq_true rfl) rfl rfl rfl rfl ?_
  exact e_ireturn 2 rfl rfl (Nat.le_of_ble_eq_true rfl) (Nat.le_of_ble_eq_true rfl)
theorem sp_has {σ : xSig} (h01 : n01 σ 27) {n : Int} (hn : xr n) : Rd MX8_has [.ref 25, .int (ii n)] σ (zv (hasd σ n)) := by
  unfold xr at hn
  have h2 := h01 n
  have no : hasd σ n = false → x_E MX8_has 0 0 26 [some (.ref 25), some (.int (ii n))] [] (St σ) 0 0 (zv (hasd σ n)) (St σ) := by
    intro e
    rw [e]
    refine e_iconst 14 27 rfl rfl ?_
    exact e_zreturn (x := 0) 15 rfl rfl (by omega) (Nat.le_of_ble_eq_true rfl) (Nat.le_of_ble_eq_true rfl)
  refine e_entry okX8_has (Nat.le_of_ble_eq_true rfl) (ls := [some _, some _]) rfl ?_
  refine e_iload_n 0 1 rfl rfl rfl rfl ?_
  refine e_if_lt 1 26 4 rfl rfl rfl (by unfold xr at *; omega) (fun h => ?_) (fun h => ?_)
  · skip
    exact no (by unfold hasd; exact decide_eq_false (by omega))
  · skip
    refine e_iload_n 2 5 rfl rfl rfl rfl ?_
    refine e_aload_n 3 6 rfl rfl rfl rfl ?_
    refine g_getR 4 9 ckX8 flX8_17 rfl rfl (Nat.le_of_ble_eq_true rfl) rfl rfl ?_
    refine g_alen 5 10 rfl rfl (Nat.le_of_ble_eq_true rfl) rfl (Nat.le_of_ble_eq_true rfl) ?_
    refine e_icmp_ge 6 26 13 rfl rfl rfl (by unfold xr at *; omega) (by unfold xr at *; omega) (fun h3 => ?_) (fun h3 => ?_)
    · skip
      exact no (by unfold hasd; exact decide_eq_false (by omega))
    · skip
      refine e_aload_n 7 14 rfl rfl rfl rfl ?_
      refine g_getR 8 17 ckX8 flX8_17 rfl rfl (Nat.le_of_ble_eq_true rfl) rfl rfl ?_
      refine e_iload_n 9 18 rfl rfl rfl rfl ?_
      refine g_baload 10 19 rfl rfl (Nat.le_of_ble_eq_true rfl) rfl (by omega) (by omega) (by omega) rfl ?_
      refine e_if_eq 11 26 22 rfl rfl rfl (by unfold xr at *; omega) (fun h4 => ?_) (fun h4 => ?_)
      · skip
        exact no (by unfold hasd; exact decide_eq_false (by omega))
      · skip
        rw [show hasd σ n = true by unfold hasd; exact decide_eq_true ⟨h, by omega, by omega⟩]
        refine e_iconst 12 23 rfl rfl ?_
        refine e_goto 13 27 rfl rfl ?_
        exact e_zreturn (x := 1) 15 rfl rfl (by omega) (Nat.le_of_ble_eq_true rfl) (Nat.le_of_ble_eq_true rfl)
theorem sp_stAt {σ : xSig} (h01 : n01 σ 27) {n : Int} (hn : xr n) : Rd MX8_at [.ref 25, .int (ii n)] σ (rv (da σ n)) := by
  unfold xr at hn
  refine e_entry okX8_at (Nat.le_of_ble_eq_true rfl) (ls := [some _, some _, none]) rfl ?_
  refine e_aload_n 0 1 rfl rfl rfl rfl ?_
  refine e_iload_n 1 2 rfl rfl rfl rfl ?_
  refine g_callV 2 5 (sp_has h01 hn) okX8_has cvX8_36 ⟨(Nat.le_of_ble_eq_true rfl), (Nat.le_of_ble_eq_true rfl)⟩ rfl rfl (Nat.le_of_ble_eq_true rfl) rfl rfl rfl rfl rfl (Nat.le_of_ble_eq_true rfl) (Nat.le_of_ble_eq_true rfl) (Nat.le_of_ble_eq_true rfl) ?_
  refine e_ifb_eq 3 26 8 rfl rfl rfl (fun h => ?_) (fun h => ?_)
  · skip
    rw [da_no h]
    refine e_aload_n 14 27 rfl rfl rfl rfl ?_
    refine g_getR 15 30 ckX8 flX8_28 rfl rfl (Nat.le_of_ble_eq_true rfl) rfl rfl ?_
    refine e_astore_n 16 31 (ls' := [some _, some _, some _]) rfl rfl rfl (Nat.le_of_ble_eq_true rfl) rfl ?_
    refine e_aload_n 17 32 rfl rfl rfl rfl ?_
    refine e_ifnonnull 18 42 rfl rfl ?_
    refine e_aload_n 22 43 rfl rfl rfl rfl ?_
    exact e_areturn 23 rfl rfl (Nat.le_of_ble_eq_true rfl) (Nat.le_of_ble_eq_true rfl)
  · skip
    have hi := hasd_in h
    rw [show da σ n = 31 + 2 * n.toNat by unfold da; rw [if_pos h]]
    refine e_iload_n 4 9 rfl rfl rfl rfl ?_
    refine e_aload_n 5 10 rfl rfl rfl rfl ?_
    refine g_getR 6 13 ckX8 flX8_11 rfl rfl (Nat.le_of_ble_eq_true rfl) rfl rfl ?_
    refine g_alenR 7 14 rfl rfl (Nat.le_of_ble_eq_true rfl) SH_26 (Or.inl rfl) ?_
    simp only [List.length_map, List.length_range]
    refine e_icmp_ge 8 26 17 rfl rfl rfl (by unfold xr at *; omega) (by unfold xr at *; omega) (fun h9 => absurd h9 (by omega)) (fun _ => ?_)
    refine e_aload_n 9 18 rfl rfl rfl rfl ?_
    refine g_getR 10 21 ckX8 flX8_11 rfl rfl (Nat.le_of_ble_eq_true rfl) rfl rfl ?_
    refine e_iload_n 11 22 rfl rfl rfl rfl ?_
    refine g_aaload 12 23 rfl rfl (Nat.le_of_ble_eq_true rfl) SH_26 (Or.inl rfl) (by omega) (rng_at (by omega)) (by simp) ?_
    refine e_goto 13 30 rfl rfl ?_
    refine e_astore_n 16 31 (ls' := [some _, some _, some _]) rfl rfl rfl (Nat.le_of_ble_eq_true rfl) rfl ?_
    refine e_aload_n 17 32 rfl rfl rfl rfl ?_
    refine e_ifnonnull 18 42 rfl rfl ?_
    refine e_aload_n 22 43 rfl rfl rfl rfl ?_
    exact e_areturn 23 rfl rfl (Nat.le_of_ble_eq_true rfl) (Nat.le_of_ble_eq_true rfl)
/-- a document is put: that it is there, how many there are -/
def putd (σ : xSig) (n : Int) : xSig := if hasd σ n = true then σ else xu (xu σ 27 n 1) 25 4 (σ 25 4 + 1)
theorem sp_stPut {σ : xSig} {T : Nat → List Int} (hA : VAll σ T) (h01 : n01 σ 27) {n b : Nat} (hn : n < 100) (hb : vO b = true) (hne : b ≠ 31 + 2 * n) (hl : (T b).length ≤ 72) :
    ∃ σ' : xSig, x_Sp MX8_put 0 0 [.ref 25, .int (ii n), .ref b] (St σ) vv (St σ') ∧ VAll σ' (uT T (31 + 2 * n) (T b)) ∧ NV [] (putd σ n) σ' := by
  have hv := vO_s n hn
  have e4 : xu σ 27 n 1 25 4 = σ 25 4 := by rw [xu_other _ _ _ (by decide)]
  have hA1 : VAll (putd σ n) T := by
    unfold putd
    split
    · exact hA
    · exact (hA.xu _ _ (by decide +kernel)).xu _ _ (by decide +kernel)
  have h01' : n01 (putd σ n) 27 := by
    intro i
    unfold putd
    split
    · exact h01 i
    · rw [xu_other _ _ _ (by decide)]
      unfold xu
      split
      · exact Or.inr rfl
      · exact h01 i
  have hh : hasd (putd σ n) n = true := by
    unfold putd
    split
    · assumption
    · unfold hasd
      exact decide_eq_true ⟨by omega, by omega, by rw [xu_other _ _ _ (by decide), xu_same]⟩
  obtain ⟨e1, e2⟩ := vO_apart hv.1 hb hne
  obtain ⟨σ', h1, h2, h3⟩ := sp_becomeV (hA1 _ hv.1) (hA1 b hb) (by rw [hv.2]; exact hl) hne e1 e2
  refine ⟨σ', ?_, hA1.put hv.1 h2 h3, h3.nv hv.1⟩
  have hat := sp_stAt h01' (n := n) (by unfold xr; omega)
  rw [da_has hh] at hat
  have fin : x_E MX8_put 0 0 40 [some (.ref 25), some (.int (ii n)), some (.ref b)] [] (St (putd σ n)) 0 0 vv (St σ') := by
    refine e_aload_n 24 41 rfl rfl rfl rfl ?_
    refine e_iload_n 25 42 rfl rfl rfl rfl ?_
    refine g_callV 26 45 (hat) okX8_at cvX8_40 ⟨(Nat.le_of_ble_eq_true rfl), (Nat.le_of_ble_eq_true rfl)⟩ rfl rfl (Nat.le_of_ble_eq_true rfl) rfl rfl rfl rfl rfl (Nat.le_of_ble_eq_true rfl) (Nat.le_of_ble_eq_true rfl) (Nat.le_of_ble_eq_true rfl) ?_
    refine e_aload_n 27 46 rfl rfl rfl rfl ?_
    refine g_callV 28 49 (h1) okX10_become_ cvX8_44 ⟨(Nat.le_of_ble_eq_true rfl), (Nat.le_of_ble_eq_true rfl)⟩ rfl rfl (vO_val hv.1).1 (vO_val hv.1).2.2.1 rfl rfl rfl rfl (Nat.le_of_ble_eq_true rfl) (Nat.le_of_ble_eq_true rfl) (Nat.le_of_ble_eq_true rfl) ?_
    exact e_return 29 rfl rfl (Nat.le_of_ble_eq_true rfl) (Nat.le_of_ble_eq_true rfl)
  refine e_entry okX8_put (Nat.le_of_ble_eq_true rfl) (ls := [some _, some _, some _]) rfl ?_
  refine e_iload_n 0 1 rfl rfl rfl rfl ?_
  refine e_if_lt 1 13 4 rfl rfl rfl (by unfold xr at *; omega) (fun h9 => absurd h9 (by omega)) (fun _ => ?_)
  refine e_iload_n 2 5 rfl rfl rfl rfl ?_
  refine e_aload_n 3 6 rfl rfl rfl rfl ?_
  refine g_getR 4 9 ckX8 flX8_17 rfl rfl (Nat.le_of_ble_eq_true rfl) rfl rfl ?_
  refine g_alen 5 10 rfl rfl (Nat.le_of_ble_eq_true rfl) rfl (Nat.le_of_ble_eq_true rfl) ?_
  refine e_icmp_lt 6 14 13 rfl rfl rfl (by unfold xr at *; omega) (by unfold xr at *; omega) (fun _ => ?_) (fun h9 => absurd h9 (by omega))
  refine e_aload_n 8 15 rfl rfl rfl rfl ?_
  refine g_getR 9 18 ckX8 flX8_17 rfl rfl (Nat.le_of_ble_eq_true rfl) rfl rfl ?_
  refine e_iload_n 10 19 rfl rfl rfl rfl ?_
  refine g_baload 11 20 rfl rfl (Nat.le_of_ble_eq_true rfl) rfl (by omega) (by omega) (by omega) rfl ?_
  have h2 := h01 n
  refine e_if_ne 12 40 23 rfl rfl rfl (by unfold xr at *; omega) (fun h => ?_) (fun h => ?_)
  · skip
    rw [show putd σ n = σ by unfold putd; rw [if_pos (by unfold hasd; exact decide_eq_true ⟨by omega, by omega, by omega⟩)]] at fin
    exact fin
  · skip
    rw [show putd σ n = xu (xu σ 27 n 1) 25 4 (σ 25 4 + 1) by unfold putd; rw [if_neg (fun q => by have := hasd_in q; omega)]] at fin
    refine e_aload_n 13 24 rfl rfl rfl rfl ?_
    refine g_getR 14 27 ckX8 flX8_17 rfl rfl (Nat.le_of_ble_eq_true rfl) rfl rfl ?_
    refine e_iload_n 15 28 rfl rfl rfl rfl ?_
    refine e_iconst 16 29 rfl rfl ?_
    refine g_bastore 17 30 rfl rfl (by omega) (Nat.le_of_ble_eq_true rfl) rfl (by omega) (by omega) (by omega) ?_
    refine e_aload_n 18 31 rfl rfl rfl rfl ?_
    refine e_dup 19 32 rfl rfl rfl ?_
    refine g_getI 20 35 4 ckX8 flX8_32 rfl rfl (Nat.le_of_ble_eq_true rfl) rfl rfl rfl e4 ?_
    refine e_iconst 21 36 rfl rfl ?_
    refine e_iadd 22 37 rfl rfl ?_
    refine g_putI 23 40 4 ckX8 flX8_32 rfl rfl (Nat.le_of_ble_eq_true rfl) rfl rfl rfl ?_
    exact fin
def outd (σ : xSig) (n : Int) : xSig := xu (xu σ 27 n 0) 25 4 (σ 25 4 - 1)
theorem sp_stOut {σ : xSig} {n : Nat} (hh : hasd σ n = true) : x_Sp MX8_takeOut 0 0 [.ref 25, .int (ii n)] (St σ) vv (St (outd σ n)) := by
  have hi := hasd_in hh
  have e4 : xu σ 27 n 0 25 4 = σ 25 4 := by rw [xu_other _ _ _ (by decide)]
  unfold outd
  refine e_entry okX8_takeOut (Nat.le_of_ble_eq_true rfl) (ls := [some _, some _]) rfl ?_
  refine e_iload_n 0 1 rfl rfl rfl rfl ?_
  refine e_if_lt 1 39 4 rfl rfl rfl (by unfold xr at *; omega) (fun h9 => absurd h9 (by omega)) (fun _ => ?_)
  refine e_iload_n 2 5 rfl rfl rfl rfl ?_
  refine e_aload_n 3 6 rfl rfl rfl rfl ?_
  refine g_getR 4 9 ckX8 flX8_17 rfl rfl (Nat.le_of_ble_eq_true rfl) rfl rfl ?_
  refine g_alen 5 10 rfl rfl (Nat.le_of_ble_eq_true rfl) rfl (Nat.le_of_ble_eq_true rfl) ?_
  refine e_icmp_ge 6 39 13 rfl rfl rfl (by unfold xr at *; omega) (by unfold xr at *; omega) (fun h9 => absurd h9 (by omega)) (fun _ => ?_)
  refine e_aload_n 7 14 rfl rfl rfl rfl ?_
  refine g_getR 8 17 ckX8 flX8_17 rfl rfl (Nat.le_of_ble_eq_true rfl) rfl rfl ?_
  refine e_iload_n 9 18 rfl rfl rfl rfl ?_
  refine g_baload 10 19 rfl rfl (Nat.le_of_ble_eq_true rfl) rfl (by omega) (by omega) (by omega) rfl ?_
  refine e_if_eq 11 39 22 rfl rfl rfl (by unfold xr at *; omega) (fun h9 => absurd h9 (by omega)) (fun _ => ?_)
  refine e_aload_n 12 23 rfl rfl rfl rfl ?_
  refine g_getR 13 26 ckX8 flX8_17 rfl rfl (Nat.le_of_ble_eq_true rfl) rfl rfl ?_
  refine e_iload_n 14 27 rfl rfl rfl rfl ?_
  refine e_iconst 15 28 rfl rfl ?_
  refine g_bastore 16 29 rfl rfl (by omega) (Nat.le_of_ble_eq_true rfl) rfl (by omega) (by omega) (by omega) ?_
  refine e_aload_n 17 30 rfl rfl rfl rfl ?_
  refine e_dup 18 31 rfl rfl rfl ?_
  refine g_getI 19 34 4 ckX8 flX8_32 rfl rfl (Nat.le_of_ble_eq_true rfl) rfl rfl rfl e4 ?_
  refine e_iconst 20 35 rfl rfl ?_
  refine e_isub 21 36 rfl rfl ?_
  refine g_putI 22 39 4 ckX8 flX8_32 rfl rfl (Nat.le_of_ble_eq_true rfl) rfl rfl rfl ?_
  exact e_return 23 rfl rfl (Nat.le_of_ble_eq_true rfl) (Nat.le_of_ble_eq_true rfl)
theorem sp_keeps {σ : xSig} {a cap : Nat} {t : List Int} (hV : VH σ a cap t) {f kd : Int} (hf : 0 ≤ f ∧ f < 8) (hk : xr kd) : Rd MX8_keeps [.ref a, .int (ii f), .int (ii kd)] σ (zv (decide (kd = 0 ∨ fk t f = kd))) := by
  have hb := pl1_bnd hV f
  have hkb := knd_bnd (tok t (pl1 t f))
  unfold xr at hk
  refine e_entry okX8_keeps (Nat.le_of_ble_eq_true rfl) (ls := [some _, some _, some _]) rfl ?_
  refine e_iload_n 0 1 rfl rfl rfl rfl ?_
  refine e_if_eq 1 18 4 rfl rfl rfl (by unfold xr at *; omega) (fun h => ?_) (fun h => ?_)
  · skip
    rw [decide_eq_true (Or.inl h)]
    refine e_iconst 10 19 rfl rfl ?_
    refine e_goto 11 23 rfl rfl ?_
    exact e_zreturn (x := 1) 13 rfl rfl (by omega) (Nat.le_of_ble_eq_true rfl) (Nat.le_of_ble_eq_true rfl)
  · skip
    refine e_aload_n 2 5 rfl rfl rfl rfl ?_
    refine e_aload_n 3 6 rfl rfl rfl rfl ?_
    refine e_iconst 4 7 rfl rfl ?_
    refine e_iload_n 5 8 rfl rfl rfl rfl ?_
    refine g_callV 6 11 (sp_pl1 hV hf) okX10_placeOf cvX8_52 ⟨(Nat.le_of_ble_eq_true rfl), (Nat.le_of_ble_eq_true rfl)⟩ rfl rfl hV.1.1 hV.1.2.2.1 rfl rfl rfl rfl (Nat.le_of_ble_eq_true rfl) (Nat.le_of_ble_eq_true rfl) (Nat.le_of_ble_eq_true rfl) ?_
    refine g_callV 7 14 (sp_kindAt hV (i := pl1 t f) (by unfold xr; omega)) okX10_kindAt cvX8_56 ⟨(Nat.le_of_ble_eq_true rfl), (Nat.le_of_ble_eq_true rfl)⟩ rfl rfl hV.1.1 hV.1.2.2.1 rfl rfl rfl rfl (Nat.le_of_ble_eq_true rfl) (Nat.le_of_ble_eq_true rfl) (Nat.le_of_ble_eq_true rfl) ?_
    refine e_iload_n 8 15 rfl rfl rfl rfl ?_
    refine e_icmp_ne 9 22 18 rfl rfl rfl (by unfold xr at *; omega) (by unfold xr at *; omega) (fun h2 => ?_) (fun h2 => ?_)
    · skip
      rw [show decide (kd = 0 ∨ fk t f = kd) = false from decide_eq_false (fun q => q.elim h h2)]
      refine e_iconst 12 23 rfl rfl ?_
      exact e_zreturn (x := 0) 13 rfl rfl (by omega) (Nat.le_of_ble_eq_true rfl) (Nat.le_of_ble_eq_true rfl)
    · skip
      rw [show decide (kd = 0 ∨ fk t f = kd) = true from decide_eq_true (Or.inr h2)]
      refine e_iconst 10 19 rfl rfl ?_
      refine e_goto 11 23 rfl rfl ?_
      exact e_zreturn (x := 1) 13 rfl rfl (by omega) (Nat.le_of_ble_eq_true rfl) (Nat.le_of_ble_eq_true rfl)
def krl (σ : xSig) (t : List Int) : Bool := alN (fun f => decide (σ 28 f = 0 ∨ fk t f = σ 28 f)) 0 8
theorem sp_keepsRules {σ : xSig} {a cap : Nat} {t : List Int} (hV : VH σ a cap t) (hr : ∀ i : Int, 0 ≤ σ 28 i ∧ σ 28 i ≤ 4) : Rd MX8_keepsRules [.ref 25, .ref a] σ (zv (krl σ t)) := by
  have loop : ∀ (n i : Nat), i + n = 8 → x_E MX8_keepsRules 0 0 2 [some (.ref 25), some (.ref a), some (.int (ii i))] [] (St σ) 0 0 (zv (alN (fun f => decide (σ 28 f = 0 ∨ fk t f = σ 28 f)) i n)) (St σ) := by
    intro n
    induction n with
    | zero =>
      intro i hi
      refine e_iload_n 2 3 rfl rfl rfl rfl ?_
      refine e_aload_n 3 4 rfl rfl rfl rfl ?_
      refine g_getR 4 7 ckX8 flX8_21 rfl rfl (Nat.le_of_ble_eq_true rfl) rfl rfl ?_
      refine g_alen 5 8 rfl rfl (Nat.le_of_ble_eq_true rfl) rfl (Nat.le_of_ble_eq_true rfl) ?_
      refine e_icmp_ge 6 33 11 rfl rfl rfl (by unfold xr at *; omega) (by unfold xr at *; omega) (fun _ => ?_) (fun h9 => absurd h9 (by omega))
      refine e_iconst 19 34 rfl rfl ?_
      exact e_zreturn (x := 1) 20 rfl rfl (by omega) (Nat.le_of_ble_eq_true rfl) (Nat.le_of_ble_eq_true rfl)
    | succ n ih =>
      intro i hi
      have hr1 := hr i
      have hn := ih (i + 1) (by omega)
      rw [show (((i + 1 : Nat)) : Int) = (i : Int) + 1 by omega] at hn
      simp only [alN]
      refine e_iload_n 2 3 rfl rfl rfl rfl ?_
      refine e_aload_n 3 4 rfl rfl rfl rfl ?_
      refine g_getR 4 7 ckX8 flX8_21 rfl rfl (Nat.le_of_ble_eq_true rfl) rfl rfl ?_
      refine g_alen 5 8 rfl rfl (Nat.le_of_ble_eq_true rfl) rfl (Nat.le_of_ble_eq_true rfl) ?_
      refine e_icmp_ge 6 33 11 rfl rfl rfl (by unfold xr at *; omega) (by unfold xr at *; omega) (fun h9 => absurd h9 (by omega)) (fun _ => ?_)
      refine e_aload_n 7 12 rfl rfl rfl rfl ?_
      refine e_iload_n 8 13 rfl rfl rfl rfl ?_
      refine e_aload_n 9 14 rfl rfl rfl rfl ?_
      refine g_getR 10 17 ckX8 flX8_21 rfl rfl (Nat.le_of_ble_eq_true rfl) rfl rfl ?_
      refine e_iload_n 11 18 rfl rfl rfl rfl ?_
      refine g_iaload 12 19 rfl rfl (Nat.le_of_ble_eq_true rfl) rfl (by omega) (by omega) (by omega) rfl ?_
      refine g_callS 13 22 (sp_keeps hV (f := i) (kd := σ 28 i) (by omega) (by unfold xr; omega)) okX8_keeps csX8_48 ⟨(Nat.le_of_ble_eq_true rfl), (Nat.le_of_ble_eq_true rfl)⟩ rfl rfl rfl rfl (Nat.le_of_ble_eq_true rfl) (Nat.le_of_ble_eq_true rfl) (Nat.le_of_ble_eq_true rfl) ?_
      refine e_ifb_ne 14 27 25 rfl rfl rfl (fun h => ?_) (fun h => ?_)
      · skip
        rw [h, Bool.true_and]
        refine e_iinc 17 30 (ls' := [some _, some _, some _]) rfl rfl (Nat.le_of_ble_eq_true rfl) rfl rfl ?_
        refine e_goto 18 2 rfl rfl ?_
        exact hn
      · skip
        rw [h, Bool.false_and]
        refine e_iconst 15 26 rfl rfl ?_
        exact e_zreturn (x := 0) 16 rfl rfl (by omega) (Nat.le_of_ble_eq_true rfl) (Nat.le_of_ble_eq_true rfl)
  refine e_entry okX8_keepsRules (Nat.le_of_ble_eq_true rfl) (ls := [some _, some _, none]) rfl ?_
  refine e_iconst 0 1 rfl rfl ?_
  refine e_istore_n 1 2 (ls' := [some _, some _, some _]) rfl rfl rfl (Nat.le_of_ble_eq_true rfl) rfl ?_
  exact loop 8 0 rfl
def akp (σ : xSig) (T : Nat → List Int) (f kd : Int) : Bool := alN (fun n => !hasd σ n || decide (kd = 0 ∨ fk (T (31 + 2 * n)) f = kd)) 0 100
theorem sp_allKeep {σ : xSig} {T : Nat → List Int} (hA : VAll σ T) (h01 : n01 σ 27) {f kd : Int} (hf : 0 ≤ f ∧ f < 8) (hk : xr kd) : Rd MX8_allKeep [.ref 25, .int (ii f), .int (ii kd)] σ (zv (akp σ T f kd)) := by
  have loop : ∀ (n i : Nat), i + n = 100 → x_E MX8_allKeep 0 0 2 [some (.ref 25), some (.int (ii f)), some (.int (ii kd)), some (.int (ii i))] [] (St σ) 0 0 (zv (alN (fun n => !hasd σ n || decide (kd = 0 ∨ fk (T (31 + 2 * n)) f = kd)) i n)) (St σ) := by
    intro n
    induction n with
    | zero =>
      intro i hi
      refine e_iload_n 2 3 rfl rfl rfl rfl ?_
      refine e_bipush 3 5 rfl rfl rfl ?_
      refine e_icmp_ge 4 37 8 rfl rfl rfl (by unfold xr at *; omega) (by unfold xr at *; omega) (fun _ => ?_) (fun h9 => absurd h9 (by omega))
      refine e_iconst 20 38 rfl rfl ?_
      exact e_zreturn (x := 1) 21 rfl rfl (by omega) (Nat.le_of_ble_eq_true rfl) (Nat.le_of_ble_eq_true rfl)
    | succ n ih =>
      intro i hi
      have hn := ih (i + 1) (by omega)
      rw [show (((i + 1 : Nat)) : Int) = (i : Int) + 1 by omega] at hn
      simp only [alN]
      refine e_iload_n 2 3 rfl rfl rfl rfl ?_
      refine e_bipush 3 5 rfl rfl rfl ?_
      refine e_icmp_ge 4 37 8 rfl rfl rfl (by unfold xr at *; omega) (by unfold xr at *; omega) (fun h9 => absurd h9 (by omega)) (fun _ => ?_)
      refine e_aload_n 5 9 rfl rfl rfl rfl ?_
      refine e_iload_n 6 10 rfl rfl rfl rfl ?_
      refine g_callV 7 13 (sp_has h01 (n := i) (by unfold xr; omega)) okX8_has cvX8_36 ⟨(Nat.le_of_ble_eq_true rfl), (Nat.le_of_ble_eq_true rfl)⟩ rfl rfl (Nat.le_of_ble_eq_true rfl) rfl rfl rfl rfl rfl (Nat.le_of_ble_eq_true rfl) (Nat.le_of_ble_eq_true rfl) (Nat.le_of_ble_eq_true rfl) ?_
      refine e_ifb_eq 8 31 16 rfl rfl rfl (fun h => ?_) (fun h => ?_)
      · skip
        rw [h, Bool.not_false, Bool.true_or, Bool.true_and]
        refine e_iinc 18 34 (ls' := [some _, some _, some _, some _]) rfl rfl (Nat.le_of_ble_eq_true rfl) rfl rfl ?_
        refine e_goto 19 2 rfl rfl ?_
        exact hn
      · skip
        rw [h, Bool.not_true, Bool.false_or]
        have hat := sp_stAt h01 (n := i) (by unfold xr; omega)
        rw [da_has h] at hat
        refine e_aload_n 9 17 rfl rfl rfl rfl ?_
        refine e_iload_n 10 18 rfl rfl rfl rfl ?_
        refine g_callV 11 21 (hat) okX8_at cvX8_40 ⟨(Nat.le_of_ble_eq_true rfl), (Nat.le_of_ble_eq_true rfl)⟩ rfl rfl (Nat.le_of_ble_eq_true rfl) rfl rfl rfl rfl rfl (Nat.le_of_ble_eq_true rfl) (Nat.le_of_ble_eq_true rfl) (Nat.le_of_ble_eq_true rfl) ?_
        refine e_iload_n 12 22 rfl rfl rfl rfl ?_
        refine e_iload_n 13 23 rfl rfl rfl rfl ?_
        refine g_callS 14 26 (sp_keeps (hA _ (vO_s i (by omega)).1) hf hk) okX8_keeps csX8_48 ⟨(Nat.le_of_ble_eq_true rfl), (Nat.le_of_ble_eq_true rfl)⟩ rfl rfl rfl rfl (Nat.le_of_ble_eq_true rfl) (Nat.le_of_ble_eq_true rfl) (Nat.le_of_ble_eq_true rfl) ?_
        refine e_ifb_ne 15 31 29 rfl rfl rfl (fun h2 => ?_) (fun h2 => ?_)
        · skip
          rw [h2, Bool.true_and]
          refine e_iinc 18 34 (ls' := [some _, some _, some _, some _]) rfl rfl (Nat.le_of_ble_eq_true rfl) rfl rfl ?_
          refine e_goto 19 2 rfl rfl ?_
          exact hn
        · skip
          rw [h2, Bool.false_and]
          refine e_iconst 16 30 rfl rfl ?_
          exact e_zreturn (x := 0) 17 rfl rfl (by omega) (Nat.le_of_ble_eq_true rfl) (Nat.le_of_ble_eq_true rfl)
  refine e_entry okX8_allKeep (Nat.le_of_ble_eq_true rfl) (ls := [some _, some _, some _, none]) rfl ?_
  refine e_iconst 0 1 rfl rfl ?_
  refine e_istore_n 1 2 (ls' := [some _, some _, some _, some _]) rfl rfl rfl (Nat.le_of_ble_eq_true rfl) rfl ?_
  exact loop 100 0 rfl
theorem sp_setRule {σ : xSig} {f kd : Int} (hf : 0 ≤ f ∧ f < 8) : x_Sp MX8_setRule 0 0 [.ref 25, .int (ii f), .int (ii kd)] (St σ) (iv (σ 28 f)) (St (xu σ 28 f kd)) := by
  refine e_entry okX8_setRule (Nat.le_of_ble_eq_true rfl) (ls := [some _, some _, some _, none]) rfl ?_
  refine e_iload_n 0 1 rfl rfl rfl rfl ?_
  refine e_if_lt 1 13 4 rfl rfl rfl (by unfold xr at *; omega) (fun h9 => absurd h9 (by omega)) (fun _ => ?_)
  refine e_iload_n 2 5 rfl rfl rfl rfl ?_
  refine e_aload_n 3 6 rfl rfl rfl rfl ?_
  refine g_getR 4 9 ckX8 flX8_21 rfl rfl (Nat.le_of_ble_eq_true rfl) rfl rfl ?_
  refine g_alen 5 10 rfl rfl (Nat.le_of_ble_eq_true rfl) rfl (Nat.le_of_ble_eq_true rfl) ?_
  refine e_icmp_lt 6 15 13 rfl rfl rfl (by unfold xr at *; omega) (by unfold xr at *; omega) (fun _ => ?_) (fun h9 => absurd h9 (by omega))
  refine e_aload_n 9 16 rfl rfl rfl rfl ?_
  refine g_getR 10 19 ckX8 flX8_21 rfl rfl (Nat.le_of_ble_eq_true rfl) rfl rfl ?_
  refine e_iload_n 11 20 rfl rfl rfl rfl ?_
  refine g_iaload 12 21 rfl rfl (Nat.le_of_ble_eq_true rfl) rfl (by omega) (by omega) (by omega) rfl ?_
  refine e_istore_n 13 22 (ls' := [some _, some _, some _, some _]) rfl rfl rfl (Nat.le_of_ble_eq_true rfl) rfl ?_
  refine e_aload_n 14 23 rfl rfl rfl rfl ?_
  refine g_getR 15 26 ckX8 flX8_21 rfl rfl (Nat.le_of_ble_eq_true rfl) rfl rfl ?_
  refine e_iload_n 16 27 rfl rfl rfl rfl ?_
  refine e_iload_n 17 28 rfl rfl rfl rfl ?_
  refine g_iastore 18 29 rfl rfl (Nat.le_of_ble_eq_true rfl) rfl (by omega) (by omega) (by omega) ?_
  refine e_iload_n 19 30 rfl rfl rfl rfl ?_
  exact e_ireturn 20 rfl rfl (Nat.le_of_ble_eq_true rfl) (Nat.le_of_ble_eq_true rfl)
/-! Stream -/
def entd (σ : xSig) (w n s : Int) : xSig := xu (xu (xu (xu σ 240 (σ 239 3) w) 241 (σ 239 3) n) 242 (σ 239 3) s) 239 3 (σ 239 3 + 1)
theorem sp_enPut {σ : xSig} (hc : 0 ≤ σ 239 3 ∧ σ 239 3 < 1024) {w n s : Int} : x_Sp MX9_put 0 0 [.ref 239, .int (ii w), .int (ii n), .int (ii s)] (St σ) vv (St (entd σ w n s)) := by
  unfold entd
  have e1 : xu σ 240 (σ 239 3) w 239 3 = σ 239 3 := xu_ne σ (Or.inl (by decide))
  have e2 : xu (xu σ 240 (σ 239 3) w) 241 (σ 239 3) n 239 3 = σ 239 3 := (xu_ne _ (Or.inl (by decide))).trans e1
  have e3 : xu (xu (xu σ 240 (σ 239 3) w) 241 (σ 239 3) n) 242 (σ 239 3) s 239 3 = σ 239 3 := (xu_ne _ (Or.inl (by decide))).trans e2
  refine e_entry okX9_put (Nat.le_of_ble_eq_true rfl) (ls := [some _, some _, some _, some _]) rfl ?_
  refine e_aload_n 0 1 rfl rfl rfl rfl ?_
  refine g_getI 1 4 3 ckX9 flX9_21 rfl rfl (Nat.le_of_ble_eq_true rfl) rfl rfl rfl rfl ?_
  refine e_if_lt 2 57 7 rfl rfl rfl (by unfold xr at *; omega) (fun h9 => absurd h9 (by omega)) (fun _ => ?_)
  refine e_aload_n 3 8 rfl rfl rfl rfl ?_
  refine g_getI 4 11 3 ckX9 flX9_21 rfl rfl (Nat.le_of_ble_eq_true rfl) rfl rfl rfl rfl ?_
  refine e_sipush 5 14 rfl rfl rfl ?_
  refine e_icmp_ge 6 57 17 rfl rfl rfl (by unfold xr at *; omega) (by unfold xr at *; omega) (fun h9 => absurd h9 (by omega)) (fun _ => ?_)
  refine e_aload_n 7 18 rfl rfl rfl rfl ?_
  refine g_getR 8 21 ckX9 flX9_9 rfl rfl (Nat.le_of_ble_eq_true rfl) rfl rfl ?_
  refine e_aload_n 9 22 rfl rfl rfl rfl ?_
  refine g_getI 10 25 3 ckX9 flX9_21 rfl rfl (Nat.le_of_ble_eq_true rfl) rfl rfl rfl rfl ?_
  refine e_iload_n 11 26 rfl rfl rfl rfl ?_
  refine g_iastore 12 27 rfl rfl (Nat.le_of_ble_eq_true rfl) rfl (by omega) (by omega) (by omega) ?_
  refine e_aload_n 13 28 rfl rfl rfl rfl ?_
  refine g_getR 14 31 ckX9 flX9_15 rfl rfl (Nat.le_of_ble_eq_true rfl) rfl rfl ?_
  refine e_aload_n 15 32 rfl rfl rfl rfl ?_
  refine g_getI 16 35 3 ckX9 flX9_21 rfl rfl (Nat.le_of_ble_eq_true rfl) rfl rfl rfl e1 ?_
  refine e_iload_n 17 36 rfl rfl rfl rfl ?_
  refine g_iastore 18 37 rfl rfl (Nat.le_of_ble_eq_true rfl) rfl (by omega) (by omega) (by omega) ?_
  refine e_aload_n 19 38 rfl rfl rfl rfl ?_
  refine g_getR 20 41 ckX9 flX9_18 rfl rfl (Nat.le_of_ble_eq_true rfl) rfl rfl ?_
  refine e_aload_n 21 42 rfl rfl rfl rfl ?_
  refine g_getI 22 45 3 ckX9 flX9_21 rfl rfl (Nat.le_of_ble_eq_true rfl) rfl rfl rfl e2 ?_
  refine e_iload_n 23 46 rfl rfl rfl rfl ?_
  refine g_iastore 24 47 rfl rfl (Nat.le_of_ble_eq_true rfl) rfl (by omega) (by omega) (by omega) ?_
  refine e_aload_n 25 48 rfl rfl rfl rfl ?_
  refine e_dup 26 49 rfl rfl rfl ?_
  refine g_getI 27 52 3 ckX9 flX9_21 rfl rfl (Nat.le_of_ble_eq_true rfl) rfl rfl rfl e3 ?_
  refine e_iconst 28 53 rfl rfl ?_
  refine e_iadd 29 54 rfl rfl ?_
  refine g_putI 30 57 3 ckX9 flX9_21 rfl rfl (Nat.le_of_ble_eq_true rfl) rfl rfl rfl ?_
  exact e_return 31 rfl rfl (Nat.le_of_ble_eq_true rfl) (Nat.le_of_ble_eq_true rfl)
theorem sp_enHas {σ : xSig} (hc : 0 ≤ σ 239 3 ∧ σ 239 3 ≤ 1024) {i : Int} (hi : xr i) : Rd MX9_has [.ref 239, .int (ii i)] σ (zv (decide (1 ≤ i ∧ i ≤ σ 239 3))) := by
  unfold xr at hi
  refine e_entry okX9_has (Nat.le_of_ble_eq_true rfl) (ls := [some _, some _]) rfl ?_
  refine e_iload_n 0 1 rfl rfl rfl rfl ?_
  refine e_iconst 1 2 rfl rfl ?_
  refine e_icmp_lt 2 17 5 rfl rfl rfl (by unfold xr at *; omega) (by unfold xr at *; omega) (fun h => ?_) (fun h => ?_)
  · skip
    rw [decide_eq_false (by omega)]
    refine e_iconst 9 18 rfl rfl ?_
    exact e_zreturn (x := 0) 10 rfl rfl (by omega) (Nat.le_of_ble_eq_true rfl) (Nat.le_of_ble_eq_true rfl)
  · skip
    refine e_iload_n 3 6 rfl rfl rfl rfl ?_
    refine e_aload_n 4 7 rfl rfl rfl rfl ?_
    refine g_getI 5 10 3 ckX9 flX9_21 rfl rfl (Nat.le_of_ble_eq_true rfl) rfl rfl rfl rfl ?_
    refine e_icmp_gt 6 17 13 rfl rfl rfl (by unfold xr at *; omega) (by unfold xr at *; omega) (fun h2 => ?_) (fun h2 => ?_)
    · skip
      rw [decide_eq_false (by omega)]
      refine e_iconst 9 18 rfl rfl ?_
      exact e_zreturn (x := 0) 10 rfl rfl (by omega) (Nat.le_of_ble_eq_true rfl) (Nat.le_of_ble_eq_true rfl)
    · skip
      rw [decide_eq_true (by omega)]
      refine e_iconst 7 14 rfl rfl ?_
      refine e_goto 8 18 rfl rfl ?_
      exact e_zreturn (x := 1) 10 rfl rfl (by omega) (Nat.le_of_ble_eq_true rfl) (Nat.le_of_ble_eq_true rfl)
theorem sp_firstBehind {σ : xSig} (hc : 0 ≤ σ 239 3 ∧ σ 239 3 ≤ 1024) {i : Int} (hi : xr i) : Rd MX9_firstBehind [.ref 239, .int (ii i)] σ (iv (if (if i < 0 then 0 else i) < σ 239 3 then (if i < 0 then 0 else i) + 1 else -1)) := by
  unfold xr at hi
  refine e_entry okX9_firstBehind (Nat.le_of_ble_eq_true rfl) (ls := [some _, some _, none]) rfl ?_
  refine e_iload_n 0 1 rfl rfl rfl rfl ?_
  refine e_iconst 1 2 rfl rfl ?_
  refine e_max 2 5 rfl rfl mxX9_25 (Nat.le_of_ble_eq_true rfl) (Nat.le_of_ble_eq_true rfl) (Nat.le_of_ble_eq_true rfl) (Nat.le_of_ble_eq_true rfl) (Nat.le_of_ble_eq_true rfl) (by unfold xr at *; omega) (by unfold xr at *; omega) ?_
  refine e_istore_n 3 6 (ls' := [some _, some _, some _]) rfl rfl rfl (Nat.le_of_ble_eq_true rfl) rfl ?_
  refine e_iload_n 4 7 rfl rfl rfl rfl ?_
  refine e_aload_n 5 8 rfl rfl rfl rfl ?_
  refine g_getI 6 11 3 ckX9 flX9_21 rfl rfl (Nat.le_of_ble_eq_true rfl) rfl rfl rfl rfl ?_
  have hz : 0 ≤ (if i < 0 then (0 : Int) else i) ∧ (if i < 0 then (0 : Int) else i) < 2147483648 := by split <;> omega
  generalize (if i < 0 then (0 : Int) else i) = z at hz
  refine e_icmp_ge 7 20 14 rfl rfl rfl (by unfold xr at *; omega) (by unfold xr at *; omega) (fun h => ?_) (fun h => ?_)
  · skip
    rw [if_neg (by omega)]
    refine e_iconst 12 21 rfl rfl ?_
    exact e_ireturn 13 rfl rfl (Nat.le_of_ble_eq_true rfl) (Nat.le_of_ble_eq_true rfl)
  · skip
    rw [if_pos h]
    refine e_iload_n 8 15 rfl rfl rfl rfl ?_
    refine e_iconst 9 16 rfl rfl ?_
    refine e_iadd 10 17 rfl rfl ?_
    refine e_goto 11 21 rfl rfl ?_
    exact e_ireturn 13 rfl rfl (Nat.le_of_ble_eq_true rfl) (Nat.le_of_ble_eq_true rfl)
theorem sp_enTell {σ : xSig} (hc : 0 ≤ σ 239 3 ∧ σ 239 3 ≤ 1024) {i w : Int} (hi : 1 ≤ i ∧ i ≤ σ 239 3) (hw : xr w) : Rd MX9_tell [.ref 239, .int (ii i), .int (ii w)] σ (iv (if w = 0 then σ 240 (i - 1) else if w = 1 then σ 241 (i - 1) else σ 242 (i - 1))) := by
  unfold xr at hw
  refine e_entry okX9_tell (Nat.le_of_ble_eq_true rfl) (ls := [some _, some _, some _, none]) rfl ?_
  refine e_iload_n 0 1 rfl rfl rfl rfl ?_
  refine e_iconst 1 2 rfl rfl ?_
  refine e_isub 2 3 rfl rfl ?_
  refine e_istore_n 3 4 (ls' := [some _, some _, some _, some _]) rfl rfl rfl (Nat.le_of_ble_eq_true rfl) rfl ?_
  refine e_iload_n 4 5 rfl rfl rfl rfl ?_
  refine e_if_lt 5 23 8 rfl rfl rfl (by unfold xr at *; omega) (fun h9 => absurd h9 (by omega)) (fun _ => ?_)
  refine e_iload_n 6 9 rfl rfl rfl rfl ?_
  refine e_aload_n 7 10 rfl rfl rfl rfl ?_
  refine g_getI 8 13 3 ckX9 flX9_21 rfl rfl (Nat.le_of_ble_eq_true rfl) rfl rfl rfl rfl ?_
  refine e_icmp_ge 9 23 16 rfl rfl rfl (by unfold xr at *; omega) (by unfold xr at *; omega) (fun h9 => absurd h9 (by omega)) (fun _ => ?_)
  refine e_iload_n 10 17 rfl rfl rfl rfl ?_
  refine e_sipush 11 20 rfl rfl rfl ?_
  refine e_icmp_lt 12 25 23 rfl rfl rfl (by unfold xr at *; omega) (by unfold xr at *; omega) (fun _ => ?_) (fun h9 => absurd h9 (by omega))
  refine e_iload_n 15 26 rfl rfl rfl rfl ?_
  refine e_if_ne 16 36 29 rfl rfl rfl (by unfold xr at *; omega) (fun h => ?_) (fun h => ?_)
  · skip
    rw [if_neg h]
    refine e_iload_n 22 37 rfl rfl rfl rfl ?_
    refine e_iconst 23 38 rfl rfl ?_
    refine e_icmp_ne 24 50 41 rfl rfl rfl (by unfold xr at *; omega) (by unfold xr at *; omega) (fun h2 => ?_) (fun h2 => ?_)
    · skip
      rw [if_neg h2]
      refine e_aload_n 30 51 rfl rfl rfl rfl ?_
      refine g_getR 31 54 ckX9 flX9_18 rfl rfl (Nat.le_of_ble_eq_true rfl) rfl rfl ?_
      refine e_iload_n 32 55 rfl rfl rfl rfl ?_
      refine g_iaload 33 56 rfl rfl (Nat.le_of_ble_eq_true rfl) rfl (by omega) (by omega) (by omega) rfl ?_
      exact e_ireturn 34 rfl rfl (Nat.le_of_ble_eq_true rfl) (Nat.le_of_ble_eq_true rfl)
    · skip
      rw [if_pos h2]
      refine e_aload_n 25 42 rfl rfl rfl rfl ?_
      refine g_getR 26 45 ckX9 flX9_15 rfl rfl (Nat.le_of_ble_eq_true rfl) rfl rfl ?_
      refine e_iload_n 27 46 rfl rfl rfl rfl ?_
      refine g_iaload 28 47 rfl rfl (Nat.le_of_ble_eq_true rfl) rfl (by omega) (by omega) (by omega) rfl ?_
      refine e_goto 29 56 rfl rfl ?_
      exact e_ireturn 34 rfl rfl (Nat.le_of_ble_eq_true rfl) (Nat.le_of_ble_eq_true rfl)
  · skip
    rw [if_pos h]
    refine e_aload_n 17 30 rfl rfl rfl rfl ?_
    refine g_getR 18 33 ckX9 flX9_9 rfl rfl (Nat.le_of_ble_eq_true rfl) rfl rfl ?_
    refine e_iload_n 19 34 rfl rfl rfl rfl ?_
    refine g_iaload 20 35 rfl rfl (Nat.le_of_ble_eq_true rfl) rfl (by omega) (by omega) (by omega) rfl ?_
    exact e_ireturn 21 rfl rfl (Nat.le_of_ble_eq_true rfl) (Nat.le_of_ble_eq_true rfl)
