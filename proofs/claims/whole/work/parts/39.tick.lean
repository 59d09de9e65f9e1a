/-! ===== the face: time ===== -/
theorem smN_upd {f g : Nat → Int} {k : Nat} (h : ∀ j, j ≠ k → g j = f j) : ∀ (n i : Nat), i ≤ k → k < i + n → smN g i n = smN f i n + (g k - f k) := by
  intro n
  induction n with
  | zero => intro i h1 h2; omega
  | succ n ih =>
    intro i h1 h2
    simp only [smN]
    by_cases e : i = k
    · subst e
      rw [smN_congr n (i + 1) (fun j q1 q2 => h j (by omega))]
      omega
    · rw [ih (i + 1) (by omega) (by omega), h i e]
      omega
theorem cnd_out {σ σ' : xSig} {n : Nat} (hn : hasd σ n = true) (h : ∀ j : Int, j ≠ n → σ' 27 j = σ 27 j) (h0 : σ' 27 n = 0) : cnd σ' = cnd σ - 1 := by
  have hni := hasd_in hn
  have h9 : hasd σ' n = false := by unfold hasd; exact decide_eq_false (fun q => by omega)
  unfold cnd
  rw [smN_upd (f := fun n => bi (hasd σ n)) (g := fun n => bi (hasd σ' n)) (k := n) (fun j hj => by
    show bi (hasd σ' j) = bi (hasd σ j)
    unfold hasd
    rw [h j (by omega)]) 100 0 (by omega) (by omega)]
  simp only [h9, hn, bi_f, bi_t]
  omega
theorem cnd_pos {σ : xSig} {n : Nat} (hn : hasd σ n = true) : 1 ≤ cnd σ := by
  have hni := hasd_in hn
  have := cnd_out (σ' := xu σ 27 n 0) hn (fun j hj => xu_ne _ (Or.inr hj)) (xu_same _ _ _ _)
  have h2 := smN_01 (f := fun m => bi (hasd (xu σ 27 n 0) m)) (fun i => bi_01 _) 100 0
  have h3 : cnd (xu σ 27 n 0) = smN (fun m => bi (hasd (xu σ 27 n 0) m)) 0 100 := rfl
  omega
theorem tka_o (σ : xSig) (t : List Int) (n : Int) : FX [25, 27, 235, 239, 240, 241, 242] σ (tka σ t n) := by
  unfold tka entd outd
  exact ((((((FX.rf.xu (by decide)).xu (by decide)).xu (by decide)).xu (by decide)).xu (by decide)).xu (by decide)).xu (by decide)
/-- what a tick's walk needs, and keeps -/
def TKI (σ : xSig) (T : Nat → List Int) : Prop := VAll σ T ∧ n01 σ 27 ∧ CHR σ ∧ (-1 ≤ σ 0 8 ∧ σ 0 8 < 8) ∧ (0 ≤ σ 0 9 ∧ σ 0 9 ≤ 1000000) ∧ 0 ≤ σ 239 3 ∧ σ 239 3 + cnd σ ≤ 1024
theorem TKI.tak {σ : xSig} {T : Nat → List Int} (h : TKI σ T) {n : Nat} (hn : hasd σ n = true) (t : List Int) : TKI (tka σ t n) T := by
  obtain ⟨h1, h2, h3, h4, h5, h6, h7⟩ := h
  have o := tka_o σ t n
  have e27 : tka σ t n 27 = xu σ 27 n 0 27 := by
    unfold tka entd outd
    rw [xu_other _ _ _ (by decide), xu_other _ _ _ (by decide), xu_other _ _ _ (by decide), xu_other _ _ _ (by decide), xu_other _ _ _ (by decide), xu_other _ _ _ (by decide)]
  have e235 : tka σ t n 235 = xu σ 235 n 0 235 := by
    unfold tka entd outd
    rw [xu_other _ _ _ (by decide), xu_other _ _ _ (by decide), xu_other _ _ _ (by decide), xu_other _ _ _ (by decide)]
    funext j
    unfold xu
    simp
  have e239 : tka σ t n 239 3 = σ 239 3 + 1 := by
    unfold tka entd
    rw [xu_same]
    unfold outd
    rw [xu_other _ _ _ (by decide), xu_other _ _ _ (by decide), xu_other _ _ _ (by decide)]
  have ec : cnd (tka σ t n) = cnd σ - 1 := cnd_out hn (fun j hj => by rw [e27]; exact xu_ne _ (Or.inr hj)) (by rw [e27]; exact xu_same _ _ _ _)
  refine ⟨h1.fx o (by decide +kernel), by unfold n01; rw [e27]; exact n01_xu h2 n 0 (Or.inl rfl), h3.same ⟨o 231 (by decide), o 232 (by decide), o 233 (by decide)⟩ (by unfold n01; rw [e235]; exact n01_xu h3.2.2.2.2.2.2.2 n 0 (Or.inl rfl)), by rw [o 0 (by decide)]; exact h4, by rw [o 0 (by decide)]; exact h5, by rw [e239]; omega, by rw [e239, ec]; omega⟩
def tkN (T : Nat → List Int) : Nat → Nat → xSig → xSig
  | _, 0, σ => σ
  | i, n + 1, σ => tkN T (i + 1) n (if xpd σ T i = true then tka σ (T (31 + 2 * i)) i else σ)
def tkC (T : Nat → List Int) : Nat → Nat → xSig → Int
  | _, 0, _ => 0
  | i, n + 1, σ => bi (xpd σ T i) + tkC T (i + 1) n (if xpd σ T i = true then tka σ (T (31 + 2 * i)) i else σ)
theorem xpd_has {σ : xSig} {T : Nat → List Int} {n : Nat} (h : xpd σ T n = true) : hasd σ n = true := by
  unfold xpd at h
  simp only [Bool.and_eq_true] at h
  exact h.2.1
theorem TKI.step {σ : xSig} {T : Nat → List Int} (h : TKI σ T) (i : Nat) : TKI (if xpd σ T i = true then tka σ (T (31 + 2 * i)) i else σ) T := by
  split
  · next q => exact h.tak (xpd_has q) _
  · exact h
theorem tkN_TKI {T : Nat → List Int} : ∀ (n i : Nat) (σ : xSig), TKI σ T → TKI (tkN T i n σ) T := by
  intro n
  induction n with
  | zero => intro i σ h; exact h
  | succ n ih => intro i σ h; exact ih _ _ (h.step i)
theorem tkC_bnd {T : Nat → List Int} : ∀ (n i : Nat) (σ : xSig), 0 ≤ tkC T i n σ ∧ tkC T i n σ ≤ n := by
  intro n
  induction n with
  | zero => intro i σ; simp [tkC]
  | succ n ih =>
    intro i σ
    have := ih (i + 1) (if xpd σ T i = true then tka σ (T (31 + 2 * i)) i else σ)
    have h2 := bi_01 (xpd σ T i)
    simp only [tkC]
    omega
def tkS (T : Nat → List Int) : Nat → xSig → xSig
  | 0, σ => σ
  | k + 1, σ => tkS T k (tkN T 0 100 (xu σ 0 9 (σ 0 9 + 1)))
def tkT (T : Nat → List Int) : Nat → xSig → Int
  | 0, _ => 0
  | k + 1, σ => tkC T 0 100 (xu σ 0 9 (σ 0 9 + 1)) + tkT T k (tkN T 0 100 (xu σ 0 9 (σ 0 9 + 1)))
theorem tkN_9 {T : Nat → List Int} : ∀ (n i : Nat) (σ : xSig), tkN T i n σ 0 = σ 0 := by
  intro n
  induction n with
  | zero => intro i σ; rfl
  | succ n ih =>
    intro i σ
    simp only [tkN]
    rw [ih]
    split
    · exact tka_o _ _ _ 0 (by decide)
    · rfl
theorem TKI.tick {σ : xSig} {T : Nat → List Int} (h : TKI σ T) (h9 : σ 0 9 + 1 ≤ 1000000) : TKI (xu σ 0 9 (σ 0 9 + 1)) T := by
  obtain ⟨h1, h2, h3, h4, h5, h6, h7⟩ := h
  have o : FX [0] σ (xu σ 0 9 (σ 0 9 + 1)) := FX.rf.xu (by decide)
  have ec : cnd (xu σ 0 9 (σ 0 9 + 1)) = cnd σ := by
    unfold cnd
    congr 1
  refine ⟨h1.fx o (by decide +kernel), by unfold n01; rw [o 27 (by decide)]; exact h2, h3.fx (o 231 (by decide)) (o 232 (by decide)) (o 233 (by decide)) (o 235 (by decide)), by rw [xu_ne _ (Or.inr (by decide))]; exact h4, by rw [xu_same]; omega, by rw [o 239 (by decide)]; exact h6, by rw [o 239 (by decide), ec]; exact h7⟩
theorem sp_tickX {σ : xSig} {m : Int} (hm : xr m) (hh : ¬ (1 ≤ m ∧ m ≤ 20)) : x_Sp MX11_tick 1 6 [.ref 0, .int (ii m)] (St σ) tIAE (St σ) := by
  unfold xr at hm
  have fin : x_E MX11_tick 1 6 11 [some (.ref 0), some (.int (ii m)), none, none, none] [] (St σ) 0 0 tIAE (St σ) := by
    exact e_throwW 6 thX11_82_86 rfl rfl rfl rfl rfl stX11_335 (Nat.le_of_ble_eq_true rfl) (Nat.le_of_ble_eq_true rfl) (Nat.le_of_ble_eq_true rfl) (Nat.le_of_ble_eq_true rfl) (Nat.le_of_ble_eq_true rfl)
  refine e_entry okX11_tick (Nat.le_of_ble_eq_true rfl) (ls := [some _, some _, none, none, none]) rfl ?_
  refine e_iload_n 0 1 rfl rfl rfl rfl ?_
  refine e_iconst 1 2 rfl rfl ?_
  refine e_icmp_lt 2 11 5 rfl rfl rfl (by unfold xr at *; omega) (by unfold xr at *; omega) (fun h => ?_) (fun h => ?_)
  · skip
    exact fin
  · skip
    refine e_iload_n 3 6 rfl rfl rfl rfl ?_
    refine e_bipush 4 8 rfl rfl rfl ?_
    refine e_icmp_le 5 22 11 rfl rfl rfl (by unfold xr at *; omega) (by unfold xr at *; omega) (fun h9 => absurd h9 (by omega)) (fun _ => ?_)
    exact fin
theorem sp_tick1 {σ : xSig} {T : Nat → List Int} (h : TKI σ T) {m : Int} (hh : 1 ≤ m ∧ m ≤ 20) (h9 : σ 0 9 + m ≤ 1000000) : x_Sp MX11_tick 0 0 [.ref 0, .int (ii m)] (St σ) (iv (tkT T m.toNat σ)) (St (tkS T m.toNat σ)) := by
  have inner : ∀ (n i : Nat) (w : Int) (z : Int) (σ σ9 : xSig) (o : xO), TKI σ T → i + n = 100 → x_E MX11_tick 0 0 76 [some (.ref 0), some (.int (ii m)), some (.int (ii (w + tkC T i n σ))), some (.int (ii z)), none] [] (St (tkN T i n σ)) 0 0 o (St σ9) → x_E MX11_tick 0 0 44 [some (.ref 0), some (.int (ii m)), some (.int (ii w)), some (.int (ii z)), some (.int (ii i))] [] (St σ) 0 0 o (St σ9) := by
    intro n
    induction n with
    | zero =>
      intro i w z σ σ9 o hK hi hk
      simp only [tkC, tkN, Int.add_zero] at hk
      refine e_iload 26 46 rfl rfl rfl ?_
      refine e_bipush 27 48 rfl rfl rfl ?_
      refine e_icmp_ge 28 76 51 rfl rfl rfl (by unfold xr at *; omega) (by unfold xr at *; omega) (fun _ => ?_) (fun h9 => absurd h9 (by omega))
      refine e_dropm [true, true, true, true, false] (ls' := [some _, some _, some _, some _, none]) rfl ?_
      exact hk
    | succ n ih =>
      intro i w z σ σ9 o hK hi hk
      have hx := sp_isExpired hK.1 hK.2.1 hK.2.2.2.1 (by unfold xr; have := hK.2.2.2.2.1; omega) (n := i) (by omega)
      simp only [tkC, tkN] at hk
      cases hc : xpd σ T i with
      | false =>
        rw [hc] at hx hk
        simp only [bi_f, Bool.false_eq_true, if_false, Int.zero_add] at hk
        have hn := ih (i + 1) w z σ σ9 o hK (by omega) hk
        rw [show (((i + 1 : Nat)) : Int) = (i : Int) + 1 by omega] at hn
        refine e_iload 26 46 rfl rfl rfl ?_
        refine e_bipush 27 48 rfl rfl rfl ?_
        refine e_icmp_ge 28 76 51 rfl rfl rfl (by unfold xr at *; omega) (by unfold xr at *; omega) (fun h9 => absurd h9 (by omega)) (fun _ => ?_)
        refine e_aload_n 29 52 rfl rfl rfl rfl ?_
        refine e_iload 30 54 rfl rfl rfl ?_
        refine g_callV 31 57 (hx) okX11_isExpired cvX11_360 ⟨(Nat.le_of_ble_eq_true rfl), (Nat.le_of_ble_eq_true rfl)⟩ rfl rfl (Nat.le_of_ble_eq_true rfl) rfl rfl rfl rfl rfl (Nat.le_of_ble_eq_true rfl) (Nat.le_of_ble_eq_true rfl) (Nat.le_of_ble_eq_true rfl) ?_
        refine e_ifb_eq 32 70 60 rfl rfl rfl (fun h2 => ?_) (fun h2 => ?_)
        · skip
          refine e_iinc 38 73 (ls' := [some _, some _, some _, some _, some _]) rfl rfl (Nat.le_of_ble_eq_true rfl) rfl rfl ?_
          refine e_goto 39 44 rfl rfl ?_
          exact hn
        · skip
          cases h2
      | true =>
        have hh9 := xpd_has hc
        have hcp := cnd_pos hh9
        have hta := sp_takeAway hK.1 hK.2.1 hK.2.2.1 hh9 ⟨hK.2.2.2.2.2.1, by have := hK.2.2.2.2.2.2; omega⟩
        rw [hc] at hx hk
        simp only [bi_t, if_true, ← Int.add_assoc] at hk
        have hn := ih (i + 1) (w + 1) z _ σ9 o (hK.tak hh9 _) (by omega) hk
        rw [show (((i + 1 : Nat)) : Int) = (i : Int) + 1 by omega] at hn
        refine e_iload 26 46 rfl rfl rfl ?_
        refine e_bipush 27 48 rfl rfl rfl ?_
        refine e_icmp_ge 28 76 51 rfl rfl rfl (by unfold xr at *; omega) (by unfold xr at *; omega) (fun h9 => absurd h9 (by omega)) (fun _ => ?_)
        refine e_aload_n 29 52 rfl rfl rfl rfl ?_
        refine e_iload 30 54 rfl rfl rfl ?_
        refine g_callV 31 57 (hx) okX11_isExpired cvX11_360 ⟨(Nat.le_of_ble_eq_true rfl), (Nat.le_of_ble_eq_true rfl)⟩ rfl rfl (Nat.le_of_ble_eq_true rfl) rfl rfl rfl rfl rfl (Nat.le_of_ble_eq_true rfl) (Nat.le_of_ble_eq_true rfl) (Nat.le_of_ble_eq_true rfl) ?_
        refine e_ifb_eq 32 70 60 rfl rfl rfl (fun h2 => ?_) (fun h2 => ?_)
        · skip
          cases h2
        · skip
          refine e_aload_n 33 61 rfl rfl rfl rfl ?_
          refine e_iload 34 63 rfl rfl rfl ?_
          refine g_callV 35 66 (hta) okX11_takeAway cvX11_207 ⟨(Nat.le_of_ble_eq_true rfl), (Nat.le_of_ble_eq_true rfl)⟩ rfl rfl (Nat.le_of_ble_eq_true rfl) rfl rfl rfl rfl rfl (Nat.le_of_ble_eq_true rfl) (Nat.le_of_ble_eq_true rfl) (Nat.le_of_ble_eq_true rfl) ?_
          refine e_pop 36 67 rfl rfl rfl ?_
          refine e_iinc 37 70 (ls' := [some _, some _, some _, some _, some _]) rfl rfl (Nat.le_of_ble_eq_true rfl) rfl rfl ?_
          refine e_iinc 38 73 (ls' := [some _, some _, some _, some _, some _]) rfl rfl (Nat.le_of_ble_eq_true rfl) rfl rfl ?_
          refine e_goto 39 44 rfl rfl ?_
          exact hn
  have outer : ∀ (n : Nat) (z w : Int) (σ : xSig), TKI σ T → z + n = m → 0 ≤ z → σ 0 9 + n ≤ 1000000 → x_E MX11_tick 0 0 26 [some (.ref 0), some (.int (ii m)), some (.int (ii w)), some (.int (ii z)), none] [] (St σ) 0 0 (iv (w + tkT T n σ)) (St (tkS T n σ)) := by
    intro n
    induction n with
    | zero =>
      intro z w σ hK hz h0 hb
      simp only [tkT, tkS, Int.add_zero]
      refine e_iload_n 15 27 rfl rfl rfl rfl ?_
      refine e_iload_n 16 28 rfl rfl rfl rfl ?_
      refine e_icmp_ge 17 82 31 rfl rfl rfl (by unfold xr at *; omega) (by unfold xr at *; omega) (fun _ => ?_) (fun h9 => absurd h9 (by omega))
      refine e_iload_n 42 83 rfl rfl rfl rfl ?_
      exact e_ireturn 43 rfl rfl (Nat.le_of_ble_eq_true rfl) (Nat.le_of_ble_eq_true rfl)
    | succ n ih =>
      intro z w σ hK hz h0 hb
      have hK1 := hK.tick (by omega)
      have hK2 := tkN_TKI 100 0 _ hK1
      have e9 : tkN T 0 100 (xu σ 0 9 (σ 0 9 + 1)) 0 9 = σ 0 9 + 1 := by rw [tkN_9, xu_same]
      have hn := ih (z + 1) (w + tkC T 0 100 (xu σ 0 9 (σ 0 9 + 1))) _ hK2 (by omega) (by omega) (by rw [e9]; omega)
      simp only [tkT, tkS]
      rw [← Int.add_assoc]
      refine e_iload_n 15 27 rfl rfl rfl rfl ?_
      refine e_iload_n 16 28 rfl rfl rfl rfl ?_
      refine e_icmp_ge 17 82 31 rfl rfl rfl (by unfold xr at *; omega) (by unfold xr at *; omega) (fun h9 => absurd h9 (by omega)) (fun _ => ?_)
      refine e_aload_n 18 32 rfl rfl rfl rfl ?_
      refine e_dup 19 33 rfl rfl rfl ?_
      refine g_getI 20 36 9 ckX11 flX11_69 rfl rfl (Nat.le_of_ble_eq_true rfl) rfl rfl rfl rfl ?_
      refine e_iconst 21 37 rfl rfl ?_
      refine e_iadd 22 38 rfl rfl ?_
      refine g_putI 23 41 9 ckX11 flX11_69 rfl rfl (Nat.le_of_ble_eq_true rfl) rfl rfl rfl ?_
      refine e_iconst 24 42 rfl rfl ?_
      refine e_istore 25 44 (ls' := [some _, some _, some _, some _, some _]) rfl rfl (Nat.le_of_ble_eq_true rfl) rfl ?_
      refine inner 100 0 w z _ _ _ hK1 rfl ?_
      refine e_iinc 40 79 (ls' := [some _, some _, some _, some _, none]) rfl rfl (Nat.le_of_ble_eq_true rfl) rfl rfl ?_
      refine e_goto 41 26 rfl rfl ?_
      exact hn
  have l9 := outer m.toNat 0 0 σ h (by omega) (by omega) (by omega)
  rw [Int.zero_add] at l9
  refine e_entry okX11_tick (Nat.le_of_ble_eq_true rfl) (ls := [some _, some _, none, none, none]) rfl ?_
  refine e_iload_n 0 1 rfl rfl rfl rfl ?_
  refine e_iconst 1 2 rfl rfl ?_
  refine e_icmp_lt 2 11 5 rfl rfl rfl (by unfold xr at *; omega) (by unfold xr at *; omega) (fun h9 => absurd h9 (by omega)) (fun _ => ?_)
  refine e_iload_n 3 6 rfl rfl rfl rfl ?_
  refine e_bipush 4 8 rfl rfl rfl ?_
  refine e_icmp_le 5 22 11 rfl rfl rfl (by unfold xr at *; omega) (by unfold xr at *; omega) (fun _ => ?_) (fun h9 => absurd h9 (by omega))
  refine e_iconst 11 23 rfl rfl ?_
  refine e_istore_n 12 24 (ls' := [some _, some _, some _, none, none]) rfl rfl rfl (Nat.le_of_ble_eq_true rfl) rfl ?_
  refine e_iconst 13 25 rfl rfl ?_
  refine e_istore_n 14 26 (ls' := [some _, some _, some _, some _, none]) rfl rfl rfl (Nat.le_of_ble_eq_true rfl) rfl ?_
  exact l9
