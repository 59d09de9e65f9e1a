/-! ===== Chart: writing ===== -/
theorem bi_t : bi true = 1 := rfl
theorem bi_f : bi false = 0 := rfl
/-- the reads of a chart hang on its rows alone -/
def eqC (σ σ' : xSig) : Prop := σ' 231 = σ 231 ∧ σ' 232 = σ 232 ∧ σ' 233 = σ 233
theorem chk_congr {σ σ' : xSig} (h : eqC σ σ') (t : List Int) : chk σ' t = chk σ t ∧ shd σ' t = shd σ t ∧ kyo σ' t = kyo σ t := by
  obtain ⟨h1, h2, h3⟩ := h
  have e1 : kyo σ' t = kyo σ t := by unfold kyo; rw [h1]
  have e2 : chas σ' = chas σ := by funext c; unfold chas; rw [h1]
  have e3 : cfst σ' = cfst σ := by funext c; unfold cfst; rw [e2, h2]
  have e4 : cown σ' = cown σ := by funext c; unfold cown; rw [e2, h3]
  have e5 : chk σ' t = chk σ t := by unfold chk; rw [e3, e1, h1]
  exact ⟨e5, by unfold shd; rw [e5, e4], e1⟩
theorem hasd_congr {σ σ' : xSig} (h : σ' 27 = σ 27) (n : Int) : hasd σ' n = hasd σ n := by unfold hasd; rw [h]
theorem CHR.same {σ σ' : xSig} (h : CHR σ) (he : eqC σ σ') (h5 : n01 σ' 235) : CHR σ' := by
  obtain ⟨h1, h2, h3⟩ := he
  obtain ⟨q1, q2, q3, q4, q5, q6, q7, q8⟩ := h
  refine ⟨by rw [h1]; exact q1, by rw [h1]; exact q2, by rw [h1]; exact q3, by rw [h1]; exact q4, by rw [h1]; exact q5, by rw [h2]; exact q6, by rw [h3]; exact q7, h5⟩
theorem n01_xu {σ : xSig} {a : Nat} (h : n01 σ a) (j v : Int) (hv : v = 0 ∨ v = 1) : n01 (xu σ a j v) a := by
  intro i
  unfold xu
  split
  · exact hv
  · exact h i
def cpn (T : Nat → List Int) : Nat → Nat → Int → xSig → xSig
  | _, 0, _, σ => σ
  | i, n + 1, l, σ => if l ≤ 0 then σ else if ilf σ T i = true then cpn T (i + 1) n (l - 1) (xu σ 235 i 1) else cpn T (i + 1) n l σ
theorem sp_copySome {σ : xSig} {T : Nat → List Int} (hA : VAll σ T) (h01 : n01 σ 27) (h : CHR σ) {l : Int} (hl : 1 ≤ l ∧ l ≤ 20) : x_Sp MX0_copySome 0 0 [.ref 231, .ref 25, .int (ii l)] (St σ) vv (St (cpn T 0 100 l σ)) := by
  have loop : ∀ (n i : Nat) (w : Int) (σ : xSig), VAll σ T → n01 σ 27 → CHR σ → i + n = 100 → 0 ≤ w → w ≤ 20 → x_E MX0_copySome 0 0 5 [some (.ref 231), some (.ref 25), some (.int (ii l)), some (.int (ii w)), some (.int (ii i))] [] (St σ) 0 0 vv (St (cpn T i n w σ)) := by
    intro n
    induction n with
    | zero =>
      intro i w σ hA h01 h hi h0 h2
      refine e_iload 4 7 rfl rfl rfl ?_
      refine e_aload_n 5 8 rfl rfl rfl rfl ?_
      refine g_getR 6 11 ckX0 flX0_21 rfl rfl (Nat.le_of_ble_eq_true rfl) rfl rfl ?_
      refine g_alen 7 12 rfl rfl (Nat.le_of_ble_eq_true rfl) rfl (Nat.le_of_ble_eq_true rfl) ?_
      refine e_icmp_ge 8 46 15 rfl rfl rfl (by unfold xr at *; omega) (by unfold xr at *; omega) (fun _ => ?_) (fun h9 => absurd h9 (by omega))
      exact e_return 24 rfl rfl (Nat.le_of_ble_eq_true rfl) (Nat.le_of_ble_eq_true rfl)
    | succ n ih =>
      intro i w σ hA h01 h hi h0 h2
      simp only [cpn]
      refine e_iload 4 7 rfl rfl rfl ?_
      refine e_aload_n 5 8 rfl rfl rfl rfl ?_
      refine g_getR 6 11 ckX0 flX0_21 rfl rfl (Nat.le_of_ble_eq_true rfl) rfl rfl ?_
      refine g_alen 7 12 rfl rfl (Nat.le_of_ble_eq_true rfl) rfl (Nat.le_of_ble_eq_true rfl) ?_
      refine e_icmp_ge 8 46 15 rfl rfl rfl (by unfold xr at *; omega) (by unfold xr at *; omega) (fun h9 => absurd h9 (by omega)) (fun _ => ?_)
      refine e_iload_n 9 16 rfl rfl rfl rfl ?_
      refine e_if_le 10 46 19 rfl rfl rfl (by unfold xr at *; omega) (fun h3 => ?_) (fun h3 => ?_)
      · skip
        rw [if_pos h3]
        exact e_return 24 rfl rfl (Nat.le_of_ble_eq_true rfl) (Nat.le_of_ble_eq_true rfl)
      · skip
        rw [if_neg (by omega)]
        refine e_aload_n 11 20 rfl rfl rfl rfl ?_
        refine e_aload_n 12 21 rfl rfl rfl rfl ?_
        refine e_iload 13 23 rfl rfl rfl ?_
        refine g_callV 14 26 (sp_isLeft hA h01 h (n := i) (by omega)) okX0_isLeft cvX0_110 ⟨(Nat.le_of_ble_eq_true rfl), (Nat.le_of_ble_eq_true rfl)⟩ rfl rfl (Nat.le_of_ble_eq_true rfl) rfl rfl rfl rfl rfl (Nat.le_of_ble_eq_true rfl) (Nat.le_of_ble_eq_true rfl) (Nat.le_of_ble_eq_true rfl) ?_
        refine e_ifb_eq 15 40 29 rfl rfl rfl (fun h4 => ?_) (fun h4 => ?_)
        · skip
          rw [h4]
          have hn := ih (i + 1) w σ hA h01 h (by omega) h0 h2
          rw [show (((i + 1 : Nat)) : Int) = (i : Int) + 1 by omega] at hn
          refine e_iinc 22 43 (ls' := [some _, some _, some _, some _, some _]) rfl rfl (Nat.le_of_ble_eq_true rfl) rfl rfl ?_
          refine e_goto 23 5 rfl rfl ?_
          exact hn
        · skip
          rw [if_pos h4]
          have hn := ih (i + 1) (w - 1) (xu σ 235 i 1) (hA.xu _ _ (by decide +kernel)) (by intro j; rw [xu_other _ _ _ (by decide)]; exact h01 j) (h.same ⟨xu_other _ _ _ (by decide), xu_other _ _ _ (by decide), xu_other _ _ _ (by decide)⟩ (n01_xu h.2.2.2.2.2.2.2 i 1 (Or.inr rfl))) (by omega) (by omega) (by omega)
          rw [show (((i + 1 : Nat)) : Int) = (i : Int) + 1 by omega] at hn
          refine e_aload_n 16 30 rfl rfl rfl rfl ?_
          refine g_getR 17 33 ckX0 flX0_21 rfl rfl (Nat.le_of_ble_eq_true rfl) rfl rfl ?_
          refine e_iload 18 35 rfl rfl rfl ?_
          refine e_iconst 19 36 rfl rfl ?_
          refine g_bastore 20 37 rfl rfl (by omega) (Nat.le_of_ble_eq_true rfl) rfl (by omega) (by omega) (by omega) ?_
          refine e_iinc 21 40 (ls' := [some _, some _, some _, some _, some _]) rfl rfl (Nat.le_of_ble_eq_true rfl) rfl rfl ?_
          refine e_iinc 22 43 (ls' := [some _, some _, some _, some _, some _]) rfl rfl (Nat.le_of_ble_eq_true rfl) rfl rfl ?_
          refine e_goto 23 5 rfl rfl ?_
          exact hn
  refine e_entry okX0_copySome (Nat.le_of_ble_eq_true rfl) (ls := [some _, some _, some _, none, none]) rfl ?_
  refine e_iload_n 0 1 rfl rfl rfl rfl ?_
  refine e_istore_n 1 2 (ls' := [some _, some _, some _, some _, none]) rfl rfl rfl (Nat.le_of_ble_eq_true rfl) rfl ?_
  refine e_iconst 2 3 rfl rfl ?_
  refine e_istore 3 5 (ls' := [some _, some _, some _, some _, some _]) rfl rfl (Nat.le_of_ble_eq_true rfl) rfl ?_
  exact loop 100 0 l σ hA h01 h rfl (by omega) (by omega)
def cao (σ : xSig) (n : Int) (t : List Int) : xSig := xu σ 235 n (bi (hmv σ && decide (chk σ t = σ 231 11)))
theorem sp_copyAtOnce {σ : xSig} (h : CHR σ) {a cap : Nat} {t : List Int} (hV : VH σ a cap t) {n : Int} (hn : 0 ≤ n ∧ n < 100) : x_Sp MX0_copyAtOnce 0 0 [.ref 231, .int (ii n), .ref a] (St σ) vv (St (cao σ n t)) := by
  have h0 := h.1
  have hm := h.2.2.2.1
  have hb := chk_bnd h t
  unfold cao
  refine e_entry okX0_copyAtOnce (Nat.le_of_ble_eq_true rfl) (ls := [some _, some _, some _]) rfl ?_
  refine e_iload_n 0 1 rfl rfl rfl rfl ?_
  refine e_if_lt 1 43 4 rfl rfl rfl (by unfold xr at *; omega) (fun h9 => absurd h9 (by omega)) (fun _ => ?_)
  refine e_iload_n 2 5 rfl rfl rfl rfl ?_
  refine e_aload_n 3 6 rfl rfl rfl rfl ?_
  refine g_getR 4 9 ckX0 flX0_21 rfl rfl (Nat.le_of_ble_eq_true rfl) rfl rfl ?_
  refine g_alen 5 10 rfl rfl (Nat.le_of_ble_eq_true rfl) rfl (Nat.le_of_ble_eq_true rfl) ?_
  refine e_icmp_ge 6 43 13 rfl rfl rfl (by unfold xr at *; omega) (by unfold xr at *; omega) (fun h9 => absurd h9 (by omega)) (fun _ => ?_)
  refine e_aload_n 7 14 rfl rfl rfl rfl ?_
  refine g_getR 8 17 ckX0 flX0_21 rfl rfl (Nat.le_of_ble_eq_true rfl) rfl rfl ?_
  refine e_iload_n 9 18 rfl rfl rfl rfl ?_
  refine e_aload_n 10 19 rfl rfl rfl rfl ?_
  refine g_callV 11 22 (sp_hasMove h) okX0_hasMove cvX0_106 ⟨(Nat.le_of_ble_eq_true rfl), (Nat.le_of_ble_eq_true rfl)⟩ rfl rfl (Nat.le_of_ble_eq_true rfl) rfl rfl rfl rfl rfl (Nat.le_of_ble_eq_true rfl) (Nat.le_of_ble_eq_true rfl) (Nat.le_of_ble_eq_true rfl) ?_
  refine e_ifb_eq 12 41 25 rfl rfl rfl (fun h2 => ?_) (fun h2 => ?_)
  · skip
    rw [h2, Bool.false_and, bi_f]
    refine e_iconst 21 42 rfl rfl ?_
    refine g_bastore 22 43 rfl rfl (by omega) (Nat.le_of_ble_eq_true rfl) rfl (by omega) (by omega) (by omega) ?_
    exact e_return 23 rfl rfl (Nat.le_of_ble_eq_true rfl) (Nat.le_of_ble_eq_true rfl)
  · skip
    rw [h2, Bool.true_and]
    refine e_aload_n 13 26 rfl rfl rfl rfl ?_
    refine e_aload_n 14 27 rfl rfl rfl rfl ?_
    refine g_callV 15 30 (sp_chunkOf h hV) okX0_chunkOf cvX0_90 ⟨(Nat.le_of_ble_eq_true rfl), (Nat.le_of_ble_eq_true rfl)⟩ rfl rfl (Nat.le_of_ble_eq_true rfl) rfl rfl rfl rfl rfl (Nat.le_of_ble_eq_true rfl) (Nat.le_of_ble_eq_true rfl) (Nat.le_of_ble_eq_true rfl) ?_
    refine e_aload_n 16 31 rfl rfl rfl rfl ?_
    refine g_getI 17 34 11 ckX0 flX0_48 rfl rfl (Nat.le_of_ble_eq_true rfl) rfl rfl rfl rfl ?_
    refine e_icmp_ne 18 41 37 rfl rfl rfl (by unfold xr at *; omega) (by unfold xr at *; omega) (fun h3 => ?_) (fun h3 => ?_)
    · skip
      rw [decide_eq_false h3, bi_f]
      refine e_iconst 21 42 rfl rfl ?_
      refine g_bastore 22 43 rfl rfl (by omega) (Nat.le_of_ble_eq_true rfl) rfl (by omega) (by omega) (by omega) ?_
      exact e_return 23 rfl rfl (Nat.le_of_ble_eq_true rfl) (Nat.le_of_ble_eq_true rfl)
    · skip
      rw [decide_eq_true h3, bi_t]
      refine e_iconst 19 38 rfl rfl ?_
      refine e_goto 20 42 rfl rfl ?_
      refine g_bastore 22 43 rfl rfl (by omega) (Nat.le_of_ble_eq_true rfl) rfl (by omega) (by omega) (by omega) ?_
      exact e_return 23 rfl rfl (Nat.le_of_ble_eq_true rfl) (Nat.le_of_ble_eq_true rfl)
theorem sp_dropCopy {σ : xSig} {n : Int} (hn : 0 ≤ n ∧ n < 100) : x_Sp MX0_dropCopy 0 0 [.ref 231, .int (ii n)] (St σ) vv (St (xu σ 235 n 0)) := by
  refine e_entry okX0_dropCopy (Nat.le_of_ble_eq_true rfl) (ls := [some _, some _]) rfl ?_
  refine e_iload_n 0 1 rfl rfl rfl rfl ?_
  refine e_if_lt 1 20 4 rfl rfl rfl (by unfold xr at *; omega) (fun h9 => absurd h9 (by omega)) (fun _ => ?_)
  refine e_iload_n 2 5 rfl rfl rfl rfl ?_
  refine e_aload_n 3 6 rfl rfl rfl rfl ?_
  refine g_getR 4 9 ckX0 flX0_21 rfl rfl (Nat.le_of_ble_eq_true rfl) rfl rfl ?_
  refine g_alen 5 10 rfl rfl (Nat.le_of_ble_eq_true rfl) rfl (Nat.le_of_ble_eq_true rfl) ?_
  refine e_icmp_ge 6 20 13 rfl rfl rfl (by unfold xr at *; omega) (by unfold xr at *; omega) (fun h9 => absurd h9 (by omega)) (fun _ => ?_)
  refine e_aload_n 7 14 rfl rfl rfl rfl ?_
  refine g_getR 8 17 ckX0 flX0_21 rfl rfl (Nat.le_of_ble_eq_true rfl) rfl rfl ?_
  refine e_iload_n 9 18 rfl rfl rfl rfl ?_
  refine e_iconst 10 19 rfl rfl ?_
  refine g_bastore 11 20 rfl rfl (by omega) (Nat.le_of_ble_eq_true rfl) rfl (by omega) (by omega) (by omega) ?_
  exact e_return 12 rfl rfl (Nat.le_of_ble_eq_true rfl) (Nat.le_of_ble_eq_true rfl)
/-- the first i places of the row a are 0 -/
def zr (σ : xSig) (a : Nat) (i : Int) : xSig := fun b j => if b = a ∧ 0 ≤ j ∧ j < i then 0 else σ b j
theorem zr_0 (σ : xSig) (a : Nat) : zr σ a 0 = σ := by
  funext b j
  unfold zr
  rw [if_neg (by omega)]
theorem zr_s (σ : xSig) (a : Nat) (i : Nat) : xu (zr σ a i) a i 0 = zr σ a ((i : Int) + 1) := by
  funext b j
  unfold xu zr
  by_cases h : b = a ∧ j = i
  · rw [if_pos h, if_pos (by omega)]
  · rw [if_neg h]
    by_cases h2 : b = a ∧ 0 ≤ j ∧ j < i
    · rw [if_pos h2, if_pos (by omega)]
    · rw [if_neg h2, if_neg (by omega)]
theorem zr_other (σ : xSig) {a b : Nat} (i : Int) (h : b ≠ a) : zr σ a i b = σ b := by
  funext j
  unfold zr
  rw [if_neg (fun q => h q.1)]
def ncp (σ : xSig) : Int := smN (fun n => if σ 235 n = 1 then 1 else 0) 0 100
def emv (σ : xSig) : xSig := xu (xu (zr σ 235 100) 231 11 (-1)) 231 12 (-1)
theorem sp_endMove {σ : xSig} (h5 : n01 σ 235) : x_Sp MX0_endMove 0 0 [.ref 231] (St σ) (iv (ncp σ)) (St (emv σ)) := by
  have loop : ∀ (n i : Nat) (w : Int), i + n = 100 → 0 ≤ w → w ≤ i → x_E MX0_endMove 0 0 4 [some (.ref 231), some (.int (ii w)), some (.int (ii i))] [] (St (zr σ 235 i)) 0 0 (iv (w + smN (fun n => if σ 235 n = 1 then 1 else 0) i n)) (St (emv σ)) := by
    intro n
    induction n with
    | zero =>
      intro i w hi h0 h2
      simp only [smN, Int.add_zero]
      have e : i = 100 := by omega
      subst e
      unfold emv
      refine e_iload_n 4 5 rfl rfl rfl rfl ?_
      refine e_aload_n 5 6 rfl rfl rfl rfl ?_
      refine g_getR 6 9 ckX0 flX0_21 rfl rfl (Nat.le_of_ble_eq_true rfl) rfl rfl ?_
      refine g_alen 7 10 rfl rfl (Nat.le_of_ble_eq_true rfl) rfl (Nat.le_of_ble_eq_true rfl) ?_
      refine e_icmp_ge 8 38 13 rfl rfl rfl (by unfold xr at *; omega) (by unfold xr at *; omega) (fun _ => ?_) (fun h9 => absurd h9 (by omega))
      refine e_aload_n 22 39 rfl rfl rfl rfl ?_
      refine e_iconst 23 40 rfl rfl ?_
      refine g_putI 24 43 11 ckX0 flX0_48 rfl rfl (Nat.le_of_ble_eq_true rfl) rfl rfl rfl ?_
      refine e_aload_n 25 44 rfl rfl rfl rfl ?_
      refine e_iconst 26 45 rfl rfl ?_
      refine g_putI 27 48 12 ckX0 flX0_51 rfl rfl (Nat.le_of_ble_eq_true rfl) rfl rfl rfl ?_
      refine e_iload_n 28 49 rfl rfl rfl rfl ?_
      exact e_ireturn 29 rfl rfl (Nat.le_of_ble_eq_true rfl) (Nat.le_of_ble_eq_true rfl)
    | succ n ih =>
      intro i w hi h0 h2
      have hn := fun w' (q0 : 0 ≤ w') (q1 : w' ≤ (i : Int) + 1) => ih (i + 1) w' (by omega) q0 (by omega)
      rw [show (((i + 1 : Nat)) : Int) = (i : Int) + 1 by omega] at hn
      have e1 : zr σ 235 i 235 i = σ 235 i := by unfold zr; rw [if_neg (by omega)]
      have e2 := h5 i
      simp only [smN]
      refine e_iload_n 4 5 rfl rfl rfl rfl ?_
      refine e_aload_n 5 6 rfl rfl rfl rfl ?_
      refine g_getR 6 9 ckX0 flX0_21 rfl rfl (Nat.le_of_ble_eq_true rfl) rfl rfl ?_
      refine g_alen 7 10 rfl rfl (Nat.le_of_ble_eq_true rfl) rfl (Nat.le_of_ble_eq_true rfl) ?_
      refine e_icmp_ge 8 38 13 rfl rfl rfl (by unfold xr at *; omega) (by unfold xr at *; omega) (fun h9 => absurd h9 (by omega)) (fun _ => ?_)
      refine e_aload_n 9 14 rfl rfl rfl rfl ?_
      refine g_getR 10 17 ckX0 flX0_21 rfl rfl (Nat.le_of_ble_eq_true rfl) rfl rfl ?_
      refine e_iload_n 11 18 rfl rfl rfl rfl ?_
      refine g_baload 12 19 rfl rfl (Nat.le_of_ble_eq_true rfl) rfl (by omega) (by omega) (by omega) e1 ?_
      refine e_if_eq 13 25 22 rfl rfl rfl (by unfold xr at *; omega) (fun h3 => ?_) (fun h3 => ?_)
      · skip
        rw [if_neg (by omega), Int.zero_add]
        refine e_aload_n 15 26 rfl rfl rfl rfl ?_
        refine g_getR 16 29 ckX0 flX0_21 rfl rfl (Nat.le_of_ble_eq_true rfl) rfl rfl ?_
        refine e_iload_n 17 30 rfl rfl rfl rfl ?_
        refine e_iconst 18 31 rfl rfl ?_
        refine g_bastore 19 32 rfl rfl (by omega) (Nat.le_of_ble_eq_true rfl) rfl (by omega) (by omega) (by omega) ?_
        refine e_iinc 20 35 (ls' := [some _, some _, some _]) rfl rfl (Nat.le_of_ble_eq_true rfl) rfl rfl ?_
        refine e_goto 21 4 rfl rfl ?_
        rw [zr_s]
        exact hn w h0 (by omega)
      · skip
        rw [if_pos (by omega), ← Int.add_assoc]
        refine e_iinc 14 25 (ls' := [some _, some _, some _]) rfl rfl (Nat.le_of_ble_eq_true rfl) rfl rfl ?_
        refine e_aload_n 15 26 rfl rfl rfl rfl ?_
        refine g_getR 16 29 ckX0 flX0_21 rfl rfl (Nat.le_of_ble_eq_true rfl) rfl rfl ?_
        refine e_iload_n 17 30 rfl rfl rfl rfl ?_
        refine e_iconst 18 31 rfl rfl ?_
        refine g_bastore 19 32 rfl rfl (by omega) (Nat.le_of_ble_eq_true rfl) rfl (by omega) (by omega) (by omega) ?_
        refine e_iinc 20 35 (ls' := [some _, some _, some _]) rfl rfl (Nat.le_of_ble_eq_true rfl) rfl rfl ?_
        refine e_goto 21 4 rfl rfl ?_
        rw [zr_s]
        exact hn (w + 1) (by omega) (by omega)
  refine e_entry okX0_endMove (Nat.le_of_ble_eq_true rfl) (ls := [some _, none, none]) rfl ?_
  refine e_iconst 0 1 rfl rfl ?_
  refine e_istore_n 1 2 (ls' := [some _, some _, none]) rfl rfl rfl (Nat.le_of_ble_eq_true rfl) rfl ?_
  refine e_iconst 2 3 rfl rfl ?_
  refine e_istore_n 3 4 (ls' := [some _, some _, some _]) rfl rfl rfl (Nat.le_of_ble_eq_true rfl) rfl ?_
  have h9 := loop 100 0 0 rfl (by omega) (by omega)
  rw [Int.zero_add, Int.natCast_zero, zr_0] at h9
  exact h9
def fmv1 (σ : xSig) (T : Nat → List Int) : xSig := xu (xu (xu σ 234 (σ 233 (σ 231 11)) (σ 234 (σ 233 (σ 231 11)) + cin σ T (σ 231 11))) 233 (σ 231 11) (σ 231 12)) 231 8 (σ 231 8 + 1)
theorem sp_finishMove {σ : xSig} {T : Nat → List Int} (hA : VAll σ T) (h01 : n01 σ 27) (h : CHR σ) (hm : 0 ≤ σ 231 11 ∧ σ 231 11 < σ 231 7) : x_Sp MX0_finishMove 0 0 [.ref 231, .ref 25] (St σ) (iv (cin σ T (σ 231 11))) (St (emv (fmv1 σ T))) := by
  have h1 := h.1
  have h7 := h.2.2.2.2.2.2.1 (σ 231 11)
  have e0 : cown σ (σ 231 11) = σ 233 (σ 231 11) := by unfold cown chas; rw [if_pos (decide_eq_true hm)]
  have ho := sp_ownerOf h (c := σ 231 11) (by unfold xr; omega)
  rw [e0] at ho
  have e1 : (xu σ 234 (σ 233 (σ 231 11)) (σ 234 (σ 233 (σ 231 11)) + cin σ T (σ 231 11))) 231 11 = σ 231 11 := xu_ne _ (Or.inl (by decide))
  have e2 : (xu σ 234 (σ 233 (σ 231 11)) (σ 234 (σ 233 (σ 231 11)) + cin σ T (σ 231 11))) 231 12 = σ 231 12 := xu_ne _ (Or.inl (by decide))
  have e3 : (xu (xu σ 234 (σ 233 (σ 231 11)) (σ 234 (σ 233 (σ 231 11)) + cin σ T (σ 231 11))) 233 (σ 231 11) (σ 231 12)) 231 8 = σ 231 8 := (xu_ne _ (Or.inl (by decide))).trans (xu_ne _ (Or.inl (by decide)))
  have h5 : n01 (fmv1 σ T) 235 := by
    intro i
    unfold fmv1
    rw [xu_ne _ (Or.inl (by decide)), xu_ne _ (Or.inl (by decide)), xu_ne _ (Or.inl (by decide))]
    exact h.2.2.2.2.2.2.2 i
  refine e_entry okX0_finishMove (Nat.le_of_ble_eq_true rfl) (ls := [some _, some _, none, none]) rfl ?_
  refine e_aload_n 0 1 rfl rfl rfl rfl ?_
  refine e_aload_n 1 2 rfl rfl rfl rfl ?_
  refine e_aload_n 2 3 rfl rfl rfl rfl ?_
  refine g_getI 3 6 11 ckX0 flX0_48 rfl rfl (Nat.le_of_ble_eq_true rfl) rfl rfl rfl rfl ?_
  refine g_callV 4 9 (sp_countIn hA h01 h (by unfold xr; omega)) okX0_countIn cvX0_114 ⟨(Nat.le_of_ble_eq_true rfl), (Nat.le_of_ble_eq_true rfl)⟩ rfl rfl (Nat.le_of_ble_eq_true rfl) rfl rfl rfl rfl rfl (Nat.le_of_ble_eq_true rfl) (Nat.le_of_ble_eq_true rfl) (Nat.le_of_ble_eq_true rfl) ?_
  refine e_istore_n 5 10 (ls' := [some _, some _, some _, none]) rfl rfl rfl (Nat.le_of_ble_eq_true rfl) rfl ?_
  refine e_aload_n 6 11 rfl rfl rfl rfl ?_
  refine e_aload_n 7 12 rfl rfl rfl rfl ?_
  refine g_getI 8 15 11 ckX0 flX0_48 rfl rfl (Nat.le_of_ble_eq_true rfl) rfl rfl rfl rfl ?_
  refine g_callV 9 18 (ho) okX0_ownerOf cvX0_93 ⟨(Nat.le_of_ble_eq_true rfl), (Nat.le_of_ble_eq_true rfl)⟩ rfl rfl (Nat.le_of_ble_eq_true rfl) rfl rfl rfl rfl rfl (Nat.le_of_ble_eq_true rfl) (Nat.le_of_ble_eq_true rfl) (Nat.le_of_ble_eq_true rfl) ?_
  refine e_istore_n 10 19 (ls' := [some _, some _, some _, some _]) rfl rfl rfl (Nat.le_of_ble_eq_true rfl) rfl ?_
  refine e_iload_n 11 20 rfl rfl rfl rfl ?_
  refine e_if_lt 12 42 23 rfl rfl rfl (by unfold xr at *; omega) (fun h9 => absurd h9 (by omega)) (fun _ => ?_)
  refine e_iload_n 13 24 rfl rfl rfl rfl ?_
  refine e_aload_n 14 25 rfl rfl rfl rfl ?_
  refine g_getR 15 28 ckX0 flX0_18 rfl rfl (Nat.le_of_ble_eq_true rfl) rfl rfl ?_
  refine g_alen 16 29 rfl rfl (Nat.le_of_ble_eq_true rfl) rfl (Nat.le_of_ble_eq_true rfl) ?_
  refine e_icmp_ge 17 42 32 rfl rfl rfl (by unfold xr at *; omega) (by unfold xr at *; omega) (fun h9 => absurd h9 (by omega)) (fun _ => ?_)
  refine e_aload_n 18 33 rfl rfl rfl rfl ?_
  refine g_getR 19 36 ckX0 flX0_18 rfl rfl (Nat.le_of_ble_eq_true rfl) rfl rfl ?_
  refine e_iload_n 20 37 rfl rfl rfl rfl ?_
  refine e_dup2 21 38 rfl rfl rfl rfl ?_
  refine g_iaload 22 39 rfl rfl (Nat.le_of_ble_eq_true rfl) rfl (by omega) (by omega) (by omega) rfl ?_
  refine e_iload_n 23 40 rfl rfl rfl rfl ?_
  refine e_iadd 24 41 rfl rfl ?_
  refine g_iastore 25 42 rfl rfl (Nat.le_of_ble_eq_true rfl) rfl (by omega) (by omega) (by omega) ?_
  refine e_aload_n 26 43 rfl rfl rfl rfl ?_
  refine g_getI 27 46 11 ckX0 flX0_48 rfl rfl (Nat.le_of_ble_eq_true rfl) rfl rfl rfl e1 ?_
  refine e_if_lt 28 74 49 rfl rfl rfl (by unfold xr at *; omega) (fun h9 => absurd h9 (by omega)) (fun _ => ?_)
  refine e_aload_n 29 50 rfl rfl rfl rfl ?_
  refine g_getI 30 53 11 ckX0 flX0_48 rfl rfl (Nat.le_of_ble_eq_true rfl) rfl rfl rfl e1 ?_
  refine e_aload_n 31 54 rfl rfl rfl rfl ?_
  refine g_getR 32 57 ckX0 flX0_15 rfl rfl (Nat.le_of_ble_eq_true rfl) rfl rfl ?_
  refine g_alen 33 58 rfl rfl (Nat.le_of_ble_eq_true rfl) rfl (Nat.le_of_ble_eq_true rfl) ?_
  refine e_icmp_ge 34 74 61 rfl rfl rfl (by unfold xr at *; omega) (by unfold xr at *; omega) (fun h9 => absurd h9 (by omega)) (fun _ => ?_)
  refine e_aload_n 35 62 rfl rfl rfl rfl ?_
  refine g_getR 36 65 ckX0 flX0_15 rfl rfl (Nat.le_of_ble_eq_true rfl) rfl rfl ?_
  refine e_aload_n 37 66 rfl rfl rfl rfl ?_
  refine g_getI 38 69 11 ckX0 flX0_48 rfl rfl (Nat.le_of_ble_eq_true rfl) rfl rfl rfl e1 ?_
  refine e_aload_n 39 70 rfl rfl rfl rfl ?_
  refine g_getI 40 73 12 ckX0 flX0_51 rfl rfl (Nat.le_of_ble_eq_true rfl) rfl rfl rfl e2 ?_
  refine g_iastore 41 74 rfl rfl (Nat.le_of_ble_eq_true rfl) rfl (by omega) (by omega) (by omega) ?_
  refine e_aload_n 42 75 rfl rfl rfl rfl ?_
  refine e_dup 43 76 rfl rfl rfl ?_
  refine g_getI 44 79 8 ckX0 flX0_38 rfl rfl (Nat.le_of_ble_eq_true rfl) rfl rfl rfl e3 ?_
  refine e_iconst 45 80 rfl rfl ?_
  refine e_iadd 46 81 rfl rfl ?_
  refine g_putI 47 84 8 ckX0 flX0_38 rfl rfl (Nat.le_of_ble_eq_true rfl) rfl rfl rfl ?_
  refine e_aload_n 48 85 rfl rfl rfl rfl ?_
  refine g_callV 49 88 (sp_endMove h5) okX0_endMove cvX0_118 ⟨(Nat.le_of_ble_eq_true rfl), (Nat.le_of_ble_eq_true rfl)⟩ rfl rfl (Nat.le_of_ble_eq_true rfl) rfl rfl rfl rfl rfl (Nat.le_of_ble_eq_true rfl) (Nat.le_of_ble_eq_true rfl) (Nat.le_of_ble_eq_true rfl) ?_
  refine e_pop 50 89 rfl rfl rfl ?_
  refine e_iload_n 51 90 rfl rfl rfl rfl ?_
  exact e_ireturn 52 rfl rfl (Nat.le_of_ble_eq_true rfl) (Nat.le_of_ble_eq_true rfl)
theorem sp_copiesAt {σ : xSig} (h : CHR σ) {s : Int} (hs : 0 ≤ s ∧ s < 3) : Rd MX0_copiesAt [.ref 231, .int (ii s)] σ (iv (if s = σ 231 12 then ncp σ else 0)) := by
  have ht := h.2.2.2.2.1
  by_cases hc : s = σ 231 12
  · rw [if_pos hc]
    have loop : ∀ (n i : Nat) (w : Int), i + n = 100 → 0 ≤ w → w ≤ i → x_E MX0_copiesAt 0 0 4 [some (.ref 231), some (.int (ii s)), some (.int (ii w)), some (.int (ii i))] [] (St σ) 0 0 (iv (w + smN (fun n => if σ 235 n = 1 then 1 else 0) i n)) (St σ) := by
      intro n
      induction n with
      | zero =>
        intro i w hi h0 h2
        simp only [smN, Int.add_zero]
        refine e_iload_n 4 5 rfl rfl rfl rfl ?_
        refine e_aload_n 5 6 rfl rfl rfl rfl ?_
        refine g_getR 6 9 ckX0 flX0_21 rfl rfl (Nat.le_of_ble_eq_true rfl) rfl rfl ?_
        refine g_alen 7 10 rfl rfl (Nat.le_of_ble_eq_true rfl) rfl (Nat.le_of_ble_eq_true rfl) ?_
        refine e_icmp_ge 8 39 13 rfl rfl rfl (by unfold xr at *; omega) (by unfold xr at *; omega) (fun _ => ?_) (fun h9 => absurd h9 (by omega))
        refine e_iload_n 21 40 rfl rfl rfl rfl ?_
        exact e_ireturn 22 rfl rfl (Nat.le_of_ble_eq_true rfl) (Nat.le_of_ble_eq_true rfl)
      | succ n ih =>
        intro i w hi h0 h2
        have hn := fun w' (q0 : 0 ≤ w') (q1 : w' ≤ (i : Int) + 1) => ih (i + 1) w' (by omega) q0 (by omega)
        rw [show (((i + 1 : Nat)) : Int) = (i : Int) + 1 by omega] at hn
        have e2 := h.2.2.2.2.2.2.2 i
        simp only [smN]
        refine e_iload_n 4 5 rfl rfl rfl rfl ?_
        refine e_aload_n 5 6 rfl rfl rfl rfl ?_
        refine g_getR 6 9 ckX0 flX0_21 rfl rfl (Nat.le_of_ble_eq_true rfl) rfl rfl ?_
        refine g_alen 7 10 rfl rfl (Nat.le_of_ble_eq_true rfl) rfl (Nat.le_of_ble_eq_true rfl) ?_
        refine e_icmp_ge 8 39 13 rfl rfl rfl (by unfold xr at *; omega) (by unfold xr at *; omega) (fun h9 => absurd h9 (by omega)) (fun _ => ?_)
        refine e_iload_n 9 14 rfl rfl rfl rfl ?_
        refine e_aload_n 10 15 rfl rfl rfl rfl ?_
        refine g_getI 11 18 12 ckX0 flX0_51 rfl rfl (Nat.le_of_ble_eq_true rfl) rfl rfl rfl rfl ?_
        refine e_icmp_ne 12 39 21 rfl rfl rfl (by unfold xr at *; omega) (by unfold xr at *; omega) (fun h9 => absurd h9 (fun q => q hc)) (fun _ => ?_)
        refine e_aload_n 13 22 rfl rfl rfl rfl ?_
        refine g_getR 14 25 ckX0 flX0_21 rfl rfl (Nat.le_of_ble_eq_true rfl) rfl rfl ?_
        refine e_iload_n 15 26 rfl rfl rfl rfl ?_
        refine g_baload 16 27 rfl rfl (Nat.le_of_ble_eq_true rfl) rfl (by omega) (by omega) (by omega) rfl ?_
        refine e_if_eq 17 33 30 rfl rfl rfl (by unfold xr at *; omega) (fun h3 => ?_) (fun h3 => ?_)
        · skip
          rw [if_neg (by omega), Int.zero_add]
          refine e_iinc 19 36 (ls' := [some _, some _, some _, some _]) rfl rfl (Nat.le_of_ble_eq_true rfl) rfl rfl ?_
          refine e_goto 20 4 rfl rfl ?_
          exact hn w h0 (by omega)
        · skip
          rw [if_pos (by omega), ← Int.add_assoc]
          refine e_iinc 18 33 (ls' := [some _, some _, some _, some _]) rfl rfl (Nat.le_of_ble_eq_true rfl) rfl rfl ?_
          refine e_iinc 19 36 (ls' := [some _, some _, some _, some _]) rfl rfl (Nat.le_of_ble_eq_true rfl) rfl rfl ?_
          refine e_goto 20 4 rfl rfl ?_
          exact hn (w + 1) (by omega) (by omega)
    refine e_entry okX0_copiesAt (Nat.le_of_ble_eq_true rfl) (ls := [some _, some _, none, none]) rfl ?_
    refine e_iconst 0 1 rfl rfl ?_
    refine e_istore_n 1 2 (ls' := [some _, some _, some _, none]) rfl rfl rfl (Nat.le_of_ble_eq_true rfl) rfl ?_
    refine e_iconst 2 3 rfl rfl ?_
    refine e_istore_n 3 4 (ls' := [some _, some _, some _, some _]) rfl rfl rfl (Nat.le_of_ble_eq_true rfl) rfl ?_
    have h9 := loop 100 0 0 rfl (by omega) (by omega)
    rw [Int.zero_add] at h9
    exact h9
  · rw [if_neg hc]
    refine e_entry okX0_copiesAt (Nat.le_of_ble_eq_true rfl) (ls := [some _, some _, none, none]) rfl ?_
    refine e_iconst 0 1 rfl rfl ?_
    refine e_istore_n 1 2 (ls' := [some _, some _, some _, none]) rfl rfl rfl (Nat.le_of_ble_eq_true rfl) rfl ?_
    refine e_iconst 2 3 rfl rfl ?_
    refine e_istore_n 3 4 (ls' := [some _, some _, some _, some _]) rfl rfl rfl (Nat.le_of_ble_eq_true rfl) rfl ?_
    refine e_iload_n 4 5 rfl rfl rfl rfl ?_
    refine e_aload_n 5 6 rfl rfl rfl rfl ?_
    refine g_getR 6 9 ckX0 flX0_21 rfl rfl (Nat.le_of_ble_eq_true rfl) rfl rfl ?_
    refine g_alen 7 10 rfl rfl (Nat.le_of_ble_eq_true rfl) rfl (Nat.le_of_ble_eq_true rfl) ?_
    refine e_icmp_ge 8 39 13 rfl rfl rfl (by unfold xr at *; omega) (by unfold xr at *; omega) (fun h9 => absurd h9 (by omega)) (fun _ => ?_)
    refine e_iload_n 9 14 rfl rfl rfl rfl ?_
    refine e_aload_n 10 15 rfl rfl rfl rfl ?_
    refine g_getI 11 18 12 ckX0 flX0_51 rfl rfl (Nat.le_of_ble_eq_true rfl) rfl rfl rfl rfl ?_
    refine e_icmp_ne 12 39 21 rfl rfl rfl (by unfold xr at *; omega) (by unfold xr at *; omega) (fun _ => ?_) (fun h9 => absurd h9 (fun q => hc q))
    refine e_iload_n 21 40 rfl rfl rfl rfl ?_
    exact e_ireturn 22 rfl rfl (Nat.le_of_ble_eq_true rfl) (Nat.le_of_ble_eq_true rfl)
theorem sp_orphansOf {σ : xSig} {s : Int} (hs : 0 ≤ s ∧ s < 3) : Rd MX0_orphansOf [.ref 231, .int (ii s)] σ (iv (σ 234 s)) := by
  refine e_entry okX0_orphansOf (Nat.le_of_ble_eq_true rfl) (ls := [some _, some _]) rfl ?_
  refine e_iload_n 0 1 rfl rfl rfl rfl ?_
  refine e_if_lt 1 22 4 rfl rfl rfl (by unfold xr at *; omega) (fun h9 => absurd h9 (by omega)) (fun _ => ?_)
  refine e_iload_n 2 5 rfl rfl rfl rfl ?_
  refine e_aload_n 3 6 rfl rfl rfl rfl ?_
  refine g_getR 4 9 ckX0 flX0_18 rfl rfl (Nat.le_of_ble_eq_true rfl) rfl rfl ?_
  refine g_alen 5 10 rfl rfl (Nat.le_of_ble_eq_true rfl) rfl (Nat.le_of_ble_eq_true rfl) ?_
  refine e_icmp_ge 6 22 13 rfl rfl rfl (by unfold xr at *; omega) (by unfold xr at *; omega) (fun h9 => absurd h9 (by omega)) (fun _ => ?_)
  refine e_aload_n 7 14 rfl rfl rfl rfl ?_
  refine g_getR 8 17 ckX0 flX0_18 rfl rfl (Nat.le_of_ble_eq_true rfl) rfl rfl ?_
  refine e_iload_n 9 18 rfl rfl rfl rfl ?_
  refine g_iaload 10 19 rfl rfl (Nat.le_of_ble_eq_true rfl) rfl (by omega) (by omega) (by omega) rfl ?_
  refine e_goto 11 23 rfl rfl ?_
  exact e_ireturn 13 rfl rfl (Nat.le_of_ble_eq_true rfl) (Nat.le_of_ble_eq_true rfl)
theorem sp_takeOrphans {σ : xSig} {s : Int} (hs : 0 ≤ s ∧ s < 3) : x_Sp MX0_takeOrphans 0 0 [.ref 231, .int (ii s)] (St σ) (iv (σ 234 s)) (St (xu σ 234 s 0)) := by
  refine e_entry okX0_takeOrphans (Nat.le_of_ble_eq_true rfl) (ls := [some _, some _, none]) rfl ?_
  refine e_aload_n 0 1 rfl rfl rfl rfl ?_
  refine e_iload_n 1 2 rfl rfl rfl rfl ?_
  refine g_callV 2 5 (sp_orphansOf hs) okX0_orphansOf cvX0_122 ⟨(Nat.le_of_ble_eq_true rfl), (Nat.le_of_ble_eq_true rfl)⟩ rfl rfl (Nat.le_of_ble_eq_true rfl) rfl rfl rfl rfl rfl (Nat.le_of_ble_eq_true rfl) (Nat.le_of_ble_eq_true rfl) (Nat.le_of_ble_eq_true rfl) ?_
  refine e_istore_n 3 6 (ls' := [some _, some _, some _]) rfl rfl rfl (Nat.le_of_ble_eq_true rfl) rfl ?_
  refine e_iload_n 4 7 rfl rfl rfl rfl ?_
  refine e_if_lt 5 26 10 rfl rfl rfl (by unfold xr at *; omega) (fun h9 => absurd h9 (by omega)) (fun _ => ?_)
  refine e_iload_n 6 11 rfl rfl rfl rfl ?_
  refine e_aload_n 7 12 rfl rfl rfl rfl ?_
  refine g_getR 8 15 ckX0 flX0_18 rfl rfl (Nat.le_of_ble_eq_true rfl) rfl rfl ?_
  refine g_alen 9 16 rfl rfl (Nat.le_of_ble_eq_true rfl) rfl (Nat.le_of_ble_eq_true rfl) ?_
  refine e_icmp_ge 10 26 19 rfl rfl rfl (by unfold xr at *; omega) (by unfold xr at *; omega) (fun h9 => absurd h9 (by omega)) (fun _ => ?_)
  refine e_aload_n 11 20 rfl rfl rfl rfl ?_
  refine g_getR 12 23 ckX0 flX0_18 rfl rfl (Nat.le_of_ble_eq_true rfl) rfl rfl ?_
  refine e_iload_n 13 24 rfl rfl rfl rfl ?_
  refine e_iconst 14 25 rfl rfl ?_
  refine g_iastore 15 26 rfl rfl (Nat.le_of_ble_eq_true rfl) rfl (by omega) (by omega) (by omega) ?_
  refine e_iload_n 16 27 rfl rfl rfl rfl ?_
  exact e_ireturn 17 rfl rfl (Nat.le_of_ble_eq_true rfl) (Nat.le_of_ble_eq_true rfl)
def uro (σ : xSig) (r : Int) : xSig := if σ 236 r = σ 231 8 then σ else xu (xu σ 236 r (σ 231 8)) 237 r (σ 237 r + 1)
theorem sp_useRouter {σ : xSig} {r : Int} (hr : 0 ≤ r ∧ r < 2) (hv : xr (σ 231 8)) (hw : xr (σ 236 r)) : x_Sp MX0_useRouter 0 0 [.ref 231, .int (ii r)] (St σ) vv (St (uro σ r)) := by
  have e1 : xu σ 236 r (σ 231 8) 237 r = σ 237 r := xu_ne _ (Or.inl (by decide))
  unfold uro
  refine e_entry okX0_useRouter (Nat.le_of_ble_eq_true rfl) (ls := [some _, some _]) rfl ?_
  refine e_iload_n 0 1 rfl rfl rfl rfl ?_
  refine e_if_lt 1 22 4 rfl rfl rfl (by unfold xr at *; omega) (fun h9 => absurd h9 (by omega)) (fun _ => ?_)
  refine e_iload_n 2 5 rfl rfl rfl rfl ?_
  refine e_iconst 3 6 rfl rfl ?_
  refine e_icmp_ge 4 22 9 rfl rfl rfl (by unfold xr at *; omega) (by unfold xr at *; omega) (fun h9 => absurd h9 (by omega)) (fun _ => ?_)
  refine e_aload_n 5 10 rfl rfl rfl rfl ?_
  refine g_getR 6 13 ckX0 flX0_25 rfl rfl (Nat.le_of_ble_eq_true rfl) rfl rfl ?_
  refine e_iload_n 7 14 rfl rfl rfl rfl ?_
  refine g_iaload 8 15 rfl rfl (Nat.le_of_ble_eq_true rfl) rfl (by omega) (by omega) (by omega) rfl ?_
  refine e_aload_n 9 16 rfl rfl rfl rfl ?_
  refine g_getI 10 19 8 ckX0 flX0_38 rfl rfl (Nat.le_of_ble_eq_true rfl) rfl rfl rfl rfl ?_
  refine e_icmp_ne 11 23 22 rfl rfl rfl hw hv (fun h => ?_) (fun h => ?_)
  · skip
    rw [if_neg h]
    refine e_aload_n 13 24 rfl rfl rfl rfl ?_
    refine g_getR 14 27 ckX0 flX0_25 rfl rfl (Nat.le_of_ble_eq_true rfl) rfl rfl ?_
    refine e_iload_n 15 28 rfl rfl rfl rfl ?_
    refine e_aload_n 16 29 rfl rfl rfl rfl ?_
    refine g_getI 17 32 8 ckX0 flX0_38 rfl rfl (Nat.le_of_ble_eq_true rfl) rfl rfl rfl rfl ?_
    refine g_iastore 18 33 rfl rfl (Nat.le_of_ble_eq_true rfl) rfl (by omega) (by omega) (by omega) ?_
    refine e_aload_n 19 34 rfl rfl rfl rfl ?_
    refine g_getR 20 37 ckX0 flX0_28 rfl rfl (Nat.le_of_ble_eq_true rfl) rfl rfl ?_
    refine e_iload_n 21 38 rfl rfl rfl rfl ?_
    refine e_dup2 22 39 rfl rfl rfl rfl ?_
    refine g_iaload 23 40 rfl rfl (Nat.le_of_ble_eq_true rfl) rfl (by omega) (by omega) (by omega) e1 ?_
    refine e_iconst 24 41 rfl rfl ?_
    refine e_iadd 25 42 rfl rfl ?_
    refine g_iastore 26 43 rfl rfl (Nat.le_of_ble_eq_true rfl) rfl (by omega) (by omega) (by omega) ?_
    exact e_return 27 rfl rfl (Nat.le_of_ble_eq_true rfl) (Nat.le_of_ble_eq_true rfl)
  · skip
    rw [if_pos h]
    exact e_return 12 rfl rfl (Nat.le_of_ble_eq_true rfl) (Nat.le_of_ble_eq_true rfl)
theorem sp_routerVersion {σ : xSig} {r : Int} (hr : 0 ≤ r ∧ r < 2) : Rd MX0_routerVersion [.ref 231, .int (ii r)] σ (iv (σ 236 r)) := by
  refine e_entry okX0_routerVersion (Nat.le_of_ble_eq_true rfl) (ls := [some _, some _]) rfl ?_
  refine e_iload_n 0 1 rfl rfl rfl rfl ?_
  refine e_if_lt 1 18 4 rfl rfl rfl (by unfold xr at *; omega) (fun h9 => absurd h9 (by omega)) (fun _ => ?_)
  refine e_iload_n 2 5 rfl rfl rfl rfl ?_
  refine e_iconst 3 6 rfl rfl ?_
  refine e_icmp_ge 4 18 9 rfl rfl rfl (by unfold xr at *; omega) (by unfold xr at *; omega) (fun h9 => absurd h9 (by omega)) (fun _ => ?_)
  refine e_aload_n 5 10 rfl rfl rfl rfl ?_
  refine g_getR 6 13 ckX0 flX0_25 rfl rfl (Nat.le_of_ble_eq_true rfl) rfl rfl ?_
  refine e_iload_n 7 14 rfl rfl rfl rfl ?_
  refine g_iaload 8 15 rfl rfl (Nat.le_of_ble_eq_true rfl) rfl (by omega) (by omega) (by omega) rfl ?_
  refine e_goto 9 19 rfl rfl ?_
  exact e_ireturn 11 rfl rfl (Nat.le_of_ble_eq_true rfl) (Nat.le_of_ble_eq_true rfl)
theorem sp_routerStale {σ : xSig} {r : Int} (hr : 0 ≤ r ∧ r < 2) : Rd MX0_routerStale [.ref 231, .int (ii r)] σ (iv (σ 237 r)) := by
  refine e_entry okX0_routerStale (Nat.le_of_ble_eq_true rfl) (ls := [some _, some _]) rfl ?_
  refine e_iload_n 0 1 rfl rfl rfl rfl ?_
  refine e_if_lt 1 18 4 rfl rfl rfl (by unfold xr at *; omega) (fun h9 => absurd h9 (by omega)) (fun _ => ?_)
  refine e_iload_n 2 5 rfl rfl rfl rfl ?_
  refine e_iconst 3 6 rfl rfl ?_
  refine e_icmp_ge 4 18 9 rfl rfl rfl (by unfold xr at *; omega) (by unfold xr at *; omega) (fun h9 => absurd h9 (by omega)) (fun _ => ?_)
  refine e_aload_n 5 10 rfl rfl rfl rfl ?_
  refine g_getR 6 13 ckX0 flX0_28 rfl rfl (Nat.le_of_ble_eq_true rfl) rfl rfl ?_
  refine e_iload_n 7 14 rfl rfl rfl rfl ?_
  refine g_iaload 8 15 rfl rfl (Nat.le_of_ble_eq_true rfl) rfl (by omega) (by omega) (by omega) rfl ?_
  refine e_goto 9 19 rfl rfl ?_
  exact e_ireturn 11 rfl rfl (Nat.le_of_ble_eq_true rfl) (Nat.le_of_ble_eq_true rfl)
theorem sp_beginMove {σ : xSig} {c s : Int} : x_Sp MX0_beginMove 0 0 [.ref 231, .int (ii c), .int (ii s)] (St σ) vv (St (xu (xu σ 231 11 c) 231 12 s)) := by
  refine e_entry okX0_beginMove (Nat.le_of_ble_eq_true rfl) (ls := [some _, some _, some _]) rfl ?_
  refine e_aload_n 0 1 rfl rfl rfl rfl ?_
  refine e_iload_n 1 2 rfl rfl rfl rfl ?_
  refine g_putI 2 5 11 ckX0 flX0_48 rfl rfl (Nat.le_of_ble_eq_true rfl) rfl rfl rfl ?_
  refine e_aload_n 3 6 rfl rfl rfl rfl ?_
  refine e_iload_n 4 7 rfl rfl rfl rfl ?_
  refine g_putI 5 10 12 ckX0 flX0_51 rfl rfl (Nat.le_of_ble_eq_true rfl) rfl rfl rfl ?_
  exact e_return 6 rfl rfl (Nat.le_of_ble_eq_true rfl) (Nat.le_of_ble_eq_true rfl)
def bgc (σ : xSig) : xSig := xu (xu (xu (xu (xu (xu (xu (xu (xu (xu σ 232 0 0) 233 0 0) 234 0 0) 232 1 334) 233 1 1) 234 1 0) 232 2 667) 233 2 2) 234 2 0) 231 7 3
theorem sp_beginChunks {σ : xSig} : x_Sp MX0_beginChunks 0 0 [.ref 231] (St σ) vv (St (bgc σ)) := by
  unfold bgc
  refine e_entry okX0_beginChunks (Nat.le_of_ble_eq_true rfl) (ls := [some _, none]) rfl ?_
  refine e_iconst 0 1 rfl rfl ?_
  refine e_istore_n 1 2 (ls' := [some _, some _]) rfl rfl rfl (Nat.le_of_ble_eq_true rfl) rfl ?_
  refine e_iload_n 2 3 rfl rfl rfl rfl ?_
  refine e_iconst 3 4 rfl rfl ?_
  refine e_icmp_ge 4 48 7 rfl rfl rfl (by unfold xr at *; omega) (by unfold xr at *; omega) (fun h9 => absurd h9 (by omega)) (fun _ => ?_)
  refine e_aload_n 5 8 rfl rfl rfl rfl ?_
  refine g_getR 6 11 ckX0 flX0_9 rfl rfl (Nat.le_of_ble_eq_true rfl) rfl rfl ?_
  refine e_iload_n 7 12 rfl rfl rfl rfl ?_
  refine e_iload_n 8 13 rfl rfl rfl rfl ?_
  refine e_if_ne 9 20 16 rfl rfl rfl (by unfold xr at *; omega) (fun h9 => absurd h9 (by omega)) (fun _ => ?_)
  refine e_iconst 10 17 rfl rfl ?_
  refine e_goto 11 27 rfl rfl ?_
  refine g_iastore 17 28 rfl rfl (Nat.le_of_ble_eq_true rfl) rfl (by omega) (by omega) (by omega) ?_
  refine e_aload_n 18 29 rfl rfl rfl rfl ?_
  refine g_getR 19 32 ckX0 flX0_15 rfl rfl (Nat.le_of_ble_eq_true rfl) rfl rfl ?_
  refine e_iload_n 20 33 rfl rfl rfl rfl ?_
  refine e_iload_n 21 34 rfl rfl rfl rfl ?_
  refine g_iastore 22 35 rfl rfl (Nat.le_of_ble_eq_true rfl) rfl (by omega) (by omega) (by omega) ?_
  refine e_aload_n 23 36 rfl rfl rfl rfl ?_
  refine g_getR 24 39 ckX0 flX0_18 rfl rfl (Nat.le_of_ble_eq_true rfl) rfl rfl ?_
  refine e_iload_n 25 40 rfl rfl rfl rfl ?_
  refine e_iconst 26 41 rfl rfl ?_
  refine g_iastore 27 42 rfl rfl (Nat.le_of_ble_eq_true rfl) rfl (by omega) (by omega) (by omega) ?_
  refine e_iinc 28 45 (ls' := [some _, some _]) rfl rfl (Nat.le_of_ble_eq_true rfl) rfl rfl ?_
  refine e_goto 29 2 rfl rfl ?_
  refine e_iload_n 2 3 rfl rfl rfl rfl ?_
  refine e_iconst 3 4 rfl rfl ?_
  refine e_icmp_ge 4 48 7 rfl rfl rfl (by unfold xr at *; omega) (by unfold xr at *; omega) (fun h9 => absurd h9 (by omega)) (fun _ => ?_)
  refine e_aload_n 5 8 rfl rfl rfl rfl ?_
  refine g_getR 6 11 ckX0 flX0_9 rfl rfl (Nat.le_of_ble_eq_true rfl) rfl rfl ?_
  refine e_iload_n 7 12 rfl rfl rfl rfl ?_
  refine e_iload_n 8 13 rfl rfl rfl rfl ?_
  refine e_if_ne 9 20 16 rfl rfl rfl (by unfold xr at *; omega) (fun _ => ?_) (fun h9 => absurd h9 (by omega))
  refine e_sipush 12 23 rfl rfl rfl ?_
  refine e_iload_n 13 24 rfl rfl rfl rfl ?_
  refine e_imul 14 25 rfl rfl ?_
  refine e_iconst 15 26 rfl rfl ?_
  refine e_iadd 16 27 rfl rfl ?_
  refine g_iastore 17 28 rfl rfl (Nat.le_of_ble_eq_true rfl) rfl (by omega) (by omega) (by omega) ?_
  refine e_aload_n 18 29 rfl rfl rfl rfl ?_
  refine g_getR 19 32 ckX0 flX0_15 rfl rfl (Nat.le_of_ble_eq_true rfl) rfl rfl ?_
  refine e_iload_n 20 33 rfl rfl rfl rfl ?_
  refine e_iload_n 21 34 rfl rfl rfl rfl ?_
  refine g_iastore 22 35 rfl rfl (Nat.le_of_ble_eq_true rfl) rfl (by omega) (by omega) (by omega) ?_
  refine e_aload_n 23 36 rfl rfl rfl rfl ?_
  refine g_getR 24 39 ckX0 flX0_18 rfl rfl (Nat.le_of_ble_eq_true rfl) rfl rfl ?_
  refine e_iload_n 25 40 rfl rfl rfl rfl ?_
  refine e_iconst 26 41 rfl rfl ?_
  refine g_iastore 27 42 rfl rfl (Nat.le_of_ble_eq_true rfl) rfl (by omega) (by omega) (by omega) ?_
  refine e_iinc 28 45 (ls' := [some _, some _]) rfl rfl (Nat.le_of_ble_eq_true rfl) rfl rfl ?_
  refine e_goto 29 2 rfl rfl ?_
  refine e_iload_n 2 3 rfl rfl rfl rfl ?_
  refine e_iconst 3 4 rfl rfl ?_
  refine e_icmp_ge 4 48 7 rfl rfl rfl (by unfold xr at *; omega) (by unfold xr at *; omega) (fun h9 => absurd h9 (by omega)) (fun _ => ?_)
  refine e_aload_n 5 8 rfl rfl rfl rfl ?_
  refine g_getR 6 11 ckX0 flX0_9 rfl rfl (Nat.le_of_ble_eq_true rfl) rfl rfl ?_
  refine e_iload_n 7 12 rfl rfl rfl rfl ?_
  refine e_iload_n 8 13 rfl rfl rfl rfl ?_
  refine e_if_ne 9 20 16 rfl rfl rfl (by unfold xr at *; omega) (fun _ => ?_) (fun h9 => absurd h9 (by omega))
  refine e_sipush 12 23 rfl rfl rfl ?_
  refine e_iload_n 13 24 rfl rfl rfl rfl ?_
  refine e_imul 14 25 rfl rfl ?_
  refine e_iconst 15 26 rfl rfl ?_
  refine e_iadd 16 27 rfl rfl ?_
  refine g_iastore 17 28 rfl rfl (Nat.le_of_ble_eq_true rfl) rfl (by omega) (by omega) (by omega) ?_
  refine e_aload_n 18 29 rfl rfl rfl rfl ?_
  refine g_getR 19 32 ckX0 flX0_15 rfl rfl (Nat.le_of_ble_eq_true rfl) rfl rfl ?_
  refine e_iload_n 20 33 rfl rfl rfl rfl ?_
  refine e_iload_n 21 34 rfl rfl rfl rfl ?_
  refine g_iastore 22 35 rfl rfl (Nat.le_of_ble_eq_true rfl) rfl (by omega) (by omega) (by omega) ?_
  refine e_aload_n 23 36 rfl rfl rfl rfl ?_
  refine g_getR 24 39 ckX0 flX0_18 rfl rfl (Nat.le_of_ble_eq_true rfl) rfl rfl ?_
  refine e_iload_n 25 40 rfl rfl rfl rfl ?_
  refine e_iconst 26 41 rfl rfl ?_
  refine g_iastore 27 42 rfl rfl (Nat.le_of_ble_eq_true rfl) rfl (by omega) (by omega) (by omega) ?_
  refine e_iinc 28 45 (ls' := [some _, some _]) rfl rfl (Nat.le_of_ble_eq_true rfl) rfl rfl ?_
  refine e_goto 29 2 rfl rfl ?_
  refine e_iload_n 2 3 rfl rfl rfl rfl ?_
  refine e_iconst 3 4 rfl rfl ?_
  refine e_icmp_ge 4 48 7 rfl rfl rfl (by unfold xr at *; omega) (by unfold xr at *; omega) (fun _ => ?_) (fun h9 => absurd h9 (by omega))
  refine e_aload_n 30 49 rfl rfl rfl rfl ?_
  refine e_iconst 31 50 rfl rfl ?_
  refine g_putI 32 53 7 ckX0 flX0_34 rfl rfl (Nat.le_of_ble_eq_true rfl) rfl rfl rfl ?_
  exact e_return 33 rfl rfl (Nat.le_of_ble_eq_true rfl) (Nat.le_of_ble_eq_true rfl)
/-- a chunk is cut: the chunks behind it go one place up -/
def cshf (σ : xSig) (i : Int) : xSig := fun b j => if (b = 232 ∨ b = 233) ∧ i < j ∧ j ≤ σ 231 7 then σ b (j - 1) else σ b j
def cutd (σ : xSig) (c at9 : Int) : xSig := fun b j =>
  if b = 232 then (if j = c + 1 then at9 else if c + 1 < j ∧ j ≤ σ 231 7 then σ 232 (j - 1) else σ 232 j)
  else if b = 233 then (if j = c + 1 then σ 233 c else if c + 1 < j ∧ j ≤ σ 231 7 then σ 233 (j - 1) else σ 233 j)
  else if b = 231 then (if j = 7 then σ 231 7 + 1 else if j = 8 then σ 231 8 + 1 else if j = 11 ∧ c < σ 231 11 then σ 231 11 + 1 else σ 231 j)
  else σ b j
theorem cshf_step (σ : xSig) (i : Int) (hi : i ≤ σ 231 7) : xu (xu (cshf σ i) 232 i (σ 232 (i - 1))) 233 i (σ 233 (i - 1)) = cshf σ (i - 1) := by
  funext b j
  unfold xu cshf
  by_cases h3 : b = 233 ∧ j = i
  · rw [if_pos h3, if_pos ⟨Or.inr h3.1, by omega, by omega⟩, h3.1, h3.2]
  · rw [if_neg h3]
    by_cases h2 : b = 232 ∧ j = i
    · rw [if_pos h2, if_pos ⟨Or.inl h2.1, by omega, by omega⟩, h2.1, h2.2]
    · rw [if_neg h2]
      by_cases h : (b = 232 ∨ b = 233) ∧ i < j ∧ j ≤ σ 231 7
      · rw [if_pos h, if_pos ⟨h.1, by omega, by omega⟩]
      · rw [if_neg h, if_neg (fun q => by
          rcases q.1 with e | e
          · exact h ⟨Or.inl e, by have : j ≠ i := fun e2 => h2 ⟨e, e2⟩; omega, q.2.2⟩
          · exact h ⟨Or.inr e, by have : j ≠ i := fun e2 => h3 ⟨e, e2⟩; omega, q.2.2⟩)]
theorem sp_cut {σ : xSig} (h : CHR σ) {c at9 : Int} (hc : 0 ≤ c ∧ c < σ 231 7) (hn : σ 231 7 < 12) : x_Sp MX0_cut 0 0 [.ref 231, .int (ii c), .int (ii at9)] (St σ) vv (St (cutd σ c at9)) := by
  have h1 := h.1
  have hm := h.2.2.2.1
  have hh := sp_chHas h (c := c) (by unfold xr; omega)
  rw [show chas σ c = true from decide_eq_true hc] at hh
  have fin : x_E MX0_cut 0 0 71 [some (.ref 231), some (.int (ii c)), some (.int (ii at9)), some (.int (ii (c + 1)))] [] (St (cshf σ (c + 1))) 0 0 vv (St (cutd σ c at9)) := by
    have a1 : cshf σ (c + 1) 231 = σ 231 := by funext j; unfold cshf; rw [if_neg (fun q => by rcases q.1 with e | e <;> exact absurd e (by decide))]
    have b1 : xu (cshf σ (c + 1)) 232 (c + 1) at9 233 c = σ 233 c := by rw [xu_ne _ (Or.inl (by decide))]; unfold cshf; rw [if_neg (fun q => by omega)]
    have b2 : xu (xu (cshf σ (c + 1)) 232 (c + 1) at9) 233 (c + 1) (σ 233 c) 231 7 = σ 231 7 := by rw [xu_ne _ (Or.inl (by decide)), xu_ne _ (Or.inl (by decide)), a1]
    have b3 : xu (xu (xu (cshf σ (c + 1)) 232 (c + 1) at9) 233 (c + 1) (σ 233 c)) 231 7 (σ 231 7 + 1) 231 8 = σ 231 8 := by rw [xu_ne _ (Or.inr (by decide)), xu_ne _ (Or.inl (by decide)), xu_ne _ (Or.inl (by decide)), a1]
    have b4 : xu (xu (xu (xu (cshf σ (c + 1)) 232 (c + 1) at9) 233 (c + 1) (σ 233 c)) 231 7 (σ 231 7 + 1)) 231 8 (σ 231 8 + 1) 231 11 = σ 231 11 := by rw [xu_ne _ (Or.inr (by decide)), xu_ne _ (Or.inr (by decide)), xu_ne _ (Or.inl (by decide)), xu_ne _ (Or.inl (by decide)), a1]
    have fun1 : ∀ (m : xSig), (m = if c < σ 231 11 then xu (xu (xu (xu (xu (cshf σ (c + 1)) 232 (c + 1) at9) 233 (c + 1) (σ 233 c)) 231 7 (σ 231 7 + 1)) 231 8 (σ 231 8 + 1)) 231 11 (σ 231 11 + 1) else xu (xu (xu (xu (cshf σ (c + 1)) 232 (c + 1) at9) 233 (c + 1) (σ 233 c)) 231 7 (σ 231 7 + 1)) 231 8 (σ 231 8 + 1)) → m = cutd σ c at9 := by
      intro m hm9
      rw [hm9]
      funext b j
      by_cases e2 : b = 232
      · subst e2
        have r : cutd σ c at9 232 j = (if j = c + 1 then at9 else if c + 1 < j ∧ j ≤ σ 231 7 then σ 232 (j - 1) else σ 232 j) := by unfold cutd; rw [if_pos rfl]
        have q : ∀ m' : xSig, m' 232 j = xu (cshf σ (c + 1)) 232 (c + 1) at9 232 j → m' 232 j = cutd σ c at9 232 j := by
          intro m' hm'
          rw [hm', r]
          by_cases e : j = c + 1
          · subst e
            rw [xu_same, if_pos rfl]
          · rw [xu_ne _ (Or.inr e), if_neg e]
            unfold cshf
            by_cases e3 : c + 1 < j ∧ j ≤ σ 231 7
            · rw [if_pos ⟨Or.inl rfl, e3⟩, if_pos e3]
            · rw [if_neg (fun q => e3 q.2), if_neg e3]
        apply q
        by_cases hq : c < σ 231 11
        · rw [if_pos hq, xu_ne _ (Or.inl (by decide)), xu_ne _ (Or.inl (by decide)), xu_ne _ (Or.inl (by decide)), xu_ne _ (Or.inl (by decide))]
        · rw [if_neg hq, xu_ne _ (Or.inl (by decide)), xu_ne _ (Or.inl (by decide)), xu_ne _ (Or.inl (by decide))]
      · by_cases e3 : b = 233
        · subst e3
          have r : cutd σ c at9 233 j = (if j = c + 1 then σ 233 c else if c + 1 < j ∧ j ≤ σ 231 7 then σ 233 (j - 1) else σ 233 j) := by unfold cutd; rw [if_neg (by decide), if_pos rfl]
          have q : ∀ m' : xSig, m' 233 j = xu (xu (cshf σ (c + 1)) 232 (c + 1) at9) 233 (c + 1) (σ 233 c) 233 j → m' 233 j = cutd σ c at9 233 j := by
            intro m' hm'
            rw [hm', r]
            by_cases e : j = c + 1
            · subst e
              rw [xu_same, if_pos rfl]
            · rw [xu_ne _ (Or.inr e), if_neg e, xu_ne _ (Or.inl (by decide))]
              unfold cshf
              by_cases e3 : c + 1 < j ∧ j ≤ σ 231 7
              · rw [if_pos ⟨Or.inr rfl, e3⟩, if_pos e3]
              · rw [if_neg (fun q => e3 q.2), if_neg e3]
          apply q
          by_cases hq : c < σ 231 11
          · rw [if_pos hq, xu_ne _ (Or.inl (by decide)), xu_ne _ (Or.inl (by decide)), xu_ne _ (Or.inl (by decide))]
          · rw [if_neg hq, xu_ne _ (Or.inl (by decide)), xu_ne _ (Or.inl (by decide))]
        · by_cases e1 : b = 231
          · subst e1
            have r : cutd σ c at9 231 j = (if j = 7 then σ 231 7 + 1 else if j = 8 then σ 231 8 + 1 else if j = 11 ∧ c < σ 231 11 then σ 231 11 + 1 else σ 231 j) := by unfold cutd; rw [if_neg (by decide), if_neg (by decide), if_pos rfl]
            rw [r]
            by_cases j11 : j = 11
            · subst j11
              by_cases hq : c < σ 231 11
              · rw [if_pos hq, if_neg (by decide), if_neg (by decide), if_pos ⟨rfl, hq⟩, xu_same]
              · rw [if_neg hq, if_neg (by decide), if_neg (by decide), if_neg (fun q => hq q.2), b4]
            · have hk : (if c < σ 231 11 then xu (xu (xu (xu (xu (cshf σ (c + 1)) 232 (c + 1) at9) 233 (c + 1) (σ 233 c)) 231 7 (σ 231 7 + 1)) 231 8 (σ 231 8 + 1)) 231 11 (σ 231 11 + 1) else xu (xu (xu (xu (cshf σ (c + 1)) 232 (c + 1) at9) 233 (c + 1) (σ 233 c)) 231 7 (σ 231 7 + 1)) 231 8 (σ 231 8 + 1)) 231 j = xu (xu (xu (xu (cshf σ (c + 1)) 232 (c + 1) at9) 233 (c + 1) (σ 233 c)) 231 7 (σ 231 7 + 1)) 231 8 (σ 231 8 + 1) 231 j := by
                by_cases hq : c < σ 231 11
                · rw [if_pos hq, xu_ne _ (Or.inr j11)]
                · rw [if_neg hq]
              rw [hk]
              by_cases j8 : j = 8
              · subst j8
                rw [xu_same, if_neg (by decide), if_pos rfl]
              · rw [xu_ne _ (Or.inr j8)]
                by_cases j7 : j = 7
                · subst j7
                  rw [xu_same, if_pos rfl]
                · rw [xu_ne _ (Or.inr j7), xu_ne _ (Or.inl (by decide)), xu_ne _ (Or.inl (by decide)), a1, if_neg j7, if_neg j8, if_neg (fun q => j11 q.1)]
          · have e9 : cshf σ (c + 1) b j = σ b j := by
              unfold cshf
              rw [if_neg (fun q => by rcases q.1 with e | e; exact e2 e; exact e3 e)]
            have r : cutd σ c at9 b j = σ b j := by unfold cutd; rw [if_neg e2, if_neg e3, if_neg e1]
            rw [r]
            by_cases hq : c < σ 231 11
            · rw [if_pos hq, xu_ne _ (Or.inl e1), xu_ne _ (Or.inl e1), xu_ne _ (Or.inl e1), xu_ne _ (Or.inl e3), xu_ne _ (Or.inl e2), e9]
            · rw [if_neg hq, xu_ne _ (Or.inl e1), xu_ne _ (Or.inl e1), xu_ne _ (Or.inl e3), xu_ne _ (Or.inl e2), e9]
    refine e_aload_n 42 72 rfl rfl rfl rfl ?_
    refine g_getR 43 75 ckX0 flX0_9 rfl rfl (Nat.le_of_ble_eq_true rfl) rfl rfl ?_
    refine e_iload_n 44 76 rfl rfl rfl rfl ?_
    refine e_iconst 45 77 rfl rfl ?_
    refine e_iadd 46 78 rfl rfl ?_
    refine e_iload_n 47 79 rfl rfl rfl rfl ?_
    refine g_iastore 48 80 rfl rfl (Nat.le_of_ble_eq_true rfl) rfl (by omega) (by omega) (by omega) ?_
    refine e_aload_n 49 81 rfl rfl rfl rfl ?_
    refine g_getR 50 84 ckX0 flX0_15 rfl rfl (Nat.le_of_ble_eq_true rfl) rfl rfl ?_
    refine e_iload_n 51 85 rfl rfl rfl rfl ?_
    refine e_iconst 52 86 rfl rfl ?_
    refine e_iadd 53 87 rfl rfl ?_
    refine e_aload_n 54 88 rfl rfl rfl rfl ?_
    refine g_getR 55 91 ckX0 flX0_15 rfl rfl (Nat.le_of_ble_eq_true rfl) rfl rfl ?_
    refine e_iload_n 56 92 rfl rfl rfl rfl ?_
    refine g_iaload 57 93 rfl rfl (Nat.le_of_ble_eq_true rfl) rfl (by omega) (by omega) (by omega) b1 ?_
    refine g_iastore 58 94 rfl rfl (Nat.le_of_ble_eq_true rfl) rfl (by omega) (by omega) (by omega) ?_
    refine e_aload_n 59 95 rfl rfl rfl rfl ?_
    refine e_dup 60 96 rfl rfl rfl ?_
    refine g_getI 61 99 7 ckX0 flX0_34 rfl rfl (Nat.le_of_ble_eq_true rfl) rfl rfl rfl b2 ?_
    refine e_iconst 62 100 rfl rfl ?_
    refine e_iadd 63 101 rfl rfl ?_
    refine g_putI 64 104 7 ckX0 flX0_34 rfl rfl (Nat.le_of_ble_eq_true rfl) rfl rfl rfl ?_
    refine e_aload_n 65 105 rfl rfl rfl rfl ?_
    refine e_dup 66 106 rfl rfl rfl ?_
    refine g_getI 67 109 8 ckX0 flX0_38 rfl rfl (Nat.le_of_ble_eq_true rfl) rfl rfl rfl b3 ?_
    refine e_iconst 68 110 rfl rfl ?_
    refine e_iadd 69 111 rfl rfl ?_
    refine g_putI 70 114 8 ckX0 flX0_38 rfl rfl (Nat.le_of_ble_eq_true rfl) rfl rfl rfl ?_
    refine e_aload_n 71 115 rfl rfl rfl rfl ?_
    refine g_getI 72 118 11 ckX0 flX0_48 rfl rfl (Nat.le_of_ble_eq_true rfl) rfl rfl rfl b4 ?_
    refine e_iload_n 73 119 rfl rfl rfl rfl ?_
    refine e_icmp_le 74 132 122 rfl rfl rfl (by unfold xr at *; omega) (by unfold xr at *; omega) (fun hq => ?_) (fun hq => ?_)
    · skip
      have := fun1 _ (if_neg (by omega)).symm
      rw [← this]
      exact e_return 81 rfl rfl (Nat.le_of_ble_eq_true rfl) (Nat.le_of_ble_eq_true rfl)
    · skip
      have := fun1 _ (if_pos hq).symm
      rw [← this]
      refine e_aload_n 75 123 rfl rfl rfl rfl ?_
      refine e_dup 76 124 rfl rfl rfl ?_
      refine g_getI 77 127 11 ckX0 flX0_48 rfl rfl (Nat.le_of_ble_eq_true rfl) rfl rfl rfl b4 ?_
      refine e_iconst 78 128 rfl rfl ?_
      refine e_iadd 79 129 rfl rfl ?_
      refine g_putI 80 132 11 ckX0 flX0_48 rfl rfl (Nat.le_of_ble_eq_true rfl) rfl rfl rfl ?_
      exact e_return 81 rfl rfl (Nat.le_of_ble_eq_true rfl) (Nat.le_of_ble_eq_true rfl)
  have loop : ∀ (n : Nat) (i : Int), i = c + 1 + n → i ≤ σ 231 7 → x_E MX0_cut 0 0 30 [some (.ref 231), some (.int (ii c)), some (.int (ii at9)), some (.int (ii i))] [] (St (cshf σ i)) 0 0 vv (St (cutd σ c at9)) := by
    intro n
    induction n with
    | zero =>
      intro i hi h2
      have e : i = c + 1 := by omega
      subst e
      refine e_iload_n 15 31 rfl rfl rfl rfl ?_
      refine e_iload_n 16 32 rfl rfl rfl rfl ?_
      refine e_iconst 17 33 rfl rfl ?_
      refine e_iadd 18 34 rfl rfl ?_
      refine e_icmp_le 19 71 37 rfl rfl rfl (by unfold xr at *; omega) (by unfold xr at *; omega) (fun _ => ?_) (fun h9 => absurd h9 (by omega))
      exact fin
    | succ n ih =>
      intro i hi h2
      have hn2 := ih (i - 1) (by omega) (by omega)
      have e1 : cshf σ i 232 (i - 1) = σ 232 (i - 1) := by unfold cshf; rw [if_neg (fun q => by omega)]
      have e2 : xu (cshf σ i) 232 i (σ 232 (i - 1)) 233 (i - 1) = σ 233 (i - 1) := by rw [xu_ne _ (Or.inl (by decide))]; unfold cshf; rw [if_neg (fun q => by omega)]
      refine e_iload_n 15 31 rfl rfl rfl rfl ?_
      refine e_iload_n 16 32 rfl rfl rfl rfl ?_
      refine e_iconst 17 33 rfl rfl ?_
      refine e_iadd 18 34 rfl rfl ?_
      refine e_icmp_le 19 71 37 rfl rfl rfl (by unfold xr at *; omega) (by unfold xr at *; omega) (fun h9 => absurd h9 (by omega)) (fun _ => ?_)
      refine e_aload_n 20 38 rfl rfl rfl rfl ?_
      refine g_getR 21 41 ckX0 flX0_9 rfl rfl (Nat.le_of_ble_eq_true rfl) rfl rfl ?_
      refine e_iload_n 22 42 rfl rfl rfl rfl ?_
      refine e_aload_n 23 43 rfl rfl rfl rfl ?_
      refine g_getR 24 46 ckX0 flX0_9 rfl rfl (Nat.le_of_ble_eq_true rfl) rfl rfl ?_
      refine e_iload_n 25 47 rfl rfl rfl rfl ?_
      refine e_iconst 26 48 rfl rfl ?_
      refine e_isub 27 49 rfl rfl ?_
      refine g_iaload 28 50 rfl rfl (Nat.le_of_ble_eq_true rfl) rfl (by omega) (by omega) (by omega) e1 ?_
      refine g_iastore 29 51 rfl rfl (Nat.le_of_ble_eq_true rfl) rfl (by omega) (by omega) (by omega) ?_
      refine e_aload_n 30 52 rfl rfl rfl rfl ?_
      refine g_getR 31 55 ckX0 flX0_15 rfl rfl (Nat.le_of_ble_eq_true rfl) rfl rfl ?_
      refine e_iload_n 32 56 rfl rfl rfl rfl ?_
      refine e_aload_n 33 57 rfl rfl rfl rfl ?_
      refine g_getR 34 60 ckX0 flX0_15 rfl rfl (Nat.le_of_ble_eq_true rfl) rfl rfl ?_
      refine e_iload_n 35 61 rfl rfl rfl rfl ?_
      refine e_iconst 36 62 rfl rfl ?_
      refine e_isub 37 63 rfl rfl ?_
      refine g_iaload 38 64 rfl rfl (Nat.le_of_ble_eq_true rfl) rfl (by omega) (by omega) (by omega) e2 ?_
      refine g_iastore 39 65 rfl rfl (Nat.le_of_ble_eq_true rfl) rfl (by omega) (by omega) (by omega) ?_
      refine e_iinc 40 68 (ls' := [some _, some _, some _, some _]) rfl rfl (Nat.le_of_ble_eq_true rfl) rfl rfl ?_
      refine e_goto 41 30 rfl rfl ?_
      rw [cshf_step σ i h2]
      exact hn2
  refine e_entry okX0_cut (Nat.le_of_ble_eq_true rfl) (ls := [some _, some _, some _, none]) rfl ?_
  refine e_aload_n 0 1 rfl rfl rfl rfl ?_
  refine e_iload_n 1 2 rfl rfl rfl rfl ?_
  refine g_callV 2 5 (hh) okX0_has cvX0_57 ⟨(Nat.le_of_ble_eq_true rfl), (Nat.le_of_ble_eq_true rfl)⟩ rfl rfl (Nat.le_of_ble_eq_true rfl) rfl rfl rfl rfl rfl (Nat.le_of_ble_eq_true rfl) (Nat.le_of_ble_eq_true rfl) (Nat.le_of_ble_eq_true rfl) ?_
  refine e_ifb_eq 3 24 8 rfl rfl rfl (fun h2 => ?_) (fun h2 => ?_)
  · skip
    cases h2
  · skip
    refine e_aload_n 4 9 rfl rfl rfl rfl ?_
    refine g_getI 5 12 7 ckX0 flX0_34 rfl rfl (Nat.le_of_ble_eq_true rfl) rfl rfl rfl rfl ?_
    refine e_if_lt 6 24 15 rfl rfl rfl (by unfold xr at *; omega) (fun h9 => absurd h9 (by omega)) (fun _ => ?_)
    refine e_aload_n 7 16 rfl rfl rfl rfl ?_
    refine g_getI 8 19 7 ckX0 flX0_34 rfl rfl (Nat.le_of_ble_eq_true rfl) rfl rfl rfl rfl ?_
    refine e_bipush 9 21 rfl rfl rfl ?_
    refine e_icmp_lt 10 25 24 rfl rfl rfl (by unfold xr at *; omega) (by unfold xr at *; omega) (fun _ => ?_) (fun h9 => absurd h9 (by omega))
    refine e_aload_n 12 26 rfl rfl rfl rfl ?_
    refine g_getI 13 29 7 ckX0 flX0_34 rfl rfl (Nat.le_of_ble_eq_true rfl) rfl rfl rfl rfl ?_
    refine e_istore_n 14 30 (ls' := [some _, some _, some _, some _]) rfl rfl rfl (Nat.le_of_ble_eq_true rfl) rfl ?_
    have h9 := loop (σ 231 7 - (c + 1)).toNat (σ 231 7) (by omega) (Int.le_refl _)
    rw [show cshf σ (σ 231 7) = σ by funext b j; unfold cshf; rw [if_neg (fun q => by omega)]] at h9
    exact h9
def sba (σ σ' : xSig) : Prop := ∀ b : Nat, b ≠ 238 → σ' b = σ b
def kyd (σ : xSig) (f h : Int) : xSig := bgc (xu (xu (xu σ 231 9 f) 231 10 h) 231 8 (σ 231 8 + 1))
def kcn (σ σ' : xSig) (T : Nat → List Int) : Int := smN (fun n => if hasd σ n = true ∧ shd σ' (T (31 + 2 * n)) ≠ shd σ (T (31 + 2 * n)) then 1 else 0) 0 100
theorem bgc_CHR {σ : xSig} (h : CHR σ) (hm : σ 231 11 = -1) {f h9 : Int} (hf : 0 ≤ f ∧ f < 8) (hh : h9 = 0 ∨ h9 = 1) : CHR (kyd σ f h9) := by
  obtain ⟨q1, q2, q3, q4, q5, q6, q7, q8⟩ := h
  have e : ∀ j, kyd σ f h9 231 j = if j = 7 then 3 else if j = 8 then σ 231 8 + 1 else if j = 10 then h9 else if j = 9 then f else σ 231 j := by
    intro j
    simp [kyd, bgc, xu]
  have e2 : ∀ j, kyd σ f h9 232 j = if j = 2 then 667 else if j = 1 then 334 else if j = 0 then 0 else σ 232 j := by
    intro j
    simp [kyd, bgc, xu]
  have e3 : ∀ j, kyd σ f h9 233 j = if j = 2 then 2 else if j = 1 then 1 else if j = 0 then 0 else σ 233 j := by
    intro j
    simp [kyd, bgc, xu]
  have e5 : ∀ j, kyd σ f h9 235 j = σ 235 j := by
    intro j
    simp [kyd, bgc, xu]
  refine ⟨by rw [e]; simp, by rw [e]; simpa using hf, by rw [e]; simpa using hh, by rw [e]; simpa using q4, by rw [e]; simpa using q5, fun i => ?_, fun i => ?_, fun i => by rw [e5]; exact q8 i⟩
  · rw [e2]
    have := q6 i
    split
    · omega
    · split
      · omega
      · split <;> omega
  · rw [e3]
    have := q7 i
    split
    · omega
    · split
      · omega
      · split <;> omega
theorem sp_shardAnew {σ : xSig} {T : Nat → List Int} (hA : VAll σ T) (h01 : n01 σ 27) (h : CHR σ) (hm : σ 231 11 = -1) {f h9 : Int} (hf : 0 ≤ f ∧ f < 8) (hh : h9 = 0 ∨ h9 = 1) :
    ∃ σ1 : xSig, sba σ σ1 ∧ x_Sp MX0_shardAnew 0 0 [.ref 231, .ref 25, .int (ii f), .int (ii h9)] (St σ) (iv (kcn σ (kyd σ1 f h9) T)) (St (kyd σ1 f h9)) := by
  have samev : ∀ σ2, sba σ σ2 → VAll σ2 T ∧ n01 σ2 27 ∧ CHR σ2 := by
    intro σ2 h2
    refine ⟨hA.keep fun b hb => h2 b (fun e => by rw [e] at hb; revert hb; decide +kernel), fun i => by rw [h2 27 (by decide)]; exact h01 i, h.same ⟨h2 231 (by decide), h2 232 (by decide), h2 233 (by decide)⟩ (fun i => by rw [h2 235 (by decide)]; exact h.2.2.2.2.2.2.2 i)⟩
  have loop2 : ∀ σ1, sba σ σ1 → (∀ n : Nat, n < 100 → σ1 238 n = shd σ (if hasd σ n = true then T (31 + 2 * n) else T 29)) → ∀ (n i : Nat) (w : Int), i + n = 100 → 0 ≤ w → w ≤ i → x_E MX0_shardAnew 0 0 66 [some (.ref 231), some (.ref 25), some (.int (ii f)), some (.int (ii h9)), some (.int (ii w)), some (.int (ii i))] [] (St (kyd σ1 f h9)) 0 0 (iv (w + smN (fun n => if hasd σ n = true ∧ shd (kyd σ1 f h9) (T (31 + 2 * n)) ≠ shd σ (T (31 + 2 * n)) then 1 else 0) i n)) (St (kyd σ1 f h9)) := by
    intro σ1 hs hv
    obtain ⟨s1, s2, s3⟩ := samev σ1 hs
    have hm1 : σ1 231 11 = -1 := by rw [hs 231 (by decide)]; exact hm
    have hC := bgc_CHR s3 hm1 hf hh
    have hoth : ∀ b, b ≠ 231 → b ≠ 232 → b ≠ 233 → b ≠ 234 → kyd σ1 f h9 b = σ1 b := by
      intro b b1 b2 b3 b4
      funext j
      simp [kyd, bgc, xu, b1, b2, b3, b4]
    have hA2 : VAll (kyd σ1 f h9) T := s1.keep fun b hb => hoth b (fun e => by rw [e] at hb; revert hb; decide +kernel) (fun e => by rw [e] at hb; revert hb; decide +kernel) (fun e => by rw [e] at hb; revert hb; decide +kernel) (fun e => by rw [e] at hb; revert hb; decide +kernel)
    have h012 : n01 (kyd σ1 f h9) 27 := fun i => by rw [hoth 27 (by decide) (by decide) (by decide) (by decide)]; exact s2 i
    have hh2 : ∀ n : Nat, hasd (kyd σ1 f h9) n = hasd σ n := fun n => hasd_congr ((hoth 27 (by decide) (by decide) (by decide) (by decide)).trans (hs 27 (by decide))) n
    intro n
    induction n with
    | zero =>
      intro i w hi h0 h2
      simp only [smN, Int.add_zero]
      refine e_iload 36 68 rfl rfl rfl ?_
      refine e_aload_n 37 69 rfl rfl rfl rfl ?_
      refine g_getR 38 72 ckX0 flX0_31 rfl rfl (Nat.le_of_ble_eq_true rfl) rfl rfl ?_
      refine g_alen 39 73 rfl rfl (Nat.le_of_ble_eq_true rfl) rfl (Nat.le_of_ble_eq_true rfl) ?_
      refine e_icmp_ge 40 114 76 rfl rfl rfl (by unfold xr at *; omega) (by unfold xr at *; omega) (fun _ => ?_) (fun h9 => absurd h9 (by omega))
      refine e_iload 58 116 rfl rfl rfl ?_
      exact e_ireturn 59 rfl rfl (Nat.le_of_ble_eq_true rfl) (Nat.le_of_ble_eq_true rfl)
    | succ n ih =>
      intro i w hi h0 h2
      have hn := fun w' (q0 : 0 ≤ w') (q1 : w' ≤ (i : Int) + 1) => ih (i + 1) w' (by omega) q0 (by omega)
      rw [show (((i + 1 : Nat)) : Int) = (i : Int) + 1 by omega] at hn
      have hhas := sp_has h012 (n := i) (by unfold xr; omega)
      rw [hh2] at hhas
      simp only [smN]
      refine e_iload 36 68 rfl rfl rfl ?_
      refine e_aload_n 37 69 rfl rfl rfl rfl ?_
      refine g_getR 38 72 ckX0 flX0_31 rfl rfl (Nat.le_of_ble_eq_true rfl) rfl rfl ?_
      refine g_alen 39 73 rfl rfl (Nat.le_of_ble_eq_true rfl) rfl (Nat.le_of_ble_eq_true rfl) ?_
      refine e_icmp_ge 40 114 76 rfl rfl rfl (by unfold xr at *; omega) (by unfold xr at *; omega) (fun h9 => absurd h9 (by omega)) (fun _ => ?_)
      refine e_aload_n 41 77 rfl rfl rfl rfl ?_
      refine e_iload 42 79 rfl rfl rfl ?_
      refine g_callV 43 82 (hhas) okX8_has cvX0_96 ⟨(Nat.le_of_ble_eq_true rfl), (Nat.le_of_ble_eq_true rfl)⟩ rfl rfl (Nat.le_of_ble_eq_true rfl) rfl rfl rfl rfl rfl (Nat.le_of_ble_eq_true rfl) (Nat.le_of_ble_eq_true rfl) (Nat.le_of_ble_eq_true rfl) ?_
      refine e_ifb_eq 44 108 85 rfl rfl rfl (fun h3 => ?_) (fun h3 => ?_)
      · skip
        rw [if_neg (fun q => by rw [h3] at q; cases q.1), Int.zero_add]
        refine e_iinc 56 111 (ls' := [some _, some _, some _, some _, some _, some _]) rfl rfl (Nat.le_of_ble_eq_true rfl) rfl rfl ?_
        refine e_goto 57 66 rfl rfl ?_
        exact hn w h0 (by omega)
      · skip
        have hat := sp_stAt h012 (n := i) (by unfold xr; omega)
        rw [da_has ((hh2 i).trans h3)] at hat
        have hb := cown_bnd hC (chk (kyd σ1 f h9) (T (31 + 2 * i)))
        have hb2 : shd (kyd σ1 f h9) (T (31 + 2 * i)) = cown (kyd σ1 f h9) (chk (kyd σ1 f h9) (T (31 + 2 * i))) := rfl
        have hb3 := cown_bnd h (chk σ (T (31 + 2 * i)))
        have hb4 : shd σ (T (31 + 2 * i)) = cown σ (chk σ (T (31 + 2 * i))) := rfl
        have e9 : kyd σ1 f h9 238 i = shd σ (T (31 + 2 * i)) := by
          rw [hoth 238 (by decide) (by decide) (by decide) (by decide), hv i (by omega), if_pos h3]
        refine e_aload_n 45 86 rfl rfl rfl rfl ?_
        refine e_aload_n 46 87 rfl rfl rfl rfl ?_
        refine e_iload 47 89 rfl rfl rfl ?_
        refine g_callV 48 92 (hat) okX8_at cvX0_99 ⟨(Nat.le_of_ble_eq_true rfl), (Nat.le_of_ble_eq_true rfl)⟩ rfl rfl (Nat.le_of_ble_eq_true rfl) rfl rfl rfl rfl rfl (Nat.le_of_ble_eq_true rfl) (Nat.le_of_ble_eq_true rfl) (Nat.le_of_ble_eq_true rfl) ?_
        refine g_callV 49 95 (sp_shardOf hC (hA2 _ (vO_s i (by omega)).1)) okX0_shardOf cvX0_103 ⟨(Nat.le_of_ble_eq_true rfl), (Nat.le_of_ble_eq_true rfl)⟩ rfl rfl (Nat.le_of_ble_eq_true rfl) rfl rfl rfl rfl rfl (Nat.le_of_ble_eq_true rfl) (Nat.le_of_ble_eq_true rfl) (Nat.le_of_ble_eq_true rfl) ?_
        refine e_aload_n 50 96 rfl rfl rfl rfl ?_
        refine g_getR 51 99 ckX0 flX0_31 rfl rfl (Nat.le_of_ble_eq_true rfl) rfl rfl ?_
        refine e_iload 52 101 rfl rfl rfl ?_
        refine g_iaload 53 102 rfl rfl (Nat.le_of_ble_eq_true rfl) rfl (by omega) (by omega) (by omega) e9 ?_
        refine e_icmp_eq 54 108 105 rfl rfl rfl (by unfold xr at *; omega) (by unfold xr at *; omega) (fun h4 => ?_) (fun h4 => ?_)
        · skip
          rw [if_neg (fun q => q.2 h4), Int.zero_add]
          refine e_iinc 56 111 (ls' := [some _, some _, some _, some _, some _, some _]) rfl rfl (Nat.le_of_ble_eq_true rfl) rfl rfl ?_
          refine e_goto 57 66 rfl rfl ?_
          exact hn w h0 (by omega)
        · skip
          rw [if_pos ⟨h3, h4⟩, ← Int.add_assoc]
          refine e_iinc 55 108 (ls' := [some _, some _, some _, some _, some _, some _]) rfl rfl (Nat.le_of_ble_eq_true rfl) rfl rfl ?_
          refine e_iinc 56 111 (ls' := [some _, some _, some _, some _, some _, some _]) rfl rfl (Nat.le_of_ble_eq_true rfl) rfl rfl ?_
          refine e_goto 57 66 rfl rfl ?_
          exact hn (w + 1) (by omega) (by omega)
  have loop1 : ∀ (n i : Nat) (σ1 : xSig), i + n = 100 → sba σ σ1 → (∀ k : Nat, k < i → σ1 238 k = shd σ (if hasd σ k = true then T (31 + 2 * k) else T 29)) → ∃ σ2 : xSig, sba σ σ2 ∧ x_E MX0_shardAnew 0 0 3 [some (.ref 231), some (.ref 25), some (.int (ii f)), some (.int (ii h9)), some (.int (ii i)), none] [] (St σ1) 0 0 (iv (kcn σ (kyd σ2 f h9) T)) (St (kyd σ2 f h9)) := by
    intro n
    induction n with
    | zero =>
      intro i σ1 hi hs hv
      have hi9 : i = 100 := by omega
      subst hi9
      obtain ⟨s1, s2, s3⟩ := samev σ1 hs
      refine ⟨σ1, hs, ?_⟩
      have e8 : xu (xu σ1 231 9 f) 231 10 h9 231 8 = σ1 231 8 := by rw [xu_ne _ (Or.inr (by decide)), xu_ne _ (Or.inr (by decide))]
      have l2 := loop2 σ1 hs hv 100 0 0 rfl (by omega) (by omega)
      rw [Int.zero_add] at l2
      refine e_iload 2 5 rfl rfl rfl ?_
      refine e_aload_n 3 6 rfl rfl rfl rfl ?_
      refine g_getR 4 9 ckX0 flX0_31 rfl rfl (Nat.le_of_ble_eq_true rfl) rfl rfl ?_
      refine g_alen 5 10 rfl rfl (Nat.le_of_ble_eq_true rfl) rfl (Nat.le_of_ble_eq_true rfl) ?_
      refine e_icmp_ge 6 36 13 rfl rfl rfl (by unfold xr at *; omega) (by unfold xr at *; omega) (fun _ => ?_) (fun h9 => absurd h9 (by omega))
      refine e_aload_n 18 37 rfl rfl rfl rfl ?_
      refine e_iload_n 19 38 rfl rfl rfl rfl ?_
      refine g_putI 20 41 9 ckX0 flX0_41 rfl rfl (Nat.le_of_ble_eq_true rfl) rfl rfl rfl ?_
      refine e_aload_n 21 42 rfl rfl rfl rfl ?_
      refine e_iload_n 22 43 rfl rfl rfl rfl ?_
      refine g_putZ 23 46 10 ckX0 flX0_44 rfl rfl (by omega) (Nat.le_of_ble_eq_true rfl) rfl rfl rfl ?_
      refine e_aload_n 24 47 rfl rfl rfl rfl ?_
      refine e_dup 25 48 rfl rfl rfl ?_
      refine g_getI 26 51 8 ckX0 flX0_38 rfl rfl (Nat.le_of_ble_eq_true rfl) rfl rfl rfl e8 ?_
      refine e_iconst 27 52 rfl rfl ?_
      refine e_iadd 28 53 rfl rfl ?_
      refine g_putI 29 56 8 ckX0 flX0_38 rfl rfl (Nat.le_of_ble_eq_true rfl) rfl rfl rfl ?_
      refine e_aload_n 30 57 rfl rfl rfl rfl ?_
      refine g_callV 31 60 (sp_beginChunks) okX0_beginChunks cvX0_54 ⟨(Nat.le_of_ble_eq_true rfl), (Nat.le_of_ble_eq_true rfl)⟩ rfl rfl (Nat.le_of_ble_eq_true rfl) rfl rfl rfl rfl rfl (Nat.le_of_ble_eq_true rfl) (Nat.le_of_ble_eq_true rfl) (Nat.le_of_ble_eq_true rfl) ?_
      refine e_iconst 32 61 rfl rfl ?_
      refine e_istore 33 63 (ls' := [some _, some _, some _, some _, some _, none]) rfl rfl (Nat.le_of_ble_eq_true rfl) rfl ?_
      refine e_iconst 34 64 rfl rfl ?_
      refine e_istore 35 66 (ls' := [some _, some _, some _, some _, some _, some _]) rfl rfl (Nat.le_of_ble_eq_true rfl) rfl ?_
      exact l2
    | succ n ih =>
      intro i σ1 hi hs hv
      obtain ⟨s1, s2, s3⟩ := samev σ1 hs
      have hdv : vO (da σ1 i) = true := da_vO σ1 i
      have eT : T (da σ1 i) = if hasd σ i = true then T (31 + 2 * i) else T 29 := by
        have e := hasd_congr (hs 27 (by decide)) i
        cases hq : hasd σ i with
        | true => rw [da_has (e.trans hq)]; simp
        | false => rw [da_no (e.trans hq)]; simp
      have e1 : shd σ1 (T (da σ1 i)) = shd σ (if hasd σ i = true then T (31 + 2 * i) else T 29) := by
        rw [eT]
        exact (chk_congr ⟨hs 231 (by decide), hs 232 (by decide), hs 233 (by decide)⟩ _).2.1
      have hsh := sp_shardOf s3 (s1 _ hdv)
      rw [e1] at hsh
      obtain ⟨σ2, k1, k2⟩ := ih (i + 1) (xu σ1 238 i (shd σ (if hasd σ i = true then T (31 + 2 * i) else T 29))) (by omega) (fun b hb => by rw [xu_other _ _ _ hb]; exact hs b hb) (fun k hk => by
        by_cases e : k = i
        · subst e; rw [xu_same]
        · rw [xu_ne _ (Or.inr (by omega))]; exact hv k (by omega))
      rw [show (((i + 1 : Nat)) : Int) = (i : Int) + 1 by omega] at k2
      refine ⟨σ2, k1, ?_⟩
      refine e_iload 2 5 rfl rfl rfl ?_
      refine e_aload_n 3 6 rfl rfl rfl rfl ?_
      refine g_getR 4 9 ckX0 flX0_31 rfl rfl (Nat.le_of_ble_eq_true rfl) rfl rfl ?_
      refine g_alen 5 10 rfl rfl (Nat.le_of_ble_eq_true rfl) rfl (Nat.le_of_ble_eq_true rfl) ?_
      refine e_icmp_ge 6 36 13 rfl rfl rfl (by unfold xr at *; omega) (by unfold xr at *; omega) (fun h9 => absurd h9 (by omega)) (fun _ => ?_)
      refine e_aload_n 7 14 rfl rfl rfl rfl ?_
      refine g_getR 8 17 ckX0 flX0_31 rfl rfl (Nat.le_of_ble_eq_true rfl) rfl rfl ?_
      refine e_iload 9 19 rfl rfl rfl ?_
      refine e_aload_n 10 20 rfl rfl rfl rfl ?_
      refine e_aload_n 11 21 rfl rfl rfl rfl ?_
      refine e_iload 12 23 rfl rfl rfl ?_
      refine g_callV 13 26 (sp_stAt s2 (n := i) (by unfold xr; omega)) okX8_at cvX0_99 ⟨(Nat.le_of_ble_eq_true rfl), (Nat.le_of_ble_eq_true rfl)⟩ rfl rfl (Nat.le_of_ble_eq_true rfl) rfl rfl rfl rfl rfl (Nat.le_of_ble_eq_true rfl) (Nat.le_of_ble_eq_true rfl) (Nat.le_of_ble_eq_true rfl) ?_
      refine g_callV 14 29 (hsh) okX0_shardOf cvX0_103 ⟨(Nat.le_of_ble_eq_true rfl), (Nat.le_of_ble_eq_true rfl)⟩ rfl rfl (Nat.le_of_ble_eq_true rfl) rfl rfl rfl rfl rfl (Nat.le_of_ble_eq_true rfl) (Nat.le_of_ble_eq_true rfl) (Nat.le_of_ble_eq_true rfl) ?_
      refine g_iastore 15 30 rfl rfl (Nat.le_of_ble_eq_true rfl) rfl (by omega) (by omega) (by omega) ?_
      refine e_iinc 16 33 (ls' := [some _, some _, some _, some _, some _, none]) rfl rfl (Nat.le_of_ble_eq_true rfl) rfl rfl ?_
      refine e_goto 17 3 rfl rfl ?_
      exact k2
  obtain ⟨σ2, k1, k2⟩ := loop1 100 0 σ rfl (fun _ _ => rfl) (fun k hk => by omega)
  refine ⟨σ2, k1, ?_⟩
  refine e_entry okX0_shardAnew (Nat.le_of_ble_eq_true rfl) (ls := [some _, some _, some _, some _, none, none]) rfl ?_
  refine e_iconst 0 1 rfl rfl ?_
  refine e_istore 1 3 (ls' := [some _, some _, some _, some _, some _, none]) rfl rfl (Nat.le_of_ble_eq_true rfl) rfl ?_
  exact k2
