/-! ===== Value: reading ===== -/
theorem sp_turnOf {σ : xSig} {x : Int} (hx : 0 ≤ x ∧ x < 6000) : Rd MX10_turnOf [.int (ii x)] σ (iv (trn x)) := by
  refine e_entry okX10_turnOf (Nat.le_of_ble_eq_true rfl) (ls := [some _]) rfl ?_
  refine e_iload_n 0 1 rfl rfl rfl rfl ?_
  refine e_sipush 1 4 rfl rfl rfl ?_
  refine e_icmp_lt 2 9 7 rfl rfl rfl (by unfold xr at *; omega) (by unfold xr at *; omega) (fun h => ?_) (fun h => ?_)
  · skip
    refine e_iload_n 5 10 rfl rfl rfl rfl ?_
    refine e_if_ne 6 17 13 rfl rfl rfl (by unfold xr at *; omega) (fun h2 => ?_) (fun h2 => ?_)
    · skip
      rw [show trn x = 0 by unfold trn; rw [if_neg (by omega), if_neg h2]]
      refine e_iconst 9 18 rfl rfl ?_
      exact e_ireturn 10 rfl rfl (Nat.le_of_ble_eq_true rfl) (Nat.le_of_ble_eq_true rfl)
    · skip
      rw [show trn x = -1 by unfold trn; rw [if_neg (by omega), if_pos h2]]
      refine e_iconst 7 14 rfl rfl ?_
      refine e_goto 8 18 rfl rfl ?_
      exact e_ireturn 10 rfl rfl (Nat.le_of_ble_eq_true rfl) (Nat.le_of_ble_eq_true rfl)
  · skip
    rw [show trn x = 1 by unfold trn; rw [if_pos h]]
    refine e_iconst 3 8 rfl rfl ?_
    exact e_ireturn 4 rfl rfl (Nat.le_of_ble_eq_true rfl) (Nat.le_of_ble_eq_true rfl)
theorem sp_signAt {σ : xSig} {a cap : Nat} {t : List Int} (hV : VH σ a cap t) {i : Int} (hi : xr i) : Rd MX10_signAt [.ref a, .int (ii i)] σ (iv (tok t i)) := by
  have hlen := hV.2.1
  have h1 := hV.2.2.1
  have h2 := hV.2.2.2.1
  unfold xr at hi
  refine e_entry okX10_signAt (Nat.le_of_ble_eq_true rfl) (ls := [some _, some _]) rfl ?_
  refine e_iload_n 0 1 rfl rfl rfl rfl ?_
  refine e_if_lt 1 30 4 rfl rfl rfl (by unfold xr at *; omega) (fun h3 => ?_) (fun h3 => ?_)
  · skip
    rw [tok_neg h3]
    refine e_iconst 16 31 rfl rfl ?_
    exact e_ireturn 17 rfl rfl (Nat.le_of_ble_eq_true rfl) (Nat.le_of_ble_eq_true rfl)
  · skip
    refine e_iload_n 2 5 rfl rfl rfl rfl ?_
    refine e_aload_n 3 6 rfl rfl rfl rfl ?_
    refine g_getI 4 9 1 ckX10 flX10_9 rfl rfl hV.1.1 hV.1.2.2.1 rfl rfl hlen ?_
    refine e_icmp_ge 5 30 12 rfl rfl rfl (by unfold xr at *; omega) (by unfold xr at *; omega) (fun h4 => ?_) (fun h4 => ?_)
    · skip
      rw [tok_big h4]
      refine e_iconst 16 31 rfl rfl ?_
      exact e_ireturn 17 rfl rfl (Nat.le_of_ble_eq_true rfl) (Nat.le_of_ble_eq_true rfl)
    · skip
      refine e_iload_n 6 13 rfl rfl rfl rfl ?_
      refine e_aload_n 7 14 rfl rfl rfl rfl ?_
      refine g_getR 8 17 ckX10 flX10_15 rfl rfl hV.1.1 hV.1.2.2.1 rfl ?_
      refine g_alen 9 18 rfl rfl hV.1.2.1 hV.1.2.2.2 (Nat.le_of_ble_eq_true rfl) ?_
      refine e_icmp_ge 10 30 21 rfl rfl rfl (by unfold xr at *; omega) (by unfold xr at *; omega) (fun h9 => absurd h9 (by omega)) (fun _ => ?_)
      refine e_aload_n 11 22 rfl rfl rfl rfl ?_
      refine g_getR 12 25 ckX10 flX10_15 rfl rfl hV.1.1 hV.1.2.2.1 rfl ?_
      refine e_iload_n 13 26 rfl rfl rfl rfl ?_
      refine g_iaload 14 27 rfl rfl hV.1.2.1 hV.1.2.2.2 (by omega) (by omega) (by omega) (hV.tk (by omega) h4) ?_
      refine e_goto 15 31 rfl rfl ?_
      exact e_ireturn 17 rfl rfl (Nat.le_of_ble_eq_true rfl) (Nat.le_of_ble_eq_true rfl)
theorem sp_kindAt {σ : xSig} {a cap : Nat} {t : List Int} (hV : VH σ a cap t) {i : Int} (hi : xr i) : Rd MX10_kindAt [.ref a, .int (ii i)] σ (iv (knd (tok t i))) := by
  have hb := hV.bnd i
  refine e_entry okX10_kindAt (Nat.le_of_ble_eq_true rfl) (ls := [some _, some _, none]) rfl ?_
  refine e_aload_n 0 1 rfl rfl rfl rfl ?_
  refine e_iload_n 1 2 rfl rfl rfl rfl ?_
  refine g_callV 2 5 (sp_signAt hV hi) okX10_signAt cvX10_19 ⟨(Nat.le_of_ble_eq_true rfl), (Nat.le_of_ble_eq_true rfl)⟩ rfl rfl hV.1.1 hV.1.2.2.1 rfl rfl rfl rfl (Nat.le_of_ble_eq_true rfl) (Nat.le_of_ble_eq_true rfl) (Nat.le_of_ble_eq_true rfl) ?_
  refine e_istore_n 3 6 (ls' := [some _, some _, some _]) rfl rfl rfl (Nat.le_of_ble_eq_true rfl) rfl ?_
  refine e_iload_n 4 7 rfl rfl rfl rfl ?_
  refine e_sipush 5 10 rfl rfl rfl ?_
  refine e_icmp_lt 6 15 13 rfl rfl rfl (by unfold xr at *; omega) (by unfold xr at *; omega) (fun h => ?_) (fun h => ?_)
  · skip
    refine e_iload_n 9 16 rfl rfl rfl rfl ?_
    refine e_sipush 10 19 rfl rfl rfl ?_
    refine e_icmp_lt 11 24 22 rfl rfl rfl (by unfold xr at *; omega) (by unfold xr at *; omega) (fun h2 => ?_) (fun h2 => ?_)
    · skip
      refine e_iload_n 14 25 rfl rfl rfl rfl ?_
      refine e_sipush 15 28 rfl rfl rfl ?_
      refine e_icmp_lt 16 33 31 rfl rfl rfl (by unfold xr at *; omega) (by unfold xr at *; omega) (fun h3 => ?_) (fun h3 => ?_)
      · skip
        refine e_iload_n 19 34 rfl rfl rfl rfl ?_
        refine e_sipush 20 37 rfl rfl rfl ?_
        refine e_icmp_lt 21 44 40 rfl rfl rfl (by unfold xr at *; omega) (by unfold xr at *; omega) (fun h4 => ?_) (fun h4 => ?_)
        · skip
          rw [show knd (tok t i) = 0 by unfold knd; rw [if_neg (by omega), if_neg (by omega), if_neg (by omega), if_neg (by omega)]]
          refine e_iconst 24 45 rfl rfl ?_
          exact e_ireturn 25 rfl rfl (Nat.le_of_ble_eq_true rfl) (Nat.le_of_ble_eq_true rfl)
        · skip
          rw [show knd (tok t i) = 1 by unfold knd; rw [if_neg (by omega), if_neg (by omega), if_neg (by omega), if_pos (by omega)]]
          refine e_iconst 22 41 rfl rfl ?_
          refine e_goto 23 45 rfl rfl ?_
          exact e_ireturn 25 rfl rfl (Nat.le_of_ble_eq_true rfl) (Nat.le_of_ble_eq_true rfl)
      · skip
        rw [show knd (tok t i) = 2 by unfold knd; rw [if_neg (by omega), if_neg (by omega), if_pos (by omega)]]
        refine e_iconst 17 32 rfl rfl ?_
        exact e_ireturn 18 rfl rfl (Nat.le_of_ble_eq_true rfl) (Nat.le_of_ble_eq_true rfl)
    · skip
      rw [show knd (tok t i) = 3 by unfold knd; rw [if_neg (by omega), if_pos (by omega)]]
      refine e_iconst 12 23 rfl rfl ?_
      exact e_ireturn 13 rfl rfl (Nat.le_of_ble_eq_true rfl) (Nat.le_of_ble_eq_true rfl)
  · skip
    rw [show knd (tok t i) = 4 by unfold knd; rw [if_pos (by omega)]]
    refine e_iconst 7 14 rfl rfl ?_
    exact e_ireturn 8 rfl rfl (Nat.le_of_ble_eq_true rfl) (Nat.le_of_ble_eq_true rfl)
theorem sp_numberAt {σ : xSig} {a cap : Nat} {t : List Int} (hV : VH σ a cap t) {i : Int} (hi : xr i) : Rd MX10_numberAt [.ref a, .int (ii i)] σ (iv (tok t i - 2000)) := by
  refine e_entry okX10_numberAt (Nat.le_of_ble_eq_true rfl) (ls := [some _, some _]) rfl ?_
  refine e_aload_n 0 1 rfl rfl rfl rfl ?_
  refine e_iload_n 1 2 rfl rfl rfl rfl ?_
  refine g_callV 2 5 (sp_signAt hV hi) okX10_signAt cvX10_19 ⟨(Nat.le_of_ble_eq_true rfl), (Nat.le_of_ble_eq_true rfl)⟩ rfl rfl hV.1.1 hV.1.2.2.1 rfl rfl rfl rfl (Nat.le_of_ble_eq_true rfl) (Nat.le_of_ble_eq_true rfl) (Nat.le_of_ble_eq_true rfl) ?_
  refine e_sipush 3 8 rfl rfl rfl ?_
  refine e_isub 4 9 rfl rfl ?_
  exact e_ireturn 5 rfl rfl (Nat.le_of_ble_eq_true rfl) (Nat.le_of_ble_eq_true rfl)
theorem sp_wordAt {σ : xSig} {a cap : Nat} {t : List Int} (hV : VH σ a cap t) {i : Int} (hi : xr i) : Rd MX10_wordAt [.ref a, .int (ii i)] σ (iv (tok t i - 3000)) := by
  refine e_entry okX10_wordAt (Nat.le_of_ble_eq_true rfl) (ls := [some _, some _]) rfl ?_
  refine e_aload_n 0 1 rfl rfl rfl rfl ?_
  refine e_iload_n 1 2 rfl rfl rfl rfl ?_
  refine g_callV 2 5 (sp_signAt hV hi) okX10_signAt cvX10_19 ⟨(Nat.le_of_ble_eq_true rfl), (Nat.le_of_ble_eq_true rfl)⟩ rfl rfl hV.1.1 hV.1.2.2.1 rfl rfl rfl rfl (Nat.le_of_ble_eq_true rfl) (Nat.le_of_ble_eq_true rfl) (Nat.le_of_ble_eq_true rfl) ?_
  refine e_sipush 3 8 rfl rfl rfl ?_
  refine e_isub 4 9 rfl rfl ?_
  exact e_ireturn 5 rfl rfl (Nat.le_of_ble_eq_true rfl) (Nat.le_of_ble_eq_true rfl)
theorem sp_endOf {σ : xSig} {a cap : Nat} {t : List Int} (hV : VH σ a cap t) (p0 r0 : List Int) (h0 : t = p0 ++ r0) : Rd MX10_endOf [.ref a, .int (ii p0.length)] σ (iv (p0.length + vsc r0 0)) := by
  have hlen := hV.2.1
  have hcap := hV.2.2.1
  have h200 := hV.2.2.2.1
  have loop : ∀ (r p : List Int) (d : Int), t = p ++ r → -(p.length : Int) ≤ d → d ≤ p.length → x_E MX10_endOf 0 0 4 [some (.ref a), some (.int (ii p0.length)), some (.int (ii d)), some (.int (ii p.length))] [] (St σ) 0 0 (iv (p.length + vsc r d)) (St σ) := by
    intro r
    induction r with
    | nil =>
      intro p d ht hd1 hd2
      have hl : t.length = p.length := by rw [ht]; simp
      refine e_iload_n 4 5 rfl rfl rfl rfl ?_
      refine e_aload_n 5 6 rfl rfl rfl rfl ?_
      refine g_getI 6 9 1 ckX10 flX10_9 rfl rfl hV.1.1 hV.1.2.2.1 rfl rfl hlen ?_
      refine e_icmp_ge 7 37 12 rfl rfl rfl (by unfold xr at *; omega) (by unfold xr at *; omega) (fun _ => ?_) (fun h9 => absurd h9 (by omega))
      refine e_aload_n 23 38 rfl rfl rfl rfl ?_
      refine g_getI 24 41 1 ckX10 flX10_9 rfl rfl hV.1.1 hV.1.2.2.1 rfl rfl hlen ?_
      rw [show (p.length : Int) + (vsc [] d : Nat) = (t.length : Int) by rw [hl]; simp [vsc]]
      exact e_ireturn 25 rfl rfl (Nat.le_of_ble_eq_true rfl) (Nat.le_of_ble_eq_true rfl)
    | cons x r ih =>
      intro p d ht hd1 hd2
      have hl : t.length = p.length + r.length + 1 := by rw [ht]; simp; omega
      have hx : tok t p.length = x := by rw [ht]; exact tok_hd p x r
      have hxb := hV.bnd p.length
      rw [hx] at hxb
      refine e_iload_n 4 5 rfl rfl rfl rfl ?_
      refine e_aload_n 5 6 rfl rfl rfl rfl ?_
      refine g_getI 6 9 1 ckX10 flX10_9 rfl rfl hV.1.1 hV.1.2.2.1 rfl rfl hlen ?_
      refine e_icmp_ge 7 37 12 rfl rfl rfl (by unfold xr at *; omega) (by unfold xr at *; omega) (fun h9 => absurd h9 (by omega)) (fun _ => ?_)
      refine e_iload_n 8 13 rfl rfl rfl rfl ?_
      refine e_aload_n 9 14 rfl rfl rfl rfl ?_
      refine e_iload_n 10 15 rfl rfl rfl rfl ?_
      refine g_callV 11 18 (sp_signAt hV (i := p.length) (by unfold xr; omega)) okX10_signAt cvX10_19 ⟨(Nat.le_of_ble_eq_true rfl), (Nat.le_of_ble_eq_true rfl)⟩ rfl rfl hV.1.1 hV.1.2.2.1 rfl rfl rfl rfl (Nat.le_of_ble_eq_true rfl) (Nat.le_of_ble_eq_true rfl) (Nat.le_of_ble_eq_true rfl) ?_
      rw [hx]
      refine g_callS 12 21 (sp_turnOf hxb) okX10_turnOf csX10_23 ⟨(Nat.le_of_ble_eq_true rfl), (Nat.le_of_ble_eq_true rfl)⟩ rfl rfl rfl rfl (Nat.le_of_ble_eq_true rfl) (Nat.le_of_ble_eq_true rfl) (Nat.le_of_ble_eq_true rfl) ?_
      have htr := trn_in x
      refine e_iadd 13 22 rfl rfl ?_
      refine e_istore_n 14 23 (ls' := [some _, some _, some _, some _]) rfl rfl rfl (Nat.le_of_ble_eq_true rfl) rfl ?_
      refine e_iload_n 15 24 rfl rfl rfl rfl ?_
      refine e_if_gt 16 31 27 rfl rfl rfl (by unfold xr at *; omega) (fun h => ?_) (fun h => ?_)
      · skip
        refine e_iinc 21 34 (ls' := [some _, some _, some _, some _]) rfl rfl (Nat.le_of_ble_eq_true rfl) rfl rfl ?_
        refine e_goto 22 4 rfl rfl ?_
        have hn := ih (p ++ [x]) (d + trn x) (by rw [ht, app_s]) (by rw [len_s]; omega) (by rw [len_s]; omega)
        rw [len_s] at hn
        rw [show (p.length : Int) + (vsc (x :: r) d : Nat) = (p.length : Int) + 1 + (vsc r (d + trn x) : Nat) by simp only [vsc]; rw [if_neg (by omega)]; omega]
        exact hn
      · skip
        rw [show (p.length : Int) + (vsc (x :: r) d : Nat) = (p.length : Int) + 1 by simp only [vsc]; rw [if_pos (by omega)]; rfl]
        refine e_iload_n 17 28 rfl rfl rfl rfl ?_
        refine e_iconst 18 29 rfl rfl ?_
        refine e_iadd 19 30 rfl rfl ?_
        exact e_ireturn 20 rfl rfl (Nat.le_of_ble_eq_true rfl) (Nat.le_of_ble_eq_true rfl)
  refine e_entry okX10_endOf (Nat.le_of_ble_eq_true rfl) (ls := [some _, some _, none, none]) rfl ?_
  refine e_iconst 0 1 rfl rfl ?_
  refine e_istore_n 1 2 (ls' := [some _, some _, some _, none]) rfl rfl rfl (Nat.le_of_ble_eq_true rfl) rfl ?_
  refine e_iload_n 2 3 rfl rfl rfl rfl ?_
  refine e_istore_n 3 4 (ls' := [some _, some _, some _, some _]) rfl rfl rfl (Nat.le_of_ble_eq_true rfl) rfl ?_
  exact loop r0 p0 0 h0 (by omega) (by omega)
theorem sp_partsAt {σ : xSig} {a cap : Nat} {t : List Int} (hV : VH σ a cap t) (p0 r0 : List Int) (h0 : t = p0 ++ r0) : Rd MX10_partsAt [.ref a, .int (ii p0.length)] σ (iv (cnt (r0.take (vsc r0 0)))) := by
  have hlen := hV.2.1
  have hcap := hV.2.2.1
  have h200 := hV.2.2.2.1
  have hl0 : t.length = p0.length + r0.length := by rw [h0]; simp
  have hle := vsc_le r0 0
  have loop : ∀ (n : Nat) (m : List Int) (r : List Int), r0 = m ++ r → m.length + n = vsc r0 0 → x_E MX10_partsAt 0 0 19 [some (.ref a), some (.int (ii p0.length)), some (.int (ii (cnt m))), some (.int (ii (p0.length + vsc r0 0))), some (.int (ii (p0.length + m.length)))] [] (St σ) 0 0 (iv (cnt (r0.take (vsc r0 0)))) (St σ) := by
    intro n
    induction n with
    | zero =>
      intro m r hr hn
      refine e_iload 12 21 rfl rfl rfl ?_
      refine e_iload_n 13 22 rfl rfl rfl rfl ?_
      refine e_icmp_ge 14 45 25 rfl rfl rfl (by unfold xr at *; omega) (by unfold xr at *; omega) (fun _ => ?_) (fun h9 => absurd h9 (by omega))
      refine e_iload_n 23 46 rfl rfl rfl rfl ?_
      rw [show r0.take (vsc r0 0) = m by rw [hr] at hn ⊢; rw [← hn, Nat.add_zero]; simp]
      exact e_ireturn 24 rfl rfl (Nat.le_of_ble_eq_true rfl) (Nat.le_of_ble_eq_true rfl)
    | succ n ih =>
      intro m r hr hn
      cases r with
      | nil => rw [hr] at hle hn; simp at hle hn; omega
      | cons x r =>
        have hc := cnt_bnd m
        have hml : m.length < r0.length := by rw [hr]; simp
        have hx : tok t ((p0.length : Int) + m.length) = x := by
          rw [h0, hr, ← List.append_assoc, show (p0.length : Int) + m.length = ((p0 ++ m).length : Int) by simp]
          exact tok_hd _ x r
        have hxb := hV.bnd ((p0.length : Int) + m.length)
        rw [hx] at hxb
        have hnext := ih (m ++ [x]) r (by rw [hr, app_s]) (by simp; omega)
        have e1 : cnt (m ++ [x]) = cnt m + (if 9 ≤ x then 1 else 0) := by rw [cnt_app]; simp [cnt]
        rw [len_s, e1, ← Int.add_assoc] at hnext
        refine e_iload 12 21 rfl rfl rfl ?_
        refine e_iload_n 13 22 rfl rfl rfl rfl ?_
        refine e_icmp_ge 14 45 25 rfl rfl rfl (by unfold xr at *; omega) (by unfold xr at *; omega) (fun h9 => absurd h9 (by omega)) (fun _ => ?_)
        refine e_aload_n 15 26 rfl rfl rfl rfl ?_
        refine e_iload 16 28 rfl rfl rfl ?_
        refine g_callV 17 31 (sp_signAt hV (i := (p0.length : Int) + m.length) (by unfold xr; omega)) okX10_signAt cvX10_19 ⟨(Nat.le_of_ble_eq_true rfl), (Nat.le_of_ble_eq_true rfl)⟩ rfl rfl hV.1.1 hV.1.2.2.1 rfl rfl rfl rfl (Nat.le_of_ble_eq_true rfl) (Nat.le_of_ble_eq_true rfl) (Nat.le_of_ble_eq_true rfl) ?_
        rw [hx]
        refine e_bipush 18 33 rfl rfl rfl ?_
        refine e_icmp_lt 19 39 36 rfl rfl rfl (by unfold xr at *; omega) (by unfold xr at *; omega) (fun h => ?_) (fun h => ?_)
        · skip
          rw [if_neg (by omega), Int.add_zero] at hnext
          refine e_iinc 21 42 (ls' := [some _, some _, some _, some _, some _]) rfl rfl (Nat.le_of_ble_eq_true rfl) rfl rfl ?_
          refine e_goto 22 19 rfl rfl ?_
          exact hnext
        · skip
          rw [if_pos (by omega)] at hnext
          refine e_iinc 20 39 (ls' := [some _, some _, some _, some _, some _]) rfl rfl (Nat.le_of_ble_eq_true rfl) rfl rfl ?_
          refine e_iinc 21 42 (ls' := [some _, some _, some _, some _, some _]) rfl rfl (Nat.le_of_ble_eq_true rfl) rfl rfl ?_
          refine e_goto 22 19 rfl rfl ?_
          exact hnext
  refine e_entry okX10_partsAt (Nat.le_of_ble_eq_true rfl) (ls := [some _, some _, none, none, none]) rfl ?_
  refine e_iconst 0 1 rfl rfl ?_
  refine e_istore_n 1 2 (ls' := [some _, some _, some _, none, none]) rfl rfl rfl (Nat.le_of_ble_eq_true rfl) rfl ?_
  refine e_iload_n 2 3 rfl rfl rfl rfl ?_
  refine e_if_ge 3 10 6 rfl rfl rfl (by unfold xr at *; omega) (fun _ => ?_) (fun h9 => absurd h9 (by omega))
  refine e_aload_n 6 11 rfl rfl rfl rfl ?_
  refine e_iload_n 7 12 rfl rfl rfl rfl ?_
  refine g_callV 8 15 (sp_endOf hV p0 r0 h0) okX10_endOf cvX10_29 ⟨(Nat.le_of_ble_eq_true rfl), (Nat.le_of_ble_eq_true rfl)⟩ rfl rfl hV.1.1 hV.1.2.2.1 rfl rfl rfl rfl (Nat.le_of_ble_eq_true rfl) (Nat.le_of_ble_eq_true rfl) (Nat.le_of_ble_eq_true rfl) ?_
  refine e_istore_n 9 16 (ls' := [some _, some _, some _, some _, none]) rfl rfl rfl (Nat.le_of_ble_eq_true rfl) rfl ?_
  refine e_iload_n 10 17 rfl rfl rfl rfl ?_
  refine e_istore 11 19 (ls' := [some _, some _, some _, some _, some _]) rfl rfl (Nat.le_of_ble_eq_true rfl) rfl ?_
  have h9 := loop (vsc r0 0) [] r0 rfl (by simp)
  simp only [List.length_nil, cnt, Int.natCast_zero, Int.add_zero] at h9
  exact h9
theorem sp_partsAtN {σ : xSig} {a cap : Nat} {t : List Int} (hV : VH σ a cap t) {i : Int} (hi : xr i) (hn : i < 0) : Rd MX10_partsAt [.ref a, .int (ii i)] σ (iv 0) := by
  unfold xr at hi
  refine e_entry okX10_partsAt (Nat.le_of_ble_eq_true rfl) (ls := [some _, some _, none, none, none]) rfl ?_
  refine e_iconst 0 1 rfl rfl ?_
  refine e_istore_n 1 2 (ls' := [some _, some _, some _, none, none]) rfl rfl rfl (Nat.le_of_ble_eq_true rfl) rfl ?_
  refine e_iload_n 2 3 rfl rfl rfl rfl ?_
  refine e_if_ge 3 10 6 rfl rfl rfl (by unfold xr at *; omega) (fun h9 => absurd h9 (by omega)) (fun _ => ?_)
  refine e_iload_n 4 7 rfl rfl rfl rfl ?_
  refine e_goto 5 15 rfl rfl ?_
  refine e_istore_n 9 16 (ls' := [some _, some _, some _, some _, none]) rfl rfl rfl (Nat.le_of_ble_eq_true rfl) rfl ?_
  refine e_iload_n 10 17 rfl rfl rfl rfl ?_
  refine e_istore 11 19 (ls' := [some _, some _, some _, some _, some _]) rfl rfl (Nat.le_of_ble_eq_true rfl) rfl ?_
  refine e_iload 12 21 rfl rfl rfl ?_
  refine e_iload_n 13 22 rfl rfl rfl rfl ?_
  refine e_icmp_ge 14 45 25 rfl rfl rfl (by unfold xr at *; omega) (by unfold xr at *; omega) (fun _ => ?_) (fun h9 => absurd h9 (by omega))
  refine e_iload_n 23 46 rfl rfl rfl rfl ?_
  exact e_ireturn 24 rfl rfl (Nat.le_of_ble_eq_true rfl) (Nat.le_of_ble_eq_true rfl)
theorem sp_parts {σ : xSig} {a cap : Nat} {t : List Int} (hV : VH σ a cap t) : Rd MX10_parts [.ref a] σ (iv (cnt (t.take (vsc t 0)))) := by
  refine e_entry okX10_parts (Nat.le_of_ble_eq_true rfl) (ls := [some _]) rfl ?_
  refine e_aload_n 0 1 rfl rfl rfl rfl ?_
  refine e_iconst 1 2 rfl rfl ?_
  refine g_callV 2 5 (sp_partsAt hV [] t rfl) okX10_partsAt cvX10_26 ⟨(Nat.le_of_ble_eq_true rfl), (Nat.le_of_ble_eq_true rfl)⟩ rfl rfl hV.1.1 hV.1.2.2.1 rfl rfl rfl rfl (Nat.le_of_ble_eq_true rfl) (Nat.le_of_ble_eq_true rfl) (Nat.le_of_ble_eq_true rfl) ?_
  exact e_ireturn 3 rfl rfl (Nat.le_of_ble_eq_true rfl) (Nat.le_of_ble_eq_true rfl)
theorem sp_widthAt {σ : xSig} {a cap : Nat} {t : List Int} (hV : VH σ a cap t) (p0 r0 : List Int) (h0 : t = p0 ++ r0) : Rd MX10_widthAt [.ref a, .int (ii p0.length)] σ (iv (wsc r0 0)) := by
  have hlen := hV.2.1
  have hcap := hV.2.2.1
  have h200 := hV.2.2.2.1
  have loop : ∀ (r p : List Int) (d w : Int), t = p ++ r → -(p.length : Int) ≤ d → d ≤ p.length → 0 ≤ w → w ≤ p.length → x_E MX10_widthAt 0 0 7 [some (.ref a), some (.int (ii p0.length)), some (.int (ii d)), some (.int (ii w)), some (.int (ii p.length)), none] [] (St σ) 0 0 (iv (w + wsc r d)) (St σ) := by
    intro r
    induction r with
    | nil =>
      intro p d w ht hd1 hd2 hw1 hw2
      have hl : t.length = p.length := by rw [ht]; simp
      refine e_iload 6 9 rfl rfl rfl ?_
      refine e_aload_n 7 10 rfl rfl rfl rfl ?_
      refine g_getI 8 13 1 ckX10 flX10_9 rfl rfl hV.1.1 hV.1.2.2.1 rfl rfl hlen ?_
      refine e_icmp_ge 9 59 16 rfl rfl rfl (by unfold xr at *; omega) (by unfold xr at *; omega) (fun _ => ?_) (fun h9 => absurd h9 (by omega))
      refine e_iload_n 32 60 rfl rfl rfl rfl ?_
      rw [show w + wsc [] d = w by simp [wsc]]
      exact e_ireturn 33 rfl rfl (Nat.le_of_ble_eq_true rfl) (Nat.le_of_ble_eq_true rfl)
    | cons x r ih =>
      intro p d w ht hd1 hd2 hw1 hw2
      have hl : t.length = p.length + r.length + 1 := by rw [ht]; simp; omega
      have hx : tok t p.length = x := by rw [ht]; exact tok_hd p x r
      have hxb := hV.bnd p.length
      rw [hx] at hxb
      have htr := trn_in x
      have key : ∀ (w' : Int), w' = w + (if d = 1 ∧ 9 ≤ x then 1 else 0) → x_E MX10_widthAt 0 0 39 [some (.ref a), some (.int (ii p0.length)), some (.int (ii d)), some (.int (ii w')), some (.int (ii p.length)), some (.int (ii x))] [] (St σ) 0 0 (iv (w + wsc (x :: r) d)) (St σ) := by
        intro w' hw'
        have hwb : w' = w ∨ w' = w + 1 := by rw [hw']; split <;> omega
        refine e_iload_n 21 40 rfl rfl rfl rfl ?_
        refine e_iload 22 42 rfl rfl rfl ?_
        refine g_callS 23 45 (sp_turnOf hxb) okX10_turnOf csX10_23 ⟨(Nat.le_of_ble_eq_true rfl), (Nat.le_of_ble_eq_true rfl)⟩ rfl rfl rfl rfl (Nat.le_of_ble_eq_true rfl) (Nat.le_of_ble_eq_true rfl) (Nat.le_of_ble_eq_true rfl) ?_
        refine e_iadd 24 46 rfl rfl ?_
        refine e_istore_n 25 47 (ls' := [some _, some _, some _, some _, some _, some _]) rfl rfl rfl (Nat.le_of_ble_eq_true rfl) rfl ?_
        refine e_iload_n 26 48 rfl rfl rfl rfl ?_
        refine e_if_gt 27 53 51 rfl rfl rfl (by unfold xr at *; omega) (fun h => ?_) (fun h => ?_)
        · skip
          have hn := ih (p ++ [x]) (d + trn x) w' (by rw [ht, app_s]) (by rw [len_s]; omega) (by rw [len_s]; omega) (by omega) (by rw [len_s]; omega)
          rw [len_s] at hn
          rw [show w + wsc (x :: r) d = w' + wsc r (d + trn x) by simp only [wsc]; rw [if_neg (by omega : ¬ d + trn x ≤ 0), hw']; omega]
          refine e_iinc 30 56 (ls' := [some _, some _, some _, some _, some _, some _]) rfl rfl (Nat.le_of_ble_eq_true rfl) rfl rfl ?_
          refine e_goto 31 7 rfl rfl ?_
          refine e_dropm [true, true, true, true, true, false] (ls' := [some _, some _, some _, some _, some _, none]) rfl ?_
          exact hn
        · skip
          rw [show w + wsc (x :: r) d = w' by simp only [wsc]; rw [if_pos (by omega : d + trn x ≤ 0), hw']; omega]
          refine e_iload_n 28 52 rfl rfl rfl rfl ?_
          exact e_ireturn 29 rfl rfl (Nat.le_of_ble_eq_true rfl) (Nat.le_of_ble_eq_true rfl)
      refine e_iload 6 9 rfl rfl rfl ?_
      refine e_aload_n 7 10 rfl rfl rfl rfl ?_
      refine g_getI 8 13 1 ckX10 flX10_9 rfl rfl hV.1.1 hV.1.2.2.1 rfl rfl hlen ?_
      refine e_icmp_ge 9 59 16 rfl rfl rfl (by unfold xr at *; omega) (by unfold xr at *; omega) (fun h9 => absurd h9 (by omega)) (fun _ => ?_)
      refine e_aload_n 10 17 rfl rfl rfl rfl ?_
      refine e_iload 11 19 rfl rfl rfl ?_
      refine g_callV 12 22 (sp_signAt hV (i := p.length) (by unfold xr; omega)) okX10_signAt cvX10_19 ⟨(Nat.le_of_ble_eq_true rfl), (Nat.le_of_ble_eq_true rfl)⟩ rfl rfl hV.1.1 hV.1.2.2.1 rfl rfl rfl rfl (Nat.le_of_ble_eq_true rfl) (Nat.le_of_ble_eq_true rfl) (Nat.le_of_ble_eq_true rfl) ?_
      rw [hx]
      refine e_istore 13 24 (ls' := [some _, some _, some _, some _, some _, some _]) rfl rfl (Nat.le_of_ble_eq_true rfl) rfl ?_
      refine e_iload_n 14 25 rfl rfl rfl rfl ?_
      refine e_iconst 15 26 rfl rfl ?_
      refine e_icmp_ne 16 39 29 rfl rfl rfl (by unfold xr at *; omega) (by unfold xr at *; omega) (fun h => ?_) (fun h => ?_)
      · skip
        exact key w (by rw [if_neg (fun q => h q.1)]; omega)
      · skip
        refine e_iload 17 31 rfl rfl rfl ?_
        refine e_bipush 18 33 rfl rfl rfl ?_
        refine e_icmp_lt 19 39 36 rfl rfl rfl (by unfold xr at *; omega) (by unfold xr at *; omega) (fun h2 => ?_) (fun h2 => ?_)
        · skip
          exact key w (by rw [if_neg (fun q => by omega)]; omega)
        · skip
          refine e_iinc 20 39 (ls' := [some _, some _, some _, some _, some _, some _]) rfl rfl (Nat.le_of_ble_eq_true rfl) rfl rfl ?_
          exact key (w + 1) (by rw [if_pos ⟨h, h2⟩])
  refine e_entry okX10_widthAt (Nat.le_of_ble_eq_true rfl) (ls := [some _, some _, none, none, none, none]) rfl ?_
  refine e_iconst 0 1 rfl rfl ?_
  refine e_istore_n 1 2 (ls' := [some _, some _, some _, none, none, none]) rfl rfl rfl (Nat.le_of_ble_eq_true rfl) rfl ?_
  refine e_iconst 2 3 rfl rfl ?_
  refine e_istore_n 3 4 (ls' := [some _, some _, some _, some _, none, none]) rfl rfl rfl (Nat.le_of_ble_eq_true rfl) rfl ?_
  refine e_iload_n 4 5 rfl rfl rfl rfl ?_
  refine e_istore 5 7 (ls' := [some _, some _, some _, some _, some _, none]) rfl rfl (Nat.le_of_ble_eq_true rfl) rfl ?_
  have h9 := loop r0 p0 0 0 h0 (by omega) (by omega) (by omega) (by omega)
  rw [Int.zero_add] at h9
  exact h9

theorem sp_slotOf {σ : xSig} {a cap : Nat} {t : List Int} (hV : VH σ a cap t) {f : Int} (hf : 0 ≤ f ∧ f < 8) (p0 r0 : List Int) (h0 : t = p0 ++ r0) (hp0 : 0 < p0.length) : Rd MX10_slotOf [.ref a, .int (ii (p0.length - 1)), .int (ii f)] σ (iv (p0.length + ssc r0 f 0)) := by
  have hlen := hV.2.1
  have hcap := hV.2.2.1
  have h200 := hV.2.2.2.1
  have loop : ∀ (r p : List Int) (d : Int), t = p ++ r → -(p.length : Int) ≤ d → d ≤ p.length → x_E MX10_slotOf 0 0 7 [some (.ref a), some (.int (ii (p0.length - 1))), some (.int (ii f)), some (.int (ii d)), some (.int (ii p.length)), none] [] (St σ) 0 0 (iv (p.length + ssc r f d)) (St σ) := by
    intro r
    induction r with
    | nil =>
      intro p d ht hd1 hd2
      have hl : t.length = p.length := by rw [ht]; simp
      refine e_iload 6 9 rfl rfl rfl ?_
      refine e_aload_n 7 10 rfl rfl rfl rfl ?_
      refine g_getI 8 13 1 ckX10 flX10_9 rfl rfl hV.1.1 hV.1.2.2.1 rfl rfl hlen ?_
      refine e_icmp_ge 9 65 16 rfl rfl rfl (by unfold xr at *; omega) (by unfold xr at *; omega) (fun _ => ?_) (fun h9 => absurd h9 (by omega))
      refine e_aload_n 35 66 rfl rfl rfl rfl ?_
      refine g_getI 36 69 1 ckX10 flX10_9 rfl rfl hV.1.1 hV.1.2.2.1 rfl rfl hlen ?_
      rw [show (p.length : Int) + (ssc [] f d : Nat) = (t.length : Int) by rw [hl]; simp [ssc]]
      exact e_ireturn 37 rfl rfl (Nat.le_of_ble_eq_true rfl) (Nat.le_of_ble_eq_true rfl)
    | cons x r ih =>
      intro p d ht hd1 hd2
      have hl : t.length = p.length + r.length + 1 := by rw [ht]; simp; omega
      have hx : tok t p.length = x := by rw [ht]; exact tok_hd p x r
      have hxb := hV.bnd p.length
      rw [hx] at hxb
      have htr := trn_in x
      have stop : (d = 0 ∧ (x = 0 ∨ x < 9 ∧ 1 + f ≤ x)) → x_E MX10_slotOf 0 0 48 [some (.ref a), some (.int (ii (p0.length - 1))), some (.int (ii f)), some (.int (ii d)), some (.int (ii p.length)), some (.int (ii x))] [] (St σ) 0 0 (iv (p.length + ssc (x :: r) f d)) (St σ) := by
        intro hc
        rw [show (p.length : Int) + (ssc (x :: r) f d : Nat) = (p.length : Int) by simp only [ssc]; rw [if_pos hc]; simp]
        refine e_iload 26 50 rfl rfl rfl ?_
        exact e_ireturn 27 rfl rfl (Nat.le_of_ble_eq_true rfl) (Nat.le_of_ble_eq_true rfl)
      have on : (¬ (d = 0 ∧ (x = 0 ∨ x < 9 ∧ 1 + f ≤ x))) → x_E MX10_slotOf 0 0 51 [some (.ref a), some (.int (ii (p0.length - 1))), some (.int (ii f)), some (.int (ii d)), some (.int (ii p.length)), some (.int (ii x))] [] (St σ) 0 0 (iv (p.length + ssc (x :: r) f d)) (St σ) := by
        intro hc
        have hn := ih (p ++ [x]) (d + trn x) (by rw [ht, app_s]) (by rw [len_s]; omega) (by rw [len_s]; omega)
        rw [len_s] at hn
        rw [show (p.length : Int) + (ssc (x :: r) f d : Nat) = (p.length : Int) + 1 + (ssc r f (d + trn x) : Nat) by simp only [ssc]; rw [if_neg hc]; omega]
        refine e_iload_n 28 52 rfl rfl rfl rfl ?_
        refine e_iload 29 54 rfl rfl rfl ?_
        refine g_callS 30 57 (sp_turnOf hxb) okX10_turnOf csX10_23 ⟨(Nat.le_of_ble_eq_true rfl), (Nat.le_of_ble_eq_true rfl)⟩ rfl rfl rfl rfl (Nat.le_of_ble_eq_true rfl) (Nat.le_of_ble_eq_true rfl) (Nat.le_of_ble_eq_true rfl) ?_
        refine e_iadd 31 58 rfl rfl ?_
        refine e_istore_n 32 59 (ls' := [some _, some _, some _, some _, some _, some _]) rfl rfl rfl (Nat.le_of_ble_eq_true rfl) rfl ?_
        refine e_iinc 33 62 (ls' := [some _, some _, some _, some _, some _, some _]) rfl rfl (Nat.le_of_ble_eq_true rfl) rfl rfl ?_
        refine e_goto 34 7 rfl rfl ?_
        refine e_dropm [true, true, true, true, true, false] (ls' := [some _, some _, some _, some _, some _, none]) rfl ?_
        exact hn
      refine e_iload 6 9 rfl rfl rfl ?_
      refine e_aload_n 7 10 rfl rfl rfl rfl ?_
      refine g_getI 8 13 1 ckX10 flX10_9 rfl rfl hV.1.1 hV.1.2.2.1 rfl rfl hlen ?_
      refine e_icmp_ge 9 65 16 rfl rfl rfl (by unfold xr at *; omega) (by unfold xr at *; omega) (fun h9 => absurd h9 (by omega)) (fun _ => ?_)
      refine e_aload_n 10 17 rfl rfl rfl rfl ?_
      refine e_iload 11 19 rfl rfl rfl ?_
      refine g_callV 12 22 (sp_signAt hV (i := p.length) (by unfold xr; omega)) okX10_signAt cvX10_19 ⟨(Nat.le_of_ble_eq_true rfl), (Nat.le_of_ble_eq_true rfl)⟩ rfl rfl hV.1.1 hV.1.2.2.1 rfl rfl rfl rfl (Nat.le_of_ble_eq_true rfl) (Nat.le_of_ble_eq_true rfl) (Nat.le_of_ble_eq_true rfl) ?_
      rw [hx]
      refine e_istore 13 24 (ls' := [some _, some _, some _, some _, some _, some _]) rfl rfl (Nat.le_of_ble_eq_true rfl) rfl ?_
      refine e_iload_n 14 25 rfl rfl rfl rfl ?_
      refine e_if_ne 15 51 28 rfl rfl rfl (by unfold xr at *; omega) (fun h => ?_) (fun h => ?_)
      · skip
        exact on (fun q => h q.1)
      · skip
        refine e_iload 16 30 rfl rfl rfl ?_
        refine e_if_eq 17 48 33 rfl rfl rfl (by unfold xr at *; omega) (fun h2 => ?_) (fun h2 => ?_)
        · skip
          exact stop ⟨h, Or.inl h2⟩
        · skip
          refine e_iload 18 35 rfl rfl rfl ?_
          refine e_bipush 19 37 rfl rfl rfl ?_
          refine e_icmp_ge 20 51 40 rfl rfl rfl (by unfold xr at *; omega) (by unfold xr at *; omega) (fun h3 => ?_) (fun h3 => ?_)
          · skip
            exact on (fun q => by omega)
          · skip
            refine e_iload 21 42 rfl rfl rfl ?_
            refine e_iconst 22 43 rfl rfl ?_
            refine e_iload_n 23 44 rfl rfl rfl rfl ?_
            refine e_iadd 24 45 rfl rfl ?_
            refine e_icmp_lt 25 51 48 rfl rfl rfl (by unfold xr at *; omega) (by unfold xr at *; omega) (fun h4 => ?_) (fun h4 => ?_)
            · skip
              exact on (fun q => by omega)
            · skip
              exact stop ⟨h, Or.inr ⟨by omega, by omega⟩⟩
  refine e_entry okX10_slotOf (Nat.le_of_ble_eq_true rfl) (ls := [some _, some _, some _, none, none, none]) rfl ?_
  have hl0 : p0.length ≤ t.length := by rw [h0]; simp
  refine e_iconst 0 1 rfl rfl ?_
  refine e_istore_n 1 2 (ls' := [some _, some _, some _, some _, none, none]) rfl rfl rfl (Nat.le_of_ble_eq_true rfl) rfl ?_
  refine e_iload_n 2 3 rfl rfl rfl rfl ?_
  refine e_iconst 3 4 rfl rfl ?_
  refine e_iadd 4 5 rfl rfl ?_
  refine e_istore 5 7 (ls' := [some _, some _, some _, some _, some _, none]) rfl rfl (Nat.le_of_ble_eq_true rfl) rfl ?_
  have h9 := loop r0 p0 0 h0 (by omega) (by omega)
  rw [show (p0.length : Int) - 1 + 1 = p0.length by omega]
  exact h9
theorem sp_slotOf0 {σ : xSig} {a cap : Nat} (hV : VH σ a cap []) {f : Int} (hf : 0 ≤ f ∧ f < 8) : Rd MX10_slotOf [.ref a, .int (ii 0), .int (ii f)] σ (iv 0) := by
  have hlen : σ a 1 = 0 := by have := hV.2.1; simpa using this
  refine e_entry okX10_slotOf (Nat.le_of_ble_eq_true rfl) (ls := [some _, some _, some _, none, none, none]) rfl ?_
  refine e_iconst 0 1 rfl rfl ?_
  refine e_istore_n 1 2 (ls' := [some _, some _, some _, some _, none, none]) rfl rfl rfl (Nat.le_of_ble_eq_true rfl) rfl ?_
  refine e_iload_n 2 3 rfl rfl rfl rfl ?_
  refine e_iconst 3 4 rfl rfl ?_
  refine e_iadd 4 5 rfl rfl ?_
  refine e_istore 5 7 (ls' := [some _, some _, some _, some _, some _, none]) rfl rfl (Nat.le_of_ble_eq_true rfl) rfl ?_
  refine e_iload 6 9 rfl rfl rfl ?_
  refine e_aload_n 7 10 rfl rfl rfl rfl ?_
  refine g_getI 8 13 1 ckX10 flX10_9 rfl rfl hV.1.1 hV.1.2.2.1 rfl rfl hlen ?_
  refine e_icmp_ge 9 65 16 rfl rfl rfl (by unfold xr at *; omega) (by unfold xr at *; omega) (fun _ => ?_) (fun h9 => absurd h9 (by omega))
  refine e_aload_n 35 66 rfl rfl rfl rfl ?_
  refine g_getI 36 69 1 ckX10 flX10_9 rfl rfl hV.1.1 hV.1.2.2.1 rfl rfl hlen ?_
  exact e_ireturn 37 rfl rfl (Nat.le_of_ble_eq_true rfl) (Nat.le_of_ble_eq_true rfl)
/-- where the value of a field is, in the object whose signs behind its own are r0; -1 if it is not there -/
def plc (p0 r0 : List Int) (f : Int) : Int := if tok r0 (ssc r0 f 0 : Nat) = 1 + f then p0.length + ssc r0 f 0 + 1 else -1
theorem sp_placeOf {σ : xSig} {a cap : Nat} {t : List Int} (hV : VH σ a cap t) {f : Int} (hf : 0 ≤ f ∧ f < 8) (p0 r0 : List Int) (h0 : t = p0 ++ r0) (hp0 : 0 < p0.length) : Rd MX10_placeOf [.ref a, .int (ii (p0.length - 1)), .int (ii f)] σ (iv (plc p0 r0 f)) := by
  have hlen := hV.2.1
  have hcap := hV.2.2.1
  have h200 := hV.2.2.2.1
  have hl0 : t.length = p0.length + r0.length := by rw [h0]; simp
  have hle := ssc_le r0 f 0
  have hx : tok t ((p0.length : Int) + (ssc r0 f 0 : Nat)) = tok r0 (ssc r0 f 0 : Nat) := by
    rw [show ((p0.length : Int) + (ssc r0 f 0 : Nat)) = ((p0.length + ssc r0 f 0 : Nat) : Int) by omega, tok_nat, tok_nat, List.getD_eq_getElem?_getD, List.getD_eq_getElem?_getD, h0, List.getElem?_append_right (by omega)]
    congr 2
    omega
  have hb := hV.bnd ((p0.length : Int) + (ssc r0 f 0 : Nat))
  rw [hx] at hb
  refine e_entry okX10_placeOf (Nat.le_of_ble_eq_true rfl) (ls := [some _, some _, some _, none]) rfl ?_
  refine e_aload_n 0 1 rfl rfl rfl rfl ?_
  refine e_iload_n 1 2 rfl rfl rfl rfl ?_
  refine e_iload_n 2 3 rfl rfl rfl rfl ?_
  refine g_callV 3 6 (sp_slotOf hV hf p0 r0 h0 hp0) okX10_slotOf cvX10_32 ⟨(Nat.le_of_ble_eq_true rfl), (Nat.le_of_ble_eq_true rfl)⟩ rfl rfl hV.1.1 hV.1.2.2.1 rfl rfl rfl rfl (Nat.le_of_ble_eq_true rfl) (Nat.le_of_ble_eq_true rfl) (Nat.le_of_ble_eq_true rfl) ?_
  refine e_istore_n 4 7 (ls' := [some _, some _, some _, some _]) rfl rfl rfl (Nat.le_of_ble_eq_true rfl) rfl ?_
  refine e_aload_n 5 8 rfl rfl rfl rfl ?_
  refine e_iload_n 6 9 rfl rfl rfl rfl ?_
  refine g_callV 7 12 (sp_signAt hV (i := (p0.length : Int) + (ssc r0 f 0 : Nat)) (by unfold xr; omega)) okX10_signAt cvX10_19 ⟨(Nat.le_of_ble_eq_true rfl), (Nat.le_of_ble_eq_true rfl)⟩ rfl rfl hV.1.1 hV.1.2.2.1 rfl rfl rfl rfl (Nat.le_of_ble_eq_true rfl) (Nat.le_of_ble_eq_true rfl) (Nat.le_of_ble_eq_true rfl) ?_
  rw [hx]
  refine e_iconst 8 13 rfl rfl ?_
  refine e_iload_n 9 14 rfl rfl rfl rfl ?_
  refine e_iadd 10 15 rfl rfl ?_
  unfold plc
  refine e_icmp_ne 11 24 18 rfl rfl rfl (by unfold xr at *; omega) (by unfold xr at *; omega) (fun h => ?_) (fun h => ?_)
  · skip
    rw [if_neg h]
    refine e_iconst 16 25 rfl rfl ?_
    exact e_ireturn 17 rfl rfl (Nat.le_of_ble_eq_true rfl) (Nat.le_of_ble_eq_true rfl)
  · skip
    rw [if_pos h]
    refine e_iload_n 12 19 rfl rfl rfl rfl ?_
    refine e_iconst 13 20 rfl rfl ?_
    refine e_iadd 14 21 rfl rfl ?_
    refine e_goto 15 25 rfl rfl ?_
    exact e_ireturn 17 rfl rfl (Nat.le_of_ble_eq_true rfl) (Nat.le_of_ble_eq_true rfl)
theorem sp_placeOf0 {σ : xSig} {a cap : Nat} (hV : VH σ a cap []) {f : Int} (hf : 0 ≤ f ∧ f < 8) : Rd MX10_placeOf [.ref a, .int (ii 0), .int (ii f)] σ (iv (-1)) := by
  refine e_entry okX10_placeOf (Nat.le_of_ble_eq_true rfl) (ls := [some _, some _, some _, none]) rfl ?_
  refine e_aload_n 0 1 rfl rfl rfl rfl ?_
  refine e_iload_n 1 2 rfl rfl rfl rfl ?_
  refine e_iload_n 2 3 rfl rfl rfl rfl ?_
  refine g_callV 3 6 (sp_slotOf0 hV hf) okX10_slotOf cvX10_32 ⟨(Nat.le_of_ble_eq_true rfl), (Nat.le_of_ble_eq_true rfl)⟩ rfl rfl hV.1.1 hV.1.2.2.1 rfl rfl rfl rfl (Nat.le_of_ble_eq_true rfl) (Nat.le_of_ble_eq_true rfl) (Nat.le_of_ble_eq_true rfl) ?_
  refine e_istore_n 4 7 (ls' := [some _, some _, some _, some _]) rfl rfl rfl (Nat.le_of_ble_eq_true rfl) rfl ?_
  refine e_aload_n 5 8 rfl rfl rfl rfl ?_
  refine e_iload_n 6 9 rfl rfl rfl rfl ?_
  refine g_callV 7 12 (sp_signAt hV (i := 0) (by unfold xr; omega)) okX10_signAt cvX10_19 ⟨(Nat.le_of_ble_eq_true rfl), (Nat.le_of_ble_eq_true rfl)⟩ rfl rfl hV.1.1 hV.1.2.2.1 rfl rfl rfl rfl (Nat.le_of_ble_eq_true rfl) (Nat.le_of_ble_eq_true rfl) (Nat.le_of_ble_eq_true rfl) ?_
  rw [tok_big (by simp)]
  refine e_iconst 8 13 rfl rfl ?_
  refine e_iload_n 9 14 rfl rfl rfl rfl ?_
  refine e_iadd 10 15 rfl rfl ?_
  refine e_icmp_ne 11 24 18 rfl rfl rfl (by unfold xr at *; omega) (by unfold xr at *; omega) (fun _ => ?_) (fun h9 => absurd h9 (by omega))
  refine e_iconst 16 25 rfl rfl ?_
  exact e_ireturn 17 rfl rfl (Nat.le_of_ble_eq_true rfl) (Nat.le_of_ble_eq_true rfl)
theorem sp_printOn {σ : xSig} {a cap : Nat} {t : List Int} (hV : VH σ a cap t) {h x : Int} (p0 r0 : List Int) (h0 : t = p0 ++ x :: r0) : Rd MX10_printOn [.ref a, .long (ll h), .int (ii x), .int (ii p0.length)] σ (.inl (some (.long (ll (pon h x (wsc (x :: r0) 0)))))) := by
  have hcap := hV.2.2.1
  have h200 := hV.2.2.2.1
  have hl0 : t.length = p0.length + r0.length + 1 := by rw [h0]; simp; omega
  have hx : tok t p0.length = x := by rw [h0]; exact tok_hd _ x r0
  have hb := hV.bnd p0.length
  rw [hx] at hb
  have hk := knd_bnd x
  have hw := wsc_bnd (x :: r0) 0
  simp only [List.length_cons] at hw
  have hi : xr (p0.length : Int) := by unfold xr; omega
  refine e_entry okX10_printOn (Nat.le_of_ble_eq_true rfl) (ls := [some _, some _, none, some _, some _, none, none, none]) rfl ?_
  refine e_iload_n 0 1 rfl rfl rfl rfl ?_
  unfold pon
  refine e_if_ne 1 6 4 rfl rfl rfl (by unfold xr at *; omega) (fun h1 => ?_) (fun h1 => ?_)
  · skip
    rw [if_neg h1]
    refine e_iload_n 4 7 rfl rfl rfl rfl ?_
    refine e_bipush 5 9 rfl rfl rfl ?_
    refine e_icmp_ge 6 23 12 rfl rfl rfl (by unfold xr at *; omega) (by unfold xr at *; omega) (fun h2 => ?_) (fun h2 => ?_)
    · skip
      rw [if_neg (by omega)]
      refine e_aload_n 16 24 rfl rfl rfl rfl ?_
      refine e_iload 17 26 rfl rfl rfl ?_
      refine g_callV 18 29 (sp_kindAt hV hi) okX10_kindAt cvX10_44 ⟨(Nat.le_of_ble_eq_true rfl), (Nat.le_of_ble_eq_true rfl)⟩ rfl rfl hV.1.1 hV.1.2.2.1 rfl rfl rfl rfl (Nat.le_of_ble_eq_true rfl) (Nat.le_of_ble_eq_true rfl) (Nat.le_of_ble_eq_true rfl) ?_
      rw [hx]
      refine e_istore 19 31 (ls' := [some _, some _, none, some _, some _, some _, none, none]) rfl rfl (Nat.le_of_ble_eq_true rfl) rfl ?_
      refine e_ldc2_w 20 34 kcX10_42 (by rfl : _ = ll 31) rfl rfl ?_
      refine e_lload_n 21 35 rfl rfl rfl rfl ?_
      refine e_lmul 22 36 rfl rfl ?_
      refine e_iload 23 38 rfl rfl rfl ?_
      refine e_iconst 24 39 rfl rfl ?_
      refine e_iadd 25 40 rfl rfl ?_
      refine e_i2l 26 41 rfl rfl (by unfold xr at *; omega) ?_
      refine e_ladd 27 42 rfl rfl ?_
      refine e_lstore 28 44 (ls' := [some _, some _, none, some _, some _, some _, some _, none]) rfl rfl (Nat.le_of_ble_eq_true rfl) rfl ?_
      refine e_iload 29 46 rfl rfl rfl ?_
      refine e_iconst 30 47 rfl rfl ?_
      refine e_icmp_ne 31 65 50 rfl rfl rfl (by unfold xr at *; omega) (by unfold xr at *; omega) (fun h3 => ?_) (fun h3 => ?_)
      · skip
        rw [if_neg h3]
        refine e_iload 41 67 rfl rfl rfl ?_
        refine e_iconst 42 68 rfl rfl ?_
        refine e_icmp_ne 43 86 71 rfl rfl rfl (by unfold xr at *; omega) (by unfold xr at *; omega) (fun h4 => ?_) (fun h4 => ?_)
        · skip
          rw [if_neg h4]
          refine e_iload 53 88 rfl rfl rfl ?_
          refine e_if_ne 54 96 91 rfl rfl rfl (by unfold xr at *; omega) (fun h5 => ?_) (fun h5 => ?_)
          · skip
            rw [if_neg h5]
            refine e_ldc2_w 57 99 kcX10_42 (by rfl : _ = ll 31) rfl rfl ?_
            refine e_lload 58 101 rfl rfl rfl ?_
            refine e_lmul 59 102 rfl rfl ?_
            refine e_aload_n 60 103 rfl rfl rfl rfl ?_
            refine e_iload 61 105 rfl rfl rfl ?_
            refine g_callV 62 108 (sp_widthAt hV p0 (x :: r0) h0) okX10_widthAt cvX10_53 ⟨(Nat.le_of_ble_eq_true rfl), (Nat.le_of_ble_eq_true rfl)⟩ rfl rfl hV.1.1 hV.1.2.2.1 rfl rfl rfl rfl (Nat.le_of_ble_eq_true rfl) (Nat.le_of_ble_eq_true rfl) (Nat.le_of_ble_eq_true rfl) ?_
            refine e_i2l 63 109 rfl rfl (by unfold xr at *; omega) ?_
            refine e_ladd 64 110 rfl rfl ?_
            exact e_lreturn 65 rfl rfl (Nat.le_of_ble_eq_true rfl) (Nat.le_of_ble_eq_true rfl)
          · skip
            rw [if_pos h5]
            refine e_lload 55 93 rfl rfl rfl ?_
            refine e_goto 56 110 rfl rfl ?_
            exact e_lreturn 65 rfl rfl (Nat.le_of_ble_eq_true rfl) (Nat.le_of_ble_eq_true rfl)
        · skip
          rw [if_pos h4]
          refine e_ldc2_w 44 74 kcX10_42 (by rfl : _ = ll 31) rfl rfl ?_
          refine e_lload 45 76 rfl rfl rfl ?_
          refine e_lmul 46 77 rfl rfl ?_
          refine e_aload_n 47 78 rfl rfl rfl rfl ?_
          refine e_iload 48 80 rfl rfl rfl ?_
          refine g_callV 49 83 (sp_wordAt hV hi) okX10_wordAt cvX10_50 ⟨(Nat.le_of_ble_eq_true rfl), (Nat.le_of_ble_eq_true rfl)⟩ rfl rfl hV.1.1 hV.1.2.2.1 rfl rfl rfl rfl (Nat.le_of_ble_eq_true rfl) (Nat.le_of_ble_eq_true rfl) (Nat.le_of_ble_eq_true rfl) ?_
          rw [hx]
          refine e_i2l 50 84 rfl rfl (by unfold xr at *; omega) ?_
          refine e_ladd 51 85 rfl rfl ?_
          exact e_lreturn 52 rfl rfl (Nat.le_of_ble_eq_true rfl) (Nat.le_of_ble_eq_true rfl)
      · skip
        rw [if_pos h3]
        refine e_ldc2_w 32 53 kcX10_42 (by rfl : _ = ll 31) rfl rfl ?_
        refine e_lload 33 55 rfl rfl rfl ?_
        refine e_lmul 34 56 rfl rfl ?_
        refine e_aload_n 35 57 rfl rfl rfl rfl ?_
        refine e_iload 36 59 rfl rfl rfl ?_
        refine g_callV 37 62 (sp_numberAt hV hi) okX10_numberAt cvX10_47 ⟨(Nat.le_of_ble_eq_true rfl), (Nat.le_of_ble_eq_true rfl)⟩ rfl rfl hV.1.1 hV.1.2.2.1 rfl rfl rfl rfl (Nat.le_of_ble_eq_true rfl) (Nat.le_of_ble_eq_true rfl) (Nat.le_of_ble_eq_true rfl) ?_
        rw [hx]
        refine e_i2l 38 63 rfl rfl (by unfold xr at *; omega) ?_
        refine e_ladd 39 64 rfl rfl ?_
        exact e_lreturn 40 rfl rfl (Nat.le_of_ble_eq_true rfl) (Nat.le_of_ble_eq_true rfl)
    · skip
      rw [if_pos (by omega)]
      refine e_ldc2_w 7 15 kcX10_42 (by rfl : _ = ll 31) rfl rfl ?_
      refine e_lload_n 8 16 rfl rfl rfl rfl ?_
      refine e_lmul 9 17 rfl rfl ?_
      refine e_iload_n 10 18 rfl rfl rfl rfl ?_
      refine e_iconst 11 19 rfl rfl ?_
      refine e_isub 12 20 rfl rfl ?_
      refine e_i2l 13 21 rfl rfl (by unfold xr at *; omega) ?_
      refine e_ladd 14 22 rfl rfl ?_
      exact e_lreturn 15 rfl rfl (Nat.le_of_ble_eq_true rfl) (Nat.le_of_ble_eq_true rfl)
  · skip
    rw [if_pos h1]
    refine e_lload_n 2 5 rfl rfl rfl rfl ?_
    exact e_lreturn 3 rfl rfl (Nat.le_of_ble_eq_true rfl) (Nat.le_of_ble_eq_true rfl)

theorem sp_printAt {σ : xSig} {a cap : Nat} {t : List Int} (hV : VH σ a cap t) (p0 r0 : List Int) (h0 : t = p0 ++ r0) : Rd MX10_printAt [.ref a, .int (ii p0.length)] σ (.inl (some (.long (ll (psc r0 0 7))))) := by
  have hlen := hV.2.1
  have hcap := hV.2.2.1
  have h200 := hV.2.2.2.1
  have loop : ∀ (r p : List Int) (d h : Int), t = p ++ r → -(p.length : Int) ≤ d → d ≤ p.length → x_E MX10_printAt 0 0 10 [some (.ref a), some (.int (ii p0.length)), some (.long (ll h)), none, some (.int (ii d)), some (.int (ii p.length)), none] [] (St σ) 0 0 (.inl (some (.long (ll (psc r d h))))) (St σ) := by
    intro r
    induction r with
    | nil =>
      intro p d h ht hd1 hd2
      have hl : t.length = p.length := by rw [ht]; simp
      refine e_iload 6 12 rfl rfl rfl ?_
      refine e_aload_n 7 13 rfl rfl rfl rfl ?_
      refine g_getI 8 16 1 ckX10 flX10_9 rfl rfl hV.1.1 hV.1.2.2.1 rfl rfl hlen ?_
      refine e_icmp_ge 9 60 19 rfl rfl rfl (by unfold xr at *; omega) (by unfold xr at *; omega) (fun _ => ?_) (fun h9 => absurd h9 (by omega))
      refine e_lload_n 31 61 rfl rfl rfl rfl ?_
      exact e_lreturn 32 rfl rfl (Nat.le_of_ble_eq_true rfl) (Nat.le_of_ble_eq_true rfl)
    | cons x r ih =>
      intro p d h ht hd1 hd2
      have hl : t.length = p.length + r.length + 1 := by rw [ht]; simp; omega
      have hx : tok t p.length = x := by rw [ht]; exact tok_hd p x r
      have hxb := hV.bnd p.length
      rw [hx] at hxb
      have htr := trn_in x
      refine e_iload 6 12 rfl rfl rfl ?_
      refine e_aload_n 7 13 rfl rfl rfl rfl ?_
      refine g_getI 8 16 1 ckX10 flX10_9 rfl rfl hV.1.1 hV.1.2.2.1 rfl rfl hlen ?_
      refine e_icmp_ge 9 60 19 rfl rfl rfl (by unfold xr at *; omega) (by unfold xr at *; omega) (fun h9 => absurd h9 (by omega)) (fun _ => ?_)
      refine e_aload_n 10 20 rfl rfl rfl rfl ?_
      refine e_iload 11 22 rfl rfl rfl ?_
      refine g_callV 12 25 (sp_signAt hV (i := p.length) (by unfold xr; omega)) okX10_signAt cvX10_19 ⟨(Nat.le_of_ble_eq_true rfl), (Nat.le_of_ble_eq_true rfl)⟩ rfl rfl hV.1.1 hV.1.2.2.1 rfl rfl rfl rfl (Nat.le_of_ble_eq_true rfl) (Nat.le_of_ble_eq_true rfl) (Nat.le_of_ble_eq_true rfl) ?_
      rw [hx]
      refine e_istore 13 27 (ls' := [some _, some _, some _, none, some _, some _, some _]) rfl rfl (Nat.le_of_ble_eq_true rfl) rfl ?_
      refine e_aload_n 14 28 rfl rfl rfl rfl ?_
      refine e_lload_n 15 29 rfl rfl rfl rfl ?_
      refine e_iload 16 31 rfl rfl rfl ?_
      refine e_iload 17 33 rfl rfl rfl ?_
      refine g_callV 18 36 (sp_printOn hV p r ht) okX10_printOn cvX10_38 ⟨(Nat.le_of_ble_eq_true rfl), (Nat.le_of_ble_eq_true rfl)⟩ rfl rfl hV.1.1 hV.1.2.2.1 rfl rfl rfl rfl (Nat.le_of_ble_eq_true rfl) (Nat.le_of_ble_eq_true rfl) (Nat.le_of_ble_eq_true rfl) ?_
      refine e_lstore_n 19 37 (ls' := [some _, some _, some _, none, some _, some _, some _]) rfl rfl rfl (Nat.le_of_ble_eq_true rfl) rfl ?_
      refine e_iload 20 39 rfl rfl rfl ?_
      refine e_iload 21 41 rfl rfl rfl ?_
      refine g_callS 22 44 (sp_turnOf hxb) okX10_turnOf csX10_23 ⟨(Nat.le_of_ble_eq_true rfl), (Nat.le_of_ble_eq_true rfl)⟩ rfl rfl rfl rfl (Nat.le_of_ble_eq_true rfl) (Nat.le_of_ble_eq_true rfl) (Nat.le_of_ble_eq_true rfl) ?_
      refine e_iadd 23 45 rfl rfl ?_
      refine e_istore 24 47 (ls' := [some _, some _, some _, none, some _, some _, some _]) rfl rfl (Nat.le_of_ble_eq_true rfl) rfl ?_
      refine e_iload 25 49 rfl rfl rfl ?_
      refine e_if_gt 26 54 52 rfl rfl rfl (by unfold xr at *; omega) (fun h4 => ?_) (fun h4 => ?_)
      · skip
        have hn := ih (p ++ [x]) (d + trn x) (pon h x (wsc (x :: r) 0)) (by rw [ht, app_s]) (by rw [len_s]; omega) (by rw [len_s]; omega)
        rw [len_s] at hn
        rw [show psc (x :: r) d h = psc r (d + trn x) (pon h x (wsc (x :: r) 0)) by simp only [psc]; rw [if_neg (by omega)]]
        refine e_iinc 29 57 (ls' := [some _, some _, some _, none, some _, some _, some _]) rfl rfl (Nat.le_of_ble_eq_true rfl) rfl rfl ?_
        refine e_goto 30 10 rfl rfl ?_
        refine e_dropm [true, true, true, false, true, true, false] (ls' := [some _, some _, some _, none, some _, some _, none]) rfl ?_
        exact hn
      · skip
        rw [show psc (x :: r) d h = pon h x (wsc (x :: r) 0) by simp only [psc]; rw [if_pos (by omega)]]
        refine e_lload_n 27 53 rfl rfl rfl rfl ?_
        exact e_lreturn 28 rfl rfl (Nat.le_of_ble_eq_true rfl) (Nat.le_of_ble_eq_true rfl)
  refine e_entry okX10_printAt (Nat.le_of_ble_eq_true rfl) (ls := [some _, some _, none, none, none, none, none]) rfl ?_
  refine e_ldc2_w 0 3 kcX10_36 (by rfl : _ = ll 7) rfl rfl ?_
  refine e_lstore_n 1 4 (ls' := [some _, some _, some _, none, none, none, none]) rfl rfl rfl (Nat.le_of_ble_eq_true rfl) rfl ?_
  refine e_iconst 2 5 rfl rfl ?_
  refine e_istore 3 7 (ls' := [some _, some _, some _, none, some _, none, none]) rfl rfl (Nat.le_of_ble_eq_true rfl) rfl ?_
  refine e_iload_n 4 8 rfl rfl rfl rfl ?_
  refine e_istore 5 10 (ls' := [some _, some _, some _, none, some _, some _, none]) rfl rfl (Nat.le_of_ble_eq_true rfl) rfl ?_
  exact loop r0 p0 0 7 h0 (by omega) (by omega)
/-- two values are ordered sign by sign, by the first that differs -/
theorem sp_order {σ : xSig} {a cap b cap' : Nat} {t t' : List Int} (hV : VH σ a cap t) (hW : VH σ b cap' t') (p0 v s0 p1 w s1 : List Int) (h0 : t = p0 ++ v ++ s0) (h1 : t' = p1 ++ w ++ s1) (hv : Cv v) (hw : Cv w) : Rd MX10_order [.ref a, .int (ii p0.length), .ref b, .int (ii p1.length)] σ (iv (lexc v w)) := by
  have hlen := hV.2.1
  have hcap := hV.2.2.1
  have h200 := hV.2.2.2.1
  have hcap' := hW.2.2.1
  have h200' := hW.2.2.2.1
  have hlv : v.length ≤ t.length := by rw [h0]; simp; omega
  have hl0 : t.length = p0.length + v.length + s0.length := by rw [h0]; simp; omega
  have hl1 : t'.length = p1.length + w.length + s1.length := by rw [h1]; simp; omega
  have loop : ∀ (rv rw9 m : List Int), v = m ++ rv → w = m ++ rw9 → 0 < rv.length → 0 < rw9.length → x_E MX10_order 0 0 6 [some (.ref a), some (.int (ii p0.length)), some (.ref b), some (.int (ii p1.length)), some (.int (ii (dsum m))), some (.int (ii m.length)), none, none] [] (St σ) 0 0 (iv (lexc rv rw9)) (St σ) := by
    intro rv
    induction rv with
    | nil => intro rw9 m _ _ h; simp at h
    | cons x rv ih =>
      intro rw9 m hm1 hm2 _ hr
      cases rw9 with
      | nil => simp at hr
      | cons y rw9 =>
        have hml : m.length < v.length := by rw [hm1]; simp
        have hmw : m.length < w.length := by rw [hm2]; simp
        have hx : tok t ((p0.length : Int) + m.length) = x := by
          rw [h0, hm1, show (p0.length : Int) + m.length = ((p0 ++ m).length : Int) by simp, show p0 ++ (m ++ x :: rv) ++ s0 = (p0 ++ m) ++ x :: (rv ++ s0) by simp]
          exact tok_hd _ x _
        have hy : tok t' ((p1.length : Int) + m.length) = y := by
          rw [h1, hm2, show (p1.length : Int) + m.length = ((p1 ++ m).length : Int) by simp, show p1 ++ (m ++ y :: rw9) ++ s1 = (p1 ++ m) ++ y :: (rw9 ++ s1) by simp]
          exact tok_hd _ y _
        have hxb := hV.bnd ((p0.length : Int) + m.length)
        rw [hx] at hxb
        have hyb := hW.bnd ((p1.length : Int) + m.length)
        rw [hy] at hyb
        have hdb := dsum_bnd m
        have htr := trn_in x
        refine e_iload 4 8 rfl rfl rfl ?_
        refine e_aload_n 5 9 rfl rfl rfl rfl ?_
        refine g_getI 6 12 1 ckX10 flX10_9 rfl rfl hV.1.1 hV.1.2.2.1 rfl rfl hlen ?_
        refine e_icmp_ge 7 78 15 rfl rfl rfl (by unfold xr at *; omega) (by unfold xr at *; omega) (fun h9 => absurd h9 (by omega)) (fun _ => ?_)
        refine e_aload_n 8 16 rfl rfl rfl rfl ?_
        refine e_iload_n 9 17 rfl rfl rfl rfl ?_
        refine e_iload 10 19 rfl rfl rfl ?_
        refine e_iadd 11 20 rfl rfl ?_
        refine g_callV 12 23 (sp_signAt hV (i := (p0.length : Int) + m.length) (by unfold xr; omega)) okX10_signAt cvX10_19 ⟨(Nat.le_of_ble_eq_true rfl), (Nat.le_of_ble_eq_true rfl)⟩ rfl rfl hV.1.1 hV.1.2.2.1 rfl rfl rfl rfl (Nat.le_of_ble_eq_true rfl) (Nat.le_of_ble_eq_true rfl) (Nat.le_of_ble_eq_true rfl) ?_
        rw [hx]
        refine e_istore 13 25 (ls' := [some _, some _, some _, some _, some _, some _, some _, none]) rfl rfl (Nat.le_of_ble_eq_true rfl) rfl ?_
        refine e_aload_n 14 26 rfl rfl rfl rfl ?_
        refine e_iload_n 15 27 rfl rfl rfl rfl ?_
        refine e_iload 16 29 rfl rfl rfl ?_
        refine e_iadd 17 30 rfl rfl ?_
        refine g_callV 18 33 (sp_signAt hW (i := (p1.length : Int) + m.length) (by unfold xr; omega)) okX10_signAt cvX10_19 ⟨(Nat.le_of_ble_eq_true rfl), (Nat.le_of_ble_eq_true rfl)⟩ rfl rfl hW.1.1 hW.1.2.2.1 rfl rfl rfl rfl (Nat.le_of_ble_eq_true rfl) (Nat.le_of_ble_eq_true rfl) (Nat.le_of_ble_eq_true rfl) ?_
        rw [hy]
        refine e_istore 19 35 (ls' := [some _, some _, some _, some _, some _, some _, some _, some _]) rfl rfl (Nat.le_of_ble_eq_true rfl) rfl ?_
        refine e_iload 20 37 rfl rfl rfl ?_
        refine e_iload 21 39 rfl rfl rfl ?_
        refine e_icmp_eq 22 55 42 rfl rfl rfl (by unfold xr at *; omega) (by unfold xr at *; omega) (fun h => ?_) (fun h => ?_)
        · skip
          subst h
          have e1 : dsum (m ++ [x]) = dsum m + trn x := by rw [dsum_app]; simp [dsum]
          refine e_iload 30 57 rfl rfl rfl ?_
          refine e_iload 31 59 rfl rfl rfl ?_
          refine g_callS 32 62 (sp_turnOf hxb) okX10_turnOf csX10_23 ⟨(Nat.le_of_ble_eq_true rfl), (Nat.le_of_ble_eq_true rfl)⟩ rfl rfl rfl rfl (Nat.le_of_ble_eq_true rfl) (Nat.le_of_ble_eq_true rfl) (Nat.le_of_ble_eq_true rfl) ?_
          refine e_iadd 33 63 rfl rfl ?_
          refine e_istore 34 65 (ls' := [some _, some _, some _, some _, some _, some _, some _, some _]) rfl rfl (Nat.le_of_ble_eq_true rfl) rfl ?_
          refine e_iload 35 67 rfl rfl rfl ?_
          refine e_if_gt 36 72 70 rfl rfl rfl (by unfold xr at *; omega) (fun h2 => ?_) (fun h2 => ?_)
          · skip
            have hrv : 0 < rv.length := by
              cases rv with
              | nil =>
                have := hv.1
                rw [hm1, dsum_app] at this
                simp only [dsum] at this
                omega
              | cons => simp
            have hrw : 0 < rw9.length := by
              cases rw9 with
              | nil =>
                have := hw.1
                rw [hm2, dsum_app] at this
                simp only [dsum] at this
                omega
              | cons => simp
            have hn := ih rw9 (m ++ [x]) (by rw [hm1, app_s]) (by rw [hm2, app_s]) hrv hrw
            rw [len_s, e1] at hn
            rw [show lexc (x :: rv) (x :: rw9) = lexc rv rw9 by simp [lexc]]
            refine e_iinc 39 75 (ls' := [some _, some _, some _, some _, some _, some _, some _, some _]) rfl rfl (Nat.le_of_ble_eq_true rfl) rfl rfl ?_
            refine e_goto 40 6 rfl rfl ?_
            refine e_dropm [true, true, true, true, true, true, false, false] (ls' := [some _, some _, some _, some _, some _, some _, none, none]) rfl ?_
            exact hn
          · skip
            have hrv : rv = [] := by
              cases rv with
              | nil => rfl
              | cons z rv =>
                have h9 := hv.2.2 (m.length + 1) (by omega) (by rw [hm1]; simp)
                rw [hm1, app_s, show m.length + 1 = (m ++ [x]).length by simp, List.take_left, e1] at h9
                omega
            rw [hrv, show lexc [x] (x :: rw9) = 0 by simp [lexc]]
            refine e_iconst 37 71 rfl rfl ?_
            exact e_ireturn 38 rfl rfl (Nat.le_of_ble_eq_true rfl) (Nat.le_of_ble_eq_true rfl)
        · skip
          refine e_iload 23 44 rfl rfl rfl ?_
          refine e_iload 24 46 rfl rfl rfl ?_
          refine e_icmp_ge 25 53 49 rfl rfl rfl (by unfold xr at *; omega) (by unfold xr at *; omega) (fun h2 => ?_) (fun h2 => ?_)
          · skip
            rw [show lexc (x :: rv) (y :: rw9) = 1 by simp only [lexc]; rw [if_neg (by omega), if_pos (by omega)]]
            refine e_iconst 28 54 rfl rfl ?_
            exact e_ireturn 29 rfl rfl (Nat.le_of_ble_eq_true rfl) (Nat.le_of_ble_eq_true rfl)
          · skip
            rw [show lexc (x :: rv) (y :: rw9) = -1 by simp only [lexc]; rw [if_pos (by omega)]]
            refine e_iconst 26 50 rfl rfl ?_
            refine e_goto 27 54 rfl rfl ?_
            exact e_ireturn 29 rfl rfl (Nat.le_of_ble_eq_true rfl) (Nat.le_of_ble_eq_true rfl)
  refine e_entry okX10_order (Nat.le_of_ble_eq_true rfl) (ls := [some _, some _, some _, some _, none, none, none, none]) rfl ?_
  refine e_iconst 0 1 rfl rfl ?_
  refine e_istore 1 3 (ls' := [some _, some _, some _, some _, some _, none, none, none]) rfl rfl (Nat.le_of_ble_eq_true rfl) rfl ?_
  refine e_iconst 2 4 rfl rfl ?_
  refine e_istore 3 6 (ls' := [some _, some _, some _, some _, some _, some _, none, none]) rfl rfl (Nat.le_of_ble_eq_true rfl) rfl ?_
  exact loop v w [] rfl rfl hv.2.1 hw.2.1
