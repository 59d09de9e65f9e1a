/-! ===== Value: reading ===== -/
theorem sp_turnOf {σ : xSig} {x : Int} (hx : 0 ≤ x ∧ x < 6000) : Rd MX10_turnOf [.int (ii x)] σ (iv (trn x)) := by
  refine e_entry okX10_turnOf (Nat.le_of_ble_eq_true rfl) (ls := [some _]) rfl ?_
  refine e_iload_n 0 1 rfl rfl rfl rfl ?_
  refine e_sipush 1 4 rfl rfl rfl ?_
  refine e_icmp_lt 2 9 7 rfl rfl rfl (by unfold xr; omega) (by unfold xr; omega) (fun h => ?_) (fun h => ?_)
  · skip
    refine e_iload_n 5 10 rfl rfl rfl rfl ?_
    refine e_if_ne 6 17 13 rfl rfl rfl (by unfold xr; omega) (fun h2 => ?_) (fun h2 => ?_)
    · skip
      rw [show trn x = 0 by unfold trn; rw [if_neg (by omega), if_neg h2]]
      refine e_iconst 9 18 rfl rfl ?_
      exact e_ireturn 10 rfl rfl (Nat.le_of_ble_eq_true rfl) (Nat.le_of_ble_eq_true rfl)
    · skip
      rw [show trn x = -1 by unfold trn; rw [if_neg (by omega), if_pos h2]]
      refine e_iconst 7 14 rfl rfl ?_
      refine e_goto 8 18 rfl rfl ?_
      exact e_ireturn 10 rfl rfl (Nat.le_of_ble_eq_true rfl) (Nat.le_of_ble_eq_true rfl)
  · skip
    rw [show trn x = 1 by unfold trn; rw [if_pos h]]
    refine e_iconst 3 8 rfl rfl ?_
    exact e_ireturn 4 rfl rfl (Nat.le_of_ble_eq_true rfl) (Nat.le_of_ble_eq_true rfl)
theorem sp_signAt {σ : xSig} {a cap : Nat} {t : List Int} (hV : VH σ a cap t) {i : Int} (hi : xr i) : Rd MX10_signAt [.ref a, .int (ii i)] σ (iv (tok t i)) := by
  have hlen := hV.2.1
  have h1 := hV.2.2.1
  have h2 := hV.2.2.2.1
  unfold xr at hi
  refine e_entry okX10_signAt (Nat.le_of_ble_eq_true rfl) (ls := [some _, some _]) rfl ?_
  refine e_iload_n 0 1 rfl rfl rfl rfl ?_
  refine e_if_lt 1 30 4 rfl rfl rfl (by unfold xr; omega) (fun h3 => ?_) (fun h3 => ?_)
  · skip
    rw [tok_neg h3]
    refine e_iconst 16 31 rfl rfl ?_
    exact e_ireturn 17 rfl rfl (Nat.le_of_ble_eq_true rfl) (Nat.le_of_ble_eq_true rfl)
  · skip
    refine e_iload_n 2 5 rfl rfl rfl rfl ?_
    refine e_aload_n 3 6 rfl rfl rfl rfl ?_
    refine g_getI 4 9 ckX10 flX10_9 rfl rfl hV.1.1 hV.1.2.2.1 rfl hlen ?_
    refine e_icmp_ge 5 30 12 rfl rfl rfl (by unfold xr; omega) (by unfold xr; omega) (fun h4 => ?_) (fun h4 => ?_)
    · skip
      rw [tok_big h4]
      refine e_iconst 16 31 rfl rfl ?_
      exact e_ireturn 17 rfl rfl (Nat.le_of_ble_eq_true rfl) (Nat.le_of_ble_eq_true rfl)
    · skip
      refine e_iload_n 6 13 rfl rfl rfl rfl ?_
      refine e_aload_n 7 14 rfl rfl rfl rfl ?_
      refine g_getR 8 17 ckX10 flX10_15 rfl rfl hV.1.1 hV.1.2.2.1 rfl ?_
      refine g_alen 9 18 rfl rfl hV.1.2.1 hV.1.2.2.2 (Nat.le_of_ble_eq_true rfl) ?_
      refine e_icmp_ge 10 30 21 rfl rfl rfl (by unfold xr; omega) (by unfold xr; omega) (fun h9 => absurd h9 (by omega)) (fun _ => ?_)
      refine e_aload_n 11 22 rfl rfl rfl rfl ?_
      refine g_getR 12 25 ckX10 flX10_15 rfl rfl hV.1.1 hV.1.2.2.1 rfl ?_
      refine e_iload_n 13 26 rfl rfl rfl rfl ?_
      refine g_iaload 14 27 rfl rfl hV.1.2.1 hV.1.2.2.2 (by omega) (by omega) (by omega) (hV.tok (by omega) h4) ?_
      refine e_goto 15 31 rfl rfl ?_
      exact e_ireturn 17 rfl rfl (Nat.le_of_ble_eq_true rfl) (Nat.le_of_ble_eq_true rfl)
