/-! ===== dropPlan of the model ===== -/
/-- the plans from a place on, one place down -/
def dsh (s : xSig) (q m : Int) : xSig := fun b j => if (b = 292 ∨ b = 293 ∨ b = 294) ∧ q ≤ j ∧ j < m then s b (j + 1) else s b j
theorem dsh_lp {p m : Int} : ∀ (n : Nat) (q : Int) (s : xSig), q + n = m → 0 ≤ q → m < 512 → s 281 18 = m + 1 → ∀ {o : xO} {Y : xS}, x_E MX12_dropPlan 0 0 60 [some (.ref 281), some (.int (ii p)), some (.int (ii m))] [] (St (dsh s q m)) 0 0 o Y → x_E MX12_dropPlan 0 0 2 [some (.ref 281), some (.int (ii p)), some (.int (ii q))] [] (St s) 0 0 o Y := by
  intro n
  induction n with
  | zero =>
    intro q s hq h0 hm h18 o Y kk
    have e : dsh s q m = s := by
      funext b j
      unfold dsh
      rw [if_neg (by omega)]
    have eq : q = m := by omega
    rw [e, ← eq] at kk
    refine e_iload_n 2 3 rfl rfl rfl rfl ?_
    refine e_aload_n 3 4 rfl rfl rfl rfl ?_
    refine g_getI 4 7 18 ckX12 flX12_270 rfl rfl (Nat.le_of_ble_eq_true rfl) rfl rfl rfl h18 ?_
    refine e_iconst 5 8 rfl rfl ?_
    refine e_isub 6 9 rfl rfl ?_
    refine e_icmp_ge 7 60 12 rfl rfl rfl (by unfold xr at *; omega) (by unfold xr at *; omega) (fun _ => ?_) (fun h9 => absurd h9 (by omega))
    exact kk
  | succ n ih =>
    intro q s hq h0 hm h18 o Y kk
    have w1 : xu s 292 q (s 292 (q + 1)) 293 (q + 1) = s 293 (q + 1) := by rw [xu_other _ _ _ (by decide)]
    have w2 : xu (xu s 292 q (s 292 (q + 1))) 293 q (s 293 (q + 1)) 294 (q + 1) = s 294 (q + 1) := by rw [xu_other _ _ _ (by decide), xu_other _ _ _ (by decide)]
    have e : dsh (xu (xu (xu s 292 q (s 292 (q + 1))) 293 q (s 293 (q + 1))) 294 q (s 294 (q + 1))) (q + 1) m = dsh s q m := by
      funext b j
      unfold dsh xu
      by_cases hb : b = 292 ∨ b = 293 ∨ b = 294
      · rcases hb with rfl | rfl | rfl
        all_goals
          by_cases c1 : j = q
          · subst c1
            simp
            omega
          · simp [c1]
            by_cases c2 : q + 1 ≤ j ∧ j < m
            · rw [if_pos c2, if_neg (by omega), if_pos (by omega)]
            · rw [if_neg c2, if_neg (by omega)]
      · simp only [not_or] at hb
        simp [hb.1, hb.2.1, hb.2.2]
    have k18 : xu (xu (xu s 292 q (s 292 (q + 1))) 293 q (s 293 (q + 1))) 294 q (s 294 (q + 1)) 281 18 = m + 1 := by
      rw [xu_other _ _ _ (by decide), xu_other _ _ _ (by decide), xu_other _ _ _ (by decide)]; exact h18
    have k2 := ih (q + 1) _ (by omega) (by omega) hm k18 (by rw [e]; exact kk)
    refine e_iload_n 2 3 rfl rfl rfl rfl ?_
    refine e_aload_n 3 4 rfl rfl rfl rfl ?_
    refine g_getI 4 7 18 ckX12 flX12_270 rfl rfl (Nat.le_of_ble_eq_true rfl) rfl rfl rfl h18 ?_
    refine e_iconst 5 8 rfl rfl ?_
    refine e_isub 6 9 rfl rfl ?_
    refine e_icmp_ge 7 60 12 rfl rfl rfl (by unfold xr at *; omega) (by unfold xr at *; omega) (fun h9 => absurd h9 (by omega)) (fun _ => ?_)
    refine e_aload_n 8 13 rfl rfl rfl rfl ?_
    refine g_getR 9 16 ckX12 flX12_41 rfl rfl (Nat.le_of_ble_eq_true rfl) rfl rfl ?_
    refine e_iload_n 10 17 rfl rfl rfl rfl ?_
    refine e_aload_n 11 18 rfl rfl rfl rfl ?_
    refine g_getR 12 21 ckX12 flX12_41 rfl rfl (Nat.le_of_ble_eq_true rfl) rfl rfl ?_
    refine e_iload_n 13 22 rfl rfl rfl rfl ?_
    refine e_iconst 14 23 rfl rfl ?_
    refine e_iadd 15 24 rfl rfl ?_
    refine g_laload 16 25 rfl rfl (Nat.le_of_ble_eq_true rfl) rfl (by omega) (by omega) (by omega) rfl ?_
    refine g_lastore 17 26 rfl rfl (Nat.le_of_ble_eq_true rfl) rfl (by omega) (by omega) (by omega) ?_
    refine e_aload_n 18 27 rfl rfl rfl rfl ?_
    refine g_getR 19 30 ckX12 flX12_45 rfl rfl (Nat.le_of_ble_eq_true rfl) rfl rfl ?_
    refine e_iload_n 20 31 rfl rfl rfl rfl ?_
    refine e_aload_n 21 32 rfl rfl rfl rfl ?_
    refine g_getR 22 35 ckX12 flX12_45 rfl rfl (Nat.le_of_ble_eq_true rfl) rfl rfl ?_
    refine e_iload_n 23 36 rfl rfl rfl rfl ?_
    refine e_iconst 24 37 rfl rfl ?_
    refine e_iadd 25 38 rfl rfl ?_
    refine g_iaload 26 39 rfl rfl (Nat.le_of_ble_eq_true rfl) rfl (by omega) (by omega) (by omega) w1 ?_
    refine g_iastore 27 40 rfl rfl (Nat.le_of_ble_eq_true rfl) rfl (by omega) (by omega) (by omega) ?_
    refine e_aload_n 28 41 rfl rfl rfl rfl ?_
    refine g_getR 29 44 ckX12 flX12_48 rfl rfl (Nat.le_of_ble_eq_true rfl) rfl rfl ?_
    refine e_iload_n 30 45 rfl rfl rfl rfl ?_
    refine e_aload_n 31 46 rfl rfl rfl rfl ?_
    refine g_getR 32 49 ckX12 flX12_48 rfl rfl (Nat.le_of_ble_eq_true rfl) rfl rfl ?_
    refine e_iload_n 33 50 rfl rfl rfl rfl ?_
    refine e_iconst 34 51 rfl rfl ?_
    refine e_iadd 35 52 rfl rfl ?_
    refine g_iaload 36 53 rfl rfl (Nat.le_of_ble_eq_true rfl) rfl (by omega) (by omega) (by omega) w2 ?_
    refine g_iastore 37 54 rfl rfl (Nat.le_of_ble_eq_true rfl) rfl (by omega) (by omega) (by omega) ?_
    refine e_iinc 38 57 (ls' := [some _, some _, some _]) rfl rfl (Nat.le_of_ble_eq_true rfl) rfl rfl ?_
    refine e_goto 39 2 rfl rfl ?_
    exact k2
theorem dsh_f (s : xSig) (q m : Int) : FP [(292, -1), (293, -1), (294, -1)] s (dsh s q m) := fun b j h => by
  unfold dsh
  rw [if_neg]
  rintro ⟨h2, -⟩
  rcases h2 with rfl | rfl | rfl <;> simp [inP] at h
theorem sp_mDropPlan {s : xSig} {p : Int} (h0 : 0 ≤ p) (hp : p < s 281 18) (hm : s 281 18 ≤ 512) : x_Sp MX12_dropPlan 0 0 [.ref 281, .int (ii p)] (St s) vv (St (xu (dsh s p (s 281 18 - 1)) 281 18 (s 281 18 - 1))) := by
  obtain ⟨n, hn⟩ := Int.eq_ofNat_of_zero_le (show 0 ≤ s 281 18 - 1 - p by omega)
  have e : dsh s p (s 281 18 - 1) 281 18 = s 281 18 := dsh_f _ _ _ 281 18 rfl
  have k60 : x_E MX12_dropPlan 0 0 60 [some (.ref 281), some (.int (ii p)), some (.int (ii (s 281 18 - 1)))] [] (St (dsh s p (s 281 18 - 1))) 0 0 vv (St (xu (dsh s p (s 281 18 - 1)) 281 18 (s 281 18 - 1))) := by
    refine e_aload_n 40 61 rfl rfl rfl rfl ?_
    refine e_dup 41 62 rfl rfl rfl ?_
    refine g_getI 42 65 18 ckX12 flX12_270 rfl rfl (Nat.le_of_ble_eq_true rfl) rfl rfl rfl e ?_
    refine e_iconst 43 66 rfl rfl ?_
    refine e_isub 44 67 rfl rfl ?_
    refine g_putI 45 70 18 ckX12 flX12_270 rfl rfl (Nat.le_of_ble_eq_true rfl) rfl rfl rfl ?_
    exact e_return 46 rfl rfl (Nat.le_of_ble_eq_true rfl) (Nat.le_of_ble_eq_true rfl)
  have k := dsh_lp (p := p) (m := s 281 18 - 1) n p s (by omega) h0 (by omega) (by omega) k60
  refine e_entry okX12_dropPlan (Nat.le_of_ble_eq_true rfl) (ls := [some _, some _, none]) rfl ?_
  refine e_iload_n 0 1 rfl rfl rfl rfl ?_
  refine e_istore_n 1 2 (ls' := [some _, some _, some _]) rfl rfl rfl (Nat.le_of_ble_eq_true rfl) rfl ?_
  exact k
theorem dsh_pl {s : xSig} {p : Nat} (hp : (p : Int) < s 281 18) : plM (xu (dsh s p (s 281 18 - 1)) 281 18 (s 281 18 - 1)) = (plM s).eraseIdx p := by
  obtain ⟨n, hn⟩ := Int.eq_ofNat_of_zero_le (show 0 ≤ s 281 18 - 1 by omega)
  have hN : (s 281 18).toNat = n + 1 := by omega
  refine List.ext_getElem? fun j => ?_
  rw [List.getElem?_eraseIdx]
  unfold plM
  rw [xu_same, hn, hN]
  simp only [List.getElem?_map, List.getElem?_range, Int.toNat_natCast]
  have v : ∀ b : Nat, (b = 292 ∨ b = 293 ∨ b = 294) → ∀ j : Int, xu (dsh s p n) 281 18 n b j = if p ≤ j ∧ j < n then s b (j + 1) else s b j := fun b hb j => by
    rw [xu_other _ _ _ (by omega)]
    unfold dsh
    by_cases c : (p : Int) ≤ j ∧ j < n
    · rw [if_pos ⟨hb, c⟩, if_pos c]
    · rw [if_neg (fun q => c q.2), if_neg c]
  by_cases c1 : j < p
  · rw [if_pos c1]
    rw [List.getElem?_range (by omega), List.getElem?_range (by omega)]
    simp only [Option.map_some]
    rw [v 292 (by omega), v 293 (by omega), v 294 (by omega), if_neg (by omega), if_neg (by omega), if_neg (by omega)]
  · rw [if_neg c1]
    by_cases c2 : j < n
    · rw [List.getElem?_range c2, List.getElem?_range (by omega)]
      simp only [Option.map_some]
      rw [v 292 (by omega), v 293 (by omega), v 294 (by omega), if_pos (by omega), if_pos (by omega), if_pos (by omega)]
      rfl
    · rw [List.getElem?_eq_none (by simp; omega), List.getElem?_eq_none (by simp; omega)]
      rfl
