/-! ===== constructors: values, places, filters ===== -/
theorem sp_iVal {F : Nat → xShp} {σ : xSig} {a n : Nat} (hF : F a = .inr (.inr (10, [some (some (a + 1)), none]))) (hF1 : F (a + 1) = .inl (0, n)) (hz : ∀ j, σ a j = 0 ∧ σ (a + 1) j = 0) (hn : n ≤ 1000) : x_Sp MX10_init 1 n [.ref a, .int (ii n)] (Wd (a + 1) (xfs F a (.inr (.inr (10, fr10)))) σ) vv (Wd (a + 2) F σ) := by
  have ha : a < a + 1 := by omega
  have ha2 : a < a + 1 + 1 := by omega
  refine e_entry okX10_init (Nat.le_of_ble_eq_true rfl) (ls := [some _, some _]) rfl ?_
  refine e_aload_n 0 1 rfl rfl rfl rfl ?_
  refine w_objinit 1 4 olX10_3 oinst ocode rfl rfl (Nat.le_of_ble_eq_true rfl) (Nat.le_of_ble_eq_true rfl) (Nat.le_of_ble_eq_true rfl) ?_
  refine e_aload_n 2 5 rfl rfl rfl rfl ?_
  refine e_iconst 3 6 rfl rfl ?_
  refine w_put0 4 9 ckX10 flX10_9 rfl rfl ha (xfs_at _ _ _) rfl (hz _).1 ?_
  refine e_aload_n 5 10 rfl rfl rfl rfl ?_
  refine e_iload_n 6 11 rfl rfl rfl rfl ?_
  refine e_if_ge 7 18 14 rfl rfl rfl (by unfold xr at *; omega) (fun _ => ?_) (fun h9 => absurd h9 (by omega))
  refine e_iload_n 10 19 rfl rfl rfl rfl ?_
  refine w_newI 11 21 ar_int rfl rfl (fun _ _ => rfl) ((xfs_ne _ _ (by omega)).trans hF1) (fun j => (hz j).2) (by omega) (by omega) (by omega) ?_
  refine w_putR 12 24 ckX10 flX10_15 rfl rfl rfl (fun r h => by cases h; rfl) ha2 (Nat.le_of_ble_eq_true rfl) (fun _ => rfl) (fun _ => rfl) rfl ?_
  rw [show xfs F a (.inr (.inr (10, fr10.set 0 (some (some (a + 1)))))) = F from xfs_id hF]
  exact e_return 13 rfl rfl (by omega) (by omega)
theorem sp_iPla {F : Nat → xShp} {σ : xSig} {a : Nat} (hF : F a = .inr (.inr (6, [some (some (a + 1)), none]))) (hF1 : F (a + 1) = .inl (0, 24)) (hz : ∀ j, σ a j = 0 ∧ σ (a + 1) j = 0) : x_Sp MX6_init 1 24 [.ref a] (Wd (a + 1) (xfs F a (.inr (.inr (6, fr6)))) σ) vv (Wd (a + 2) F σ) := by
  have ha : a < a + 1 := by omega
  have ha2 : a < a + 1 + 1 := by omega
  refine e_entry okX6_init (Nat.le_of_ble_eq_true rfl) (ls := [some _]) rfl ?_
  refine e_aload_n 0 1 rfl rfl rfl rfl ?_
  refine w_objinit 1 4 olX6_3 oinst ocode rfl rfl (Nat.le_of_ble_eq_true rfl) (Nat.le_of_ble_eq_true rfl) (Nat.le_of_ble_eq_true rfl) ?_
  refine e_aload_n 2 5 rfl rfl rfl rfl ?_
  refine e_bipush 3 7 rfl rfl rfl ?_
  refine w_newI 4 9 (n := 24) ar_int rfl rfl (fun _ _ => rfl) ((xfs_ne _ _ (by omega)).trans hF1) (fun j => (hz j).2) (Nat.le_of_ble_eq_true rfl) (Nat.le_of_ble_eq_true rfl) (Nat.le_of_ble_eq_true rfl) ?_
  refine w_putR 5 12 ckX6 flX6_9 rfl rfl rfl (fun r h => by cases h; rfl) ha2 (Nat.le_of_ble_eq_true rfl) (fun _ => rfl) (fun _ => rfl) rfl ?_
  refine e_aload_n 6 13 rfl rfl rfl rfl ?_
  refine e_iconst 7 14 rfl rfl ?_
  refine w_put0 8 17 ckX6 flX6_15 rfl rfl ha2 (xfs_at _ _ _) rfl (hz _).1 ?_
  rw [show xfs F a (.inr (.inr (6, fr6.set 0 (some (some (a + 1)))))) = F from xfs_id hF]
  exact e_return 9 rfl rfl (Nat.le_of_ble_eq_true rfl) (Nat.le_of_ble_eq_true rfl)
theorem sp_iFil {F : Nat → xShp} {σ : xSig} {a : Nat} (hF : F a = .inr (.inr (2, [some (some (a + 1)), none, none]))) (hV : F (a + 1) = .inr (.inr (10, [some (some (a + 2)), none]))) (hA : F (a + 2) = .inl (0, 72)) (hz : ∀ b, a ≤ b → b ≤ a + 2 → ∀ j, σ b j = 0) : x_Sp MX2_init 2 74 [.ref a] (Wd (a + 1) (xfs F a (.inr (.inr (2, fr2)))) σ) vv (Wd (a + 3) F σ) := by
  have ha3 : a < a + 1 + 2 := by omega
  have c1 := sp_iVal (F := xfs F a (.inr (.inr (2, fr2)))) (σ := σ) (a := a + 1) (n := 72) ((xfs_ne _ _ (by omega)).trans hV) ((xfs_ne _ _ (by omega)).trans hA) (fun j => ⟨hz (a + 1) (by omega) (by omega) j, hz (a + 1 + 1) (by omega) (by omega) j⟩) (by omega)
  refine e_entry okX2_init (Nat.le_of_ble_eq_true rfl) (ls := [some _]) rfl ?_
  refine e_aload_n 0 1 rfl rfl rfl rfl ?_
  refine w_objinit 1 4 olX2_3 oinst ocode rfl rfl (Nat.le_of_ble_eq_true rfl) (Nat.le_of_ble_eq_true rfl) (Nat.le_of_ble_eq_true rfl) ?_
  refine e_aload_n 2 5 rfl rfl rfl rfl ?_
  refine w_new 3 8 (F2 := xfs (xfs F a (.inr (.inr (2, fr2)))) (a + 1) (.inr (.inr (10, fr10)))) tyX10 ckX10 rfl tyX10_ok clX2_9 inX10 izX10 rfl rfl (fun c hc => xfs_ne _ _ (by omega)) (xfs_at _ _ _) (hz _ (by omega) (by omega)) df10 (Nat.le_of_ble_eq_true rfl) (Nat.le_of_ble_eq_true rfl) ?_
  refine e_dup 4 9 rfl rfl rfl ?_
  refine e_bipush 5 11 rfl rfl rfl ?_
  refine e_callI 6 14 (c1) okX10_init ciX2_11 ⟨(Nat.le_of_ble_eq_true rfl), (Nat.le_of_ble_eq_true rfl)⟩ rfl rfl rfl rfl (Nat.le_of_ble_eq_true rfl) (Nat.le_of_ble_eq_true rfl) (Nat.le_of_ble_eq_true rfl) ?_
  refine w_putR 7 17 ckX2 flX2_14 rfl rfl rfl (fun r h => by cases h; rfl) ha3 (Nat.le_of_ble_eq_true rfl) (fun _ => rfl) (fun _ => rfl) rfl ?_
  refine e_aload_n 8 18 rfl rfl rfl rfl ?_
  refine e_iconst 9 19 rfl rfl ?_
  refine w_put0 10 22 ckX2 flX2_20 rfl rfl ha3 (xfs_at _ _ _) rfl (hz _ (by omega) (by omega) _) ?_
  refine e_aload_n 11 23 rfl rfl rfl rfl ?_
  refine e_iconst 12 24 rfl rfl ?_
  refine w_put0 13 27 ckX2 flX2_24 rfl rfl ha3 (xfs_at _ _ _) rfl (hz _ (by omega) (by omega) _) ?_
  rw [show xfs F a (.inr (.inr (2, fr2.set 0 (some (some (a + 1)))))) = F from xfs_id hF]
  exact e_return 14 rfl rfl (Nat.le_of_ble_eq_true rfl) (Nat.le_of_ble_eq_true rfl)
