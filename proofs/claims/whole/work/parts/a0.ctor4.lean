/-! ===== constructors: the class and the model ===== -/
theorem chI_o (σ : xSig) {b : Nat} (h : b < 231 ∨ 236 < b) : chI σ b = σ b := by
  unfold chI
  rw [xu_other _ _ _ (by omega), xu_other _ _ _ (by omega), bgc_o _ (by omega), xu_other _ _ _ (by omega), xu_other _ _ _ (by omega), xu_other _ _ _ (by omega)]
theorem ixI_o (σ : xSig) {b : Nat} (h : b ≠ 249) : ixI σ b = σ b := by
  unfold ixI
  rw [xu_other _ _ _ h, xu_other _ _ _ h, xu_other _ _ _ h]
def shI (σ : xSig) : xSig := xu (quI (ixI (chI σ))) 0 8 (-1)
theorem sp_iShard {σ : xSig} (hz : ∀ b, b < 281 → ∀ j, σ b j = 0) : x_Sp MX11_init 280 21135 [.ref 0] (Wd 1 (xfs SH 0 (.inr (.inr (11, fr11)))) σ) vv (Wd 281 SH (shI σ)) := by
  unfold shI
  have za : ∀ b, 236 < b → b < 281 → ∀ j, chI σ b j = 0 := fun b b1 b2 j => by rw [chI_o _ (by omega)]; exact hz b b2 j
  have zb : ∀ b, 249 < b → b < 281 → ∀ j, ixI (chI σ) b j = 0 := fun b b1 b2 j => by rw [ixI_o _ (by omega)]; exact za b (by omega) b2 j
  have zc : ∀ b, 256 < b → b < 281 → ∀ j, quI (ixI (chI σ)) b j = 0 := fun b b1 b2 j => by unfold quI; rw [xu_other _ _ _ (by omega)]; exact zb b (by omega) b2 j
  have z9 : xu (quI (ixI (chI σ))) 0 8 (-1) 0 9 = 0 := by
    rw [xu_ne _ (Or.inr (by decide))]
    unfold quI
    rw [xu_other _ _ _ (by decide), ixI_o _ (by decide), chI_o _ (by decide)]
    exact hz 0 (by decide) 9
  have c1 := fun P => sp_iPile (F := xfs SH 0 P) (σ := σ) (fun b b1 b2 => xfs_ne _ _ (by omega)) (fun b _ b2 => hz b (by omega))
  have c2 := fun P => sp_iStore (F := xfs SH 0 P) (σ := σ) (fun b b1 b2 => xfs_ne _ _ (by omega)) (fun b _ b2 => hz b (by omega))
  have c3 := fun P => sp_iChart (F := xfs SH 0 P) (σ := σ) (fun b b1 b2 => xfs_ne _ _ (by omega)) (fun b _ b2 => hz b (by omega))
  have c4 := fun P => sp_iStream (F := xfs SH 0 P) (σ := chI σ) (fun b b1 b2 => xfs_ne _ _ (by omega)) (fun b b1 b2 => za b (by omega) (by omega))
  have c5 := fun P => sp_iEditor (F := xfs SH 0 P) (σ := chI σ) (fun b b1 b2 => xfs_ne _ _ (by omega)) (fun b b1 b2 => za b (by omega) (by omega))
  have c6 := fun P => sp_iIndexes (F := xfs SH 0 P) (σ := chI σ) (fun b b1 b2 => xfs_ne _ _ (by omega)) (fun b b1 b2 => za b (by omega) (by omega))
  have c7 := fun P => sp_iQuery (F := xfs SH 0 P) (σ := ixI (chI σ)) (fun b b1 b2 => xfs_ne _ _ (by omega)) (fun b b1 b2 => zb b (by omega) (by omega))
  have c8 := fun P => sp_iGroups (F := xfs SH 0 P) (σ := quI (ixI (chI σ))) (fun b b1 b2 => xfs_ne _ _ (by omega)) (fun b b1 b2 => zc b (by omega) (by omega))
  refine e_entry okX11_init (Nat.le_of_ble_eq_true rfl) (ls := [some _]) rfl ?_
  refine e_aload_n 0 1 rfl rfl rfl rfl ?_
  refine w_objinit 1 4 olX11_3 oinst ocode rfl rfl (Nat.le_of_ble_eq_true rfl) (Nat.le_of_ble_eq_true rfl) (Nat.le_of_ble_eq_true rfl) ?_
  refine e_aload_n 2 5 rfl rfl rfl rfl ?_
  refine w_new 3 8 (F2 := xfs _ 1 (.inr (.inr (5, fr5)))) tyX5 ckX5 rfl tyX5_ok clX11_9 inX5 izX5 rfl rfl (fun c hc => xfs_ne _ _ (by omega)) (xfs_at _ _ _) (hz _ (by decide)) df5 (Nat.le_of_ble_eq_true rfl) (Nat.le_of_ble_eq_true rfl) ?_
  refine e_dup 4 9 rfl rfl rfl ?_
  refine e_callI 5 12 (c1 _) okX5_init ciX11_11 ⟨(Nat.le_of_ble_eq_true rfl), (Nat.le_of_ble_eq_true rfl)⟩ rfl rfl rfl rfl (Nat.le_of_ble_eq_true rfl) (Nat.le_of_ble_eq_true rfl) (Nat.le_of_ble_eq_true rfl) ?_
  refine w_putR 6 15 ckX11 flX11_12 rfl rfl rfl (fun r h => by cases h; rfl) (Nat.le_of_ble_eq_true rfl) (Nat.le_of_ble_eq_true rfl) (fun _ => rfl) (fun _ => rfl) rfl ?_
  refine e_aload_n 7 16 rfl rfl rfl rfl ?_
  refine w_new 8 19 (F2 := xfs _ 25 (.inr (.inr (8, fr8)))) tyX8 ckX8 rfl tyX8_ok clX11_16 inX8 izX8 rfl rfl (fun c hc => xfs_ne _ _ (by omega)) (xfs_at _ _ _) (hz _ (by decide)) df8 (Nat.le_of_ble_eq_true rfl) (Nat.le_of_ble_eq_true rfl) ?_
  refine e_dup 9 20 rfl rfl rfl ?_
  refine e_callI 10 23 (c2 _) okX8_init ciX11_18 ⟨(Nat.le_of_ble_eq_true rfl), (Nat.le_of_ble_eq_true rfl)⟩ rfl rfl rfl rfl (Nat.le_of_ble_eq_true rfl) (Nat.le_of_ble_eq_true rfl) (Nat.le_of_ble_eq_true rfl) ?_
  refine w_putR 11 26 ckX11 flX11_19 rfl rfl rfl (fun r h => by cases h; rfl) (Nat.le_of_ble_eq_true rfl) (Nat.le_of_ble_eq_true rfl) (fun _ => rfl) (fun _ => rfl) rfl ?_
  refine e_aload_n 12 27 rfl rfl rfl rfl ?_
  refine w_new 13 30 (F2 := xfs _ 231 (.inr (.inr (0, fr0)))) tyX0 ckX0 rfl tyX0_ok clX11_23 inX0 izX0 rfl rfl (fun c hc => xfs_ne _ _ (by omega)) (xfs_at _ _ _) (hz _ (by decide)) df0 (Nat.le_of_ble_eq_true rfl) (Nat.le_of_ble_eq_true rfl) ?_
  refine e_dup 14 31 rfl rfl rfl ?_
  refine e_callI 15 34 (c3 _) okX0_init ciX11_25 ⟨(Nat.le_of_ble_eq_true rfl), (Nat.le_of_ble_eq_true rfl)⟩ rfl rfl rfl rfl (Nat.le_of_ble_eq_true rfl) (Nat.le_of_ble_eq_true rfl) (Nat.le_of_ble_eq_true rfl) ?_
  refine w_putR 16 37 ckX11 flX11_26 rfl rfl rfl (fun r h => by cases h; rfl) (Nat.le_of_ble_eq_true rfl) (Nat.le_of_ble_eq_true rfl) (fun _ => rfl) (fun _ => rfl) rfl ?_
  refine e_aload_n 17 38 rfl rfl rfl rfl ?_
  refine w_new 18 41 (F2 := xfs _ 239 (.inr (.inr (9, fr9)))) tyX9 ckX9 rfl tyX9_ok clX11_30 inX9 izX9 rfl rfl (fun c hc => xfs_ne _ _ (by omega)) (xfs_at _ _ _) (za _ (by decide) (by decide)) df9 (Nat.le_of_ble_eq_true rfl) (Nat.le_of_ble_eq_true rfl) ?_
  refine e_dup 19 42 rfl rfl rfl ?_
  refine e_callIN 20 45 (c4 _) okX9_init ciX11_32 ⟨(Nat.le_of_ble_eq_true rfl), (Nat.le_of_ble_eq_true rfl)⟩ rfl rfl rfl rfl (Nat.le_of_ble_eq_true rfl) (Nat.le_of_ble_eq_true rfl) (Nat.le_of_ble_eq_true rfl) ?_
  refine w_putR 21 48 ckX11 flX11_33 rfl rfl rfl (fun r h => by cases h; rfl) (Nat.le_of_ble_eq_true rfl) (Nat.le_of_ble_eq_true rfl) (fun _ => rfl) (fun _ => rfl) rfl ?_
  refine e_aload_n 22 49 rfl rfl rfl rfl ?_
  refine w_new 23 52 (F2 := xfs _ 243 (.inr (.inr (1, fr1)))) tyX1 ckX1 rfl tyX1_ok clX11_37 inX1 izX1 rfl rfl (fun c hc => xfs_ne _ _ (by omega)) (xfs_at _ _ _) (za _ (by decide) (by decide)) df1 (Nat.le_of_ble_eq_true rfl) (Nat.le_of_ble_eq_true rfl) ?_
  refine e_dup 24 53 rfl rfl rfl ?_
  refine e_callIN 25 56 (c5 _) okX1_init ciX11_39 ⟨(Nat.le_of_ble_eq_true rfl), (Nat.le_of_ble_eq_true rfl)⟩ rfl rfl rfl rfl (Nat.le_of_ble_eq_true rfl) (Nat.le_of_ble_eq_true rfl) (Nat.le_of_ble_eq_true rfl) ?_
  refine w_putR 26 59 ckX11 flX11_40 rfl rfl rfl (fun r h => by cases h; rfl) (Nat.le_of_ble_eq_true rfl) (Nat.le_of_ble_eq_true rfl) (fun _ => rfl) (fun _ => rfl) rfl ?_
  refine e_aload_n 27 60 rfl rfl rfl rfl ?_
  refine w_new 28 63 (F2 := xfs _ 248 (.inr (.inr (4, fr4)))) tyX4 ckX4 rfl tyX4_ok clX11_44 inX4 izX4 rfl rfl (fun c hc => xfs_ne _ _ (by omega)) (xfs_at _ _ _) (za _ (by decide) (by decide)) df4 (Nat.le_of_ble_eq_true rfl) (Nat.le_of_ble_eq_true rfl) ?_
  refine e_dup 29 64 rfl rfl rfl ?_
  refine e_callI 30 67 (c6 _) okX4_init ciX11_46 ⟨(Nat.le_of_ble_eq_true rfl), (Nat.le_of_ble_eq_true rfl)⟩ rfl rfl rfl rfl (Nat.le_of_ble_eq_true rfl) (Nat.le_of_ble_eq_true rfl) (Nat.le_of_ble_eq_true rfl) ?_
  refine w_putR 31 70 ckX11 flX11_47 rfl rfl rfl (fun r h => by cases h; rfl) (Nat.le_of_ble_eq_true rfl) (Nat.le_of_ble_eq_true rfl) (fun _ => rfl) (fun _ => rfl) rfl ?_
  refine e_aload_n 32 71 rfl rfl rfl rfl ?_
  refine w_new 33 74 (F2 := xfs _ 256 (.inr (.inr (7, fr7)))) tyX7 ckX7 rfl tyX7_ok clX11_51 inX7 izX7 rfl rfl (fun c hc => xfs_ne _ _ (by omega)) (xfs_at _ _ _) (zb _ (by decide) (by decide)) df7 (Nat.le_of_ble_eq_true rfl) (Nat.le_of_ble_eq_true rfl) ?_
  refine e_dup 34 75 rfl rfl rfl ?_
  refine e_callI 35 78 (c7 _) okX7_init ciX11_53 ⟨(Nat.le_of_ble_eq_true rfl), (Nat.le_of_ble_eq_true rfl)⟩ rfl rfl rfl rfl (Nat.le_of_ble_eq_true rfl) (Nat.le_of_ble_eq_true rfl) (Nat.le_of_ble_eq_true rfl) ?_
  refine w_putR 36 81 ckX11 flX11_54 rfl rfl rfl (fun r h => by cases h; rfl) (Nat.le_of_ble_eq_true rfl) (Nat.le_of_ble_eq_true rfl) (fun _ => rfl) (fun _ => rfl) rfl ?_
  refine e_aload_n 37 82 rfl rfl rfl rfl ?_
  refine w_new 38 85 (F2 := xfs _ 273 (.inr (.inr (3, fr3)))) tyX3 ckX3 rfl tyX3_ok clX11_58 inX3 izX3 rfl rfl (fun c hc => xfs_ne _ _ (by omega)) (xfs_at _ _ _) (zc _ (by decide) (by decide)) df3 (Nat.le_of_ble_eq_true rfl) (Nat.le_of_ble_eq_true rfl) ?_
  refine e_dup 39 86 rfl rfl rfl ?_
  refine e_callIN 40 89 (c8 _) okX3_init ciX11_60 ⟨(Nat.le_of_ble_eq_true rfl), (Nat.le_of_ble_eq_true rfl)⟩ rfl rfl rfl rfl (Nat.le_of_ble_eq_true rfl) (Nat.le_of_ble_eq_true rfl) (Nat.le_of_ble_eq_true rfl) ?_
  refine w_putR 41 92 ckX11 flX11_61 rfl rfl rfl (fun r h => by cases h; rfl) (Nat.le_of_ble_eq_true rfl) (Nat.le_of_ble_eq_true rfl) (fun _ => rfl) (fun _ => rfl) rfl ?_
  refine w_fold rfl ?_
  refine e_aload_n 42 93 rfl rfl rfl rfl ?_
  refine e_iconst 43 94 rfl rfl ?_
  refine w_putI 44 97 8 ckX11 flX11_65 rfl rfl (Nat.le_of_ble_eq_true rfl) rfl rfl rfl ?_
  refine e_aload_n 45 98 rfl rfl rfl rfl ?_
  refine e_iconst 46 99 rfl rfl ?_
  refine w_put0 47 102 ckX11 flX11_69 rfl rfl (Nat.le_of_ble_eq_true rfl) rfl rfl z9 ?_
  exact e_return 48 rfl rfl (Nat.le_of_ble_eq_true rfl) (Nat.le_of_ble_eq_true rfl)
theorem sp_wAnew {N : Nat} {F : Nat → xShp} {σ : xSig} (hN : 313 ≤ N) (hF : ∀ b, 281 ≤ b → b < 313 → F b = SH b) : x_Sp MX12_chunksAnew 0 0 [.ref 281] (Wd N F σ) vv (Wd N F (mbg σ)) := by
  unfold mbg
  refine e_entry okX12_chunksAnew (Nat.le_of_ble_eq_true rfl) (ls := [some _, none]) rfl ?_
  refine e_aload_n 0 1 rfl rfl rfl rfl ?_
  refine e_iconst 1 2 rfl rfl ?_
  refine w_putI 2 5 24 ckX12 flX12_200 rfl rfl (by omega) (hF _ (by decide) (by decide)) rfl rfl ?_
  refine e_iconst 3 6 rfl rfl ?_
  refine e_istore_n 4 7 (ls' := [some _, some _]) rfl rfl rfl (Nat.le_of_ble_eq_true rfl) rfl ?_
  refine e_iload_n 5 8 rfl rfl rfl rfl ?_
  refine e_iconst 6 9 rfl rfl ?_
  refine e_icmp_ge 7 53 12 rfl rfl rfl (by unfold xr at *; omega) (by unfold xr at *; omega) (fun h9 => absurd h9 (by omega)) (fun _ => ?_)
  refine e_aload_n 8 13 rfl rfl rfl rfl ?_
  refine w_getR 9 16 ckX12 flX12_57 rfl rfl (by omega) (hF _ (by decide) (by decide)) rfl ?_
  refine e_iload_n 10 17 rfl rfl rfl rfl ?_
  refine e_iload_n 11 18 rfl rfl rfl rfl ?_
  refine e_if_ne 12 25 21 rfl rfl rfl (by unfold xr at *; omega) (fun h9 => absurd h9 (by omega)) (fun _ => ?_)
  refine e_iconst 13 22 rfl rfl ?_
  refine e_goto 14 32 rfl rfl ?_
  refine w_iastore 20 33 rfl rfl (by omega) (hF _ (by decide) (by decide)) (by omega) (by omega) (by omega) ?_
  refine e_aload_n 21 34 rfl rfl rfl rfl ?_
  refine w_getR 22 37 ckX12 flX12_60 rfl rfl (by omega) (hF _ (by decide) (by decide)) rfl ?_
  refine e_iload_n 23 38 rfl rfl rfl rfl ?_
  refine e_iload_n 24 39 rfl rfl rfl rfl ?_
  refine w_iastore 25 40 rfl rfl (by omega) (hF _ (by decide) (by decide)) (by omega) (by omega) (by omega) ?_
  refine e_aload_n 26 41 rfl rfl rfl rfl ?_
  refine w_getR 27 44 ckX12 flX12_70 rfl rfl (by omega) (hF _ (by decide) (by decide)) rfl ?_
  refine e_iload_n 28 45 rfl rfl rfl rfl ?_
  refine e_iconst 29 46 rfl rfl ?_
  refine w_iastore 30 47 rfl rfl (by omega) (hF _ (by decide) (by decide)) (by omega) (by omega) (by omega) ?_
  refine e_iinc 31 50 (ls' := [some _, some _]) rfl rfl (Nat.le_of_ble_eq_true rfl) rfl rfl ?_
  refine e_goto 32 7 rfl rfl ?_
  refine e_iload_n 5 8 rfl rfl rfl rfl ?_
  refine e_iconst 6 9 rfl rfl ?_
  refine e_icmp_ge 7 53 12 rfl rfl rfl (by unfold xr at *; omega) (by unfold xr at *; omega) (fun h9 => absurd h9 (by omega)) (fun _ => ?_)
  refine e_aload_n 8 13 rfl rfl rfl rfl ?_
  refine w_getR 9 16 ckX12 flX12_57 rfl rfl (by omega) (hF _ (by decide) (by decide)) rfl ?_
  refine e_iload_n 10 17 rfl rfl rfl rfl ?_
  refine e_iload_n 11 18 rfl rfl rfl rfl ?_
  refine e_if_ne 12 25 21 rfl rfl rfl (by unfold xr at *; omega) (fun _ => ?_) (fun h9 => absurd h9 (by omega))
  refine e_sipush 15 28 rfl rfl rfl ?_
  refine e_iload_n 16 29 rfl rfl rfl rfl ?_
  refine e_imul 17 30 rfl rfl ?_
  refine e_iconst 18 31 rfl rfl ?_
  refine e_iadd 19 32 rfl rfl ?_
  refine w_iastore 20 33 rfl rfl (by omega) (hF _ (by decide) (by decide)) (by omega) (by omega) (by omega) ?_
  refine e_aload_n 21 34 rfl rfl rfl rfl ?_
  refine w_getR 22 37 ckX12 flX12_60 rfl rfl (by omega) (hF _ (by decide) (by decide)) rfl ?_
  refine e_iload_n 23 38 rfl rfl rfl rfl ?_
  refine e_iload_n 24 39 rfl rfl rfl rfl ?_
  refine w_iastore 25 40 rfl rfl (by omega) (hF _ (by decide) (by decide)) (by omega) (by omega) (by omega) ?_
  refine e_aload_n 26 41 rfl rfl rfl rfl ?_
  refine w_getR 27 44 ckX12 flX12_70 rfl rfl (by omega) (hF _ (by decide) (by decide)) rfl ?_
  refine e_iload_n 28 45 rfl rfl rfl rfl ?_
  refine e_iconst 29 46 rfl rfl ?_
  refine w_iastore 30 47 rfl rfl (by omega) (hF _ (by decide) (by decide)) (by omega) (by omega) (by omega) ?_
  refine e_iinc 31 50 (ls' := [some _, some _]) rfl rfl (Nat.le_of_ble_eq_true rfl) rfl rfl ?_
  refine e_goto 32 7 rfl rfl ?_
  refine e_iload_n 5 8 rfl rfl rfl rfl ?_
  refine e_iconst 6 9 rfl rfl ?_
  refine e_icmp_ge 7 53 12 rfl rfl rfl (by unfold xr at *; omega) (by unfold xr at *; omega) (fun h9 => absurd h9 (by omega)) (fun _ => ?_)
  refine e_aload_n 8 13 rfl rfl rfl rfl ?_
  refine w_getR 9 16 ckX12 flX12_57 rfl rfl (by omega) (hF _ (by decide) (by decide)) rfl ?_
  refine e_iload_n 10 17 rfl rfl rfl rfl ?_
  refine e_iload_n 11 18 rfl rfl rfl rfl ?_
  refine e_if_ne 12 25 21 rfl rfl rfl (by unfold xr at *; omega) (fun _ => ?_) (fun h9 => absurd h9 (by omega))
  refine e_sipush 15 28 rfl rfl rfl ?_
  refine e_iload_n 16 29 rfl rfl rfl rfl ?_
  refine e_imul 17 30 rfl rfl ?_
  refine e_iconst 18 31 rfl rfl ?_
  refine e_iadd 19 32 rfl rfl ?_
  refine w_iastore 20 33 rfl rfl (by omega) (hF _ (by decide) (by decide)) (by omega) (by omega) (by omega) ?_
  refine e_aload_n 21 34 rfl rfl rfl rfl ?_
  refine w_getR 22 37 ckX12 flX12_60 rfl rfl (by omega) (hF _ (by decide) (by decide)) rfl ?_
  refine e_iload_n 23 38 rfl rfl rfl rfl ?_
  refine e_iload_n 24 39 rfl rfl rfl rfl ?_
  refine w_iastore 25 40 rfl rfl (by omega) (hF _ (by decide) (by decide)) (by omega) (by omega) (by omega) ?_
  refine e_aload_n 26 41 rfl rfl rfl rfl ?_
  refine w_getR 27 44 ckX12 flX12_70 rfl rfl (by omega) (hF _ (by decide) (by decide)) rfl ?_
  refine e_iload_n 28 45 rfl rfl rfl rfl ?_
  refine e_iconst 29 46 rfl rfl ?_
  refine w_iastore 30 47 rfl rfl (by omega) (hF _ (by decide) (by decide)) (by omega) (by omega) (by omega) ?_
  refine e_iinc 31 50 (ls' := [some _, some _]) rfl rfl (Nat.le_of_ble_eq_true rfl) rfl rfl ?_
  refine e_goto 32 7 rfl rfl ?_
  refine e_iload_n 5 8 rfl rfl rfl rfl ?_
  refine e_iconst 6 9 rfl rfl ?_
  refine e_icmp_ge 7 53 12 rfl rfl rfl (by unfold xr at *; omega) (by unfold xr at *; omega) (fun _ => ?_) (fun h9 => absurd h9 (by omega))
  exact e_return 33 rfl rfl (Nat.le_of_ble_eq_true rfl) (Nat.le_of_ble_eq_true rfl)
def mI0 (σ : xSig) : xSig := xu (xu (xu (xu (xu (xu (xu (xu (xu σ 295 0 (-1)) 295 1 0) 295 2 0) 295 3 0) 281 25 (-1)) 281 31 1) 301 0 1) 301 1 1) 281 38 (-1)
def mI (σ : xSig) : xSig := mbg (mI0 σ)
theorem sp_iModel {σ : xSig} (hz : ∀ b, 281 ≤ b → b < 313 → ∀ j, σ b j = 0) : x_Sp MX12_init 31 93719 [.ref 281] (Wd 282 (xfs SH 281 (.inr (.inr (12, fr12)))) σ) vv (Wd 313 SH (mI σ)) := by
  unfold mI
  have ca := sp_wAnew (N := 313) (F := SH) (σ := mI0 σ) (by omega) (fun b _ _ => rfl)
  unfold mI0 at ca ⊢
  refine e_entry okX12_init (Nat.le_of_ble_eq_true rfl) (ls := [some _]) rfl ?_
  refine e_aload_n 0 1 rfl rfl rfl rfl ?_
  refine w_objinit 1 4 olX12_1 oinst ocode rfl rfl (Nat.le_of_ble_eq_true rfl) (Nat.le_of_ble_eq_true rfl) (Nat.le_of_ble_eq_true rfl) ?_
  refine e_aload_n 2 5 rfl rfl rfl rfl ?_
  refine e_sipush 3 8 rfl rfl rfl ?_
  refine w_newI 4 10 (n := 11300) ar_int rfl rfl (fun _ _ => rfl) ((xfs_ne _ _ (by decide)).trans rfl) (hz _ (by decide) (by decide)) (Nat.le_of_ble_eq_true rfl) (Nat.le_of_ble_eq_true rfl) (Nat.le_of_ble_eq_true rfl) ?_
  refine w_putR 5 13 ckX12 flX12_7 rfl rfl rfl (fun r h => by cases h; rfl) (Nat.le_of_ble_eq_true rfl) (Nat.le_of_ble_eq_true rfl) (fun _ => rfl) (fun _ => rfl) rfl ?_
  refine e_aload_n 6 14 rfl rfl rfl rfl ?_
  refine e_bipush 7 16 rfl rfl rfl ?_
  refine w_newZ 8 18 (n := 100) ar_boolean rfl rfl (fun _ _ => rfl) ((xfs_ne _ _ (by decide)).trans rfl) (hz _ (by decide) (by decide)) (Nat.le_of_ble_eq_true rfl) (Nat.le_of_ble_eq_true rfl) (Nat.le_of_ble_eq_true rfl) ?_
  refine w_putR 9 21 ckX12 flX12_13 rfl rfl rfl (fun r h => by cases h; rfl) (Nat.le_of_ble_eq_true rfl) (Nat.le_of_ble_eq_true rfl) (fun _ => rfl) (fun _ => rfl) rfl ?_
  refine e_aload_n 10 22 rfl rfl rfl rfl ?_
  refine e_sipush 11 25 rfl rfl rfl ?_
  refine w_newI 12 27 (n := 400) ar_int rfl rfl (fun _ _ => rfl) ((xfs_ne _ _ (by decide)).trans rfl) (hz _ (by decide) (by decide)) (Nat.le_of_ble_eq_true rfl) (Nat.le_of_ble_eq_true rfl) (Nat.le_of_ble_eq_true rfl) ?_
  refine w_putR 13 30 ckX12 flX12_17 rfl rfl rfl (fun r h => by cases h; rfl) (Nat.le_of_ble_eq_true rfl) (Nat.le_of_ble_eq_true rfl) (fun _ => rfl) (fun _ => rfl) rfl ?_
  refine e_aload_n 14 31 rfl rfl rfl rfl ?_
  refine e_sipush 15 34 rfl rfl rfl ?_
  refine w_newI 16 36 (n := 400) ar_int rfl rfl (fun _ _ => rfl) ((xfs_ne _ _ (by decide)).trans rfl) (hz _ (by decide) (by decide)) (Nat.le_of_ble_eq_true rfl) (Nat.le_of_ble_eq_true rfl) (Nat.le_of_ble_eq_true rfl) ?_
  refine w_putR 17 39 ckX12 flX12_20 rfl rfl rfl (fun r h => by cases h; rfl) (Nat.le_of_ble_eq_true rfl) (Nat.le_of_ble_eq_true rfl) (fun _ => rfl) (fun _ => rfl) rfl ?_
  refine e_aload_n 18 40 rfl rfl rfl rfl ?_
  refine e_bipush 19 42 rfl rfl rfl ?_
  refine w_newI 20 44 (n := 8) ar_int rfl rfl (fun _ _ => rfl) ((xfs_ne _ _ (by decide)).trans rfl) (hz _ (by decide) (by decide)) (Nat.le_of_ble_eq_true rfl) (Nat.le_of_ble_eq_true rfl) (Nat.le_of_ble_eq_true rfl) ?_
  refine w_putR 21 47 ckX12 flX12_23 rfl rfl rfl (fun r h => by cases h; rfl) (Nat.le_of_ble_eq_true rfl) (Nat.le_of_ble_eq_true rfl) (fun _ => rfl) (fun _ => rfl) rfl ?_
  refine e_aload_n 22 48 rfl rfl rfl rfl ?_
  refine e_iconst 23 49 rfl rfl ?_
  refine w_newI 24 51 (n := 3) ar_int rfl rfl (fun _ _ => rfl) ((xfs_ne _ _ (by decide)).trans rfl) (hz _ (by decide) (by decide)) (Nat.le_of_ble_eq_true rfl) (Nat.le_of_ble_eq_true rfl) (Nat.le_of_ble_eq_true rfl) ?_
  refine w_putR 25 54 ckX12 flX12_26 rfl rfl rfl (fun r h => by cases h; rfl) (Nat.le_of_ble_eq_true rfl) (Nat.le_of_ble_eq_true rfl) (fun _ => rfl) (fun _ => rfl) rfl ?_
  refine e_aload_n 26 55 rfl rfl rfl rfl ?_
  refine e_iconst 27 56 rfl rfl ?_
  refine w_newZ 28 58 (n := 3) ar_boolean rfl rfl (fun _ _ => rfl) ((xfs_ne _ _ (by decide)).trans rfl) (hz _ (by decide) (by decide)) (Nat.le_of_ble_eq_true rfl) (Nat.le_of_ble_eq_true rfl) (Nat.le_of_ble_eq_true rfl) ?_
  refine w_putR 29 61 ckX12 flX12_29 rfl rfl rfl (fun r h => by cases h; rfl) (Nat.le_of_ble_eq_true rfl) (Nat.le_of_ble_eq_true rfl) (fun _ => rfl) (fun _ => rfl) rfl ?_
  refine e_aload_n 30 62 rfl rfl rfl rfl ?_
  refine e_iconst 31 63 rfl rfl ?_
  refine w_newZ 32 65 (n := 3) ar_boolean rfl rfl (fun _ _ => rfl) ((xfs_ne _ _ (by decide)).trans rfl) (hz _ (by decide) (by decide)) (Nat.le_of_ble_eq_true rfl) (Nat.le_of_ble_eq_true rfl) (Nat.le_of_ble_eq_true rfl) ?_
  refine w_putR 33 68 ckX12 flX12_32 rfl rfl rfl (fun r h => by cases h; rfl) (Nat.le_of_ble_eq_true rfl) (Nat.le_of_ble_eq_true rfl) (fun _ => rfl) (fun _ => rfl) rfl ?_
  refine e_aload_n 34 69 rfl rfl rfl rfl ?_
  refine e_iconst 35 70 rfl rfl ?_
  refine w_newI 36 72 (n := 3) ar_int rfl rfl (fun _ _ => rfl) ((xfs_ne _ _ (by decide)).trans rfl) (hz _ (by decide) (by decide)) (Nat.le_of_ble_eq_true rfl) (Nat.le_of_ble_eq_true rfl) (Nat.le_of_ble_eq_true rfl) ?_
  refine w_putR 37 75 ckX12 flX12_35 rfl rfl rfl (fun r h => by cases h; rfl) (Nat.le_of_ble_eq_true rfl) (Nat.le_of_ble_eq_true rfl) (fun _ => rfl) (fun _ => rfl) rfl ?_
  refine e_aload_n 38 76 rfl rfl rfl rfl ?_
  refine e_iconst 39 77 rfl rfl ?_
  refine w_newI 40 79 (n := 3) ar_int rfl rfl (fun _ _ => rfl) ((xfs_ne _ _ (by decide)).trans rfl) (hz _ (by decide) (by decide)) (Nat.le_of_ble_eq_true rfl) (Nat.le_of_ble_eq_true rfl) (Nat.le_of_ble_eq_true rfl) ?_
  refine w_putR 41 82 ckX12 flX12_38 rfl rfl rfl (fun r h => by cases h; rfl) (Nat.le_of_ble_eq_true rfl) (Nat.le_of_ble_eq_true rfl) (fun _ => rfl) (fun _ => rfl) rfl ?_
  refine e_aload_n 42 83 rfl rfl rfl rfl ?_
  refine e_sipush 43 86 rfl rfl rfl ?_
  refine w_newL 44 88 (n := 3000) ar_long rfl rfl (fun _ _ => rfl) ((xfs_ne _ _ (by decide)).trans rfl) (hz _ (by decide) (by decide)) (Nat.le_of_ble_eq_true rfl) (Nat.le_of_ble_eq_true rfl) (Nat.le_of_ble_eq_true rfl) ?_
  refine w_putR 45 91 ckX12 flX12_41 rfl rfl rfl (fun r h => by cases h; rfl) (Nat.le_of_ble_eq_true rfl) (Nat.le_of_ble_eq_true rfl) (fun _ => rfl) (fun _ => rfl) rfl ?_
  refine e_aload_n 46 92 rfl rfl rfl rfl ?_
  refine e_sipush 47 95 rfl rfl rfl ?_
  refine w_newI 48 97 (n := 3000) ar_int rfl rfl (fun _ _ => rfl) ((xfs_ne _ _ (by decide)).trans rfl) (hz _ (by decide) (by decide)) (Nat.le_of_ble_eq_true rfl) (Nat.le_of_ble_eq_true rfl) (Nat.le_of_ble_eq_true rfl) ?_
  refine w_putR 49 100 ckX12 flX12_45 rfl rfl rfl (fun r h => by cases h; rfl) (Nat.le_of_ble_eq_true rfl) (Nat.le_of_ble_eq_true rfl) (fun _ => rfl) (fun _ => rfl) rfl ?_
  refine e_aload_n 50 101 rfl rfl rfl rfl ?_
  refine e_sipush 51 104 rfl rfl rfl ?_
  refine w_newI 52 106 (n := 3000) ar_int rfl rfl (fun _ _ => rfl) ((xfs_ne _ _ (by decide)).trans rfl) (hz _ (by decide) (by decide)) (Nat.le_of_ble_eq_true rfl) (Nat.le_of_ble_eq_true rfl) (Nat.le_of_ble_eq_true rfl) ?_
  refine w_putR 53 109 ckX12 flX12_48 rfl rfl rfl (fun r h => by cases h; rfl) (Nat.le_of_ble_eq_true rfl) (Nat.le_of_ble_eq_true rfl) (fun _ => rfl) (fun _ => rfl) rfl ?_
  refine e_aload_n 54 110 rfl rfl rfl rfl ?_
  refine e_iconst 55 111 rfl rfl ?_
  refine w_newI 56 113 (n := 4) ar_int rfl rfl (fun _ _ => rfl) ((xfs_ne _ _ (by decide)).trans rfl) (hz _ (by decide) (by decide)) (Nat.le_of_ble_eq_true rfl) (Nat.le_of_ble_eq_true rfl) (Nat.le_of_ble_eq_true rfl) ?_
  refine e_dup 57 114 rfl rfl rfl ?_
  refine e_iconst 58 115 rfl rfl ?_
  refine e_iconst 59 116 rfl rfl ?_
  refine w_iastore 60 117 rfl rfl (Nat.le_of_ble_eq_true rfl) ((xfs_ne _ _ (by decide)).trans rfl) (by omega) (by omega) (by omega) ?_
  refine e_dup 61 118 rfl rfl rfl ?_
  refine e_iconst 62 119 rfl rfl ?_
  refine e_iconst 63 120 rfl rfl ?_
  refine w_iastore 64 121 rfl rfl (Nat.le_of_ble_eq_true rfl) ((xfs_ne _ _ (by decide)).trans rfl) (by omega) (by omega) (by omega) ?_
  refine e_dup 65 122 rfl rfl rfl ?_
  refine e_iconst 66 123 rfl rfl ?_
  refine e_iconst 67 124 rfl rfl ?_
  refine w_iastore 68 125 rfl rfl (Nat.le_of_ble_eq_true rfl) ((xfs_ne _ _ (by decide)).trans rfl) (by omega) (by omega) (by omega) ?_
  refine e_dup 69 126 rfl rfl rfl ?_
  refine e_iconst 70 127 rfl rfl ?_
  refine e_iconst 71 128 rfl rfl ?_
  refine w_iastore 72 129 rfl rfl (Nat.le_of_ble_eq_true rfl) ((xfs_ne _ _ (by decide)).trans rfl) (by omega) (by omega) (by omega) ?_
  refine w_putR 73 132 ckX12 flX12_51 rfl rfl rfl (fun r h => by cases h; rfl) (Nat.le_of_ble_eq_true rfl) (Nat.le_of_ble_eq_true rfl) (fun _ => rfl) (fun _ => rfl) rfl ?_
  refine e_aload_n 74 133 rfl rfl rfl rfl ?_
  refine e_bipush 75 135 rfl rfl rfl ?_
  refine w_newI 76 137 (n := 60) ar_int rfl rfl (fun _ _ => rfl) ((xfs_ne _ _ (by decide)).trans rfl) (fun j => by simp [xu]; exact hz _ (by decide) (by decide) j) (Nat.le_of_ble_eq_true rfl) (Nat.le_of_ble_eq_true rfl) (Nat.le_of_ble_eq_true rfl) ?_
  refine w_putR 77 140 ckX12 flX12_54 rfl rfl rfl (fun r h => by cases h; rfl) (Nat.le_of_ble_eq_true rfl) (Nat.le_of_ble_eq_true rfl) (fun _ => rfl) (fun _ => rfl) rfl ?_
  refine e_aload_n 78 141 rfl rfl rfl rfl ?_
  refine e_bipush 79 143 rfl rfl rfl ?_
  refine w_newI 80 145 (n := 12) ar_int rfl rfl (fun _ _ => rfl) ((xfs_ne _ _ (by decide)).trans rfl) (fun j => by simp [xu]; exact hz _ (by decide) (by decide) j) (Nat.le_of_ble_eq_true rfl) (Nat.le_of_ble_eq_true rfl) (Nat.le_of_ble_eq_true rfl) ?_
  refine w_putR 81 148 ckX12 flX12_57 rfl rfl rfl (fun r h => by cases h; rfl) (Nat.le_of_ble_eq_true rfl) (Nat.le_of_ble_eq_true rfl) (fun _ => rfl) (fun _ => rfl) rfl ?_
  refine e_aload_n 82 149 rfl rfl rfl rfl ?_
  refine e_bipush 83 151 rfl rfl rfl ?_
  refine w_newI 84 153 (n := 12) ar_int rfl rfl (fun _ _ => rfl) ((xfs_ne _ _ (by decide)).trans rfl) (fun j => by simp [xu]; exact hz _ (by decide) (by decide) j) (Nat.le_of_ble_eq_true rfl) (Nat.le_of_ble_eq_true rfl) (Nat.le_of_ble_eq_true rfl) ?_
  refine w_putR 85 156 ckX12 flX12_60 rfl rfl rfl (fun r h => by cases h; rfl) (Nat.le_of_ble_eq_true rfl) (Nat.le_of_ble_eq_true rfl) (fun _ => rfl) (fun _ => rfl) rfl ?_
  refine e_aload_n 86 157 rfl rfl rfl rfl ?_
  refine e_iconst 87 158 rfl rfl ?_
  refine w_putI 88 161 25 ckX12 flX12_63 rfl rfl (Nat.le_of_ble_eq_true rfl) (xfs_at _ _ _) rfl rfl ?_
  refine e_aload_n 89 162 rfl rfl rfl rfl ?_
  refine e_bipush 90 164 rfl rfl rfl ?_
  refine w_newZ 91 166 (n := 100) ar_boolean rfl rfl (fun _ _ => rfl) ((xfs_ne _ _ (by decide)).trans rfl) (fun j => by simp [xu]; exact hz _ (by decide) (by decide) j) (Nat.le_of_ble_eq_true rfl) (Nat.le_of_ble_eq_true rfl) (Nat.le_of_ble_eq_true rfl) ?_
  refine w_putR 92 169 ckX12 flX12_67 rfl rfl rfl (fun r h => by cases h; rfl) (Nat.le_of_ble_eq_true rfl) (Nat.le_of_ble_eq_true rfl) (fun _ => rfl) (fun _ => rfl) rfl ?_
  refine e_aload_n 93 170 rfl rfl rfl rfl ?_
  refine e_iconst 94 171 rfl rfl ?_
  refine w_newI 95 173 (n := 3) ar_int rfl rfl (fun _ _ => rfl) ((xfs_ne _ _ (by decide)).trans rfl) (fun j => by simp [xu]; exact hz _ (by decide) (by decide) j) (Nat.le_of_ble_eq_true rfl) (Nat.le_of_ble_eq_true rfl) (Nat.le_of_ble_eq_true rfl) ?_
  refine w_putR 96 176 ckX12 flX12_70 rfl rfl rfl (fun r h => by cases h; rfl) (Nat.le_of_ble_eq_true rfl) (Nat.le_of_ble_eq_true rfl) (fun _ => rfl) (fun _ => rfl) rfl ?_
  refine e_aload_n 97 177 rfl rfl rfl rfl ?_
  refine e_iconst 98 178 rfl rfl ?_
  refine w_putI 99 181 31 ckX12 flX12_73 rfl rfl (Nat.le_of_ble_eq_true rfl) (xfs_at _ _ _) rfl rfl ?_
  refine e_aload_n 100 182 rfl rfl rfl rfl ?_
  refine e_iconst 101 183 rfl rfl ?_
  refine w_newI 102 185 (n := 2) ar_int rfl rfl (fun _ _ => rfl) ((xfs_ne _ _ (by decide)).trans rfl) (fun j => by simp [xu]; exact hz _ (by decide) (by decide) j) (Nat.le_of_ble_eq_true rfl) (Nat.le_of_ble_eq_true rfl) (Nat.le_of_ble_eq_true rfl) ?_
  refine e_dup 103 186 rfl rfl rfl ?_
  refine e_iconst 104 187 rfl rfl ?_
  refine e_iconst 105 188 rfl rfl ?_
  refine w_iastore 106 189 rfl rfl (Nat.le_of_ble_eq_true rfl) ((xfs_ne _ _ (by decide)).trans rfl) (by omega) (by omega) (by omega) ?_
  refine e_dup 107 190 rfl rfl rfl ?_
  refine e_iconst 108 191 rfl rfl ?_
  refine e_iconst 109 192 rfl rfl ?_
  refine w_iastore 110 193 rfl rfl (Nat.le_of_ble_eq_true rfl) ((xfs_ne _ _ (by decide)).trans rfl) (by omega) (by omega) (by omega) ?_
  refine w_putR 111 196 ckX12 flX12_76 rfl rfl rfl (fun r h => by cases h; rfl) (Nat.le_of_ble_eq_true rfl) (Nat.le_of_ble_eq_true rfl) (fun _ => rfl) (fun _ => rfl) rfl ?_
  refine e_aload_n 112 197 rfl rfl rfl rfl ?_
  refine e_iconst 113 198 rfl rfl ?_
  refine w_newI 114 200 (n := 2) ar_int rfl rfl (fun _ _ => rfl) ((xfs_ne _ _ (by decide)).trans rfl) (fun j => by simp [xu]; exact hz _ (by decide) (by decide) j) (Nat.le_of_ble_eq_true rfl) (Nat.le_of_ble_eq_true rfl) (Nat.le_of_ble_eq_true rfl) ?_
  refine w_putR 115 203 ckX12 flX12_79 rfl rfl rfl (fun r h => by cases h; rfl) (Nat.le_of_ble_eq_true rfl) (Nat.le_of_ble_eq_true rfl) (fun _ => rfl) (fun _ => rfl) rfl ?_
  refine e_aload_n 116 204 rfl rfl rfl rfl ?_
  refine e_sipush 117 207 rfl rfl rfl ?_
  refine w_newI 118 209 (n := 20000) ar_int rfl rfl (fun _ _ => rfl) ((xfs_ne _ _ (by decide)).trans rfl) (fun j => by simp [xu]; exact hz _ (by decide) (by decide) j) (Nat.le_of_ble_eq_true rfl) (Nat.le_of_ble_eq_true rfl) (Nat.le_of_ble_eq_true rfl) ?_
  refine w_putR 119 212 ckX12 flX12_82 rfl rfl rfl (fun r h => by cases h; rfl) (Nat.le_of_ble_eq_true rfl) (Nat.le_of_ble_eq_true rfl) (fun _ => rfl) (fun _ => rfl) rfl ?_
  refine e_aload_n 120 213 rfl rfl rfl rfl ?_
  refine e_sipush 121 216 rfl rfl rfl ?_
  refine w_newI 122 218 (n := 20000) ar_int rfl rfl (fun _ _ => rfl) ((xfs_ne _ _ (by decide)).trans rfl) (fun j => by simp [xu]; exact hz _ (by decide) (by decide) j) (Nat.le_of_ble_eq_true rfl) (Nat.le_of_ble_eq_true rfl) (Nat.le_of_ble_eq_true rfl) ?_
  refine w_putR 123 221 ckX12 flX12_85 rfl rfl rfl (fun r h => by cases h; rfl) (Nat.le_of_ble_eq_true rfl) (Nat.le_of_ble_eq_true rfl) (fun _ => rfl) (fun _ => rfl) rfl ?_
  refine e_aload_n 124 222 rfl rfl rfl rfl ?_
  refine e_sipush 125 225 rfl rfl rfl ?_
  refine w_newI 126 227 (n := 20000) ar_int rfl rfl (fun _ _ => rfl) ((xfs_ne _ _ (by decide)).trans rfl) (fun j => by simp [xu]; exact hz _ (by decide) (by decide) j) (Nat.le_of_ble_eq_true rfl) (Nat.le_of_ble_eq_true rfl) (Nat.le_of_ble_eq_true rfl) ?_
  refine w_putR 127 230 ckX12 flX12_88 rfl rfl rfl (fun r h => by cases h; rfl) (Nat.le_of_ble_eq_true rfl) (Nat.le_of_ble_eq_true rfl) (fun _ => rfl) (fun _ => rfl) rfl ?_
  refine e_aload_n 128 231 rfl rfl rfl rfl ?_
  refine e_iconst 129 232 rfl rfl ?_
  refine w_putI 130 235 38 ckX12 flX12_91 rfl rfl (Nat.le_of_ble_eq_true rfl) (xfs_at _ _ _) rfl rfl ?_
  refine e_aload_n 131 236 rfl rfl rfl rfl ?_
  refine e_sipush 132 239 rfl rfl rfl ?_
  refine w_newI 133 241 (n := 200) ar_int rfl rfl (fun _ _ => rfl) ((xfs_ne _ _ (by decide)).trans rfl) (fun j => by simp [xu]; exact hz _ (by decide) (by decide) j) (Nat.le_of_ble_eq_true rfl) (Nat.le_of_ble_eq_true rfl) (Nat.le_of_ble_eq_true rfl) ?_
  refine w_putR 134 244 ckX12 flX12_94 rfl rfl rfl (fun r h => by cases h; rfl) (Nat.le_of_ble_eq_true rfl) (Nat.le_of_ble_eq_true rfl) (fun _ => rfl) (fun _ => rfl) rfl ?_
  refine e_aload_n 135 245 rfl rfl rfl rfl ?_
  refine e_sipush 136 248 rfl rfl rfl ?_
  refine w_newI 137 250 (n := 3000) ar_int rfl rfl (fun _ _ => rfl) ((xfs_ne _ _ (by decide)).trans rfl) (fun j => by simp [xu]; exact hz _ (by decide) (by decide) j) (Nat.le_of_ble_eq_true rfl) (Nat.le_of_ble_eq_true rfl) (Nat.le_of_ble_eq_true rfl) ?_
  refine w_putR 138 253 ckX12 flX12_97 rfl rfl rfl (fun r h => by cases h; rfl) (Nat.le_of_ble_eq_true rfl) (Nat.le_of_ble_eq_true rfl) (fun _ => rfl) (fun _ => rfl) rfl ?_
  refine e_aload_n 139 254 rfl rfl rfl rfl ?_
  refine e_sipush 140 257 rfl rfl rfl ?_
  refine w_newI 141 259 (n := 3000) ar_int rfl rfl (fun _ _ => rfl) ((xfs_ne _ _ (by decide)).trans rfl) (fun j => by simp [xu]; exact hz _ (by decide) (by decide) j) (Nat.le_of_ble_eq_true rfl) (Nat.le_of_ble_eq_true rfl) (Nat.le_of_ble_eq_true rfl) ?_
  refine w_putR 142 262 ckX12 flX12_100 rfl rfl rfl (fun r h => by cases h; rfl) (Nat.le_of_ble_eq_true rfl) (Nat.le_of_ble_eq_true rfl) (fun _ => rfl) (fun _ => rfl) rfl ?_
  refine e_aload_n 143 263 rfl rfl rfl rfl ?_
  refine e_sipush 144 266 rfl rfl rfl ?_
  refine w_newL 145 268 (n := 3000) ar_long rfl rfl (fun _ _ => rfl) ((xfs_ne _ _ (by decide)).trans rfl) (fun j => by simp [xu]; exact hz _ (by decide) (by decide) j) (Nat.le_of_ble_eq_true rfl) (Nat.le_of_ble_eq_true rfl) (Nat.le_of_ble_eq_true rfl) ?_
  refine w_putR 146 271 ckX12 flX12_103 rfl rfl rfl (fun r h => by cases h; rfl) (Nat.le_of_ble_eq_true rfl) (Nat.le_of_ble_eq_true rfl) (fun _ => rfl) (fun _ => rfl) rfl ?_
  refine e_aload_n 147 272 rfl rfl rfl rfl ?_
  refine e_sipush 148 275 rfl rfl rfl ?_
  refine w_newL 149 277 (n := 3000) ar_long rfl rfl (fun _ _ => rfl) ((xfs_ne _ _ (by decide)).trans rfl) (fun j => by simp [xu]; exact hz _ (by decide) (by decide) j) (Nat.le_of_ble_eq_true rfl) (Nat.le_of_ble_eq_true rfl) (Nat.le_of_ble_eq_true rfl) ?_
  refine w_putR 150 280 ckX12 flX12_106 rfl rfl rfl (fun r h => by cases h; rfl) (Nat.le_of_ble_eq_true rfl) (Nat.le_of_ble_eq_true rfl) (fun _ => rfl) (fun _ => rfl) rfl ?_
  refine e_aload_n 151 281 rfl rfl rfl rfl ?_
  refine e_iconst 152 282 rfl rfl ?_
  refine w_newI 153 284 (n := 1) ar_int rfl rfl (fun _ _ => rfl) ((xfs_ne _ _ (by decide)).trans rfl) (fun j => by simp [xu]; exact hz _ (by decide) (by decide) j) (Nat.le_of_ble_eq_true rfl) (Nat.le_of_ble_eq_true rfl) (Nat.le_of_ble_eq_true rfl) ?_
  refine w_putR 154 287 ckX12 flX12_109 rfl rfl rfl (fun r h => by cases h; rfl) (Nat.le_of_ble_eq_true rfl) (Nat.le_of_ble_eq_true rfl) (fun _ => rfl) (fun _ => rfl) rfl ?_
  refine e_aload_n 155 288 rfl rfl rfl rfl ?_
  refine e_bipush 156 290 rfl rfl rfl ?_
  refine w_newI 157 292 (n := 100) ar_int rfl rfl (fun _ _ => rfl) ((xfs_ne _ _ (by decide)).trans rfl) (fun j => by simp [xu]; exact hz _ (by decide) (by decide) j) (Nat.le_of_ble_eq_true rfl) (Nat.le_of_ble_eq_true rfl) (Nat.le_of_ble_eq_true rfl) ?_
  refine w_putR 158 295 ckX12 flX12_112 rfl rfl rfl (fun r h => by cases h; rfl) (Nat.le_of_ble_eq_true rfl) (Nat.le_of_ble_eq_true rfl) (fun _ => rfl) (fun _ => rfl) rfl ?_
  refine w_fold rfl ?_
  refine e_aload_n 159 296 rfl rfl rfl rfl ?_
  refine w_callV 160 299 (ca) okX12_chunksAnew cvX12_115 ⟨(Nat.le_of_ble_eq_true rfl), (Nat.le_of_ble_eq_true rfl)⟩ rfl rfl (Nat.le_of_ble_eq_true rfl) rfl rfl rfl rfl rfl (Nat.le_of_ble_eq_true rfl) (Nat.le_of_ble_eq_true rfl) (Nat.le_of_ble_eq_true rfl) ?_
  exact e_return 161 rfl rfl (Nat.le_of_ble_eq_true rfl) (Nat.le_of_ble_eq_true rfl)
