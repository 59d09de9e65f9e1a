/-! ===== constructors: chart, stream, editor, indexes, groups ===== -/
theorem w_fold {M : x_MT} {mc ms pc kc ks : Nat} {ls : List (Option Value)} {st : List Value} {N a : Nat} {F : Nat → xShp} {s : xShp} {σ : xSig} {Y : xS} {o : xO} (h : F a = s) (kk : x_E M mc ms pc ls st (Wd N F σ) kc ks o Y) : x_E M mc ms pc ls st (Wd N (xfs F a s) σ) kc ks o Y := by
  rw [xfs_id h]
  exact kk
theorem sp_iStream {F : Nat → xShp} {σ : xSig} (hF : ∀ b, 239 ≤ b → b < 243 → F b = SH b) (hz : ∀ b, 239 ≤ b → b < 243 → ∀ j, σ b j = 0) : x_Sp MX9_init 3 3072 [.ref 239] (Wd 240 (xfs F 239 (.inr (.inr (9, fr9)))) σ) vv (Wd 243 F σ) := by
  refine e_entry okX9_init (Nat.le_of_ble_eq_true rfl) (ls := [some _]) rfl ?_
  refine e_aload_n 0 1 rfl rfl rfl rfl ?_
  refine w_objinit 1 4 olX9_3 oinst ocode rfl rfl (Nat.le_of_ble_eq_true rfl) (Nat.le_of_ble_eq_true rfl) (Nat.le_of_ble_eq_true rfl) ?_
  refine e_aload_n 2 5 rfl rfl rfl rfl ?_
  refine e_sipush 3 8 rfl rfl rfl ?_
  refine w_newI 4 10 (n := 1024) ar_int rfl rfl (fun _ _ => rfl) ((xfs_ne _ _ (by decide)).trans (hF _ (by decide) (by decide))) (hz _ (by decide) (by decide)) (Nat.le_of_ble_eq_true rfl) (Nat.le_of_ble_eq_true rfl) (Nat.le_of_ble_eq_true rfl) ?_
  refine w_putR 5 13 ckX9 flX9_9 rfl rfl rfl (fun r h => by cases h; rfl) (Nat.le_of_ble_eq_true rfl) (Nat.le_of_ble_eq_true rfl) (fun _ => rfl) (fun _ => rfl) rfl ?_
  refine e_aload_n 6 14 rfl rfl rfl rfl ?_
  refine e_sipush 7 17 rfl rfl rfl ?_
  refine w_newI 8 19 (n := 1024) ar_int rfl rfl (fun _ _ => rfl) ((xfs_ne _ _ (by decide)).trans (hF _ (by decide) (by decide))) (hz _ (by decide) (by decide)) (Nat.le_of_ble_eq_true rfl) (Nat.le_of_ble_eq_true rfl) (Nat.le_of_ble_eq_true rfl) ?_
  refine w_putR 9 22 ckX9 flX9_15 rfl rfl rfl (fun r h => by cases h; rfl) (Nat.le_of_ble_eq_true rfl) (Nat.le_of_ble_eq_true rfl) (fun _ => rfl) (fun _ => rfl) rfl ?_
  refine e_aload_n 10 23 rfl rfl rfl rfl ?_
  refine e_sipush 11 26 rfl rfl rfl ?_
  refine w_newI 12 28 (n := 1024) ar_int rfl rfl (fun _ _ => rfl) ((xfs_ne _ _ (by decide)).trans (hF _ (by decide) (by decide))) (hz _ (by decide) (by decide)) (Nat.le_of_ble_eq_true rfl) (Nat.le_of_ble_eq_true rfl) (Nat.le_of_ble_eq_true rfl) ?_
  refine w_putR 13 31 ckX9 flX9_18 rfl rfl rfl (fun r h => by cases h; rfl) (Nat.le_of_ble_eq_true rfl) (Nat.le_of_ble_eq_true rfl) (fun _ => rfl) (fun _ => rfl) rfl ?_
  refine e_aload_n 14 32 rfl rfl rfl rfl ?_
  refine e_iconst 15 33 rfl rfl ?_
  refine w_put0 16 36 ckX9 flX9_21 rfl rfl (Nat.le_of_ble_eq_true rfl) (xfs_at _ _ _) rfl (hz _ (by decide) (by decide) _) ?_
  refine w_fold ((hF 239 (by decide) (by decide)).trans rfl) ?_
  exact e_return 17 rfl rfl (Nat.le_of_ble_eq_true rfl) (Nat.le_of_ble_eq_true rfl)
theorem sp_iEditor {F : Nat → xShp} {σ : xSig} (hF : ∀ b, 243 ≤ b → b < 248 → F b = SH b) (hz : ∀ b, 243 ≤ b → b < 248 → ∀ j, σ b j = 0) : x_Sp MX1_init 4 228 [.ref 243] (Wd 244 (xfs F 243 (.inr (.inr (1, fr1)))) σ) vv (Wd 248 F σ) := by
  have c1 := sp_iVal (F := xfs F 243 (.inr (.inr (1, fr1)))) (σ := σ) (a := 244) (n := 152) ((xfs_ne _ _ (by decide)).trans (hF _ (by decide) (by decide))) ((xfs_ne _ _ (by decide)).trans (hF _ (by decide) (by decide))) (fun j => ⟨hz 244 (by decide) (by decide) j, hz 245 (by decide) (by decide) j⟩) (by omega)
  have c2 := sp_iVal (F := xfs F 243 (.inr (.inr (1, fr1.set 0 (some (some 244)))))) (σ := σ) (a := 246) (n := 72) ((xfs_ne _ _ (by decide)).trans (hF _ (by decide) (by decide))) ((xfs_ne _ _ (by decide)).trans (hF _ (by decide) (by decide))) (fun j => ⟨hz 246 (by decide) (by decide) j, hz 247 (by decide) (by decide) j⟩) (by omega)
  refine e_entry okX1_init (Nat.le_of_ble_eq_true rfl) (ls := [some _]) rfl ?_
  refine e_aload_n 0 1 rfl rfl rfl rfl ?_
  refine w_objinit 1 4 olX1_3 oinst ocode rfl rfl (Nat.le_of_ble_eq_true rfl) (Nat.le_of_ble_eq_true rfl) (Nat.le_of_ble_eq_true rfl) ?_
  refine e_aload_n 2 5 rfl rfl rfl rfl ?_
  refine w_new 3 8 (F2 := xfs (xfs F 243 (.inr (.inr (1, fr1)))) 244 (.inr (.inr (10, fr10)))) tyX10 ckX10 rfl tyX10_ok clX1_9 inX10 izX10 rfl rfl (fun c hc => xfs_ne _ _ (by omega)) (xfs_at _ _ _) (hz _ (by decide) (by decide)) df10 (Nat.le_of_ble_eq_true rfl) (Nat.le_of_ble_eq_true rfl) ?_
  refine e_dup 4 9 rfl rfl rfl ?_
  refine e_sipush 5 12 rfl rfl rfl ?_
  refine e_callI 6 15 (c1) okX10_init ciX1_11 ⟨(Nat.le_of_ble_eq_true rfl), (Nat.le_of_ble_eq_true rfl)⟩ rfl rfl rfl rfl (Nat.le_of_ble_eq_true rfl) (Nat.le_of_ble_eq_true rfl) (Nat.le_of_ble_eq_true rfl) ?_
  refine w_putR 7 18 ckX1 flX1_14 rfl rfl rfl (fun r h => by cases h; rfl) (Nat.le_of_ble_eq_true rfl) (Nat.le_of_ble_eq_true rfl) (fun _ => rfl) (fun _ => rfl) rfl ?_
  refine e_aload_n 8 19 rfl rfl rfl rfl ?_
  refine w_new 9 22 (F2 := xfs (xfs F 243 (.inr (.inr (1, fr1.set 0 (some (some 244)))))) 246 (.inr (.inr (10, fr10)))) tyX10 ckX10 rfl tyX10_ok clX1_9 inX10 izX10 rfl rfl (fun c hc => xfs_ne _ _ (by omega)) (xfs_at _ _ _) (hz _ (by decide) (by decide)) df10 (Nat.le_of_ble_eq_true rfl) (Nat.le_of_ble_eq_true rfl) ?_
  refine e_dup 10 23 rfl rfl rfl ?_
  refine e_bipush 11 25 rfl rfl rfl ?_
  refine e_callI 12 28 (c2) okX10_init ciX1_11 ⟨(Nat.le_of_ble_eq_true rfl), (Nat.le_of_ble_eq_true rfl)⟩ rfl rfl rfl rfl (Nat.le_of_ble_eq_true rfl) (Nat.le_of_ble_eq_true rfl) (Nat.le_of_ble_eq_true rfl) ?_
  refine w_putR 13 31 ckX1 flX1_20 rfl rfl rfl (fun r h => by cases h; rfl) (Nat.le_of_ble_eq_true rfl) (Nat.le_of_ble_eq_true rfl) (fun _ => rfl) (fun _ => rfl) rfl ?_
  refine w_fold ((hF 243 (by decide) (by decide)).trans rfl) ?_
  exact e_return 14 rfl rfl (Nat.le_of_ble_eq_true rfl) (Nat.le_of_ble_eq_true rfl)
theorem sp_iGroups {F : Nat → xShp} {σ : xSig} (hF : ∀ b, 273 ≤ b → b < 281 → F b = SH b) (hz : ∀ b, 273 ≤ b → b < 281 → ∀ j, σ b j = 0) : x_Sp MX3_init 7 7226 [.ref 273] (Wd 274 (xfs F 273 (.inr (.inr (3, fr3)))) σ) vv (Wd 281 F σ) := by
  have c1 := fun P => sp_iPla (F := xfs F 273 P) (σ := σ) (a := 279) ((xfs_ne _ _ (by decide)).trans (hF _ (by decide) (by decide))) ((xfs_ne _ _ (by decide)).trans (hF _ (by decide) (by decide))) (fun j => ⟨hz 279 (by decide) (by decide) j, hz 280 (by decide) (by decide) j⟩)
  refine e_entry okX3_init (Nat.le_of_ble_eq_true rfl) (ls := [some _]) rfl ?_
  refine e_aload_n 0 1 rfl rfl rfl rfl ?_
  refine w_objinit 1 4 olX3_3 oinst ocode rfl rfl (Nat.le_of_ble_eq_true rfl) (Nat.le_of_ble_eq_true rfl) (Nat.le_of_ble_eq_true rfl) ?_
  refine e_aload_n 2 5 rfl rfl rfl rfl ?_
  refine e_sipush 3 8 rfl rfl rfl ?_
  refine w_newL 4 10 (n := 1440) ar_long rfl rfl (fun _ _ => rfl) ((xfs_ne _ _ (by decide)).trans (hF _ (by decide) (by decide))) (hz _ (by decide) (by decide)) (Nat.le_of_ble_eq_true rfl) (Nat.le_of_ble_eq_true rfl) (Nat.le_of_ble_eq_true rfl) ?_
  refine w_putR 5 13 ckX3 flX3_11 rfl rfl rfl (fun r h => by cases h; rfl) (Nat.le_of_ble_eq_true rfl) (Nat.le_of_ble_eq_true rfl) (fun _ => rfl) (fun _ => rfl) rfl ?_
  refine e_aload_n 6 14 rfl rfl rfl rfl ?_
  refine e_sipush 7 17 rfl rfl rfl ?_
  refine w_newI 8 19 (n := 1440) ar_int rfl rfl (fun _ _ => rfl) ((xfs_ne _ _ (by decide)).trans (hF _ (by decide) (by decide))) (hz _ (by decide) (by decide)) (Nat.le_of_ble_eq_true rfl) (Nat.le_of_ble_eq_true rfl) (Nat.le_of_ble_eq_true rfl) ?_
  refine w_putR 9 22 ckX3 flX3_15 rfl rfl rfl (fun r h => by cases h; rfl) (Nat.le_of_ble_eq_true rfl) (Nat.le_of_ble_eq_true rfl) (fun _ => rfl) (fun _ => rfl) rfl ?_
  refine e_aload_n 10 23 rfl rfl rfl rfl ?_
  refine e_sipush 11 26 rfl rfl rfl ?_
  refine w_newL 12 28 (n := 1440) ar_long rfl rfl (fun _ _ => rfl) ((xfs_ne _ _ (by decide)).trans (hF _ (by decide) (by decide))) (hz _ (by decide) (by decide)) (Nat.le_of_ble_eq_true rfl) (Nat.le_of_ble_eq_true rfl) (Nat.le_of_ble_eq_true rfl) ?_
  refine w_putR 13 31 ckX3 flX3_19 rfl rfl rfl (fun r h => by cases h; rfl) (Nat.le_of_ble_eq_true rfl) (Nat.le_of_ble_eq_true rfl) (fun _ => rfl) (fun _ => rfl) rfl ?_
  refine e_aload_n 14 32 rfl rfl rfl rfl ?_
  refine e_sipush 15 35 rfl rfl rfl ?_
  refine w_newI 16 37 (n := 1440) ar_int rfl rfl (fun _ _ => rfl) ((xfs_ne _ _ (by decide)).trans (hF _ (by decide) (by decide))) (hz _ (by decide) (by decide)) (Nat.le_of_ble_eq_true rfl) (Nat.le_of_ble_eq_true rfl) (Nat.le_of_ble_eq_true rfl) ?_
  refine w_putR 17 40 ckX3 flX3_22 rfl rfl rfl (fun r h => by cases h; rfl) (Nat.le_of_ble_eq_true rfl) (Nat.le_of_ble_eq_true rfl) (fun _ => rfl) (fun _ => rfl) rfl ?_
  refine e_aload_n 18 41 rfl rfl rfl rfl ?_
  refine e_sipush 19 44 rfl rfl rfl ?_
  refine w_newI 20 46 (n := 1440) ar_int rfl rfl (fun _ _ => rfl) ((xfs_ne _ _ (by decide)).trans (hF _ (by decide) (by decide))) (hz _ (by decide) (by decide)) (Nat.le_of_ble_eq_true rfl) (Nat.le_of_ble_eq_true rfl) (Nat.le_of_ble_eq_true rfl) ?_
  refine w_putR 21 49 ckX3 flX3_25 rfl rfl rfl (fun r h => by cases h; rfl) (Nat.le_of_ble_eq_true rfl) (Nat.le_of_ble_eq_true rfl) (fun _ => rfl) (fun _ => rfl) rfl ?_
  refine e_aload_n 22 50 rfl rfl rfl rfl ?_
  refine w_new 23 53 (F2 := xfs _ 279 (.inr (.inr (6, fr6)))) tyX6 ckX6 rfl tyX6_ok clX3_28 inX6 izX6 rfl rfl (fun c hc => xfs_ne _ _ (by omega)) (xfs_at _ _ _) (hz _ (by decide) (by decide)) df6 (Nat.le_of_ble_eq_true rfl) (Nat.le_of_ble_eq_true rfl) ?_
  refine e_dup 24 54 rfl rfl rfl ?_
  refine e_callIN 25 57 (c1 _) okX6_init ciX3_30 ⟨(Nat.le_of_ble_eq_true rfl), (Nat.le_of_ble_eq_true rfl)⟩ rfl rfl rfl rfl (Nat.le_of_ble_eq_true rfl) (Nat.le_of_ble_eq_true rfl) (Nat.le_of_ble_eq_true rfl) ?_
  refine w_putR 26 60 ckX3 flX3_31 rfl rfl rfl (fun r h => by cases h; rfl) (Nat.le_of_ble_eq_true rfl) (Nat.le_of_ble_eq_true rfl) (fun _ => rfl) (fun _ => rfl) rfl ?_
  refine e_aload_n 27 61 rfl rfl rfl rfl ?_
  refine e_iconst 28 62 rfl rfl ?_
  refine w_put0 29 65 ckX3 flX3_35 rfl rfl (Nat.le_of_ble_eq_true rfl) (xfs_at _ _ _) rfl (hz _ (by decide) (by decide) _) ?_
  refine w_fold ((hF 273 (by decide) (by decide)).trans rfl) ?_
  exact e_return 30 rfl rfl (Nat.le_of_ble_eq_true rfl) (Nat.le_of_ble_eq_true rfl)
def ixI (σ : xSig) : xSig := xu (xu (xu σ 249 0 (-1)) 249 1 (-1)) 249 2 (-1)
theorem sp_iIndexes {F : Nat → xShp} {σ : xSig} (hF : ∀ b, 248 ≤ b → b < 256 → F b = SH b) (hz : ∀ b, 248 ≤ b → b < 256 → ∀ j, σ b j = 0) : x_Sp MX4_init 7 1568 [.ref 248] (Wd 249 (xfs F 248 (.inr (.inr (4, fr4)))) σ) vv (Wd 256 F (ixI σ)) := by
  unfold ixI
  have c1 := fun P => sp_iPla (F := xfs F 248 P) (σ := σ) (a := 254) ((xfs_ne _ _ (by decide)).trans (hF _ (by decide) (by decide))) ((xfs_ne _ _ (by decide)).trans (hF _ (by decide) (by decide))) (fun j => ⟨hz 254 (by decide) (by decide) j, hz 255 (by decide) (by decide) j⟩)
  refine e_entry okX4_init (Nat.le_of_ble_eq_true rfl) (ls := [some _, none]) rfl ?_
  refine e_aload_n 0 1 rfl rfl rfl rfl ?_
  refine w_objinit 1 4 olX4_3 oinst ocode rfl rfl (Nat.le_of_ble_eq_true rfl) (Nat.le_of_ble_eq_true rfl) (Nat.le_of_ble_eq_true rfl) ?_
  refine e_aload_n 2 5 rfl rfl rfl rfl ?_
  refine e_iconst 3 6 rfl rfl ?_
  refine w_newI 4 8 (n := 3) ar_int rfl rfl (fun _ _ => rfl) ((xfs_ne _ _ (by decide)).trans (hF _ (by decide) (by decide))) (hz _ (by decide) (by decide)) (Nat.le_of_ble_eq_true rfl) (Nat.le_of_ble_eq_true rfl) (Nat.le_of_ble_eq_true rfl) ?_
  refine w_putR 5 11 ckX4 flX4_9 rfl rfl rfl (fun r h => by cases h; rfl) (Nat.le_of_ble_eq_true rfl) (Nat.le_of_ble_eq_true rfl) (fun _ => rfl) (fun _ => rfl) rfl ?_
  refine e_aload_n 6 12 rfl rfl rfl rfl ?_
  refine e_iconst 7 13 rfl rfl ?_
  refine w_newZ 8 15 (n := 3) ar_boolean rfl rfl (fun _ _ => rfl) ((xfs_ne _ _ (by decide)).trans (hF _ (by decide) (by decide))) (hz _ (by decide) (by decide)) (Nat.le_of_ble_eq_true rfl) (Nat.le_of_ble_eq_true rfl) (Nat.le_of_ble_eq_true rfl) ?_
  refine w_putR 9 18 ckX4 flX4_15 rfl rfl rfl (fun r h => by cases h; rfl) (Nat.le_of_ble_eq_true rfl) (Nat.le_of_ble_eq_true rfl) (fun _ => rfl) (fun _ => rfl) rfl ?_
  refine e_aload_n 10 19 rfl rfl rfl rfl ?_
  refine e_sipush 11 22 rfl rfl rfl ?_
  refine w_newI 12 24 (n := 512) ar_int rfl rfl (fun _ _ => rfl) ((xfs_ne _ _ (by decide)).trans (hF _ (by decide) (by decide))) (hz _ (by decide) (by decide)) (Nat.le_of_ble_eq_true rfl) (Nat.le_of_ble_eq_true rfl) (Nat.le_of_ble_eq_true rfl) ?_
  refine w_putR 13 27 ckX4 flX4_19 rfl rfl rfl (fun r h => by cases h; rfl) (Nat.le_of_ble_eq_true rfl) (Nat.le_of_ble_eq_true rfl) (fun _ => rfl) (fun _ => rfl) rfl ?_
  refine e_aload_n 14 28 rfl rfl rfl rfl ?_
  refine e_sipush 15 31 rfl rfl rfl ?_
  refine w_newI 16 33 (n := 512) ar_int rfl rfl (fun _ _ => rfl) ((xfs_ne _ _ (by decide)).trans (hF _ (by decide) (by decide))) (hz _ (by decide) (by decide)) (Nat.le_of_ble_eq_true rfl) (Nat.le_of_ble_eq_true rfl) (Nat.le_of_ble_eq_true rfl) ?_
  refine w_putR 17 36 ckX4 flX4_22 rfl rfl rfl (fun r h => by cases h; rfl) (Nat.le_of_ble_eq_true rfl) (Nat.le_of_ble_eq_true rfl) (fun _ => rfl) (fun _ => rfl) rfl ?_
  refine e_aload_n 18 37 rfl rfl rfl rfl ?_
  refine e_sipush 19 40 rfl rfl rfl ?_
  refine w_newI 20 42 (n := 512) ar_int rfl rfl (fun _ _ => rfl) ((xfs_ne _ _ (by decide)).trans (hF _ (by decide) (by decide))) (hz _ (by decide) (by decide)) (Nat.le_of_ble_eq_true rfl) (Nat.le_of_ble_eq_true rfl) (Nat.le_of_ble_eq_true rfl) ?_
  refine w_putR 21 45 ckX4 flX4_25 rfl rfl rfl (fun r h => by cases h; rfl) (Nat.le_of_ble_eq_true rfl) (Nat.le_of_ble_eq_true rfl) (fun _ => rfl) (fun _ => rfl) rfl ?_
  refine e_aload_n 22 46 rfl rfl rfl rfl ?_
  refine w_new 23 49 (F2 := xfs _ 254 (.inr (.inr (6, fr6)))) tyX6 ckX6 rfl tyX6_ok clX4_28 inX6 izX6 rfl rfl (fun c hc => xfs_ne _ _ (by omega)) (xfs_at _ _ _) (hz _ (by decide) (by decide)) df6 (Nat.le_of_ble_eq_true rfl) (Nat.le_of_ble_eq_true rfl) ?_
  refine e_dup 24 50 rfl rfl rfl ?_
  refine e_callIN 25 53 (c1 _) okX6_init ciX4_30 ⟨(Nat.le_of_ble_eq_true rfl), (Nat.le_of_ble_eq_true rfl)⟩ rfl rfl rfl rfl (Nat.le_of_ble_eq_true rfl) (Nat.le_of_ble_eq_true rfl) (Nat.le_of_ble_eq_true rfl) ?_
  refine w_putR 26 56 ckX4 flX4_31 rfl rfl rfl (fun r h => by cases h; rfl) (Nat.le_of_ble_eq_true rfl) (Nat.le_of_ble_eq_true rfl) (fun _ => rfl) (fun _ => rfl) rfl ?_
  refine w_fold ((hF 248 (by decide) (by decide)).trans rfl) ?_
  refine e_aload_n 27 57 rfl rfl rfl rfl ?_
  refine e_iconst 28 58 rfl rfl ?_
  refine w_put0 29 61 ckX4 flX4_35 rfl rfl (Nat.le_of_ble_eq_true rfl) (hF _ (by decide) (by decide)) rfl (hz _ (by decide) (by decide) _) ?_
  refine e_iconst 30 62 rfl rfl ?_
  refine e_istore_n 31 63 (ls' := [some _, some _]) rfl rfl rfl (Nat.le_of_ble_eq_true rfl) rfl ?_
  refine e_iload_n 32 64 rfl rfl rfl rfl ?_
  refine e_aload_n 33 65 rfl rfl rfl rfl ?_
  refine w_getR 34 68 ckX4 flX4_9 rfl rfl (Nat.le_of_ble_eq_true rfl) (hF _ (by decide) (by decide)) rfl ?_
  refine w_alen 35 69 rfl rfl (Nat.le_of_ble_eq_true rfl) (hF _ (by decide) (by decide)) (Nat.le_of_ble_eq_true rfl) ?_
  refine e_icmp_ge 36 85 72 rfl rfl rfl (by unfold xr at *; omega) (by unfold xr at *; omega) (fun h9 => absurd h9 (by omega)) (fun _ => ?_)
  refine e_aload_n 37 73 rfl rfl rfl rfl ?_
  refine w_getR 38 76 ckX4 flX4_9 rfl rfl (Nat.le_of_ble_eq_true rfl) (hF _ (by decide) (by decide)) rfl ?_
  refine e_iload_n 39 77 rfl rfl rfl rfl ?_
  refine e_iconst 40 78 rfl rfl ?_
  refine w_iastore 41 79 rfl rfl (Nat.le_of_ble_eq_true rfl) (hF _ (by decide) (by decide)) (by omega) (by omega) (by omega) ?_
  refine e_iinc 42 82 (ls' := [some _, some _]) rfl rfl (Nat.le_of_ble_eq_true rfl) rfl rfl ?_
  refine e_goto 43 63 rfl rfl ?_
  refine e_iload_n 32 64 rfl rfl rfl rfl ?_
  refine e_aload_n 33 65 rfl rfl rfl rfl ?_
  refine w_getR 34 68 ckX4 flX4_9 rfl rfl (Nat.le_of_ble_eq_true rfl) (hF _ (by decide) (by decide)) rfl ?_
  refine w_alen 35 69 rfl rfl (Nat.le_of_ble_eq_true rfl) (hF _ (by decide) (by decide)) (Nat.le_of_ble_eq_true rfl) ?_
  refine e_icmp_ge 36 85 72 rfl rfl rfl (by unfold xr at *; omega) (by unfold xr at *; omega) (fun h9 => absurd h9 (by omega)) (fun _ => ?_)
  refine e_aload_n 37 73 rfl rfl rfl rfl ?_
  refine w_getR 38 76 ckX4 flX4_9 rfl rfl (Nat.le_of_ble_eq_true rfl) (hF _ (by decide) (by decide)) rfl ?_
  refine e_iload_n 39 77 rfl rfl rfl rfl ?_
  refine e_iconst 40 78 rfl rfl ?_
  refine w_iastore 41 79 rfl rfl (Nat.le_of_ble_eq_true rfl) (hF _ (by decide) (by decide)) (by omega) (by omega) (by omega) ?_
  refine e_iinc 42 82 (ls' := [some _, some _]) rfl rfl (Nat.le_of_ble_eq_true rfl) rfl rfl ?_
  refine e_goto 43 63 rfl rfl ?_
  refine e_iload_n 32 64 rfl rfl rfl rfl ?_
  refine e_aload_n 33 65 rfl rfl rfl rfl ?_
  refine w_getR 34 68 ckX4 flX4_9 rfl rfl (Nat.le_of_ble_eq_true rfl) (hF _ (by decide) (by decide)) rfl ?_
  refine w_alen 35 69 rfl rfl (Nat.le_of_ble_eq_true rfl) (hF _ (by decide) (by decide)) (Nat.le_of_ble_eq_true rfl) ?_
  refine e_icmp_ge 36 85 72 rfl rfl rfl (by unfold xr at *; omega) (by unfold xr at *; omega) (fun h9 => absurd h9 (by omega)) (fun _ => ?_)
  refine e_aload_n 37 73 rfl rfl rfl rfl ?_
  refine w_getR 38 76 ckX4 flX4_9 rfl rfl (Nat.le_of_ble_eq_true rfl) (hF _ (by decide) (by decide)) rfl ?_
  refine e_iload_n 39 77 rfl rfl rfl rfl ?_
  refine e_iconst 40 78 rfl rfl ?_
  refine w_iastore 41 79 rfl rfl (Nat.le_of_ble_eq_true rfl) (hF _ (by decide) (by decide)) (by omega) (by omega) (by omega) ?_
  refine e_iinc 42 82 (ls' := [some _, some _]) rfl rfl (Nat.le_of_ble_eq_true rfl) rfl rfl ?_
  refine e_goto 43 63 rfl rfl ?_
  refine e_iload_n 32 64 rfl rfl rfl rfl ?_
  refine e_aload_n 33 65 rfl rfl rfl rfl ?_
  refine w_getR 34 68 ckX4 flX4_9 rfl rfl (Nat.le_of_ble_eq_true rfl) (hF _ (by decide) (by decide)) rfl ?_
  refine w_alen 35 69 rfl rfl (Nat.le_of_ble_eq_true rfl) (hF _ (by decide) (by decide)) (Nat.le_of_ble_eq_true rfl) ?_
  refine e_icmp_ge 36 85 72 rfl rfl rfl (by unfold xr at *; omega) (by unfold xr at *; omega) (fun _ => ?_) (fun h9 => absurd h9 (by omega))
  exact e_return 44 rfl rfl (Nat.le_of_ble_eq_true rfl) (Nat.le_of_ble_eq_true rfl)
theorem sp_wBegin {N : Nat} {F : Nat → xShp} {σ : xSig} (hN : 239 ≤ N) (hF : ∀ b, 231 ≤ b → b < 239 → F b = SH b) : x_Sp MX0_beginChunks 0 0 [.ref 231] (Wd N F σ) vv (Wd N F (bgc σ)) := by
  unfold bgc
  refine e_entry okX0_beginChunks (Nat.le_of_ble_eq_true rfl) (ls := [some _, none]) rfl ?_
  refine e_iconst 0 1 rfl rfl ?_
  refine e_istore_n 1 2 (ls' := [some _, some _]) rfl rfl rfl (Nat.le_of_ble_eq_true rfl) rfl ?_
  refine e_iload_n 2 3 rfl rfl rfl rfl ?_
  refine e_iconst 3 4 rfl rfl ?_
  refine e_icmp_ge 4 48 7 rfl rfl rfl (by unfold xr at *; omega) (by unfold xr at *; omega) (fun h9 => absurd h9 (by omega)) (fun _ => ?_)
  refine e_aload_n 5 8 rfl rfl rfl rfl ?_
  refine w_getR 6 11 ckX0 flX0_9 rfl rfl (by omega) (hF _ (by decide) (by decide)) rfl ?_
  refine e_iload_n 7 12 rfl rfl rfl rfl ?_
  refine e_iload_n 8 13 rfl rfl rfl rfl ?_
  refine e_if_ne 9 20 16 rfl rfl rfl (by unfold xr at *; omega) (fun h9 => absurd h9 (by omega)) (fun _ => ?_)
  refine e_iconst 10 17 rfl rfl ?_
  refine e_goto 11 27 rfl rfl ?_
  refine w_iastore 17 28 rfl rfl (by omega) (hF _ (by decide) (by decide)) (by omega) (by omega) (by omega) ?_
  refine e_aload_n 18 29 rfl rfl rfl rfl ?_
  refine w_getR 19 32 ckX0 flX0_15 rfl rfl (by omega) (hF _ (by decide) (by decide)) rfl ?_
  refine e_iload_n 20 33 rfl rfl rfl rfl ?_
  refine e_iload_n 21 34 rfl rfl rfl rfl ?_
  refine w_iastore 22 35 rfl rfl (by omega) (hF _ (by decide) (by decide)) (by omega) (by omega) (by omega) ?_
  refine e_aload_n 23 36 rfl rfl rfl rfl ?_
  refine w_getR 24 39 ckX0 flX0_18 rfl rfl (by omega) (hF _ (by decide) (by decide)) rfl ?_
  refine e_iload_n 25 40 rfl rfl rfl rfl ?_
  refine e_iconst 26 41 rfl rfl ?_
  refine w_iastore 27 42 rfl rfl (by omega) (hF _ (by decide) (by decide)) (by omega) (by omega) (by omega) ?_
  refine e_iinc 28 45 (ls' := [some _, some _]) rfl rfl (Nat.le_of_ble_eq_true rfl) rfl rfl ?_
  refine e_goto 29 2 rfl rfl ?_
  refine e_iload_n 2 3 rfl rfl rfl rfl ?_
  refine e_iconst 3 4 rfl rfl ?_
  refine e_icmp_ge 4 48 7 rfl rfl rfl (by unfold xr at *; omega) (by unfold xr at *; omega) (fun h9 => absurd h9 (by omega)) (fun _ => ?_)
  refine e_aload_n 5 8 rfl rfl rfl rfl ?_
  refine w_getR 6 11 ckX0 flX0_9 rfl rfl (by omega) (hF _ (by decide) (by decide)) rfl ?_
  refine e_iload_n 7 12 rfl rfl rfl rfl ?_
  refine e_iload_n 8 13 rfl rfl rfl rfl ?_
  refine e_if_ne 9 20 16 rfl rfl rfl (by unfold xr at *; omega) (fun _ => ?_) (fun h9 => absurd h9 (by omega))
  refine e_sipush 12 23 rfl rfl rfl ?_
  refine e_iload_n 13 24 rfl rfl rfl rfl ?_
  refine e_imul 14 25 rfl rfl ?_
  refine e_iconst 15 26 rfl rfl ?_
  refine e_iadd 16 27 rfl rfl ?_
  refine w_iastore 17 28 rfl rfl (by omega) (hF _ (by decide) (by decide)) (by omega) (by omega) (by omega) ?_
  refine e_aload_n 18 29 rfl rfl rfl rfl ?_
  refine w_getR 19 32 ckX0 flX0_15 rfl rfl (by omega) (hF _ (by decide) (by decide)) rfl ?_
  refine e_iload_n 20 33 rfl rfl rfl rfl ?_
  refine e_iload_n 21 34 rfl rfl rfl rfl ?_
  refine w_iastore 22 35 rfl rfl (by omega) (hF _ (by decide) (by decide)) (by omega) (by omega) (by omega) ?_
  refine e_aload_n 23 36 rfl rfl rfl rfl ?_
  refine w_getR 24 39 ckX0 flX0_18 rfl rfl (by omega) (hF _ (by decide) (by decide)) rfl ?_
  refine e_iload_n 25 40 rfl rfl rfl rfl ?_
  refine e_iconst 26 41 rfl rfl ?_
  refine w_iastore 27 42 rfl rfl (by omega) (hF _ (by decide) (by decide)) (by omega) (by omega) (by omega) ?_
  refine e_iinc 28 45 (ls' := [some _, some _]) rfl rfl (Nat.le_of_ble_eq_true rfl) rfl rfl ?_
  refine e_goto 29 2 rfl rfl ?_
  refine e_iload_n 2 3 rfl rfl rfl rfl ?_
  refine e_iconst 3 4 rfl rfl ?_
  refine e_icmp_ge 4 48 7 rfl rfl rfl (by unfold xr at *; omega) (by unfold xr at *; omega) (fun h9 => absurd h9 (by omega)) (fun _ => ?_)
  refine e_aload_n 5 8 rfl rfl rfl rfl ?_
  refine w_getR 6 11 ckX0 flX0_9 rfl rfl (by omega) (hF _ (by decide) (by decide)) rfl ?_
  refine e_iload_n 7 12 rfl rfl rfl rfl ?_
  refine e_iload_n 8 13 rfl rfl rfl rfl ?_
  refine e_if_ne 9 20 16 rfl rfl rfl (by unfold xr at *; omega) (fun _ => ?_) (fun h9 => absurd h9 (by omega))
  refine e_sipush 12 23 rfl rfl rfl ?_
  refine e_iload_n 13 24 rfl rfl rfl rfl ?_
  refine e_imul 14 25 rfl rfl ?_
  refine e_iconst 15 26 rfl rfl ?_
  refine e_iadd 16 27 rfl rfl ?_
  refine w_iastore 17 28 rfl rfl (by omega) (hF _ (by decide) (by decide)) (by omega) (by omega) (by omega) ?_
  refine e_aload_n 18 29 rfl rfl rfl rfl ?_
  refine w_getR 19 32 ckX0 flX0_15 rfl rfl (by omega) (hF _ (by decide) (by decide)) rfl ?_
  refine e_iload_n 20 33 rfl rfl rfl rfl ?_
  refine e_iload_n 21 34 rfl rfl rfl rfl ?_
  refine w_iastore 22 35 rfl rfl (by omega) (hF _ (by decide) (by decide)) (by omega) (by omega) (by omega) ?_
  refine e_aload_n 23 36 rfl rfl rfl rfl ?_
  refine w_getR 24 39 ckX0 flX0_18 rfl rfl (by omega) (hF _ (by decide) (by decide)) rfl ?_
  refine e_iload_n 25 40 rfl rfl rfl rfl ?_
  refine e_iconst 26 41 rfl rfl ?_
  refine w_iastore 27 42 rfl rfl (by omega) (hF _ (by decide) (by decide)) (by omega) (by omega) (by omega) ?_
  refine e_iinc 28 45 (ls' := [some _, some _]) rfl rfl (Nat.le_of_ble_eq_true rfl) rfl rfl ?_
  refine e_goto 29 2 rfl rfl ?_
  refine e_iload_n 2 3 rfl rfl rfl rfl ?_
  refine e_iconst 3 4 rfl rfl ?_
  refine e_icmp_ge 4 48 7 rfl rfl rfl (by unfold xr at *; omega) (by unfold xr at *; omega) (fun _ => ?_) (fun h9 => absurd h9 (by omega))
  refine e_aload_n 30 49 rfl rfl rfl rfl ?_
  refine e_iconst 31 50 rfl rfl ?_
  refine w_putI 32 53 7 ckX0 flX0_34 rfl rfl (by omega) (hF _ (by decide) (by decide)) rfl rfl ?_
  exact e_return 33 rfl rfl (Nat.le_of_ble_eq_true rfl) (Nat.le_of_ble_eq_true rfl)
def chI (σ : xSig) : xSig := xu (xu (bgc (xu (xu (xu σ 231 8 1) 231 11 (-1)) 231 12 (-1))) 236 0 1) 236 1 1
theorem bgc_o (σ : xSig) {b : Nat} (h : b < 231 ∨ 234 < b) : bgc σ b = σ b := by
  unfold bgc
  rw [xu_other _ _ _ (by omega), xu_other _ _ _ (by omega), xu_other _ _ _ (by omega), xu_other _ _ _ (by omega), xu_other _ _ _ (by omega), xu_other _ _ _ (by omega), xu_other _ _ _ (by omega), xu_other _ _ _ (by omega), xu_other _ _ _ (by omega), xu_other _ _ _ (by omega)]
theorem bgc_8 (σ : xSig) : bgc σ 231 8 = σ 231 8 := by unfold bgc; simp [xu]
theorem sp_iChart {F : Nat → xShp} {σ : xSig} (hF : ∀ b, 231 ≤ b → b < 239 → F b = SH b) (hz : ∀ b, 231 ≤ b → b < 239 → ∀ j, σ b j = 0) : x_Sp MX0_init 7 231 [.ref 231] (Wd 232 (xfs F 231 (.inr (.inr (0, fr0)))) σ) vv (Wd 239 F (chI σ)) := by
  unfold chI
  have z7 : ∀ j : Int, j ≠ 8 → xu σ 231 8 1 231 j = 0 := fun j hj => by rw [xu_ne _ (Or.inr hj)]; exact hz _ (by decide) (by decide) _
  have cb := sp_wBegin (N := 239) (F := F) (σ := xu (xu (xu σ 231 8 1) 231 11 (-1)) 231 12 (-1)) (by omega) hF
  have e8 : bgc (xu (xu (xu σ 231 8 1) 231 11 (-1)) 231 12 (-1)) 231 8 = 1 := by rw [bgc_8]; simp [xu]
  generalize bgc (xu (xu (xu σ 231 8 1) 231 11 (-1)) 231 12 (-1)) = σ2 at *
  have e8' : xu σ2 236 0 1 231 8 = 1 := by rw [xu_other _ _ _ (by decide)]; exact e8
  have k93 : x_E MX0_init 7 231 93 [some (.ref 231), some (.int (ii 0))] [] (Wd 239 F σ2) 7 231 vv (Wd 239 F (xu (xu σ2 236 0 1) 236 1 1)) := by
    have k2 : x_E MX0_init 7 231 93 [some (.ref 231), some (.int (ii 1))] [] (Wd 239 F (xu σ2 236 0 1)) 7 231 vv (Wd 239 F (xu (xu σ2 236 0 1) 236 1 1)) := by
      refine e_iload_n 52 94 rfl rfl rfl rfl ?_
      refine e_aload_n 53 95 rfl rfl rfl rfl ?_
      refine w_getR 54 98 ckX0 flX0_25 rfl rfl (Nat.le_of_ble_eq_true rfl) (hF _ (by decide) (by decide)) rfl ?_
      refine w_alen 55 99 rfl rfl (Nat.le_of_ble_eq_true rfl) (hF _ (by decide) (by decide)) (Nat.le_of_ble_eq_true rfl) ?_
      refine e_icmp_ge 56 118 102 rfl rfl rfl (by unfold xr at *; omega) (by unfold xr at *; omega) (fun h9 => absurd h9 (by omega)) (fun _ => ?_)
      refine e_aload_n 57 103 rfl rfl rfl rfl ?_
      refine w_getR 58 106 ckX0 flX0_25 rfl rfl (Nat.le_of_ble_eq_true rfl) (hF _ (by decide) (by decide)) rfl ?_
      refine e_iload_n 59 107 rfl rfl rfl rfl ?_
      refine e_aload_n 60 108 rfl rfl rfl rfl ?_
      refine w_getI 61 111 8 ckX0 flX0_38 rfl rfl (Nat.le_of_ble_eq_true rfl) (hF _ (by decide) (by decide)) rfl rfl e8' ?_
      refine w_iastore 62 112 rfl rfl (Nat.le_of_ble_eq_true rfl) (hF _ (by decide) (by decide)) (by omega) (by omega) (by omega) ?_
      refine e_iinc 63 115 (ls' := [some _, some _]) rfl rfl (Nat.le_of_ble_eq_true rfl) rfl rfl ?_
      refine e_goto 64 93 rfl rfl ?_
      refine e_iload_n 52 94 rfl rfl rfl rfl ?_
      refine e_aload_n 53 95 rfl rfl rfl rfl ?_
      refine w_getR 54 98 ckX0 flX0_25 rfl rfl (Nat.le_of_ble_eq_true rfl) (hF _ (by decide) (by decide)) rfl ?_
      refine w_alen 55 99 rfl rfl (Nat.le_of_ble_eq_true rfl) (hF _ (by decide) (by decide)) (Nat.le_of_ble_eq_true rfl) ?_
      refine e_icmp_ge 56 118 102 rfl rfl rfl (by unfold xr at *; omega) (by unfold xr at *; omega) (fun _ => ?_) (fun h9 => absurd h9 (by omega))
      exact e_return 65 rfl rfl (Nat.le_of_ble_eq_true rfl) (Nat.le_of_ble_eq_true rfl)
    refine e_iload_n 52 94 rfl rfl rfl rfl ?_
    refine e_aload_n 53 95 rfl rfl rfl rfl ?_
    refine w_getR 54 98 ckX0 flX0_25 rfl rfl (Nat.le_of_ble_eq_true rfl) (hF _ (by decide) (by decide)) rfl ?_
    refine w_alen 55 99 rfl rfl (Nat.le_of_ble_eq_true rfl) (hF _ (by decide) (by decide)) (Nat.le_of_ble_eq_true rfl) ?_
    refine e_icmp_ge 56 118 102 rfl rfl rfl (by unfold xr at *; omega) (by unfold xr at *; omega) (fun h9 => absurd h9 (by omega)) (fun _ => ?_)
    refine e_aload_n 57 103 rfl rfl rfl rfl ?_
    refine w_getR 58 106 ckX0 flX0_25 rfl rfl (Nat.le_of_ble_eq_true rfl) (hF _ (by decide) (by decide)) rfl ?_
    refine e_iload_n 59 107 rfl rfl rfl rfl ?_
    refine e_aload_n 60 108 rfl rfl rfl rfl ?_
    refine w_getI 61 111 8 ckX0 flX0_38 rfl rfl (Nat.le_of_ble_eq_true rfl) (hF _ (by decide) (by decide)) rfl rfl e8 ?_
    refine w_iastore 62 112 rfl rfl (Nat.le_of_ble_eq_true rfl) (hF _ (by decide) (by decide)) (by omega) (by omega) (by omega) ?_
    refine e_iinc 63 115 (ls' := [some _, some _]) rfl rfl (Nat.le_of_ble_eq_true rfl) rfl rfl ?_
    refine e_goto 64 93 rfl rfl ?_
    exact k2
  refine e_entry okX0_init (Nat.le_of_ble_eq_true rfl) (ls := [some _, none]) rfl ?_
  refine e_aload_n 0 1 rfl rfl rfl rfl ?_
  refine w_objinit 1 4 olX0_3 oinst ocode rfl rfl (Nat.le_of_ble_eq_true rfl) (Nat.le_of_ble_eq_true rfl) (Nat.le_of_ble_eq_true rfl) ?_
  refine e_aload_n 2 5 rfl rfl rfl rfl ?_
  refine e_bipush 3 7 rfl rfl rfl ?_
  refine w_newI 4 9 (n := 12) ar_int rfl rfl (fun _ _ => rfl) ((xfs_ne _ _ (by decide)).trans (hF _ (by decide) (by decide))) (hz _ (by decide) (by decide)) (Nat.le_of_ble_eq_true rfl) (Nat.le_of_ble_eq_true rfl) (Nat.le_of_ble_eq_true rfl) ?_
  refine w_putR 5 12 ckX0 flX0_9 rfl rfl rfl (fun r h => by cases h; rfl) (Nat.le_of_ble_eq_true rfl) (Nat.le_of_ble_eq_true rfl) (fun _ => rfl) (fun _ => rfl) rfl ?_
  refine e_aload_n 6 13 rfl rfl rfl rfl ?_
  refine e_bipush 7 15 rfl rfl rfl ?_
  refine w_newI 8 17 (n := 12) ar_int rfl rfl (fun _ _ => rfl) ((xfs_ne _ _ (by decide)).trans (hF _ (by decide) (by decide))) (hz _ (by decide) (by decide)) (Nat.le_of_ble_eq_true rfl) (Nat.le_of_ble_eq_true rfl) (Nat.le_of_ble_eq_true rfl) ?_
  refine w_putR 9 20 ckX0 flX0_15 rfl rfl rfl (fun r h => by cases h; rfl) (Nat.le_of_ble_eq_true rfl) (Nat.le_of_ble_eq_true rfl) (fun _ => rfl) (fun _ => rfl) rfl ?_
  refine e_aload_n 10 21 rfl rfl rfl rfl ?_
  refine e_iconst 11 22 rfl rfl ?_
  refine w_newI 12 24 (n := 3) ar_int rfl rfl (fun _ _ => rfl) ((xfs_ne _ _ (by decide)).trans (hF _ (by decide) (by decide))) (hz _ (by decide) (by decide)) (Nat.le_of_ble_eq_true rfl) (Nat.le_of_ble_eq_true rfl) (Nat.le_of_ble_eq_true rfl) ?_
  refine w_putR 13 27 ckX0 flX0_18 rfl rfl rfl (fun r h => by cases h; rfl) (Nat.le_of_ble_eq_true rfl) (Nat.le_of_ble_eq_true rfl) (fun _ => rfl) (fun _ => rfl) rfl ?_
  refine e_aload_n 14 28 rfl rfl rfl rfl ?_
  refine e_bipush 15 30 rfl rfl rfl ?_
  refine w_newZ 16 32 (n := 100) ar_boolean rfl rfl (fun _ _ => rfl) ((xfs_ne _ _ (by decide)).trans (hF _ (by decide) (by decide))) (hz _ (by decide) (by decide)) (Nat.le_of_ble_eq_true rfl) (Nat.le_of_ble_eq_true rfl) (Nat.le_of_ble_eq_true rfl) ?_
  refine w_putR 17 35 ckX0 flX0_21 rfl rfl rfl (fun r h => by cases h; rfl) (Nat.le_of_ble_eq_true rfl) (Nat.le_of_ble_eq_true rfl) (fun _ => rfl) (fun _ => rfl) rfl ?_
  refine e_aload_n 18 36 rfl rfl rfl rfl ?_
  refine e_iconst 19 37 rfl rfl ?_
  refine w_newI 20 39 (n := 2) ar_int rfl rfl (fun _ _ => rfl) ((xfs_ne _ _ (by decide)).trans (hF _ (by decide) (by decide))) (hz _ (by decide) (by decide)) (Nat.le_of_ble_eq_true rfl) (Nat.le_of_ble_eq_true rfl) (Nat.le_of_ble_eq_true rfl) ?_
  refine w_putR 21 42 ckX0 flX0_25 rfl rfl rfl (fun r h => by cases h; rfl) (Nat.le_of_ble_eq_true rfl) (Nat.le_of_ble_eq_true rfl) (fun _ => rfl) (fun _ => rfl) rfl ?_
  refine e_aload_n 22 43 rfl rfl rfl rfl ?_
  refine e_iconst 23 44 rfl rfl ?_
  refine w_newI 24 46 (n := 2) ar_int rfl rfl (fun _ _ => rfl) ((xfs_ne _ _ (by decide)).trans (hF _ (by decide) (by decide))) (hz _ (by decide) (by decide)) (Nat.le_of_ble_eq_true rfl) (Nat.le_of_ble_eq_true rfl) (Nat.le_of_ble_eq_true rfl) ?_
  refine w_putR 25 49 ckX0 flX0_28 rfl rfl rfl (fun r h => by cases h; rfl) (Nat.le_of_ble_eq_true rfl) (Nat.le_of_ble_eq_true rfl) (fun _ => rfl) (fun _ => rfl) rfl ?_
  refine e_aload_n 26 50 rfl rfl rfl rfl ?_
  refine e_bipush 27 52 rfl rfl rfl ?_
  refine w_newI 28 54 (n := 100) ar_int rfl rfl (fun _ _ => rfl) ((xfs_ne _ _ (by decide)).trans (hF _ (by decide) (by decide))) (hz _ (by decide) (by decide)) (Nat.le_of_ble_eq_true rfl) (Nat.le_of_ble_eq_true rfl) (Nat.le_of_ble_eq_true rfl) ?_
  refine w_putR 29 57 ckX0 flX0_31 rfl rfl rfl (fun r h => by cases h; rfl) (Nat.le_of_ble_eq_true rfl) (Nat.le_of_ble_eq_true rfl) (fun _ => rfl) (fun _ => rfl) rfl ?_
  refine w_fold ((hF 231 (by decide) (by decide)).trans rfl) ?_
  refine e_aload_n 30 58 rfl rfl rfl rfl ?_
  refine e_iconst 31 59 rfl rfl ?_
  refine w_put0 32 62 ckX0 flX0_34 rfl rfl (Nat.le_of_ble_eq_true rfl) (hF _ (by decide) (by decide)) rfl (hz _ (by decide) (by decide) _) ?_
  refine e_aload_n 33 63 rfl rfl rfl rfl ?_
  refine e_iconst 34 64 rfl rfl ?_
  refine w_putI 35 67 8 ckX0 flX0_38 rfl rfl (Nat.le_of_ble_eq_true rfl) (hF _ (by decide) (by decide)) rfl rfl ?_
  refine e_aload_n 36 68 rfl rfl rfl rfl ?_
  refine e_iconst 37 69 rfl rfl ?_
  refine w_put0 38 72 ckX0 flX0_41 rfl rfl (Nat.le_of_ble_eq_true rfl) (hF _ (by decide) (by decide)) rfl (z7 _ (by decide)) ?_
  refine e_aload_n 39 73 rfl rfl rfl rfl ?_
  refine e_iconst 40 74 rfl rfl ?_
  refine w_put0Z 41 77 ckX0 flX0_44 rfl rfl (Nat.le_of_ble_eq_true rfl) (hF _ (by decide) (by decide)) rfl (z7 _ (by decide)) ?_
  refine e_aload_n 42 78 rfl rfl rfl rfl ?_
  refine e_iconst 43 79 rfl rfl ?_
  refine w_putI 44 82 11 ckX0 flX0_48 rfl rfl (Nat.le_of_ble_eq_true rfl) (hF _ (by decide) (by decide)) rfl rfl ?_
  refine e_aload_n 45 83 rfl rfl rfl rfl ?_
  refine e_iconst 46 84 rfl rfl ?_
  refine w_putI 47 87 12 ckX0 flX0_51 rfl rfl (Nat.le_of_ble_eq_true rfl) (hF _ (by decide) (by decide)) rfl rfl ?_
  refine e_aload_n 48 88 rfl rfl rfl rfl ?_
  refine w_callV 49 91 (cb) okX0_beginChunks cvX0_54 ⟨(Nat.le_of_ble_eq_true rfl), (Nat.le_of_ble_eq_true rfl)⟩ rfl rfl (Nat.le_of_ble_eq_true rfl) (hF _ (by decide) (by decide)) rfl rfl rfl rfl (Nat.le_of_ble_eq_true rfl) (Nat.le_of_ble_eq_true rfl) (Nat.le_of_ble_eq_true rfl) ?_
  refine e_iconst 50 92 rfl rfl ?_
  refine e_istore_n 51 93 (ls' := [some _, some _]) rfl rfl rfl (Nat.le_of_ble_eq_true rfl) rfl ?_
  exact k93
