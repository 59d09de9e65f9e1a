/-! ===== constructors: pile, store, query ===== -/
def fil (f : Nat → Nat) (n i : Nat) : List (Option Nat) := (List.range i).map (fun k => some (f k)) ++ List.replicate (n - i) none
theorem fil_len {f : Nat → Nat} {n i : Nat} (h : i ≤ n) : (fil f n i).length = n := by unfold fil; simp; omega
theorem fil_set {f : Nat → Nat} {n i : Nat} (h : i < n) : (fil f n i).set i (some (f i)) = fil f n (i + 1) := by
  unfold fil
  obtain ⟨m, hm⟩ : ∃ m, n - i = m + 1 := ⟨n - i - 1, by omega⟩
  rw [hm, show n - (i + 1) = m by omega, List.range_succ, List.map_append, List.replicate_succ, List.set_append]
  simp
theorem x_agree {F : Nat → xShp} {a b : Nat} {P Q : xShp} : ∀ c, c < b → xfs (xfs F b Q) a P c = xfs F a P c := fun c hc => by
  unfold xfs
  split
  · rfl
  · rw [if_neg (by omega)]
theorem x_fresh {F : Nat → xShp} {a b : Nat} {P Q : xShp} (h : b ≠ a) : xfs (xfs F b Q) a P b = Q := by rw [xfs_ne _ _ h, xfs_at]
theorem x_par {F : Nat → xShp} {a b : Nat} {P Q : xShp} (h : a ≠ b) (hP : F a = P) : xfs F b Q a = P := (xfs_ne _ _ h).trans hP

theorem pile_lp {F : Nat → xShp} {σ : xSig} (hF : ∀ b, 1 ≤ b → b < 25 → F b = SH b) (hz : ∀ b, 5 ≤ b → b < 25 → ∀ j, σ b j = 0) : ∀ (m i N kc ks : Nat), i + m = 10 → N = 5 + 2 * i → kc = 3 + 2 * i → ks = 12 + 74 * i → x_E MX5_init 23 752 32 [some (.ref 1), some (.int (ii i))] [] (Wd N (xfs F 2 (.inr (.inl (3, fil (fun k => 5 + 2 * k) 10 i)))) σ) kc ks vv (Wd 25 F σ) := by
  intro m
  induction m with
  | zero =>
    intro i N kc ks hi hN hkc hks
    have hlen := fil_len (f := (fun k => 5 + 2 * k)) (n := 10) (i := i) (by omega)
    obtain rfl : i = 10 := by omega
    subst hN
    refine e_iload_n 17 33 rfl rfl rfl rfl ?_
    refine e_aload_n 18 34 rfl rfl rfl rfl ?_
    refine w_getR 19 37 ckX5 flX5_11 rfl rfl (Nat.le_of_ble_eq_true rfl) ((xfs_ne _ _ (by decide)).trans (hF _ (by decide) (by decide))) rfl ?_
    refine w_alenR 20 38 rfl rfl (Nat.le_of_ble_eq_true rfl) (xfs_at _ _ _) (Or.inl rfl) ?_
    refine e_icmp_ge 21 62 41 rfl rfl rfl (by unfold xr at *; omega) (by unfold xr at *; omega) (fun _ => ?_) (fun h9 => absurd h9 (by omega))
    refine w_fold ((hF 2 (by decide) (by decide)).trans rfl) ?_
    exact e_return 32 rfl rfl (by omega) (by omega)
  | succ m ih =>
    intro i N kc ks hi hN hkc hks
    subst hN
    have hlen := fil_len (f := (fun k => 5 + 2 * k)) (n := 10) (i := i) (by omega)
    have h7 : 1 < 5 + 2 * i := by omega
    have h8 : 2 < 5 + 2 * i := by omega
    have hv := isVal_p i (by omega)
    have c1 := sp_iVal (F := xfs F 2 (.inr (.inl (3, fil (fun k => 5 + 2 * k) 10 i)))) (σ := σ) (a := 5 + 2 * i) (n := 72) ((xfs_ne _ _ (by omega)).trans ((hF _ (by omega) (by omega)).trans hv.2.2.1)) ((xfs_ne _ _ (by omega)).trans ((hF _ (by omega) (by omega)).trans hv.2.2.2)) (fun j => ⟨hz _ (by omega) (by omega) j, hz _ (by omega) (by omega) j⟩) (by omega)
    have k2 := ih (i + 1) (5 + 2 * i + 2) (kc + 1 + 1) (ks + 2 + 72) (by omega) (by omega) (by omega) (by omega)
    refine e_iload_n 17 33 rfl rfl rfl rfl ?_
    refine e_aload_n 18 34 rfl rfl rfl rfl ?_
    refine w_getR 19 37 ckX5 flX5_11 rfl rfl h7 ((xfs_ne _ _ (by decide)).trans (hF _ (by decide) (by decide))) rfl ?_
    refine w_alenR 20 38 rfl rfl h8 (xfs_at _ _ _) (Or.inl rfl) ?_
    refine e_icmp_ge 21 62 41 rfl rfl rfl (by unfold xr at *; omega) (by unfold xr at *; omega) (fun h9 => absurd h9 (by omega)) (fun _ => ?_)
    refine e_aload_n 22 42 rfl rfl rfl rfl ?_
    refine w_getR 23 45 ckX5 flX5_11 rfl rfl h7 ((xfs_ne _ _ (by decide)).trans (hF _ (by decide) (by decide))) rfl ?_
    refine e_iload_n 24 46 rfl rfl rfl rfl ?_
    refine w_new 25 49 (F2 := xfs (xfs F 2 (.inr (.inl (3, fil (fun k => 5 + 2 * k) 10 i)))) (5 + 2 * i) (.inr (.inr (10, fr10)))) tyX10 ckX10 rfl tyX10_ok clX5_9 inX10 izX10 rfl rfl (fun c hc => xfs_ne _ _ (by omega)) (xfs_at _ _ _) (hz _ (by omega) (by omega)) df10 (by first | omega | (dsimp only; omega)) (by first | omega | (dsimp only; omega)) ?_
    refine e_dup 26 50 rfl rfl rfl ?_
    refine e_bipush 27 52 rfl rfl rfl ?_
    refine e_callI 28 55 (c1) okX10_init ciX5_17 ⟨(Nat.le_of_ble_eq_true rfl), (Nat.le_of_ble_eq_true rfl)⟩ rfl rfl rfl rfl (Nat.le_of_ble_eq_true rfl) (by first | omega | (dsimp only; omega)) (by first | omega | (dsimp only; omega)) ?_
    refine w_aastore 29 56 (n := 0) (kd := 3) (ci := 10) (F2 := xfs F 2 (.inr (.inl (3, fil (fun k => 5 + 2 * k) 10 (i + 1))))) rfl rfl (show 2 < 5 + 2 * i + 2 by omega) (xfs_at _ _ _) (show 5 + 2 * i < 5 + 2 * i + 2 by omega) ((xfs_ne _ _ (by omega)).trans ((hF _ (by omega) (by omega)).trans hv.2.2.1)) rfl (fun _ => rfl) (by rw [hlen]; omega) (by rw [hlen]; omega) (fun c _ hc => by rw [xfs_ne _ _ hc, xfs_ne _ _ hc]) (by rw [xfs_at, fil_set (by omega)]) ?_
    refine e_iinc 30 59 (ls' := [some _, some _]) rfl rfl (Nat.le_of_ble_eq_true rfl) rfl rfl ?_
    refine e_goto 31 32 rfl rfl ?_
    exact k2

theorem store_lp {F : Nat → xShp} {σ : xSig} (hF : ∀ b, 25 ≤ b → b < 231 → F b = SH b) (hz : ∀ b, 31 ≤ b → b < 231 → ∀ j, σ b j = 0) : ∀ (m i N kc ks : Nat), i + m = 100 → N = 31 + 2 * i → kc = 5 + 2 * i → ks = 210 + 74 * i → x_E MX8_init 205 7610 48 [some (.ref 25), some (.int (ii i))] [] (Wd N (xfs F 26 (.inr (.inl (3, fil (fun k => 31 + 2 * k) 100 i)))) σ) kc ks vv (Wd 231 F σ) := by
  intro m
  induction m with
  | zero =>
    intro i N kc ks hi hN hkc hks
    have hlen := fil_len (f := (fun k => 31 + 2 * k)) (n := 100) (i := i) (by omega)
    obtain rfl : i = 100 := by omega
    subst hN
    refine e_iload_n 25 49 rfl rfl rfl rfl ?_
    refine e_aload_n 26 50 rfl rfl rfl rfl ?_
    refine w_getR 27 53 ckX8 flX8_11 rfl rfl (Nat.le_of_ble_eq_true rfl) ((xfs_ne _ _ (by decide)).trans (hF _ (by decide) (by decide))) rfl ?_
    refine w_alenR 28 54 rfl rfl (Nat.le_of_ble_eq_true rfl) (xfs_at _ _ _) (Or.inl rfl) ?_
    refine e_icmp_ge 29 78 57 rfl rfl rfl (by unfold xr at *; omega) (by unfold xr at *; omega) (fun _ => ?_) (fun h9 => absurd h9 (by omega))
    refine w_fold ((hF 26 (by decide) (by decide)).trans rfl) ?_
    exact e_return 40 rfl rfl (by omega) (by omega)
  | succ m ih =>
    intro i N kc ks hi hN hkc hks
    subst hN
    have hlen := fil_len (f := (fun k => 31 + 2 * k)) (n := 100) (i := i) (by omega)
    have h7 : 25 < 31 + 2 * i := by omega
    have h8 : 26 < 31 + 2 * i := by omega
    have hv := isVal_s i (by omega)
    have c1 := sp_iVal (F := xfs F 26 (.inr (.inl (3, fil (fun k => 31 + 2 * k) 100 i)))) (σ := σ) (a := 31 + 2 * i) (n := 72) ((xfs_ne _ _ (by omega)).trans ((hF _ (by omega) (by omega)).trans hv.2.2.1)) ((xfs_ne _ _ (by omega)).trans ((hF _ (by omega) (by omega)).trans hv.2.2.2)) (fun j => ⟨hz _ (by omega) (by omega) j, hz _ (by omega) (by omega) j⟩) (by omega)
    have k2 := ih (i + 1) (31 + 2 * i + 2) (kc + 1 + 1) (ks + 2 + 72) (by omega) (by omega) (by omega) (by omega)
    refine e_iload_n 25 49 rfl rfl rfl rfl ?_
    refine e_aload_n 26 50 rfl rfl rfl rfl ?_
    refine w_getR 27 53 ckX8 flX8_11 rfl rfl h7 ((xfs_ne _ _ (by decide)).trans (hF _ (by decide) (by decide))) rfl ?_
    refine w_alenR 28 54 rfl rfl h8 (xfs_at _ _ _) (Or.inl rfl) ?_
    refine e_icmp_ge 29 78 57 rfl rfl rfl (by unfold xr at *; omega) (by unfold xr at *; omega) (fun h9 => absurd h9 (by omega)) (fun _ => ?_)
    refine e_aload_n 30 58 rfl rfl rfl rfl ?_
    refine w_getR 31 61 ckX8 flX8_11 rfl rfl h7 ((xfs_ne _ _ (by decide)).trans (hF _ (by decide) (by decide))) rfl ?_
    refine e_iload_n 32 62 rfl rfl rfl rfl ?_
    refine w_new 33 65 (F2 := xfs (xfs F 26 (.inr (.inl (3, fil (fun k => 31 + 2 * k) 100 i)))) (31 + 2 * i) (.inr (.inr (10, fr10)))) tyX10 ckX10 rfl tyX10_ok clX8_9 inX10 izX10 rfl rfl (fun c hc => xfs_ne _ _ (by omega)) (xfs_at _ _ _) (hz _ (by omega) (by omega)) df10 (by first | omega | (dsimp only; omega)) (by first | omega | (dsimp only; omega)) ?_
    refine e_dup 34 66 rfl rfl rfl ?_
    refine e_bipush 35 68 rfl rfl rfl ?_
    refine e_callI 36 71 (c1) okX10_init ciX8_25 ⟨(Nat.le_of_ble_eq_true rfl), (Nat.le_of_ble_eq_true rfl)⟩ rfl rfl rfl rfl (Nat.le_of_ble_eq_true rfl) (by first | omega | (dsimp only; omega)) (by first | omega | (dsimp only; omega)) ?_
    refine w_aastore 37 72 (n := 0) (kd := 3) (ci := 10) (F2 := xfs F 26 (.inr (.inl (3, fil (fun k => 31 + 2 * k) 100 (i + 1))))) rfl rfl (show 26 < 31 + 2 * i + 2 by omega) (xfs_at _ _ _) (show 31 + 2 * i < 31 + 2 * i + 2 by omega) ((xfs_ne _ _ (by omega)).trans ((hF _ (by omega) (by omega)).trans hv.2.2.1)) rfl (fun _ => rfl) (by rw [hlen]; omega) (by rw [hlen]; omega) (fun c _ hc => by rw [xfs_ne _ _ hc, xfs_ne _ _ hc]) (by rw [xfs_at, fil_set (by omega)]) ?_
    refine e_iinc 38 75 (ls' := [some _, some _]) rfl rfl (Nat.le_of_ble_eq_true rfl) rfl rfl ?_
    refine e_goto 39 48 rfl rfl ?_
    exact k2

theorem query_lp {F : Nat → xShp} {σ : xSig} (hF : ∀ b, 256 ≤ b → b < 273 → F b = SH b) (hz : ∀ b, 264 ≤ b → b < 273 → ∀ j, σ b j = 0) : ∀ (m i N kc ks : Nat), i + m = 3 → N = 264 + 3 * i → kc = 7 + 3 * i → ks = 166 + 77 * i → x_E MX7_init 16 397 74 [some (.ref 256), some (.int (ii i))] [] (Wd N (xfs F 257 (.inr (.inl (4, fil (fun k => 264 + 3 * k) 3 i)))) σ) kc ks vv (Wd 273 F σ) := by
  intro m
  induction m with
  | zero =>
    intro i N kc ks hi hN hkc hks
    have hlen := fil_len (f := (fun k => 264 + 3 * k)) (n := 3) (i := i) (by omega)
    obtain rfl : i = 3 := by omega
    subst hN
    refine e_iload_n 40 75 rfl rfl rfl rfl ?_
    refine e_aload_n 41 76 rfl rfl rfl rfl ?_
    refine w_getR 42 79 ckX7 flX7_11 rfl rfl (Nat.le_of_ble_eq_true rfl) ((xfs_ne _ _ (by decide)).trans (hF _ (by decide) (by decide))) rfl ?_
    refine w_alenR 43 80 rfl rfl (Nat.le_of_ble_eq_true rfl) (xfs_at _ _ _) (Or.inr rfl) ?_
    refine e_icmp_ge 44 102 83 rfl rfl rfl (by unfold xr at *; omega) (by unfold xr at *; omega) (fun _ => ?_) (fun h9 => absurd h9 (by omega))
    refine w_fold ((hF 257 (by decide) (by decide)).trans rfl) ?_
    exact e_return 54 rfl rfl (by omega) (by omega)
  | succ m ih =>
    intro i N kc ks hi hN hkc hks
    subst hN
    have hlen := fil_len (f := (fun k => 264 + 3 * k)) (n := 3) (i := i) (by omega)
    have h7 : 256 < 264 + 3 * i := by omega
    have h8 : 257 < 264 + 3 * i := by omega
    have hi' := isFi_s i (by omega)
    have hv := isVal_f i (by omega)
    have c1 := sp_iFil (F := xfs F 257 (.inr (.inl (4, fil (fun k => 264 + 3 * k) 3 i)))) (σ := σ) (a := 264 + 3 * i) ((xfs_ne _ _ (by omega)).trans ((hF _ (by omega) (by omega)).trans hi'.2.1)) ((xfs_ne _ _ (by omega)).trans ((hF _ (by omega) (by omega)).trans ((by rw [show 264 + 3 * i + 1 = 265 + 3 * i by omega] : SH (264 + 3 * i + 1) = SH (265 + 3 * i)).trans (hv.2.2.1.trans (by rw [show 264 + 3 * i + 2 = 265 + 3 * i + 1 by omega]))))) ((xfs_ne _ _ (by omega)).trans ((hF _ (by omega) (by omega)).trans ((by rw [show 264 + 3 * i + 2 = 265 + 3 * i + 1 by omega] : SH (264 + 3 * i + 2) = SH (265 + 3 * i + 1)).trans hv.2.2.2))) (fun b b1 b2 => hz b (by omega) (by omega))
    have k2 := ih (i + 1) (264 + 3 * i + 3) (kc + 1 + 2) (ks + 3 + 74) (by omega) (by omega) (by omega) (by omega)
    refine e_iload_n 40 75 rfl rfl rfl rfl ?_
    refine e_aload_n 41 76 rfl rfl rfl rfl ?_
    refine w_getR 42 79 ckX7 flX7_11 rfl rfl h7 ((xfs_ne _ _ (by decide)).trans (hF _ (by decide) (by decide))) rfl ?_
    refine w_alenR 43 80 rfl rfl h8 (xfs_at _ _ _) (Or.inr rfl) ?_
    refine e_icmp_ge 44 102 83 rfl rfl rfl (by unfold xr at *; omega) (by unfold xr at *; omega) (fun h9 => absurd h9 (by omega)) (fun _ => ?_)
    refine e_aload_n 45 84 rfl rfl rfl rfl ?_
    refine w_getR 46 87 ckX7 flX7_11 rfl rfl h7 ((xfs_ne _ _ (by decide)).trans (hF _ (by decide) (by decide))) rfl ?_
    refine e_iload_n 47 88 rfl rfl rfl rfl ?_
    refine w_new 48 91 (F2 := xfs (xfs F 257 (.inr (.inl (4, fil (fun k => 264 + 3 * k) 3 i)))) (264 + 3 * i) (.inr (.inr (2, fr2)))) tyX2 ckX2 rfl tyX2_ok clX7_9 inX2 izX2 rfl rfl (fun c hc => xfs_ne _ _ (by omega)) (xfs_at _ _ _) (hz _ (by omega) (by omega)) df2 (by first | omega | (dsimp only; omega)) (by first | omega | (dsimp only; omega)) ?_
    refine e_dup 49 92 rfl rfl rfl ?_
    refine e_callIN 50 95 (c1) okX2_init ciX7_17 ⟨(Nat.le_of_ble_eq_true rfl), (Nat.le_of_ble_eq_true rfl)⟩ rfl rfl rfl rfl (Nat.le_of_ble_eq_true rfl) (by first | omega | (dsimp only; omega)) (by first | omega | (dsimp only; omega)) ?_
    refine w_aastore 51 96 (n := 0) (kd := 4) (ci := 2) (F2 := xfs F 257 (.inr (.inl (4, fil (fun k => 264 + 3 * k) 3 (i + 1))))) rfl rfl (show 257 < 264 + 3 * i + 3 by omega) (xfs_at _ _ _) (show 264 + 3 * i < 264 + 3 * i + 3 by omega) ((xfs_ne _ _ (by omega)).trans ((hF _ (by omega) (by omega)).trans hi'.2.1)) rfl (fun _ => rfl) (by rw [hlen]; omega) (by rw [hlen]; omega) (fun c _ hc => by rw [xfs_ne _ _ hc, xfs_ne _ _ hc]) (by rw [xfs_at, fil_set (by omega)]) ?_
    refine e_iinc 52 99 (ls' := [some _, some _]) rfl rfl (Nat.le_of_ble_eq_true rfl) rfl rfl ?_
    refine e_goto 53 74 rfl rfl ?_
    exact k2

theorem sp_iPile {F : Nat → xShp} {σ : xSig} (hF : ∀ b, 1 ≤ b → b < 25 → F b = SH b) (hz : ∀ b, 1 ≤ b → b < 25 → ∀ j, σ b j = 0) : x_Sp MX5_init 23 752 [.ref 1] (Wd 2 (xfs F 1 (.inr (.inr (5, fr5)))) σ) vv (Wd 25 F σ) := by
  have c1 := fun P Q => sp_iVal (F := xfs (xfs F 2 Q) 1 P) (σ := σ) (a := 3) (n := 0) ((xfs_ne _ _ (by decide)).trans ((xfs_ne _ _ (by decide)).trans (hF _ (by decide) (by decide)))) ((xfs_ne _ _ (by decide)).trans ((xfs_ne _ _ (by decide)).trans (hF _ (by decide) (by decide)))) (fun j => ⟨hz 3 (by decide) (by decide) j, hz 4 (by decide) (by decide) j⟩) (by omega)
  have k32 := pile_lp hF (fun b b1 b2 => hz b (by omega) b2) 10 0 5 3 12 (by omega) (by omega) (by omega) (by omega)
  refine e_entry okX5_init (Nat.le_of_ble_eq_true rfl) (ls := [some _, none]) rfl ?_
  refine e_aload_n 0 1 rfl rfl rfl rfl ?_
  refine w_objinit 1 4 olX5_3 oinst ocode rfl rfl (Nat.le_of_ble_eq_true rfl) (Nat.le_of_ble_eq_true rfl) (Nat.le_of_ble_eq_true rfl) ?_
  refine e_aload_n 2 5 rfl rfl rfl rfl ?_
  refine e_bipush 3 7 rfl rfl rfl ?_
  refine w_newq 4 10 (n := 10) (kd := 3) (F2 := xfs (xfs F 2 (.inr (.inl (3, List.replicate 10 none)))) 1 (.inr (.inr (5, fr5)))) clX5_9 (fun _ _ _ h => h.2.2.2.2.2.1) (fun _ => rfl) rfl rfl x_agree (x_fresh (by decide)) (Nat.le_of_ble_eq_true rfl) (Nat.le_of_ble_eq_true rfl) (Nat.le_of_ble_eq_true rfl) ?_
  refine w_putR 5 13 ckX5 flX5_11 rfl rfl rfl (fun r h => by cases h; rfl) (Nat.le_of_ble_eq_true rfl) (Nat.le_of_ble_eq_true rfl) (fun _ => rfl) (fun _ => rfl) rfl ?_
  refine e_aload_n 6 14 rfl rfl rfl rfl ?_
  refine w_new 7 17 (F2 := xfs _ 3 (.inr (.inr (10, fr10)))) tyX10 ckX10 rfl tyX10_ok clX5_9 inX10 izX10 rfl rfl (fun c hc => xfs_ne _ _ (by omega)) (xfs_at _ _ _) (hz _ (by decide) (by decide)) df10 (Nat.le_of_ble_eq_true rfl) (Nat.le_of_ble_eq_true rfl) ?_
  refine e_dup 8 18 rfl rfl rfl ?_
  refine e_iconst 9 19 rfl rfl ?_
  refine e_callI 10 22 (c1 _ _) okX10_init ciX5_17 ⟨(Nat.le_of_ble_eq_true rfl), (Nat.le_of_ble_eq_true rfl)⟩ rfl rfl rfl rfl (Nat.le_of_ble_eq_true rfl) (Nat.le_of_ble_eq_true rfl) (Nat.le_of_ble_eq_true rfl) ?_
  refine w_putR 11 25 ckX5 flX5_20 rfl rfl rfl (fun r h => by cases h; rfl) (Nat.le_of_ble_eq_true rfl) (Nat.le_of_ble_eq_true rfl) (fun _ => rfl) (fun _ => rfl) rfl ?_
  refine w_fold (x_par (by decide) ((hF 1 (by decide) (by decide)).trans rfl)) ?_
  refine e_aload_n 12 26 rfl rfl rfl rfl ?_
  refine e_iconst 13 27 rfl rfl ?_
  refine w_put0 14 30 ckX5 flX5_24 rfl rfl (Nat.le_of_ble_eq_true rfl) ((xfs_ne _ _ (by decide)).trans (hF _ (by decide) (by decide))) rfl (hz _ (by decide) (by decide) _) ?_
  refine e_iconst 15 31 rfl rfl ?_
  refine e_istore_n 16 32 (ls' := [some _, some _]) rfl rfl rfl (Nat.le_of_ble_eq_true rfl) rfl ?_
  exact k32
theorem sp_iStore {F : Nat → xShp} {σ : xSig} (hF : ∀ b, 25 ≤ b → b < 231 → F b = SH b) (hz : ∀ b, 25 ≤ b → b < 231 → ∀ j, σ b j = 0) : x_Sp MX8_init 205 7610 [.ref 25] (Wd 26 (xfs F 25 (.inr (.inr (8, fr8)))) σ) vv (Wd 231 F σ) := by
  have c1 := fun P Q => sp_iVal (F := xfs (xfs F 26 Q) 25 P) (σ := σ) (a := 29) (n := 0) ((xfs_ne _ _ (by decide)).trans ((xfs_ne _ _ (by decide)).trans (hF _ (by decide) (by decide)))) ((xfs_ne _ _ (by decide)).trans ((xfs_ne _ _ (by decide)).trans (hF _ (by decide) (by decide)))) (fun j => ⟨hz 29 (by decide) (by decide) j, hz 30 (by decide) (by decide) j⟩) (by omega)
  have k48 := store_lp hF (fun b b1 b2 => hz b (by omega) b2) 100 0 31 5 210 (by omega) (by omega) (by omega) (by omega)
  refine e_entry okX8_init (Nat.le_of_ble_eq_true rfl) (ls := [some _, none]) rfl ?_
  refine e_aload_n 0 1 rfl rfl rfl rfl ?_
  refine w_objinit 1 4 olX8_3 oinst ocode rfl rfl (Nat.le_of_ble_eq_true rfl) (Nat.le_of_ble_eq_true rfl) (Nat.le_of_ble_eq_true rfl) ?_
  refine e_aload_n 2 5 rfl rfl rfl rfl ?_
  refine e_bipush 3 7 rfl rfl rfl ?_
  refine w_newq 4 10 (n := 100) (kd := 3) (F2 := xfs (xfs F 26 (.inr (.inl (3, List.replicate 100 none)))) 25 (.inr (.inr (8, fr8)))) clX8_9 (fun _ _ _ h => h.2.2.2.2.2.1) (fun _ => rfl) rfl rfl x_agree (x_fresh (by decide)) (Nat.le_of_ble_eq_true rfl) (Nat.le_of_ble_eq_true rfl) (Nat.le_of_ble_eq_true rfl) ?_
  refine w_putR 5 13 ckX8 flX8_11 rfl rfl rfl (fun r h => by cases h; rfl) (Nat.le_of_ble_eq_true rfl) (Nat.le_of_ble_eq_true rfl) (fun _ => rfl) (fun _ => rfl) rfl ?_
  refine e_aload_n 6 14 rfl rfl rfl rfl ?_
  refine e_bipush 7 16 rfl rfl rfl ?_
  refine w_newZ 8 18 (n := 100) ar_boolean rfl rfl (fun _ _ => rfl) ((xfs_ne _ _ (by decide)).trans ((xfs_ne _ _ (by decide)).trans (hF _ (by decide) (by decide)))) (hz _ (by decide) (by decide)) (Nat.le_of_ble_eq_true rfl) (Nat.le_of_ble_eq_true rfl) (Nat.le_of_ble_eq_true rfl) ?_
  refine w_putR 9 21 ckX8 flX8_17 rfl rfl rfl (fun r h => by cases h; rfl) (Nat.le_of_ble_eq_true rfl) (Nat.le_of_ble_eq_true rfl) (fun _ => rfl) (fun _ => rfl) rfl ?_
  refine e_aload_n 10 22 rfl rfl rfl rfl ?_
  refine e_bipush 11 24 rfl rfl rfl ?_
  refine w_newI 12 26 (n := 8) ar_int rfl rfl (fun _ _ => rfl) ((xfs_ne _ _ (by decide)).trans ((xfs_ne _ _ (by decide)).trans (hF _ (by decide) (by decide)))) (hz _ (by decide) (by decide)) (Nat.le_of_ble_eq_true rfl) (Nat.le_of_ble_eq_true rfl) (Nat.le_of_ble_eq_true rfl) ?_
  refine w_putR 13 29 ckX8 flX8_21 rfl rfl rfl (fun r h => by cases h; rfl) (Nat.le_of_ble_eq_true rfl) (Nat.le_of_ble_eq_true rfl) (fun _ => rfl) (fun _ => rfl) rfl ?_
  refine e_aload_n 14 30 rfl rfl rfl rfl ?_
  refine w_new 15 33 (F2 := xfs _ 29 (.inr (.inr (10, fr10)))) tyX10 ckX10 rfl tyX10_ok clX8_9 inX10 izX10 rfl rfl (fun c hc => xfs_ne _ _ (by omega)) (xfs_at _ _ _) (hz _ (by decide) (by decide)) df10 (Nat.le_of_ble_eq_true rfl) (Nat.le_of_ble_eq_true rfl) ?_
  refine e_dup 16 34 rfl rfl rfl ?_
  refine e_iconst 17 35 rfl rfl ?_
  refine e_callI 18 38 (c1 _ _) okX10_init ciX8_25 ⟨(Nat.le_of_ble_eq_true rfl), (Nat.le_of_ble_eq_true rfl)⟩ rfl rfl rfl rfl (Nat.le_of_ble_eq_true rfl) (Nat.le_of_ble_eq_true rfl) (Nat.le_of_ble_eq_true rfl) ?_
  refine w_putR 19 41 ckX8 flX8_28 rfl rfl rfl (fun r h => by cases h; rfl) (Nat.le_of_ble_eq_true rfl) (Nat.le_of_ble_eq_true rfl) (fun _ => rfl) (fun _ => rfl) rfl ?_
  refine w_fold (x_par (by decide) ((hF 25 (by decide) (by decide)).trans rfl)) ?_
  refine e_aload_n 20 42 rfl rfl rfl rfl ?_
  refine e_iconst 21 43 rfl rfl ?_
  refine w_put0 22 46 ckX8 flX8_32 rfl rfl (Nat.le_of_ble_eq_true rfl) ((xfs_ne _ _ (by decide)).trans (hF _ (by decide) (by decide))) rfl (hz _ (by decide) (by decide) _) ?_
  refine e_iconst 23 47 rfl rfl ?_
  refine e_istore_n 24 48 (ls' := [some _, some _]) rfl rfl rfl (Nat.le_of_ble_eq_true rfl) rfl ?_
  exact k48
def quI (σ : xSig) : xSig := xu σ 256 6 (-1)
theorem sp_iQuery {F : Nat → xShp} {σ : xSig} (hF : ∀ b, 256 ≤ b → b < 273 → F b = SH b) (hz : ∀ b, 256 ≤ b → b < 273 → ∀ j, σ b j = 0) : x_Sp MX7_init 16 397 [.ref 256] (Wd 257 (xfs F 256 (.inr (.inr (7, fr7)))) σ) vv (Wd 273 F (quI σ)) := by
  unfold quI
  have c1 := fun P Q => sp_iFil (F := xfs (xfs F 257 Q) 256 P) (σ := σ) (a := 258) ((xfs_ne _ _ (by decide)).trans ((xfs_ne _ _ (by decide)).trans (hF _ (by decide) (by decide)))) ((xfs_ne _ _ (by decide)).trans ((xfs_ne _ _ (by decide)).trans (hF _ (by decide) (by decide)))) ((xfs_ne _ _ (by decide)).trans ((xfs_ne _ _ (by decide)).trans (hF _ (by decide) (by decide)))) (fun b b1 b2 => hz b (by omega) (by omega))
  have c2 := fun P Q => sp_iPla (F := xfs (xfs F 257 Q) 256 P) (σ := σ) (a := 261) ((xfs_ne _ _ (by decide)).trans ((xfs_ne _ _ (by decide)).trans (hF _ (by decide) (by decide)))) ((xfs_ne _ _ (by decide)).trans ((xfs_ne _ _ (by decide)).trans (hF _ (by decide) (by decide)))) (fun j => ⟨hz 261 (by decide) (by decide) j, hz 262 (by decide) (by decide) j⟩)
  have zq : ∀ j : Int, j ≠ 6 → xu σ 256 6 (-1) 256 j = 0 := fun j hj => by rw [xu_ne _ (Or.inr hj)]; exact hz _ (by decide) (by decide) _
  have k74 := query_lp (σ := xu σ 256 6 (-1)) hF (fun b b1 b2 j => by rw [xu_other _ _ _ (by omega)]; exact hz b (by omega) b2 j) 3 0 264 7 166 (by omega) (by omega) (by omega) (by omega)
  refine e_entry okX7_init (Nat.le_of_ble_eq_true rfl) (ls := [some _, none]) rfl ?_
  refine e_aload_n 0 1 rfl rfl rfl rfl ?_
  refine w_objinit 1 4 olX7_3 oinst ocode rfl rfl (Nat.le_of_ble_eq_true rfl) (Nat.le_of_ble_eq_true rfl) (Nat.le_of_ble_eq_true rfl) ?_
  refine e_aload_n 2 5 rfl rfl rfl rfl ?_
  refine e_iconst 3 6 rfl rfl ?_
  refine w_newq 4 9 (n := 3) (kd := 4) (F2 := xfs (xfs F 257 (.inr (.inl (4, List.replicate 3 none)))) 256 (.inr (.inr (7, fr7)))) clX7_9 (fun _ _ _ h => h.2.2.2.2.2.2.1) (fun _ => rfl) rfl rfl x_agree (x_fresh (by decide)) (Nat.le_of_ble_eq_true rfl) (Nat.le_of_ble_eq_true rfl) (Nat.le_of_ble_eq_true rfl) ?_
  refine w_putR 5 12 ckX7 flX7_11 rfl rfl rfl (fun r h => by cases h; rfl) (Nat.le_of_ble_eq_true rfl) (Nat.le_of_ble_eq_true rfl) (fun _ => rfl) (fun _ => rfl) rfl ?_
  refine e_aload_n 6 13 rfl rfl rfl rfl ?_
  refine w_new 7 16 (F2 := xfs _ 258 (.inr (.inr (2, fr2)))) tyX2 ckX2 rfl tyX2_ok clX7_9 inX2 izX2 rfl rfl (fun c hc => xfs_ne _ _ (by omega)) (xfs_at _ _ _) (hz _ (by decide) (by decide)) df2 (Nat.le_of_ble_eq_true rfl) (Nat.le_of_ble_eq_true rfl) ?_
  refine e_dup 8 17 rfl rfl rfl ?_
  refine e_callIN 9 20 (c1 _ _) okX2_init ciX7_17 ⟨(Nat.le_of_ble_eq_true rfl), (Nat.le_of_ble_eq_true rfl)⟩ rfl rfl rfl rfl (Nat.le_of_ble_eq_true rfl) (Nat.le_of_ble_eq_true rfl) (Nat.le_of_ble_eq_true rfl) ?_
  refine w_putR 10 23 ckX7 flX7_18 rfl rfl rfl (fun r h => by cases h; rfl) (Nat.le_of_ble_eq_true rfl) (Nat.le_of_ble_eq_true rfl) (fun _ => rfl) (fun _ => rfl) rfl ?_
  refine e_aload_n 11 24 rfl rfl rfl rfl ?_
  refine w_new 12 27 (F2 := xfs _ 261 (.inr (.inr (6, fr6)))) tyX6 ckX6 rfl tyX6_ok clX7_22 inX6 izX6 rfl rfl (fun c hc => xfs_ne _ _ (by omega)) (xfs_at _ _ _) (hz _ (by decide) (by decide)) df6 (Nat.le_of_ble_eq_true rfl) (Nat.le_of_ble_eq_true rfl) ?_
  refine e_dup 13 28 rfl rfl rfl ?_
  refine e_callIN 14 31 (c2 _ _) okX6_init ciX7_24 ⟨(Nat.le_of_ble_eq_true rfl), (Nat.le_of_ble_eq_true rfl)⟩ rfl rfl rfl rfl (Nat.le_of_ble_eq_true rfl) (Nat.le_of_ble_eq_true rfl) (Nat.le_of_ble_eq_true rfl) ?_
  refine w_putR 15 34 ckX7 flX7_25 rfl rfl rfl (fun r h => by cases h; rfl) (Nat.le_of_ble_eq_true rfl) (Nat.le_of_ble_eq_true rfl) (fun _ => rfl) (fun _ => rfl) rfl ?_
  refine e_aload_n 16 35 rfl rfl rfl rfl ?_
  refine e_bipush 17 37 rfl rfl rfl ?_
  refine w_newI 18 39 (n := 60) ar_int rfl rfl (fun _ _ => rfl) ((xfs_ne _ _ (by decide)).trans ((xfs_ne _ _ (by decide)).trans (hF _ (by decide) (by decide)))) (hz _ (by decide) (by decide)) (Nat.le_of_ble_eq_true rfl) (Nat.le_of_ble_eq_true rfl) (Nat.le_of_ble_eq_true rfl) ?_
  refine w_putR 19 42 ckX7 flX7_29 rfl rfl rfl (fun r h => by cases h; rfl) (Nat.le_of_ble_eq_true rfl) (Nat.le_of_ble_eq_true rfl) (fun _ => rfl) (fun _ => rfl) rfl ?_
  refine w_fold (x_par (by decide) ((hF 256 (by decide) (by decide)).trans rfl)) ?_
  refine e_aload_n 20 43 rfl rfl rfl rfl ?_
  refine e_iconst 21 44 rfl rfl ?_
  refine w_put0 22 47 ckX7 flX7_33 rfl rfl (Nat.le_of_ble_eq_true rfl) ((xfs_ne _ _ (by decide)).trans (hF _ (by decide) (by decide))) rfl (hz _ (by decide) (by decide) _) ?_
  refine e_aload_n 23 48 rfl rfl rfl rfl ?_
  refine e_iconst 24 49 rfl rfl ?_
  refine w_put0 25 52 ckX7 flX7_37 rfl rfl (Nat.le_of_ble_eq_true rfl) ((xfs_ne _ _ (by decide)).trans (hF _ (by decide) (by decide))) rfl (hz _ (by decide) (by decide) _) ?_
  refine e_aload_n 26 53 rfl rfl rfl rfl ?_
  refine e_iconst 27 54 rfl rfl ?_
  refine w_putI 28 57 6 ckX7 flX7_40 rfl rfl (Nat.le_of_ble_eq_true rfl) ((xfs_ne _ _ (by decide)).trans (hF _ (by decide) (by decide))) rfl rfl ?_
  refine e_aload_n 29 58 rfl rfl rfl rfl ?_
  refine e_iconst 30 59 rfl rfl ?_
  refine w_put0 31 62 ckX7 flX7_43 rfl rfl (Nat.le_of_ble_eq_true rfl) ((xfs_ne _ _ (by decide)).trans (hF _ (by decide) (by decide))) rfl (zq _ (by decide)) ?_
  refine e_aload_n 32 63 rfl rfl rfl rfl ?_
  refine e_iconst 33 64 rfl rfl ?_
  refine w_put0 34 67 ckX7 flX7_46 rfl rfl (Nat.le_of_ble_eq_true rfl) ((xfs_ne _ _ (by decide)).trans (hF _ (by decide) (by decide))) rfl (zq _ (by decide)) ?_
  refine e_aload_n 35 68 rfl rfl rfl rfl ?_
  refine e_iconst 36 69 rfl rfl ?_
  refine w_put0Z 37 72 ckX7 flX7_49 rfl rfl (Nat.le_of_ble_eq_true rfl) ((xfs_ne _ _ (by decide)).trans (hF _ (by decide) (by decide))) rfl (zq _ (by decide)) ?_
  refine e_iconst 38 73 rfl rfl ?_
  refine e_istore_n 39 74 (ls' := [some _, some _]) rfl rfl rfl (Nat.le_of_ble_eq_true rfl) rfl ?_
  exact k74
