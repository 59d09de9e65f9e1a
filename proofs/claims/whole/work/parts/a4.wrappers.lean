/-! ===== the wrappers ===== -/
def kL_nothing : List (Nat × Instr × Nat) := [(0, .aload_n 1, 1), (1, .iconst 0, 1), (2, .aload_n 0, 1), (3, .invokevirtual 7, 3), (6, .i2l, 1), (7, .lastore, 1), (8, .goto 6, 3), (11, .astore_n 2, 1), (12, .iconst 1, 1), (13, .ireturn, 1), (14, .iconst 0, 1), (15, .ireturn, 1)]
theorem dcL_nothing : kL_nothing.all (fun q => decide (decode cL_nothing q.1 = .ok q.2)) = true := by decide +kernel
theorem sw_nothing {σ σ1 : xSig} {code z : Int} {f9 : Nat → Nat} (hc : 0 ≤ code ∧ code ≤ 1) (h0 : code = 0 → x_Sp MX11_nothing 0 0 (.ref 0 :: []) (St σ) (iv z) (St σ1)) (h1 : code ≠ 0 → x_Sp MX11_nothing 1 6 (.ref 0 :: []) (St σ) (.inr ([nISE].getD (code.toNat - 1) "")) (St σ1)) (y0 : code = 0 → f9 = fun _ => o9 (ll (zI z))) (y1 : code ≠ 0 → f9 = fun w => w) : x_SpH yL_nothing cL_nothing 3 hL_nothing 8 155 1 6 [.ref 0, .ref 313] (St σ) f9 code (St σ1) := by
  refine f_entry (by decide +kernel) rfl (Nat.le_of_ble_eq_true rfl) (ls := [some (.ref 0), some (.ref 313), none]) rfl (fun K C hT hfr hlo hcc hss hnc hret => ?_)
  rcases (show code = 0 ∨ code = 1 by omega) with rfl | rfl
  · obtain rfl := y0 rfl
    have sp := h0 rfl
    refine f_aload_n C 1 (dq dcL_nothing 0 rfl) rfl rfl rfl ?_
    refine f_iconst C 2 (dq dcL_nothing 1 rfl) rfl ?_
    refine f_aload_n C 3 (dq dcL_nothing 2 rfl) rfl rfl rfl ?_
    refine f_callV C 6 sp okX11_nothing cvL_7 (by rw [hfr]; exact (Nat.le_of_ble_eq_true rfl)) (by rw [hlo]; exact (Nat.le_of_ble_eq_true rfl)) (dq dcL_nothing 3 rfl) rfl (Nat.le_of_ble_eq_true rfl) rfl rfl rfl rfl rfl (Nat.le_of_ble_eq_true rfl) (by rw [hcc]; exact (Nat.le_of_ble_eq_true rfl)) (by rw [hss]; exact (Nat.le_of_ble_eq_true rfl)) ?_
    refine f_i2lz C 7 (dq dcL_nothing 4 rfl) rfl ?_
    refine f_lastore9 C 8 (dq dcL_nothing 5 rfl) rfl (Nat.le_of_ble_eq_true rfl) rfl SH9 ?_
    refine f_goto (C.out _) 14 (dq dcL_nothing 6 rfl) rfl ?_
    refine f_iconst (C.out _) 15 (dq dcL_nothing 10 rfl) rfl ?_
    exact hret _ rfl _ _ _ _ (dq dcL_nothing 11 rfl) (Nat.le_of_ble_eq_true rfl) (Nat.le_of_ble_eq_true rfl)
  · obtain rfl := y1 (by decide)
    have sp : x_Sp MX11_nothing 1 6 (.ref 0 :: []) (St σ) (.inr nISE) (St σ1) := h1 (by decide)
    refine f_aload_n C 1 (dq dcL_nothing 0 rfl) rfl rfl rfl ?_
    refine f_iconst C 2 (dq dcL_nothing 1 rfl) rfl ?_
    refine f_aload_n C 3 (dq dcL_nothing 2 rfl) rfl rfl rfl ?_
    refine f_callX C (i := 2) (hp := 11) (nx := 12) [] ⟨0, 8, 11, 13⟩ [] (hT.trans rfl) (fun y hy => by simp at hy) (by decide) (by decide) (C.2.2.2.2.1 _ clL_13) (va_Nw.use rfl (C.2.2.2.2.2.1.2.1 _ cast_nISE)) rfl sp okX11_nothing cvL_7 (by rw [hfr]; exact (Nat.le_of_ble_eq_true rfl)) (by rw [hlo]; exact (Nat.le_of_ble_eq_true rfl)) (dq dcL_nothing 3 rfl) (Or.inl ⟨2, rfl, (dq dcL_nothing 7 rfl), rfl⟩) (Nat.le_of_ble_eq_true rfl) rfl (Nat.le_of_ble_eq_true rfl) rfl rfl rfl rfl rfl (Nat.le_of_ble_eq_true rfl) (by rw [hcc]; exact (Nat.le_of_ble_eq_true rfl)) (by rw [hss]; exact (Nat.le_of_ble_eq_true rfl)) ?_
    refine f_iconst C 13 (dq dcL_nothing 8 rfl) rfl ?_
    exact hret K (K9_self K) _ _ _ _ (dq dcL_nothing 9 rfl) (Nat.le_of_ble_eq_true rfl) (Nat.le_of_ble_eq_true rfl)
def kL_number : List (Nat × Instr × Nat) := [(0, .aload_n 2, 1), (1, .iconst 0, 1), (2, .aload_n 0, 1), (3, .iload_n 1, 1), (4, .invokevirtual 15, 3), (7, .i2l, 1), (8, .lastore, 1), (9, .goto 9, 3), (12, .astore_n 3, 1), (13, .iconst 1, 1), (14, .ireturn, 1), (15, .astore_n 3, 1), (16, .iconst 2, 1), (17, .ireturn, 1), (18, .iconst 0, 1), (19, .ireturn, 1)]
theorem dcL_number : kL_number.all (fun q => decide (decode cL_number q.1 = .ok q.2)) = true := by decide +kernel
theorem sw_number {σ σ1 : xSig} {code z : Int} {f9 : Nat → Nat} {a1 : Int32} (hc : 0 ≤ code ∧ code ≤ 2) (h0 : code = 0 → x_Sp MX11_number 0 0 (.ref 0 :: [.int a1]) (St σ) (iv z) (St σ1)) (h1 : code ≠ 0 → x_Sp MX11_number 1 6 (.ref 0 :: [.int a1]) (St σ) (.inr ([nIAE, nISE].getD (code.toNat - 1) "")) (St σ1)) (y0 : code = 0 → f9 = fun _ => o9 (ll (zI z))) (y1 : code ≠ 0 → f9 = fun w => w) : x_SpH yL_number cL_number 4 hL_number 8 156 1 6 [.ref 0, .int a1, .ref 313] (St σ) f9 code (St σ1) := by
  refine f_entry (by decide +kernel) rfl (Nat.le_of_ble_eq_true rfl) (ls := [some (.ref 0), some (.int a1), some (.ref 313), none]) rfl (fun K C hT hfr hlo hcc hss hnc hret => ?_)
  rcases (show code = 0 ∨ code = 1 ∨ code = 2 by omega) with rfl | rfl | rfl
  · obtain rfl := y0 rfl
    have sp := h0 rfl
    refine f_aload_n C 1 (dq dcL_number 0 rfl) rfl rfl rfl ?_
    refine f_iconst C 2 (dq dcL_number 1 rfl) rfl ?_
    refine f_aload_n C 3 (dq dcL_number 2 rfl) rfl rfl rfl ?_
    refine f_iload_n C 4 (dq dcL_number 3 rfl) rfl rfl rfl ?_
    refine f_callV C 7 sp okX11_number cvL_15 (by rw [hfr]; exact (Nat.le_of_ble_eq_true rfl)) (by rw [hlo]; exact (Nat.le_of_ble_eq_true rfl)) (dq dcL_number 4 rfl) rfl (Nat.le_of_ble_eq_true rfl) rfl rfl rfl rfl rfl (Nat.le_of_ble_eq_true rfl) (by rw [hcc]; exact (Nat.le_of_ble_eq_true rfl)) (by rw [hss]; exact (Nat.le_of_ble_eq_true rfl)) ?_
    refine f_i2lz C 8 (dq dcL_number 5 rfl) rfl ?_
    refine f_lastore9 C 9 (dq dcL_number 6 rfl) rfl (Nat.le_of_ble_eq_true rfl) rfl SH9 ?_
    refine f_goto (C.out _) 18 (dq dcL_number 7 rfl) rfl ?_
    refine f_iconst (C.out _) 19 (dq dcL_number 14 rfl) rfl ?_
    exact hret _ rfl _ _ _ _ (dq dcL_number 15 rfl) (Nat.le_of_ble_eq_true rfl) (Nat.le_of_ble_eq_true rfl)
  · obtain rfl := y1 (by decide)
    have sp : x_Sp MX11_number 1 6 (.ref 0 :: [.int a1]) (St σ) (.inr nIAE) (St σ1) := h1 (by decide)
    refine f_aload_n C 1 (dq dcL_number 0 rfl) rfl rfl rfl ?_
    refine f_iconst C 2 (dq dcL_number 1 rfl) rfl ?_
    refine f_aload_n C 3 (dq dcL_number 2 rfl) rfl rfl rfl ?_
    refine f_iload_n C 4 (dq dcL_number 3 rfl) rfl rfl rfl ?_
    refine f_callX C (i := 3) (hp := 12) (nx := 13) [] ⟨0, 9, 12, 19⟩ [⟨0, 9, 15, 13⟩] (hT.trans rfl) (fun y hy => by simp at hy) (by decide) (by decide) (C.2.2.2.2.1 _ clL_19) (va_Nw.use rfl (C.2.2.2.2.2.1.2.1 _ cast_nIAE)) rfl sp okX11_number cvL_15 (by rw [hfr]; exact (Nat.le_of_ble_eq_true rfl)) (by rw [hlo]; exact (Nat.le_of_ble_eq_true rfl)) (dq dcL_number 4 rfl) (Or.inl ⟨3, rfl, (dq dcL_number 8 rfl), rfl⟩) (Nat.le_of_ble_eq_true rfl) rfl (Nat.le_of_ble_eq_true rfl) rfl rfl rfl rfl rfl (Nat.le_of_ble_eq_true rfl) (by rw [hcc]; exact (Nat.le_of_ble_eq_true rfl)) (by rw [hss]; exact (Nat.le_of_ble_eq_true rfl)) ?_
    refine f_iconst C 14 (dq dcL_number 9 rfl) rfl ?_
    exact hret K (K9_self K) _ _ _ _ (dq dcL_number 10 rfl) (Nat.le_of_ble_eq_true rfl) (Nat.le_of_ble_eq_true rfl)
  · obtain rfl := y1 (by decide)
    have sp : x_Sp MX11_number 1 6 (.ref 0 :: [.int a1]) (St σ) (.inr nISE) (St σ1) := h1 (by decide)
    refine f_aload_n C 1 (dq dcL_number 0 rfl) rfl rfl rfl ?_
    refine f_iconst C 2 (dq dcL_number 1 rfl) rfl ?_
    refine f_aload_n C 3 (dq dcL_number 2 rfl) rfl rfl rfl ?_
    refine f_iload_n C 4 (dq dcL_number 3 rfl) rfl rfl rfl ?_
    refine f_callX C (i := 3) (hp := 15) (nx := 16) [⟨0, 9, 12, 19⟩] ⟨0, 9, 15, 13⟩ [] (hT.trans rfl) (fun y hy => by rw [List.mem_singleton.mp hy]; exact Or.inr ⟨by decide, nIAE, C.2.2.2.2.1 _ clL_19, hnc (nISE, nIAE) (by simp [ncs])⟩) (by decide) (by decide) (C.2.2.2.2.1 _ clL_13) (va_Nw.use rfl (C.2.2.2.2.2.1.2.1 _ cast_nISE)) rfl sp okX11_number cvL_15 (by rw [hfr]; exact (Nat.le_of_ble_eq_true rfl)) (by rw [hlo]; exact (Nat.le_of_ble_eq_true rfl)) (dq dcL_number 4 rfl) (Or.inl ⟨3, rfl, (dq dcL_number 11 rfl), rfl⟩) (Nat.le_of_ble_eq_true rfl) rfl (Nat.le_of_ble_eq_true rfl) rfl rfl rfl rfl rfl (Nat.le_of_ble_eq_true rfl) (by rw [hcc]; exact (Nat.le_of_ble_eq_true rfl)) (by rw [hss]; exact (Nat.le_of_ble_eq_true rfl)) ?_
    refine f_iconst C 17 (dq dcL_number 12 rfl) rfl ?_
    exact hret K (K9_self K) _ _ _ _ (dq dcL_number 13 rfl) (Nat.le_of_ble_eq_true rfl) (Nat.le_of_ble_eq_true rfl)
def kL_word : List (Nat × Instr × Nat) := [(0, .aload_n 2, 1), (1, .iconst 0, 1), (2, .aload_n 0, 1), (3, .iload_n 1, 1), (4, .invokevirtual 21, 3), (7, .i2l, 1), (8, .lastore, 1), (9, .goto 9, 3), (12, .astore_n 3, 1), (13, .iconst 1, 1), (14, .ireturn, 1), (15, .astore_n 3, 1), (16, .iconst 2, 1), (17, .ireturn, 1), (18, .iconst 0, 1), (19, .ireturn, 1)]
theorem dcL_word : kL_word.all (fun q => decide (decode cL_word q.1 = .ok q.2)) = true := by decide +kernel
theorem sw_word {σ σ1 : xSig} {code z : Int} {f9 : Nat → Nat} {a1 : Int32} (hc : 0 ≤ code ∧ code ≤ 2) (h0 : code = 0 → x_Sp MX11_word 0 0 (.ref 0 :: [.int a1]) (St σ) (iv z) (St σ1)) (h1 : code ≠ 0 → x_Sp MX11_word 1 6 (.ref 0 :: [.int a1]) (St σ) (.inr ([nIAE, nISE].getD (code.toNat - 1) "")) (St σ1)) (y0 : code = 0 → f9 = fun _ => o9 (ll (zI z))) (y1 : code ≠ 0 → f9 = fun w => w) : x_SpH yL_word cL_word 4 hL_word 8 156 1 6 [.ref 0, .int a1, .ref 313] (St σ) f9 code (St σ1) := by
  refine f_entry (by decide +kernel) rfl (Nat.le_of_ble_eq_true rfl) (ls := [some (.ref 0), some (.int a1), some (.ref 313), none]) rfl (fun K C hT hfr hlo hcc hss hnc hret => ?_)
  rcases (show code = 0 ∨ code = 1 ∨ code = 2 by omega) with rfl | rfl | rfl
  · obtain rfl := y0 rfl
    have sp := h0 rfl
    refine f_aload_n C 1 (dq dcL_word 0 rfl) rfl rfl rfl ?_
    refine f_iconst C 2 (dq dcL_word 1 rfl) rfl ?_
    refine f_aload_n C 3 (dq dcL_word 2 rfl) rfl rfl rfl ?_
    refine f_iload_n C 4 (dq dcL_word 3 rfl) rfl rfl rfl ?_
    refine f_callV C 7 sp okX11_word cvL_21 (by rw [hfr]; exact (Nat.le_of_ble_eq_true rfl)) (by rw [hlo]; exact (Nat.le_of_ble_eq_true rfl)) (dq dcL_word 4 rfl) rfl (Nat.le_of_ble_eq_true rfl) rfl rfl rfl rfl rfl (Nat.le_of_ble_eq_true rfl) (by rw [hcc]; exact (Nat.le_of_ble_eq_true rfl)) (by rw [hss]; exact (Nat.le_of_ble_eq_true rfl)) ?_
    refine f_i2lz C 8 (dq dcL_word 5 rfl) rfl ?_
    refine f_lastore9 C 9 (dq dcL_word 6 rfl) rfl (Nat.le_of_ble_eq_true rfl) rfl SH9 ?_
    refine f_goto (C.out _) 18 (dq dcL_word 7 rfl) rfl ?_
    refine f_iconst (C.out _) 19 (dq dcL_word 14 rfl) rfl ?_
    exact hret _ rfl _ _ _ _ (dq dcL_word 15 rfl) (Nat.le_of_ble_eq_true rfl) (Nat.le_of_ble_eq_true rfl)
  · obtain rfl := y1 (by decide)
    have sp : x_Sp MX11_word 1 6 (.ref 0 :: [.int a1]) (St σ) (.inr nIAE) (St σ1) := h1 (by decide)
    refine f_aload_n C 1 (dq dcL_word 0 rfl) rfl rfl rfl ?_
    refine f_iconst C 2 (dq dcL_word 1 rfl) rfl ?_
    refine f_aload_n C 3 (dq dcL_word 2 rfl) rfl rfl rfl ?_
    refine f_iload_n C 4 (dq dcL_word 3 rfl) rfl rfl rfl ?_
    refine f_callX C (i := 3) (hp := 12) (nx := 13) [] ⟨0, 9, 12, 19⟩ [⟨0, 9, 15, 13⟩] (hT.trans rfl) (fun y hy => by simp at hy) (by decide) (by decide) (C.2.2.2.2.1 _ clL_19) (va_Nw.use rfl (C.2.2.2.2.2.1.2.1 _ cast_nIAE)) rfl sp okX11_word cvL_21 (by rw [hfr]; exact (Nat.le_of_ble_eq_true rfl)) (by rw [hlo]; exact (Nat.le_of_ble_eq_true rfl)) (dq dcL_word 4 rfl) (Or.inl ⟨3, rfl, (dq dcL_word 8 rfl), rfl⟩) (Nat.le_of_ble_eq_true rfl) rfl (Nat.le_of_ble_eq_true rfl) rfl rfl rfl rfl rfl (Nat.le_of_ble_eq_true rfl) (by rw [hcc]; exact (Nat.le_of_ble_eq_true rfl)) (by rw [hss]; exact (Nat.le_of_ble_eq_true rfl)) ?_
    refine f_iconst C 14 (dq dcL_word 9 rfl) rfl ?_
    exact hret K (K9_self K) _ _ _ _ (dq dcL_word 10 rfl) (Nat.le_of_ble_eq_true rfl) (Nat.le_of_ble_eq_true rfl)
  · obtain rfl := y1 (by decide)
    have sp : x_Sp MX11_word 1 6 (.ref 0 :: [.int a1]) (St σ) (.inr nISE) (St σ1) := h1 (by decide)
    refine f_aload_n C 1 (dq dcL_word 0 rfl) rfl rfl rfl ?_
    refine f_iconst C 2 (dq dcL_word 1 rfl) rfl ?_
    refine f_aload_n C 3 (dq dcL_word 2 rfl) rfl rfl rfl ?_
    refine f_iload_n C 4 (dq dcL_word 3 rfl) rfl rfl rfl ?_
    refine f_callX C (i := 3) (hp := 15) (nx := 16) [⟨0, 9, 12, 19⟩] ⟨0, 9, 15, 13⟩ [] (hT.trans rfl) (fun y hy => by rw [List.mem_singleton.mp hy]; exact Or.inr ⟨by decide, nIAE, C.2.2.2.2.1 _ clL_19, hnc (nISE, nIAE) (by simp [ncs])⟩) (by decide) (by decide) (C.2.2.2.2.1 _ clL_13) (va_Nw.use rfl (C.2.2.2.2.2.1.2.1 _ cast_nISE)) rfl sp okX11_word cvL_21 (by rw [hfr]; exact (Nat.le_of_ble_eq_true rfl)) (by rw [hlo]; exact (Nat.le_of_ble_eq_true rfl)) (dq dcL_word 4 rfl) (Or.inl ⟨3, rfl, (dq dcL_word 11 rfl), rfl⟩) (Nat.le_of_ble_eq_true rfl) rfl (Nat.le_of_ble_eq_true rfl) rfl rfl rfl rfl rfl (Nat.le_of_ble_eq_true rfl) (by rw [hcc]; exact (Nat.le_of_ble_eq_true rfl)) (by rw [hss]; exact (Nat.le_of_ble_eq_true rfl)) ?_
    refine f_iconst C 17 (dq dcL_word 12 rfl) rfl ?_
    exact hret K (K9_self K) _ _ _ _ (dq dcL_word 13 rfl) (Nat.le_of_ble_eq_true rfl) (Nat.le_of_ble_eq_true rfl)
def kL_row : List (Nat × Instr × Nat) := [(0, .aload_n 1, 1), (1, .iconst 0, 1), (2, .aload_n 0, 1), (3, .invokevirtual 24, 3), (6, .i2l, 1), (7, .lastore, 1), (8, .goto 6, 3), (11, .astore_n 2, 1), (12, .iconst 1, 1), (13, .ireturn, 1), (14, .iconst 0, 1), (15, .ireturn, 1)]
theorem dcL_row : kL_row.all (fun q => decide (decode cL_row q.1 = .ok q.2)) = true := by decide +kernel
theorem sw_row {σ σ1 : xSig} {code z : Int} {f9 : Nat → Nat} (hc : 0 ≤ code ∧ code ≤ 1) (h0 : code = 0 → x_Sp MX11_row 0 0 (.ref 0 :: []) (St σ) (iv z) (St σ1)) (h1 : code ≠ 0 → x_Sp MX11_row 1 6 (.ref 0 :: []) (St σ) (.inr ([nISE].getD (code.toNat - 1) "")) (St σ1)) (y0 : code = 0 → f9 = fun _ => o9 (ll (zI z))) (y1 : code ≠ 0 → f9 = fun w => w) : x_SpH yL_row cL_row 3 hL_row 8 155 1 6 [.ref 0, .ref 313] (St σ) f9 code (St σ1) := by
  refine f_entry (by decide +kernel) rfl (Nat.le_of_ble_eq_true rfl) (ls := [some (.ref 0), some (.ref 313), none]) rfl (fun K C hT hfr hlo hcc hss hnc hret => ?_)
  rcases (show code = 0 ∨ code = 1 by omega) with rfl | rfl
  · obtain rfl := y0 rfl
    have sp := h0 rfl
    refine f_aload_n C 1 (dq dcL_row 0 rfl) rfl rfl rfl ?_
    refine f_iconst C 2 (dq dcL_row 1 rfl) rfl ?_
    refine f_aload_n C 3 (dq dcL_row 2 rfl) rfl rfl rfl ?_
    refine f_callV C 6 sp okX11_row cvL_24 (by rw [hfr]; exact (Nat.le_of_ble_eq_true rfl)) (by rw [hlo]; exact (Nat.le_of_ble_eq_true rfl)) (dq dcL_row 3 rfl) rfl (Nat.le_of_ble_eq_true rfl) rfl rfl rfl rfl rfl (Nat.le_of_ble_eq_true rfl) (by rw [hcc]; exact (Nat.le_of_ble_eq_true rfl)) (by rw [hss]; exact (Nat.le_of_ble_eq_true rfl)) ?_
    refine f_i2lz C 7 (dq dcL_row 4 rfl) rfl ?_
    refine f_lastore9 C 8 (dq dcL_row 5 rfl) rfl (Nat.le_of_ble_eq_true rfl) rfl SH9 ?_
    refine f_goto (C.out _) 14 (dq dcL_row 6 rfl) rfl ?_
    refine f_iconst (C.out _) 15 (dq dcL_row 10 rfl) rfl ?_
    exact hret _ rfl _ _ _ _ (dq dcL_row 11 rfl) (Nat.le_of_ble_eq_true rfl) (Nat.le_of_ble_eq_true rfl)
  · obtain rfl := y1 (by decide)
    have sp : x_Sp MX11_row 1 6 (.ref 0 :: []) (St σ) (.inr nISE) (St σ1) := h1 (by decide)
    refine f_aload_n C 1 (dq dcL_row 0 rfl) rfl rfl rfl ?_
    refine f_iconst C 2 (dq dcL_row 1 rfl) rfl ?_
    refine f_aload_n C 3 (dq dcL_row 2 rfl) rfl rfl rfl ?_
    refine f_callX C (i := 2) (hp := 11) (nx := 12) [] ⟨0, 8, 11, 13⟩ [] (hT.trans rfl) (fun y hy => by simp at hy) (by decide) (by decide) (C.2.2.2.2.1 _ clL_13) (va_Nw.use rfl (C.2.2.2.2.2.1.2.1 _ cast_nISE)) rfl sp okX11_row cvL_24 (by rw [hfr]; exact (Nat.le_of_ble_eq_true rfl)) (by rw [hlo]; exact (Nat.le_of_ble_eq_true rfl)) (dq dcL_row 3 rfl) (Or.inl ⟨2, rfl, (dq dcL_row 7 rfl), rfl⟩) (Nat.le_of_ble_eq_true rfl) rfl (Nat.le_of_ble_eq_true rfl) rfl rfl rfl rfl rfl (Nat.le_of_ble_eq_true rfl) (by rw [hcc]; exact (Nat.le_of_ble_eq_true rfl)) (by rw [hss]; exact (Nat.le_of_ble_eq_true rfl)) ?_
    refine f_iconst C 13 (dq dcL_row 8 rfl) rfl ?_
    exact hret K (K9_self K) _ _ _ _ (dq dcL_row 9 rfl) (Nat.le_of_ble_eq_true rfl) (Nat.le_of_ble_eq_true rfl)
def kL_object : List (Nat × Instr × Nat) := [(0, .aload_n 1, 1), (1, .iconst 0, 1), (2, .aload_n 0, 1), (3, .invokevirtual 27, 3), (6, .i2l, 1), (7, .lastore, 1), (8, .goto 6, 3), (11, .astore_n 2, 1), (12, .iconst 1, 1), (13, .ireturn, 1), (14, .iconst 0, 1), (15, .ireturn, 1)]
theorem dcL_object : kL_object.all (fun q => decide (decode cL_object q.1 = .ok q.2)) = true := by decide +kernel
theorem sw_object {σ σ1 : xSig} {code z : Int} {f9 : Nat → Nat} (hc : 0 ≤ code ∧ code ≤ 1) (h0 : code = 0 → x_Sp MX11_object 0 0 (.ref 0 :: []) (St σ) (iv z) (St σ1)) (h1 : code ≠ 0 → x_Sp MX11_object 1 6 (.ref 0 :: []) (St σ) (.inr ([nISE].getD (code.toNat - 1) "")) (St σ1)) (y0 : code = 0 → f9 = fun _ => o9 (ll (zI z))) (y1 : code ≠ 0 → f9 = fun w => w) : x_SpH yL_object cL_object 3 hL_object 8 155 1 6 [.ref 0, .ref 313] (St σ) f9 code (St σ1) := by
  refine f_entry (by decide +kernel) rfl (Nat.le_of_ble_eq_true rfl) (ls := [some (.ref 0), some (.ref 313), none]) rfl (fun K C hT hfr hlo hcc hss hnc hret => ?_)
  rcases (show code = 0 ∨ code = 1 by omega) with rfl | rfl
  · obtain rfl := y0 rfl
    have sp := h0 rfl
    refine f_aload_n C 1 (dq dcL_object 0 rfl) rfl rfl rfl ?_
    refine f_iconst C 2 (dq dcL_object 1 rfl) rfl ?_
    refine f_aload_n C 3 (dq dcL_object 2 rfl) rfl rfl rfl ?_
    refine f_callV C 6 sp okX11_object cvL_27 (by rw [hfr]; exact (Nat.le_of_ble_eq_true rfl)) (by rw [hlo]; exact (Nat.le_of_ble_eq_true rfl)) (dq dcL_object 3 rfl) rfl (Nat.le_of_ble_eq_true rfl) rfl rfl rfl rfl rfl (Nat.le_of_ble_eq_true rfl) (by rw [hcc]; exact (Nat.le_of_ble_eq_true rfl)) (by rw [hss]; exact (Nat.le_of_ble_eq_true rfl)) ?_
    refine f_i2lz C 7 (dq dcL_object 4 rfl) rfl ?_
    refine f_lastore9 C 8 (dq dcL_object 5 rfl) rfl (Nat.le_of_ble_eq_true rfl) rfl SH9 ?_
    refine f_goto (C.out _) 14 (dq dcL_object 6 rfl) rfl ?_
    refine f_iconst (C.out _) 15 (dq dcL_object 10 rfl) rfl ?_
    exact hret _ rfl _ _ _ _ (dq dcL_object 11 rfl) (Nat.le_of_ble_eq_true rfl) (Nat.le_of_ble_eq_true rfl)
  · obtain rfl := y1 (by decide)
    have sp : x_Sp MX11_object 1 6 (.ref 0 :: []) (St σ) (.inr nISE) (St σ1) := h1 (by decide)
    refine f_aload_n C 1 (dq dcL_object 0 rfl) rfl rfl rfl ?_
    refine f_iconst C 2 (dq dcL_object 1 rfl) rfl ?_
    refine f_aload_n C 3 (dq dcL_object 2 rfl) rfl rfl rfl ?_
    refine f_callX C (i := 2) (hp := 11) (nx := 12) [] ⟨0, 8, 11, 13⟩ [] (hT.trans rfl) (fun y hy => by simp at hy) (by decide) (by decide) (C.2.2.2.2.1 _ clL_13) (va_Nw.use rfl (C.2.2.2.2.2.1.2.1 _ cast_nISE)) rfl sp okX11_object cvL_27 (by rw [hfr]; exact (Nat.le_of_ble_eq_true rfl)) (by rw [hlo]; exact (Nat.le_of_ble_eq_true rfl)) (dq dcL_object 3 rfl) (Or.inl ⟨2, rfl, (dq dcL_object 7 rfl), rfl⟩) (Nat.le_of_ble_eq_true rfl) rfl (Nat.le_of_ble_eq_true rfl) rfl rfl rfl rfl rfl (Nat.le_of_ble_eq_true rfl) (by rw [hcc]; exact (Nat.le_of_ble_eq_true rfl)) (by rw [hss]; exact (Nat.le_of_ble_eq_true rfl)) ?_
    refine f_iconst C 13 (dq dcL_object 8 rfl) rfl ?_
    exact hret K (K9_self K) _ _ _ _ (dq dcL_object 9 rfl) (Nat.le_of_ble_eq_true rfl) (Nat.le_of_ble_eq_true rfl)
def kL_add : List (Nat × Instr × Nat) := [(0, .aload_n 1, 1), (1, .iconst 0, 1), (2, .aload_n 0, 1), (3, .invokevirtual 30, 3), (6, .i2l, 1), (7, .lastore, 1), (8, .goto 6, 3), (11, .astore_n 2, 1), (12, .iconst 1, 1), (13, .ireturn, 1), (14, .iconst 0, 1), (15, .ireturn, 1)]
theorem dcL_add : kL_add.all (fun q => decide (decode cL_add q.1 = .ok q.2)) = true := by decide +kernel
theorem sw_add {σ σ1 : xSig} {code z : Int} {f9 : Nat → Nat} (hc : 0 ≤ code ∧ code ≤ 1) (h0 : code = 0 → x_Sp MX11_add 0 0 (.ref 0 :: []) (St σ) (iv z) (St σ1)) (h1 : code ≠ 0 → x_Sp MX11_add 1 6 (.ref 0 :: []) (St σ) (.inr ([nISE].getD (code.toNat - 1) "")) (St σ1)) (y0 : code = 0 → f9 = fun _ => o9 (ll (zI z))) (y1 : code ≠ 0 → f9 = fun w => w) : x_SpH yL_add cL_add 3 hL_add 7 119 1 6 [.ref 0, .ref 313] (St σ) f9 code (St σ1) := by
  refine f_entry (by decide +kernel) rfl (Nat.le_of_ble_eq_true rfl) (ls := [some (.ref 0), some (.ref 313), none]) rfl (fun K C hT hfr hlo hcc hss hnc hret => ?_)
  rcases (show code = 0 ∨ code = 1 by omega) with rfl | rfl
  · obtain rfl := y0 rfl
    have sp := h0 rfl
    refine f_aload_n C 1 (dq dcL_add 0 rfl) rfl rfl rfl ?_
    refine f_iconst C 2 (dq dcL_add 1 rfl) rfl ?_
    refine f_aload_n C 3 (dq dcL_add 2 rfl) rfl rfl rfl ?_
    refine f_callV C 6 sp okX11_add cvL_30 (by rw [hfr]; exact (Nat.le_of_ble_eq_true rfl)) (by rw [hlo]; exact (Nat.le_of_ble_eq_true rfl)) (dq dcL_add 3 rfl) rfl (Nat.le_of_ble_eq_true rfl) rfl rfl rfl rfl rfl (Nat.le_of_ble_eq_true rfl) (by rw [hcc]; exact (Nat.le_of_ble_eq_true rfl)) (by rw [hss]; exact (Nat.le_of_ble_eq_true rfl)) ?_
    refine f_i2lz C 7 (dq dcL_add 4 rfl) rfl ?_
    refine f_lastore9 C 8 (dq dcL_add 5 rfl) rfl (Nat.le_of_ble_eq_true rfl) rfl SH9 ?_
    refine f_goto (C.out _) 14 (dq dcL_add 6 rfl) rfl ?_
    refine f_iconst (C.out _) 15 (dq dcL_add 10 rfl) rfl ?_
    exact hret _ rfl _ _ _ _ (dq dcL_add 11 rfl) (Nat.le_of_ble_eq_true rfl) (Nat.le_of_ble_eq_true rfl)
  · obtain rfl := y1 (by decide)
    have sp : x_Sp MX11_add 1 6 (.ref 0 :: []) (St σ) (.inr nISE) (St σ1) := h1 (by decide)
    refine f_aload_n C 1 (dq dcL_add 0 rfl) rfl rfl rfl ?_
    refine f_iconst C 2 (dq dcL_add 1 rfl) rfl ?_
    refine f_aload_n C 3 (dq dcL_add 2 rfl) rfl rfl rfl ?_
    refine f_callX C (i := 2) (hp := 11) (nx := 12) [] ⟨0, 8, 11, 13⟩ [] (hT.trans rfl) (fun y hy => by simp at hy) (by decide) (by decide) (C.2.2.2.2.1 _ clL_13) (va_Nw.use rfl (C.2.2.2.2.2.1.2.1 _ cast_nISE)) rfl sp okX11_add cvL_30 (by rw [hfr]; exact (Nat.le_of_ble_eq_true rfl)) (by rw [hlo]; exact (Nat.le_of_ble_eq_true rfl)) (dq dcL_add 3 rfl) (Or.inl ⟨2, rfl, (dq dcL_add 7 rfl), rfl⟩) (Nat.le_of_ble_eq_true rfl) rfl (Nat.le_of_ble_eq_true rfl) rfl rfl rfl rfl rfl (Nat.le_of_ble_eq_true rfl) (by rw [hcc]; exact (Nat.le_of_ble_eq_true rfl)) (by rw [hss]; exact (Nat.le_of_ble_eq_true rfl)) ?_
    refine f_iconst C 13 (dq dcL_add 8 rfl) rfl ?_
    exact hret K (K9_self K) _ _ _ _ (dq dcL_add 9 rfl) (Nat.le_of_ble_eq_true rfl) (Nat.le_of_ble_eq_true rfl)
def kL_give : List (Nat × Instr × Nat) := [(0, .aload_n 2, 1), (1, .iconst 0, 1), (2, .aload_n 0, 1), (3, .iload_n 1, 1), (4, .invokevirtual 33, 3), (7, .i2l, 1), (8, .lastore, 1), (9, .goto 9, 3), (12, .astore_n 3, 1), (13, .iconst 1, 1), (14, .ireturn, 1), (15, .astore_n 3, 1), (16, .iconst 2, 1), (17, .ireturn, 1), (18, .iconst 0, 1), (19, .ireturn, 1)]
theorem dcL_give : kL_give.all (fun q => decide (decode cL_give q.1 = .ok q.2)) = true := by decide +kernel
theorem sw_give {σ σ1 : xSig} {code z : Int} {f9 : Nat → Nat} {a1 : Int32} (hc : 0 ≤ code ∧ code ≤ 2) (h0 : code = 0 → x_Sp MX11_give 0 0 (.ref 0 :: [.int a1]) (St σ) (iv z) (St σ1)) (h1 : code ≠ 0 → x_Sp MX11_give 1 6 (.ref 0 :: [.int a1]) (St σ) (.inr ([nIAE, nISE].getD (code.toNat - 1) "")) (St σ1)) (y0 : code = 0 → f9 = fun _ => o9 (ll (zI z))) (y1 : code ≠ 0 → f9 = fun w => w) : x_SpH yL_give cL_give 4 hL_give 7 122 1 6 [.ref 0, .int a1, .ref 313] (St σ) f9 code (St σ1) := by
  refine f_entry (by decide +kernel) rfl (Nat.le_of_ble_eq_true rfl) (ls := [some (.ref 0), some (.int a1), some (.ref 313), none]) rfl (fun K C hT hfr hlo hcc hss hnc hret => ?_)
  rcases (show code = 0 ∨ code = 1 ∨ code = 2 by omega) with rfl | rfl | rfl
  · obtain rfl := y0 rfl
    have sp := h0 rfl
    refine f_aload_n C 1 (dq dcL_give 0 rfl) rfl rfl rfl ?_
    refine f_iconst C 2 (dq dcL_give 1 rfl) rfl ?_
    refine f_aload_n C 3 (dq dcL_give 2 rfl) rfl rfl rfl ?_
    refine f_iload_n C 4 (dq dcL_give 3 rfl) rfl rfl rfl ?_
    refine f_callV C 7 sp okX11_give cvL_33 (by rw [hfr]; exact (Nat.le_of_ble_eq_true rfl)) (by rw [hlo]; exact (Nat.le_of_ble_eq_true rfl)) (dq dcL_give 4 rfl) rfl (Nat.le_of_ble_eq_true rfl) rfl rfl rfl rfl rfl (Nat.le_of_ble_eq_true rfl) (by rw [hcc]; exact (Nat.le_of_ble_eq_true rfl)) (by rw [hss]; exact (Nat.le_of_ble_eq_true rfl)) ?_
    refine f_i2lz C 8 (dq dcL_give 5 rfl) rfl ?_
    refine f_lastore9 C 9 (dq dcL_give 6 rfl) rfl (Nat.le_of_ble_eq_true rfl) rfl SH9 ?_
    refine f_goto (C.out _) 18 (dq dcL_give 7 rfl) rfl ?_
    refine f_iconst (C.out _) 19 (dq dcL_give 14 rfl) rfl ?_
    exact hret _ rfl _ _ _ _ (dq dcL_give 15 rfl) (Nat.le_of_ble_eq_true rfl) (Nat.le_of_ble_eq_true rfl)
  · obtain rfl := y1 (by decide)
    have sp : x_Sp MX11_give 1 6 (.ref 0 :: [.int a1]) (St σ) (.inr nIAE) (St σ1) := h1 (by decide)
    refine f_aload_n C 1 (dq dcL_give 0 rfl) rfl rfl rfl ?_
    refine f_iconst C 2 (dq dcL_give 1 rfl) rfl ?_
    refine f_aload_n C 3 (dq dcL_give 2 rfl) rfl rfl rfl ?_
    refine f_iload_n C 4 (dq dcL_give 3 rfl) rfl rfl rfl ?_
    refine f_callX C (i := 3) (hp := 12) (nx := 13) [] ⟨0, 9, 12, 19⟩ [⟨0, 9, 15, 13⟩] (hT.trans rfl) (fun y hy => by simp at hy) (by decide) (by decide) (C.2.2.2.2.1 _ clL_19) (va_Nw.use rfl (C.2.2.2.2.2.1.2.1 _ cast_nIAE)) rfl sp okX11_give cvL_33 (by rw [hfr]; exact (Nat.le_of_ble_eq_true rfl)) (by rw [hlo]; exact (Nat.le_of_ble_eq_true rfl)) (dq dcL_give 4 rfl) (Or.inl ⟨3, rfl, (dq dcL_give 8 rfl), rfl⟩) (Nat.le_of_ble_eq_true rfl) rfl (Nat.le_of_ble_eq_true rfl) rfl rfl rfl rfl rfl (Nat.le_of_ble_eq_true rfl) (by rw [hcc]; exact (Nat.le_of_ble_eq_true rfl)) (by rw [hss]; exact (Nat.le_of_ble_eq_true rfl)) ?_
    refine f_iconst C 14 (dq dcL_give 9 rfl) rfl ?_
    exact hret K (K9_self K) _ _ _ _ (dq dcL_give 10 rfl) (Nat.le_of_ble_eq_true rfl) (Nat.le_of_ble_eq_true rfl)
  · obtain rfl := y1 (by decide)
    have sp : x_Sp MX11_give 1 6 (.ref 0 :: [.int a1]) (St σ) (.inr nISE) (St σ1) := h1 (by decide)
    refine f_aload_n C 1 (dq dcL_give 0 rfl) rfl rfl rfl ?_
    refine f_iconst C 2 (dq dcL_give 1 rfl) rfl ?_
    refine f_aload_n C 3 (dq dcL_give 2 rfl) rfl rfl rfl ?_
    refine f_iload_n C 4 (dq dcL_give 3 rfl) rfl rfl rfl ?_
    refine f_callX C (i := 3) (hp := 15) (nx := 16) [⟨0, 9, 12, 19⟩] ⟨0, 9, 15, 13⟩ [] (hT.trans rfl) (fun y hy => by rw [List.mem_singleton.mp hy]; exact Or.inr ⟨by decide, nIAE, C.2.2.2.2.1 _ clL_19, hnc (nISE, nIAE) (by simp [ncs])⟩) (by decide) (by decide) (C.2.2.2.2.1 _ clL_13) (va_Nw.use rfl (C.2.2.2.2.2.1.2.1 _ cast_nISE)) rfl sp okX11_give cvL_33 (by rw [hfr]; exact (Nat.le_of_ble_eq_true rfl)) (by rw [hlo]; exact (Nat.le_of_ble_eq_true rfl)) (dq dcL_give 4 rfl) (Or.inl ⟨3, rfl, (dq dcL_give 11 rfl), rfl⟩) (Nat.le_of_ble_eq_true rfl) rfl (Nat.le_of_ble_eq_true rfl) rfl rfl rfl rfl rfl (Nat.le_of_ble_eq_true rfl) (by rw [hcc]; exact (Nat.le_of_ble_eq_true rfl)) (by rw [hss]; exact (Nat.le_of_ble_eq_true rfl)) ?_
    refine f_iconst C 17 (dq dcL_give 12 rfl) rfl ?_
    exact hret K (K9_self K) _ _ _ _ (dq dcL_give 13 rfl) (Nat.le_of_ble_eq_true rfl) (Nat.le_of_ble_eq_true rfl)
def kL_insert : List (Nat × Instr × Nat) := [(0, .aload_n 3, 1), (1, .iconst 0, 1), (2, .aload_n 0, 1), (3, .iload_n 1, 1), (4, .iload_n 2, 1), (5, .invokevirtual 36, 3), (8, .i2l, 1), (9, .lastore, 1), (10, .goto 11, 3), (13, .astore 4, 2), (15, .iconst 1, 1), (16, .ireturn, 1), (17, .astore 4, 2), (19, .iconst 2, 1), (20, .ireturn, 1), (21, .iconst 0, 1), (22, .ireturn, 1)]
theorem dcL_insert : kL_insert.all (fun q => decide (decode cL_insert q.1 = .ok q.2)) = true := by decide +kernel
theorem sw_insert {σ σ1 : xSig} {code z : Int} {f9 : Nat → Nat} {a1 a2 : Int32} (hc : 0 ≤ code ∧ code ≤ 2) (h0 : code = 0 → x_Sp MX11_insert 0 0 (.ref 0 :: [.int a1, .int a2]) (St σ) (iv z) (St σ1)) (h1 : code ≠ 0 → x_Sp MX11_insert 1 6 (.ref 0 :: [.int a1, .int a2]) (St σ) (.inr ([nIAE, nISE].getD (code.toNat - 1) "")) (St σ1)) (y0 : code = 0 → f9 = fun _ => o9 (ll (zI z))) (y1 : code ≠ 0 → f9 = fun w => w) : x_SpH yL_insert cL_insert 5 hL_insert 8 186 1 6 [.ref 0, .int a1, .int a2, .ref 313] (St σ) f9 code (St σ1) := by
  refine f_entry (by decide +kernel) rfl (Nat.le_of_ble_eq_true rfl) (ls := [some (.ref 0), some (.int a1), some (.int a2), some (.ref 313), none]) rfl (fun K C hT hfr hlo hcc hss hnc hret => ?_)
  rcases (show code = 0 ∨ code = 1 ∨ code = 2 by omega) with rfl | rfl | rfl
  · obtain rfl := y0 rfl
    have sp := h0 rfl
    refine f_aload_n C 1 (dq dcL_insert 0 rfl) rfl rfl rfl ?_
    refine f_iconst C 2 (dq dcL_insert 1 rfl) rfl ?_
    refine f_aload_n C 3 (dq dcL_insert 2 rfl) rfl rfl rfl ?_
    refine f_iload_n C 4 (dq dcL_insert 3 rfl) rfl rfl rfl ?_
    refine f_iload_n C 5 (dq dcL_insert 4 rfl) rfl rfl rfl ?_
    refine f_callV C 8 sp okX11_insert cvL_36 (by rw [hfr]; exact (Nat.le_of_ble_eq_true rfl)) (by rw [hlo]; exact (Nat.le_of_ble_eq_true rfl)) (dq dcL_insert 5 rfl) rfl (Nat.le_of_ble_eq_true rfl) rfl rfl rfl rfl rfl (Nat.le_of_ble_eq_true rfl) (by rw [hcc]; exact (Nat.le_of_ble_eq_true rfl)) (by rw [hss]; exact (Nat.le_of_ble_eq_true rfl)) ?_
    refine f_i2lz C 9 (dq dcL_insert 6 rfl) rfl ?_
    refine f_lastore9 C 10 (dq dcL_insert 7 rfl) rfl (Nat.le_of_ble_eq_true rfl) rfl SH9 ?_
    refine f_goto (C.out _) 21 (dq dcL_insert 8 rfl) rfl ?_
    refine f_iconst (C.out _) 22 (dq dcL_insert 15 rfl) rfl ?_
    exact hret _ rfl _ _ _ _ (dq dcL_insert 16 rfl) (Nat.le_of_ble_eq_true rfl) (Nat.le_of_ble_eq_true rfl)
  · obtain rfl := y1 (by decide)
    have sp : x_Sp MX11_insert 1 6 (.ref 0 :: [.int a1, .int a2]) (St σ) (.inr nIAE) (St σ1) := h1 (by decide)
    refine f_aload_n C 1 (dq dcL_insert 0 rfl) rfl rfl rfl ?_
    refine f_iconst C 2 (dq dcL_insert 1 rfl) rfl ?_
    refine f_aload_n C 3 (dq dcL_insert 2 rfl) rfl rfl rfl ?_
    refine f_iload_n C 4 (dq dcL_insert 3 rfl) rfl rfl rfl ?_
    refine f_iload_n C 5 (dq dcL_insert 4 rfl) rfl rfl rfl ?_
    refine f_callX C (i := 4) (hp := 13) (nx := 15) [] ⟨0, 10, 13, 19⟩ [⟨0, 10, 17, 13⟩] (hT.trans rfl) (fun y hy => by simp at hy) (by decide) (by decide) (C.2.2.2.2.1 _ clL_19) (va_Nw.use rfl (C.2.2.2.2.2.1.2.1 _ cast_nIAE)) rfl sp okX11_insert cvL_36 (by rw [hfr]; exact (Nat.le_of_ble_eq_true rfl)) (by rw [hlo]; exact (Nat.le_of_ble_eq_true rfl)) (dq dcL_insert 5 rfl) (Or.inr ⟨(dq dcL_insert 9 rfl), rfl⟩) (Nat.le_of_ble_eq_true rfl) rfl (Nat.le_of_ble_eq_true rfl) rfl rfl rfl rfl rfl (Nat.le_of_ble_eq_true rfl) (by rw [hcc]; exact (Nat.le_of_ble_eq_true rfl)) (by rw [hss]; exact (Nat.le_of_ble_eq_true rfl)) ?_
    refine f_iconst C 16 (dq dcL_insert 10 rfl) rfl ?_
    exact hret K (K9_self K) _ _ _ _ (dq dcL_insert 11 rfl) (Nat.le_of_ble_eq_true rfl) (Nat.le_of_ble_eq_true rfl)
  · obtain rfl := y1 (by decide)
    have sp : x_Sp MX11_insert 1 6 (.ref 0 :: [.int a1, .int a2]) (St σ) (.inr nISE) (St σ1) := h1 (by decide)
    refine f_aload_n C 1 (dq dcL_insert 0 rfl) rfl rfl rfl ?_
    refine f_iconst C 2 (dq dcL_insert 1 rfl) rfl ?_
    refine f_aload_n C 3 (dq dcL_insert 2 rfl) rfl rfl rfl ?_
    refine f_iload_n C 4 (dq dcL_insert 3 rfl) rfl rfl rfl ?_
    refine f_iload_n C 5 (dq dcL_insert 4 rfl) rfl rfl rfl ?_
    refine f_callX C (i := 4) (hp := 17) (nx := 19) [⟨0, 10, 13, 19⟩] ⟨0, 10, 17, 13⟩ [] (hT.trans rfl) (fun y hy => by rw [List.mem_singleton.mp hy]; exact Or.inr ⟨by decide, nIAE, C.2.2.2.2.1 _ clL_19, hnc (nISE, nIAE) (by simp [ncs])⟩) (by decide) (by decide) (C.2.2.2.2.1 _ clL_13) (va_Nw.use rfl (C.2.2.2.2.2.1.2.1 _ cast_nISE)) rfl sp okX11_insert cvL_36 (by rw [hfr]; exact (Nat.le_of_ble_eq_true rfl)) (by rw [hlo]; exact (Nat.le_of_ble_eq_true rfl)) (dq dcL_insert 5 rfl) (Or.inr ⟨(dq dcL_insert 12 rfl), rfl⟩) (Nat.le_of_ble_eq_true rfl) rfl (Nat.le_of_ble_eq_true rfl) rfl rfl rfl rfl rfl (Nat.le_of_ble_eq_true rfl) (by rw [hcc]; exact (Nat.le_of_ble_eq_true rfl)) (by rw [hss]; exact (Nat.le_of_ble_eq_true rfl)) ?_
    refine f_iconst C 20 (dq dcL_insert 13 rfl) rfl ?_
    exact hret K (K9_self K) _ _ _ _ (dq dcL_insert 14 rfl) (Nat.le_of_ble_eq_true rfl) (Nat.le_of_ble_eq_true rfl)
def kL_update : List (Nat × Instr × Nat) := [(0, .aload 5, 2), (2, .iconst 0, 1), (3, .aload_n 0, 1), (4, .iload_n 1, 1), (5, .iload_n 2, 1), (6, .iload_n 3, 1), (7, .iload 4, 2), (9, .invokevirtual 40, 3), (12, .ifCond .eq 7, 3), (15, .lconst 1, 1), (16, .goto 4, 3), (19, .lconst 0, 1), (20, .lastore, 1), (21, .goto 15, 3), (24, .astore 6, 2), (26, .iconst 1, 1), (27, .ireturn, 1), (28, .astore 6, 2), (30, .iconst 2, 1), (31, .ireturn, 1), (32, .astore 6, 2), (34, .iconst 3, 1), (35, .ireturn, 1), (36, .iconst 0, 1), (37, .ireturn, 1)]
theorem dcL_update : kL_update.all (fun q => decide (decode cL_update q.1 = .ok q.2)) = true := by decide +kernel
theorem sw_update {σ σ1 : xSig} {code z : Int} {f9 : Nat → Nat} {a1 a2 a3 a4 : Int32} (hc : 0 ≤ code ∧ code ≤ 3) (h0 : code = 0 → x_Sp MX11_update 0 0 (.ref 0 :: [.int a1, .int a2, .int a3, .int a4]) (St σ) (iv z) (St σ1)) (h1 : code ≠ 0 → x_Sp MX11_update 1 6 (.ref 0 :: [.int a1, .int a2, .int a3, .int a4]) (St σ) (.inr ([nIOB, nIAE, nISE].getD (code.toNat - 1) "")) (St σ1)) (y0 : code = 0 → f9 = fun _ => o9 (ll (if zI z = 0 then 0 else 1))) (y1 : code ≠ 0 → f9 = fun w => w) : x_SpH yL_update cL_update 7 hL_update 8 199 1 6 [.ref 0, .int a1, .int a2, .int a3, .int a4, .ref 313] (St σ) f9 code (St σ1) := by
  refine f_entry (by decide +kernel) rfl (Nat.le_of_ble_eq_true rfl) (ls := [some (.ref 0), some (.int a1), some (.int a2), some (.int a3), some (.int a4), some (.ref 313), none]) rfl (fun K C hT hfr hlo hcc hss hnc hret => ?_)
  rcases (show code = 0 ∨ code = 1 ∨ code = 2 ∨ code = 3 by omega) with rfl | rfl | rfl | rfl
  · obtain rfl := y0 rfl
    have sp := h0 rfl
    refine f_aload C 2 (dq dcL_update 0 rfl) rfl rfl ?_
    refine f_iconst C 3 (dq dcL_update 1 rfl) rfl ?_
    refine f_aload_n C 4 (dq dcL_update 2 rfl) rfl rfl rfl ?_
    refine f_iload_n C 5 (dq dcL_update 3 rfl) rfl rfl rfl ?_
    refine f_iload_n C 6 (dq dcL_update 4 rfl) rfl rfl rfl ?_
    refine f_iload_n C 7 (dq dcL_update 5 rfl) rfl rfl rfl ?_
    refine f_iload C 9 (dq dcL_update 6 rfl) rfl rfl ?_
    refine f_callV C 12 sp okX11_update cvL_40 (by rw [hfr]; exact (Nat.le_of_ble_eq_true rfl)) (by rw [hlo]; exact (Nat.le_of_ble_eq_true rfl)) (dq dcL_update 7 rfl) rfl (Nat.le_of_ble_eq_true rfl) rfl rfl rfl rfl rfl (Nat.le_of_ble_eq_true rfl) (by rw [hcc]; exact (Nat.le_of_ble_eq_true rfl)) (by rw [hss]; exact (Nat.le_of_ble_eq_true rfl)) ?_
    refine f_ifeqz C 19 15 (dq dcL_update 8 rfl) rfl rfl (fun hz => ?_) (fun hz => ?_)
    · rw [if_pos hz] at hret
      refine f_lconst C 20 (dq dcL_update 11 rfl) rfl ?_
      refine f_lastore9 C 21 (dq dcL_update 12 rfl) rfl (Nat.le_of_ble_eq_true rfl) rfl SH9 ?_
      refine f_goto (C.out _) 36 (dq dcL_update 13 rfl) rfl ?_
      refine f_iconst (C.out _) 37 (dq dcL_update 23 rfl) rfl ?_
      exact hret _ rfl _ _ _ _ (dq dcL_update 24 rfl) (Nat.le_of_ble_eq_true rfl) (Nat.le_of_ble_eq_true rfl)
    · rw [if_neg hz] at hret
      refine f_lconst C 16 (dq dcL_update 9 rfl) rfl ?_
      refine f_goto C 20 (dq dcL_update 10 rfl) rfl ?_
      refine f_lastore9 C 21 (dq dcL_update 12 rfl) rfl (Nat.le_of_ble_eq_true rfl) rfl SH9 ?_
      refine f_goto (C.out _) 36 (dq dcL_update 13 rfl) rfl ?_
      refine f_iconst (C.out _) 37 (dq dcL_update 23 rfl) rfl ?_
      exact hret _ rfl _ _ _ _ (dq dcL_update 24 rfl) (Nat.le_of_ble_eq_true rfl) (Nat.le_of_ble_eq_true rfl)
  · obtain rfl := y1 (by decide)
    have sp : x_Sp MX11_update 1 6 (.ref 0 :: [.int a1, .int a2, .int a3, .int a4]) (St σ) (.inr nIOB) (St σ1) := h1 (by decide)
    refine f_aload C 2 (dq dcL_update 0 rfl) rfl rfl ?_
    refine f_iconst C 3 (dq dcL_update 1 rfl) rfl ?_
    refine f_aload_n C 4 (dq dcL_update 2 rfl) rfl rfl rfl ?_
    refine f_iload_n C 5 (dq dcL_update 3 rfl) rfl rfl rfl ?_
    refine f_iload_n C 6 (dq dcL_update 4 rfl) rfl rfl rfl ?_
    refine f_iload_n C 7 (dq dcL_update 5 rfl) rfl rfl rfl ?_
    refine f_iload C 9 (dq dcL_update 6 rfl) rfl rfl ?_
    refine f_callX C (i := 6) (hp := 24) (nx := 26) [] ⟨0, 21, 24, 44⟩ [⟨0, 21, 28, 19⟩, ⟨0, 21, 32, 13⟩] (hT.trans rfl) (fun y hy => by simp at hy) (by decide) (by decide) (C.2.2.2.2.1 _ clL_44) (va_Nw.use rfl (C.2.2.2.2.2.1.2.1 _ cast_nIOB)) rfl sp okX11_update cvL_40 (by rw [hfr]; exact (Nat.le_of_ble_eq_true rfl)) (by rw [hlo]; exact (Nat.le_of_ble_eq_true rfl)) (dq dcL_update 7 rfl) (Or.inr ⟨(dq dcL_update 14 rfl), rfl⟩) (Nat.le_of_ble_eq_true rfl) rfl (Nat.le_of_ble_eq_true rfl) rfl rfl rfl rfl rfl (Nat.le_of_ble_eq_true rfl) (by rw [hcc]; exact (Nat.le_of_ble_eq_true rfl)) (by rw [hss]; exact (Nat.le_of_ble_eq_true rfl)) ?_
    refine f_iconst C 27 (dq dcL_update 15 rfl) rfl ?_
    exact hret K (K9_self K) _ _ _ _ (dq dcL_update 16 rfl) (Nat.le_of_ble_eq_true rfl) (Nat.le_of_ble_eq_true rfl)
  · obtain rfl := y1 (by decide)
    have sp : x_Sp MX11_update 1 6 (.ref 0 :: [.int a1, .int a2, .int a3, .int a4]) (St σ) (.inr nIAE) (St σ1) := h1 (by decide)
    refine f_aload C 2 (dq dcL_update 0 rfl) rfl rfl ?_
    refine f_iconst C 3 (dq dcL_update 1 rfl) rfl ?_
    refine f_aload_n C 4 (dq dcL_update 2 rfl) rfl rfl rfl ?_
    refine f_iload_n C 5 (dq dcL_update 3 rfl) rfl rfl rfl ?_
    refine f_iload_n C 6 (dq dcL_update 4 rfl) rfl rfl rfl ?_
    refine f_iload_n C 7 (dq dcL_update 5 rfl) rfl rfl rfl ?_
    refine f_iload C 9 (dq dcL_update 6 rfl) rfl rfl ?_
    refine f_callX C (i := 6) (hp := 28) (nx := 30) [⟨0, 21, 24, 44⟩] ⟨0, 21, 28, 19⟩ [⟨0, 21, 32, 13⟩] (hT.trans rfl) (fun y hy => by rw [List.mem_singleton.mp hy]; exact Or.inr ⟨by decide, nIOB, C.2.2.2.2.1 _ clL_44, hnc (nIAE, nIOB) (by simp [ncs])⟩) (by decide) (by decide) (C.2.2.2.2.1 _ clL_19) (va_Nw.use rfl (C.2.2.2.2.2.1.2.1 _ cast_nIAE)) rfl sp okX11_update cvL_40 (by rw [hfr]; exact (Nat.le_of_ble_eq_true rfl)) (by rw [hlo]; exact (Nat.le_of_ble_eq_true rfl)) (dq dcL_update 7 rfl) (Or.inr ⟨(dq dcL_update 17 rfl), rfl⟩) (Nat.le_of_ble_eq_true rfl) rfl (Nat.le_of_ble_eq_true rfl) rfl rfl rfl rfl rfl (Nat.le_of_ble_eq_true rfl) (by rw [hcc]; exact (Nat.le_of_ble_eq_true rfl)) (by rw [hss]; exact (Nat.le_of_ble_eq_true rfl)) ?_
    refine f_iconst C 31 (dq dcL_update 18 rfl) rfl ?_
    exact hret K (K9_self K) _ _ _ _ (dq dcL_update 19 rfl) (Nat.le_of_ble_eq_true rfl) (Nat.le_of_ble_eq_true rfl)
  · obtain rfl := y1 (by decide)
    have sp : x_Sp MX11_update 1 6 (.ref 0 :: [.int a1, .int a2, .int a3, .int a4]) (St σ) (.inr nISE) (St σ1) := h1 (by decide)
    refine f_aload C 2 (dq dcL_update 0 rfl) rfl rfl ?_
    refine f_iconst C 3 (dq dcL_update 1 rfl) rfl ?_
    refine f_aload_n C 4 (dq dcL_update 2 rfl) rfl rfl rfl ?_
    refine f_iload_n C 5 (dq dcL_update 3 rfl) rfl rfl rfl ?_
    refine f_iload_n C 6 (dq dcL_update 4 rfl) rfl rfl rfl ?_
    refine f_iload_n C 7 (dq dcL_update 5 rfl) rfl rfl rfl ?_
    refine f_iload C 9 (dq dcL_update 6 rfl) rfl rfl ?_
    refine f_callX C (i := 6) (hp := 32) (nx := 34) [⟨0, 21, 24, 44⟩, ⟨0, 21, 28, 19⟩] ⟨0, 21, 32, 13⟩ [] (hT.trans rfl) (fun y hy => by rcases List.mem_cons.mp hy with e | hy; (rw [e]; exact Or.inr ⟨by decide, nIOB, C.2.2.2.2.1 _ clL_44, hnc (nISE, nIOB) (by simp [ncs])⟩); (rw [List.mem_singleton.mp hy]; exact Or.inr ⟨by decide, nIAE, C.2.2.2.2.1 _ clL_19, hnc (nISE, nIAE) (by simp [ncs])⟩)) (by decide) (by decide) (C.2.2.2.2.1 _ clL_13) (va_Nw.use rfl (C.2.2.2.2.2.1.2.1 _ cast_nISE)) rfl sp okX11_update cvL_40 (by rw [hfr]; exact (Nat.le_of_ble_eq_true rfl)) (by rw [hlo]; exact (Nat.le_of_ble_eq_true rfl)) (dq dcL_update 7 rfl) (Or.inr ⟨(dq dcL_update 20 rfl), rfl⟩) (Nat.le_of_ble_eq_true rfl) rfl (Nat.le_of_ble_eq_true rfl) rfl rfl rfl rfl rfl (Nat.le_of_ble_eq_true rfl) (by rw [hcc]; exact (Nat.le_of_ble_eq_true rfl)) (by rw [hss]; exact (Nat.le_of_ble_eq_true rfl)) ?_
    refine f_iconst C 35 (dq dcL_update 21 rfl) rfl ?_
    exact hret K (K9_self K) _ _ _ _ (dq dcL_update 22 rfl) (Nat.le_of_ble_eq_true rfl) (Nat.le_of_ble_eq_true rfl)
def kL_remove : List (Nat × Instr × Nat) := [(0, .aload_n 3, 1), (1, .iconst 0, 1), (2, .aload_n 0, 1), (3, .iload_n 1, 1), (4, .iload_n 2, 1), (5, .invokevirtual 46, 3), (8, .i2l, 1), (9, .lastore, 1), (10, .goto 11, 3), (13, .astore 4, 2), (15, .iconst 1, 1), (16, .ireturn, 1), (17, .astore 4, 2), (19, .iconst 2, 1), (20, .ireturn, 1), (21, .iconst 0, 1), (22, .ireturn, 1)]
theorem dcL_remove : kL_remove.all (fun q => decide (decode cL_remove q.1 = .ok q.2)) = true := by decide +kernel
theorem sw_remove {σ σ1 : xSig} {code z : Int} {f9 : Nat → Nat} {a1 a2 : Int32} (hc : 0 ≤ code ∧ code ≤ 2) (h0 : code = 0 → x_Sp MX11_remove 0 0 (.ref 0 :: [.int a1, .int a2]) (St σ) (iv z) (St σ1)) (h1 : code ≠ 0 → x_Sp MX11_remove 1 6 (.ref 0 :: [.int a1, .int a2]) (St σ) (.inr ([nIOB, nIAE].getD (code.toNat - 1) "")) (St σ1)) (y0 : code = 0 → f9 = fun _ => o9 (ll (zI z))) (y1 : code ≠ 0 → f9 = fun w => w) : x_SpH yL_remove cL_remove 5 hL_remove 8 181 1 6 [.ref 0, .int a1, .int a2, .ref 313] (St σ) f9 code (St σ1) := by
  refine f_entry (by decide +kernel) rfl (Nat.le_of_ble_eq_true rfl) (ls := [some (.ref 0), some (.int a1), some (.int a2), some (.ref 313), none]) rfl (fun K C hT hfr hlo hcc hss hnc hret => ?_)
  rcases (show code = 0 ∨ code = 1 ∨ code = 2 by omega) with rfl | rfl | rfl
  · obtain rfl := y0 rfl
    have sp := h0 rfl
    refine f_aload_n C 1 (dq dcL_remove 0 rfl) rfl rfl rfl ?_
    refine f_iconst C 2 (dq dcL_remove 1 rfl) rfl ?_
    refine f_aload_n C 3 (dq dcL_remove 2 rfl) rfl rfl rfl ?_
    refine f_iload_n C 4 (dq dcL_remove 3 rfl) rfl rfl rfl ?_
    refine f_iload_n C 5 (dq dcL_remove 4 rfl) rfl rfl rfl ?_
    refine f_callV C 8 sp okX11_remove cvL_46 (by rw [hfr]; exact (Nat.le_of_ble_eq_true rfl)) (by rw [hlo]; exact (Nat.le_of_ble_eq_true rfl)) (dq dcL_remove 5 rfl) rfl (Nat.le_of_ble_eq_true rfl) rfl rfl rfl rfl rfl (Nat.le_of_ble_eq_true rfl) (by rw [hcc]; exact (Nat.le_of_ble_eq_true rfl)) (by rw [hss]; exact (Nat.le_of_ble_eq_true rfl)) ?_
    refine f_i2lz C 9 (dq dcL_remove 6 rfl) rfl ?_
    refine f_lastore9 C 10 (dq dcL_remove 7 rfl) rfl (Nat.le_of_ble_eq_true rfl) rfl SH9 ?_
    refine f_goto (C.out _) 21 (dq dcL_remove 8 rfl) rfl ?_
    refine f_iconst (C.out _) 22 (dq dcL_remove 15 rfl) rfl ?_
    exact hret _ rfl _ _ _ _ (dq dcL_remove 16 rfl) (Nat.le_of_ble_eq_true rfl) (Nat.le_of_ble_eq_true rfl)
  · obtain rfl := y1 (by decide)
    have sp : x_Sp MX11_remove 1 6 (.ref 0 :: [.int a1, .int a2]) (St σ) (.inr nIOB) (St σ1) := h1 (by decide)
    refine f_aload_n C 1 (dq dcL_remove 0 rfl) rfl rfl rfl ?_
    refine f_iconst C 2 (dq dcL_remove 1 rfl) rfl ?_
    refine f_aload_n C 3 (dq dcL_remove 2 rfl) rfl rfl rfl ?_
    refine f_iload_n C 4 (dq dcL_remove 3 rfl) rfl rfl rfl ?_
    refine f_iload_n C 5 (dq dcL_remove 4 rfl) rfl rfl rfl ?_
    refine f_callX C (i := 4) (hp := 13) (nx := 15) [] ⟨0, 10, 13, 44⟩ [⟨0, 10, 17, 19⟩] (hT.trans rfl) (fun y hy => by simp at hy) (by decide) (by decide) (C.2.2.2.2.1 _ clL_44) (va_Nw.use rfl (C.2.2.2.2.2.1.2.1 _ cast_nIOB)) rfl sp okX11_remove cvL_46 (by rw [hfr]; exact (Nat.le_of_ble_eq_true rfl)) (by rw [hlo]; exact (Nat.le_of_ble_eq_true rfl)) (dq dcL_remove 5 rfl) (Or.inr ⟨(dq dcL_remove 9 rfl), rfl⟩) (Nat.le_of_ble_eq_true rfl) rfl (Nat.le_of_ble_eq_true rfl) rfl rfl rfl rfl rfl (Nat.le_of_ble_eq_true rfl) (by rw [hcc]; exact (Nat.le_of_ble_eq_true rfl)) (by rw [hss]; exact (Nat.le_of_ble_eq_true rfl)) ?_
    refine f_iconst C 16 (dq dcL_remove 10 rfl) rfl ?_
    exact hret K (K9_self K) _ _ _ _ (dq dcL_remove 11 rfl) (Nat.le_of_ble_eq_true rfl) (Nat.le_of_ble_eq_true rfl)
  · obtain rfl := y1 (by decide)
    have sp : x_Sp MX11_remove 1 6 (.ref 0 :: [.int a1, .int a2]) (St σ) (.inr nIAE) (St σ1) := h1 (by decide)
    refine f_aload_n C 1 (dq dcL_remove 0 rfl) rfl rfl rfl ?_
    refine f_iconst C 2 (dq dcL_remove 1 rfl) rfl ?_
    refine f_aload_n C 3 (dq dcL_remove 2 rfl) rfl rfl rfl ?_
    refine f_iload_n C 4 (dq dcL_remove 3 rfl) rfl rfl rfl ?_
    refine f_iload_n C 5 (dq dcL_remove 4 rfl) rfl rfl rfl ?_
    refine f_callX C (i := 4) (hp := 17) (nx := 19) [⟨0, 10, 13, 44⟩] ⟨0, 10, 17, 19⟩ [] (hT.trans rfl) (fun y hy => by rw [List.mem_singleton.mp hy]; exact Or.inr ⟨by decide, nIOB, C.2.2.2.2.1 _ clL_44, hnc (nIAE, nIOB) (by simp [ncs])⟩) (by decide) (by decide) (C.2.2.2.2.1 _ clL_19) (va_Nw.use rfl (C.2.2.2.2.2.1.2.1 _ cast_nIAE)) rfl sp okX11_remove cvL_46 (by rw [hfr]; exact (Nat.le_of_ble_eq_true rfl)) (by rw [hlo]; exact (Nat.le_of_ble_eq_true rfl)) (dq dcL_remove 5 rfl) (Or.inr ⟨(dq dcL_remove 12 rfl), rfl⟩) (Nat.le_of_ble_eq_true rfl) rfl (Nat.le_of_ble_eq_true rfl) rfl rfl rfl rfl rfl (Nat.le_of_ble_eq_true rfl) (by rw [hcc]; exact (Nat.le_of_ble_eq_true rfl)) (by rw [hss]; exact (Nat.le_of_ble_eq_true rfl)) ?_
    refine f_iconst C 20 (dq dcL_remove 13 rfl) rfl ?_
    exact hret K (K9_self K) _ _ _ _ (dq dcL_remove 14 rfl) (Nat.le_of_ble_eq_true rfl) (Nat.le_of_ble_eq_true rfl)
def kL_rule : List (Nat × Instr × Nat) := [(0, .aload_n 3, 1), (1, .iconst 0, 1), (2, .aload_n 0, 1), (3, .iload_n 1, 1), (4, .iload_n 2, 1), (5, .invokevirtual 49, 3), (8, .i2l, 1), (9, .lastore, 1), (10, .goto 11, 3), (13, .astore 4, 2), (15, .iconst 1, 1), (16, .ireturn, 1), (17, .astore 4, 2), (19, .iconst 2, 1), (20, .ireturn, 1), (21, .iconst 0, 1), (22, .ireturn, 1)]
theorem dcL_rule : kL_rule.all (fun q => decide (decode cL_rule q.1 = .ok q.2)) = true := by decide +kernel
theorem sw_rule {σ σ1 : xSig} {code z : Int} {f9 : Nat → Nat} {a1 a2 : Int32} (hc : 0 ≤ code ∧ code ≤ 2) (h0 : code = 0 → x_Sp MX11_rule 0 0 (.ref 0 :: [.int a1, .int a2]) (St σ) (iv z) (St σ1)) (h1 : code ≠ 0 → x_Sp MX11_rule 1 6 (.ref 0 :: [.int a1, .int a2]) (St σ) (.inr ([nIAE, nISE].getD (code.toNat - 1) "")) (St σ1)) (y0 : code = 0 → f9 = fun _ => o9 (ll (zI z))) (y1 : code ≠ 0 → f9 = fun w => w) : x_SpH yL_rule cL_rule 5 hL_rule 7 136 1 6 [.ref 0, .int a1, .int a2, .ref 313] (St σ) f9 code (St σ1) := by
  refine f_entry (by decide +kernel) rfl (Nat.le_of_ble_eq_true rfl) (ls := [some (.ref 0), some (.int a1), some (.int a2), some (.ref 313), none]) rfl (fun K C hT hfr hlo hcc hss hnc hret => ?_)
  rcases (show code = 0 ∨ code = 1 ∨ code = 2 by omega) with rfl | rfl | rfl
  · obtain rfl := y0 rfl
    have sp := h0 rfl
    refine f_aload_n C 1 (dq dcL_rule 0 rfl) rfl rfl rfl ?_
    refine f_iconst C 2 (dq dcL_rule 1 rfl) rfl ?_
    refine f_aload_n C 3 (dq dcL_rule 2 rfl) rfl rfl rfl ?_
    refine f_iload_n C 4 (dq dcL_rule 3 rfl) rfl rfl rfl ?_
    refine f_iload_n C 5 (dq dcL_rule 4 rfl) rfl rfl rfl ?_
    refine f_callV C 8 sp okX11_rule cvL_49 (by rw [hfr]; exact (Nat.le_of_ble_eq_true rfl)) (by rw [hlo]; exact (Nat.le_of_ble_eq_true rfl)) (dq dcL_rule 5 rfl) rfl (Nat.le_of_ble_eq_true rfl) rfl rfl rfl rfl rfl (Nat.le_of_ble_eq_true rfl) (by rw [hcc]; exact (Nat.le_of_ble_eq_true rfl)) (by rw [hss]; exact (Nat.le_of_ble_eq_true rfl)) ?_
    refine f_i2lz C 9 (dq dcL_rule 6 rfl) rfl ?_
    refine f_lastore9 C 10 (dq dcL_rule 7 rfl) rfl (Nat.le_of_ble_eq_true rfl) rfl SH9 ?_
    refine f_goto (C.out _) 21 (dq dcL_rule 8 rfl) rfl ?_
    refine f_iconst (C.out _) 22 (dq dcL_rule 15 rfl) rfl ?_
    exact hret _ rfl _ _ _ _ (dq dcL_rule 16 rfl) (Nat.le_of_ble_eq_true rfl) (Nat.le_of_ble_eq_true rfl)
  · obtain rfl := y1 (by decide)
    have sp : x_Sp MX11_rule 1 6 (.ref 0 :: [.int a1, .int a2]) (St σ) (.inr nIAE) (St σ1) := h1 (by decide)
    refine f_aload_n C 1 (dq dcL_rule 0 rfl) rfl rfl rfl ?_
    refine f_iconst C 2 (dq dcL_rule 1 rfl) rfl ?_
    refine f_aload_n C 3 (dq dcL_rule 2 rfl) rfl rfl rfl ?_
    refine f_iload_n C 4 (dq dcL_rule 3 rfl) rfl rfl rfl ?_
    refine f_iload_n C 5 (dq dcL_rule 4 rfl) rfl rfl rfl ?_
    refine f_callX C (i := 4) (hp := 13) (nx := 15) [] ⟨0, 10, 13, 19⟩ [⟨0, 10, 17, 13⟩] (hT.trans rfl) (fun y hy => by simp at hy) (by decide) (by decide) (C.2.2.2.2.1 _ clL_19) (va_Nw.use rfl (C.2.2.2.2.2.1.2.1 _ cast_nIAE)) rfl sp okX11_rule cvL_49 (by rw [hfr]; exact (Nat.le_of_ble_eq_true rfl)) (by rw [hlo]; exact (Nat.le_of_ble_eq_true rfl)) (dq dcL_rule 5 rfl) (Or.inr ⟨(dq dcL_rule 9 rfl), rfl⟩) (Nat.le_of_ble_eq_true rfl) rfl (Nat.le_of_ble_eq_true rfl) rfl rfl rfl rfl rfl (Nat.le_of_ble_eq_true rfl) (by rw [hcc]; exact (Nat.le_of_ble_eq_true rfl)) (by rw [hss]; exact (Nat.le_of_ble_eq_true rfl)) ?_
    refine f_iconst C 16 (dq dcL_rule 10 rfl) rfl ?_
    exact hret K (K9_self K) _ _ _ _ (dq dcL_rule 11 rfl) (Nat.le_of_ble_eq_true rfl) (Nat.le_of_ble_eq_true rfl)
  · obtain rfl := y1 (by decide)
    have sp : x_Sp MX11_rule 1 6 (.ref 0 :: [.int a1, .int a2]) (St σ) (.inr nISE) (St σ1) := h1 (by decide)
    refine f_aload_n C 1 (dq dcL_rule 0 rfl) rfl rfl rfl ?_
    refine f_iconst C 2 (dq dcL_rule 1 rfl) rfl ?_
    refine f_aload_n C 3 (dq dcL_rule 2 rfl) rfl rfl rfl ?_
    refine f_iload_n C 4 (dq dcL_rule 3 rfl) rfl rfl rfl ?_
    refine f_iload_n C 5 (dq dcL_rule 4 rfl) rfl rfl rfl ?_
    refine f_callX C (i := 4) (hp := 17) (nx := 19) [⟨0, 10, 13, 19⟩] ⟨0, 10, 17, 13⟩ [] (hT.trans rfl) (fun y hy => by rw [List.mem_singleton.mp hy]; exact Or.inr ⟨by decide, nIAE, C.2.2.2.2.1 _ clL_19, hnc (nISE, nIAE) (by simp [ncs])⟩) (by decide) (by decide) (C.2.2.2.2.1 _ clL_13) (va_Nw.use rfl (C.2.2.2.2.2.1.2.1 _ cast_nISE)) rfl sp okX11_rule cvL_49 (by rw [hfr]; exact (Nat.le_of_ble_eq_true rfl)) (by rw [hlo]; exact (Nat.le_of_ble_eq_true rfl)) (dq dcL_rule 5 rfl) (Or.inr ⟨(dq dcL_rule 12 rfl), rfl⟩) (Nat.le_of_ble_eq_true rfl) rfl (Nat.le_of_ble_eq_true rfl) rfl rfl rfl rfl rfl (Nat.le_of_ble_eq_true rfl) (by rw [hcc]; exact (Nat.le_of_ble_eq_true rfl)) (by rw [hss]; exact (Nat.le_of_ble_eq_true rfl)) ?_
    refine f_iconst C 20 (dq dcL_rule 13 rfl) rfl ?_
    exact hret K (K9_self K) _ _ _ _ (dq dcL_rule 14 rfl) (Nat.le_of_ble_eq_true rfl) (Nat.le_of_ble_eq_true rfl)
def kL_index : List (Nat × Instr × Nat) := [(0, .aload_n 3, 1), (1, .iconst 0, 1), (2, .aload_n 0, 1), (3, .iload_n 1, 1), (4, .iload_n 2, 1), (5, .invokevirtual 52, 3), (8, .i2l, 1), (9, .lastore, 1), (10, .goto 11, 3), (13, .astore 4, 2), (15, .iconst 1, 1), (16, .ireturn, 1), (17, .astore 4, 2), (19, .iconst 2, 1), (20, .ireturn, 1), (21, .iconst 0, 1), (22, .ireturn, 1)]
theorem dcL_index : kL_index.all (fun q => decide (decode cL_index q.1 = .ok q.2)) = true := by decide +kernel
theorem sw_index {σ σ1 : xSig} {code z : Int} {f9 : Nat → Nat} {a1 a2 : Int32} (hc : 0 ≤ code ∧ code ≤ 2) (h0 : code = 0 → x_Sp MX11_index 0 0 (.ref 0 :: [.int a1, .int a2]) (St σ) (iv z) (St σ1)) (h1 : code ≠ 0 → x_Sp MX11_index 1 6 (.ref 0 :: [.int a1, .int a2]) (St σ) (.inr ([nIAE, nISE].getD (code.toNat - 1) "")) (St σ1)) (y0 : code = 0 → f9 = fun _ => o9 (ll (zI z))) (y1 : code ≠ 0 → f9 = fun w => w) : x_SpH yL_index cL_index 5 hL_index 7 113 1 6 [.ref 0, .int a1, .int a2, .ref 313] (St σ) f9 code (St σ1) := by
  refine f_entry (by decide +kernel) rfl (Nat.le_of_ble_eq_true rfl) (ls := [some (.ref 0), some (.int a1), some (.int a2), some (.ref 313), none]) rfl (fun K C hT hfr hlo hcc hss hnc hret => ?_)
  rcases (show code = 0 ∨ code = 1 ∨ code = 2 by omega) with rfl | rfl | rfl
  · obtain rfl := y0 rfl
    have sp := h0 rfl
    refine f_aload_n C 1 (dq dcL_index 0 rfl) rfl rfl rfl ?_
    refine f_iconst C 2 (dq dcL_index 1 rfl) rfl ?_
    refine f_aload_n C 3 (dq dcL_index 2 rfl) rfl rfl rfl ?_
    refine f_iload_n C 4 (dq dcL_index 3 rfl) rfl rfl rfl ?_
    refine f_iload_n C 5 (dq dcL_index 4 rfl) rfl rfl rfl ?_
    refine f_callV C 8 sp okX11_index cvL_52 (by rw [hfr]; exact (Nat.le_of_ble_eq_true rfl)) (by rw [hlo]; exact (Nat.le_of_ble_eq_true rfl)) (dq dcL_index 5 rfl) rfl (Nat.le_of_ble_eq_true rfl) rfl rfl rfl rfl rfl (Nat.le_of_ble_eq_true rfl) (by rw [hcc]; exact (Nat.le_of_ble_eq_true rfl)) (by rw [hss]; exact (Nat.le_of_ble_eq_true rfl)) ?_
    refine f_i2lz C 9 (dq dcL_index 6 rfl) rfl ?_
    refine f_lastore9 C 10 (dq dcL_index 7 rfl) rfl (Nat.le_of_ble_eq_true rfl) rfl SH9 ?_
    refine f_goto (C.out _) 21 (dq dcL_index 8 rfl) rfl ?_
    refine f_iconst (C.out _) 22 (dq dcL_index 15 rfl) rfl ?_
    exact hret _ rfl _ _ _ _ (dq dcL_index 16 rfl) (Nat.le_of_ble_eq_true rfl) (Nat.le_of_ble_eq_true rfl)
  · obtain rfl := y1 (by decide)
    have sp : x_Sp MX11_index 1 6 (.ref 0 :: [.int a1, .int a2]) (St σ) (.inr nIAE) (St σ1) := h1 (by decide)
    refine f_aload_n C 1 (dq dcL_index 0 rfl) rfl rfl rfl ?_
    refine f_iconst C 2 (dq dcL_index 1 rfl) rfl ?_
    refine f_aload_n C 3 (dq dcL_index 2 rfl) rfl rfl rfl ?_
    refine f_iload_n C 4 (dq dcL_index 3 rfl) rfl rfl rfl ?_
    refine f_iload_n C 5 (dq dcL_index 4 rfl) rfl rfl rfl ?_
    refine f_callX C (i := 4) (hp := 13) (nx := 15) [] ⟨0, 10, 13, 19⟩ [⟨0, 10, 17, 13⟩] (hT.trans rfl) (fun y hy => by simp at hy) (by decide) (by decide) (C.2.2.2.2.1 _ clL_19) (va_Nw.use rfl (C.2.2.2.2.2.1.2.1 _ cast_nIAE)) rfl sp okX11_index cvL_52 (by rw [hfr]; exact (Nat.le_of_ble_eq_true rfl)) (by rw [hlo]; exact (Nat.le_of_ble_eq_true rfl)) (dq dcL_index 5 rfl) (Or.inr ⟨(dq dcL_index 9 rfl), rfl⟩) (Nat.le_of_ble_eq_true rfl) rfl (Nat.le_of_ble_eq_true rfl) rfl rfl rfl rfl rfl (Nat.le_of_ble_eq_true rfl) (by rw [hcc]; exact (Nat.le_of_ble_eq_true rfl)) (by rw [hss]; exact (Nat.le_of_ble_eq_true rfl)) ?_
    refine f_iconst C 16 (dq dcL_index 10 rfl) rfl ?_
    exact hret K (K9_self K) _ _ _ _ (dq dcL_index 11 rfl) (Nat.le_of_ble_eq_true rfl) (Nat.le_of_ble_eq_true rfl)
  · obtain rfl := y1 (by decide)
    have sp : x_Sp MX11_index 1 6 (.ref 0 :: [.int a1, .int a2]) (St σ) (.inr nISE) (St σ1) := h1 (by decide)
    refine f_aload_n C 1 (dq dcL_index 0 rfl) rfl rfl rfl ?_
    refine f_iconst C 2 (dq dcL_index 1 rfl) rfl ?_
    refine f_aload_n C 3 (dq dcL_index 2 rfl) rfl rfl rfl ?_
    refine f_iload_n C 4 (dq dcL_index 3 rfl) rfl rfl rfl ?_
    refine f_iload_n C 5 (dq dcL_index 4 rfl) rfl rfl rfl ?_
    refine f_callX C (i := 4) (hp := 17) (nx := 19) [⟨0, 10, 13, 19⟩] ⟨0, 10, 17, 13⟩ [] (hT.trans rfl) (fun y hy => by rw [List.mem_singleton.mp hy]; exact Or.inr ⟨by decide, nIAE, C.2.2.2.2.1 _ clL_19, hnc (nISE, nIAE) (by simp [ncs])⟩) (by decide) (by decide) (C.2.2.2.2.1 _ clL_13) (va_Nw.use rfl (C.2.2.2.2.2.1.2.1 _ cast_nISE)) rfl sp okX11_index cvL_52 (by rw [hfr]; exact (Nat.le_of_ble_eq_true rfl)) (by rw [hlo]; exact (Nat.le_of_ble_eq_true rfl)) (dq dcL_index 5 rfl) (Or.inr ⟨(dq dcL_index 12 rfl), rfl⟩) (Nat.le_of_ble_eq_true rfl) rfl (Nat.le_of_ble_eq_true rfl) rfl rfl rfl rfl rfl (Nat.le_of_ble_eq_true rfl) (by rw [hcc]; exact (Nat.le_of_ble_eq_true rfl)) (by rw [hss]; exact (Nat.le_of_ble_eq_true rfl)) ?_
    refine f_iconst C 20 (dq dcL_index 13 rfl) rfl ?_
    exact hret K (K9_self K) _ _ _ _ (dq dcL_index 14 rfl) (Nat.le_of_ble_eq_true rfl) (Nat.le_of_ble_eq_true rfl)
def kL_dropIndex : List (Nat × Instr × Nat) := [(0, .aload_n 2, 1), (1, .iconst 0, 1), (2, .aload_n 0, 1), (3, .iload_n 1, 1), (4, .invokevirtual 56, 3), (7, .i2l, 1), (8, .lastore, 1), (9, .goto 6, 3), (12, .astore_n 3, 1), (13, .iconst 1, 1), (14, .ireturn, 1), (15, .iconst 0, 1), (16, .ireturn, 1)]
theorem dcL_dropIndex : kL_dropIndex.all (fun q => decide (decode cL_dropIndex q.1 = .ok q.2)) = true := by decide +kernel
theorem sw_dropIndex {σ σ1 : xSig} {code z : Int} {f9 : Nat → Nat} {a1 : Int32} (hc : 0 ≤ code ∧ code ≤ 1) (h0 : code = 0 → x_Sp MX11_dropIndex 0 0 (.ref 0 :: [.int a1]) (St σ) (iv z) (St σ1)) (h1 : code ≠ 0 → x_Sp MX11_dropIndex 1 6 (.ref 0 :: [.int a1]) (St σ) (.inr ([nIOB].getD (code.toNat - 1) "")) (St σ1)) (y0 : code = 0 → f9 = fun _ => o9 (ll (zI z))) (y1 : code ≠ 0 → f9 = fun w => w) : x_SpH yL_dropIndex cL_dropIndex 4 hL_dropIndex 7 111 1 6 [.ref 0, .int a1, .ref 313] (St σ) f9 code (St σ1) := by
  refine f_entry (by decide +kernel) rfl (Nat.le_of_ble_eq_true rfl) (ls := [some (.ref 0), some (.int a1), some (.ref 313), none]) rfl (fun K C hT hfr hlo hcc hss hnc hret => ?_)
  rcases (show code = 0 ∨ code = 1 by omega) with rfl | rfl
  · obtain rfl := y0 rfl
    have sp := h0 rfl
    refine f_aload_n C 1 (dq dcL_dropIndex 0 rfl) rfl rfl rfl ?_
    refine f_iconst C 2 (dq dcL_dropIndex 1 rfl) rfl ?_
    refine f_aload_n C 3 (dq dcL_dropIndex 2 rfl) rfl rfl rfl ?_
    refine f_iload_n C 4 (dq dcL_dropIndex 3 rfl) rfl rfl rfl ?_
    refine f_callV C 7 sp okX11_dropIndex cvL_56 (by rw [hfr]; exact (Nat.le_of_ble_eq_true rfl)) (by rw [hlo]; exact (Nat.le_of_ble_eq_true rfl)) (dq dcL_dropIndex 4 rfl) rfl (Nat.le_of_ble_eq_true rfl) rfl rfl rfl rfl rfl (Nat.le_of_ble_eq_true rfl) (by rw [hcc]; exact (Nat.le_of_ble_eq_true rfl)) (by rw [hss]; exact (Nat.le_of_ble_eq_true rfl)) ?_
    refine f_i2lz C 8 (dq dcL_dropIndex 5 rfl) rfl ?_
    refine f_lastore9 C 9 (dq dcL_dropIndex 6 rfl) rfl (Nat.le_of_ble_eq_true rfl) rfl SH9 ?_
    refine f_goto (C.out _) 15 (dq dcL_dropIndex 7 rfl) rfl ?_
    refine f_iconst (C.out _) 16 (dq dcL_dropIndex 11 rfl) rfl ?_
    exact hret _ rfl _ _ _ _ (dq dcL_dropIndex 12 rfl) (Nat.le_of_ble_eq_true rfl) (Nat.le_of_ble_eq_true rfl)
  · obtain rfl := y1 (by decide)
    have sp : x_Sp MX11_dropIndex 1 6 (.ref 0 :: [.int a1]) (St σ) (.inr nIOB) (St σ1) := h1 (by decide)
    refine f_aload_n C 1 (dq dcL_dropIndex 0 rfl) rfl rfl rfl ?_
    refine f_iconst C 2 (dq dcL_dropIndex 1 rfl) rfl ?_
    refine f_aload_n C 3 (dq dcL_dropIndex 2 rfl) rfl rfl rfl ?_
    refine f_iload_n C 4 (dq dcL_dropIndex 3 rfl) rfl rfl rfl ?_
    refine f_callX C (i := 3) (hp := 12) (nx := 13) [] ⟨0, 9, 12, 44⟩ [] (hT.trans rfl) (fun y hy => by simp at hy) (by decide) (by decide) (C.2.2.2.2.1 _ clL_44) (va_Nw.use rfl (C.2.2.2.2.2.1.2.1 _ cast_nIOB)) rfl sp okX11_dropIndex cvL_56 (by rw [hfr]; exact (Nat.le_of_ble_eq_true rfl)) (by rw [hlo]; exact (Nat.le_of_ble_eq_true rfl)) (dq dcL_dropIndex 4 rfl) (Or.inl ⟨3, rfl, (dq dcL_dropIndex 8 rfl), rfl⟩) (Nat.le_of_ble_eq_true rfl) rfl (Nat.le_of_ble_eq_true rfl) rfl rfl rfl rfl rfl (Nat.le_of_ble_eq_true rfl) (by rw [hcc]; exact (Nat.le_of_ble_eq_true rfl)) (by rw [hss]; exact (Nat.le_of_ble_eq_true rfl)) ?_
    refine f_iconst C 14 (dq dcL_dropIndex 9 rfl) rfl ?_
    exact hret K (K9_self K) _ _ _ _ (dq dcL_dropIndex 10 rfl) (Nat.le_of_ble_eq_true rfl) (Nat.le_of_ble_eq_true rfl)
def kL_filter : List (Nat × Instr × Nat) := [(0, .aload_n 3, 1), (1, .iconst 0, 1), (2, .aload_n 0, 1), (3, .iload_n 1, 1), (4, .iload_n 2, 1), (5, .invokevirtual 59, 3), (8, .i2l, 1), (9, .lastore, 1), (10, .goto 11, 3), (13, .astore 4, 2), (15, .iconst 1, 1), (16, .ireturn, 1), (17, .astore 4, 2), (19, .iconst 2, 1), (20, .ireturn, 1), (21, .iconst 0, 1), (22, .ireturn, 1)]
theorem dcL_filter : kL_filter.all (fun q => decide (decode cL_filter q.1 = .ok q.2)) = true := by decide +kernel
theorem sw_filter {σ σ1 : xSig} {code z : Int} {f9 : Nat → Nat} {a1 a2 : Int32} (hc : 0 ≤ code ∧ code ≤ 2) (h0 : code = 0 → x_Sp MX11_filter 0 0 (.ref 0 :: [.int a1, .int a2]) (St σ) (iv z) (St σ1)) (h1 : code ≠ 0 → x_Sp MX11_filter 1 6 (.ref 0 :: [.int a1, .int a2]) (St σ) (.inr ([nIAE, nISE].getD (code.toNat - 1) "")) (St σ1)) (y0 : code = 0 → f9 = fun _ => o9 (ll (zI z))) (y1 : code ≠ 0 → f9 = fun w => w) : x_SpH yL_filter cL_filter 5 hL_filter 7 163 1 6 [.ref 0, .int a1, .int a2, .ref 313] (St σ) f9 code (St σ1) := by
  refine f_entry (by decide +kernel) rfl (Nat.le_of_ble_eq_true rfl) (ls := [some (.ref 0), some (.int a1), some (.int a2), some (.ref 313), none]) rfl (fun K C hT hfr hlo hcc hss hnc hret => ?_)
  rcases (show code = 0 ∨ code = 1 ∨ code = 2 by omega) with rfl | rfl | rfl
  · obtain rfl := y0 rfl
    have sp := h0 rfl
    refine f_aload_n C 1 (dq dcL_filter 0 rfl) rfl rfl rfl ?_
    refine f_iconst C 2 (dq dcL_filter 1 rfl) rfl ?_
    refine f_aload_n C 3 (dq dcL_filter 2 rfl) rfl rfl rfl ?_
    refine f_iload_n C 4 (dq dcL_filter 3 rfl) rfl rfl rfl ?_
    refine f_iload_n C 5 (dq dcL_filter 4 rfl) rfl rfl rfl ?_
    refine f_callV C 8 sp okX11_filter cvL_59 (by rw [hfr]; exact (Nat.le_of_ble_eq_true rfl)) (by rw [hlo]; exact (Nat.le_of_ble_eq_true rfl)) (dq dcL_filter 5 rfl) rfl (Nat.le_of_ble_eq_true rfl) rfl rfl rfl rfl rfl (Nat.le_of_ble_eq_true rfl) (by rw [hcc]; exact (Nat.le_of_ble_eq_true rfl)) (by rw [hss]; exact (Nat.le_of_ble_eq_true rfl)) ?_
    refine f_i2lz C 9 (dq dcL_filter 6 rfl) rfl ?_
    refine f_lastore9 C 10 (dq dcL_filter 7 rfl) rfl (Nat.le_of_ble_eq_true rfl) rfl SH9 ?_
    refine f_goto (C.out _) 21 (dq dcL_filter 8 rfl) rfl ?_
    refine f_iconst (C.out _) 22 (dq dcL_filter 15 rfl) rfl ?_
    exact hret _ rfl _ _ _ _ (dq dcL_filter 16 rfl) (Nat.le_of_ble_eq_true rfl) (Nat.le_of_ble_eq_true rfl)
  · obtain rfl := y1 (by decide)
    have sp : x_Sp MX11_filter 1 6 (.ref 0 :: [.int a1, .int a2]) (St σ) (.inr nIAE) (St σ1) := h1 (by decide)
    refine f_aload_n C 1 (dq dcL_filter 0 rfl) rfl rfl rfl ?_
    refine f_iconst C 2 (dq dcL_filter 1 rfl) rfl ?_
    refine f_aload_n C 3 (dq dcL_filter 2 rfl) rfl rfl rfl ?_
    refine f_iload_n C 4 (dq dcL_filter 3 rfl) rfl rfl rfl ?_
    refine f_iload_n C 5 (dq dcL_filter 4 rfl) rfl rfl rfl ?_
    refine f_callX C (i := 4) (hp := 13) (nx := 15) [] ⟨0, 10, 13, 19⟩ [⟨0, 10, 17, 13⟩] (hT.trans rfl) (fun y hy => by simp at hy) (by decide) (by decide) (C.2.2.2.2.1 _ clL_19) (va_Nw.use rfl (C.2.2.2.2.2.1.2.1 _ cast_nIAE)) rfl sp okX11_filter cvL_59 (by rw [hfr]; exact (Nat.le_of_ble_eq_true rfl)) (by rw [hlo]; exact (Nat.le_of_ble_eq_true rfl)) (dq dcL_filter 5 rfl) (Or.inr ⟨(dq dcL_filter 9 rfl), rfl⟩) (Nat.le_of_ble_eq_true rfl) rfl (Nat.le_of_ble_eq_true rfl) rfl rfl rfl rfl rfl (Nat.le_of_ble_eq_true rfl) (by rw [hcc]; exact (Nat.le_of_ble_eq_true rfl)) (by rw [hss]; exact (Nat.le_of_ble_eq_true rfl)) ?_
    refine f_iconst C 16 (dq dcL_filter 10 rfl) rfl ?_
    exact hret K (K9_self K) _ _ _ _ (dq dcL_filter 11 rfl) (Nat.le_of_ble_eq_true rfl) (Nat.le_of_ble_eq_true rfl)
  · obtain rfl := y1 (by decide)
    have sp : x_Sp MX11_filter 1 6 (.ref 0 :: [.int a1, .int a2]) (St σ) (.inr nISE) (St σ1) := h1 (by decide)
    refine f_aload_n C 1 (dq dcL_filter 0 rfl) rfl rfl rfl ?_
    refine f_iconst C 2 (dq dcL_filter 1 rfl) rfl ?_
    refine f_aload_n C 3 (dq dcL_filter 2 rfl) rfl rfl rfl ?_
    refine f_iload_n C 4 (dq dcL_filter 3 rfl) rfl rfl rfl ?_
    refine f_iload_n C 5 (dq dcL_filter 4 rfl) rfl rfl rfl ?_
    refine f_callX C (i := 4) (hp := 17) (nx := 19) [⟨0, 10, 13, 19⟩] ⟨0, 10, 17, 13⟩ [] (hT.trans rfl) (fun y hy => by rw [List.mem_singleton.mp hy]; exact Or.inr ⟨by decide, nIAE, C.2.2.2.2.1 _ clL_19, hnc (nISE, nIAE) (by simp [ncs])⟩) (by decide) (by decide) (C.2.2.2.2.1 _ clL_13) (va_Nw.use rfl (C.2.2.2.2.2.1.2.1 _ cast_nISE)) rfl sp okX11_filter cvL_59 (by rw [hfr]; exact (Nat.le_of_ble_eq_true rfl)) (by rw [hlo]; exact (Nat.le_of_ble_eq_true rfl)) (dq dcL_filter 5 rfl) (Or.inr ⟨(dq dcL_filter 12 rfl), rfl⟩) (Nat.le_of_ble_eq_true rfl) rfl (Nat.le_of_ble_eq_true rfl) rfl rfl rfl rfl rfl (Nat.le_of_ble_eq_true rfl) (by rw [hcc]; exact (Nat.le_of_ble_eq_true rfl)) (by rw [hss]; exact (Nat.le_of_ble_eq_true rfl)) ?_
    refine f_iconst C 20 (dq dcL_filter 13 rfl) rfl ?_
    exact hret K (K9_self K) _ _ _ _ (dq dcL_filter 14 rfl) (Nat.le_of_ble_eq_true rfl) (Nat.le_of_ble_eq_true rfl)
def kL_find : List (Nat × Instr × Nat) := [(0, .aload_n 2, 1), (1, .iconst 0, 1), (2, .aload_n 0, 1), (3, .iload_n 1, 1), (4, .invokevirtual 62, 3), (7, .i2l, 1), (8, .lastore, 1), (9, .goto 6, 3), (12, .astore_n 3, 1), (13, .iconst 1, 1), (14, .ireturn, 1), (15, .iconst 0, 1), (16, .ireturn, 1)]
theorem dcL_find : kL_find.all (fun q => decide (decode cL_find q.1 = .ok q.2)) = true := by decide +kernel
theorem sw_find {σ σ1 : xSig} {code z : Int} {f9 : Nat → Nat} {a1 : Int32} (hc : 0 ≤ code ∧ code ≤ 1) (h0 : code = 0 → x_Sp MX11_find 0 0 (.ref 0 :: [.int a1]) (St σ) (iv z) (St σ1)) (h1 : code ≠ 0 → x_Sp MX11_find 1 6 (.ref 0 :: [.int a1]) (St σ) (.inr ([nIAE].getD (code.toNat - 1) "")) (St σ1)) (y0 : code = 0 → f9 = fun _ => o9 (ll (zI z))) (y1 : code ≠ 0 → f9 = fun w => w) : x_SpH yL_find cL_find 4 hL_find 8 193 1 6 [.ref 0, .int a1, .ref 313] (St σ) f9 code (St σ1) := by
  refine f_entry (by decide +kernel) rfl (Nat.le_of_ble_eq_true rfl) (ls := [some (.ref 0), some (.int a1), some (.ref 313), none]) rfl (fun K C hT hfr hlo hcc hss hnc hret => ?_)
  rcases (show code = 0 ∨ code = 1 by omega) with rfl | rfl
  · obtain rfl := y0 rfl
    have sp := h0 rfl
    refine f_aload_n C 1 (dq dcL_find 0 rfl) rfl rfl rfl ?_
    refine f_iconst C 2 (dq dcL_find 1 rfl) rfl ?_
    refine f_aload_n C 3 (dq dcL_find 2 rfl) rfl rfl rfl ?_
    refine f_iload_n C 4 (dq dcL_find 3 rfl) rfl rfl rfl ?_
    refine f_callV C 7 sp okX11_find cvL_62 (by rw [hfr]; exact (Nat.le_of_ble_eq_true rfl)) (by rw [hlo]; exact (Nat.le_of_ble_eq_true rfl)) (dq dcL_find 4 rfl) rfl (Nat.le_of_ble_eq_true rfl) rfl rfl rfl rfl rfl (Nat.le_of_ble_eq_true rfl) (by rw [hcc]; exact (Nat.le_of_ble_eq_true rfl)) (by rw [hss]; exact (Nat.le_of_ble_eq_true rfl)) ?_
    refine f_i2lz C 8 (dq dcL_find 5 rfl) rfl ?_
    refine f_lastore9 C 9 (dq dcL_find 6 rfl) rfl (Nat.le_of_ble_eq_true rfl) rfl SH9 ?_
    refine f_goto (C.out _) 15 (dq dcL_find 7 rfl) rfl ?_
    refine f_iconst (C.out _) 16 (dq dcL_find 11 rfl) rfl ?_
    exact hret _ rfl _ _ _ _ (dq dcL_find 12 rfl) (Nat.le_of_ble_eq_true rfl) (Nat.le_of_ble_eq_true rfl)
  · obtain rfl := y1 (by decide)
    have sp : x_Sp MX11_find 1 6 (.ref 0 :: [.int a1]) (St σ) (.inr nIAE) (St σ1) := h1 (by decide)
    refine f_aload_n C 1 (dq dcL_find 0 rfl) rfl rfl rfl ?_
    refine f_iconst C 2 (dq dcL_find 1 rfl) rfl ?_
    refine f_aload_n C 3 (dq dcL_find 2 rfl) rfl rfl rfl ?_
    refine f_iload_n C 4 (dq dcL_find 3 rfl) rfl rfl rfl ?_
    refine f_callX C (i := 3) (hp := 12) (nx := 13) [] ⟨0, 9, 12, 19⟩ [] (hT.trans rfl) (fun y hy => by simp at hy) (by decide) (by decide) (C.2.2.2.2.1 _ clL_19) (va_Nw.use rfl (C.2.2.2.2.2.1.2.1 _ cast_nIAE)) rfl sp okX11_find cvL_62 (by rw [hfr]; exact (Nat.le_of_ble_eq_true rfl)) (by rw [hlo]; exact (Nat.le_of_ble_eq_true rfl)) (dq dcL_find 4 rfl) (Or.inl ⟨3, rfl, (dq dcL_find 8 rfl), rfl⟩) (Nat.le_of_ble_eq_true rfl) rfl (Nat.le_of_ble_eq_true rfl) rfl rfl rfl rfl rfl (Nat.le_of_ble_eq_true rfl) (by rw [hcc]; exact (Nat.le_of_ble_eq_true rfl)) (by rw [hss]; exact (Nat.le_of_ble_eq_true rfl)) ?_
    refine f_iconst C 14 (dq dcL_find 9 rfl) rfl ?_
    exact hret K (K9_self K) _ _ _ _ (dq dcL_find 10 rfl) (Nat.le_of_ble_eq_true rfl) (Nat.le_of_ble_eq_true rfl)
def kL_found : List (Nat × Instr × Nat) := [(0, .aload_n 2, 1), (1, .iconst 0, 1), (2, .aload_n 0, 1), (3, .iload_n 1, 1), (4, .invokevirtual 65, 3), (7, .i2l, 1), (8, .lastore, 1), (9, .goto 6, 3), (12, .astore_n 3, 1), (13, .iconst 1, 1), (14, .ireturn, 1), (15, .iconst 0, 1), (16, .ireturn, 1)]
theorem dcL_found : kL_found.all (fun q => decide (decode cL_found q.1 = .ok q.2)) = true := by decide +kernel
theorem sw_found {σ σ1 : xSig} {code z : Int} {f9 : Nat → Nat} {a1 : Int32} (hc : 0 ≤ code ∧ code ≤ 1) (h0 : code = 0 → x_Sp MX11_found 0 0 (.ref 0 :: [.int a1]) (St σ) (iv z) (St σ1)) (h1 : code ≠ 0 → x_Sp MX11_found 1 6 (.ref 0 :: [.int a1]) (St σ) (.inr ([nIOB].getD (code.toNat - 1) "")) (St σ1)) (y0 : code = 0 → f9 = fun _ => o9 (ll (zI z))) (y1 : code ≠ 0 → f9 = fun w => w) : x_SpH yL_found cL_found 4 hL_found 7 111 1 6 [.ref 0, .int a1, .ref 313] (St σ) f9 code (St σ1) := by
  refine f_entry (by decide +kernel) rfl (Nat.le_of_ble_eq_true rfl) (ls := [some (.ref 0), some (.int a1), some (.ref 313), none]) rfl (fun K C hT hfr hlo hcc hss hnc hret => ?_)
  rcases (show code = 0 ∨ code = 1 by omega) with rfl | rfl
  · obtain rfl := y0 rfl
    have sp := h0 rfl
    refine f_aload_n C 1 (dq dcL_found 0 rfl) rfl rfl rfl ?_
    refine f_iconst C 2 (dq dcL_found 1 rfl) rfl ?_
    refine f_aload_n C 3 (dq dcL_found 2 rfl) rfl rfl rfl ?_
    refine f_iload_n C 4 (dq dcL_found 3 rfl) rfl rfl rfl ?_
    refine f_callV C 7 sp okX11_found cvL_65 (by rw [hfr]; exact (Nat.le_of_ble_eq_true rfl)) (by rw [hlo]; exact (Nat.le_of_ble_eq_true rfl)) (dq dcL_found 4 rfl) rfl (Nat.le_of_ble_eq_true rfl) rfl rfl rfl rfl rfl (Nat.le_of_ble_eq_true rfl) (by rw [hcc]; exact (Nat.le_of_ble_eq_true rfl)) (by rw [hss]; exact (Nat.le_of_ble_eq_true rfl)) ?_
    refine f_i2lz C 8 (dq dcL_found 5 rfl) rfl ?_
    refine f_lastore9 C 9 (dq dcL_found 6 rfl) rfl (Nat.le_of_ble_eq_true rfl) rfl SH9 ?_
    refine f_goto (C.out _) 15 (dq dcL_found 7 rfl) rfl ?_
    refine f_iconst (C.out _) 16 (dq dcL_found 11 rfl) rfl ?_
    exact hret _ rfl _ _ _ _ (dq dcL_found 12 rfl) (Nat.le_of_ble_eq_true rfl) (Nat.le_of_ble_eq_true rfl)
  · obtain rfl := y1 (by decide)
    have sp : x_Sp MX11_found 1 6 (.ref 0 :: [.int a1]) (St σ) (.inr nIOB) (St σ1) := h1 (by decide)
    refine f_aload_n C 1 (dq dcL_found 0 rfl) rfl rfl rfl ?_
    refine f_iconst C 2 (dq dcL_found 1 rfl) rfl ?_
    refine f_aload_n C 3 (dq dcL_found 2 rfl) rfl rfl rfl ?_
    refine f_iload_n C 4 (dq dcL_found 3 rfl) rfl rfl rfl ?_
    refine f_callX C (i := 3) (hp := 12) (nx := 13) [] ⟨0, 9, 12, 44⟩ [] (hT.trans rfl) (fun y hy => by simp at hy) (by decide) (by decide) (C.2.2.2.2.1 _ clL_44) (va_Nw.use rfl (C.2.2.2.2.2.1.2.1 _ cast_nIOB)) rfl sp okX11_found cvL_65 (by rw [hfr]; exact (Nat.le_of_ble_eq_true rfl)) (by rw [hlo]; exact (Nat.le_of_ble_eq_true rfl)) (dq dcL_found 4 rfl) (Or.inl ⟨3, rfl, (dq dcL_found 8 rfl), rfl⟩) (Nat.le_of_ble_eq_true rfl) rfl (Nat.le_of_ble_eq_true rfl) rfl rfl rfl rfl rfl (Nat.le_of_ble_eq_true rfl) (by rw [hcc]; exact (Nat.le_of_ble_eq_true rfl)) (by rw [hss]; exact (Nat.le_of_ble_eq_true rfl)) ?_
    refine f_iconst C 14 (dq dcL_found 9 rfl) rfl ?_
    exact hret K (K9_self K) _ _ _ _ (dq dcL_found 10 rfl) (Nat.le_of_ble_eq_true rfl) (Nat.le_of_ble_eq_true rfl)
def kL_plan : List (Nat × Instr × Nat) := [(0, .aload_n 2, 1), (1, .iconst 0, 1), (2, .aload_n 0, 1), (3, .iload_n 1, 1), (4, .invokevirtual 68, 3), (7, .i2l, 1), (8, .lastore, 1), (9, .goto 6, 3), (12, .astore_n 3, 1), (13, .iconst 1, 1), (14, .ireturn, 1), (15, .iconst 0, 1), (16, .ireturn, 1)]
theorem dcL_plan : kL_plan.all (fun q => decide (decode cL_plan q.1 = .ok q.2)) = true := by decide +kernel
theorem sw_plan {σ σ1 : xSig} {code z : Int} {f9 : Nat → Nat} {a1 : Int32} (hc : 0 ≤ code ∧ code ≤ 1) (h0 : code = 0 → x_Sp MX11_plan 0 0 (.ref 0 :: [.int a1]) (St σ) (iv z) (St σ1)) (h1 : code ≠ 0 → x_Sp MX11_plan 1 6 (.ref 0 :: [.int a1]) (St σ) (.inr ([nIAE].getD (code.toNat - 1) "")) (St σ1)) (y0 : code = 0 → f9 = fun _ => o9 (ll (zI z))) (y1 : code ≠ 0 → f9 = fun w => w) : x_SpH yL_plan cL_plan 4 hL_plan 7 111 1 6 [.ref 0, .int a1, .ref 313] (St σ) f9 code (St σ1) := by
  refine f_entry (by decide +kernel) rfl (Nat.le_of_ble_eq_true rfl) (ls := [some (.ref 0), some (.int a1), some (.ref 313), none]) rfl (fun K C hT hfr hlo hcc hss hnc hret => ?_)
  rcases (show code = 0 ∨ code = 1 by omega) with rfl | rfl
  · obtain rfl := y0 rfl
    have sp := h0 rfl
    refine f_aload_n C 1 (dq dcL_plan 0 rfl) rfl rfl rfl ?_
    refine f_iconst C 2 (dq dcL_plan 1 rfl) rfl ?_
    refine f_aload_n C 3 (dq dcL_plan 2 rfl) rfl rfl rfl ?_
    refine f_iload_n C 4 (dq dcL_plan 3 rfl) rfl rfl rfl ?_
    refine f_callV C 7 sp okX11_plan cvL_68 (by rw [hfr]; exact (Nat.le_of_ble_eq_true rfl)) (by rw [hlo]; exact (Nat.le_of_ble_eq_true rfl)) (dq dcL_plan 4 rfl) rfl (Nat.le_of_ble_eq_true rfl) rfl rfl rfl rfl rfl (Nat.le_of_ble_eq_true rfl) (by rw [hcc]; exact (Nat.le_of_ble_eq_true rfl)) (by rw [hss]; exact (Nat.le_of_ble_eq_true rfl)) ?_
    refine f_i2lz C 8 (dq dcL_plan 5 rfl) rfl ?_
    refine f_lastore9 C 9 (dq dcL_plan 6 rfl) rfl (Nat.le_of_ble_eq_true rfl) rfl SH9 ?_
    refine f_goto (C.out _) 15 (dq dcL_plan 7 rfl) rfl ?_
    refine f_iconst (C.out _) 16 (dq dcL_plan 11 rfl) rfl ?_
    exact hret _ rfl _ _ _ _ (dq dcL_plan 12 rfl) (Nat.le_of_ble_eq_true rfl) (Nat.le_of_ble_eq_true rfl)
  · obtain rfl := y1 (by decide)
    have sp : x_Sp MX11_plan 1 6 (.ref 0 :: [.int a1]) (St σ) (.inr nIAE) (St σ1) := h1 (by decide)
    refine f_aload_n C 1 (dq dcL_plan 0 rfl) rfl rfl rfl ?_
    refine f_iconst C 2 (dq dcL_plan 1 rfl) rfl ?_
    refine f_aload_n C 3 (dq dcL_plan 2 rfl) rfl rfl rfl ?_
    refine f_iload_n C 4 (dq dcL_plan 3 rfl) rfl rfl rfl ?_
    refine f_callX C (i := 3) (hp := 12) (nx := 13) [] ⟨0, 9, 12, 19⟩ [] (hT.trans rfl) (fun y hy => by simp at hy) (by decide) (by decide) (C.2.2.2.2.1 _ clL_19) (va_Nw.use rfl (C.2.2.2.2.2.1.2.1 _ cast_nIAE)) rfl sp okX11_plan cvL_68 (by rw [hfr]; exact (Nat.le_of_ble_eq_true rfl)) (by rw [hlo]; exact (Nat.le_of_ble_eq_true rfl)) (dq dcL_plan 4 rfl) (Or.inl ⟨3, rfl, (dq dcL_plan 8 rfl), rfl⟩) (Nat.le_of_ble_eq_true rfl) rfl (Nat.le_of_ble_eq_true rfl) rfl rfl rfl rfl rfl (Nat.le_of_ble_eq_true rfl) (by rw [hcc]; exact (Nat.le_of_ble_eq_true rfl)) (by rw [hss]; exact (Nat.le_of_ble_eq_true rfl)) ?_
    refine f_iconst C 14 (dq dcL_plan 9 rfl) rfl ?_
    exact hret K (K9_self K) _ _ _ _ (dq dcL_plan 10 rfl) (Nat.le_of_ble_eq_true rfl) (Nat.le_of_ble_eq_true rfl)
def kL_group : List (Nat × Instr × Nat) := [(0, .aload_n 3, 1), (1, .iconst 0, 1), (2, .aload_n 0, 1), (3, .iload_n 1, 1), (4, .iload_n 2, 1), (5, .invokevirtual 71, 3), (8, .i2l, 1), (9, .lastore, 1), (10, .goto 7, 3), (13, .astore 4, 2), (15, .iconst 1, 1), (16, .ireturn, 1), (17, .iconst 0, 1), (18, .ireturn, 1)]
theorem dcL_group : kL_group.all (fun q => decide (decode cL_group q.1 = .ok q.2)) = true := by decide +kernel
theorem sw_group {σ σ1 : xSig} {code z : Int} {f9 : Nat → Nat} {a1 a2 : Int32} (hc : 0 ≤ code ∧ code ≤ 1) (h0 : code = 0 → x_Sp MX11_group 0 0 (.ref 0 :: [.int a1, .int a2]) (St σ) (iv z) (St σ1)) (h1 : code ≠ 0 → x_Sp MX11_group 1 6 (.ref 0 :: [.int a1, .int a2]) (St σ) (.inr ([nIAE].getD (code.toNat - 1) "")) (St σ1)) (y0 : code = 0 → f9 = fun _ => o9 (ll (zI z))) (y1 : code ≠ 0 → f9 = fun w => w) : x_SpH yL_group cL_group 5 hL_group 7 178 1 6 [.ref 0, .int a1, .int a2, .ref 313] (St σ) f9 code (St σ1) := by
  refine f_entry (by decide +kernel) rfl (Nat.le_of_ble_eq_true rfl) (ls := [some (.ref 0), some (.int a1), some (.int a2), some (.ref 313), none]) rfl (fun K C hT hfr hlo hcc hss hnc hret => ?_)
  rcases (show code = 0 ∨ code = 1 by omega) with rfl | rfl
  · obtain rfl := y0 rfl
    have sp := h0 rfl
    refine f_aload_n C 1 (dq dcL_group 0 rfl) rfl rfl rfl ?_
    refine f_iconst C 2 (dq dcL_group 1 rfl) rfl ?_
    refine f_aload_n C 3 (dq dcL_group 2 rfl) rfl rfl rfl ?_
    refine f_iload_n C 4 (dq dcL_group 3 rfl) rfl rfl rfl ?_
    refine f_iload_n C 5 (dq dcL_group 4 rfl) rfl rfl rfl ?_
    refine f_callV C 8 sp okX11_group cvL_71 (by rw [hfr]; exact (Nat.le_of_ble_eq_true rfl)) (by rw [hlo]; exact (Nat.le_of_ble_eq_true rfl)) (dq dcL_group 5 rfl) rfl (Nat.le_of_ble_eq_true rfl) rfl rfl rfl rfl rfl (Nat.le_of_ble_eq_true rfl) (by rw [hcc]; exact (Nat.le_of_ble_eq_true rfl)) (by rw [hss]; exact (Nat.le_of_ble_eq_true rfl)) ?_
    refine f_i2lz C 9 (dq dcL_group 6 rfl) rfl ?_
    refine f_lastore9 C 10 (dq dcL_group 7 rfl) rfl (Nat.le_of_ble_eq_true rfl) rfl SH9 ?_
    refine f_goto (C.out _) 17 (dq dcL_group 8 rfl) rfl ?_
    refine f_iconst (C.out _) 18 (dq dcL_group 12 rfl) rfl ?_
    exact hret _ rfl _ _ _ _ (dq dcL_group 13 rfl) (Nat.le_of_ble_eq_true rfl) (Nat.le_of_ble_eq_true rfl)
  · obtain rfl := y1 (by decide)
    have sp : x_Sp MX11_group 1 6 (.ref 0 :: [.int a1, .int a2]) (St σ) (.inr nIAE) (St σ1) := h1 (by decide)
    refine f_aload_n C 1 (dq dcL_group 0 rfl) rfl rfl rfl ?_
    refine f_iconst C 2 (dq dcL_group 1 rfl) rfl ?_
    refine f_aload_n C 3 (dq dcL_group 2 rfl) rfl rfl rfl ?_
    refine f_iload_n C 4 (dq dcL_group 3 rfl) rfl rfl rfl ?_
    refine f_iload_n C 5 (dq dcL_group 4 rfl) rfl rfl rfl ?_
    refine f_callX C (i := 4) (hp := 13) (nx := 15) [] ⟨0, 10, 13, 19⟩ [] (hT.trans rfl) (fun y hy => by simp at hy) (by decide) (by decide) (C.2.2.2.2.1 _ clL_19) (va_Nw.use rfl (C.2.2.2.2.2.1.2.1 _ cast_nIAE)) rfl sp okX11_group cvL_71 (by rw [hfr]; exact (Nat.le_of_ble_eq_true rfl)) (by rw [hlo]; exact (Nat.le_of_ble_eq_true rfl)) (dq dcL_group 5 rfl) (Or.inr ⟨(dq dcL_group 9 rfl), rfl⟩) (Nat.le_of_ble_eq_true rfl) rfl (Nat.le_of_ble_eq_true rfl) rfl rfl rfl rfl rfl (Nat.le_of_ble_eq_true rfl) (by rw [hcc]; exact (Nat.le_of_ble_eq_true rfl)) (by rw [hss]; exact (Nat.le_of_ble_eq_true rfl)) ?_
    refine f_iconst C 16 (dq dcL_group 10 rfl) rfl ?_
    exact hret K (K9_self K) _ _ _ _ (dq dcL_group 11 rfl) (Nat.le_of_ble_eq_true rfl) (Nat.le_of_ble_eq_true rfl)
def kL_grouped : List (Nat × Instr × Nat) := [(0, .aload_n 3, 1), (1, .iconst 0, 1), (2, .aload_n 0, 1), (3, .iload_n 1, 1), (4, .iload_n 2, 1), (5, .invokevirtual 74, 3), (8, .lastore, 1), (9, .goto 11, 3), (12, .astore 4, 2), (14, .iconst 1, 1), (15, .ireturn, 1), (16, .astore 4, 2), (18, .iconst 2, 1), (19, .ireturn, 1), (20, .iconst 0, 1), (21, .ireturn, 1)]
theorem dcL_grouped : kL_grouped.all (fun q => decide (decode cL_grouped q.1 = .ok q.2)) = true := by decide +kernel
theorem sw_grouped {σ σ1 : xSig} {code z : Int} {f9 : Nat → Nat} {a1 a2 : Int32} (hc : 0 ≤ code ∧ code ≤ 2) (h0 : code = 0 → x_Sp MX11_grouped 0 0 (.ref 0 :: [.int a1, .int a2]) (St σ) (lv9 z) (St σ1)) (h1 : code ≠ 0 → x_Sp MX11_grouped 1 6 (.ref 0 :: [.int a1, .int a2]) (St σ) (.inr ([nIOB, nIAE].getD (code.toNat - 1) "")) (St σ1)) (y0 : code = 0 → f9 = fun _ => o9 (ll z)) (y1 : code ≠ 0 → f9 = fun w => w) : x_SpH yL_grouped cL_grouped 5 hL_grouped 7 112 1 6 [.ref 0, .int a1, .int a2, .ref 313] (St σ) f9 code (St σ1) := by
  refine f_entry (by decide +kernel) rfl (Nat.le_of_ble_eq_true rfl) (ls := [some (.ref 0), some (.int a1), some (.int a2), some (.ref 313), none]) rfl (fun K C hT hfr hlo hcc hss hnc hret => ?_)
  rcases (show code = 0 ∨ code = 1 ∨ code = 2 by omega) with rfl | rfl | rfl
  · obtain rfl := y0 rfl
    have sp := h0 rfl
    refine f_aload_n C 1 (dq dcL_grouped 0 rfl) rfl rfl rfl ?_
    refine f_iconst C 2 (dq dcL_grouped 1 rfl) rfl ?_
    refine f_aload_n C 3 (dq dcL_grouped 2 rfl) rfl rfl rfl ?_
    refine f_iload_n C 4 (dq dcL_grouped 3 rfl) rfl rfl rfl ?_
    refine f_iload_n C 5 (dq dcL_grouped 4 rfl) rfl rfl rfl ?_
    refine f_callV C 8 sp okX11_grouped cvL_74 (by rw [hfr]; exact (Nat.le_of_ble_eq_true rfl)) (by rw [hlo]; exact (Nat.le_of_ble_eq_true rfl)) (dq dcL_grouped 5 rfl) rfl (Nat.le_of_ble_eq_true rfl) rfl rfl rfl rfl rfl (Nat.le_of_ble_eq_true rfl) (by rw [hcc]; exact (Nat.le_of_ble_eq_true rfl)) (by rw [hss]; exact (Nat.le_of_ble_eq_true rfl)) ?_
    refine f_lastore9 C 9 (dq dcL_grouped 6 rfl) rfl (Nat.le_of_ble_eq_true rfl) rfl SH9 ?_
    refine f_goto (C.out _) 20 (dq dcL_grouped 7 rfl) rfl ?_
    refine f_iconst (C.out _) 21 (dq dcL_grouped 14 rfl) rfl ?_
    exact hret _ rfl _ _ _ _ (dq dcL_grouped 15 rfl) (Nat.le_of_ble_eq_true rfl) (Nat.le_of_ble_eq_true rfl)
  · obtain rfl := y1 (by decide)
    have sp : x_Sp MX11_grouped 1 6 (.ref 0 :: [.int a1, .int a2]) (St σ) (.inr nIOB) (St σ1) := h1 (by decide)
    refine f_aload_n C 1 (dq dcL_grouped 0 rfl) rfl rfl rfl ?_
    refine f_iconst C 2 (dq dcL_grouped 1 rfl) rfl ?_
    refine f_aload_n C 3 (dq dcL_grouped 2 rfl) rfl rfl rfl ?_
    refine f_iload_n C 4 (dq dcL_grouped 3 rfl) rfl rfl rfl ?_
    refine f_iload_n C 5 (dq dcL_grouped 4 rfl) rfl rfl rfl ?_
    refine f_callX C (i := 4) (hp := 12) (nx := 14) [] ⟨0, 9, 12, 44⟩ [⟨0, 9, 16, 19⟩] (hT.trans rfl) (fun y hy => by simp at hy) (by decide) (by decide) (C.2.2.2.2.1 _ clL_44) (va_Nw.use rfl (C.2.2.2.2.2.1.2.1 _ cast_nIOB)) rfl sp okX11_grouped cvL_74 (by rw [hfr]; exact (Nat.le_of_ble_eq_true rfl)) (by rw [hlo]; exact (Nat.le_of_ble_eq_true rfl)) (dq dcL_grouped 5 rfl) (Or.inr ⟨(dq dcL_grouped 8 rfl), rfl⟩) (Nat.le_of_ble_eq_true rfl) rfl (Nat.le_of_ble_eq_true rfl) rfl rfl rfl rfl rfl (Nat.le_of_ble_eq_true rfl) (by rw [hcc]; exact (Nat.le_of_ble_eq_true rfl)) (by rw [hss]; exact (Nat.le_of_ble_eq_true rfl)) ?_
    refine f_iconst C 15 (dq dcL_grouped 9 rfl) rfl ?_
    exact hret K (K9_self K) _ _ _ _ (dq dcL_grouped 10 rfl) (Nat.le_of_ble_eq_true rfl) (Nat.le_of_ble_eq_true rfl)
  · obtain rfl := y1 (by decide)
    have sp : x_Sp MX11_grouped 1 6 (.ref 0 :: [.int a1, .int a2]) (St σ) (.inr nIAE) (St σ1) := h1 (by decide)
    refine f_aload_n C 1 (dq dcL_grouped 0 rfl) rfl rfl rfl ?_
    refine f_iconst C 2 (dq dcL_grouped 1 rfl) rfl ?_
    refine f_aload_n C 3 (dq dcL_grouped 2 rfl) rfl rfl rfl ?_
    refine f_iload_n C 4 (dq dcL_grouped 3 rfl) rfl rfl rfl ?_
    refine f_iload_n C 5 (dq dcL_grouped 4 rfl) rfl rfl rfl ?_
    refine f_callX C (i := 4) (hp := 16) (nx := 18) [⟨0, 9, 12, 44⟩] ⟨0, 9, 16, 19⟩ [] (hT.trans rfl) (fun y hy => by rw [List.mem_singleton.mp hy]; exact Or.inr ⟨by decide, nIOB, C.2.2.2.2.1 _ clL_44, hnc (nIAE, nIOB) (by simp [ncs])⟩) (by decide) (by decide) (C.2.2.2.2.1 _ clL_19) (va_Nw.use rfl (C.2.2.2.2.2.1.2.1 _ cast_nIAE)) rfl sp okX11_grouped cvL_74 (by rw [hfr]; exact (Nat.le_of_ble_eq_true rfl)) (by rw [hlo]; exact (Nat.le_of_ble_eq_true rfl)) (dq dcL_grouped 5 rfl) (Or.inr ⟨(dq dcL_grouped 11 rfl), rfl⟩) (Nat.le_of_ble_eq_true rfl) rfl (Nat.le_of_ble_eq_true rfl) rfl rfl rfl rfl rfl (Nat.le_of_ble_eq_true rfl) (by rw [hcc]; exact (Nat.le_of_ble_eq_true rfl)) (by rw [hss]; exact (Nat.le_of_ble_eq_true rfl)) ?_
    refine f_iconst C 19 (dq dcL_grouped 12 rfl) rfl ?_
    exact hret K (K9_self K) _ _ _ _ (dq dcL_grouped 13 rfl) (Nat.le_of_ble_eq_true rfl) (Nat.le_of_ble_eq_true rfl)
def kL_split : List (Nat × Instr × Nat) := [(0, .aload_n 3, 1), (1, .iconst 0, 1), (2, .aload_n 0, 1), (3, .iload_n 1, 1), (4, .iload_n 2, 1), (5, .invokevirtual 78, 3), (8, .i2l, 1), (9, .lastore, 1), (10, .goto 15, 3), (13, .astore 4, 2), (15, .iconst 1, 1), (16, .ireturn, 1), (17, .astore 4, 2), (19, .iconst 2, 1), (20, .ireturn, 1), (21, .astore 4, 2), (23, .iconst 3, 1), (24, .ireturn, 1), (25, .iconst 0, 1), (26, .ireturn, 1)]
theorem dcL_split : kL_split.all (fun q => decide (decode cL_split q.1 = .ok q.2)) = true := by decide +kernel
theorem sw_split {σ σ1 : xSig} {code z : Int} {f9 : Nat → Nat} {a1 a2 : Int32} (hc : 0 ≤ code ∧ code ≤ 3) (h0 : code = 0 → x_Sp MX11_split 0 0 (.ref 0 :: [.int a1, .int a2]) (St σ) (iv z) (St σ1)) (h1 : code ≠ 0 → x_Sp MX11_split 1 6 (.ref 0 :: [.int a1, .int a2]) (St σ) (.inr ([nIOB, nIAE, nISE].getD (code.toNat - 1) "")) (St σ1)) (y0 : code = 0 → f9 = fun _ => o9 (ll (zI z))) (y1 : code ≠ 0 → f9 = fun w => w) : x_SpH yL_split cL_split 5 hL_split 7 112 1 6 [.ref 0, .int a1, .int a2, .ref 313] (St σ) f9 code (St σ1) := by
  refine f_entry (by decide +kernel) rfl (Nat.le_of_ble_eq_true rfl) (ls := [some (.ref 0), some (.int a1), some (.int a2), some (.ref 313), none]) rfl (fun K C hT hfr hlo hcc hss hnc hret => ?_)
  rcases (show code = 0 ∨ code = 1 ∨ code = 2 ∨ code = 3 by omega) with rfl | rfl | rfl | rfl
  · obtain rfl := y0 rfl
    have sp := h0 rfl
    refine f_aload_n C 1 (dq dcL_split 0 rfl) rfl rfl rfl ?_
    refine f_iconst C 2 (dq dcL_split 1 rfl) rfl ?_
    refine f_aload_n C 3 (dq dcL_split 2 rfl) rfl rfl rfl ?_
    refine f_iload_n C 4 (dq dcL_split 3 rfl) rfl rfl rfl ?_
    refine f_iload_n C 5 (dq dcL_split 4 rfl) rfl rfl rfl ?_
    refine f_callV C 8 sp okX11_split cvL_78 (by rw [hfr]; exact (Nat.le_of_ble_eq_true rfl)) (by rw [hlo]; exact (Nat.le_of_ble_eq_true rfl)) (dq dcL_split 5 rfl) rfl (Nat.le_of_ble_eq_true rfl) rfl rfl rfl rfl rfl (Nat.le_of_ble_eq_true rfl) (by rw [hcc]; exact (Nat.le_of_ble_eq_true rfl)) (by rw [hss]; exact (Nat.le_of_ble_eq_true rfl)) ?_
    refine f_i2lz C 9 (dq dcL_split 6 rfl) rfl ?_
    refine f_lastore9 C 10 (dq dcL_split 7 rfl) rfl (Nat.le_of_ble_eq_true rfl) rfl SH9 ?_
    refine f_goto (C.out _) 25 (dq dcL_split 8 rfl) rfl ?_
    refine f_iconst (C.out _) 26 (dq dcL_split 18 rfl) rfl ?_
    exact hret _ rfl _ _ _ _ (dq dcL_split 19 rfl) (Nat.le_of_ble_eq_true rfl) (Nat.le_of_ble_eq_true rfl)
  · obtain rfl := y1 (by decide)
    have sp : x_Sp MX11_split 1 6 (.ref 0 :: [.int a1, .int a2]) (St σ) (.inr nIOB) (St σ1) := h1 (by decide)
    refine f_aload_n C 1 (dq dcL_split 0 rfl) rfl rfl rfl ?_
    refine f_iconst C 2 (dq dcL_split 1 rfl) rfl ?_
    refine f_aload_n C 3 (dq dcL_split 2 rfl) rfl rfl rfl ?_
    refine f_iload_n C 4 (dq dcL_split 3 rfl) rfl rfl rfl ?_
    refine f_iload_n C 5 (dq dcL_split 4 rfl) rfl rfl rfl ?_
    refine f_callX C (i := 4) (hp := 13) (nx := 15) [] ⟨0, 10, 13, 44⟩ [⟨0, 10, 17, 19⟩, ⟨0, 10, 21, 13⟩] (hT.trans rfl) (fun y hy => by simp at hy) (by decide) (by decide) (C.2.2.2.2.1 _ clL_44) (va_Nw.use rfl (C.2.2.2.2.2.1.2.1 _ cast_nIOB)) rfl sp okX11_split cvL_78 (by rw [hfr]; exact (Nat.le_of_ble_eq_true rfl)) (by rw [hlo]; exact (Nat.le_of_ble_eq_true rfl)) (dq dcL_split 5 rfl) (Or.inr ⟨(dq dcL_split 9 rfl), rfl⟩) (Nat.le_of_ble_eq_true rfl) rfl (Nat.le_of_ble_eq_true rfl) rfl rfl rfl rfl rfl (Nat.le_of_ble_eq_true rfl) (by rw [hcc]; exact (Nat.le_of_ble_eq_true rfl)) (by rw [hss]; exact (Nat.le_of_ble_eq_true rfl)) ?_
    refine f_iconst C 16 (dq dcL_split 10 rfl) rfl ?_
    exact hret K (K9_self K) _ _ _ _ (dq dcL_split 11 rfl) (Nat.le_of_ble_eq_true rfl) (Nat.le_of_ble_eq_true rfl)
  · obtain rfl := y1 (by decide)
    have sp : x_Sp MX11_split 1 6 (.ref 0 :: [.int a1, .int a2]) (St σ) (.inr nIAE) (St σ1) := h1 (by decide)
    refine f_aload_n C 1 (dq dcL_split 0 rfl) rfl rfl rfl ?_
    refine f_iconst C 2 (dq dcL_split 1 rfl) rfl ?_
    refine f_aload_n C 3 (dq dcL_split 2 rfl) rfl rfl rfl ?_
    refine f_iload_n C 4 (dq dcL_split 3 rfl) rfl rfl rfl ?_
    refine f_iload_n C 5 (dq dcL_split 4 rfl) rfl rfl rfl ?_
    refine f_callX C (i := 4) (hp := 17) (nx := 19) [⟨0, 10, 13, 44⟩] ⟨0, 10, 17, 19⟩ [⟨0, 10, 21, 13⟩] (hT.trans rfl) (fun y hy => by rw [List.mem_singleton.mp hy]; exact Or.inr ⟨by decide, nIOB, C.2.2.2.2.1 _ clL_44, hnc (nIAE, nIOB) (by simp [ncs])⟩) (by decide) (by decide) (C.2.2.2.2.1 _ clL_19) (va_Nw.use rfl (C.2.2.2.2.2.1.2.1 _ cast_nIAE)) rfl sp okX11_split cvL_78 (by rw [hfr]; exact (Nat.le_of_ble_eq_true rfl)) (by rw [hlo]; exact (Nat.le_of_ble_eq_true rfl)) (dq dcL_split 5 rfl) (Or.inr ⟨(dq dcL_split 12 rfl), rfl⟩) (Nat.le_of_ble_eq_true rfl) rfl (Nat.le_of_ble_eq_true rfl) rfl rfl rfl rfl rfl (Nat.le_of_ble_eq_true rfl) (by rw [hcc]; exact (Nat.le_of_ble_eq_true rfl)) (by rw [hss]; exact (Nat.le_of_ble_eq_true rfl)) ?_
    refine f_iconst C 20 (dq dcL_split 13 rfl) rfl ?_
    exact hret K (K9_self K) _ _ _ _ (dq dcL_split 14 rfl) (Nat.le_of_ble_eq_true rfl) (Nat.le_of_ble_eq_true rfl)
  · obtain rfl := y1 (by decide)
    have sp : x_Sp MX11_split 1 6 (.ref 0 :: [.int a1, .int a2]) (St σ) (.inr nISE) (St σ1) := h1 (by decide)
    refine f_aload_n C 1 (dq dcL_split 0 rfl) rfl rfl rfl ?_
    refine f_iconst C 2 (dq dcL_split 1 rfl) rfl ?_
    refine f_aload_n C 3 (dq dcL_split 2 rfl) rfl rfl rfl ?_
    refine f_iload_n C 4 (dq dcL_split 3 rfl) rfl rfl rfl ?_
    refine f_iload_n C 5 (dq dcL_split 4 rfl) rfl rfl rfl ?_
    refine f_callX C (i := 4) (hp := 21) (nx := 23) [⟨0, 10, 13, 44⟩, ⟨0, 10, 17, 19⟩] ⟨0, 10, 21, 13⟩ [] (hT.trans rfl) (fun y hy => by rcases List.mem_cons.mp hy with e | hy; (rw [e]; exact Or.inr ⟨by decide, nIOB, C.2.2.2.2.1 _ clL_44, hnc (nISE, nIOB) (by simp [ncs])⟩); (rw [List.mem_singleton.mp hy]; exact Or.inr ⟨by decide, nIAE, C.2.2.2.2.1 _ clL_19, hnc (nISE, nIAE) (by simp [ncs])⟩)) (by decide) (by decide) (C.2.2.2.2.1 _ clL_13) (va_Nw.use rfl (C.2.2.2.2.2.1.2.1 _ cast_nISE)) rfl sp okX11_split cvL_78 (by rw [hfr]; exact (Nat.le_of_ble_eq_true rfl)) (by rw [hlo]; exact (Nat.le_of_ble_eq_true rfl)) (dq dcL_split 5 rfl) (Or.inr ⟨(dq dcL_split 15 rfl), rfl⟩) (Nat.le_of_ble_eq_true rfl) rfl (Nat.le_of_ble_eq_true rfl) rfl rfl rfl rfl rfl (Nat.le_of_ble_eq_true rfl) (by rw [hcc]; exact (Nat.le_of_ble_eq_true rfl)) (by rw [hss]; exact (Nat.le_of_ble_eq_true rfl)) ?_
    refine f_iconst C 24 (dq dcL_split 16 rfl) rfl ?_
    exact hret K (K9_self K) _ _ _ _ (dq dcL_split 17 rfl) (Nat.le_of_ble_eq_true rfl) (Nat.le_of_ble_eq_true rfl)
def kL_move : List (Nat × Instr × Nat) := [(0, .aload_n 3, 1), (1, .iconst 0, 1), (2, .aload_n 0, 1), (3, .iload_n 1, 1), (4, .iload_n 2, 1), (5, .invokevirtual 81, 3), (8, .i2l, 1), (9, .lastore, 1), (10, .goto 15, 3), (13, .astore 4, 2), (15, .iconst 1, 1), (16, .ireturn, 1), (17, .astore 4, 2), (19, .iconst 2, 1), (20, .ireturn, 1), (21, .astore 4, 2), (23, .iconst 3, 1), (24, .ireturn, 1), (25, .iconst 0, 1), (26, .ireturn, 1)]
theorem dcL_move : kL_move.all (fun q => decide (decode cL_move q.1 = .ok q.2)) = true := by decide +kernel
theorem sw_move {σ σ1 : xSig} {code z : Int} {f9 : Nat → Nat} {a1 a2 : Int32} (hc : 0 ≤ code ∧ code ≤ 3) (h0 : code = 0 → x_Sp MX11_move 0 0 (.ref 0 :: [.int a1, .int a2]) (St σ) (iv z) (St σ1)) (h1 : code ≠ 0 → x_Sp MX11_move 1 6 (.ref 0 :: [.int a1, .int a2]) (St σ) (.inr ([nIOB, nIAE, nISE].getD (code.toNat - 1) "")) (St σ1)) (y0 : code = 0 → f9 = fun _ => o9 (ll (zI z))) (y1 : code ≠ 0 → f9 = fun w => w) : x_SpH yL_move cL_move 5 hL_move 8 183 1 6 [.ref 0, .int a1, .int a2, .ref 313] (St σ) f9 code (St σ1) := by
  refine f_entry (by decide +kernel) rfl (Nat.le_of_ble_eq_true rfl) (ls := [some (.ref 0), some (.int a1), some (.int a2), some (.ref 313), none]) rfl (fun K C hT hfr hlo hcc hss hnc hret => ?_)
  rcases (show code = 0 ∨ code = 1 ∨ code = 2 ∨ code = 3 by omega) with rfl | rfl | rfl | rfl
  · obtain rfl := y0 rfl
    have sp := h0 rfl
    refine f_aload_n C 1 (dq dcL_move 0 rfl) rfl rfl rfl ?_
    refine f_iconst C 2 (dq dcL_move 1 rfl) rfl ?_
    refine f_aload_n C 3 (dq dcL_move 2 rfl) rfl rfl rfl ?_
    refine f_iload_n C 4 (dq dcL_move 3 rfl) rfl rfl rfl ?_
    refine f_iload_n C 5 (dq dcL_move 4 rfl) rfl rfl rfl ?_
    refine f_callV C 8 sp okX11_move cvL_81 (by rw [hfr]; exact (Nat.le_of_ble_eq_true rfl)) (by rw [hlo]; exact (Nat.le_of_ble_eq_true rfl)) (dq dcL_move 5 rfl) rfl (Nat.le_of_ble_eq_true rfl) rfl rfl rfl rfl rfl (Nat.le_of_ble_eq_true rfl) (by rw [hcc]; exact (Nat.le_of_ble_eq_true rfl)) (by rw [hss]; exact (Nat.le_of_ble_eq_true rfl)) ?_
    refine f_i2lz C 9 (dq dcL_move 6 rfl) rfl ?_
    refine f_lastore9 C 10 (dq dcL_move 7 rfl) rfl (Nat.le_of_ble_eq_true rfl) rfl SH9 ?_
    refine f_goto (C.out _) 25 (dq dcL_move 8 rfl) rfl ?_
    refine f_iconst (C.out _) 26 (dq dcL_move 18 rfl) rfl ?_
    exact hret _ rfl _ _ _ _ (dq dcL_move 19 rfl) (Nat.le_of_ble_eq_true rfl) (Nat.le_of_ble_eq_true rfl)
  · obtain rfl := y1 (by decide)
    have sp : x_Sp MX11_move 1 6 (.ref 0 :: [.int a1, .int a2]) (St σ) (.inr nIOB) (St σ1) := h1 (by decide)
    refine f_aload_n C 1 (dq dcL_move 0 rfl) rfl rfl rfl ?_
    refine f_iconst C 2 (dq dcL_move 1 rfl) rfl ?_
    refine f_aload_n C 3 (dq dcL_move 2 rfl) rfl rfl rfl ?_
    refine f_iload_n C 4 (dq dcL_move 3 rfl) rfl rfl rfl ?_
    refine f_iload_n C 5 (dq dcL_move 4 rfl) rfl rfl rfl ?_
    refine f_callX C (i := 4) (hp := 13) (nx := 15) [] ⟨0, 10, 13, 44⟩ [⟨0, 10, 17, 19⟩, ⟨0, 10, 21, 13⟩] (hT.trans rfl) (fun y hy => by simp at hy) (by decide) (by decide) (C.2.2.2.2.1 _ clL_44) (va_Nw.use rfl (C.2.2.2.2.2.1.2.1 _ cast_nIOB)) rfl sp okX11_move cvL_81 (by rw [hfr]; exact (Nat.le_of_ble_eq_true rfl)) (by rw [hlo]; exact (Nat.le_of_ble_eq_true rfl)) (dq dcL_move 5 rfl) (Or.inr ⟨(dq dcL_move 9 rfl), rfl⟩) (Nat.le_of_ble_eq_true rfl) rfl (Nat.le_of_ble_eq_true rfl) rfl rfl rfl rfl rfl (Nat.le_of_ble_eq_true rfl) (by rw [hcc]; exact (Nat.le_of_ble_eq_true rfl)) (by rw [hss]; exact (Nat.le_of_ble_eq_true rfl)) ?_
    refine f_iconst C 16 (dq dcL_move 10 rfl) rfl ?_
    exact hret K (K9_self K) _ _ _ _ (dq dcL_move 11 rfl) (Nat.le_of_ble_eq_true rfl) (Nat.le_of_ble_eq_true rfl)
  · obtain rfl := y1 (by decide)
    have sp : x_Sp MX11_move 1 6 (.ref 0 :: [.int a1, .int a2]) (St σ) (.inr nIAE) (St σ1) := h1 (by decide)
    refine f_aload_n C 1 (dq dcL_move 0 rfl) rfl rfl rfl ?_
    refine f_iconst C 2 (dq dcL_move 1 rfl) rfl ?_
    refine f_aload_n C 3 (dq dcL_move 2 rfl) rfl rfl rfl ?_
    refine f_iload_n C 4 (dq dcL_move 3 rfl) rfl rfl rfl ?_
    refine f_iload_n C 5 (dq dcL_move 4 rfl) rfl rfl rfl ?_
    refine f_callX C (i := 4) (hp := 17) (nx := 19) [⟨0, 10, 13, 44⟩] ⟨0, 10, 17, 19⟩ [⟨0, 10, 21, 13⟩] (hT.trans rfl) (fun y hy => by rw [List.mem_singleton.mp hy]; exact Or.inr ⟨by decide, nIOB, C.2.2.2.2.1 _ clL_44, hnc (nIAE, nIOB) (by simp [ncs])⟩) (by decide) (by decide) (C.2.2.2.2.1 _ clL_19) (va_Nw.use rfl (C.2.2.2.2.2.1.2.1 _ cast_nIAE)) rfl sp okX11_move cvL_81 (by rw [hfr]; exact (Nat.le_of_ble_eq_true rfl)) (by rw [hlo]; exact (Nat.le_of_ble_eq_true rfl)) (dq dcL_move 5 rfl) (Or.inr ⟨(dq dcL_move 12 rfl), rfl⟩) (Nat.le_of_ble_eq_true rfl) rfl (Nat.le_of_ble_eq_true rfl) rfl rfl rfl rfl rfl (Nat.le_of_ble_eq_true rfl) (by rw [hcc]; exact (Nat.le_of_ble_eq_true rfl)) (by rw [hss]; exact (Nat.le_of_ble_eq_true rfl)) ?_
    refine f_iconst C 20 (dq dcL_move 13 rfl) rfl ?_
    exact hret K (K9_self K) _ _ _ _ (dq dcL_move 14 rfl) (Nat.le_of_ble_eq_true rfl) (Nat.le_of_ble_eq_true rfl)
  · obtain rfl := y1 (by decide)
    have sp : x_Sp MX11_move 1 6 (.ref 0 :: [.int a1, .int a2]) (St σ) (.inr nISE) (St σ1) := h1 (by decide)
    refine f_aload_n C 1 (dq dcL_move 0 rfl) rfl rfl rfl ?_
    refine f_iconst C 2 (dq dcL_move 1 rfl) rfl ?_
    refine f_aload_n C 3 (dq dcL_move 2 rfl) rfl rfl rfl ?_
    refine f_iload_n C 4 (dq dcL_move 3 rfl) rfl rfl rfl ?_
    refine f_iload_n C 5 (dq dcL_move 4 rfl) rfl rfl rfl ?_
    refine f_callX C (i := 4) (hp := 21) (nx := 23) [⟨0, 10, 13, 44⟩, ⟨0, 10, 17, 19⟩] ⟨0, 10, 21, 13⟩ [] (hT.trans rfl) (fun y hy => by rcases List.mem_cons.mp hy with e | hy; (rw [e]; exact Or.inr ⟨by decide, nIOB, C.2.2.2.2.1 _ clL_44, hnc (nISE, nIOB) (by simp [ncs])⟩); (rw [List.mem_singleton.mp hy]; exact Or.inr ⟨by decide, nIAE, C.2.2.2.2.1 _ clL_19, hnc (nISE, nIAE) (by simp [ncs])⟩)) (by decide) (by decide) (C.2.2.2.2.1 _ clL_13) (va_Nw.use rfl (C.2.2.2.2.2.1.2.1 _ cast_nISE)) rfl sp okX11_move cvL_81 (by rw [hfr]; exact (Nat.le_of_ble_eq_true rfl)) (by rw [hlo]; exact (Nat.le_of_ble_eq_true rfl)) (dq dcL_move 5 rfl) (Or.inr ⟨(dq dcL_move 15 rfl), rfl⟩) (Nat.le_of_ble_eq_true rfl) rfl (Nat.le_of_ble_eq_true rfl) rfl rfl rfl rfl rfl (Nat.le_of_ble_eq_true rfl) (by rw [hcc]; exact (Nat.le_of_ble_eq_true rfl)) (by rw [hss]; exact (Nat.le_of_ble_eq_true rfl)) ?_
    refine f_iconst C 24 (dq dcL_move 16 rfl) rfl ?_
    exact hret K (K9_self K) _ _ _ _ (dq dcL_move 17 rfl) (Nat.le_of_ble_eq_true rfl) (Nat.le_of_ble_eq_true rfl)
def kL_copy : List (Nat × Instr × Nat) := [(0, .aload_n 2, 1), (1, .iconst 0, 1), (2, .aload_n 0, 1), (3, .iload_n 1, 1), (4, .invokevirtual 84, 3), (7, .i2l, 1), (8, .lastore, 1), (9, .goto 9, 3), (12, .astore_n 3, 1), (13, .iconst 1, 1), (14, .ireturn, 1), (15, .astore_n 3, 1), (16, .iconst 2, 1), (17, .ireturn, 1), (18, .iconst 0, 1), (19, .ireturn, 1)]
theorem dcL_copy : kL_copy.all (fun q => decide (decode cL_copy q.1 = .ok q.2)) = true := by decide +kernel
theorem sw_copy {σ σ1 : xSig} {code z : Int} {f9 : Nat → Nat} {a1 : Int32} (hc : 0 ≤ code ∧ code ≤ 2) (h0 : code = 0 → x_Sp MX11_copy 0 0 (.ref 0 :: [.int a1]) (St σ) (iv z) (St σ1)) (h1 : code ≠ 0 → x_Sp MX11_copy 1 6 (.ref 0 :: [.int a1]) (St σ) (.inr ([nIAE, nISE].getD (code.toNat - 1) "")) (St σ1)) (y0 : code = 0 → f9 = fun _ => o9 (ll (zI z))) (y1 : code ≠ 0 → f9 = fun w => w) : x_SpH yL_copy cL_copy 4 hL_copy 8 183 1 6 [.ref 0, .int a1, .ref 313] (St σ) f9 code (St σ1) := by
  refine f_entry (by decide +kernel) rfl (Nat.le_of_ble_eq_true rfl) (ls := [some (.ref 0), some (.int a1), some (.ref 313), none]) rfl (fun K C hT hfr hlo hcc hss hnc hret => ?_)
  rcases (show code = 0 ∨ code = 1 ∨ code = 2 by omega) with rfl | rfl | rfl
  · obtain rfl := y0 rfl
    have sp := h0 rfl
    refine f_aload_n C 1 (dq dcL_copy 0 rfl) rfl rfl rfl ?_
    refine f_iconst C 2 (dq dcL_copy 1 rfl) rfl ?_
    refine f_aload_n C 3 (dq dcL_copy 2 rfl) rfl rfl rfl ?_
    refine f_iload_n C 4 (dq dcL_copy 3 rfl) rfl rfl rfl ?_
    refine f_callV C 7 sp okX11_copy cvL_84 (by rw [hfr]; exact (Nat.le_of_ble_eq_true rfl)) (by rw [hlo]; exact (Nat.le_of_ble_eq_true rfl)) (dq dcL_copy 4 rfl) rfl (Nat.le_of_ble_eq_true rfl) rfl rfl rfl rfl rfl (Nat.le_of_ble_eq_true rfl) (by rw [hcc]; exact (Nat.le_of_ble_eq_true rfl)) (by rw [hss]; exact (Nat.le_of_ble_eq_true rfl)) ?_
    refine f_i2lz C 8 (dq dcL_copy 5 rfl) rfl ?_
    refine f_lastore9 C 9 (dq dcL_copy 6 rfl) rfl (Nat.le_of_ble_eq_true rfl) rfl SH9 ?_
    refine f_goto (C.out _) 18 (dq dcL_copy 7 rfl) rfl ?_
    refine f_iconst (C.out _) 19 (dq dcL_copy 14 rfl) rfl ?_
    exact hret _ rfl _ _ _ _ (dq dcL_copy 15 rfl) (Nat.le_of_ble_eq_true rfl) (Nat.le_of_ble_eq_true rfl)
  · obtain rfl := y1 (by decide)
    have sp : x_Sp MX11_copy 1 6 (.ref 0 :: [.int a1]) (St σ) (.inr nIAE) (St σ1) := h1 (by decide)
    refine f_aload_n C 1 (dq dcL_copy 0 rfl) rfl rfl rfl ?_
    refine f_iconst C 2 (dq dcL_copy 1 rfl) rfl ?_
    refine f_aload_n C 3 (dq dcL_copy 2 rfl) rfl rfl rfl ?_
    refine f_iload_n C 4 (dq dcL_copy 3 rfl) rfl rfl rfl ?_
    refine f_callX C (i := 3) (hp := 12) (nx := 13) [] ⟨0, 9, 12, 19⟩ [⟨0, 9, 15, 13⟩] (hT.trans rfl) (fun y hy => by simp at hy) (by decide) (by decide) (C.2.2.2.2.1 _ clL_19) (va_Nw.use rfl (C.2.2.2.2.2.1.2.1 _ cast_nIAE)) rfl sp okX11_copy cvL_84 (by rw [hfr]; exact (Nat.le_of_ble_eq_true rfl)) (by rw [hlo]; exact (Nat.le_of_ble_eq_true rfl)) (dq dcL_copy 4 rfl) (Or.inl ⟨3, rfl, (dq dcL_copy 8 rfl), rfl⟩) (Nat.le_of_ble_eq_true rfl) rfl (Nat.le_of_ble_eq_true rfl) rfl rfl rfl rfl rfl (Nat.le_of_ble_eq_true rfl) (by rw [hcc]; exact (Nat.le_of_ble_eq_true rfl)) (by rw [hss]; exact (Nat.le_of_ble_eq_true rfl)) ?_
    refine f_iconst C 14 (dq dcL_copy 9 rfl) rfl ?_
    exact hret K (K9_self K) _ _ _ _ (dq dcL_copy 10 rfl) (Nat.le_of_ble_eq_true rfl) (Nat.le_of_ble_eq_true rfl)
  · obtain rfl := y1 (by decide)
    have sp : x_Sp MX11_copy 1 6 (.ref 0 :: [.int a1]) (St σ) (.inr nISE) (St σ1) := h1 (by decide)
    refine f_aload_n C 1 (dq dcL_copy 0 rfl) rfl rfl rfl ?_
    refine f_iconst C 2 (dq dcL_copy 1 rfl) rfl ?_
    refine f_aload_n C 3 (dq dcL_copy 2 rfl) rfl rfl rfl ?_
    refine f_iload_n C 4 (dq dcL_copy 3 rfl) rfl rfl rfl ?_
    refine f_callX C (i := 3) (hp := 15) (nx := 16) [⟨0, 9, 12, 19⟩] ⟨0, 9, 15, 13⟩ [] (hT.trans rfl) (fun y hy => by rw [List.mem_singleton.mp hy]; exact Or.inr ⟨by decide, nIAE, C.2.2.2.2.1 _ clL_19, hnc (nISE, nIAE) (by simp [ncs])⟩) (by decide) (by decide) (C.2.2.2.2.1 _ clL_13) (va_Nw.use rfl (C.2.2.2.2.2.1.2.1 _ cast_nISE)) rfl sp okX11_copy cvL_84 (by rw [hfr]; exact (Nat.le_of_ble_eq_true rfl)) (by rw [hlo]; exact (Nat.le_of_ble_eq_true rfl)) (dq dcL_copy 4 rfl) (Or.inl ⟨3, rfl, (dq dcL_copy 11 rfl), rfl⟩) (Nat.le_of_ble_eq_true rfl) rfl (Nat.le_of_ble_eq_true rfl) rfl rfl rfl rfl rfl (Nat.le_of_ble_eq_true rfl) (by rw [hcc]; exact (Nat.le_of_ble_eq_true rfl)) (by rw [hss]; exact (Nat.le_of_ble_eq_true rfl)) ?_
    refine f_iconst C 17 (dq dcL_copy 12 rfl) rfl ?_
    exact hret K (K9_self K) _ _ _ _ (dq dcL_copy 13 rfl) (Nat.le_of_ble_eq_true rfl) (Nat.le_of_ble_eq_true rfl)
def kL_handOver : List (Nat × Instr × Nat) := [(0, .aload_n 1, 1), (1, .iconst 0, 1), (2, .aload_n 0, 1), (3, .invokevirtual 87, 3), (6, .i2l, 1), (7, .lastore, 1), (8, .goto 6, 3), (11, .astore_n 2, 1), (12, .iconst 1, 1), (13, .ireturn, 1), (14, .iconst 0, 1), (15, .ireturn, 1)]
theorem dcL_handOver : kL_handOver.all (fun q => decide (decode cL_handOver q.1 = .ok q.2)) = true := by decide +kernel
theorem sw_handOver {σ σ1 : xSig} {code z : Int} {f9 : Nat → Nat} (hc : 0 ≤ code ∧ code ≤ 1) (h0 : code = 0 → x_Sp MX11_handOver 0 0 (.ref 0 :: []) (St σ) (iv z) (St σ1)) (h1 : code ≠ 0 → x_Sp MX11_handOver 1 6 (.ref 0 :: []) (St σ) (.inr ([nISE].getD (code.toNat - 1) "")) (St σ1)) (y0 : code = 0 → f9 = fun _ => o9 (ll (zI z))) (y1 : code ≠ 0 → f9 = fun w => w) : x_SpH yL_handOver cL_handOver 3 hL_handOver 8 183 1 6 [.ref 0, .ref 313] (St σ) f9 code (St σ1) := by
  refine f_entry (by decide +kernel) rfl (Nat.le_of_ble_eq_true rfl) (ls := [some (.ref 0), some (.ref 313), none]) rfl (fun K C hT hfr hlo hcc hss hnc hret => ?_)
  rcases (show code = 0 ∨ code = 1 by omega) with rfl | rfl
  · obtain rfl := y0 rfl
    have sp := h0 rfl
    refine f_aload_n C 1 (dq dcL_handOver 0 rfl) rfl rfl rfl ?_
    refine f_iconst C 2 (dq dcL_handOver 1 rfl) rfl ?_
    refine f_aload_n C 3 (dq dcL_handOver 2 rfl) rfl rfl rfl ?_
    refine f_callV C 6 sp okX11_handOver cvL_87 (by rw [hfr]; exact (Nat.le_of_ble_eq_true rfl)) (by rw [hlo]; exact (Nat.le_of_ble_eq_true rfl)) (dq dcL_handOver 3 rfl) rfl (Nat.le_of_ble_eq_true rfl) rfl rfl rfl rfl rfl (Nat.le_of_ble_eq_true rfl) (by rw [hcc]; exact (Nat.le_of_ble_eq_true rfl)) (by rw [hss]; exact (Nat.le_of_ble_eq_true rfl)) ?_
    refine f_i2lz C 7 (dq dcL_handOver 4 rfl) rfl ?_
    refine f_lastore9 C 8 (dq dcL_handOver 5 rfl) rfl (Nat.le_of_ble_eq_true rfl) rfl SH9 ?_
    refine f_goto (C.out _) 14 (dq dcL_handOver 6 rfl) rfl ?_
    refine f_iconst (C.out _) 15 (dq dcL_handOver 10 rfl) rfl ?_
    exact hret _ rfl _ _ _ _ (dq dcL_handOver 11 rfl) (Nat.le_of_ble_eq_true rfl) (Nat.le_of_ble_eq_true rfl)
  · obtain rfl := y1 (by decide)
    have sp : x_Sp MX11_handOver 1 6 (.ref 0 :: []) (St σ) (.inr nISE) (St σ1) := h1 (by decide)
    refine f_aload_n C 1 (dq dcL_handOver 0 rfl) rfl rfl rfl ?_
    refine f_iconst C 2 (dq dcL_handOver 1 rfl) rfl ?_
    refine f_aload_n C 3 (dq dcL_handOver 2 rfl) rfl rfl rfl ?_
    refine f_callX C (i := 2) (hp := 11) (nx := 12) [] ⟨0, 8, 11, 13⟩ [] (hT.trans rfl) (fun y hy => by simp at hy) (by decide) (by decide) (C.2.2.2.2.1 _ clL_13) (va_Nw.use rfl (C.2.2.2.2.2.1.2.1 _ cast_nISE)) rfl sp okX11_handOver cvL_87 (by rw [hfr]; exact (Nat.le_of_ble_eq_true rfl)) (by rw [hlo]; exact (Nat.le_of_ble_eq_true rfl)) (dq dcL_handOver 3 rfl) (Or.inl ⟨2, rfl, (dq dcL_handOver 7 rfl), rfl⟩) (Nat.le_of_ble_eq_true rfl) rfl (Nat.le_of_ble_eq_true rfl) rfl rfl rfl rfl rfl (Nat.le_of_ble_eq_true rfl) (by rw [hcc]; exact (Nat.le_of_ble_eq_true rfl)) (by rw [hss]; exact (Nat.le_of_ble_eq_true rfl)) ?_
    refine f_iconst C 13 (dq dcL_handOver 8 rfl) rfl ?_
    exact hret K (K9_self K) _ _ _ _ (dq dcL_handOver 9 rfl) (Nat.le_of_ble_eq_true rfl) (Nat.le_of_ble_eq_true rfl)
def kL_giveUp : List (Nat × Instr × Nat) := [(0, .aload_n 1, 1), (1, .iconst 0, 1), (2, .aload_n 0, 1), (3, .invokevirtual 90, 3), (6, .i2l, 1), (7, .lastore, 1), (8, .goto 6, 3), (11, .astore_n 2, 1), (12, .iconst 1, 1), (13, .ireturn, 1), (14, .iconst 0, 1), (15, .ireturn, 1)]
theorem dcL_giveUp : kL_giveUp.all (fun q => decide (decode cL_giveUp q.1 = .ok q.2)) = true := by decide +kernel
theorem sw_giveUp {σ σ1 : xSig} {code z : Int} {f9 : Nat → Nat} (hc : 0 ≤ code ∧ code ≤ 1) (h0 : code = 0 → x_Sp MX11_giveUp 0 0 (.ref 0 :: []) (St σ) (iv z) (St σ1)) (h1 : code ≠ 0 → x_Sp MX11_giveUp 1 6 (.ref 0 :: []) (St σ) (.inr ([nISE].getD (code.toNat - 1) "")) (St σ1)) (y0 : code = 0 → f9 = fun _ => o9 (ll (zI z))) (y1 : code ≠ 0 → f9 = fun w => w) : x_SpH yL_giveUp cL_giveUp 3 hL_giveUp 7 110 1 6 [.ref 0, .ref 313] (St σ) f9 code (St σ1) := by
  refine f_entry (by decide +kernel) rfl (Nat.le_of_ble_eq_true rfl) (ls := [some (.ref 0), some (.ref 313), none]) rfl (fun K C hT hfr hlo hcc hss hnc hret => ?_)
  rcases (show code = 0 ∨ code = 1 by omega) with rfl | rfl
  · obtain rfl := y0 rfl
    have sp := h0 rfl
    refine f_aload_n C 1 (dq dcL_giveUp 0 rfl) rfl rfl rfl ?_
    refine f_iconst C 2 (dq dcL_giveUp 1 rfl) rfl ?_
    refine f_aload_n C 3 (dq dcL_giveUp 2 rfl) rfl rfl rfl ?_
    refine f_callV C 6 sp okX11_giveUp cvL_90 (by rw [hfr]; exact (Nat.le_of_ble_eq_true rfl)) (by rw [hlo]; exact (Nat.le_of_ble_eq_true rfl)) (dq dcL_giveUp 3 rfl) rfl (Nat.le_of_ble_eq_true rfl) rfl rfl rfl rfl rfl (Nat.le_of_ble_eq_true rfl) (by rw [hcc]; exact (Nat.le_of_ble_eq_true rfl)) (by rw [hss]; exact (Nat.le_of_ble_eq_true rfl)) ?_
    refine f_i2lz C 7 (dq dcL_giveUp 4 rfl) rfl ?_
    refine f_lastore9 C 8 (dq dcL_giveUp 5 rfl) rfl (Nat.le_of_ble_eq_true rfl) rfl SH9 ?_
    refine f_goto (C.out _) 14 (dq dcL_giveUp 6 rfl) rfl ?_
    refine f_iconst (C.out _) 15 (dq dcL_giveUp 10 rfl) rfl ?_
    exact hret _ rfl _ _ _ _ (dq dcL_giveUp 11 rfl) (Nat.le_of_ble_eq_true rfl) (Nat.le_of_ble_eq_true rfl)
  · obtain rfl := y1 (by decide)
    have sp : x_Sp MX11_giveUp 1 6 (.ref 0 :: []) (St σ) (.inr nISE) (St σ1) := h1 (by decide)
    refine f_aload_n C 1 (dq dcL_giveUp 0 rfl) rfl rfl rfl ?_
    refine f_iconst C 2 (dq dcL_giveUp 1 rfl) rfl ?_
    refine f_aload_n C 3 (dq dcL_giveUp 2 rfl) rfl rfl rfl ?_
    refine f_callX C (i := 2) (hp := 11) (nx := 12) [] ⟨0, 8, 11, 13⟩ [] (hT.trans rfl) (fun y hy => by simp at hy) (by decide) (by decide) (C.2.2.2.2.1 _ clL_13) (va_Nw.use rfl (C.2.2.2.2.2.1.2.1 _ cast_nISE)) rfl sp okX11_giveUp cvL_90 (by rw [hfr]; exact (Nat.le_of_ble_eq_true rfl)) (by rw [hlo]; exact (Nat.le_of_ble_eq_true rfl)) (dq dcL_giveUp 3 rfl) (Or.inl ⟨2, rfl, (dq dcL_giveUp 7 rfl), rfl⟩) (Nat.le_of_ble_eq_true rfl) rfl (Nat.le_of_ble_eq_true rfl) rfl rfl rfl rfl rfl (Nat.le_of_ble_eq_true rfl) (by rw [hcc]; exact (Nat.le_of_ble_eq_true rfl)) (by rw [hss]; exact (Nat.le_of_ble_eq_true rfl)) ?_
    refine f_iconst C 13 (dq dcL_giveUp 8 rfl) rfl ?_
    exact hret K (K9_self K) _ _ _ _ (dq dcL_giveUp 9 rfl) (Nat.le_of_ble_eq_true rfl) (Nat.le_of_ble_eq_true rfl)
def kL_clean : List (Nat × Instr × Nat) := [(0, .aload_n 2, 1), (1, .iconst 0, 1), (2, .aload_n 0, 1), (3, .iload_n 1, 1), (4, .invokevirtual 93, 3), (7, .i2l, 1), (8, .lastore, 1), (9, .goto 6, 3), (12, .astore_n 3, 1), (13, .iconst 1, 1), (14, .ireturn, 1), (15, .iconst 0, 1), (16, .ireturn, 1)]
theorem dcL_clean : kL_clean.all (fun q => decide (decode cL_clean q.1 = .ok q.2)) = true := by decide +kernel
theorem sw_clean {σ σ1 : xSig} {code z : Int} {f9 : Nat → Nat} {a1 : Int32} (hc : 0 ≤ code ∧ code ≤ 1) (h0 : code = 0 → x_Sp MX11_clean 0 0 (.ref 0 :: [.int a1]) (St σ) (iv z) (St σ1)) (h1 : code ≠ 0 → x_Sp MX11_clean 1 6 (.ref 0 :: [.int a1]) (St σ) (.inr ([nIAE].getD (code.toNat - 1) "")) (St σ1)) (y0 : code = 0 → f9 = fun _ => o9 (ll (zI z))) (y1 : code ≠ 0 → f9 = fun w => w) : x_SpH yL_clean cL_clean 4 hL_clean 7 111 1 6 [.ref 0, .int a1, .ref 313] (St σ) f9 code (St σ1) := by
  refine f_entry (by decide +kernel) rfl (Nat.le_of_ble_eq_true rfl) (ls := [some (.ref 0), some (.int a1), some (.ref 313), none]) rfl (fun K C hT hfr hlo hcc hss hnc hret => ?_)
  rcases (show code = 0 ∨ code = 1 by omega) with rfl | rfl
  · obtain rfl := y0 rfl
    have sp := h0 rfl
    refine f_aload_n C 1 (dq dcL_clean 0 rfl) rfl rfl rfl ?_
    refine f_iconst C 2 (dq dcL_clean 1 rfl) rfl ?_
    refine f_aload_n C 3 (dq dcL_clean 2 rfl) rfl rfl rfl ?_
    refine f_iload_n C 4 (dq dcL_clean 3 rfl) rfl rfl rfl ?_
    refine f_callV C 7 sp okX11_clean cvL_93 (by rw [hfr]; exact (Nat.le_of_ble_eq_true rfl)) (by rw [hlo]; exact (Nat.le_of_ble_eq_true rfl)) (dq dcL_clean 4 rfl) rfl (Nat.le_of_ble_eq_true rfl) rfl rfl rfl rfl rfl (Nat.le_of_ble_eq_true rfl) (by rw [hcc]; exact (Nat.le_of_ble_eq_true rfl)) (by rw [hss]; exact (Nat.le_of_ble_eq_true rfl)) ?_
    refine f_i2lz C 8 (dq dcL_clean 5 rfl) rfl ?_
    refine f_lastore9 C 9 (dq dcL_clean 6 rfl) rfl (Nat.le_of_ble_eq_true rfl) rfl SH9 ?_
    refine f_goto (C.out _) 15 (dq dcL_clean 7 rfl) rfl ?_
    refine f_iconst (C.out _) 16 (dq dcL_clean 11 rfl) rfl ?_
    exact hret _ rfl _ _ _ _ (dq dcL_clean 12 rfl) (Nat.le_of_ble_eq_true rfl) (Nat.le_of_ble_eq_true rfl)
  · obtain rfl := y1 (by decide)
    have sp : x_Sp MX11_clean 1 6 (.ref 0 :: [.int a1]) (St σ) (.inr nIAE) (St σ1) := h1 (by decide)
    refine f_aload_n C 1 (dq dcL_clean 0 rfl) rfl rfl rfl ?_
    refine f_iconst C 2 (dq dcL_clean 1 rfl) rfl ?_
    refine f_aload_n C 3 (dq dcL_clean 2 rfl) rfl rfl rfl ?_
    refine f_iload_n C 4 (dq dcL_clean 3 rfl) rfl rfl rfl ?_
    refine f_callX C (i := 3) (hp := 12) (nx := 13) [] ⟨0, 9, 12, 19⟩ [] (hT.trans rfl) (fun y hy => by simp at hy) (by decide) (by decide) (C.2.2.2.2.1 _ clL_19) (va_Nw.use rfl (C.2.2.2.2.2.1.2.1 _ cast_nIAE)) rfl sp okX11_clean cvL_93 (by rw [hfr]; exact (Nat.le_of_ble_eq_true rfl)) (by rw [hlo]; exact (Nat.le_of_ble_eq_true rfl)) (dq dcL_clean 4 rfl) (Or.inl ⟨3, rfl, (dq dcL_clean 8 rfl), rfl⟩) (Nat.le_of_ble_eq_true rfl) rfl (Nat.le_of_ble_eq_true rfl) rfl rfl rfl rfl rfl (Nat.le_of_ble_eq_true rfl) (by rw [hcc]; exact (Nat.le_of_ble_eq_true rfl)) (by rw [hss]; exact (Nat.le_of_ble_eq_true rfl)) ?_
    refine f_iconst C 14 (dq dcL_clean 9 rfl) rfl ?_
    exact hret K (K9_self K) _ _ _ _ (dq dcL_clean 10 rfl) (Nat.le_of_ble_eq_true rfl) (Nat.le_of_ble_eq_true rfl)
def kL_key : List (Nat × Instr × Nat) := [(0, .aload_n 3, 1), (1, .iconst 0, 1), (2, .aload_n 0, 1), (3, .iload_n 1, 1), (4, .iload_n 2, 1), (5, .invokevirtual 96, 3), (8, .i2l, 1), (9, .lastore, 1), (10, .goto 11, 3), (13, .astore 4, 2), (15, .iconst 1, 1), (16, .ireturn, 1), (17, .astore 4, 2), (19, .iconst 2, 1), (20, .ireturn, 1), (21, .iconst 0, 1), (22, .ireturn, 1)]
theorem dcL_key : kL_key.all (fun q => decide (decode cL_key q.1 = .ok q.2)) = true := by decide +kernel
theorem sw_key {σ σ1 : xSig} {code z : Int} {f9 : Nat → Nat} {a1 a2 : Int32} (hc : 0 ≤ code ∧ code ≤ 2) (h0 : code = 0 → x_Sp MX11_key 0 0 (.ref 0 :: [.int a1, .int a2]) (St σ) (iv z) (St σ1)) (h1 : code ≠ 0 → x_Sp MX11_key 1 6 (.ref 0 :: [.int a1, .int a2]) (St σ) (.inr ([nIAE, nISE].getD (code.toNat - 1) "")) (St σ1)) (y0 : code = 0 → f9 = fun _ => o9 (ll (zI z))) (y1 : code ≠ 0 → f9 = fun w => w) : x_SpH yL_key cL_key 5 hL_key 8 184 1 6 [.ref 0, .int a1, .int a2, .ref 313] (St σ) f9 code (St σ1) := by
  refine f_entry (by decide +kernel) rfl (Nat.le_of_ble_eq_true rfl) (ls := [some (.ref 0), some (.int a1), some (.int a2), some (.ref 313), none]) rfl (fun K C hT hfr hlo hcc hss hnc hret => ?_)
  rcases (show code = 0 ∨ code = 1 ∨ code = 2 by omega) with rfl | rfl | rfl
  · obtain rfl := y0 rfl
    have sp := h0 rfl
    refine f_aload_n C 1 (dq dcL_key 0 rfl) rfl rfl rfl ?_
    refine f_iconst C 2 (dq dcL_key 1 rfl) rfl ?_
    refine f_aload_n C 3 (dq dcL_key 2 rfl) rfl rfl rfl ?_
    refine f_iload_n C 4 (dq dcL_key 3 rfl) rfl rfl rfl ?_
    refine f_iload_n C 5 (dq dcL_key 4 rfl) rfl rfl rfl ?_
    refine f_callV C 8 sp okX11_key cvL_96 (by rw [hfr]; exact (Nat.le_of_ble_eq_true rfl)) (by rw [hlo]; exact (Nat.le_of_ble_eq_true rfl)) (dq dcL_key 5 rfl) rfl (Nat.le_of_ble_eq_true rfl) rfl rfl rfl rfl rfl (Nat.le_of_ble_eq_true rfl) (by rw [hcc]; exact (Nat.le_of_ble_eq_true rfl)) (by rw [hss]; exact (Nat.le_of_ble_eq_true rfl)) ?_
    refine f_i2lz C 9 (dq dcL_key 6 rfl) rfl ?_
    refine f_lastore9 C 10 (dq dcL_key 7 rfl) rfl (Nat.le_of_ble_eq_true rfl) rfl SH9 ?_
    refine f_goto (C.out _) 21 (dq dcL_key 8 rfl) rfl ?_
    refine f_iconst (C.out _) 22 (dq dcL_key 15 rfl) rfl ?_
    exact hret _ rfl _ _ _ _ (dq dcL_key 16 rfl) (Nat.le_of_ble_eq_true rfl) (Nat.le_of_ble_eq_true rfl)
  · obtain rfl := y1 (by decide)
    have sp : x_Sp MX11_key 1 6 (.ref 0 :: [.int a1, .int a2]) (St σ) (.inr nIAE) (St σ1) := h1 (by decide)
    refine f_aload_n C 1 (dq dcL_key 0 rfl) rfl rfl rfl ?_
    refine f_iconst C 2 (dq dcL_key 1 rfl) rfl ?_
    refine f_aload_n C 3 (dq dcL_key 2 rfl) rfl rfl rfl ?_
    refine f_iload_n C 4 (dq dcL_key 3 rfl) rfl rfl rfl ?_
    refine f_iload_n C 5 (dq dcL_key 4 rfl) rfl rfl rfl ?_
    refine f_callX C (i := 4) (hp := 13) (nx := 15) [] ⟨0, 10, 13, 19⟩ [⟨0, 10, 17, 13⟩] (hT.trans rfl) (fun y hy => by simp at hy) (by decide) (by decide) (C.2.2.2.2.1 _ clL_19) (va_Nw.use rfl (C.2.2.2.2.2.1.2.1 _ cast_nIAE)) rfl sp okX11_key cvL_96 (by rw [hfr]; exact (Nat.le_of_ble_eq_true rfl)) (by rw [hlo]; exact (Nat.le_of_ble_eq_true rfl)) (dq dcL_key 5 rfl) (Or.inr ⟨(dq dcL_key 9 rfl), rfl⟩) (Nat.le_of_ble_eq_true rfl) rfl (Nat.le_of_ble_eq_true rfl) rfl rfl rfl rfl rfl (Nat.le_of_ble_eq_true rfl) (by rw [hcc]; exact (Nat.le_of_ble_eq_true rfl)) (by rw [hss]; exact (Nat.le_of_ble_eq_true rfl)) ?_
    refine f_iconst C 16 (dq dcL_key 10 rfl) rfl ?_
    exact hret K (K9_self K) _ _ _ _ (dq dcL_key 11 rfl) (Nat.le_of_ble_eq_true rfl) (Nat.le_of_ble_eq_true rfl)
  · obtain rfl := y1 (by decide)
    have sp : x_Sp MX11_key 1 6 (.ref 0 :: [.int a1, .int a2]) (St σ) (.inr nISE) (St σ1) := h1 (by decide)
    refine f_aload_n C 1 (dq dcL_key 0 rfl) rfl rfl rfl ?_
    refine f_iconst C 2 (dq dcL_key 1 rfl) rfl ?_
    refine f_aload_n C 3 (dq dcL_key 2 rfl) rfl rfl rfl ?_
    refine f_iload_n C 4 (dq dcL_key 3 rfl) rfl rfl rfl ?_
    refine f_iload_n C 5 (dq dcL_key 4 rfl) rfl rfl rfl ?_
    refine f_callX C (i := 4) (hp := 17) (nx := 19) [⟨0, 10, 13, 19⟩] ⟨0, 10, 17, 13⟩ [] (hT.trans rfl) (fun y hy => by rw [List.mem_singleton.mp hy]; exact Or.inr ⟨by decide, nIAE, C.2.2.2.2.1 _ clL_19, hnc (nISE, nIAE) (by simp [ncs])⟩) (by decide) (by decide) (C.2.2.2.2.1 _ clL_13) (va_Nw.use rfl (C.2.2.2.2.2.1.2.1 _ cast_nISE)) rfl sp okX11_key cvL_96 (by rw [hfr]; exact (Nat.le_of_ble_eq_true rfl)) (by rw [hlo]; exact (Nat.le_of_ble_eq_true rfl)) (dq dcL_key 5 rfl) (Or.inr ⟨(dq dcL_key 12 rfl), rfl⟩) (Nat.le_of_ble_eq_true rfl) rfl (Nat.le_of_ble_eq_true rfl) rfl rfl rfl rfl rfl (Nat.le_of_ble_eq_true rfl) (by rw [hcc]; exact (Nat.le_of_ble_eq_true rfl)) (by rw [hss]; exact (Nat.le_of_ble_eq_true rfl)) ?_
    refine f_iconst C 20 (dq dcL_key 13 rfl) rfl ?_
    exact hret K (K9_self K) _ _ _ _ (dq dcL_key 14 rfl) (Nat.le_of_ble_eq_true rfl) (Nat.le_of_ble_eq_true rfl)
def kL_expire : List (Nat × Instr × Nat) := [(0, .aload_n 2, 1), (1, .iconst 0, 1), (2, .aload_n 0, 1), (3, .iload_n 1, 1), (4, .invokevirtual 99, 3), (7, .i2l, 1), (8, .lastore, 1), (9, .goto 6, 3), (12, .astore_n 3, 1), (13, .iconst 1, 1), (14, .ireturn, 1), (15, .iconst 0, 1), (16, .ireturn, 1)]
theorem dcL_expire : kL_expire.all (fun q => decide (decode cL_expire q.1 = .ok q.2)) = true := by decide +kernel
theorem sw_expire {σ σ1 : xSig} {code z : Int} {f9 : Nat → Nat} {a1 : Int32} (hc : 0 ≤ code ∧ code ≤ 1) (h0 : code = 0 → x_Sp MX11_expire 0 0 (.ref 0 :: [.int a1]) (St σ) (iv z) (St σ1)) (h1 : code ≠ 0 → x_Sp MX11_expire 1 6 (.ref 0 :: [.int a1]) (St σ) (.inr ([nIAE].getD (code.toNat - 1) "")) (St σ1)) (y0 : code = 0 → f9 = fun _ => o9 (ll (zI z))) (y1 : code ≠ 0 → f9 = fun w => w) : x_SpH yL_expire cL_expire 4 hL_expire 7 112 1 6 [.ref 0, .int a1, .ref 313] (St σ) f9 code (St σ1) := by
  refine f_entry (by decide +kernel) rfl (Nat.le_of_ble_eq_true rfl) (ls := [some (.ref 0), some (.int a1), some (.ref 313), none]) rfl (fun K C hT hfr hlo hcc hss hnc hret => ?_)
  rcases (show code = 0 ∨ code = 1 by omega) with rfl | rfl
  · obtain rfl := y0 rfl
    have sp := h0 rfl
    refine f_aload_n C 1 (dq dcL_expire 0 rfl) rfl rfl rfl ?_
    refine f_iconst C 2 (dq dcL_expire 1 rfl) rfl ?_
    refine f_aload_n C 3 (dq dcL_expire 2 rfl) rfl rfl rfl ?_
    refine f_iload_n C 4 (dq dcL_expire 3 rfl) rfl rfl rfl ?_
    refine f_callV C 7 sp okX11_expire cvL_99 (by rw [hfr]; exact (Nat.le_of_ble_eq_true rfl)) (by rw [hlo]; exact (Nat.le_of_ble_eq_true rfl)) (dq dcL_expire 4 rfl) rfl (Nat.le_of_ble_eq_true rfl) rfl rfl rfl rfl rfl (Nat.le_of_ble_eq_true rfl) (by rw [hcc]; exact (Nat.le_of_ble_eq_true rfl)) (by rw [hss]; exact (Nat.le_of_ble_eq_true rfl)) ?_
    refine f_i2lz C 8 (dq dcL_expire 5 rfl) rfl ?_
    refine f_lastore9 C 9 (dq dcL_expire 6 rfl) rfl (Nat.le_of_ble_eq_true rfl) rfl SH9 ?_
    refine f_goto (C.out _) 15 (dq dcL_expire 7 rfl) rfl ?_
    refine f_iconst (C.out _) 16 (dq dcL_expire 11 rfl) rfl ?_
    exact hret _ rfl _ _ _ _ (dq dcL_expire 12 rfl) (Nat.le_of_ble_eq_true rfl) (Nat.le_of_ble_eq_true rfl)
  · obtain rfl := y1 (by decide)
    have sp : x_Sp MX11_expire 1 6 (.ref 0 :: [.int a1]) (St σ) (.inr nIAE) (St σ1) := h1 (by decide)
    refine f_aload_n C 1 (dq dcL_expire 0 rfl) rfl rfl rfl ?_
    refine f_iconst C 2 (dq dcL_expire 1 rfl) rfl ?_
    refine f_aload_n C 3 (dq dcL_expire 2 rfl) rfl rfl rfl ?_
    refine f_iload_n C 4 (dq dcL_expire 3 rfl) rfl rfl rfl ?_
    refine f_callX C (i := 3) (hp := 12) (nx := 13) [] ⟨0, 9, 12, 19⟩ [] (hT.trans rfl) (fun y hy => by simp at hy) (by decide) (by decide) (C.2.2.2.2.1 _ clL_19) (va_Nw.use rfl (C.2.2.2.2.2.1.2.1 _ cast_nIAE)) rfl sp okX11_expire cvL_99 (by rw [hfr]; exact (Nat.le_of_ble_eq_true rfl)) (by rw [hlo]; exact (Nat.le_of_ble_eq_true rfl)) (dq dcL_expire 4 rfl) (Or.inl ⟨3, rfl, (dq dcL_expire 8 rfl), rfl⟩) (Nat.le_of_ble_eq_true rfl) rfl (Nat.le_of_ble_eq_true rfl) rfl rfl rfl rfl rfl (Nat.le_of_ble_eq_true rfl) (by rw [hcc]; exact (Nat.le_of_ble_eq_true rfl)) (by rw [hss]; exact (Nat.le_of_ble_eq_true rfl)) ?_
    refine f_iconst C 14 (dq dcL_expire 9 rfl) rfl ?_
    exact hret K (K9_self K) _ _ _ _ (dq dcL_expire 10 rfl) (Nat.le_of_ble_eq_true rfl) (Nat.le_of_ble_eq_true rfl)
def kL_tick : List (Nat × Instr × Nat) := [(0, .aload_n 2, 1), (1, .iconst 0, 1), (2, .aload_n 0, 1), (3, .iload_n 1, 1), (4, .invokevirtual 102, 3), (7, .i2l, 1), (8, .lastore, 1), (9, .goto 6, 3), (12, .astore_n 3, 1), (13, .iconst 1, 1), (14, .ireturn, 1), (15, .iconst 0, 1), (16, .ireturn, 1)]
theorem dcL_tick : kL_tick.all (fun q => decide (decode cL_tick q.1 = .ok q.2)) = true := by decide +kernel
theorem sw_tick {σ σ1 : xSig} {code z : Int} {f9 : Nat → Nat} {a1 : Int32} (hc : 0 ≤ code ∧ code ≤ 1) (h0 : code = 0 → x_Sp MX11_tick 0 0 (.ref 0 :: [.int a1]) (St σ) (iv z) (St σ1)) (h1 : code ≠ 0 → x_Sp MX11_tick 1 6 (.ref 0 :: [.int a1]) (St σ) (.inr ([nIAE].getD (code.toNat - 1) "")) (St σ1)) (y0 : code = 0 → f9 = fun _ => o9 (ll (zI z))) (y1 : code ≠ 0 → f9 = fun w => w) : x_SpH yL_tick cL_tick 4 hL_tick 8 183 1 6 [.ref 0, .int a1, .ref 313] (St σ) f9 code (St σ1) := by
  refine f_entry (by decide +kernel) rfl (Nat.le_of_ble_eq_true rfl) (ls := [some (.ref 0), some (.int a1), some (.ref 313), none]) rfl (fun K C hT hfr hlo hcc hss hnc hret => ?_)
  rcases (show code = 0 ∨ code = 1 by omega) with rfl | rfl
  · obtain rfl := y0 rfl
    have sp := h0 rfl
    refine f_aload_n C 1 (dq dcL_tick 0 rfl) rfl rfl rfl ?_
    refine f_iconst C 2 (dq dcL_tick 1 rfl) rfl ?_
    refine f_aload_n C 3 (dq dcL_tick 2 rfl) rfl rfl rfl ?_
    refine f_iload_n C 4 (dq dcL_tick 3 rfl) rfl rfl rfl ?_
    refine f_callV C 7 sp okX11_tick cvL_102 (by rw [hfr]; exact (Nat.le_of_ble_eq_true rfl)) (by rw [hlo]; exact (Nat.le_of_ble_eq_true rfl)) (dq dcL_tick 4 rfl) rfl (Nat.le_of_ble_eq_true rfl) rfl rfl rfl rfl rfl (Nat.le_of_ble_eq_true rfl) (by rw [hcc]; exact (Nat.le_of_ble_eq_true rfl)) (by rw [hss]; exact (Nat.le_of_ble_eq_true rfl)) ?_
    refine f_i2lz C 8 (dq dcL_tick 5 rfl) rfl ?_
    refine f_lastore9 C 9 (dq dcL_tick 6 rfl) rfl (Nat.le_of_ble_eq_true rfl) rfl SH9 ?_
    refine f_goto (C.out _) 15 (dq dcL_tick 7 rfl) rfl ?_
    refine f_iconst (C.out _) 16 (dq dcL_tick 11 rfl) rfl ?_
    exact hret _ rfl _ _ _ _ (dq dcL_tick 12 rfl) (Nat.le_of_ble_eq_true rfl) (Nat.le_of_ble_eq_true rfl)
  · obtain rfl := y1 (by decide)
    have sp : x_Sp MX11_tick 1 6 (.ref 0 :: [.int a1]) (St σ) (.inr nIAE) (St σ1) := h1 (by decide)
    refine f_aload_n C 1 (dq dcL_tick 0 rfl) rfl rfl rfl ?_
    refine f_iconst C 2 (dq dcL_tick 1 rfl) rfl ?_
    refine f_aload_n C 3 (dq dcL_tick 2 rfl) rfl rfl rfl ?_
    refine f_iload_n C 4 (dq dcL_tick 3 rfl) rfl rfl rfl ?_
    refine f_callX C (i := 3) (hp := 12) (nx := 13) [] ⟨0, 9, 12, 19⟩ [] (hT.trans rfl) (fun y hy => by simp at hy) (by decide) (by decide) (C.2.2.2.2.1 _ clL_19) (va_Nw.use rfl (C.2.2.2.2.2.1.2.1 _ cast_nIAE)) rfl sp okX11_tick cvL_102 (by rw [hfr]; exact (Nat.le_of_ble_eq_true rfl)) (by rw [hlo]; exact (Nat.le_of_ble_eq_true rfl)) (dq dcL_tick 4 rfl) (Or.inl ⟨3, rfl, (dq dcL_tick 8 rfl), rfl⟩) (Nat.le_of_ble_eq_true rfl) rfl (Nat.le_of_ble_eq_true rfl) rfl rfl rfl rfl rfl (Nat.le_of_ble_eq_true rfl) (by rw [hcc]; exact (Nat.le_of_ble_eq_true rfl)) (by rw [hss]; exact (Nat.le_of_ble_eq_true rfl)) ?_
    refine f_iconst C 14 (dq dcL_tick 9 rfl) rfl ?_
    exact hret K (K9_self K) _ _ _ _ (dq dcL_tick 10 rfl) (Nat.le_of_ble_eq_true rfl) (Nat.le_of_ble_eq_true rfl)
def kL_document : List (Nat × Instr × Nat) := [(0, .aload_n 3, 1), (1, .iconst 0, 1), (2, .aload_n 0, 1), (3, .iload_n 1, 1), (4, .iload_n 2, 1), (5, .invokevirtual 105, 3), (8, .i2l, 1), (9, .lastore, 1), (10, .goto 7, 3), (13, .astore 4, 2), (15, .iconst 1, 1), (16, .ireturn, 1), (17, .iconst 0, 1), (18, .ireturn, 1)]
theorem dcL_document : kL_document.all (fun q => decide (decode cL_document q.1 = .ok q.2)) = true := by decide +kernel
theorem sw_document {σ σ1 : xSig} {code z : Int} {f9 : Nat → Nat} {a1 a2 : Int32} (hc : 0 ≤ code ∧ code ≤ 1) (h0 : code = 0 → x_Sp MX11_document 0 0 (.ref 0 :: [.int a1, .int a2]) (St σ) (iv z) (St σ1)) (h1 : code ≠ 0 → x_Sp MX11_document 1 6 (.ref 0 :: [.int a1, .int a2]) (St σ) (.inr ([nIAE].getD (code.toNat - 1) "")) (St σ1)) (y0 : code = 0 → f9 = fun _ => o9 (ll (zI z))) (y1 : code ≠ 0 → f9 = fun w => w) : x_SpH yL_document cL_document 5 hL_document 7 160 1 6 [.ref 0, .int a1, .int a2, .ref 313] (St σ) f9 code (St σ1) := by
  refine f_entry (by decide +kernel) rfl (Nat.le_of_ble_eq_true rfl) (ls := [some (.ref 0), some (.int a1), some (.int a2), some (.ref 313), none]) rfl (fun K C hT hfr hlo hcc hss hnc hret => ?_)
  rcases (show code = 0 ∨ code = 1 by omega) with rfl | rfl
  · obtain rfl := y0 rfl
    have sp := h0 rfl
    refine f_aload_n C 1 (dq dcL_document 0 rfl) rfl rfl rfl ?_
    refine f_iconst C 2 (dq dcL_document 1 rfl) rfl ?_
    refine f_aload_n C 3 (dq dcL_document 2 rfl) rfl rfl rfl ?_
    refine f_iload_n C 4 (dq dcL_document 3 rfl) rfl rfl rfl ?_
    refine f_iload_n C 5 (dq dcL_document 4 rfl) rfl rfl rfl ?_
    refine f_callV C 8 sp okX11_document cvL_105 (by rw [hfr]; exact (Nat.le_of_ble_eq_true rfl)) (by rw [hlo]; exact (Nat.le_of_ble_eq_true rfl)) (dq dcL_document 5 rfl) rfl (Nat.le_of_ble_eq_true rfl) rfl rfl rfl rfl rfl (Nat.le_of_ble_eq_true rfl) (by rw [hcc]; exact (Nat.le_of_ble_eq_true rfl)) (by rw [hss]; exact (Nat.le_of_ble_eq_true rfl)) ?_
    refine f_i2lz C 9 (dq dcL_document 6 rfl) rfl ?_
    refine f_lastore9 C 10 (dq dcL_document 7 rfl) rfl (Nat.le_of_ble_eq_true rfl) rfl SH9 ?_
    refine f_goto (C.out _) 17 (dq dcL_document 8 rfl) rfl ?_
    refine f_iconst (C.out _) 18 (dq dcL_document 12 rfl) rfl ?_
    exact hret _ rfl _ _ _ _ (dq dcL_document 13 rfl) (Nat.le_of_ble_eq_true rfl) (Nat.le_of_ble_eq_true rfl)
  · obtain rfl := y1 (by decide)
    have sp : x_Sp MX11_document 1 6 (.ref 0 :: [.int a1, .int a2]) (St σ) (.inr nIAE) (St σ1) := h1 (by decide)
    refine f_aload_n C 1 (dq dcL_document 0 rfl) rfl rfl rfl ?_
    refine f_iconst C 2 (dq dcL_document 1 rfl) rfl ?_
    refine f_aload_n C 3 (dq dcL_document 2 rfl) rfl rfl rfl ?_
    refine f_iload_n C 4 (dq dcL_document 3 rfl) rfl rfl rfl ?_
    refine f_iload_n C 5 (dq dcL_document 4 rfl) rfl rfl rfl ?_
    refine f_callX C (i := 4) (hp := 13) (nx := 15) [] ⟨0, 10, 13, 19⟩ [] (hT.trans rfl) (fun y hy => by simp at hy) (by decide) (by decide) (C.2.2.2.2.1 _ clL_19) (va_Nw.use rfl (C.2.2.2.2.2.1.2.1 _ cast_nIAE)) rfl sp okX11_document cvL_105 (by rw [hfr]; exact (Nat.le_of_ble_eq_true rfl)) (by rw [hlo]; exact (Nat.le_of_ble_eq_true rfl)) (dq dcL_document 5 rfl) (Or.inr ⟨(dq dcL_document 9 rfl), rfl⟩) (Nat.le_of_ble_eq_true rfl) rfl (Nat.le_of_ble_eq_true rfl) rfl rfl rfl rfl rfl (Nat.le_of_ble_eq_true rfl) (by rw [hcc]; exact (Nat.le_of_ble_eq_true rfl)) (by rw [hss]; exact (Nat.le_of_ble_eq_true rfl)) ?_
    refine f_iconst C 16 (dq dcL_document 10 rfl) rfl ?_
    exact hret K (K9_self K) _ _ _ _ (dq dcL_document 11 rfl) (Nat.le_of_ble_eq_true rfl) (Nat.le_of_ble_eq_true rfl)
def kL_print : List (Nat × Instr × Nat) := [(0, .aload_n 2, 1), (1, .iconst 0, 1), (2, .aload_n 0, 1), (3, .iload_n 1, 1), (4, .invokevirtual 108, 3), (7, .lastore, 1), (8, .goto 6, 3), (11, .astore_n 3, 1), (12, .iconst 1, 1), (13, .ireturn, 1), (14, .iconst 0, 1), (15, .ireturn, 1)]
theorem dcL_print : kL_print.all (fun q => decide (decode cL_print q.1 = .ok q.2)) = true := by decide +kernel
theorem sw_print {σ σ1 : xSig} {code z : Int} {f9 : Nat → Nat} {a1 : Int32} (hc : 0 ≤ code ∧ code ≤ 1) (h0 : code = 0 → x_Sp MX11_print 0 0 (.ref 0 :: [.int a1]) (St σ) (lv9 z) (St σ1)) (h1 : code ≠ 0 → x_Sp MX11_print 1 6 (.ref 0 :: [.int a1]) (St σ) (.inr ([nIOB].getD (code.toNat - 1) "")) (St σ1)) (y0 : code = 0 → f9 = fun _ => o9 (ll z)) (y1 : code ≠ 0 → f9 = fun w => w) : x_SpH yL_print cL_print 4 hL_print 7 120 1 6 [.ref 0, .int a1, .ref 313] (St σ) f9 code (St σ1) := by
  refine f_entry (by decide +kernel) rfl (Nat.le_of_ble_eq_true rfl) (ls := [some (.ref 0), some (.int a1), some (.ref 313), none]) rfl (fun K C hT hfr hlo hcc hss hnc hret => ?_)
  rcases (show code = 0 ∨ code = 1 by omega) with rfl | rfl
  · obtain rfl := y0 rfl
    have sp := h0 rfl
    refine f_aload_n C 1 (dq dcL_print 0 rfl) rfl rfl rfl ?_
    refine f_iconst C 2 (dq dcL_print 1 rfl) rfl ?_
    refine f_aload_n C 3 (dq dcL_print 2 rfl) rfl rfl rfl ?_
    refine f_iload_n C 4 (dq dcL_print 3 rfl) rfl rfl rfl ?_
    refine f_callV C 7 sp okX11_print cvL_108 (by rw [hfr]; exact (Nat.le_of_ble_eq_true rfl)) (by rw [hlo]; exact (Nat.le_of_ble_eq_true rfl)) (dq dcL_print 4 rfl) rfl (Nat.le_of_ble_eq_true rfl) rfl rfl rfl rfl rfl (Nat.le_of_ble_eq_true rfl) (by rw [hcc]; exact (Nat.le_of_ble_eq_true rfl)) (by rw [hss]; exact (Nat.le_of_ble_eq_true rfl)) ?_
    refine f_lastore9 C 8 (dq dcL_print 5 rfl) rfl (Nat.le_of_ble_eq_true rfl) rfl SH9 ?_
    refine f_goto (C.out _) 14 (dq dcL_print 6 rfl) rfl ?_
    refine f_iconst (C.out _) 15 (dq dcL_print 10 rfl) rfl ?_
    exact hret _ rfl _ _ _ _ (dq dcL_print 11 rfl) (Nat.le_of_ble_eq_true rfl) (Nat.le_of_ble_eq_true rfl)
  · obtain rfl := y1 (by decide)
    have sp : x_Sp MX11_print 1 6 (.ref 0 :: [.int a1]) (St σ) (.inr nIOB) (St σ1) := h1 (by decide)
    refine f_aload_n C 1 (dq dcL_print 0 rfl) rfl rfl rfl ?_
    refine f_iconst C 2 (dq dcL_print 1 rfl) rfl ?_
    refine f_aload_n C 3 (dq dcL_print 2 rfl) rfl rfl rfl ?_
    refine f_iload_n C 4 (dq dcL_print 3 rfl) rfl rfl rfl ?_
    refine f_callX C (i := 3) (hp := 11) (nx := 12) [] ⟨0, 8, 11, 44⟩ [] (hT.trans rfl) (fun y hy => by simp at hy) (by decide) (by decide) (C.2.2.2.2.1 _ clL_44) (va_Nw.use rfl (C.2.2.2.2.2.1.2.1 _ cast_nIOB)) rfl sp okX11_print cvL_108 (by rw [hfr]; exact (Nat.le_of_ble_eq_true rfl)) (by rw [hlo]; exact (Nat.le_of_ble_eq_true rfl)) (dq dcL_print 4 rfl) (Or.inl ⟨3, rfl, (dq dcL_print 7 rfl), rfl⟩) (Nat.le_of_ble_eq_true rfl) rfl (Nat.le_of_ble_eq_true rfl) rfl rfl rfl rfl rfl (Nat.le_of_ble_eq_true rfl) (by rw [hcc]; exact (Nat.le_of_ble_eq_true rfl)) (by rw [hss]; exact (Nat.le_of_ble_eq_true rfl)) ?_
    refine f_iconst C 13 (dq dcL_print 8 rfl) rfl ?_
    exact hret K (K9_self K) _ _ _ _ (dq dcL_print 9 rfl) (Nat.le_of_ble_eq_true rfl) (Nat.le_of_ble_eq_true rfl)
def kL_entries : List (Nat × Instr × Nat) := [(0, .aload_n 2, 1), (1, .iconst 0, 1), (2, .aload_n 0, 1), (3, .iload_n 1, 1), (4, .invokevirtual 112, 3), (7, .i2l, 1), (8, .lastore, 1), (9, .goto 6, 3), (12, .astore_n 3, 1), (13, .iconst 1, 1), (14, .ireturn, 1), (15, .iconst 0, 1), (16, .ireturn, 1)]
theorem dcL_entries : kL_entries.all (fun q => decide (decode cL_entries q.1 = .ok q.2)) = true := by decide +kernel
theorem sw_entries {σ σ1 : xSig} {code z : Int} {f9 : Nat → Nat} {a1 : Int32} (hc : 0 ≤ code ∧ code ≤ 1) (h0 : code = 0 → x_Sp MX11_entries 0 0 (.ref 0 :: [.int a1]) (St σ) (iv z) (St σ1)) (h1 : code ≠ 0 → x_Sp MX11_entries 1 6 (.ref 0 :: [.int a1]) (St σ) (.inr ([nIOB].getD (code.toNat - 1) "")) (St σ1)) (y0 : code = 0 → f9 = fun _ => o9 (ll (zI z))) (y1 : code ≠ 0 → f9 = fun w => w) : x_SpH yL_entries cL_entries 4 hL_entries 7 166 1 6 [.ref 0, .int a1, .ref 313] (St σ) f9 code (St σ1) := by
  refine f_entry (by decide +kernel) rfl (Nat.le_of_ble_eq_true rfl) (ls := [some (.ref 0), some (.int a1), some (.ref 313), none]) rfl (fun K C hT hfr hlo hcc hss hnc hret => ?_)
  rcases (show code = 0 ∨ code = 1 by omega) with rfl | rfl
  · obtain rfl := y0 rfl
    have sp := h0 rfl
    refine f_aload_n C 1 (dq dcL_entries 0 rfl) rfl rfl rfl ?_
    refine f_iconst C 2 (dq dcL_entries 1 rfl) rfl ?_
    refine f_aload_n C 3 (dq dcL_entries 2 rfl) rfl rfl rfl ?_
    refine f_iload_n C 4 (dq dcL_entries 3 rfl) rfl rfl rfl ?_
    refine f_callV C 7 sp okX11_entries cvL_112 (by rw [hfr]; exact (Nat.le_of_ble_eq_true rfl)) (by rw [hlo]; exact (Nat.le_of_ble_eq_true rfl)) (dq dcL_entries 4 rfl) rfl (Nat.le_of_ble_eq_true rfl) rfl rfl rfl rfl rfl (Nat.le_of_ble_eq_true rfl) (by rw [hcc]; exact (Nat.le_of_ble_eq_true rfl)) (by rw [hss]; exact (Nat.le_of_ble_eq_true rfl)) ?_
    refine f_i2lz C 8 (dq dcL_entries 5 rfl) rfl ?_
    refine f_lastore9 C 9 (dq dcL_entries 6 rfl) rfl (Nat.le_of_ble_eq_true rfl) rfl SH9 ?_
    refine f_goto (C.out _) 15 (dq dcL_entries 7 rfl) rfl ?_
    refine f_iconst (C.out _) 16 (dq dcL_entries 11 rfl) rfl ?_
    exact hret _ rfl _ _ _ _ (dq dcL_entries 12 rfl) (Nat.le_of_ble_eq_true rfl) (Nat.le_of_ble_eq_true rfl)
  · obtain rfl := y1 (by decide)
    have sp : x_Sp MX11_entries 1 6 (.ref 0 :: [.int a1]) (St σ) (.inr nIOB) (St σ1) := h1 (by decide)
    refine f_aload_n C 1 (dq dcL_entries 0 rfl) rfl rfl rfl ?_
    refine f_iconst C 2 (dq dcL_entries 1 rfl) rfl ?_
    refine f_aload_n C 3 (dq dcL_entries 2 rfl) rfl rfl rfl ?_
    refine f_iload_n C 4 (dq dcL_entries 3 rfl) rfl rfl rfl ?_
    refine f_callX C (i := 3) (hp := 12) (nx := 13) [] ⟨0, 9, 12, 44⟩ [] (hT.trans rfl) (fun y hy => by simp at hy) (by decide) (by decide) (C.2.2.2.2.1 _ clL_44) (va_Nw.use rfl (C.2.2.2.2.2.1.2.1 _ cast_nIOB)) rfl sp okX11_entries cvL_112 (by rw [hfr]; exact (Nat.le_of_ble_eq_true rfl)) (by rw [hlo]; exact (Nat.le_of_ble_eq_true rfl)) (dq dcL_entries 4 rfl) (Or.inl ⟨3, rfl, (dq dcL_entries 8 rfl), rfl⟩) (Nat.le_of_ble_eq_true rfl) rfl (Nat.le_of_ble_eq_true rfl) rfl rfl rfl rfl rfl (Nat.le_of_ble_eq_true rfl) (by rw [hcc]; exact (Nat.le_of_ble_eq_true rfl)) (by rw [hss]; exact (Nat.le_of_ble_eq_true rfl)) ?_
    refine f_iconst C 14 (dq dcL_entries 9 rfl) rfl ?_
    exact hret K (K9_self K) _ _ _ _ (dq dcL_entries 10 rfl) (Nat.le_of_ble_eq_true rfl) (Nat.le_of_ble_eq_true rfl)
def kL_entriesAnew : List (Nat × Instr × Nat) := [(0, .aload_n 2, 1), (1, .iconst 0, 1), (2, .aload_n 0, 1), (3, .iload_n 1, 1), (4, .invokevirtual 115, 3), (7, .i2l, 1), (8, .lastore, 1), (9, .goto 6, 3), (12, .astore_n 3, 1), (13, .iconst 1, 1), (14, .ireturn, 1), (15, .iconst 0, 1), (16, .ireturn, 1)]
theorem dcL_entriesAnew : kL_entriesAnew.all (fun q => decide (decode cL_entriesAnew q.1 = .ok q.2)) = true := by decide +kernel
theorem sw_entriesAnew {σ σ1 : xSig} {code z : Int} {f9 : Nat → Nat} {a1 : Int32} (hc : 0 ≤ code ∧ code ≤ 1) (h0 : code = 0 → x_Sp MX11_entriesAnew 0 0 (.ref 0 :: [.int a1]) (St σ) (iv z) (St σ1)) (h1 : code ≠ 0 → x_Sp MX11_entriesAnew 1 6 (.ref 0 :: [.int a1]) (St σ) (.inr ([nIOB].getD (code.toNat - 1) "")) (St σ1)) (y0 : code = 0 → f9 = fun _ => o9 (ll (zI z))) (y1 : code ≠ 0 → f9 = fun w => w) : x_SpH yL_entriesAnew cL_entriesAnew 4 hL_entriesAnew 7 166 1 6 [.ref 0, .int a1, .ref 313] (St σ) f9 code (St σ1) := by
  refine f_entry (by decide +kernel) rfl (Nat.le_of_ble_eq_true rfl) (ls := [some (.ref 0), some (.int a1), some (.ref 313), none]) rfl (fun K C hT hfr hlo hcc hss hnc hret => ?_)
  rcases (show code = 0 ∨ code = 1 by omega) with rfl | rfl
  · obtain rfl := y0 rfl
    have sp := h0 rfl
    refine f_aload_n C 1 (dq dcL_entriesAnew 0 rfl) rfl rfl rfl ?_
    refine f_iconst C 2 (dq dcL_entriesAnew 1 rfl) rfl ?_
    refine f_aload_n C 3 (dq dcL_entriesAnew 2 rfl) rfl rfl rfl ?_
    refine f_iload_n C 4 (dq dcL_entriesAnew 3 rfl) rfl rfl rfl ?_
    refine f_callV C 7 sp okX11_entriesAnew cvL_115 (by rw [hfr]; exact (Nat.le_of_ble_eq_true rfl)) (by rw [hlo]; exact (Nat.le_of_ble_eq_true rfl)) (dq dcL_entriesAnew 4 rfl) rfl (Nat.le_of_ble_eq_true rfl) rfl rfl rfl rfl rfl (Nat.le_of_ble_eq_true rfl) (by rw [hcc]; exact (Nat.le_of_ble_eq_true rfl)) (by rw [hss]; exact (Nat.le_of_ble_eq_true rfl)) ?_
    refine f_i2lz C 8 (dq dcL_entriesAnew 5 rfl) rfl ?_
    refine f_lastore9 C 9 (dq dcL_entriesAnew 6 rfl) rfl (Nat.le_of_ble_eq_true rfl) rfl SH9 ?_
    refine f_goto (C.out _) 15 (dq dcL_entriesAnew 7 rfl) rfl ?_
    refine f_iconst (C.out _) 16 (dq dcL_entriesAnew 11 rfl) rfl ?_
    exact hret _ rfl _ _ _ _ (dq dcL_entriesAnew 12 rfl) (Nat.le_of_ble_eq_true rfl) (Nat.le_of_ble_eq_true rfl)
  · obtain rfl := y1 (by decide)
    have sp : x_Sp MX11_entriesAnew 1 6 (.ref 0 :: [.int a1]) (St σ) (.inr nIOB) (St σ1) := h1 (by decide)
    refine f_aload_n C 1 (dq dcL_entriesAnew 0 rfl) rfl rfl rfl ?_
    refine f_iconst C 2 (dq dcL_entriesAnew 1 rfl) rfl ?_
    refine f_aload_n C 3 (dq dcL_entriesAnew 2 rfl) rfl rfl rfl ?_
    refine f_iload_n C 4 (dq dcL_entriesAnew 3 rfl) rfl rfl rfl ?_
    refine f_callX C (i := 3) (hp := 12) (nx := 13) [] ⟨0, 9, 12, 44⟩ [] (hT.trans rfl) (fun y hy => by simp at hy) (by decide) (by decide) (C.2.2.2.2.1 _ clL_44) (va_Nw.use rfl (C.2.2.2.2.2.1.2.1 _ cast_nIOB)) rfl sp okX11_entriesAnew cvL_115 (by rw [hfr]; exact (Nat.le_of_ble_eq_true rfl)) (by rw [hlo]; exact (Nat.le_of_ble_eq_true rfl)) (dq dcL_entriesAnew 4 rfl) (Or.inl ⟨3, rfl, (dq dcL_entriesAnew 8 rfl), rfl⟩) (Nat.le_of_ble_eq_true rfl) rfl (Nat.le_of_ble_eq_true rfl) rfl rfl rfl rfl rfl (Nat.le_of_ble_eq_true rfl) (by rw [hcc]; exact (Nat.le_of_ble_eq_true rfl)) (by rw [hss]; exact (Nat.le_of_ble_eq_true rfl)) ?_
    refine f_iconst C 14 (dq dcL_entriesAnew 9 rfl) rfl ?_
    exact hret K (K9_self K) _ _ _ _ (dq dcL_entriesAnew 10 rfl) (Nat.le_of_ble_eq_true rfl) (Nat.le_of_ble_eq_true rfl)
def kL_chunk : List (Nat × Instr × Nat) := [(0, .aload_n 3, 1), (1, .iconst 0, 1), (2, .aload_n 0, 1), (3, .iload_n 1, 1), (4, .iload_n 2, 1), (5, .invokevirtual 118, 3), (8, .i2l, 1), (9, .lastore, 1), (10, .goto 11, 3), (13, .astore 4, 2), (15, .iconst 1, 1), (16, .ireturn, 1), (17, .astore 4, 2), (19, .iconst 2, 1), (20, .ireturn, 1), (21, .iconst 0, 1), (22, .ireturn, 1)]
theorem dcL_chunk : kL_chunk.all (fun q => decide (decode cL_chunk q.1 = .ok q.2)) = true := by decide +kernel
theorem sw_chunk {σ σ1 : xSig} {code z : Int} {f9 : Nat → Nat} {a1 a2 : Int32} (hc : 0 ≤ code ∧ code ≤ 2) (h0 : code = 0 → x_Sp MX11_chunk 0 0 (.ref 0 :: [.int a1, .int a2]) (St σ) (iv z) (St σ1)) (h1 : code ≠ 0 → x_Sp MX11_chunk 1 6 (.ref 0 :: [.int a1, .int a2]) (St σ) (.inr ([nIOB, nIAE].getD (code.toNat - 1) "")) (St σ1)) (y0 : code = 0 → f9 = fun _ => o9 (ll (zI z))) (y1 : code ≠ 0 → f9 = fun w => w) : x_SpH yL_chunk cL_chunk 5 hL_chunk 7 162 1 6 [.ref 0, .int a1, .int a2, .ref 313] (St σ) f9 code (St σ1) := by
  refine f_entry (by decide +kernel) rfl (Nat.le_of_ble_eq_true rfl) (ls := [some (.ref 0), some (.int a1), some (.int a2), some (.ref 313), none]) rfl (fun K C hT hfr hlo hcc hss hnc hret => ?_)
  rcases (show code = 0 ∨ code = 1 ∨ code = 2 by omega) with rfl | rfl | rfl
  · obtain rfl := y0 rfl
    have sp := h0 rfl
    refine f_aload_n C 1 (dq dcL_chunk 0 rfl) rfl rfl rfl ?_
    refine f_iconst C 2 (dq dcL_chunk 1 rfl) rfl ?_
    refine f_aload_n C 3 (dq dcL_chunk 2 rfl) rfl rfl rfl ?_
    refine f_iload_n C 4 (dq dcL_chunk 3 rfl) rfl rfl rfl ?_
    refine f_iload_n C 5 (dq dcL_chunk 4 rfl) rfl rfl rfl ?_
    refine f_callV C 8 sp okX11_chunk cvL_118 (by rw [hfr]; exact (Nat.le_of_ble_eq_true rfl)) (by rw [hlo]; exact (Nat.le_of_ble_eq_true rfl)) (dq dcL_chunk 5 rfl) rfl (Nat.le_of_ble_eq_true rfl) rfl rfl rfl rfl rfl (Nat.le_of_ble_eq_true rfl) (by rw [hcc]; exact (Nat.le_of_ble_eq_true rfl)) (by rw [hss]; exact (Nat.le_of_ble_eq_true rfl)) ?_
    refine f_i2lz C 9 (dq dcL_chunk 6 rfl) rfl ?_
    refine f_lastore9 C 10 (dq dcL_chunk 7 rfl) rfl (Nat.le_of_ble_eq_true rfl) rfl SH9 ?_
    refine f_goto (C.out _) 21 (dq dcL_chunk 8 rfl) rfl ?_
    refine f_iconst (C.out _) 22 (dq dcL_chunk 15 rfl) rfl ?_
    exact hret _ rfl _ _ _ _ (dq dcL_chunk 16 rfl) (Nat.le_of_ble_eq_true rfl) (Nat.le_of_ble_eq_true rfl)
  · obtain rfl := y1 (by decide)
    have sp : x_Sp MX11_chunk 1 6 (.ref 0 :: [.int a1, .int a2]) (St σ) (.inr nIOB) (St σ1) := h1 (by decide)
    refine f_aload_n C 1 (dq dcL_chunk 0 rfl) rfl rfl rfl ?_
    refine f_iconst C 2 (dq dcL_chunk 1 rfl) rfl ?_
    refine f_aload_n C 3 (dq dcL_chunk 2 rfl) rfl rfl rfl ?_
    refine f_iload_n C 4 (dq dcL_chunk 3 rfl) rfl rfl rfl ?_
    refine f_iload_n C 5 (dq dcL_chunk 4 rfl) rfl rfl rfl ?_
    refine f_callX C (i := 4) (hp := 13) (nx := 15) [] ⟨0, 10, 13, 44⟩ [⟨0, 10, 17, 19⟩] (hT.trans rfl) (fun y hy => by simp at hy) (by decide) (by decide) (C.2.2.2.2.1 _ clL_44) (va_Nw.use rfl (C.2.2.2.2.2.1.2.1 _ cast_nIOB)) rfl sp okX11_chunk cvL_118 (by rw [hfr]; exact (Nat.le_of_ble_eq_true rfl)) (by rw [hlo]; exact (Nat.le_of_ble_eq_true rfl)) (dq dcL_chunk 5 rfl) (Or.inr ⟨(dq dcL_chunk 9 rfl), rfl⟩) (Nat.le_of_ble_eq_true rfl) rfl (Nat.le_of_ble_eq_true rfl) rfl rfl rfl rfl rfl (Nat.le_of_ble_eq_true rfl) (by rw [hcc]; exact (Nat.le_of_ble_eq_true rfl)) (by rw [hss]; exact (Nat.le_of_ble_eq_true rfl)) ?_
    refine f_iconst C 16 (dq dcL_chunk 10 rfl) rfl ?_
    exact hret K (K9_self K) _ _ _ _ (dq dcL_chunk 11 rfl) (Nat.le_of_ble_eq_true rfl) (Nat.le_of_ble_eq_true rfl)
  · obtain rfl := y1 (by decide)
    have sp : x_Sp MX11_chunk 1 6 (.ref 0 :: [.int a1, .int a2]) (St σ) (.inr nIAE) (St σ1) := h1 (by decide)
    refine f_aload_n C 1 (dq dcL_chunk 0 rfl) rfl rfl rfl ?_
    refine f_iconst C 2 (dq dcL_chunk 1 rfl) rfl ?_
    refine f_aload_n C 3 (dq dcL_chunk 2 rfl) rfl rfl rfl ?_
    refine f_iload_n C 4 (dq dcL_chunk 3 rfl) rfl rfl rfl ?_
    refine f_iload_n C 5 (dq dcL_chunk 4 rfl) rfl rfl rfl ?_
    refine f_callX C (i := 4) (hp := 17) (nx := 19) [⟨0, 10, 13, 44⟩] ⟨0, 10, 17, 19⟩ [] (hT.trans rfl) (fun y hy => by rw [List.mem_singleton.mp hy]; exact Or.inr ⟨by decide, nIOB, C.2.2.2.2.1 _ clL_44, hnc (nIAE, nIOB) (by simp [ncs])⟩) (by decide) (by decide) (C.2.2.2.2.1 _ clL_19) (va_Nw.use rfl (C.2.2.2.2.2.1.2.1 _ cast_nIAE)) rfl sp okX11_chunk cvL_118 (by rw [hfr]; exact (Nat.le_of_ble_eq_true rfl)) (by rw [hlo]; exact (Nat.le_of_ble_eq_true rfl)) (dq dcL_chunk 5 rfl) (Or.inr ⟨(dq dcL_chunk 12 rfl), rfl⟩) (Nat.le_of_ble_eq_true rfl) rfl (Nat.le_of_ble_eq_true rfl) rfl rfl rfl rfl rfl (Nat.le_of_ble_eq_true rfl) (by rw [hcc]; exact (Nat.le_of_ble_eq_true rfl)) (by rw [hss]; exact (Nat.le_of_ble_eq_true rfl)) ?_
    refine f_iconst C 20 (dq dcL_chunk 13 rfl) rfl ?_
    exact hret K (K9_self K) _ _ _ _ (dq dcL_chunk 14 rfl) (Nat.le_of_ble_eq_true rfl) (Nat.le_of_ble_eq_true rfl)
def kL_shard : List (Nat × Instr × Nat) := [(0, .aload_n 3, 1), (1, .iconst 0, 1), (2, .aload_n 0, 1), (3, .iload_n 1, 1), (4, .iload_n 2, 1), (5, .invokevirtual 121, 3), (8, .i2l, 1), (9, .lastore, 1), (10, .goto 7, 3), (13, .astore 4, 2), (15, .iconst 1, 1), (16, .ireturn, 1), (17, .iconst 0, 1), (18, .ireturn, 1)]
theorem dcL_shard : kL_shard.all (fun q => decide (decode cL_shard q.1 = .ok q.2)) = true := by decide +kernel
theorem sw_shard {σ σ1 : xSig} {code z : Int} {f9 : Nat → Nat} {a1 a2 : Int32} (hc : 0 ≤ code ∧ code ≤ 1) (h0 : code = 0 → x_Sp MX11_shard 0 0 (.ref 0 :: [.int a1, .int a2]) (St σ) (iv z) (St σ1)) (h1 : code ≠ 0 → x_Sp MX11_shard 1 6 (.ref 0 :: [.int a1, .int a2]) (St σ) (.inr ([nIAE].getD (code.toNat - 1) "")) (St σ1)) (y0 : code = 0 → f9 = fun _ => o9 (ll (zI z))) (y1 : code ≠ 0 → f9 = fun w => w) : x_SpH yL_shard cL_shard 5 hL_shard 8 183 1 6 [.ref 0, .int a1, .int a2, .ref 313] (St σ) f9 code (St σ1) := by
  refine f_entry (by decide +kernel) rfl (Nat.le_of_ble_eq_true rfl) (ls := [some (.ref 0), some (.int a1), some (.int a2), some (.ref 313), none]) rfl (fun K C hT hfr hlo hcc hss hnc hret => ?_)
  rcases (show code = 0 ∨ code = 1 by omega) with rfl | rfl
  · obtain rfl := y0 rfl
    have sp := h0 rfl
    refine f_aload_n C 1 (dq dcL_shard 0 rfl) rfl rfl rfl ?_
    refine f_iconst C 2 (dq dcL_shard 1 rfl) rfl ?_
    refine f_aload_n C 3 (dq dcL_shard 2 rfl) rfl rfl rfl ?_
    refine f_iload_n C 4 (dq dcL_shard 3 rfl) rfl rfl rfl ?_
    refine f_iload_n C 5 (dq dcL_shard 4 rfl) rfl rfl rfl ?_
    refine f_callV C 8 sp okX11_shard cvL_121 (by rw [hfr]; exact (Nat.le_of_ble_eq_true rfl)) (by rw [hlo]; exact (Nat.le_of_ble_eq_true rfl)) (dq dcL_shard 5 rfl) rfl (Nat.le_of_ble_eq_true rfl) rfl rfl rfl rfl rfl (Nat.le_of_ble_eq_true rfl) (by rw [hcc]; exact (Nat.le_of_ble_eq_true rfl)) (by rw [hss]; exact (Nat.le_of_ble_eq_true rfl)) ?_
    refine f_i2lz C 9 (dq dcL_shard 6 rfl) rfl ?_
    refine f_lastore9 C 10 (dq dcL_shard 7 rfl) rfl (Nat.le_of_ble_eq_true rfl) rfl SH9 ?_
    refine f_goto (C.out _) 17 (dq dcL_shard 8 rfl) rfl ?_
    refine f_iconst (C.out _) 18 (dq dcL_shard 12 rfl) rfl ?_
    exact hret _ rfl _ _ _ _ (dq dcL_shard 13 rfl) (Nat.le_of_ble_eq_true rfl) (Nat.le_of_ble_eq_true rfl)
  · obtain rfl := y1 (by decide)
    have sp : x_Sp MX11_shard 1 6 (.ref 0 :: [.int a1, .int a2]) (St σ) (.inr nIAE) (St σ1) := h1 (by decide)
    refine f_aload_n C 1 (dq dcL_shard 0 rfl) rfl rfl rfl ?_
    refine f_iconst C 2 (dq dcL_shard 1 rfl) rfl ?_
    refine f_aload_n C 3 (dq dcL_shard 2 rfl) rfl rfl rfl ?_
    refine f_iload_n C 4 (dq dcL_shard 3 rfl) rfl rfl rfl ?_
    refine f_iload_n C 5 (dq dcL_shard 4 rfl) rfl rfl rfl ?_
    refine f_callX C (i := 4) (hp := 13) (nx := 15) [] ⟨0, 10, 13, 19⟩ [] (hT.trans rfl) (fun y hy => by simp at hy) (by decide) (by decide) (C.2.2.2.2.1 _ clL_19) (va_Nw.use rfl (C.2.2.2.2.2.1.2.1 _ cast_nIAE)) rfl sp okX11_shard cvL_121 (by rw [hfr]; exact (Nat.le_of_ble_eq_true rfl)) (by rw [hlo]; exact (Nat.le_of_ble_eq_true rfl)) (dq dcL_shard 5 rfl) (Or.inr ⟨(dq dcL_shard 9 rfl), rfl⟩) (Nat.le_of_ble_eq_true rfl) rfl (Nat.le_of_ble_eq_true rfl) rfl rfl rfl rfl rfl (Nat.le_of_ble_eq_true rfl) (by rw [hcc]; exact (Nat.le_of_ble_eq_true rfl)) (by rw [hss]; exact (Nat.le_of_ble_eq_true rfl)) ?_
    refine f_iconst C 16 (dq dcL_shard 10 rfl) rfl ?_
    exact hret K (K9_self K) _ _ _ _ (dq dcL_shard 11 rfl) (Nat.le_of_ble_eq_true rfl) (Nat.le_of_ble_eq_true rfl)
def kL_router : List (Nat × Instr × Nat) := [(0, .aload_n 3, 1), (1, .iconst 0, 1), (2, .aload_n 0, 1), (3, .iload_n 1, 1), (4, .iload_n 2, 1), (5, .invokevirtual 124, 3), (8, .i2l, 1), (9, .lastore, 1), (10, .goto 7, 3), (13, .astore 4, 2), (15, .iconst 1, 1), (16, .ireturn, 1), (17, .iconst 0, 1), (18, .ireturn, 1)]
theorem dcL_router : kL_router.all (fun q => decide (decode cL_router q.1 = .ok q.2)) = true := by decide +kernel
theorem sw_router {σ σ1 : xSig} {code z : Int} {f9 : Nat → Nat} {a1 a2 : Int32} (hc : 0 ≤ code ∧ code ≤ 1) (h0 : code = 0 → x_Sp MX11_router 0 0 (.ref 0 :: [.int a1, .int a2]) (St σ) (iv z) (St σ1)) (h1 : code ≠ 0 → x_Sp MX11_router 1 6 (.ref 0 :: [.int a1, .int a2]) (St σ) (.inr ([nIAE].getD (code.toNat - 1) "")) (St σ1)) (y0 : code = 0 → f9 = fun _ => o9 (ll (zI z))) (y1 : code ≠ 0 → f9 = fun w => w) : x_SpH yL_router cL_router 5 hL_router 7 112 1 6 [.ref 0, .int a1, .int a2, .ref 313] (St σ) f9 code (St σ1) := by
  refine f_entry (by decide +kernel) rfl (Nat.le_of_ble_eq_true rfl) (ls := [some (.ref 0), some (.int a1), some (.int a2), some (.ref 313), none]) rfl (fun K C hT hfr hlo hcc hss hnc hret => ?_)
  rcases (show code = 0 ∨ code = 1 by omega) with rfl | rfl
  · obtain rfl := y0 rfl
    have sp := h0 rfl
    refine f_aload_n C 1 (dq dcL_router 0 rfl) rfl rfl rfl ?_
    refine f_iconst C 2 (dq dcL_router 1 rfl) rfl ?_
    refine f_aload_n C 3 (dq dcL_router 2 rfl) rfl rfl rfl ?_
    refine f_iload_n C 4 (dq dcL_router 3 rfl) rfl rfl rfl ?_
    refine f_iload_n C 5 (dq dcL_router 4 rfl) rfl rfl rfl ?_
    refine f_callV C 8 sp okX11_router cvL_124 (by rw [hfr]; exact (Nat.le_of_ble_eq_true rfl)) (by rw [hlo]; exact (Nat.le_of_ble_eq_true rfl)) (dq dcL_router 5 rfl) rfl (Nat.le_of_ble_eq_true rfl) rfl rfl rfl rfl rfl (Nat.le_of_ble_eq_true rfl) (by rw [hcc]; exact (Nat.le_of_ble_eq_true rfl)) (by rw [hss]; exact (Nat.le_of_ble_eq_true rfl)) ?_
    refine f_i2lz C 9 (dq dcL_router 6 rfl) rfl ?_
    refine f_lastore9 C 10 (dq dcL_router 7 rfl) rfl (Nat.le_of_ble_eq_true rfl) rfl SH9 ?_
    refine f_goto (C.out _) 17 (dq dcL_router 8 rfl) rfl ?_
    refine f_iconst (C.out _) 18 (dq dcL_router 12 rfl) rfl ?_
    exact hret _ rfl _ _ _ _ (dq dcL_router 13 rfl) (Nat.le_of_ble_eq_true rfl) (Nat.le_of_ble_eq_true rfl)
  · obtain rfl := y1 (by decide)
    have sp : x_Sp MX11_router 1 6 (.ref 0 :: [.int a1, .int a2]) (St σ) (.inr nIAE) (St σ1) := h1 (by decide)
    refine f_aload_n C 1 (dq dcL_router 0 rfl) rfl rfl rfl ?_
    refine f_iconst C 2 (dq dcL_router 1 rfl) rfl ?_
    refine f_aload_n C 3 (dq dcL_router 2 rfl) rfl rfl rfl ?_
    refine f_iload_n C 4 (dq dcL_router 3 rfl) rfl rfl rfl ?_
    refine f_iload_n C 5 (dq dcL_router 4 rfl) rfl rfl rfl ?_
    refine f_callX C (i := 4) (hp := 13) (nx := 15) [] ⟨0, 10, 13, 19⟩ [] (hT.trans rfl) (fun y hy => by simp at hy) (by decide) (by decide) (C.2.2.2.2.1 _ clL_19) (va_Nw.use rfl (C.2.2.2.2.2.1.2.1 _ cast_nIAE)) rfl sp okX11_router cvL_124 (by rw [hfr]; exact (Nat.le_of_ble_eq_true rfl)) (by rw [hlo]; exact (Nat.le_of_ble_eq_true rfl)) (dq dcL_router 5 rfl) (Or.inr ⟨(dq dcL_router 9 rfl), rfl⟩) (Nat.le_of_ble_eq_true rfl) rfl (Nat.le_of_ble_eq_true rfl) rfl rfl rfl rfl rfl (Nat.le_of_ble_eq_true rfl) (by rw [hcc]; exact (Nat.le_of_ble_eq_true rfl)) (by rw [hss]; exact (Nat.le_of_ble_eq_true rfl)) ?_
    refine f_iconst C 16 (dq dcL_router 10 rfl) rfl ?_
    exact hret K (K9_self K) _ _ _ _ (dq dcL_router 11 rfl) (Nat.le_of_ble_eq_true rfl) (Nat.le_of_ble_eq_true rfl)
def kL_change : List (Nat × Instr × Nat) := [(0, .aload_n 3, 1), (1, .iconst 0, 1), (2, .aload_n 0, 1), (3, .iload_n 1, 1), (4, .iload_n 2, 1), (5, .invokevirtual 127, 3), (8, .i2l, 1), (9, .lastore, 1), (10, .goto 11, 3), (13, .astore 4, 2), (15, .iconst 1, 1), (16, .ireturn, 1), (17, .astore 4, 2), (19, .iconst 2, 1), (20, .ireturn, 1), (21, .iconst 0, 1), (22, .ireturn, 1)]
theorem dcL_change : kL_change.all (fun q => decide (decode cL_change q.1 = .ok q.2)) = true := by decide +kernel
theorem sw_change {σ σ1 : xSig} {code z : Int} {f9 : Nat → Nat} {a1 a2 : Int32} (hc : 0 ≤ code ∧ code ≤ 2) (h0 : code = 0 → x_Sp MX11_change 0 0 (.ref 0 :: [.int a1, .int a2]) (St σ) (iv z) (St σ1)) (h1 : code ≠ 0 → x_Sp MX11_change 1 6 (.ref 0 :: [.int a1, .int a2]) (St σ) (.inr ([nIOB, nIAE].getD (code.toNat - 1) "")) (St σ1)) (y0 : code = 0 → f9 = fun _ => o9 (ll (zI z))) (y1 : code ≠ 0 → f9 = fun w => w) : x_SpH yL_change cL_change 5 hL_change 7 112 1 6 [.ref 0, .int a1, .int a2, .ref 313] (St σ) f9 code (St σ1) := by
  refine f_entry (by decide +kernel) rfl (Nat.le_of_ble_eq_true rfl) (ls := [some (.ref 0), some (.int a1), some (.int a2), some (.ref 313), none]) rfl (fun K C hT hfr hlo hcc hss hnc hret => ?_)
  rcases (show code = 0 ∨ code = 1 ∨ code = 2 by omega) with rfl | rfl | rfl
  · obtain rfl := y0 rfl
    have sp := h0 rfl
    refine f_aload_n C 1 (dq dcL_change 0 rfl) rfl rfl rfl ?_
    refine f_iconst C 2 (dq dcL_change 1 rfl) rfl ?_
    refine f_aload_n C 3 (dq dcL_change 2 rfl) rfl rfl rfl ?_
    refine f_iload_n C 4 (dq dcL_change 3 rfl) rfl rfl rfl ?_
    refine f_iload_n C 5 (dq dcL_change 4 rfl) rfl rfl rfl ?_
    refine f_callV C 8 sp okX11_change cvL_127 (by rw [hfr]; exact (Nat.le_of_ble_eq_true rfl)) (by rw [hlo]; exact (Nat.le_of_ble_eq_true rfl)) (dq dcL_change 5 rfl) rfl (Nat.le_of_ble_eq_true rfl) rfl rfl rfl rfl rfl (Nat.le_of_ble_eq_true rfl) (by rw [hcc]; exact (Nat.le_of_ble_eq_true rfl)) (by rw [hss]; exact (Nat.le_of_ble_eq_true rfl)) ?_
    refine f_i2lz C 9 (dq dcL_change 6 rfl) rfl ?_
    refine f_lastore9 C 10 (dq dcL_change 7 rfl) rfl (Nat.le_of_ble_eq_true rfl) rfl SH9 ?_
    refine f_goto (C.out _) 21 (dq dcL_change 8 rfl) rfl ?_
    refine f_iconst (C.out _) 22 (dq dcL_change 15 rfl) rfl ?_
    exact hret _ rfl _ _ _ _ (dq dcL_change 16 rfl) (Nat.le_of_ble_eq_true rfl) (Nat.le_of_ble_eq_true rfl)
  · obtain rfl := y1 (by decide)
    have sp : x_Sp MX11_change 1 6 (.ref 0 :: [.int a1, .int a2]) (St σ) (.inr nIOB) (St σ1) := h1 (by decide)
    refine f_aload_n C 1 (dq dcL_change 0 rfl) rfl rfl rfl ?_
    refine f_iconst C 2 (dq dcL_change 1 rfl) rfl ?_
    refine f_aload_n C 3 (dq dcL_change 2 rfl) rfl rfl rfl ?_
    refine f_iload_n C 4 (dq dcL_change 3 rfl) rfl rfl rfl ?_
    refine f_iload_n C 5 (dq dcL_change 4 rfl) rfl rfl rfl ?_
    refine f_callX C (i := 4) (hp := 13) (nx := 15) [] ⟨0, 10, 13, 44⟩ [⟨0, 10, 17, 19⟩] (hT.trans rfl) (fun y hy => by simp at hy) (by decide) (by decide) (C.2.2.2.2.1 _ clL_44) (va_Nw.use rfl (C.2.2.2.2.2.1.2.1 _ cast_nIOB)) rfl sp okX11_change cvL_127 (by rw [hfr]; exact (Nat.le_of_ble_eq_true rfl)) (by rw [hlo]; exact (Nat.le_of_ble_eq_true rfl)) (dq dcL_change 5 rfl) (Or.inr ⟨(dq dcL_change 9 rfl), rfl⟩) (Nat.le_of_ble_eq_true rfl) rfl (Nat.le_of_ble_eq_true rfl) rfl rfl rfl rfl rfl (Nat.le_of_ble_eq_true rfl) (by rw [hcc]; exact (Nat.le_of_ble_eq_true rfl)) (by rw [hss]; exact (Nat.le_of_ble_eq_true rfl)) ?_
    refine f_iconst C 16 (dq dcL_change 10 rfl) rfl ?_
    exact hret K (K9_self K) _ _ _ _ (dq dcL_change 11 rfl) (Nat.le_of_ble_eq_true rfl) (Nat.le_of_ble_eq_true rfl)
  · obtain rfl := y1 (by decide)
    have sp : x_Sp MX11_change 1 6 (.ref 0 :: [.int a1, .int a2]) (St σ) (.inr nIAE) (St σ1) := h1 (by decide)
    refine f_aload_n C 1 (dq dcL_change 0 rfl) rfl rfl rfl ?_
    refine f_iconst C 2 (dq dcL_change 1 rfl) rfl ?_
    refine f_aload_n C 3 (dq dcL_change 2 rfl) rfl rfl rfl ?_
    refine f_iload_n C 4 (dq dcL_change 3 rfl) rfl rfl rfl ?_
    refine f_iload_n C 5 (dq dcL_change 4 rfl) rfl rfl rfl ?_
    refine f_callX C (i := 4) (hp := 17) (nx := 19) [⟨0, 10, 13, 44⟩] ⟨0, 10, 17, 19⟩ [] (hT.trans rfl) (fun y hy => by rw [List.mem_singleton.mp hy]; exact Or.inr ⟨by decide, nIOB, C.2.2.2.2.1 _ clL_44, hnc (nIAE, nIOB) (by simp [ncs])⟩) (by decide) (by decide) (C.2.2.2.2.1 _ clL_19) (va_Nw.use rfl (C.2.2.2.2.2.1.2.1 _ cast_nIAE)) rfl sp okX11_change cvL_127 (by rw [hfr]; exact (Nat.le_of_ble_eq_true rfl)) (by rw [hlo]; exact (Nat.le_of_ble_eq_true rfl)) (dq dcL_change 5 rfl) (Or.inr ⟨(dq dcL_change 12 rfl), rfl⟩) (Nat.le_of_ble_eq_true rfl) rfl (Nat.le_of_ble_eq_true rfl) rfl rfl rfl rfl rfl (Nat.le_of_ble_eq_true rfl) (by rw [hcc]; exact (Nat.le_of_ble_eq_true rfl)) (by rw [hss]; exact (Nat.le_of_ble_eq_true rfl)) ?_
    refine f_iconst C 20 (dq dcL_change 13 rfl) rfl ?_
    exact hret K (K9_self K) _ _ _ _ (dq dcL_change 14 rfl) (Nat.le_of_ble_eq_true rfl) (Nat.le_of_ble_eq_true rfl)
