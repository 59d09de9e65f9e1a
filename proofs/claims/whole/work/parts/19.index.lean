/-! ===== Indexes ===== -/
theorem sp_ordAt {σ : xSig} {a cap b cap' : Nat} {t u : List Int} (hV : VH σ a cap t) (hW : VH σ b cap' u) {i j : Int} (hi : 0 ≤ i ∧ i < t.length ∧ Cv (sv t i)) (hj : 0 ≤ j ∧ j < u.length ∧ Cv (sv u j)) : Rd MX10_order [.ref a, .int (ii i), .ref b, .int (ii j)] σ (iv (lexc (sv t i) (sv u j))) := by
  have ho := sp_order hV hW (t.take i.toNat) (sv t i) ((t.drop i.toNat).drop (vsc (t.drop i.toNat) 0)) (u.take j.toNat) (sv u j) ((u.drop j.toNat).drop (vsc (u.drop j.toNat) 0)) (sv_split t i) (sv_split u j) hi.2.2 hj.2.2
  rw [show ((t.take i.toNat).length : Int) = i by rw [List.length_take]; omega, show ((u.take j.toNat).length : Int) = j by rw [List.length_take]; omega] at ho
  exact ho
theorem VAll.pl {σ σ' : xSig} {T : Nat → List Int} {p : Nat} (h : VAll σ T) (hp : isPl p) (hF : Fr p σ σ') : VAll σ' T := fun a ha => (h a ha).pl ha hp hF
def IXR (σ : xSig) : Prop := (∀ i : Int, -1 ≤ σ 249 i ∧ σ 249 i < 72) ∧ n01 σ 250 ∧ (0 ≤ σ 248 6 ∧ σ 248 6 ≤ 512) ∧ (∀ i : Int, 0 ≤ σ 251 i ∧ σ 251 i < 100000000) ∧ (∀ i : Int, -1 ≤ σ 252 i ∧ σ 252 i < 3) ∧ (∀ i : Int, 0 ≤ σ 253 i ∧ σ 253 i ≤ 100)
def pxs (σ : xSig) (i : Int) : Int := if 0 ≤ i ∧ i < 3 then σ 249 i else -1
def ihas (σ : xSig) (i : Int) : Bool := decide (0 ≤ i ∧ i < 3 ∧ σ 249 i ≠ -1)
theorem ihas_in {σ : xSig} {i : Int} (h : ihas σ i = true) : 0 ≤ i ∧ i < 3 ∧ σ 249 i ≠ -1 := of_decide_eq_true h
theorem pxs_has {σ : xSig} (hX : IXR σ) {i : Int} (h : ihas σ i = true) : 0 ≤ pxs σ i ∧ pxs σ i < 72 := by
  have h1 := ihas_in h
  have h2 := hX.1 i
  unfold pxs
  rw [if_pos ⟨h1.1, h1.2.1⟩]
  omega
theorem sp_ixHas {σ : xSig} (hX : IXR σ) {i : Int} (hi : xr i) : Rd MX4_has [.ref 248, .int (ii i)] σ (zv (ihas σ i)) := by
  have hp := hX.1 i
  unfold xr at hi
  have no : ihas σ i = false → x_E MX4_has 0 0 23 [some (.ref 248), some (.int (ii i))] [] (St σ) 0 0 (zv (ihas σ i)) (St σ) := by
    intro e
    rw [e]
    refine e_iconst 13 24 rfl rfl ?_
    exact e_zreturn (x := 0) 14 rfl rfl (by omega) (Nat.le_of_ble_eq_true rfl) (Nat.le_of_ble_eq_true rfl)
  refine e_entry okX4_has (Nat.le_of_ble_eq_true rfl) (ls := [some _, some _]) rfl ?_
  refine e_iload_n 0 1 rfl rfl rfl rfl ?_
  refine e_if_lt 1 23 4 rfl rfl rfl (by unfold xr at *; omega) (fun h => ?_) (fun h => ?_)
  · skip
    exact no (decide_eq_false (by omega))
  · skip
    refine e_iload_n 2 5 rfl rfl rfl rfl ?_
    refine e_iconst 3 6 rfl rfl ?_
    refine e_icmp_ge 4 23 9 rfl rfl rfl (by unfold xr at *; omega) (by unfold xr at *; omega) (fun h3 => ?_) (fun h3 => ?_)
    · skip
      exact no (decide_eq_false (by omega))
    · skip
      refine e_aload_n 5 10 rfl rfl rfl rfl ?_
      refine g_getR 6 13 ckX4 flX4_9 rfl rfl (Nat.le_of_ble_eq_true rfl) rfl rfl ?_
      refine e_iload_n 7 14 rfl rfl rfl rfl ?_
      refine g_iaload 8 15 rfl rfl (Nat.le_of_ble_eq_true rfl) rfl (by omega) (by omega) (by omega) rfl ?_
      refine e_iconst 9 16 rfl rfl ?_
      refine e_icmp_eq 10 23 19 rfl rfl rfl (by unfold xr at *; omega) (by unfold xr at *; omega) (fun h4 => ?_) (fun h4 => ?_)
      · skip
        exact no (decide_eq_false (by omega))
      · skip
        rw [show ihas σ i = true from decide_eq_true (by omega)]
        refine e_iconst 11 20 rfl rfl ?_
        refine e_goto 12 24 rfl rfl ?_
        exact e_zreturn (x := 1) 14 rfl rfl (by omega) (Nat.le_of_ble_eq_true rfl) (Nat.le_of_ble_eq_true rfl)
theorem sp_pathOf {σ : xSig} {i : Int} (hi : xr i) : Rd MX4_pathOf [.ref 248, .int (ii i)] σ (iv (pxs σ i)) := by
  unfold xr at hi
  refine e_entry okX4_pathOf (Nat.le_of_ble_eq_true rfl) (ls := [some _, some _]) rfl ?_
  refine e_iload_n 0 1 rfl rfl rfl rfl ?_
  refine e_if_lt 1 18 4 rfl rfl rfl (by unfold xr at *; omega) (fun h => ?_) (fun h => ?_)
  · skip
    rw [show pxs σ i = -1 by unfold pxs; rw [if_neg (by omega)]]
    refine e_iconst 10 19 rfl rfl ?_
    exact e_ireturn 11 rfl rfl (Nat.le_of_ble_eq_true rfl) (Nat.le_of_ble_eq_true rfl)
  · skip
    refine e_iload_n 2 5 rfl rfl rfl rfl ?_
    refine e_iconst 3 6 rfl rfl ?_
    refine e_icmp_ge 4 18 9 rfl rfl rfl (by unfold xr at *; omega) (by unfold xr at *; omega) (fun h3 => ?_) (fun h3 => ?_)
    · skip
      rw [show pxs σ i = -1 by unfold pxs; rw [if_neg (by omega)]]
      refine e_iconst 10 19 rfl rfl ?_
      exact e_ireturn 11 rfl rfl (Nat.le_of_ble_eq_true rfl) (Nat.le_of_ble_eq_true rfl)
    · skip
      rw [show pxs σ i = σ 249 i by unfold pxs; rw [if_pos (by omega)]]
      refine e_aload_n 5 10 rfl rfl rfl rfl ?_
      refine g_getR 6 13 ckX4 flX4_9 rfl rfl (Nat.le_of_ble_eq_true rfl) rfl rfl ?_
      refine e_iload_n 7 14 rfl rfl rfl rfl ?_
      refine g_iaload 8 15 rfl rfl (Nat.le_of_ble_eq_true rfl) rfl (by omega) (by omega) (by omega) rfl ?_
      refine e_goto 9 19 rfl rfl ?_
      exact e_ireturn 11 rfl rfl (Nat.le_of_ble_eq_true rfl) (Nat.le_of_ble_eq_true rfl)
/-- the first place from i on, n places, where a row has a number; -1 -/
def fstIs (f : Int → Int) (x : Int) : Nat → Nat → Int
  | _, 0 => -1
  | i, n + 1 => if f i = x then (i : Int) else fstIs f x (i + 1) n
theorem fstIs_bnd {f : Int → Int} {x : Int} : ∀ (n i : Nat), (fstIs f x i n = -1 ∧ ∀ j : Nat, i ≤ j → j < i + n → f j ≠ x) ∨ (i ≤ fstIs f x i n ∧ fstIs f x i n < i + n ∧ f (fstIs f x i n) = x) := by
  intro n
  induction n with
  | zero => intro i; exact Or.inl ⟨rfl, fun j _ _ => by omega⟩
  | succ n ih =>
    intro i
    simp only [fstIs]
    by_cases h : f i = x
    · rw [if_pos h]
      exact Or.inr ⟨Int.le_refl _, by omega, h⟩
    · rw [if_neg h]
      rcases ih (i + 1) with q | q
      · refine Or.inl ⟨q.1, fun j h1 h2 => ?_⟩
        by_cases e : j = i
        · rw [e]; exact h
        · exact q.2 j (by omega) (by omega)
      · exact Or.inr ⟨by omega, by omega, q.2.2⟩
theorem sp_hasPath {σ : xSig} (hX : IXR σ) {x : Int} (hx : xr x) : Rd MX4_hasPath [.ref 248, .int (ii x)] σ (zv (decide (fstIs (σ 249) x 0 3 ≠ -1))) := by
  have loop : ∀ (n i : Nat), i + n = 3 → x_E MX4_hasPath 0 0 2 [some (.ref 248), some (.int (ii x)), some (.int (ii i))] [] (St σ) 0 0 (zv (decide (fstIs (σ 249) x i n ≠ -1))) (St σ) := by
    intro n
    induction n with
    | zero =>
      intro i hi
      rw [show decide (fstIs (σ 249) x i 0 ≠ -1) = false from rfl]
      refine e_iload_n 2 3 rfl rfl rfl rfl ?_
      refine e_aload_n 3 4 rfl rfl rfl rfl ?_
      refine g_getR 4 7 ckX4 flX4_9 rfl rfl (Nat.le_of_ble_eq_true rfl) rfl rfl ?_
      refine g_alen 5 8 rfl rfl (Nat.le_of_ble_eq_true rfl) rfl (Nat.le_of_ble_eq_true rfl) ?_
      refine e_icmp_ge 6 29 11 rfl rfl rfl (by unfold xr at *; omega) (by unfold xr at *; omega) (fun _ => ?_) (fun h9 => absurd h9 (by omega))
      refine e_iconst 17 30 rfl rfl ?_
      exact e_zreturn (x := 0) 18 rfl rfl (by omega) (Nat.le_of_ble_eq_true rfl) (Nat.le_of_ble_eq_true rfl)
    | succ n ih =>
      intro i hi
      have hp := hX.1 i
      have hn := ih (i + 1) (by omega)
      rw [show (((i + 1 : Nat)) : Int) = (i : Int) + 1 by omega] at hn
      refine e_iload_n 2 3 rfl rfl rfl rfl ?_
      refine e_aload_n 3 4 rfl rfl rfl rfl ?_
      refine g_getR 4 7 ckX4 flX4_9 rfl rfl (Nat.le_of_ble_eq_true rfl) rfl rfl ?_
      refine g_alen 5 8 rfl rfl (Nat.le_of_ble_eq_true rfl) rfl (Nat.le_of_ble_eq_true rfl) ?_
      refine e_icmp_ge 6 29 11 rfl rfl rfl (by unfold xr at *; omega) (by unfold xr at *; omega) (fun h9 => absurd h9 (by omega)) (fun _ => ?_)
      refine e_aload_n 7 12 rfl rfl rfl rfl ?_
      refine g_getR 8 15 ckX4 flX4_9 rfl rfl (Nat.le_of_ble_eq_true rfl) rfl rfl ?_
      refine e_iload_n 9 16 rfl rfl rfl rfl ?_
      refine g_iaload 10 17 rfl rfl (Nat.le_of_ble_eq_true rfl) rfl (by omega) (by omega) (by omega) rfl ?_
      refine e_iload_n 11 18 rfl rfl rfl rfl ?_
      refine e_icmp_ne 12 23 21 rfl rfl rfl (by unfold xr at *; omega) (by unfold xr at *; omega) (fun h => ?_) (fun h => ?_)
      · skip
        rw [show decide (fstIs (σ 249) x i (n + 1) ≠ -1) = decide (fstIs (σ 249) x (i + 1) n ≠ -1) by simp only [fstIs, if_neg h]]
        refine e_iinc 15 26 (ls' := [some _, some _, some _]) rfl rfl (Nat.le_of_ble_eq_true rfl) rfl rfl ?_
        refine e_goto 16 2 rfl rfl ?_
        exact hn
      · skip
        rw [show decide (fstIs (σ 249) x i (n + 1) ≠ -1) = true from decide_eq_true (by simp only [fstIs]; rw [if_pos h]; omega)]
        refine e_iconst 13 22 rfl rfl ?_
        exact e_zreturn (x := 1) 14 rfl rfl (by omega) (Nat.le_of_ble_eq_true rfl) (Nat.le_of_ble_eq_true rfl)
  refine e_entry okX4_hasPath (Nat.le_of_ble_eq_true rfl) (ls := [some _, some _, none]) rfl ?_
  refine e_iconst 0 1 rfl rfl ?_
  refine e_istore_n 1 2 (ls' := [some _, some _, some _]) rfl rfl rfl (Nat.le_of_ble_eq_true rfl) rfl ?_
  exact loop 3 0 rfl
theorem sp_lowestFree {σ : xSig} (hX : IXR σ) : Rd MX4_lowestFree [.ref 248] σ (iv (fstIs (σ 249) (-1) 0 3)) := by
  have loop : ∀ (n i : Nat), i + n = 3 → x_E MX4_lowestFree 0 0 2 [some (.ref 248), some (.int (ii i))] [] (St σ) 0 0 (iv (fstIs (σ 249) (-1) i n)) (St σ) := by
    intro n
    induction n with
    | zero =>
      intro i hi
      refine e_iload_n 2 3 rfl rfl rfl rfl ?_
      refine e_aload_n 3 4 rfl rfl rfl rfl ?_
      refine g_getR 4 7 ckX4 flX4_9 rfl rfl (Nat.le_of_ble_eq_true rfl) rfl rfl ?_
      refine g_alen 5 8 rfl rfl (Nat.le_of_ble_eq_true rfl) rfl (Nat.le_of_ble_eq_true rfl) ?_
      refine e_icmp_ge 6 29 11 rfl rfl rfl (by unfold xr at *; omega) (by unfold xr at *; omega) (fun _ => ?_) (fun h9 => absurd h9 (by omega))
      refine e_iconst 17 30 rfl rfl ?_
      exact e_ireturn 18 rfl rfl (Nat.le_of_ble_eq_true rfl) (Nat.le_of_ble_eq_true rfl)
    | succ n ih =>
      intro i hi
      have hp := hX.1 i
      have hn := ih (i + 1) (by omega)
      rw [show (((i + 1 : Nat)) : Int) = (i : Int) + 1 by omega] at hn
      simp only [fstIs]
      refine e_iload_n 2 3 rfl rfl rfl rfl ?_
      refine e_aload_n 3 4 rfl rfl rfl rfl ?_
      refine g_getR 4 7 ckX4 flX4_9 rfl rfl (Nat.le_of_ble_eq_true rfl) rfl rfl ?_
      refine g_alen 5 8 rfl rfl (Nat.le_of_ble_eq_true rfl) rfl (Nat.le_of_ble_eq_true rfl) ?_
      refine e_icmp_ge 6 29 11 rfl rfl rfl (by unfold xr at *; omega) (by unfold xr at *; omega) (fun h9 => absurd h9 (by omega)) (fun _ => ?_)
      refine e_aload_n 7 12 rfl rfl rfl rfl ?_
      refine g_getR 8 15 ckX4 flX4_9 rfl rfl (Nat.le_of_ble_eq_true rfl) rfl rfl ?_
      refine e_iload_n 9 16 rfl rfl rfl rfl ?_
      refine g_iaload 10 17 rfl rfl (Nat.le_of_ble_eq_true rfl) rfl (by omega) (by omega) (by omega) rfl ?_
      refine e_iconst 11 18 rfl rfl ?_
      refine e_icmp_ne 12 23 21 rfl rfl rfl (by unfold xr at *; omega) (by unfold xr at *; omega) (fun h => ?_) (fun h => ?_)
      · skip
        rw [if_neg h]
        refine e_iinc 15 26 (ls' := [some _, some _]) rfl rfl (Nat.le_of_ble_eq_true rfl) rfl rfl ?_
        refine e_goto 16 2 rfl rfl ?_
        exact hn
      · skip
        rw [if_pos h]
        refine e_iload_n 13 22 rfl rfl rfl rfl ?_
        exact e_ireturn 14 rfl rfl (Nat.le_of_ble_eq_true rfl) (Nat.le_of_ble_eq_true rfl)
  refine e_entry okX4_lowestFree (Nat.le_of_ble_eq_true rfl) (ls := [some _, none]) rfl ?_
  refine e_iconst 0 1 rfl rfl ?_
  refine e_istore_n 1 2 (ls' := [some _, some _]) rfl rfl rfl (Nat.le_of_ble_eq_true rfl) rfl ?_
  exact loop 3 0 rfl
theorem sp_ixMake {σ : xSig} {i x y : Int} (hi : 0 ≤ i ∧ i < 3) (hy : y = 0 ∨ y = 1) : x_Sp MX4_make 0 0 [.ref 248, .int (ii i), .int (ii x), .int (ii y)] (St σ) vv (St (xu (xu σ 249 i x) 250 i y)) := by
  refine e_entry okX4_make (Nat.le_of_ble_eq_true rfl) (ls := [some _, some _, some _, some _]) rfl ?_
  refine e_iload_n 0 1 rfl rfl rfl rfl ?_
  refine e_if_lt 1 23 4 rfl rfl rfl (by unfold xr at *; omega) (fun h9 => absurd h9 (by omega)) (fun _ => ?_)
  refine e_iload_n 2 5 rfl rfl rfl rfl ?_
  refine e_iconst 3 6 rfl rfl ?_
  refine e_icmp_ge 4 23 9 rfl rfl rfl (by unfold xr at *; omega) (by unfold xr at *; omega) (fun h9 => absurd h9 (by omega)) (fun _ => ?_)
  refine e_aload_n 5 10 rfl rfl rfl rfl ?_
  refine g_getR 6 13 ckX4 flX4_9 rfl rfl (Nat.le_of_ble_eq_true rfl) rfl rfl ?_
  refine e_iload_n 7 14 rfl rfl rfl rfl ?_
  refine e_iload_n 8 15 rfl rfl rfl rfl ?_
  refine g_iastore 9 16 rfl rfl (Nat.le_of_ble_eq_true rfl) rfl (by omega) (by omega) (by omega) ?_
  refine e_aload_n 10 17 rfl rfl rfl rfl ?_
  refine g_getR 11 20 ckX4 flX4_15 rfl rfl (Nat.le_of_ble_eq_true rfl) rfl rfl ?_
  refine e_iload_n 12 21 rfl rfl rfl rfl ?_
  refine e_iload_n 13 22 rfl rfl rfl rfl ?_
  refine g_bastore 14 23 rfl rfl (by omega) (Nat.le_of_ble_eq_true rfl) rfl (by omega) (by omega) (by omega) ?_
  exact e_return 15 rfl rfl (Nat.le_of_ble_eq_true rfl) (Nat.le_of_ble_eq_true rfl)
/-- plans -/
def iop (σ : xSig) (p : Int) : Int := if 0 ≤ p ∧ p < 512 then σ 252 p else -1
def lop (σ : xSig) (p : Int) : Int := if 0 ≤ p ∧ p < 512 then σ 253 p else 0
theorem sp_indexOfPlan {σ : xSig} {p : Int} (hp : xr p) : Rd MX4_indexOfPlan [.ref 248, .int (ii p)] σ (iv (iop σ p)) := by
  unfold xr at hp
  refine e_entry okX4_indexOfPlan (Nat.le_of_ble_eq_true rfl) (ls := [some _, some _]) rfl ?_
  refine e_iload_n 0 1 rfl rfl rfl rfl ?_
  refine e_if_lt 1 20 4 rfl rfl rfl (by unfold xr at *; omega) (fun h => ?_) (fun h => ?_)
  · skip
    rw [show iop σ p = -1 by unfold iop; rw [if_neg (by omega)]]
    refine e_iconst 10 21 rfl rfl ?_
    exact e_ireturn 11 rfl rfl (Nat.le_of_ble_eq_true rfl) (Nat.le_of_ble_eq_true rfl)
  · skip
    refine e_iload_n 2 5 rfl rfl rfl rfl ?_
    refine e_sipush 3 8 rfl rfl rfl ?_
    refine e_icmp_ge 4 20 11 rfl rfl rfl (by unfold xr at *; omega) (by unfold xr at *; omega) (fun h3 => ?_) (fun h3 => ?_)
    · skip
      rw [show iop σ p = -1 by unfold iop; rw [if_neg (by omega)]]
      refine e_iconst 10 21 rfl rfl ?_
      exact e_ireturn 11 rfl rfl (Nat.le_of_ble_eq_true rfl) (Nat.le_of_ble_eq_true rfl)
    · skip
      rw [show iop σ p = σ 252 p by unfold iop; rw [if_pos (by omega)]]
      refine e_aload_n 5 12 rfl rfl rfl rfl ?_
      refine g_getR 6 15 ckX4 flX4_22 rfl rfl (Nat.le_of_ble_eq_true rfl) rfl rfl ?_
      refine e_iload_n 7 16 rfl rfl rfl rfl ?_
      refine g_iaload 8 17 rfl rfl (Nat.le_of_ble_eq_true rfl) rfl (by omega) (by omega) (by omega) rfl ?_
      refine e_goto 9 21 rfl rfl ?_
      exact e_ireturn 11 rfl rfl (Nat.le_of_ble_eq_true rfl) (Nat.le_of_ble_eq_true rfl)
theorem sp_looksOfPlan {σ : xSig} {p : Int} (hp : xr p) : Rd MX4_looksOfPlan [.ref 248, .int (ii p)] σ (iv (lop σ p)) := by
  unfold xr at hp
  refine e_entry okX4_looksOfPlan (Nat.le_of_ble_eq_true rfl) (ls := [some _, some _]) rfl ?_
  refine e_iload_n 0 1 rfl rfl rfl rfl ?_
  refine e_if_lt 1 20 4 rfl rfl rfl (by unfold xr at *; omega) (fun h => ?_) (fun h => ?_)
  · skip
    rw [show lop σ p = 0 by unfold lop; rw [if_neg (by omega)]]
    refine e_iconst 10 21 rfl rfl ?_
    exact e_ireturn 11 rfl rfl (Nat.le_of_ble_eq_true rfl) (Nat.le_of_ble_eq_true rfl)
  · skip
    refine e_iload_n 2 5 rfl rfl rfl rfl ?_
    refine e_sipush 3 8 rfl rfl rfl ?_
    refine e_icmp_ge 4 20 11 rfl rfl rfl (by unfold xr at *; omega) (by unfold xr at *; omega) (fun h3 => ?_) (fun h3 => ?_)
    · skip
      rw [show lop σ p = 0 by unfold lop; rw [if_neg (by omega)]]
      refine e_iconst 10 21 rfl rfl ?_
      exact e_ireturn 11 rfl rfl (Nat.le_of_ble_eq_true rfl) (Nat.le_of_ble_eq_true rfl)
    · skip
      rw [show lop σ p = σ 253 p by unfold lop; rw [if_pos (by omega)]]
      refine e_aload_n 5 12 rfl rfl rfl rfl ?_
      refine g_getR 6 15 ckX4 flX4_25 rfl rfl (Nat.le_of_ble_eq_true rfl) rfl rfl ?_
      refine e_iload_n 7 16 rfl rfl rfl rfl ?_
      refine g_iaload 8 17 rfl rfl (Nat.le_of_ble_eq_true rfl) rfl (by omega) (by omega) (by omega) rfl ?_
      refine e_goto 9 21 rfl rfl ?_
      exact e_ireturn 11 rfl rfl (Nat.le_of_ble_eq_true rfl) (Nat.le_of_ble_eq_true rfl)
theorem sp_plansKept {σ : xSig} : Rd MX4_plansKept [.ref 248] σ (iv (σ 248 6)) := by
  refine e_entry okX4_plansKept (Nat.le_of_ble_eq_true rfl) (ls := [some _]) rfl ?_
  refine e_aload_n 0 1 rfl rfl rfl rfl ?_
  refine g_getI 1 4 6 ckX4 flX4_35 rfl rfl (Nat.le_of_ble_eq_true rfl) rfl rfl rfl rfl ?_
  exact e_ireturn 2 rfl rfl (Nat.le_of_ble_eq_true rfl) (Nat.le_of_ble_eq_true rfl)
theorem sp_planFor {σ : xSig} (hX : IXR σ) {x : Int} (hx : xr x) : Rd MX4_planFor [.ref 248, .int (ii x)] σ (iv (fstIs (σ 251) x 0 (σ 248 6).toNat)) := by
  have h6 := hX.2.2.1
  have loop : ∀ (n i : Nat), (i : Int) + n = σ 248 6 → x_E MX4_planFor 0 0 2 [some (.ref 248), some (.int (ii x)), some (.int (ii i))] [] (St σ) 0 0 (iv (fstIs (σ 251) x i n)) (St σ) := by
    intro n
    induction n with
    | zero =>
      intro i hi
      refine e_iload_n 2 3 rfl rfl rfl rfl ?_
      refine e_aload_n 3 4 rfl rfl rfl rfl ?_
      refine g_getI 4 7 6 ckX4 flX4_35 rfl rfl (Nat.le_of_ble_eq_true rfl) rfl rfl rfl rfl ?_
      refine e_icmp_ge 5 35 10 rfl rfl rfl (by unfold xr at *; omega) (by unfold xr at *; omega) (fun _ => ?_) (fun h9 => absurd h9 (by omega))
      refine e_iconst 19 36 rfl rfl ?_
      exact e_ireturn 20 rfl rfl (Nat.le_of_ble_eq_true rfl) (Nat.le_of_ble_eq_true rfl)
    | succ n ih =>
      intro i hi
      have hp := hX.2.2.2.1 i
      have hn := ih (i + 1) (by omega)
      rw [show (((i + 1 : Nat)) : Int) = (i : Int) + 1 by omega] at hn
      simp only [fstIs]
      refine e_iload_n 2 3 rfl rfl rfl rfl ?_
      refine e_aload_n 3 4 rfl rfl rfl rfl ?_
      refine g_getI 4 7 6 ckX4 flX4_35 rfl rfl (Nat.le_of_ble_eq_true rfl) rfl rfl rfl rfl ?_
      refine e_icmp_ge 5 35 10 rfl rfl rfl (by unfold xr at *; omega) (by unfold xr at *; omega) (fun h9 => absurd h9 (by omega)) (fun _ => ?_)
      refine e_iload_n 6 11 rfl rfl rfl rfl ?_
      refine e_sipush 7 14 rfl rfl rfl ?_
      refine e_icmp_ge 8 35 17 rfl rfl rfl (by unfold xr at *; omega) (by unfold xr at *; omega) (fun h9 => absurd h9 (by omega)) (fun _ => ?_)
      refine e_aload_n 9 18 rfl rfl rfl rfl ?_
      refine g_getR 10 21 ckX4 flX4_19 rfl rfl (Nat.le_of_ble_eq_true rfl) rfl rfl ?_
      refine e_iload_n 11 22 rfl rfl rfl rfl ?_
      refine g_iaload 12 23 rfl rfl (Nat.le_of_ble_eq_true rfl) rfl (by omega) (by omega) (by omega) rfl ?_
      refine e_iload_n 13 24 rfl rfl rfl rfl ?_
      refine e_icmp_ne 14 29 27 rfl rfl rfl (by unfold xr at *; omega) (by unfold xr at *; omega) (fun h => ?_) (fun h => ?_)
      · skip
        rw [if_neg h]
        refine e_iinc 17 32 (ls' := [some _, some _, some _]) rfl rfl (Nat.le_of_ble_eq_true rfl) rfl rfl ?_
        refine e_goto 18 2 rfl rfl ?_
        exact hn
      · skip
        rw [if_pos h]
        refine e_iload_n 15 28 rfl rfl rfl rfl ?_
        exact e_ireturn 16 rfl rfl (Nat.le_of_ble_eq_true rfl) (Nat.le_of_ble_eq_true rfl)
  refine e_entry okX4_planFor (Nat.le_of_ble_eq_true rfl) (ls := [some _, some _, none]) rfl ?_
  refine e_iconst 0 1 rfl rfl ?_
  refine e_istore_n 1 2 (ls' := [some _, some _, some _]) rfl rfl rfl (Nat.le_of_ble_eq_true rfl) rfl ?_
  exact loop (σ 248 6).toNat 0 (by omega)
def kpp (σ : xSig) (s i l : Int) : xSig := xu (xu (xu (xu σ 251 (σ 248 6) s) 252 (σ 248 6) i) 253 (σ 248 6) l) 248 6 (σ 248 6 + 1)
theorem sp_keepPlan {σ : xSig} (h6 : 0 ≤ σ 248 6 ∧ σ 248 6 < 512) {s i l : Int} : x_Sp MX4_keepPlan 0 0 [.ref 248, .int (ii s), .int (ii i), .int (ii l)] (St σ) vv (St (kpp σ s i l)) := by
  have e1 : xu σ 251 (σ 248 6) s 248 6 = σ 248 6 := xu_ne _ (Or.inl (by decide))
  have e2 : xu (xu σ 251 (σ 248 6) s) 252 (σ 248 6) i 248 6 = σ 248 6 := (xu_ne _ (Or.inl (by decide))).trans e1
  have e3 : xu (xu (xu σ 251 (σ 248 6) s) 252 (σ 248 6) i) 253 (σ 248 6) l 248 6 = σ 248 6 := (xu_ne _ (Or.inl (by decide))).trans e2
  unfold kpp
  refine e_entry okX4_keepPlan (Nat.le_of_ble_eq_true rfl) (ls := [some _, some _, some _, some _]) rfl ?_
  refine e_aload_n 0 1 rfl rfl rfl rfl ?_
  refine g_getI 1 4 6 ckX4 flX4_35 rfl rfl (Nat.le_of_ble_eq_true rfl) rfl rfl rfl rfl ?_
  refine e_if_lt 2 57 7 rfl rfl rfl (by unfold xr at *; omega) (fun h9 => absurd h9 (by omega)) (fun _ => ?_)
  refine e_aload_n 3 8 rfl rfl rfl rfl ?_
  refine g_getI 4 11 6 ckX4 flX4_35 rfl rfl (Nat.le_of_ble_eq_true rfl) rfl rfl rfl rfl ?_
  refine e_sipush 5 14 rfl rfl rfl ?_
  refine e_icmp_ge 6 57 17 rfl rfl rfl (by unfold xr at *; omega) (by unfold xr at *; omega) (fun h9 => absurd h9 (by omega)) (fun _ => ?_)
  refine e_aload_n 7 18 rfl rfl rfl rfl ?_
  refine g_getR 8 21 ckX4 flX4_19 rfl rfl (Nat.le_of_ble_eq_true rfl) rfl rfl ?_
  refine e_aload_n 9 22 rfl rfl rfl rfl ?_
  refine g_getI 10 25 6 ckX4 flX4_35 rfl rfl (Nat.le_of_ble_eq_true rfl) rfl rfl rfl rfl ?_
  refine e_iload_n 11 26 rfl rfl rfl rfl ?_
  refine g_iastore 12 27 rfl rfl (Nat.le_of_ble_eq_true rfl) rfl (by omega) (by omega) (by omega) ?_
  refine e_aload_n 13 28 rfl rfl rfl rfl ?_
  refine g_getR 14 31 ckX4 flX4_22 rfl rfl (Nat.le_of_ble_eq_true rfl) rfl rfl ?_
  refine e_aload_n 15 32 rfl rfl rfl rfl ?_
  refine g_getI 16 35 6 ckX4 flX4_35 rfl rfl (Nat.le_of_ble_eq_true rfl) rfl rfl rfl e1 ?_
  refine e_iload_n 17 36 rfl rfl rfl rfl ?_
  refine g_iastore 18 37 rfl rfl (Nat.le_of_ble_eq_true rfl) rfl (by omega) (by omega) (by omega) ?_
  refine e_aload_n 19 38 rfl rfl rfl rfl ?_
  refine g_getR 20 41 ckX4 flX4_25 rfl rfl (Nat.le_of_ble_eq_true rfl) rfl rfl ?_
  refine e_aload_n 21 42 rfl rfl rfl rfl ?_
  refine g_getI 22 45 6 ckX4 flX4_35 rfl rfl (Nat.le_of_ble_eq_true rfl) rfl rfl rfl e2 ?_
  refine e_iload_n 23 46 rfl rfl rfl rfl ?_
  refine g_iastore 24 47 rfl rfl (Nat.le_of_ble_eq_true rfl) rfl (by omega) (by omega) (by omega) ?_
  refine e_aload_n 25 48 rfl rfl rfl rfl ?_
  refine e_dup 26 49 rfl rfl rfl ?_
  refine g_getI 27 52 6 ckX4 flX4_35 rfl rfl (Nat.le_of_ble_eq_true rfl) rfl rfl rfl e3 ?_
  refine e_iconst 28 53 rfl rfl ?_
  refine e_iadd 29 54 rfl rfl ?_
  refine g_putI 30 57 6 ckX4 flX4_35 rfl rfl (Nat.le_of_ble_eq_true rfl) rfl rfl rfl ?_
  exact e_return 31 rfl rfl (Nat.le_of_ble_eq_true rfl) (Nat.le_of_ble_eq_true rfl)
def fgp (σ : xSig) (p : Int) : xSig := xu (xu (xu (xu σ 251 p (σ 251 (σ 248 6 - 1))) 252 p (σ 252 (σ 248 6 - 1))) 253 p (σ 253 (σ 248 6 - 1))) 248 6 (σ 248 6 - 1)
theorem sp_forgetPlan {σ : xSig} (h6 : 0 ≤ σ 248 6 ∧ σ 248 6 ≤ 512) {p : Int} (hp : 0 ≤ p ∧ p < σ 248 6) : x_Sp MX4_forgetPlan 0 0 [.ref 248, .int (ii p)] (St σ) vv (St (fgp σ p)) := by
  have e1 : xu σ 251 p (σ 251 (σ 248 6 - 1)) 252 (σ 248 6 - 1) = σ 252 (σ 248 6 - 1) := xu_ne _ (Or.inl (by decide))
  have e2 : xu (xu σ 251 p (σ 251 (σ 248 6 - 1))) 252 p (σ 252 (σ 248 6 - 1)) 253 (σ 248 6 - 1) = σ 253 (σ 248 6 - 1) := (xu_ne _ (Or.inl (by decide))).trans (xu_ne _ (Or.inl (by decide)))
  unfold fgp
  refine e_entry okX4_forgetPlan (Nat.le_of_ble_eq_true rfl) (ls := [some _, some _, none]) rfl ?_
  refine e_aload_n 0 1 rfl rfl rfl rfl ?_
  refine g_getI 1 4 6 ckX4 flX4_35 rfl rfl (Nat.le_of_ble_eq_true rfl) rfl rfl rfl rfl ?_
  refine e_iconst 2 5 rfl rfl ?_
  refine e_isub 3 6 rfl rfl ?_
  refine e_istore_n 4 7 (ls' := [some _, some _, some _]) rfl rfl rfl (Nat.le_of_ble_eq_true rfl) rfl ?_
  refine e_iload_n 5 8 rfl rfl rfl rfl ?_
  refine e_if_lt 6 23 11 rfl rfl rfl (by unfold xr at *; omega) (fun h9 => absurd h9 (by omega)) (fun _ => ?_)
  refine e_iload_n 7 12 rfl rfl rfl rfl ?_
  refine e_iload_n 8 13 rfl rfl rfl rfl ?_
  refine e_icmp_gt 9 23 16 rfl rfl rfl (by unfold xr at *; omega) (by unfold xr at *; omega) (fun h9 => absurd h9 (by omega)) (fun _ => ?_)
  refine e_iload_n 10 17 rfl rfl rfl rfl ?_
  refine e_sipush 11 20 rfl rfl rfl ?_
  refine e_icmp_lt 12 24 23 rfl rfl rfl (by unfold xr at *; omega) (by unfold xr at *; omega) (fun _ => ?_) (fun h9 => absurd h9 (by omega))
  refine e_aload_n 14 25 rfl rfl rfl rfl ?_
  refine g_getR 15 28 ckX4 flX4_19 rfl rfl (Nat.le_of_ble_eq_true rfl) rfl rfl ?_
  refine e_iload_n 16 29 rfl rfl rfl rfl ?_
  refine e_aload_n 17 30 rfl rfl rfl rfl ?_
  refine g_getR 18 33 ckX4 flX4_19 rfl rfl (Nat.le_of_ble_eq_true rfl) rfl rfl ?_
  refine e_iload_n 19 34 rfl rfl rfl rfl ?_
  refine g_iaload 20 35 rfl rfl (Nat.le_of_ble_eq_true rfl) rfl (by omega) (by omega) (by omega) rfl ?_
  refine g_iastore 21 36 rfl rfl (Nat.le_of_ble_eq_true rfl) rfl (by omega) (by omega) (by omega) ?_
  refine e_aload_n 22 37 rfl rfl rfl rfl ?_
  refine g_getR 23 40 ckX4 flX4_22 rfl rfl (Nat.le_of_ble_eq_true rfl) rfl rfl ?_
  refine e_iload_n 24 41 rfl rfl rfl rfl ?_
  refine e_aload_n 25 42 rfl rfl rfl rfl ?_
  refine g_getR 26 45 ckX4 flX4_22 rfl rfl (Nat.le_of_ble_eq_true rfl) rfl rfl ?_
  refine e_iload_n 27 46 rfl rfl rfl rfl ?_
  refine g_iaload 28 47 rfl rfl (Nat.le_of_ble_eq_true rfl) rfl (by omega) (by omega) (by omega) e1 ?_
  refine g_iastore 29 48 rfl rfl (Nat.le_of_ble_eq_true rfl) rfl (by omega) (by omega) (by omega) ?_
  refine e_aload_n 30 49 rfl rfl rfl rfl ?_
  refine g_getR 31 52 ckX4 flX4_25 rfl rfl (Nat.le_of_ble_eq_true rfl) rfl rfl ?_
  refine e_iload_n 32 53 rfl rfl rfl rfl ?_
  refine e_aload_n 33 54 rfl rfl rfl rfl ?_
  refine g_getR 34 57 ckX4 flX4_25 rfl rfl (Nat.le_of_ble_eq_true rfl) rfl rfl ?_
  refine e_iload_n 35 58 rfl rfl rfl rfl ?_
  refine g_iaload 36 59 rfl rfl (Nat.le_of_ble_eq_true rfl) rfl (by omega) (by omega) (by omega) e2 ?_
  refine g_iastore 37 60 rfl rfl (Nat.le_of_ble_eq_true rfl) rfl (by omega) (by omega) (by omega) ?_
  refine e_aload_n 38 61 rfl rfl rfl rfl ?_
  refine e_iload_n 39 62 rfl rfl rfl rfl ?_
  refine g_putI 40 65 6 ckX4 flX4_35 rfl rfl (Nat.le_of_ble_eq_true rfl) rfl rfl rfl ?_
  exact e_return 41 rfl rfl (Nat.le_of_ble_eq_true rfl) (Nat.le_of_ble_eq_true rfl)
def abl (k : Int) : Nat → xSig → xSig
  | 0, σ => σ
  | n + 1, σ => abl k n (if iop σ n = k then fgp σ n else σ)
theorem xu_all {P : Int → Prop} {σ : xSig} {a b : Nat} {j v : Int} (h : ∀ i : Int, P (σ b i)) (hv : b = a → P v) : ∀ i : Int, P (xu σ a j v b i) := by
  intro i
  unfold xu
  split
  · next q => exact hv q.1
  · exact h i
theorem fgp_6 (σ : xSig) (p : Int) : fgp σ p 248 6 = σ 248 6 - 1 := xu_same _ _ _ _
theorem fgp_252 {σ : xSig} (h : ∀ i : Int, -1 ≤ σ 252 i ∧ σ 252 i < 3) (p : Int) : ∀ i : Int, -1 ≤ fgp σ p 252 i ∧ fgp σ p 252 i < 3 := by
  unfold fgp
  exact xu_all (P := fun z => -1 ≤ z ∧ z < 3) (xu_all (P := fun z => -1 ≤ z ∧ z < 3) (xu_all (P := fun z => -1 ≤ z ∧ z < 3) (xu_all (P := fun z => -1 ≤ z ∧ z < 3) h (fun q => absurd q (by decide))) (fun _ => h _)) (fun q => absurd q (by decide))) (fun q => absurd q (by decide))
theorem sp_abolish {σ : xSig} (hX : IXR σ) {k : Int} (hk : 0 ≤ k ∧ k < 3) : x_Sp MX4_abolish 0 0 [.ref 248, .int (ii k)] (St σ) (iv (σ 248 6 - abl k (σ 248 6).toNat (xu σ 249 k (-1)) 248 6)) (St (abl k (σ 248 6).toNat (xu σ 249 k (-1)))) := by
  have h6 := hX.2.2.1
  have loop : ∀ (n : Nat) (σ1 : xSig), (n : Int) ≤ σ1 248 6 → σ1 248 6 ≤ σ 248 6 → (∀ i : Int, -1 ≤ σ1 252 i ∧ σ1 252 i < 3) → x_E MX4_abolish 0 0 27 [some (.ref 248), some (.int (ii k)), some (.int (ii (σ 248 6))), some (.int (ii ((n : Int) - 1)))] [] (St σ1) 0 0 (iv (σ 248 6 - abl k n σ1 248 6)) (St (abl k n σ1)) := by
    intro n
    induction n with
    | zero =>
      intro σ1 h1 h2 h3
      simp only [abl]
      refine e_iload_n 19 28 rfl rfl rfl rfl ?_
      refine e_if_lt 20 51 31 rfl rfl rfl (by unfold xr at *; omega) (fun _ => ?_) (fun h9 => absurd h9 (by omega))
      refine e_iload_n 31 52 rfl rfl rfl rfl ?_
      refine e_aload_n 32 53 rfl rfl rfl rfl ?_
      refine g_getI 33 56 6 ckX4 flX4_35 rfl rfl (Nat.le_of_ble_eq_true rfl) rfl rfl rfl rfl ?_
      refine e_isub 34 57 rfl rfl ?_
      exact e_ireturn 35 rfl rfl (Nat.le_of_ble_eq_true rfl) (Nat.le_of_ble_eq_true rfl)
    | succ n ih =>
      intro σ1 h1 h2 h3
      simp only [abl]
      rw [show (((n + 1 : Nat)) : Int) - 1 = (n : Int) by omega]
      have hi := sp_indexOfPlan (σ := σ1) (p := n) (by unfold xr; omega)
      by_cases h : iop σ1 n = k
      · rw [if_pos h]
        have hn := ih (fgp σ1 n) (by rw [fgp_6]; omega) (by rw [fgp_6]; omega) (fgp_252 h3 n)
        have hf := sp_forgetPlan (σ := σ1) (by omega) (p := n) (by omega)
        refine e_iload_n 19 28 rfl rfl rfl rfl ?_
        refine e_if_lt 20 51 31 rfl rfl rfl (by unfold xr at *; omega) (fun h9 => absurd h9 (by omega)) (fun _ => ?_)
        refine e_aload_n 21 32 rfl rfl rfl rfl ?_
        refine e_iload_n 22 33 rfl rfl rfl rfl ?_
        refine g_callV 23 36 (hi) okX4_indexOfPlan cvX4_39 ⟨(Nat.le_of_ble_eq_true rfl), (Nat.le_of_ble_eq_true rfl)⟩ rfl rfl (Nat.le_of_ble_eq_true rfl) rfl rfl rfl rfl rfl (Nat.le_of_ble_eq_true rfl) (Nat.le_of_ble_eq_true rfl) (Nat.le_of_ble_eq_true rfl) ?_
        rw [h]
        refine e_iload_n 24 37 rfl rfl rfl rfl ?_
        refine e_icmp_ne 25 45 40 rfl rfl rfl (by unfold xr at *; omega) (by unfold xr at *; omega) (fun h9 => absurd h9 (fun q => q rfl)) (fun _ => ?_)
        refine e_aload_n 26 41 rfl rfl rfl rfl ?_
        refine e_iload_n 27 42 rfl rfl rfl rfl ?_
        refine g_callV 28 45 (hf) okX4_forgetPlan cvX4_43 ⟨(Nat.le_of_ble_eq_true rfl), (Nat.le_of_ble_eq_true rfl)⟩ rfl rfl (Nat.le_of_ble_eq_true rfl) rfl rfl rfl rfl rfl (Nat.le_of_ble_eq_true rfl) (Nat.le_of_ble_eq_true rfl) (Nat.le_of_ble_eq_true rfl) ?_
        refine e_iinc 29 48 (ls' := [some _, some _, some _, some _]) rfl rfl (Nat.le_of_ble_eq_true rfl) rfl rfl ?_
        refine e_goto 30 27 rfl rfl ?_
        exact hn
      · rw [if_neg h]
        have hn := ih σ1 (by omega) h2 h3
        have hib : -1 ≤ iop σ1 n ∧ iop σ1 n < 3 := by
          have := h3 n
          unfold iop
          split <;> omega
        refine e_iload_n 19 28 rfl rfl rfl rfl ?_
        refine e_if_lt 20 51 31 rfl rfl rfl (by unfold xr at *; omega) (fun h9 => absurd h9 (by omega)) (fun _ => ?_)
        refine e_aload_n 21 32 rfl rfl rfl rfl ?_
        refine e_iload_n 22 33 rfl rfl rfl rfl ?_
        refine g_callV 23 36 (hi) okX4_indexOfPlan cvX4_39 ⟨(Nat.le_of_ble_eq_true rfl), (Nat.le_of_ble_eq_true rfl)⟩ rfl rfl (Nat.le_of_ble_eq_true rfl) rfl rfl rfl rfl rfl (Nat.le_of_ble_eq_true rfl) (Nat.le_of_ble_eq_true rfl) (Nat.le_of_ble_eq_true rfl) ?_
        refine e_iload_n 24 37 rfl rfl rfl rfl ?_
        refine e_icmp_ne 25 45 40 rfl rfl rfl (by unfold xr at *; omega) (by unfold xr at *; omega) (fun _ => ?_) (fun h9 => absurd h9 h)
        refine e_iinc 29 48 (ls' := [some _, some _, some _, some _]) rfl rfl (Nat.le_of_ble_eq_true rfl) rfl rfl ?_
        refine e_goto 30 27 rfl rfl ?_
        exact hn
  have e6 : xu σ 249 k (-1) 248 6 = σ 248 6 := xu_ne _ (Or.inl (by decide))
  have l9 := loop (σ 248 6).toNat (xu σ 249 k (-1)) (by rw [e6]; omega) (by rw [e6]; omega) (xu_all (P := fun z => -1 ≤ z ∧ z < 3) hX.2.2.2.2.1 (fun q => absurd q (by decide)))
  rw [show (((σ 248 6).toNat : Int)) = σ 248 6 by omega] at l9
  refine e_entry okX4_abolish (Nat.le_of_ble_eq_true rfl) (ls := [some _, some _, none, none]) rfl ?_
  refine e_iload_n 0 1 rfl rfl rfl rfl ?_
  refine e_if_lt 1 9 4 rfl rfl rfl (by unfold xr at *; omega) (fun h9 => absurd h9 (by omega)) (fun _ => ?_)
  refine e_iload_n 2 5 rfl rfl rfl rfl ?_
  refine e_iconst 3 6 rfl rfl ?_
  refine e_icmp_lt 4 11 9 rfl rfl rfl (by unfold xr at *; omega) (by unfold xr at *; omega) (fun _ => ?_) (fun h9 => absurd h9 (by omega))
  refine e_aload_n 7 12 rfl rfl rfl rfl ?_
  refine g_getR 8 15 ckX4 flX4_9 rfl rfl (Nat.le_of_ble_eq_true rfl) rfl rfl ?_
  refine e_iload_n 9 16 rfl rfl rfl rfl ?_
  refine e_iconst 10 17 rfl rfl ?_
  refine g_iastore 11 18 rfl rfl (Nat.le_of_ble_eq_true rfl) rfl (by omega) (by omega) (by omega) ?_
  refine e_aload_n 12 19 rfl rfl rfl rfl ?_
  refine g_getI 13 22 6 ckX4 flX4_35 rfl rfl (Nat.le_of_ble_eq_true rfl) rfl rfl rfl e6 ?_
  refine e_istore_n 14 23 (ls' := [some _, some _, some _, none]) rfl rfl rfl (Nat.le_of_ble_eq_true rfl) rfl ?_
  refine e_iload_n 15 24 rfl rfl rfl rfl ?_
  refine e_iconst 16 25 rfl rfl ?_
  refine e_isub 17 26 rfl rfl ?_
  refine e_istore_n 18 27 (ls' := [some _, some _, some _, some _]) rfl rfl rfl (Nat.le_of_ble_eq_true rfl) rfl ?_
  exact l9
/-! entries -/
def frs (t m : List Int) (x : Int) : Bool := m.all fun y => decide (lexc (sv t y) (sv t x) ≠ 0)
def cfr (t : List Int) : List Int → List Int → Int
  | _, [] => 0
  | m, x :: r => bi (frs t m x) + cfr t (m ++ [x]) r
theorem cfr_bnd (t : List Int) : ∀ (r m : List Int), 0 ≤ cfr t m r ∧ cfr t m r ≤ r.length := by
  intro r
  induction r with
  | nil => intro m; simp [cfr]
  | cons x r ih =>
    intro m
    have := ih (m ++ [x])
    have h2 := bi_01 (frs t m x)
    simp only [cfr, List.length_cons]
    omega
def hasn (σ : xSig) (k : Int) : Bool := decide (0 ≤ k ∧ k < 3 ∧ σ 250 k = 0)
def enz (c : Int) (b : Bool) : Int := if c = 0 ∧ b = true then 1 else c
def en1 (σ : xSig) (t : List Int) (k : Int) : Int := enz (cfr t [] (atp t (pxs σ k))) (hasn σ k)
def GDA (σ : xSig) (T : Nat → List Int) : Prop := ∀ n : Nat, n < 100 → hasd σ n = true → GD (T (31 + 2 * n))
def ent (σ : xSig) (T : Nat → List Int) (k : Int) : Int := smN (fun n => if hasd σ n = true then en1 σ (T (31 + 2 * n)) k else 0) 0 100
theorem sp_hasEntryForNone {σ : xSig} (hX : IXR σ) {k : Int} (hk : xr k) : Rd MX4_hasEntryForNone [.ref 248, .int (ii k)] σ (zv (hasn σ k)) := by
  have h2 := hX.2.1 k
  unfold xr at hk
  have no : hasn σ k = false → x_E MX4_hasEntryForNone 0 0 22 [some (.ref 248), some (.int (ii k))] [] (St σ) 0 0 (zv (hasn σ k)) (St σ) := by
    intro e
    rw [e]
    refine e_iconst 12 23 rfl rfl ?_
    exact e_zreturn (x := 0) 13 rfl rfl (by omega) (Nat.le_of_ble_eq_true rfl) (Nat.le_of_ble_eq_true rfl)
  refine e_entry okX4_hasEntryForNone (Nat.le_of_ble_eq_true rfl) (ls := [some _, some _]) rfl ?_
  refine e_iload_n 0 1 rfl rfl rfl rfl ?_
  refine e_if_lt 1 22 4 rfl rfl rfl (by unfold xr at *; omega) (fun h => ?_) (fun h => ?_)
  · skip
    exact no (decide_eq_false (by omega))
  · skip
    refine e_iload_n 2 5 rfl rfl rfl rfl ?_
    refine e_iconst 3 6 rfl rfl ?_
    refine e_icmp_ge 4 22 9 rfl rfl rfl (by unfold xr at *; omega) (by unfold xr at *; omega) (fun h3 => ?_) (fun h3 => ?_)
    · skip
      exact no (decide_eq_false (by omega))
    · skip
      refine e_aload_n 5 10 rfl rfl rfl rfl ?_
      refine g_getR 6 13 ckX4 flX4_15 rfl rfl (Nat.le_of_ble_eq_true rfl) rfl rfl ?_
      refine e_iload_n 7 14 rfl rfl rfl rfl ?_
      refine g_baload 8 15 rfl rfl (Nat.le_of_ble_eq_true rfl) rfl (by omega) (by omega) (by omega) rfl ?_
      refine e_if_ne 9 22 18 rfl rfl rfl (by unfold xr at *; omega) (fun h4 => ?_) (fun h4 => ?_)
      · skip
        exact no (decide_eq_false (by omega))
      · skip
        rw [show hasn σ k = true from decide_eq_true (by omega)]
        refine e_iconst 10 19 rfl rfl ?_
        refine e_goto 11 23 rfl rfl ?_
        exact e_zreturn (x := 1) 13 rfl rfl (by omega) (Nat.le_of_ble_eq_true rfl) (Nat.le_of_ble_eq_true rfl)
theorem sp_isFirst {σ : xSig} {a cap : Nat} {t L : List Int} (hV : VH σ a cap t) (hP : PH σ 254 L) (hL : ∀ i ∈ L, 0 ≤ i ∧ i < t.length ∧ Cv (sv t i)) (m : List Int) (x : Int) (r : List Int) (hm : L = m ++ x :: r) : Rd MX4_isFirst [.ref 248, .ref a, .int (ii m.length)] σ (zv (frs t m x)) := by
  have h24 := hP.2.2.1
  have hl : L.length = m.length + r.length + 1 := by rw [hm]; simp; omega
  have hatx := sp_plAt hP (i := m.length) (by omega)
  rw [hm, getD_mid] at hatx
  have hx := hL x (by rw [hm]; simp)
  have loop : ∀ (n k : List Int), m = k ++ n → x_E MX4_isFirst 0 0 2 [some (.ref 248), some (.ref a), some (.int (ii m.length)), some (.int (ii k.length))] [] (St σ) 0 0 (zv (frs t n x)) (St σ) := by
    intro n
    induction n with
    | nil =>
      intro k hk
      have : m.length = k.length := by rw [hk]; simp
      rw [show frs t [] x = true from rfl]
      refine e_iload_n 2 3 rfl rfl rfl rfl ?_
      refine e_iload_n 3 4 rfl rfl rfl rfl ?_
      refine e_icmp_ge 4 39 7 rfl rfl rfl (by unfold xr at *; omega) (by unfold xr at *; omega) (fun _ => ?_) (fun h9 => absurd h9 (by omega))
      refine e_iconst 21 40 rfl rfl ?_
      exact e_zreturn (x := 1) 22 rfl rfl (by omega) (Nat.le_of_ble_eq_true rfl) (Nat.le_of_ble_eq_true rfl)
    | cons y n ih =>
      intro k hk
      have hkl : m.length = k.length + n.length + 1 := by rw [hk]; simp; omega
      have haty := sp_plAt hP (i := k.length) (by omega)
      rw [show L = k ++ y :: (n ++ x :: r) by rw [hm, hk]; simp, getD_mid] at haty
      have hy := hL y (by rw [hm, hk]; simp)
      have hn := ih (k ++ [y]) (by rw [hk, app_s])
      rw [len_s] at hn
      have ho := sp_ordAt hV hV hy hx
      have hb := lexc_in (sv t y) (sv t x)
      have e : frs t (y :: n) x = (decide (lexc (sv t y) (sv t x) ≠ 0) && frs t n x) := by unfold frs; rw [List.all_cons]
      rw [e]
      refine e_iload_n 2 3 rfl rfl rfl rfl ?_
      refine e_iload_n 3 4 rfl rfl rfl rfl ?_
      refine e_icmp_ge 4 39 7 rfl rfl rfl (by unfold xr at *; omega) (by unfold xr at *; omega) (fun h9 => absurd h9 (by omega)) (fun _ => ?_)
      refine e_aload_n 5 8 rfl rfl rfl rfl ?_
      refine e_aload_n 6 9 rfl rfl rfl rfl ?_
      refine g_getR 7 12 ckX4 flX4_31 rfl rfl (Nat.le_of_ble_eq_true rfl) rfl rfl ?_
      refine e_iload_n 8 13 rfl rfl rfl rfl ?_
      refine g_callV 9 16 (haty) okX6_at cvX4_79 ⟨(Nat.le_of_ble_eq_true rfl), (Nat.le_of_ble_eq_true rfl)⟩ rfl rfl hP.1.1 hP.1.2.2.1 rfl rfl rfl rfl (Nat.le_of_ble_eq_true rfl) (Nat.le_of_ble_eq_true rfl) (Nat.le_of_ble_eq_true rfl) ?_
      refine e_aload_n 10 17 rfl rfl rfl rfl ?_
      refine e_aload_n 11 18 rfl rfl rfl rfl ?_
      refine g_getR 12 21 ckX4 flX4_31 rfl rfl (Nat.le_of_ble_eq_true rfl) rfl rfl ?_
      refine e_iload_n 13 22 rfl rfl rfl rfl ?_
      refine g_callV 14 25 (hatx) okX6_at cvX4_79 ⟨(Nat.le_of_ble_eq_true rfl), (Nat.le_of_ble_eq_true rfl)⟩ rfl rfl hP.1.1 hP.1.2.2.1 rfl rfl rfl rfl (Nat.le_of_ble_eq_true rfl) (Nat.le_of_ble_eq_true rfl) (Nat.le_of_ble_eq_true rfl) ?_
      refine g_callS 15 28 (ho) okX10_order csX4_81 ⟨(Nat.le_of_ble_eq_true rfl), (Nat.le_of_ble_eq_true rfl)⟩ rfl rfl rfl rfl (Nat.le_of_ble_eq_true rfl) (Nat.le_of_ble_eq_true rfl) (Nat.le_of_ble_eq_true rfl) ?_
      refine e_if_ne 16 33 31 rfl rfl rfl (by unfold xr at *; omega) (fun h => ?_) (fun h => ?_)
      · skip
        rw [decide_eq_true h, Bool.true_and]
        refine e_iinc 19 36 (ls' := [some _, some _, some _, some _]) rfl rfl (Nat.le_of_ble_eq_true rfl) rfl rfl ?_
        refine e_goto 20 2 rfl rfl ?_
        exact hn
      · skip
        rw [decide_eq_false (fun q => q h), Bool.false_and]
        refine e_iconst 17 32 rfl rfl ?_
        exact e_zreturn (x := 0) 18 rfl rfl (by omega) (Nat.le_of_ble_eq_true rfl) (Nat.le_of_ble_eq_true rfl)
  refine e_entry okX4_isFirst (Nat.le_of_ble_eq_true rfl) (ls := [some _, some _, some _, none]) rfl ?_
  refine e_iconst 0 1 rfl rfl ?_
  refine e_istore_n 1 2 (ls' := [some _, some _, some _, some _]) rfl rfl rfl (Nat.le_of_ble_eq_true rfl) rfl ?_
  exact loop m [] rfl
theorem sp_entriesFor {σ : xSig} {T : Nat → List Int} (hA : VAll σ T) (hX : IXR σ) {a : Nat} (ha : vO a = true) (hG : GD (T a)) {k : Int} (hk : ihas σ k = true) :
    ∃ σ' : xSig, x_Sp MX4_entriesFor 0 0 [.ref 248, .ref a, .int (ii k)] (St σ) (iv (en1 σ (T a) k)) (St σ') ∧ Fr 254 σ σ' := by
  have hki := ihas_in hk
  have hp := pxs_has hX hk
  obtain ⟨g1, g2⟩ := hG
  obtain ⟨g3, g4⟩ := g2 _ hp.1 hp.2
  have hV := hA a ha
  obtain ⟨σ', k1, k2, k3⟩ := sp_gather hV ha g1 isPl_s.1 hp g3
  have hV2 := hV.pl ha isPl_s.1 k3
  have hX2 : IXR σ' := by
    obtain ⟨q1, q2, q3, q4, q5, q6⟩ := hX
    refine ⟨?_, ?_, ?_, ?_, ?_, ?_⟩
    · rw [k3 249 (by decide) (by decide)]; exact q1
    · unfold n01; rw [k3 250 (by decide) (by decide)]; exact q2
    · rw [k3 248 (by decide) (by decide)]; exact q3
    · rw [k3 251 (by decide) (by decide)]; exact q4
    · rw [k3 252 (by decide) (by decide)]; exact q5
    · rw [k3 253 (by decide) (by decide)]; exact q6
  have hpo := sp_pathOf (σ := σ) (i := k) (by unfold xr; omega)
  have hne := sp_hasEntryForNone hX2 (k := k) (by unfold xr; omega)
  rw [show hasn σ' k = hasn σ k by unfold hasn; rw [k3 250 (by decide) (by decide)]] at hne
  have hcb := cfr_bnd (T a) (atp (T a) (pxs σ k)) []
  have loop : ∀ (r m : List Int) (w : Int), atp (T a) (pxs σ k) = m ++ r → 0 ≤ w → w ≤ m.length → x_E MX4_entriesFor 0 0 18 [some (.ref 248), some (.ref a), some (.int (ii k)), some (.int (ii w)), some (.int (ii m.length))] [] (St σ') 0 0 (iv (enz (w + cfr (T a) m r) (hasn σ k))) (St σ') := by
    intro r
    induction r with
    | nil =>
      intro m w hm h0 h1
      have hl : (atp (T a) (pxs σ k)).length = m.length := by rw [hm]; simp
      have hcr := cfr_bnd (T a) [] m
      rw [show cfr (T a) m [] = 0 from rfl, Int.add_zero]
      unfold enz
      refine e_iload 11 20 rfl rfl rfl ?_
      refine e_aload_n 12 21 rfl rfl rfl rfl ?_
      refine g_getR 13 24 ckX4 flX4_31 rfl rfl (Nat.le_of_ble_eq_true rfl) rfl rfl ?_
      refine g_callV 14 27 (sp_plSize k2) okX6_size cvX4_68 ⟨(Nat.le_of_ble_eq_true rfl), (Nat.le_of_ble_eq_true rfl)⟩ rfl rfl isPl_s.1.1 isPl_s.1.2.2.1 rfl rfl rfl rfl (Nat.le_of_ble_eq_true rfl) (Nat.le_of_ble_eq_true rfl) (Nat.le_of_ble_eq_true rfl) ?_
      refine e_icmp_ge 15 49 30 rfl rfl rfl (by unfold xr at *; omega) (by unfold xr at *; omega) (fun _ => ?_) (fun h9 => absurd h9 (by omega))
      refine e_iload_n 24 50 rfl rfl rfl rfl ?_
      refine e_if_ne 25 65 53 rfl rfl rfl (by unfold xr at *; omega) (fun h => ?_) (fun h => ?_)
      · skip
        rw [if_neg (fun q => h q.1)]
        refine e_iload_n 32 66 rfl rfl rfl rfl ?_
        exact e_ireturn 33 rfl rfl (Nat.le_of_ble_eq_true rfl) (Nat.le_of_ble_eq_true rfl)
      · skip
        refine e_aload_n 26 54 rfl rfl rfl rfl ?_
        refine e_iload_n 27 55 rfl rfl rfl rfl ?_
        refine g_callV 28 58 (hne) okX4_hasEntryForNone cvX4_76 ⟨(Nat.le_of_ble_eq_true rfl), (Nat.le_of_ble_eq_true rfl)⟩ rfl rfl (Nat.le_of_ble_eq_true rfl) rfl rfl rfl rfl rfl (Nat.le_of_ble_eq_true rfl) (Nat.le_of_ble_eq_true rfl) (Nat.le_of_ble_eq_true rfl) ?_
        refine e_ifb_eq 29 65 61 rfl rfl rfl (fun h2 => ?_) (fun h2 => ?_)
        · skip
          rw [if_neg (fun q => by rw [h2] at q; cases q.2)]
          refine e_iload_n 32 66 rfl rfl rfl rfl ?_
          exact e_ireturn 33 rfl rfl (Nat.le_of_ble_eq_true rfl) (Nat.le_of_ble_eq_true rfl)
        · skip
          rw [if_pos ⟨h, h2⟩]
          refine e_iconst 30 62 rfl rfl ?_
          refine e_goto 31 66 rfl rfl ?_
          exact e_ireturn 33 rfl rfl (Nat.le_of_ble_eq_true rfl) (Nat.le_of_ble_eq_true rfl)
    | cons x r ih =>
      intro m w hm h0 h1
      have hl : (atp (T a) (pxs σ k)).length = m.length + r.length + 1 := by rw [hm]; simp; omega
      have hn := fun w' (q0 : 0 ≤ w') (q1 : w' ≤ (m.length : Int) + 1) => ih (m ++ [x]) w' (by rw [hm, app_s]) q0 (by rw [len_s]; exact q1)
      rw [len_s] at hn
      have hf := sp_isFirst hV2 k2 g4 m x r hm
      simp only [cfr]
      refine e_iload 11 20 rfl rfl rfl ?_
      refine e_aload_n 12 21 rfl rfl rfl rfl ?_
      refine g_getR 13 24 ckX4 flX4_31 rfl rfl (Nat.le_of_ble_eq_true rfl) rfl rfl ?_
      refine g_callV 14 27 (sp_plSize k2) okX6_size cvX4_68 ⟨(Nat.le_of_ble_eq_true rfl), (Nat.le_of_ble_eq_true rfl)⟩ rfl rfl isPl_s.1.1 isPl_s.1.2.2.1 rfl rfl rfl rfl (Nat.le_of_ble_eq_true rfl) (Nat.le_of_ble_eq_true rfl) (Nat.le_of_ble_eq_true rfl) ?_
      refine e_icmp_ge 15 49 30 rfl rfl rfl (by unfold xr at *; omega) (by unfold xr at *; omega) (fun h9 => absurd h9 (by omega)) (fun _ => ?_)
      refine e_aload_n 16 31 rfl rfl rfl rfl ?_
      refine e_aload_n 17 32 rfl rfl rfl rfl ?_
      refine e_iload 18 34 rfl rfl rfl ?_
      refine g_callV 19 37 (hf) okX4_isFirst cvX4_72 ⟨(Nat.le_of_ble_eq_true rfl), (Nat.le_of_ble_eq_true rfl)⟩ rfl rfl (Nat.le_of_ble_eq_true rfl) rfl rfl rfl rfl rfl (Nat.le_of_ble_eq_true rfl) (Nat.le_of_ble_eq_true rfl) (Nat.le_of_ble_eq_true rfl) ?_
      refine e_ifb_eq 20 43 40 rfl rfl rfl (fun h => ?_) (fun h => ?_)
      · skip
        rw [h, bi_f, Int.zero_add]
        refine e_iinc 22 46 (ls' := [some _, some _, some _, some _, some _]) rfl rfl (Nat.le_of_ble_eq_true rfl) rfl rfl ?_
        refine e_goto 23 18 rfl rfl ?_
        exact hn w h0 (by omega)
      · skip
        rw [h, bi_t, ← Int.add_assoc]
        refine e_iinc 21 43 (ls' := [some _, some _, some _, some _, some _]) rfl rfl (Nat.le_of_ble_eq_true rfl) rfl rfl ?_
        refine e_iinc 22 46 (ls' := [some _, some _, some _, some _, some _]) rfl rfl (Nat.le_of_ble_eq_true rfl) rfl rfl ?_
        refine e_goto 23 18 rfl rfl ?_
        exact hn (w + 1) (by omega) (by omega)
  have l9 := loop _ [] 0 rfl (by omega) (by simp)
  rw [Int.zero_add] at l9
  refine ⟨σ', ?_, k3⟩
  refine e_entry okX4_entriesFor (Nat.le_of_ble_eq_true rfl) (ls := [some _, some _, some _, none, none]) rfl ?_
  refine e_aload_n 0 1 rfl rfl rfl rfl ?_
  refine g_getR 1 4 ckX4 flX4_31 rfl rfl (Nat.le_of_ble_eq_true rfl) rfl rfl ?_
  refine e_aload_n 2 5 rfl rfl rfl rfl ?_
  refine e_aload_n 3 6 rfl rfl rfl rfl ?_
  refine e_iload_n 4 7 rfl rfl rfl rfl ?_
  refine g_callV 5 10 (hpo) okX4_pathOf cvX4_61 ⟨(Nat.le_of_ble_eq_true rfl), (Nat.le_of_ble_eq_true rfl)⟩ rfl rfl (Nat.le_of_ble_eq_true rfl) rfl rfl rfl rfl rfl (Nat.le_of_ble_eq_true rfl) (Nat.le_of_ble_eq_true rfl) (Nat.le_of_ble_eq_true rfl) ?_
  refine g_callV 6 13 (k1) okX6_gather cvX4_64 ⟨(Nat.le_of_ble_eq_true rfl), (Nat.le_of_ble_eq_true rfl)⟩ rfl rfl isPl_s.1.1 isPl_s.1.2.2.1 rfl rfl rfl rfl (Nat.le_of_ble_eq_true rfl) (Nat.le_of_ble_eq_true rfl) (Nat.le_of_ble_eq_true rfl) ?_
  refine e_iconst 7 14 rfl rfl ?_
  refine e_istore_n 8 15 (ls' := [some _, some _, some _, some _, none]) rfl rfl rfl (Nat.le_of_ble_eq_true rfl) rfl ?_
  refine e_iconst 9 16 rfl rfl ?_
  refine e_istore 10 18 (ls' := [some _, some _, some _, some _, some _]) rfl rfl (Nat.le_of_ble_eq_true rfl) rfl ?_
  exact l9
theorem IXR.fr {σ σ' : xSig} (hX : IXR σ) (h : ∀ b : Nat, 248 ≤ b → b ≤ 253 → σ' b = σ b) : IXR σ' := by
  obtain ⟨q1, q2, q3, q4, q5, q6⟩ := hX
  refine ⟨?_, ?_, ?_, ?_, ?_, ?_⟩
  · rw [h 249 (by decide) (by decide)]; exact q1
  · unfold n01; rw [h 250 (by decide) (by decide)]; exact q2
  · rw [h 248 (by decide) (by decide)]; exact q3
  · rw [h 251 (by decide) (by decide)]; exact q4
  · rw [h 252 (by decide) (by decide)]; exact q5
  · rw [h 253 (by decide) (by decide)]; exact q6
theorem en1_congr {σ σ' : xSig} (h1 : σ' 249 = σ 249) (h2 : σ' 250 = σ 250) (t : List Int) (k : Int) : en1 σ' t k = en1 σ t k := by
  have e1 : pxs σ' k = pxs σ k := by unfold pxs; rw [h1]
  have e2 : hasn σ' k = hasn σ k := by unfold hasn; rw [h2]
  unfold en1
  rw [e1, e2]
theorem en1_bnd {σ : xSig} {t : List Int} (hG : GD t) (hX : IXR σ) {k : Int} (hk : ihas σ k = true) : 0 ≤ en1 σ t k ∧ en1 σ t k ≤ 24 := by
  have hp := pxs_has hX hk
  obtain ⟨g3, g4⟩ := hG.2 _ hp.1 hp.2
  have := cfr_bnd t (atp t (pxs σ k)) []
  unfold en1 enz
  split <;> omega
theorem sp_countEntries {σ : xSig} {T : Nat → List Int} (hA : VAll σ T) (h01 : n01 σ 27) (hX : IXR σ) (hG : GDA σ T) {k : Int} (hk : ihas σ k = true) :
    ∃ σ' : xSig, x_Sp MX4_countEntries 0 0 [.ref 248, .ref 25, .int (ii k)] (St σ) (iv (ent σ T k)) (St σ') ∧ Fr 254 σ σ' := by
  have hki := ihas_in hk
  have loop : ∀ (n i : Nat) (w : Int) (σ1 : xSig), i + n = 100 → Fr 254 σ σ1 → 0 ≤ w → w ≤ 24 * i → ∃ σ' : xSig, x_E MX4_countEntries 0 0 5 [some (.ref 248), some (.ref 25), some (.int (ii k)), some (.int (ii w)), some (.int (ii i))] [] (St σ1) 0 0 (iv (w + smN (fun n => if hasd σ n = true then en1 σ (T (31 + 2 * n)) k else 0) i n)) (St σ') ∧ Fr 254 σ σ' := by
    intro n
    induction n with
    | zero =>
      intro i w σ1 hi hF h0 h1
      refine ⟨σ1, ?_, hF⟩
      simp only [smN, Int.add_zero]
      refine e_iload 4 7 rfl rfl rfl ?_
      refine e_bipush 5 9 rfl rfl rfl ?_
      refine e_icmp_ge 6 41 12 rfl rfl rfl (by unfold xr at *; omega) (by unfold xr at *; omega) (fun _ => ?_) (fun h9 => absurd h9 (by omega))
      refine e_iload_n 22 42 rfl rfl rfl rfl ?_
      exact e_ireturn 23 rfl rfl (Nat.le_of_ble_eq_true rfl) (Nat.le_of_ble_eq_true rfl)
    | succ n ih =>
      intro i w σ1 hi hF h0 h1
      have h27 := hF 27 (by decide) (by decide)
      have h01' : n01 σ1 27 := by unfold n01; rw [h27]; exact h01
      have hh : hasd σ1 i = hasd σ i := hasd_congr h27 i
      have hX1 : IXR σ1 := hX.fr fun b q1 q2 => hF b (by omega) (by omega)
      have hhas := sp_has h01' (n := i) (by unfold xr; omega)
      rw [hh] at hhas
      simp only [smN]
      cases h : hasd σ i with
      | false =>
        obtain ⟨σ', m1, m2⟩ := ih (i + 1) w σ1 (by omega) hF h0 (by omega)
        rw [show (((i + 1 : Nat)) : Int) = (i : Int) + 1 by omega] at m1
        refine ⟨σ', ?_, m2⟩
        rw [if_neg (by decide), Int.zero_add]
        refine e_iload 4 7 rfl rfl rfl ?_
        refine e_bipush 5 9 rfl rfl rfl ?_
        refine e_icmp_ge 6 41 12 rfl rfl rfl (by unfold xr at *; omega) (by unfold xr at *; omega) (fun h9 => absurd h9 (by omega)) (fun _ => ?_)
        refine e_aload_n 7 13 rfl rfl rfl rfl ?_
        refine e_iload 8 15 rfl rfl rfl ?_
        refine g_callV 9 18 (hhas) okX8_has cvX4_47 ⟨(Nat.le_of_ble_eq_true rfl), (Nat.le_of_ble_eq_true rfl)⟩ rfl rfl (Nat.le_of_ble_eq_true rfl) rfl rfl rfl rfl rfl (Nat.le_of_ble_eq_true rfl) (Nat.le_of_ble_eq_true rfl) (Nat.le_of_ble_eq_true rfl) ?_
        refine e_ifb_eq 10 35 21 rfl rfl rfl (fun h2 => ?_) (fun h2 => ?_)
        · skip
          refine e_iinc 20 38 (ls' := [some _, some _, some _, some _, some _]) rfl rfl (Nat.le_of_ble_eq_true rfl) rfl rfl ?_
          refine e_goto 21 5 rfl rfl ?_
          exact m1
        · skip
          rw [h] at h2
          cases h2
      | true =>
        have hG1 := hG i (by omega) h
        have heb := en1_bnd hG1 hX hk
        have hat := sp_stAt h01' (n := i) (by unfold xr; omega)
        rw [da_has (hh.trans h)] at hat
        obtain ⟨σ2, k1, k2⟩ := sp_entriesFor (hA.pl isPl_s.1 hF) hX1 (vO_s i (by omega)).1 hG1 (k := k) (by unfold ihas; rw [hF 249 (by decide) (by decide)]; exact hk)
        rw [en1_congr (hF 249 (by decide) (by decide)) (hF 250 (by decide) (by decide))] at k1
        obtain ⟨σ', m1, m2⟩ := ih (i + 1) (w + en1 σ (T (31 + 2 * i)) k) σ2 (by omega) (hF.tr k2) (by omega) (by omega)
        rw [show (((i + 1 : Nat)) : Int) = (i : Int) + 1 by omega] at m1
        refine ⟨σ', ?_, m2⟩
        rw [if_pos rfl, ← Int.add_assoc]
        refine e_iload 4 7 rfl rfl rfl ?_
        refine e_bipush 5 9 rfl rfl rfl ?_
        refine e_icmp_ge 6 41 12 rfl rfl rfl (by unfold xr at *; omega) (by unfold xr at *; omega) (fun h9 => absurd h9 (by omega)) (fun _ => ?_)
        refine e_aload_n 7 13 rfl rfl rfl rfl ?_
        refine e_iload 8 15 rfl rfl rfl ?_
        refine g_callV 9 18 (hhas) okX8_has cvX4_47 ⟨(Nat.le_of_ble_eq_true rfl), (Nat.le_of_ble_eq_true rfl)⟩ rfl rfl (Nat.le_of_ble_eq_true rfl) rfl rfl rfl rfl rfl (Nat.le_of_ble_eq_true rfl) (Nat.le_of_ble_eq_true rfl) (Nat.le_of_ble_eq_true rfl) ?_
        refine e_ifb_eq 10 35 21 rfl rfl rfl (fun h2 => ?_) (fun h2 => ?_)
        · skip
          rw [h] at h2
          cases h2
        · skip
          refine e_iload_n 11 22 rfl rfl rfl rfl ?_
          refine e_aload_n 12 23 rfl rfl rfl rfl ?_
          refine e_aload_n 13 24 rfl rfl rfl rfl ?_
          refine e_iload 14 26 rfl rfl rfl ?_
          refine g_callV 15 29 (hat) okX8_at cvX4_53 ⟨(Nat.le_of_ble_eq_true rfl), (Nat.le_of_ble_eq_true rfl)⟩ rfl rfl (Nat.le_of_ble_eq_true rfl) rfl rfl rfl rfl rfl (Nat.le_of_ble_eq_true rfl) (Nat.le_of_ble_eq_true rfl) (Nat.le_of_ble_eq_true rfl) ?_
          refine e_iload_n 16 30 rfl rfl rfl rfl ?_
          refine g_callV 17 33 (k1) okX4_entriesFor cvX4_57 ⟨(Nat.le_of_ble_eq_true rfl), (Nat.le_of_ble_eq_true rfl)⟩ rfl rfl (Nat.le_of_ble_eq_true rfl) rfl rfl rfl rfl rfl (Nat.le_of_ble_eq_true rfl) (Nat.le_of_ble_eq_true rfl) (Nat.le_of_ble_eq_true rfl) ?_
          refine e_iadd 18 34 rfl rfl ?_
          refine e_istore_n 19 35 (ls' := [some _, some _, some _, some _, some _]) rfl rfl rfl (Nat.le_of_ble_eq_true rfl) rfl ?_
          refine e_iinc 20 38 (ls' := [some _, some _, some _, some _, some _]) rfl rfl (Nat.le_of_ble_eq_true rfl) rfl rfl ?_
          refine e_goto 21 5 rfl rfl ?_
          exact m1
  obtain ⟨σ', m1, m2⟩ := loop 100 0 0 σ rfl Fr.rf (by omega) (by omega)
  rw [Int.zero_add] at m1
  refine ⟨σ', ?_, m2⟩
  refine e_entry okX4_countEntries (Nat.le_of_ble_eq_true rfl) (ls := [some _, some _, some _, none, none]) rfl ?_
  refine e_iconst 0 1 rfl rfl ?_
  refine e_istore_n 1 2 (ls' := [some _, some _, some _, some _, none]) rfl rfl rfl (Nat.le_of_ble_eq_true rfl) rfl ?_
  refine e_iconst 2 3 rfl rfl ?_
  refine e_istore 3 5 (ls' := [some _, some _, some _, some _, some _]) rfl rfl (Nat.le_of_ble_eq_true rfl) rfl ?_
  exact m1
/-! looks -/
def lk1 (σ : xSig) (rel : Int) (w t : List Int) (k : Int) : Bool := if 0 < (atp t (pxs σ k)).length then (atp t (pxs σ k)).any (ffit rel w t) else hasn σ k && decide (rel = 0 ∧ tok w 0 = 9)
def lkd (σ : xSig) (T : Nat → List Int) (rel : Int) (w : List Int) (k : Int) : Int := smN (fun n => if hasd σ n = true ∧ lk1 σ rel w (T (31 + 2 * n)) k = true then 1 else 0) 0 100
theorem sp_countLooked {σ : xSig} {T : Nat → List Int} (hA : VAll σ T) (h01 : n01 σ 27) (hX : IXR σ) (hG : GDA σ T) {k : Int} (hk : ihas σ k = true) {q : Nat} (hq : isFi q) (hw : Cv (T (q + 1))) (hr : 0 ≤ σ q 2 ∧ σ q 2 ≤ 4) :
    ∃ σ' : xSig, x_Sp MX4_countLooked 0 0 [.ref 248, .ref 25, .int (ii k), .ref q] (St σ) (iv (lkd σ T (σ q 2) (T (q + 1)) k)) (St σ') ∧ Fr 254 σ σ' := by
  have hki := ihas_in hk
  have hp := pxs_has hX hk
  have hqn : q ≠ 254 ∧ q ≠ 255 := ⟨fun e => by have := hq.2.1; rw [e] at this; revert this; decide +kernel, fun e => by have := hq.2.1; rw [e] at this; revert this; decide +kernel⟩
  have loop : ∀ (n i : Nat) (w : Int) (σ1 : xSig), i + n = 100 → Fr 254 σ σ1 → 0 ≤ w → w ≤ i → ∃ σ' : xSig, x_E MX4_countLooked 0 0 6 [some (.ref 248), some (.ref 25), some (.int (ii k)), some (.ref q), some (.int (ii w)), some (.int (ii i)), none, none] [] (St σ1) 0 0 (iv (w + smN (fun n => if hasd σ n = true ∧ lk1 σ (σ q 2) (T (q + 1)) (T (31 + 2 * n)) k = true then 1 else 0) i n)) (St σ') ∧ Fr 254 σ σ' := by
    intro n
    induction n with
    | zero =>
      intro i w σ1 hi hF h0 h1
      refine ⟨σ1, ?_, hF⟩
      simp only [smN, Int.add_zero]
      refine e_iload 4 8 rfl rfl rfl ?_
      refine e_bipush 5 10 rfl rfl rfl ?_
      refine e_icmp_ge 6 110 13 rfl rfl rfl (by unfold xr at *; omega) (by unfold xr at *; omega) (fun _ => ?_) (fun h9 => absurd h9 (by omega))
      refine e_iload 53 112 rfl rfl rfl ?_
      exact e_ireturn 54 rfl rfl (Nat.le_of_ble_eq_true rfl) (Nat.le_of_ble_eq_true rfl)
    | succ n ih =>
      intro i w σ1 hi hF h0 h1
      have h27 := hF 27 (by decide) (by decide)
      have h01' : n01 σ1 27 := by unfold n01; rw [h27]; exact h01
      have hh : hasd σ1 i = hasd σ i := hasd_congr h27 i
      have hX1 : IXR σ1 := hX.fr fun b q1 q2 => hF b (by omega) (by omega)
      have hhas := sp_has h01' (n := i) (by unfold xr; omega)
      rw [hh] at hhas
      have hA1 := hA.pl isPl_s.1 hF
      have eq2 : σ1 q = σ q := hF q hqn.1 hqn.2
      have epx : pxs σ1 k = pxs σ k := by unfold pxs; rw [hF 249 (by decide) (by decide)]
      have ehn : hasn σ1 k = hasn σ k := by unfold hasn; rw [hF 250 (by decide) (by decide)]
      simp only [smN]
      cases h : hasd σ i with
      | false =>
        obtain ⟨σ', m1, m2⟩ := ih (i + 1) w σ1 (by omega) hF h0 (by omega)
        rw [show (((i + 1 : Nat)) : Int) = (i : Int) + 1 by omega] at m1
        refine ⟨σ', ?_, m2⟩
        rw [if_neg (fun z => by cases z.1), Int.zero_add]
        refine e_iload 4 8 rfl rfl rfl ?_
        refine e_bipush 5 10 rfl rfl rfl ?_
        refine e_icmp_ge 6 110 13 rfl rfl rfl (by unfold xr at *; omega) (by unfold xr at *; omega) (fun h9 => absurd h9 (by omega)) (fun _ => ?_)
        refine e_aload_n 7 14 rfl rfl rfl rfl ?_
        refine e_iload 8 16 rfl rfl rfl ?_
        refine g_callV 9 19 (hhas) okX8_has cvX4_47 ⟨(Nat.le_of_ble_eq_true rfl), (Nat.le_of_ble_eq_true rfl)⟩ rfl rfl (Nat.le_of_ble_eq_true rfl) rfl rfl rfl rfl rfl (Nat.le_of_ble_eq_true rfl) (Nat.le_of_ble_eq_true rfl) (Nat.le_of_ble_eq_true rfl) ?_
        refine e_ifb_eq 10 104 22 rfl rfl rfl (fun h2 => ?_) (fun h2 => ?_)
        · skip
          refine e_iinc 51 107 (ls' := [some _, some _, some _, some _, some _, some _, none, none]) rfl rfl (Nat.le_of_ble_eq_true rfl) rfl rfl ?_
          refine e_goto 52 6 rfl rfl ?_
          exact m1
        · skip
          rw [h] at h2
          cases h2
      | true =>
        obtain ⟨g1, g2⟩ := hG i (by omega) h
        obtain ⟨g3, g4⟩ := g2 _ hp.1 hp.2
        have hat := sp_stAt h01' (n := i) (by unfold xr; omega)
        rw [da_has (hh.trans h)] at hat
        have hvd := (vO_s i (by omega)).1
        have hV1 := hA1 _ hvd
        obtain ⟨σ2, k1, k2, k3⟩ := sp_gather hV1 hvd g1 isPl_s.1 hp g3
        have hV2 := hV1.pl hvd isPl_s.1 k3
        have hW2 := (hA1 _ hq.2.2.1).pl hq.2.2.1 isPl_s.1 k3
        rw [hq.2.2.2.1] at hW2
        have eq3 : σ2 q = σ q := (k3 q hqn.1 hqn.2).trans eq2
        have hpo := sp_pathOf (σ := σ1) (i := k) (by unfold xr; omega)
        rw [epx] at hpo
        have hX2 : IXR σ2 := hX1.fr fun b q1 q2 => k3 b (by omega) (by omega)
        have hne := sp_hasEntryForNone hX2 (k := k) (by unfold xr; omega)
        rw [show hasn σ2 k = hasn σ k by rw [← ehn]; unfold hasn; rw [k3 250 (by decide) (by decide)]] at hne
        have hfn := sp_fitsNothing hq hW2 (by rw [eq3]; exact hr)
        rw [eq3] at hfn
        have hfs := sp_fitsSome hq hW2 hw (by rw [eq3]; exact hr) hV2 k2 g4
        rw [eq3] at hfs
        obtain ⟨σ', m1, m2⟩ := ih (i + 1) (w + bi (lk1 σ (σ q 2) (T (q + 1)) (T (31 + 2 * i)) k)) σ2 (by omega) (hF.tr k3) (by have := bi_01 (lk1 σ (σ q 2) (T (q + 1)) (T (31 + 2 * i)) k); omega) (by have := bi_01 (lk1 σ (σ q 2) (T (q + 1)) (T (31 + 2 * i)) k); omega)
        rw [show (((i + 1 : Nat)) : Int) = (i : Int) + 1 by omega] at m1
        refine ⟨σ', ?_, m2⟩
        have tail : ∀ b : Bool, b = lk1 σ (σ q 2) (T (q + 1)) (T (31 + 2 * i)) k → x_E MX4_countLooked 0 0 87 [some (.ref 248), some (.ref 25), some (.int (ii k)), some (.ref q), some (.int (ii w)), some (.int (ii i)), some (.ref (31 + 2 * i)), none] [.int (ii (bi b))] (St σ2) 0 0 (iv (w + ((if true = true ∧ lk1 σ (σ q 2) (T (q + 1)) (T (31 + 2 * i)) k = true then 1 else 0) + smN (fun n => if hasd σ n = true ∧ lk1 σ (σ q 2) (T (q + 1)) (T (31 + 2 * n)) k = true then 1 else 0) (i + 1) n))) (St σ') := by
          intro b hb
          rw [← hb] at m1 ⊢
          refine e_istore 42 89 (ls' := [some _, some _, some _, some _, some _, some _, some _, some _]) rfl rfl (Nat.le_of_ble_eq_true rfl) rfl ?_
          refine e_iload 43 91 rfl rfl rfl ?_
          refine e_iload 44 93 rfl rfl rfl ?_
          refine e_ifb_eq 45 100 96 rfl rfl rfl (fun h2 => ?_) (fun h2 => ?_)
          · skip
            rw [h2, bi_f, Int.add_zero] at m1
            rw [h2, if_neg (fun z => by cases z.2), Int.zero_add]
            refine e_iconst 48 101 rfl rfl ?_
            refine e_iadd 49 102 rfl rfl ?_
            refine e_istore 50 104 (ls' := [some _, some _, some _, some _, some _, some _, some _, some _]) rfl rfl (Nat.le_of_ble_eq_true rfl) rfl ?_
            refine e_iinc 51 107 (ls' := [some _, some _, some _, some _, some _, some _, some _, some _]) rfl rfl (Nat.le_of_ble_eq_true rfl) rfl rfl ?_
            refine e_goto 52 6 rfl rfl ?_
            refine e_dropm [true, true, true, true, true, true, false, false] (ls' := [some _, some _, some _, some _, some _, some _, none, none]) rfl ?_
            rw [Int.add_zero]
            exact m1
          · skip
            rw [h2, bi_t] at m1
            rw [h2, if_pos ⟨rfl, rfl⟩, ← Int.add_assoc]
            refine e_iconst 46 97 rfl rfl ?_
            refine e_goto 47 101 rfl rfl ?_
            refine e_iadd 49 102 rfl rfl ?_
            refine e_istore 50 104 (ls' := [some _, some _, some _, some _, some _, some _, some _, some _]) rfl rfl (Nat.le_of_ble_eq_true rfl) rfl ?_
            refine e_iinc 51 107 (ls' := [some _, some _, some _, some _, some _, some _, some _, some _]) rfl rfl (Nat.le_of_ble_eq_true rfl) rfl rfl ?_
            refine e_goto 52 6 rfl rfl ?_
            refine e_dropm [true, true, true, true, true, true, false, false] (ls' := [some _, some _, some _, some _, some _, some _, none, none]) rfl ?_
            exact m1
        refine e_iload 4 8 rfl rfl rfl ?_
        refine e_bipush 5 10 rfl rfl rfl ?_
        refine e_icmp_ge 6 110 13 rfl rfl rfl (by unfold xr at *; omega) (by unfold xr at *; omega) (fun h9 => absurd h9 (by omega)) (fun _ => ?_)
        refine e_aload_n 7 14 rfl rfl rfl rfl ?_
        refine e_iload 8 16 rfl rfl rfl ?_
        refine g_callV 9 19 (hhas) okX8_has cvX4_47 ⟨(Nat.le_of_ble_eq_true rfl), (Nat.le_of_ble_eq_true rfl)⟩ rfl rfl (Nat.le_of_ble_eq_true rfl) rfl rfl rfl rfl rfl (Nat.le_of_ble_eq_true rfl) (Nat.le_of_ble_eq_true rfl) (Nat.le_of_ble_eq_true rfl) ?_
        refine e_ifb_eq 10 104 22 rfl rfl rfl (fun h2 => ?_) (fun h2 => ?_)
        · skip
          rw [h] at h2
          cases h2
        · skip
          refine e_aload_n 11 23 rfl rfl rfl rfl ?_
          refine e_iload 12 25 rfl rfl rfl ?_
          refine g_callV 13 28 (hat) okX8_at cvX4_53 ⟨(Nat.le_of_ble_eq_true rfl), (Nat.le_of_ble_eq_true rfl)⟩ rfl rfl (Nat.le_of_ble_eq_true rfl) rfl rfl rfl rfl rfl (Nat.le_of_ble_eq_true rfl) (Nat.le_of_ble_eq_true rfl) (Nat.le_of_ble_eq_true rfl) ?_
          refine e_astore 14 30 (ls' := [some _, some _, some _, some _, some _, some _, some _, none]) rfl rfl (Nat.le_of_ble_eq_true rfl) rfl ?_
          refine e_aload_n 15 31 rfl rfl rfl rfl ?_
          refine g_getR 16 34 ckX4 flX4_31 rfl rfl (Nat.le_of_ble_eq_true rfl) rfl rfl ?_
          refine e_aload 17 36 rfl rfl rfl ?_
          refine e_aload_n 18 37 rfl rfl rfl rfl ?_
          refine e_iload_n 19 38 rfl rfl rfl rfl ?_
          refine g_callV 20 41 (hpo) okX4_pathOf cvX4_61 ⟨(Nat.le_of_ble_eq_true rfl), (Nat.le_of_ble_eq_true rfl)⟩ rfl rfl (Nat.le_of_ble_eq_true rfl) rfl rfl rfl rfl rfl (Nat.le_of_ble_eq_true rfl) (Nat.le_of_ble_eq_true rfl) (Nat.le_of_ble_eq_true rfl) ?_
          refine g_callV 21 44 (k1) okX6_gather cvX4_64 ⟨(Nat.le_of_ble_eq_true rfl), (Nat.le_of_ble_eq_true rfl)⟩ rfl rfl isPl_s.1.1 isPl_s.1.2.2.1 rfl rfl rfl rfl (Nat.le_of_ble_eq_true rfl) (Nat.le_of_ble_eq_true rfl) (Nat.le_of_ble_eq_true rfl) ?_
          refine e_aload_n 22 45 rfl rfl rfl rfl ?_
          refine g_getR 23 48 ckX4 flX4_31 rfl rfl (Nat.le_of_ble_eq_true rfl) rfl rfl ?_
          refine g_callV 24 51 (sp_plSize k2) okX6_size cvX4_68 ⟨(Nat.le_of_ble_eq_true rfl), (Nat.le_of_ble_eq_true rfl)⟩ rfl rfl isPl_s.1.1 isPl_s.1.2.2.1 rfl rfl rfl rfl (Nat.le_of_ble_eq_true rfl) (Nat.le_of_ble_eq_true rfl) (Nat.le_of_ble_eq_true rfl) ?_
          refine e_if_le 25 67 54 rfl rfl rfl (by unfold xr at *; omega) (fun h3 => ?_) (fun h3 => ?_)
          · skip
            have e : lk1 σ (σ q 2) (T (q + 1)) (T (31 + 2 * i)) k = (hasn σ k && decide (σ q 2 = 0 ∧ tok (T (q + 1)) 0 = 9)) := by unfold lk1; rw [if_neg (by omega)]
            refine e_aload_n 32 68 rfl rfl rfl rfl ?_
            refine e_iload_n 33 69 rfl rfl rfl rfl ?_
            refine g_callV 34 72 (hne) okX4_hasEntryForNone cvX4_76 ⟨(Nat.le_of_ble_eq_true rfl), (Nat.le_of_ble_eq_true rfl)⟩ rfl rfl (Nat.le_of_ble_eq_true rfl) rfl rfl rfl rfl rfl (Nat.le_of_ble_eq_true rfl) (Nat.le_of_ble_eq_true rfl) (Nat.le_of_ble_eq_true rfl) ?_
            refine e_ifb_eq 35 86 75 rfl rfl rfl (fun h4 => ?_) (fun h4 => ?_)
            · skip
              refine e_iconst 41 87 rfl rfl ?_
              exact tail false (by rw [e, h4, Bool.false_and])
            · skip
              refine e_aload_n 36 76 rfl rfl rfl rfl ?_
              refine g_callV 37 79 (hfn) okX2_fitsNothing cvX4_93 ⟨(Nat.le_of_ble_eq_true rfl), (Nat.le_of_ble_eq_true rfl)⟩ rfl rfl hq.1 hq.2.1 rfl rfl rfl rfl (Nat.le_of_ble_eq_true rfl) (Nat.le_of_ble_eq_true rfl) (Nat.le_of_ble_eq_true rfl) ?_
              refine e_ifb_eq 38 86 82 rfl rfl rfl (fun h5 => ?_) (fun h5 => ?_)
              · skip
                refine e_iconst 41 87 rfl rfl ?_
                exact tail false (by rw [e, h4, h5]; rfl)
              · skip
                refine e_iconst 39 83 rfl rfl ?_
                refine e_goto 40 87 rfl rfl ?_
                exact tail true (by rw [e, h4, h5]; rfl)
          · skip
            refine e_aload_n 26 55 rfl rfl rfl rfl ?_
            refine e_aload 27 57 rfl rfl rfl ?_
            refine e_aload_n 28 58 rfl rfl rfl rfl ?_
            refine g_getR 29 61 ckX4 flX4_31 rfl rfl (Nat.le_of_ble_eq_true rfl) rfl rfl ?_
            refine g_callV 30 64 (hfs) okX2_fitsSome cvX4_87 ⟨(Nat.le_of_ble_eq_true rfl), (Nat.le_of_ble_eq_true rfl)⟩ rfl rfl hq.1 hq.2.1 rfl rfl rfl rfl (Nat.le_of_ble_eq_true rfl) (Nat.le_of_ble_eq_true rfl) (Nat.le_of_ble_eq_true rfl) ?_
            refine e_goto 31 87 rfl rfl ?_
            exact tail _ (by unfold lk1; rw [if_pos (by omega)])
  obtain ⟨σ', m1, m2⟩ := loop 100 0 0 σ rfl Fr.rf (by omega) (by omega)
  rw [Int.zero_add] at m1
  refine ⟨σ', ?_, m2⟩
  refine e_entry okX4_countLooked (Nat.le_of_ble_eq_true rfl) (ls := [some _, some _, some _, some _, none, none, none, none]) rfl ?_
  refine e_iconst 0 1 rfl rfl ?_
  refine e_istore 1 3 (ls' := [some _, some _, some _, some _, some _, none, none, none]) rfl rfl (Nat.le_of_ble_eq_true rfl) rfl ?_
  refine e_iconst 2 4 rfl rfl ?_
  refine e_istore 3 6 (ls' := [some _, some _, some _, some _, some _, some _, none, none]) rfl rfl (Nat.le_of_ble_eq_true rfl) rfl ?_
  exact m1
