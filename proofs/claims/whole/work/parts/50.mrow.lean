/-! ===== the model: bits ===== -/
def lbt (x : Int64) (j : Int) : Bool := x.toBitVec.getLsbD j.toNat
theorem s_l64 : ∀ n, n < 60 → (((ii (n : Nat)).toInt64 &&& 63).toBitVec.smod 64).toNat = n := by decide +kernel
theorem l_andx (x : Int64) : (x &&& ll 1 = ll (bi (lbt x 0))) := by
  apply Int64.toBitVec_inj.1
  rw [Int64.toBitVec_and]
  have e1 : (ll 1).toBitVec = 1#64 := by decide
  have e0 : (ll 0).toBitVec = 0#64 := by decide
  rw [e1]
  apply BitVec.eq_of_getLsbD_eq
  intro i hi
  unfold lbt
  cases hx : x.toBitVec.getLsbD (0 : Int).toNat with
  | true =>
    show _ = (ll 1).toBitVec.getLsbD i
    rw [e1]
    cases i with
    | zero => simpa using hx
    | succ i => simp
  | false =>
    show _ = (ll 0).toBitVec.getLsbD i
    rw [e0]
    cases i with
    | zero => simpa using hx
    | succ i => simp
theorem l_shr0 (x : Int64) {d : Int} (h0 : 0 ≤ d) (h1 : d < 60) : lbt (x >>> ((ii d).toInt64 &&& 63)) 0 = lbt x d := by
  obtain ⟨n, rfl⟩ : ∃ n : Nat, d = n := ⟨d.toNat, by omega⟩
  unfold lbt
  rw [Int64.toBitVec_shiftRight]
  show (x.toBitVec.sshiftRight (((ii (n : Nat)).toInt64 &&& 63).toBitVec.smod 64).toNat).getLsbD 0 = _
  rw [s_l64 n (by omega), BitVec.getLsbD_sshiftRight]
  have : n < 64 := by omega
  simp [this]
theorem l_cmp1 (b : Bool) : lg_cmp (ll (bi b)) (ll 1) = ii (bi b - 1) := by cases b <;> decide
/-- the bit of a depth, as it is looked at -/
theorem l_bit (x : Int64) {d : Int} (h0 : 0 ≤ d) (h1 : d < 60) : lg_cmp (x >>> ((ii d).toInt64 &&& 63) &&& ll 1) (ll 1) = ii (bi (lbt x d) - 1) := by
  rw [l_andx, l_shr0 x h0 h1, l_cmp1]
theorem l_shl1 {d j : Int} (h0 : 0 ≤ d) (h1 : d < 60) (h2 : 0 ≤ j) (h3 : j < 60) : lbt (ll 1 <<< ((ii d).toInt64 &&& 63)) j = decide (j = d) := by
  obtain ⟨n, rfl⟩ : ∃ n : Nat, d = n := ⟨d.toNat, by omega⟩
  obtain ⟨i, rfl⟩ : ∃ i : Nat, j = i := ⟨j.toNat, by omega⟩
  unfold lbt
  rw [Int64.toBitVec_shiftLeft]
  show ((ll 1).toBitVec <<< (((ii (n : Nat)).toInt64 &&& 63).toBitVec.smod 64).toNat).getLsbD i = _
  rw [s_l64 n (by omega), show (ll 1).toBitVec = 1#64 from by decide, BitVec.getLsbD_shiftLeft]
  by_cases e : i = n
  · subst e
    have : i < 64 := by omega
    simp [this]
  · rw [show decide ((i : Int) = (n : Int)) = false from decide_eq_false (fun q => e (by omega))]
    rcases Nat.lt_or_ge i n with h | h
    · simp [h]
    · have : i - n ≠ 0 := by omega
      simp [this]
theorem l_or (x y : Int64) (j : Int) : lbt (x ||| y) j = (lbt x j || lbt y j) := by
  unfold lbt
  rw [Int64.toBitVec_or, BitVec.getLsbD_or]
theorem l_andn (x y : Int64) {j : Int} (h : 0 ≤ j) (h3 : j < 60) : lbt (x &&& (y ^^^ ll (-1))) j = (lbt x j && !lbt y j) := by
  obtain ⟨i, rfl⟩ : ∃ i : Nat, j = i := ⟨j.toNat, by omega⟩
  unfold lbt
  rw [Int64.toBitVec_and, Int64.toBitVec_xor, show (ll (-1)).toBitVec = BitVec.allOnes 64 from by decide, BitVec.getLsbD_and, BitVec.getLsbD_xor, BitVec.getLsbD_allOnes]
  have : i < 64 := by omega
  simp [this]
/-! ===== how the model lays a value ===== -/
def lf (x : Int) : List Int := if knd x = 1 then [1, x - 2000] else if knd x = 2 then [2, x - 3000] else [0]
def en : Fo → List Int
  | .num _ => []
  | .var _ => []
  | .neg _ => []
  | .mulL k F => k :: en F
  | .mulR n x => lf x ++ en n
  | .add c n => 4 :: (en c ++ -1 :: en n)
  | .sub c n => 3 :: (en c ++ -1 :: en n)
theorem lfx_k {x : Int} (h : lfx x) : (x = 9 ∧ knd x = 0) ∨ ((1001 ≤ x ∧ x ≤ 2999) ∧ knd x = 1) ∨ ((3000 ≤ x ∧ x ≤ 3099) ∧ knd x = 2) := by
  unfold lfx at h
  rcases h with h | h | h
  · exact Or.inl ⟨h, by rw [h]; decide⟩
  · refine Or.inr (Or.inl ⟨h, ?_⟩)
    unfold knd
    rw [if_neg (by omega), if_neg (by omega), if_neg (by omega), if_pos (by omega)]
  · refine Or.inr (Or.inr ⟨h, ?_⟩)
    unfold knd
    rw [if_neg (by omega), if_neg (by omega), if_pos (by omega)]
theorem lf_len (x : Int) : 1 ≤ (lf x).length ∧ (lf x).length ≤ 2 := by
  unfold lf
  split
  · simp
  · split <;> simp
theorem lf_hd {x : Int} (h : lfx x) : ∃ r, lf x = knd x :: r ∧ (((knd x = 1 ∨ knd x = 2) ∧ (lf x).length = 2) ∨ (knd x = 0 ∧ (lf x).length = 1)) := by
  rcases lfx_k h with ⟨h1, h2⟩ | ⟨h1, h2⟩ | ⟨h1, h2⟩
  · exact ⟨[], by unfold lf; rw [h2]; rfl, Or.inr ⟨h2, by unfold lf; rw [h2]; rfl⟩⟩
  · exact ⟨[x - 2000], by unfold lf; rw [h2]; rfl, Or.inl ⟨Or.inl h2, by unfold lf; rw [h2]; rfl⟩⟩
  · exact ⟨[x - 3000], by unfold lf; rw [h2]; rfl, Or.inl ⟨Or.inr h2, by unfold lf; rw [h2]; rfl⟩⟩
theorem en_len : ∀ F : Fo, ∀ (b v : Bool) (lo : Int), okf b v lo F → ((en F).length : Int) + (if v = true then 1 else 0) ≤ 3 * pa F := by
  intro F
  induction F with
  | num z =>
    intro b v lo h
    obtain ⟨rfl, -⟩ := h
    simp [en, pa]
  | var z =>
    intro b v lo h
    exact h.elim
  | neg z ih =>
    intro b v lo h
    exact h.elim
  | mulL k F ih =>
    intro b v lo h
    obtain ⟨rfl, rfl, h3, h4⟩ := h
    have := ih _ _ _ h4
    simp only [en, pa, List.length_cons, if_true, Bool.false_eq_true, if_false] at this ⊢
    omega
  | mulR n x ih =>
    intro b v lo h
    obtain ⟨rfl, h2, h3⟩ := h
    have := ih _ _ _ h3
    have hl := lf_len x
    simp only [en, pa, List.length_append, Bool.false_eq_true, if_false] at this ⊢
    split <;> omega
  | add c n ihc ihn =>
    intro b v lo h
    obtain ⟨rfl, h2, h3⟩ := h
    have q1 := ihc _ _ _ h2
    have q2 := ihn _ _ _ h3
    simp only [en, pa, List.length_cons, List.length_append, Bool.false_eq_true, if_false] at q1 q2 ⊢
    split <;> omega
  | sub c n ihc ihn =>
    intro b v lo h
    obtain ⟨rfl, h2, h3⟩ := h
    have q1 := ihc _ _ _ h2
    have q2 := ihn _ _ _ h3
    simp only [en, pa, List.length_cons, List.length_append, Bool.false_eq_true, if_false] at q1 q2 ⊢
    split <;> omega
/-- a stretch of a row -/
def EA (σ : xSig) (a : Nat) (p : Int) (t : List Int) : Prop := ∀ i : Nat, i < t.length → σ a (p + i) = t.getD i 0
theorem EA.cons {σ : xSig} {a : Nat} {p x : Int} {t : List Int} (h : EA σ a p (x :: t)) : σ a p = x ∧ EA σ a (p + 1) t := by
  refine ⟨?_, fun i hi => ?_⟩
  · have := h 0 (by simp)
    simpa using this
  · have := h (i + 1) (by simp only [List.length_cons]; omega)
    rw [show p + 1 + (i : Int) = p + ((i + 1 : Nat) : Int) by omega, this]
    rfl
theorem EA.mk {σ : xSig} {a : Nat} {p x : Int} {t : List Int} (h1 : σ a p = x) (h2 : EA σ a (p + 1) t) : EA σ a p (x :: t) := by
  intro i hi
  cases i with
  | zero => simpa using h1
  | succ i =>
    have := h2 i (by simpa using hi)
    rw [show p + ((i + 1 : Nat) : Int) = p + 1 + (i : Int) by omega, this]
    rfl
theorem EA.nil {σ : xSig} {a : Nat} {p : Int} : EA σ a p [] := fun i hi => by simp at hi
theorem EA.app {σ : xSig} {a : Nat} {t u : List Int} : ∀ {p : Int}, EA σ a p (t ++ u) → EA σ a p t ∧ EA σ a (p + t.length) u := by
  induction t with
  | nil => intro p h; exact ⟨EA.nil, by simpa using h⟩
  | cons x t ih =>
    intro p h
    obtain ⟨h1, h2⟩ := EA.cons h
    obtain ⟨h3, h4⟩ := ih h2
    refine ⟨EA.mk h1 h3, ?_⟩
    rw [show p + ((x :: t).length : Int) = p + 1 + (t.length : Int) by simp only [List.length_cons]; omega]
    exact h4
theorem EA.cat {σ : xSig} {a : Nat} {t u : List Int} : ∀ {p : Int}, EA σ a p t → EA σ a (p + t.length) u → EA σ a p (t ++ u) := by
  induction t with
  | nil => intro p _ h; simpa using h
  | cons x t ih =>
    intro p h1 h2
    obtain ⟨h3, h4⟩ := EA.cons h1
    refine EA.mk h3 (ih h4 ?_)
    rw [show p + 1 + (t.length : Int) = p + ((x :: t).length : Int) by simp only [List.length_cons]; omega]
    exact h2
theorem EA.at {σ : xSig} {a : Nat} {p : Int} {t : List Int} (h : EA σ a p t) {i : Int} (h0 : 0 ≤ i) (h1 : i < t.length) : σ a (p + i) = t.getD i.toNat 0 := by
  have := h i.toNat (by omega)
  rwa [show ((i.toNat : Nat) : Int) = i by omega] at this
theorem EA.of {σ σ' : xSig} {a : Nat} {p : Int} {t : List Int} (h : EA σ a p t) (hs : ∀ i : Int, p ≤ i → i < p + t.length → σ' a i = σ a i) : EA σ' a p t := by
  intro i hi
  rw [hs _ (by omega) (by omega)]
  exact h i hi
/-- a row of numbers -/
def isMA (a n : Nat) : Prop := a < N0 ∧ SH a = .inl (0, n) ∧ n ≤ 20000 ∧ a ≠ 311
theorem isMA_all : isMA 282 11300 := ⟨Nat.le_of_ble_eq_true rfl, rfl, by omega, by omega⟩
theorem isMA_val : isMA 284 400 := ⟨Nat.le_of_ble_eq_true rfl, rfl, by omega, by omega⟩
theorem isMA_made : isMA 285 400 := ⟨Nat.le_of_ble_eq_true rfl, rfl, by omega, by omega⟩
/-- a value lies at a place of a row -/
def MV (σ : xSig) (a n : Nat) (p : Int) (v : Fo) : Prop := isMA a n ∧ ok1 v ∧ pa v ≤ 52 ∧ 0 ≤ p ∧ p + (en v).length ≤ n ∧ EA σ a p (en v)
theorem ok1_pa {v : Fo} (h : ok1 v) : 1 ≤ pa v ∧ ((en v).length : Int) ≤ 3 * pa v ∧ 1 ≤ (en v).length := by
  have q := en_len v _ _ _ (ok1_okf h)
  simp only [Bool.false_eq_true, if_false] at q
  refine ⟨?_, by omega, ?_⟩
  · rcases h with ⟨x, rfl, h2⟩ | ⟨c, rfl, h2⟩ | ⟨c, rfl, h2⟩
    · simp [pa]
    · have := pa_nn c; simp only [pa]; omega
    · have := pa_nn c; simp only [pa]; omega
  · rcases h with ⟨x, rfl, h2⟩ | ⟨c, rfl, h2⟩ | ⟨c, rfl, h2⟩
    · have := lf_len x; simp only [en, List.length_append]; omega
    · simp [en]
    · simp [en]
/-! ===== small ones ===== -/
theorem sp_mThrown {σ : xSig} : Rd MX12_thrown [.ref 281] σ (iv (σ 281 47)) := by
  refine e_entry okX12_thrown (Nat.le_of_ble_eq_true rfl) (ls := [some _]) rfl ?_
  refine e_aload_n 0 1 rfl rfl rfl rfl ?_
  refine g_getI 1 4 47 ckX12 flX12_118 rfl rfl (Nat.le_of_ble_eq_true rfl) rfl rfl rfl rfl ?_
  exact e_ireturn 2 rfl rfl (Nat.le_of_ble_eq_true rfl) (Nat.le_of_ble_eq_true rfl)
theorem sp_mIn {σ : xSig} {x y z : Int} (hx : xr x) (hy : xr y) (hz : xr z) : Rd MX12_in [.int (ii x), .int (ii y), .int (ii z)] σ (zv (decide (y ≤ x ∧ x ≤ z))) := by
  refine e_entry okX12_in (Nat.le_of_ble_eq_true rfl) (ls := [some _, some _, some _]) rfl ?_
  refine e_iload_n 0 1 rfl rfl rfl rfl ?_
  refine e_iload_n 1 2 rfl rfl rfl rfl ?_
  refine e_icmp_lt 2 14 5 rfl rfl rfl hx hy (fun h => ?_) (fun h => ?_)
  · skip
    rw [decide_eq_false (by omega)]
    refine e_iconst 8 15 rfl rfl ?_
    exact e_zreturn (x := 0) 9 rfl rfl (by omega) (Nat.le_of_ble_eq_true rfl) (Nat.le_of_ble_eq_true rfl)
  · skip
    refine e_iload_n 3 6 rfl rfl rfl rfl ?_
    refine e_iload_n 4 7 rfl rfl rfl rfl ?_
    refine e_icmp_gt 5 14 10 rfl rfl rfl hx hz (fun h2 => ?_) (fun h2 => ?_)
    · skip
      rw [decide_eq_false (by omega)]
      refine e_iconst 8 15 rfl rfl ?_
      exact e_zreturn (x := 0) 9 rfl rfl (by omega) (Nat.le_of_ble_eq_true rfl) (Nat.le_of_ble_eq_true rfl)
    · skip
      rw [decide_eq_true (by omega)]
      refine e_iconst 6 11 rfl rfl ?_
      refine e_goto 7 15 rfl rfl ?_
      exact e_zreturn (x := 1) 9 rfl rfl (by omega) (Nat.le_of_ble_eq_true rfl) (Nat.le_of_ble_eq_true rfl)
/-- which exception is due: 0 for none -/
def gcode (a b c : Bool) : Int := bif a then (bif b then (bif c then 0 else 3) else 2) else 1
theorem sp_mGoes {σ : xSig} {a b c : Bool} : x_Sp MX12_goes 0 0 [.ref 281, .int (ii (bi a)), .int (ii (bi b)), .int (ii (bi c))] (St σ) (zv (a && (b && c))) (St (xu σ 281 47 (gcode a b c))) := by
  have fin : ∀ z : Int, 0 ≤ z → z ≤ 3 → x_E MX12_goes 0 0 26 [some (.ref 281), some (.int (ii (bi a))), some (.int (ii (bi b))), some (.int (ii (bi c)))] [.int (ii z), .ref 281] (St σ) 0 0 (zv (decide (z = 0))) (St (xu σ 281 47 z)) := by
    intro z h0 h3
    refine g_putI 14 29 47 ckX12 flX12_118 rfl rfl (Nat.le_of_ble_eq_true rfl) rfl rfl rfl ?_
    refine e_aload_n 15 30 rfl rfl rfl rfl ?_
    refine g_getI 16 33 47 ckX12 flX12_118 rfl rfl (Nat.le_of_ble_eq_true rfl) rfl rfl rfl (xu_same σ 281 47 z) ?_
    refine e_if_ne 17 40 36 rfl rfl rfl (by unfold xr at *; omega) (fun h => ?_) (fun h => ?_)
    · skip
      rw [decide_eq_false h]
      refine e_iconst 20 41 rfl rfl ?_
      exact e_zreturn (x := 0) 21 rfl rfl (by omega) (Nat.le_of_ble_eq_true rfl) (Nat.le_of_ble_eq_true rfl)
    · skip
      rw [decide_eq_true h]
      refine e_iconst 18 37 rfl rfl ?_
      refine e_goto 19 41 rfl rfl ?_
      exact e_zreturn (x := 1) 21 rfl rfl (by omega) (Nat.le_of_ble_eq_true rfl) (Nat.le_of_ble_eq_true rfl)
  refine e_entry okX12_goes (Nat.le_of_ble_eq_true rfl) (ls := [some _, some _, some _, some _]) rfl ?_
  refine e_aload_n 0 1 rfl rfl rfl rfl ?_
  refine e_iload_n 1 2 rfl rfl rfl rfl ?_
  refine e_ifb_ne 2 9 5 rfl rfl rfl (fun h1 => ?_) (fun h1 => ?_)
  · skip
    subst h1
    refine e_iload_n 5 10 rfl rfl rfl rfl ?_
    refine e_ifb_ne 6 17 13 rfl rfl rfl (fun h2 => ?_) (fun h2 => ?_)
    · skip
      subst h2
      refine e_iload_n 9 18 rfl rfl rfl rfl ?_
      refine e_ifb_eq 10 25 21 rfl rfl rfl (fun h3 => ?_) (fun h3 => ?_)
      · skip
        subst h3
        refine e_iconst 13 26 rfl rfl ?_
        exact fin 3 (by omega) (by omega)
      · skip
        subst h3
        refine e_iconst 11 22 rfl rfl ?_
        refine e_goto 12 26 rfl rfl ?_
        exact fin 0 (by omega) (by omega)
    · skip
      subst h2
      refine e_iconst 7 14 rfl rfl ?_
      refine e_goto 8 26 rfl rfl ?_
      exact fin 2 (by omega) (by omega)
  · skip
    subst h1
    refine e_iconst 3 6 rfl rfl ?_
    refine e_goto 4 26 rfl rfl ?_
    exact fin 1 (by omega) (by omega)
theorem sp_mIsLong {σ : xSig} {x : Int} (hx : xr x) : Rd MX12_isLong [.int (ii x)] σ (zv (decide (x = 1 ∨ x = 2))) := by
  refine e_entry okX12_isLong (Nat.le_of_ble_eq_true rfl) (ls := [some _]) rfl ?_
  refine e_iload_n 0 1 rfl rfl rfl rfl ?_
  refine e_iconst 1 2 rfl rfl ?_
  refine e_icmp_eq 2 10 5 rfl rfl rfl hx (by unfold xr at *; omega) (fun h => ?_) (fun h => ?_)
  · skip
    rw [decide_eq_true (Or.inl h)]
    refine e_iconst 6 11 rfl rfl ?_
    refine e_goto 7 15 rfl rfl ?_
    exact e_zreturn (x := 1) 9 rfl rfl (by omega) (Nat.le_of_ble_eq_true rfl) (Nat.le_of_ble_eq_true rfl)
  · skip
    refine e_iload_n 3 6 rfl rfl rfl rfl ?_
    refine e_iconst 4 7 rfl rfl ?_
    refine e_icmp_ne 5 14 10 rfl rfl rfl hx (by unfold xr at *; omega) (fun h2 => ?_) (fun h2 => ?_)
    · skip
      rw [decide_eq_false (by omega)]
      refine e_iconst 8 15 rfl rfl ?_
      exact e_zreturn (x := 0) 9 rfl rfl (by omega) (Nat.le_of_ble_eq_true rfl) (Nat.le_of_ble_eq_true rfl)
    · skip
      rw [decide_eq_true (Or.inr h2)]
      refine e_iconst 6 11 rfl rfl ?_
      refine e_goto 7 15 rfl rfl ?_
      exact e_zreturn (x := 1) 9 rfl rfl (by omega) (Nat.le_of_ble_eq_true rfl) (Nat.le_of_ble_eq_true rfl)
theorem sp_mBlock {σ : xSig} {x : Int} : Rd MX12_block [.int (ii x)] σ (iv (100 * x + 1)) := by
  refine e_entry okX12_block (Nat.le_of_ble_eq_true rfl) (ls := [some _]) rfl ?_
  refine e_bipush 0 2 rfl rfl rfl ?_
  refine e_iload_n 1 3 rfl rfl rfl rfl ?_
  refine e_imul 2 4 rfl rfl ?_
  refine e_iconst 3 5 rfl rfl ?_
  refine e_iadd 4 6 rfl rfl ?_
  exact e_ireturn 5 rfl rfl (Nat.le_of_ble_eq_true rfl) (Nat.le_of_ble_eq_true rfl)
theorem sp_mPile {σ : xSig} {x : Int} : Rd MX12_pile [.int (ii x)] σ (iv (100 * (100 + x) + 1)) := by
  refine e_entry okX12_pile (Nat.le_of_ble_eq_true rfl) (ls := [some _]) rfl ?_
  refine e_bipush 0 2 rfl rfl rfl ?_
  refine e_iload_n 1 3 rfl rfl rfl rfl ?_
  refine e_iadd 2 4 rfl rfl ?_
  refine g_callS 3 7 (sp_mBlock (x := 100 + x)) okX12_block csX12_142 ⟨(Nat.le_of_ble_eq_true rfl), (Nat.le_of_ble_eq_true rfl)⟩ rfl rfl rfl rfl (Nat.le_of_ble_eq_true rfl) (Nat.le_of_ble_eq_true rfl) (Nat.le_of_ble_eq_true rfl) ?_
  exact e_ireturn 4 rfl rfl (Nat.le_of_ble_eq_true rfl) (Nat.le_of_ble_eq_true rfl)
theorem sp_mTop {σ : xSig} : Rd MX12_top [.ref 281] σ (iv (100 * (100 + (σ 281 3 - 1)) + 1)) := by
  refine e_entry okX12_top (Nat.le_of_ble_eq_true rfl) (ls := [some _]) rfl ?_
  refine e_aload_n 0 1 rfl rfl rfl rfl ?_
  refine g_getI 1 4 3 ckX12 flX12_146 rfl rfl (Nat.le_of_ble_eq_true rfl) rfl rfl rfl rfl ?_
  refine e_iconst 2 5 rfl rfl ?_
  refine e_isub 3 6 rfl rfl ?_
  refine g_callS 4 9 (sp_mPile (x := σ 281 3 - 1)) okX12_pile csX12_149 ⟨(Nat.le_of_ble_eq_true rfl), (Nat.le_of_ble_eq_true rfl)⟩ rfl rfl rfl rfl (Nat.le_of_ble_eq_true rfl) (Nat.le_of_ble_eq_true rfl) (Nat.le_of_ble_eq_true rfl) ?_
  exact e_ireturn 5 rfl rfl (Nat.le_of_ble_eq_true rfl) (Nat.le_of_ble_eq_true rfl)
