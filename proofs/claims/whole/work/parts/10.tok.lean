/-! ===== rows of signs ===== -/
def tok (t : List Int) (i : Int) : Int := if 0 ≤ i then t.getD i.toNat 0 else 0
def trn (x : Int) : Int := if 4000 ≤ x then 1 else if x = 0 then -1 else 0
def dsum : List Int → Int
  | [] => 0
  | x :: r => trn x + dsum r
theorem dsum_app (a b : List Int) : dsum (a ++ b) = dsum a + dsum b := by
  induction a with
  | nil => simp [dsum]
  | cons x r ih => simp only [List.cons_append, dsum, ih]; omega
theorem trn_in (x : Int) : trn x = 1 ∨ trn x = -1 ∨ trn x = 0 := by
  unfold trn
  split
  · exact Or.inl rfl
  · split
    · exact Or.inr (Or.inl rfl)
    · exact Or.inr (Or.inr rfl)
/-- one value, whole: the depth is back at 0 at its end, and not before -/
def Cv (v : List Int) : Prop := dsum v = 0 ∧ 0 < v.length ∧ ∀ k : Nat, 0 < k → k < v.length → 1 ≤ dsum (v.take k)
theorem tok_nat (t : List Int) (i : Nat) : tok t i = t.getD i 0 := by
  unfold tok
  rw [if_pos (Int.natCast_nonneg i)]
  rfl
theorem tok_neg {t : List Int} {i : Int} (h : i < 0) : tok t i = 0 := by
  unfold tok
  rw [if_neg (by omega)]
theorem tok_big {t : List Int} {i : Int} (h : (t.length : Int) ≤ i) : tok t i = 0 := by
  unfold tok
  rw [if_pos (by omega), List.getD_eq_getElem?_getD, List.getElem?_eq_none_iff.mpr (by omega)]
  rfl
theorem tok_mid (pre v suf : List Int) (k : Nat) (h : k < v.length) : tok (pre ++ v ++ suf) ((pre.length : Int) + k) = v.getD k 0 := by
  have e : ((pre.length : Int) + k) = ((pre.length + k : Nat) : Int) := by omega
  rw [e, tok_nat, List.getD_eq_getElem?_getD, List.getD_eq_getElem?_getD, List.append_assoc, List.getElem?_append_right (by omega), List.getElem?_append_left (by omega)]
  congr 2
  omega
theorem dsum_take (v : List Int) (k : Nat) (h : k < v.length) : dsum (v.take (k + 1)) = dsum (v.take k) + trn (v.getD k 0) := by
  rw [List.take_succ, dsum_app, List.getD_eq_getElem?_getD, List.getElem?_eq_getElem h]
  simp [dsum]
theorem dsum_bnd (v : List Int) : -(v.length : Int) ≤ dsum v ∧ dsum v ≤ v.length := by
  induction v with
  | nil => simp [dsum]
  | cons x r ih =>
    simp only [dsum, List.length_cons]
    rcases trn_in x with h | h | h <;> rw [h] <;> omega
/-- the object of Value at a holds the row t -/
def VH (σ : xSig) (a cap : Nat) (t : List Int) : Prop := isVal a cap ∧ σ a 1 = t.length ∧ t.length ≤ cap ∧ cap ≤ 200 ∧ (∀ i : Nat, i < t.length → σ (a + 1) i = t.getD i 0) ∧ ∀ x ∈ t, 0 ≤ x ∧ x < 6000
theorem VH.tok {σ : xSig} {a cap : Nat} {t : List Int} (h : VH σ a cap t) {i : Int} (h0 : 0 ≤ i) (h1 : i < t.length) : σ (a + 1) i = tok t i := by
  have e : i = ((i.toNat : Nat) : Int) := by omega
  rw [e, tok_nat]
  exact h.2.2.2.2.1 _ (by omega)
theorem tok_bnd {t : List Int} (h : ∀ x ∈ t, 0 ≤ x ∧ x < 6000) (i : Int) : 0 ≤ tok t i ∧ tok t i < 6000 := by
  unfold tok
  split
  · rw [List.getD_eq_getElem?_getD]
    cases hq : t[i.toNat]? with
    | none => simp
    | some x => exact h x (List.mem_of_getElem? hq)
  · omega
