/-! ===== rows of signs ===== -/
def tok (t : List Int) (i : Int) : Int := if 0 ≤ i then t.getD i.toNat 0 else 0
def trn (x : Int) : Int := if 4000 ≤ x then 1 else if x = 0 then -1 else 0
def dsum : List Int → Int
  | [] => 0
  | x :: r => trn x + dsum r
theorem dsum_app (a b : List Int) : dsum (a ++ b) = dsum a + dsum b := by
  induction a with
  | nil => simp [dsum]
  | cons x r ih => simp only [List.cons_append, dsum, ih]; omega
theorem trn_in (x : Int) : trn x = 1 ∨ trn x = -1 ∨ trn x = 0 := by
  unfold trn
  split
  · exact Or.inl rfl
  · split
    · exact Or.inr (Or.inl rfl)
    · exact Or.inr (Or.inr rfl)
/-- one value, whole: the depth is back at 0 at its end, and not before -/
def Cv (v : List Int) : Prop := dsum v = 0 ∧ 0 < v.length ∧ ∀ k : Nat, 0 < k → k < v.length → 1 ≤ dsum (v.take k)
theorem tok_nat (t : List Int) (i : Nat) : tok t i = t.getD i 0 := by
  unfold tok
  rw [if_pos (Int.natCast_nonneg i)]
  rfl
theorem tok_neg {t : List Int} {i : Int} (h : i < 0) : tok t i = 0 := by
  unfold tok
  rw [if_neg (by omega)]
theorem tok_big {t : List Int} {i : Int} (h : (t.length : Int) ≤ i) : tok t i = 0 := by
  unfold tok
  rw [if_pos (by omega), List.getD_eq_getElem?_getD, List.getElem?_eq_none_iff.mpr (by omega)]
  rfl
theorem tok_mid (pre v suf : List Int) (k : Nat) (h : k < v.length) : tok (pre ++ v ++ suf) ((pre.length : Int) + k) = v.getD k 0 := by
  have e : ((pre.length : Int) + k) = ((pre.length + k : Nat) : Int) := by omega
  rw [e, tok_nat, List.getD_eq_getElem?_getD, List.getD_eq_getElem?_getD, List.append_assoc, List.getElem?_append_right (by omega), List.getElem?_append_left (by omega)]
  congr 2
  omega
theorem dsum_take (v : List Int) (k : Nat) (h : k < v.length) : dsum (v.take (k + 1)) = dsum (v.take k) + trn (v.getD k 0) := by
  rw [List.take_succ, dsum_app, List.getD_eq_getElem?_getD, List.getElem?_eq_getElem h]
  simp [dsum]
theorem dsum_bnd (v : List Int) : -(v.length : Int) ≤ dsum v ∧ dsum v ≤ v.length := by
  induction v with
  | nil => simp [dsum]
  | cons x r ih =>
    simp only [dsum, List.length_cons]
    rcases trn_in x with h | h | h <;> rw [h] <;> omega
/-- the object of Value at a holds the row t -/
def VH (σ : xSig) (a cap : Nat) (t : List Int) : Prop := isVal a cap ∧ σ a 1 = t.length ∧ t.length ≤ cap ∧ cap ≤ 200 ∧ (∀ i : Nat, i < t.length → σ (a + 1) i = t.getD i 0) ∧ ∀ i : Int, 0 ≤ σ (a + 1) i ∧ σ (a + 1) i < 6000
theorem VH.tk {σ : xSig} {a cap : Nat} {t : List Int} (h : VH σ a cap t) {i : Int} (h0 : 0 ≤ i) (h1 : i < t.length) : σ (a + 1) i = tok t i := by
  have e : i = ((i.toNat : Nat) : Int) := by omega
  rw [e, tok_nat]
  exact h.2.2.2.2.1 _ (by omega)
theorem VH.bnd {σ : xSig} {a cap : Nat} {t : List Int} (h : VH σ a cap t) (i : Int) : 0 ≤ tok t i ∧ tok t i < 6000 := by
  by_cases h0 : 0 ≤ i
  · by_cases h1 : i < t.length
    · rw [← h.tk h0 h1]
      exact h.2.2.2.2.2 i
    · rw [tok_big (by omega)]
      omega
  · rw [tok_neg (by omega)]
    omega
theorem tok_hd (p : List Int) (x : Int) (r : List Int) : tok (p ++ x :: r) p.length = x := by
  rw [tok_nat, List.getD_eq_getElem?_getD, List.getElem?_append_right (Nat.le_refl _), Nat.sub_self]
  rfl
theorem len_s (p : List Int) (x : Int) : ((p ++ [x]).length : Int) = (p.length : Int) + 1 := by simp
theorem app_s (p : List Int) (x : Int) (r : List Int) : p ++ x :: r = (p ++ [x]) ++ r := by simp
/-- how many signs the first value has, at depth d -/
def vsc : List Int → Int → Nat
  | [], _ => 0
  | x :: r, d => if d + trn x ≤ 0 then 1 else 1 + vsc r (d + trn x)
theorem vsc_le : ∀ (r : List Int) (d : Int), vsc r d ≤ r.length := by
  intro r
  induction r with
  | nil => intro d; simp [vsc]
  | cons x r ih =>
    intro d
    unfold vsc
    split
    · simp
    · have := ih (d + trn x)
      simp only [List.length_cons]
      omega
theorem vsc_cv_aux : ∀ (r u suf : List Int) (d : Int), (∀ k : Nat, k < r.length → 0 < k → 1 ≤ d + dsum (r.take k)) → d + dsum r = 0 → 0 < r.length → vsc (r ++ suf) d = r.length := by
  intro r
  induction r with
  | nil => intro u suf d _ _ h; simp at h
  | cons x r ih =>
    intro u suf d h1 h2 h3
    simp only [List.cons_append, vsc]
    cases r with
    | nil =>
      simp only [dsum] at h2
      rw [if_pos (by omega)]
      rfl
    | cons y r =>
      have h4 := h1 1 (by simp) (by omega)
      simp only [List.take_succ_cons, List.take_zero, dsum] at h4
      rw [if_neg (by omega), ih u suf (d + trn x) (fun k hk hk0 => ?_) (by simp only [dsum] at h2 ⊢; omega) (by simp)]
      · simp only [List.length_cons]; omega
      · have h5 := h1 (k + 1) (by simp only [List.length_cons] at hk ⊢; omega) (by omega)
        simp only [List.take_succ_cons, dsum] at h5
        omega
theorem vsc_cv {v : List Int} (h : Cv v) (suf : List Int) : vsc (v ++ suf) 0 = v.length :=
  vsc_cv_aux v [] suf 0 (fun k h1 h2 => by have := h.2.2 k h2 h1; omega) (by have := h.1; omega) h.2.1
def knd (x : Int) : Int := if 5000 ≤ x then 4 else if 4000 ≤ x then 3 else if 3000 ≤ x then 2 else if 1001 ≤ x then 1 else 0
theorem knd_bnd (x : Int) : 0 ≤ knd x ∧ knd x ≤ 4 := by
  unfold knd
  split
  · omega
  · split
    · omega
    · split
      · omega
      · split <;> omega
/-- how many parts a stretch has -/
def cnt : List Int → Int
  | [] => 0
  | x :: r => (if 9 ≤ x then 1 else 0) + cnt r
theorem cnt_app (a b : List Int) : cnt (a ++ b) = cnt a + cnt b := by
  induction a with
  | nil => simp [cnt]
  | cons x r ih => simp only [List.cons_append, cnt, ih]; omega
theorem cnt_bnd (a : List Int) : 0 ≤ cnt a ∧ cnt a ≤ a.length := by
  induction a with
  | nil => simp [cnt]
  | cons x r ih => simp only [cnt, List.length_cons]; split <;> omega
/-- the width of the first value, from depth d -/
def wsc : List Int → Int → Int
  | [], _ => 0
  | x :: r, d => (if d = 1 ∧ 9 ≤ x then 1 else 0) + (if d + trn x ≤ 0 then 0 else wsc r (d + trn x))
theorem wsc_bnd : ∀ (r : List Int) (d : Int), 0 ≤ wsc r d ∧ wsc r d ≤ r.length := by
  intro r
  induction r with
  | nil => intro d; simp [wsc]
  | cons x r ih =>
    intro d
    have := ih (d + trn x)
    simp only [wsc, List.length_cons]
    split <;> split <;> omega
/-- where the field f stands, or belongs, in an object's signs behind its own, at depth d -/
def ssc : List Int → Int → Int → Nat
  | [], _, _ => 0
  | x :: r, f, d => if d = 0 ∧ (x = 0 ∨ x < 9 ∧ 1 + f ≤ x) then 0 else 1 + ssc r f (d + trn x)
theorem ssc_le : ∀ (r : List Int) (f d : Int), ssc r f d ≤ r.length := by
  intro r
  induction r with
  | nil => intro f d; simp [ssc]
  | cons x r ih =>
    intro f d
    unfold ssc
    split
    · simp
    · have := ih f (d + trn x)
      simp only [List.length_cons]
      omega
/-- the order of two rows, sign by sign -/
def lexc : List Int → List Int → Int
  | x :: a, y :: b => if x < y then -1 else if y < x then 1 else lexc a b
  | _, _ => 0
theorem cv_vsc_cnt (r : List Int) (d : Int) : vsc r d ≤ r.length := vsc_le r d
/-- how one sign goes into a print; w: the width of the value that begins there -/
def pon (h x w : Int) : Int := if x = 0 then h else if x < 9 then 31 * h + (x - 1) else if knd x = 1 then 31 * (31 * h + (knd x + 1)) + (x - 2000) else if knd x = 2 then 31 * (31 * h + (knd x + 1)) + (x - 3000) else if knd x = 0 then 31 * h + (knd x + 1) else 31 * (31 * h + (knd x + 1)) + w
/-- the print of the first value, from depth d -/
def psc : List Int → Int → Int → Int
  | [], _, h => h
  | x :: r, d, h => if d + trn x ≤ 0 then pon h x (wsc (x :: r) 0) else psc r (d + trn x) (pon h x (wsc (x :: r) 0))
