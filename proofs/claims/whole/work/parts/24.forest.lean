/-! ===== values as forests ===== -/
/-- a tree's carrier: mulL k F: the field k, then F; mulR n x: the leaf x, then n; add c n: an object of the fields c, then n; sub c n: a row of the parts c, then n; num: the end -/
abbrev Fo := Int.Internal.Linear.Expr
def tk : Fo → List Int
  | .num _ => []
  | .var _ => []
  | .neg _ => []
  | .mulL k F => (1 + k) :: tk F
  | .mulR n x => x :: tk n
  | .add c n => 5000 :: (tk c ++ 0 :: tk n)
  | .sub c n => 4000 :: (tk c ++ 0 :: tk n)
def lfx (x : Int) : Prop := x = 9 ∨ (1001 ≤ x ∧ x ≤ 2999) ∨ (3000 ≤ x ∧ x ≤ 3099)
/-- b: an object's fields; v: a value comes now; lo: the least key -/
def okf : Bool → Bool → Int → Fo → Prop
  | _, v, _, .num z => v = false ∧ z = 0
  | _, _, _, .var _ => False
  | _, _, _, .neg _ => False
  | b, v, lo, .mulL k F => b = true ∧ v = false ∧ (lo ≤ k ∧ k < 8) ∧ okf b true (k + 1) F
  | b, v, lo, .mulR n x => b = v ∧ lfx x ∧ okf b false lo n
  | b, v, lo, .add c n => b = v ∧ okf true false 0 c ∧ okf b false lo n
  | b, v, lo, .sub c n => b = v ∧ okf false false 0 c ∧ okf b false lo n
def pa : Fo → Int
  | .num _ => 0
  | .var _ => 0
  | .neg _ => 0
  | .mulL _ F => pa F
  | .mulR n _ => 1 + pa n
  | .add c n => 1 + pa c + pa n
  | .sub c n => 1 + pa c + pa n
def nel : Fo → Int
  | .num _ => 0
  | .var _ => 0
  | .neg _ => 0
  | .mulL _ F => nel F
  | .mulR n _ => 1 + nel n
  | .add _ n => 1 + nel n
  | .sub _ n => 1 + nel n
theorem pa_nn : ∀ F : Fo, 0 ≤ nel F ∧ nel F ≤ pa F := by
  intro F
  induction F with
  | num z => simp [nel, pa]
  | var z => simp [nel, pa]
  | neg z ih => simp [nel, pa]
  | mulL k F ih => simpa only [nel, pa] using ih
  | mulR n x ih => simp only [nel, pa]; omega
  | add c n ihc ihn => simp only [nel, pa]; omega
  | sub c n ihc ihn => simp only [nel, pa]; omega
theorem lfx_b {x : Int} (h : lfx x) : 9 ≤ x ∧ x < 4000 ∧ trn x = 0 := by
  unfold lfx at h
  unfold trn
  refine ⟨by omega, by omega, ?_⟩
  rw [if_neg (by omega), if_neg (by omega)]
theorem trn_k {k : Int} (h : 0 ≤ k ∧ k < 8) : trn (1 + k) = 0 := by
  unfold trn
  rw [if_neg (by omega), if_neg (by omega)]
theorem trn_0 : trn 0 = -1 := by decide
theorem trn_5 : trn 5000 = 1 := by decide
theorem trn_4 : trn 4000 = 1 := by decide
theorem tk_len : ∀ F : Fo, ∀ (b v : Bool) (lo : Int), okf b v lo F → ((tk F).length : Int) + (if v = true then 1 else 0) ≤ 3 * pa F := by
  intro F
  induction F with
  | num z =>
    intro b v lo h
    rw [h.1]; simp [tk, pa]
  | var z =>
    intro b v lo h
    exact h.elim
  | neg z ih =>
    intro b v lo h
    exact h.elim
  | mulL k F ih =>
    intro b v lo h
    have := ih _ _ _ h.2.2.2
    rw [h.2.1]
    simp only [tk, pa, List.length_cons, if_true, Bool.false_eq_true, if_false] at this ⊢
    omega
  | mulR n x ih =>
    intro b v lo h
    have := ih _ _ _ h.2.2
    simp only [tk, pa, List.length_cons, Bool.false_eq_true, if_false] at this ⊢
    split <;> omega
  | add c n ihc ihn =>
    intro b v lo h
    have h1 := ihc _ _ _ h.2.1
    have h2 := ihn _ _ _ h.2.2
    simp only [tk, pa, List.length_cons, List.length_append, Bool.false_eq_true, if_false] at h1 h2 ⊢
    split <;> omega
  | sub c n ihc ihn =>
    intro b v lo h
    have h1 := ihc _ _ _ h.2.1
    have h2 := ihn _ _ _ h.2.2
    simp only [tk, pa, List.length_cons, List.length_append, Bool.false_eq_true, if_false] at h1 h2 ⊢
    split <;> omega
theorem tk_rng : ∀ F : Fo, ∀ (b v : Bool) (lo : Int), 0 ≤ lo → okf b v lo F → ∀ y ∈ tk F, 0 ≤ y ∧ y < 6000 := by
  intro F
  induction F with
  | num z =>
    intro b v lo h0 h y hy
    simp [tk] at hy
  | var z =>
    intro b v lo h0 h
    exact h.elim
  | neg z ih =>
    intro b v lo h0 h
    exact h.elim
  | mulL k F ih =>
    intro b v lo h0 h y hy
    have h1 := h.2.2.1
    rcases List.mem_cons.mp hy with q | q
    · omega
    · exact ih _ _ _ (by omega) h.2.2.2 y q
  | mulR n x ih =>
    intro b v lo h0 h y hy
    have h1 := lfx_b h.2.1
    rcases List.mem_cons.mp hy with q | q
    · omega
    · exact ih _ _ _ h0 h.2.2 y q
  | add c n ihc ihn =>
    intro b v lo h0 h y hy
    simp only [tk, List.mem_append, List.mem_cons] at hy
    rcases hy with q | q | q | q
    · omega
    · exact ihc _ _ _ (by omega) h.2.1 y q
    · omega
    · exact ihn _ _ _ h0 h.2.2 y q
  | sub c n ihc ihn =>
    intro b v lo h0 h y hy
    simp only [tk, List.mem_append, List.mem_cons] at hy
    rcases hy with q | q | q | q
    · omega
    · exact ihc _ _ _ (by omega) h.2.1 y q
    · omega
    · exact ihn _ _ _ h0 h.2.2 y q
theorem tk_bal : ∀ F : Fo, ∀ (b v : Bool) (lo : Int), 0 ≤ lo → okf b v lo F → dsum (tk F) = 0 := by
  intro F
  induction F with
  | num z =>
    intro b v lo h0 h
    rfl
  | var z =>
    intro b v lo h0 h
    exact h.elim
  | neg z ih =>
    intro b v lo h0 h
    exact h.elim
  | mulL k F ih =>
    intro b v lo h0 h
    have h1 := h.2.2.1
    simp only [tk, dsum]
    rw [trn_k (by omega), ih _ _ _ (by omega) h.2.2.2]
    rfl
  | mulR n x ih =>
    intro b v lo h0 h
    have h1 := lfx_b h.2.1
    simp only [tk, dsum]
    rw [h1.2.2, ih _ _ _ h0 h.2.2]
    rfl
  | add c n ihc ihn =>
    intro b v lo h0 h
    simp only [tk, dsum, dsum_app]
    rw [trn_5, trn_0, ihc _ _ _ (by omega) h.2.1, ihn _ _ _ h0 h.2.2]
    rfl
  | sub c n ihc ihn =>
    intro b v lo h0 h
    simp only [tk, dsum, dsum_app]
    rw [trn_4, trn_0, ihc _ _ _ (by omega) h.2.1, ihn _ _ _ h0 h.2.2]
    rfl
/-- all beginnings of a row of signs are at a depth of at least -m -/
def dlo (m : Int) : List Int → Prop
  | [] => 0 ≤ m
  | x :: r => 0 ≤ m ∧ dlo (m + trn x) r
theorem dlo_app : ∀ (a b : List Int) (m : Int), dlo m a → dlo (m + dsum a) b → dlo m (a ++ b) := by
  intro a
  induction a with
  | nil => intro b m h1 h2; simp only [dsum, Int.add_zero] at h2; exact h2
  | cons x a ih =>
    intro b m h1 h2
    simp only [dsum] at h2
    exact ⟨h1.1, ih b _ h1.2 (by rw [← Int.add_assoc] at h2; exact h2)⟩
theorem dlo_take : ∀ (a : List Int) (m : Int) (k : Nat), dlo m a → 0 ≤ m + dsum (a.take k) := by
  intro a
  induction a with
  | nil => intro m k h; simp only [dlo] at h; simp [dsum]; omega
  | cons x a ih =>
    intro m k h
    cases k with
    | zero => simp [dsum]; exact h.1
    | succ k =>
      have := ih _ k h.2
      simp only [List.take_succ_cons, dsum]
      omega
theorem tk_dlo : ∀ F : Fo, ∀ (b v : Bool) (lo m : Int), 0 ≤ lo → 0 ≤ m → okf b v lo F → dlo m (tk F) := by
  intro F
  induction F with
  | num z =>
    intro b v lo m h0 hm h
    exact hm
  | var z =>
    intro b v lo m h0 hm h
    exact h.elim
  | neg z ih =>
    intro b v lo m h0 hm h
    exact h.elim
  | mulL k F ih =>
    intro b v lo m h0 hm h
    have h1 := h.2.2.1
    exact ⟨hm, by rw [trn_k (by omega), Int.add_zero]; exact ih _ _ _ _ (by omega) hm h.2.2.2⟩
  | mulR n x ih =>
    intro b v lo m h0 hm h
    have h1 := lfx_b h.2.1
    exact ⟨hm, by rw [h1.2.2, Int.add_zero]; exact ih _ _ _ _ h0 hm h.2.2⟩
  | add c n ihc ihn =>
    intro b v lo m h0 hm h
    refine ⟨hm, ?_⟩
    rw [trn_5]
    refine dlo_app _ _ _ (ihc _ _ _ _ (by omega) (by omega) h.2.1) ?_
    rw [tk_bal c _ _ _ (by omega) h.2.1, Int.add_zero]
    exact ⟨by omega, by rw [trn_0, show m + 1 + -1 = m by omega]; exact ihn _ _ _ _ h0 hm h.2.2⟩
  | sub c n ihc ihn =>
    intro b v lo m h0 hm h
    refine ⟨hm, ?_⟩
    rw [trn_4]
    refine dlo_app _ _ _ (ihc _ _ _ _ (by omega) (by omega) h.2.1) ?_
    rw [tk_bal c _ _ _ (by omega) h.2.1, Int.add_zero]
    exact ⟨by omega, by rw [trn_0, show m + 1 + -1 = m by omega]; exact ihn _ _ _ _ h0 hm h.2.2⟩
/-- one value -/
def ok1 (v : Fo) : Prop := (∃ x, v = .mulR (.num 0) x ∧ lfx x) ∨ (∃ c, v = .add c (.num 0) ∧ okf true false 0 c) ∨ ∃ c, v = .sub c (.num 0) ∧ okf false false 0 c
theorem nd_Cv {h : Int} (ht : trn h = 1) {c : Fo} {b : Bool} (hc : okf b false 0 c) : Cv (h :: (tk c ++ [0])) := by
  have hb := tk_bal c b false 0 (by omega) hc
  refine ⟨by simp only [dsum, dsum_app]; rw [hb, trn_0]; omega, by simp, fun k h1 h2 => ?_⟩
  simp only [List.length_cons, List.length_append, List.length_nil] at h2
  obtain ⟨k, rfl⟩ : ∃ j, k = j + 1 := ⟨k - 1, by omega⟩
  rw [List.take_succ_cons, List.take_append_of_le_length (by omega)]
  have := dlo_take _ 0 k (tk_dlo c b false 0 0 (by omega) (by omega) hc)
  simp only [dsum]
  omega
theorem ok1_Cv {v : Fo} (h : ok1 v) : Cv (tk v) := by
  rcases h with ⟨x, rfl, hx⟩ | ⟨c, rfl, hc⟩ | ⟨c, rfl, hc⟩
  · refine ⟨by simp only [tk, dsum]; have := lfx_b hx; omega, by simp [tk], fun k h1 h2 => ?_⟩
    simp [tk] at h2
    omega
  · exact nd_Cv trn_5 hc
  · exact nd_Cv trn_4 hc
theorem tk_cnt : ∀ F : Fo, ∀ (b v : Bool) (lo : Int), 0 ≤ lo → okf b v lo F → cnt (tk F) = pa F := by
  intro F
  induction F with
  | num z =>
    intro b v lo h0 h
    rfl
  | var z =>
    intro b v lo h0 h
    exact h.elim
  | neg z ih =>
    intro b v lo h0 h
    exact h.elim
  | mulL k F ih =>
    intro b v lo h0 h
    have h1 := h.2.2.1
    simp only [tk, cnt, pa]
    rw [if_neg (by omega), ih _ _ _ (by omega) h.2.2.2]
    omega
  | mulR n x ih =>
    intro b v lo h0 h
    have h1 := lfx_b h.2.1
    simp only [tk, cnt, pa]
    rw [if_pos (by omega), ih _ _ _ h0 h.2.2]
  | add c n ihc ihn =>
    intro b v lo h0 h
    simp only [tk, cnt, cnt_app, pa]
    rw [ihc _ _ _ (by omega) h.2.1, ihn _ _ _ h0 h.2.2, if_pos (by decide), if_neg (by decide)]
    omega
  | sub c n ihc ihn =>
    intro b v lo h0 h
    simp only [tk, cnt, cnt_app, pa]
    rw [ihc _ _ _ (by omega) h.2.1, ihn _ _ _ h0 h.2.2, if_pos (by decide), if_neg (by decide)]
    omega
/-! what skips a forest -/
theorem vsc_sk : ∀ F : Fo, ∀ (b v : Bool) (lo : Int), 0 ≤ lo → okf b v lo F → ∀ (s : List Int) (d : Int), 1 ≤ d → vsc (tk F ++ s) d = (tk F).length + vsc s d := by
  intro F
  induction F with
  | num z =>
    intro b v lo h0 h s d hd
    simp [tk]
  | var z =>
    intro b v lo h0 h
    exact h.elim
  | neg z ih =>
    intro b v lo h0 h
    exact h.elim
  | mulL k F ih =>
    intro b v lo h0 h s d hd
    have h1 := h.2.2.1
    simp only [tk, List.cons_append, vsc, List.length_cons]
    rw [trn_k (by omega), Int.add_zero, if_neg (by omega), ih _ _ _ (by omega) h.2.2.2 s d hd]
    omega
  | mulR n x ih =>
    intro b v lo h0 h s d hd
    have h1 := lfx_b h.2.1
    simp only [tk, List.cons_append, vsc, List.length_cons]
    rw [h1.2.2, Int.add_zero, if_neg (by omega), ih _ _ _ h0 h.2.2 s d hd]
    omega
  | add c n ihc ihn =>
    intro b v lo h0 h s d hd
    simp only [tk, List.cons_append, List.append_assoc, vsc, List.length_cons, List.length_append]
    rw [trn_5, if_neg (by omega), ihc _ _ _ (by omega) h.2.1 _ _ (by omega)]
    simp only [vsc]
    rw [trn_0, if_neg (by omega), show d + 1 + -1 = d by omega, ihn _ _ _ h0 h.2.2 s d hd]
    omega
  | sub c n ihc ihn =>
    intro b v lo h0 h s d hd
    simp only [tk, List.cons_append, List.append_assoc, vsc, List.length_cons, List.length_append]
    rw [trn_4, if_neg (by omega), ihc _ _ _ (by omega) h.2.1 _ _ (by omega)]
    simp only [vsc]
    rw [trn_0, if_neg (by omega), show d + 1 + -1 = d by omega, ihn _ _ _ h0 h.2.2 s d hd]
    omega
theorem ssc_sk : ∀ F : Fo, ∀ (b v : Bool) (lo : Int), 0 ≤ lo → okf b v lo F → ∀ (s : List Int) (f d : Int), 1 ≤ d → ssc (tk F ++ s) f d = (tk F).length + ssc s f d := by
  intro F
  induction F with
  | num z =>
    intro b v lo h0 h s f d hd
    simp [tk]
  | var z =>
    intro b v lo h0 h
    exact h.elim
  | neg z ih =>
    intro b v lo h0 h
    exact h.elim
  | mulL k F ih =>
    intro b v lo h0 h s f d hd
    have h1 := h.2.2.1
    simp only [tk, List.cons_append, ssc, List.length_cons]
    rw [trn_k (by omega), Int.add_zero, if_neg (by omega), ih _ _ _ (by omega) h.2.2.2 s f d hd]
    omega
  | mulR n x ih =>
    intro b v lo h0 h s f d hd
    have h1 := lfx_b h.2.1
    simp only [tk, List.cons_append, ssc, List.length_cons]
    rw [h1.2.2, Int.add_zero, if_neg (by omega), ih _ _ _ h0 h.2.2 s f d hd]
    omega
  | add c n ihc ihn =>
    intro b v lo h0 h s f d hd
    simp only [tk, List.cons_append, List.append_assoc, ssc, List.length_cons, List.length_append]
    rw [trn_5, if_neg (by omega), ihc _ _ _ (by omega) h.2.1 _ _ _ (by omega)]
    simp only [ssc]
    rw [trn_0, if_neg (by omega), show d + 1 + -1 = d by omega, ihn _ _ _ h0 h.2.2 s f d hd]
    omega
  | sub c n ihc ihn =>
    intro b v lo h0 h s f d hd
    simp only [tk, List.cons_append, List.append_assoc, ssc, List.length_cons, List.length_append]
    rw [trn_4, if_neg (by omega), ihc _ _ _ (by omega) h.2.1 _ _ _ (by omega)]
    simp only [ssc]
    rw [trn_0, if_neg (by omega), show d + 1 + -1 = d by omega, ihn _ _ _ h0 h.2.2 s f d hd]
    omega
theorem nsc_sk : ∀ F : Fo, ∀ (b v : Bool) (lo : Int), 0 ≤ lo → okf b v lo F → ∀ (s : List Int) (d i : Int), 1 ≤ d → nsc (tk F ++ s) d i = nsc s d (i + (tk F).length) := by
  intro F
  induction F with
  | num z =>
    intro b v lo h0 h s d i hd
    simp [tk]
  | var z =>
    intro b v lo h0 h
    exact h.elim
  | neg z ih =>
    intro b v lo h0 h
    exact h.elim
  | mulL k F ih =>
    intro b v lo h0 h s d i hd
    have h1 := h.2.2.1
    simp only [tk, List.cons_append, nsc, List.length_cons]
    rw [trn_k (by omega), Int.add_zero, if_neg (by omega), if_neg (by omega), ih _ _ _ (by omega) h.2.2.2 s d _ hd, List.nil_append]
    congr 1
    omega
  | mulR n x ih =>
    intro b v lo h0 h s d i hd
    have h1 := lfx_b h.2.1
    simp only [tk, List.cons_append, nsc, List.length_cons]
    rw [h1.2.2, Int.add_zero, if_neg (by omega), if_neg (by omega), ih _ _ _ h0 h.2.2 s d _ hd, List.nil_append]
    congr 1
    omega
  | add c n ihc ihn =>
    intro b v lo h0 h s d i hd
    simp only [tk, List.cons_append, List.append_assoc, nsc, List.length_cons, List.length_append]
    rw [trn_5, if_neg (by omega), if_neg (by omega), ihc _ _ _ (by omega) h.2.1 _ _ _ (by omega)]
    simp only [nsc]
    rw [trn_0, if_neg (by omega), if_neg (by omega), show d + 1 + -1 = d by omega, ihn _ _ _ h0 h.2.2 s d _ hd, List.nil_append, List.nil_append]
    congr 1
    omega
  | sub c n ihc ihn =>
    intro b v lo h0 h s d i hd
    simp only [tk, List.cons_append, List.append_assoc, nsc, List.length_cons, List.length_append]
    rw [trn_4, if_neg (by omega), if_neg (by omega), ihc _ _ _ (by omega) h.2.1 _ _ _ (by omega)]
    simp only [nsc]
    rw [trn_0, if_neg (by omega), if_neg (by omega), show d + 1 + -1 = d by omega, ihn _ _ _ h0 h.2.2 s d _ hd, List.nil_append, List.nil_append]
    congr 1
    omega
theorem tsc_sk : ∀ F : Fo, ∀ (b v : Bool) (lo : Int), 0 ≤ lo → okf b v lo F → ∀ (t s : List Int) (f d i : Int), 2 ≤ d → tsc t (tk F ++ s) f d i = tsc t s f d (i + (tk F).length) := by
  intro F
  induction F with
  | num z =>
    intro b v lo h0 h t s f d i hd
    simp [tk]
  | var z =>
    intro b v lo h0 h
    exact h.elim
  | neg z ih =>
    intro b v lo h0 h
    exact h.elim
  | mulL k F ih =>
    intro b v lo h0 h t s f d i hd
    have h1 := h.2.2.1
    simp only [tk, List.cons_append, tsc, List.length_cons]
    rw [trn_k (by omega), Int.add_zero, if_neg (by omega), if_neg (by omega), ih _ _ _ (by omega) h.2.2.2 t s f d _ hd, List.nil_append]
    congr 1
    omega
  | mulR n x ih =>
    intro b v lo h0 h t s f d i hd
    have h1 := lfx_b h.2.1
    simp only [tk, List.cons_append, tsc, List.length_cons]
    rw [h1.2.2, Int.add_zero, if_neg (by omega), if_neg (by omega), ih _ _ _ h0 h.2.2 t s f d _ hd, List.nil_append]
    congr 1
    omega
  | add c n ihc ihn =>
    intro b v lo h0 h t s f d i hd
    simp only [tk, List.cons_append, List.append_assoc, tsc, List.length_cons, List.length_append]
    rw [trn_5, if_neg (by omega), if_neg (by omega), ihc _ _ _ (by omega) h.2.1 _ _ _ _ _ (by omega)]
    simp only [tsc]
    rw [trn_0, if_neg (by omega), if_neg (by omega), show d + 1 + -1 = d by omega, ihn _ _ _ h0 h.2.2 t s f d _ hd, List.nil_append, List.nil_append]
    congr 1
    omega
  | sub c n ihc ihn =>
    intro b v lo h0 h t s f d i hd
    simp only [tk, List.cons_append, List.append_assoc, tsc, List.length_cons, List.length_append]
    rw [trn_4, if_neg (by omega), if_neg (by omega), ihc _ _ _ (by omega) h.2.1 _ _ _ _ _ (by omega)]
    simp only [tsc]
    rw [trn_0, if_neg (by omega), if_neg (by omega), show d + 1 + -1 = d by omega, ihn _ _ _ h0 h.2.2 t s f d _ hd, List.nil_append, List.nil_append]
    congr 1
    omega
theorem wsc_sk2 : ∀ F : Fo, ∀ (b v : Bool) (lo : Int), 0 ≤ lo → okf b v lo F → ∀ (s : List Int) (d : Int), 2 ≤ d → wsc (tk F ++ s) d = wsc s d := by
  intro F
  induction F with
  | num z =>
    intro b v lo h0 h s d hd
    simp [tk]
  | var z =>
    intro b v lo h0 h
    exact h.elim
  | neg z ih =>
    intro b v lo h0 h
    exact h.elim
  | mulL k F ih =>
    intro b v lo h0 h s d hd
    have h1 := h.2.2.1
    simp only [tk, List.cons_append, wsc]
    rw [trn_k (by omega), Int.add_zero, if_neg (by omega), if_neg (by omega), ih _ _ _ (by omega) h.2.2.2 s d hd, Int.zero_add]
  | mulR n x ih =>
    intro b v lo h0 h s d hd
    have h1 := lfx_b h.2.1
    simp only [tk, List.cons_append, wsc]
    rw [h1.2.2, Int.add_zero, if_neg (by omega), if_neg (by omega), ih _ _ _ h0 h.2.2 s d hd, Int.zero_add]
  | add c n ihc ihn =>
    intro b v lo h0 h s d hd
    simp only [tk, List.cons_append, List.append_assoc, wsc]
    rw [trn_5, if_neg (by omega), if_neg (by omega), ihc _ _ _ (by omega) h.2.1 _ _ (by omega)]
    simp only [wsc]
    rw [trn_0, if_neg (by omega), if_neg (by omega), show d + 1 + -1 = d by omega, ihn _ _ _ h0 h.2.2 s d hd, Int.zero_add, Int.zero_add]
  | sub c n ihc ihn =>
    intro b v lo h0 h s d hd
    simp only [tk, List.cons_append, List.append_assoc, wsc]
    rw [trn_4, if_neg (by omega), if_neg (by omega), ihc _ _ _ (by omega) h.2.1 _ _ (by omega)]
    simp only [wsc]
    rw [trn_0, if_neg (by omega), if_neg (by omega), show d + 1 + -1 = d by omega, ihn _ _ _ h0 h.2.2 s d hd, Int.zero_add, Int.zero_add]
theorem wsc_sk1 : ∀ F : Fo, ∀ (b v : Bool) (lo : Int), 0 ≤ lo → okf b v lo F → ∀ s : List Int, wsc (tk F ++ s) 1 = nel F + wsc s 1 := by
  intro F
  induction F with
  | num z =>
    intro b v lo h0 h s
    simp [tk, nel]
  | var z =>
    intro b v lo h0 h
    exact h.elim
  | neg z ih =>
    intro b v lo h0 h
    exact h.elim
  | mulL k F ih =>
    intro b v lo h0 h s
    have h1 := h.2.2.1
    simp only [tk, List.cons_append, wsc, nel]
    rw [trn_k (by omega), Int.add_zero, if_neg (by omega), if_neg (by omega), ih _ _ _ (by omega) h.2.2.2 s, Int.zero_add]
  | mulR n x ih =>
    intro b v lo h0 h s
    have h1 := lfx_b h.2.1
    simp only [tk, List.cons_append, wsc, nel]
    rw [h1.2.2, Int.add_zero, if_pos (show True ∧ 9 ≤ x from ⟨trivial, h1.1⟩), if_neg (by decide), ih _ _ _ h0 h.2.2 s]
    omega
  | add c n ihc ihn =>
    intro b v lo h0 h s
    simp only [tk, List.cons_append, List.append_assoc, wsc, nel]
    rw [trn_5, if_pos (show True ∧ (9 : Int) ≤ 5000 by decide), if_neg (by decide), wsc_sk2 c _ _ _ (by omega) h.2.1 _ _ (by omega)]
    simp only [wsc]
    rw [trn_0, if_neg (by omega), if_neg (by omega), show (1 : Int) + 1 + -1 = 1 by omega, ihn _ _ _ h0 h.2.2 s]
    omega
  | sub c n ihc ihn =>
    intro b v lo h0 h s
    simp only [tk, List.cons_append, List.append_assoc, wsc, nel]
    rw [trn_4, if_pos (show True ∧ (9 : Int) ≤ 4000 by decide), if_neg (by decide), wsc_sk2 c _ _ _ (by omega) h.2.1 _ _ (by omega)]
    simp only [wsc]
    rw [trn_0, if_neg (by omega), if_neg (by omega), show (1 : Int) + 1 + -1 = 1 by omega, ihn _ _ _ h0 h.2.2 s]
    omega

/-! the fields of an object -/
/-- a value, with what follows it -/
def cat : Fo → Fo → Fo
  | .mulR _ x, n => .mulR n x
  | .add c _, n => .add c n
  | .sub c _, n => .sub c n
  | _, n => n
/-- what follows the first value -/
def nxt : Fo → Fo
  | .mulR n _ => n
  | .add _ n => n
  | .sub _ n => n
  | _ => .num 0
def fst1 (F : Fo) : Fo := cat F (.num 0)
def get (f : Int) : Fo → Fo
  | .mulL k F => if k = f then fst1 F else get f F
  | .mulR n _ => get f n
  | .add _ n => get f n
  | .sub _ n => get f n
  | _ => .num 0
/-- the fields ahead of f; the others -/
def bef (f : Int) : Fo → Fo
  | .mulL k F => if f ≤ k then .num 0 else .mulL k (bef f F)
  | .mulR n x => .mulR (bef f n) x
  | .add c n => .add c (bef f n)
  | .sub c n => .sub c (bef f n)
  | _ => .num 0
def aft (f : Int) : Fo → Fo
  | .mulL k F => if f ≤ k then .mulL k F else aft f F
  | .mulR n _ => aft f n
  | .add _ n => aft f n
  | .sub _ n => aft f n
  | _ => .num 0
theorem ba_tk : ∀ F : Fo, ∀ (f : Int) (b v : Bool) (lo : Int), okf b v lo F → tk F = tk (bef f F) ++ tk (aft f F) := by
  intro F
  induction F with
  | num z =>
    intro f b v lo h
    rfl
  | var z =>
    intro f b v lo h
    exact h.elim
  | neg z ih =>
    intro f b v lo h
    exact h.elim
  | mulL k F ih =>
    intro f b v lo h
    simp only [bef, aft]
    split
    · rfl
    · simp only [tk, List.cons_append]
      rw [ih f _ _ _ h.2.2.2]
  | mulR n x ih =>
    intro f b v lo h
    simp only [bef, aft, tk, List.cons_append]
    rw [ih f _ _ _ h.2.2]
  | add c n ihc ihn =>
    intro f b v lo h
    simp only [bef, aft, tk, List.cons_append, List.append_assoc]
    rw [ihn f _ _ _ h.2.2]
  | sub c n ihc ihn =>
    intro f b v lo h
    simp only [bef, aft, tk, List.cons_append, List.append_assoc]
    rw [ihn f _ _ _ h.2.2]
theorem bef_ok : ∀ F : Fo, ∀ (f : Int) (b v : Bool) (lo : Int), okf b v lo F → okf b v lo (bef f F) := by
  intro F
  induction F with
  | num z =>
    intro f b v lo h
    exact ⟨h.1, rfl⟩
  | var z =>
    intro f b v lo h
    exact h.elim
  | neg z ih =>
    intro f b v lo h
    exact h.elim
  | mulL k F ih =>
    intro f b v lo h
    simp only [bef]
    split
    · exact ⟨h.2.1, rfl⟩
    · exact ⟨h.1, h.2.1, h.2.2.1, ih f _ _ _ h.2.2.2⟩
  | mulR n x ih =>
    intro f b v lo h
    exact ⟨h.1, h.2.1, ih f _ _ _ h.2.2⟩
  | add c n ihc ihn =>
    intro f b v lo h
    exact ⟨h.1, h.2.1, ihn f _ _ _ h.2.2⟩
  | sub c n ihc ihn =>
    intro f b v lo h
    exact ⟨h.1, h.2.1, ihn f _ _ _ h.2.2⟩
theorem aft_ok : ∀ F : Fo, ∀ (f : Int) (b v : Bool) (lo : Int), okf b v lo F → okf b false f (aft f F) := by
  intro F
  induction F with
  | num z =>
    intro f b v lo h
    exact ⟨rfl, rfl⟩
  | var z =>
    intro f b v lo h
    exact h.elim
  | neg z ih =>
    intro f b v lo h
    exact h.elim
  | mulL k F ih =>
    intro f b v lo h
    simp only [aft]
    split
    · next q => exact ⟨h.1, rfl, ⟨q, h.2.2.1.2⟩, h.2.2.2⟩
    · exact ih f _ _ _ h.2.2.2
  | mulR n x ih =>
    intro f b v lo h
    exact ih f _ _ _ h.2.2
  | add c n ihc ihn =>
    intro f b v lo h
    exact ihn f _ _ _ h.2.2
  | sub c n ihc ihn =>
    intro f b v lo h
    exact ihn f _ _ _ h.2.2
theorem ssc_bef : ∀ F : Fo, ∀ (f : Int) (b v : Bool) (lo : Int), 0 ≤ lo → 0 ≤ f → b = true → okf b v lo F → ∀ s : List Int, ssc (tk F ++ 0 :: s) f 0 = (tk (bef f F)).length := by
  intro F
  induction F with
  | num z =>
    intro f b v lo h0 hf hb h s
    simp [tk, bef, ssc]
  | var z =>
    intro f b v lo h0 hf hb h
    exact h.elim
  | neg z ih =>
    intro f b v lo h0 hf hb h
    exact h.elim
  | mulL k F ih =>
    intro f b v lo h0 hf hb h s
    have h1 := h.2.2.1
    simp only [bef, tk, List.cons_append, ssc]
    by_cases q : f ≤ k
    · rw [if_pos q, if_pos ⟨trivial, Or.inr ⟨by omega, by omega⟩⟩]
      rfl
    · rw [if_neg q, if_neg (by omega), trn_k (by omega), Int.add_zero, ih f _ _ _ (by omega) hf hb h.2.2.2 s]
      simp only [tk, List.length_cons]
      omega
  | mulR n x ih =>
    intro f b v lo h0 hf hb h s
    have h1 := lfx_b h.2.1
    simp only [bef, tk, List.cons_append, ssc, List.length_cons]
    rw [if_neg (by omega), h1.2.2, Int.add_zero, ih f _ _ _ h0 hf hb h.2.2 s]
    omega
  | add c n ihc ihn =>
    intro f b v lo h0 hf hb h s
    simp only [bef, tk, List.cons_append, List.append_assoc, ssc, List.length_cons, List.length_append]
    rw [if_neg (by omega), trn_5, ssc_sk c _ _ _ (by omega) h.2.1 _ _ _ (by omega)]
    simp only [ssc]
    rw [trn_0, if_neg (by omega), show (0 : Int) + 1 + -1 = 0 by omega, ihn f _ _ _ h0 hf hb h.2.2 s]
    omega
  | sub c n ihc ihn =>
    intro f b v lo h0 hf hb h s
    simp only [bef, tk, List.cons_append, List.append_assoc, ssc, List.length_cons, List.length_append]
    rw [if_neg (by omega), trn_4, ssc_sk c _ _ _ (by omega) h.2.1 _ _ _ (by omega)]
    simp only [ssc]
    rw [trn_0, if_neg (by omega), show (0 : Int) + 1 + -1 = 0 by omega, ihn f _ _ _ h0 hf hb h.2.2 s]
    omega
theorem get_aft : ∀ F : Fo, ∀ (f : Int) (b v : Bool) (lo : Int), okf b v lo F → b = true → get f F = get f (aft f F) := by
  intro F
  induction F with
  | num z =>
    intro f b v lo h hb
    rfl
  | var z =>
    intro f b v lo h hb
    exact h.elim
  | neg z ih =>
    intro f b v lo h hb
    exact h.elim
  | mulL k F ih =>
    intro f b v lo h hb
    simp only [aft, get]
    by_cases q : f ≤ k
    · rw [if_pos q]
      rfl
    · rw [if_neg q, if_neg (by omega)]
      exact ih f _ _ _ h.2.2.2 hb
  | mulR n x ih =>
    intro f b v lo h hb
    exact ih f _ _ _ h.2.2 hb
  | add c n ihc ihn =>
    intro f b v lo h hb
    exact ihn f _ _ _ h.2.2 hb
  | sub c n ihc ihn =>
    intro f b v lo h hb
    exact ihn f _ _ _ h.2.2 hb
theorem get_hi : ∀ F : Fo, ∀ (f : Int) (b v : Bool) (lo : Int), okf b v lo F → b = true → f < lo → get f F = .num 0 := by
  intro F
  induction F with
  | num z =>
    intro f b v lo h hb hl
    rfl
  | var z =>
    intro f b v lo h hb hl
    exact h.elim
  | neg z ih =>
    intro f b v lo h hb hl
    exact h.elim
  | mulL k F ih =>
    intro f b v lo h hb hl
    have h1 := h.2.2.1
    simp only [get]
    rw [if_neg (by omega)]
    exact ih f _ _ _ h.2.2.2 hb (by omega)
  | mulR n x ih =>
    intro f b v lo h hb hl
    exact ih f _ _ _ h.2.2 hb hl
  | add c n ihc ihn =>
    intro f b v lo h hb hl
    exact ihn f _ _ _ h.2.2 hb hl
  | sub c n ihc ihn =>
    intro f b v lo h hb hl
    exact ihn f _ _ _ h.2.2 hb hl
/-- what stands at the place of a field: nothing of it, or it -/
theorem aft_cases {F : Fo} {f lo : Int} {v : Bool} (h : okf true v lo F) : (∃ G, aft f F = .mulL f G ∧ okf true true (f + 1) G ∧ get f F = fst1 G ∧ 0 ≤ f + 1) ∨ (get f F = .num 0 ∧ okf true false (f + 1) (aft f F) ∧ ∀ k G, aft f F = .mulL k G → f < k) ∨ f + 1 < 0 := by
  by_cases h9 : f + 1 < 0
  · exact Or.inr (Or.inr h9)
  · have h1 := aft_ok F f _ _ _ h
    have h2 := get_aft F f _ _ _ h rfl
    generalize aft f F = A at h1 h2
    cases A with
    | num z => exact Or.inr (Or.inl ⟨by rw [h2]; rfl, h1, fun k G e => by cases e⟩)
    | var z => exact h1.elim
    | neg z => exact h1.elim
    | mulL k G =>
      by_cases e : k = f
      · subst e
        refine Or.inl ⟨G, rfl, h1.2.2.2, ?_, by omega⟩
        rw [h2]
        simp only [get]
        rw [if_pos trivial]
      · refine Or.inr (Or.inl ⟨?_, ⟨h1.1, h1.2.1, ⟨by have := h1.2.2.1; omega, h1.2.2.1.2⟩, h1.2.2.2⟩, fun k' G' e' => ?_⟩)
        · rw [h2]
          simp only [get]
          rw [if_neg e]
          exact get_hi G f _ _ _ h1.2.2.2 rfl (by have := h1.2.2.1; omega)
        · cases e'
          have := h1.2.2.1
          omega
    | mulR n x => exact absurd h1.1 (by decide)
    | add c n => exact absurd h1.1 (by decide)
    | sub c n => exact absurd h1.1 (by decide)
/-- a value and what follows: its signs -/
theorem val_cases {b : Bool} {lo : Int} {G : Fo} (h : okf b true lo G) : ok1 (fst1 G) ∧ okf b false lo (nxt G) ∧ G = cat (fst1 G) (nxt G) ∧ tk G = tk (fst1 G) ++ tk (nxt G) ∧ pa G = pa (fst1 G) + pa (nxt G) := by
  cases G with
  | num z => exact absurd h.1 (by decide)
  | var z => exact h.elim
  | neg z => exact h.elim
  | mulL k G => exact absurd h.2.1 (by decide)
  | mulR n x => exact ⟨Or.inl ⟨x, rfl, h.2.1⟩, h.2.2, rfl, rfl, by simp [fst1, cat, nxt, pa]⟩
  | add c n => exact ⟨Or.inr (Or.inl ⟨c, rfl, h.2.1⟩), h.2.2, rfl, by simp [fst1, cat, nxt, tk], by simp [fst1, cat, nxt, pa]⟩
  | sub c n => exact ⟨Or.inr (Or.inr ⟨c, rfl, h.2.1⟩), h.2.2, rfl, by simp [fst1, cat, nxt, tk], by simp [fst1, cat, nxt, pa]⟩
theorem cat_tk {w : Fo} (h : ok1 w) (n : Fo) : tk (cat w n) = tk w ++ tk n ∧ fst1 (cat w n) = w ∧ nxt (cat w n) = n := by
  rcases h with ⟨x, rfl, hx⟩ | ⟨c, rfl, hc⟩ | ⟨c, rfl, hc⟩
  · exact ⟨rfl, rfl, rfl⟩
  · exact ⟨by simp [cat, tk], rfl, rfl⟩
  · exact ⟨by simp [cat, tk], rfl, rfl⟩
theorem cat_ok {w : Fo} (h : ok1 w) {b : Bool} {lo : Int} {n : Fo} (hn : okf b false lo n) : okf b b lo (cat w n) := by
  rcases h with ⟨x, rfl, hx⟩ | ⟨c, rfl, hc⟩ | ⟨c, rfl, hc⟩
  · exact ⟨rfl, hx, hn⟩
  · exact ⟨rfl, hc, hn⟩
  · exact ⟨rfl, hc, hn⟩
theorem cat_pa {w : Fo} (h : ok1 w) (n : Fo) : pa (cat w n) = pa w + pa n := by
  rcases h with ⟨x, rfl, hx⟩ | ⟨c, rfl, hc⟩ | ⟨c, rfl, hc⟩ <;> simp [cat, pa]
theorem ok1_okf {w : Fo} (h : ok1 w) : okf false false 0 w := by
  rcases h with ⟨x, rfl, hx⟩ | ⟨c, rfl, hc⟩ | ⟨c, rfl, hc⟩
  · exact ⟨rfl, hx, rfl, rfl⟩
  · exact ⟨rfl, hc, rfl, rfl⟩
  · exact ⟨rfl, hc, rfl, rfl⟩
