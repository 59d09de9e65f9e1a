/-! ===== places of numbers: frames ===== -/
/-- a place: a cell and a number of it; -1: all of it -/
def inP (L : List (Nat × Int)) (b : Nat) (j : Int) : Bool := L.any fun q => q.1 == b && (q.2 == -1 || q.2 == j)
def cov (L K : List (Nat × Int)) : Bool := L.all fun q => K.any fun r => r.1 == q.1 && (r.2 == -1 || r.2 == q.2)
theorem cov_in {L K : List (Nat × Int)} (h : cov L K = true) {b : Nat} {j : Int} (h2 : inP K b j = false) : inP L b j = false := by
  cases e : inP L b j with
  | false => rfl
  | true =>
    exfalso
    obtain ⟨q, hq, hq2⟩ := List.any_eq_true.mp e
    obtain ⟨r, hr, hr2⟩ := List.any_eq_true.mp (List.all_eq_true.mp h q hq)
    have : inP K b j = true := by
      refine List.any_eq_true.mpr ⟨r, hr, ?_⟩
      simp only [Bool.and_eq_true, Bool.or_eq_true, beq_iff_eq] at hq2 hr2 ⊢
      omega
    rw [h2] at this
    cases this
def FP (L : List (Nat × Int)) (σ σ' : xSig) : Prop := ∀ (b : Nat) (j : Int), inP L b j = false → σ' b j = σ b j
theorem FP.rf {L : List (Nat × Int)} {σ : xSig} : FP L σ σ := fun _ _ _ => rfl
theorem FP.tr {L : List (Nat × Int)} {σ σ1 σ2 : xSig} (h : FP L σ σ1) (h2 : FP L σ1 σ2) : FP L σ σ2 := fun b j q => (h2 b j q).trans (h b j q)
theorem FP.mono {L K : List (Nat × Int)} {σ σ1 : xSig} (h : FP L σ σ1) (hc : cov L K = true) : FP K σ σ1 := fun b j q => h b j (cov_in hc q)
theorem FP.put {L : List (Nat × Int)} {σ σ1 : xSig} (h : FP L σ σ1) {a : Nat} {j v : Int} (hi : inP L a j = true) : FP L σ (xu σ1 a j v) := by
  intro b i q
  rw [xu_ne, h b i q]
  by_cases e : b = a
  · refine Or.inr (fun e2 => ?_)
    rw [e, e2, hi] at q
    cases q
  · exact Or.inl e
/-- a whole cell may change -/
theorem FP.xuA {L : List (Nat × Int)} {σ σ1 : xSig} (h : FP L σ σ1) {a : Nat} {j v : Int} (hi : (L.any fun q => q.1 == a && q.2 == -1) = true) : FP L σ (xu σ1 a j v) := by
  refine h.put ?_
  obtain ⟨q, hq, hq2⟩ := List.any_eq_true.mp hi
  refine List.any_eq_true.mpr ⟨q, hq, ?_⟩
  simp only [Bool.and_eq_true, Bool.or_eq_true, beq_iff_eq] at hq2 ⊢
  omega
theorem FP.cell {L : List (Nat × Int)} {σ σ1 : xSig} (h : FP L σ σ1) (a : Nat) (ha : (L.all fun q => q.1 != a) = true) : σ1 a = σ a := by
  funext j
  refine h a j ?_
  cases e : inP L a j with
  | false => rfl
  | true =>
    exfalso
    obtain ⟨q, hq, hq2⟩ := List.any_eq_true.mp e
    have := List.all_eq_true.mp ha q hq
    simp only [Bool.and_eq_true, beq_iff_eq, bne_iff_ne] at hq2 this
    exact this hq2.1
theorem FP.xuS {L : List (Nat × Int)} {σ : xSig} {a : Nat} {j v : Int} (hi : inP L a j = true) : FP L σ (xu σ a j v) := FP.rf.put hi
abbrev m11 : List (Nat × Int) := [(311, -1)]
/-- a contract that reads, but for a place of the model's -/
def Rm (M : x_MT) (av : List Value) (σ : xSig) (o : xO) : Prop := ∃ σ', x_Sp M 0 0 av (St σ) o (St σ') ∧ FP m11 σ σ'
theorem MV.of {σ σ' : xSig} {a n : Nat} {p : Int} {v : Fo} (h : MV σ a n p v) (hs : σ' a = σ a) : MV σ' a n p v := by
  obtain ⟨h1, h2, h3, h4, h5, h6⟩ := h
  exact ⟨h1, h2, h3, h4, h5, h6.of fun i _ _ => by rw [hs]⟩
theorem MV.fp {σ σ' : xSig} {a n : Nat} {p : Int} {v : Fo} (h : MV σ a n p v) (hs : FP m11 σ σ') : MV σ' a n p v := by
  refine h.of (hs.cell a ?_)
  have := h.1.2.2.2
  simp only [m11, List.all_cons, List.all_nil, Bool.and_true, bne_iff_ne]
  exact fun e => this e.symm
theorem EA.of11 {σ σ' : xSig} {a n : Nat} {p : Int} {t : List Int} (h : EA σ a p t) (ha : isMA a n) (hs : FP m11 σ σ') : EA σ' a p t := by
  refine h.of fun i _ _ => ?_
  rw [hs.cell a ?_]
  have := ha.2.2.2
  simp only [m11, List.all_cons, List.all_nil, Bool.and_true, bne_iff_ne]
  exact fun e => this e.symm
theorem FP.x11 {σ σ' : xSig} {v : Int} (h : FP m11 σ σ') : FP m11 σ (xu σ' 311 0 v) := h.put rfl
/-! ===== inductions over rows and fields ===== -/
theorem rowInd {P : Fo → Prop} {lo : Int} (h0 : P (.num 0)) (h1 : ∀ v n, ok1 v → okf false false lo n → P n → P (cat v n)) : ∀ F, okf false false lo F → P F := by
  intro F
  induction F with
  | num z => intro h; rw [h.2]; exact h0
  | var z => intro h; exact h.elim
  | neg z ih => intro h; exact h.elim
  | mulL k F ih => intro h; exact absurd h.1 (by decide)
  | mulR n x ih => intro h; exact h1 (.mulR (.num 0) x) n (Or.inl ⟨x, rfl, h.2.1⟩) h.2.2 (ih h.2.2)
  | add c n ihc ihn => intro h; exact h1 (.add c (.num 0)) n (Or.inr (Or.inl ⟨c, rfl, h.2.1⟩)) h.2.2 (ihn h.2.2)
  | sub c n ihc ihn => intro h; exact h1 (.sub c (.num 0)) n (Or.inr (Or.inr ⟨c, rfl, h.2.1⟩)) h.2.2 (ihn h.2.2)
theorem fldInd {P : Int → Fo → Prop} (h0 : ∀ lo, P lo (.num 0)) (h1 : ∀ lo k v n, lo ≤ k → k < 8 → ok1 v → okf true false (k + 1) n → P (k + 1) n → P lo (.mulL k (cat v n))) : ∀ F lo, okf true false lo F → P lo F := by
  have H : ∀ (m : Nat) (F : Fo) (lo : Int), pa F ≤ m → okf true false lo F → P lo F := by
    intro m
    induction m with
    | zero =>
      intro F lo hm h
      cases F with
      | num z => rw [h.2]; exact h0 lo
      | var z => exact h.elim
      | neg z => exact h.elim
      | mulL k G =>
        obtain ⟨v1, v2, v3, v4, v5⟩ := val_cases h.2.2.2
        have := ok1_pa v1
        have := pa_nn (nxt G)
        simp only [pa] at hm
        omega
      | mulR n x => exact absurd h.1 (by decide)
      | add c n => exact absurd h.1 (by decide)
      | sub c n => exact absurd h.1 (by decide)
    | succ m ih =>
      intro F lo hm h
      cases F with
      | num z => rw [h.2]; exact h0 lo
      | var z => exact h.elim
      | neg z => exact h.elim
      | mulL k G =>
        obtain ⟨v1, v2, v3, v4, v5⟩ := val_cases h.2.2.2
        have := ok1_pa v1
        simp only [pa] at hm
        rw [v3]
        exact h1 lo k (fst1 G) (nxt G) h.2.2.1.1 h.2.2.1.2 v1 v2 (ih _ _ (by omega) v2)
      | mulR n x => exact absurd h.1 (by decide)
      | add c n => exact absurd h.1 (by decide)
      | sub c n => exact absurd h.1 (by decide)
  intro F lo h
  exact H (pa F).toNat F lo (by omega) h
theorem cat_en {w : Fo} (h : ok1 w) (n : Fo) : en (cat w n) = en w ++ en n := by
  rcases h with ⟨x, rfl, hx⟩ | ⟨c, rfl, hc⟩ | ⟨c, rfl, hc⟩ <;> simp [cat, en]
theorem cat_nel {w : Fo} (h : ok1 w) (n : Fo) : nel (cat w n) = 1 + nel n := by
  rcases h with ⟨x, rfl, hx⟩ | ⟨c, rfl, hc⟩ | ⟨c, rfl, hc⟩ <;> simp [cat, nel]
theorem cat_get {w : Fo} (h : ok1 w) (f : Int) (n : Fo) : get f (cat w n) = get f n := by
  rcases h with ⟨x, rfl, hx⟩ | ⟨c, rfl, hc⟩ | ⟨c, rfl, hc⟩ <;> simp [cat, get]
theorem get_mulL {w : Fo} (h : ok1 w) (f k : Int) (n : Fo) : get f (.mulL k (cat w n)) = if k = f then w else get f n := by
  rw [show get f (.mulL k (cat w n)) = if k = f then fst1 (cat w n) else get f (cat w n) from rfl, (cat_tk h n).2.1, cat_get h]
theorem ok1_ne {v : Fo} (h : ok1 v) : v ≠ .num 0 := by
  rintro rfl
  have := (ok1_pa h).2.2
  simp [en] at this
theorem get_ok1 {F : Fo} {lo : Int} (f : Int) (h : okf true false lo F) : get f F = .num 0 ∨ (ok1 (get f F) ∧ pa (get f F) ≤ pa F) := by
  refine fldInd (P := fun _ F => get f F = .num 0 ∨ (ok1 (get f F) ∧ pa (get f F) ≤ pa F)) (fun lo => Or.inl rfl) (fun lo k v n h1 h2 hv hn ih => ?_) F lo h
  rw [get_mulL hv]
  have e : pa (.mulL k (cat v n)) = pa v + pa n := cat_pa hv n
  have := pa_nn v
  have := pa_nn n
  split
  · exact Or.inr ⟨hv, by omega⟩
  · rcases ih with ih | ⟨i1, i2⟩
    · exact Or.inl ih
    · exact Or.inr ⟨i1, by omega⟩
theorem en_rng : ∀ F : Fo, ∀ (b v : Bool) (lo : Int), 0 ≤ lo → okf b v lo F → ∀ y ∈ en F, -1000 < y ∧ y < 1000 := by
  intro F
  induction F with
  | num z => intro b v lo h0 h y hy; simp [en] at hy
  | var z => intro b v lo h0 h; exact h.elim
  | neg z ih => intro b v lo h0 h; exact h.elim
  | mulL k F ih =>
    intro b v lo h0 h y hy
    obtain ⟨-, -, h3, h4⟩ := h
    simp only [en, List.mem_cons] at hy
    rcases hy with rfl | hy
    · omega
    · exact ih _ _ (k + 1) (by omega) h4 y hy
  | mulR n x ih =>
    intro b v lo h0 h y hy
    obtain ⟨-, h2, h3⟩ := h
    simp only [en, List.mem_append] at hy
    rcases hy with hy | hy
    · rcases lfx_k h2 with ⟨q1, q2⟩ | ⟨q1, q2⟩ | ⟨q1, q2⟩
      · rw [show lf x = [0] by unfold lf; rw [q2]; rfl] at hy
        simp only [List.mem_cons, List.not_mem_nil, or_false] at hy
        omega
      · rw [show lf x = [1, x - 2000] by unfold lf; rw [q2]; rfl] at hy
        simp only [List.mem_cons, List.not_mem_nil, or_false] at hy
        omega
      · rw [show lf x = [2, x - 3000] by unfold lf; rw [q2]; rfl] at hy
        simp only [List.mem_cons, List.not_mem_nil, or_false] at hy
        omega
    · exact ih _ _ lo h0 h3 y hy
  | add c n ihc ihn =>
    intro b v lo h0 h y hy
    obtain ⟨-, h2, h3⟩ := h
    simp only [en, List.mem_cons, List.mem_append] at hy
    rcases hy with rfl | hy | rfl | hy
    · omega
    · exact ihc _ _ 0 (by omega) h2 y hy
    · omega
    · exact ihn _ _ lo h0 h3 y hy
  | sub c n ihc ihn =>
    intro b v lo h0 h y hy
    obtain ⟨-, h2, h3⟩ := h
    simp only [en, List.mem_cons, List.mem_append] at hy
    rcases hy with rfl | hy | rfl | hy
    · omega
    · exact ihc _ _ 0 (by omega) h2 y hy
    · omega
    · exact ihn _ _ lo h0 h3 y hy
/-! ===== the two orders are one ===== -/
theorem lexc_cc (x : Int) (a b : List Int) : lexc (x :: a) (x :: b) = lexc a b := by
  simp only [lexc, Int.lt_irrefl, if_false]
theorem lexc_lt {x y : Int} (h : x < y) (a b : List Int) : lexc (x :: a) (y :: b) = -1 := by
  simp only [lexc, if_pos h]
theorem lexc_gt {x y : Int} (h : y < x) (a b : List Int) : lexc (x :: a) (y :: b) = 1 := by
  simp only [lexc, if_neg (show ¬ x < y by omega), if_pos h]
theorem lexc_pp (p a b : List Int) : lexc (p ++ a) (p ++ b) = lexc a b := by
  induction p with
  | nil => rfl
  | cons x p ih => rw [List.cons_append, List.cons_append, lexc_cc, ih]
theorem lf_lt {x y : Int} (hx : lfx x) (hy : lfx y) (h : x < y) (a b : List Int) : lexc (lf x ++ a) (lf y ++ b) = -1 := by
  rcases lfx_k hx with ⟨q1, q2⟩ | ⟨q1, q2⟩ | ⟨q1, q2⟩ <;> rcases lfx_k hy with ⟨r1, r2⟩ | ⟨r1, r2⟩ | ⟨r1, r2⟩
  · omega
  all_goals (unfold lf; rw [q2, r2])
  · exact lexc_lt (by decide) _ _
  · exact lexc_lt (by decide) _ _
  · omega
  · exact (lexc_cc _ _ _).trans (lexc_lt (by omega) _ _)
  · exact lexc_lt (by decide) _ _
  · omega
  · omega
  · exact (lexc_cc _ _ _).trans (lexc_lt (by omega) _ _)
theorem lf_gt {x y : Int} (hx : lfx x) (hy : lfx y) (h : y < x) (a b : List Int) : lexc (lf x ++ a) (lf y ++ b) = 1 := by
  rcases lfx_k hx with ⟨q1, q2⟩ | ⟨q1, q2⟩ | ⟨q1, q2⟩ <;> rcases lfx_k hy with ⟨r1, r2⟩ | ⟨r1, r2⟩ | ⟨r1, r2⟩
  · omega
  all_goals (unfold lf; rw [q2, r2])
  · omega
  · omega
  · exact lexc_gt (by decide) _ _
  · exact (lexc_cc _ _ _).trans (lexc_gt (by omega) _ _)
  · omega
  · exact lexc_gt (by decide) _ _
  · exact lexc_gt (by decide) _ _
  · exact (lexc_cc _ _ _).trans (lexc_gt (by omega) _ _)
def lxS (F G : Fo) (r : Int) : Prop := ∀ s s' t t' : List Int, lexc (tk F ++ 0 :: s) (tk G ++ 0 :: s') = r ∧ lexc (en F ++ -1 :: t) (en G ++ -1 :: t') = r
theorem lx_fo : ∀ F G : Fo, ∀ (b v : Bool) (lo lo' : Int), 0 ≤ lo → 0 ≤ lo' → okf b v lo F → okf b v lo' G → F = G ∨ ∃ r, lxS F G r := by
  intro F
  induction F with
  | num z =>
    intro G b v lo lo' hl hl' hF hG
    obtain ⟨rfl, rfl⟩ := hF
    cases G with
    | num z => exact Or.inl (by rw [hG.2])
    | var z => exact hG.elim
    | neg z => exact hG.elim
    | mulL k G => exact Or.inr ⟨-1, fun s s' t t' => ⟨lexc_lt (by have := hG.2.2.1; omega) _ _, lexc_lt (by have := hG.2.2.1; omega) _ _⟩⟩
    | mulR n x =>
      obtain ⟨r, hr, -⟩ := lf_hd hG.2.1
      refine Or.inr ⟨-1, fun s s' t t' => ⟨lexc_lt (by have := (lfx_b hG.2.1); omega) _ _, ?_⟩⟩
      simp only [en, hr, List.nil_append, List.cons_append]
      exact lexc_lt (by have := knd_bnd x; omega) _ _
    | add c n => exact Or.inr ⟨-1, fun s s' t t' => ⟨lexc_lt (by omega) _ _, lexc_lt (by omega) _ _⟩⟩
    | sub c n => exact Or.inr ⟨-1, fun s s' t t' => ⟨lexc_lt (by omega) _ _, lexc_lt (by omega) _ _⟩⟩
  | var z => intro G b v lo lo' hl hl' hF; exact hF.elim
  | neg z ih => intro G b v lo lo' hl hl' hF; exact hF.elim
  | mulL k F ih =>
    intro G b v lo lo' hl hl' hF hG
    obtain ⟨rfl, rfl, h3, h4⟩ := hF
    cases G with
    | num z => exact Or.inr ⟨1, fun s s' t t' => ⟨lexc_gt (by omega) _ _, lexc_gt (by omega) _ _⟩⟩
    | var z => exact hG.elim
    | neg z => exact hG.elim
    | mulL k' G =>
      obtain ⟨-, -, g3, g4⟩ := hG
      rcases Int.lt_trichotomy k k' with h | h | h
      · exact Or.inr ⟨-1, fun s s' t t' => ⟨lexc_lt (by omega) _ _, lexc_lt (by omega) _ _⟩⟩
      · subst h
        rcases ih G true true (k + 1) (k + 1) (by omega) (by omega) h4 g4 with e | ⟨r, hr⟩
        · exact Or.inl (by rw [e])
        · exact Or.inr ⟨r, fun s s' t t' => ⟨(lexc_cc _ _ _).trans (hr s s' t t').1, (lexc_cc _ _ _).trans (hr s s' t t').2⟩⟩
      · exact Or.inr ⟨1, fun s s' t t' => ⟨lexc_gt (by omega) _ _, lexc_gt (by omega) _ _⟩⟩
    | mulR n x => exact absurd hG.1 (by decide)
    | add c n => exact absurd hG.1 (by decide)
    | sub c n => exact absurd hG.1 (by decide)
  | mulR n x ih =>
    intro G b v lo lo' hl hl' hF hG
    obtain ⟨hbv, h2, h3⟩ := hF
    obtain ⟨rx, hrx, -⟩ := lf_hd h2
    have hbx := lfx_b h2
    have hkx := knd_bnd x
    have hlk : knd x < 3 := by rcases lfx_k h2 with ⟨-, q⟩ | ⟨-, q⟩ | ⟨-, q⟩ <;> omega
    cases G with
    | num z =>
      refine Or.inr ⟨1, fun s s' t t' => ⟨lexc_gt (by omega) _ _, ?_⟩⟩
      simp only [en, hrx, List.nil_append, List.cons_append]
      exact lexc_gt (by omega) _ _
    | var z => exact hG.elim
    | neg z => exact hG.elim
    | mulL k' G => rw [hG.1, hG.2.1] at hbv; cases hbv
    | mulR n' y =>
      obtain ⟨-, g2, g3⟩ := hG
      rcases Int.lt_trichotomy x y with h | h | h
      · refine Or.inr ⟨-1, fun s s' t t' => ⟨lexc_lt h _ _, ?_⟩⟩
        simp only [en, List.append_assoc]
        exact lf_lt h2 g2 h _ _
      · subst h
        rcases ih n' b false lo lo' hl hl' h3 g3 with e | ⟨r, hr⟩
        · exact Or.inl (by rw [e])
        · refine Or.inr ⟨r, fun s s' t t' => ⟨(lexc_cc _ _ _).trans (hr s s' t t').1, ?_⟩⟩
          simp only [en, List.append_assoc]
          exact (lexc_pp _ _ _).trans (hr s s' t t').2
      · refine Or.inr ⟨1, fun s s' t t' => ⟨lexc_gt h _ _, ?_⟩⟩
        simp only [en, List.append_assoc]
        exact lf_gt h2 g2 h _ _
    | add c n' =>
      refine Or.inr ⟨-1, fun s s' t t' => ⟨lexc_lt (by omega) _ _, ?_⟩⟩
      simp only [en, hrx, List.cons_append]
      exact lexc_lt (by omega) _ _
    | sub c n' =>
      refine Or.inr ⟨-1, fun s s' t t' => ⟨lexc_lt (by omega) _ _, ?_⟩⟩
      simp only [en, hrx, List.cons_append]
      exact lexc_lt (by omega) _ _
  | add c n ihc ihn =>
    intro G b v lo lo' hl hl' hF hG
    obtain ⟨hbv, h2, h3⟩ := hF
    cases G with
    | num z => exact Or.inr ⟨1, fun s s' t t' => ⟨lexc_gt (by omega) _ _, lexc_gt (by omega) _ _⟩⟩
    | var z => exact hG.elim
    | neg z => exact hG.elim
    | mulL k' G => rw [hG.1, hG.2.1] at hbv; cases hbv
    | mulR n' y =>
      obtain ⟨ry, hry, -⟩ := lf_hd hG.2.1
      have hby := lfx_b hG.2.1
      have hlk : knd y < 3 := by rcases lfx_k hG.2.1 with ⟨-, q⟩ | ⟨-, q⟩ | ⟨-, q⟩ <;> omega
      refine Or.inr ⟨1, fun s s' t t' => ⟨lexc_gt (by omega) _ _, ?_⟩⟩
      simp only [en, hry, List.cons_append]
      exact lexc_gt (by omega) _ _
    | add c' n' =>
      obtain ⟨-, g2, g3⟩ := hG
      rcases ihc c' true false 0 0 (by omega) (by omega) h2 g2 with e | ⟨r, hr⟩
      · subst e
        rcases ihn n' b false lo lo' hl hl' h3 g3 with e | ⟨r, hr⟩
        · exact Or.inl (by rw [e])
        · refine Or.inr ⟨r, fun s s' t t' => ?_⟩
          simp only [tk, en, List.cons_append, List.append_assoc]
          exact ⟨(lexc_cc _ _ _).trans ((lexc_pp _ _ _).trans ((lexc_cc _ _ _).trans (hr s s' t t').1)), (lexc_cc _ _ _).trans ((lexc_pp _ _ _).trans ((lexc_cc _ _ _).trans (hr s s' t t').2))⟩
      · refine Or.inr ⟨r, fun s s' t t' => ?_⟩
        simp only [tk, en, List.cons_append, List.append_assoc]
        exact ⟨(lexc_cc _ _ _).trans (hr _ _ t t').1, (lexc_cc _ _ _).trans (hr s s' _ _).2⟩
    | sub c' n' => exact Or.inr ⟨1, fun s s' t t' => ⟨lexc_gt (by omega) _ _, lexc_gt (by omega) _ _⟩⟩
  | sub c n ihc ihn =>
    intro G b v lo lo' hl hl' hF hG
    obtain ⟨hbv, h2, h3⟩ := hF
    cases G with
    | num z => exact Or.inr ⟨1, fun s s' t t' => ⟨lexc_gt (by omega) _ _, lexc_gt (by omega) _ _⟩⟩
    | var z => exact hG.elim
    | neg z => exact hG.elim
    | mulL k' G => rw [hG.1, hG.2.1] at hbv; cases hbv
    | mulR n' y =>
      obtain ⟨ry, hry, -⟩ := lf_hd hG.2.1
      have hby := lfx_b hG.2.1
      have hlk : knd y < 3 := by rcases lfx_k hG.2.1 with ⟨-, q⟩ | ⟨-, q⟩ | ⟨-, q⟩ <;> omega
      refine Or.inr ⟨1, fun s s' t t' => ⟨lexc_gt (by omega) _ _, ?_⟩⟩
      simp only [en, hry, List.cons_append]
      exact lexc_gt (by omega) _ _
    | add c' n' => exact Or.inr ⟨-1, fun s s' t t' => ⟨lexc_lt (by omega) _ _, lexc_lt (by omega) _ _⟩⟩
    | sub c' n' =>
      obtain ⟨-, g2, g3⟩ := hG
      rcases ihc c' false false 0 0 (by omega) (by omega) h2 g2 with e | ⟨r, hr⟩
      · subst e
        rcases ihn n' b false lo lo' hl hl' h3 g3 with e | ⟨r, hr⟩
        · exact Or.inl (by rw [e])
        · refine Or.inr ⟨r, fun s s' t t' => ?_⟩
          simp only [tk, en, List.cons_append, List.append_assoc]
          exact ⟨(lexc_cc _ _ _).trans ((lexc_pp _ _ _).trans ((lexc_cc _ _ _).trans (hr s s' t t').1)), (lexc_cc _ _ _).trans ((lexc_pp _ _ _).trans ((lexc_cc _ _ _).trans (hr s s' t t').2))⟩
      · refine Or.inr ⟨r, fun s s' t t' => ?_⟩
        simp only [tk, en, List.cons_append, List.append_assoc]
        exact ⟨(lexc_cc _ _ _).trans (hr _ _ t t').1, (lexc_cc _ _ _).trans (hr s s' _ _).2⟩
theorem lx_en {v w : Fo} (hv : ok1 v) (hw : ok1 w) : lexc (en v) (en w) = lexc (tk v) (tk w) := by
  rcases hv with ⟨x, rfl, hx⟩ | ⟨c, rfl, hc⟩ | ⟨c, rfl, hc⟩ <;> rcases hw with ⟨y, rfl, hy⟩ | ⟨d, rfl, hd⟩ | ⟨d, rfl, hd⟩
  · rcases Int.lt_trichotomy x y with h | h | h
    · exact (lf_lt hx hy h [] []).trans (lexc_lt h [] []).symm
    · rw [h, lexc_self, lexc_self]
    · exact (lf_gt hx hy h [] []).trans (lexc_gt h [] []).symm
  · obtain ⟨r, hr, -⟩ := lf_hd hx
    have := lfx_b hx
    have : knd x < 3 := by rcases lfx_k hx with ⟨-, q⟩ | ⟨-, q⟩ | ⟨-, q⟩ <;> omega
    simp only [en, tk, hr, List.cons_append]
    rw [lexc_lt (by omega), lexc_lt (by omega)]
  · obtain ⟨r, hr, -⟩ := lf_hd hx
    have := lfx_b hx
    have : knd x < 3 := by rcases lfx_k hx with ⟨-, q⟩ | ⟨-, q⟩ | ⟨-, q⟩ <;> omega
    simp only [en, tk, hr, List.cons_append]
    rw [lexc_lt (by omega), lexc_lt (by omega)]
  · obtain ⟨r, hr, -⟩ := lf_hd hy
    have := lfx_b hy
    have : knd y < 3 := by rcases lfx_k hy with ⟨-, q⟩ | ⟨-, q⟩ | ⟨-, q⟩ <;> omega
    simp only [en, tk, hr, List.cons_append]
    rw [lexc_gt (by omega), lexc_gt (by omega)]
  · rcases lx_fo c d true false 0 0 (by omega) (by omega) hc hd with e | ⟨r, hr⟩
    · rw [e, lexc_self, lexc_self]
    · simp only [en, tk, lexc_cc]
      rw [(hr [] [] [] []).1, (hr [] [] [] []).2]
  · simp only [en, tk]
    rw [lexc_gt (by omega), lexc_gt (by omega)]
  · obtain ⟨r, hr, -⟩ := lf_hd hy
    have := lfx_b hy
    have : knd y < 3 := by rcases lfx_k hy with ⟨-, q⟩ | ⟨-, q⟩ | ⟨-, q⟩ <;> omega
    simp only [en, tk, hr, List.cons_append]
    rw [lexc_gt (by omega), lexc_gt (by omega)]
  · simp only [en, tk]
    rw [lexc_lt (by omega), lexc_lt (by omega)]
  · rcases lx_fo c d false false 0 0 (by omega) (by omega) hc hd with e | ⟨r, hr⟩
    · rw [e, lexc_self, lexc_self]
    · simp only [en, tk, lexc_cc]
      rw [(hr [] [] [] []).1, (hr [] [] [] []).2]
/-! ===== compare ===== -/
theorem cmp_lp {σ : xSig} {a n b m : Nat} {p q e1 e2 : Int} (ha : isMA a n) (hb : isMA b m) (h1 : e1 ≤ n) (h2 : e2 ≤ m) : ∀ (r s : List Int) (i j : Int), (∀ y ∈ r, -1000 < y ∧ y < 1000) → (∀ y ∈ s, -1000 < y ∧ y < 1000) → EA σ a i r → EA σ b j s → 0 ≤ i → 0 ≤ j → i + r.length = e1 → j + s.length = e2 → x_E MX12_compare 0 0 24 [some (.ref 281), some (.ref a), some (.int (ii p)), some (.ref b), some (.int (ii q)), some (.int (ii e1)), some (.int (ii e2)), some (.int (ii i)), some (.int (ii j))] [] (St σ) 0 0 (iv (lexc r s)) (St σ) := by
  have hnn := ha.2.2.1
  have hmm := hb.2.2.1
  intro r
  induction r with
  | nil =>
    intro s i j hr hs hE hE2 hi hj hl hl2
    simp only [List.length_nil] at hl
    rw [show lexc [] s = 0 from by unfold lexc; rfl]
    refine e_iload 14 26 rfl rfl rfl ?_
    refine e_iload 15 28 rfl rfl rfl ?_
    refine e_icmp_ge 16 75 31 rfl rfl rfl (by unfold xr at *; omega) (by unfold xr at *; omega) (fun _ => ?_) (fun h9 => absurd h9 (by omega))
    refine e_iconst 41 76 rfl rfl ?_
    exact e_ireturn 42 rfl rfl (Nat.le_of_ble_eq_true rfl) (Nat.le_of_ble_eq_true rfl)
  | cons x r ih =>
    intro s i j hr hs hE hE2 hi hj hl hl2
    simp only [List.length_cons] at hl
    cases s with
    | nil =>
      simp only [List.length_nil] at hl2
      rw [show lexc (x :: r) [] = 0 from by unfold lexc; rfl]
      refine e_iload 14 26 rfl rfl rfl ?_
      refine e_iload 15 28 rfl rfl rfl ?_
      refine e_icmp_ge 16 75 31 rfl rfl rfl (by unfold xr at *; omega) (by unfold xr at *; omega) (fun h9 => absurd h9 (by omega)) (fun _ => ?_)
      refine e_iload 17 33 rfl rfl rfl ?_
      refine e_iload 18 35 rfl rfl rfl ?_
      refine e_icmp_ge 19 75 38 rfl rfl rfl (by unfold xr at *; omega) (by unfold xr at *; omega) (fun _ => ?_) (fun h9 => absurd h9 (by omega))
      refine e_iconst 41 76 rfl rfl ?_
      exact e_ireturn 42 rfl rfl (Nat.le_of_ble_eq_true rfl) (Nat.le_of_ble_eq_true rfl)
    | cons y s =>
      simp only [List.length_cons] at hl2
      obtain ⟨g1, g2⟩ := EA.cons hE
      obtain ⟨k1, k2⟩ := EA.cons hE2
      have hx := hr x (by simp)
      have hy := hs y (by simp)
      refine e_iload 14 26 rfl rfl rfl ?_
      refine e_iload 15 28 rfl rfl rfl ?_
      refine e_icmp_ge 16 75 31 rfl rfl rfl (by unfold xr at *; omega) (by unfold xr at *; omega) (fun h9 => absurd h9 (by omega)) (fun _ => ?_)
      refine e_iload 17 33 rfl rfl rfl ?_
      refine e_iload 18 35 rfl rfl rfl ?_
      refine e_icmp_ge 19 75 38 rfl rfl rfl (by unfold xr at *; omega) (by unfold xr at *; omega) (fun h9 => absurd h9 (by omega)) (fun _ => ?_)
      refine e_aload_n 20 39 rfl rfl rfl rfl ?_
      refine e_iload 21 41 rfl rfl rfl ?_
      refine g_iaload 22 42 rfl rfl ha.1 ha.2.1 (by omega) (by omega) (by omega) g1 ?_
      refine e_aload_n 23 43 rfl rfl rfl rfl ?_
      refine e_iload 24 45 rfl rfl rfl ?_
      refine g_iaload 25 46 rfl rfl hb.1 hb.2.1 (by omega) (by omega) (by omega) k1 ?_
      refine e_icmp_eq 26 66 49 rfl rfl rfl (by unfold xr at *; omega) (by unfold xr at *; omega) (fun h => ?_) (fun h => ?_)
      · skip
        subst h
        rw [lexc_cc]
        refine e_iinc 38 69 (ls' := [some _, some _, some _, some _, some _, some _, some _, some _, some _]) rfl rfl (Nat.le_of_ble_eq_true rfl) rfl rfl ?_
        refine e_iinc 39 72 (ls' := [some _, some _, some _, some _, some _, some _, some _, some _, some _]) rfl rfl (Nat.le_of_ble_eq_true rfl) rfl rfl ?_
        refine e_goto 40 24 rfl rfl ?_
        exact ih s (i + 1) (j + 1) (fun y hy => hr y (by simp [hy])) (fun y hy => hs y (by simp [hy])) g2 k2 (by omega) (by omega) (by omega) (by omega)
      · skip
        refine e_aload_n 27 50 rfl rfl rfl rfl ?_
        refine e_iload 28 52 rfl rfl rfl ?_
        refine g_iaload 29 53 rfl rfl ha.1 ha.2.1 (by omega) (by omega) (by omega) g1 ?_
        refine e_aload_n 30 54 rfl rfl rfl rfl ?_
        refine e_iload 31 56 rfl rfl rfl ?_
        refine g_iaload 32 57 rfl rfl hb.1 hb.2.1 (by omega) (by omega) (by omega) k1 ?_
        refine e_icmp_ge 33 64 60 rfl rfl rfl (by unfold xr at *; omega) (by unfold xr at *; omega) (fun h3 => ?_) (fun h3 => ?_)
        · skip
          rw [lexc_gt (by omega)]
          refine e_iconst 36 65 rfl rfl ?_
          exact e_ireturn 37 rfl rfl (Nat.le_of_ble_eq_true rfl) (Nat.le_of_ble_eq_true rfl)
        · skip
          rw [lexc_lt h3]
          refine e_iconst 34 61 rfl rfl ?_
          refine e_goto 35 65 rfl rfl ?_
          exact e_ireturn 37 rfl rfl (Nat.le_of_ble_eq_true rfl) (Nat.le_of_ble_eq_true rfl)
theorem sp_mCompare {σ : xSig} {a n b m : Nat} {p q : Int} {v w : Fo} (h : MV σ a n p v) (h2 : MV σ b m q w) : Rm MX12_compare [.ref 281, .ref a, .int (ii p), .ref b, .int (ii q)] σ (iv (lexc (tk v) (tk w))) := by
  have q1 := sp_mEnd h
  have f1 : FP m11 σ (xu σ 311 0 (pa v)) := FP.rf.x11
  have q2 := sp_mEnd (h2.fp f1)
  have f2 := f1.x11 (v := pa w)
  obtain ⟨a1, a2, a3, a4, a5, a6⟩ := h.fp f2
  obtain ⟨b1, b2, b3, b4, b5, b6⟩ := h2.fp f2
  have lp := cmp_lp (p := p) (q := q) a1 b1 a5 b5 (en v) (en w) p q (en_rng v _ _ 0 (by omega) (ok1_okf a2)) (en_rng w _ _ 0 (by omega) (ok1_okf b2)) a6 b6 a4 b4 rfl rfl
  rw [lx_en a2 b2] at lp
  refine ⟨_, ?_, f2⟩
  refine e_entry okX12_compare (Nat.le_of_ble_eq_true rfl) (ls := [some _, some _, some _, some _, some _, none, none, none, none]) rfl ?_
  refine e_aload_n 0 1 rfl rfl rfl rfl ?_
  refine e_aload_n 1 2 rfl rfl rfl rfl ?_
  refine e_iload_n 2 3 rfl rfl rfl rfl ?_
  refine g_callV 3 6 (q1) okX12_end cvX12_131 ⟨(Nat.le_of_ble_eq_true rfl), (Nat.le_of_ble_eq_true rfl)⟩ rfl rfl (Nat.le_of_ble_eq_true rfl) rfl rfl rfl rfl rfl (Nat.le_of_ble_eq_true rfl) (Nat.le_of_ble_eq_true rfl) (Nat.le_of_ble_eq_true rfl) ?_
  refine e_istore 4 8 (ls' := [some _, some _, some _, some _, some _, some _, none, none, none]) rfl rfl (Nat.le_of_ble_eq_true rfl) rfl ?_
  refine e_aload_n 5 9 rfl rfl rfl rfl ?_
  refine e_aload_n 6 10 rfl rfl rfl rfl ?_
  refine e_iload 7 12 rfl rfl rfl ?_
  refine g_callV 8 15 (q2) okX12_end cvX12_131 ⟨(Nat.le_of_ble_eq_true rfl), (Nat.le_of_ble_eq_true rfl)⟩ rfl rfl (Nat.le_of_ble_eq_true rfl) rfl rfl rfl rfl rfl (Nat.le_of_ble_eq_true rfl) (Nat.le_of_ble_eq_true rfl) (Nat.le_of_ble_eq_true rfl) ?_
  refine e_istore 9 17 (ls' := [some _, some _, some _, some _, some _, some _, some _, none, none]) rfl rfl (Nat.le_of_ble_eq_true rfl) rfl ?_
  refine e_iload_n 10 18 rfl rfl rfl rfl ?_
  refine e_istore 11 20 (ls' := [some _, some _, some _, some _, some _, some _, some _, some _, none]) rfl rfl (Nat.le_of_ble_eq_true rfl) rfl ?_
  refine e_iload 12 22 rfl rfl rfl ?_
  refine e_istore 13 24 (ls' := [some _, some _, some _, some _, some _, some _, some _, some _, some _]) rfl rfl (Nat.le_of_ble_eq_true rfl) rfl ?_
  exact lp
/-! ===== fieldOf, membersOf ===== -/
/-- the stretch of a row from a place to another holds these numbers, and the place is in it -/
theorem okf_f0 {b : Bool} {lo : Int} {n : Fo} (h : okf b false lo n) : ∀ lo2, lo2 ≤ lo → okf b false lo2 n := fun lo2 h2 => okf_lo n b false lo lo2 h h2
theorem fo_lp {a nn : Nat} {R f : Int} (ha : isMA a nn) (hf : 0 ≤ f ∧ f < 8) : ∀ F lo, okf true false lo F → ∀ (p : Int) (σ : xSig), 0 ≤ lo → pa F ≤ 51 → 0 ≤ p → p + (en F).length < nn → EA σ a p (en F ++ [-1]) → ∃ (r : Int) (σ' : xSig), x_E MX12_fieldOf 0 0 5 [some (.ref 281), some (.ref a), some (.int (ii R)), some (.int (ii f)), some (.int (ii p))] [] (St σ) 0 0 (iv r) (St σ') ∧ FP m11 σ σ' ∧ ((get f F = .num 0 ∧ r = -1) ∨ (ok1 (get f F) ∧ p < r ∧ r + (en (get f F)).length ≤ p + (en F).length ∧ EA σ' a r (en (get f F)))) := by
  have hnn := ha.2.2.1
  refine fldInd (fun lo => ?_) (fun lo k v n hk hk8 hv hn ih => ?_)
  · intro p σ hlo hp hp0 hpn hE
    obtain ⟨e1, -⟩ := EA.cons hE
    simp only [en, List.length_nil] at hpn
    refine ⟨-1, σ, ?_, FP.rf, Or.inl ⟨rfl, rfl⟩⟩
    refine e_aload_n 4 6 rfl rfl rfl rfl ?_
    refine e_iload 5 8 rfl rfl rfl ?_
    refine g_iaload 6 9 rfl rfl ha.1 ha.2.1 (by omega) (by omega) (by omega) e1 ?_
    refine e_iconst 7 10 rfl rfl ?_
    refine e_icmp_eq 8 40 13 rfl rfl rfl (by unfold xr at *; omega) (by unfold xr at *; omega) (fun _ => ?_) (fun h9 => absurd h9 (fun q => q rfl))
    refine e_iconst 26 41 rfl rfl ?_
    exact e_ireturn 27 rfl rfl (Nat.le_of_ble_eq_true rfl) (Nat.le_of_ble_eq_true rfl)
  · intro p σ hlo hp hp0 hpn hE
    have hol := ok1_pa hv
    have e9 : pa (.mulL k (cat v n)) = pa v + pa n := cat_pa hv n
    have hpn9 := pa_nn n
    rw [e9] at hp
    simp only [en, cat_en hv, List.length_cons, List.length_append, List.cons_append, List.append_assoc] at hpn hE ⊢
    obtain ⟨e1, e2⟩ := EA.cons hE
    obtain ⟨e3, e4⟩ := EA.app e2
    rw [get_mulL hv]
    by_cases hkf : k = f
    · rw [if_pos hkf]
      refine ⟨p + 1, σ, ?_, FP.rf, Or.inr ⟨hv, by omega, by omega, e3⟩⟩
      refine e_aload_n 4 6 rfl rfl rfl rfl ?_
      refine e_iload 5 8 rfl rfl rfl ?_
      refine g_iaload 6 9 rfl rfl ha.1 ha.2.1 (by omega) (by omega) (by omega) e1 ?_
      refine e_iconst 7 10 rfl rfl ?_
      refine e_icmp_eq 8 40 13 rfl rfl rfl (by unfold xr at *; omega) (by unfold xr at *; omega) (fun h9 => absurd h9 (by omega)) (fun _ => ?_)
      refine e_aload_n 9 14 rfl rfl rfl rfl ?_
      refine e_iload 10 16 rfl rfl rfl ?_
      refine g_iaload 11 17 rfl rfl ha.1 ha.2.1 (by omega) (by omega) (by omega) e1 ?_
      refine e_iload_n 12 18 rfl rfl rfl rfl ?_
      refine e_icmp_ne 13 26 21 rfl rfl rfl (by unfold xr at *; omega) (by unfold xr at *; omega) (fun h9 => absurd h9 (fun q => q hkf)) (fun _ => ?_)
      refine e_iload 14 23 rfl rfl rfl ?_
      refine e_iconst 15 24 rfl rfl ?_
      refine e_iadd 16 25 rfl rfl ?_
      exact e_ireturn 17 rfl rfl (Nat.le_of_ble_eq_true rfl) (Nat.le_of_ble_eq_true rfl)
    · rw [if_neg hkf]
      have hM : MV σ a nn (p + 1) v := ⟨ha, hv, by omega, by omega, by omega, e3⟩
      have q1 := sp_mEnd hM
      have f1 : FP m11 σ (xu σ 311 0 (pa v)) := FP.rf.x11
      obtain ⟨r, σ', k1, k2, k3⟩ := ih (p + 1 + (en v).length) (xu σ 311 0 (pa v)) (by omega) (by omega) (by omega) (by omega) (e4.of11 ha f1)
      refine ⟨r, σ', ?_, f1.tr k2, ?_⟩
      · skip
        refine e_aload_n 4 6 rfl rfl rfl rfl ?_
        refine e_iload 5 8 rfl rfl rfl ?_
        refine g_iaload 6 9 rfl rfl ha.1 ha.2.1 (by omega) (by omega) (by omega) e1 ?_
        refine e_iconst 7 10 rfl rfl ?_
        refine e_icmp_eq 8 40 13 rfl rfl rfl (by unfold xr at *; omega) (by unfold xr at *; omega) (fun h9 => absurd h9 (by omega)) (fun _ => ?_)
        refine e_aload_n 9 14 rfl rfl rfl rfl ?_
        refine e_iload 10 16 rfl rfl rfl ?_
        refine g_iaload 11 17 rfl rfl ha.1 ha.2.1 (by omega) (by omega) (by omega) e1 ?_
        refine e_iload_n 12 18 rfl rfl rfl rfl ?_
        refine e_icmp_ne 13 26 21 rfl rfl rfl (by unfold xr at *; omega) (by unfold xr at *; omega) (fun _ => ?_) (fun h9 => absurd h9 hkf)
        refine e_aload_n 18 27 rfl rfl rfl rfl ?_
        refine e_aload_n 19 28 rfl rfl rfl rfl ?_
        refine e_iload 20 30 rfl rfl rfl ?_
        refine e_iconst 21 31 rfl rfl ?_
        refine e_iadd 22 32 rfl rfl ?_
        refine g_callV 23 35 (q1) okX12_end cvX12_131 ⟨(Nat.le_of_ble_eq_true rfl), (Nat.le_of_ble_eq_true rfl)⟩ rfl rfl (Nat.le_of_ble_eq_true rfl) rfl rfl rfl rfl rfl (Nat.le_of_ble_eq_true rfl) (Nat.le_of_ble_eq_true rfl) (Nat.le_of_ble_eq_true rfl) ?_
        refine e_istore 24 37 (ls' := [some _, some _, some _, some _, some _]) rfl rfl (Nat.le_of_ble_eq_true rfl) rfl ?_
        refine e_goto 25 5 rfl rfl ?_
        exact k1
      · rcases k3 with k3 | ⟨g1, g2, g3, g4⟩
        · exact Or.inl k3
        · exact Or.inr ⟨g1, by omega, by omega, g4⟩
theorem sp_mFieldOf {σ : xSig} {a nn : Nat} {p f : Int} {F : Fo} (h : MV σ a nn p (.add F (.num 0))) (hf : 0 ≤ f ∧ f < 8) : ∃ (r : Int) (σ' : xSig), x_Sp MX12_fieldOf 0 0 [.ref 281, .ref a, .int (ii p), .int (ii f)] (St σ) (iv r) (St σ') ∧ FP m11 σ σ' ∧ ((get f F = .num 0 ∧ r = -1) ∨ (0 ≤ r ∧ MV σ' a nn r (get f F))) := by
  obtain ⟨ha, hv, h24, hp, hp2, hE⟩ := h
  have hnn := ha.2.2.1
  have hF : okf true false 0 F := by
    rcases hv with ⟨x, hx, -⟩ | ⟨c, hx, h3⟩ | ⟨c, hx, h3⟩
    · cases hx
    · cases hx; exact h3
    · cases hx
  simp only [en, List.length_cons, List.length_append, List.length_nil] at hp2 hE
  obtain ⟨e1, e2⟩ := EA.cons hE
  have e9 : pa (.add F (.num 0)) = 1 + pa F := by simp [pa]
  rw [e9] at h24
  obtain ⟨r, σ', k1, k2, k3⟩ := fo_lp (R := p) ha hf F 0 hF (p + 1) σ (by omega) (by omega) (by omega) (by omega) e2
  refine ⟨r, σ', ?_, k2, ?_⟩
  · skip
    refine e_entry okX12_fieldOf (Nat.le_of_ble_eq_true rfl) (ls := [some _, some _, some _, some _, none]) rfl ?_
    refine e_iload_n 0 1 rfl rfl rfl rfl ?_
    refine e_iconst 1 2 rfl rfl ?_
    refine e_iadd 2 3 rfl rfl ?_
    refine e_istore 3 5 (ls' := [some _, some _, some _, some _, some _]) rfl rfl (Nat.le_of_ble_eq_true rfl) rfl ?_
    exact k1
  · rcases k3 with k3 | ⟨g1, g2, g3, g4⟩
    · exact Or.inl k3
    · have := get_pa F f _ _ hF
      exact Or.inr ⟨by omega, ha, g1, by omega, by omega, by omega, g4⟩
theorem mo_lpR {a nn : Nat} {P : Int} (ha : isMA a nn) (hP : 0 ≤ P ∧ P < nn) : ∀ F, okf false false 0 F → ∀ (p c : Int) (σ : xSig), σ a P = 3 → pa F ≤ 51 → 0 ≤ c → c + nel F ≤ 100 → 0 ≤ p → p + (en F).length < nn → EA σ a p (en F ++ [-1]) → ∃ (σ' : xSig), x_E MX12_membersOf 0 0 7 [some (.ref 281), some (.ref a), some (.int (ii P)), some (.int (ii c)), some (.int (ii p))] [] (St σ) 0 0 (iv (c + nel F)) (St σ') ∧ FP m11 σ σ' := by
  have hnn := ha.2.2.1
  refine rowInd ?_ (fun v n hv hn ih => ?_)
  · intro p c σ hP3 hp hc hc2 hp0 hpn hE
    obtain ⟨e1, -⟩ := EA.cons hE
    simp only [en, List.length_nil] at hpn
    refine ⟨σ, ?_, FP.rf⟩
    rw [show c + nel (.num 0) = c from Int.add_zero c]
    refine e_aload_n 6 8 rfl rfl rfl rfl ?_
    refine e_iload 7 10 rfl rfl rfl ?_
    refine g_iaload 8 11 rfl rfl ha.1 ha.2.1 (by omega) (by omega) (by omega) e1 ?_
    refine e_iconst 9 12 rfl rfl ?_
    refine e_icmp_eq 10 44 15 rfl rfl rfl (by unfold xr at *; omega) (by unfold xr at *; omega) (fun _ => ?_) (fun h9 => absurd h9 (fun q => q rfl))
    refine e_iload_n 27 45 rfl rfl rfl rfl ?_
    exact e_ireturn 28 rfl rfl (Nat.le_of_ble_eq_true rfl) (Nat.le_of_ble_eq_true rfl)
  · intro p c σ hP3 hp hc hc2 hp0 hpn hE
    have hol := ok1_pa hv
    have hpn9 := pa_nn n
    rw [cat_pa hv] at hp
    rw [cat_nel hv] at hc2 ⊢
    simp only [cat_en hv, List.length_append, List.append_assoc] at hpn hE ⊢
    obtain ⟨e3, e4⟩ := EA.app hE
    obtain ⟨y, hy⟩ : ∃ y, (en v).head? = some y := by
      cases h9 : en v with
      | nil => have := hol.2.2; rw [h9] at this; simp at this
      | cons y r => exact ⟨y, rfl⟩
    have hy0 : σ a p = y ∧ 0 ≤ y ∧ y < 10 := by
      rcases hv with ⟨x, rfl, hx⟩ | ⟨c, rfl, hc⟩ | ⟨c, rfl, hc⟩
      · obtain ⟨r, hr, -⟩ := lf_hd hx
        simp only [en, List.append_nil, hr, List.head?_cons, Option.some.injEq] at hy e3
        subst hy
        have := knd_bnd x
        exact ⟨(EA.cons e3).1, by omega, by omega⟩
      · simp only [en, List.head?_cons, Option.some.injEq] at hy
        subst hy
        exact ⟨(EA.cons e3).1, by omega, by omega⟩
      · simp only [en, List.head?_cons, Option.some.injEq] at hy
        subst hy
        exact ⟨(EA.cons e3).1, by omega, by omega⟩
    obtain ⟨e1, y0, y1⟩ := hy0
    have hM : MV σ a nn p v := ⟨ha, hv, by omega, by omega, by omega, e3⟩
    have q1 := sp_mEnd hM
    have f1 : FP m11 σ (xu σ 311 0 (pa v)) := FP.rf.x11
    obtain ⟨σ', k1, k2⟩ := ih (p + (en v).length) (c + 1) (xu σ 311 0 (pa v)) (by rw [xu_ne _ (Or.inl ha.2.2.2)]; exact hP3) (by omega) (by omega) (by omega) (by omega) (by omega) (e4.of11 ha f1)
    refine ⟨σ', ?_, f1.tr k2⟩
    rw [show c + (1 + nel n) = c + 1 + nel n by omega]
    refine e_aload_n 6 8 rfl rfl rfl rfl ?_
    refine e_iload 7 10 rfl rfl rfl ?_
    refine g_iaload 8 11 rfl rfl ha.1 ha.2.1 (by omega) (by omega) (by omega) e1 ?_
    refine e_iconst 9 12 rfl rfl ?_
    refine e_icmp_eq 10 44 15 rfl rfl rfl (by unfold xr at *; omega) (by unfold xr at *; omega) (fun h9 => absurd h9 (by omega)) (fun _ => ?_)
    refine e_aload_n 11 16 rfl rfl rfl rfl ?_
    refine e_aload_n 12 17 rfl rfl rfl rfl ?_
    refine e_aload_n 13 18 rfl rfl rfl rfl ?_
    refine e_iload_n 14 19 rfl rfl rfl rfl ?_
    refine g_iaload 15 20 rfl rfl ha.1 ha.2.1 (by omega) (by omega) (by omega) hP3 ?_
    refine e_iconst 16 21 rfl rfl ?_
    refine e_icmp_ne 17 31 24 rfl rfl rfl (by unfold xr at *; omega) (by unfold xr at *; omega) (fun _ => ?_) (fun h9 => absurd h9 (by omega))
    refine e_iload 22 33 rfl rfl rfl ?_
    refine g_callV 23 36 (q1) okX12_end cvX12_131 ⟨(Nat.le_of_ble_eq_true rfl), (Nat.le_of_ble_eq_true rfl)⟩ rfl rfl (Nat.le_of_ble_eq_true rfl) rfl rfl rfl rfl rfl (Nat.le_of_ble_eq_true rfl) (Nat.le_of_ble_eq_true rfl) (Nat.le_of_ble_eq_true rfl) ?_
    refine e_istore 24 38 (ls' := [some _, some _, some _, some _, some _]) rfl rfl (Nat.le_of_ble_eq_true rfl) rfl ?_
    refine e_iinc 25 41 (ls' := [some _, some _, some _, some _, some _]) rfl rfl (Nat.le_of_ble_eq_true rfl) rfl rfl ?_
    refine e_goto 26 7 rfl rfl ?_
    exact k1
theorem mo_lpF {a nn : Nat} {P : Int} (ha : isMA a nn) (hP : 0 ≤ P ∧ P < nn) : ∀ F lo, okf true false lo F → ∀ (p c : Int) (σ : xSig), 0 ≤ lo → σ a P = 4 → pa F ≤ 51 → 0 ≤ c → c + nel F ≤ 100 → 0 ≤ p → p + (en F).length < nn → EA σ a p (en F ++ [-1]) → ∃ (σ' : xSig), x_E MX12_membersOf 0 0 7 [some (.ref 281), some (.ref a), some (.int (ii P)), some (.int (ii c)), some (.int (ii p))] [] (St σ) 0 0 (iv (c + nel F)) (St σ') ∧ FP m11 σ σ' := by
  have hnn := ha.2.2.1
  refine fldInd (fun lo => ?_) (fun lo k v n hk hk8 hv hn ih => ?_)
  · intro p c σ hlo hP3 hp hc hc2 hp0 hpn hE
    obtain ⟨e1, -⟩ := EA.cons hE
    simp only [en, List.length_nil] at hpn
    refine ⟨σ, ?_, FP.rf⟩
    rw [show c + nel (.num 0) = c from Int.add_zero c]
    refine e_aload_n 6 8 rfl rfl rfl rfl ?_
    refine e_iload 7 10 rfl rfl rfl ?_
    refine g_iaload 8 11 rfl rfl ha.1 ha.2.1 (by omega) (by omega) (by omega) e1 ?_
    refine e_iconst 9 12 rfl rfl ?_
    refine e_icmp_eq 10 44 15 rfl rfl rfl (by unfold xr at *; omega) (by unfold xr at *; omega) (fun _ => ?_) (fun h9 => absurd h9 (fun q => q rfl))
    refine e_iload_n 27 45 rfl rfl rfl rfl ?_
    exact e_ireturn 28 rfl rfl (Nat.le_of_ble_eq_true rfl) (Nat.le_of_ble_eq_true rfl)
  · intro p c σ hlo hP3 hp hc hc2 hp0 hpn hE
    have hol := ok1_pa hv
    have hpn9 := pa_nn n
    have e9 : pa (.mulL k (cat v n)) = pa v + pa n := cat_pa hv n
    have e8 : nel (.mulL k (cat v n)) = 1 + nel n := cat_nel hv n
    rw [e9] at hp
    rw [e8] at hc2 ⊢
    simp only [en, cat_en hv, List.length_cons, List.length_append, List.cons_append, List.append_assoc] at hpn hE ⊢
    obtain ⟨e1, e2⟩ := EA.cons hE
    obtain ⟨e3, e4⟩ := EA.app e2
    have hM : MV σ a nn (p + 1) v := ⟨ha, hv, by omega, by omega, by omega, e3⟩
    have q1 := sp_mEnd hM
    have f1 : FP m11 σ (xu σ 311 0 (pa v)) := FP.rf.x11
    obtain ⟨σ', k1, k2⟩ := ih (p + 1 + (en v).length) (c + 1) (xu σ 311 0 (pa v)) (by omega) (by rw [xu_ne _ (Or.inl ha.2.2.2)]; exact hP3) (by omega) (by omega) (by omega) (by omega) (by omega) (e4.of11 ha f1)
    refine ⟨σ', ?_, f1.tr k2⟩
    rw [show c + (1 + nel n) = c + 1 + nel n by omega]
    refine e_aload_n 6 8 rfl rfl rfl rfl ?_
    refine e_iload 7 10 rfl rfl rfl ?_
    refine g_iaload 8 11 rfl rfl ha.1 ha.2.1 (by omega) (by omega) (by omega) e1 ?_
    refine e_iconst 9 12 rfl rfl ?_
    refine e_icmp_eq 10 44 15 rfl rfl rfl (by unfold xr at *; omega) (by unfold xr at *; omega) (fun h9 => absurd h9 (by omega)) (fun _ => ?_)
    refine e_aload_n 11 16 rfl rfl rfl rfl ?_
    refine e_aload_n 12 17 rfl rfl rfl rfl ?_
    refine e_aload_n 13 18 rfl rfl rfl rfl ?_
    refine e_iload_n 14 19 rfl rfl rfl rfl ?_
    refine g_iaload 15 20 rfl rfl ha.1 ha.2.1 (by omega) (by omega) (by omega) hP3 ?_
    refine e_iconst 16 21 rfl rfl ?_
    refine e_icmp_ne 17 31 24 rfl rfl rfl (by unfold xr at *; omega) (by unfold xr at *; omega) (fun h9 => absurd h9 (fun q => q rfl)) (fun _ => ?_)
    refine e_iload 18 26 rfl rfl rfl ?_
    refine e_iconst 19 27 rfl rfl ?_
    refine e_iadd 20 28 rfl rfl ?_
    refine e_goto 21 33 rfl rfl ?_
    refine g_callV 23 36 (q1) okX12_end cvX12_131 ⟨(Nat.le_of_ble_eq_true rfl), (Nat.le_of_ble_eq_true rfl)⟩ rfl rfl (Nat.le_of_ble_eq_true rfl) rfl rfl rfl rfl rfl (Nat.le_of_ble_eq_true rfl) (Nat.le_of_ble_eq_true rfl) (Nat.le_of_ble_eq_true rfl) ?_
    refine e_istore 24 38 (ls' := [some _, some _, some _, some _, some _]) rfl rfl (Nat.le_of_ble_eq_true rfl) rfl ?_
    refine e_iinc 25 41 (ls' := [some _, some _, some _, some _, some _]) rfl rfl (Nat.le_of_ble_eq_true rfl) rfl rfl ?_
    refine e_goto 26 7 rfl rfl ?_
    exact k1
/-- a value's row or object: its parts or fields -/
def wdt : Fo → Int
  | .sub c _ => nel c
  | .add c _ => nel c
  | _ => 0
theorem nel_pa (F : Fo) : 0 ≤ nel F ∧ nel F ≤ pa F := pa_nn F
theorem sp_mMembersOf {σ : xSig} {a nn : Nat} {p : Int} {v : Fo} (h : MV σ a nn p v) (hk : σ a p = 3 ∨ σ a p = 4) : Rm MX12_membersOf [.ref 281, .ref a, .int (ii p)] σ (iv (wdt v)) := by
  obtain ⟨ha, hv, h24, hp, hp2, hE⟩ := h
  have hnn := ha.2.2.1
  rcases hv with ⟨x, rfl, hx⟩ | ⟨c, rfl, hc⟩ | ⟨c, rfl, hc⟩
  · exfalso
    obtain ⟨r, hr, -⟩ := lf_hd hx
    simp only [en, List.append_nil, hr] at hE
    have e1 := (EA.cons hE).1
    rcases lfx_k hx with ⟨-, q⟩ | ⟨-, q⟩ | ⟨-, q⟩ <;> omega
  · simp only [en, List.length_cons, List.length_append, List.length_nil] at hp2 hE
    obtain ⟨e1, e2⟩ := EA.cons hE
    have e9 : pa (.add c (.num 0)) = 1 + pa c := by simp [pa]
    rw [e9] at h24
    have hnp := nel_pa c
    obtain ⟨σ', k1, k2⟩ := mo_lpF ha (P := p) (by omega) c 0 hc (p + 1) 0 σ (by omega) e1 (by omega) (by omega) (by omega) (by omega) (by omega) e2
    refine ⟨σ', ?_, k2⟩
    rw [show (0 : Int) + nel c = wdt (.add c (.num 0)) from Int.zero_add _] at k1
    refine e_entry okX12_membersOf (Nat.le_of_ble_eq_true rfl) (ls := [some _, some _, some _, none, none]) rfl ?_
    refine e_iconst 0 1 rfl rfl ?_
    refine e_istore_n 1 2 (ls' := [some _, some _, some _, some _, none]) rfl rfl rfl (Nat.le_of_ble_eq_true rfl) rfl ?_
    refine e_iload_n 2 3 rfl rfl rfl rfl ?_
    refine e_iconst 3 4 rfl rfl ?_
    refine e_iadd 4 5 rfl rfl ?_
    refine e_istore 5 7 (ls' := [some _, some _, some _, some _, some _]) rfl rfl (Nat.le_of_ble_eq_true rfl) rfl ?_
    exact k1
  · simp only [en, List.length_cons, List.length_append, List.length_nil] at hp2 hE
    obtain ⟨e1, e2⟩ := EA.cons hE
    have e9 : pa (.sub c (.num 0)) = 1 + pa c := by simp [pa]
    rw [e9] at h24
    have hnp := nel_pa c
    obtain ⟨σ', k1, k2⟩ := mo_lpR ha (P := p) (by omega) c hc (p + 1) 0 σ e1 (by omega) (by omega) (by omega) (by omega) (by omega) e2
    refine ⟨σ', ?_, k2⟩
    rw [show (0 : Int) + nel c = wdt (.sub c (.num 0)) from Int.zero_add _] at k1
    refine e_entry okX12_membersOf (Nat.le_of_ble_eq_true rfl) (ls := [some _, some _, some _, none, none]) rfl ?_
    refine e_iconst 0 1 rfl rfl ?_
    refine e_istore_n 1 2 (ls' := [some _, some _, some _, some _, none]) rfl rfl rfl (Nat.le_of_ble_eq_true rfl) rfl ?_
    refine e_iload_n 2 3 rfl rfl rfl rfl ?_
    refine e_iconst 3 4 rfl rfl ?_
    refine e_iadd 4 5 rfl rfl ?_
    refine e_istore 5 7 (ls' := [some _, some _, some _, some _, some _]) rfl rfl (Nat.le_of_ble_eq_true rfl) rfl ?_
    exact k1
