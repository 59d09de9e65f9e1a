/-! ===== documents ===== -/
theorem pl_len : ∀ F : Fo, ∀ i : Int, ((pl F i).length : Int) = nel F := by
  intro F
  induction F with
  | num z =>
    intro i
    rfl
  | var z =>
    intro i
    rfl
  | neg z ih =>
    intro i
    rfl
  | mulL k F ih =>
    intro i
    exact ih _
  | mulR n x ih =>
    intro i
    have := ih (i + 1)
    simp only [pl, nel, List.length_cons]
    omega
  | add c n ihc ihn =>
    intro i
    have := ihn (i + (tk c).length + 2)
    simp only [pl, nel, List.length_cons]
    omega
  | sub c n ihc ihn =>
    intro i
    have := ihn (i + (tk c).length + 2)
    simp only [pl, nel, List.length_cons]
    omega
theorem sp1_len {b : Bool} {lo i : Int} {G : Fo} (h : okf b true lo G) : ((sp1 G i).length : Int) ≤ pa (fst1 G) := by
  cases G with
  | num z => exact absurd h.1 (by decide)
  | var z => exact h.elim
  | neg z => exact h.elim
  | mulL k G => exact absurd h.2.1 (by decide)
  | mulR n x => simp [sp1, fst1, cat, pa]
  | add c n =>
    have := pa_nn c
    simp only [sp1, fst1, cat, pa, List.length_singleton]
    omega
  | sub c n =>
    have := pl_len c (i + 1)
    have := pa_nn c
    simp only [sp1, fst1, cat, pa, List.length_cons]
    omega
theorem gsp_len : ∀ F : Fo, ∀ (f : Int) (v : Bool) (lo i : Int), okf true v lo F → ((gsp f F i).length : Int) ≤ pa F := by
  intro F
  induction F with
  | num z =>
    intro f v lo i h
    simp [gsp, pa]
  | var z =>
    intro f v lo i h
    exact h.elim
  | neg z ih =>
    intro f v lo i h
    exact h.elim
  | mulL k F ih =>
    intro f v lo i h
    simp only [gsp, pa]
    by_cases q : k = f
    · subst q
      rw [if_pos rfl, gsp_hi F _ _ _ _ h.2.2.2 (by omega), List.append_nil]
      have := sp1_len (i := i + 1) h.2.2.2
      have h2 := (val_cases h.2.2.2).2.2.2.2
      have := pa_nn (nxt F)
      omega
    · rw [if_neg q, List.nil_append]
      exact ih _ _ _ _ h.2.2.2
  | mulR n x ih =>
    intro f v lo i h
    have := ih f _ _ (i + 1) h.2.2
    simp only [gsp, pa]
    omega
  | add c n ihc ihn =>
    intro f v lo i h
    have := ihn f _ _ (i + (tk c).length + 2) h.2.2
    have := pa_nn c
    simp only [gsp, pa]
    omega
  | sub c n ihc ihn =>
    intro f v lo i h
    have := ihn f _ _ (i + (tk c).length + 2) h.2.2
    have := pa_nn c
    simp only [gsp, pa]
    omega
theorem rsp_len : ∀ F : Fo, ∀ (f : Int) (v : Bool) (lo i : Int), okf false v lo F → ((rsp f F i).length : Int) ≤ pa F := by
  intro F
  induction F with
  | num z =>
    intro f v lo i h
    simp [rsp, pa]
  | var z =>
    intro f v lo i h
    exact h.elim
  | neg z ih =>
    intro f v lo i h
    exact h.elim
  | mulL k F ih =>
    intro f v lo i h
    exact absurd h.1 (by decide)
  | mulR n x ih =>
    intro f v lo i h
    have := ih f _ _ (i + 1) h.2.2
    simp only [rsp, pa]
    omega
  | add c n ihc ihn =>
    intro f v lo i h
    have := ihn f _ _ (i + (tk c).length + 2) h.2.2
    have := gsp_len c f _ _ (i + 1) h.2.1
    simp only [rsp, pa, List.length_append]
    omega
  | sub c n ihc ihn =>
    intro f v lo i h
    have := ihn f _ _ (i + (tk c).length + 2) h.2.2
    have := pa_nn c
    simp only [rsp, pa]
    omega
theorem gs2_len : ∀ F : Fo, ∀ (f g : Int) (v : Bool) (lo i : Int), okf true v lo F → ((gs2 f g F i).length : Int) ≤ pa F := by
  intro F
  induction F with
  | num z =>
    intro f g v lo i h
    simp [gs2, pa]
  | var z =>
    intro f g v lo i h
    exact h.elim
  | neg z ih =>
    intro f g v lo i h
    exact h.elim
  | mulL k F ih =>
    intro f g v lo i h
    simp only [gs2, pa]
    by_cases q : k = f
    · subst q
      rw [if_pos rfl, gs2_hi F _ _ _ _ _ h.2.2.2 (by omega), List.append_nil]
      have hF := h.2.2.2
      cases F with
      | num z => simp [pa]
      | var z => simp [pa]
      | neg z => simp [pa]
      | mulL k' F' => exact absurd hF.2.1 (by decide)
      | mulR n x => have := pa_nn n; simp only [pa, List.length_nil]; omega
      | add c n =>
        have := gsp_len c g _ _ (i + 2) hF.2.1
        have := pa_nn n
        simp only [pa]
        omega
      | sub c n =>
        have := rsp_len c g _ _ (i + 2) hF.2.1
        have := pa_nn n
        simp only [pa]
        omega
    · rw [if_neg q, List.nil_append]
      exact ih _ _ _ _ _ h.2.2.2
  | mulR n x ih =>
    intro f g v lo i h
    have := ih f g _ _ (i + 1) h.2.2
    simp only [gs2, pa]
    omega
  | add c n ihc ihn =>
    intro f g v lo i h
    have := ihn f g _ _ (i + (tk c).length + 2) h.2.2
    have := pa_nn c
    simp only [gs2, pa]
    omega
  | sub c n ihc ihn =>
    intro f g v lo i h
    have := ihn f g _ _ (i + (tk c).length + 2) h.2.2
    have := pa_nn c
    simp only [gs2, pa]
    omega
theorem asp_len {F : Fo} (h : okf true false 0 F) (path : Int) : ((asp F path).length : Int) ≤ pa F := by
  unfold asp
  split
  · exact gsp_len F _ _ _ _ h
  · exact gs2_len F _ _ _ _ _ h
/-- a document's signs, of these fields -/
def DC (t : List Int) (F : Fo) : Prop := t = 5000 :: (tk F ++ [0]) ∧ okf true false 0 F ∧ pa F ≤ 23
theorem DC.gd {t : List Int} {F : Fo} (h : DC t F) : GD t := by
  obtain ⟨h1, h2, h3⟩ := h
  refine ⟨by rw [h1]; simp, fun path p0 p1 => ?_⟩
  rw [h1, atp_eq h2 ⟨p0, p1⟩]
  have hl := asp_len h2 path
  refine ⟨by rw [List.length_map]; omega, fun i hi => ?_⟩
  obtain ⟨q, hq, rfl⟩ := List.mem_map.mp hi
  have ha := asp_at h2 path q hq
  refine ⟨ha.2.1, ha.2.2.1, ?_⟩
  rw [ha.val]
  exact ok1_Cv ha.1
theorem DC.len {t : List Int} {F : Fo} (h : DC t F) : t.length ≤ 72 := by
  obtain ⟨h1, h2, h3⟩ := h
  have := tk_len F _ _ _ h2
  rw [h1]
  simp only [List.length_cons, List.length_append, List.length_nil]
  simp only [Bool.false_eq_true, if_false] at this
  omega
/-- what is had at a path -/
def als (F : Fo) (path : Int) : List Fo := (asp F path).map Prod.snd
theorem als_ok {F : Fo} (h : okf true false 0 F) (path : Int) : ∀ v ∈ als F path, ok1 v := by
  intro v hv
  obtain ⟨q, hq, rfl⟩ := List.mem_map.mp hv
  exact (asp_at h path q hq).1
/-- whether a value fits a filter -/
def fitF (rel : Int) (w : List Int) (v : Fo) : Bool :=
  if rel = 0 then decide (lexc (tk v) w = 0)
  else if rel = 3 then true
  else if rel = 4 then decide (knd (tok (tk v) 0) = 3 ∧ wsc (tk v) 0 = tok w 0 - 2000)
  else decide ((knd (tok (tk v) 0) = 1 ∨ knd (tok (tk v) 0) = 2) ∧ knd (tok (tk v) 0) = knd (tok w 0)) && (if rel = 1 then decide (tok (tk v) 0 < tok w 0) else decide (tok w 0 < tok (tk v) 0))
theorem AT.tok0 {t : List Int} {q : Int × Fo} (h : AT t q) : tok t q.1 = tok (tk q.2) 0 := by
  obtain ⟨h1, h2, h3, r, h4⟩ := h
  have hl := (ok1_Cv h1).2.1
  cases hq : tk q.2 with
  | nil => rw [hq] at hl; simp at hl
  | cons x m =>
    rw [hq] at h4
    have e := (drop_split t (i := q.1) ⟨h2, h3⟩)
    rw [h4] at e
    have := tok_at (t := t) (p := t.take q.1.toNat) (r := m ++ r) (x := x) e.1
    rw [e.2] at this
    rw [this]
    rfl
theorem wsc_v : ∀ (v : List Int) (d : Int), d + dsum v ≤ 0 → (∀ k : Nat, 0 < k → k < v.length → 1 ≤ d + dsum (v.take k)) → 0 < v.length → ∀ r, wsc (v ++ r) d = wsc v d := by
  intro v
  induction v with
  | nil => intro d _ _ h; simp at h
  | cons x v ih =>
    intro d h1 h2 _ r
    simp only [List.cons_append, wsc]
    cases v with
    | nil =>
      simp only [dsum] at h1
      rw [if_pos (by omega : d + trn x ≤ 0), if_pos (by omega : d + trn x ≤ 0)]
    | cons y v =>
      have h3 := h2 1 (by omega) (by simp)
      simp only [List.take_succ_cons, List.take_zero, dsum] at h3
      have hh := ih (d + trn x) (by simp only [dsum] at h1 ⊢; omega) (fun k k0 k1 => by
        have := h2 (k + 1) (by omega) (by simp only [List.length_cons] at k1 ⊢; omega)
        simp only [List.take_succ_cons, dsum] at this
        omega) (by simp) r
      rw [if_neg (by omega : ¬ d + trn x ≤ 0), if_neg (by omega : ¬ d + trn x ≤ 0), hh]
theorem AT.wsc0 {t : List Int} {q : Int × Fo} (h : AT t q) : wsc (t.drop q.1.toNat) 0 = wsc (tk q.2) 0 := by
  obtain ⟨h1, h2, h3, r, h4⟩ := h
  have hc := ok1_Cv h1
  rw [h4]
  exact wsc_v _ _ (by have := hc.1; omega) (fun k k0 k1 => by have := hc.2.2 k k0 k1; omega) hc.2.1 r
theorem AT.fit {t : List Int} {q : Int × Fo} (h : AT t q) (rel : Int) (w : List Int) : ffit rel w t q.1 = fitF rel w q.2 := by
  unfold ffit fitF
  rw [h.tok0, h.val, h.wsc0]
theorem DC.any {t : List Int} {F : Fo} (h : DC t F) {path : Int} (hp : 0 ≤ path ∧ path < 72) (rel : Int) (w : List Int) : (atp t path).any (ffit rel w t) = (als F path).any (fitF rel w) := by
  obtain ⟨h1, h2, h3⟩ := h
  have ha := asp_at h2 path
  rw [h1, atp_eq h2 hp]
  unfold als
  generalize asp F path = L at ha
  induction L with
  | nil => rfl
  | cons q L ih =>
    simp only [List.map_cons, List.any_cons]
    rw [(ha q (by simp)).fit, ih (fun q hq => ha q (by simp [hq]))]
/-- how many values are the same as none ahead of them -/
def frF (m : List Fo) (x : Fo) : Bool := m.all fun y => decide (lexc (tk y) (tk x) ≠ 0)
def cfF : List Fo → List Fo → Int
  | _, [] => 0
  | m, x :: r => bi (frF m x) + cfF (m ++ [x]) r
theorem cfr_map {t : List Int} : ∀ (r m : List (Int × Fo)), (∀ q ∈ m, AT t q) → (∀ q ∈ r, AT t q) → cfr t (m.map Prod.fst) (r.map Prod.fst) = cfF (m.map Prod.snd) (r.map Prod.snd) := by
  intro r
  induction r with
  | nil => intro m _ _; rfl
  | cons q r ih =>
    intro m hm hr
    have hq := hr q (by simp)
    have e : frs t (m.map Prod.fst) q.1 = frF (m.map Prod.snd) q.2 := by
      unfold frs frF
      rw [hq.val, List.all_map, List.all_map, Bool.eq_iff_iff, List.all_eq_true, List.all_eq_true]
      constructor
      · intro z y hy
        have := z y hy
        simp only [Function.comp, (hm y hy).val] at this ⊢
        exact this
      · intro z y hy
        have := z y hy
        simp only [Function.comp, (hm y hy).val] at this ⊢
        exact this
    have h2 := ih (m ++ [q]) (fun q' h' => by
      rcases List.mem_append.mp h' with z | z
      · exact hm q' z
      · simp at z; rw [z]; exact hq) (fun q' h' => hr q' (by simp [h']))
    simp only [List.map_append, List.map_cons, List.map_nil] at h2
    simp only [List.map_cons, cfr, cfF]
    rw [e, h2]
theorem DC.cfr {t : List Int} {F : Fo} (h : DC t F) {path : Int} (hp : 0 ≤ path ∧ path < 72) : cfr t [] (atp t path) = cfF [] (als F path) := by
  obtain ⟨h1, h2, h3⟩ := h
  have ha := asp_at h2 path
  rw [h1, atp_eq h2 hp]
  exact cfr_map _ [] (by simp) ha
