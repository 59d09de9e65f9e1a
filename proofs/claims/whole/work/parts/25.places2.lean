/-! ===== places in a forest ===== -/
theorem len_n (p : List Int) (h : Int) (c : List Int) : ((p ++ h :: (c ++ [0])).length : Int) = p.length + c.length + 2 := by simp; omega
theorem len_2 (p : List Int) (x y : Int) : ((p ++ [x, y]).length : Int) = p.length + 2 := by simp
/-- the places of a row's parts, with them, from a place on -/
def pl : Fo → Int → List (Int × Fo)
  | .mulL _ F, i => pl F (i + 1)
  | .mulR n x, i => (i, .mulR (.num 0) x) :: pl n (i + 1)
  | .add c n, i => (i, .add c (.num 0)) :: pl n (i + (tk c).length + 2)
  | .sub c n, i => (i, .sub c (.num 0)) :: pl n (i + (tk c).length + 2)
  | _, _ => []
/-- what is had at a value: it, and a row's parts -/
def sp1 : Fo → Int → List (Int × Fo)
  | .mulR _ x, i => [(i, .mulR (.num 0) x)]
  | .add c _, i => [(i, .add c (.num 0))]
  | .sub c _, i => (i, .sub c (.num 0)) :: pl c (i + 1)
  | _, _ => []
/-- at a field -/
def gsp (f : Int) : Fo → Int → List (Int × Fo)
  | .mulL k F, i => (if k = f then sp1 F (i + 1) else []) ++ gsp f F (i + 1)
  | .mulR n _, i => gsp f n (i + 1)
  | .add c n, i => gsp f n (i + (tk c).length + 2)
  | .sub c n, i => gsp f n (i + (tk c).length + 2)
  | _, _ => []
/-- at a field of each object that is a row's part -/
def rsp (f : Int) : Fo → Int → List (Int × Fo)
  | .mulL _ F, i => rsp f F (i + 1)
  | .mulR n _, i => rsp f n (i + 1)
  | .add c n, i => gsp f c (i + 1) ++ rsp f n (i + (tk c).length + 2)
  | .sub c n, i => rsp f n (i + (tk c).length + 2)
  | _, _ => []
/-- at a field of the value at a field -/
def gs2 (f g : Int) : Fo → Int → List (Int × Fo)
  | .mulL k F, i => (if k = f then (match F with
    | .add c _ => gsp g c (i + 2)
    | .sub c _ => rsp g c (i + 2)
    | _ => []) else []) ++ gs2 f g F (i + 1)
  | .mulR n _, i => gs2 f g n (i + 1)
  | .add c n, i => gs2 f g n (i + (tk c).length + 2)
  | .sub c n, i => gs2 f g n (i + (tk c).length + 2)
  | _, _ => []
/-- of a document's fields, at a path -/
def asp (F : Fo) (path : Int) : List (Int × Fo) := if path < 8 then gsp path F 1 else gs2 (path / 8 - 1) (path % 8) F 1
/-- a value stands at a place -/
def AT (t : List Int) (q : Int × Fo) : Prop := ok1 q.2 ∧ 0 ≤ q.1 ∧ q.1 < t.length ∧ ∃ r, t.drop q.1.toNat = tk q.2 ++ r
theorem AT.val {t : List Int} {q : Int × Fo} (h : AT t q) : sv t q.1 = tk q.2 := by
  obtain ⟨h1, h2, h3, r, h4⟩ := h
  unfold sv
  rw [h4, vsc_cv (ok1_Cv h1), List.take_left' rfl]
theorem drop_at {t p r : List Int} (h : t = p ++ r) (i : Int) (hi : i = p.length) : t.drop i.toNat = r := by
  rw [h, hi]
  simp
theorem AT.mk {t p r : List Int} {v : Fo} (hv : ok1 v) (h : t = p ++ (tk v ++ r)) {i : Int} (hi : i = p.length) : AT t (i, v) := by
  have := (ok1_Cv hv).2.1
  refine ⟨hv, by simp only; omega, ?_, r, drop_at h i hi⟩
  rw [h, hi]
  simp only [List.length_append]
  omega
theorem pl_at : ∀ F : Fo, ∀ (b v : Bool) (lo : Int) (t p s : List Int), okf b v lo F → t = p ++ (tk F ++ s) → ∀ q ∈ pl F p.length, AT t q := by
  intro F
  induction F with
  | num z =>
    intro b v lo t p s h ht q hq
    simp [pl] at hq
  | var z =>
    intro b v lo t p s h
    exact h.elim
  | neg z ih =>
    intro b v lo t p s h
    exact h.elim
  | mulL k F ih =>
    intro b v lo t p s h ht q hq
    have := ih _ _ _ t (p ++ [1 + k]) s h.2.2.2 (by rw [ht]; simp [tk])
    rw [len_s] at this
    exact this q hq
  | mulR n x ih =>
    intro b v lo t p s h ht q hq
    have := ih _ _ _ t (p ++ [x]) s h.2.2 (by rw [ht]; simp [tk])
    rw [len_s] at this
    rcases List.mem_cons.mp hq with e | e
    · rw [e]
      exact AT.mk (Or.inl ⟨x, rfl, h.2.1⟩) (r := tk n ++ s) (by rw [ht]; simp [tk]) rfl
    · exact this q e
  | add c n ihc ihn =>
    intro b v lo t p s h ht q hq
    have := ihn _ _ _ t (p ++ 5000 :: (tk c ++ [0])) s h.2.2 (by rw [ht]; simp [tk])
    rw [len_n] at this
    rcases List.mem_cons.mp hq with e | e
    · rw [e]
      exact AT.mk (Or.inr (Or.inl ⟨c, rfl, h.2.1⟩)) (r := tk n ++ s) (by rw [ht]; simp [tk]) rfl
    · exact this q e
  | sub c n ihc ihn =>
    intro b v lo t p s h ht q hq
    have := ihn _ _ _ t (p ++ 4000 :: (tk c ++ [0])) s h.2.2 (by rw [ht]; simp [tk])
    rw [len_n] at this
    rcases List.mem_cons.mp hq with e | e
    · rw [e]
      exact AT.mk (Or.inr (Or.inr ⟨c, rfl, h.2.1⟩)) (r := tk n ++ s) (by rw [ht]; simp [tk]) rfl
    · exact this q e
theorem sp1_at {b : Bool} {lo : Int} {G : Fo} {t p s : List Int} (h : okf b true lo G ∨ ok1 G) (ht : t = p ++ (tk G ++ s)) : ∀ q ∈ sp1 G p.length, AT t q := by
  have h' : (∃ x n, G = .mulR n x ∧ lfx x) ∨ (∃ c n, G = .add c n ∧ okf true false 0 c) ∨ ∃ c n, G = .sub c n ∧ okf false false 0 c := by
    rcases h with h | h
    · cases G with
      | num z => exact absurd h.1 (by decide)
      | var z => exact h.elim
      | neg z => exact h.elim
      | mulL k G => exact absurd h.2.1 (by decide)
      | mulR n x => exact Or.inl ⟨x, n, rfl, h.2.1⟩
      | add c n => exact Or.inr (Or.inl ⟨c, n, rfl, h.2.1⟩)
      | sub c n => exact Or.inr (Or.inr ⟨c, n, rfl, h.2.1⟩)
    · rcases h with ⟨x, rfl, hx⟩ | ⟨c, rfl, hc⟩ | ⟨c, rfl, hc⟩
      · exact Or.inl ⟨x, _, rfl, hx⟩
      · exact Or.inr (Or.inl ⟨c, _, rfl, hc⟩)
      · exact Or.inr (Or.inr ⟨c, _, rfl, hc⟩)
  intro q hq
  rcases h' with ⟨x, n, rfl, hx⟩ | ⟨c, n, rfl, hc⟩ | ⟨c, n, rfl, hc⟩
  · simp only [sp1, List.mem_singleton] at hq
    rw [hq]
    exact AT.mk (Or.inl ⟨x, rfl, hx⟩) (r := tk n ++ s) (by rw [ht]; simp [tk]) rfl
  · simp only [sp1, List.mem_singleton] at hq
    rw [hq]
    exact AT.mk (Or.inr (Or.inl ⟨c, rfl, hc⟩)) (r := tk n ++ s) (by rw [ht]; simp [tk]) rfl
  · simp only [sp1] at hq
    rcases List.mem_cons.mp hq with e | e
    · rw [e]
      exact AT.mk (Or.inr (Or.inr ⟨c, rfl, hc⟩)) (r := tk n ++ s) (by rw [ht]; simp [tk]) rfl
    · have := pl_at c _ _ _ t (p ++ [4000]) (0 :: tk n ++ s) hc (by rw [ht]; simp [tk])
      rw [len_s] at this
      exact this q e
theorem gsp_at : ∀ F : Fo, ∀ (f : Int) (b v : Bool) (lo : Int) (t p s : List Int), okf b v lo F → t = p ++ (tk F ++ s) → ∀ q ∈ gsp f F p.length, AT t q := by
  intro F
  induction F with
  | num z =>
    intro f b v lo t p s h ht q hq
    simp [gsp] at hq
  | var z =>
    intro f b v lo t p s h
    exact h.elim
  | neg z ih =>
    intro f b v lo t p s h
    exact h.elim
  | mulL k F ih =>
    intro f b v lo t p s h ht q hq
    have := ih f _ _ _ t (p ++ [1 + k]) s h.2.2.2 (by rw [ht]; simp [tk])
    rw [len_s] at this
    simp only [gsp] at hq
    rcases List.mem_append.mp hq with e | e
    · split at e
      · have h9 := sp1_at (t := t) (p := p ++ [1 + k]) (s := s) (Or.inl h.2.2.2) (by rw [ht]; simp [tk])
        rw [len_s] at h9
        exact h9 q e
      · simp at e
    · exact this q e
  | mulR n x ih =>
    intro f b v lo t p s h ht q hq
    have := ih f _ _ _ t (p ++ [x]) s h.2.2 (by rw [ht]; simp [tk])
    rw [len_s] at this
    exact this q hq
  | add c n ihc ihn =>
    intro f b v lo t p s h ht q hq
    have := ihn f _ _ _ t (p ++ 5000 :: (tk c ++ [0])) s h.2.2 (by rw [ht]; simp [tk])
    rw [len_n] at this
    exact this q hq
  | sub c n ihc ihn =>
    intro f b v lo t p s h ht q hq
    have := ihn f _ _ _ t (p ++ 4000 :: (tk c ++ [0])) s h.2.2 (by rw [ht]; simp [tk])
    rw [len_n] at this
    exact this q hq
theorem rsp_at : ∀ F : Fo, ∀ (f : Int) (b v : Bool) (lo : Int) (t p s : List Int), okf b v lo F → t = p ++ (tk F ++ s) → ∀ q ∈ rsp f F p.length, AT t q := by
  intro F
  induction F with
  | num z =>
    intro f b v lo t p s h ht q hq
    simp [rsp] at hq
  | var z =>
    intro f b v lo t p s h
    exact h.elim
  | neg z ih =>
    intro f b v lo t p s h
    exact h.elim
  | mulL k F ih =>
    intro f b v lo t p s h ht q hq
    have := ih f _ _ _ t (p ++ [1 + k]) s h.2.2.2 (by rw [ht]; simp [tk])
    rw [len_s] at this
    exact this q hq
  | mulR n x ih =>
    intro f b v lo t p s h ht q hq
    have := ih f _ _ _ t (p ++ [x]) s h.2.2 (by rw [ht]; simp [tk])
    rw [len_s] at this
    exact this q hq
  | add c n ihc ihn =>
    intro f b v lo t p s h ht q hq
    have := ihn f _ _ _ t (p ++ 5000 :: (tk c ++ [0])) s h.2.2 (by rw [ht]; simp [tk])
    rw [len_n] at this
    simp only [rsp] at hq
    rcases List.mem_append.mp hq with e | e
    · have h9 := gsp_at c f _ _ _ t (p ++ [5000]) (0 :: tk n ++ s) h.2.1 (by rw [ht]; simp [tk])
      rw [len_s] at h9
      exact h9 q e
    · exact this q e
  | sub c n ihc ihn =>
    intro f b v lo t p s h ht q hq
    have := ihn f _ _ _ t (p ++ 4000 :: (tk c ++ [0])) s h.2.2 (by rw [ht]; simp [tk])
    rw [len_n] at this
    exact this q hq
theorem gs2_at : ∀ F : Fo, ∀ (f g : Int) (b v : Bool) (lo : Int) (t p s : List Int), okf b v lo F → t = p ++ (tk F ++ s) → ∀ q ∈ gs2 f g F p.length, AT t q := by
  intro F
  induction F with
  | num z =>
    intro f g b v lo t p s h ht q hq
    simp [gs2] at hq
  | var z =>
    intro f g b v lo t p s h
    exact h.elim
  | neg z ih =>
    intro f g b v lo t p s h
    exact h.elim
  | mulL k F ih =>
    intro f g b v lo t p s h ht q hq
    have := ih f g _ _ _ t (p ++ [1 + k]) s h.2.2.2 (by rw [ht]; simp [tk])
    rw [len_s] at this
    simp only [gs2] at hq
    rcases List.mem_append.mp hq with e | e
    · split at e
      · cases F with
        | num z => simp at e
        | var z => simp at e
        | neg z => simp at e
        | mulL k' F' => simp at e
        | mulR n x => simp at e
        | add c n =>
          have h9 := gsp_at c g _ _ _ t (p ++ [1 + k, 5000]) (0 :: tk n ++ s) h.2.2.2.2.1 (by rw [ht]; simp [tk])
          rw [len_2] at h9
          exact h9 q e
        | sub c n =>
          have h9 := rsp_at c g _ _ _ t (p ++ [1 + k, 4000]) (0 :: tk n ++ s) h.2.2.2.2.1 (by rw [ht]; simp [tk])
          rw [len_2] at h9
          exact h9 q e
      · simp at e
    · exact this q e
  | mulR n x ih =>
    intro f g b v lo t p s h ht q hq
    have := ih f g _ _ _ t (p ++ [x]) s h.2.2 (by rw [ht]; simp [tk])
    rw [len_s] at this
    exact this q hq
  | add c n ihc ihn =>
    intro f g b v lo t p s h ht q hq
    have := ihn f g _ _ _ t (p ++ 5000 :: (tk c ++ [0])) s h.2.2 (by rw [ht]; simp [tk])
    rw [len_n] at this
    exact this q hq
  | sub c n ihc ihn =>
    intro f g b v lo t p s h ht q hq
    have := ihn f g _ _ _ t (p ++ 4000 :: (tk c ++ [0])) s h.2.2 (by rw [ht]; simp [tk])
    rw [len_n] at this
    exact this q hq
theorem asp_at {F : Fo} (h : okf true false 0 F) (path : Int) : ∀ q ∈ asp F path, AT (5000 :: (tk F ++ [0])) q := by
  unfold asp
  split
  · exact gsp_at F path _ _ _ _ [5000] [0] h rfl
  · exact gs2_at F _ _ _ _ _ _ [5000] [0] h rfl
