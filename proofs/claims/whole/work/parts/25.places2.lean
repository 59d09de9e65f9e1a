/-! ===== places in a forest ===== -/
theorem len_n (p : List Int) (h : Int) (c : List Int) : ((p ++ h :: (c ++ [0])).length : Int) = p.length + c.length + 2 := by simp; omega
theorem len_2 (p : List Int) (x y : Int) : ((p ++ [x, y]).length : Int) = p.length + 2 := by simp
/-- the places of a row's parts, with them, from a place on -/
def pl : Fo → Int → List (Int × Fo)
  | .mulL _ F, i => pl F (i + 1)
  | .mulR n x, i => (i, .mulR (.num 0) x) :: pl n (i + 1)
  | .add c n, i => (i, .add c (.num 0)) :: pl n (i + (tk c).length + 2)
  | .sub c n, i => (i, .sub c (.num 0)) :: pl n (i + (tk c).length + 2)
  | _, _ => []
/-- what is had at a value: it, and a row's parts -/
def sp1 : Fo → Int → List (Int × Fo)
  | .mulR _ x, i => [(i, .mulR (.num 0) x)]
  | .add c _, i => [(i, .add c (.num 0))]
  | .sub c _, i => (i, .sub c (.num 0)) :: pl c (i + 1)
  | _, _ => []
/-- at a field -/
def gsp (f : Int) : Fo → Int → List (Int × Fo)
  | .mulL k F, i => (if k = f then sp1 F (i + 1) else []) ++ gsp f F (i + 1)
  | .mulR n _, i => gsp f n (i + 1)
  | .add c n, i => gsp f n (i + (tk c).length + 2)
  | .sub c n, i => gsp f n (i + (tk c).length + 2)
  | _, _ => []
/-- at a field of each object that is a row's part -/
def rsp (f : Int) : Fo → Int → List (Int × Fo)
  | .mulL _ F, i => rsp f F (i + 1)
  | .mulR n _, i => rsp f n (i + 1)
  | .add c n, i => gsp f c (i + 1) ++ rsp f n (i + (tk c).length + 2)
  | .sub c n, i => rsp f n (i + (tk c).length + 2)
  | _, _ => []
/-- at a field of the value at a field -/
def gs2 (f g : Int) : Fo → Int → List (Int × Fo)
  | .mulL k F, i => (if k = f then (match F with
    | .add c _ => gsp g c (i + 2)
    | .sub c _ => rsp g c (i + 2)
    | _ => []) else []) ++ gs2 f g F (i + 1)
  | .mulR n _, i => gs2 f g n (i + 1)
  | .add c n, i => gs2 f g n (i + (tk c).length + 2)
  | .sub c n, i => gs2 f g n (i + (tk c).length + 2)
  | _, _ => []
/-- of a document's fields, at a path -/
def asp (F : Fo) (path : Int) : List (Int × Fo) := if path < 8 then gsp path F 1 else gs2 (path / 8 - 1) (path % 8) F 1
/-- a value stands at a place -/
def AT (t : List Int) (q : Int × Fo) : Prop := ok1 q.2 ∧ 0 ≤ q.1 ∧ q.1 < t.length ∧ ∃ r, t.drop q.1.toNat = tk q.2 ++ r
theorem AT.val {t : List Int} {q : Int × Fo} (h : AT t q) : sv t q.1 = tk q.2 := by
  obtain ⟨h1, h2, h3, r, h4⟩ := h
  unfold sv
  rw [h4, vsc_cv (ok1_Cv h1), List.take_left' rfl]
theorem drop_at {t p r : List Int} (h : t = p ++ r) (i : Int) (hi : i = p.length) : t.drop i.toNat = r := by
  rw [h, hi]
  simp
theorem AT.mk {t p r : List Int} {v : Fo} (hv : ok1 v) (h : t = p ++ (tk v ++ r)) {i : Int} (hi : i = p.length) : AT t (i, v) := by
  have := (ok1_Cv hv).2.1
  refine ⟨hv, by simp only; omega, ?_, r, drop_at h i hi⟩
  rw [h, hi]
  simp only [List.length_append]
  omega
theorem pl_at : ∀ F : Fo, ∀ (b v : Bool) (lo : Int) (t p s : List Int), okf b v lo F → t = p ++ (tk F ++ s) → ∀ q ∈ pl F p.length, AT t q := by
  intro F
  induction F with
  | num z =>
    intro b v lo t p s h ht q hq
    simp [pl] at hq
  | var z =>
    intro b v lo t p s h
    exact h.elim
  | neg z ih =>
    intro b v lo t p s h
    exact h.elim
  | mulL k F ih =>
    intro b v lo t p s h ht q hq
    have := ih _ _ _ t (p ++ [1 + k]) s h.2.2.2 (by rw [ht]; simp [tk])
    rw [len_s] at this
    exact this q hq
  | mulR n x ih =>
    intro b v lo t p s h ht q hq
    have := ih _ _ _ t (p ++ [x]) s h.2.2 (by rw [ht]; simp [tk])
    rw [len_s] at this
    rcases List.mem_cons.mp hq with e | e
    · rw [e]
      exact AT.mk (Or.inl ⟨x, rfl, h.2.1⟩) (r := tk n ++ s) (by rw [ht]; simp [tk]) rfl
    · exact this q e
  | add c n ihc ihn =>
    intro b v lo t p s h ht q hq
    have := ihn _ _ _ t (p ++ 5000 :: (tk c ++ [0])) s h.2.2 (by rw [ht]; simp [tk])
    rw [len_n] at this
    rcases List.mem_cons.mp hq with e | e
    · rw [e]
      exact AT.mk (Or.inr (Or.inl ⟨c, rfl, h.2.1⟩)) (r := tk n ++ s) (by rw [ht]; simp [tk]) rfl
    · exact this q e
  | sub c n ihc ihn =>
    intro b v lo t p s h ht q hq
    have := ihn _ _ _ t (p ++ 4000 :: (tk c ++ [0])) s h.2.2 (by rw [ht]; simp [tk])
    rw [len_n] at this
    rcases List.mem_cons.mp hq with e | e
    · rw [e]
      exact AT.mk (Or.inr (Or.inr ⟨c, rfl, h.2.1⟩)) (r := tk n ++ s) (by rw [ht]; simp [tk]) rfl
    · exact this q e
theorem sp1_at {b : Bool} {lo : Int} {G : Fo} {t p s : List Int} (h : okf b true lo G ∨ ok1 G) (ht : t = p ++ (tk G ++ s)) : ∀ q ∈ sp1 G p.length, AT t q := by
  have h' : (∃ x n, G = .mulR n x ∧ lfx x) ∨ (∃ c n, G = .add c n ∧ okf true false 0 c) ∨ ∃ c n, G = .sub c n ∧ okf false false 0 c := by
    rcases h with h | h
    · cases G with
      | num z => exact absurd h.1 (by decide)
      | var z => exact h.elim
      | neg z => exact h.elim
      | mulL k G => exact absurd h.2.1 (by decide)
      | mulR n x => exact Or.inl ⟨x, n, rfl, h.2.1⟩
      | add c n => exact Or.inr (Or.inl ⟨c, n, rfl, h.2.1⟩)
      | sub c n => exact Or.inr (Or.inr ⟨c, n, rfl, h.2.1⟩)
    · rcases h with ⟨x, rfl, hx⟩ | ⟨c, rfl, hc⟩ | ⟨c, rfl, hc⟩
      · exact Or.inl ⟨x, _, rfl, hx⟩
      · exact Or.inr (Or.inl ⟨c, _, rfl, hc⟩)
      · exact Or.inr (Or.inr ⟨c, _, rfl, hc⟩)
  intro q hq
  rcases h' with ⟨x, n, rfl, hx⟩ | ⟨c, n, rfl, hc⟩ | ⟨c, n, rfl, hc⟩
  · simp only [sp1, List.mem_singleton] at hq
    rw [hq]
    exact AT.mk (Or.inl ⟨x, rfl, hx⟩) (r := tk n ++ s) (by rw [ht]; simp [tk]) rfl
  · simp only [sp1, List.mem_singleton] at hq
    rw [hq]
    exact AT.mk (Or.inr (Or.inl ⟨c, rfl, hc⟩)) (r := tk n ++ s) (by rw [ht]; simp [tk]) rfl
  · simp only [sp1] at hq
    rcases List.mem_cons.mp hq with e | e
    · rw [e]
      exact AT.mk (Or.inr (Or.inr ⟨c, rfl, hc⟩)) (r := tk n ++ s) (by rw [ht]; simp [tk]) rfl
    · have := pl_at c _ _ _ t (p ++ [4000]) (0 :: tk n ++ s) hc (by rw [ht]; simp [tk])
      rw [len_s] at this
      exact this q e
theorem gsp_at : ∀ F : Fo, ∀ (f : Int) (b v : Bool) (lo : Int) (t p s : List Int), okf b v lo F → t = p ++ (tk F ++ s) → ∀ q ∈ gsp f F p.length, AT t q := by
  intro F
  induction F with
  | num z =>
    intro f b v lo t p s h ht q hq
    simp [gsp] at hq
  | var z =>
    intro f b v lo t p s h
    exact h.elim
  | neg z ih =>
    intro f b v lo t p s h
    exact h.elim
  | mulL k F ih =>
    intro f b v lo t p s h ht q hq
    have := ih f _ _ _ t (p ++ [1 + k]) s h.2.2.2 (by rw [ht]; simp [tk])
    rw [len_s] at this
    simp only [gsp] at hq
    rcases List.mem_append.mp hq with e | e
    · split at e
      · have h9 := sp1_at (t := t) (p := p ++ [1 + k]) (s := s) (Or.inl h.2.2.2) (by rw [ht]; simp [tk])
        rw [len_s] at h9
        exact h9 q e
      · simp at e
    · exact this q e
  | mulR n x ih =>
    intro f b v lo t p s h ht q hq
    have := ih f _ _ _ t (p ++ [x]) s h.2.2 (by rw [ht]; simp [tk])
    rw [len_s] at this
    exact this q hq
  | add c n ihc ihn =>
    intro f b v lo t p s h ht q hq
    have := ihn f _ _ _ t (p ++ 5000 :: (tk c ++ [0])) s h.2.2 (by rw [ht]; simp [tk])
    rw [len_n] at this
    exact this q hq
  | sub c n ihc ihn =>
    intro f b v lo t p s h ht q hq
    have := ihn f _ _ _ t (p ++ 4000 :: (tk c ++ [0])) s h.2.2 (by rw [ht]; simp [tk])
    rw [len_n] at this
    exact this q hq
theorem rsp_at : ∀ F : Fo, ∀ (f : Int) (b v : Bool) (lo : Int) (t p s : List Int), okf b v lo F → t = p ++ (tk F ++ s) → ∀ q ∈ rsp f F p.length, AT t q := by
  intro F
  induction F with
  | num z =>
    intro f b v lo t p s h ht q hq
    simp [rsp] at hq
  | var z =>
    intro f b v lo t p s h
    exact h.elim
  | neg z ih =>
    intro f b v lo t p s h
    exact h.elim
  | mulL k F ih =>
    intro f b v lo t p s h ht q hq
    have := ih f _ _ _ t (p ++ [1 + k]) s h.2.2.2 (by rw [ht]; simp [tk])
    rw [len_s] at this
    exact this q hq
  | mulR n x ih =>
    intro f b v lo t p s h ht q hq
    have := ih f _ _ _ t (p ++ [x]) s h.2.2 (by rw [ht]; simp [tk])
    rw [len_s] at this
    exact this q hq
  | add c n ihc ihn =>
    intro f b v lo t p s h ht q hq
    have := ihn f _ _ _ t (p ++ 5000 :: (tk c ++ [0])) s h.2.2 (by rw [ht]; simp [tk])
    rw [len_n] at this
    simp only [rsp] at hq
    rcases List.mem_append.mp hq with e | e
    · have h9 := gsp_at c f _ _ _ t (p ++ [5000]) (0 :: tk n ++ s) h.2.1 (by rw [ht]; simp [tk])
      rw [len_s] at h9
      exact h9 q e
    · exact this q e
  | sub c n ihc ihn =>
    intro f b v lo t p s h ht q hq
    have := ihn f _ _ _ t (p ++ 4000 :: (tk c ++ [0])) s h.2.2 (by rw [ht]; simp [tk])
    rw [len_n] at this
    exact this q hq
theorem gs2_at : ∀ F : Fo, ∀ (f g : Int) (b v : Bool) (lo : Int) (t p s : List Int), okf b v lo F → t = p ++ (tk F ++ s) → ∀ q ∈ gs2 f g F p.length, AT t q := by
  intro F
  induction F with
  | num z =>
    intro f g b v lo t p s h ht q hq
    simp [gs2] at hq
  | var z =>
    intro f g b v lo t p s h
    exact h.elim
  | neg z ih =>
    intro f g b v lo t p s h
    exact h.elim
  | mulL k F ih =>
    intro f g b v lo t p s h ht q hq
    have := ih f g _ _ _ t (p ++ [1 + k]) s h.2.2.2 (by rw [ht]; simp [tk])
    rw [len_s] at this
    simp only [gs2] at hq
    rcases List.mem_append.mp hq with e | e
    · split at e
      · cases F with
        | num z => simp at e
        | var z => simp at e
        | neg z => simp at e
        | mulL k' F' => simp at e
        | mulR n x => simp at e
        | add c n =>
          have h9 := gsp_at c g _ _ _ t (p ++ [1 + k, 5000]) (0 :: tk n ++ s) h.2.2.2.2.1 (by rw [ht]; simp [tk])
          rw [len_2] at h9
          exact h9 q e
        | sub c n =>
          have h9 := rsp_at c g _ _ _ t (p ++ [1 + k, 4000]) (0 :: tk n ++ s) h.2.2.2.2.1 (by rw [ht]; simp [tk])
          rw [len_2] at h9
          exact h9 q e
      · simp at e
    · exact this q e
  | mulR n x ih =>
    intro f g b v lo t p s h ht q hq
    have := ih f g _ _ _ t (p ++ [x]) s h.2.2 (by rw [ht]; simp [tk])
    rw [len_s] at this
    exact this q hq
  | add c n ihc ihn =>
    intro f g b v lo t p s h ht q hq
    have := ihn f g _ _ _ t (p ++ 5000 :: (tk c ++ [0])) s h.2.2 (by rw [ht]; simp [tk])
    rw [len_n] at this
    exact this q hq
  | sub c n ihc ihn =>
    intro f g b v lo t p s h ht q hq
    have := ihn f g _ _ _ t (p ++ 4000 :: (tk c ++ [0])) s h.2.2 (by rw [ht]; simp [tk])
    rw [len_n] at this
    exact this q hq
theorem asp_at {F : Fo} (h : okf true false 0 F) (path : Int) : ∀ q ∈ asp F path, AT (5000 :: (tk F ++ [0])) q := by
  unfold asp
  split
  · exact gsp_at F path _ _ _ _ [5000] [0] h rfl
  · exact gs2_at F _ _ _ _ _ _ [5000] [0] h rfl
/-! ===== what the scans find ===== -/
theorem nsc_pl : ∀ F : Fo, ∀ (v : Bool) (lo : Int), okf false v lo F → ∀ (s : List Int) (i : Int), nsc (tk F ++ 0 :: s) 0 i = (pl F i).map Prod.fst := by
  intro F
  induction F with
  | num z =>
    intro v lo h s i
    have e : nsc s (-1) (i + 1) = [] := by cases s <;> simp [nsc]
    simp [tk, pl, nsc, trn_0, e]
  | var z =>
    intro v lo h
    exact h.elim
  | neg z ih =>
    intro v lo h
    exact h.elim
  | mulL k F ih =>
    intro v lo h
    exact absurd h.1 (by decide)
  | mulR n x ih =>
    intro v lo h s i
    have h1 := lfx_b h.2.1
    simp only [tk, pl, List.cons_append, nsc, List.map_cons]
    rw [if_neg (by omega), if_pos ⟨trivial, by omega⟩, h1.2.2, Int.add_zero, ih _ _ h.2.2 s]
    rfl
  | add c n ihc ihn =>
    intro v lo h s i
    simp only [tk, pl, List.cons_append, List.append_assoc, nsc, List.map_cons]
    rw [if_neg (by omega), if_pos (by decide), trn_5, nsc_sk c _ _ _ (by omega) h.2.1 _ _ _ (by omega)]
    simp only [nsc]
    rw [trn_0, if_neg (by omega), if_neg (by omega), show (0 : Int) + 1 + -1 = 0 by omega, List.nil_append, ihn _ _ h.2.2 s, show i + 1 + (tk c).length + 1 = i + (tk c).length + 2 by omega]
    rfl
  | sub c n ihc ihn =>
    intro v lo h s i
    simp only [tk, pl, List.cons_append, List.append_assoc, nsc, List.map_cons]
    rw [if_neg (by omega), if_pos (by decide), trn_4, nsc_sk c _ _ _ (by omega) h.2.1 _ _ _ (by omega)]
    simp only [nsc]
    rw [trn_0, if_neg (by omega), if_neg (by omega), show (0 : Int) + 1 + -1 = 0 by omega, List.nil_append, ihn _ _ h.2.2 s, show i + 1 + (tk c).length + 1 = i + (tk c).length + 2 by omega]
    rfl
/-- the sign of what stands at a value's place -/
theorem tok_at {t p r : List Int} {x : Int} (h : t = p ++ x :: r) : tok t p.length = x := by rw [h]; exact tok_hd p x r
theorem tkl_sp {b : Bool} {lo : Int} {G : Fo} {t p s : List Int} (h : okf b true lo G) (ht : t = p ++ (tk G ++ s)) : tkl t p.length = (sp1 G p.length).map Prod.fst := by
  unfold tkl
  rw [if_neg (by omega)]
  cases G with
  | num z => exact absurd h.1 (by decide)
  | var z => exact h.elim
  | neg z => exact h.elim
  | mulL k G => exact absurd h.2.1 (by decide)
  | mulR n x =>
    have h1 := lfx_b h.2.1
    rw [tok_at (show t = p ++ x :: (tk n ++ s) by rw [ht]; simp [tk]), if_neg (by omega)]
    rfl
  | add c n =>
    rw [tok_at (show t = p ++ 5000 :: (tk c ++ 0 :: tk n ++ s) by rw [ht]; simp [tk]), if_neg (by decide)]
    rfl
  | sub c n =>
    rw [tok_at (show t = p ++ 4000 :: (tk c ++ 0 :: tk n ++ s) by rw [ht]; simp [tk]), if_pos rfl]
    have e : t.drop ((p.length : Int).toNat + 1) = tk c ++ 0 :: (tk n ++ s) := by
      have := drop_at (t := t) (p := p ++ [4000]) (r := tk c ++ 0 :: (tk n ++ s)) (by rw [ht]; simp [tk]) (p.length + 1) (by simp)
      rw [show ((p.length : Int) + 1).toNat = (p.length : Int).toNat + 1 by omega] at this
      exact this
    rw [e, nsc_pl c _ _ h.2.1]
    rfl
theorem gsp_hi : ∀ F : Fo, ∀ (f : Int) (v : Bool) (lo i : Int), okf true v lo F → f < lo → gsp f F i = [] := by
  intro F
  induction F with
  | num z =>
    intro f v lo i h hl
    rfl
  | var z =>
    intro f v lo i h
    exact h.elim
  | neg z ih =>
    intro f v lo i h
    exact h.elim
  | mulL k F ih =>
    intro f v lo i h hl
    have h1 := h.2.2.1
    simp only [gsp]
    rw [if_neg (by omega), ih _ _ _ _ h.2.2.2 (by omega)]
    rfl
  | mulR n x ih =>
    intro f v lo i h hl
    exact ih _ _ _ _ h.2.2 hl
  | add c n ihc ihn =>
    intro f v lo i h hl
    exact ihn _ _ _ _ h.2.2 hl
  | sub c n ihc ihn =>
    intro f v lo i h hl
    exact ihn _ _ _ _ h.2.2 hl
theorem gs2_hi : ∀ F : Fo, ∀ (f g : Int) (v : Bool) (lo i : Int), okf true v lo F → f < lo → gs2 f g F i = [] := by
  intro F
  induction F with
  | num z =>
    intro f g v lo i h hl
    rfl
  | var z =>
    intro f g v lo i h
    exact h.elim
  | neg z ih =>
    intro f g v lo i h
    exact h.elim
  | mulL k F ih =>
    intro f g v lo i h hl
    have h1 := h.2.2.1
    simp only [gs2]
    rw [if_neg (by omega), ih _ _ _ _ _ h.2.2.2 (by omega)]
    rfl
  | mulR n x ih =>
    intro f g v lo i h hl
    exact ih _ _ _ _ _ h.2.2 hl
  | add c n ihc ihn =>
    intro f g v lo i h hl
    exact ihn _ _ _ _ _ h.2.2 hl
  | sub c n ihc ihn =>
    intro f g v lo i h hl
    exact ihn _ _ _ _ _ h.2.2 hl
theorem gsp_aft : ∀ F : Fo, ∀ (f : Int) (v : Bool) (lo i : Int), okf true v lo F → gsp f F i = gsp f (aft f F) (i + (tk (bef f F)).length) := by
  intro F
  induction F with
  | num z =>
    intro f v lo i h
    rfl
  | var z =>
    intro f v lo i h
    exact h.elim
  | neg z ih =>
    intro f v lo i h
    exact h.elim
  | mulL k F ih =>
    intro f v lo i h
    simp only [bef, aft]
    by_cases q : f ≤ k
    · rw [if_pos q, if_pos q]
      simp [tk]
    · rw [if_neg q, if_neg q]
      simp only [gsp, tk, List.length_cons]
      rw [if_neg (by omega), List.nil_append, ih f _ _ _ h.2.2.2]
      congr 1
      omega
  | mulR n x ih =>
    intro f v lo i h
    simp only [bef, aft, gsp, tk, List.length_cons]
    rw [ih f _ _ _ h.2.2]
    congr 1
    omega
  | add c n ihc ihn =>
    intro f v lo i h
    simp only [bef, aft, gsp, tk, List.length_cons, List.length_append]
    rw [ihn f _ _ _ h.2.2]
    congr 1
    omega
  | sub c n ihc ihn =>
    intro f v lo i h
    simp only [bef, aft, gsp, tk, List.length_cons, List.length_append]
    rw [ihn f _ _ _ h.2.2]
    congr 1
    omega
theorem gs2_aft : ∀ F : Fo, ∀ (f g : Int) (v : Bool) (lo i : Int), okf true v lo F → gs2 f g F i = gs2 f g (aft f F) (i + (tk (bef f F)).length) := by
  intro F
  induction F with
  | num z =>
    intro f g v lo i h
    rfl
  | var z =>
    intro f g v lo i h
    exact h.elim
  | neg z ih =>
    intro f g v lo i h
    exact h.elim
  | mulL k F ih =>
    intro f g v lo i h
    simp only [bef, aft]
    by_cases q : f ≤ k
    · rw [if_pos q, if_pos q]
      simp [tk]
    · rw [if_neg q, if_neg q]
      simp only [gs2, tk, List.length_cons]
      rw [if_neg (by omega), List.nil_append, ih f g _ _ _ h.2.2.2]
      congr 1
      omega
  | mulR n x ih =>
    intro f g v lo i h
    simp only [bef, aft, gs2, tk, List.length_cons]
    rw [ih f g _ _ _ h.2.2]
    congr 1
    omega
  | add c n ihc ihn =>
    intro f g v lo i h
    simp only [bef, aft, gs2, tk, List.length_cons, List.length_append]
    rw [ihn f g _ _ _ h.2.2]
    congr 1
    omega
  | sub c n ihc ihn =>
    intro f g v lo i h
    simp only [bef, aft, gs2, tk, List.length_cons, List.length_append]
    rw [ihn f g _ _ _ h.2.2]
    congr 1
    omega
theorem tsc_sk1 : ∀ F : Fo, ∀ (v : Bool) (lo : Int), okf false v lo F → ∀ (t s : List Int) (f i : Int), 0 ≤ f → f < 8 → tsc t (tk F ++ s) f 1 i = tsc t s f 1 (i + (tk F).length) := by
  intro F
  induction F with
  | num z =>
    intro v lo h t s f i h0 h8
    simp [tk]
  | var z =>
    intro v lo h
    exact h.elim
  | neg z ih =>
    intro v lo h
    exact h.elim
  | mulL k F ih =>
    intro v lo h
    exact absurd h.1 (by decide)
  | mulR n x ih =>
    intro v lo h t s f i h0 h8
    have h1 := lfx_b h.2.1
    simp only [tk, List.cons_append, tsc, List.length_cons]
    rw [if_neg (by omega), if_neg (by omega), h1.2.2, Int.add_zero, ih _ _ h.2.2 t s f _ h0 h8, List.nil_append]
    congr 1
    omega
  | add c n ihc ihn =>
    intro v lo h t s f i h0 h8
    simp only [tk, List.cons_append, List.append_assoc, tsc, List.length_cons, List.length_append]
    rw [if_neg (by omega), if_neg (by omega), trn_5, tsc_sk c _ _ _ (by omega) h.2.1 _ _ _ _ _ (by omega)]
    simp only [tsc]
    rw [trn_0, if_neg (by omega), if_neg (by omega), show (1 : Int) + 1 + -1 = 1 by omega, ihn _ _ h.2.2 t s f _ h0 h8, List.nil_append, List.nil_append]
    congr 1
    omega
  | sub c n ihc ihn =>
    intro v lo h t s f i h0 h8
    simp only [tk, List.cons_append, List.append_assoc, tsc, List.length_cons, List.length_append]
    rw [if_neg (by omega), if_neg (by omega), trn_4, tsc_sk c _ _ _ (by omega) h.2.1 _ _ _ _ _ (by omega)]
    simp only [tsc]
    rw [trn_0, if_neg (by omega), if_neg (by omega), show (1 : Int) + 1 + -1 = 1 by omega, ihn _ _ h.2.2 t s f _ h0 h8, List.nil_append, List.nil_append]
    congr 1
    omega
theorem tsc_1 : ∀ F : Fo, ∀ (v : Bool) (lo : Int), 0 ≤ lo → okf true v lo F → ∀ (t p s : List Int) (f : Int), t = p ++ (tk F ++ s) → 0 ≤ f → f < 8 → tsc t (tk F ++ s) f 1 p.length = (gsp f F p.length).map Prod.fst ++ tsc t s f 1 (p.length + (tk F).length) := by
  intro F
  induction F with
  | num z =>
    intro v lo hlo h t p s f ht h0 h8
    simp [tk, gsp]
  | var z =>
    intro v lo hlo h
    exact h.elim
  | neg z ih =>
    intro v lo hlo h
    exact h.elim
  | mulL k F ih =>
    intro v lo hlo h t p s f ht h0 h8
    have h1 := h.2.2.1
    have hn := ih _ _ (by omega) h.2.2.2 t (p ++ [1 + k]) s f (by rw [ht]; simp [tk]) h0 h8
    rw [len_s] at hn
    simp only [tk, List.cons_append, tsc, List.length_cons, gsp]
    rw [if_neg (by omega), trn_k (by omega), Int.add_zero, hn]
    by_cases q : k = f
    · rw [if_pos ⟨trivial, by omega⟩, if_pos q]
      have h9 := tkl_sp (t := t) (p := p ++ [1 + k]) (s := s) h.2.2.2 (by rw [ht]; simp [tk])
      rw [len_s] at h9
      rw [h9, List.map_append, List.append_assoc]
      congr 3
      omega
    · rw [if_neg (fun z => q (by omega)), if_neg q, List.nil_append, List.nil_append]
      congr 2
      omega
  | mulR n x ih =>
    intro v lo hlo h t p s f ht h0 h8
    have h1 := lfx_b h.2.1
    have hn := ih _ _ hlo h.2.2 t (p ++ [x]) s f (by rw [ht]; simp [tk]) h0 h8
    rw [len_s] at hn
    simp only [tk, List.cons_append, tsc, List.length_cons, gsp]
    rw [if_neg (by omega), if_neg (by omega), h1.2.2, Int.add_zero, hn, List.nil_append]
    congr 2
    omega
  | add c n ihc ihn =>
    intro v lo hlo h t p s f ht h0 h8
    have hn := ihn _ _ hlo h.2.2 t (p ++ 5000 :: (tk c ++ [0])) s f (by rw [ht]; simp [tk]) h0 h8
    rw [len_n] at hn
    simp only [tk, List.cons_append, List.append_assoc, tsc, List.length_cons, List.length_append, gsp]
    rw [if_neg (by omega), if_neg (by omega), trn_5, tsc_sk c _ _ _ (by omega) h.2.1 _ _ _ _ _ (by omega)]
    simp only [tsc]
    rw [trn_0, if_neg (by omega), if_neg (by omega), show (1 : Int) + 1 + -1 = 1 by omega, show (p.length : Int) + 1 + (tk c).length + 1 = p.length + (tk c).length + 2 by omega, hn, List.nil_append, List.nil_append]
    congr 2
    omega
  | sub c n ihc ihn =>
    intro v lo hlo h t p s f ht h0 h8
    have hn := ihn _ _ hlo h.2.2 t (p ++ 4000 :: (tk c ++ [0])) s f (by rw [ht]; simp [tk]) h0 h8
    rw [len_n] at hn
    simp only [tk, List.cons_append, List.append_assoc, tsc, List.length_cons, List.length_append, gsp]
    rw [if_neg (by omega), if_neg (by omega), trn_4, tsc_sk c _ _ _ (by omega) h.2.1 _ _ _ _ _ (by omega)]
    simp only [tsc]
    rw [trn_0, if_neg (by omega), if_neg (by omega), show (1 : Int) + 1 + -1 = 1 by omega, show (p.length : Int) + 1 + (tk c).length + 1 = p.length + (tk c).length + 2 by omega, hn, List.nil_append, List.nil_append]
    congr 2
    omega
theorem tsc_0 : ∀ F : Fo, ∀ (v : Bool) (lo : Int), okf false v lo F → ∀ (t p s : List Int) (f : Int), t = p ++ (tk F ++ 0 :: s) → 0 ≤ f → f < 8 → tsc t (tk F ++ 0 :: s) f 0 p.length = (rsp f F p.length).map Prod.fst := by
  intro F
  induction F with
  | num z =>
    intro v lo h t p s f ht h0 h8
    have e : tsc t s f (-1) (p.length + 1) = [] := by cases s <;> simp [tsc]
    simp [tk, rsp, tsc, trn_0, e]
  | var z =>
    intro v lo h
    exact h.elim
  | neg z ih =>
    intro v lo h
    exact h.elim
  | mulL k F ih =>
    intro v lo h
    exact absurd h.1 (by decide)
  | mulR n x ih =>
    intro v lo h t p s f ht h0 h8
    have h1 := lfx_b h.2.1
    have hn := ih _ _ h.2.2 t (p ++ [x]) s f (by rw [ht]; simp [tk]) h0 h8
    rw [len_s] at hn
    simp only [tk, List.cons_append, tsc, rsp]
    rw [if_neg (by omega), if_neg (by omega), h1.2.2, Int.add_zero, hn, List.nil_append]
  | add c n ihc ihn =>
    intro v lo h t p s f ht h0 h8
    have hn := ihn _ _ h.2.2 t (p ++ 5000 :: (tk c ++ [0])) s f (by rw [ht]; simp [tk]) h0 h8
    rw [len_n] at hn
    have h9 := tsc_1 c _ _ (by omega) h.2.1 t (p ++ [5000]) (0 :: (tk n ++ 0 :: s)) f (by rw [ht]; simp [tk]) h0 h8
    rw [len_s] at h9
    simp only [tk, List.cons_append, List.append_assoc, tsc, rsp, List.map_append]
    rw [if_neg (by omega), if_neg (by omega), trn_5, show (0 : Int) + 1 = 1 by omega, h9, List.nil_append]
    simp only [tsc]
    rw [trn_0, if_neg (by omega), if_neg (by omega), show (1 : Int) + -1 = 0 by omega, show (p.length : Int) + 1 + (tk c).length + 1 = p.length + (tk c).length + 2 by omega, hn, List.nil_append]
  | sub c n ihc ihn =>
    intro v lo h t p s f ht h0 h8
    have hn := ihn _ _ h.2.2 t (p ++ 4000 :: (tk c ++ [0])) s f (by rw [ht]; simp [tk]) h0 h8
    rw [len_n] at hn
    simp only [tk, List.cons_append, List.append_assoc, tsc, rsp]
    rw [if_neg (by omega), if_neg (by omega), trn_4, show (0 : Int) + 1 = 1 by omega, tsc_sk1 c _ _ h.2.1 _ _ _ _ h0 h8, List.nil_append]
    simp only [tsc]
    rw [trn_0, if_neg (by omega), if_neg (by omega), show (1 : Int) + -1 = 0 by omega, show (p.length : Int) + 1 + (tk c).length + 1 = p.length + (tk c).length + 2 by omega, hn, List.nil_append]
/-- where a field's value stands -/
theorem plc_has {F G : Fo} {v : Bool} {lo f : Int} (h0 : 0 ≤ lo) (hf : 0 ≤ f) (h : okf true v lo F) (ha : aft f F = .mulL f G) (p s : List Int) : plc p (tk F ++ 0 :: s) f = p.length + (tk (bef f F)).length + 1 := by
  have e := ssc_bef F f _ _ _ h0 hf rfl h s
  unfold plc
  rw [e]
  have e2 : tk F ++ 0 :: s = tk (bef f F) ++ (1 + f) :: (tk G ++ 0 :: s) := by rw [ba_tk F f _ _ _ h, ha]; simp [tk]
  rw [e2, tok_hd, if_pos rfl]
theorem plc_no {F : Fo} {v : Bool} {lo f : Int} (h0 : 0 ≤ lo) (hf : 0 ≤ f) (h : okf true v lo F) (ha : ∀ k G, aft f F = .mulL k G → f < k) (p s : List Int) : plc p (tk F ++ 0 :: s) f = -1 := by
  have e := ssc_bef F f _ _ _ h0 hf rfl h s
  unfold plc
  rw [e]
  have h1 := aft_ok F f _ _ _ h
  have e2 : tk F ++ 0 :: s = tk (bef f F) ++ (tk (aft f F) ++ 0 :: s) := by rw [← List.append_assoc, ← ba_tk F f _ _ _ h]
  rw [e2]
  generalize aft f F = A at h1 ha
  cases A with
  | num z => rw [if_neg]; rw [show tk (.num z) ++ 0 :: s = 0 :: s from rfl, tok_hd]; omega
  | var z => exact h1.elim
  | neg z => exact h1.elim
  | mulL k G =>
    have := ha k G rfl
    rw [if_neg]
    rw [show tk (.mulL k G) ++ 0 :: s = (1 + k) :: (tk G ++ 0 :: s) from rfl, tok_hd]
    omega
  | mulR n x => exact absurd h1.1 (by decide)
  | add c n => exact absurd h1.1 (by decide)
  | sub c n => exact absurd h1.1 (by decide)
theorem tkl_neg (t : List Int) : tkl t (-1) = [] := by unfold tkl; rw [if_pos (by decide)]
theorem atp_gsp {F : Fo} {f : Int} (h0 : 0 ≤ f ∧ f < 8) {t p s : List Int} (h : okf true false 0 F) (ht : t = p ++ (tk F ++ 0 :: s)) : tkl t (plc p (tk F ++ 0 :: s) f) = (gsp f F p.length).map Prod.fst := by
  rw [gsp_aft F f _ _ _ h]
  rcases aft_cases (f := f) h with ⟨G, a1, a2, a3, a4⟩ | ⟨a1, a2, a3⟩ | a
  · rw [plc_has (by omega) h0.1 h a1, a1]
    simp only [gsp]
    rw [if_pos trivial, gsp_hi G _ _ _ _ a2 (by omega), List.append_nil]
    have h9 := tkl_sp (t := t) (p := p ++ tk (bef f F) ++ [1 + f]) (s := 0 :: s) a2 (by rw [ht, ba_tk F f _ _ _ h, a1]; simp [tk])
    rw [show ((p ++ tk (bef f F) ++ [1 + f]).length : Int) = p.length + (tk (bef f F)).length + 1 by simp; omega] at h9
    exact h9
  · rw [plc_no (by omega) h0.1 h a3, tkl_neg, gsp_hi _ _ _ _ _ a2 (by omega)]
    rfl
  · omega
theorem atp_eq {F : Fo} (h : okf true false 0 F) {path : Int} (hp : 0 ≤ path ∧ path < 72) : atp (5000 :: (tk F ++ [0])) path = (asp F path).map Prod.fst := by
  obtain ⟨t, ht⟩ : ∃ t, t = (5000 :: (tk F ++ [0]) : List Int) := ⟨_, rfl⟩
  rw [← ht]
  have t1 : t.take 1 = [5000] := by rw [ht]; rfl
  have t2 : t.drop 1 = tk F ++ [0] := by rw [ht]; rfl
  unfold atp asp
  rw [t1, t2]
  by_cases h8 : path < 8
  · rw [if_pos h8, if_pos h8]
    exact atp_gsp ⟨hp.1, h8⟩ h ht
  · rw [if_neg h8, if_neg h8]
    have hf1 : 0 ≤ path / 8 - 1 ∧ path / 8 - 1 < 8 := by omega
    have hf2 : 0 ≤ path % 8 ∧ path % 8 < 8 := by omega
    rw [gs2_aft F _ _ _ _ _ h]
    generalize path / 8 - 1 = f at hf1
    generalize path % 8 = g at hf2
    rcases aft_cases (f := f) h with ⟨G, a1, a2, a3, a4⟩ | ⟨a1, a2, a3⟩ | a
    · rw [plc_has (by omega) hf1.1 h a1, a1]
      simp only [gs2]
      rw [if_pos trivial, gs2_hi G _ _ _ _ _ a2 (by omega), List.append_nil]
      have hz : ((([5000] : List Int).length : Int) + (tk (bef f F)).length + 1) = (([5000] ++ tk (bef f F) ++ [1 + f] : List Int).length : Int) := by simp; omega
      have hz2 : (1 : Int) + (tk (bef f F)).length + 2 = (([5000] ++ tk (bef f F) ++ [1 + f] : List Int).length : Int) + 1 := by simp; omega
      have htz : t = ([5000] ++ tk (bef f F) ++ [1 + f] : List Int) ++ (tk G ++ [0]) := by rw [ht, ba_tk F f _ _ _ h, a1]; simp [tk]
      rw [hz]
      generalize ([5000] ++ tk (bef f F) ++ [1 + f] : List Int) = P at hz2 htz
      cases G with
      | num z => exact absurd a2.1 (by decide)
      | var z => exact a2.elim
      | neg z => exact a2.elim
      | mulL k G => exact absurd a2.2.1 (by decide)
      | mulR n x =>
        have h1 := a2.2.1
        have hk : knd x ≠ 4 ∧ knd x ≠ 3 := by
          have := lfx_b h1
          unfold knd
          refine ⟨?_, ?_⟩ <;> (rw [if_neg (by omega), if_neg (by omega)]; split <;> (try split) <;> omega)
        rw [tok_at (show t = P ++ x :: (tk n ++ [0]) by rw [htz]; rfl), if_neg hk.1, if_neg hk.2]
        rfl
      | add c n =>
        have e : t.drop ((P.length : Int).toNat + 1) = tk c ++ 0 :: (tk n ++ [0]) := by
          have := drop_at (t := t) (p := P ++ [5000]) (r := tk c ++ 0 :: (tk n ++ [0])) (by rw [htz]; simp [tk]) (P.length + 1) (by simp)
          rw [show ((P.length : Int) + 1).toNat = (P.length : Int).toNat + 1 by omega] at this
          exact this
        have e2 : t.take ((P.length : Int).toNat + 1) = P ++ [5000] := by
          rw [htz, show (P.length : Int).toNat + 1 = (P ++ [5000]).length by simp, show P ++ (tk (.add c n) ++ [0]) = (P ++ [5000]) ++ (tk c ++ 0 :: (tk n ++ [0])) by simp [tk], List.take_left' rfl]
        rw [tok_at (show t = P ++ 5000 :: (tk c ++ 0 :: tk n ++ [0]) by rw [htz]; simp [tk]), if_pos (by decide), e, e2, atp_gsp hf2 a2.2.1 (by rw [htz]; simp [tk])]
        simp only
        rw [show (1 : Int) + (tk (bef f F)).length + 2 = ((P ++ [5000]).length : Int) by simp; omega]
      | sub c n =>
        have e : t.drop ((P.length : Int).toNat + 1) = tk c ++ 0 :: (tk n ++ [0]) := by
          have := drop_at (t := t) (p := P ++ [4000]) (r := tk c ++ 0 :: (tk n ++ [0])) (by rw [htz]; simp [tk]) (P.length + 1) (by simp)
          rw [show ((P.length : Int) + 1).toNat = (P.length : Int).toNat + 1 by omega] at this
          exact this
        have h9 := tsc_0 c _ _ a2.2.1 t (P ++ [4000]) (tk n ++ [0]) g (by rw [htz]; simp [tk]) hf2.1 hf2.2
        rw [len_s] at h9
        rw [tok_at (show t = P ++ 4000 :: (tk c ++ 0 :: tk n ++ [0]) by rw [htz]; simp [tk]), if_neg (by decide), if_pos (by decide), e, h9]
        simp only
        rw [hz2]
    · rw [plc_no (by omega) hf1.1 h a3, gs2_hi _ _ _ _ _ _ a2 (by omega), tok_neg (by decide), if_neg (by decide), if_neg (by decide)]
      rfl
    · omega
