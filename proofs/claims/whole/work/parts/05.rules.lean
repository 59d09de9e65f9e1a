/-! ===== rules of the judgement: stack, locals, branches ===== -/
theorem x_dec {M : x_MT} (h : x_MOk M) {k pc : Nat} {i : Instr} {len : Nat} (hi : (mIns M)[k]? = some (pc, i, len)) : decode (mCode M) pc = .ok (i, len) := by
  have := List.all_eq_true.mp h.1 _ (List.mem_of_getElem? hi)
  exact of_decide_eq_true this
theorem x_ls_mem {base : Nat} {q : Nat × Value} : ∀ (ls : List (Option Value)) (i : Nat), q ∈ x_ls base i ls ↔ ∃ (k : Nat) (u : Value), ls[k]? = some (some u) ∧ q = (i + k, x_v base u) := by
  intro ls
  induction ls with
  | nil => intro i; simp [x_ls]
  | cons a r ih =>
    intro i
    cases a with
    | none =>
      simp only [x_ls, ih]
      constructor
      · rintro ⟨k, u, h1, h2⟩
        exact ⟨k + 1, u, by simpa using h1, by rw [h2]; simp; omega⟩
      · rintro ⟨k, u, h1, h2⟩
        cases k with
        | zero => simp at h1
        | succ k => exact ⟨k, u, by simpa using h1, by rw [h2]; simp; omega⟩
    | some v =>
      simp only [x_ls, List.mem_cons, ih]
      constructor
      · rintro (rfl | ⟨k, u, h1, h2⟩)
        · exact ⟨0, v, rfl, rfl⟩
        · exact ⟨k + 1, u, by simpa using h1, by rw [h2]; simp; omega⟩
      · rintro ⟨k, u, h1, h2⟩
        cases k with
        | zero => left; simp at h1; rw [h2, h1]; rfl
        | succ k => right; exact ⟨k, u, by simpa using h1, by rw [h2]; simp; omega⟩
theorem x_lget {base nL i : Nat} {arr : Array Slot} {ls : List (Option Value)} {v : Value} (h : lv_has arr nL (x_ls base 0 ls)) (hi : ls[i]? = some (some v)) : arr[i]? = some (.val (x_v base v)) :=
  h.2.2 (i, x_v base v) ((x_ls_mem ls 0).mpr ⟨i, v, hi, by simp⟩)
theorem x_lsub {nL : Nat} {arr : Array Slot} {l l' : List (Nat × Value)} (h : lv_has arr nL l) (hs : ∀ q ∈ l', q ∈ l) : lv_has arr nL l' := ⟨h.1, h.2.1, fun q hq => h.2.2 q (hs q hq)⟩
/-- what stands below a place that is stored to: a long that loses its second half goes -/
def x_is2 : Option (Option Value) → Bool
  | some (some (.long _)) => true
  | some (some (.double _)) => true
  | _ => false
def x_c2 (ls : List (Option Value)) : Nat → List (Option Value)
  | 0 => ls
  | j + 1 => bif x_is2 ls[j]? then ls.set j none else ls
def x_st1 (ls : List (Option Value)) (i : Nat) (v : Value) : List (Option Value) := (x_c2 ls i).set i (some v)
def x_st2 (ls : List (Option Value)) (i : Nat) (v : Value) : List (Option Value) := ((x_c2 ls i).set i (some v)).set (i + 1) none
def x_st0 (ls : List (Option Value)) (i : Nat) : List (Option Value) := (x_c2 ls i).set i none
theorem x_c2_get {ls : List (Option Value)} {i k : Nat} {u : Value} (h : (x_c2 ls i)[k]? = some (some u)) : ls[k]? = some (some u) ∧ ¬ (k + 1 = i ∧ u.category = 2) := by
  cases i with
  | zero => exact ⟨h, fun q => by omega⟩
  | succ j =>
    cases hb : x_is2 ls[j]? with
    | true =>
      have e : x_c2 ls (j + 1) = ls.set j none := by show (bif x_is2 ls[j]? then ls.set j none else ls) = _; rw [hb]; rfl
      rw [e] at h
      by_cases hk : j = k
      · subst hk
        rw [List.getElem?_set_self'] at h
        cases hz : ls[j]? <;> rw [hz] at h <;> cases h
      · rw [List.getElem?_set_ne hk] at h
        exact ⟨h, fun q => hk (by omega)⟩
    | false =>
      have e : x_c2 ls (j + 1) = ls := by show (bif x_is2 ls[j]? then ls.set j none else ls) = _; rw [hb]; rfl
      rw [e] at h
      refine ⟨h, fun q => ?_⟩
      have hkj : k = j := by omega
      subst hkj
      rw [h] at hb
      cases u <;> simp [Value.category, x_is2] at q hb
theorem x_v_cat (base : Nat) (v : Value) : (x_v base v).category = v.category := by cases v <;> rfl
theorem x_lset1 {base nL i : Nat} {arr : Array Slot} {ls : List (Option Value)} {v : Value} (h : lv_has arr nL ((i, x_v base v) :: (x_ls base 0 ls).filter (fun q => !(q.1 == i) && !(q.1 + 1 == i && q.2.category == 2)))) : lv_has arr nL (x_ls base 0 (x_st1 ls i v)) := by
  refine x_lsub h fun q hq => ?_
  obtain ⟨k, u, h1, rfl⟩ := (x_ls_mem _ 0).mp hq
  rw [Nat.zero_add]
  by_cases hk : i = k
  · subst hk
    rw [x_st1, List.getElem?_set_self'] at h1
    cases hz : (x_c2 ls i)[i]? <;> rw [hz] at h1 <;> cases h1
    exact List.mem_cons_self
  · rw [x_st1, List.getElem?_set_ne hk] at h1
    obtain ⟨h2, h3⟩ := x_c2_get h1
    refine List.mem_cons_of_mem _ (List.mem_filter.mpr ⟨(x_ls_mem _ 0).mpr ⟨k, u, h2, by simp⟩, ?_⟩)
    simp only [x_v_cat, Bool.and_eq_true, Bool.not_eq_true', beq_eq_false_iff_ne, ne_eq, Bool.and_eq_false_iff]
    refine ⟨fun q => hk q.symm, ?_⟩
    by_cases hc : k + 1 = i
    · exact Or.inr fun q => h3 ⟨hc, q⟩
    · exact Or.inl hc
theorem x_lset0 {base nL i : Nat} {arr : Array Slot} {ls : List (Option Value)} {w : Value} (h : lv_has arr nL ((i, w) :: (x_ls base 0 ls).filter (fun q => !(q.1 == i) && !(q.1 + 1 == i && q.2.category == 2)))) : lv_has arr nL (x_ls base 0 (x_st0 ls i)) := by
  refine x_lsub h fun q hq => ?_
  obtain ⟨k, u, h1, rfl⟩ := (x_ls_mem _ 0).mp hq
  rw [Nat.zero_add]
  by_cases hk : i = k
  · subst hk
    rw [x_st0, List.getElem?_set_self'] at h1
    cases hz : (x_c2 ls i)[i]? <;> rw [hz] at h1 <;> cases h1
  · rw [x_st0, List.getElem?_set_ne hk] at h1
    obtain ⟨h2, h3⟩ := x_c2_get h1
    refine List.mem_cons_of_mem _ (List.mem_filter.mpr ⟨(x_ls_mem _ 0).mpr ⟨k, u, h2, by simp⟩, ?_⟩)
    simp only [x_v_cat, Bool.and_eq_true, Bool.not_eq_true', beq_eq_false_iff_ne, ne_eq, Bool.and_eq_false_iff]
    refine ⟨fun q => hk q.symm, ?_⟩
    by_cases hc : k + 1 = i
    · exact Or.inr fun q => h3 ⟨hc, q⟩
    · exact Or.inl hc
theorem x_lset2 {base nL i : Nat} {arr : Array Slot} {ls : List (Option Value)} {v : Value} (h : lv_has arr nL ((i, x_v base v) :: (x_ls base 0 ls).filter (fun q => !(q.1 == i) && (!(q.1 == i + 1) && !(q.1 + 1 == i && q.2.category == 2))))) : lv_has arr nL (x_ls base 0 (x_st2 ls i v)) := by
  refine x_lsub h fun q hq => ?_
  obtain ⟨k, u, h1, rfl⟩ := (x_ls_mem _ 0).mp hq
  rw [Nat.zero_add]
  by_cases hk2 : i + 1 = k
  · subst hk2
    rw [x_st2, List.getElem?_set_self'] at h1
    cases hz : ((x_c2 ls i).set i (some v))[i + 1]? <;> rw [hz] at h1 <;> cases h1
  · rw [x_st2, List.getElem?_set_ne hk2] at h1
    by_cases hk : i = k
    · subst hk
      rw [List.getElem?_set_self'] at h1
      cases hz : (x_c2 ls i)[i]? <;> rw [hz] at h1 <;> cases h1
      exact List.mem_cons_self
    · rw [List.getElem?_set_ne hk] at h1
      obtain ⟨h2, h3⟩ := x_c2_get h1
      refine List.mem_cons_of_mem _ (List.mem_filter.mpr ⟨(x_ls_mem _ 0).mpr ⟨k, u, h2, by simp⟩, ?_⟩)
      simp only [x_v_cat, Bool.and_eq_true, Bool.not_eq_true', beq_eq_false_iff_ne, ne_eq, Bool.and_eq_false_iff]
      refine ⟨fun q => hk q.symm, fun q => hk2 q.symm, ?_⟩
      by_cases hc : k + 1 = i
      · exact Or.inr fun q => h3 ⟨hc, q⟩
      · exact Or.inl hc
/-- fewer locals -/
theorem e_drop {M : x_MT} {mc ms pc kc ks : Nat} {ls : List (Option Value)} {st : List Value} {X Y : xS} {o : xO} (ls' : List (Option Value)) (hs : ∀ (k : Nat) (u : Value), ls'[k]? = some (some u) → ls[k]? = some (some u)) (kk : x_E M mc ms pc ls' st X kc ks o Y) : x_E M mc ms pc ls st X kc ks o Y := by
  intro p l e s m args below meth c H locs arr G base C w S hl
  refine kk p l e s m args below meth c H locs arr G base C w S (x_lsub hl fun q hq => ?_)
  obtain ⟨k, u, h1, h2⟩ := (x_ls_mem _ 0).mp hq
  exact (x_ls_mem _ 0).mpr ⟨k, u, hs k u h1, h2⟩
section XE
variable {M : x_MT} {mc ms pc kc ks : Nat} {ls : List (Option Value)} {st : List Value} {X Y : xS} {o : xO}

theorem e_iconst (k nx : Nat) {n : Int} (hd : (mIns M)[k]? = some (pc, .iconst n, 1)) (hn : pc + 1 = nx) (kk : x_E M mc ms nx ls (.int (ii n) :: st) X kc ks o Y) : x_E M mc ms pc ls st X kc ks o Y := by
  subst hn
  intro p l e s m args below meth c H locs arr G base C w S hl
  have hx := C.2.1
  have hb := C.2.2.1
  exact lv_iconst hx hb (x_dec C.1 hd) rfl (kk p l e s m args below meth c H locs arr G base C w S hl)
theorem e_bipush (k nx : Nat) {n : Int} (hd : (mIns M)[k]? = some (pc, .bipush n, 2)) (hn : pc + 2 = nx) (hv : (Int8.ofInt n).toInt32 = ii n) (kk : x_E M mc ms nx ls (.int (ii n) :: st) X kc ks o Y) : x_E M mc ms pc ls st X kc ks o Y := by
  subst hn
  intro p l e s m args below meth c H locs arr G base C w S hl
  have hx := C.2.1
  have hb := C.2.2.1
  exact lv_bipush hx hb (x_dec C.1 hd) hv (kk p l e s m args below meth c H locs arr G base C w S hl)
theorem e_sipush (k nx : Nat) {n : Int} (hd : (mIns M)[k]? = some (pc, .sipush n, 3)) (hn : pc + 3 = nx) (hv : (Int16.ofInt n).toInt32 = ii n) (kk : x_E M mc ms nx ls (.int (ii n) :: st) X kc ks o Y) : x_E M mc ms pc ls st X kc ks o Y := by
  subst hn
  intro p l e s m args below meth c H locs arr G base C w S hl
  have hx := C.2.1
  have hb := C.2.2.1
  exact lv_sipush hx hb (x_dec C.1 hd) hv (kk p l e s m args below meth c H locs arr G base C w S hl)
theorem e_lconst (k nx : Nat) {n : Fin 2} (hd : (mIns M)[k]? = some (pc, .lconst n, 1)) (hn : pc + 1 = nx) (kk : x_E M mc ms nx ls (.long (ll (n : Nat)) :: st) X kc ks o Y) : x_E M mc ms pc ls st X kc ks o Y := by
  subst hn
  intro p l e s m args below meth c H locs arr G base C w S hl
  have hx := C.2.1
  have hb := C.2.2.1
  exact lv_lconst hx hb (x_dec C.1 hd) rfl (kk p l e s m args below meth c H locs arr G base C w S hl)
theorem e_iload_n (k nx : Nat) {j : Fin 4} {i : Nat} {x : Int32} (hd : (mIns M)[k]? = some (pc, .iload_n j, 1)) (hn : pc + 1 = nx) (hi : (j : Nat) = i) (hl0 : ls[i]? = some (some (.int x))) (kk : x_E M mc ms nx ls (.int x :: st) X kc ks o Y) : x_E M mc ms pc ls st X kc ks o Y := by
  subst hn
  intro p l e s m args below meth c H locs arr G base C w S hl
  have hx := C.2.1
  have hb := C.2.2.1
  exact lv_iload_n hx hb (x_dec C.1 hd) hi (x_lget hl hl0) (kk p l e s m args below meth c H locs arr G base C w S hl)
theorem e_iload (k nx : Nat) {i : Nat} {x : Int32} (hd : (mIns M)[k]? = some (pc, .iload i, 2)) (hn : pc + 2 = nx) (hl0 : ls[i]? = some (some (.int x))) (kk : x_E M mc ms nx ls (.int x :: st) X kc ks o Y) : x_E M mc ms pc ls st X kc ks o Y := by
  subst hn
  intro p l e s m args below meth c H locs arr G base C w S hl
  have hx := C.2.1
  have hb := C.2.2.1
  exact lv_iload hx hb (x_dec C.1 hd) (x_lget hl hl0) (kk p l e s m args below meth c H locs arr G base C w S hl)
theorem e_istore_n (k nx : Nat) {j : Fin 4} {i : Nat} {x : Int32} {ls' : List (Option Value)} (hd : (mIns M)[k]? = some (pc, .istore_n j, 1)) (hn : pc + 1 = nx) (hi : (j : Nat) = i) (hm : i < mL M) (he : x_st1 ls i (.int x) = ls') (kk : x_E M mc ms nx ls' st X kc ks o Y) : x_E M mc ms pc ls (.int x :: st) X kc ks o Y := by
  subst hn
  subst he
  intro p l e s m args below meth c H locs arr G base C w S hl
  have hx := C.2.1
  have hb := C.2.2.1
  exact lv_istore_n hx hb (x_dec C.1 hd) hi hl hm rfl (fun ls2 h2 => kk p l e s m args below meth c H locs ls2 G base C w S (x_lset1 h2))
theorem e_istore (k nx : Nat) {i : Nat} {x : Int32} {ls' : List (Option Value)} (hd : (mIns M)[k]? = some (pc, .istore i, 2)) (hn : pc + 2 = nx) (hm : i < mL M) (he : x_st1 ls i (.int x) = ls') (kk : x_E M mc ms nx ls' st X kc ks o Y) : x_E M mc ms pc ls (.int x :: st) X kc ks o Y := by
  subst hn
  subst he
  intro p l e s m args below meth c H locs arr G base C w S hl
  have hx := C.2.1
  have hb := C.2.2.1
  exact lv_istore hx hb (x_dec C.1 hd) hl hm rfl (fun ls2 h2 => kk p l e s m args below meth c H locs ls2 G base C w S (x_lset1 h2))
theorem e_lload_n (k nx : Nat) {j : Fin 4} {i : Nat} {x : Int64} (hd : (mIns M)[k]? = some (pc, .lload_n j, 1)) (hn : pc + 1 = nx) (hi : (j : Nat) = i) (hl0 : ls[i]? = some (some (.long x))) (kk : x_E M mc ms nx ls (.long x :: st) X kc ks o Y) : x_E M mc ms pc ls st X kc ks o Y := by
  subst hn
  intro p l e s m args below meth c H locs arr G base C w S hl
  have hx := C.2.1
  have hb := C.2.2.1
  exact lv_lload_n hx hb (x_dec C.1 hd) hi (x_lget hl hl0) (kk p l e s m args below meth c H locs arr G base C w S hl)
theorem e_lload (k nx : Nat) {i : Nat} {x : Int64} (hd : (mIns M)[k]? = some (pc, .lload i, 2)) (hn : pc + 2 = nx) (hl0 : ls[i]? = some (some (.long x))) (kk : x_E M mc ms nx ls (.long x :: st) X kc ks o Y) : x_E M mc ms pc ls st X kc ks o Y := by
  subst hn
  intro p l e s m args below meth c H locs arr G base C w S hl
  have hx := C.2.1
  have hb := C.2.2.1
  exact lv_lload hx hb (x_dec C.1 hd) (x_lget hl hl0) (kk p l e s m args below meth c H locs arr G base C w S hl)
theorem e_lstore_n (k nx : Nat) {j : Fin 4} {i : Nat} {x : Int64} {ls' : List (Option Value)} (hd : (mIns M)[k]? = some (pc, .lstore_n j, 1)) (hn : pc + 1 = nx) (hi : (j : Nat) = i) (hm : i + 1 < mL M) (he : x_st2 ls i (.long x) = ls') (kk : x_E M mc ms nx ls' st X kc ks o Y) : x_E M mc ms pc ls (.long x :: st) X kc ks o Y := by
  subst hn
  subst he
  intro p l e s m args below meth c H locs arr G base C w S hl
  have hx := C.2.1
  have hb := C.2.2.1
  exact lv_lstore_n hx hb (x_dec C.1 hd) hi hl hm rfl (fun ls2 h2 => kk p l e s m args below meth c H locs ls2 G base C w S (x_lset2 h2))
theorem e_lstore (k nx : Nat) {i : Nat} {x : Int64} {ls' : List (Option Value)} (hd : (mIns M)[k]? = some (pc, .lstore i, 2)) (hn : pc + 2 = nx) (hm : i + 1 < mL M) (he : x_st2 ls i (.long x) = ls') (kk : x_E M mc ms nx ls' st X kc ks o Y) : x_E M mc ms pc ls (.long x :: st) X kc ks o Y := by
  subst hn
  subst he
  intro p l e s m args below meth c H locs arr G base C w S hl
  have hx := C.2.1
  have hb := C.2.2.1
  exact lv_lstore hx hb (x_dec C.1 hd) hl hm rfl (fun ls2 h2 => kk p l e s m args below meth c H locs ls2 G base C w S (x_lset2 h2))
theorem e_aload_n (k nx : Nat) {j : Fin 4} {i : Nat} {x : Nat} (hd : (mIns M)[k]? = some (pc, .aload_n j, 1)) (hn : pc + 1 = nx) (hi : (j : Nat) = i) (hl0 : ls[i]? = some (some (.ref x))) (kk : x_E M mc ms nx ls (.ref x :: st) X kc ks o Y) : x_E M mc ms pc ls st X kc ks o Y := by
  subst hn
  intro p l e s m args below meth c H locs arr G base C w S hl
  have hx := C.2.1
  have hb := C.2.2.1
  exact lv_aload_n hx hb (x_dec C.1 hd) hi (x_lget hl hl0) (kk p l e s m args below meth c H locs arr G base C w S hl)
theorem e_aload (k nx : Nat) {i : Nat} {x : Nat} (hd : (mIns M)[k]? = some (pc, .aload i, 2)) (hn : pc + 2 = nx) (hl0 : ls[i]? = some (some (.ref x))) (kk : x_E M mc ms nx ls (.ref x :: st) X kc ks o Y) : x_E M mc ms pc ls st X kc ks o Y := by
  subst hn
  intro p l e s m args below meth c H locs arr G base C w S hl
  have hx := C.2.1
  have hb := C.2.2.1
  exact lv_aload hx hb (x_dec C.1 hd) (x_lget hl hl0) (kk p l e s m args below meth c H locs arr G base C w S hl)
theorem e_astore_n (k nx : Nat) {j : Fin 4} {i : Nat} {x : Nat} {ls' : List (Option Value)} (hd : (mIns M)[k]? = some (pc, .astore_n j, 1)) (hn : pc + 1 = nx) (hi : (j : Nat) = i) (hm : i < mL M) (he : x_st1 ls i (.ref x) = ls') (kk : x_E M mc ms nx ls' st X kc ks o Y) : x_E M mc ms pc ls (.ref x :: st) X kc ks o Y := by
  subst hn
  subst he
  intro p l e s m args below meth c H locs arr G base C w S hl
  have hx := C.2.1
  have hb := C.2.2.1
  exact lv_astore_n hx hb (x_dec C.1 hd) hi hl hm rfl (fun ls2 h2 => kk p l e s m args below meth c H locs ls2 G base C w S (x_lset1 h2))
theorem e_astore (k nx : Nat) {i : Nat} {x : Nat} {ls' : List (Option Value)} (hd : (mIns M)[k]? = some (pc, .astore i, 2)) (hn : pc + 2 = nx) (hm : i < mL M) (he : x_st1 ls i (.ref x) = ls') (kk : x_E M mc ms nx ls' st X kc ks o Y) : x_E M mc ms pc ls (.ref x :: st) X kc ks o Y := by
  subst hn
  subst he
  intro p l e s m args below meth c H locs arr G base C w S hl
  have hx := C.2.1
  have hb := C.2.2.1
  exact lv_astore hx hb (x_dec C.1 hd) hl hm rfl (fun ls2 h2 => kk p l e s m args below meth c H locs ls2 G base C w S (x_lset1 h2))
theorem e_iinc (k nx : Nat) {i : Nat} {n : Int} {x : Int} {ls' : List (Option Value)} (hd : (mIns M)[k]? = some (pc, .iinc i n, 3)) (hn : pc + 3 = nx) (hm : i < mL M) (hl0 : ls[i]? = some (some (.int (ii x)))) (he : x_st1 ls i (.int (ii (x + n))) = ls') (kk : x_E M mc ms nx ls' st X kc ks o Y) : x_E M mc ms pc ls st X kc ks o Y := by
  subst hn
  subst he
  intro p l e s m args below meth c H locs arr G base C w S hl
  have hx := C.2.1
  have hb := C.2.2.1
  obtain ⟨z, hz⟩ := List.getElem?_of_mem ((x_ls_mem (base := base) (q := (i, .int (ii x))) ls 0).mpr ⟨i, .int (ii x), hl0, by simp [x_v]⟩)
  exact lv_iinc hx hb (x_dec C.1 hd) hl hz (ii_add x n) hm rfl (fun ls2 h2 => kk p l e s m args below meth c H locs ls2 G base C w S (x_lset1 (v := .int (ii (x + n))) h2))
theorem e_iadd (k nx : Nat) {x y : Int} (hd : (mIns M)[k]? = some (pc, .iadd, 1)) (hn : pc + 1 = nx) (kk : x_E M mc ms nx ls (.int (ii (x + y)) :: st) X kc ks o Y) : x_E M mc ms pc ls (.int (ii y) :: .int (ii x) :: st) X kc ks o Y := by
  subst hn
  intro p l e s m args below meth c H locs arr G base C w S hl
  have hx := C.2.1
  have hb := C.2.2.1
  refine lv_iadd (x := ii x) (y := ii y) hx hb (x_dec C.1 hd) ?_
  rw [ii_add]
  exact kk p l e s m args below meth c H locs arr G base C w S hl
theorem e_isub (k nx : Nat) {x y : Int} (hd : (mIns M)[k]? = some (pc, .isub, 1)) (hn : pc + 1 = nx) (kk : x_E M mc ms nx ls (.int (ii (x - y)) :: st) X kc ks o Y) : x_E M mc ms pc ls (.int (ii y) :: .int (ii x) :: st) X kc ks o Y := by
  subst hn
  intro p l e s m args below meth c H locs arr G base C w S hl
  have hx := C.2.1
  have hb := C.2.2.1
  refine lv_isub (x := ii x) (y := ii y) hx hb (x_dec C.1 hd) ?_
  rw [ii_sub]
  exact kk p l e s m args below meth c H locs arr G base C w S hl
theorem e_imul (k nx : Nat) {x y : Int} (hd : (mIns M)[k]? = some (pc, .imul, 1)) (hn : pc + 1 = nx) (kk : x_E M mc ms nx ls (.int (ii (x * y)) :: st) X kc ks o Y) : x_E M mc ms pc ls (.int (ii y) :: .int (ii x) :: st) X kc ks o Y := by
  subst hn
  intro p l e s m args below meth c H locs arr G base C w S hl
  have hx := C.2.1
  have hb := C.2.2.1
  refine lv_imul (x := ii x) (y := ii y) hx hb (x_dec C.1 hd) ?_
  rw [ii_mul]
  exact kk p l e s m args below meth c H locs arr G base C w S hl
theorem e_ladd (k nx : Nat) {x y : Int} (hd : (mIns M)[k]? = some (pc, .ladd, 1)) (hn : pc + 1 = nx) (kk : x_E M mc ms nx ls (.long (ll (x + y)) :: st) X kc ks o Y) : x_E M mc ms pc ls (.long (ll y) :: .long (ll x) :: st) X kc ks o Y := by
  subst hn
  intro p l e s m args below meth c H locs arr G base C w S hl
  have hx := C.2.1
  have hb := C.2.2.1
  refine lv_ladd (x := ll x) (y := ll y) hx hb (x_dec C.1 hd) ?_
  rw [ll_add]
  exact kk p l e s m args below meth c H locs arr G base C w S hl
theorem e_lmul (k nx : Nat) {x y : Int} (hd : (mIns M)[k]? = some (pc, .lmul, 1)) (hn : pc + 1 = nx) (kk : x_E M mc ms nx ls (.long (ll (x * y)) :: st) X kc ks o Y) : x_E M mc ms pc ls (.long (ll y) :: .long (ll x) :: st) X kc ks o Y := by
  subst hn
  intro p l e s m args below meth c H locs arr G base C w S hl
  have hx := C.2.1
  have hb := C.2.2.1
  refine lv_lmul (x := ll x) (y := ll y) hx hb (x_dec C.1 hd) ?_
  rw [ll_mul]
  exact kk p l e s m args below meth c H locs arr G base C w S hl
theorem e_land (k nx : Nat) {x y : Int64} (hd : (mIns M)[k]? = some (pc, .land, 1)) (hn : pc + 1 = nx) (kk : x_E M mc ms nx ls (.long (x &&& y) :: st) X kc ks o Y) : x_E M mc ms pc ls (.long y :: .long x :: st) X kc ks o Y := by
  subst hn
  intro p l e s m args below meth c H locs arr G base C w S hl
  have hx := C.2.1
  have hb := C.2.2.1
  exact lv_land hx hb (x_dec C.1 hd) (kk p l e s m args below meth c H locs arr G base C w S hl)
theorem e_lor (k nx : Nat) {x y : Int64} (hd : (mIns M)[k]? = some (pc, .lor, 1)) (hn : pc + 1 = nx) (kk : x_E M mc ms nx ls (.long (x ||| y) :: st) X kc ks o Y) : x_E M mc ms pc ls (.long y :: .long x :: st) X kc ks o Y := by
  subst hn
  intro p l e s m args below meth c H locs arr G base C w S hl
  have hx := C.2.1
  have hb := C.2.2.1
  exact lv_lor hx hb (x_dec C.1 hd) (kk p l e s m args below meth c H locs arr G base C w S hl)
theorem e_lxor (k nx : Nat) {x y : Int64} (hd : (mIns M)[k]? = some (pc, .lxor, 1)) (hn : pc + 1 = nx) (kk : x_E M mc ms nx ls (.long (x ^^^ y) :: st) X kc ks o Y) : x_E M mc ms pc ls (.long y :: .long x :: st) X kc ks o Y := by
  subst hn
  intro p l e s m args below meth c H locs arr G base C w S hl
  have hx := C.2.1
  have hb := C.2.2.1
  exact lv_lxor hx hb (x_dec C.1 hd) (kk p l e s m args below meth c H locs arr G base C w S hl)
theorem e_lshl (k nx : Nat) {x : Int64} {y : Int32} (hd : (mIns M)[k]? = some (pc, .lshl, 1)) (hn : pc + 1 = nx) (kk : x_E M mc ms nx ls (.long (x <<< (y.toInt64 &&& 63)) :: st) X kc ks o Y) : x_E M mc ms pc ls (.int y :: .long x :: st) X kc ks o Y := by
  subst hn
  intro p l e s m args below meth c H locs arr G base C w S hl
  have hx := C.2.1
  have hb := C.2.2.1
  exact lv_lshl hx hb (x_dec C.1 hd) rfl (kk p l e s m args below meth c H locs arr G base C w S hl)
theorem e_lshr (k nx : Nat) {x : Int64} {y : Int32} (hd : (mIns M)[k]? = some (pc, .lshr, 1)) (hn : pc + 1 = nx) (kk : x_E M mc ms nx ls (.long (x >>> (y.toInt64 &&& 63)) :: st) X kc ks o Y) : x_E M mc ms pc ls (.int y :: .long x :: st) X kc ks o Y := by
  subst hn
  intro p l e s m args below meth c H locs arr G base C w S hl
  have hx := C.2.1
  have hb := C.2.2.1
  exact lv_lshr hx hb (x_dec C.1 hd) rfl (kk p l e s m args below meth c H locs arr G base C w S hl)
theorem e_iand (k nx : Nat) {x y : Int32} (hd : (mIns M)[k]? = some (pc, .iand, 1)) (hn : pc + 1 = nx) (kk : x_E M mc ms nx ls (.int (x &&& y) :: st) X kc ks o Y) : x_E M mc ms pc ls (.int y :: .int x :: st) X kc ks o Y := by
  subst hn
  intro p l e s m args below meth c H locs arr G base C w S hl
  have hx := C.2.1
  have hb := C.2.2.1
  exact lv_iand hx hb (x_dec C.1 hd) (kk p l e s m args below meth c H locs arr G base C w S hl)
theorem e_idiv (k nx : Nat) {x y z : Int} (hd : (mIns M)[k]? = some (pc, .idiv, 1)) (hn : pc + 1 = nx) (hne : ¬ ii y = 0) (hz : ii x / ii y = ii z) (kk : x_E M mc ms nx ls (.int (ii z) :: st) X kc ks o Y) : x_E M mc ms pc ls (.int (ii y) :: .int (ii x) :: st) X kc ks o Y := by
  subst hn
  intro p l e s m args below meth c H locs arr G base C w S hl
  have hx := C.2.1
  have hb := C.2.2.1
  refine lv_idiv (x := ii x) (y := ii y) hx hb (x_dec C.1 hd) hne ?_
  rw [hz]
  exact kk p l e s m args below meth c H locs arr G base C w S hl
theorem e_irem (k nx : Nat) {x y z : Int} (hd : (mIns M)[k]? = some (pc, .irem, 1)) (hn : pc + 1 = nx) (hne : ¬ ii y = 0) (hz : ii x - ii x / ii y * ii y = ii z) (kk : x_E M mc ms nx ls (.int (ii z) :: st) X kc ks o Y) : x_E M mc ms pc ls (.int (ii y) :: .int (ii x) :: st) X kc ks o Y := by
  subst hn
  intro p l e s m args below meth c H locs arr G base C w S hl
  have hx := C.2.1
  have hb := C.2.2.1
  refine lv_irem (x := ii x) (y := ii y) hx hb (x_dec C.1 hd) hne ?_
  rw [hz]
  exact kk p l e s m args below meth c H locs arr G base C w S hl
theorem e_i2l (k nx : Nat) {x : Int} (hd : (mIns M)[k]? = some (pc, .i2l, 1)) (hn : pc + 1 = nx) (hr : xr x) (kk : x_E M mc ms nx ls (.long (ll x) :: st) X kc ks o Y) : x_E M mc ms pc ls (.int (ii x) :: st) X kc ks o Y := by
  subst hn
  intro p l e s m args below meth c H locs arr G base C w S hl
  have hx := C.2.1
  have hb := C.2.2.1
  exact lv_i2l hx hb (x_dec C.1 hd) (ii_i2l hr) (kk p l e s m args below meth c H locs arr G base C w S hl)
theorem e_lcmp (k nx : Nat) {x y : Int64} (hd : (mIns M)[k]? = some (pc, .lcmp, 1)) (hn : pc + 1 = nx) (kk : x_E M mc ms nx ls (.int (lg_cmp x y) :: st) X kc ks o Y) : x_E M mc ms pc ls (.long y :: .long x :: st) X kc ks o Y := by
  subst hn
  intro p l e s m args below meth c H locs arr G base C w S hl
  have hx := C.2.1
  have hb := C.2.2.1
  exact W.lcmp hx hb (x_dec C.1 hd) (kk p l e s m args below meth c H locs arr G base C w S hl)
theorem e_dup (k nx : Nat) {v : Value} (hd : (mIns M)[k]? = some (pc, .dup, 1)) (hn : pc + 1 = nx) (hc : v.category = 1) (kk : x_E M mc ms nx ls (v :: v :: st) X kc ks o Y) : x_E M mc ms pc ls (v :: st) X kc ks o Y := by
  subst hn
  intro p l e s m args below meth c H locs arr G base C w S hl
  have hx := C.2.1
  have hb := C.2.2.1
  exact lv_dup hx hb (x_dec C.1 hd) ((x_v_cat base v).trans hc) (kk p l e s m args below meth c H locs arr G base C w S hl)
theorem e_dup2 (k nx : Nat) {v u : Value} (hd : (mIns M)[k]? = some (pc, .dup2, 1)) (hn : pc + 1 = nx) (hc : v.category = 1) (hc2 : u.category = 1) (kk : x_E M mc ms nx ls (v :: u :: v :: u :: st) X kc ks o Y) : x_E M mc ms pc ls (v :: u :: st) X kc ks o Y := by
  subst hn
  intro p l e s m args below meth c H locs arr G base C w S hl
  have hx := C.2.1
  have hb := C.2.2.1
  exact lv_dup2_11 hx hb (x_dec C.1 hd) ((x_v_cat base v).trans hc) ((x_v_cat base u).trans hc2) (kk p l e s m args below meth c H locs arr G base C w S hl)
theorem e_pop (k nx : Nat) {v : Value} (hd : (mIns M)[k]? = some (pc, .pop, 1)) (hn : pc + 1 = nx) (hc : v.category = 1) (kk : x_E M mc ms nx ls st X kc ks o Y) : x_E M mc ms pc ls (v :: st) X kc ks o Y := by
  subst hn
  intro p l e s m args below meth c H locs arr G base C w S hl
  have hx := C.2.1
  have hb := C.2.2.1
  exact lv_pop hx hb (x_dec C.1 hd) ((x_v_cat base v).trans hc) (kk p l e s m args below meth c H locs arr G base C w S hl)
theorem e_goto (k tg : Nat) {off : Int} (hd : (mIns M)[k]? = some (pc, .goto off, 3)) (ht : (pc : Int) + off = (tg : Int)) (kk : x_E M mc ms tg ls st X kc ks o Y) : x_E M mc ms pc ls st X kc ks o Y := by
  intro p l e s m args below meth c H locs arr G base C w S hl
  have hx := C.2.1
  have hb := C.2.2.1
  exact lv_goto hx hb (x_dec C.1 hd) ht (kk p l e s m args below meth c H locs arr G base C w S hl)
theorem e_icmp_eq (k tg nx : Nat) {x y : Int} {off : Int} (hd : (mIns M)[k]? = some (pc, .if_icmp .eq off, 3)) (ht : (pc : Int) + off = (tg : Int)) (hn : pc + 3 = nx) (hrx : xr x) (hry : xr y) (kt : x = y → x_E M mc ms tg ls st X kc ks o Y) (kf : ¬ x = y → x_E M mc ms nx ls st X kc ks o Y) : x_E M mc ms pc ls (.int (ii y) :: .int (ii x) :: st) X kc ks o Y := by
  subst hn
  intro p l e s m args below meth c H locs arr G base C w S hl
  have hx := C.2.1
  have hb := C.2.2.1
  exact lv_icmp_eq hx hb (x_dec C.1 hd) ht (fun h => kt ((ii_eq hrx hry).mp h) p l e s m args below meth c H locs arr G base C w S hl) (fun h => kf (fun q => h ((ii_eq hrx hry).mpr q)) p l e s m args below meth c H locs arr G base C w S hl)
theorem e_if_eq (k tg nx : Nat) {x : Int} {off : Int} (hd : (mIns M)[k]? = some (pc, .ifCond .eq off, 3)) (ht : (pc : Int) + off = (tg : Int)) (hn : pc + 3 = nx) (hrx : xr x) (kt : x = 0 → x_E M mc ms tg ls st X kc ks o Y) (kf : ¬ x = 0 → x_E M mc ms nx ls st X kc ks o Y) : x_E M mc ms pc ls (.int (ii x) :: st) X kc ks o Y := by
  subst hn
  intro p l e s m args below meth c H locs arr G base C w S hl
  have hx := C.2.1
  have hb := C.2.2.1
  exact lv_if_eq hx hb (x_dec C.1 hd) ht (fun h => kt ((ii_eq hrx xr_0).mp h) p l e s m args below meth c H locs arr G base C w S hl) (fun h => kf (fun q => h ((ii_eq hrx xr_0).mpr q)) p l e s m args below meth c H locs arr G base C w S hl)
theorem e_icmp_ne (k tg nx : Nat) {x y : Int} {off : Int} (hd : (mIns M)[k]? = some (pc, .if_icmp .ne off, 3)) (ht : (pc : Int) + off = (tg : Int)) (hn : pc + 3 = nx) (hrx : xr x) (hry : xr y) (kt : ¬ x = y → x_E M mc ms tg ls st X kc ks o Y) (kf : x = y → x_E M mc ms nx ls st X kc ks o Y) : x_E M mc ms pc ls (.int (ii y) :: .int (ii x) :: st) X kc ks o Y := by
  subst hn
  intro p l e s m args below meth c H locs arr G base C w S hl
  have hx := C.2.1
  have hb := C.2.2.1
  exact lv_icmp_ne hx hb (x_dec C.1 hd) ht (fun h => kt (fun q => h ((ii_eq hrx hry).mpr q)) p l e s m args below meth c H locs arr G base C w S hl) (fun h => kf ((ii_eq hrx hry).mp h) p l e s m args below meth c H locs arr G base C w S hl)
theorem e_if_ne (k tg nx : Nat) {x : Int} {off : Int} (hd : (mIns M)[k]? = some (pc, .ifCond .ne off, 3)) (ht : (pc : Int) + off = (tg : Int)) (hn : pc + 3 = nx) (hrx : xr x) (kt : ¬ x = 0 → x_E M mc ms tg ls st X kc ks o Y) (kf : x = 0 → x_E M mc ms nx ls st X kc ks o Y) : x_E M mc ms pc ls (.int (ii x) :: st) X kc ks o Y := by
  subst hn
  intro p l e s m args below meth c H locs arr G base C w S hl
  have hx := C.2.1
  have hb := C.2.2.1
  exact lv_if_ne hx hb (x_dec C.1 hd) ht (fun h => kt (fun q => h ((ii_eq hrx xr_0).mpr q)) p l e s m args below meth c H locs arr G base C w S hl) (fun h => kf ((ii_eq hrx xr_0).mp h) p l e s m args below meth c H locs arr G base C w S hl)
theorem e_icmp_lt (k tg nx : Nat) {x y : Int} {off : Int} (hd : (mIns M)[k]? = some (pc, .if_icmp .lt off, 3)) (ht : (pc : Int) + off = (tg : Int)) (hn : pc + 3 = nx) (hrx : xr x) (hry : xr y) (kt : x < y → x_E M mc ms tg ls st X kc ks o Y) (kf : y ≤ x → x_E M mc ms nx ls st X kc ks o Y) : x_E M mc ms pc ls (.int (ii y) :: .int (ii x) :: st) X kc ks o Y := by
  subst hn
  intro p l e s m args below meth c H locs arr G base C w S hl
  have hx := C.2.1
  have hb := C.2.2.1
  exact lv_icmp_lt hx hb (x_dec C.1 hd) ht (fun h => kt ((ii_lt hrx hry).mp h) p l e s m args below meth c H locs arr G base C w S hl) (fun h => kf (Int.not_lt.mp (fun q => h ((ii_lt hrx hry).mpr q))) p l e s m args below meth c H locs arr G base C w S hl)
theorem e_if_lt (k tg nx : Nat) {x : Int} {off : Int} (hd : (mIns M)[k]? = some (pc, .ifCond .lt off, 3)) (ht : (pc : Int) + off = (tg : Int)) (hn : pc + 3 = nx) (hrx : xr x) (kt : x < 0 → x_E M mc ms tg ls st X kc ks o Y) (kf : 0 ≤ x → x_E M mc ms nx ls st X kc ks o Y) : x_E M mc ms pc ls (.int (ii x) :: st) X kc ks o Y := by
  subst hn
  intro p l e s m args below meth c H locs arr G base C w S hl
  have hx := C.2.1
  have hb := C.2.2.1
  exact lv_if_lt hx hb (x_dec C.1 hd) ht (fun h => kt ((ii_lt hrx xr_0).mp h) p l e s m args below meth c H locs arr G base C w S hl) (fun h => kf (Int.not_lt.mp (fun q => h ((ii_lt hrx xr_0).mpr q))) p l e s m args below meth c H locs arr G base C w S hl)
theorem e_icmp_ge (k tg nx : Nat) {x y : Int} {off : Int} (hd : (mIns M)[k]? = some (pc, .if_icmp .ge off, 3)) (ht : (pc : Int) + off = (tg : Int)) (hn : pc + 3 = nx) (hrx : xr x) (hry : xr y) (kt : y ≤ x → x_E M mc ms tg ls st X kc ks o Y) (kf : x < y → x_E M mc ms nx ls st X kc ks o Y) : x_E M mc ms pc ls (.int (ii y) :: .int (ii x) :: st) X kc ks o Y := by
  subst hn
  intro p l e s m args below meth c H locs arr G base C w S hl
  have hx := C.2.1
  have hb := C.2.2.1
  exact lv_icmp_ge hx hb (x_dec C.1 hd) ht (fun h => kt ((ii_le hry hrx).mp h) p l e s m args below meth c H locs arr G base C w S hl) (fun h => kf (Int.not_le.mp (fun q => h ((ii_le hry hrx).mpr q))) p l e s m args below meth c H locs arr G base C w S hl)
theorem e_if_ge (k tg nx : Nat) {x : Int} {off : Int} (hd : (mIns M)[k]? = some (pc, .ifCond .ge off, 3)) (ht : (pc : Int) + off = (tg : Int)) (hn : pc + 3 = nx) (hrx : xr x) (kt : 0 ≤ x → x_E M mc ms tg ls st X kc ks o Y) (kf : x < 0 → x_E M mc ms nx ls st X kc ks o Y) : x_E M mc ms pc ls (.int (ii x) :: st) X kc ks o Y := by
  subst hn
  intro p l e s m args below meth c H locs arr G base C w S hl
  have hx := C.2.1
  have hb := C.2.2.1
  exact lv_if_ge hx hb (x_dec C.1 hd) ht (fun h => kt ((ii_le xr_0 hrx).mp h) p l e s m args below meth c H locs arr G base C w S hl) (fun h => kf (Int.not_le.mp (fun q => h ((ii_le xr_0 hrx).mpr q))) p l e s m args below meth c H locs arr G base C w S hl)
theorem e_icmp_gt (k tg nx : Nat) {x y : Int} {off : Int} (hd : (mIns M)[k]? = some (pc, .if_icmp .gt off, 3)) (ht : (pc : Int) + off = (tg : Int)) (hn : pc + 3 = nx) (hrx : xr x) (hry : xr y) (kt : y < x → x_E M mc ms tg ls st X kc ks o Y) (kf : x ≤ y → x_E M mc ms nx ls st X kc ks o Y) : x_E M mc ms pc ls (.int (ii y) :: .int (ii x) :: st) X kc ks o Y := by
  subst hn
  intro p l e s m args below meth c H locs arr G base C w S hl
  have hx := C.2.1
  have hb := C.2.2.1
  exact lv_icmp_gt hx hb (x_dec C.1 hd) ht (fun h => kt ((ii_lt hry hrx).mp h) p l e s m args below meth c H locs arr G base C w S hl) (fun h => kf (Int.not_lt.mp (fun q => h ((ii_lt hry hrx).mpr q))) p l e s m args below meth c H locs arr G base C w S hl)
theorem e_if_gt (k tg nx : Nat) {x : Int} {off : Int} (hd : (mIns M)[k]? = some (pc, .ifCond .gt off, 3)) (ht : (pc : Int) + off = (tg : Int)) (hn : pc + 3 = nx) (hrx : xr x) (kt : 0 < x → x_E M mc ms tg ls st X kc ks o Y) (kf : x ≤ 0 → x_E M mc ms nx ls st X kc ks o Y) : x_E M mc ms pc ls (.int (ii x) :: st) X kc ks o Y := by
  subst hn
  intro p l e s m args below meth c H locs arr G base C w S hl
  have hx := C.2.1
  have hb := C.2.2.1
  exact lv_if_gt hx hb (x_dec C.1 hd) ht (fun h => kt ((ii_lt xr_0 hrx).mp h) p l e s m args below meth c H locs arr G base C w S hl) (fun h => kf (Int.not_lt.mp (fun q => h ((ii_lt xr_0 hrx).mpr q))) p l e s m args below meth c H locs arr G base C w S hl)
theorem e_icmp_le (k tg nx : Nat) {x y : Int} {off : Int} (hd : (mIns M)[k]? = some (pc, .if_icmp .le off, 3)) (ht : (pc : Int) + off = (tg : Int)) (hn : pc + 3 = nx) (hrx : xr x) (hry : xr y) (kt : x ≤ y → x_E M mc ms tg ls st X kc ks o Y) (kf : y < x → x_E M mc ms nx ls st X kc ks o Y) : x_E M mc ms pc ls (.int (ii y) :: .int (ii x) :: st) X kc ks o Y := by
  subst hn
  intro p l e s m args below meth c H locs arr G base C w S hl
  have hx := C.2.1
  have hb := C.2.2.1
  exact lv_icmp_le hx hb (x_dec C.1 hd) ht (fun h => kt ((ii_le hrx hry).mp h) p l e s m args below meth c H locs arr G base C w S hl) (fun h => kf (Int.not_le.mp (fun q => h ((ii_le hrx hry).mpr q))) p l e s m args below meth c H locs arr G base C w S hl)
theorem e_if_le (k tg nx : Nat) {x : Int} {off : Int} (hd : (mIns M)[k]? = some (pc, .ifCond .le off, 3)) (ht : (pc : Int) + off = (tg : Int)) (hn : pc + 3 = nx) (hrx : xr x) (kt : x ≤ 0 → x_E M mc ms tg ls st X kc ks o Y) (kf : 0 < x → x_E M mc ms nx ls st X kc ks o Y) : x_E M mc ms pc ls (.int (ii x) :: st) X kc ks o Y := by
  subst hn
  intro p l e s m args below meth c H locs arr G base C w S hl
  have hx := C.2.1
  have hb := C.2.2.1
  exact lv_if_le hx hb (x_dec C.1 hd) ht (fun h => kt ((ii_le hrx xr_0).mp h) p l e s m args below meth c H locs arr G base C w S hl) (fun h => kf (Int.not_le.mp (fun q => h ((ii_le hrx xr_0).mpr q))) p l e s m args below meth c H locs arr G base C w S hl)
end XE
