/-! ===== a frame in any room, for the law and its wrappers ===== -/
abbrev x_KT : Type := Program × Launch × Env × Room × State × MethodId × Array Value × List Frame × Method × Code × xG × Nat × (State → Prop)
abbrev kP (K : x_KT) : Program := K.1
abbrev kL (K : x_KT) : Launch := K.2.1
abbrev kE (K : x_KT) : Env := K.2.2.1
abbrev kR (K : x_KT) : Room := K.2.2.2.1
abbrev kS (K : x_KT) : State := K.2.2.2.2.1
abbrev kM (K : x_KT) : MethodId := K.2.2.2.2.2.1
abbrev kA (K : x_KT) : Array Value := K.2.2.2.2.2.2.1
abbrev kW (K : x_KT) : List Frame := K.2.2.2.2.2.2.2.1
abbrev kH (K : x_KT) : Method := K.2.2.2.2.2.2.2.2.1
abbrev kC (K : x_KT) : Code := K.2.2.2.2.2.2.2.2.2.1
abbrev kG (K : x_KT) : xG := K.2.2.2.2.2.2.2.2.2.2.1
abbrev kB (K : x_KT) : Nat := K.2.2.2.2.2.2.2.2.2.2.2.1
abbrev kQ (K : x_KT) : State → Prop := K.2.2.2.2.2.2.2.2.2.2.2.2
/-- the context: machine, code, locals, class, words, what the state keeps, no stack traces -/
def x_FC (K : x_KT) (cc : ByteArray) (n9 : Nat) (own : String) : Prop := (kP K).tables.exec = Jvm.exec ∧ (kC K).code = cc ∧ (kC K).maxLocals = n9 ∧ (kS K).vm.findClass own = some (kM K).cls ∧ (∀ w ∈ tb0, w.before (kA K) (kS K) = true) ∧ x_PX (kG K) (kB K) (kS K) ∧ (kL K).stackTraces = false
def x_F (K : x_KT) (n9 : Nat) (ex : List (Nat × Value)) (pc : Nat) (ls : List (Option Value)) (st : List Value) (X : xS) (kc ks : Nat) : Prop :=
  ∀ (H : Heap) (locs : List Loc) (arr : Array Slot), x_W (kB K) (kG K) X H → va_S (x_A (kB K)) (kS K).heap H locs → lv_has arr n9 (ex ++ x_ls (kB K) 0 ls) → W (kP K) (kL K) (kE K) (kR K) (kS K) (kM K) (kA K) (kW K) (kH K) (kC K) H locs kc ks (kQ K) (F0 (kM K) pc arr (st.map (x_v (kB K))))
def exOk (ex : List (Nat × Value)) (i : Nat) : Bool := ex.all fun q => !(q.1 == i) && !(q.1 + 1 == i && q.2.category == 2)
theorem f_get {base nL i : Nat} {arr : Array Slot} {ex : List (Nat × Value)} {ls : List (Option Value)} {v : Value} (h : lv_has arr nL (ex ++ x_ls base 0 ls)) (hi : ls[i]? = some (some v)) : arr[i]? = some (.val (x_v base v)) := x_lget (x_lsub h fun q hq => List.mem_append_right _ hq) hi
theorem f_set {base nL i : Nat} {arr : Array Slot} {ex : List (Nat × Value)} {ls : List (Option Value)} {v : Value} (hex : exOk ex i = true) (h : lv_has arr nL ((i, x_v base v) :: (ex ++ x_ls base 0 ls).filter (fun q => !(q.1 == i) && !(q.1 + 1 == i && q.2.category == 2)))) : lv_has arr nL (ex ++ x_ls base 0 (x_st1 ls i v)) := by
  have h1 := x_lset1 (v := v) (ls := ls) (x_lsub h (l' := (i, x_v base v) :: (x_ls base 0 ls).filter (fun q => !(q.1 == i) && !(q.1 + 1 == i && q.2.category == 2))) (fun q hq => by
    rcases List.mem_cons.mp hq with e | e
    · rw [e]; exact List.mem_cons_self
    · refine List.mem_cons_of_mem _ ?_
      rw [List.filter_append]
      exact List.mem_append_right _ e))
  refine ⟨h.1, h.2.1, fun q hq => ?_⟩
  rcases List.mem_append.mp hq with e | e
  · refine h.2.2 q (List.mem_cons_of_mem _ (List.mem_filter.mpr ⟨List.mem_append_left _ e, ?_⟩))
    exact List.all_eq_true.mp hex q e
  · exact h1.2.2 q e
theorem f_set0 {base nL i : Nat} {arr : Array Slot} {ex : List (Nat × Value)} {ls : List (Option Value)} {w : Value} (hex : exOk ex i = true) (h : lv_has arr nL ((i, w) :: (ex ++ x_ls base 0 ls).filter (fun q => !(q.1 == i) && !(q.1 + 1 == i && q.2.category == 2)))) : lv_has arr nL (ex ++ x_ls base 0 (x_st0 ls i)) := by
  have h1 := x_lset0 (w := w) (ls := ls) (x_lsub h (l' := (i, w) :: (x_ls base 0 ls).filter (fun q => !(q.1 == i) && !(q.1 + 1 == i && q.2.category == 2))) (fun q hq => by
    rcases List.mem_cons.mp hq with e | e
    · rw [e]; exact List.mem_cons_self
    · refine List.mem_cons_of_mem _ ?_
      rw [List.filter_append]
      exact List.mem_append_right _ e))
  refine ⟨h.1, h.2.1, fun q hq => ?_⟩
  rcases List.mem_append.mp hq with e | e
  · refine h.2.2 q (List.mem_cons_of_mem _ (List.mem_filter.mpr ⟨List.mem_append_left _ e, ?_⟩))
    exact List.all_eq_true.mp hex q e
  · exact h1.2.2 q e
theorem dq {cc : ByteArray} {L : List (Nat × Instr × Nat)} (h : L.all (fun q => decide (decode cc q.1 = .ok q.2)) = true) (k : Nat) {pc : Nat} {i : Instr} {len : Nat} (hi : L[k]? = some (pc, i, len)) : decode cc pc = .ok (i, len) := by
  have h1 := List.all_eq_true.mp h _ (List.mem_of_getElem? hi)
  exact of_decide_eq_true h1
section XFF
variable {K : x_KT} {cc : ByteArray} {n9 : Nat} {own : String} {ex : List (Nat × Value)} {pc kc ks : Nat} {ls : List (Option Value)} {st : List Value} {X : xS}
theorem f_iconst (C : x_FC K cc n9 own) (nx : Nat) {n : Int} (hd : decode cc pc = .ok (.iconst n, 1)) (hn : pc + 1 = nx) (kk : x_F K n9 ex nx ls (.int (ii n) :: st) X kc ks) : x_F K n9 ex pc ls st X kc ks := by
  subst hn
  intro H locs arr w S hl
  have hx := C.1
  have hb := C.2.1
  exact lv_iconst hx hb hd rfl (kk H locs arr w S hl)
theorem f_bipush (C : x_FC K cc n9 own) (nx : Nat) {n : Int} (hd : decode cc pc = .ok (.bipush n, 2)) (hn : pc + 2 = nx) (hv : (Int8.ofInt n).toInt32 = ii n) (kk : x_F K n9 ex nx ls (.int (ii n) :: st) X kc ks) : x_F K n9 ex pc ls st X kc ks := by
  subst hn
  intro H locs arr w S hl
  have hx := C.1
  have hb := C.2.1
  exact lv_bipush hx hb hd hv (kk H locs arr w S hl)
theorem f_sipush (C : x_FC K cc n9 own) (nx : Nat) {n : Int} (hd : decode cc pc = .ok (.sipush n, 3)) (hn : pc + 3 = nx) (hv : (Int16.ofInt n).toInt32 = ii n) (kk : x_F K n9 ex nx ls (.int (ii n) :: st) X kc ks) : x_F K n9 ex pc ls st X kc ks := by
  subst hn
  intro H locs arr w S hl
  have hx := C.1
  have hb := C.2.1
  exact lv_sipush hx hb hd hv (kk H locs arr w S hl)
theorem f_lconst (C : x_FC K cc n9 own) (nx : Nat) {n : Fin 2} (hd : decode cc pc = .ok (.lconst n, 1)) (hn : pc + 1 = nx) (kk : x_F K n9 ex nx ls (.long (ll (n : Nat)) :: st) X kc ks) : x_F K n9 ex pc ls st X kc ks := by
  subst hn
  intro H locs arr w S hl
  have hx := C.1
  have hb := C.2.1
  exact lv_lconst hx hb hd rfl (kk H locs arr w S hl)
theorem f_iload_n (C : x_FC K cc n9 own) (nx : Nat) {j : Fin 4} {i : Nat} {x : Int32} (hd : decode cc pc = .ok (.iload_n j, 1)) (hn : pc + 1 = nx) (hi : (j : Nat) = i) (hl0 : ls[i]? = some (some (.int x))) (kk : x_F K n9 ex nx ls (.int x :: st) X kc ks) : x_F K n9 ex pc ls st X kc ks := by
  subst hn
  intro H locs arr w S hl
  have hx := C.1
  have hb := C.2.1
  exact lv_iload_n hx hb hd hi (f_get hl hl0) (kk H locs arr w S hl)
theorem f_iload (C : x_FC K cc n9 own) (nx : Nat) {i : Nat} {x : Int32} (hd : decode cc pc = .ok (.iload i, 2)) (hn : pc + 2 = nx) (hl0 : ls[i]? = some (some (.int x))) (kk : x_F K n9 ex nx ls (.int x :: st) X kc ks) : x_F K n9 ex pc ls st X kc ks := by
  subst hn
  intro H locs arr w S hl
  have hx := C.1
  have hb := C.2.1
  exact lv_iload hx hb hd (f_get hl hl0) (kk H locs arr w S hl)
theorem f_istore_n (C : x_FC K cc n9 own) (nx : Nat) {j : Fin 4} {i : Nat} {x : Int32} {ls' : List (Option Value)} (hd : decode cc pc = .ok (.istore_n j, 1)) (hn : pc + 1 = nx) (hi : (j : Nat) = i) (hm : i < n9) (hex : exOk ex i = true) (he : x_st1 ls i (.int x) = ls') (kk : x_F K n9 ex nx ls' st X kc ks) : x_F K n9 ex pc ls (.int x :: st) X kc ks := by
  subst hn
  subst he
  intro H locs arr w S hl
  have hx := C.1
  have hb := C.2.1
  exact lv_istore_n hx hb hd hi hl hm rfl (fun ls2 h2 => kk H locs ls2 w S (f_set hex h2))
theorem f_istore (C : x_FC K cc n9 own) (nx : Nat) {i : Nat} {x : Int32} {ls' : List (Option Value)} (hd : decode cc pc = .ok (.istore i, 2)) (hn : pc + 2 = nx) (hm : i < n9) (hex : exOk ex i = true) (he : x_st1 ls i (.int x) = ls') (kk : x_F K n9 ex nx ls' st X kc ks) : x_F K n9 ex pc ls (.int x :: st) X kc ks := by
  subst hn
  subst he
  intro H locs arr w S hl
  have hx := C.1
  have hb := C.2.1
  exact lv_istore hx hb hd hl hm rfl (fun ls2 h2 => kk H locs ls2 w S (f_set hex h2))
theorem f_aload_n (C : x_FC K cc n9 own) (nx : Nat) {j : Fin 4} {i : Nat} {x : Nat} (hd : decode cc pc = .ok (.aload_n j, 1)) (hn : pc + 1 = nx) (hi : (j : Nat) = i) (hl0 : ls[i]? = some (some (.ref x))) (kk : x_F K n9 ex nx ls (.ref x :: st) X kc ks) : x_F K n9 ex pc ls st X kc ks := by
  subst hn
  intro H locs arr w S hl
  have hx := C.1
  have hb := C.2.1
  exact lv_aload_n hx hb hd hi (f_get hl hl0) (kk H locs arr w S hl)
theorem f_aload (C : x_FC K cc n9 own) (nx : Nat) {i : Nat} {x : Nat} (hd : decode cc pc = .ok (.aload i, 2)) (hn : pc + 2 = nx) (hl0 : ls[i]? = some (some (.ref x))) (kk : x_F K n9 ex nx ls (.ref x :: st) X kc ks) : x_F K n9 ex pc ls st X kc ks := by
  subst hn
  intro H locs arr w S hl
  have hx := C.1
  have hb := C.2.1
  exact lv_aload hx hb hd (f_get hl hl0) (kk H locs arr w S hl)
theorem f_astore_n (C : x_FC K cc n9 own) (nx : Nat) {j : Fin 4} {i : Nat} {x : Nat} {ls' : List (Option Value)} (hd : decode cc pc = .ok (.astore_n j, 1)) (hn : pc + 1 = nx) (hi : (j : Nat) = i) (hm : i < n9) (hex : exOk ex i = true) (he : x_st1 ls i (.ref x) = ls') (kk : x_F K n9 ex nx ls' st X kc ks) : x_F K n9 ex pc ls (.ref x :: st) X kc ks := by
  subst hn
  subst he
  intro H locs arr w S hl
  have hx := C.1
  have hb := C.2.1
  exact lv_astore_n hx hb hd hi hl hm rfl (fun ls2 h2 => kk H locs ls2 w S (f_set hex h2))
theorem f_astore (C : x_FC K cc n9 own) (nx : Nat) {i : Nat} {x : Nat} {ls' : List (Option Value)} (hd : decode cc pc = .ok (.astore i, 2)) (hn : pc + 2 = nx) (hm : i < n9) (hex : exOk ex i = true) (he : x_st1 ls i (.ref x) = ls') (kk : x_F K n9 ex nx ls' st X kc ks) : x_F K n9 ex pc ls (.ref x :: st) X kc ks := by
  subst hn
  subst he
  intro H locs arr w S hl
  have hx := C.1
  have hb := C.2.1
  exact lv_astore hx hb hd hl hm rfl (fun ls2 h2 => kk H locs ls2 w S (f_set hex h2))
theorem f_iinc (C : x_FC K cc n9 own) (nx : Nat) {i : Nat} {n : Int} {x : Int} {ls' : List (Option Value)} (hd : decode cc pc = .ok (.iinc i n, 3)) (hn : pc + 3 = nx) (hm : i < n9) (hl0 : ls[i]? = some (some (.int (ii x)))) (hex : exOk ex i = true) (he : x_st1 ls i (.int (ii (x + n))) = ls') (kk : x_F K n9 ex nx ls' st X kc ks) : x_F K n9 ex pc ls st X kc ks := by
  subst hn
  subst he
  intro H locs arr w S hl
  have hx := C.1
  have hb := C.2.1
  obtain ⟨z, hz⟩ := List.getElem?_of_mem (List.mem_append_right ex ((x_ls_mem (base := kB K) (q := (i, .int (ii x))) ls 0).mpr ⟨i, .int (ii x), hl0, by simp [x_v]⟩))
  exact lv_iinc hx hb hd hl hz (ii_add x n) hm rfl (fun ls2 h2 => kk H locs ls2 w S (f_set (v := .int (ii (x + n))) hex h2))
theorem f_iadd (C : x_FC K cc n9 own) (nx : Nat) {x y : Int} (hd : decode cc pc = .ok (.iadd, 1)) (hn : pc + 1 = nx) (kk : x_F K n9 ex nx ls (.int (ii (x + y)) :: st) X kc ks) : x_F K n9 ex pc ls (.int (ii y) :: .int (ii x) :: st) X kc ks := by
  subst hn
  intro H locs arr w S hl
  have hx := C.1
  have hb := C.2.1
  refine lv_iadd (x := ii x) (y := ii y) hx hb hd ?_
  rw [ii_add]
  exact kk H locs arr w S hl
theorem f_isub (C : x_FC K cc n9 own) (nx : Nat) {x y : Int} (hd : decode cc pc = .ok (.isub, 1)) (hn : pc + 1 = nx) (kk : x_F K n9 ex nx ls (.int (ii (x - y)) :: st) X kc ks) : x_F K n9 ex pc ls (.int (ii y) :: .int (ii x) :: st) X kc ks := by
  subst hn
  intro H locs arr w S hl
  have hx := C.1
  have hb := C.2.1
  refine lv_isub (x := ii x) (y := ii y) hx hb hd ?_
  rw [ii_sub]
  exact kk H locs arr w S hl
theorem f_iand (C : x_FC K cc n9 own) (nx : Nat) {x y : Int32} (hd : decode cc pc = .ok (.iand, 1)) (hn : pc + 1 = nx) (kk : x_F K n9 ex nx ls (.int (x &&& y) :: st) X kc ks) : x_F K n9 ex pc ls (.int y :: .int x :: st) X kc ks := by
  subst hn
  intro H locs arr w S hl
  have hx := C.1
  have hb := C.2.1
  exact lv_iand hx hb hd (kk H locs arr w S hl)
theorem f_i2l (C : x_FC K cc n9 own) (nx : Nat) {x : Int} (hd : decode cc pc = .ok (.i2l, 1)) (hn : pc + 1 = nx) (hr : xr x) (kk : x_F K n9 ex nx ls (.long (ll x) :: st) X kc ks) : x_F K n9 ex pc ls (.int (ii x) :: st) X kc ks := by
  subst hn
  intro H locs arr w S hl
  have hx := C.1
  have hb := C.2.1
  exact lv_i2l hx hb hd (ii_i2l hr) (kk H locs arr w S hl)
theorem f_lcmp (C : x_FC K cc n9 own) (nx : Nat) {x y : Int64} (hd : decode cc pc = .ok (.lcmp, 1)) (hn : pc + 1 = nx) (kk : x_F K n9 ex nx ls (.int (lg_cmp x y) :: st) X kc ks) : x_F K n9 ex pc ls (.long y :: .long x :: st) X kc ks := by
  subst hn
  intro H locs arr w S hl
  have hx := C.1
  have hb := C.2.1
  exact W.lcmp hx hb hd (kk H locs arr w S hl)
theorem f_dup (C : x_FC K cc n9 own) (nx : Nat) {v : Value} (hd : decode cc pc = .ok (.dup, 1)) (hn : pc + 1 = nx) (hc : v.category = 1) (kk : x_F K n9 ex nx ls (v :: v :: st) X kc ks) : x_F K n9 ex pc ls (v :: st) X kc ks := by
  subst hn
  intro H locs arr w S hl
  have hx := C.1
  have hb := C.2.1
  exact lv_dup hx hb hd ((x_v_cat (kB K) v).trans hc) (kk H locs arr w S hl)
theorem f_pop (C : x_FC K cc n9 own) (nx : Nat) {v : Value} (hd : decode cc pc = .ok (.pop, 1)) (hn : pc + 1 = nx) (hc : v.category = 1) (kk : x_F K n9 ex nx ls st X kc ks) : x_F K n9 ex pc ls (v :: st) X kc ks := by
  subst hn
  intro H locs arr w S hl
  have hx := C.1
  have hb := C.2.1
  exact lv_pop hx hb hd ((x_v_cat (kB K) v).trans hc) (kk H locs arr w S hl)
theorem f_goto (C : x_FC K cc n9 own) (tg : Nat) {off : Int} (hd : decode cc pc = .ok (.goto off, 3)) (ht : (pc : Int) + off = (tg : Int)) (kk : x_F K n9 ex tg ls st X kc ks) : x_F K n9 ex pc ls st X kc ks := by
  intro H locs arr w S hl
  have hx := C.1
  have hb := C.2.1
  exact lv_goto hx hb hd ht (kk H locs arr w S hl)
theorem f_icmp_eq (C : x_FC K cc n9 own) (tg nx : Nat) {x y : Int} {off : Int} (hd : decode cc pc = .ok (.if_icmp .eq off, 3)) (ht : (pc : Int) + off = (tg : Int)) (hn : pc + 3 = nx) (hrx : xr x) (hry : xr y) (kt : x = y → x_F K n9 ex tg ls st X kc ks) (kf : ¬ x = y → x_F K n9 ex nx ls st X kc ks) : x_F K n9 ex pc ls (.int (ii y) :: .int (ii x) :: st) X kc ks := by
  subst hn
  intro H locs arr w S hl
  have hx := C.1
  have hb := C.2.1
  exact lv_icmp_eq hx hb hd ht (fun h => kt ((ii_eq hrx hry).mp h) H locs arr w S hl) (fun h => kf (fun q => h ((ii_eq hrx hry).mpr q)) H locs arr w S hl)
theorem f_if_eq (C : x_FC K cc n9 own) (tg nx : Nat) {x : Int} {off : Int} (hd : decode cc pc = .ok (.ifCond .eq off, 3)) (ht : (pc : Int) + off = (tg : Int)) (hn : pc + 3 = nx) (hrx : xr x) (kt : x = 0 → x_F K n9 ex tg ls st X kc ks) (kf : ¬ x = 0 → x_F K n9 ex nx ls st X kc ks) : x_F K n9 ex pc ls (.int (ii x) :: st) X kc ks := by
  subst hn
  intro H locs arr w S hl
  have hx := C.1
  have hb := C.2.1
  exact lv_if_eq hx hb hd ht (fun h => kt ((ii_eq hrx xr_0).mp h) H locs arr w S hl) (fun h => kf (fun q => h ((ii_eq hrx xr_0).mpr q)) H locs arr w S hl)
theorem f_icmp_ne (C : x_FC K cc n9 own) (tg nx : Nat) {x y : Int} {off : Int} (hd : decode cc pc = .ok (.if_icmp .ne off, 3)) (ht : (pc : Int) + off = (tg : Int)) (hn : pc + 3 = nx) (hrx : xr x) (hry : xr y) (kt : ¬ x = y → x_F K n9 ex tg ls st X kc ks) (kf : x = y → x_F K n9 ex nx ls st X kc ks) : x_F K n9 ex pc ls (.int (ii y) :: .int (ii x) :: st) X kc ks := by
  subst hn
  intro H locs arr w S hl
  have hx := C.1
  have hb := C.2.1
  exact lv_icmp_ne hx hb hd ht (fun h => kt (fun q => h ((ii_eq hrx hry).mpr q)) H locs arr w S hl) (fun h => kf ((ii_eq hrx hry).mp h) H locs arr w S hl)
theorem f_if_ne (C : x_FC K cc n9 own) (tg nx : Nat) {x : Int} {off : Int} (hd : decode cc pc = .ok (.ifCond .ne off, 3)) (ht : (pc : Int) + off = (tg : Int)) (hn : pc + 3 = nx) (hrx : xr x) (kt : ¬ x = 0 → x_F K n9 ex tg ls st X kc ks) (kf : x = 0 → x_F K n9 ex nx ls st X kc ks) : x_F K n9 ex pc ls (.int (ii x) :: st) X kc ks := by
  subst hn
  intro H locs arr w S hl
  have hx := C.1
  have hb := C.2.1
  exact lv_if_ne hx hb hd ht (fun h => kt (fun q => h ((ii_eq hrx xr_0).mpr q)) H locs arr w S hl) (fun h => kf ((ii_eq hrx xr_0).mp h) H locs arr w S hl)
theorem f_icmp_gt (C : x_FC K cc n9 own) (tg nx : Nat) {x y : Int} {off : Int} (hd : decode cc pc = .ok (.if_icmp .gt off, 3)) (ht : (pc : Int) + off = (tg : Int)) (hn : pc + 3 = nx) (hrx : xr x) (hry : xr y) (kt : y < x → x_F K n9 ex tg ls st X kc ks) (kf : x ≤ y → x_F K n9 ex nx ls st X kc ks) : x_F K n9 ex pc ls (.int (ii y) :: .int (ii x) :: st) X kc ks := by
  subst hn
  intro H locs arr w S hl
  have hx := C.1
  have hb := C.2.1
  exact lv_icmp_gt hx hb hd ht (fun h => kt ((ii_lt hry hrx).mp h) H locs arr w S hl) (fun h => kf (Int.not_lt.mp (fun q => h ((ii_lt hry hrx).mpr q))) H locs arr w S hl)
theorem f_icmp_ge (C : x_FC K cc n9 own) (tg nx : Nat) {x y : Int} {off : Int} (hd : decode cc pc = .ok (.if_icmp .ge off, 3)) (ht : (pc : Int) + off = (tg : Int)) (hn : pc + 3 = nx) (hrx : xr x) (hry : xr y) (kt : y ≤ x → x_F K n9 ex tg ls st X kc ks) (kf : x < y → x_F K n9 ex nx ls st X kc ks) : x_F K n9 ex pc ls (.int (ii y) :: .int (ii x) :: st) X kc ks := by
  subst hn
  intro H locs arr w S hl
  have hx := C.1
  have hb := C.2.1
  exact lv_icmp_ge hx hb hd ht (fun h => kt ((ii_le hry hrx).mp h) H locs arr w S hl) (fun h => kf (Int.not_le.mp (fun q => h ((ii_le hry hrx).mpr q))) H locs arr w S hl)
theorem f_icmp_lt (C : x_FC K cc n9 own) (tg nx : Nat) {x y : Int} {off : Int} (hd : decode cc pc = .ok (.if_icmp .lt off, 3)) (ht : (pc : Int) + off = (tg : Int)) (hn : pc + 3 = nx) (hrx : xr x) (hry : xr y) (kt : x < y → x_F K n9 ex tg ls st X kc ks) (kf : y ≤ x → x_F K n9 ex nx ls st X kc ks) : x_F K n9 ex pc ls (.int (ii y) :: .int (ii x) :: st) X kc ks := by
  subst hn
  intro H locs arr w S hl
  have hx := C.1
  have hb := C.2.1
  exact lv_icmp_lt hx hb hd ht (fun h => kt ((ii_lt hrx hry).mp h) H locs arr w S hl) (fun h => kf (Int.not_lt.mp (fun q => h ((ii_lt hrx hry).mpr q))) H locs arr w S hl)
theorem f_icmp_le (C : x_FC K cc n9 own) (tg nx : Nat) {x y : Int} {off : Int} (hd : decode cc pc = .ok (.if_icmp .le off, 3)) (ht : (pc : Int) + off = (tg : Int)) (hn : pc + 3 = nx) (hrx : xr x) (hry : xr y) (kt : x ≤ y → x_F K n9 ex tg ls st X kc ks) (kf : y < x → x_F K n9 ex nx ls st X kc ks) : x_F K n9 ex pc ls (.int (ii y) :: .int (ii x) :: st) X kc ks := by
  subst hn
  intro H locs arr w S hl
  have hx := C.1
  have hb := C.2.1
  exact lv_icmp_le hx hb hd ht (fun h => kt ((ii_le hrx hry).mp h) H locs arr w S hl) (fun h => kf (Int.not_le.mp (fun q => h ((ii_le hrx hry).mpr q))) H locs arr w S hl)
theorem f_table (C : x_FC K cc n9 own) (tg : Nat) {x dflt lo hi off : Int} {offs : Array Int} {len : Nat} (hd : decode cc pc = .ok (.tableswitch dflt lo hi offs, len)) (hx : xr x) (h1 : lo ≤ x) (h2 : x ≤ hi) (ho : offs[(x - lo).toNat]? = some off) (ht : (pc : Int) + off = (tg : Int)) (kk : x_F K n9 ex tg ls st X kc ks) : x_F K n9 ex pc ls (.int (ii x) :: st) X kc ks := by
  intro H locs arr w S hl
  have e9 := ii_toInt hx
  exact lv_tableIn C.1 C.2.1 hd (by rw [e9]; omega) (by rw [e9]; omega) (by rw [e9]; exact ho) ht (kk H locs arr w S hl)
theorem f_tableO (C : x_FC K cc n9 own) (tg : Nat) {x dflt lo hi : Int} {offs : Array Int} {len : Nat} (hd : decode cc pc = .ok (.tableswitch dflt lo hi offs, len)) (hx : xr x) (h1 : x < lo ∨ hi < x) (ht : (pc : Int) + dflt = (tg : Int)) (kk : x_F K n9 ex tg ls st X kc ks) : x_F K n9 ex pc ls (.int (ii x) :: st) X kc ks := by
  intro H locs arr w S hl
  have e9 := ii_toInt hx
  exact lv_tableOut C.1 C.2.1 hd (by rw [e9]; exact h1) ht (kk H locs arr w S hl)
theorem f_laload (C : x_FC K cc n9 own) (nx : Nat) {a n : Nat} {x : Int} (hd : decode cc pc = .ok (.laload, 1)) (hn : pc + 1 = nx) (ha : a < xN X) (hs : xF X a = .inl (2, n)) (h0 : 0 ≤ x) (h1 : x < n) (h2 : n < 2147483648)
    (kk : x_F K n9 ex nx ls (.long (ll (xM X a x)) :: st) X kc ks) : x_F K n9 ex pc ls (.int (ii x) :: .ref a :: st) X kc ks := by
  subst hn
  intro H locs arr w S hl
  have he : (x_wl (kB K) (kG K) X)[a]? = some (kB K + a, .inl ((kG K).2 2, n, .inr (.inl fun j => ll (xM X a j)))) := by rw [x_wl_at ha, hs]; rfl
  refine va_lald C.1 C.2.1 C.2.2.2.2.2.1.1 w.1 a 2 he rfl (ii_in h0 h1 h2) hd ?_
  have := kk H locs arr w S hl
  rw [x_ix h0 (by omega)]
  exact this
theorem f_lastore (C : x_FC K cc n9 own) (nx : Nat) {a n : Nat} {x v : Int} (hd : decode cc pc = .ok (.lastore, 1)) (hn : pc + 1 = nx) (ha : a < xN X) (hs : xF X a = .inl (2, n)) (h0 : 0 ≤ x) (h1 : x < n) (h2 : n < 2147483648)
    (kk : x_F K n9 ex nx ls st (xSet X (xu (xM X) a x v)) kc ks) : x_F K n9 ex pc ls (.long (ll v) :: .int (ii x) :: .ref a :: st) X kc ks := by
  subst hn
  intro H locs arr w S hl
  have hK := C.2.2.2.2.2.1.1
  have he : (x_wl (kB K) (kG K) X)[a]? = some (kB K + a, .inl ((kG K).2 2, n, .inr (.inl fun j => ll (xM X a j)))) := by rw [x_wl_at ha, hs]; rfl
  have hcell : H[kB K + a]? = some (vp_cell ((kG K).2 2) (n, .inr (.inl fun j => ll (xM X a j)))) := w.1 a _ he
  refine W.last C.1 C.2.1 hcell ((hK.2 2 _ rfl).1 n (fun j => .long (ll (xM X a j)))) (fun q => by cases q) (by show ¬ ((ii x) < 0 ∨ (arrV _ _ _).slots.size ≤ _); rw [arrV_size]; exact ii_in h0 h1 h2) rfl rfl hd fun H1 e9 z oq => ?_
  have hat : va_at (kG K).1 vwCl (kB K + a, x_cell (kB K) (kG K) (xF X a) (fun i => if i = x then v else xM X a i)) H1 := by
    rw [hs]
    show H1[kB K + a]? = some (vp_cell _ (n, .inr (.inl _)))
    rw [e9, vp_cell_l, vp_cell_l, arrV_store, x_updL, x_ix h0 (by omega)]
  have hP2 := va_P.set w.1 x_D he hat oq
  rw [x_setM ha rfl] at hP2
  exact kk H1 _ arr ⟨hP2, fun h => z.trans (w.2 h)⟩ (S.put z oq (Nat.le_add_right (kB K) a)) hl
theorem f_drop (ls' : List (Option Value)) (hs : ∀ (k : Nat) (u : Value), ls'[k]? = some (some u) → ls[k]? = some (some u)) (kk : x_F K n9 ex pc ls' st X kc ks) : x_F K n9 ex pc ls st X kc ks := by
  intro H locs arr w S hl
  refine kk H locs arr w S ⟨hl.1, hl.2.1, fun q hq => ?_⟩
  rcases List.mem_append.mp hq with e | e
  · exact hl.2.2 q (List.mem_append_left _ e)
  · obtain ⟨k, u, h1, h2⟩ := (x_ls_mem _ 0).mp e
    exact hl.2.2 q (List.mem_append_right _ ((x_ls_mem _ 0).mpr ⟨k, u, hs k u h1, h2⟩))
theorem f_callB {M' : x_MT} {idx n mc' ms' : Nat} (C : x_FC K cc n9 own) (ok' : x_MOk M') (hl : Cond.methodLink own idx (mY M') ∈ tb0) (hn : (parseMethodDescriptor (mY M').desc).map (fun d => d.parameters.length) = some n) (hfr : mFr M' + 1 ≤ (kR K).frames) (hlo : 8 + (mL M' + 11) + mLo M' ≤ (kR K).locals) :
    CallB (kR K) (kS K) (kA K) own idx (mY M') (mCode M') (mL M') (mRet M') (x_ws M') (x_rm M' mc' ms') mc' ms' n := by
  have hts := C.2.2.2.2.1
  refine ⟨rfl, rfl, hfr, hlo, pay_in hts (fun w hw => ?_), List.mem_cons_self, hts _ ok'.2.1, hts _ ok'.2.2.2.2.1, ok'.2.2.2.2.2, fun sig h => ?_, hts _ hl⟩
  · rcases List.mem_cons.mp hw with rfl | h
    · exact ⟨ok'.2.1, (tb0_good _ ok'.2.1).2⟩
    · exact tb0_good w h
  · rw [h] at hn
    exact (Option.some.inj hn).symm
theorem f_fix (C : x_FC K cc n9 own) : CallFix (kP K) (kM K) (kC K) cc n9 (kS K) (kA K) tb0 own := ⟨C.1, C.2.1, C.2.2.1, C.2.2.2.1, C.2.2.2.2.1⟩
theorem f_pre {av : List Value} {H : Heap} {locs : List Loc} (C : x_FC K cc n9 own) (w : x_W (kB K) (kG K) X H) (S : va_S (x_A (kB K)) (kS K).heap H locs) : PreS (kS K) H (x_Pc (kB K) (kG K) av X) (av.map (x_v (kB K))) :=
  ⟨x_blind, fun U hU hW => ⟨rfl, by rw [hU]; exact w, C.2.2.2.2.2.1.moved hW (by rw [hU]; exact S.1) (fun q h1 h2 => by rw [hU]; exact S.2.1 q h1 h2)⟩⟩
theorem f_runV {M' : x_MT} {idx n b ci mc' ms' : Nat} {r : vw_C} {fs : List (Option (Option Nat))} {av rest : List Value} {o' : xO} {X' : xS} {H : Heap} {locs : List Loc} {arr : Array Slot} (C : x_FC K cc n9 own) (w : x_W (kB K) (kG K) X H) (S : va_S (x_A (kB K)) (kS K).heap H locs) (hl : lv_has arr n9 (ex ++ x_ls (kB K) 0 ls)) (hd : decode cc pc = .ok (.invokevirtual idx, 3)) (ok' : x_MOk M') (cv : x_CV own M' idx n) (hfr : mFr M' + 1 ≤ (kR K).frames) (hlo : 8 + (mL M' + 11) + mLo M' ≤ (kR K).locals)
    (hb : b < xN X) (hs : xF X b = .inr (.inr (ci, fs))) (hc : vwCl[ci]? = some r) (hrn : r.1 = mOwn M') (hn : av.length = n) (hrest : (rest.map fun v => v.category).sum ≤ 8) (hcc : kc + mc' ≤ (kR K).cells) (hss : ks + ms' ≤ (kR K).slots) (sp : x_Sp M' mc' ms' (.ref b :: av) X o' X') :
    vx_Run (kP K) (kL K) (kE K) (kR K) (kS K) (kM K) (kA K) (kW K) (kH K) (kC K) H locs kc ks mc' ms' (F0 (kM K) pc arr ((av.reverse ++ .ref b :: rest).map (x_v (kB K)))) (rest.map (x_v (kB K))) (x_Qc (kB K) (kG K) o' X' (Value.ref (kB K + b) :: av.map (x_v (kB K))).toArray) (x_XC (kB K) (kG K) o' X') (x_A (kB K)) := by
  have hts := C.2.2.2.2.1
  have he : (x_wl (kB K) (kG K) X)[b]? = some (kB K + b, .inr (ci, x_obj (kB K) fs (xM X b))) := by rw [x_wl_at hb, hs]; rfl
  have hrec := va_recv C.2.2.2.2.2.1.1 w.1 hc he
  rw [hrn] at hrec
  obtain ⟨q1, q2⟩ := f_pre (av := .ref b :: av) C w S
  refine vx_runV (As := av.map (x_v (kB K))) (f_fix C) (sp (kL K) (kG K) (kB K) C.2.2.2.2.2.2) (C := mOwn M') ⟨f_callB C ok' cv.1 cv.2.2.2 hfr hlo, hts _ cv.2.1, hts _ cv.2.2.1⟩ ⟨q1, hrec, q2⟩ rfl (by rw [List.length_map]; exact hn) hl.1 (by simp [x_v]) (lv_room (by rw [x_cats]; exact hrest)) hd ⟨hcc, hss⟩
theorem f_callV (C : x_FC K cc n9 own) (nx : Nat) {M' : x_MT} {idx n b ci mc' ms' : Nat} {r : vw_C} {fs : List (Option (Option Nat))} {av rest : List Value} {v : Option Value} {X' : xS} (sp : x_Sp M' mc' ms' (.ref b :: av) X (.inl v) X') (ok' : x_MOk M') (cv : x_CV own M' idx n) (hfr : mFr M' + 1 ≤ (kR K).frames) (hlo : 8 + (mL M' + 11) + mLo M' ≤ (kR K).locals) (hd : decode cc pc = .ok (.invokevirtual idx, 3)) (hn : pc + 3 = nx)
    (hb : b < xN X) (hs : xF X b = .inr (.inr (ci, fs))) (hc : vwCl[ci]? = some r) (hrn : r.1 = mOwn M') (hst : st = av.reverse ++ .ref b :: rest) (hnn : av.length = n) (hrest : (rest.map fun v => v.category).sum ≤ 8) (hcc : kc + mc' ≤ (kR K).cells) (hss : ks + ms' ≤ (kR K).slots)
    (kk : x_F K n9 ex nx ls (v.toList ++ rest) X' (kc + mc') (ks + ms')) : x_F K n9 ex pc ls st X kc ks := by
  subst hn
  subst hst
  intro H locs arr w S hl
  intro T hT X0
  rcases f_runV C w S hl hd ok' cv hfr hlo hb hs hc hrn hnn hrest hcc hss sp T hT X0 with ⟨v', st₀, t, T', L, h0, X', hL, e1, e2, ⟨⟨v2, hv2, hv⟩, hw, hF⟩, st⟩ | ⟨q, st₀, t, T', L, E, ce, h0, X', hL, e1, e2, ⟨hx, -⟩, -⟩
  · cases hv2
    cases hv
    obtain ⟨k1, k2, k3⟩ := vx_keep h0 e1 S (fun q _ h => h) (fun q h => h) hL hF
    obtain ⟨t2, a1, b1⟩ := kk T'.heap (locs ++ L) arr (by rw [e1]; exact hw) k3 hl T' rfl X'
    refine ⟨t2, st t2 ?_, b1⟩
    have es : (Option.map (x_v (kB K)) v).toList ++ rest.map (x_v (kB K)) = (v.toList ++ rest).map (x_v (kB K)) := by cases v <;> simp
    rw [es]
    exact a1
  · cases hx
/-- a call that throws, caught by the row x of this method's table, which drops the exception -/
theorem f_callX (C : x_FC K cc n9 own) {i hp nx : Nat} {M' : x_MT} {idx n b ci mc' ms' : Nat} {r : vw_C} {fs : List (Option (Option Nat))} {av rest : List Value} {E : String} {X' : xS} (pre : List ExceptionTableEntry) (x : ExceptionTableEntry) (suf : List ExceptionTableEntry) (hsplit : (kC K).exceptionTable.toList = pre ++ x :: suf)
    (hpass : ∀ z ∈ pre, covers z pc = false ∨ (z.catchType ≠ 0 ∧ ∃ nm : String, (Cond.classLink own z.catchType nm).before (kA K) (kS K) = true ∧ va_Nc E nm (kS K))) (hxc : covers x pc = true) (h0 : x.catchType ≠ 0) (hlink : (Cond.classLink own x.catchType E).before (kA K) (kS K) = true) (hcast : (Cond.castable E E).before (kA K) (kS K) = true) (hhp : x.handlerPc = hp)
    (sp : x_Sp M' mc' ms' (.ref b :: av) X (.inr E) X') (ok' : x_MOk M') (cv : x_CV own M' idx n) (hfr : mFr M' + 1 ≤ (kR K).frames) (hlo : 8 + (mL M' + 11) + mLo M' ≤ (kR K).locals) (hd : decode cc pc = .ok (.invokevirtual idx, 3))
    (hda : (∃ j : Fin 4, (j : Nat) = i ∧ decode cc hp = .ok (.astore_n j, 1) ∧ hp + 1 = nx) ∨ (decode cc hp = .ok (.astore i, 2) ∧ hp + 2 = nx)) (hi : i < n9) (hex : exOk ex i = true)
    (hb : b < xN X) (hs : xF X b = .inr (.inr (ci, fs))) (hc : vwCl[ci]? = some r) (hrn : r.1 = mOwn M') (hst : st = av.reverse ++ .ref b :: rest) (hnn : av.length = n) (hrest : (rest.map fun v => v.category).sum ≤ 8) (hcc : kc + mc' ≤ (kR K).cells) (hss : ks + ms' ≤ (kR K).slots)
    (kk : x_F K n9 ex nx (x_st0 ls i) [] X' (kc + mc') (ks + ms')) : x_F K n9 ex pc ls st X kc ks := by
  subst hst
  subst hhp
  intro H locs arr w S hl
  intro T hT X0
  rcases f_runV C w S hl hd ok' cv hfr hlo hb hs hc hrn hnn hrest hcc hss sp T hT X0 with ⟨v', st₀, t, T', L, h0', X', hL, e1, e2, ⟨⟨v2, hv2, hv⟩, -⟩, -⟩ | ⟨q, st₀, t, T', L, E', ce, h0', X', hL, e1, e2, ⟨hx, hw, hF⟩, hce, hcv, hcl, st⟩
  · cases hv2
  · cases hx
    obtain ⟨k1, k2, k3⟩ := vx_keep h0' e1 S (fun q _ h => h) (fun q h => h) hL hF
    have kW9 : W (kP K) (kL K) (kE K) (kR K) (kS K) (kM K) (kA K) (kW K) (kH K) (kC K) T'.heap (locs ++ L) (kc + mc') (ks + ms') (kQ K) (F0 (kM K) x.handlerPc arr [.ref q]) := by
      rcases hda with ⟨j, hj, hd2, hn2⟩ | ⟨hd2, hn2⟩
      · subst hn2
        exact lv_astore_n C.1 C.2.1 hd2 hj hl hi rfl (fun ls2 h2 => kk T'.heap (locs ++ L) ls2 (by rw [e1]; exact hw) k3 (f_set0 hex h2))
      · subst hn2
        exact lv_astore C.1 C.2.1 hd2 hl hi rfl (fun ls2 h2 => kk T'.heap (locs ++ L) ls2 (by rw [e1]; exact hw) k3 (f_set0 hex h2))
    obtain ⟨t2, a1, b1⟩ := vx_catch (own := own) (name := E) (E := E) (pc := pc) (ls := arr) (rest := rest.map (x_v (kB K))) C.2.2.2.1 pre x suf hsplit hpass hxc h0 hlink hcast (by rw [e1]; exact hce) hcv hcl kW9 T' rfl X'
    exact ⟨t2, st.trans a1, b1⟩
end XFF
