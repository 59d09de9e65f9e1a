/-! ===== numbers: ints and longs as images of whole numbers ===== -/
abbrev ii (x : Int) : Int32 := Int32.ofInt x
abbrev ll (x : Int) : Int64 := Int64.ofInt x
def xr (x : Int) : Prop := -2147483648 ≤ x ∧ x < 2147483648
theorem ii_toInt {x : Int} (h : xr x) : (ii x).toInt = x := by
  unfold xr at h
  rw [Int32.toInt_ofInt]
  show x.bmod 4294967296 = x
  rw [Int.bmod_def]
  omega
theorem ii_of (x : Int32) : ii x.toInt = x := Int32.ofInt_toInt x
theorem xr_of (x : Int32) : xr x.toInt := ⟨Int32.le_toInt x, Int32.toInt_lt x⟩
theorem ii_add (x y : Int) : ii x + ii y = ii (x + y) := (Int32.ofInt_add x y).symm
theorem ii_sub (x y : Int) : ii x - ii y = ii (x - y) := (Int32.ofInt_sub x y).symm
theorem ii_mul (x y : Int) : ii x * ii y = ii (x * y) := (Int32.ofInt_mul x y).symm
theorem ii_eq {x y : Int} (hx : xr x) (hy : xr y) : ii x = ii y ↔ x = y := by
  constructor
  · intro h
    have := congrArg Int32.toInt h
    rwa [ii_toInt hx, ii_toInt hy] at this
  · intro h; rw [h]
theorem ii_lt {x y : Int} (hx : xr x) (hy : xr y) : ii x < ii y ↔ x < y := by rw [Int32.lt_iff_toInt_lt, ii_toInt hx, ii_toInt hy]
theorem ii_le {x y : Int} (hx : xr x) (hy : xr y) : ii x ≤ ii y ↔ x ≤ y := by rw [Int32.le_iff_toInt_le, ii_toInt hx, ii_toInt hy]
theorem ii_0 : (0 : Int32) = ii 0 := rfl
theorem xr_0 : xr 0 := by unfold xr; omega
theorem ii_clamp {x : Int} (h0 : 0 ≤ x) (h : x < 2147483648) : (ii x).toNatClampNeg = x.toNat := by
  have : (ii x).toInt = x := ii_toInt ⟨by omega, h⟩
  show (ii x).toInt.toNat = _
  rw [this]
theorem ii_in {x : Int} {n : Nat} (h0 : 0 ≤ x) (h : x < n) (hn : n < 2147483648) : vp_in (ii x) n := by
  rw [vp_in_iff, ii_toInt ⟨by omega, by omega⟩]
  exact ⟨h0, h⟩
theorem ii_nat (n : Nat) : Int32.ofNat n = ii n := rfl
theorem ii_i2l {x : Int} (h : xr x) : (ii x).toInt64 = ll x := by
  apply Int64.toInt_inj.mp
  rw [Int32.toInt_toInt64, ii_toInt h, Int64.toInt_ofInt]
  unfold xr at h
  show x = x.bmod 18446744073709551616
  rw [Int.bmod_def]
  omega
theorem ll_add (x y : Int) : ll x + ll y = ll (x + y) := (Int64.ofInt_add x y).symm
theorem ll_mul (x y : Int) : ll x * ll y = ll (x * y) := (Int64.ofInt_mul x y).symm
/-! ===== the pure world ===== -/
abbrev xG : Type := va_G × (Nat → ClassId)
/-- a cell's form: an array of numbers (kind, length), an array of references (kind, what it holds), an object (class, fields: none for a number, some for a reference) -/
abbrev xShp : Type := (Nat × Nat) ⊕ ((Nat × List (Option Nat)) ⊕ (Nat × List (Option (Option Nat))))
abbrev xSig : Type := Nat → Int → Int
/-- cells, their forms, their numbers, whether the heap's size is known -/
abbrev xS : Type := Nat × (Nat → xShp) × xSig × Bool
abbrev xN (X : xS) : Nat := X.1
abbrev xF (X : xS) : Nat → xShp := X.2.1
abbrev xM (X : xS) : xSig := X.2.2.1
abbrev xB (X : xS) : Bool := X.2.2.2
abbrev xO : Type := Option Value ⊕ String
def x_v (base : Nat) : Value → Value
  | .ref a => .ref (base + a)
  | v => v
def x_rf (base : Nat) : Option Nat → Value
  | none => .null
  | some b => .ref (base + b)
def x_fld (base : Nat) (m : Int → Int) (j : Nat) : Option (Option Nat) → Value
  | none => .int (ii (m j))
  | some r => x_rf base r
def x_arr (k n : Nat) (m : Int → Int) : vp_A := if k = 2 then (n, .inr (.inl fun j => ll (m j))) else (n, .inl fun j => ii (m j))
def x_rarr (base : Nat) (rs : List (Option Nat)) : vp_A := (rs.length, .inr (.inr (.inr (.inr fun j => (rs.getD j none).map (fun b => base + b)))))
def x_obj (base : Nat) (fs : List (Option (Option Nat))) (m : Int → Int) : List Value := (List.range fs.length).map fun j => x_fld base m j (fs.getD j none)
def x_cell (base : Nat) (G : xG) (s : xShp) (m : Int → Int) : va_E := match s with
  | .inl q => bif Nat.beq q.1 9 then .inl (G.2 2, (q.2, .inr (.inl fun _ => Int64.ofNat (G.2 9)))) else .inl (G.2 q.1, x_arr q.1 q.2 m)
  | .inr (.inl q) => .inl (G.2 q.1, x_rarr base q.2)
  | .inr (.inr q) => .inr (q.1, x_obj base q.2 m)
theorem x_cellA {base : Nat} {G : xG} {kd n : Nat} {m : Int → Int} (h : kd ≠ 9) : x_cell base G (.inl (kd, n)) m = .inl (G.2 kd, x_arr kd n m) := by
  have e : Nat.beq kd 9 = false := by
    cases e2 : Nat.beq kd 9
    · rfl
    · exact absurd (Nat.eq_of_beq_eq_true e2) h
  unfold x_cell
  show (bif Nat.beq kd 9 then _ else _) = _
  rw [e]
  rfl
def o9 (v : Int64) : Nat := v.toBitVec.toNat
theorem o9_of (v : Int64) : Int64.ofNat (o9 v) = v := by
  show Int64.ofBitVec (BitVec.ofNat 64 v.toBitVec.toNat) = v
  rw [BitVec.ofNat_toNat, BitVec.setWidth_eq]
  exact Int64.ofBitVec_toBitVec v
def x_wl (base : Nat) (G : xG) (X : xS) : va_W := (List.range (xN X)).map fun a => (base + a, x_cell base G (xF X a) (xM X a))
def x_tys (G : xG) : List (ClassId × FieldType) := [(G.2 0, .int), (G.2 1, .boolean), (G.2 2, .long), (G.2 3, .object "Shardmoor$Value"), (G.2 4, .object "Shardmoor$Filter")]
def x_W (base : Nat) (G : xG) (X : xS) (H : Heap) : Prop := va_P G.1 vwCl (x_wl base G X) H ∧ (xB X = true → H.size = base + xN X)
abbrev x_A (base : Nat) : Nat → Prop := fun q => base ≤ q
theorem x_wl_at {base : Nat} {G : xG} {X : xS} {a : Nat} (h : a < xN X) : (x_wl base G X)[a]? = some (base + a, x_cell base G (xF X a) (xM X a)) := by
  simp [x_wl, h]
theorem x_wl_at' {base : Nat} {G : xG} {X : xS} {k : Nat} {q : Nat × va_E} (h : (x_wl base G X)[k]? = some q) : k < xN X ∧ q = (base + k, x_cell base G (xF X k) (xM X k)) := by
  have hk : k < (x_wl base G X).length := (List.getElem?_eq_some_iff.mp h).1
  have hk' : k < xN X := by simpa [x_wl] using hk
  refine ⟨hk', ?_⟩
  rw [x_wl_at hk'] at h
  exact (Option.some.inj h).symm
theorem x_D {base : Nat} {G : xG} {X : xS} : va_D (x_A base) (x_wl base G X) := by
  refine ⟨fun i j p q hi hj hpq => ?_, fun k q hk => ?_⟩
  · obtain ⟨-, rfl⟩ := x_wl_at' hi
    obtain ⟨-, rfl⟩ := x_wl_at' hj
    have : base + i = base + j := hpq
    omega
  · obtain ⟨-, rfl⟩ := x_wl_at' hk
    exact Nat.le_add_right base k
/-- the numbers of one cell changed -/
def xu (σ : xSig) (a : Nat) (j v : Int) : xSig := fun b i => if b = a ∧ i = j then v else σ b i
theorem xu_same (σ : xSig) (a : Nat) (j v : Int) : xu σ a j v a j = v := by simp [xu]
theorem xu_ne (σ : xSig) {a b : Nat} {j i v : Int} (h : b ≠ a ∨ i ≠ j) : xu σ a j v b i = σ b i := by
  unfold xu
  rw [if_neg]
  rintro ⟨h1, h2⟩
  rcases h with h | h
  · exact h h1
  · exact h h2
/-- the numbers of the world changed -/
abbrev xSet (X : xS) (σ : xSig) : xS := (xN X, xF X, σ, xB X)
/-- a world's cell a is another, the others are as they were -/
theorem x_wl_set {base : Nat} {G : xG} {X Y : xS} {a : Nat} (ha : a < xN X) (hn : xN Y = xN X) (ho : ∀ b, b ≠ a → x_cell base G (xF Y b) (xM Y b) = x_cell base G (xF X b) (xM X b)) :
    x_wl base G Y = (x_wl base G X).set a (base + a, x_cell base G (xF Y a) (xM Y a)) := by
  apply List.ext_getElem?
  intro k
  by_cases hk : k < xN X
  · rw [x_wl_at (by rw [hn]; exact hk)]
    by_cases hka : k = a
    · subst hka
      rw [List.getElem?_set_self (by simpa [x_wl] using hk)]
    · rw [List.getElem?_set_ne (Ne.symm hka), x_wl_at hk, ho k hka]
  · have h1 : (x_wl base G Y)[k]? = none := by
      rw [List.getElem?_eq_none_iff]; simp [x_wl, hn]; omega
    have h2 : ((x_wl base G X).set a (base + a, x_cell base G (xF Y a) (xM Y a)))[k]? = none := by
      rw [List.getElem?_eq_none_iff]; simp [x_wl]; omega
    rw [h1, h2]
/-! the words that need more than the tables -/
abbrev x_U : String := "UNASSIGNED_STACK"
abbrev x_Z : String := "SUPPRESSED_SENTINEL"
def x_PX (G : xG) (base : Nat) (U : State) : Prop := va_K G.1 vwCl (x_tys G) U ∧ (∀ w ∈ x_nw, va_Nw w U) ∧ (∀ q ∈ x_strs, ∃ sa, vk_R q.1 q.2.1 q.2.2 sa U) ∧
  vx_Zq Bundle.tN x_U Bundle.steD (x_A base) U U.heap ∧ vx_Zq Bundle.tN x_Z Bundle.listD (x_A base) U U.heap ∧ va_AO "Shardmoor$Value" U ∧ va_AO "Shardmoor$Filter" U ∧ base ≤ U.heap.size
theorem x_PX.moved {G : xG} {base : Nat} {s U : State} (h : x_PX G base s) (hW : s.WarmedH U.vm) (hz : s.heap.size ≤ U.heap.size) (ho : ∀ q : Nat, q < s.heap.size → ¬ x_A base q → U.heap[q]? = s.heap[q]?) : x_PX G base U := by
  obtain ⟨h1, h2, h3, h4, h5, h6, h7, h8⟩ := h
  refine ⟨h1.moved hW.alike, fun w hw => ?_, fun q hq => ?_, (h4.kept ho).moved hW.alike, (h5.kept ho).moved hW.alike, h6.moved hW.alike, h7.moved hW.alike, by omega⟩
  · have hg := (List.mem_filter.mp hw).2
    have hs := h2 w hw
    cases w <;> first | exact va_Nw.warmF hW hs | exact va_Nw.warmM hW hs | exact va_Nw.warmD hW hs | exact va_Nw.warmC hW hs | exact absurd (show false = true from hg) Bool.false_ne_true
  · obtain ⟨sa, hs⟩ := h3 q hq
    exact ⟨sa, vk_R.warm hW hs⟩
/-! ===== a method's contract, and the judgement at a place of its body ===== -/
def x_rm (M : x_MT) (mc ms : Nat) : Room := { frames := mFr M, cells := mc, slots := ms, locals := mLo M }
abbrev x_ws (M : x_MT) : List Cond := Cond.code (mY M) (mCode M) (mL M) (mRet M) :: tb0
def x_Pc (base : Nat) (G : xG) (av : List Value) (X : xS) : Array Value → State → Prop := va_Pc (av.map (x_v base)) (fun U => x_W base G X U.heap ∧ x_PX G base U)
def x_Qc (base : Nat) (G : xG) (o : xO) (Y : xS) : Array Value → State → Outcome → State → Prop := fun _ st oc t => (∃ v : Option Value, o = .inl v ∧ oc = .returned (v.map (x_v base))) ∧ x_W base G Y t.heap ∧ va_F (x_A base) st t
def x_XC (base : Nat) (G : xG) (o : xO) (Y : xS) : String → State → State → Prop := fun E st t => o = .inr E ∧ x_W base G Y t.heap ∧ va_F (x_A base) st t
/-- with these arguments, from world X, the method ends with o, in world Y; it makes at most mc cells of ms slots -/
def x_Sp (M : x_MT) (mc ms : Nat) (av : List Value) (X : xS) (o : xO) (Y : xS) : Prop :=
  ∀ (l : Launch) (G : xG) (base : Nat), l.stackTraces = false → vx_Met l (mY M) (x_ws M) (x_rm M mc ms) (x_Pc base G av X) (x_Qc base G o Y) (x_XC base G o Y) mc ms (x_A base)
def x_ls (base : Nat) : Nat → List (Option Value) → List (Nat × Value)
  | _, [] => []
  | i, none :: r => x_ls base (i + 1) r
  | i, some v :: r => (i, x_v base v) :: x_ls base (i + 1) r
def x_Cx (M : x_MT) (p : Program) (l : Launch) (s : State) (m : MethodId) (args : Array Value) (meth : Method) (c : Code) (G : xG) (base : Nat) : Prop :=
  x_MOk M ∧ p.tables.exec = Jvm.exec ∧ c.code = mCode M ∧ meth.sig.returnType = mRet M ∧ c.maxLocals = mL M ∧ s.vm.findClass (mOwn M) = some m.cls ∧ (∀ w ∈ tb0, w.before args s = true) ∧ x_PX G base s ∧
  (∀ x ∈ c.exceptionTable.toList, False) ∧ meth.locks = false ∧ meth.name = (mY M).name ∧ l.stackTraces = false
def x_E (M : x_MT) (mc ms : Nat) (pc : Nat) (ls : List (Option Value)) (st : List Value) (X : xS) (kc ks : Nat) (o : xO) (Y : xS) : Prop :=
  ∀ (p : Program) (l : Launch) (e : Env) (s : State) (m : MethodId) (args : Array Value) (below : List Frame) (meth : Method) (c : Code) (H : Heap) (locs : List Loc) (arr : Array Slot) (G : xG) (base : Nat),
    x_Cx M p l s m args meth c G base → x_W base G X H → va_S (x_A base) s.heap H locs → lv_has arr (mL M) (x_ls base 0 ls) →
    W p l e (x_rm M mc ms) s m args below meth c H locs kc ks (vx_MQ below (x_Qc base G o Y) (x_XC base G o Y) args s mc ms (x_A base)) (F0 m pc arr (st.map (x_v base)))
