/-! ===== constants out of the pool ===== -/
section XK
variable {M : x_MT} {mc ms pc kc ks : Nat} {ls : List (Option Value)} {st : List Value} {X Y : xS} {o : xO}
theorem e_ldc2_w (k nx : Nat) {idx : Nat} {v : Int} {w : Int64} (hw : Cond.constantLong (mOwn M) idx w ∈ tb0) (hv : w = ll v) (hd : (mIns M)[k]? = some (pc, .ldc2_w idx, 3)) (hn : pc + 3 = nx) (kk : x_E M mc ms nx ls (.long (ll v) :: st) X kc ks o Y) : x_E M mc ms pc ls st X kc ks o Y := by
  subst hn
  subst hv
  intro p l e s m args below meth c H locs arr G base C w S hl
  exact lv_ldc2 C.2.1 C.2.2.1 C.2.2.2.2.2.1 (C.2.2.2.2.2.2.1 _ hw) (x_dec C.1 hd) (kk p l e s m args below meth c H locs arr G base C w S hl)
theorem e_ldc (k nx : Nat) {idx : Nat} {v : Int} {w : Int32} (hw : Cond.constant (mOwn M) idx w ∈ tb0) (hv : w = ii v) (hd : (mIns M)[k]? = some (pc, .ldc idx, 2)) (hn : pc + 2 = nx) (kk : x_E M mc ms nx ls (.int (ii v) :: st) X kc ks o Y) : x_E M mc ms pc ls st X kc ks o Y := by
  subst hn
  subst hv
  intro p l e s m args below meth c H locs arr G base C w S hl
  exact lv_ldc C.2.1 C.2.2.1 C.2.2.2.2.2.1 (C.2.2.2.2.2.2.1 _ hw) (x_dec C.1 hd) (kk p l e s m args below meth c H locs arr G base C w S hl)
theorem e_ldc_w (k nx : Nat) {idx : Nat} {v : Int} {w : Int32} (hw : Cond.constant (mOwn M) idx w ∈ tb0) (hv : w = ii v) (hd : (mIns M)[k]? = some (pc, .ldc_w idx, 3)) (hn : pc + 3 = nx) (kk : x_E M mc ms nx ls (.int (ii v) :: st) X kc ks o Y) : x_E M mc ms pc ls st X kc ks o Y := by
  subst hn
  subst hv
  intro p l e s m args below meth c H locs arr G base C w S hl
  exact lv_ldcw C.2.1 C.2.2.1 C.2.2.2.2.2.1 (C.2.2.2.2.2.2.1 _ hw) (x_dec C.1 hd) (kk p l e s m args below meth c H locs arr G base C w S hl)
theorem e_ifnonnull (k tg : Nat) {a : Nat} {off : Int} (hd : (mIns M)[k]? = some (pc, .ifnonnull off, 3)) (ht : (pc : Int) + off = (tg : Int)) (kk : x_E M mc ms tg ls st X kc ks o Y) : x_E M mc ms pc ls (.ref a :: st) X kc ks o Y := by
  intro p l e s m args below meth c H locs arr G base C w S hl
  exact lv_ifnonnull C.2.1 C.2.2.1 (x_dec C.1 hd) ht (kk p l e s m args below meth c H locs arr G base C w S hl)
theorem e_acmp_eq (k tg nx : Nat) {a b : Nat} {off : Int} (hd : (mIns M)[k]? = some (pc, .if_acmp .eq off, 3)) (ht : (pc : Int) + off = (tg : Int)) (hn : pc + 3 = nx) (kt : a = b → x_E M mc ms tg ls st X kc ks o Y) (kf : a ≠ b → x_E M mc ms nx ls st X kc ks o Y) : x_E M mc ms pc ls (.ref b :: .ref a :: st) X kc ks o Y := by
  subst hn
  intro p l e s m args below meth c H locs arr G base C w S hl
  refine lv_acmp_eq (rx := some (base + a)) (ry := some (base + b)) C.2.1 C.2.2.1 (x_dec C.1 hd) ht (fun h => kt ?_ p l e s m args below meth c H locs arr G base C w S hl) (fun h => kf ?_ p l e s m args below meth c H locs arr G base C w S hl)
  · have := Option.some.inj h
    omega
  · intro q
    exact h (by rw [q])
theorem e_table (k tg : Nat) {x dflt lo hi off : Int} {offs : Array Int} {len : Nat} (hd : (mIns M)[k]? = some (pc, .tableswitch dflt lo hi offs, len)) (hx : xr x) (h1 : lo ≤ x) (h2 : x ≤ hi) (ho : offs[(x - lo).toNat]? = some off) (ht : (pc : Int) + off = (tg : Int)) (kk : x_E M mc ms tg ls st X kc ks o Y) : x_E M mc ms pc ls (.int (ii x) :: st) X kc ks o Y := by
  intro p l e s m args below meth c H locs arr G base C w S hl
  have e9 := ii_toInt hx
  exact lv_tableIn C.2.1 C.2.2.1 (x_dec C.1 hd) (by rw [e9]; omega) (by rw [e9]; omega) (by rw [e9]; exact ho) ht (kk p l e s m args below meth c H locs arr G base C w S hl)
theorem e_tableO (k tg : Nat) {x dflt lo hi : Int} {offs : Array Int} {len : Nat} (hd : (mIns M)[k]? = some (pc, .tableswitch dflt lo hi offs, len)) (hx : xr x) (h1 : x < lo ∨ hi < x) (ht : (pc : Int) + dflt = (tg : Int)) (kk : x_E M mc ms tg ls st X kc ks o Y) : x_E M mc ms pc ls (.int (ii x) :: st) X kc ks o Y := by
  intro p l e s m args below meth c H locs arr G base C w S hl
  have e9 := ii_toInt hx
  exact lv_tableOut C.2.1 C.2.2.1 (x_dec C.1 hd) (by rw [e9]; exact h1) ht (kk p l e s m args below meth c H locs arr G base C w S hl)
def x_dm : List Bool → List (Option Value) → List (Option Value)
  | true :: m, v :: l => v :: x_dm m l
  | false :: m, _ :: l => none :: x_dm m l
  | _, _ => []
theorem x_dm_get : ∀ (m : List Bool) (l : List (Option Value)) (k : Nat) (u : Value), (x_dm m l)[k]? = some (some u) → l[k]? = some (some u) := by
  intro m
  induction m with
  | nil => intro l k u h; simp [x_dm] at h
  | cons b m ih =>
    intro l k u h
    cases l with
    | nil => cases b <;> simp [x_dm] at h
    | cons v l =>
      cases b <;> cases k with
      | zero => simp [x_dm] at h ⊢ <;> exact h
      | succ k => simp [x_dm] at h ⊢; exact ih l k u h
/-- fewer locals, by a mask -/
theorem e_dropm {ls' : List (Option Value)} (m : List Bool) (he : x_dm m ls = ls') (kk : x_E M mc ms pc ls' st X kc ks o Y) : x_E M mc ms pc ls st X kc ks o Y := by
  subst he
  exact e_drop _ (fun k u h => x_dm_get m ls k u h) kk
end XK
theorem kcX0_82 : Cond.constant RX0 82 (104729) ∈ tb0 := tb4_of 22 rfl rfl
theorem kcX10_36 : Cond.constantLong RX10 36 (7) ∈ tb0 := tb5_of 168 rfl rfl
theorem kcX10_42 : Cond.constantLong RX10 42 (31) ∈ tb0 := tb5_of 173 rfl rfl
theorem kcX12_125 : Cond.constantLong RX12 125 (-1) ∈ tb0 := tb7_of 179 rfl rfl
theorem kcX12_213 : Cond.constant RX12 213 (104729) ∈ tb0 := tb7_of 238 rfl rfl
theorem kcX12_297 : Cond.constantLong RX12 297 (400) ∈ tb0 := tb8_of 79 rfl rfl
theorem kcX12_299 : Cond.constantLong RX12 299 (5) ∈ tb0 := tb8_of 80 rfl rfl
theorem kcX12_135 : Cond.constantLong RX12 135 (7) ∈ tb0 := tb8_of 141 rfl rfl
theorem kcX12_137 : Cond.constantLong RX12 137 (31) ∈ tb0 := tb8_of 142 rfl rfl
theorem kcX12_348 : Cond.constant RX12 348 (2147483647) ∈ tb0 := tb9_of 0 rfl rfl
theorem mxX0_77 : Cond.methodLink RX0 77 Lib.Math.max.name ∈ tb0 ∧ Cond.static Lib.Math.max.name ∈ tb0 ∧ Cond.initialized "java/lang/Math" ∈ tb0 ∧ Cond.code Lib.Math.max.name Lib.Math.max.code 2 (some .int) ∈ tb0 := ⟨tb4_of 21 rfl rfl, tb2_of 221 rfl rfl, tb1_of 20 rfl rfl, tb2_of 222 rfl rfl⟩
theorem mxX9_25 : Cond.methodLink RX9 25 Lib.Math.max.name ∈ tb0 ∧ Cond.static Lib.Math.max.name ∈ tb0 ∧ Cond.initialized "java/lang/Math" ∈ tb0 ∧ Cond.code Lib.Math.max.name Lib.Math.max.code 2 (some .int) ∈ tb0 := ⟨tb2_of 220 rfl rfl, tb2_of 221 rfl rfl, tb1_of 20 rfl rfl, tb2_of 222 rfl rfl⟩
theorem acX10_71 : Cond.methodLink RX10 71 arraycopyName ∈ tb0 ∧ Cond.native arraycopyName ∈ tb0 ∧ Cond.static arraycopyName ∈ tb0 ∧ Cond.initialized "java/lang/System" ∈ tb0 := ⟨tb3_of 96 rfl rfl, tb3_of 98 rfl rfl, tb3_of 97 rfl rfl, tb1_of 18 rfl rfl⟩
