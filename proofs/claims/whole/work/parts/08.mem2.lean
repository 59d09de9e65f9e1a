/-! ===== writing, arrays, throwing ===== -/
def xfs (F : Nat → xShp) (a : Nat) (s : xShp) : Nat → xShp := fun b => if b = a then s else F b
def xcp (σ : xSig) (a : Nat) (sp dp n : Int) : xSig := fun b i => if b = a ∧ dp ≤ i ∧ i < dp + n then σ a (sp + (i - dp)) else σ b i
section XM2
variable {M : x_MT} {mc ms pc kc ks : Nat} {ls : List (Option Value)} {st : List Value} {X Y : xS} {o : xO}
theorem e_put (k nx : Nat) {ci j a idx : Nat} {fs : List (Option (Option Nat))} {ty : FieldType} {v : Value} {X2 : xS} (hk : x_CK ci) (hf : x_FL (mOwn M) idx ci j ty false) (hd : (mIns M)[k]? = some (pc, .putfield idx, 3)) (hn : pc + 3 = nx) (ha : a < xN X) (hs : xF X a = .inr (.inr (ci, fs))) (hj : j < fs.length)
    (hnar : ∀ base, narrow ty (x_v base v) = x_v base v) (hfit : ∀ base, fits ty (x_v base v) = true) (hX : ∀ base G, (x_wl base G X).set a (base + a, .inr (ci, (x_obj base fs (xM X a)).set j (x_v base v))) = x_wl base G X2) (hN : xN X2 = xN X) (hB : xB X2 = xB X)
    (kk : x_E M mc ms nx ls st X2 kc ks o Y) : x_E M mc ms pc ls (v :: .ref a :: st) X kc ks o Y := by
  subst hn
  intro p l e s m args below meth c H locs arr G base C w S hl
  obtain ⟨⟨R, T, N⟩, k1, k2, ⟨ty0, hty⟩, hnm, k5⟩ := hk
  obtain ⟨r', f1, f2, f3, hfin, hpt⟩ := hf
  cases k1.symm.trans f1
  have hts := C.2.2.2.2.2.2.1
  have hK := C.2.2.2.2.2.2.2.1.1
  have hap := va_apart (own := mOwn M) hts k2 ty0 hty hnm hK f1
  have he : (x_wl base G X)[a]? = some (base + a, .inr (ci, x_obj base fs (xM X a))) := by rw [x_wl_at ha, hs]; rfl
  obtain ⟨r, h1, cell, q1, q2, q3, q4⟩ := w.1 a _ he
  have hr : r = (R, T, N) := Option.some.inj (h1.symm.trans f1)
  subst hr
  obtain ⟨hS, hfc, kC, hkC, hkind⟩ := hK.1 ci _ f1
  obtain ⟨cf, kf, fi, f, hi, hsl⟩ := hS j f2
  have hlay := hts _ (k2 _ (u_in_lay f2))
  unfold u_lay at hlay
  rw [if_neg (by rw [hfin]; decide)] at hlay
  have hst := (u_facts hfc hkC (u_lays hts k2 f2) hi).1
  have h6 := u_store hfc hkC hkind hlay hi hpt (hnar base) (hfit base)
  have f3' : Cond.fieldLink (mOwn M) idx (T j).1 (T j).2.1 (T j).2.2.1 ∈ tb0 := by rw [k5 j f2]; exact f3
  refine W.putK C.2.1 C.2.2.1 (f := f) ⟨C.2.2.2.2.2.1, hts _ f3', ⟨_, _, _, hi⟩, hst⟩ (by rw [q2]; exact h6) q1 q3 (by rw [hsl]; exact k2_hasslot (q4 j f2)) rfl rfl (x_dec C.1 hd) fun H' e1 e2 e3 => ?_
  rw [hsl] at e1 ⊢
  have hP2 := va_P.set w.1 x_D he (e := .inr (ci, (x_obj base fs (xM X a)).set j (x_v base v))) ⟨_, f1, t_OB.to (V := updV (vp_V (x_obj base fs (xM X a))) j (x_v base v)) ⟨_, e1, q2, q3, t_set q4 hap f2 (x_v base v)⟩ (fun i _ => vp_updV_set (by simpa [x_obj] using hj) (x_v base v) i)⟩ e3
  rw [hX] at hP2
  exact kk p l e s m args below meth c H' _ arr G base C ⟨hP2, fun h => by rw [hN, e2]; exact w.2 (hB ▸ h)⟩ (S.put e2 e3 (Nat.le_add_right base a)) hl
theorem e_putF (k nx : Nat) {ci j a idx : Nat} {fs : List (Option (Option Nat))} {ty : FieldType} {v : Value} {X2 : xS} (hk : x_CK ci) (hf : x_FL (mOwn M) idx ci j ty true) (hd : (mIns M)[k]? = some (pc, .putfield idx, 3)) (hn : pc + 3 = nx) (hinit : (mY M).name = "<init>") (hcls : ∀ r : vw_C, vwCl[ci]? = some r → r.1 = mOwn M) (ha : a < xN X) (hs : xF X a = .inr (.inr (ci, fs))) (hj : j < fs.length)
    (hnar : ∀ base, narrow ty (x_v base v) = x_v base v) (hfit : ∀ base, fits ty (x_v base v) = true) (hX : ∀ base G, (x_wl base G X).set a (base + a, .inr (ci, (x_obj base fs (xM X a)).set j (x_v base v))) = x_wl base G X2) (hN : xN X2 = xN X) (hB : xB X2 = xB X)
    (kk : x_E M mc ms nx ls st X2 kc ks o Y) : x_E M mc ms pc ls (v :: .ref a :: st) X kc ks o Y := by
  subst hn
  intro p l e s m args below meth c H locs arr G base C w S hl
  obtain ⟨⟨R, T, N⟩, k1, k2, ⟨ty0, hty⟩, hnm, k5⟩ := hk
  obtain ⟨r', f1, f2, f3, hfin, hpt⟩ := hf
  cases k1.symm.trans f1
  have hts := C.2.2.2.2.2.2.1
  have hK := C.2.2.2.2.2.2.2.1.1
  have hown := C.2.2.2.2.2.1
  have hap := va_apart (own := mOwn M) hts k2 ty0 hty hnm hK f1
  have he : (x_wl base G X)[a]? = some (base + a, .inr (ci, x_obj base fs (xM X a))) := by rw [x_wl_at ha, hs]; rfl
  obtain ⟨r, h1, cell, q1, q2, q3, q4⟩ := w.1 a _ he
  have hr : r = (R, T, N) := Option.some.inj (h1.symm.trans f1)
  subst hr
  obtain ⟨hS, hfc, kC, hkC, hkind⟩ := hK.1 ci _ f1
  obtain ⟨cf, kf, fi, f, hi, hsl⟩ := hS j f2
  have hlay := hts _ (k2 _ (u_in_lay f2))
  unfold u_lay at hlay
  rw [if_pos hfin] at hlay
  have hst := (u_facts hfc hkC (u_lays hts k2 f2) hi).1
  have hdecl : (T j).1 = mOwn M := (k5 j f2).trans (hcls _ f1)
  have hcf : m.cls = cf := by
    obtain ⟨_, _, c', _, _, _, -, -, hf', -, -, -, hown2, -⟩ := Cond.laysFinal_spec hlay
    have e1 : c' = cf := by have := hi.symm.trans hf'; simp at this; exact this.1.symm
    rw [hdecl] at hown2
    rw [← e1]; exact Option.some.inj (hown.symm.trans hown2)
  have h6 := u_fits hfc hkC hkind (Or.inr hlay) hi hpt (hnar base) (hfit base)
  have f3' : Cond.fieldLink (mOwn M) idx (T j).1 (T j).2.1 (T j).2.2.1 ∈ tb0 := by rw [k5 j f2]; exact f3
  refine W.putFinK C.2.1 C.2.2.1 hown (hts _ f3') hi hst hcf (C.2.2.2.2.2.2.2.2.2.2.1.trans hinit) (by rw [q2]; exact h6) q1 q3 (by rw [hsl]; exact k2_hasslot (q4 j f2)) rfl rfl (x_dec C.1 hd) fun H' e1 e2 e3 => ?_
  rw [hsl] at e1 ⊢
  have hP2 := va_P.set w.1 x_D he (e := .inr (ci, (x_obj base fs (xM X a)).set j (x_v base v))) ⟨_, f1, t_OB.to (V := updV (vp_V (x_obj base fs (xM X a))) j (x_v base v)) ⟨_, e1, q2, q3, t_set q4 hap f2 (x_v base v)⟩ (fun i _ => vp_updV_set (by simpa [x_obj] using hj) (x_v base v) i)⟩ e3
  rw [hX] at hP2
  exact kk p l e s m args below meth c H' _ arr G base C ⟨hP2, fun h => by rw [hN, e2]; exact w.2 (hB ▸ h)⟩ (S.put e2 e3 (Nat.le_add_right base a)) hl
theorem e_putI (k nx : Nat) {ci j a idx : Nat} {fs : List (Option (Option Nat))} {v : Int} (hk : x_CK ci) (hf : x_FL (mOwn M) idx ci j .int false) (hd : (mIns M)[k]? = some (pc, .putfield idx, 3)) (hn : pc + 3 = nx) (ha : a < xN X) (hs : xF X a = .inr (.inr (ci, fs))) (hj : fs[j]? = some none)
    (kk : x_E M mc ms nx ls st (xSet X (xu (xM X) a j v)) kc ks o Y) : x_E M mc ms pc ls (.int (ii v) :: .ref a :: st) X kc ks o Y :=
  e_put k nx hk hf hd hn ha hs (List.getElem?_eq_some_iff.mp hj).1 (fun _ => rfl) (fun _ => rfl) (fun base G => x_setM ha (by rw [hs]; exact congrArg (fun z => Sum.inr (ci, z)) (x_obj_set hj v))) rfl rfl kk
theorem e_putZ (k nx : Nat) {ci j a idx : Nat} {fs : List (Option (Option Nat))} {v : Int} (hk : x_CK ci) (hf : x_FL (mOwn M) idx ci j .boolean false) (hd : (mIns M)[k]? = some (pc, .putfield idx, 3)) (hn : pc + 3 = nx) (hv : v = 0 ∨ v = 1) (ha : a < xN X) (hs : xF X a = .inr (.inr (ci, fs))) (hj : fs[j]? = some none)
    (kk : x_E M mc ms nx ls st (xSet X (xu (xM X) a j v)) kc ks o Y) : x_E M mc ms pc ls (.int (ii v) :: .ref a :: st) X kc ks o Y :=
  e_put k nx hk hf hd hn ha hs (List.getElem?_eq_some_iff.mp hj).1 (fun _ => by rcases hv with rfl | rfl <;> rfl) (fun _ => by rcases hv with rfl | rfl <;> rfl) (fun base G => x_setM ha (by rw [hs]; exact congrArg (fun z => Sum.inr (ci, z)) (x_obj_set hj v))) rfl rfl kk
/-! arrays -/
theorem x_ix {x : Int} (h0 : 0 ≤ x) (h : x < 2147483648) : (((ii x).toNatClampNeg : Nat) : Int) = x := by
  rw [ii_clamp h0 h]
  omega
theorem e_alen (k nx : Nat) {kd a n : Nat} (hd : (mIns M)[k]? = some (pc, .arraylength, 1)) (hn : pc + 1 = nx) (ha : a < xN X) (hs : xF X a = .inl (kd, n)) (hkd : kd < 3)
    (kk : x_E M mc ms nx ls (.int (ii n) :: st) X kc ks o Y) : x_E M mc ms pc ls (.ref a :: st) X kc ks o Y := by
  subst hn
  intro p l e s m args below meth c H locs arr G base C w S hl
  have he : (x_wl base G X)[a]? = some (base + a, .inl (G.2 kd, x_arr kd n (xM X a))) := by rw [x_wl_at ha, hs, x_cellA (by omega)]
  have hx1 : (x_arr kd n (xM X a)).1 = n := by unfold x_arr; split <;> rfl
  have hK := C.2.2.2.2.2.2.2.1.1
  have ht : ∃ ty, (x_tys G)[kd]? = some (G.2 kd, ty) := by
    rcases (by omega : kd = 0 ∨ kd = 1 ∨ kd = 2) with rfl | rfl | rfl <;> exact ⟨_, rfl⟩
  obtain ⟨ty, ht⟩ := ht
  refine va_alen C.2.1 C.2.2.1 hK w.1 a kd he ht (by rw [hx1]) (x_dec C.1 hd) ?_
  exact kk p l e s m args below meth c H locs arr G base C w S hl
theorem e_alenR (k nx : Nat) {kd a : Nat} {rs : List (Option Nat)} (hd : (mIns M)[k]? = some (pc, .arraylength, 1)) (hn : pc + 1 = nx) (ha : a < xN X) (hs : xF X a = .inr (.inl (kd, rs))) (hkd : kd = 3 ∨ kd = 4)
    (kk : x_E M mc ms nx ls (.int (ii (rs.length : Nat)) :: st) X kc ks o Y) : x_E M mc ms pc ls (.ref a :: st) X kc ks o Y := by
  subst hn
  intro p l e s m args below meth c H locs arr G base C w S hl
  have he : (x_wl base G X)[a]? = some (base + a, .inl (G.2 kd, x_rarr base rs)) := by rw [x_wl_at ha, hs]; rfl
  have hK := C.2.2.2.2.2.2.2.1.1
  have ht : ∃ ty, (x_tys G)[kd]? = some (G.2 kd, ty) := by
    rcases hkd with rfl | rfl <;> exact ⟨_, rfl⟩
  obtain ⟨ty, ht⟩ := ht
  refine va_alen C.2.1 C.2.2.1 hK w.1 a kd he ht rfl (x_dec C.1 hd) ?_
  exact kk p l e s m args below meth c H locs arr G base C w S hl
theorem e_iaload (k nx : Nat) {a n : Nat} {x : Int} (hd : (mIns M)[k]? = some (pc, .iaload, 1)) (hn : pc + 1 = nx) (ha : a < xN X) (hs : xF X a = .inl (0, n)) (h0 : 0 ≤ x) (h1 : x < n) (h2 : n < 2147483648)
    (kk : x_E M mc ms nx ls (.int (ii (xM X a x)) :: st) X kc ks o Y) : x_E M mc ms pc ls (.int (ii x) :: .ref a :: st) X kc ks o Y := by
  subst hn
  intro p l e s m args below meth c H locs arr G base C w S hl
  have he : (x_wl base G X)[a]? = some (base + a, .inl (G.2 0, n, .inl fun j => ii (xM X a j))) := by rw [x_wl_at ha, hs]; rfl
  refine va_iald C.2.1 C.2.2.1 C.2.2.2.2.2.2.2.1.1 w.1 a 0 he rfl (ii_in h0 h1 h2) (x_dec C.1 hd) ?_
  have := kk p l e s m args below meth c H locs arr G base C w S hl
  rw [x_ix h0 (by omega)]
  exact this
theorem e_baload (k nx : Nat) {a n : Nat} {x : Int} (hd : (mIns M)[k]? = some (pc, .baload, 1)) (hn : pc + 1 = nx) (ha : a < xN X) (hs : xF X a = .inl (1, n)) (h0 : 0 ≤ x) (h1 : x < n) (h2 : n < 2147483648)
    (kk : x_E M mc ms nx ls (.int (ii (xM X a x)) :: st) X kc ks o Y) : x_E M mc ms pc ls (.int (ii x) :: .ref a :: st) X kc ks o Y := by
  subst hn
  intro p l e s m args below meth c H locs arr G base C w S hl
  have he : (x_wl base G X)[a]? = some (base + a, .inl (G.2 1, n, .inl fun j => ii (xM X a j))) := by rw [x_wl_at ha, hs]; rfl
  refine va_zald C.2.1 C.2.2.1 C.2.2.2.2.2.2.2.1.1 w.1 a 1 he rfl (ii_in h0 h1 h2) (x_dec C.1 hd) ?_
  have := kk p l e s m args below meth c H locs arr G base C w S hl
  rw [x_ix h0 (by omega)]
  exact this
theorem e_laload (k nx : Nat) {a n : Nat} {x : Int} (hd : (mIns M)[k]? = some (pc, .laload, 1)) (hn : pc + 1 = nx) (ha : a < xN X) (hs : xF X a = .inl (2, n)) (h0 : 0 ≤ x) (h1 : x < n) (h2 : n < 2147483648)
    (kk : x_E M mc ms nx ls (.long (ll (xM X a x)) :: st) X kc ks o Y) : x_E M mc ms pc ls (.int (ii x) :: .ref a :: st) X kc ks o Y := by
  subst hn
  intro p l e s m args below meth c H locs arr G base C w S hl
  have he : (x_wl base G X)[a]? = some (base + a, .inl (G.2 2, n, .inr (.inl fun j => ll (xM X a j)))) := by rw [x_wl_at ha, hs]; rfl
  refine va_lald C.2.1 C.2.2.1 C.2.2.2.2.2.2.2.1.1 w.1 a 2 he rfl (ii_in h0 h1 h2) (x_dec C.1 hd) ?_
  have := kk p l e s m args below meth c H locs arr G base C w S hl
  rw [x_ix h0 (by omega)]
  exact this
theorem e_aaload (k nx : Nat) {a b kd : Nat} {rs : List (Option Nat)} {x : Int} (hd : (mIns M)[k]? = some (pc, .aaload, 1)) (hn : pc + 1 = nx) (ha : a < xN X) (hs : xF X a = .inr (.inl (kd, rs))) (hkd : kd = 3 ∨ kd = 4) (h0 : 0 ≤ x) (hr : rs[x.toNat]? = some (some b)) (h2 : rs.length < 2147483648)
    (kk : x_E M mc ms nx ls (.ref b :: st) X kc ks o Y) : x_E M mc ms pc ls (.int (ii x) :: .ref a :: st) X kc ks o Y := by
  subst hn
  intro p l e s m args below meth c H locs arr G base C w S hl
  have hlt := (List.getElem?_eq_some_iff.mp hr).1
  have he : (x_wl base G X)[a]? = some (base + a, .inl (G.2 kd, rs.length, .inr (.inr (.inr (.inr fun j => (rs.getD j none).map (fun b => base + b)))))) := by rw [x_wl_at ha, hs]; rfl
  have ht : ∃ C, (x_tys G)[kd]? = some (G.2 kd, .object C) := by
    rcases hkd with rfl | rfl <;> exact ⟨_, rfl⟩
  obtain ⟨CC, ht⟩ := ht
  refine va_aldq C.2.1 C.2.2.1 C.2.2.2.2.2.2.2.1.1 w.1 a kd he ht (ii_in h0 (by omega) h2) (x_dec C.1 hd) ?_
  have := kk p l e s m args below meth c H locs arr G base C w S hl
  rw [ii_clamp h0 (by omega), List.getD_eq_getElem?_getD, hr]
  exact this
theorem x_updI (m : Int → Int) (j : Nat) (v : Int) : updV (fun i : Nat => Value.int (ii (m (i : Int)))) j (.int (ii v)) = fun i : Nat => Value.int (ii ((fun z : Int => if z = (j : Int) then v else m z) (i : Int))) := by
  funext i
  unfold updV
  by_cases h : i = j
  · subst h; simp
  · rw [if_neg h]
    show _ = Value.int (ii (if (i : Int) = (j : Int) then v else m i))
    rw [if_neg (by omega)]
theorem x_updL (m : Int → Int) (j : Nat) (v : Int) : updV (fun i : Nat => Value.long (ll (m (i : Int)))) j (.long (ll v)) = fun i : Nat => Value.long (ll ((fun z : Int => if z = (j : Int) then v else m z) (i : Int))) := by
  funext i
  unfold updV
  by_cases h : i = j
  · subst h; simp
  · rw [if_neg h]
    show _ = Value.long (ll (if (i : Int) = (j : Int) then v else m i))
    rw [if_neg (by omega)]
theorem e_iastore (k nx : Nat) {a n : Nat} {x v : Int} (hd : (mIns M)[k]? = some (pc, .iastore, 1)) (hn : pc + 1 = nx) (ha : a < xN X) (hs : xF X a = .inl (0, n)) (h0 : 0 ≤ x) (h1 : x < n) (h2 : n < 2147483648)
    (kk : x_E M mc ms nx ls st (xSet X (xu (xM X) a x v)) kc ks o Y) : x_E M mc ms pc ls (.int (ii v) :: .int (ii x) :: .ref a :: st) X kc ks o Y := by
  subst hn
  intro p l e s m args below meth c H locs arr G base C w S hl
  have hK := C.2.2.2.2.2.2.2.1.1
  have he : (x_wl base G X)[a]? = some (base + a, .inl (G.2 0, n, .inl fun j => ii (xM X a j))) := by rw [x_wl_at ha, hs]; rfl
  have hcell : H[base + a]? = some (vp_cell (G.2 0) (n, .inl fun j => ii (xM X a j))) := w.1 a _ he
  refine W.iast C.2.1 C.2.2.1 hcell ((hK.2 0 _ rfl).1 n (fun j => .int (ii (xM X a j)))) (fun q => by cases q) (by show ¬ ((ii x) < 0 ∨ (arrV _ _ _).slots.size ≤ _); rw [arrV_size]; exact ii_in h0 h1 h2) rfl rfl (x_dec C.1 hd) fun H1 e9 z oq => ?_
  have hat : va_at G.1 vwCl (base + a, x_cell base G (xF X a) (fun i => if i = x then v else xM X a i)) H1 := by
    rw [hs]
    show H1[base + a]? = some (vp_cell _ (n, .inl _))
    rw [e9, vp_cell_i, vp_cell_i, arrV_store, x_updI, x_ix h0 (by omega)]
  have hP2 := va_P.set w.1 x_D he hat oq
  rw [x_setM ha rfl] at hP2
  exact kk p l e s m args below meth c H1 _ arr G base C ⟨hP2, fun h => z.trans (w.2 h)⟩ (S.put z oq (Nat.le_add_right base a)) hl
theorem e_bastore (k nx : Nat) {a n : Nat} {x v : Int} (hd : (mIns M)[k]? = some (pc, .bastore, 1)) (hn : pc + 1 = nx) (hv : v = 0 ∨ v = 1) (ha : a < xN X) (hs : xF X a = .inl (1, n)) (h0 : 0 ≤ x) (h1 : x < n) (h2 : n < 2147483648)
    (kk : x_E M mc ms nx ls st (xSet X (xu (xM X) a x v)) kc ks o Y) : x_E M mc ms pc ls (.int (ii v) :: .int (ii x) :: .ref a :: st) X kc ks o Y := by
  subst hn
  intro p l e s m args below meth c H locs arr G base C w S hl
  have hK := C.2.2.2.2.2.2.2.1.1
  have he : (x_wl base G X)[a]? = some (base + a, .inl (G.2 1, n, .inl fun j => ii (xM X a j))) := by rw [x_wl_at ha, hs]; rfl
  have hcell : H[base + a]? = some (vp_cell (G.2 1) (n, .inl fun j => ii (xM X a j))) := w.1 a _ he
  have hnar : narrow .boolean (.int (ii v)) = .int (ii v) := by rcases hv with rfl | rfl <;> rfl
  refine W.zast C.2.1 C.2.2.1 hcell ((hK.2 1 _ rfl).1 n (fun j => .int (ii (xM X a j)))) (fun q => by cases q) (by show ¬ ((ii x) < 0 ∨ (arrV _ _ _).slots.size ≤ _); rw [arrV_size]; exact ii_in h0 h1 h2) rfl rfl (x_dec C.1 hd) fun H1 e9 z oq => ?_
  have hat : va_at G.1 vwCl (base + a, x_cell base G (xF X a) (fun i => if i = x then v else xM X a i)) H1 := by
    rw [hs]
    show H1[base + a]? = some (vp_cell _ (n, .inl _))
    rw [e9, hnar, vp_cell_i, vp_cell_i, arrV_store, x_updI, x_ix h0 (by omega)]
  have hP2 := va_P.set w.1 x_D he hat oq
  rw [x_setM ha rfl] at hP2
  exact kk p l e s m args below meth c H1 _ arr G base C ⟨hP2, fun h => z.trans (w.2 h)⟩ (S.put z oq (Nat.le_add_right base a)) hl
theorem e_lastore (k nx : Nat) {a n : Nat} {x v : Int} (hd : (mIns M)[k]? = some (pc, .lastore, 1)) (hn : pc + 1 = nx) (ha : a < xN X) (hs : xF X a = .inl (2, n)) (h0 : 0 ≤ x) (h1 : x < n) (h2 : n < 2147483648)
    (kk : x_E M mc ms nx ls st (xSet X (xu (xM X) a x v)) kc ks o Y) : x_E M mc ms pc ls (.long (ll v) :: .int (ii x) :: .ref a :: st) X kc ks o Y := by
  subst hn
  intro p l e s m args below meth c H locs arr G base C w S hl
  have hK := C.2.2.2.2.2.2.2.1.1
  have he : (x_wl base G X)[a]? = some (base + a, .inl (G.2 2, n, .inr (.inl fun j => ll (xM X a j)))) := by rw [x_wl_at ha, hs]; rfl
  have hcell : H[base + a]? = some (vp_cell (G.2 2) (n, .inr (.inl fun j => ll (xM X a j)))) := w.1 a _ he
  refine W.last C.2.1 C.2.2.1 hcell ((hK.2 2 _ rfl).1 n (fun j => .long (ll (xM X a j)))) (fun q => by cases q) (by show ¬ ((ii x) < 0 ∨ (arrV _ _ _).slots.size ≤ _); rw [arrV_size]; exact ii_in h0 h1 h2) rfl rfl (x_dec C.1 hd) fun H1 e9 z oq => ?_
  have hat : va_at G.1 vwCl (base + a, x_cell base G (xF X a) (fun i => if i = x then v else xM X a i)) H1 := by
    rw [hs]
    show H1[base + a]? = some (vp_cell _ (n, .inr (.inl _)))
    rw [e9, vp_cell_l, vp_cell_l, arrV_store, x_updL, x_ix h0 (by omega)]
  have hP2 := va_P.set w.1 x_D he hat oq
  rw [x_setM ha rfl] at hP2
  exact kk p l e s m args below meth c H1 _ arr G base C ⟨hP2, fun h => z.trans (w.2 h)⟩ (S.put z oq (Nat.le_add_right base a)) hl
/-- Math.max -/
theorem e_max (k nx : Nat) {idx : Nat} {x y : Int} (hd : (mIns M)[k]? = some (pc, .invokestatic idx, 3)) (hn : pc + 3 = nx) (hw : Cond.methodLink (mOwn M) idx Lib.Math.max.name ∈ tb0 ∧ Cond.static Lib.Math.max.name ∈ tb0 ∧ Cond.initialized "java/lang/Math" ∈ tb0 ∧ Cond.code Lib.Math.max.name Lib.Math.max.code 2 (some .int) ∈ tb0) (hfr : 1 ≤ mFr M) (hlo : 21 ≤ mLo M) (hrest : (st.map fun v => v.category).sum ≤ 8) (hc : kc ≤ mc) (hs : ks ≤ ms) (hrx : xr x) (hry : xr y)
    (kk : x_E M mc ms nx ls (.int (ii (if x < y then y else x)) :: st) X kc ks o Y) : x_E M mc ms pc ls (.int (ii y) :: .int (ii x) :: st) X kc ks o Y := by
  subst hn
  intro p l e s m args below meth c H locs arr G base C w S hl
  have hts := C.2.2.2.2.2.2.1
  refine va_mmax (x := ii x) (y := ii y) C.2.1 C.2.2.1 (C.2.2.2.2.1.trans hl.1.symm) C.2.2.2.2.2.1 (hts _ hw.1) (hts _ hw.2.1) (hts _ hw.2.2.1) (hts _ hw.2.2.2) hfr (by rw [x_cats]; show _ + 13 ≤ mLo M; omega) hc hs (x_dec C.1 hd) ?_
  have h9 : (if ii x < ii y then ii y else ii x) = ii (if x < y then y else x) := by
    by_cases h : x < y
    · rw [if_pos h, if_pos ((ii_lt hrx hry).mpr h)]
    · rw [if_neg h, if_neg (fun q => h ((ii_lt hrx hry).mp q))]
  rw [h9]
  exact kk p l e s m args below meth c H locs arr G base C w S hl
/-- System.arraycopy within one array of ints -/
theorem e_acopy (k nx : Nat) {idx a n : Nat} {sp dp m9 : Int} (hd : (mIns M)[k]? = some (pc, .invokestatic idx, 3)) (hn : pc + 3 = nx) (hw : Cond.methodLink (mOwn M) idx arraycopyName ∈ tb0 ∧ Cond.native arraycopyName ∈ tb0 ∧ Cond.static arraycopyName ∈ tb0 ∧ Cond.initialized "java/lang/System" ∈ tb0) (hfr : 1 ≤ mFr M) (hlo : 26 ≤ mLo M) (hrest : (st.map fun v => v.category).sum ≤ 8)
    (hB : xB X = false) (ha : a < xN X) (hs : xF X a = .inl (0, n)) (h1 : 0 ≤ sp) (h2 : 0 ≤ dp) (h3 : 0 ≤ m9) (h4 : sp + m9 ≤ n) (h5 : dp + m9 ≤ n) (h6 : n < 2147483648)
    (kk : x_E M mc ms nx ls st (xSet X (xcp (xM X) a sp dp m9)) kc ks o Y) : x_E M mc ms pc ls (.int (ii m9) :: .int (ii dp) :: .ref a :: .int (ii sp) :: .ref a :: st) X kc ks o Y := by
  subst hn
  intro p l e s m args below meth c H locs arr G base C w S hl
  have hts := C.2.2.2.2.2.2.1
  have he : (x_wl base G X)[a]? = some (base + a, .inl (G.2 0, n, .inl fun j => ii (xM X a j))) := by rw [x_wl_at ha, hs]; rfl
  have ng : ∀ z : Int, 0 ≤ z → z < 2147483648 → ¬ ii z < 0 := fun z z0 z1 q => by
    have := (ii_lt ⟨by omega, z1⟩ xr_0).mp q
    omega
  refine va_copyi C.2.1 C.2.2.1 (C.2.2.2.2.1.trans hl.1.symm) C.2.2.2.2.2.1 (hts _ hw.1) (hts _ hw.2.1) (hts _ hw.2.2.1) (hts _ hw.2.2.2) C.2.2.2.2.2.2.2.1.1 w.1 x_D S a a 0 0 he he rfl rfl rfl (sp := ii sp) (dp := ii dp) (n := ii m9) (ng _ h1 (by omega)) (ng _ h2 (by omega)) (ng _ h3 (by omega)) (by rw [ii_clamp h1 (by omega), ii_clamp h3 (by omega)]; omega) (by rw [ii_clamp h2 (by omega), ii_clamp h3 (by omega)]; omega) (fun _ _ => rfl) hfr (by rw [x_cats]; show _ + (7 + 11) ≤ mLo M; omega) (x_dec C.1 hd) fun H1 locs1 hP hD hS => ?_
  refine kk p l e s m args below meth c H1 locs1 arr G base C ⟨?_, fun h => by rw [hB] at h; cases h⟩ hS hl
  have hset : (x_wl base G X).set a (base + a, .inl (G.2 0, n, .inl (va_cpy (fun j : Nat => ii (xM X a j)) (fun j : Nat => ii (xM X a j)) (ii sp).toNatClampNeg (ii dp).toNatClampNeg (ii m9).toNatClampNeg))) = x_wl base G (xSet X (xcp (xM X) a sp dp m9)) := by
    rw [x_wl_set (Y := xSet X (xcp (xM X) a sp dp m9)) ha rfl (fun b hb => ?_)]
    · have e9 : x_cell base G (xF (xSet X (xcp (xM X) a sp dp m9)) a) (xM (xSet X (xcp (xM X) a sp dp m9)) a) = .inl (G.2 0, n, .inl fun j => ii (xcp (xM X) a sp dp m9 a j)) := by
        show x_cell base G (xF X a) _ = _
        rw [hs]; rfl
      rw [e9]
      congr 6
      funext j
      unfold va_cpy xcp
      rw [ii_clamp h1 (by omega), ii_clamp h2 (by omega), ii_clamp h3 (by omega)]
      by_cases hj : dp.toNat ≤ j ∧ j < dp.toNat + m9.toNat
      · rw [if_pos hj, if_pos ⟨rfl, by omega, by omega⟩]
        have h9 : ((sp.toNat + (j - dp.toNat) : Nat) : Int) = sp + ((j : Int) - dp) := by omega
        show ii (xM X a ((sp.toNat + (j - dp.toNat) : Nat) : Int)) = _
        rw [h9]
      · rw [if_neg hj, if_neg (fun q => hj ⟨by omega, by omega⟩)]
    · show x_cell base G (xF X b) (xcp (xM X) a sp dp m9 b) = _
      congr 1
      funext i
      unfold xcp
      rw [if_neg (fun q => hb q.1)]
  rw [← hset]
  exact hP
/-- throw new E("text") -/
theorem e_throw (k : Nat) {ik is ic : Nat} {E text : String} (hth : x_TH (mOwn M) ik ic E) (d0 : (mIns M)[k]? = some (pc, .new ik, 3)) (d1 : (mIns M)[k + 1]? = some (pc + 3, .dup, 1)) (d2 : (mIns M)[k + 2]? = some (pc + 4, .ldc is, 2)) (d3 : (mIns M)[k + 3]? = some (pc + 6, .invokespecial ic, 3)) (d4 : (mIns M)[k + 4]? = some (pc + 9, .athrow, 1))
    (hstr : (mOwn M, is, text) ∈ x_strs) (hfr : 6 ≤ mFr M) (hlo : 90 ≤ mLo M) (hrest : (st.map fun v => v.category).sum ≤ 8) (hc : kc + 1 ≤ mc) (hs : ks + 6 ≤ ms) : x_E M mc ms pc ls st X kc ks (.inr E) (xN X, xF X, xM X, false) := by
  intro p l e s m args below meth c H locs arr G base C w S hl
  have hts := C.2.2.2.2.2.2.1
  obtain ⟨t1, t2, t3, t4, t5, t6⟩ := hth
  obtain ⟨-, n2, n3, n4, n5, -⟩ := C.2.2.2.2.2.2.2.1
  obtain ⟨sa, hsa⟩ := n3 _ hstr
  refine vx_throwS C.2.1 C.2.2.1 C.2.2.2.2.2.2.2.2.2.2.2 (names := x_nms) (A := x_A base) (rest := st.map (x_v base)) C.2.2.2.2.2.1 t1 t2 (hts _ t3) (hts _ t4) hsa (fun w hw => ?_) t6 n4 n5 S (hl.1.trans C.2.2.2.2.1.symm) (x_dec C.1 d0) (x_dec C.1 d1) (x_dec C.1 d2) (x_dec C.1 d3) (x_dec C.1 d4) (fun x hx => (C.2.2.2.2.2.2.2.2.1 x hx).elim) (by show 2 + 3 < mFr M; omega) (by rw [x_cats]; show _ + (13 * 3 + 43) ≤ mLo M; omega) (by show kc + 1 ≤ mc; omega) (by show ks + 6 ≤ ms; omega) C.2.2.2.2.2.2.2.2.2.1 (fun t hA hz ho => ⟨rfl, ⟨?_, fun h => by cases h⟩, ?_⟩) S.2.2 hc hs
  · rcases t5 w hw with h | h
    · exact hts _ h
    · have hon : w.onTables = true := by
        have hg := (List.mem_filter.mp h).2
        cases w <;> first | rfl | exact absurd (show false = true from hg) Bool.false_ne_true
      exact va_Nw.use hon (n2 _ h)
  · exact w.1.kept fun q x hq => ho _ ((w.1 q x hq).lt)
  · refine ⟨Nat.le_trans S.1 hz, fun q h1 h2 => ?_⟩
    rw [ho q (Nat.lt_of_lt_of_le h1 S.1)]
    exact S.2.1 q h1 h2
theorem e_throwW (k : Nat) {ik is ic : Nat} {E text : String} (hth : x_TH (mOwn M) ik ic E) (d0 : (mIns M)[k]? = some (pc, .new ik, 3)) (d1 : (mIns M)[k + 1]? = some (pc + 3, .dup, 1)) (d2 : (mIns M)[k + 2]? = some (pc + 4, .ldc_w is, 3)) (d3 : (mIns M)[k + 3]? = some (pc + 7, .invokespecial ic, 3)) (d4 : (mIns M)[k + 4]? = some (pc + 10, .athrow, 1))
    (hstr : (mOwn M, is, text) ∈ x_strs) (hfr : 6 ≤ mFr M) (hlo : 90 ≤ mLo M) (hrest : (st.map fun v => v.category).sum ≤ 8) (hc : kc + 1 ≤ mc) (hs : ks + 6 ≤ ms) : x_E M mc ms pc ls st X kc ks (.inr E) (xN X, xF X, xM X, false) := by
  intro p l e s m args below meth c H locs arr G base C w S hl
  have hts := C.2.2.2.2.2.2.1
  obtain ⟨t1, t2, t3, t4, t5, t6⟩ := hth
  obtain ⟨-, n2, n3, n4, n5, -⟩ := C.2.2.2.2.2.2.2.1
  obtain ⟨sa, hsa⟩ := n3 _ hstr
  refine vx_throwSW C.2.1 C.2.2.1 C.2.2.2.2.2.2.2.2.2.2.2 (names := x_nms) (A := x_A base) (rest := st.map (x_v base)) C.2.2.2.2.2.1 t1 t2 (hts _ t3) (hts _ t4) hsa (fun w hw => ?_) t6 n4 n5 S (hl.1.trans C.2.2.2.2.1.symm) (x_dec C.1 d0) (x_dec C.1 d1) (x_dec C.1 d2) (x_dec C.1 d3) (x_dec C.1 d4) (fun x hx => (C.2.2.2.2.2.2.2.2.1 x hx).elim) (by show 2 + 3 < mFr M; omega) (by rw [x_cats]; show _ + (13 * 3 + 43) ≤ mLo M; omega) (by show kc + 1 ≤ mc; omega) (by show ks + 6 ≤ ms; omega) C.2.2.2.2.2.2.2.2.2.1 (fun t hA hz ho => ⟨rfl, ⟨?_, fun h => by cases h⟩, ?_⟩) S.2.2 hc hs
  · rcases t5 w hw with h | h
    · exact hts _ h
    · have hon : w.onTables = true := by
        have hg := (List.mem_filter.mp h).2
        cases w <;> first | rfl | exact absurd (show false = true from hg) Bool.false_ne_true
      exact va_Nw.use hon (n2 _ h)
  · exact w.1.kept fun q x hq => ho _ ((w.1 q x hq).lt)
  · refine ⟨Nat.le_trans S.1 hz, fun q h1 h2 => ?_⟩
    rw [ho q (Nat.lt_of_lt_of_le h1 S.1)]
    exact S.2.1 q h1 h2
end XM2
