/-! ===== worlds that grow ===== -/
abbrev Wd (N : Nat) (F : Nat → xShp) (σ : xSig) : xS := (N, F, σ, true)
theorem xfs_at (F : Nat → xShp) (a : Nat) (s : xShp) : xfs F a s a = s := by unfold xfs; rw [if_pos rfl]
theorem xfs_ne (F : Nat → xShp) {a b : Nat} (s : xShp) (h : b ≠ a) : xfs F a s b = F b := by unfold xfs; rw [if_neg h]
theorem xfs_xfs (F : Nat → xShp) (a : Nat) (s t : xShp) : xfs (xfs F a s) a t = xfs F a t := by
  funext b
  unfold xfs
  split
  · rfl
  · rfl
theorem xfs_id {F : Nat → xShp} {a : Nat} {s : xShp} (h : F a = s) : xfs F a s = F := by
  funext b
  unfold xfs
  split
  · next q => rw [q, h]
  · rfl
theorem x_wl_push {base : Nat} {G : xG} {N : Nat} {F F2 : Nat → xShp} {σ : xSig} (h : ∀ c, c < N → F2 c = F c) : x_wl base G (Wd (N + 1) F2 σ) = x_wl base G (Wd N F σ) ++ [(base + N, x_cell base G (F2 N) (σ N))] := by
  show (List.range (N + 1)).map (fun a => (base + a, x_cell base G (F2 a) (σ a))) = (List.range N).map (fun a => (base + a, x_cell base G (F a) (σ a))) ++ _
  rw [List.range_succ, List.map_append]
  congr 1
  exact List.map_congr_left fun c hc => by rw [h c (List.mem_range.mp hc)]
theorem x_wl_upd {base : Nat} {G : xG} {N : Nat} {F F2 : Nat → xShp} {σ : xSig} {a : Nat} {e : va_E} (ha : a < N) (h : ∀ c, c < N → c ≠ a → F2 c = F c) (he : e = x_cell base G (F2 a) (σ a)) : (x_wl base G (Wd N F σ)).set a (base + a, e) = x_wl base G (Wd N F2 σ) := by
  subst he
  apply List.ext_getElem?
  intro k
  by_cases hk : k < N
  · rw [x_wl_at (X := Wd N F2 σ) hk]
    by_cases hka : k = a
    · subst hka
      rw [List.getElem?_set_self (by simpa [x_wl] using hk)]
    · rw [List.getElem?_set_ne (Ne.symm hka), x_wl_at (X := Wd N F σ) hk]
      show some (base + k, x_cell base G (F k) (σ k)) = some (base + k, x_cell base G (F2 k) (σ k))
      rw [h k hk hka]
  · have h1 : (x_wl base G (Wd N F2 σ))[k]? = none := by
      rw [List.getElem?_eq_none_iff]; simp [x_wl]; exact Nat.le_of_not_lt hk
    have h2 : ((x_wl base G (Wd N F σ)).set a (base + a, x_cell base G (F2 a) (σ a)))[k]? = none := by
      rw [List.getElem?_eq_none_iff]; simp [x_wl]; exact Nat.le_of_not_lt hk
    rw [h1, h2]
theorem x_objR {base : Nat} {fs : List (Option (Option Nat))} {m : Int → Int} {j b : Nat} (hj : j < fs.length) : (x_obj base fs m).set j (.ref (base + b)) = x_obj base (fs.set j (some (some b))) m := by
  apply List.ext_getElem?
  intro i
  unfold x_obj
  rw [List.getElem?_set, List.length_map, List.length_range, List.length_set]
  by_cases hi : i < fs.length
  · rw [List.getElem?_map, List.getElem?_map, List.getElem?_range hi]
    simp only [Option.map_some]
    by_cases e : j = i
    · subst e
      rw [if_pos rfl, if_pos hj]
      simp [List.getD_eq_getElem?_getD, hj, x_fld, x_rf]
    · rw [if_neg e]
      simp [List.getD_eq_getElem?_getD, List.getElem?_set_ne e]
  · rw [List.getElem?_map, List.getElem?_map, List.getElem?_eq_none (by simp; omega)]
    have : j ≠ i := by omega
    rw [if_neg this]
    rfl
section XGW
variable {M : x_MT} {mc ms pc kc ks : Nat} {ls : List (Option Value)} {st : List Value} {N : Nat} {F : Nat → xShp} {σ : xSig} {Y : xS} {o : xO}
theorem w_getI (k nx : Nat) {ci j a idx : Nat} {fs : List (Option (Option Nat))} {ty : FieldType} {fin : Bool} {v : Int} (jz : Int) (hk : x_CK ci) (hf : x_FL (mOwn M) idx ci j ty fin) (hd : (mIns M)[k]? = some (pc, .getfield idx, 3)) (hn : pc + 3 = nx) (ha : a < N) (hs : F a = .inr (.inr (ci, fs))) (hj : fs[j]? = some none) (hz : (j : Int) = jz) (hv : σ a jz = v)
    (kk : x_E M mc ms nx ls (.int (ii v) :: st) (Wd N F σ) kc ks o Y) : x_E M mc ms pc ls (.ref a :: st) (Wd N F σ) kc ks o Y := by
  subst hz
  subst hv
  exact e_getI (X := Wd N F σ) k nx hk hf hd hn ha hs hj kk
theorem w_getIN (k nx : Nat) {ci j a idx : Nat} {fs : List (Option (Option Nat))} {v : Int} (jz : Int) (hk : x_CK ci) (hf : x_FN (mOwn M) idx ci j) (hd : (mIns M)[k]? = some (pc, .getfield idx, 3)) (hn : pc + 3 = nx) (ha : a < N) (hs : F a = .inr (.inr (ci, fs))) (hj : fs[j]? = some none) (hz : (j : Int) = jz) (hv : σ a jz = v)
    (kk : x_E M mc ms nx ls (.int (ii v) :: st) (Wd N F σ) kc ks o Y) : x_E M mc ms pc ls (.ref a :: st) (Wd N F σ) kc ks o Y := by
  subst hz
  subst hv
  exact e_getIN (X := Wd N F σ) k nx hk hf hd hn ha hs hj kk
theorem w_getR (k nx : Nat) {ci j a idx : Nat} {fs : List (Option (Option Nat))} {ty : FieldType} {fin : Bool} {b : Nat} (hk : x_CK ci) (hf : x_FL (mOwn M) idx ci j ty fin) (hd : (mIns M)[k]? = some (pc, .getfield idx, 3)) (hn : pc + 3 = nx) (ha : a < N) (hs : F a = .inr (.inr (ci, fs))) (hj : fs[j]? = some (some (some b)))
    (kk : x_E M mc ms nx ls (.ref b :: st) (Wd N F σ) kc ks o Y) : x_E M mc ms pc ls (.ref a :: st) (Wd N F σ) kc ks o Y := e_getR (X := Wd N F σ) k nx hk hf hd hn ha hs hj kk
theorem w_putI (k nx : Nat) {ci j a idx : Nat} {fs : List (Option (Option Nat))} {v : Int} (jz : Int) (hk : x_CK ci) (hf : x_FL (mOwn M) idx ci j .int false) (hd : (mIns M)[k]? = some (pc, .putfield idx, 3)) (hn : pc + 3 = nx) (ha : a < N) (hs : F a = .inr (.inr (ci, fs))) (hj : fs[j]? = some none) (hz : (j : Int) = jz)
    (kk : x_E M mc ms nx ls st (Wd N F (xu σ a jz v)) kc ks o Y) : x_E M mc ms pc ls (.int (ii v) :: .ref a :: st) (Wd N F σ) kc ks o Y := by
  subst hz
  exact e_putI (X := Wd N F σ) k nx hk hf hd hn ha hs hj kk
theorem w_putZ (k nx : Nat) {ci j a idx : Nat} {fs : List (Option (Option Nat))} {v : Int} (jz : Int) (hk : x_CK ci) (hf : x_FL (mOwn M) idx ci j .boolean false) (hd : (mIns M)[k]? = some (pc, .putfield idx, 3)) (hn : pc + 3 = nx) (hv : v = 0 ∨ v = 1) (ha : a < N) (hs : F a = .inr (.inr (ci, fs))) (hj : fs[j]? = some none) (hz : (j : Int) = jz)
    (kk : x_E M mc ms nx ls st (Wd N F (xu σ a jz v)) kc ks o Y) : x_E M mc ms pc ls (.int (ii v) :: .ref a :: st) (Wd N F σ) kc ks o Y := by
  subst hz
  exact e_putZ (X := Wd N F σ) k nx hk hf hd hn hv ha hs hj kk
theorem w_alen (k nx : Nat) {kd a n : Nat} (hd : (mIns M)[k]? = some (pc, .arraylength, 1)) (hn : pc + 1 = nx) (ha : a < N) (hs : F a = .inl (kd, n)) (hkd : kd < 3)
    (kk : x_E M mc ms nx ls (.int (ii n) :: st) (Wd N F σ) kc ks o Y) : x_E M mc ms pc ls (.ref a :: st) (Wd N F σ) kc ks o Y := e_alen (X := Wd N F σ) k nx hd hn ha hs hkd kk
theorem w_alenR (k nx : Nat) {kd a : Nat} {rs : List (Option Nat)} (hd : (mIns M)[k]? = some (pc, .arraylength, 1)) (hn : pc + 1 = nx) (ha : a < N) (hs : F a = .inr (.inl (kd, rs))) (hkd : kd = 3 ∨ kd = 4)
    (kk : x_E M mc ms nx ls (.int (ii (rs.length : Nat)) :: st) (Wd N F σ) kc ks o Y) : x_E M mc ms pc ls (.ref a :: st) (Wd N F σ) kc ks o Y := e_alenR (X := Wd N F σ) k nx hd hn ha hs hkd kk
theorem w_iaload (k nx : Nat) {a n : Nat} {x v : Int} (hd : (mIns M)[k]? = some (pc, .iaload, 1)) (hn : pc + 1 = nx) (ha : a < N) (hs : F a = .inl (0, n)) (h0 : 0 ≤ x) (h1 : x < n) (h2 : n < 2147483648) (hv : σ a x = v)
    (kk : x_E M mc ms nx ls (.int (ii v) :: st) (Wd N F σ) kc ks o Y) : x_E M mc ms pc ls (.int (ii x) :: .ref a :: st) (Wd N F σ) kc ks o Y := by
  subst hv
  exact e_iaload (X := Wd N F σ) k nx hd hn ha hs h0 h1 h2 kk
theorem w_baload (k nx : Nat) {a n : Nat} {x v : Int} (hd : (mIns M)[k]? = some (pc, .baload, 1)) (hn : pc + 1 = nx) (ha : a < N) (hs : F a = .inl (1, n)) (h0 : 0 ≤ x) (h1 : x < n) (h2 : n < 2147483648) (hv : σ a x = v)
    (kk : x_E M mc ms nx ls (.int (ii v) :: st) (Wd N F σ) kc ks o Y) : x_E M mc ms pc ls (.int (ii x) :: .ref a :: st) (Wd N F σ) kc ks o Y := by
  subst hv
  exact e_baload (X := Wd N F σ) k nx hd hn ha hs h0 h1 h2 kk
theorem w_laload (k nx : Nat) {a n : Nat} {x v : Int} (hd : (mIns M)[k]? = some (pc, .laload, 1)) (hn : pc + 1 = nx) (ha : a < N) (hs : F a = .inl (2, n)) (h0 : 0 ≤ x) (h1 : x < n) (h2 : n < 2147483648) (hv : σ a x = v)
    (kk : x_E M mc ms nx ls (.long (ll v) :: st) (Wd N F σ) kc ks o Y) : x_E M mc ms pc ls (.int (ii x) :: .ref a :: st) (Wd N F σ) kc ks o Y := by
  subst hv
  exact e_laload (X := Wd N F σ) k nx hd hn ha hs h0 h1 h2 kk
theorem w_aaload (k nx : Nat) {a b kd : Nat} {rs : List (Option Nat)} {x : Int} (hd : (mIns M)[k]? = some (pc, .aaload, 1)) (hn : pc + 1 = nx) (ha : a < N) (hs : F a = .inr (.inl (kd, rs))) (hkd : kd = 3 ∨ kd = 4) (h0 : 0 ≤ x) (hr : rs[x.toNat]? = some (some b)) (h2 : rs.length < 2147483648)
    (kk : x_E M mc ms nx ls (.ref b :: st) (Wd N F σ) kc ks o Y) : x_E M mc ms pc ls (.int (ii x) :: .ref a :: st) (Wd N F σ) kc ks o Y := e_aaload (X := Wd N F σ) k nx hd hn ha hs hkd h0 hr h2 kk
theorem w_iastore (k nx : Nat) {a n : Nat} {x v : Int} (hd : (mIns M)[k]? = some (pc, .iastore, 1)) (hn : pc + 1 = nx) (ha : a < N) (hs : F a = .inl (0, n)) (h0 : 0 ≤ x) (h1 : x < n) (h2 : n < 2147483648)
    (kk : x_E M mc ms nx ls st (Wd N F (xu σ a x v)) kc ks o Y) : x_E M mc ms pc ls (.int (ii v) :: .int (ii x) :: .ref a :: st) (Wd N F σ) kc ks o Y := e_iastore (X := Wd N F σ) k nx hd hn ha hs h0 h1 h2 kk
theorem w_bastore (k nx : Nat) {a n : Nat} {x v : Int} (hd : (mIns M)[k]? = some (pc, .bastore, 1)) (hn : pc + 1 = nx) (hv : v = 0 ∨ v = 1) (ha : a < N) (hs : F a = .inl (1, n)) (h0 : 0 ≤ x) (h1 : x < n) (h2 : n < 2147483648)
    (kk : x_E M mc ms nx ls st (Wd N F (xu σ a x v)) kc ks o Y) : x_E M mc ms pc ls (.int (ii v) :: .int (ii x) :: .ref a :: st) (Wd N F σ) kc ks o Y := e_bastore (X := Wd N F σ) k nx hd hn hv ha hs h0 h1 h2 kk
theorem w_lastore (k nx : Nat) {a n : Nat} {x v : Int} (hd : (mIns M)[k]? = some (pc, .lastore, 1)) (hn : pc + 1 = nx) (ha : a < N) (hs : F a = .inl (2, n)) (h0 : 0 ≤ x) (h1 : x < n) (h2 : n < 2147483648)
    (kk : x_E M mc ms nx ls st (Wd N F (xu σ a x v)) kc ks o Y) : x_E M mc ms pc ls (.long (ll v) :: .int (ii x) :: .ref a :: st) (Wd N F σ) kc ks o Y := e_lastore (X := Wd N F σ) k nx hd hn ha hs h0 h1 h2 kk
theorem w_callV (k nx : Nat) {M' : x_MT} {idx n b ci mc' ms' : Nat} {r : vw_C} {fs : List (Option (Option Nat))} {av rest : List Value} {v : Option Value} {N' : Nat} {F' : Nat → xShp} {σ' : xSig} (sp : x_Sp M' mc' ms' (.ref b :: av) (Wd N F σ) (.inl v) (Wd N' F' σ')) (ok' : x_MOk M') (cv : x_CV (mOwn M) M' idx n) (hR : x_Rm M M') (hd : (mIns M)[k]? = some (pc, .invokevirtual idx, 3)) (hn : pc + 3 = nx)
    (hb : b < N) (hs : F b = .inr (.inr (ci, fs))) (hc : vwCl[ci]? = some r) (hrn : r.1 = mOwn M') (hst : st = av.reverse ++ .ref b :: rest) (hnn : av.length = n) (hrest : (rest.map fun v => v.category).sum ≤ 8) (hcc : kc + mc' ≤ mc) (hss : ks + ms' ≤ ms)
    (kk : x_E M mc ms nx ls (v.toList ++ rest) (Wd N' F' σ') (kc + mc') (ks + ms') o Y) : x_E M mc ms pc ls st (Wd N F σ) kc ks o Y := e_callV (X := Wd N F σ) k nx sp ok' cv hR hd hn hb hs hc hrn hst hnn hrest hcc hss kk
theorem w_callS (k nx : Nat) {M' : x_MT} {idx n mc' ms' : Nat} {av rest : List Value} {v : Option Value} {N' : Nat} {F' : Nat → xShp} {σ' : xSig} (sp : x_Sp M' mc' ms' av (Wd N F σ) (.inl v) (Wd N' F' σ')) (ok' : x_MOk M') (cv : x_CS (mOwn M) M' idx n) (hR : x_Rm M M') (hd : (mIns M)[k]? = some (pc, .invokestatic idx, 3)) (hn : pc + 3 = nx)
    (hst : st = av.reverse ++ rest) (hnn : av.length = n) (hrest : (rest.map fun v => v.category).sum ≤ 8) (hcc : kc + mc' ≤ mc) (hss : ks + ms' ≤ ms)
    (kk : x_E M mc ms nx ls (v.toList ++ rest) (Wd N' F' σ') (kc + mc') (ks + ms') o Y) : x_E M mc ms pc ls st (Wd N F σ) kc ks o Y := e_callS (X := Wd N F σ) k nx sp ok' cv hR hd hn hst hnn hrest hcc hss kk
end XGW

section XNW
variable {M : x_MT} {mc ms pc kc ks : Nat} {ls : List (Option Value)} {st : List Value} {N : Nat} {F : Nat → xShp} {σ : xSig} {Y : xS} {o : xO}
/-- the heap behind a cell that is new -/
theorem x_grow {base : Nat} {G : xG} {s : State} {H H1 : Heap} {locs : List Loc} {F2 : Nat → xShp} (w : x_W base G (Wd N F σ) H) (S : va_S (x_A base) s.heap H locs) (hF : ∀ c, c < N → F2 c = F c) (z1 : H1.size = H.size + 1) (o1 : ∀ q : Nat, q < H.size → H1[q]? = H[q]?) (hat : va_at G.1 vwCl (base + N, x_cell base G (F2 N) (σ N)) H1) : x_W base G (Wd (N + 1) F2 σ) H1 ∧ va_S (x_A base) s.heap H1 locs := by
  have hsz : H.size = base + N := w.2 rfl
  have hk : ∀ (k : Nat) (x : Nat × va_E), (x_wl base G (Wd N F σ))[k]? = some x → H1[x.1]? = H[x.1]? := fun k x hx => o1 x.1 ((w.1 k x hx).lt)
  refine ⟨⟨?_, fun _ => by show H1.size = base + (N + 1); omega⟩, ⟨Nat.le_trans S.1 (by omega), fun x h1 h2 => (o1 x (Nat.lt_of_lt_of_le h1 S.1)).trans (S.2.1 x h1 h2), S.2.2⟩⟩
  rw [x_wl_push hF]
  refine (w.1.kept hk).app (fun k x hx => ?_)
  have hz : k < 1 := (List.getElem?_eq_some_iff.mp hx).1
  rw [show k = 0 by omega] at hx
  cases hx
  exact hat
theorem w_new (k nx : Nat) {ci idx : Nat} {r : vw_C} {F2 : Nat → xShp} {fs : List (Option (Option Nat))} (ty : Nat → FieldType) (hk : x_CK ci) (hr : vwCl[ci]? = some r) (hty : ∀ k, k < r.2.2 → parseFieldDescriptor (r.2.1 k).2.2.1 = some (ty k)) (hcl : Cond.classLink (mOwn M) idx r.1 ∈ tb0) (hin : Cond.instantiable r.1 r.2.2 ∈ tb0) (hini : Cond.initialized r.1 ∈ tb0) (hd : (mIns M)[k]? = some (pc, .new idx, 3)) (hn : pc + 3 = nx)
    (hF : ∀ c, c < N → F2 c = F c) (hFN : F2 N = .inr (.inr (ci, fs))) (hz : ∀ j, σ N j = 0) (hdf : ∀ base j, j < r.2.2 → defaultValue (ty j) = vp_V (x_obj base fs (fun _ => 0)) j) (hcc : kc + 1 ≤ mc) (hss : ks + r.2.2 ≤ ms)
    (kk : x_E M mc ms nx ls (.ref N :: st) (Wd (N + 1) F2 σ) (kc + 1) (ks + r.2.2) o Y) : x_E M mc ms pc ls st (Wd N F σ) kc ks o Y := by
  subst hn
  intro p l e s m args below meth c H locs arr G base C w S hl
  obtain ⟨r', k1, k2, -, -, -⟩ := hk
  cases hr.symm.trans k1
  have hts := C.2.2.2.2.2.2.1
  have hK := C.2.2.2.2.2.2.2.1.1
  have hKn := hK.1 ci _ hr
  have hsz : H.size = base + N := w.2 rfl
  refine W.newcK C.2.1 C.2.2.1 C.2.2.2.2.2.1 (hts _ hcl) (hts _ hin) (hts _ hini) rfl (x_dec C.1 hd) hcc hss hKn.2.1 rfl fun H1 kC hkC e1 z1 o1 => ?_
  have hσ : σ N = fun _ => 0 := funext hz
  obtain ⟨w1, S1⟩ := x_grow (F2 := F2) w S hF z1 o1 (by
    rw [hFN, hσ]
    rw [hsz] at e1
    exact ⟨_, hr, (u_born ty hts k2 hKn hkC e1 hty).to (hdf base)⟩)
  have := kk p l e s m args below meth c H1 locs arr G base C w1 S1 hl
  rw [show (List.map (x_v base) (.ref N :: st)) = .ref H.size :: st.map (x_v base) by rw [hsz]; rfl] at this
  exact this
theorem w_newa (k nx : Nat) {atype : ArrayType} {kd n : Nat} {F2 : Nat → xShp} (hk9 : kd ≠ 9) (harr : Cond.arrayClass (newarray.typeOf atype) ∈ tb0) (ht : ∀ G : xG, (x_tys G)[kd]? = some (G.2 kd, newarray.typeOf atype)) (hra : ∀ (U : State) (cA : ClassId), va_RA U cA (newarray.typeOf atype) → U.vm.findClass ("[" ++ (newarray.typeOf atype).toString) = some cA) (hce : ∀ (cA : ClassId), vp_cell cA (x_arr kd n (fun _ => 0)) = arrV cA n (fun _ => defaultValue (newarray.typeOf atype))) (hd : (mIns M)[k]? = some (pc, .newarray atype, 2)) (hn : pc + 2 = nx)
    (hF : ∀ c, c < N → F2 c = F c) (hFN : F2 N = .inl (kd, n)) (hz : ∀ j, σ N j = 0) (hbytes : n * componentBytes (newarray.typeOf atype) ≤ 536870912) (hlt : n < 2147483648) (hcc : kc + 1 ≤ mc) (hss : ks + n ≤ ms)
    (kk : x_E M mc ms nx ls (.ref N :: st) (Wd (N + 1) F2 σ) (kc + 1) (ks + n) o Y) : x_E M mc ms pc ls (.int (ii n) :: st) (Wd N F σ) kc ks o Y := by
  subst hn
  intro p l e s m args below meth c H locs arr G base C w S hl
  have hts := C.2.2.2.2.2.2.1
  have hK := C.2.2.2.2.2.2.2.1.1
  have hsz : H.size = base + N := w.2 rfl
  have hcl : (ii n).toNatClampNeg = n := by rw [ii_clamp (by omega) (by omega)]; rfl
  have hneg : ¬ ii n < 0 := fun q => by
    have := (ii_lt (x := n) (y := 0) (by unfold xr; omega) xr_0).mp q
    omega
  refine va_newaK C.2.1 C.2.2.1 (hts _ harr) rfl (x_dec C.1 hd) rfl hneg hcl hbytes hcc hss rfl fun H1 cA e1 z1 o1 hAr hNm => ?_
  have hcA : cA = G.2 kd := Option.some.inj (hNm.symm.trans (hra s _ (hK.2 kd _ (ht G)).2))
  subst hcA
  have hσ : σ N = fun _ => 0 := funext hz
  obtain ⟨w1, S1⟩ := x_grow (F2 := F2) w S hF z1 o1 (by
    rw [hFN, hσ, x_cellA hk9]
    rw [hsz, ← hce] at e1
    exact e1)
  have := kk p l e s m args below meth c H1 locs arr G base C w1 S1 hl
  rw [show (List.map (x_v base) (.ref N :: st)) = .ref H.size :: st.map (x_v base) by rw [hsz]; rfl] at this
  exact this
theorem w_newI (k nx : Nat) {n : Nat} {F2 : Nat → xShp} (harr : Cond.arrayClass .int ∈ tb0) (hd : (mIns M)[k]? = some (pc, .newarray .int, 2)) (hn : pc + 2 = nx) (hF : ∀ c, c < N → F2 c = F c) (hFN : F2 N = .inl (0, n)) (hz : ∀ j, σ N j = 0) (hbytes : n * 4 ≤ 536870912) (hcc : kc + 1 ≤ mc) (hss : ks + n ≤ ms)
    (kk : x_E M mc ms nx ls (.ref N :: st) (Wd (N + 1) F2 σ) (kc + 1) (ks + n) o Y) : x_E M mc ms pc ls (.int (ii n) :: st) (Wd N F σ) kc ks o Y :=
  w_newa k nx (atype := .int) (kd := 0) (by decide) harr (fun _ => rfl) (fun _ _ h => h) (fun cA => vp_cell_i cA n _) hd hn hF hFN hz hbytes (by omega) hcc hss kk
theorem w_newZ (k nx : Nat) {n : Nat} {F2 : Nat → xShp} (harr : Cond.arrayClass .boolean ∈ tb0) (hd : (mIns M)[k]? = some (pc, .newarray .boolean, 2)) (hn : pc + 2 = nx) (hF : ∀ c, c < N → F2 c = F c) (hFN : F2 N = .inl (1, n)) (hz : ∀ j, σ N j = 0) (hbytes : n * 1 ≤ 536870912) (hcc : kc + 1 ≤ mc) (hss : ks + n ≤ ms)
    (kk : x_E M mc ms nx ls (.ref N :: st) (Wd (N + 1) F2 σ) (kc + 1) (ks + n) o Y) : x_E M mc ms pc ls (.int (ii n) :: st) (Wd N F σ) kc ks o Y :=
  w_newa k nx (atype := .boolean) (kd := 1) (by decide) harr (fun _ => rfl) (fun _ _ h => h) (fun cA => vp_cell_i cA n _) hd hn hF hFN hz hbytes (by omega) hcc hss kk
theorem w_newL (k nx : Nat) {n : Nat} {F2 : Nat → xShp} (harr : Cond.arrayClass .long ∈ tb0) (hd : (mIns M)[k]? = some (pc, .newarray .long, 2)) (hn : pc + 2 = nx) (hF : ∀ c, c < N → F2 c = F c) (hFN : F2 N = .inl (2, n)) (hz : ∀ j, σ N j = 0) (hbytes : n * 8 ≤ 536870912) (hcc : kc + 1 ≤ mc) (hss : ks + n ≤ ms)
    (kk : x_E M mc ms nx ls (.ref N :: st) (Wd (N + 1) F2 σ) (kc + 1) (ks + n) o Y) : x_E M mc ms pc ls (.int (ii n) :: st) (Wd N F σ) kc ks o Y :=
  w_newa k nx (atype := .long) (kd := 2) (by decide) harr (fun _ => rfl) (fun _ _ h => h) (fun cA => vp_cell_l cA n _) hd hn hF hFN hz hbytes (by omega) hcc hss kk
theorem w_newq (k nx : Nat) {kd n idx : Nat} {C0 : String} {F2 : Nat → xShp} (hcl : Cond.classLink (mOwn M) idx C0 ∈ tb0) (hao : ∀ (G : xG) (base : Nat) (U : State), x_PX G base U → va_AO C0 U) (ht : ∀ G : xG, (x_tys G)[kd]? = some (G.2 kd, .object C0)) (hd : (mIns M)[k]? = some (pc, .anewarray idx, 3)) (hn : pc + 3 = nx)
    (hF : ∀ c, c < N → F2 c = F c) (hFN : F2 N = .inr (.inl (kd, List.replicate n none))) (hbytes : n * 4 ≤ 536870912) (hcc : kc + 1 ≤ mc) (hss : ks + n ≤ ms)
    (kk : x_E M mc ms nx ls (.ref N :: st) (Wd (N + 1) F2 σ) (kc + 1) (ks + n) o Y) : x_E M mc ms pc ls (.int (ii n) :: st) (Wd N F σ) kc ks o Y := by
  subst hn
  intro p l e s m args below meth c H locs arr G base C w S hl
  have hts := C.2.2.2.2.2.2.1
  have hK := C.2.2.2.2.2.2.2.1.1
  have hsz : H.size = base + N := w.2 rfl
  have hclm : (ii n).toNatClampNeg = n := by rw [ii_clamp (by omega) (by omega)]; rfl
  have hneg : ¬ ii n < 0 := fun q => by
    have := (ii_lt (x := n) (y := 0) (by unfold xr; omega) xr_0).mp q
    omega
  refine W.anew C.2.1 C.2.2.1 C.2.2.2.2.2.1 (hts _ hcl) (va_AO.use (hao G base s C.2.2.2.2.2.2.2.1)) rfl (x_dec C.1 hd) rfl hneg (by rw [hclm]; exact hbytes) hcc (by rw [hclm]; exact hss) fun cA kA comp f1 f2 f3 f4 => ?_
  rw [hclm]
  generalize hH1 : H.push ({ cls := cA, slots := Array.replicate n .null, vm := .none } : Cell) = H1
  have z1 : H1.size = H.size + 1 := by rw [← hH1, Array.size_push]
  have e1 : H1[H.size]? = some (arrV cA n (fun _ => .null)) := by rw [← hH1, Array.getElem?_push_size, ← arrV_new]
  have o1 : ∀ q : Nat, q < H.size → H1[q]? = H[q]? := fun q hq => by rw [← hH1, Array.getElem?_push, if_neg (Nat.ne_of_lt hq)]
  obtain ⟨kA', comp', -, -, -, hf⟩ := (hK.2 kd _ (ht G)).2
  have hcA : cA = G.2 kd := Option.some.inj (f1.symm.trans hf)
  subst hcA
  obtain ⟨w1, S1⟩ := x_grow (F2 := F2) w S hF z1 o1 (by
    rw [hFN]
    rw [hsz] at e1
    show H1[base + N]? = some (vp_cell _ (x_rarr base (List.replicate n none)))
    have er : x_rarr base (List.replicate n none) = (n, .inr (.inr (.inr (.inr (fun _ => none))))) := by
      unfold x_rarr
      rw [List.length_replicate]
      congr 5
      funext j
      by_cases hj : j < n
      · simp [List.getD_eq_getElem?_getD, List.getElem?_replicate, hj]
      · simp [List.getD_eq_getElem?_getD, List.getElem?_replicate, hj]
    rw [er, vp_cell_q]
    exact e1)
  have := kk p l e s m args below meth c H1 locs arr G base C w1 S1 hl
  rw [show (List.map (x_v base) (.ref N :: st)) = .ref H.size :: st.map (x_v base) by rw [hsz]; rfl] at this
  exact this
theorem w_aastore (k nx : Nat) {a v x n kd ci : Nat} {r : vw_C} {rs : List (Option Nat)} {fs : List (Option (Option Nat))} {F2 : Nat → xShp} (hd : (mIns M)[k]? = some (pc, .aastore, 1)) (hn : pc + 1 = nx) (ha : a < N) (hs : F a = .inr (.inl (kd, rs))) (hv : v < N) (hsv : F v = .inr (.inr (ci, fs))) (hr : vwCl[ci]? = some r) (ht : ∀ G : xG, (x_tys G)[kd]? = some (G.2 kd, .object r.1)) (hx : x < rs.length) (hl2 : rs.length < 2147483648)
    (hF : ∀ c, c < N → c ≠ a → F2 c = F c) (hFa : F2 a = .inr (.inl (kd, rs.set x (some v))))
    (kk : x_E M mc ms nx ls st (Wd N F2 σ) kc ks o Y) : x_E M mc ms pc ls (.ref v :: .int (ii x) :: .ref a :: st) (Wd N F σ) kc ks o Y := by
  subst hn
  intro p l e s m args below meth c H locs arr G base C w S hl
  have hK := C.2.2.2.2.2.2.2.1.1
  have he : (x_wl base G (Wd N F σ))[a]? = some (base + a, .inl (G.2 kd, rs.length, .inr (.inr (.inr (.inr fun j => (rs.getD j none).map (fun b => base + b)))))) := by rw [x_wl_at (X := Wd N F σ) ha]; show some (base + a, x_cell base G (F a) (σ a)) = _; rw [hs]; rfl
  have hev : (x_wl base G (Wd N F σ))[v]? = some (base + v, .inr (ci, x_obj base fs (σ v))) := by rw [x_wl_at (X := Wd N F σ) hv]; show some (base + v, x_cell base G (F v) (σ v)) = _; rw [hsv]; rfl
  have hin := ii_in (x := x) (n := rs.length) (by omega) (by omega) hl2
  have h0 : ¬ ii x < 0 := fun q => hin (Or.inl q)
  obtain ⟨r', hr', cellV, g1, g2, g3, -⟩ := w.1 v _ hev
  have hclss := (hK.1 ci r hr).2
  obtain ⟨kA, comp, k1, k2, k3, -⟩ := (hK.2 kd _ (ht G)).2
  have hcomp : comp = G.1.1 ci := Option.some.inj (k3.symm.trans hclss.1)
  subst hcomp
  obtain ⟨kC, hkC, -⟩ := hclss.2
  have hlt : (ii x).toNatClampNeg < rs.length := Nat.not_le.mp fun q => hin (Or.inr q)
  have hclm : (ii x).toNatClampNeg = x := by rw [ii_clamp (by omega) (by omega)]; rfl
  refine W.aast C.2.1 C.2.2.1 (w.1 a _ he) (fun q h => by cases h) (fun h => by cases h) k1 k2 rfl hkC ⟨h0, by show _ < (arrV _ _ _).slots.size; rw [arrV_size]; exact hlt⟩ g1 (fun q h => by rw [g3] at h; cases h) (by rw [g2]; exact hkC) (by rw [g2]; exact va_assign hclss) rfl rfl (x_dec C.1 hd) fun H1 e9 z oq => ?_
  have hat : va_at G.1 vwCl (base + a, x_cell base G (F2 a) (σ a)) H1 := by
    rw [hFa]
    show H1[base + a]? = some (vp_cell _ (x_rarr base (rs.set x (some v))))
    rw [e9, hclm]
    unfold x_rarr
    rw [List.length_set, vp_cell_q, vp_cell_q, arrV_store]
    congr 2
    funext j
    by_cases e : j = x
    · subst e
      simp [updV, va_rf, List.getD_eq_getElem?_getD, hx]
    · have e2 : x ≠ j := fun q => e q.symm
      simp [updV, e, List.getD_eq_getElem?_getD, List.getElem?_set_ne e2]
  have hP := va_P.set w.1 x_D he hat oq
  rw [x_wl_upd ha hF rfl] at hP
  exact kk p l e s m args below meth c H1 _ arr G base C ⟨hP, fun h => z.trans (w.2 h)⟩ (S.put z oq (Nat.le_add_right base a)) hl
theorem w_putR (k nx : Nat) {ci j a idx b : Nat} {fs fs' : List (Option (Option Nat))} {F0 : Nat → xShp} {ty : FieldType} (hk : x_CK ci) (hf : x_FL (mOwn M) idx ci j ty true) (hd : (mIns M)[k]? = some (pc, .putfield idx, 3)) (hn : pc + 3 = nx) (hinit : (mY M).name = "<init>") (hcls : ∀ r : vw_C, vwCl[ci]? = some r → r.1 = mOwn M) (ha : a < N) (hj : j < fs.length) (hnar : ∀ q, narrow ty (.ref q) = .ref q) (hfit : ∀ q, fits ty (.ref q) = true) (hfs : fs.set j (some (some b)) = fs')
    (kk : x_E M mc ms nx ls st (Wd N (xfs F0 a (.inr (.inr (ci, fs')))) σ) kc ks o Y) : x_E M mc ms pc ls (.ref b :: .ref a :: st) (Wd N (xfs F0 a (.inr (.inr (ci, fs)))) σ) kc ks o Y := by
  subst hfs
  refine e_putF (X := Wd N (xfs F0 a (.inr (.inr (ci, fs)))) σ) (X2 := Wd N (xfs F0 a (.inr (.inr (ci, fs.set j (some (some b)))))) σ) k nx hk hf hd hn hinit hcls ha (xfs_at _ _ _) hj (fun base => hnar _) (fun base => hfit _) (fun base G => ?_) rfl rfl kk
  refine x_wl_upd ha (fun c _ hc => by rw [xfs_ne _ _ hc, xfs_ne _ _ hc]) ?_
  rw [xfs_at]
  show Sum.inr (ci, (x_obj base fs (σ a)).set j (.ref (base + b))) = Sum.inr (ci, x_obj base (fs.set j (some (some b))) (σ a))
  rw [x_objR hj]
theorem w_put0 (k nx : Nat) {ci j a idx : Nat} {fs : List (Option (Option Nat))} {v : Int} (hk : x_CK ci) (hf : x_FL (mOwn M) idx ci j .int false) (hd : (mIns M)[k]? = some (pc, .putfield idx, 3)) (hn : pc + 3 = nx) (ha : a < N) (hs : F a = .inr (.inr (ci, fs))) (hj : fs[j]? = some none) (hv : σ a j = v)
    (kk : x_E M mc ms nx ls st (Wd N F σ) kc ks o Y) : x_E M mc ms pc ls (.int (ii v) :: .ref a :: st) (Wd N F σ) kc ks o Y := by
  refine e_putI (X := Wd N F σ) k nx hk hf hd hn ha hs hj ?_
  show x_E M mc ms nx ls st (Wd N F (xu σ a j v)) kc ks o Y
  rw [show xu σ a j v = σ by rw [← hv]; exact xu_id σ a j]
  exact kk
theorem w_put0Z (k nx : Nat) {ci j a idx : Nat} {fs : List (Option (Option Nat))} (hk : x_CK ci) (hf : x_FL (mOwn M) idx ci j .boolean false) (hd : (mIns M)[k]? = some (pc, .putfield idx, 3)) (hn : pc + 3 = nx) (ha : a < N) (hs : F a = .inr (.inr (ci, fs))) (hj : fs[j]? = some none) (hv : σ a j = 0)
    (kk : x_E M mc ms nx ls st (Wd N F σ) kc ks o Y) : x_E M mc ms pc ls (.int (ii 0) :: .ref a :: st) (Wd N F σ) kc ks o Y := by
  refine e_putZ (X := Wd N F σ) k nx hk hf hd hn (Or.inl rfl) ha hs hj ?_
  show x_E M mc ms nx ls st (Wd N F (xu σ a j 0)) kc ks o Y
  rw [show xu σ a j 0 = σ by rw [← hv]; exact xu_id σ a j]
  exact kk
theorem w_objinit (k nx : Nat) {a idx : Nat} {X : xS} (hlk : Cond.methodLink (mOwn M) idx Lib.objectInit ∈ tb0) (hins : Cond.instanceMethod Lib.objectInit ∈ tb0) (hco : Cond.code Lib.objectInit ⟨#[0xb1]⟩ 1 none ∈ tb0) (hd : (mIns M)[k]? = some (pc, .invokespecial idx, 3)) (hn : pc + 3 = nx) (hfr : 1 ≤ mFr M) (hlo : 20 ≤ mLo M) (hrest : (st.map fun v => v.category).sum ≤ 8)
    (kk : x_E M mc ms nx ls st X kc ks o Y) : x_E M mc ms pc ls (.ref a :: st) X kc ks o Y := by
  subst hn
  intro p l e s m args below meth c H locs arr G base C w S hl
  have hts := C.2.2.2.2.2.2.1
  refine W.objInit C.2.1 C.2.2.1 C.2.2.2.2.2.1 (hts _ hlk) (hts _ hins) (hts _ hco) rfl (hl.1.trans C.2.2.2.2.1.symm) rfl (x_dec C.1 hd) hfr ?_ (kk p l e s m args below meth c H locs arr G base C w S hl)
  rw [x_cats]
  show 2 * (F0 m pc arr _).monitorRoom + _ + 12 ≤ mLo M
  have := lv_room (m := m) (pc := pc) (ls := arr) (rest := (Value.ref a :: st).map (x_v base)) (st := st) hrest
  omega
theorem w_known {X : xS} (kk : x_E M mc ms pc ls st (xN X, xF X, xM X, false) kc ks o Y) : x_E M mc ms pc ls st X kc ks o Y := by
  intro p l e s m args below meth c H locs arr G base C w S hl
  exact kk p l e s m args below meth c H locs arr G base C ⟨w.1, fun h => by cases h⟩ S hl
end XNW
