/-! ===== the calls as rules of the judgement ===== -/
def x_rv : Option Nat → Value
  | none => .null
  | some b => .ref b
theorem x_rv_v (base : Nat) (r : Option Nat) : x_v base (x_rv r) = x_rf base r := by cases r <;> rfl
/-- a contract that answers, as the kit's plain contract -/
theorem x_Sp.met {M : x_MT} {mc ms : Nat} {av : List Value} {X Y : xS} {v : Option Value} (h : x_Sp M mc ms av X (.inl v) Y) (l : Launch) (G : xG) (base : Nat) (hst : l.stackTraces = false) :
    Met l (mY M) (x_ws M) (x_rm M mc ms) (x_Pc base G av X) (x_Qc base G (.inl v) Y) mc ms (x_A base) := by
  refine MetFree.mono (h l G base hst) (fun _ _ h => h) (fun _ _ _ _ _ h => h) (fun a s o t _ hq => ?_)
  rcases hq with hq | ⟨q, -, E, ce, L, ⟨hx, -⟩, -⟩
  · exact hq
  · cases hx
section XC2
variable {M : x_MT} {mc ms pc kc ks : Nat} {ls : List (Option Value)} {st : List Value} {X Y : xS} {o : xO}
theorem e_callV (k nx : Nat) {M' : x_MT} {idx n b ci mc' ms' : Nat} {r : vw_C} {fs : List (Option (Option Nat))} {av rest : List Value} {v : Option Value} {X' : xS} (sp : x_Sp M' mc' ms' (.ref b :: av) X (.inl v) X') (ok' : x_MOk M') (cv : x_CV (mOwn M) M' idx n) (hR : x_Rm M M') (hd : (mIns M)[k]? = some (pc, .invokevirtual idx, 3)) (hn : pc + 3 = nx)
    (hb : b < xN X) (hs : xF X b = .inr (.inr (ci, fs))) (hc : vwCl[ci]? = some r) (hrn : r.1 = mOwn M') (hst : st = av.reverse ++ .ref b :: rest) (hnn : av.length = n) (hrest : (rest.map fun v => v.category).sum ≤ 8) (hcc : kc + mc' ≤ mc) (hss : ks + ms' ≤ ms)
    (kk : x_E M mc ms nx ls (v.toList ++ rest) X' (kc + mc') (ks + ms') o Y) : x_E M mc ms pc ls st X kc ks o Y := by
  subst hn
  subst hst
  intro p l e s m args below meth c H locs arr G base C w S hl
  exact x_back (x_runV C w S hl (x_dec C.1 hd) ok' cv hR hb hs hc hrn hnn hrest hcc hss sp) C S hl kk
theorem e_callVT (k : Nat) {M' : x_MT} {idx n b ci mc' ms' : Nat} {r : vw_C} {fs : List (Option (Option Nat))} {av rest : List Value} {E0 : String} {X' : xS} (sp : x_Sp M' mc' ms' (.ref b :: av) X (.inr E0) X') (ok' : x_MOk M') (cv : x_CV (mOwn M) M' idx n) (hR : x_Rm M M') (hd : (mIns M)[k]? = some (pc, .invokevirtual idx, 3))
    (hb : b < xN X) (hs : xF X b = .inr (.inr (ci, fs))) (hc : vwCl[ci]? = some r) (hrn : r.1 = mOwn M') (hst : st = av.reverse ++ .ref b :: rest) (hnn : av.length = n) (hrest : (rest.map fun v => v.category).sum ≤ 8) (hcc : kc + mc' ≤ mc) (hss : ks + ms' ≤ ms) : x_E M mc ms pc ls st X kc ks (.inr E0) X' := by
  subst hst
  intro p l e s m args below meth c H locs arr G base C w S hl
  exact x_backX (x_runV C w S hl (x_dec C.1 hd) ok' cv hR hb hs hc hrn hnn hrest hcc hss sp) C S hcc hss
theorem e_callS (k nx : Nat) {M' : x_MT} {idx n mc' ms' : Nat} {av rest : List Value} {v : Option Value} {X' : xS} (sp : x_Sp M' mc' ms' av X (.inl v) X') (ok' : x_MOk M') (cv : x_CS (mOwn M) M' idx n) (hR : x_Rm M M') (hd : (mIns M)[k]? = some (pc, .invokestatic idx, 3)) (hn : pc + 3 = nx)
    (hst : st = av.reverse ++ rest) (hnn : av.length = n) (hrest : (rest.map fun v => v.category).sum ≤ 8) (hcc : kc + mc' ≤ mc) (hss : ks + ms' ≤ ms)
    (kk : x_E M mc ms nx ls (v.toList ++ rest) X' (kc + mc') (ks + ms') o Y) : x_E M mc ms pc ls st X kc ks o Y := by
  subst hn
  subst hst
  intro p l e s m args below meth c H locs arr G base C w S hl
  exact x_back (x_runS C w S hl (x_dec C.1 hd) ok' cv hR hnn hrest hcc hss sp) C S hl kk
theorem x_toRun {p : Program} {l : Launch} {e : Env} {R : Room} {s : State} {m : MethodId} {args : Array Value} {below : List Frame} {meth : Method} {c : Code} {H : Heap} {locs : List Loc} {cells slots mc ms : Nat} {g : JFrame} {rest : List Value} {Qa : State → Outcome → State → Prop} {XC : String → State → State → Prop} {free : Addr → Prop} (h : va_Run p l e R s m args below meth c H locs cells slots mc ms g rest Qa free) : vx_Run p l e R s m args below meth c H locs cells slots mc ms g rest Qa XC free :=
  fun T hT X => Or.inl (h T hT X)
theorem e_callI (k nx : Nat) {M' : x_MT} {idx n b mc' ms' : Nat} {av rest : List Value} {X' : xS} (sp : x_Sp M' mc' ms' (.ref b :: av) X (.inl none) X') (ok' : x_MOk M') (cv : x_CI (mOwn M) M' idx n) (hR : x_Rm M M') (hd : (mIns M)[k]? = some (pc, .invokespecial idx, 3)) (hn : pc + 3 = nx)
    (hst : st = av.reverse ++ .ref b :: rest) (hnn : av.length = n) (hrest : (rest.map fun v => v.category).sum ≤ 8) (hcc : kc + mc' ≤ mc) (hss : ks + ms' ≤ ms)
    (kk : x_E M mc ms nx ls rest X' (kc + mc') (ks + ms') o Y) : x_E M mc ms pc ls st X kc ks o Y := by
  subst hn
  subst hst
  intro p l e s m args below meth c H locs arr G base C w S hl
  have hts := C.2.2.2.2.2.2.1
  obtain ⟨c1, c2, c3, c4, c5⟩ := cv
  have hcb := x_callB (mc := mc) (ms := ms) (mc' := mc') (ms' := ms') C ok' c1 c5 hR
  rw [c4] at hcb
  exact x_back (v := none) (x_toRun (va_runI (As := av.map (x_v base)) (b := base + b) (rest := rest.map (x_v base)) (x_fix C) (sp.met l G base C.2.2.2.2.2.2.2.2.2.2.2) ⟨hcb, c3, hts _ c2⟩ (x_pre (av := .ref b :: av) C w S) rfl (by rw [List.length_map]; exact hnn) hl.1 (by simp [x_v]) (lv_room (by rw [x_cats]; exact hrest)) (x_dec C.1 hd) ⟨hcc, hss⟩)) C S hl kk
theorem x_callN {p : Program} {l : Launch} {s : State} {m : MethodId} {args : Array Value} {meth : Method} {c : Code} {G : xG} {base : Nat} {M' : x_MT} {idx n mc' ms' : Nat} (C : x_Cx M p l s m args meth c G base) (ok' : x_MOk M') (hl : Cond.methodLinkNest (mOwn M) idx (mY M') "Shardmoor" ∈ x_nw) (hn : (parseMethodDescriptor (mY M').desc).map (fun d => d.parameters.length) = some n) (hR : x_Rm M M') :
    va_CN (x_rm M mc ms) s args (mOwn M) idx (mY M') "Shardmoor" (mCode M') (mL M') (mRet M') (x_ws M') (x_rm M' mc' ms') mc' ms' n := by
  have hts := C.2.2.2.2.2.2.1
  refine ⟨⟨rfl, rfl, hR.1, hR.2, pay_in hts (fun w hw => ?_), List.mem_cons_self⟩, hts _ ok'.2.1, hts _ ok'.2.2.2.2.1, ok'.2.2.2.2.2, fun sig h => ?_, va_Nw.use rfl (C.2.2.2.2.2.2.2.1.2.1 _ hl)⟩
  · rcases List.mem_cons.mp hw with rfl | h
    · exact ⟨ok'.2.1, (tb0_good _ ok'.2.1).2⟩
    · exact tb0_good w h
  · rw [h] at hn
    exact (Option.some.inj hn).symm
theorem e_callIN (k nx : Nat) {M' : x_MT} {idx n b mc' ms' : Nat} {av rest : List Value} {X' : xS} (sp : x_Sp M' mc' ms' (.ref b :: av) X (.inl none) X') (ok' : x_MOk M') (cv : x_CIN (mOwn M) M' idx n) (hR : x_Rm M M') (hd : (mIns M)[k]? = some (pc, .invokespecial idx, 3)) (hn : pc + 3 = nx)
    (hst : st = av.reverse ++ .ref b :: rest) (hnn : av.length = n) (hrest : (rest.map fun v => v.category).sum ≤ 8) (hcc : kc + mc' ≤ mc) (hss : ks + ms' ≤ ms)
    (kk : x_E M mc ms nx ls rest X' (kc + mc') (ks + ms') o Y) : x_E M mc ms pc ls st X kc ks o Y := by
  subst hn
  subst hst
  intro p l e s m args below meth c H locs arr G base C w S hl
  have hts := C.2.2.2.2.2.2.1
  obtain ⟨c1, c2, c3, c4, c5⟩ := cv
  have hcb := x_callN (mc := mc) (ms := ms) (mc' := mc') (ms' := ms') C ok' c1 c5 hR
  rw [c4] at hcb
  exact x_back (v := none) (x_toRun (va_runIN (As := av.map (x_v base)) (b := base + b) (rest := rest.map (x_v base)) (x_fix C) (sp.met l G base C.2.2.2.2.2.2.2.2.2.2.2) ⟨hcb, c3, hts _ c2⟩ (x_pre (av := .ref b :: av) C w S) rfl (by rw [List.length_map]; exact hnn) hl.1 (by simp [x_v]) (lv_room (by rw [x_cats]; exact hrest)) (x_dec C.1 hd) ⟨hcc, hss⟩)) C S hl kk
theorem e_callSN (k nx : Nat) {M' : x_MT} {idx n mc' ms' : Nat} {av rest : List Value} {v : Option Value} {X' : xS} (sp : x_Sp M' mc' ms' av X (.inl v) X') (ok' : x_MOk M') (cv : x_CSN (mOwn M) M' idx n) (hR : x_Rm M M') (hd : (mIns M)[k]? = some (pc, .invokestatic idx, 3)) (hn : pc + 3 = nx)
    (hst : st = av.reverse ++ rest) (hnn : av.length = n) (hrest : (rest.map fun v => v.category).sum ≤ 8) (hcc : kc + mc' ≤ mc) (hss : ks + ms' ≤ ms)
    (kk : x_E M mc ms nx ls (v.toList ++ rest) X' (kc + mc') (ks + ms') o Y) : x_E M mc ms pc ls st X kc ks o Y := by
  subst hn
  subst hst
  intro p l e s m args below meth c H locs arr G base C w S hl
  have hts := C.2.2.2.2.2.2.1
  obtain ⟨c1, c2, c5⟩ := cv
  exact x_back (x_toRun (va_runSN (As := av.map (x_v base)) (rest := rest.map (x_v base)) (x_fix C) (sp.met l G base C.2.2.2.2.2.2.2.2.2.2.2) ⟨x_callN C ok' c1 c5 hR, hts _ c2, trivial⟩ (x_pre C w S) rfl (by rw [List.length_map]; exact hnn) hl.1 (by simp) (lv_room (by rw [x_cats]; exact hrest)) (x_dec C.1 hd) ⟨hcc, hss⟩)) C S hl kk
/-! ===== cells ===== -/
theorem x_obj_at {base : Nat} {fs : List (Option (Option Nat))} {m : Int → Int} {j : Nat} {f : Option (Option Nat)} (h : fs[j]? = some f) : (x_obj base fs m)[j]? = some (x_fld base m j f) := by
  have hj := (List.getElem?_eq_some_iff.mp h).1
  simp [x_obj, hj, List.getD_eq_getElem?_getD, h]
  rw [(List.getElem?_eq_some_iff.mp h).2]
theorem e_get {k nx ci j a idx : Nat} {fs : List (Option (Option Nat))} {f : Option (Option Nat)} {ty : FieldType} {fin : Bool} {v : Value} (hk : x_CK ci) (hf : x_FL (mOwn M) idx ci j ty fin) (hd : (mIns M)[k]? = some (pc, .getfield idx, 3)) (hn : pc + 3 = nx) (ha : a < xN X) (hs : xF X a = .inr (.inr (ci, fs))) (hj : fs[j]? = some f) (hv : ∀ base, x_fld base (xM X a) j f = x_v base v)
    (kk : x_E M mc ms nx ls (v :: st) X kc ks o Y) : x_E M mc ms pc ls (.ref a :: st) X kc ks o Y := by
  subst hn
  intro p l e s m args below meth c H locs arr G base C w S hl
  obtain ⟨⟨R, T, N⟩, k1, k2, k3, k4, k5⟩ := hk
  obtain ⟨r', f1, f2, f3, -⟩ := hf
  cases k1.symm.trans f1
  have he : (x_wl base G X)[a]? = some (base + a, .inr (ci, x_obj base fs (xM X a))) := by rw [x_wl_at ha, hs]; rfl
  have f3' : Cond.fieldLink (mOwn M) idx (T j).1 (T j).2.1 (T j).2.2.1 ∈ tb0 := by rw [k5 j f2]; exact f3
  refine va_get (v := x_v base v) C.2.1 C.2.2.1 C.2.2.2.2.2.2.1 k2 C.2.2.2.2.2.1 C.2.2.2.2.2.2.2.1.1 w.1 a he f1 j f2 (C.2.2.2.2.2.2.1 _ f3') (fun _ h => h) (by rw [x_obj_at hj, hv base]) (x_dec C.1 hd) ?_
  exact kk p l e s m args below meth c H locs arr G base C w S hl
theorem e_getI (k nx : Nat) {ci j a idx : Nat} {fs : List (Option (Option Nat))} {ty : FieldType} {fin : Bool} (hk : x_CK ci) (hf : x_FL (mOwn M) idx ci j ty fin) (hd : (mIns M)[k]? = some (pc, .getfield idx, 3)) (hn : pc + 3 = nx) (ha : a < xN X) (hs : xF X a = .inr (.inr (ci, fs))) (hj : fs[j]? = some none)
    (kk : x_E M mc ms nx ls (.int (ii (xM X a j)) :: st) X kc ks o Y) : x_E M mc ms pc ls (.ref a :: st) X kc ks o Y := e_get hk hf hd hn ha hs hj (fun _ => rfl) kk
theorem e_getR (k nx : Nat) {ci j a idx : Nat} {fs : List (Option (Option Nat))} {ty : FieldType} {fin : Bool} {b : Nat} (hk : x_CK ci) (hf : x_FL (mOwn M) idx ci j ty fin) (hd : (mIns M)[k]? = some (pc, .getfield idx, 3)) (hn : pc + 3 = nx) (ha : a < xN X) (hs : xF X a = .inr (.inr (ci, fs))) (hj : fs[j]? = some (some (some b)))
    (kk : x_E M mc ms nx ls (.ref b :: st) X kc ks o Y) : x_E M mc ms pc ls (.ref a :: st) X kc ks o Y := e_get hk hf hd hn ha hs hj (fun _ => rfl) kk
theorem e_getIN (k nx : Nat) {ci j a idx : Nat} {fs : List (Option (Option Nat))} (hk : x_CK ci) (hf : x_FN (mOwn M) idx ci j) (hd : (mIns M)[k]? = some (pc, .getfield idx, 3)) (hn : pc + 3 = nx) (ha : a < xN X) (hs : xF X a = .inr (.inr (ci, fs))) (hj : fs[j]? = some none)
    (kk : x_E M mc ms nx ls (.int (ii (xM X a j)) :: st) X kc ks o Y) : x_E M mc ms pc ls (.ref a :: st) X kc ks o Y := by
  subst hn
  intro p l e s m args below meth c H locs arr G base C w S hl
  obtain ⟨⟨R, T, N⟩, k1, k2, k3, k4, k5⟩ := hk
  obtain ⟨r', f1, f2, f3⟩ := hf
  cases k1.symm.trans f1
  have he : (x_wl base G X)[a]? = some (base + a, .inr (ci, x_obj base fs (xM X a))) := by rw [x_wl_at ha, hs]; rfl
  have f3' : Cond.fieldLinkNest (mOwn M) idx (T j).1 (T j).2.1 (T j).2.2.1 "Shardmoor" ∈ x_nw := by rw [k5 j f2]; exact f3
  refine va_getN (v := .int (ii (xM X a j))) C.2.1 C.2.2.1 C.2.2.2.2.2.2.1 k2 C.2.2.2.2.2.1 C.2.2.2.2.2.2.2.1.1 w.1 a he f1 j f2 (va_Nw.use rfl (C.2.2.2.2.2.2.2.1.2.1 _ f3')) (fun _ h => h) (by rw [x_obj_at hj]; rfl) (x_dec C.1 hd) ?_
  exact kk p l e s m args below meth c H locs arr G base C w S hl
theorem x_obj_set {base : Nat} {fs : List (Option (Option Nat))} {m : Int → Int} {j : Nat} (hj : fs[j]? = some none) (v : Int) : (x_obj base fs m).set j (.int (ii v)) = x_obj base fs (fun i => if i = j then v else m i) := by
  apply List.ext_getElem?
  intro q
  have hl : j < fs.length := (List.getElem?_eq_some_iff.mp hj).1
  by_cases hq : q < fs.length
  · have h2 : (x_obj base fs (fun i => if i = j then v else m i))[q]? = some (x_fld base (fun i => if i = j then v else m i) q fs[q]) := x_obj_at (List.getElem?_eq_getElem hq)
    have h1 : (x_obj base fs m)[q]? = some (x_fld base m q fs[q]) := x_obj_at (List.getElem?_eq_getElem hq)
    rw [h2]
    by_cases hqj : q = j
    · subst hqj
      rw [List.getElem?_set_self (by simpa [x_obj] using hq)]
      have : fs[q] = none := (List.getElem?_eq_some_iff.mp hj).2
      rw [this]
      simp [x_fld]
    · rw [List.getElem?_set_ne (Ne.symm hqj), h1]
      cases fs[q] with
      | none => simp [x_fld]; rw [if_neg (by omega)]
      | some r => rfl
  · rw [List.getElem?_eq_none_iff.mpr (by simp [x_obj]; omega), List.getElem?_eq_none_iff.mpr (by simp [x_obj]; omega)]
theorem x_setM {base : Nat} {G : xG} {a : Nat} {j v : Int} {e : va_E} (ha : a < xN X) (he : e = x_cell base G (xF X a) (fun i => if i = j then v else xM X a i)) : (x_wl base G X).set a (base + a, e) = x_wl base G (xSet X (xu (xM X) a j v)) := by
  rw [x_wl_set (Y := xSet X (xu (xM X) a j v)) ha rfl (fun b hb => ?_), he]
  · have h9 : xM (xSet X (xu (xM X) a j v)) a = fun i => if i = j then v else xM X a i := by
      funext i
      show xu (xM X) a j v a i = _
      simp [xu]
    rw [h9]
  · show x_cell base G (xF X b) (xu (xM X) a j v b) = _
    congr 1
    funext i
    exact xu_ne _ (Or.inl hb)
theorem x_size {base : Nat} {G : xG} {σ : xSig} {H H1 : Heap} (w : x_W base G X H) (hP : va_P G.1 vwCl (x_wl base G (xSet X σ)) H1) (hz : H1.size = H.size) : x_W base G (xSet X σ) H1 :=
  ⟨hP, fun h => hz.trans (w.2 h)⟩
end XC2
