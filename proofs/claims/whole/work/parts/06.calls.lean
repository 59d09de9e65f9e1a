/-! ===== entry, answers, calls ===== -/
def x_en : List Value → List (Option Value)
  | [] => []
  | v :: r => bif x_is2 (some (some v)) then some v :: none :: x_en r else some v :: x_en r
theorem x_is2_cat (v : Value) : x_is2 (some (some v)) = true ↔ v.category = 2 := by cases v <;> simp [x_is2, Value.category]
theorem x_en_mem {base : Nat} {q : Nat × Value} : ∀ (av : List Value) (i : Nat) (r : List (Option Value)), (∀ z, some z ∉ r) → q ∈ x_ls base i (x_en av ++ r) → q ∈ lv_args i (av.map (x_v base)) := by
  intro av
  induction av with
  | nil =>
    intro i r hr hq
    obtain ⟨k, u, h1, -⟩ := (x_ls_mem _ i).mp hq
    exact absurd (List.mem_of_getElem? h1) (by simpa [x_en] using hr u)
  | cons v av ih =>
    intro i r hr hq
    cases hb : x_is2 (some (some v)) with
    | true =>
      have e : x_en (v :: av) = some v :: none :: x_en av := by show (bif x_is2 (some (some v)) then _ else _) = _; rw [hb]; rfl
      have hc : (x_v base v).category = 2 := (x_v_cat base v).trans ((x_is2_cat v).mp hb)
      rw [e] at hq
      simp only [List.cons_append, x_ls, List.mem_cons] at hq
      simp only [List.map_cons, lv_args, hc, if_true, List.mem_cons]
      rcases hq with h | h
      · exact Or.inl h
      · exact Or.inr (ih (i + 2) r hr h)
    | false =>
      have e : x_en (v :: av) = some v :: x_en av := by show (bif x_is2 (some (some v)) then _ else _) = _; rw [hb]; rfl
      have hc : ¬ (x_v base v).category = 2 := fun z => by rw [x_v_cat] at z; rw [(x_is2_cat v).mpr z] at hb; cases hb
      rw [e] at hq
      simp only [List.cons_append, x_ls, List.mem_cons] at hq
      simp only [List.map_cons, lv_args, hc, if_false, List.mem_cons]
      rcases hq with h | h
      · exact Or.inl h
      · exact Or.inr (ih (i + 1) r hr h)
theorem x_sl_len (base : Nat) : ∀ av : List Value, (lg_sl (av.map (x_v base))).length = (x_en av).length := by
  intro av
  induction av with
  | nil => rfl
  | cons v av ih =>
    have e : lg_sl ((v :: av).map (x_v base)) = (if (x_v base v).category = 2 then [Slot.val (x_v base v), .second] else [.val (x_v base v)]) ++ lg_sl (av.map (x_v base)) := by simp [lg_sl]
    rw [e, List.length_append, ih]
    show _ = (bif x_is2 (some (some v)) then _ else _ : List (Option Value)).length
    cases hb : x_is2 (some (some v)) with
    | true =>
      rw [if_pos ((x_v_cat base v).trans ((x_is2_cat v).mp hb))]
      show _ = (some v :: none :: x_en av).length
      simp; omega
    | false =>
      rw [if_neg (fun z => by rw [x_v_cat] at z; rw [(x_is2_cat v).mpr z] at hb; cases hb)]
      show _ = (some v :: x_en av).length
      simp; omega
/-- a contract out of the judgement at the method's entry -/
theorem e_entry {M : x_MT} {mc ms : Nat} {av : List Value} {ls : List (Option Value)} {X Y : xS} {o : xO} (ok : x_MOk M) (hn : (x_en av).length ≤ mL M) (hls : x_en av ++ List.replicate (mL M - (x_en av).length) none = ls) (kk : x_E M mc ms 0 ls [] X 0 0 o Y) : x_Sp M mc ms av X o Y := by
  intro l G base hst
  refine vx_ofW (cc := mCode M) (maxL := mL M) (ret := mRet M) ok.2.2.1 rfl ?_
  intro p e s m args below meth c s₁ B hml htab hv
  obtain ⟨rfl, hw, hp⟩ := hv
  have hts := atoms_spec (ws := x_ws M) B.pre
  have hlen : (lg_sl (av.map (x_v base))).length ≤ mL M := by rw [x_sl_len]; exact hn
  have hl := lv_entry (av.map (x_v base)) hlen
  rw [lg_entry_eq]
  have hown : s.vm.findClass (mOwn M) = some m.cls := by rw [← ok.2.2.2.1]; exact findClass_of_methodNamed B.named
  refine kk p l e s m _ below meth c s.heap [] _ G base ⟨ok, B.exec, B.bytes, B.returns, hml, hown, fun w h => hts w (List.mem_cons_of_mem _ h), hp, htab, B.notSynchronized, (name_of_methodNamed B.named B.method).1, hst⟩ hw va_S.rf (x_lsub hl fun q hq => ?_)
  rw [← hls] at hq
  exact x_en_mem av 0 _ (fun z hz => by have := List.eq_of_mem_replicate hz; cases this) hq
section XR
variable {M : x_MT} {mc ms pc kc ks : Nat} {ls : List (Option Value)} {st : List Value} {X Y : xS} {o : xO}
theorem x_fin {below : List Frame} {base : Nat} {G : xG} {s : State} {args : Array Value} {v : Option Value} {H : Heap} {locs : List Loc} (w : x_W base G X H) (S : va_S (x_A base) s.heap H locs) (t : State) (ht : t.heap = H) : x_Qc base G (.inl v) X args s (.returned (v.map (x_v base))) t :=
  ⟨⟨v, rfl, rfl⟩, by rw [ht]; exact w, S.F ht⟩
theorem x_widen {p : Program} {l : Launch} {e : Env} {R : Room} {s : State} {m : MethodId} {args : Array Value} {below : List Frame} {meth : Method} {c : Code} {H : Heap} {locs : List Loc} {Qc : Array Value → State → Outcome → State → Prop} {XC : String → State → State → Prop} {free : Addr → Prop} {g : JFrame} (h1 : kc ≤ mc) (h2 : ks ≤ ms)
    (k : W p l e R s m args below meth c H locs mc ms (vx_MQ below Qc XC args s mc ms free) g) : W p l e R s m args below meth c H locs kc ks (vx_MQ below Qc XC args s mc ms free) g := fun T hT X => k T hT (stand_widen X h1 h2)
theorem e_ireturn (k : Nat) {x : Int} (hd : (mIns M)[k]? = some (pc, .ireturn, 1)) (hr : mRet M = some .int) (hc : kc ≤ mc) (hs : ks ≤ ms) : x_E M mc ms pc ls [.int (ii x)] X kc ks (.inl (some (.int (ii x)))) X := by
  intro p l e s m args below meth c H locs arr G base C w S hl
  refine x_widen hc hs (vx_ret ?_)
  exact W.iret (v := ii x) C.2.1 C.2.2.1 (C.2.2.2.1.trans hr) (fun t ht _ => x_fin (below := below) w S t ht) S.2.2 (x_dec C.1 hd) C.2.2.2.2.2.2.2.2.2.1
theorem e_zreturn (k : Nat) {x : Int} (hd : (mIns M)[k]? = some (pc, .ireturn, 1)) (hr : mRet M = some .boolean) (hx : x = 0 ∨ x = 1) (hc : kc ≤ mc) (hs : ks ≤ ms) : x_E M mc ms pc ls [.int (ii x)] X kc ks (.inl (some (.int (ii x)))) X := by
  intro p l e s m args below meth c H locs arr G base C w S hl
  refine x_widen hc hs (vx_ret ?_)
  exact W.zret (v := ii x) C.2.1 C.2.2.1 (C.2.2.2.1.trans hr) (by rcases hx with rfl | rfl <;> rfl) (fun t ht _ => x_fin (below := below) w S t ht) S.2.2 (x_dec C.1 hd) C.2.2.2.2.2.2.2.2.2.1
theorem e_lreturn (k : Nat) {x : Int64} (hd : (mIns M)[k]? = some (pc, .lreturn, 1)) (hr : mRet M = some .long) (hc : kc ≤ mc) (hs : ks ≤ ms) : x_E M mc ms pc ls [.long x] X kc ks (.inl (some (.long x))) X := by
  intro p l e s m args below meth c H locs arr G base C w S hl
  refine x_widen hc hs (vx_ret ?_)
  exact W.lret (v := x) C.2.1 C.2.2.1 (C.2.2.2.1.trans hr) (fun t ht _ => x_fin (below := below) w S t ht) S.2.2 (x_dec C.1 hd) C.2.2.2.2.2.2.2.2.2.1
theorem e_areturn (k : Nat) {a : Nat} {n : String} (hd : (mIns M)[k]? = some (pc, .areturn, 1)) (hr : mRet M = some (.object n)) (hc : kc ≤ mc) (hs : ks ≤ ms) : x_E M mc ms pc ls [.ref a] X kc ks (.inl (some (.ref a))) X := by
  intro p l e s m args below meth c H locs arr G base C w S hl
  refine x_widen hc hs (vx_ret ?_)
  exact W.aret (v := .ref (base + a)) C.2.1 C.2.2.1 (C.2.2.2.1.trans hr) (Or.inl ⟨n, rfl⟩) (Or.inr ⟨_, rfl⟩) (fun t ht _ => x_fin (below := below) w S t ht) S.2.2 (x_dec C.1 hd) C.2.2.2.2.2.2.2.2.2.1
theorem e_return (k : Nat) (hd : (mIns M)[k]? = some (pc, .return_, 1)) (hr : mRet M = none) (hc : kc ≤ mc) (hs : ks ≤ ms) : x_E M mc ms pc ls [] X kc ks (.inl none) X := by
  intro p l e s m args below meth c H locs arr G base C w S hl
  refine x_widen hc hs (vx_ret ?_)
  exact W.vret C.2.1 C.2.2.1 (C.2.2.2.1.trans hr) (fun t ht _ => x_fin (below := below) w S t ht) S.2.2 (x_dec C.1 hd) C.2.2.2.2.2.2.2.2.2.1
/-! calls -/
variable {p : Program} {l : Launch} {e : Env} {s : State} {m : MethodId} {args : Array Value} {below : List Frame} {meth : Method} {c : Code} {H : Heap} {locs : List Loc} {arr : Array Slot} {G : xG} {base : Nat}
theorem x_blind {av : List Value} : FrameBlind (x_Pc base G av X) := by
  intro a U g mk h
  obtain ⟨h1, h2, h3⟩ := h
  exact ⟨h1, h2, h3.moved (State.WarmedH.refl U) (Nat.le_refl _) (fun _ _ _ => rfl)⟩
theorem x_pre {av : List Value} (C : x_Cx M p l s m args meth c G base) (w : x_W base G X H) (S : va_S (x_A base) s.heap H locs) : PreS s H (x_Pc base G av X) (av.map (x_v base)) :=
  ⟨x_blind, fun U hU hW => ⟨rfl, by rw [hU]; exact w, C.2.2.2.2.2.2.2.1.moved hW (by rw [hU]; exact S.1) (fun q h1 h2 => by rw [hU]; exact S.2.1 q h1 h2)⟩⟩
/-- behind a call that has answered -/
theorem x_back {v : Option Value} {X' : xS} {mc' ms' : Nat} {a : Array Value} {st0 rest : List Value} (hr : vx_Run p l e (x_rm M mc ms) s m args below meth c H locs kc ks mc' ms' (F0 m pc arr st0) (rest.map (x_v base)) (x_Qc base G (.inl v) X' a) (x_XC base G (.inl v) X') (x_A base)) (C : x_Cx M p l s m args meth c G base) (S : va_S (x_A base) s.heap H locs) (hl : lv_has arr (mL M) (x_ls base 0 ls))
    (kk : x_E M mc ms (pc + 3) ls (v.toList ++ rest) X' (kc + mc') (ks + ms') o Y) : W p l e (x_rm M mc ms) s m args below meth c H locs kc ks (vx_MQ below (x_Qc base G o Y) (x_XC base G o Y) args s mc ms (x_A base)) (F0 m pc arr st0) := by
  intro T hT X0
  rcases hr T hT X0 with ⟨v', st₀, t, T', L, h0, X', hL, e1, e2, ⟨⟨v2, hv2, hv⟩, hw, hF⟩, st⟩ | ⟨q, st₀, t, T', L, E, ce, h0, X', hL, e1, e2, ⟨hx, -⟩, -⟩
  · cases hv2
    cases hv
    obtain ⟨k1, k2, k3⟩ := vx_keep h0 e1 S (fun q _ h => h) (fun q h => h) hL hF
    obtain ⟨t2, a1, b1⟩ := kk p l e s m args below meth c T'.heap (locs ++ L) arr G base C (by rw [e1]; exact hw) k3 hl T' rfl X'
    refine ⟨t2, st t2 ?_, b1⟩
    have es : (Option.map (x_v base) v).toList ++ rest.map (x_v base) = (v.toList ++ rest).map (x_v base) := by cases v <;> simp
    rw [es]
    exact a1
  · cases hx
/-- behind a call that has thrown: it goes on to the caller -/
theorem x_backX {E0 : String} {X' : xS} {mc' ms' : Nat} {a : Array Value} {st0 rest : List Value} (hr : vx_Run p l e (x_rm M mc ms) s m args below meth c H locs kc ks mc' ms' (F0 m pc arr st0) (rest.map (x_v base)) (x_Qc base G (.inr E0) X' a) (x_XC base G (.inr E0) X') (x_A base)) (C : x_Cx M p l s m args meth c G base) (S : va_S (x_A base) s.heap H locs) (hc : kc + mc' ≤ mc) (hs : ks + ms' ≤ ms) :
    W p l e (x_rm M mc ms) s m args below meth c H locs kc ks (vx_MQ below (x_Qc base G (.inr E0) X') (x_XC base G (.inr E0) X') args s mc ms (x_A base)) (F0 m pc arr st0) := by
  intro T hT X0
  rcases hr T hT X0 with ⟨v', st₀, t, T', L, h0, X', hL, e1, e2, ⟨⟨v2, hv2, hv⟩, -⟩, -⟩ | ⟨q, st₀, t, T', L, E, ce, h0, X', hL, e1, e2, ⟨hx, hw, hF⟩, hce, hcv, hcl, st⟩
  · cases hv2
  · cases hx
    obtain ⟨k1, k2, k3⟩ := vx_keep h0 e1 S (fun q _ h => h) (fun q h => h) hL hF
    obtain ⟨t2, a1, b1⟩ := vx_out (Qc := x_Qc base G (.inr E0) _) (XC := x_XC base G (.inr E0) _) (args := args) (free := x_A base) (mc := mc) (ms := ms) (pc := pc) (ls := arr) (rest := rest.map (x_v base)) (fun x hx => (C.2.2.2.2.2.2.2.2.1 x hx).elim) C.2.2.2.2.2.2.2.2.2.1 (by rw [e1]; exact hce) hcv hcl (fun t' ht' _ => ⟨rfl, by rw [ht', e1]; exact hw, k3.F ht'⟩) k3.2.2 hc hs T' rfl X'
    exact ⟨t2, st.trans a1, b1⟩
/-- the room of a call -/
def x_Rm (M M' : x_MT) : Prop := mFr M' + 1 ≤ mFr M ∧ 8 + (mL M' + 11) + mLo M' ≤ mLo M
theorem x_callB {M' : x_MT} {idx n mc' ms' : Nat} (C : x_Cx M p l s m args meth c G base) (ok' : x_MOk M') (hl : Cond.methodLink (mOwn M) idx (mY M') ∈ tb0) (hn : (parseMethodDescriptor (mY M').desc).map (fun d => d.parameters.length) = some n) (hR : x_Rm M M') :
    CallB (x_rm M mc ms) s args (mOwn M) idx (mY M') (mCode M') (mL M') (mRet M') (x_ws M') (x_rm M' mc' ms') mc' ms' n := by
  have hts := C.2.2.2.2.2.2.1
  refine ⟨rfl, rfl, hR.1, hR.2, pay_in hts (fun w hw => ?_), List.mem_cons_self, hts _ ok'.2.1, hts _ ok'.2.2.2.2.1, ok'.2.2.2.2.2, fun sig h => ?_, hts _ hl⟩
  · rcases List.mem_cons.mp hw with rfl | h
    · exact ⟨ok'.2.1, (tb0_good _ ok'.2.1).2⟩
    · exact tb0_good w h
  · rw [h] at hn
    exact (Option.some.inj hn).symm
theorem x_fix (C : x_Cx M p l s m args meth c G base) : CallFix p m c (mCode M) (mL M) s args tb0 (mOwn M) := ⟨C.2.1, C.2.2.1, C.2.2.2.2.1, C.2.2.2.2.2.1, C.2.2.2.2.2.2.1⟩
theorem x_cats (base : Nat) (rest : List Value) : (rest.map (x_v base)).map (fun v => v.category) = rest.map (fun v => v.category) := by
  rw [List.map_map]
  exact List.map_congr_left fun v _ => x_v_cat base v
theorem x_lvsize (hl : lv_has arr (mL M) (x_ls base 0 ls)) : arr.size = mL M := hl.1
theorem x_runV {M' : x_MT} {idx n b ci mc' ms' : Nat} {r : vw_C} {fs : List (Option (Option Nat))} {av rest : List Value} {o' : xO} {X' : xS} (C : x_Cx M p l s m args meth c G base) (w : x_W base G X H) (S : va_S (x_A base) s.heap H locs) (hl : lv_has arr (mL M) (x_ls base 0 ls)) (hd : decode (mCode M) pc = .ok (.invokevirtual idx, 3)) (ok' : x_MOk M') (cv : x_CV (mOwn M) M' idx n) (hR : x_Rm M M')
    (hb : b < xN X) (hs : xF X b = .inr (.inr (ci, fs))) (hc : vwCl[ci]? = some r) (hrn : r.1 = mOwn M') (hn : av.length = n) (hrest : (rest.map fun v => v.category).sum ≤ 8) (hcc : kc + mc' ≤ mc) (hss : ks + ms' ≤ ms) (sp : x_Sp M' mc' ms' (.ref b :: av) X o' X') :
    vx_Run p l e (x_rm M mc ms) s m args below meth c H locs kc ks mc' ms' (F0 m pc arr ((av.reverse ++ .ref b :: rest).map (x_v base))) (rest.map (x_v base)) (x_Qc base G o' X' (Value.ref (base + b) :: av.map (x_v base)).toArray) (x_XC base G o' X') (x_A base) := by
  have hts := C.2.2.2.2.2.2.1
  have he : (x_wl base G X)[b]? = some (base + b, .inr (ci, x_obj base fs (xM X b))) := by rw [x_wl_at hb, hs]; rfl
  have hrec := va_recv C.2.2.2.2.2.2.2.1.1 w.1 hc he
  rw [hrn] at hrec
  obtain ⟨q1, q2⟩ := x_pre (av := .ref b :: av) C w S
  refine vx_runV (As := av.map (x_v base)) (x_fix C) (sp l G base C.2.2.2.2.2.2.2.2.2.2.2) (C := mOwn M') ⟨x_callB C ok' cv.1 cv.2.2.2 hR, hts _ cv.2.1, hts _ cv.2.2.1⟩ ⟨q1, hrec, q2⟩ rfl (by rw [List.length_map]; exact hn) hl.1 (by simp [x_v]) (lv_room (by rw [x_cats]; exact hrest)) hd ⟨hcc, hss⟩
theorem x_runS {M' : x_MT} {idx n mc' ms' : Nat} {av rest : List Value} {o' : xO} {X' : xS} (C : x_Cx M p l s m args meth c G base) (w : x_W base G X H) (S : va_S (x_A base) s.heap H locs) (hl : lv_has arr (mL M) (x_ls base 0 ls)) (hd : decode (mCode M) pc = .ok (.invokestatic idx, 3)) (ok' : x_MOk M') (cv : x_CS (mOwn M) M' idx n) (hR : x_Rm M M')
    (hn : av.length = n) (hrest : (rest.map fun v => v.category).sum ≤ 8) (hcc : kc + mc' ≤ mc) (hss : ks + ms' ≤ ms) (sp : x_Sp M' mc' ms' av X o' X') :
    vx_Run p l e (x_rm M mc ms) s m args below meth c H locs kc ks mc' ms' (F0 m pc arr ((av.reverse ++ rest).map (x_v base))) (rest.map (x_v base)) (x_Qc base G o' X' (av.map (x_v base)).toArray) (x_XC base G o' X') (x_A base) := by
  have hts := C.2.2.2.2.2.2.1
  refine vx_runS (As := av.map (x_v base)) (x_fix C) (sp l G base C.2.2.2.2.2.2.2.2.2.2.2) ⟨x_callB C ok' cv.1 cv.2.2 hR, hts _ cv.2.1⟩ (x_pre C w S) rfl (by rw [List.length_map]; exact hn) hl.1 (by simp) (lv_room (by rw [x_cats]; exact hrest)) hd ⟨hcc, hss⟩
end XR
