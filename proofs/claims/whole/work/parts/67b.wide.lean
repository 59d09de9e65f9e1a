/-! ===== calls with up to twelve words below them ===== -/
section WD
variable {p : Program} {l : Launch} {e : Env} {R : Room} {s : State} {m : MethodId} {args : Array Value} {below : List Frame} {meth : Method} {c : Code} {H : Heap} {locs : List Loc} {cells slots : Nat}
  {Ts ws : List Cond} {cc bytes : ByteArray} {nL maxL index n mc ms : Nat} {own C : String} {y : MethodName} {ret : Option FieldType} {rm : Room} {Pc : Array Value → State → Prop} {Qc : Array Value → State → Outcome → State → Prop} {XC : String → State → State → Prop} {free : Addr → Prop}
  {b : Addr} {As rest : List Value} {g : JFrame}
theorem y_callBack (cb : CallB R s args own index y bytes maxL ret ws rm mc ms n) (h12 : 12 + (maxL + 11) + rm.locals ≤ R.locals) (hM : vx_Met l y ws rm Pc Qc XC mc ms free) (hbl : FrameBlind Pc) : vx_Back l R p e below s args y 3 12 (PreOf R mc ms Pc) (PostOf Qc mc ms free) (vx_Post XC mc ms free) := by
  obtain ⟨hrc, hrs, hfr, -, hws, hcw, -, hini, -⟩ := cb
  exact vx_back (bytes := bytes) (maxL := maxL) (ret := ret) hM hbl hrc hrs hfr h12 hws hcw (fun a' U hW => word_at hW (Or.inl (by first | rfl | simp [Cond.onTables, Cond.keeps, Cond.steady])) hini)
theorem y_runV (S : CallFix p m c cc nL s args Ts own) (hM : vx_Met l y ws rm Pc Qc XC mc ms free) (cw : CallW R s args own C index y bytes maxL ret ws rm mc ms n) (h12 : 12 + (maxL + 11) + rm.locals ≤ R.locals) (hp : PreV s H C b Pc As)
    (hg : g.method = m) (hn : As.length = n) (hsize : g.locals.size = nL) (hstack : g.stack = As.reverse ++ .ref b :: rest) (hW : 2 * g.monitorRoom + (rest.map fun v => v.category).sum ≤ 12) (hdg : decode cc g.pc = .ok (.invokevirtual index, 3)) (hf : cells + mc ≤ R.cells ∧ slots + ms ≤ R.slots) :
    vx_Run p l e R s m args below meth c H locs cells slots mc ms g rest (Qc (Value.ref b :: As).toArray) XC free := by
  have hK : vx_Back l R p e below s args y 3 12 (PreOf R mc ms Pc) (PostOf Qc mc ms free) (vx_Post XC mc ms free) := y_callBack cw.1 h12 hM hp.1
  obtain ⟨⟨-, -, -, -, -, -, hcode, -, hy, hlen, hl⟩, hin, hse⟩ := cw
  obtain ⟨hx, hb, hml, ho, -⟩ := S
  obtain ⟨-, ⟨cellB, hcB, hoB, hclB⟩, hPc⟩ := hp
  intro T hT X
  rcases vx_callV X hx (C := C) (bytes := bytes) (maxL := maxL) (ret := ret) ho hl hin hse hcode hy hK (by rw [hT]; exact hcB) hoB hclB hg (hsize.trans hml.symm) (argsL := As) (rest := rest) (fun sig h => hn.trans (hlen sig h)) hstack hW (by rw [hb]; exact hdg)
    (fun vm₁ hW₁ => ⟨hf.1, hf.2, hPc (T.setVm vm₁) hT hW₁⟩) with ⟨v, vm₁, ⟨U', l2, c2, s2⟩, hW₁, X', ⟨g', mk, t, L, e1, e2, hq, h1, hL, h2, h3⟩, st⟩ | ⟨q, vm₁, ⟨U', l2, c2, s2⟩, hW₁, X', ⟨g', mk, t, L, E, ce, e1, e2, hq, hce, hcv, hcl, h1, hL, h2, h3⟩, st⟩
  · dsimp only [Pt.U, Pt.locs, Pt.cells, Pt.slots] at X' e1 e2 h1 h2 h3 st
    subst h1; subst h2; subst h3
    exact Or.inl ⟨v, (T.setVm vm₁).calling g' mk (Value.ref b :: As).toArray, t, U', L, hT, X', hL, e1, e2, hq, st⟩
  · dsimp only [Pt.U, Pt.locs, Pt.cells, Pt.slots] at X' e1 e2 h1 h2 h3 st hcl
    subst h1; subst h2; subst h3
    exact Or.inr ⟨q, (T.setVm vm₁).calling g' mk (Value.ref b :: As).toArray, t, U', L, E, ce, hT, X', hL, e1, e2, hq, hce, hcv, vx_cls hW₁ hcl, st⟩
end WD
section WE
variable {M : x_MT} {mc ms pc kc ks : Nat} {ls : List (Option Value)} {st : List Value} {σ : xSig} {X Y : xS} {o : xO}
theorem e_callV12 (k nx : Nat) {M' : x_MT} {idx n b ci mc' ms' : Nat} {r : vw_C} {fs : List (Option (Option Nat))} {av rest : List Value} {v : Option Value} {X' : xS} (sp : x_Sp M' mc' ms' (.ref b :: av) X (.inl v) X') (ok' : x_MOk M') (cv : x_CV (mOwn M) M' idx n) (hR : x_Rm M M') (h12 : 12 + (mL M' + 11) + mLo M' ≤ mLo M) (hd : (mIns M)[k]? = some (pc, .invokevirtual idx, 3)) (hn : pc + 3 = nx)
    (hb : b < xN X) (hs : xF X b = .inr (.inr (ci, fs))) (hc : vwCl[ci]? = some r) (hrn : r.1 = mOwn M') (hst : st = av.reverse ++ .ref b :: rest) (hnn : av.length = n) (hrest : (rest.map fun v => v.category).sum ≤ 12) (hcc : kc + mc' ≤ mc) (hss : ks + ms' ≤ ms)
    (kk : x_E M mc ms nx ls (v.toList ++ rest) X' (kc + mc') (ks + ms') o Y) : x_E M mc ms pc ls st X kc ks o Y := by
  subst hn
  subst hst
  intro p l e s m args below meth c H locs arr G base C w S hl
  have hts := C.2.2.2.2.2.2.1
  have he : (x_wl base G X)[b]? = some (base + b, .inr (ci, x_obj base fs (xM X b))) := by rw [x_wl_at hb, hs]; rfl
  have hrec := va_recv C.2.2.2.2.2.2.2.1.1 w.1 hc he
  rw [hrn] at hrec
  obtain ⟨q1, q2⟩ := x_pre (av := .ref b :: av) C w S
  exact x_back (y_runV (As := av.map (x_v base)) (x_fix C) (sp l G base C.2.2.2.2.2.2.2.2.2.2.2) (C := mOwn M') ⟨x_callB C ok' cv.1 cv.2.2.2 hR, hts _ cv.2.1, hts _ cv.2.2.1⟩ h12 ⟨q1, hrec, q2⟩ rfl (by rw [List.length_map]; exact hnn) hl.1 (by simp [x_v]) (by rw [x_cats]; show 2 * 0 + _ ≤ 12; omega) (x_dec C.1 hd) ⟨hcc, hss⟩) C S hl kk
end WE
