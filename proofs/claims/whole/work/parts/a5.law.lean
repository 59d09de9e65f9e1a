/-! ===== the law's own frame: its script, its calls, its end ===== -/
def exOk2 (ex : List (Nat × Value)) (i : Nat) : Bool := ex.all fun q => !(q.1 == i) && (!(q.1 == i + 1) && !(q.1 + 1 == i && q.2.category == 2))
theorem f_set2 {base nL i : Nat} {arr : Array Slot} {ex : List (Nat × Value)} {ls : List (Option Value)} {v : Value} (hex : exOk2 ex i = true) (h : lv_has arr nL ((i, x_v base v) :: (ex ++ x_ls base 0 ls).filter (fun q => !(q.1 == i) && (!(q.1 == i + 1) && !(q.1 + 1 == i && q.2.category == 2))))) : lv_has arr nL (ex ++ x_ls base 0 (x_st2 ls i v)) := by
  have h1 := x_lset2 (v := v) (ls := ls) (x_lsub h (l' := (i, x_v base v) :: (x_ls base 0 ls).filter (fun q => !(q.1 == i) && (!(q.1 == i + 1) && !(q.1 + 1 == i && q.2.category == 2)))) (fun q hq => by
    rcases List.mem_cons.mp hq with e | e
    · rw [e]; exact List.mem_cons_self
    · refine List.mem_cons_of_mem _ ?_
      rw [List.filter_append]
      exact List.mem_append_right _ e))
  refine ⟨h.1, h.2.1, fun q hq => ?_⟩
  rcases List.mem_append.mp hq with e | e
  · refine h.2.2 q (List.mem_cons_of_mem _ (List.mem_filter.mpr ⟨List.mem_append_left _ e, ?_⟩))
    exact List.all_eq_true.mp hex q e
  · exact h1.2.2 q e
/-- the law's context: class, room, words of the tables, the script, the end -/
def x_LC (K : x_KT) (b L : Nat) (xs : Nat → Int32) : Prop :=
  x_FC K code 8 RL ∧ kR K = room_1 ∧ (∀ q ∈ ncs, va_Nc q.1 q.2 (kS K)) ∧ va_X b L xs (kS K) (kS K).heap ∧ b < kB K ∧ b < (kS K).heap.size ∧ L ≤ 2560 ∧ (kS K).heap.size ≤ kB K ∧
  (∀ (pc : Nat) (H : Heap) (ls : Array Slot), decode code pc = .ok (.ireturn, 1) → W (kP K) (kL K) (kE K) (kR K) (kS K) (kM K) (kA K) (kW K) (kH K) (kC K) H [] 601024 7293034 (kQ K) (F0 (kM K) pc ls [.int 1]))
theorem x_LC.out {K : x_KT} {b L : Nat} {xs : Nat → Int32} (h : x_LC K b L xs) (w : Nat) : x_LC (K9 K w) b L xs := ⟨h.1.out w, h.2⟩
section XLL
variable {K : x_KT} {cc : ByteArray} {n9 : Nat} {own : String} {ex : List (Nat × Value)} {pc kc ks b L : Nat} {xs : Nat → Int32} {ls : List (Option Value)} {st : List Value} {X : xS}
theorem f_widen {kc' ks' : Nat} (h1 : kc ≤ kc') (h2 : ks ≤ ks') (kk : x_F K n9 ex pc ls st X kc' ks') : x_F K n9 ex pc ls st X kc ks := by
  intro H locs arr w S hl
  exact W.widen h1 h2 (kk H locs arr w S hl)
theorem f_end (hC : x_LC K b L xs) (hd : decode code pc = .ok (.ireturn, 1)) (h1 : kc ≤ 601024) (h2 : ks ≤ 7293034) : x_F K n9 ex pc ls [.int (ii 1)] X kc ks := by
  intro H locs arr w S hl
  obtain ⟨-, -, -, -, -, -, -, hsz, hE⟩ := hC
  exact va_forget (fun q hq => Nat.le_trans hsz (S.2.2 q hq)) (W.widen h1 h2 (hE pc H arr hd))
theorem f_lstore (C : x_FC K cc n9 own) (nx : Nat) {i : Nat} {x : Int64} {ls' : List (Option Value)} (hd : decode cc pc = .ok (.lstore i, 2)) (hn : pc + 2 = nx) (hm : i + 1 < n9) (hex : exOk2 ex i = true) (he : x_st2 ls i (.long x) = ls') (kk : x_F K n9 ex nx ls' st X kc ks) : x_F K n9 ex pc ls (.long x :: st) X kc ks := by
  subst hn
  subst he
  intro H locs arr w S hl
  exact lv_lstore C.1 C.2.1 hd hl hm rfl (fun ls2 h2 => kk H locs ls2 w S (f_set2 hex h2))
theorem f_lload (C : x_FC K cc n9 own) (nx : Nat) {i : Nat} {x : Int64} (hd : decode cc pc = .ok (.lload i, 2)) (hn : pc + 2 = nx) (hl0 : ls[i]? = some (some (.long x))) (kk : x_F K n9 ex nx ls (.long x :: st) X kc ks) : x_F K n9 ex pc ls st X kc ks := by
  subst hn
  intro H locs arr w S hl
  exact lv_lload C.1 C.2.1 hd (f_get hl hl0) (kk H locs arr w S hl)
theorem f_lcmpE (C : x_FC K cc n9 own) (nx : Nat) {x : Int} (hd : decode cc pc = .ok (.lcmp, 1)) (hn : pc + 1 = nx) (kk : x_F K n9 ex nx ls (.int (ii 0) :: st) X kc ks) : x_F K n9 ex pc ls (.long (ll x) :: .long (ll x) :: st) X kc ks :=
  f_lcmp C nx hd hn (by rw [l_cmp_eq]; exact kk)
/-- script[i + k] -/
theorem f_sldk (hC : x_LC K b L xs) (nx : Nat) {i : Nat} (k : Nat) (h4 : ls[4]? = some (some (.int (ii (i : Nat))))) (hin : i + k < L) (hd1 : decode code pc = .ok (.aload_n 0, 1)) (hd2 : decode code (pc + 1) = .ok (.iload 4, 2)) (hd3 : decode code (pc + 3) = .ok (.iconst (k : Nat), 1)) (hd4 : decode code (pc + 4) = .ok (.iadd, 1)) (hd5 : decode code (pc + 5) = .ok (.iaload, 1)) (hn : pc + 6 = nx)
    (kk : x_F K 8 [(0, .ref b)] nx ls (.int (ii (xs (i + k)).toInt) :: st) X kc ks) : x_F K 8 [(0, .ref b)] pc ls st X kc ks := by
  subst hn
  obtain ⟨C, -, -, hX, hb1, hb2, hL, -⟩ := hC
  intro H locs arr w S hl
  refine lv_aload_n C.1 C.2.1 hd1 rfl (hl.2.2 (0, .ref b) List.mem_cons_self) ?_
  refine lv_iload C.1 C.2.1 hd2 (f_get hl h4) ?_
  refine lv_iconst C.1 C.2.1 hd3 rfl ?_
  refine lv_iadd (x := ii (i : Nat)) (y := ii (k : Nat)) C.1 C.2.1 hd4 ?_
  rw [ii_add]
  refine va_sld C.1 C.2.1 hX hb2 (Nat.not_le.mpr hb1) S (ii_in (by omega) (by omega) (by omega)) hd5 ?_
  have := kk H locs arr w S hl
  rw [ii_clamp (by omega) (by omega), show ((i : Int) + (k : Int)).toNat = i + k by omega]
  rw [ii_of] at this
  exact this
/-- script[i] -/
theorem f_sld0 (hC : x_LC K b L xs) (nx : Nat) {i : Nat} (h4 : ls[4]? = some (some (.int (ii (i : Nat))))) (hin : i < L) (hd1 : decode code pc = .ok (.aload_n 0, 1)) (hd2 : decode code (pc + 1) = .ok (.iload 4, 2)) (hd5 : decode code (pc + 3) = .ok (.iaload, 1)) (hn : pc + 4 = nx)
    (kk : x_F K 8 [(0, .ref b)] nx ls (.int (xs i) :: st) X kc ks) : x_F K 8 [(0, .ref b)] pc ls st X kc ks := by
  subst hn
  obtain ⟨C, -, -, hX, hb1, hb2, hL, -⟩ := hC
  intro H locs arr w S hl
  refine lv_aload_n C.1 C.2.1 hd1 rfl (hl.2.2 (0, .ref b) List.mem_cons_self) ?_
  refine lv_iload C.1 C.2.1 hd2 (f_get hl h4) ?_
  refine va_sld C.1 C.2.1 hX hb2 (Nat.not_le.mpr hb1) S (ii_in (by omega) (by omega) (by omega)) hd5 ?_
  have := kk H locs arr w S hl
  rw [ii_clamp (by omega) (by omega), show ((i : Int)).toNat = i by omega]
  exact this
/-- script.length -/
theorem f_slen (hC : x_LC K b L xs) (nx : Nat) (hd1 : decode code pc = .ok (.aload_n 0, 1)) (hd2 : decode code (pc + 1) = .ok (.arraylength, 1)) (hn : pc + 2 = nx)
    (kk : x_F K 8 [(0, .ref b)] nx ls (.int (ii (L : Nat)) :: st) X kc ks) : x_F K 8 [(0, .ref b)] pc ls st X kc ks := by
  subst hn
  obtain ⟨C, -, -, hX, hb1, hb2, hL, -⟩ := hC
  intro H locs arr w S hl
  refine lv_aload_n C.1 C.2.1 hd1 rfl (hl.2.2 (0, .ref b) List.mem_cons_self) ?_
  refine va_slen C.1 C.2.1 hX hb2 (Nat.not_le.mpr hb1) S hd2 ?_
  exact kk H locs arr w S hl
/-- a call of a wrapper -/
theorem f_callH (hC : x_LC K b L xs) (nx : Nat) {y : MethodName} {cw : ByteArray} {n8 : Nat} {hh : List (Nat × Nat × Nat × Nat)} {fr lo mc' ms' idx n : Nat} {av rest : List Value} {f : Nat → Nat} {o : Int} {X' : xS} (hy : y.cls = RL) (sp : x_SpH y cw n8 hh fr lo mc' ms' av X f o X') (hcw : Cond.codeWith y cw n8 (some .int) hh ∈ tb0) (hms : Cond.methodLink RL idx y ∈ tb0 ∧ Cond.static y ∈ tb0) (hpn : (parseMethodDescriptor y.desc).map (fun d => d.parameters.length) = some n)
    (hR : fr + 1 ≤ room_1.frames ∧ 8 + (n8 + 11) + lo ≤ room_1.locals) (hd : decode code pc = .ok (.invokestatic idx, 3)) (hn : pc + 3 = nx) (hst : st = av.reverse ++ rest) (hnn : av.length = n) (hrest : (rest.map fun v => v.category).sum ≤ 8) (hcc : kc + mc' ≤ 601024) (hss : ks + ms' ≤ 7293034)
    (kk : x_F (K9 K (f ((kG K).2 9))) 8 ex nx ls (.int (ii o) :: rest) X' (kc + mc') (ks + ms')) : x_F K 8 ex pc ls st X kc ks := by
  subst hn
  subst hst
  obtain ⟨C, hRm, hnc, -⟩ := hC
  intro H locs arr w S hl
  have hts := C.2.2.2.2.1
  have q : PreS (kS K) H (x_PcH (kB K) (kG K) av X) (av.map (x_v (kB K))) := ⟨x_blindH, fun U hU hW => ⟨rfl, by rw [hU]; exact w, x_PH.moved (s := kS K) ⟨C.2.2.2.2.2.1, hnc⟩ hW (by rw [hU]; exact S.1) (fun q h1 h2 => by rw [hU]; exact S.2.1 q h1 h2)⟩⟩
  have hcsw : vx_CSW (kR K) (kS K) (kA K) RL idx y cw n8 (some .int) hh (xwH y cw n8 hh) (xrm fr lo mc' ms') mc' ms' n := by
    refine ⟨⟨rfl, rfl, by rw [hRm]; exact hR.1, by rw [hRm]; exact hR.2, pay_in hts (fun w hw => ?_), List.mem_cons_self⟩, hts _ hcw, by rw [hy]; exact hts _ izL, ⟨by rw [hy]; decide, by rw [hy]; decide⟩, fun sig h => ?_, hts _ hms.1, hts _ hms.2⟩
    · rcases List.mem_cons.mp hw with rfl | h
      · exact ⟨hcw, (tb0_good _ hcw).2⟩
      · exact tb0_good w h
    · rw [h] at hpn
      exact (Option.some.inj hpn).symm
  have run := vx_runSX (As := av.map (x_v (kB K))) (rest := rest.map (x_v (kB K))) (g := F0 (kM K) pc arr ((av.reverse ++ rest).map (x_v (kB K)))) (cells := kc) (slots := ks) (l := kL K) (e := kE K) (below := kW K) (meth := kH K) (locs := locs) (f_fix C) (sp (kL K) (kG K) (kB K) C.2.2.2.2.2.2) hcsw q rfl (by rw [List.length_map]; exact hnn) hl.1 (by simp) (lv_room (by rw [x_cats]; exact hrest)) hd ⟨by rw [hRm]; exact hcc, by rw [hRm]; exact hss⟩
  intro T hT X0
  rcases run T hT X0 with ⟨v', st₀, t, T', L9, h0, X', hL, e1, e2, ⟨⟨v2, hv2, hv⟩, hw, hF⟩, st⟩ | ⟨q, st₀, t, T', L9, E, ce, h0, X', hL, e1, e2, ⟨hx, -⟩, -⟩
  · cases hv2
    cases hv
    obtain ⟨k1, k2, k3⟩ := vx_keep h0 e1 S (fun q _ h => h) (fun q h => h) hL hF
    obtain ⟨t2, a1, b1⟩ := kk T'.heap (locs ++ L9) arr (by rw [e1]; exact hw) k3 hl T' rfl X'
    exact ⟨t2, st t2 a1, b1⟩
  · cases hx
/-- a call of the class or the model -/
theorem f_callL (hC : x_LC K b L xs) (nx : Nat) {M' : x_MT} {idx n b9 ci mc' ms' : Nat} {r : vw_C} {fs : List (Option (Option Nat))} {av rest : List Value} {v : Option Value} {X' : xS} (sp : x_Sp M' mc' ms' (.ref b9 :: av) X (.inl v) X') (ok' : x_MOk M') (cv : x_CV RL M' idx n) (hR : mFr M' + 1 ≤ room_1.frames ∧ 8 + (mL M' + 11) + mLo M' ≤ room_1.locals) (hd : decode code pc = .ok (.invokevirtual idx, 3)) (hn : pc + 3 = nx)
    (hb : b9 < xN X) (hs : xF X b9 = .inr (.inr (ci, fs))) (hc : vwCl[ci]? = some r) (hrn : r.1 = mOwn M') (hst : st = av.reverse ++ .ref b9 :: rest) (hnn : av.length = n) (hrest : (rest.map fun v => v.category).sum ≤ 8) (hcc : kc + mc' ≤ 601024) (hss : ks + ms' ≤ 7293034)
    (kk : x_F K 8 ex nx ls (v.toList ++ rest) X' (kc + mc') (ks + ms')) : x_F K 8 ex pc ls st X kc ks := by
  have hRm := hC.2.1
  exact f_callV hC.1 nx sp ok' cv (by rw [hRm]; exact hR.1) (by rw [hRm]; exact hR.2) hd hn hb hs hc hrn hst hnn hrest (by rw [hRm]; exact hcc) (by rw [hRm]; exact hss) kk
end XLL
/-- the law's locals at its loop's head, with i rows read -/
abbrev lsL (i : Nat) : List (Option Value) := [none, some (.ref 0), some (.ref 281), some (.ref 313), some (.int (ii ((5 * i : Nat) : Int))), none, none, none]
theorem f9_of (code z : Int) : ∃ f : Nat → Nat, (code = 0 → f = fun _ => o9 (ll z)) ∧ (code ≠ 0 → f = fun w => w) := by
  by_cases h : code = 0
  · exact ⟨_, fun _ => rfl, fun q => absurd h q⟩
  · exact ⟨_, fun q => absurd q h, fun _ => rfl⟩
theorem xs_r {xs : Nat → Int32} (j : Nat) : xr (xs j).toInt := xr_of _
