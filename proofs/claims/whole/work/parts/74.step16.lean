/-! ===== steps: what an operator makes ===== -/
/-- what an operator leaves where this value is (none: nothing is there); num: nothing is made -/
def wv (g : Fo) (op : Int) (w : Fo) : Option Fo :=
  if op = 0 then some w
  else if op = 1 then some (.num 0)
  else if op = 2 then (match g with
    | .num _ => some w
    | .mulR _ x => if knd x = 1 ∧ inr9 (x - 2000 + (tok (tk w) 0 - 2000)) = true then some (.mulR (.num 0) (2000 + (x - 2000 + (tok (tk w) 0 - 2000)))) else none
    | _ => none)
  else if op = 3 then (match g with
    | .num _ => some (.sub w (.num 0))
    | .sub c _ => some (.sub (apd w c) (.num 0))
    | _ => none)
  else if op = 4 then (match g with
    | .num _ => some (.num 0)
    | .sub c _ => some (.sub (pul (tk w) c) (.num 0))
    | _ => none)
  else (match g with
    | .num _ => some (.num 0)
    | .sub c _ => (ade (tok (tk w) 0 - 2000) c).map fun m => .sub m (.num 0)
    | _ => none)
/-- what becomes of the fields by that -/
def wset (F : Fo) (f op : Int) (v : Fo) : Fo := if op = 1 then delf f F else match v with
  | .num _ => F
  | v => setf f v F
theorem edF_wv (F : Fo) (f op : Int) (w : Fo) (hw : op = 1 ∨ ok1 w) (hop : 0 ≤ op ∧ op ≤ 5) : edF F f op w = (wv (get f F) op w).map (wset F f op) := by
  have hs : ∀ v, ok1 v → op ≠ 1 → wset F f op v = setf f v F := fun v hv h1 => by
    unfold wset
    rw [if_neg h1]
    rcases hv with ⟨x, rfl, -⟩ | ⟨c, rfl, -⟩ | ⟨c, rfl, -⟩ <;> rfl
  unfold edF wv
  generalize get f F = g
  rcases (by omega : op = 0 ∨ op = 1 ∨ op = 2 ∨ op = 3 ∨ op = 4 ∨ op = 5) with rfl | rfl | rfl | rfl | rfl | rfl
  · rw [if_pos rfl, if_pos rfl]
    rw [Option.map_some, hs w (hw.resolve_left (by decide)) (by decide)]
  · rw [if_neg (by decide), if_pos rfl, if_neg (by decide), if_pos rfl]
    rfl
  · rw [if_neg (by decide), if_neg (by decide), if_pos rfl, if_neg (by decide), if_neg (by decide), if_pos rfl]
    cases g with
    | num z =>
      show some (setf f w F) = some (wset F f 2 w)
      rw [hs w (hw.resolve_left (by decide)) (by decide)]
    | mulR n x =>
      show (if _ then _ else _) = Option.map _ (if _ then _ else _)
      split <;> rfl
    | _ => rfl
  · rw [if_neg (by decide), if_neg (by decide), if_neg (by decide), if_pos rfl, if_neg (by decide), if_neg (by decide), if_neg (by decide), if_pos rfl]
    cases g <;> rfl
  · rw [if_neg (by decide), if_neg (by decide), if_neg (by decide), if_neg (by decide), if_pos rfl, if_neg (by decide), if_neg (by decide), if_neg (by decide), if_neg (by decide), if_pos rfl]
    cases g <;> rfl
  · rw [if_neg (by decide), if_neg (by decide), if_neg (by decide), if_neg (by decide), if_neg (by decide), if_neg (by decide), if_neg (by decide), if_neg (by decide), if_neg (by decide), if_neg (by decide)]
    cases g with
    | sub c n =>
      show Option.map _ _ = Option.map _ (Option.map _ _)
      rw [Option.map_map]
      rfl
    | _ => rfl
abbrev wk9 : List (Nat × Int) := [(284, -1), (281, 5), (311, -1)]
theorem ok1_num {w : Fo} (hw : ok1 w) (hk : knd (tok (tk w) 0) = 1) : ∃ x, w = .mulR (.num 0) x ∧ lfx x ∧ knd x = 1 ∧ tok (tk w) 0 = x := by
  rcases hw with ⟨x, rfl, hx⟩ | ⟨c, rfl, -⟩ | ⟨c, rfl, -⟩
  · exact ⟨x, rfl, hx, hk, rfl⟩
  · have q : knd 5000 = 1 := hk
    exact absurd q (by decide)
  · have q : knd 4000 = 1 := hk
    exact absurd q (by decide)
theorem pul_cat {v : Fo} (h : ok1 v) (w : List Int) (n : Fo) : pul w (cat v n) = if lexc (tk v) w = 0 then pul w n else cat v (pul w n) := by
  rcases h with ⟨x, rfl, hx⟩ | ⟨c, rfl, hc⟩ | ⟨c, rfl, hc⟩ <;> rfl
/-- one part of a row, a number added -/
def ad1 (z : Int) (v : Fo) : Option Fo := if knd (tok (tk v) 0) = 1 then (if inr9 (tok (tk v) 0 - 2000 + z) = true then some (.mulR (.num 0) (2000 + (tok (tk v) 0 - 2000 + z))) else none) else some v
theorem ade_cat {v : Fo} (h : ok1 v) (z : Int) (n : Fo) : ade z (cat v n) = (ad1 z v).bind fun u => (ade z n).map fun m => cat u m := by
  rcases h with ⟨x, rfl, hx⟩ | ⟨c, rfl, hc⟩ | ⟨c, rfl, hc⟩
  · have e : tok (tk (.mulR (.num 0) x)) 0 = x := rfl
    unfold ad1
    rw [e]
    show ade z (.mulR n x) = _
    rw [ade]
    by_cases q : knd x = 1
    · rw [if_pos q, if_pos q]
      by_cases q2 : inr9 (x - 2000 + z) = true
      · rw [if_pos q2, if_pos q2]; rfl
      · rw [if_neg q2, if_neg q2]; rfl
    · rw [if_neg q, if_neg q]; rfl
  · have e : knd (tok (tk (.add c (.num 0))) 0) = 4 := by show knd 5000 = 4; decide
    unfold ad1
    rw [e, if_neg (by decide)]
    show ade z (.add c n) = _
    rw [ade]
    rfl
  · have e : knd (tok (tk (.sub c (.num 0))) 0) = 3 := by show knd 4000 = 3; decide
    unfold ad1
    rw [e, if_neg (by decide)]
    show ade z (.sub c n) = _
    rw [ade]
    rfl
/-- the model's walk over a row: without the parts that are the same (PULL) -/
theorem pull_lp {t : Int} {w : Fo} {p9 : Int} : ∀ F, okf false false 0 F → ∀ (p : Int) (s : xSig) (m : List Int), pa F ≤ 51 → 0 ≤ p → p + (en F).length < 11300 → EA s 282 p (en F ++ [-1]) → MV s 282 11300 t w → VD s m → m.length + (en F).length + 1 ≤ 400 → ∃ s', x_E MX12_works 0 0 298 [some (.ref 281), some (.int (ii 4)), some (.int (ii p9)), some (.int (ii t)), some (.int (ii (bi true))), some (.int (ii p)), none, none] [] (St s) 0 0 (zv true) (St s') ∧ VD s' (m ++ (en (pul (tk w) F) ++ [-1])) ∧ FP wk9 s s' := by
  refine rowInd ?_ (fun v n hv hn ih => ?_)
  · intro p s m hp hp0 hpn hE hw hV hl
    obtain ⟨e1, -⟩ := EA.cons hE
    simp only [en, List.length_nil] at hpn hl
    have hs := hV.snoc (by omega) (-1)
    refine ⟨_, ?_, hs, (vd_f (σ := s) (n := m.length) (p := -1) (m := m.length + 1)).mono rfl⟩
    refine e_aload_n 185 299 rfl rfl rfl rfl ?_
    refine g_getR 186 302 ckX12 flX12_7 rfl rfl (Nat.le_of_ble_eq_true rfl) rfl rfl ?_
    refine e_iload 187 304 rfl rfl rfl ?_
    refine g_iaload 188 305 rfl rfl (Nat.le_of_ble_eq_true rfl) rfl (by omega) (by omega) (by omega) e1 ?_
    refine e_iconst 189 306 rfl rfl ?_
    refine e_icmp_eq 190 461 309 rfl rfl rfl (by unfold xr at *; omega) (by unfold xr at *; omega) (fun _ => ?_) (fun h9 => absurd h9 (fun q => q rfl))
    refine e_aload_n 273 462 rfl rfl rfl rfl ?_
    refine g_getR 274 465 ckX12 flX12_17 rfl rfl (Nat.le_of_ble_eq_true rfl) rfl rfl ?_
    refine e_aload_n 275 466 rfl rfl rfl rfl ?_
    refine g_getI 276 469 5 ckX12 flX12_247 rfl rfl (Nat.le_of_ble_eq_true rfl) rfl rfl rfl hV.1 ?_
    refine e_iconst 277 470 rfl rfl ?_
    refine g_iastore 278 471 rfl rfl (Nat.le_of_ble_eq_true rfl) rfl (by omega) (by omega) (by omega) ?_
    refine e_aload_n 279 472 rfl rfl rfl rfl ?_
    refine e_dup 280 473 rfl rfl rfl ?_
    refine g_getI 281 476 5 ckX12 flX12_247 rfl rfl (Nat.le_of_ble_eq_true rfl) rfl rfl rfl ((congrFun (xu_other s (m.length : Int) (-1) (by decide : (281 : Nat) ≠ 284)) 5).trans hV.1) ?_
    refine e_iconst 282 477 rfl rfl ?_
    refine e_iadd 283 478 rfl rfl ?_
    refine g_putI 284 481 5 ckX12 flX12_247 rfl rfl (Nat.le_of_ble_eq_true rfl) rfl rfl rfl ?_
    refine e_iload 285 483 rfl rfl rfl ?_
    exact e_zreturn 286 rfl rfl (Or.inr rfl) (Nat.le_of_ble_eq_true rfl) (Nat.le_of_ble_eq_true rfl)
  · intro p s m hp hp0 hpn hE hw hV hl
    have hol := ok1_pa hv
    have hpn9 := pa_nn n
    have hVl := hV.2.2
    rw [cat_pa hv] at hp
    simp only [cat_en hv, List.length_append, List.append_assoc] at hpn hE hl
    obtain ⟨e3, e4⟩ := EA.app hE
    have hM : MV s 282 11300 p v := ⟨isMA_all, hv, by omega, by omega, by omega, e3⟩
    obtain ⟨y1, -⟩ := mv_fld hM
    have hkb := knd_bnd (tok (tk v) 0)
    have c1 := sp_mEnd hM
    have f1 : FP m11 s (xu s 311 0 (pa v)) := FP.rf.x11
    obtain ⟨s2, c2, f2⟩ := sp_mCompare (hM.fp f1) (hw.fp f1)
    have f12 := f1.tr f2
    have hlx := lexc_in (tk v) (tk w)
    rw [pul_cat hv]
    by_cases hq : lexc (tk v) (tk w) = 0
    · rw [if_pos hq]
      obtain ⟨s', k1, k2, k3⟩ := ih (p + (en v).length) s2 m (by omega) (by omega) (by omega) (e4.of11 isMA_all f12) (hw.fp f12) (hV.fp f12) (by omega)
      refine ⟨s', ?_, k2, (f12.mono rfl).tr k3⟩
      refine e_aload_n 185 299 rfl rfl rfl rfl ?_
      refine g_getR 186 302 ckX12 flX12_7 rfl rfl (Nat.le_of_ble_eq_true rfl) rfl rfl ?_
      refine e_iload 187 304 rfl rfl rfl ?_
      refine g_iaload 188 305 rfl rfl (Nat.le_of_ble_eq_true rfl) rfl (by omega) (by omega) (by omega) y1 ?_
      refine e_iconst 189 306 rfl rfl ?_
      refine e_icmp_eq 190 461 309 rfl rfl rfl (by unfold xr at *; omega) (by unfold xr at *; omega) (fun h9 => absurd h9 (by omega)) (fun _ => ?_)
      refine e_aload_n 191 310 rfl rfl rfl rfl ?_
      refine e_aload_n 192 311 rfl rfl rfl rfl ?_
      refine g_getR 193 314 ckX12 flX12_7 rfl rfl (Nat.le_of_ble_eq_true rfl) rfl rfl ?_
      refine e_iload 194 316 rfl rfl rfl ?_
      refine g_callV 195 319 (c1) okX12_end cvX12_131 ⟨(Nat.le_of_ble_eq_true rfl), (Nat.le_of_ble_eq_true rfl)⟩ rfl rfl (Nat.le_of_ble_eq_true rfl) rfl rfl rfl rfl rfl (Nat.le_of_ble_eq_true rfl) (Nat.le_of_ble_eq_true rfl) (Nat.le_of_ble_eq_true rfl) ?_
      refine e_istore 196 321 (ls' := [some _, some _, some _, some _, some _, some _, some _, none]) rfl rfl (Nat.le_of_ble_eq_true rfl) rfl ?_
      refine e_iload_n 197 322 rfl rfl rfl rfl ?_
      refine e_iconst 198 323 rfl rfl ?_
      refine e_icmp_ne 199 419 326 rfl rfl rfl (by unfold xr at *; omega) (by unfold xr at *; omega) (fun _ => ?_) (fun h9 => absurd h9 (by omega))
      refine e_iload_n 252 420 rfl rfl rfl rfl ?_
      refine e_iconst 253 421 rfl rfl ?_
      refine e_icmp_eq 254 442 424 rfl rfl rfl (by unfold xr at *; omega) (by unfold xr at *; omega) (fun h9 => absurd h9 (by omega)) (fun _ => ?_)
      refine e_aload_n 255 425 rfl rfl rfl rfl ?_
      refine e_aload_n 256 426 rfl rfl rfl rfl ?_
      refine g_getR 257 429 ckX12 flX12_7 rfl rfl (Nat.le_of_ble_eq_true rfl) rfl rfl ?_
      refine e_iload 258 431 rfl rfl rfl ?_
      refine e_aload_n 259 432 rfl rfl rfl rfl ?_
      refine g_getR 260 435 ckX12 flX12_7 rfl rfl (Nat.le_of_ble_eq_true rfl) rfl rfl ?_
      refine e_iload_n 261 436 rfl rfl rfl rfl ?_
      refine g_callV 262 439 (c2) okX12_compare cvX12_253 ⟨(Nat.le_of_ble_eq_true rfl), (Nat.le_of_ble_eq_true rfl)⟩ rfl rfl (Nat.le_of_ble_eq_true rfl) rfl rfl rfl rfl rfl (Nat.le_of_ble_eq_true rfl) (Nat.le_of_ble_eq_true rfl) (Nat.le_of_ble_eq_true rfl) ?_
      refine e_if_eq 263 454 442 rfl rfl rfl (by unfold xr at *; omega) (fun _ => ?_) (fun h9 => absurd h9 (fun q => q hq))
      refine e_iload 270 456 rfl rfl rfl ?_
      refine e_istore 271 458 (ls' := [some _, some _, some _, some _, some _, some _, some _, none]) rfl rfl (Nat.le_of_ble_eq_true rfl) rfl ?_
      refine e_goto 272 298 rfl rfl ?_
      refine e_dropm [true, true, true, true, true, true, false, false] (ls' := [some _, some _, some _, some _, some _, some _, none, none]) rfl ?_
      exact k1
    · rw [if_neg hq]
      obtain ⟨s3, c3, k4, k5⟩ := sp_mValues (σ := s2) (p := p) (to := p + (en v).length) (t := en v) rfl hp0 (by omega) (e3.of11 isMA_all f12) (hV.fp f12) (by omega)
      have f3 : FP wk9 s s3 := (f12.mono rfl).tr (k5.mono rfl)
      obtain ⟨s', k1, k2, k3⟩ := ih (p + (en v).length) s3 (m ++ en v) (by omega) (by omega) (by omega) (e4.of fun _ _ _ => by rw [f3.cell 282 rfl]) (hw.of (f3.cell 282 rfl)) k4 (by rw [List.length_append]; omega)
      refine ⟨s', ?_, by rw [cat_en hv]; simpa using k2, f3.tr k3⟩
      refine e_aload_n 185 299 rfl rfl rfl rfl ?_
      refine g_getR 186 302 ckX12 flX12_7 rfl rfl (Nat.le_of_ble_eq_true rfl) rfl rfl ?_
      refine e_iload 187 304 rfl rfl rfl ?_
      refine g_iaload 188 305 rfl rfl (Nat.le_of_ble_eq_true rfl) rfl (by omega) (by omega) (by omega) y1 ?_
      refine e_iconst 189 306 rfl rfl ?_
      refine e_icmp_eq 190 461 309 rfl rfl rfl (by unfold xr at *; omega) (by unfold xr at *; omega) (fun h9 => absurd h9 (by omega)) (fun _ => ?_)
      refine e_aload_n 191 310 rfl rfl rfl rfl ?_
      refine e_aload_n 192 311 rfl rfl rfl rfl ?_
      refine g_getR 193 314 ckX12 flX12_7 rfl rfl (Nat.le_of_ble_eq_true rfl) rfl rfl ?_
      refine e_iload 194 316 rfl rfl rfl ?_
      refine g_callV 195 319 (c1) okX12_end cvX12_131 ⟨(Nat.le_of_ble_eq_true rfl), (Nat.le_of_ble_eq_true rfl)⟩ rfl rfl (Nat.le_of_ble_eq_true rfl) rfl rfl rfl rfl rfl (Nat.le_of_ble_eq_true rfl) (Nat.le_of_ble_eq_true rfl) (Nat.le_of_ble_eq_true rfl) ?_
      refine e_istore 196 321 (ls' := [some _, some _, some _, some _, some _, some _, some _, none]) rfl rfl (Nat.le_of_ble_eq_true rfl) rfl ?_
      refine e_iload_n 197 322 rfl rfl rfl rfl ?_
      refine e_iconst 198 323 rfl rfl ?_
      refine e_icmp_ne 199 419 326 rfl rfl rfl (by unfold xr at *; omega) (by unfold xr at *; omega) (fun _ => ?_) (fun h9 => absurd h9 (by omega))
      refine e_iload_n 252 420 rfl rfl rfl rfl ?_
      refine e_iconst 253 421 rfl rfl ?_
      refine e_icmp_eq 254 442 424 rfl rfl rfl (by unfold xr at *; omega) (by unfold xr at *; omega) (fun h9 => absurd h9 (by omega)) (fun _ => ?_)
      refine e_aload_n 255 425 rfl rfl rfl rfl ?_
      refine e_aload_n 256 426 rfl rfl rfl rfl ?_
      refine g_getR 257 429 ckX12 flX12_7 rfl rfl (Nat.le_of_ble_eq_true rfl) rfl rfl ?_
      refine e_iload 258 431 rfl rfl rfl ?_
      refine e_aload_n 259 432 rfl rfl rfl rfl ?_
      refine g_getR 260 435 ckX12 flX12_7 rfl rfl (Nat.le_of_ble_eq_true rfl) rfl rfl ?_
      refine e_iload_n 261 436 rfl rfl rfl rfl ?_
      refine g_callV 262 439 (c2) okX12_compare cvX12_253 ⟨(Nat.le_of_ble_eq_true rfl), (Nat.le_of_ble_eq_true rfl)⟩ rfl rfl (Nat.le_of_ble_eq_true rfl) rfl rfl rfl rfl rfl (Nat.le_of_ble_eq_true rfl) (Nat.le_of_ble_eq_true rfl) (Nat.le_of_ble_eq_true rfl) ?_
      refine e_if_eq 263 454 442 rfl rfl rfl (by unfold xr at *; omega) (fun h9 => absurd h9 hq) (fun _ => ?_)
      refine e_aload_n 264 443 rfl rfl rfl rfl ?_
      refine e_aload_n 265 444 rfl rfl rfl rfl ?_
      refine g_getR 266 447 ckX12 flX12_7 rfl rfl (Nat.le_of_ble_eq_true rfl) rfl rfl ?_
      refine e_iload 267 449 rfl rfl rfl ?_
      refine e_iload 268 451 rfl rfl rfl ?_
      refine g_callV 269 454 (c3) okX12_values cvX12_250 ⟨(Nat.le_of_ble_eq_true rfl), (Nat.le_of_ble_eq_true rfl)⟩ rfl rfl (Nat.le_of_ble_eq_true rfl) rfl rfl rfl rfl rfl (Nat.le_of_ble_eq_true rfl) (Nat.le_of_ble_eq_true rfl) (Nat.le_of_ble_eq_true rfl) ?_
      refine e_iload 270 456 rfl rfl rfl ?_
      refine e_istore 271 458 (ls' := [some _, some _, some _, some _, some _, some _, some _, none]) rfl rfl (Nat.le_of_ble_eq_true rfl) rfl ?_
      refine e_goto 272 298 rfl rfl ?_
      refine e_dropm [true, true, true, true, true, true, false, false] (ls' := [some _, some _, some _, some _, some _, some _, none, none]) rfl ?_
      exact k1
/-- and a number added to each number (EACH) -/
theorem each_lp {t z : Int} {w : Fo} {p9 : Int} (hz : tok (tk w) 0 = 2000 + z) (hzr : -999 ≤ z ∧ z ≤ 999) : ∀ F, okf false false 0 F → ∀ (p : Int) (b : Bool) (s : xSig) (m : List Int), pa F ≤ 51 → 0 ≤ p → p + (en F).length < 11300 → EA s 282 p (en F ++ [-1]) → (s 282 (t + 1) = z ∧ 0 ≤ t ∧ t + 1 < 11300) → VD s m → m.length + (en F).length + 1 ≤ 400 → ∃ s', x_E MX12_works 0 0 298 [some (.ref 281), some (.int (ii 5)), some (.int (ii p9)), some (.int (ii t)), some (.int (ii (bi b))), some (.int (ii p)), none, none] [] (St s) 0 0 (zv (b && (ade z F).isSome)) (St s') ∧ (∀ F', ade z F = some F' → VD s' (m ++ (en F' ++ [-1]))) ∧ FP wk9 s s' := by
  refine rowInd ?_ (fun v n hv hn ih => ?_)
  · intro p b s m hp hp0 hpn hE hw hV hl
    obtain ⟨e1, -⟩ := EA.cons hE
    simp only [en, List.length_nil] at hpn hl
    have hs := hV.snoc (by omega) (-1)
    refine ⟨_, ?_, fun F' h => by cases h; exact hs, (vd_f (σ := s) (n := m.length) (p := -1) (m := m.length + 1)).mono rfl⟩
    rw [show (b && (ade z (.num 0)).isSome) = b from Bool.and_true b]
    refine e_aload_n 185 299 rfl rfl rfl rfl ?_
    refine g_getR 186 302 ckX12 flX12_7 rfl rfl (Nat.le_of_ble_eq_true rfl) rfl rfl ?_
    refine e_iload 187 304 rfl rfl rfl ?_
    refine g_iaload 188 305 rfl rfl (Nat.le_of_ble_eq_true rfl) rfl (by omega) (by omega) (by omega) e1 ?_
    refine e_iconst 189 306 rfl rfl ?_
    refine e_icmp_eq 190 461 309 rfl rfl rfl (by unfold xr at *; omega) (by unfold xr at *; omega) (fun _ => ?_) (fun h9 => absurd h9 (fun q => q rfl))
    refine e_aload_n 273 462 rfl rfl rfl rfl ?_
    refine g_getR 274 465 ckX12 flX12_17 rfl rfl (Nat.le_of_ble_eq_true rfl) rfl rfl ?_
    refine e_aload_n 275 466 rfl rfl rfl rfl ?_
    refine g_getI 276 469 5 ckX12 flX12_247 rfl rfl (Nat.le_of_ble_eq_true rfl) rfl rfl rfl hV.1 ?_
    refine e_iconst 277 470 rfl rfl ?_
    refine g_iastore 278 471 rfl rfl (Nat.le_of_ble_eq_true rfl) rfl (by omega) (by omega) (by omega) ?_
    refine e_aload_n 279 472 rfl rfl rfl rfl ?_
    refine e_dup 280 473 rfl rfl rfl ?_
    refine g_getI 281 476 5 ckX12 flX12_247 rfl rfl (Nat.le_of_ble_eq_true rfl) rfl rfl rfl ((congrFun (xu_other s (m.length : Int) (-1) (by decide : (281 : Nat) ≠ 284)) 5).trans hV.1) ?_
    refine e_iconst 282 477 rfl rfl ?_
    refine e_iadd 283 478 rfl rfl ?_
    refine g_putI 284 481 5 ckX12 flX12_247 rfl rfl (Nat.le_of_ble_eq_true rfl) rfl rfl rfl ?_
    refine e_iload 285 483 rfl rfl rfl ?_
    exact e_zreturn 286 rfl rfl (bi_01 b) (Nat.le_of_ble_eq_true rfl) (Nat.le_of_ble_eq_true rfl)
  · intro p b s m hp hp0 hpn hE hw hV hl
    have hol := ok1_pa hv
    have hpn9 := pa_nn n
    have hVl := hV.2.2
    rw [cat_pa hv] at hp
    simp only [cat_en hv, List.length_append, List.append_assoc] at hpn hE hl
    obtain ⟨e3, e4⟩ := EA.app hE
    have hM : MV s 282 11300 p v := ⟨isMA_all, hv, by omega, by omega, by omega, e3⟩
    have yf := mv_fld hM
    have hkb := knd_bnd (tok (tk v) 0)
    have c1 := sp_mEnd hM
    have f1 : FP m11 s (xu s 311 0 (pa v)) := FP.rf.x11
    rw [ade_cat hv]
    by_cases hk : knd (tok (tk v) 0) = 1
    · obtain ⟨q1, q2, q3, q4⟩ := yf.2.1 hk
      rw [hk] at yf
      have y1 := yf.1
      obtain ⟨x, rfl, hx, hkx, htx⟩ := ok1_num hv hk
      rw [htx] at q1 q3 q4
      have el : en (.mulR (.num 0) x) = [1, x - 2000] := by simp only [en, List.append_nil]; unfold lf; rw [hkx]; rfl
      rw [el] at hl hpn e4
      simp only [List.length_cons, List.length_nil] at hl hpn e4
      have g1 := (hV.fp f1).snoc (by omega) 1
      have f2 : FP wk9 s (xu (xu (xu s 311 0 (pa (.mulR (.num 0) x))) 284 m.length 1) 281 5 (m.length + 1)) := (f1.mono rfl).tr (vd_f.mono rfl)
      have g2 := g1.snoc (by simp only [List.length_append, List.length_cons, List.length_nil]; omega) (x - 2000 + z)
      rw [(by simp : (m ++ [(1 : Int)]).length = m.length + 1)] at g2
      -- the two numbers, written at once
      have ew : xu (xu (xu (xu s 311 0 (pa (.mulR (.num 0) x))) 284 m.length 1) 284 (m.length + 1) (x - 2000 + z)) 281 5 (m.length + 2) = xu (xu (xu (xu (xu s 311 0 (pa (.mulR (.num 0) x))) 284 m.length 1) 281 5 (m.length + 1)) 284 ((m.length + 1 : Nat) : Int) (x - 2000 + z)) 281 5 (((m.length + 1 : Nat) : Int) + 1) := by
        funext b9 j9
        unfold xu
        by_cases w1 : b9 = 281 ∧ j9 = 5
        · rw [if_pos w1, if_pos w1]; omega
        · rw [if_neg w1, if_neg w1]
          by_cases w2 : b9 = 284 ∧ j9 = (m.length : Int) + 1
          · rw [if_pos w2, if_pos (by omega)]
          · rw [if_neg w2, if_neg (show ¬(b9 = 284 ∧ j9 = ((m.length + 1 : Nat) : Int)) by omega), if_neg w1]
      rw [← ew] at g2
      have f3 : FP wk9 s (xu (xu (xu (xu s 311 0 (pa (.mulR (.num 0) x))) 284 m.length 1) 284 (m.length + 1) (x - 2000 + z)) 281 5 (m.length + 2)) := FP.put (FP.putA (FP.putA (f1.mono rfl) rfl) rfl) rfl
      generalize hs3 : xu (xu (xu (xu s 311 0 (pa (.mulR (.num 0) x))) 284 m.length 1) 284 (m.length + 1) (x - 2000 + z)) 281 5 (m.length + 2) = s3 at *
      obtain ⟨s', k1, k2, k3⟩ := ih (p + 2) (b && inr9 (x - 2000 + z)) s3 (m ++ [1] ++ [x - 2000 + z]) (by omega) (by omega) (by omega) (by
        have e9 : p + ((0 + 1 + 1 : Nat) : Int) = p + 2 := by omega
        rw [e9] at e4
        exact e4.of fun _ _ _ => by rw [f3.cell 282 rfl]) (by rw [f3.cell 282 rfl]; exact hw) g2 (by simp only [List.length_append, List.length_cons, List.length_nil]; omega)
      have pin := fun s9 => sp_mIn (σ := s9) (x := x - 2000 + z) (y := -999) (z := 999) (by unfold xr; omega) (by unfold xr; omega) (by unfold xr; omega)
      have eA : (b && ((ad1 z (.mulR (.num 0) x)).bind fun u => (ade z n).map fun m => cat u m).isSome) = (b && inr9 (x - 2000 + z) && (ade z n).isSome) := by
        unfold ad1
        rw [htx, if_pos hkx]
        cases hi : inr9 (x - 2000 + z) with
        | true => rw [if_pos rfl, Bool.and_true]; simp
        | false => rw [if_neg (by decide), Bool.and_false, Bool.false_and]; simp
      rw [eA]
      have fin : ∀ b2 : Bool, b2 = (b && inr9 (x - 2000 + z)) → x_E MX12_works 0 0 381 [some (.ref 281), some (.int (ii 5)), some (.int (ii p9)), some (.int (ii t)), some (.int (ii (bi b))), some (.int (ii p)), some (.int (ii (p + 2))), some (.int (ii (x - 2000 + z)))] [.int (ii (bi b2))] (St (xu s 311 0 (pa (.mulR (.num 0) x)))) 0 0 (zv (b && inr9 (x - 2000 + z) && (ade z n).isSome)) (St s') := by
        intro b2 hb2
        rw [← hb2] at k1 ⊢
        have v1 : xu s 311 0 (pa (.mulR (.num 0) x)) 281 5 = m.length := by rw [xu_other _ _ _ (by decide)]; exact hV.1
        have v2 : xu (xu s 311 0 (pa (.mulR (.num 0) x))) 284 m.length 1 281 5 = m.length := by rw [xu_other _ _ _ (by decide)]; exact v1
        have v3 : xu (xu (xu s 311 0 (pa (.mulR (.num 0) x))) 284 m.length 1) 284 (m.length + 1) (x - 2000 + z) 281 5 = m.length := by rw [xu_other _ _ _ (by decide)]; exact v2
        refine e_istore 230 383 (ls' := [some _, some _, some _, some _, some _, some _, some _, some _]) rfl rfl (Nat.le_of_ble_eq_true rfl) rfl ?_
        refine e_aload_n 231 384 rfl rfl rfl rfl ?_
        refine g_getR 232 387 ckX12 flX12_17 rfl rfl (Nat.le_of_ble_eq_true rfl) rfl rfl ?_
        refine e_aload_n 233 388 rfl rfl rfl rfl ?_
        refine g_getI 234 391 5 ckX12 flX12_247 rfl rfl (Nat.le_of_ble_eq_true rfl) rfl rfl rfl v1 ?_
        refine e_iconst 235 392 rfl rfl ?_
        refine g_iastore 236 393 rfl rfl (Nat.le_of_ble_eq_true rfl) rfl (by omega) (by omega) (by omega) ?_
        refine e_aload_n 237 394 rfl rfl rfl rfl ?_
        refine g_getR 238 397 ckX12 flX12_17 rfl rfl (Nat.le_of_ble_eq_true rfl) rfl rfl ?_
        refine e_aload_n 239 398 rfl rfl rfl rfl ?_
        refine g_getI 240 401 5 ckX12 flX12_247 rfl rfl (Nat.le_of_ble_eq_true rfl) rfl rfl rfl v2 ?_
        refine e_iconst 241 402 rfl rfl ?_
        refine e_iadd 242 403 rfl rfl ?_
        refine e_iload 243 405 rfl rfl rfl ?_
        refine g_iastore 244 406 rfl rfl (Nat.le_of_ble_eq_true rfl) rfl (by omega) (by omega) (by omega) ?_
        refine e_aload_n 245 407 rfl rfl rfl rfl ?_
        refine e_dup 246 408 rfl rfl rfl ?_
        refine g_getI 247 411 5 ckX12 flX12_247 rfl rfl (Nat.le_of_ble_eq_true rfl) rfl rfl rfl v3 ?_
        refine e_iconst 248 412 rfl rfl ?_
        refine e_iadd 249 413 rfl rfl ?_
        refine g_putI 250 416 5 ckX12 flX12_247 rfl rfl (Nat.le_of_ble_eq_true rfl) rfl rfl rfl ?_
        refine e_goto 251 454 rfl rfl ?_
        refine e_iload 270 456 rfl rfl rfl ?_
        refine e_istore 271 458 (ls' := [some _, some _, some _, some _, some _, some _, some _, some _]) rfl rfl (Nat.le_of_ble_eq_true rfl) rfl ?_
        refine e_goto 272 298 rfl rfl ?_
        refine e_dropm [true, true, true, true, true, true, false, false] (ls' := [some _, some _, some _, some _, some _, some _, none, none]) rfl ?_
        rw [hs3]
        exact k1
      refine ⟨s', ?_, fun F' hF' => ?_, f3.tr k3⟩
      · have el2 : p + ((en (.mulR (.num 0) x)).length : Int) = p + 2 := by rw [el]; rfl
        rw [el2] at c1
        have x1 : xu s 311 0 (pa (.mulR (.num 0) x)) 282 p = 1 := by rw [xu_other _ _ _ (by decide)]; exact y1
        have x2 : xu s 311 0 (pa (.mulR (.num 0) x)) 282 (p + 1) = x - 2000 := by rw [xu_other _ _ _ (by decide)]; exact q1
        have x3 : xu s 311 0 (pa (.mulR (.num 0) x)) 282 (t + 1) = z := by rw [xu_other _ _ _ (by decide)]; exact hw.1
        have hw2 := hw.2
        refine e_aload_n 185 299 rfl rfl rfl rfl ?_
        refine g_getR 186 302 ckX12 flX12_7 rfl rfl (Nat.le_of_ble_eq_true rfl) rfl rfl ?_
        refine e_iload 187 304 rfl rfl rfl ?_
        refine g_iaload 188 305 rfl rfl (Nat.le_of_ble_eq_true rfl) rfl (by omega) (by omega) (by omega) y1 ?_
        refine e_iconst 189 306 rfl rfl ?_
        refine e_icmp_eq 190 461 309 rfl rfl rfl (by unfold xr at *; omega) (by unfold xr at *; omega) (fun h9 => absurd h9 (by omega)) (fun _ => ?_)
        refine e_aload_n 191 310 rfl rfl rfl rfl ?_
        refine e_aload_n 192 311 rfl rfl rfl rfl ?_
        refine g_getR 193 314 ckX12 flX12_7 rfl rfl (Nat.le_of_ble_eq_true rfl) rfl rfl ?_
        refine e_iload 194 316 rfl rfl rfl ?_
        refine g_callV 195 319 (c1) okX12_end cvX12_131 ⟨(Nat.le_of_ble_eq_true rfl), (Nat.le_of_ble_eq_true rfl)⟩ rfl rfl (Nat.le_of_ble_eq_true rfl) rfl rfl rfl rfl rfl (Nat.le_of_ble_eq_true rfl) (Nat.le_of_ble_eq_true rfl) (Nat.le_of_ble_eq_true rfl) ?_
        refine e_istore 196 321 (ls' := [some _, some _, some _, some _, some _, some _, some _, none]) rfl rfl (Nat.le_of_ble_eq_true rfl) rfl ?_
        refine e_iload_n 197 322 rfl rfl rfl rfl ?_
        refine e_iconst 198 323 rfl rfl ?_
        refine e_icmp_ne 199 419 326 rfl rfl rfl (by unfold xr at *; omega) (by unfold xr at *; omega) (fun h9 => absurd h9 (fun q => q rfl)) (fun _ => ?_)
        refine e_aload_n 200 327 rfl rfl rfl rfl ?_
        refine g_getR 201 330 ckX12 flX12_7 rfl rfl (Nat.le_of_ble_eq_true rfl) rfl rfl ?_
        refine e_iload 202 332 rfl rfl rfl ?_
        refine g_iaload 203 333 rfl rfl (Nat.le_of_ble_eq_true rfl) rfl (by omega) (by omega) (by omega) x1 ?_
        refine e_iconst 204 334 rfl rfl ?_
        refine e_icmp_ne 205 419 337 rfl rfl rfl (by unfold xr at *; omega) (by unfold xr at *; omega) (fun h9 => absurd h9 (fun q => q rfl)) (fun _ => ?_)
        refine e_aload_n 206 338 rfl rfl rfl rfl ?_
        refine g_getR 207 341 ckX12 flX12_7 rfl rfl (Nat.le_of_ble_eq_true rfl) rfl rfl ?_
        refine e_iload 208 343 rfl rfl rfl ?_
        refine e_iconst 209 344 rfl rfl ?_
        refine e_iadd 210 345 rfl rfl ?_
        refine g_iaload 211 346 rfl rfl (Nat.le_of_ble_eq_true rfl) rfl (by omega) (by omega) (by omega) x2 ?_
        refine e_aload_n 212 347 rfl rfl rfl rfl ?_
        refine g_getR 213 350 ckX12 flX12_7 rfl rfl (Nat.le_of_ble_eq_true rfl) rfl rfl ?_
        refine e_iload_n 214 351 rfl rfl rfl rfl ?_
        refine e_iconst 215 352 rfl rfl ?_
        refine e_iadd 216 353 rfl rfl ?_
        refine g_iaload 217 354 rfl rfl (Nat.le_of_ble_eq_true rfl) rfl (by omega) (by omega) (by omega) x3 ?_
        refine e_iadd 218 355 rfl rfl ?_
        refine e_istore 219 357 (ls' := [some _, some _, some _, some _, some _, some _, some _, some _]) rfl rfl (Nat.le_of_ble_eq_true rfl) rfl ?_
        refine e_iload 220 359 rfl rfl rfl ?_
        refine e_ifb_eq 221 380 362 rfl rfl rfl (fun hb => ?_) (fun hb => ?_)
        · skip
          subst hb
          refine e_iconst 229 381 rfl rfl ?_
          exact fin false rfl
        · skip
          subst hb
          refine e_iload 222 364 rfl rfl rfl ?_
          refine e_sipush 223 367 rfl rfl rfl ?_
          refine e_sipush 224 370 rfl rfl rfl ?_
          refine g_callS 225 373 (pin _) okX12_in csX12_175 ⟨(Nat.le_of_ble_eq_true rfl), (Nat.le_of_ble_eq_true rfl)⟩ rfl rfl rfl rfl (Nat.le_of_ble_eq_true rfl) (Nat.le_of_ble_eq_true rfl) (Nat.le_of_ble_eq_true rfl) ?_
          refine e_ifb_eq 226 380 376 rfl rfl rfl (fun hb2 => ?_) (fun hb2 => ?_)
          · skip
            refine e_iconst 229 381 rfl rfl ?_
            exact fin false (by rw [Bool.true_and]; exact hb2.symm)
          · skip
            refine e_iconst 227 377 rfl rfl ?_
            refine e_goto 228 381 rfl rfl ?_
            exact fin true (by rw [Bool.true_and]; exact hb2.symm)
      · unfold ad1 at hF'
        rw [htx, if_pos hkx] at hF'
        cases hi : inr9 (x - 2000 + z) with
        | false => rw [hi, if_neg (by decide)] at hF'; cases hF'
        | true =>
          rw [hi, if_pos rfl] at hF'
          obtain ⟨n', hn', rfl⟩ := Option.map_eq_some_iff.mp hF'
          have := k2 n' hn'
          have hxi := inr9_in hi
          have hlx : lfx (2000 + (x - 2000 + z)) := Or.inr (Or.inl ⟨by omega, by omega⟩)
          have ek2 : knd (2000 + (x - 2000 + z)) = 1 := by
            rcases lfx_k hlx with ⟨q, -⟩ | ⟨-, q⟩ | ⟨q, -⟩
            · omega
            · exact q
            · omega
          have e9 : en (cat (.mulR (.num 0) (2000 + (x - 2000 + z))) n') = 1 :: (x - 2000 + z) :: en n' := by
            show lf _ ++ en n' = _
            unfold lf
            rw [ek2, if_pos rfl, show 2000 + (x - 2000 + z) - 2000 = x - 2000 + z by omega]
            rfl
          rw [e9]
          simpa using this
    · have y1 := yf.1
      have ea : ad1 z v = some v := by unfold ad1; rw [if_neg hk]
      obtain ⟨s3, c3, k4, k5⟩ := sp_mValues (σ := xu s 311 0 (pa v)) (p := p) (to := p + (en v).length) (t := en v) rfl hp0 (by omega) (e3.of11 isMA_all f1) (hV.fp f1) (by omega)
      have f3 : FP wk9 s s3 := (f1.mono rfl).tr (k5.mono rfl)
      obtain ⟨s', k1, k2, k3⟩ := ih (p + (en v).length) b s3 (m ++ en v) (by omega) (by omega) (by omega) (e4.of fun _ _ _ => by rw [f3.cell 282 rfl]) (by rw [f3.cell 282 rfl]; exact hw) k4 (by rw [List.length_append]; omega)
      rw [ea]
      refine ⟨s', ?_, fun F' hF' => ?_, f3.tr k3⟩
      · rw [show ((some v).bind fun u => (ade z n).map fun m => cat u m).isSome = (ade z n).isSome by simp]
        have x1 : xu s 311 0 (pa v) 282 p = knd (tok (tk v) 0) := by rw [xu_other _ _ _ (by decide)]; exact y1
        refine e_aload_n 185 299 rfl rfl rfl rfl ?_
        refine g_getR 186 302 ckX12 flX12_7 rfl rfl (Nat.le_of_ble_eq_true rfl) rfl rfl ?_
        refine e_iload 187 304 rfl rfl rfl ?_
        refine g_iaload 188 305 rfl rfl (Nat.le_of_ble_eq_true rfl) rfl (by omega) (by omega) (by omega) y1 ?_
        refine e_iconst 189 306 rfl rfl ?_
        refine e_icmp_eq 190 461 309 rfl rfl rfl (by unfold xr at *; omega) (by unfold xr at *; omega) (fun h9 => absurd h9 (by omega)) (fun _ => ?_)
        refine e_aload_n 191 310 rfl rfl rfl rfl ?_
        refine e_aload_n 192 311 rfl rfl rfl rfl ?_
        refine g_getR 193 314 ckX12 flX12_7 rfl rfl (Nat.le_of_ble_eq_true rfl) rfl rfl ?_
        refine e_iload 194 316 rfl rfl rfl ?_
        refine g_callV 195 319 (c1) okX12_end cvX12_131 ⟨(Nat.le_of_ble_eq_true rfl), (Nat.le_of_ble_eq_true rfl)⟩ rfl rfl (Nat.le_of_ble_eq_true rfl) rfl rfl rfl rfl rfl (Nat.le_of_ble_eq_true rfl) (Nat.le_of_ble_eq_true rfl) (Nat.le_of_ble_eq_true rfl) ?_
        refine e_istore 196 321 (ls' := [some _, some _, some _, some _, some _, some _, some _, none]) rfl rfl (Nat.le_of_ble_eq_true rfl) rfl ?_
        refine e_iload_n 197 322 rfl rfl rfl rfl ?_
        refine e_iconst 198 323 rfl rfl ?_
        refine e_icmp_ne 199 419 326 rfl rfl rfl (by unfold xr at *; omega) (by unfold xr at *; omega) (fun h9 => absurd h9 (fun q => q rfl)) (fun _ => ?_)
        refine e_aload_n 200 327 rfl rfl rfl rfl ?_
        refine g_getR 201 330 ckX12 flX12_7 rfl rfl (Nat.le_of_ble_eq_true rfl) rfl rfl ?_
        refine e_iload 202 332 rfl rfl rfl ?_
        refine g_iaload 203 333 rfl rfl (Nat.le_of_ble_eq_true rfl) rfl (by omega) (by omega) (by omega) x1 ?_
        refine e_iconst 204 334 rfl rfl ?_
        refine e_icmp_ne 205 419 337 rfl rfl rfl (by unfold xr at *; omega) (by unfold xr at *; omega) (fun _ => ?_) (fun h9 => absurd h9 hk)
        refine e_iload_n 252 420 rfl rfl rfl rfl ?_
        refine e_iconst 253 421 rfl rfl ?_
        refine e_icmp_eq 254 442 424 rfl rfl rfl (by unfold xr at *; omega) (by unfold xr at *; omega) (fun _ => ?_) (fun h9 => absurd h9 (fun q => q rfl))
        refine e_aload_n 264 443 rfl rfl rfl rfl ?_
        refine e_aload_n 265 444 rfl rfl rfl rfl ?_
        refine g_getR 266 447 ckX12 flX12_7 rfl rfl (Nat.le_of_ble_eq_true rfl) rfl rfl ?_
        refine e_iload 267 449 rfl rfl rfl ?_
        refine e_iload 268 451 rfl rfl rfl ?_
        refine g_callV 269 454 (c3) okX12_values cvX12_250 ⟨(Nat.le_of_ble_eq_true rfl), (Nat.le_of_ble_eq_true rfl)⟩ rfl rfl (Nat.le_of_ble_eq_true rfl) rfl rfl rfl rfl rfl (Nat.le_of_ble_eq_true rfl) (Nat.le_of_ble_eq_true rfl) (Nat.le_of_ble_eq_true rfl) ?_
        refine e_iload 270 456 rfl rfl rfl ?_
        refine e_istore 271 458 (ls' := [some _, some _, some _, some _, some _, some _, some _, none]) rfl rfl (Nat.le_of_ble_eq_true rfl) rfl ?_
        refine e_goto 272 298 rfl rfl ?_
        refine e_dropm [true, true, true, true, true, true, false, false] (ls' := [some _, some _, some _, some _, some _, some _, none, none]) rfl ?_
        exact k1
      · obtain ⟨n', hn', rfl⟩ := Option.map_eq_some_iff.mp hF'
        have := k2 n' hn'
        rw [cat_en hv]
        simpa using this
