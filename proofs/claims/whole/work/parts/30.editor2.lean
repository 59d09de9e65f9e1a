/-! ===== Editor: an edit of a field ===== -/
def EDR (σ σ' : xSig) (p0 s : List Int) (r : Option Fo) : Prop := (∀ F', r = some F' → VH σ' 244 152 (p0 ++ (tk F' ++ 0 :: s))) ∧ (∃ t, VH σ' 244 152 t) ∧ (∃ t, VH σ' 246 72 t) ∧ FX eL σ σ'
theorem VH.f244 {σ σ' : xSig} {t : List Int} (h : VH σ 246 72 t) (hF : Fr 244 σ σ') : VH σ' 246 72 t := h.fr hF (by decide) (by decide) (by decide)
theorem VH.f246 {σ σ' : xSig} {t : List Int} (h : VH σ 244 152 t) (hF : Fr 246 σ σ') : VH σ' 244 152 t := h.fr hF (by decide) (by decide) (by decide)
theorem eL_of {σ σ' : xSig} (h : Fr 244 σ σ') : FX eL σ σ' := FX.of h (by decide) (by decide)
theorem eL_of6 {σ σ' : xSig} (h : Fr 246 σ σ') : FX eL σ σ' := FX.of h (by decide) (by decide)
theorem sp_plF {σ : xSig} {a cap : Nat} {p0 s : List Int} {F : Fo} {f : Int} (hf : 0 ≤ f ∧ f < 8) (hp0 : 0 < p0.length) (hV : VH σ a cap (p0 ++ (tk F ++ 0 :: s))) : Rd MX10_placeOf [.ref a, .int (ii (p0.length - 1)), .int (ii f)] σ (iv (plc p0 (tk F ++ 0 :: s) f)) := sp_placeOf hV hf p0 (tk F ++ 0 :: s) rfl hp0
/-- the value at a field of a draft: its place and its signs -/
theorem fld_at {p0 s : List Int} {F G : Fo} {f : Int} (hf : 0 ≤ f) (hF : okf true false 0 F) (a1 : aft f F = .mulL f G) : plc p0 (tk F ++ 0 :: s) f = ((p0 ++ tk (bef f F) ++ [1 + f]).length : Int) := by
  rw [plc_has (by omega) hf hF a1, at_len]
theorem pushRow {σ : xSig} {p0 s : List Int} {F c n w : Fo} {f : Int} {b cap : Nat} (hf : 0 ≤ f ∧ f < 8) (hp0 : 0 < p0.length) (hF : okf true false 0 F) (a1 : aft f F = .mulL f (.sub c n)) (hw : ok1 w) (hb : vO b = true) (hb2 : b ≠ 244) (hW : VH σ b cap (tk w)) (hV : VH σ 244 152 (p0 ++ (tk F ++ 0 :: s))) (hn : (p0 ++ (tk F ++ 0 :: s)).length + (tk w).length ≤ 152) :
    ∃ σ' : xSig, x_E MX1_pushTo 0 0 35 [some (.ref 243), some (.int (ii (p0.length - 1))), some (.int (ii f)), some (.ref b), none] [] (St σ) 0 0 (zv true) (St σ') ∧ VH σ' 244 152 (p0 ++ (tk (setf f (.sub (apd w c) (.num 0)) F) ++ 0 :: s)) ∧ Fr 244 σ σ' := by
  have a2 : okf true true (f + 1) (.sub c n) := by
    have := aft_ok F f _ _ _ hF
    rw [a1] at this
    exact this.2.2.2
  obtain ⟨e1, e2⟩ := at_fld hF a1 p0 s
  have hpl := sp_plF hf hp0 hV
  rw [fld_at hf.1 hF a1] at hpl
  obtain ⟨P, hP⟩ : ∃ P, P = p0 ++ tk (bef f F) ++ [1 + f] := ⟨_, rfl⟩
  rw [← hP] at e1 e2 hpl
  have hrow := apd_ok c w 0 a2.2.1 hw
  have e3 := e2 (.sub (apd w c) (.num 0)) (Or.inr (Or.inr ⟨_, rfl, hrow.1⟩))
  rw [show nxt (.sub c n) = n from rfl] at e1 e3
  rw [show tk (fst1 (.sub c n)) = 4000 :: (tk c ++ [0]) from rfl] at e1
  rw [e1] at hV hn
  have hcap := hV.2.2.1
  simp only [List.length_append, List.length_cons, List.length_nil] at hcap hn
  have hxr : xr (P.length : Int) := by unfold xr; omega
  have hk := sp_kindAt hV hxr
  rw [show P ++ (4000 :: (tk c ++ [0]) ++ (tk n ++ 0 :: s)) = P ++ 4000 :: (tk c ++ 0 :: (tk n ++ 0 :: s)) by simp] at hk hV
  rw [tok_hd] at hk
  have hkb := knd_bnd 4000
  obtain ⟨h1, h2⟩ := vO_apart vO_244.1 hb hb2
  obtain ⟨σ', k1, k2, k3⟩ := sp_putBehind (p := P) (r := 4000 :: tk c) (s := tk n ++ 0 :: s) (w := tk w) (by simpa using hV) (by rw [show 4000 :: tk c ++ 0 :: (tk n ++ 0 :: s) = 4000 :: (tk c ++ 0 :: (tk n ++ 0 :: s)) from rfl, nd_cv2 trn_4 a2.2.1]; simp) hW (by simp only [List.length_cons, List.length_append]; omega) hb2 h1 h2
  refine ⟨σ', ?_, ?_, k3⟩
  · skip
    refine e_aload_n 17 36 rfl rfl rfl rfl ?_
    refine g_getR 18 39 ckX1 flX1_14 rfl rfl (Nat.le_of_ble_eq_true rfl) rfl rfl ?_
    refine e_iload_n 19 40 rfl rfl rfl rfl ?_
    refine e_iload_n 20 41 rfl rfl rfl rfl ?_
    refine g_callV 21 44 (hpl) okX10_placeOf cvX1_35 ⟨(Nat.le_of_ble_eq_true rfl), (Nat.le_of_ble_eq_true rfl)⟩ rfl rfl (Nat.le_of_ble_eq_true rfl) rfl rfl rfl rfl rfl (Nat.le_of_ble_eq_true rfl) (Nat.le_of_ble_eq_true rfl) (Nat.le_of_ble_eq_true rfl) ?_
    refine e_istore 22 46 (ls' := [some _, some _, some _, some _, some _]) rfl rfl (Nat.le_of_ble_eq_true rfl) rfl ?_
    refine e_aload_n 23 47 rfl rfl rfl rfl ?_
    refine g_getR 24 50 ckX1 flX1_14 rfl rfl (Nat.le_of_ble_eq_true rfl) rfl rfl ?_
    refine e_iload 25 52 rfl rfl rfl ?_
    refine g_callV 26 55 (hk) okX10_kindAt cvX1_27 ⟨(Nat.le_of_ble_eq_true rfl), (Nat.le_of_ble_eq_true rfl)⟩ rfl rfl (Nat.le_of_ble_eq_true rfl) rfl rfl rfl rfl rfl (Nat.le_of_ble_eq_true rfl) (Nat.le_of_ble_eq_true rfl) (Nat.le_of_ble_eq_true rfl) ?_
    refine e_iconst 27 56 rfl rfl ?_
    refine e_icmp_eq 28 61 59 rfl rfl rfl (by unfold xr at *; omega) (by unfold xr at *; omega) (fun _ => ?_) (fun h9 => absurd h9 (by decide))
    refine e_aload_n 31 62 rfl rfl rfl rfl ?_
    refine g_getR 32 65 ckX1 flX1_14 rfl rfl (Nat.le_of_ble_eq_true rfl) rfl rfl ?_
    refine e_iload 33 67 rfl rfl rfl ?_
    refine e_aload_n 34 68 rfl rfl rfl rfl ?_
    refine g_callV 35 71 (k1) okX10_putBehind cvX1_78 ⟨(Nat.le_of_ble_eq_true rfl), (Nat.le_of_ble_eq_true rfl)⟩ rfl rfl (Nat.le_of_ble_eq_true rfl) rfl rfl rfl rfl rfl (Nat.le_of_ble_eq_true rfl) (Nat.le_of_ble_eq_true rfl) (Nat.le_of_ble_eq_true rfl) ?_
    refine e_iconst 36 72 rfl rfl ?_
    exact e_zreturn (x := 1) 37 rfl rfl (by omega) (Nat.le_of_ble_eq_true rfl) (Nat.le_of_ble_eq_true rfl)
  · rw [e3, show tk (.sub (apd w c) (.num 0)) = 4000 :: (tk (apd w c) ++ [0]) from rfl, apd_tk c w _ _ a2.2.1]
    simpa using k2
theorem sp_pushTo {σ : xSig} {p0 s m0 : List Int} {F w : Fo} {f : Int} {b cap : Nat} (hf : 0 ≤ f ∧ f < 8) (hp0 : 0 < p0.length) (hF : okf true false 0 F) (hw : ok1 w) (hb : vO b = true) (hb2 : b ≠ 244) (hb6 : b ≠ 246) (hW : VH σ b cap (tk w)) (hM : VH σ 246 72 m0) (hV : VH σ 244 152 (p0 ++ (tk F ++ 0 :: s))) (hn : (p0 ++ (tk F ++ 0 :: s)).length + (tk w).length + 3 ≤ 152) :
    ∃ σ' : xSig, x_Sp MX1_pushTo 0 0 [.ref 243, .int (ii (p0.length - 1)), .int (ii f), .ref b] (St σ) (zv (edF F f 3 w).isSome) (St σ') ∧ EDR σ σ' p0 s (edF F f 3 w) := by
  have hcap := hV.2.2.1
  have hpl := sp_plF hf hp0 hV
  have hpb := plc_bnd p0 (tk F ++ 0 :: s) f
  have hln : (p0 ++ (tk F ++ 0 :: s)).length = p0.length + (tk F ++ 0 :: s).length := by simp
  have eF : edF F f 3 w = (match get f F with
    | .num _ => some (setf f (.sub w (.num 0)) F)
    | .sub c _ => some (setf f (.sub (apd w c) (.num 0)) F)
    | _ => none) := rfl
  rcases aft_cases (f := f) hF with ⟨G, a1, a2, a3, a4⟩ | ⟨a1, a2, a3⟩ | a
  · have hpl2 := hpl
    rw [fld_at hf.1 hF a1] at hpl2
    obtain ⟨e1, e2⟩ := at_fld hF a1 p0 s
    have hkk : ∀ x r, p0 ++ (tk F ++ 0 :: s) = (p0 ++ tk (bef f F) ++ [1 + f]) ++ x :: r → knd x ≠ 3 → x_E MX1_pushTo 0 0 35 [some (.ref 243), some (.int (ii (p0.length - 1))), some (.int (ii f)), some (.ref b), none] [] (St σ) 0 0 (zv false) (St σ) := by
      intro x r hx hk3
      have hxr : xr ((p0 ++ tk (bef f F) ++ [1 + f]).length : Int) := by
        have := congrArg List.length hx
        simp only [List.length_append, List.length_cons, List.length_nil] at this hcap ⊢
        unfold xr
        omega
      have hk := sp_kindAt hV hxr
      rw [hx, tok_hd] at hk
      have hkb := knd_bnd x
      refine e_aload_n 17 36 rfl rfl rfl rfl ?_
      refine g_getR 18 39 ckX1 flX1_14 rfl rfl (Nat.le_of_ble_eq_true rfl) rfl rfl ?_
      refine e_iload_n 19 40 rfl rfl rfl rfl ?_
      refine e_iload_n 20 41 rfl rfl rfl rfl ?_
      refine g_callV 21 44 (hpl2) okX10_placeOf cvX1_35 ⟨(Nat.le_of_ble_eq_true rfl), (Nat.le_of_ble_eq_true rfl)⟩ rfl rfl (Nat.le_of_ble_eq_true rfl) rfl rfl rfl rfl rfl (Nat.le_of_ble_eq_true rfl) (Nat.le_of_ble_eq_true rfl) (Nat.le_of_ble_eq_true rfl) ?_
      refine e_istore 22 46 (ls' := [some _, some _, some _, some _, some _]) rfl rfl (Nat.le_of_ble_eq_true rfl) rfl ?_
      refine e_aload_n 23 47 rfl rfl rfl rfl ?_
      refine g_getR 24 50 ckX1 flX1_14 rfl rfl (Nat.le_of_ble_eq_true rfl) rfl rfl ?_
      refine e_iload 25 52 rfl rfl rfl ?_
      refine g_callV 26 55 (hk) okX10_kindAt cvX1_27 ⟨(Nat.le_of_ble_eq_true rfl), (Nat.le_of_ble_eq_true rfl)⟩ rfl rfl (Nat.le_of_ble_eq_true rfl) rfl rfl rfl rfl rfl (Nat.le_of_ble_eq_true rfl) (Nat.le_of_ble_eq_true rfl) (Nat.le_of_ble_eq_true rfl) ?_
      refine e_iconst 27 56 rfl rfl ?_
      refine e_icmp_eq 28 61 59 rfl rfl rfl (by unfold xr at *; omega) (by unfold xr at *; omega) (fun h9 => absurd h9 (by omega)) (fun _ => ?_)
      refine e_iconst 29 60 rfl rfl ?_
      exact e_zreturn (x := 0) 30 rfl rfl (by omega) (Nat.le_of_ble_eq_true rfl) (Nat.le_of_ble_eq_true rfl)
    have h35 : ∀ (o : xO) (σ' : xSig), x_E MX1_pushTo 0 0 35 [some (.ref 243), some (.int (ii (p0.length - 1))), some (.int (ii f)), some (.ref b), none] [] (St σ) 0 0 o (St σ') → x_Sp MX1_pushTo 0 0 [.ref 243, .int (ii (p0.length - 1)), .int (ii f), .ref b] (St σ) o (St σ') := by
      intro o σ' h
      rw [plc_has (by omega) hf.1 hF a1] at hpl hpb
      refine e_entry okX1_pushTo (Nat.le_of_ble_eq_true rfl) (ls := [some _, some _, some _, some _, none]) rfl ?_
      refine e_aload_n 0 1 rfl rfl rfl rfl ?_
      refine g_getR 1 4 ckX1 flX1_14 rfl rfl (Nat.le_of_ble_eq_true rfl) rfl rfl ?_
      refine e_iload_n 2 5 rfl rfl rfl rfl ?_
      refine e_iload_n 3 6 rfl rfl rfl rfl ?_
      refine g_callV 4 9 (hpl) okX10_placeOf cvX1_35 ⟨(Nat.le_of_ble_eq_true rfl), (Nat.le_of_ble_eq_true rfl)⟩ rfl rfl (Nat.le_of_ble_eq_true rfl) rfl rfl rfl rfl rfl (Nat.le_of_ble_eq_true rfl) (Nat.le_of_ble_eq_true rfl) (Nat.le_of_ble_eq_true rfl) ?_
      refine e_if_ge 5 35 12 rfl rfl rfl (by unfold xr at *; omega) (fun _ => ?_) (fun h9 => absurd h9 (by omega))
      exact h
    rw [eF, a3]
    cases G with
    | num z => exact absurd a2.1 (by decide)
    | var z => exact a2.elim
    | neg z => exact a2.elim
    | mulL k G => exact absurd a2.2.1 (by decide)
    | mulR n x =>
      have hx := lfx_b a2.2.1
      have hx3 : knd x ≠ 3 := by
        unfold knd
        rw [if_neg (by omega), if_neg (by omega)]
        split <;> (try split) <;> omega
      exact ⟨σ, h35 _ _ (hkk x (tk n ++ 0 :: s) (by rw [e1]; rfl) hx3), fun F' e => (by cases e), ⟨_, hV⟩, ⟨_, hM⟩, FX.rf⟩
    | add c n => exact ⟨σ, h35 _ _ (hkk 5000 (tk c ++ 0 :: (tk n ++ 0 :: s)) (by rw [e1]; simp [tk, fst1, cat, nxt]) (by decide)), fun F' e => (by cases e), ⟨_, hV⟩, ⟨_, hM⟩, FX.rf⟩
    | sub c n =>
      obtain ⟨σ', k1, k2, k3⟩ := pushRow hf hp0 hF a1 hw hb hb2 hW hV (by omega)
      refine ⟨σ', h35 _ _ k1, fun F' e => ?_, ⟨_, k2⟩, ⟨_, hM.f244 k3⟩, eL_of k3⟩
      simp only [fst1, cat, Option.some.injEq] at e
      rw [← e]
      exact k2
  · rw [eF, a1]
    rw [plc_no (by omega) hf.1 hF a3] at hpl
    obtain ⟨σ1, k1, k2, k3⟩ := sp_becomeI hM (x := 4000) (by omega) (by decide)
    rw [if_pos (by decide)] at k2
    have hV1 := hV.f246 k3
    have hr : ok1 (.sub (.num 0) (.num 0)) := Or.inr (Or.inr ⟨_, rfl, rfl, rfl⟩)
    obtain ⟨σ2, j1, j2, j3⟩ := sp_setF hf hp0 hF hr hV1 k2 (by simp only [tk, List.length_append, List.length_cons, List.length_nil] at hn ⊢; omega) (by decide) (by decide) (by decide)
    obtain ⟨n9, hn9⟩ := setf_aft F f (.sub (.num 0) (.num 0)) _ _ hF hr
    have hF1 := setf_ok F f (.sub (.num 0) (.num 0)) _ _ hF hr hf.1 hf.2
    obtain ⟨g1, g2⟩ := vO_apart vO_244.1 hb hb2
    obtain ⟨g3, g4⟩ := vO_apart vO_246.1 hb hb6
    have hW2 := (hW.fr k3 hb6 g3 g4).fr j3 hb2 g1 g2
    have hlen2 : (tk (setf f (.sub (.num 0) (.num 0)) F)).length = (tk F).length + 3 := by
      rw [(setf_tk F f _ _ _ hF hr).2 a3]
      have := congrArg List.length (ba_tk F f _ _ _ hF)
      simp only [List.length_append] at this
      simp [tk]
      omega
    obtain ⟨σ3, i1, i2, i3⟩ := pushRow hf hp0 hF1 hn9 hw hb hb2 hW2 j2 (by simp only [List.length_append, List.length_cons] at hn ⊢; omega)
    rw [show apd w (.num 0) = w from rfl, setf_setf F f _ _ _ _ hF hr] at i2
    refine ⟨σ3, ?_, fun F' e => ?_, ⟨_, i2⟩, ⟨_, (k2.f244 j3).f244 i3⟩, ((eL_of6 k3).tr (eL_of j3)).tr (eL_of i3)⟩
    · skip
      refine e_entry okX1_pushTo (Nat.le_of_ble_eq_true rfl) (ls := [some _, some _, some _, some _, none]) rfl ?_
      refine e_aload_n 0 1 rfl rfl rfl rfl ?_
      refine g_getR 1 4 ckX1 flX1_14 rfl rfl (Nat.le_of_ble_eq_true rfl) rfl rfl ?_
      refine e_iload_n 2 5 rfl rfl rfl rfl ?_
      refine e_iload_n 3 6 rfl rfl rfl rfl ?_
      refine g_callV 4 9 (hpl) okX10_placeOf cvX1_35 ⟨(Nat.le_of_ble_eq_true rfl), (Nat.le_of_ble_eq_true rfl)⟩ rfl rfl (Nat.le_of_ble_eq_true rfl) rfl rfl rfl rfl rfl (Nat.le_of_ble_eq_true rfl) (Nat.le_of_ble_eq_true rfl) (Nat.le_of_ble_eq_true rfl) ?_
      refine e_if_ge 5 35 12 rfl rfl rfl (by unfold xr at *; omega) (fun h9 => absurd h9 (by omega)) (fun _ => ?_)
      refine e_aload_n 6 13 rfl rfl rfl rfl ?_
      refine g_getR 7 16 ckX1 flX1_20 rfl rfl (Nat.le_of_ble_eq_true rfl) rfl rfl ?_
      refine e_sipush 8 19 rfl rfl rfl ?_
      refine g_callV 9 22 (k1) okX10_become cvX1_39 ⟨(Nat.le_of_ble_eq_true rfl), (Nat.le_of_ble_eq_true rfl)⟩ rfl rfl (Nat.le_of_ble_eq_true rfl) rfl rfl rfl rfl rfl (Nat.le_of_ble_eq_true rfl) (Nat.le_of_ble_eq_true rfl) (Nat.le_of_ble_eq_true rfl) ?_
      refine e_aload_n 10 23 rfl rfl rfl rfl ?_
      refine g_getR 11 26 ckX1 flX1_14 rfl rfl (Nat.le_of_ble_eq_true rfl) rfl rfl ?_
      refine e_iload_n 12 27 rfl rfl rfl rfl ?_
      refine e_iload_n 13 28 rfl rfl rfl rfl ?_
      refine e_aload_n 14 29 rfl rfl rfl rfl ?_
      refine g_getR 15 32 ckX1 flX1_20 rfl rfl (Nat.le_of_ble_eq_true rfl) rfl rfl ?_
      refine g_callV 16 35 (j1) okX10_setField cvX1_41 ⟨(Nat.le_of_ble_eq_true rfl), (Nat.le_of_ble_eq_true rfl)⟩ rfl rfl (Nat.le_of_ble_eq_true rfl) rfl rfl rfl rfl rfl (Nat.le_of_ble_eq_true rfl) (Nat.le_of_ble_eq_true rfl) (Nat.le_of_ble_eq_true rfl) ?_
      exact i1
    · simp only [Option.some.injEq] at e
      rw [← e]
      exact i2
  · omega
theorem knd_leaf {y : Int} (h : knd y = 1) (hl : y < 6000) : 1001 ≤ y ∧ y < 3000 := knd_1 h
theorem get_bnd {F : Fo} {f : Int} {v : Bool} {lo : Int} (hF : okf true v lo F) {c n : Fo} (h : get f F = .sub c n ∨ get f F = .add c n) : pa c ≤ pa F := by
  have h1 := get_pa F f _ _ hF
  have h2 := pa_nn n
  rcases h with h | h <;> rw [h] at h1 <;> simp only [pa] at h1 <;> omega
theorem sp_addTo {σ : xSig} {p0 s m0 : List Int} {F : Fo} {f y : Int} (hf : 0 ≤ f ∧ f < 8) (hp0 : 0 < p0.length) (hF : okf true false 0 F) (hy : lfx y) (hy1 : knd y = 1) (hM : VH σ 246 72 m0) (hV : VH σ 244 152 (p0 ++ (tk F ++ 0 :: s))) (hn : (p0 ++ (tk F ++ 0 :: s)).length + 3 ≤ 152) :
    ∃ σ' : xSig, x_Sp MX1_addTo 0 0 [.ref 243, .int (ii (p0.length - 1)), .int (ii f), .int (ii (y - 2000))] (St σ) (zv (edF F f 2 (.mulR (.num 0) y)).isSome) (St σ') ∧ EDR σ σ' p0 s (edF F f 2 (.mulR (.num 0) y)) := by
  have hcap := hV.2.2.1
  have hpl := sp_plF hf hp0 hV
  have hyb := knd_1 hy1
  have hln : (p0 ++ (tk F ++ 0 :: s)).length = p0.length + (tk F ++ 0 :: s).length := by simp
  have eF : edF F f 2 (.mulR (.num 0) y) = (match get f F with
    | .num _ => some (setf f (.mulR (.num 0) y) F)
    | .mulR _ x => if knd x = 1 ∧ inr9 (x - 2000 + (y - 2000)) = true then some (setf f (.mulR (.num 0) (2000 + (x - 2000 + (y - 2000)))) F) else none
    | _ => none) := rfl
  rcases aft_cases (f := f) hF with ⟨G, a1, a2, a3, a4⟩ | ⟨a1, a2, a3⟩ | a
  · obtain ⟨e1, e2⟩ := at_fld hF a1 p0 s
    rw [fld_at hf.1 hF a1] at hpl
    have hpp := at_len p0 (tk (bef f F)) f
    obtain ⟨P, hP⟩ : ∃ P, P = p0 ++ tk (bef f F) ++ [1 + f] := ⟨_, rfl⟩
    rw [← hP] at e1 e2 hpl hpp
    have hkk : ∀ x r, p0 ++ (tk F ++ 0 :: s) = P ++ x :: r → Rd MX10_kindAt [.ref 244, .int (ii P.length)] σ (iv (knd x)) ∧ xr (P.length : Int) := by
      intro x r hx
      have hxr : xr (P.length : Int) := by
        have := congrArg List.length hx
        simp only [List.length_append, List.length_cons] at this hcap
        unfold xr
        omega
      have hk := sp_kindAt hV hxr
      rw [hx, tok_hd] at hk
      exact ⟨hk, hxr⟩
    have no : ∀ x r, p0 ++ (tk F ++ 0 :: s) = P ++ x :: r → knd x ≠ 1 → x_Sp MX1_addTo 0 0 [.ref 243, .int (ii (p0.length - 1)), .int (ii f), .int (ii (y - 2000))] (St σ) (zv false) (St σ) := by
      intro x r hx hk3
      obtain ⟨hk, hxr⟩ := hkk x r hx
      have hkb := knd_bnd x
      refine e_entry okX1_addTo (Nat.le_of_ble_eq_true rfl) (ls := [some _, some _, some _, some _, none]) rfl ?_
      refine e_aload_n 0 1 rfl rfl rfl rfl ?_
      refine g_getR 1 4 ckX1 flX1_14 rfl rfl (Nat.le_of_ble_eq_true rfl) rfl rfl ?_
      refine e_iload_n 2 5 rfl rfl rfl rfl ?_
      refine e_iload_n 3 6 rfl rfl rfl rfl ?_
      refine g_callV 4 9 (hpl) okX10_placeOf cvX1_35 ⟨(Nat.le_of_ble_eq_true rfl), (Nat.le_of_ble_eq_true rfl)⟩ rfl rfl (Nat.le_of_ble_eq_true rfl) rfl rfl rfl rfl rfl (Nat.le_of_ble_eq_true rfl) (Nat.le_of_ble_eq_true rfl) (Nat.le_of_ble_eq_true rfl) ?_
      refine e_istore 5 11 (ls' := [some _, some _, some _, some _, some _]) rfl rfl (Nat.le_of_ble_eq_true rfl) rfl ?_
      refine e_iload 6 13 rfl rfl rfl ?_
      refine e_if_ge 7 43 16 rfl rfl rfl (by unfold xr at *; omega) (fun _ => ?_) (fun h9 => absurd h9 (by omega))
      refine e_aload_n 23 44 rfl rfl rfl rfl ?_
      refine g_getR 24 47 ckX1 flX1_14 rfl rfl (Nat.le_of_ble_eq_true rfl) rfl rfl ?_
      refine e_iload 25 49 rfl rfl rfl ?_
      refine g_callV 26 52 (hk) okX10_kindAt cvX1_27 ⟨(Nat.le_of_ble_eq_true rfl), (Nat.le_of_ble_eq_true rfl)⟩ rfl rfl (Nat.le_of_ble_eq_true rfl) rfl rfl rfl rfl rfl (Nat.le_of_ble_eq_true rfl) (Nat.le_of_ble_eq_true rfl) (Nat.le_of_ble_eq_true rfl) ?_
      refine e_iconst 27 53 rfl rfl ?_
      refine e_icmp_ne 28 70 56 rfl rfl rfl (by unfold xr at *; omega) (by unfold xr at *; omega) (fun _ => ?_) (fun h9 => absurd h9 (by omega))
      refine e_iconst 36 71 rfl rfl ?_
      exact e_zreturn (x := 0) 37 rfl rfl (by omega) (Nat.le_of_ble_eq_true rfl) (Nat.le_of_ble_eq_true rfl)
    rw [eF, a3]
    cases G with
    | num z => exact absurd a2.1 (by decide)
    | var z => exact a2.elim
    | neg z => exact a2.elim
    | mulL k G => exact absurd a2.2.1 (by decide)
    | mulR n x =>
      have hx := lfx_b a2.2.1
      simp only [fst1, cat]
      have ex : p0 ++ (tk F ++ 0 :: s) = P ++ x :: (tk n ++ 0 :: s) := by rw [e1]; rfl
      by_cases hx1 : knd x = 1
      · obtain ⟨hk, hxr⟩ := hkk x _ ex
        have hVx := hV
        rw [ex] at hVx
        have hadd := sp_addAt hVx (z := y - 2000) (by omega)
        by_cases hr : inr9 (x - 2000 + (y - 2000)) = true
        · rw [if_pos ⟨hx1, hr⟩]
          rw [hr, if_pos rfl] at hadd
          have q3 : -999 ≤ x - 2000 + (y - 2000) ∧ x - 2000 + (y - 2000) ≤ 999 := of_decide_eq_true hr
          have hV1 := hVx.set (2000 + (x - 2000 + (y - 2000))) (by omega)
          have e3 := e2 (.mulR (.num 0) (2000 + (x - 2000 + (y - 2000)))) (Or.inl ⟨_, rfl, by unfold lfx; omega⟩)
          refine ⟨_, ?_, fun F' e => ?_, ⟨_, hV1⟩, ⟨_, hM.f244 Fr.xu1⟩, eL_of Fr.xu1⟩
          · skip
            refine e_entry okX1_addTo (Nat.le_of_ble_eq_true rfl) (ls := [some _, some _, some _, some _, none]) rfl ?_
            refine e_aload_n 0 1 rfl rfl rfl rfl ?_
            refine g_getR 1 4 ckX1 flX1_14 rfl rfl (Nat.le_of_ble_eq_true rfl) rfl rfl ?_
            refine e_iload_n 2 5 rfl rfl rfl rfl ?_
            refine e_iload_n 3 6 rfl rfl rfl rfl ?_
            refine g_callV 4 9 (hpl) okX10_placeOf cvX1_35 ⟨(Nat.le_of_ble_eq_true rfl), (Nat.le_of_ble_eq_true rfl)⟩ rfl rfl (Nat.le_of_ble_eq_true rfl) rfl rfl rfl rfl rfl (Nat.le_of_ble_eq_true rfl) (Nat.le_of_ble_eq_true rfl) (Nat.le_of_ble_eq_true rfl) ?_
            refine e_istore 5 11 (ls' := [some _, some _, some _, some _, some _]) rfl rfl (Nat.le_of_ble_eq_true rfl) rfl ?_
            refine e_iload 6 13 rfl rfl rfl ?_
            refine e_if_ge 7 43 16 rfl rfl rfl (by unfold xr at *; omega) (fun _ => ?_) (fun h9 => absurd h9 (by omega))
            refine e_aload_n 23 44 rfl rfl rfl rfl ?_
            refine g_getR 24 47 ckX1 flX1_14 rfl rfl (Nat.le_of_ble_eq_true rfl) rfl rfl ?_
            refine e_iload 25 49 rfl rfl rfl ?_
            refine g_callV 26 52 (hk) okX10_kindAt cvX1_27 ⟨(Nat.le_of_ble_eq_true rfl), (Nat.le_of_ble_eq_true rfl)⟩ rfl rfl (Nat.le_of_ble_eq_true rfl) rfl rfl rfl rfl rfl (Nat.le_of_ble_eq_true rfl) (Nat.le_of_ble_eq_true rfl) (Nat.le_of_ble_eq_true rfl) ?_
            refine e_iconst 27 53 rfl rfl ?_
            refine e_icmp_ne 28 70 56 rfl rfl rfl (by unfold xr at *; omega) (by unfold xr at *; omega) (fun h9 => absurd h9 (fun q => q hx1)) (fun _ => ?_)
            refine e_aload_n 29 57 rfl rfl rfl rfl ?_
            refine e_iload 30 59 rfl rfl rfl ?_
            refine e_iload_n 31 60 rfl rfl rfl rfl ?_
            refine g_callV 32 63 (hadd) okX1_addAt cvX1_68 ⟨(Nat.le_of_ble_eq_true rfl), (Nat.le_of_ble_eq_true rfl)⟩ rfl rfl (Nat.le_of_ble_eq_true rfl) rfl rfl rfl rfl rfl (Nat.le_of_ble_eq_true rfl) (Nat.le_of_ble_eq_true rfl) (Nat.le_of_ble_eq_true rfl) ?_
            refine e_ifb_eq 33 70 66 rfl rfl rfl (fun h9 => ?_) (fun h9 => ?_)
            · skip
              cases h9
            · skip
              refine e_iconst 34 67 rfl rfl ?_
              refine e_goto 35 71 rfl rfl ?_
              exact e_zreturn (x := 1) 37 rfl rfl (by omega) (Nat.le_of_ble_eq_true rfl) (Nat.le_of_ble_eq_true rfl)
          · simp only [Option.some.injEq] at e
            rw [← e, e3]
            exact hV1
        · rw [if_neg (fun q => hr q.2)]
          rw [Bool.not_eq_true] at hr
          rw [hr, if_neg (by decide)] at hadd
          refine ⟨σ, ?_, fun F' e => (by cases e), ⟨_, hV⟩, ⟨_, hM⟩, FX.rf⟩
          refine e_entry okX1_addTo (Nat.le_of_ble_eq_true rfl) (ls := [some _, some _, some _, some _, none]) rfl ?_
          refine e_aload_n 0 1 rfl rfl rfl rfl ?_
          refine g_getR 1 4 ckX1 flX1_14 rfl rfl (Nat.le_of_ble_eq_true rfl) rfl rfl ?_
          refine e_iload_n 2 5 rfl rfl rfl rfl ?_
          refine e_iload_n 3 6 rfl rfl rfl rfl ?_
          refine g_callV 4 9 (hpl) okX10_placeOf cvX1_35 ⟨(Nat.le_of_ble_eq_true rfl), (Nat.le_of_ble_eq_true rfl)⟩ rfl rfl (Nat.le_of_ble_eq_true rfl) rfl rfl rfl rfl rfl (Nat.le_of_ble_eq_true rfl) (Nat.le_of_ble_eq_true rfl) (Nat.le_of_ble_eq_true rfl) ?_
          refine e_istore 5 11 (ls' := [some _, some _, some _, some _, some _]) rfl rfl (Nat.le_of_ble_eq_true rfl) rfl ?_
          refine e_iload 6 13 rfl rfl rfl ?_
          refine e_if_ge 7 43 16 rfl rfl rfl (by unfold xr at *; omega) (fun _ => ?_) (fun h9 => absurd h9 (by omega))
          refine e_aload_n 23 44 rfl rfl rfl rfl ?_
          refine g_getR 24 47 ckX1 flX1_14 rfl rfl (Nat.le_of_ble_eq_true rfl) rfl rfl ?_
          refine e_iload 25 49 rfl rfl rfl ?_
          refine g_callV 26 52 (hk) okX10_kindAt cvX1_27 ⟨(Nat.le_of_ble_eq_true rfl), (Nat.le_of_ble_eq_true rfl)⟩ rfl rfl (Nat.le_of_ble_eq_true rfl) rfl rfl rfl rfl rfl (Nat.le_of_ble_eq_true rfl) (Nat.le_of_ble_eq_true rfl) (Nat.le_of_ble_eq_true rfl) ?_
          refine e_iconst 27 53 rfl rfl ?_
          refine e_icmp_ne 28 70 56 rfl rfl rfl (by unfold xr at *; omega) (by unfold xr at *; omega) (fun h9 => absurd h9 (fun q => q hx1)) (fun _ => ?_)
          refine e_aload_n 29 57 rfl rfl rfl rfl ?_
          refine e_iload 30 59 rfl rfl rfl ?_
          refine e_iload_n 31 60 rfl rfl rfl rfl ?_
          refine g_callV 32 63 (hadd) okX1_addAt cvX1_68 ⟨(Nat.le_of_ble_eq_true rfl), (Nat.le_of_ble_eq_true rfl)⟩ rfl rfl (Nat.le_of_ble_eq_true rfl) rfl rfl rfl rfl rfl (Nat.le_of_ble_eq_true rfl) (Nat.le_of_ble_eq_true rfl) (Nat.le_of_ble_eq_true rfl) ?_
          refine e_ifb_eq 33 70 66 rfl rfl rfl (fun h9 => ?_) (fun h9 => ?_)
          · skip
            refine e_iconst 36 71 rfl rfl ?_
            exact e_zreturn (x := 0) 37 rfl rfl (by omega) (Nat.le_of_ble_eq_true rfl) (Nat.le_of_ble_eq_true rfl)
          · skip
            cases h9
      · rw [if_neg (fun q => hx1 q.1)]
        exact ⟨σ, no x _ ex hx1, fun F' e => (by cases e), ⟨_, hV⟩, ⟨_, hM⟩, FX.rf⟩
    | add c n => exact ⟨σ, no 5000 (tk c ++ 0 :: (tk n ++ 0 :: s)) (by rw [e1]; simp [tk, fst1, cat, nxt]) (by decide), fun F' e => (by cases e), ⟨_, hV⟩, ⟨_, hM⟩, FX.rf⟩
    | sub c n => exact ⟨σ, no 4000 (tk c ++ 0 :: (tk n ++ 0 :: s)) (by rw [e1]; simp [tk, fst1, cat, nxt]) (by decide), fun F' e => (by cases e), ⟨_, hV⟩, ⟨_, hM⟩, FX.rf⟩
  · rw [eF, a1]
    rw [plc_no (by omega) hf.1 hF a3] at hpl
    obtain ⟨σ1, k1, k2, k3⟩ := sp_becomeI hM (x := 2000 + (y - 2000)) (by omega) (by decide)
    rw [if_neg (by omega), show (2000 : Int) + (y - 2000) = y by omega] at k2
    have hV1 := hV.f246 k3
    obtain ⟨σ2, j1, j2, j3⟩ := sp_setF hf hp0 hF (Or.inl ⟨y, rfl, hy⟩ : ok1 (.mulR (.num 0) y)) hV1 k2 (by simp only [tk, List.length_cons, List.length_nil] at hn ⊢; omega) (by decide) (by decide) (by decide)
    refine ⟨σ2, ?_, fun F' e => ?_, ⟨_, j2⟩, ⟨_, k2.f244 j3⟩, (eL_of6 k3).tr (eL_of j3)⟩
    · skip
      refine e_entry okX1_addTo (Nat.le_of_ble_eq_true rfl) (ls := [some _, some _, some _, some _, none]) rfl ?_
      refine e_aload_n 0 1 rfl rfl rfl rfl ?_
      refine g_getR 1 4 ckX1 flX1_14 rfl rfl (Nat.le_of_ble_eq_true rfl) rfl rfl ?_
      refine e_iload_n 2 5 rfl rfl rfl rfl ?_
      refine e_iload_n 3 6 rfl rfl rfl rfl ?_
      refine g_callV 4 9 (hpl) okX10_placeOf cvX1_35 ⟨(Nat.le_of_ble_eq_true rfl), (Nat.le_of_ble_eq_true rfl)⟩ rfl rfl (Nat.le_of_ble_eq_true rfl) rfl rfl rfl rfl rfl (Nat.le_of_ble_eq_true rfl) (Nat.le_of_ble_eq_true rfl) (Nat.le_of_ble_eq_true rfl) ?_
      refine e_istore 5 11 (ls' := [some _, some _, some _, some _, some _]) rfl rfl (Nat.le_of_ble_eq_true rfl) rfl ?_
      refine e_iload 6 13 rfl rfl rfl ?_
      refine e_if_ge 7 43 16 rfl rfl rfl (by unfold xr at *; omega) (fun h9 => absurd h9 (by omega)) (fun _ => ?_)
      refine e_aload_n 8 17 rfl rfl rfl rfl ?_
      refine g_getR 9 20 ckX1 flX1_20 rfl rfl (Nat.le_of_ble_eq_true rfl) rfl rfl ?_
      refine e_sipush 10 23 rfl rfl rfl ?_
      refine e_iload_n 11 24 rfl rfl rfl rfl ?_
      refine e_iadd 12 25 rfl rfl ?_
      refine g_callV 13 28 (k1) okX10_become cvX1_39 ⟨(Nat.le_of_ble_eq_true rfl), (Nat.le_of_ble_eq_true rfl)⟩ rfl rfl (Nat.le_of_ble_eq_true rfl) rfl rfl rfl rfl rfl (Nat.le_of_ble_eq_true rfl) (Nat.le_of_ble_eq_true rfl) (Nat.le_of_ble_eq_true rfl) ?_
      refine e_aload_n 14 29 rfl rfl rfl rfl ?_
      refine g_getR 15 32 ckX1 flX1_14 rfl rfl (Nat.le_of_ble_eq_true rfl) rfl rfl ?_
      refine e_iload_n 16 33 rfl rfl rfl rfl ?_
      refine e_iload_n 17 34 rfl rfl rfl rfl ?_
      refine e_aload_n 18 35 rfl rfl rfl rfl ?_
      refine g_getR 19 38 ckX1 flX1_20 rfl rfl (Nat.le_of_ble_eq_true rfl) rfl rfl ?_
      refine g_callV 20 41 (j1) okX10_setField cvX1_41 ⟨(Nat.le_of_ble_eq_true rfl), (Nat.le_of_ble_eq_true rfl)⟩ rfl rfl (Nat.le_of_ble_eq_true rfl) rfl rfl rfl rfl rfl (Nat.le_of_ble_eq_true rfl) (Nat.le_of_ble_eq_true rfl) (Nat.le_of_ble_eq_true rfl) ?_
      refine e_iconst 21 42 rfl rfl ?_
      exact e_zreturn (x := 1) 22 rfl rfl (by omega) (Nat.le_of_ble_eq_true rfl) (Nat.le_of_ble_eq_true rfl)
    · simp only [Option.some.injEq] at e
      rw [← e]
      exact j2
  · omega
theorem len_s1 (p : List Int) (x : Int) : ((p ++ [x]).length : Int) - 1 = p.length := by simp
/-- one edit of a field of a draft -/
theorem sp_editField {σ : xSig} {p0 s m0 : List Int} {F w : Fo} {f op : Int} {b cap : Nat} (hf : 0 ≤ f ∧ f < 8) (hp0 : 0 < p0.length) (hop : 0 ≤ op ∧ op ≤ 5) (hF : okf true false 0 F) (hpa : pa F ≤ 24) (hw : op = 1 ∨ (ok1 w ∧ vO b = true ∧ b ≠ 244 ∧ b ≠ 246 ∧ VH σ b cap (tk w) ∧ (tk w).length ≤ 72)) (hk1 : op = 2 ∨ op = 5 → knd (tok (tk w) 0) = 1) (hM : VH σ 246 72 m0) (hV : VH σ 244 152 (p0 ++ (tk F ++ 0 :: s))) (hn : (p0 ++ (tk F ++ 0 :: s)).length + 75 ≤ 152) :
    ∃ σ' : xSig, x_Sp MX1_editField 0 0 [.ref 243, .int (ii (p0.length - 1)), .int (ii f), .int (ii op), .ref b] (St σ) (zv (edF F f op w).isSome) (St σ') ∧ EDR σ σ' p0 s (edF F f op w) := by
  have hcap := hV.2.2.1
  have hpl := sp_plF hf hp0 hV
  have hpb := plc_bnd p0 (tk F ++ 0 :: s) f
  have hln : (p0 ++ (tk F ++ 0 :: s)).length = p0.length + (tk F ++ 0 :: s).length := by simp
  have hpx : xr (plc p0 (tk F ++ 0 :: s) f) := by unfold xr; omega
  have hw' : op ≠ 1 → ok1 w ∧ vO b = true ∧ b ≠ 244 ∧ b ≠ 246 ∧ VH σ b cap (tk w) ∧ (tk w).length ≤ 72 := fun q => hw.resolve_left q
  have hwy : op = 2 ∨ op = 5 → ∃ y, w = .mulR (.num 0) y ∧ lfx y ∧ knd y = 1 := by
    intro q
    have h1 := hk1 q
    rcases (hw' (by omega)).1 with ⟨x, rfl, hx⟩ | ⟨c, rfl, hc⟩ | ⟨c, rfl, hc⟩
    · exact ⟨x, rfl, hx, h1⟩
    · exact absurd h1 (show ¬ knd 5000 = 1 by decide)
    · exact absurd h1 (show ¬ knd 4000 = 1 by decide)
  rcases (by omega : op = 0 ∨ op = 1 ∨ op = 2 ∨ op = 3 ∨ op = 4 ∨ op = 5) with rfl | rfl | rfl | rfl | rfl | rfl
  · obtain ⟨w1, w2, w3, w4, w5, w6⟩ := hw' (by decide)
    obtain ⟨g1, g2⟩ := vO_apart vO_244.1 w2 w3
    obtain ⟨σ', k1, k2, k3⟩ := sp_setF hf hp0 hF w1 hV w5 (by omega) w3 g1 g2
    refine ⟨σ', ?_, fun F' e => ?_, ⟨_, k2⟩, ⟨_, hM.f244 k3⟩, eL_of k3⟩
    · skip
      refine e_entry okX1_editField (Nat.le_of_ble_eq_true rfl) (ls := [some _, some _, some _, some _, some _, none]) rfl ?_
      refine e_aload_n 0 1 rfl rfl rfl rfl ?_
      refine g_getR 1 4 ckX1 flX1_14 rfl rfl (Nat.le_of_ble_eq_true rfl) rfl rfl ?_
      refine e_iload_n 2 5 rfl rfl rfl rfl ?_
      refine e_iload_n 3 6 rfl rfl rfl rfl ?_
      refine g_callV 4 9 (hpl) okX10_placeOf cvX1_35 ⟨(Nat.le_of_ble_eq_true rfl), (Nat.le_of_ble_eq_true rfl)⟩ rfl rfl (Nat.le_of_ble_eq_true rfl) rfl rfl rfl rfl rfl (Nat.le_of_ble_eq_true rfl) (Nat.le_of_ble_eq_true rfl) (Nat.le_of_ble_eq_true rfl) ?_
      refine e_istore 5 11 (ls' := [some _, some _, some _, some _, some _, some _]) rfl rfl (Nat.le_of_ble_eq_true rfl) rfl ?_
      refine e_iload_n 6 12 rfl rfl rfl rfl ?_
      refine e_table 7 48 (x := 0) rfl (by unfold xr; omega) (by decide) (by decide) rfl rfl ?_
      refine e_aload_n 8 49 rfl rfl rfl rfl ?_
      refine g_getR 9 52 ckX1 flX1_14 rfl rfl (Nat.le_of_ble_eq_true rfl) rfl rfl ?_
      refine e_iload_n 10 53 rfl rfl rfl rfl ?_
      refine e_iload_n 11 54 rfl rfl rfl rfl ?_
      refine e_aload 12 56 rfl rfl rfl ?_
      refine g_callV 13 59 (k1) okX10_setField cvX1_41 ⟨(Nat.le_of_ble_eq_true rfl), (Nat.le_of_ble_eq_true rfl)⟩ rfl rfl (Nat.le_of_ble_eq_true rfl) rfl rfl rfl rfl rfl (Nat.le_of_ble_eq_true rfl) (Nat.le_of_ble_eq_true rfl) (Nat.le_of_ble_eq_true rfl) ?_
      refine e_iconst 14 60 rfl rfl ?_
      exact e_zreturn (x := 1) 15 rfl rfl (by omega) (Nat.le_of_ble_eq_true rfl) (Nat.le_of_ble_eq_true rfl)
    · cases e
      exact k2
  · obtain ⟨σ', k1, k2, k3⟩ := sp_takeF hf hp0 hF hV
    refine ⟨σ', ?_, fun F' e => ?_, ⟨_, k2⟩, ⟨_, hM.f244 k3⟩, eL_of k3⟩
    · skip
      refine e_entry okX1_editField (Nat.le_of_ble_eq_true rfl) (ls := [some _, some _, some _, some _, some _, none]) rfl ?_
      refine e_aload_n 0 1 rfl rfl rfl rfl ?_
      refine g_getR 1 4 ckX1 flX1_14 rfl rfl (Nat.le_of_ble_eq_true rfl) rfl rfl ?_
      refine e_iload_n 2 5 rfl rfl rfl rfl ?_
      refine e_iload_n 3 6 rfl rfl rfl rfl ?_
      refine g_callV 4 9 (hpl) okX10_placeOf cvX1_35 ⟨(Nat.le_of_ble_eq_true rfl), (Nat.le_of_ble_eq_true rfl)⟩ rfl rfl (Nat.le_of_ble_eq_true rfl) rfl rfl rfl rfl rfl (Nat.le_of_ble_eq_true rfl) (Nat.le_of_ble_eq_true rfl) (Nat.le_of_ble_eq_true rfl) ?_
      refine e_istore 5 11 (ls' := [some _, some _, some _, some _, some _, some _]) rfl rfl (Nat.le_of_ble_eq_true rfl) rfl ?_
      refine e_iload_n 6 12 rfl rfl rfl rfl ?_
      refine e_table 7 61 (x := 1) rfl (by unfold xr; omega) (by decide) (by decide) rfl rfl ?_
      refine e_aload_n 16 62 rfl rfl rfl rfl ?_
      refine g_getR 17 65 ckX1 flX1_14 rfl rfl (Nat.le_of_ble_eq_true rfl) rfl rfl ?_
      refine e_iload_n 18 66 rfl rfl rfl rfl ?_
      refine e_iload_n 19 67 rfl rfl rfl rfl ?_
      refine g_callV 20 70 (k1) okX10_takeField cvX1_45 ⟨(Nat.le_of_ble_eq_true rfl), (Nat.le_of_ble_eq_true rfl)⟩ rfl rfl (Nat.le_of_ble_eq_true rfl) rfl rfl rfl rfl rfl (Nat.le_of_ble_eq_true rfl) (Nat.le_of_ble_eq_true rfl) (Nat.le_of_ble_eq_true rfl) ?_
      refine e_iconst 21 71 rfl rfl ?_
      exact e_zreturn (x := 1) 22 rfl rfl (by omega) (Nat.le_of_ble_eq_true rfl) (Nat.le_of_ble_eq_true rfl)
    · cases e
      exact k2
  · obtain ⟨w1, w2, w3, w4, w5, w6⟩ := hw' (by decide)
    obtain ⟨y, rfl, hy, hy1⟩ := hwy (Or.inl rfl)
    obtain ⟨σ', k1, k2⟩ := sp_addTo hf hp0 hF hy hy1 hM hV (by omega)
    have hnum := sp_numberAt w5 xr_0
    rw [show tok (tk (.mulR (.num 0) y)) 0 = y from rfl] at hnum
    refine ⟨σ', ?_, k2⟩
    refine e_entry okX1_editField (Nat.le_of_ble_eq_true rfl) (ls := [some _, some _, some _, some _, some _, none]) rfl ?_
    refine e_aload_n 0 1 rfl rfl rfl rfl ?_
    refine g_getR 1 4 ckX1 flX1_14 rfl rfl (Nat.le_of_ble_eq_true rfl) rfl rfl ?_
    refine e_iload_n 2 5 rfl rfl rfl rfl ?_
    refine e_iload_n 3 6 rfl rfl rfl rfl ?_
    refine g_callV 4 9 (hpl) okX10_placeOf cvX1_35 ⟨(Nat.le_of_ble_eq_true rfl), (Nat.le_of_ble_eq_true rfl)⟩ rfl rfl hV.1.1 hV.1.2.2.1 rfl rfl rfl rfl (Nat.le_of_ble_eq_true rfl) (Nat.le_of_ble_eq_true rfl) (Nat.le_of_ble_eq_true rfl) ?_
    refine e_istore 5 11 (ls' := [some _, some _, some _, some _, some _, some _]) rfl rfl (Nat.le_of_ble_eq_true rfl) rfl ?_
    refine e_iload_n 6 12 rfl rfl rfl rfl ?_
    refine e_table 7 72 (x := 2) rfl (by unfold xr; omega) (by decide) (by decide) rfl rfl ?_
    refine e_aload_n 23 73 rfl rfl rfl rfl ?_
    refine e_iload_n 24 74 rfl rfl rfl rfl ?_
    refine e_iload_n 25 75 rfl rfl rfl rfl ?_
    refine e_aload 26 77 rfl rfl rfl ?_
    refine e_iconst 27 78 rfl rfl ?_
    refine g_callV 28 81 (hnum) okX10_numberAt cvX1_49 ⟨(Nat.le_of_ble_eq_true rfl), (Nat.le_of_ble_eq_true rfl)⟩ rfl rfl w5.1.1 w5.1.2.2.1 rfl rfl rfl rfl (Nat.le_of_ble_eq_true rfl) (Nat.le_of_ble_eq_true rfl) (Nat.le_of_ble_eq_true rfl) ?_
    refine g_callV 29 84 (k1) okX1_addTo cvX1_52 ⟨(Nat.le_of_ble_eq_true rfl), (Nat.le_of_ble_eq_true rfl)⟩ rfl rfl (Nat.le_of_ble_eq_true rfl) rfl rfl rfl rfl rfl (Nat.le_of_ble_eq_true rfl) (Nat.le_of_ble_eq_true rfl) (Nat.le_of_ble_eq_true rfl) ?_
    exact e_zreturn 30 rfl rfl (bi_01 _) (Nat.le_of_ble_eq_true rfl) (Nat.le_of_ble_eq_true rfl)
  · obtain ⟨w1, w2, w3, w4, w5, w6⟩ := hw' (by decide)
    obtain ⟨σ', k1, k2⟩ := sp_pushTo hf hp0 hF w1 w2 w3 w4 w5 hM hV (by omega)
    refine ⟨σ', ?_, k2⟩
    refine e_entry okX1_editField (Nat.le_of_ble_eq_true rfl) (ls := [some _, some _, some _, some _, some _, none]) rfl ?_
    refine e_aload_n 0 1 rfl rfl rfl rfl ?_
    refine g_getR 1 4 ckX1 flX1_14 rfl rfl (Nat.le_of_ble_eq_true rfl) rfl rfl ?_
    refine e_iload_n 2 5 rfl rfl rfl rfl ?_
    refine e_iload_n 3 6 rfl rfl rfl rfl ?_
    refine g_callV 4 9 (hpl) okX10_placeOf cvX1_35 ⟨(Nat.le_of_ble_eq_true rfl), (Nat.le_of_ble_eq_true rfl)⟩ rfl rfl (Nat.le_of_ble_eq_true rfl) rfl rfl rfl rfl rfl (Nat.le_of_ble_eq_true rfl) (Nat.le_of_ble_eq_true rfl) (Nat.le_of_ble_eq_true rfl) ?_
    refine e_istore 5 11 (ls' := [some _, some _, some _, some _, some _, some _]) rfl rfl (Nat.le_of_ble_eq_true rfl) rfl ?_
    refine e_iload_n 6 12 rfl rfl rfl rfl ?_
    refine e_table 7 85 (x := 3) rfl (by unfold xr; omega) (by decide) (by decide) rfl rfl ?_
    refine e_aload_n 31 86 rfl rfl rfl rfl ?_
    refine e_iload_n 32 87 rfl rfl rfl rfl ?_
    refine e_iload_n 33 88 rfl rfl rfl rfl ?_
    refine e_aload 34 90 rfl rfl rfl ?_
    refine g_callV 35 93 (k1) okX1_pushTo cvX1_56 ⟨(Nat.le_of_ble_eq_true rfl), (Nat.le_of_ble_eq_true rfl)⟩ rfl rfl (Nat.le_of_ble_eq_true rfl) rfl rfl rfl rfl rfl (Nat.le_of_ble_eq_true rfl) (Nat.le_of_ble_eq_true rfl) (Nat.le_of_ble_eq_true rfl) ?_
    exact e_zreturn 36 rfl rfl (bi_01 _) (Nat.le_of_ble_eq_true rfl) (Nat.le_of_ble_eq_true rfl)
  · obtain ⟨w1, w2, w3, w4, w5, w6⟩ := hw' (by decide)
    have eF : edF F f 4 w = (match get f F with
      | .num _ => some F
      | .sub c _ => some (setf f (.sub (pul (tk w) c) (.num 0)) F)
      | _ => none) := rfl
    rcases aft_cases (f := f) hF with ⟨G, a1, a2, a3, a4⟩ | ⟨a1, a2, a3⟩ | a
    · obtain ⟨e1, e2⟩ := at_fld hF a1 p0 s
      rw [fld_at hf.1 hF a1] at hpl hpb
      have hpp := at_len p0 (tk (bef f F)) f
      obtain ⟨P, hP⟩ : ∃ P, P = p0 ++ tk (bef f F) ++ [1 + f] := ⟨_, rfl⟩
      rw [← hP] at e1 e2 hpl hpb hpp
      have hxr : xr (P.length : Int) := by unfold xr; omega
      have no : ∀ x r, p0 ++ (tk F ++ 0 :: s) = P ++ x :: r → knd x ≠ 3 → x_Sp MX1_editField 0 0 [.ref 243, .int (ii (p0.length - 1)), .int (ii f), .int (ii 4), .ref b] (St σ) (zv false) (St σ) := by
        intro x r hx hk3
        have hk := sp_kindAt hV hxr
        rw [hx, tok_hd] at hk
        have hkb := knd_bnd x
        refine e_entry okX1_editField (Nat.le_of_ble_eq_true rfl) (ls := [some _, some _, some _, some _, some _, none]) rfl ?_
        refine e_aload_n 0 1 rfl rfl rfl rfl ?_
        refine g_getR 1 4 ckX1 flX1_14 rfl rfl (Nat.le_of_ble_eq_true rfl) rfl rfl ?_
        refine e_iload_n 2 5 rfl rfl rfl rfl ?_
        refine e_iload_n 3 6 rfl rfl rfl rfl ?_
        refine g_callV 4 9 (hpl) okX10_placeOf cvX1_35 ⟨(Nat.le_of_ble_eq_true rfl), (Nat.le_of_ble_eq_true rfl)⟩ rfl rfl (Nat.le_of_ble_eq_true rfl) rfl rfl rfl rfl rfl (Nat.le_of_ble_eq_true rfl) (Nat.le_of_ble_eq_true rfl) (Nat.le_of_ble_eq_true rfl) ?_
        refine e_istore 5 11 (ls' := [some _, some _, some _, some _, some _, some _]) rfl rfl (Nat.le_of_ble_eq_true rfl) rfl ?_
        refine e_iload_n 6 12 rfl rfl rfl rfl ?_
        refine e_table 7 94 (x := 4) rfl (by unfold xr; omega) (by decide) (by decide) rfl rfl ?_
        refine e_iload 37 96 rfl rfl rfl ?_
        refine e_if_lt 38 123 99 rfl rfl rfl (by unfold xr at *; omega) (fun h9 => absurd h9 (by omega)) (fun _ => ?_)
        refine e_aload_n 39 100 rfl rfl rfl rfl ?_
        refine g_getR 40 103 ckX1 flX1_14 rfl rfl (Nat.le_of_ble_eq_true rfl) rfl rfl ?_
        refine e_iload 41 105 rfl rfl rfl ?_
        refine g_callV 42 108 (hk) okX10_kindAt cvX1_27 ⟨(Nat.le_of_ble_eq_true rfl), (Nat.le_of_ble_eq_true rfl)⟩ rfl rfl (Nat.le_of_ble_eq_true rfl) rfl rfl rfl rfl rfl (Nat.le_of_ble_eq_true rfl) (Nat.le_of_ble_eq_true rfl) (Nat.le_of_ble_eq_true rfl) ?_
        refine e_iconst 43 109 rfl rfl ?_
        refine e_icmp_ne 44 127 112 rfl rfl rfl (by unfold xr at *; omega) (by unfold xr at *; omega) (fun _ => ?_) (fun h9 => absurd h9 (by omega))
        refine e_iconst 52 128 rfl rfl ?_
        exact e_zreturn (x := 0) 53 rfl rfl (by omega) (Nat.le_of_ble_eq_true rfl) (Nat.le_of_ble_eq_true rfl)
      rw [eF, a3]
      cases G with
      | num z => exact absurd a2.1 (by decide)
      | var z => exact a2.elim
      | neg z => exact a2.elim
      | mulL k G => exact absurd a2.2.1 (by decide)
      | mulR n x =>
        have hx := lfx_b a2.2.1
        have hx3 : knd x ≠ 3 := by
          unfold knd
          rw [if_neg (by omega), if_neg (by omega)]
          split <;> (try split) <;> omega
        exact ⟨σ, no x (tk n ++ 0 :: s) (by rw [e1]; rfl) hx3, fun F' e => (by cases e), ⟨_, hV⟩, ⟨_, hM⟩, FX.rf⟩
      | add c n => exact ⟨σ, no 5000 (tk c ++ 0 :: (tk n ++ 0 :: s)) (by rw [e1]; simp [tk, fst1, cat, nxt]) (by decide), fun F' e => (by cases e), ⟨_, hV⟩, ⟨_, hM⟩, FX.rf⟩
      | sub c n =>
        have hcp := get_bnd (n := .num 0) hF (Or.inl a3)
        have hcn := pa_nn c
        have e1' : p0 ++ (tk F ++ 0 :: s) = (P ++ [4000]) ++ (tk c ++ 0 :: (tk n ++ 0 :: s)) := by rw [e1]; simp [tk, fst1, cat, nxt]
        have hV' := hV
        rw [e1'] at hV'
        have hk := sp_kindAt hV hxr
        rw [e1', show (P ++ [4000]) ++ (tk c ++ 0 :: (tk n ++ 0 :: s)) = P ++ 4000 :: (tk c ++ 0 :: (tk n ++ 0 :: s)) by simp, tok_hd] at hk
        have hkb := knd_bnd 4000
        obtain ⟨σ', k1, k2, k3⟩ := sp_pullFrom a2.2.1 (by omega) (by simp) (ok1_Cv w1) w2 w3 w5 hV'
        rw [len_s1] at k1
        have e3 := e2 (.sub (pul (tk w) c) (.num 0)) (Or.inr (Or.inr ⟨_, rfl, (pul_ok c (tk w) 0 a2.2.1).1⟩))
        have e4 : p0 ++ (tk (setf f (.sub (pul (tk w) c) (.num 0)) F) ++ 0 :: s) = (P ++ [4000]) ++ (tk (pul (tk w) c) ++ 0 :: (tk n ++ 0 :: s)) := by rw [e3]; simp [tk, nxt]
        rw [← e4] at k2
        refine ⟨σ', ?_, fun F' e => ?_, ⟨_, k2⟩, ⟨_, hM.f244 k3⟩, eL_of k3⟩
        · skip
          refine e_entry okX1_editField (Nat.le_of_ble_eq_true rfl) (ls := [some _, some _, some _, some _, some _, none]) rfl ?_
          refine e_aload_n 0 1 rfl rfl rfl rfl ?_
          refine g_getR 1 4 ckX1 flX1_14 rfl rfl (Nat.le_of_ble_eq_true rfl) rfl rfl ?_
          refine e_iload_n 2 5 rfl rfl rfl rfl ?_
          refine e_iload_n 3 6 rfl rfl rfl rfl ?_
          refine g_callV 4 9 (hpl) okX10_placeOf cvX1_35 ⟨(Nat.le_of_ble_eq_true rfl), (Nat.le_of_ble_eq_true rfl)⟩ rfl rfl (Nat.le_of_ble_eq_true rfl) rfl rfl rfl rfl rfl (Nat.le_of_ble_eq_true rfl) (Nat.le_of_ble_eq_true rfl) (Nat.le_of_ble_eq_true rfl) ?_
          refine e_istore 5 11 (ls' := [some _, some _, some _, some _, some _, some _]) rfl rfl (Nat.le_of_ble_eq_true rfl) rfl ?_
          refine e_iload_n 6 12 rfl rfl rfl rfl ?_
          refine e_table 7 94 (x := 4) rfl (by unfold xr; omega) (by decide) (by decide) rfl rfl ?_
          refine e_iload 37 96 rfl rfl rfl ?_
          refine e_if_lt 38 123 99 rfl rfl rfl (by unfold xr at *; omega) (fun h9 => absurd h9 (by omega)) (fun _ => ?_)
          refine e_aload_n 39 100 rfl rfl rfl rfl ?_
          refine g_getR 40 103 ckX1 flX1_14 rfl rfl (Nat.le_of_ble_eq_true rfl) rfl rfl ?_
          refine e_iload 41 105 rfl rfl rfl ?_
          refine g_callV 42 108 (hk) okX10_kindAt cvX1_27 ⟨(Nat.le_of_ble_eq_true rfl), (Nat.le_of_ble_eq_true rfl)⟩ rfl rfl (Nat.le_of_ble_eq_true rfl) rfl rfl rfl rfl rfl (Nat.le_of_ble_eq_true rfl) (Nat.le_of_ble_eq_true rfl) (Nat.le_of_ble_eq_true rfl) ?_
          refine e_iconst 43 109 rfl rfl ?_
          refine e_icmp_ne 44 127 112 rfl rfl rfl (by unfold xr at *; omega) (by unfold xr at *; omega) (fun h9 => absurd h9 (by decide)) (fun _ => ?_)
          refine e_aload_n 45 113 rfl rfl rfl rfl ?_
          refine e_iload 46 115 rfl rfl rfl ?_
          refine e_aload 47 117 rfl rfl rfl ?_
          refine g_callV 48 120 (k1) okX1_pullFrom cvX1_60 ⟨(Nat.le_of_ble_eq_true rfl), (Nat.le_of_ble_eq_true rfl)⟩ rfl rfl (Nat.le_of_ble_eq_true rfl) rfl rfl rfl rfl rfl (Nat.le_of_ble_eq_true rfl) (Nat.le_of_ble_eq_true rfl) (Nat.le_of_ble_eq_true rfl) ?_
          refine e_ifb_eq 49 127 123 rfl rfl rfl (fun h9 => ?_) (fun h9 => ?_)
          · skip
            cases h9
          · skip
            refine e_iconst 50 124 rfl rfl ?_
            refine e_goto 51 128 rfl rfl ?_
            exact e_zreturn (x := 1) 53 rfl rfl (by omega) (Nat.le_of_ble_eq_true rfl) (Nat.le_of_ble_eq_true rfl)
        · simp only [fst1, cat, Option.some.injEq] at e
          rw [← e]
          exact k2
    · rw [eF, a1]
      rw [plc_no (by omega) hf.1 hF a3] at hpl
      refine ⟨σ, ?_, fun F' e => ?_, ⟨_, hV⟩, ⟨_, hM⟩, FX.rf⟩
      · skip
        refine e_entry okX1_editField (Nat.le_of_ble_eq_true rfl) (ls := [some _, some _, some _, some _, some _, none]) rfl ?_
        refine e_aload_n 0 1 rfl rfl rfl rfl ?_
        refine g_getR 1 4 ckX1 flX1_14 rfl rfl (Nat.le_of_ble_eq_true rfl) rfl rfl ?_
        refine e_iload_n 2 5 rfl rfl rfl rfl ?_
        refine e_iload_n 3 6 rfl rfl rfl rfl ?_
        refine g_callV 4 9 (hpl) okX10_placeOf cvX1_35 ⟨(Nat.le_of_ble_eq_true rfl), (Nat.le_of_ble_eq_true rfl)⟩ rfl rfl (Nat.le_of_ble_eq_true rfl) rfl rfl rfl rfl rfl (Nat.le_of_ble_eq_true rfl) (Nat.le_of_ble_eq_true rfl) (Nat.le_of_ble_eq_true rfl) ?_
        refine e_istore 5 11 (ls' := [some _, some _, some _, some _, some _, some _]) rfl rfl (Nat.le_of_ble_eq_true rfl) rfl ?_
        refine e_iload_n 6 12 rfl rfl rfl rfl ?_
        refine e_table 7 94 (x := 4) rfl (by unfold xr; omega) (by decide) (by decide) rfl rfl ?_
        refine e_iload 37 96 rfl rfl rfl ?_
        refine e_if_lt 38 123 99 rfl rfl rfl (by unfold xr at *; omega) (fun _ => ?_) (fun h9 => absurd h9 (by omega))
        refine e_iconst 50 124 rfl rfl ?_
        refine e_goto 51 128 rfl rfl ?_
        exact e_zreturn (x := 1) 53 rfl rfl (by omega) (Nat.le_of_ble_eq_true rfl) (Nat.le_of_ble_eq_true rfl)
      · simp only [Option.some.injEq] at e
        rw [← e]
        exact hV
    · omega
  · obtain ⟨w1, w2, w3, w4, w5, w6⟩ := hw' (by decide)
    obtain ⟨y, rfl, hy, hy1⟩ := hwy (Or.inr rfl)
    have hyb := knd_1 hy1
    have eF : edF F f 5 (.mulR (.num 0) y) = (match get f F with
      | .num _ => some F
      | .sub c _ => (ade (y - 2000) c).map fun m => setf f (.sub m (.num 0)) F
      | _ => none) := rfl
    rcases aft_cases (f := f) hF with ⟨G, a1, a2, a3, a4⟩ | ⟨a1, a2, a3⟩ | a
    · obtain ⟨e1, e2⟩ := at_fld hF a1 p0 s
      rw [fld_at hf.1 hF a1] at hpl hpb
      have hpp := at_len p0 (tk (bef f F)) f
      obtain ⟨P, hP⟩ : ∃ P, P = p0 ++ tk (bef f F) ++ [1 + f] := ⟨_, rfl⟩
      rw [← hP] at e1 e2 hpl hpb hpp
      have hxr : xr (P.length : Int) := by unfold xr; omega
      have no : ∀ x r, p0 ++ (tk F ++ 0 :: s) = P ++ x :: r → knd x ≠ 3 → x_Sp MX1_editField 0 0 [.ref 243, .int (ii (p0.length - 1)), .int (ii f), .int (ii 5), .ref b] (St σ) (zv false) (St σ) := by
        intro x r hx hk3
        have hk := sp_kindAt hV hxr
        rw [hx, tok_hd] at hk
        have hkb := knd_bnd x
        refine e_entry okX1_editField (Nat.le_of_ble_eq_true rfl) (ls := [some _, some _, some _, some _, some _, none]) rfl ?_
        refine e_aload_n 0 1 rfl rfl rfl rfl ?_
        refine g_getR 1 4 ckX1 flX1_14 rfl rfl (Nat.le_of_ble_eq_true rfl) rfl rfl ?_
        refine e_iload_n 2 5 rfl rfl rfl rfl ?_
        refine e_iload_n 3 6 rfl rfl rfl rfl ?_
        refine g_callV 4 9 (hpl) okX10_placeOf cvX1_35 ⟨(Nat.le_of_ble_eq_true rfl), (Nat.le_of_ble_eq_true rfl)⟩ rfl rfl (Nat.le_of_ble_eq_true rfl) rfl rfl rfl rfl rfl (Nat.le_of_ble_eq_true rfl) (Nat.le_of_ble_eq_true rfl) (Nat.le_of_ble_eq_true rfl) ?_
        refine e_istore 5 11 (ls' := [some _, some _, some _, some _, some _, some _]) rfl rfl (Nat.le_of_ble_eq_true rfl) rfl ?_
        refine e_iload_n 6 12 rfl rfl rfl rfl ?_
        refine e_tableO 7 129 (x := 5) rfl (by unfold xr; omega) (by decide) rfl ?_
        refine e_iload 54 131 rfl rfl rfl ?_
        refine e_if_lt 55 162 134 rfl rfl rfl (by unfold xr at *; omega) (fun h9 => absurd h9 (by omega)) (fun _ => ?_)
        refine e_aload_n 56 135 rfl rfl rfl rfl ?_
        refine g_getR 57 138 ckX1 flX1_14 rfl rfl (Nat.le_of_ble_eq_true rfl) rfl rfl ?_
        refine e_iload 58 140 rfl rfl rfl ?_
        refine g_callV 59 143 (hk) okX10_kindAt cvX1_27 ⟨(Nat.le_of_ble_eq_true rfl), (Nat.le_of_ble_eq_true rfl)⟩ rfl rfl (Nat.le_of_ble_eq_true rfl) rfl rfl rfl rfl rfl (Nat.le_of_ble_eq_true rfl) (Nat.le_of_ble_eq_true rfl) (Nat.le_of_ble_eq_true rfl) ?_
        refine e_iconst 60 144 rfl rfl ?_
        refine e_icmp_ne 61 166 147 rfl rfl rfl (by unfold xr at *; omega) (by unfold xr at *; omega) (fun _ => ?_) (fun h9 => absurd h9 (by omega))
        refine e_iconst 71 167 rfl rfl ?_
        exact e_zreturn (x := 0) 72 rfl rfl (by omega) (Nat.le_of_ble_eq_true rfl) (Nat.le_of_ble_eq_true rfl)
      rw [eF, a3]
      cases G with
      | num z => exact absurd a2.1 (by decide)
      | var z => exact a2.elim
      | neg z => exact a2.elim
      | mulL k G => exact absurd a2.2.1 (by decide)
      | mulR n x =>
        have hx := lfx_b a2.2.1
        have hx3 : knd x ≠ 3 := by
          unfold knd
          rw [if_neg (by omega), if_neg (by omega)]
          split <;> (try split) <;> omega
        exact ⟨σ, no x (tk n ++ 0 :: s) (by rw [e1]; rfl) hx3, fun F' e => (by cases e), ⟨_, hV⟩, ⟨_, hM⟩, FX.rf⟩
      | add c n => exact ⟨σ, no 5000 (tk c ++ 0 :: (tk n ++ 0 :: s)) (by rw [e1]; simp [tk, fst1, cat, nxt]) (by decide), fun F' e => (by cases e), ⟨_, hV⟩, ⟨_, hM⟩, FX.rf⟩
      | sub c n =>
        have hcp := get_bnd (n := .num 0) hF (Or.inl a3)
        have hcn := pa_nn c
        have e1' : p0 ++ (tk F ++ 0 :: s) = (P ++ [4000]) ++ (tk c ++ 0 :: (tk n ++ 0 :: s)) := by rw [e1]; simp [tk, fst1, cat, nxt]
        have hV' := hV
        rw [e1'] at hV'
        have hk := sp_kindAt hV hxr
        rw [e1', show (P ++ [4000]) ++ (tk c ++ 0 :: (tk n ++ 0 :: s)) = P ++ 4000 :: (tk c ++ 0 :: (tk n ++ 0 :: s)) by simp, tok_hd] at hk
        have hkb := knd_bnd 4000
        have hnum := sp_numberAt w5 xr_0
        rw [show tok (tk (.mulR (.num 0) y)) 0 = y from rfl] at hnum
        obtain ⟨σ', k1, k2, k2b, k3⟩ := sp_addToEach (z := y - 2000) a2.2.1 (by omega) (by simp) (by omega) hV'
        rw [len_s1] at k1
        refine ⟨σ', ?_, fun F' e => ?_, k2b, ⟨_, hM.f244 k3⟩, eL_of k3⟩
        · simp only [fst1, cat, Option.isSome_map]
          refine e_entry okX1_editField (Nat.le_of_ble_eq_true rfl) (ls := [some _, some _, some _, some _, some _, none]) rfl ?_
          refine e_aload_n 0 1 rfl rfl rfl rfl ?_
          refine g_getR 1 4 ckX1 flX1_14 rfl rfl (Nat.le_of_ble_eq_true rfl) rfl rfl ?_
          refine e_iload_n 2 5 rfl rfl rfl rfl ?_
          refine e_iload_n 3 6 rfl rfl rfl rfl ?_
          refine g_callV 4 9 (hpl) okX10_placeOf cvX1_35 ⟨(Nat.le_of_ble_eq_true rfl), (Nat.le_of_ble_eq_true rfl)⟩ rfl rfl hV.1.1 hV.1.2.2.1 rfl rfl rfl rfl (Nat.le_of_ble_eq_true rfl) (Nat.le_of_ble_eq_true rfl) (Nat.le_of_ble_eq_true rfl) ?_
          refine e_istore 5 11 (ls' := [some _, some _, some _, some _, some _, some _]) rfl rfl (Nat.le_of_ble_eq_true rfl) rfl ?_
          refine e_iload_n 6 12 rfl rfl rfl rfl ?_
          refine e_tableO 7 129 (x := 5) rfl (by unfold xr; omega) (by decide) rfl ?_
          refine e_iload 54 131 rfl rfl rfl ?_
          refine e_if_lt 55 162 134 rfl rfl rfl (by unfold xr at *; omega) (fun h9 => absurd h9 (by omega)) (fun _ => ?_)
          refine e_aload_n 56 135 rfl rfl rfl rfl ?_
          refine g_getR 57 138 ckX1 flX1_14 rfl rfl (Nat.le_of_ble_eq_true rfl) rfl rfl ?_
          refine e_iload 58 140 rfl rfl rfl ?_
          refine g_callV 59 143 (hk) okX10_kindAt cvX1_27 ⟨(Nat.le_of_ble_eq_true rfl), (Nat.le_of_ble_eq_true rfl)⟩ rfl rfl hV.1.1 hV.1.2.2.1 rfl rfl rfl rfl (Nat.le_of_ble_eq_true rfl) (Nat.le_of_ble_eq_true rfl) (Nat.le_of_ble_eq_true rfl) ?_
          refine e_iconst 60 144 rfl rfl ?_
          refine e_icmp_ne 61 166 147 rfl rfl rfl (by unfold xr at *; omega) (by unfold xr at *; omega) (fun h9 => absurd h9 (by decide)) (fun _ => ?_)
          refine e_aload_n 62 148 rfl rfl rfl rfl ?_
          refine e_iload 63 150 rfl rfl rfl ?_
          refine e_aload 64 152 rfl rfl rfl ?_
          refine e_iconst 65 153 rfl rfl ?_
          refine g_callV 66 156 (hnum) okX10_numberAt cvX1_49 ⟨(Nat.le_of_ble_eq_true rfl), (Nat.le_of_ble_eq_true rfl)⟩ rfl rfl w5.1.1 w5.1.2.2.1 rfl rfl rfl rfl (Nat.le_of_ble_eq_true rfl) (Nat.le_of_ble_eq_true rfl) (Nat.le_of_ble_eq_true rfl) ?_
          refine g_callV 67 159 (k1) okX1_addToEach cvX1_64 ⟨(Nat.le_of_ble_eq_true rfl), (Nat.le_of_ble_eq_true rfl)⟩ rfl rfl (Nat.le_of_ble_eq_true rfl) rfl rfl rfl rfl rfl (Nat.le_of_ble_eq_true rfl) (Nat.le_of_ble_eq_true rfl) (Nat.le_of_ble_eq_true rfl) ?_
          refine e_ifb_eq 68 166 162 rfl rfl rfl (fun h9 => ?_) (fun h9 => ?_)
          · skip
            rw [h9]
            refine e_iconst 71 167 rfl rfl ?_
            exact e_zreturn (x := 0) 72 rfl rfl (by omega) (Nat.le_of_ble_eq_true rfl) (Nat.le_of_ble_eq_true rfl)
          · skip
            rw [h9]
            refine e_iconst 69 163 rfl rfl ?_
            refine e_goto 70 167 rfl rfl ?_
            exact e_zreturn (x := 1) 72 rfl rfl (by omega) (Nat.le_of_ble_eq_true rfl) (Nat.le_of_ble_eq_true rfl)
        · simp only [fst1, cat] at e
          obtain ⟨m, hm, rfl⟩ := Option.map_eq_some_iff.mp e
          have e3 := e2 (.sub m (.num 0)) (Or.inr (Or.inr ⟨_, rfl, (ade_ok c _ 0 m a2.2.1 hm).1⟩))
          have e4 : p0 ++ (tk (setf f (.sub m (.num 0)) F) ++ 0 :: s) = (P ++ [4000]) ++ (tk m ++ 0 :: (tk n ++ 0 :: s)) := by rw [e3]; simp [tk, nxt]
          rw [e4]
          exact k2 m hm
    · rw [eF, a1]
      rw [plc_no (by omega) hf.1 hF a3] at hpl
      refine ⟨σ, ?_, fun F' e => ?_, ⟨_, hV⟩, ⟨_, hM⟩, FX.rf⟩
      · skip
        refine e_entry okX1_editField (Nat.le_of_ble_eq_true rfl) (ls := [some _, some _, some _, some _, some _, none]) rfl ?_
        refine e_aload_n 0 1 rfl rfl rfl rfl ?_
        refine g_getR 1 4 ckX1 flX1_14 rfl rfl (Nat.le_of_ble_eq_true rfl) rfl rfl ?_
        refine e_iload_n 2 5 rfl rfl rfl rfl ?_
        refine e_iload_n 3 6 rfl rfl rfl rfl ?_
        refine g_callV 4 9 (hpl) okX10_placeOf cvX1_35 ⟨(Nat.le_of_ble_eq_true rfl), (Nat.le_of_ble_eq_true rfl)⟩ rfl rfl (Nat.le_of_ble_eq_true rfl) rfl rfl rfl rfl rfl (Nat.le_of_ble_eq_true rfl) (Nat.le_of_ble_eq_true rfl) (Nat.le_of_ble_eq_true rfl) ?_
        refine e_istore 5 11 (ls' := [some _, some _, some _, some _, some _, some _]) rfl rfl (Nat.le_of_ble_eq_true rfl) rfl ?_
        refine e_iload_n 6 12 rfl rfl rfl rfl ?_
        refine e_tableO 7 129 (x := 5) rfl (by unfold xr; omega) (by decide) rfl ?_
        refine e_iload 54 131 rfl rfl rfl ?_
        refine e_if_lt 55 162 134 rfl rfl rfl (by unfold xr at *; omega) (fun _ => ?_) (fun h9 => absurd h9 (by omega))
        refine e_iconst 69 163 rfl rfl ?_
        refine e_goto 70 167 rfl rfl ?_
        exact e_zreturn (x := 1) 72 rfl rfl (by omega) (Nat.le_of_ble_eq_true rfl) (Nat.le_of_ble_eq_true rfl)
      · simp only [Option.some.injEq] at e
        rw [← e]
        exact hV
    · omega
