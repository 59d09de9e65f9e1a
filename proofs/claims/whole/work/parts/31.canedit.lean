/-! ===== Editor: an update ===== -/
theorem edR_in {σ σ' : xSig} {P s : List Int} {F G n : Fo} {f : Int} {p0 s0 : List Int} (hF : okf true false 0 F) (a1 : aft f F = .mulL f (.add G n)) (hP : P = p0 ++ tk (bef f F) ++ [1 + f]) (hs : s = tk n ++ 0 :: s0) {r : Option Fo} (hr : ∀ m, r = some m → okf true false 0 m) (h : EDR σ σ' (P ++ [5000]) s r) : EDR σ σ' p0 s0 (r.map fun m => setf f (.add m (.num 0)) F) := by
  obtain ⟨h1, h2⟩ := h
  refine ⟨fun F' e => ?_, h2⟩
  obtain ⟨m, hm, rfl⟩ := Option.map_eq_some_iff.mp e
  have h9 := h1 m hm
  have e2 := (at_fld hF a1 p0 s0).2 (.add m (.num 0)) (Or.inr (Or.inl ⟨m, rfl, hr m hm⟩))
  rw [e2, ← hP]
  rw [hs] at h9
  simpa [tk, nxt] using h9
theorem inr9_in {x : Int} (h : inr9 x = true) : -999 ≤ x ∧ x ≤ 999 := of_decide_eq_true h
theorem edF_ok {F : Fo} {f op : Int} {w F' : Fo} (hf : 0 ≤ f ∧ f < 8) (hF : okf true false 0 F) (hw : op = 1 ∨ ok1 w) (h : edF F f op w = some F') : okf true false 0 F' := by
  have hg : ∀ c, get f F = .sub c (.num 0) ∨ (∃ n, get f F = .sub c n) → okf false false 0 c := by
    intro c hc
    have hc' : ∃ n, get f F = .sub c n := hc.elim (fun q => ⟨_, q⟩) (fun q => q)
    obtain ⟨n, hn⟩ := hc'
    rcases aft_cases (f := f) hF with ⟨G, a1, a2, a3, a4⟩ | ⟨a1, a2, a3⟩ | a
    · have hv := (val_cases a2).1
      rw [← a3, hn] at hv
      rcases hv with ⟨x, e, _⟩ | ⟨c', e, _⟩ | ⟨c', e, h9⟩
      · cases e
      · cases e
      · cases e
        exact h9
    · rw [a1] at hn
      cases hn
    · omega
  unfold edF at h
  split at h
  · next q => cases h; exact setf_ok F f w _ _ hF (hw.resolve_left (by omega)) hf.1 hf.2
  · split at h
    · cases h; exact delf_ok F f _ _ hF
    · next q0 q1 =>
      have hw1 := hw.resolve_left q1
      split at h
      · split at h
        · cases h; exact setf_ok F f w _ _ hF hw1 hf.1 hf.2
        · split at h
          · next q3 =>
            cases h
            have q4 := inr9_in q3.2
            exact setf_ok F f _ _ _ hF (Or.inl ⟨_, rfl, by unfold lfx; omega⟩) hf.1 hf.2
          · cases h
        · cases h
      · split at h
        · split at h
          · cases h
            exact setf_ok F f _ _ _ hF (Or.inr (Or.inr ⟨_, rfl, ok1_okf hw1⟩)) hf.1 hf.2
          · next c n hq =>
            cases h
            exact setf_ok F f _ _ _ hF (Or.inr (Or.inr ⟨_, rfl, (apd_ok c w 0 (hg c (Or.inr ⟨_, hq⟩)) hw1).1⟩)) hf.1 hf.2
          · cases h
        · split at h
          · split at h
            · cases h; exact hF
            · next c n hq =>
              cases h
              exact setf_ok F f _ _ _ hF (Or.inr (Or.inr ⟨_, rfl, (pul_ok c (tk w) 0 (hg c (Or.inr ⟨_, hq⟩))).1⟩)) hf.1 hf.2
            · cases h
          · split at h
            · cases h; exact hF
            · next c n hq =>
              obtain ⟨m, hm, rfl⟩ := Option.map_eq_some_iff.mp h
              exact setf_ok F f _ _ _ hF (Or.inr (Or.inr ⟨_, rfl, (ade_ok c _ 0 m (hg c (Or.inr ⟨_, hq⟩)) hm).1⟩)) hf.1 hf.2
            · cases h
theorem sp_canEdit {σ : xSig} {a capa b cap : Nat} {t t0 m0 : List Int} {F w : Fo} {path op : Int} (hp : 0 ≤ path ∧ path < 72) (hop : 0 ≤ op ∧ op ≤ 5) (hD : DC t F) (ha : vO a = true) (ha2 : a ≠ 244) (hVa : VH σ a capa t) (hw : op = 1 ∨ (ok1 w ∧ vO b = true ∧ b ≠ 244 ∧ b ≠ 246 ∧ VH σ b cap (tk w) ∧ (tk w).length ≤ 72)) (hM : VH σ 246 72 m0) (hV0 : VH σ 244 152 t0) :
    ∃ σ' : xSig, x_Sp MX1_canEdit 0 0 [.ref 243, .ref a, .int (ii path), .int (ii op), .ref b] (St σ) (zv (edD F path op w).isSome) (St σ') ∧ EDR σ σ' [5000] [] (edD F path op w) := by
  obtain ⟨d1, hF, hpa⟩ := hD
  have hdl : t.length ≤ 72 := DC.len ⟨d1, hF, hpa⟩
  obtain ⟨g1, g2⟩ := vO_apart vO_244.1 ha ha2
  obtain ⟨σ1, k1, k2, k3⟩ := sp_becomeV hV0 hVa (by omega) ha2 g1 g2
  have hV1 : VH σ1 244 152 ([5000] ++ (tk F ++ 0 :: [])) := by rw [d1] at k2; exact k2
  have hln : ([5000] ++ (tk F ++ 0 :: []) : List Int).length ≤ 72 := by rw [d1] at hdl; exact hdl
  have hM1 := hM.f244 k3
  have hw1 : op = 1 ∨ (ok1 w ∧ vO b = true ∧ b ≠ 244 ∧ b ≠ 246 ∧ VH σ1 b cap (tk w) ∧ (tk w).length ≤ 72) := by
    rcases hw with h | ⟨w1, w2, w3, w4, w5, w6⟩
    · exact Or.inl h
    · obtain ⟨q1, q2⟩ := vO_apart vO_244.1 w2 w3
      exact Or.inr ⟨w1, w2, w3, w4, w5.fr k3 w3 q1 q2, w6⟩
  have out : ∀ (o : xO) (r : Option Fo), (∃ σ', x_E MX1_canEdit 0 0 8 [some (.ref 243), some (.ref a), some (.int (ii path)), some (.int (ii op)), some (.ref b), none, none] [] (St σ1) 0 0 o (St σ') ∧ EDR σ1 σ' [5000] [] r) → ∃ σ', x_Sp MX1_canEdit 0 0 [.ref 243, .ref a, .int (ii path), .int (ii op), .ref b] (St σ) o (St σ') ∧ EDR σ σ' [5000] [] r := by
    intro o r h
    obtain ⟨σ', m1, m2, m3, m4, m5⟩ := h
    refine ⟨σ', ?_, m2, m3, m4, (eL_of k3).tr m5⟩
    refine e_entry okX1_canEdit (Nat.le_of_ble_eq_true rfl) (ls := [some _, some _, some _, some _, some _, none, none]) rfl ?_
    refine e_aload_n 0 1 rfl rfl rfl rfl ?_
    refine g_getR 1 4 ckX1 flX1_14 rfl rfl (Nat.le_of_ble_eq_true rfl) rfl rfl ?_
    refine e_aload_n 2 5 rfl rfl rfl rfl ?_
    refine g_callV 3 8 (k1) okX10_become_ cvX1_23 ⟨(Nat.le_of_ble_eq_true rfl), (Nat.le_of_ble_eq_true rfl)⟩ rfl rfl (Nat.le_of_ble_eq_true rfl) rfl rfl rfl rfl rfl (Nat.le_of_ble_eq_true rfl) (Nat.le_of_ble_eq_true rfl) (Nat.le_of_ble_eq_true rfl) ?_
    exact m1
  apply out
  -- from 30 on
  have g30 : (op = 2 ∨ op = 5 → knd (tok (tk w) 0) = 1) → ∃ σ', x_E MX1_canEdit 0 0 30 [some (.ref 243), some (.ref a), some (.int (ii path)), some (.int (ii op)), some (.ref b), none, none] [] (St σ1) 0 0 (zv (edD F path op w).isSome) (St σ') ∧ EDR σ1 σ' [5000] [] (edD F path op w) := by
    intro hk1
    have eD : edD F path op w = if path < 8 then edF F path op w
      else match get (path / 8 - 1) F with
        | .num _ => if op = 1 ∨ op = 4 ∨ op = 5 then some F else (edF (.num 0) (path % 8) op w).map fun m => setf (path / 8 - 1) (.add m (.num 0)) F
        | .add c _ => (edF c (path % 8) op w).map fun m => setf (path / 8 - 1) (.add m (.num 0)) F
        | _ => none := by
      unfold edD
      rw [if_neg (fun q => q.2 (hk1 q.1))]
      rfl
    rw [eD]
    by_cases h8 : path < 8
    · rw [if_pos h8]
      obtain ⟨σ', m1, m2⟩ := sp_editField (p0 := [5000]) (s := []) ⟨hp.1, h8⟩ (by decide) hop hF (by omega) hw1 hk1 hM1 hV1 (by omega)
      rw [show ((([5000] : List Int).length : Nat) : Int) - 1 = 0 from rfl] at m1
      refine ⟨σ', ?_, m2⟩
      refine e_iload_n 17 31 rfl rfl rfl rfl ?_
      refine e_bipush 18 33 rfl rfl rfl ?_
      refine e_icmp_ge 19 46 36 rfl rfl rfl (by unfold xr at *; omega) (by unfold xr at *; omega) (fun h9 => absurd h9 (by omega)) (fun _ => ?_)
      refine e_aload_n 20 37 rfl rfl rfl rfl ?_
      refine e_iconst 21 38 rfl rfl ?_
      refine e_iload_n 22 39 rfl rfl rfl rfl ?_
      refine e_iload_n 23 40 rfl rfl rfl rfl ?_
      refine e_aload 24 42 rfl rfl rfl ?_
      refine g_callV 25 45 (m1) okX1_editField cvX1_31 ⟨(Nat.le_of_ble_eq_true rfl), (Nat.le_of_ble_eq_true rfl)⟩ rfl rfl (Nat.le_of_ble_eq_true rfl) rfl rfl rfl rfl rfl (Nat.le_of_ble_eq_true rfl) (Nat.le_of_ble_eq_true rfl) (Nat.le_of_ble_eq_true rfl) ?_
      exact e_zreturn 26 rfl rfl (bi_01 _) (Nat.le_of_ble_eq_true rfl) (Nat.le_of_ble_eq_true rfl)
    · rw [if_neg h8]
      have hf1 : 0 ≤ path / 8 - 1 ∧ path / 8 - 1 < 8 := by omega
      have hf2 : 0 ≤ path % 8 ∧ path % 8 < 8 := by omega
      have hpl := sp_plF (p0 := [5000]) hf1 (by decide) hV1
      rw [show ((([5000] : List Int).length : Nat) : Int) - 1 = 0 from rfl] at hpl
      have hdiv : ii path / ii 8 = ii (path / 8) := ii_div (by omega) (by omega)
      have hrem : ii path - ii path / ii 8 * ii 8 = ii (path % 8) := ii_rem (by omega) (by omega)
      rcases aft_cases (f := path / 8 - 1) hF with ⟨G, a1, a2, a3, a4⟩ | ⟨a1, a2, a3⟩ | a
      · obtain ⟨e1, e2⟩ := at_fld hF a1 [5000] []
        rw [fld_at hf1.1 hF a1] at hpl
        have hpp := at_len [5000] (tk (bef (path / 8 - 1) F)) (path / 8 - 1)
        obtain ⟨P, hP⟩ : ∃ P, P = [5000] ++ tk (bef (path / 8 - 1) F) ++ [1 + (path / 8 - 1)] := ⟨_, rfl⟩
        rw [← hP] at e1 e2 hpl hpp
        have hlb : P.length ≤ ([5000] ++ (tk F ++ 0 :: []) : List Int).length := by rw [e1, List.length_append]; omega
        have hxr : xr (P.length : Int) := by unfold xr; omega
        have no : ∀ x r, [5000] ++ (tk F ++ 0 :: []) = P ++ x :: r → knd x ≠ 4 → x_E MX1_canEdit 0 0 30 [some (.ref 243), some (.ref a), some (.int (ii path)), some (.int (ii op)), some (.ref b), none, none] [] (St σ1) 0 0 (zv false) (St σ1) := by
          intro x r hx hk4
          have hk := sp_kindAt hV1 hxr
          rw [hx, tok_hd] at hk
          have hkb := knd_bnd x
          refine e_iload_n 17 31 rfl rfl rfl rfl ?_
          refine e_bipush 18 33 rfl rfl rfl ?_
          refine e_icmp_ge 19 46 36 rfl rfl rfl (by unfold xr at *; omega) (by unfold xr at *; omega) (fun _ => ?_) (fun h9 => absurd h9 (by omega))
          refine e_iload_n 27 47 rfl rfl rfl rfl ?_
          refine e_bipush 28 49 rfl rfl rfl ?_
          refine e_idiv 29 50 rfl rfl (by decide) hdiv ?_
          refine e_iconst 30 51 rfl rfl ?_
          refine e_isub 31 52 rfl rfl ?_
          refine e_istore 32 54 (ls' := [some _, some _, some _, some _, some _, some _, none]) rfl rfl (Nat.le_of_ble_eq_true rfl) rfl ?_
          refine e_aload_n 33 55 rfl rfl rfl rfl ?_
          refine g_getR 34 58 ckX1 flX1_14 rfl rfl (Nat.le_of_ble_eq_true rfl) rfl rfl ?_
          refine e_iconst 35 59 rfl rfl ?_
          refine e_iload 36 61 rfl rfl rfl ?_
          refine g_callV 37 64 (hpl) okX10_placeOf cvX1_35 ⟨(Nat.le_of_ble_eq_true rfl), (Nat.le_of_ble_eq_true rfl)⟩ rfl rfl (Nat.le_of_ble_eq_true rfl) rfl rfl rfl rfl rfl (Nat.le_of_ble_eq_true rfl) (Nat.le_of_ble_eq_true rfl) (Nat.le_of_ble_eq_true rfl) ?_
          refine e_istore 38 66 (ls' := [some _, some _, some _, some _, some _, some _, some _]) rfl rfl (Nat.le_of_ble_eq_true rfl) rfl ?_
          refine e_iload 39 68 rfl rfl rfl ?_
          refine e_if_lt 40 106 71 rfl rfl rfl (by unfold xr at *; omega) (fun h9 => absurd h9 (by omega)) (fun _ => ?_)
          refine e_aload_n 41 72 rfl rfl rfl rfl ?_
          refine g_getR 42 75 ckX1 flX1_14 rfl rfl (Nat.le_of_ble_eq_true rfl) rfl rfl ?_
          refine e_iload 43 77 rfl rfl rfl ?_
          refine g_callV 44 80 (hk) okX10_kindAt cvX1_27 ⟨(Nat.le_of_ble_eq_true rfl), (Nat.le_of_ble_eq_true rfl)⟩ rfl rfl (Nat.le_of_ble_eq_true rfl) rfl rfl rfl rfl rfl (Nat.le_of_ble_eq_true rfl) (Nat.le_of_ble_eq_true rfl) (Nat.le_of_ble_eq_true rfl) ?_
          refine e_iconst 45 81 rfl rfl ?_
          refine e_icmp_ne 46 104 84 rfl rfl rfl (by unfold xr at *; omega) (by unfold xr at *; omega) (fun _ => ?_) (fun h9 => absurd h9 (by omega))
          refine e_iconst 58 105 rfl rfl ?_
          exact e_zreturn (x := 0) 59 rfl rfl (by omega) (Nat.le_of_ble_eq_true rfl) (Nat.le_of_ble_eq_true rfl)
        rw [a3]
        cases G with
        | num z => exact absurd a2.1 (by decide)
        | var z => exact a2.elim
        | neg z => exact a2.elim
        | mulL k G => exact absurd a2.2.1 (by decide)
        | mulR n x =>
          have hx := lfx_b a2.2.1
          have hx4 : knd x ≠ 4 := by
            unfold knd
            rw [if_neg (by omega), if_neg (by omega)]
            split <;> (try split) <;> omega
          exact ⟨σ1, no x (tk n ++ 0 :: []) (by rw [e1]; rfl) hx4, fun F' e => (by cases e), ⟨_, hV1⟩, ⟨_, hM1⟩, FX.rf⟩
        | sub c n => exact ⟨σ1, no 4000 (tk c ++ 0 :: (tk n ++ 0 :: [])) (by rw [e1]; simp [tk, fst1, cat, nxt]) (by decide), fun F' e => (by cases e), ⟨_, hV1⟩, ⟨_, hM1⟩, FX.rf⟩
        | add c n =>
          have hcp := get_bnd (n := .num 0) hF (Or.inr a3)
          have e1' : [5000] ++ (tk F ++ 0 :: []) = (P ++ [5000]) ++ (tk c ++ 0 :: (tk n ++ 0 :: [])) := by rw [e1]; simp [tk, fst1, cat, nxt]
          have hV1' := hV1
          rw [e1'] at hV1'
          have hk := sp_kindAt hV1 hxr
          rw [e1', show (P ++ [5000]) ++ (tk c ++ 0 :: (tk n ++ 0 :: [])) = P ++ 5000 :: (tk c ++ 0 :: (tk n ++ 0 :: [])) by simp, tok_hd] at hk
          have hkb := knd_bnd 5000
          obtain ⟨σ', m1, m2⟩ := sp_editField (p0 := P ++ [5000]) (s := tk n ++ 0 :: []) hf2 (by simp) hop a2.2.1 (by omega) hw1 hk1 hM1 hV1' (by rw [← e1']; omega)
          rw [len_s1] at m1
          refine ⟨σ', ?_, edR_in hF a1 hP rfl (fun m hm => edF_ok hf2 a2.2.1 (hw1.imp (fun q => q) (fun q => q.1)) hm) m2⟩
          simp only [fst1, cat, Option.isSome_map]
          refine e_iload_n 17 31 rfl rfl rfl rfl ?_
          refine e_bipush 18 33 rfl rfl rfl ?_
          refine e_icmp_ge 19 46 36 rfl rfl rfl (by unfold xr at *; omega) (by unfold xr at *; omega) (fun _ => ?_) (fun h9 => absurd h9 (by omega))
          refine e_iload_n 27 47 rfl rfl rfl rfl ?_
          refine e_bipush 28 49 rfl rfl rfl ?_
          refine e_idiv 29 50 rfl rfl (by decide) hdiv ?_
          refine e_iconst 30 51 rfl rfl ?_
          refine e_isub 31 52 rfl rfl ?_
          refine e_istore 32 54 (ls' := [some _, some _, some _, some _, some _, some _, none]) rfl rfl (Nat.le_of_ble_eq_true rfl) rfl ?_
          refine e_aload_n 33 55 rfl rfl rfl rfl ?_
          refine g_getR 34 58 ckX1 flX1_14 rfl rfl (Nat.le_of_ble_eq_true rfl) rfl rfl ?_
          refine e_iconst 35 59 rfl rfl ?_
          refine e_iload 36 61 rfl rfl rfl ?_
          refine g_callV 37 64 (hpl) okX10_placeOf cvX1_35 ⟨(Nat.le_of_ble_eq_true rfl), (Nat.le_of_ble_eq_true rfl)⟩ rfl rfl (Nat.le_of_ble_eq_true rfl) rfl rfl rfl rfl rfl (Nat.le_of_ble_eq_true rfl) (Nat.le_of_ble_eq_true rfl) (Nat.le_of_ble_eq_true rfl) ?_
          refine e_istore 38 66 (ls' := [some _, some _, some _, some _, some _, some _, some _]) rfl rfl (Nat.le_of_ble_eq_true rfl) rfl ?_
          refine e_iload 39 68 rfl rfl rfl ?_
          refine e_if_lt 40 106 71 rfl rfl rfl (by unfold xr at *; omega) (fun h9 => absurd h9 (by omega)) (fun _ => ?_)
          refine e_aload_n 41 72 rfl rfl rfl rfl ?_
          refine g_getR 42 75 ckX1 flX1_14 rfl rfl (Nat.le_of_ble_eq_true rfl) rfl rfl ?_
          refine e_iload 43 77 rfl rfl rfl ?_
          refine g_callV 44 80 (hk) okX10_kindAt cvX1_27 ⟨(Nat.le_of_ble_eq_true rfl), (Nat.le_of_ble_eq_true rfl)⟩ rfl rfl (Nat.le_of_ble_eq_true rfl) rfl rfl rfl rfl rfl (Nat.le_of_ble_eq_true rfl) (Nat.le_of_ble_eq_true rfl) (Nat.le_of_ble_eq_true rfl) ?_
          refine e_iconst 45 81 rfl rfl ?_
          refine e_icmp_ne 46 104 84 rfl rfl rfl (by unfold xr at *; omega) (by unfold xr at *; omega) (fun h9 => absurd h9 (by decide)) (fun _ => ?_)
          refine e_aload_n 47 85 rfl rfl rfl rfl ?_
          refine e_iload 48 87 rfl rfl rfl ?_
          refine e_iload_n 49 88 rfl rfl rfl rfl ?_
          refine e_bipush 50 90 rfl rfl rfl ?_
          refine e_irem 51 91 rfl rfl (by decide) hrem ?_
          refine e_iload_n 52 92 rfl rfl rfl rfl ?_
          refine e_aload 53 94 rfl rfl rfl ?_
          refine g_callV 54 97 (m1) okX1_editField cvX1_31 ⟨(Nat.le_of_ble_eq_true rfl), (Nat.le_of_ble_eq_true rfl)⟩ rfl rfl (Nat.le_of_ble_eq_true rfl) rfl rfl rfl rfl rfl (Nat.le_of_ble_eq_true rfl) (Nat.le_of_ble_eq_true rfl) (Nat.le_of_ble_eq_true rfl) ?_
          refine e_ifb_eq 55 104 100 rfl rfl rfl (fun h9 => ?_) (fun h9 => ?_)
          · skip
            rw [h9]
            refine e_iconst 58 105 rfl rfl ?_
            exact e_zreturn (x := 0) 59 rfl rfl (by omega) (Nat.le_of_ble_eq_true rfl) (Nat.le_of_ble_eq_true rfl)
          · skip
            rw [h9]
            refine e_iconst 56 101 rfl rfl ?_
            refine e_goto 57 105 rfl rfl ?_
            exact e_zreturn (x := 1) 59 rfl rfl (by omega) (Nat.le_of_ble_eq_true rfl) (Nat.le_of_ble_eq_true rfl)
      · rw [a1]
        rw [plc_no (by omega) hf1.1 hF a3] at hpl
        by_cases hq : op = 1 ∨ op = 4 ∨ op = 5
        · rw [if_pos hq]
          refine ⟨σ1, ?_, fun F' e => (by cases e; exact hV1), ⟨_, hV1⟩, ⟨_, hM1⟩, FX.rf⟩
          have fin : x_E MX1_canEdit 0 0 121 [some (.ref 243), some (.ref a), some (.int (ii path)), some (.int (ii op)), some (.ref b), some (.int (ii (path / 8 - 1))), some (.int (ii (-1)))] [] (St σ1) 0 0 (zv (some F).isSome) (St σ1) := by
            rw [show (some F).isSome = true from rfl]
            refine e_iconst 69 122 rfl rfl ?_
            exact e_zreturn (x := 1) 70 rfl rfl (by omega) (Nat.le_of_ble_eq_true rfl) (Nat.le_of_ble_eq_true rfl)
          refine e_iload_n 17 31 rfl rfl rfl rfl ?_
          refine e_bipush 18 33 rfl rfl rfl ?_
          refine e_icmp_ge 19 46 36 rfl rfl rfl (by unfold xr at *; omega) (by unfold xr at *; omega) (fun _ => ?_) (fun h9 => absurd h9 (by omega))
          refine e_iload_n 27 47 rfl rfl rfl rfl ?_
          refine e_bipush 28 49 rfl rfl rfl ?_
          refine e_idiv 29 50 rfl rfl (by decide) hdiv ?_
          refine e_iconst 30 51 rfl rfl ?_
          refine e_isub 31 52 rfl rfl ?_
          refine e_istore 32 54 (ls' := [some _, some _, some _, some _, some _, some _, none]) rfl rfl (Nat.le_of_ble_eq_true rfl) rfl ?_
          refine e_aload_n 33 55 rfl rfl rfl rfl ?_
          refine g_getR 34 58 ckX1 flX1_14 rfl rfl (Nat.le_of_ble_eq_true rfl) rfl rfl ?_
          refine e_iconst 35 59 rfl rfl ?_
          refine e_iload 36 61 rfl rfl rfl ?_
          refine g_callV 37 64 (hpl) okX10_placeOf cvX1_35 ⟨(Nat.le_of_ble_eq_true rfl), (Nat.le_of_ble_eq_true rfl)⟩ rfl rfl (Nat.le_of_ble_eq_true rfl) rfl rfl rfl rfl rfl (Nat.le_of_ble_eq_true rfl) (Nat.le_of_ble_eq_true rfl) (Nat.le_of_ble_eq_true rfl) ?_
          refine e_istore 38 66 (ls' := [some _, some _, some _, some _, some _, some _, some _]) rfl rfl (Nat.le_of_ble_eq_true rfl) rfl ?_
          refine e_iload 39 68 rfl rfl rfl ?_
          refine e_if_lt 40 106 71 rfl rfl rfl (by unfold xr at *; omega) (fun _ => ?_) (fun h9 => absurd h9 (by omega))
          refine e_iload_n 60 107 rfl rfl rfl rfl ?_
          refine e_iconst 61 108 rfl rfl ?_
          refine e_icmp_eq 62 121 111 rfl rfl rfl (by unfold xr at *; omega) (by unfold xr at *; omega) (fun q1 => ?_) (fun q1 => ?_)
          · skip
            exact fin
          · skip
            refine e_iload_n 63 112 rfl rfl rfl rfl ?_
            refine e_iconst 64 113 rfl rfl ?_
            refine e_icmp_eq 65 121 116 rfl rfl rfl (by unfold xr at *; omega) (by unfold xr at *; omega) (fun q2 => ?_) (fun q2 => ?_)
            · skip
              exact fin
            · skip
              refine e_iload_n 66 117 rfl rfl rfl rfl ?_
              refine e_iconst 67 118 rfl rfl ?_
              refine e_icmp_ne 68 123 121 rfl rfl rfl (by unfold xr at *; omega) (by unfold xr at *; omega) (fun h9 => absurd h9 (by omega)) (fun _ => ?_)
              exact fin
        · rw [if_neg hq]
          have hr0 : ok1 (.add (.num 0) (.num 0)) := Or.inr (Or.inl ⟨_, rfl, rfl, rfl⟩)
          obtain ⟨σ2, j1, j2, j3⟩ := sp_becomeI hM1 (x := 5000) (by omega) (by decide)
          rw [if_pos (by decide)] at j2
          obtain ⟨σ3, i1, i2, i3⟩ := sp_setF (p0 := [5000]) (s := []) hf1 (by decide) hF hr0 (hV1.f246 j3) j2 (by simp only [tk, List.length_cons, List.length_nil, List.length_append] at hln ⊢; omega) (by decide) (by decide) (by decide)
          rw [show ((([5000] : List Int).length : Nat) : Int) - 1 = 0 from rfl] at i1
          have hF1 := setf_ok F (path / 8 - 1) (.add (.num 0) (.num 0)) _ _ hF hr0 hf1.1 hf1.2
          obtain ⟨n9, b1⟩ := setf_aft F (path / 8 - 1) (.add (.num 0) (.num 0)) _ _ hF hr0
          have hpa1 := setf_pa F (path / 8 - 1) (.add (.num 0) (.num 0)) _ _ hF hr0
          have hss := fun w2 => setf_setf F (path / 8 - 1) (.add (.num 0) (.num 0)) w2 _ _ hF hr0
          have hl3 : (tk (setf (path / 8 - 1) (.add (.num 0) (.num 0)) F)).length = (tk F).length + 3 := by
            rw [(setf_tk F _ _ _ _ hF hr0).2 a3]
            have := congrArg List.length (ba_tk F (path / 8 - 1) _ _ _ hF)
            simp only [List.length_append] at this
            simp [tk]
            omega
          generalize setf (path / 8 - 1) (.add (.num 0) (.num 0)) F = F1 at i2 hF1 b1 hpa1 hss hl3
          have hpl1 := sp_plF (p0 := [5000]) hf1 (by decide) i2
          rw [show ((([5000] : List Int).length : Nat) : Int) - 1 = 0 from rfl, fld_at hf1.1 hF1 b1] at hpl1
          obtain ⟨e1, e2⟩ := at_fld hF1 b1 [5000] []
          obtain ⟨P, hP⟩ : ∃ P, P = [5000] ++ tk (bef (path / 8 - 1) F1) ++ [1 + (path / 8 - 1)] := ⟨_, rfl⟩
          rw [← hP] at e1 e2 hpl1
          have e1' : [5000] ++ (tk F1 ++ 0 :: []) = (P ++ [5000]) ++ (tk (.num 0) ++ 0 :: (tk n9 ++ 0 :: [])) := by rw [e1]; simp [tk, fst1, cat, nxt]
          have i2' := i2
          rw [e1'] at i2'
          have hw3 : op = 1 ∨ (ok1 w ∧ vO b = true ∧ b ≠ 244 ∧ b ≠ 246 ∧ VH σ3 b cap (tk w) ∧ (tk w).length ≤ 72) := by
            rcases hw1 with h | ⟨w1, w2, w3, w4, w5, w6⟩
            · exact Or.inl h
            · obtain ⟨q1, q2⟩ := vO_apart vO_244.1 w2 w3
              obtain ⟨q3, q4⟩ := vO_apart vO_246.1 w2 w4
              exact Or.inr ⟨w1, w2, w3, w4, (w5.fr j3 w4 q3 q4).fr i3 w3 q1 q2, w6⟩
          obtain ⟨σ', m1, m2⟩ := sp_editField (p0 := P ++ [5000]) (s := tk n9 ++ 0 :: []) hf2 (by simp) hop (show okf true false 0 (.num 0) from ⟨rfl, rfl⟩) (by decide) hw3 hk1 (j2.f244 i3) i2' (by rw [← e1']; simp only [List.length_append, List.length_cons, List.length_nil] at hln ⊢; omega)
          rw [len_s1] at m1
          have hres := edR_in (p0 := [5000]) (s0 := []) hF1 b1 hP rfl (fun m hm => edF_ok hf2 (show okf true false 0 (.num 0) from ⟨rfl, rfl⟩) (hw1.imp (fun q => q) (fun q => q.1)) hm) m2
          simp only [hss] at hres
          refine ⟨σ', ?_, hres.1, hres.2.1, hres.2.2.1, ((eL_of6 j3).tr (eL_of i3)).tr hres.2.2.2⟩
          rw [Option.isSome_map]
          refine e_iload_n 17 31 rfl rfl rfl rfl ?_
          refine e_bipush 18 33 rfl rfl rfl ?_
          refine e_icmp_ge 19 46 36 rfl rfl rfl (by unfold xr at *; omega) (by unfold xr at *; omega) (fun _ => ?_) (fun h9 => absurd h9 (by omega))
          refine e_iload_n 27 47 rfl rfl rfl rfl ?_
          refine e_bipush 28 49 rfl rfl rfl ?_
          refine e_idiv 29 50 rfl rfl (by decide) hdiv ?_
          refine e_iconst 30 51 rfl rfl ?_
          refine e_isub 31 52 rfl rfl ?_
          refine e_istore 32 54 (ls' := [some _, some _, some _, some _, some _, some _, none]) rfl rfl (Nat.le_of_ble_eq_true rfl) rfl ?_
          refine e_aload_n 33 55 rfl rfl rfl rfl ?_
          refine g_getR 34 58 ckX1 flX1_14 rfl rfl (Nat.le_of_ble_eq_true rfl) rfl rfl ?_
          refine e_iconst 35 59 rfl rfl ?_
          refine e_iload 36 61 rfl rfl rfl ?_
          refine g_callV 37 64 (hpl) okX10_placeOf cvX1_35 ⟨(Nat.le_of_ble_eq_true rfl), (Nat.le_of_ble_eq_true rfl)⟩ rfl rfl (Nat.le_of_ble_eq_true rfl) rfl rfl rfl rfl rfl (Nat.le_of_ble_eq_true rfl) (Nat.le_of_ble_eq_true rfl) (Nat.le_of_ble_eq_true rfl) ?_
          refine e_istore 38 66 (ls' := [some _, some _, some _, some _, some _, some _, some _]) rfl rfl (Nat.le_of_ble_eq_true rfl) rfl ?_
          refine e_iload 39 68 rfl rfl rfl ?_
          refine e_if_lt 40 106 71 rfl rfl rfl (by unfold xr at *; omega) (fun _ => ?_) (fun h9 => absurd h9 (by omega))
          refine e_iload_n 60 107 rfl rfl rfl rfl ?_
          refine e_iconst 61 108 rfl rfl ?_
          refine e_icmp_eq 62 121 111 rfl rfl rfl (by unfold xr at *; omega) (by unfold xr at *; omega) (fun h9 => absurd h9 (by omega)) (fun _ => ?_)
          refine e_iload_n 63 112 rfl rfl rfl rfl ?_
          refine e_iconst 64 113 rfl rfl ?_
          refine e_icmp_eq 65 121 116 rfl rfl rfl (by unfold xr at *; omega) (by unfold xr at *; omega) (fun h9 => absurd h9 (by omega)) (fun _ => ?_)
          refine e_iload_n 66 117 rfl rfl rfl rfl ?_
          refine e_iconst 67 118 rfl rfl ?_
          refine e_icmp_ne 68 123 121 rfl rfl rfl (by unfold xr at *; omega) (by unfold xr at *; omega) (fun _ => ?_) (fun h9 => absurd h9 (by omega))
          refine e_aload_n 71 124 rfl rfl rfl rfl ?_
          refine g_getR 72 127 ckX1 flX1_20 rfl rfl (Nat.le_of_ble_eq_true rfl) rfl rfl ?_
          refine e_sipush 73 130 rfl rfl rfl ?_
          refine g_callV 74 133 (j1) okX10_become cvX1_39 ⟨(Nat.le_of_ble_eq_true rfl), (Nat.le_of_ble_eq_true rfl)⟩ rfl rfl (Nat.le_of_ble_eq_true rfl) rfl rfl rfl rfl rfl (Nat.le_of_ble_eq_true rfl) (Nat.le_of_ble_eq_true rfl) (Nat.le_of_ble_eq_true rfl) ?_
          refine e_aload_n 75 134 rfl rfl rfl rfl ?_
          refine g_getR 76 137 ckX1 flX1_14 rfl rfl (Nat.le_of_ble_eq_true rfl) rfl rfl ?_
          refine e_iconst 77 138 rfl rfl ?_
          refine e_iload 78 140 rfl rfl rfl ?_
          refine e_aload_n 79 141 rfl rfl rfl rfl ?_
          refine g_getR 80 144 ckX1 flX1_20 rfl rfl (Nat.le_of_ble_eq_true rfl) rfl rfl ?_
          refine g_callV 81 147 (i1) okX10_setField cvX1_41 ⟨(Nat.le_of_ble_eq_true rfl), (Nat.le_of_ble_eq_true rfl)⟩ rfl rfl (Nat.le_of_ble_eq_true rfl) rfl rfl rfl rfl rfl (Nat.le_of_ble_eq_true rfl) (Nat.le_of_ble_eq_true rfl) (Nat.le_of_ble_eq_true rfl) ?_
          refine e_aload_n 82 148 rfl rfl rfl rfl ?_
          refine e_aload_n 83 149 rfl rfl rfl rfl ?_
          refine g_getR 84 152 ckX1 flX1_14 rfl rfl (Nat.le_of_ble_eq_true rfl) rfl rfl ?_
          refine e_iconst 85 153 rfl rfl ?_
          refine e_iload 86 155 rfl rfl rfl ?_
          refine g_callV 87 158 (hpl1) okX10_placeOf cvX1_35 ⟨(Nat.le_of_ble_eq_true rfl), (Nat.le_of_ble_eq_true rfl)⟩ rfl rfl (Nat.le_of_ble_eq_true rfl) rfl rfl rfl rfl rfl (Nat.le_of_ble_eq_true rfl) (Nat.le_of_ble_eq_true rfl) (Nat.le_of_ble_eq_true rfl) ?_
          refine e_iload_n 88 159 rfl rfl rfl rfl ?_
          refine e_bipush 89 161 rfl rfl rfl ?_
          refine e_irem 90 162 rfl rfl (by decide) hrem ?_
          refine e_iload_n 91 163 rfl rfl rfl rfl ?_
          refine e_aload 92 165 rfl rfl rfl ?_
          refine g_callV 93 168 (m1) okX1_editField cvX1_31 ⟨(Nat.le_of_ble_eq_true rfl), (Nat.le_of_ble_eq_true rfl)⟩ rfl rfl (Nat.le_of_ble_eq_true rfl) rfl rfl rfl rfl rfl (Nat.le_of_ble_eq_true rfl) (Nat.le_of_ble_eq_true rfl) (Nat.le_of_ble_eq_true rfl) ?_
          exact e_zreturn 94 rfl rfl (bi_01 _) (Nat.le_of_ble_eq_true rfl) (Nat.le_of_ble_eq_true rfl)
      · omega
  by_cases hc : (op = 2 ∨ op = 5)
  · obtain ⟨w1, w2, w3, w4, w5, w6⟩ := hw1.resolve_left (by omega)
    have hk := sp_kindAt w5 xr_0
    have hkb := knd_bnd (tok (tk w) 0)
    have mid : ∀ (o : xO) (σ' : xSig), x_E MX1_canEdit 0 0 18 [some (.ref 243), some (.ref a), some (.int (ii path)), some (.int (ii op)), some (.ref b), none, none] [] (St σ1) 0 0 o (St σ') → x_E MX1_canEdit 0 0 8 [some (.ref 243), some (.ref a), some (.int (ii path)), some (.int (ii op)), some (.ref b), none, none] [] (St σ1) 0 0 o (St σ') := by
      intro o σ' h
      refine e_iload_n 4 9 rfl rfl rfl rfl ?_
      refine e_iconst 5 10 rfl rfl ?_
      refine e_icmp_eq 6 18 13 rfl rfl rfl (by unfold xr at *; omega) (by unfold xr at *; omega) (fun h2 => ?_) (fun h2 => ?_)
      · skip
        exact h
      · skip
        refine e_iload_n 7 14 rfl rfl rfl rfl ?_
        refine e_iconst 8 15 rfl rfl ?_
        refine e_icmp_ne 9 30 18 rfl rfl rfl (by unfold xr at *; omega) (by unfold xr at *; omega) (fun h9 => absurd h9 (by omega)) (fun _ => ?_)
        exact h
    by_cases hk1 : knd (tok (tk w) 0) = 1
    · obtain ⟨σ', m1, m2⟩ := g30 (fun _ => hk1)
      refine ⟨σ', mid _ _ ?_, m2⟩
      refine e_aload 10 20 rfl rfl rfl ?_
      refine e_iconst 11 21 rfl rfl ?_
      refine g_callV 12 24 (hk) okX10_kindAt cvX1_27 ⟨(Nat.le_of_ble_eq_true rfl), (Nat.le_of_ble_eq_true rfl)⟩ rfl rfl w5.1.1 w5.1.2.2.1 rfl rfl rfl rfl (Nat.le_of_ble_eq_true rfl) (Nat.le_of_ble_eq_true rfl) (Nat.le_of_ble_eq_true rfl) ?_
      refine e_iconst 13 25 rfl rfl ?_
      refine e_icmp_eq 14 30 28 rfl rfl rfl (by unfold xr at *; omega) (by unfold xr at *; omega) (fun _ => ?_) (fun h9 => absurd h9 (by omega))
      exact m1
    · have eD : edD F path op w = none := by unfold edD; rw [if_pos ⟨hc, hk1⟩]
      rw [eD]
      refine ⟨σ1, mid _ _ ?_, fun F' e => (by cases e), ⟨_, hV1⟩, ⟨_, hM1⟩, FX.rf⟩
      rw [show (none : Option Fo).isSome = false from rfl]
      refine e_aload 10 20 rfl rfl rfl ?_
      refine e_iconst 11 21 rfl rfl ?_
      refine g_callV 12 24 (hk) okX10_kindAt cvX1_27 ⟨(Nat.le_of_ble_eq_true rfl), (Nat.le_of_ble_eq_true rfl)⟩ rfl rfl w5.1.1 w5.1.2.2.1 rfl rfl rfl rfl (Nat.le_of_ble_eq_true rfl) (Nat.le_of_ble_eq_true rfl) (Nat.le_of_ble_eq_true rfl) ?_
      refine e_iconst 13 25 rfl rfl ?_
      refine e_icmp_eq 14 30 28 rfl rfl rfl (by unfold xr at *; omega) (by unfold xr at *; omega) (fun h9 => absurd h9 (by omega)) (fun _ => ?_)
      refine e_iconst 15 29 rfl rfl ?_
      exact e_zreturn (x := 0) 16 rfl rfl (by omega) (Nat.le_of_ble_eq_true rfl) (Nat.le_of_ble_eq_true rfl)
  · obtain ⟨σ', m1, m2⟩ := g30 (fun q => absurd q hc)
    refine ⟨σ', ?_, m2⟩
    refine e_iload_n 4 9 rfl rfl rfl rfl ?_
    refine e_iconst 5 10 rfl rfl ?_
    refine e_icmp_eq 6 18 13 rfl rfl rfl (by unfold xr at *; omega) (by unfold xr at *; omega) (fun h9 => absurd h9 (by omega)) (fun _ => ?_)
    refine e_iload_n 7 14 rfl rfl rfl rfl ?_
    refine e_iconst 8 15 rfl rfl ?_
    refine e_icmp_ne 9 30 18 rfl rfl rfl (by unfold xr at *; omega) (by unfold xr at *; omega) (fun _ => ?_) (fun h9 => absurd h9 (by omega))
    exact m1
