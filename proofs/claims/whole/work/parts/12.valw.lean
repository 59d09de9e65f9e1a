/-! ===== Value: writing ===== -/
/-- nothing but the object of Value at a is another -/
def Fr (a : Nat) (σ σ' : xSig) : Prop := ∀ b : Nat, b ≠ a → b ≠ a + 1 → σ' b = σ b
theorem Fr.rf {a : Nat} {σ : xSig} : Fr a σ σ := fun _ _ _ => rfl
theorem Fr.tr {a : Nat} {σ σ1 σ2 : xSig} (h : Fr a σ σ1) (h2 : Fr a σ1 σ2) : Fr a σ σ2 := fun b h3 h4 => (h2 b h3 h4).trans (h b h3 h4)
theorem xu_other (σ : xSig) {a b : Nat} (j v : Int) (h : b ≠ a) : xu σ a j v b = σ b := by
  funext i
  exact xu_ne σ (Or.inl h)
theorem Fr.xu0 {a : Nat} {σ : xSig} {j v : Int} : Fr a σ (xu σ a j v) := fun _ h _ => xu_other σ j v h
theorem Fr.xu1 {a : Nat} {σ : xSig} {j v : Int} : Fr a σ (xu σ (a + 1) j v) := fun _ _ h => xu_other σ j v h
theorem VH.fr {σ σ' : xSig} {a b cap : Nat} {t : List Int} (h : VH σ b cap t) (hF : Fr a σ σ') (h1 : b ≠ a) (h2 : b ≠ a + 1) (h3 : b + 1 ≠ a) : VH σ' b cap t := by
  obtain ⟨q1, q2, q3, q4, q5, q6⟩ := h
  have e0 := hF b h1 h2
  have e1 := hF (b + 1) h3 (by omega)
  exact ⟨q1, by rw [e0]; exact q2, q3, q4, fun i hi => by rw [e1]; exact q5 i hi, fun i => by rw [e1]; exact q6 i⟩
theorem VH.same {σ σ' : xSig} {b cap : Nat} {t : List Int} (h : VH σ b cap t) (h1 : σ' b = σ b) (h2 : σ' (b + 1) = σ (b + 1)) : VH σ' b cap t := by
  obtain ⟨q1, q2, q3, q4, q5, q6⟩ := h
  exact ⟨q1, by rw [h1]; exact q2, q3, q4, fun i hi => by rw [h2]; exact q5 i hi, fun i => by rw [h2]; exact q6 i⟩
theorem VH.set {σ : xSig} {a cap : Nat} {p s : List Int} {y : Int} (x : Int) (h : VH σ a cap (p ++ y :: s)) (hx : 0 ≤ x ∧ x < 6000) : VH (xu σ (a + 1) p.length x) a cap (p ++ x :: s) := by
  obtain ⟨q1, q2, q3, q4, q5, q6⟩ := h
  refine ⟨q1, ?_, by simpa using q3, q4, fun i hi => ?_, fun i => ?_⟩
  · rw [xu_other _ _ _ (by omega)]
    rw [q2]; simp
  · by_cases hp : i = p.length
    · subst hp
      rw [xu_same, List.getD_eq_getElem?_getD, List.getElem?_append_right (Nat.le_refl _), Nat.sub_self]
      rfl
    · rw [xu_ne _ (Or.inr (by omega)), q5 i (by simpa using hi), List.getD_eq_getElem?_getD, List.getD_eq_getElem?_getD]
      by_cases hl : i < p.length
      · rw [List.getElem?_append_left hl, List.getElem?_append_left hl]
      · rw [List.getElem?_append_right (by omega), List.getElem?_append_right (by omega)]
        obtain ⟨k, hk⟩ : ∃ k, i - p.length = k + 1 := ⟨i - p.length - 1, by omega⟩
        rw [hk]
        simp
  · unfold xu
    split
    · exact hx
    · exact q6 i
theorem sp_setSign {σ : xSig} {a cap : Nat} {p s : List Int} {y x : Int} (hV : VH σ a cap (p ++ y :: s)) : x_Sp MX10_setSign 0 0 [.ref a, .int (ii p.length), .int (ii x)] (St σ) vv (St (xu σ (a + 1) p.length x)) := by
  have hlen := hV.2.1
  have hcap := hV.2.2.1
  have h200 := hV.2.2.2.1
  have hl : (p ++ y :: s).length = p.length + s.length + 1 := by simp; omega
  refine e_entry okX10_setSign (Nat.le_of_ble_eq_true rfl) (ls := [some _, some _, some _]) rfl ?_
  refine e_iload_n 0 1 rfl rfl rfl rfl ?_
  refine e_if_lt 1 28 4 rfl rfl rfl (by unfold xr at *; omega) (fun h9 => absurd h9 (by omega)) (fun _ => ?_)
  refine e_iload_n 2 5 rfl rfl rfl rfl ?_
  refine e_aload_n 3 6 rfl rfl rfl rfl ?_
  refine g_getI 4 9 1 ckX10 flX10_9 rfl rfl hV.1.1 hV.1.2.2.1 rfl rfl hlen ?_
  refine e_icmp_ge 5 28 12 rfl rfl rfl (by unfold xr at *; omega) (by unfold xr at *; omega) (fun h9 => absurd h9 (by omega)) (fun _ => ?_)
  refine e_iload_n 6 13 rfl rfl rfl rfl ?_
  refine e_aload_n 7 14 rfl rfl rfl rfl ?_
  refine g_getR 8 17 ckX10 flX10_15 rfl rfl hV.1.1 hV.1.2.2.1 rfl ?_
  refine g_alen 9 18 rfl rfl hV.1.2.1 hV.1.2.2.2 (Nat.le_of_ble_eq_true rfl) ?_
  refine e_icmp_ge 10 28 21 rfl rfl rfl (by unfold xr at *; omega) (by unfold xr at *; omega) (fun h9 => absurd h9 (by omega)) (fun _ => ?_)
  refine e_aload_n 11 22 rfl rfl rfl rfl ?_
  refine g_getR 12 25 ckX10 flX10_15 rfl rfl hV.1.1 hV.1.2.2.1 rfl ?_
  refine e_iload_n 13 26 rfl rfl rfl rfl ?_
  refine e_iload_n 14 27 rfl rfl rfl rfl ?_
  refine g_iastore 15 28 rfl rfl hV.1.2.1 hV.1.2.2.2 (by omega) (by omega) (by omega) ?_
  exact e_return 16 rfl rfl (Nat.le_of_ble_eq_true rfl) (Nat.le_of_ble_eq_true rfl)
theorem sp_makeRoom {σ : xSig} {a cap : Nat} {p m s : List Int} {n : Nat} (hV : VH σ a cap (p ++ m ++ s)) (hn : p.length + n + s.length ≤ cap) :
    ∃ (σ' : xSig) (g : List Int), x_Sp MX10_makeRoom 0 0 [.ref a, .int (ii p.length), .int (ii ((p.length : Int) + m.length)), .int (ii n)] (St σ) vv (St σ') ∧ g.length = n ∧ VH σ' a cap (p ++ g ++ s) ∧ Fr a σ σ' := by
  have hV0 := hV
  obtain ⟨q1, hlen, hcap, h200, q5, q6⟩ := hV0
  have hl : (p ++ m ++ s).length = p.length + m.length + s.length := by simp; omega
  refine ⟨xu (xcp σ (a + 1) ((p.length : Int) + m.length) ((p.length : Int) + n) (((p ++ m ++ s).length : Int) - ((p.length : Int) + m.length))) a 1 (((p ++ m ++ s).length : Int) - ((p.length : Int) + m.length - p.length) + n), (List.range n).map (fun k => σ (a + 1) ((p.length + k : Nat) : Int)), ?_, by simp, ⟨q1, ?_, ?_, h200, fun i hi => ?_, fun i => ?_⟩, fun b h1 h2 => ?_⟩
  · skip
    refine e_entry okX10_makeRoom (Nat.le_of_ble_eq_true rfl) (ls := [some _, some _, some _, some _, none]) rfl ?_
    refine e_aload_n 0 1 rfl rfl rfl rfl ?_
    refine g_getI 1 4 1 ckX10 flX10_9 rfl rfl hV.1.1 hV.1.2.2.1 rfl rfl hlen ?_
    refine e_iload_n 2 5 rfl rfl rfl rfl ?_
    refine e_iload_n 3 6 rfl rfl rfl rfl ?_
    refine e_isub 4 7 rfl rfl ?_
    refine e_isub 5 8 rfl rfl ?_
    refine e_iload_n 6 9 rfl rfl rfl rfl ?_
    refine e_iadd 7 10 rfl rfl ?_
    refine e_istore 8 12 (ls' := [some _, some _, some _, some _, some _]) rfl rfl (Nat.le_of_ble_eq_true rfl) rfl ?_
    refine e_iload_n 9 13 rfl rfl rfl rfl ?_
    refine e_if_lt 10 55 16 rfl rfl rfl (by unfold xr at *; omega) (fun h9 => absurd h9 (by omega)) (fun _ => ?_)
    refine e_iload_n 11 17 rfl rfl rfl rfl ?_
    refine e_iload_n 12 18 rfl rfl rfl rfl ?_
    refine e_icmp_lt 13 55 21 rfl rfl rfl (by unfold xr at *; omega) (by unfold xr at *; omega) (fun h9 => absurd h9 (by omega)) (fun _ => ?_)
    refine e_iload_n 14 22 rfl rfl rfl rfl ?_
    refine e_aload_n 15 23 rfl rfl rfl rfl ?_
    refine g_getI 16 26 1 ckX10 flX10_9 rfl rfl hV.1.1 hV.1.2.2.1 rfl rfl hlen ?_
    refine e_icmp_gt 17 55 29 rfl rfl rfl (by unfold xr at *; omega) (by unfold xr at *; omega) (fun h9 => absurd h9 (by omega)) (fun _ => ?_)
    refine e_aload_n 18 30 rfl rfl rfl rfl ?_
    refine g_getI 19 33 1 ckX10 flX10_9 rfl rfl hV.1.1 hV.1.2.2.1 rfl rfl hlen ?_
    refine e_aload_n 20 34 rfl rfl rfl rfl ?_
    refine g_getR 21 37 ckX10 flX10_15 rfl rfl hV.1.1 hV.1.2.2.1 rfl ?_
    refine g_alen 22 38 rfl rfl hV.1.2.1 hV.1.2.2.2 (Nat.le_of_ble_eq_true rfl) ?_
    refine e_icmp_gt 23 55 41 rfl rfl rfl (by unfold xr at *; omega) (by unfold xr at *; omega) (fun h9 => absurd h9 (by omega)) (fun _ => ?_)
    refine e_iload_n 24 42 rfl rfl rfl rfl ?_
    refine e_if_lt 25 55 45 rfl rfl rfl (by unfold xr at *; omega) (fun h9 => absurd h9 (by omega)) (fun _ => ?_)
    refine e_iload 26 47 rfl rfl rfl ?_
    refine e_aload_n 27 48 rfl rfl rfl rfl ?_
    refine g_getR 28 51 ckX10 flX10_15 rfl rfl hV.1.1 hV.1.2.2.1 rfl ?_
    refine g_alen 29 52 rfl rfl hV.1.2.1 hV.1.2.2.2 (Nat.le_of_ble_eq_true rfl) ?_
    refine e_icmp_le 30 56 55 rfl rfl rfl (by unfold xr at *; omega) (by unfold xr at *; omega) (fun _ => ?_) (fun h9 => absurd h9 (by omega))
    refine e_aload_n 32 57 rfl rfl rfl rfl ?_
    refine g_getR 33 60 ckX10 flX10_15 rfl rfl hV.1.1 hV.1.2.2.1 rfl ?_
    refine e_iload_n 34 61 rfl rfl rfl rfl ?_
    refine e_aload_n 35 62 rfl rfl rfl rfl ?_
    refine g_getR 36 65 ckX10 flX10_15 rfl rfl hV.1.1 hV.1.2.2.1 rfl ?_
    refine e_iload_n 37 66 rfl rfl rfl rfl ?_
    refine e_iload_n 38 67 rfl rfl rfl rfl ?_
    refine e_iadd 39 68 rfl rfl ?_
    refine e_aload_n 40 69 rfl rfl rfl rfl ?_
    refine g_getI 41 72 1 ckX10 flX10_9 rfl rfl hV.1.1 hV.1.2.2.1 rfl rfl hlen ?_
    refine e_iload_n 42 73 rfl rfl rfl rfl ?_
    refine e_isub 43 74 rfl rfl ?_
    refine g_acopy 44 77 rfl rfl acX10_71 (Nat.le_of_ble_eq_true rfl) (Nat.le_of_ble_eq_true rfl) (Nat.le_of_ble_eq_true rfl) hV.1.2.1 hV.1.2.2.2 (by omega) (by omega) (by omega) (by omega) (by omega) (by omega) ?_
    refine e_aload_n 45 78 rfl rfl rfl rfl ?_
    refine e_iload 46 80 rfl rfl rfl ?_
    refine g_putI 47 83 1 ckX10 flX10_9 rfl rfl hV.1.1 hV.1.2.2.1 rfl rfl ?_
    exact e_return 48 rfl rfl (Nat.le_of_ble_eq_true rfl) (Nat.le_of_ble_eq_true rfl)
  · rw [xu_same]
    simp only [List.length_append, List.length_map, List.length_range]
    omega
  · simp only [List.length_append, List.length_map, List.length_range]
    omega
  · simp only [List.length_append, List.length_map, List.length_range] at hi
    rw [xu_other _ _ _ (by omega)]
    unfold xcp
    rw [List.getD_eq_getElem?_getD]
    by_cases c1 : i < p.length
    · rw [if_neg (fun q => by omega), q5 i (by omega), List.getD_eq_getElem?_getD, List.append_assoc, List.append_assoc, List.getElem?_append_left c1, List.getElem?_append_left c1]
    · by_cases c2 : i < p.length + n
      · rw [if_neg (fun q => by omega), List.append_assoc, List.getElem?_append_right (by omega), List.getElem?_append_left (by simp; omega), List.getElem?_map, List.getElem?_range (by omega)]
        show _ = σ (a + 1) ((p.length + (i - p.length) : Nat) : Int)
        congr 1
        omega
      · rw [if_pos ⟨rfl, by omega, by rw [hl]; omega⟩, show ((p.length : Int) + m.length + ((i : Int) - (p.length + n))) = ((i + m.length - n : Nat) : Int) by omega, q5 _ (by omega), List.getD_eq_getElem?_getD, List.getElem?_append_right (by simp; omega), List.getElem?_append_right (by simp; omega)]
        congr 2
        simp only [List.length_append, List.length_map, List.length_range]
        omega
  · rw [xu_other _ _ _ (by omega)]
    unfold xcp
    split
    · exact q6 _
    · exact q6 _
  · rw [xu_other _ _ _ h1]
    funext i
    unfold xcp
    rw [if_neg (fun q => h2 q.1)]
theorem sp_takeOut {σ : xSig} {a cap : Nat} {p m s : List Int} (hV : VH σ a cap (p ++ m ++ s)) :
    ∃ σ' : xSig, x_Sp MX10_takeOut 0 0 [.ref a, .int (ii p.length), .int (ii ((p.length : Int) + m.length))] (St σ) vv (St σ') ∧ VH σ' a cap (p ++ s) ∧ Fr a σ σ' := by
  have hcap := hV.2.2.1
  have hl : (p ++ m ++ s).length = p.length + m.length + s.length := by simp; omega
  obtain ⟨σ', g, h1, h2, h3, h4⟩ := sp_makeRoom (n := 0) hV (by omega)
  have hg : g = [] := List.length_eq_zero_iff.mp h2
  rw [hg, List.append_nil] at h3
  refine ⟨σ', ?_, h3, h4⟩
  refine e_entry okX10_takeOut (Nat.le_of_ble_eq_true rfl) (ls := [some _, some _, some _]) rfl ?_
  refine e_aload_n 0 1 rfl rfl rfl rfl ?_
  refine e_iload_n 1 2 rfl rfl rfl rfl ?_
  refine e_iload_n 2 3 rfl rfl rfl rfl ?_
  refine e_iconst 3 4 rfl rfl ?_
  refine g_callV 4 7 (h1) okX10_makeRoom cvX10_64 ⟨(Nat.le_of_ble_eq_true rfl), (Nat.le_of_ble_eq_true rfl)⟩ rfl rfl hV.1.1 hV.1.2.2.1 rfl rfl rfl rfl (Nat.le_of_ble_eq_true rfl) (Nat.le_of_ble_eq_true rfl) (Nat.le_of_ble_eq_true rfl) ?_
  exact e_return 5 rfl rfl (Nat.le_of_ble_eq_true rfl) (Nat.le_of_ble_eq_true rfl)
theorem sp_putSign {σ : xSig} {a cap : Nat} {p s : List Int} {x : Int} (hV : VH σ a cap (p ++ s)) (hx : 0 ≤ x ∧ x < 6000) (hn : p.length + 1 + s.length ≤ cap) :
    ∃ σ' : xSig, x_Sp MX10_putSign 0 0 [.ref a, .int (ii p.length), .int (ii x)] (St σ) vv (St σ') ∧ VH σ' a cap (p ++ x :: s) ∧ Fr a σ σ' := by
  obtain ⟨σ1, g, h1, h2, h3, h4⟩ := sp_makeRoom (m := []) (n := 1) (by rw [List.append_nil]; exact hV) hn
  obtain ⟨y, rfl⟩ := List.length_eq_one_iff.mp h2
  have h3' : VH σ1 a cap (p ++ y :: s) := by simpa using h3
  have h5 := sp_setSign (x := x) h3'
  refine ⟨_, ?_, h3'.set x hx, h4.tr Fr.xu1⟩
  rw [show (p.length : Int) + ([] : List Int).length = p.length by simp] at h1
  refine e_entry okX10_putSign (Nat.le_of_ble_eq_true rfl) (ls := [some _, some _, some _]) rfl ?_
  refine e_aload_n 0 1 rfl rfl rfl rfl ?_
  refine e_iload_n 1 2 rfl rfl rfl rfl ?_
  refine e_iload_n 2 3 rfl rfl rfl rfl ?_
  refine e_iconst 3 4 rfl rfl ?_
  refine g_callV 4 7 (h1) okX10_makeRoom cvX10_64 ⟨(Nat.le_of_ble_eq_true rfl), (Nat.le_of_ble_eq_true rfl)⟩ rfl rfl hV.1.1 hV.1.2.2.1 rfl rfl rfl rfl (Nat.le_of_ble_eq_true rfl) (Nat.le_of_ble_eq_true rfl) (Nat.le_of_ble_eq_true rfl) ?_
  refine e_aload_n 5 8 rfl rfl rfl rfl ?_
  refine e_iload_n 6 9 rfl rfl rfl rfl ?_
  refine e_iload_n 7 10 rfl rfl rfl rfl ?_
  refine g_callV 8 13 (h5) okX10_setSign cvX10_68 ⟨(Nat.le_of_ble_eq_true rfl), (Nat.le_of_ble_eq_true rfl)⟩ rfl rfl hV.1.1 hV.1.2.2.1 rfl rfl rfl rfl (Nat.le_of_ble_eq_true rfl) (Nat.le_of_ble_eq_true rfl) (Nat.le_of_ble_eq_true rfl) ?_
  exact e_return 9 rfl rfl (Nat.le_of_ble_eq_true rfl) (Nat.le_of_ble_eq_true rfl)
theorem sp_putValue {σ : xSig} {a cap b cap' : Nat} {p m s w : List Int} (hV : VH σ a cap (p ++ m ++ s)) (hW : VH σ b cap' w) (hn : p.length + w.length + s.length ≤ cap) (hb1 : b ≠ a) (hb2 : b ≠ a + 1) (hb3 : b + 1 ≠ a) :
    ∃ σ' : xSig, x_Sp MX10_putValue 0 0 [.ref a, .int (ii p.length), .int (ii ((p.length : Int) + m.length)), .ref b] (St σ) vv (St σ') ∧ VH σ' a cap (p ++ w ++ s) ∧ Fr a σ σ' := by
  have hcap := hV.2.2.1
  have h200 := hV.2.2.2.1
  have hl : (p ++ m ++ s).length = p.length + m.length + s.length := by simp; omega
  have hlw := hW.2.1
  have hcw := hW.2.2.1
  have h2w := hW.2.2.2.1
  obtain ⟨σ1, g, h1, h2, h3, h4⟩ := sp_makeRoom (n := w.length) hV hn
  have loop : ∀ (r u g' : List Int) (σ2 : xSig), w = u ++ r → g'.length = r.length → VH σ2 a cap (p ++ u ++ g' ++ s) → Fr a σ σ2 → ∃ σ' : xSig, x_E MX10_putValue 0 0 13 [some (.ref a), some (.int (ii p.length)), some (.int (ii ((p.length : Int) + m.length))), some (.ref b), some (.int (ii u.length))] [] (St σ2) 0 0 vv (St σ') ∧ VH σ' a cap (p ++ w ++ s) ∧ Fr a σ σ' := by
    intro r
    induction r with
    | nil =>
      intro u g' σ2 hu hg hV2 hF
      have hW2 := hW.fr hF hb1 hb2 hb3
      have hl2 := hW2.2.1
      have hlu : w.length = u.length := by rw [hu]; simp
      have e : g' = [] := List.length_eq_zero_iff.mp hg
      refine ⟨σ2, ?_, ?_, hF⟩
      · skip
        refine e_iload 8 15 rfl rfl rfl ?_
        refine e_aload_n 9 16 rfl rfl rfl rfl ?_
        refine g_getI 10 19 1 ckX10 flX10_9 rfl rfl hW.1.1 hW.1.2.2.1 rfl rfl hl2 ?_
        refine e_icmp_ge 11 42 22 rfl rfl rfl (by unfold xr at *; omega) (by unfold xr at *; omega) (fun _ => ?_) (fun h9 => absurd h9 (by omega))
        exact e_return 22 rfl rfl (Nat.le_of_ble_eq_true rfl) (Nat.le_of_ble_eq_true rfl)
      · rw [hu]
        rw [e] at hV2
        simpa using hV2
    | cons x r ih =>
      intro u g' σ2 hu hg hV2 hF
      have hW2 := hW.fr hF hb1 hb2 hb3
      have hl2 := hW2.2.1
      have hlu : w.length = u.length + r.length + 1 := by rw [hu]; simp; omega
      cases g' with
      | nil => simp at hg
      | cons y g' =>
        have hx : tok w u.length = x := by rw [hu]; exact tok_hd u x r
        have hxb := hW2.bnd u.length
        rw [hx] at hxb
        have hV3 : VH σ2 a cap ((p ++ u) ++ y :: (g' ++ s)) := by simpa using hV2
        have h5 := sp_setSign (x := x) hV3
        obtain ⟨σ', k1, k2, k3⟩ := ih (u ++ [x]) g' (xu σ2 (a + 1) ((p ++ u).length : Nat) x) (by rw [hu, app_s]) (by simpa using hg) (by have := hV3.set x hxb; simpa using this) (hF.tr Fr.xu1)
        refine ⟨σ', ?_, k2, k3⟩
        rw [len_s] at k1
        rw [show (((p ++ u).length : Nat) : Int) = (p.length : Int) + u.length by simp] at h5 k1
        refine e_iload 8 15 rfl rfl rfl ?_
        refine e_aload_n 9 16 rfl rfl rfl rfl ?_
        refine g_getI 10 19 1 ckX10 flX10_9 rfl rfl hW.1.1 hW.1.2.2.1 rfl rfl hl2 ?_
        refine e_icmp_ge 11 42 22 rfl rfl rfl (by unfold xr at *; omega) (by unfold xr at *; omega) (fun h9 => absurd h9 (by omega)) (fun _ => ?_)
        refine e_aload_n 12 23 rfl rfl rfl rfl ?_
        refine e_iload_n 13 24 rfl rfl rfl rfl ?_
        refine e_iload 14 26 rfl rfl rfl ?_
        refine e_iadd 15 27 rfl rfl ?_
        refine e_aload_n 16 28 rfl rfl rfl rfl ?_
        refine e_iload 17 30 rfl rfl rfl ?_
        refine g_callV 18 33 (sp_signAt hW2 (i := u.length) (by unfold xr; omega)) okX10_signAt cvX10_19 ⟨(Nat.le_of_ble_eq_true rfl), (Nat.le_of_ble_eq_true rfl)⟩ rfl rfl hW.1.1 hW.1.2.2.1 rfl rfl rfl rfl (Nat.le_of_ble_eq_true rfl) (Nat.le_of_ble_eq_true rfl) (Nat.le_of_ble_eq_true rfl) ?_
        rw [hx]
        refine g_callV 19 36 (h5) okX10_setSign cvX10_68 ⟨(Nat.le_of_ble_eq_true rfl), (Nat.le_of_ble_eq_true rfl)⟩ rfl rfl hV.1.1 hV.1.2.2.1 rfl rfl rfl rfl (Nat.le_of_ble_eq_true rfl) (Nat.le_of_ble_eq_true rfl) (Nat.le_of_ble_eq_true rfl) ?_
        refine e_iinc 20 39 (ls' := [some _, some _, some _, some _, some _]) rfl rfl (Nat.le_of_ble_eq_true rfl) rfl rfl ?_
        refine e_goto 21 13 rfl rfl ?_
        exact k1
  obtain ⟨σ', k1, k2, k3⟩ := loop w [] g σ1 rfl h2 (by simpa using h3) h4
  refine ⟨σ', ?_, k2, k3⟩
  refine e_entry okX10_putValue (Nat.le_of_ble_eq_true rfl) (ls := [some _, some _, some _, some _, none]) rfl ?_
  refine e_aload_n 0 1 rfl rfl rfl rfl ?_
  refine e_iload_n 1 2 rfl rfl rfl rfl ?_
  refine e_iload_n 2 3 rfl rfl rfl rfl ?_
  refine e_aload_n 3 4 rfl rfl rfl rfl ?_
  refine g_getI 4 7 1 ckX10 flX10_9 rfl rfl hW.1.1 hW.1.2.2.1 rfl rfl hlw ?_
  refine g_callV 5 10 (h1) okX10_makeRoom cvX10_64 ⟨(Nat.le_of_ble_eq_true rfl), (Nat.le_of_ble_eq_true rfl)⟩ rfl rfl hV.1.1 hV.1.2.2.1 rfl rfl rfl rfl (Nat.le_of_ble_eq_true rfl) (Nat.le_of_ble_eq_true rfl) (Nat.le_of_ble_eq_true rfl) ?_
  refine e_iconst 6 11 rfl rfl ?_
  refine e_istore 7 13 (ls' := [some _, some _, some _, some _, some _]) rfl rfl (Nat.le_of_ble_eq_true rfl) rfl ?_
  exact k1
theorem VH.nil {σ : xSig} {a cap : Nat} {t : List Int} (h : VH σ a cap t) : VH (xu σ a 1 0) a cap [] := by
  obtain ⟨q1, q2, q3, q4, q5, q6⟩ := h
  refine ⟨q1, by rw [xu_same]; rfl, Nat.zero_le _, q4, fun i hi => by simp at hi, fun i => ?_⟩
  rw [xu_other _ _ _ (by omega)]
  exact q6 i
theorem sp_becomeI {σ : xSig} {a cap : Nat} {t : List Int} (hV : VH σ a cap t) {x : Int} (hx : 0 ≤ x ∧ x < 6000) (hc : 2 ≤ cap) :
    ∃ σ' : xSig, x_Sp MX10_become 0 0 [.ref a, .int (ii x)] (St σ) vv (St σ') ∧ VH σ' a cap (if 4000 ≤ x then [x, 0] else [x]) ∧ Fr a σ σ' := by
  obtain ⟨σ1, h1, h2, h3⟩ := sp_putSign (p := []) (s := []) hV.nil hx (by simp; omega)
  by_cases hc4 : 4000 ≤ x
  · obtain ⟨σ2, k1, k2, k3⟩ := sp_putSign (p := [x]) (s := []) (x := 0) h2 (by omega) (by simp; omega)
    refine ⟨σ2, ?_, by rw [if_pos hc4]; exact k2, (Fr.xu0.tr h3).tr k3⟩
    refine e_entry okX10_become (Nat.le_of_ble_eq_true rfl) (ls := [some _, some _]) rfl ?_
    refine e_aload_n 0 1 rfl rfl rfl rfl ?_
    refine e_iconst 1 2 rfl rfl ?_
    refine g_putI 2 5 1 ckX10 flX10_9 rfl rfl hV.1.1 hV.1.2.2.1 rfl rfl ?_
    refine e_aload_n 3 6 rfl rfl rfl rfl ?_
    refine e_iconst 4 7 rfl rfl ?_
    refine e_iload_n 5 8 rfl rfl rfl rfl ?_
    refine g_callV 6 11 (h1) okX10_putSign cvX10_56 ⟨(Nat.le_of_ble_eq_true rfl), (Nat.le_of_ble_eq_true rfl)⟩ rfl rfl hV.1.1 hV.1.2.2.1 rfl rfl rfl rfl (Nat.le_of_ble_eq_true rfl) (Nat.le_of_ble_eq_true rfl) (Nat.le_of_ble_eq_true rfl) ?_
    refine e_iload_n 7 12 rfl rfl rfl rfl ?_
    refine e_sipush 8 15 rfl rfl rfl ?_
    refine e_icmp_lt 9 24 18 rfl rfl rfl (by unfold xr at *; omega) (by unfold xr at *; omega) (fun h9 => absurd h9 (by omega)) (fun _ => ?_)
    refine e_aload_n 10 19 rfl rfl rfl rfl ?_
    refine e_iconst 11 20 rfl rfl ?_
    refine e_iconst 12 21 rfl rfl ?_
    refine g_callV 13 24 (k1) okX10_putSign cvX10_56 ⟨(Nat.le_of_ble_eq_true rfl), (Nat.le_of_ble_eq_true rfl)⟩ rfl rfl hV.1.1 hV.1.2.2.1 rfl rfl rfl rfl (Nat.le_of_ble_eq_true rfl) (Nat.le_of_ble_eq_true rfl) (Nat.le_of_ble_eq_true rfl) ?_
    exact e_return 14 rfl rfl (Nat.le_of_ble_eq_true rfl) (Nat.le_of_ble_eq_true rfl)
  · refine ⟨σ1, ?_, by rw [if_neg hc4]; exact h2, Fr.xu0.tr h3⟩
    refine e_entry okX10_become (Nat.le_of_ble_eq_true rfl) (ls := [some _, some _]) rfl ?_
    refine e_aload_n 0 1 rfl rfl rfl rfl ?_
    refine e_iconst 1 2 rfl rfl ?_
    refine g_putI 2 5 1 ckX10 flX10_9 rfl rfl hV.1.1 hV.1.2.2.1 rfl rfl ?_
    refine e_aload_n 3 6 rfl rfl rfl rfl ?_
    refine e_iconst 4 7 rfl rfl ?_
    refine e_iload_n 5 8 rfl rfl rfl rfl ?_
    refine g_callV 6 11 (h1) okX10_putSign cvX10_56 ⟨(Nat.le_of_ble_eq_true rfl), (Nat.le_of_ble_eq_true rfl)⟩ rfl rfl hV.1.1 hV.1.2.2.1 rfl rfl rfl rfl (Nat.le_of_ble_eq_true rfl) (Nat.le_of_ble_eq_true rfl) (Nat.le_of_ble_eq_true rfl) ?_
    refine e_iload_n 7 12 rfl rfl rfl rfl ?_
    refine e_sipush 8 15 rfl rfl rfl ?_
    refine e_icmp_lt 9 24 18 rfl rfl rfl (by unfold xr at *; omega) (by unfold xr at *; omega) (fun _ => ?_) (fun h9 => absurd h9 (by omega))
    exact e_return 14 rfl rfl (Nat.le_of_ble_eq_true rfl) (Nat.le_of_ble_eq_true rfl)
theorem sp_becomeV {σ : xSig} {a cap b cap' : Nat} {t w : List Int} (hV : VH σ a cap t) (hW : VH σ b cap' w) (hn : w.length ≤ cap) (hb1 : b ≠ a) (hb2 : b ≠ a + 1) (hb3 : b + 1 ≠ a) :
    ∃ σ' : xSig, x_Sp MX10_become_ 0 0 [.ref a, .ref b] (St σ) vv (St σ') ∧ VH σ' a cap w ∧ Fr a σ σ' := by
  obtain ⟨σ1, h1, h2, h3⟩ := sp_putValue (p := []) (m := []) (s := []) hV.nil (hW.fr Fr.xu0 hb1 hb2 hb3) (by simpa using hn) hb1 hb2 hb3
  refine ⟨σ1, ?_, by simpa using h2, Fr.xu0.tr h3⟩
  refine e_entry okX10_become_ (Nat.le_of_ble_eq_true rfl) (ls := [some _, some _]) rfl ?_
  refine e_aload_n 0 1 rfl rfl rfl rfl ?_
  refine e_iconst 1 2 rfl rfl ?_
  refine g_putI 2 5 1 ckX10 flX10_9 rfl rfl hV.1.1 hV.1.2.2.1 rfl rfl ?_
  refine e_aload_n 3 6 rfl rfl rfl rfl ?_
  refine e_iconst 4 7 rfl rfl ?_
  refine e_iconst 5 8 rfl rfl ?_
  refine e_aload_n 6 9 rfl rfl rfl rfl ?_
  refine g_callV 7 12 (h1) okX10_putValue cvX10_60 ⟨(Nat.le_of_ble_eq_true rfl), (Nat.le_of_ble_eq_true rfl)⟩ rfl rfl hV.1.1 hV.1.2.2.1 rfl rfl rfl rfl (Nat.le_of_ble_eq_true rfl) (Nat.le_of_ble_eq_true rfl) (Nat.le_of_ble_eq_true rfl) ?_
  exact e_return 8 rfl rfl (Nat.le_of_ble_eq_true rfl) (Nat.le_of_ble_eq_true rfl)
theorem sp_putBehind {σ : xSig} {a cap b cap' : Nat} {p r s w : List Int} (hV : VH σ a cap (p ++ r ++ 0 :: s)) (hr : vsc (r ++ 0 :: s) 0 = r.length + 1) (hW : VH σ b cap' w) (hn : p.length + r.length + w.length + s.length + 1 ≤ cap) (hb1 : b ≠ a) (hb2 : b ≠ a + 1) (hb3 : b + 1 ≠ a) :
    ∃ σ' : xSig, x_Sp MX10_putBehind 0 0 [.ref a, .int (ii p.length), .ref b] (St σ) vv (St σ') ∧ VH σ' a cap (p ++ r ++ w ++ 0 :: s) ∧ Fr a σ σ' := by
  have hcap := hV.2.2.1
  have h200 := hV.2.2.2.1
  have hl : (p ++ r ++ 0 :: s).length = p.length + r.length + s.length + 1 := by simp; omega
  obtain ⟨σ1, h1, h2, h3⟩ := sp_putValue (p := p ++ r) (m := []) (s := 0 :: s) (by rw [List.append_nil]; exact hV) hW (by simp; omega) hb1 hb2 hb3
  refine ⟨σ1, ?_, h2, h3⟩
  have he := sp_endOf hV p (r ++ 0 :: s) (by simp)
  rw [hr] at he
  rw [show ((p ++ r).length : Int) + ([] : List Int).length = (p.length : Int) + r.length by simp, show (((p ++ r).length : Nat) : Int) = (p.length : Int) + r.length by simp] at h1
  refine e_entry okX10_putBehind (Nat.le_of_ble_eq_true rfl) (ls := [some _, some _, some _, none]) rfl ?_
  refine e_aload_n 0 1 rfl rfl rfl rfl ?_
  refine e_iload_n 1 2 rfl rfl rfl rfl ?_
  refine g_callV 2 5 (he) okX10_endOf cvX10_29 ⟨(Nat.le_of_ble_eq_true rfl), (Nat.le_of_ble_eq_true rfl)⟩ rfl rfl hV.1.1 hV.1.2.2.1 rfl rfl rfl rfl (Nat.le_of_ble_eq_true rfl) (Nat.le_of_ble_eq_true rfl) (Nat.le_of_ble_eq_true rfl) ?_
  refine e_iconst 3 6 rfl rfl ?_
  refine e_isub 4 7 rfl rfl ?_
  refine e_istore_n 5 8 (ls' := [some _, some _, some _, some _]) rfl rfl rfl (Nat.le_of_ble_eq_true rfl) rfl ?_
  refine e_aload_n 6 9 rfl rfl rfl rfl ?_
  refine e_iload_n 7 10 rfl rfl rfl rfl ?_
  refine e_iload_n 8 11 rfl rfl rfl rfl ?_
  refine e_aload_n 9 12 rfl rfl rfl rfl ?_
  rw [show (p.length : Int) + ((r.length + 1 : Nat) : Int) - 1 = (p.length : Int) + r.length by omega]
  refine g_callV 10 15 (h1) okX10_putValue cvX10_60 ⟨(Nat.le_of_ble_eq_true rfl), (Nat.le_of_ble_eq_true rfl)⟩ rfl rfl hV.1.1 hV.1.2.2.1 rfl rfl rfl rfl (Nat.le_of_ble_eq_true rfl) (Nat.le_of_ble_eq_true rfl) (Nat.le_of_ble_eq_true rfl) ?_
  exact e_return 11 rfl rfl (Nat.le_of_ble_eq_true rfl) (Nat.le_of_ble_eq_true rfl)
theorem sp_setField_has {σ : xSig} {a cap b cap' : Nat} {p0 ra v rc w : List Int} {f : Int} (hf : 0 ≤ f ∧ f < 8) (hp0 : 0 < p0.length) (hV : VH σ a cap (p0 ++ ra ++ (1 + f) :: v ++ rc)) (hk : ssc (ra ++ (1 + f) :: v ++ rc) f 0 = ra.length) (hv : vsc (v ++ rc) 0 = v.length) (hW : VH σ b cap' w) (hn : p0.length + ra.length + w.length + rc.length + 1 ≤ cap) (hb1 : b ≠ a) (hb2 : b ≠ a + 1) (hb3 : b + 1 ≠ a) :
    ∃ σ' : xSig, x_Sp MX10_setField 0 0 [.ref a, .int (ii (p0.length - 1)), .int (ii f), .ref b] (St σ) vv (St σ') ∧ VH σ' a cap (p0 ++ ra ++ (1 + f) :: w ++ rc) ∧ Fr a σ σ' := by
  have hcap := hV.2.2.1
  have h200 := hV.2.2.2.1
  have hl : (p0 ++ ra ++ (1 + f) :: v ++ rc).length = p0.length + ra.length + v.length + rc.length + 1 := by simp; omega
  have hs := sp_slotOf hV hf p0 (ra ++ (1 + f) :: v ++ rc) (by simp) hp0
  rw [hk] at hs
  have hx : tok (p0 ++ ra ++ (1 + f) :: v ++ rc) ((p0.length : Int) + ra.length) = 1 + f := by
    rw [show (p0.length : Int) + ra.length = ((p0 ++ ra).length : Int) by simp, show p0 ++ ra ++ (1 + f) :: v ++ rc = (p0 ++ ra) ++ (1 + f) :: (v ++ rc) by simp]
    exact tok_hd _ _ _
  have he := sp_endOf hV (p0 ++ ra ++ [1 + f]) (v ++ rc) (by simp)
  rw [hv] at he
  obtain ⟨σ1, h1, h2, h3⟩ := sp_putValue (p := p0 ++ ra ++ [1 + f]) (m := v) (s := rc) (by simpa using hV) hW (by simp; omega) hb1 hb2 hb3
  have e9 : (((p0 ++ ra ++ [1 + f]).length : Nat) : Int) = (p0.length : Int) + ra.length + 1 := by simp; omega
  rw [e9] at he h1
  refine ⟨σ1, ?_, by simpa using h2, h3⟩
  refine e_entry okX10_setField (Nat.le_of_ble_eq_true rfl) (ls := [some _, some _, some _, some _, none]) rfl ?_
  refine e_aload_n 0 1 rfl rfl rfl rfl ?_
  refine e_iload_n 1 2 rfl rfl rfl rfl ?_
  refine e_iload_n 2 3 rfl rfl rfl rfl ?_
  refine g_callV 3 6 (hs) okX10_slotOf cvX10_32 ⟨(Nat.le_of_ble_eq_true rfl), (Nat.le_of_ble_eq_true rfl)⟩ rfl rfl hV.1.1 hV.1.2.2.1 rfl rfl rfl rfl (Nat.le_of_ble_eq_true rfl) (Nat.le_of_ble_eq_true rfl) (Nat.le_of_ble_eq_true rfl) ?_
  refine e_istore 4 8 (ls' := [some _, some _, some _, some _, some _]) rfl rfl (Nat.le_of_ble_eq_true rfl) rfl ?_
  refine e_aload_n 5 9 rfl rfl rfl rfl ?_
  refine e_iload 6 11 rfl rfl rfl ?_
  refine g_callV 7 14 (sp_signAt hV (i := (p0.length : Int) + ra.length) (by unfold xr; omega)) okX10_signAt cvX10_19 ⟨(Nat.le_of_ble_eq_true rfl), (Nat.le_of_ble_eq_true rfl)⟩ rfl rfl hV.1.1 hV.1.2.2.1 rfl rfl rfl rfl (Nat.le_of_ble_eq_true rfl) (Nat.le_of_ble_eq_true rfl) (Nat.le_of_ble_eq_true rfl) ?_
  rw [hx]
  refine e_iconst 8 15 rfl rfl ?_
  refine e_iload_n 9 16 rfl rfl rfl rfl ?_
  refine e_iadd 10 17 rfl rfl ?_
  refine e_icmp_ne 11 40 20 rfl rfl rfl (by unfold xr at *; omega) (by unfold xr at *; omega) (fun h9 => absurd h9 (by omega)) (fun _ => ?_)
  refine e_aload_n 12 21 rfl rfl rfl rfl ?_
  refine e_iload 13 23 rfl rfl rfl ?_
  refine e_iconst 14 24 rfl rfl ?_
  refine e_iadd 15 25 rfl rfl ?_
  refine e_aload_n 16 26 rfl rfl rfl rfl ?_
  refine e_iload 17 28 rfl rfl rfl ?_
  refine e_iconst 18 29 rfl rfl ?_
  refine e_iadd 19 30 rfl rfl ?_
  refine g_callV 20 33 (he) okX10_endOf cvX10_29 ⟨(Nat.le_of_ble_eq_true rfl), (Nat.le_of_ble_eq_true rfl)⟩ rfl rfl hV.1.1 hV.1.2.2.1 rfl rfl rfl rfl (Nat.le_of_ble_eq_true rfl) (Nat.le_of_ble_eq_true rfl) (Nat.le_of_ble_eq_true rfl) ?_
  refine e_aload_n 21 34 rfl rfl rfl rfl ?_
  refine g_callV 22 37 (h1) okX10_putValue cvX10_60 ⟨(Nat.le_of_ble_eq_true rfl), (Nat.le_of_ble_eq_true rfl)⟩ rfl rfl hV.1.1 hV.1.2.2.1 rfl rfl rfl rfl (Nat.le_of_ble_eq_true rfl) (Nat.le_of_ble_eq_true rfl) (Nat.le_of_ble_eq_true rfl) ?_
  refine e_goto 23 62 rfl rfl ?_
  exact e_return 39 rfl rfl (Nat.le_of_ble_eq_true rfl) (Nat.le_of_ble_eq_true rfl)
theorem sp_setField_new {σ : xSig} {a cap b cap' : Nat} {p0 ra rb w : List Int} {f : Int} (hf : 0 ≤ f ∧ f < 8) (hp0 : 0 < p0.length) (hV : VH σ a cap (p0 ++ ra ++ rb)) (hk : ssc (ra ++ rb) f 0 = ra.length) (hrb : tok rb 0 ≠ 1 + f) (hW : VH σ b cap' w) (hn : p0.length + ra.length + w.length + rb.length + 1 ≤ cap) (hb1 : b ≠ a) (hb2 : b ≠ a + 1) (hb3 : b + 1 ≠ a) :
    ∃ σ' : xSig, x_Sp MX10_setField 0 0 [.ref a, .int (ii (p0.length - 1)), .int (ii f), .ref b] (St σ) vv (St σ') ∧ VH σ' a cap (p0 ++ ra ++ (1 + f) :: w ++ rb) ∧ Fr a σ σ' := by
  have hcap := hV.2.2.1
  have h200 := hV.2.2.2.1
  have hl : (p0 ++ ra ++ rb).length = p0.length + ra.length + rb.length := by simp; omega
  have hs := sp_slotOf hV hf p0 (ra ++ rb) (by simp) hp0
  rw [hk] at hs
  have hx : tok (p0 ++ ra ++ rb) ((p0.length : Int) + ra.length) = tok rb 0 := by
    cases rb with
    | nil => rw [tok_big (by simp), tok_big (by simp)]
    | cons y rb =>
      rw [show (p0.length : Int) + ra.length = ((p0 ++ ra).length : Int) by simp, tok_hd]
      exact (tok_hd [] y rb).symm
  have hb := hV.bnd ((p0.length : Int) + ra.length)
  rw [hx] at hb
  obtain ⟨σ1, h1, h2, h3⟩ := sp_putSign (p := p0 ++ ra) (s := rb) (x := 1 + f) hV (by omega) (by simp; omega)
  obtain ⟨σ2, k1, k2, k3⟩ := sp_putValue (p := p0 ++ ra ++ [1 + f]) (m := []) (s := rb) (by simpa using h2) (hW.fr h3 hb1 hb2 hb3) (by simp; omega) hb1 hb2 hb3
  have e9 : (((p0 ++ ra ++ [1 + f]).length : Nat) : Int) = (p0.length : Int) + ra.length + 1 := by simp; omega
  rw [show (((p0 ++ ra).length : Nat) : Int) = (p0.length : Int) + ra.length by simp] at h1
  rw [e9, show (([] : List Int).length : Int) = 0 by rfl, Int.add_zero] at k1
  refine ⟨σ2, ?_, by simpa using k2, h3.tr k3⟩
  refine e_entry okX10_setField (Nat.le_of_ble_eq_true rfl) (ls := [some _, some _, some _, some _, none]) rfl ?_
  refine e_aload_n 0 1 rfl rfl rfl rfl ?_
  refine e_iload_n 1 2 rfl rfl rfl rfl ?_
  refine e_iload_n 2 3 rfl rfl rfl rfl ?_
  refine g_callV 3 6 (hs) okX10_slotOf cvX10_32 ⟨(Nat.le_of_ble_eq_true rfl), (Nat.le_of_ble_eq_true rfl)⟩ rfl rfl hV.1.1 hV.1.2.2.1 rfl rfl rfl rfl (Nat.le_of_ble_eq_true rfl) (Nat.le_of_ble_eq_true rfl) (Nat.le_of_ble_eq_true rfl) ?_
  refine e_istore 4 8 (ls' := [some _, some _, some _, some _, some _]) rfl rfl (Nat.le_of_ble_eq_true rfl) rfl ?_
  refine e_aload_n 5 9 rfl rfl rfl rfl ?_
  refine e_iload 6 11 rfl rfl rfl ?_
  refine g_callV 7 14 (sp_signAt hV (i := (p0.length : Int) + ra.length) (by unfold xr; omega)) okX10_signAt cvX10_19 ⟨(Nat.le_of_ble_eq_true rfl), (Nat.le_of_ble_eq_true rfl)⟩ rfl rfl hV.1.1 hV.1.2.2.1 rfl rfl rfl rfl (Nat.le_of_ble_eq_true rfl) (Nat.le_of_ble_eq_true rfl) (Nat.le_of_ble_eq_true rfl) ?_
  rw [hx]
  refine e_iconst 8 15 rfl rfl ?_
  refine e_iload_n 9 16 rfl rfl rfl rfl ?_
  refine e_iadd 10 17 rfl rfl ?_
  refine e_icmp_ne 11 40 20 rfl rfl rfl (by unfold xr at *; omega) (by unfold xr at *; omega) (fun _ => ?_) (fun h9 => absurd h9 (by omega))
  refine e_aload_n 24 41 rfl rfl rfl rfl ?_
  refine e_iload 25 43 rfl rfl rfl ?_
  refine e_iconst 26 44 rfl rfl ?_
  refine e_iload_n 27 45 rfl rfl rfl rfl ?_
  refine e_iadd 28 46 rfl rfl ?_
  refine g_callV 29 49 (h1) okX10_putSign cvX10_56 ⟨(Nat.le_of_ble_eq_true rfl), (Nat.le_of_ble_eq_true rfl)⟩ rfl rfl hV.1.1 hV.1.2.2.1 rfl rfl rfl rfl (Nat.le_of_ble_eq_true rfl) (Nat.le_of_ble_eq_true rfl) (Nat.le_of_ble_eq_true rfl) ?_
  refine e_aload_n 30 50 rfl rfl rfl rfl ?_
  refine e_iload 31 52 rfl rfl rfl ?_
  refine e_iconst 32 53 rfl rfl ?_
  refine e_iadd 33 54 rfl rfl ?_
  refine e_iload 34 56 rfl rfl rfl ?_
  refine e_iconst 35 57 rfl rfl ?_
  refine e_iadd 36 58 rfl rfl ?_
  refine e_aload_n 37 59 rfl rfl rfl rfl ?_
  refine g_callV 38 62 (k1) okX10_putValue cvX10_60 ⟨(Nat.le_of_ble_eq_true rfl), (Nat.le_of_ble_eq_true rfl)⟩ rfl rfl hV.1.1 hV.1.2.2.1 rfl rfl rfl rfl (Nat.le_of_ble_eq_true rfl) (Nat.le_of_ble_eq_true rfl) (Nat.le_of_ble_eq_true rfl) ?_
  exact e_return 39 rfl rfl (Nat.le_of_ble_eq_true rfl) (Nat.le_of_ble_eq_true rfl)
theorem sp_takeField_has {σ : xSig} {a cap : Nat} {p0 ra v rc : List Int} {f : Int} (hf : 0 ≤ f ∧ f < 8) (hp0 : 0 < p0.length) (hV : VH σ a cap (p0 ++ ra ++ (1 + f) :: v ++ rc)) (hk : ssc (ra ++ (1 + f) :: v ++ rc) f 0 = ra.length) (hv : vsc (v ++ rc) 0 = v.length) :
    ∃ σ' : xSig, x_Sp MX10_takeField 0 0 [.ref a, .int (ii (p0.length - 1)), .int (ii f)] (St σ) vv (St σ') ∧ VH σ' a cap (p0 ++ ra ++ rc) ∧ Fr a σ σ' := by
  have hcap := hV.2.2.1
  have h200 := hV.2.2.2.1
  have hl : (p0 ++ ra ++ (1 + f) :: v ++ rc).length = p0.length + ra.length + v.length + rc.length + 1 := by simp; omega
  have hs := sp_slotOf hV hf p0 (ra ++ (1 + f) :: v ++ rc) (by simp) hp0
  rw [hk] at hs
  have hx : tok (p0 ++ ra ++ (1 + f) :: v ++ rc) ((p0.length : Int) + ra.length) = 1 + f := by
    rw [show (p0.length : Int) + ra.length = ((p0 ++ ra).length : Int) by simp, show p0 ++ ra ++ (1 + f) :: v ++ rc = (p0 ++ ra) ++ (1 + f) :: (v ++ rc) by simp]
    exact tok_hd _ _ _
  have he := sp_endOf hV (p0 ++ ra ++ [1 + f]) (v ++ rc) (by simp)
  rw [hv] at he
  obtain ⟨σ1, h1, h2, h3⟩ := sp_takeOut (p := p0 ++ ra) (m := (1 + f) :: v) (s := rc) (by simpa using hV)
  have e9 : (((p0 ++ ra ++ [1 + f]).length : Nat) : Int) = (p0.length : Int) + ra.length + 1 := by simp; omega
  rw [e9] at he
  rw [show (((p0 ++ ra).length : Nat) : Int) = (p0.length : Int) + ra.length by simp, show (((1 + f) :: v).length : Int) = (v.length : Int) + 1 by simp] at h1
  refine ⟨σ1, ?_, h2, h3⟩
  refine e_entry okX10_takeField (Nat.le_of_ble_eq_true rfl) (ls := [some _, some _, some _, none]) rfl ?_
  refine e_aload_n 0 1 rfl rfl rfl rfl ?_
  refine e_iload_n 1 2 rfl rfl rfl rfl ?_
  refine e_iload_n 2 3 rfl rfl rfl rfl ?_
  refine g_callV 3 6 (hs) okX10_slotOf cvX10_32 ⟨(Nat.le_of_ble_eq_true rfl), (Nat.le_of_ble_eq_true rfl)⟩ rfl rfl hV.1.1 hV.1.2.2.1 rfl rfl rfl rfl (Nat.le_of_ble_eq_true rfl) (Nat.le_of_ble_eq_true rfl) (Nat.le_of_ble_eq_true rfl) ?_
  refine e_istore_n 4 7 (ls' := [some _, some _, some _, some _]) rfl rfl rfl (Nat.le_of_ble_eq_true rfl) rfl ?_
  refine e_aload_n 5 8 rfl rfl rfl rfl ?_
  refine e_iload_n 6 9 rfl rfl rfl rfl ?_
  refine g_callV 7 12 (sp_signAt hV (i := (p0.length : Int) + ra.length) (by unfold xr; omega)) okX10_signAt cvX10_19 ⟨(Nat.le_of_ble_eq_true rfl), (Nat.le_of_ble_eq_true rfl)⟩ rfl rfl hV.1.1 hV.1.2.2.1 rfl rfl rfl rfl (Nat.le_of_ble_eq_true rfl) (Nat.le_of_ble_eq_true rfl) (Nat.le_of_ble_eq_true rfl) ?_
  rw [hx]
  refine e_iconst 8 13 rfl rfl ?_
  refine e_iload_n 9 14 rfl rfl rfl rfl ?_
  refine e_iadd 10 15 rfl rfl ?_
  refine e_icmp_ne 11 30 18 rfl rfl rfl (by unfold xr at *; omega) (by unfold xr at *; omega) (fun h9 => absurd h9 (by omega)) (fun _ => ?_)
  refine e_aload_n 12 19 rfl rfl rfl rfl ?_
  refine e_iload_n 13 20 rfl rfl rfl rfl ?_
  refine e_aload_n 14 21 rfl rfl rfl rfl ?_
  refine e_iload_n 15 22 rfl rfl rfl rfl ?_
  refine e_iconst 16 23 rfl rfl ?_
  refine e_iadd 17 24 rfl rfl ?_
  refine g_callV 18 27 (he) okX10_endOf cvX10_29 ⟨(Nat.le_of_ble_eq_true rfl), (Nat.le_of_ble_eq_true rfl)⟩ rfl rfl hV.1.1 hV.1.2.2.1 rfl rfl rfl rfl (Nat.le_of_ble_eq_true rfl) (Nat.le_of_ble_eq_true rfl) (Nat.le_of_ble_eq_true rfl) ?_
  rw [show (p0.length : Int) + ra.length + 1 + (v.length : Nat) = (p0.length : Int) + ra.length + ((v.length : Int) + 1) by omega]
  refine g_callV 19 30 (h1) okX10_takeOut cvX10_77 ⟨(Nat.le_of_ble_eq_true rfl), (Nat.le_of_ble_eq_true rfl)⟩ rfl rfl hV.1.1 hV.1.2.2.1 rfl rfl rfl rfl (Nat.le_of_ble_eq_true rfl) (Nat.le_of_ble_eq_true rfl) (Nat.le_of_ble_eq_true rfl) ?_
  exact e_return 20 rfl rfl (Nat.le_of_ble_eq_true rfl) (Nat.le_of_ble_eq_true rfl)
theorem sp_takeField_no {σ : xSig} {a cap : Nat} {p0 ra rb : List Int} {f : Int} (hf : 0 ≤ f ∧ f < 8) (hp0 : 0 < p0.length) (hV : VH σ a cap (p0 ++ ra ++ rb)) (hk : ssc (ra ++ rb) f 0 = ra.length) (hrb : tok rb 0 ≠ 1 + f) :
    x_Sp MX10_takeField 0 0 [.ref a, .int (ii (p0.length - 1)), .int (ii f)] (St σ) vv (St σ) := by
  have hcap := hV.2.2.1
  have h200 := hV.2.2.2.1
  have hl : (p0 ++ ra ++ rb).length = p0.length + ra.length + rb.length := by simp; omega
  have hs := sp_slotOf hV hf p0 (ra ++ rb) (by simp) hp0
  rw [hk] at hs
  have hx : tok (p0 ++ ra ++ rb) ((p0.length : Int) + ra.length) = tok rb 0 := by
    cases rb with
    | nil => rw [tok_big (by simp), tok_big (by simp)]
    | cons y rb =>
      rw [show (p0.length : Int) + ra.length = ((p0 ++ ra).length : Int) by simp, tok_hd]
      exact (tok_hd [] y rb).symm
  have hb := hV.bnd ((p0.length : Int) + ra.length)
  rw [hx] at hb
  refine e_entry okX10_takeField (Nat.le_of_ble_eq_true rfl) (ls := [some _, some _, some _, none]) rfl ?_
  refine e_aload_n 0 1 rfl rfl rfl rfl ?_
  refine e_iload_n 1 2 rfl rfl rfl rfl ?_
  refine e_iload_n 2 3 rfl rfl rfl rfl ?_
  refine g_callV 3 6 (hs) okX10_slotOf cvX10_32 ⟨(Nat.le_of_ble_eq_true rfl), (Nat.le_of_ble_eq_true rfl)⟩ rfl rfl hV.1.1 hV.1.2.2.1 rfl rfl rfl rfl (Nat.le_of_ble_eq_true rfl) (Nat.le_of_ble_eq_true rfl) (Nat.le_of_ble_eq_true rfl) ?_
  refine e_istore_n 4 7 (ls' := [some _, some _, some _, some _]) rfl rfl rfl (Nat.le_of_ble_eq_true rfl) rfl ?_
  refine e_aload_n 5 8 rfl rfl rfl rfl ?_
  refine e_iload_n 6 9 rfl rfl rfl rfl ?_
  refine g_callV 7 12 (sp_signAt hV (i := (p0.length : Int) + ra.length) (by unfold xr; omega)) okX10_signAt cvX10_19 ⟨(Nat.le_of_ble_eq_true rfl), (Nat.le_of_ble_eq_true rfl)⟩ rfl rfl hV.1.1 hV.1.2.2.1 rfl rfl rfl rfl (Nat.le_of_ble_eq_true rfl) (Nat.le_of_ble_eq_true rfl) (Nat.le_of_ble_eq_true rfl) ?_
  rw [hx]
  refine e_iconst 8 13 rfl rfl ?_
  refine e_iload_n 9 14 rfl rfl rfl rfl ?_
  refine e_iadd 10 15 rfl rfl ?_
  refine e_icmp_ne 11 30 18 rfl rfl rfl (by unfold xr at *; omega) (by unfold xr at *; omega) (fun _ => ?_) (fun h9 => absurd h9 (by omega))
  exact e_return 20 rfl rfl (Nat.le_of_ble_eq_true rfl) (Nat.le_of_ble_eq_true rfl)
