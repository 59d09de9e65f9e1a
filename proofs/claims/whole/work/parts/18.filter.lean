/-! ===== values at places; Filter ===== -/
/-- the value that begins at a place -/
def sv (t : List Int) (i : Int) : List Int := (t.drop i.toNat).take (vsc (t.drop i.toNat) 0)
theorem sv_split (t : List Int) (i : Int) : t = t.take i.toNat ++ sv t i ++ (t.drop i.toNat).drop (vsc (t.drop i.toNat) 0) := by
  unfold sv
  rw [List.append_assoc, List.take_append_drop, List.take_append_drop]
/-- all that a document has at any path is values, and there is room for their places -/
def GD (t : List Int) : Prop := 0 < t.length ∧ ∀ path : Int, 0 ≤ path → path < 72 → (atp t path).length ≤ 24 ∧ ∀ i ∈ atp t path, 0 ≤ i ∧ i < t.length ∧ Cv (sv t i)
def isFi (q : Nat) : Prop := q < N0 ∧ SH q = .inr (.inr (2, [some (some (q + 1)), none, none])) ∧ vO (q + 1) = true ∧ vCap (q + 1) = 72 ∧ vA q = false
theorem isFi_s (i : Nat) (h : i < 3) : isFi (264 + 3 * i) := by
  rcases (by omega : i = 0 ∨ i = 1 ∨ i = 2) with rfl | rfl | rfl <;> exact ⟨Nat.le_of_ble_eq_true rfl, rfl, by decide +kernel, by decide +kernel, by decide +kernel⟩
theorem isFi_n : isFi 258 := ⟨Nat.le_of_ble_eq_true rfl, rfl, by decide +kernel, by decide +kernel, by decide +kernel⟩
/-- whether the value at a place fits a filter -/
def ffit (rel : Int) (w t : List Int) (i : Int) : Bool :=
  if rel = 0 then decide (lexc (sv t i) w = 0)
  else if rel = 3 then true
  else if rel = 4 then decide (knd (tok t i) = 3 ∧ wsc (t.drop i.toNat) 0 = tok w 0 - 2000)
  else decide ((knd (tok t i) = 1 ∨ knd (tok t i) = 2) ∧ knd (tok t i) = knd (tok w 0)) && (if rel = 1 then decide (tok t i < tok w 0) else decide (tok w 0 < tok t i))
theorem sp_isBeyond {σ : xSig} {q : Nat} {w : List Int} (hq : isFi q) (hW : VH σ (q + 1) 72 w) (hr : 0 ≤ σ q 2 ∧ σ q 2 ≤ 4) {x : Int} (hx : 0 ≤ x ∧ x < 6000) : Rd MX2_isBeyond [.ref q, .int (ii x)] σ (zv (if σ q 2 = 1 then decide (x < tok w 0) else decide (tok w 0 < x))) := by
  have hb := hW.bnd 0
  refine e_entry okX2_isBeyond (Nat.le_of_ble_eq_true rfl) (ls := [some _, some _]) rfl ?_
  refine e_aload_n 0 1 rfl rfl rfl rfl ?_
  refine g_getI 1 4 2 ckX2 flX2_24 rfl rfl hq.1 hq.2.1 rfl rfl rfl ?_
  refine e_iconst 2 5 rfl rfl ?_
  refine e_icmp_ne 3 28 8 rfl rfl rfl (by unfold xr at *; omega) (by unfold xr at *; omega) (fun h => ?_) (fun h => ?_)
  · skip
    rw [if_neg h]
    refine e_iload_n 14 29 rfl rfl rfl rfl ?_
    refine e_aload_n 15 30 rfl rfl rfl rfl ?_
    refine g_getR 16 33 ckX2 flX2_14 rfl rfl hq.1 hq.2.1 rfl ?_
    refine e_iconst 17 34 rfl rfl ?_
    refine g_callV 18 37 (sp_signAt hW xr_0) okX10_signAt cvX2_45 ⟨(Nat.le_of_ble_eq_true rfl), (Nat.le_of_ble_eq_true rfl)⟩ rfl rfl hW.1.1 hW.1.2.2.1 rfl rfl rfl rfl (Nat.le_of_ble_eq_true rfl) (Nat.le_of_ble_eq_true rfl) (Nat.le_of_ble_eq_true rfl) ?_
    refine e_icmp_le 19 44 40 rfl rfl rfl (by unfold xr at *; omega) (by unfold xr at *; omega) (fun h2 => ?_) (fun h2 => ?_)
    · skip
      rw [decide_eq_false (by omega)]
      refine e_iconst 22 45 rfl rfl ?_
      exact e_zreturn (x := 0) 23 rfl rfl (by omega) (Nat.le_of_ble_eq_true rfl) (Nat.le_of_ble_eq_true rfl)
    · skip
      rw [decide_eq_true h2]
      refine e_iconst 20 41 rfl rfl ?_
      refine e_goto 21 45 rfl rfl ?_
      exact e_zreturn (x := 1) 23 rfl rfl (by omega) (Nat.le_of_ble_eq_true rfl) (Nat.le_of_ble_eq_true rfl)
  · skip
    rw [if_pos h]
    refine e_iload_n 4 9 rfl rfl rfl rfl ?_
    refine e_aload_n 5 10 rfl rfl rfl rfl ?_
    refine g_getR 6 13 ckX2 flX2_14 rfl rfl hq.1 hq.2.1 rfl ?_
    refine e_iconst 7 14 rfl rfl ?_
    refine g_callV 8 17 (sp_signAt hW xr_0) okX10_signAt cvX2_45 ⟨(Nat.le_of_ble_eq_true rfl), (Nat.le_of_ble_eq_true rfl)⟩ rfl rfl hW.1.1 hW.1.2.2.1 rfl rfl rfl rfl (Nat.le_of_ble_eq_true rfl) (Nat.le_of_ble_eq_true rfl) (Nat.le_of_ble_eq_true rfl) ?_
    refine e_icmp_ge 9 24 20 rfl rfl rfl (by unfold xr at *; omega) (by unfold xr at *; omega) (fun h2 => ?_) (fun h2 => ?_)
    · skip
      rw [decide_eq_false (by omega)]
      refine e_iconst 12 25 rfl rfl ?_
      refine e_goto 13 45 rfl rfl ?_
      exact e_zreturn (x := 0) 23 rfl rfl (by omega) (Nat.le_of_ble_eq_true rfl) (Nat.le_of_ble_eq_true rfl)
    · skip
      rw [decide_eq_true h2]
      refine e_iconst 10 21 rfl rfl ?_
      refine e_goto 11 45 rfl rfl ?_
      exact e_zreturn (x := 1) 23 rfl rfl (by omega) (Nat.le_of_ble_eq_true rfl) (Nat.le_of_ble_eq_true rfl)
theorem lexc_in (a b : List Int) : lexc a b = -1 ∨ lexc a b = 0 ∨ lexc a b = 1 := by
  induction a generalizing b with
  | nil => simp [lexc]
  | cons x a ih =>
    cases b with
    | nil => simp [lexc]
    | cons y b =>
      simp only [lexc]
      split
      · exact Or.inl rfl
      · split
        · exact Or.inr (Or.inr rfl)
        · exact ih b
theorem sp_fits {σ : xSig} {q a cap : Nat} {w t : List Int} (hq : isFi q) (hW : VH σ (q + 1) 72 w) (hw : Cv w) (hr : 0 ≤ σ q 2 ∧ σ q 2 ≤ 4) (hV : VH σ a cap t) {i : Int} (hi : 0 ≤ i ∧ i < t.length) (hv : Cv (sv t i)) : Rd MX2_fits [.ref q, .ref a, .int (ii i)] σ (zv (ffit (σ q 2) w t i)) := by
  have hcap := hV.2.2.1
  have h200 := hV.2.2.2.1
  have hxi : xr i := by unfold xr; omega
  have hk := sp_kindAt hV hxi
  have hkb := knd_bnd (tok t i)
  have hkw := knd_bnd (tok w 0)
  have hli : ((t.take i.toNat).length : Int) = i := by rw [List.length_take]; omega
  have hb := hV.bnd i
  have hbw := hW.bnd 0
  have other : ∀ z : Int, (z = 1 ∨ z = 2) → σ q 2 = z → x_E MX2_fits 0 0 92 [some (.ref q), some (.ref a), some (.int (ii i)), some (.int (ii (knd (tok t i))))] [] (St σ) 0 0 (zv (ffit (σ q 2) w t i)) (St σ) := by
    intro z hz hz2
    have e : ffit (σ q 2) w t i = (decide ((knd (tok t i) = 1 ∨ knd (tok t i) = 2) ∧ knd (tok t i) = knd (tok w 0)) && (if σ q 2 = 1 then decide (tok t i < tok w 0) else decide (tok w 0 < tok t i))) := by unfold ffit; rw [if_neg (by omega), if_neg (by omega), if_neg (by omega)]
    rw [e]
    have h102 : (knd (tok t i) = 1 ∨ knd (tok t i) = 2) → x_E MX2_fits 0 0 102 [some (.ref q), some (.ref a), some (.int (ii i)), some (.int (ii (knd (tok t i))))] [] (St σ) 0 0 (zv (decide ((knd (tok t i) = 1 ∨ knd (tok t i) = 2) ∧ knd (tok t i) = knd (tok w 0)) && (if σ q 2 = 1 then decide (tok t i < tok w 0) else decide (tok w 0 < tok t i)))) (St σ) := by
      intro h12
      have hbe := sp_isBeyond hq hW hr hb
      refine e_iload_n 41 103 rfl rfl rfl rfl ?_
      refine e_aload_n 42 104 rfl rfl rfl rfl ?_
      refine g_getR 43 107 ckX2 flX2_14 rfl rfl hq.1 hq.2.1 rfl ?_
      refine e_iconst 44 108 rfl rfl ?_
      refine g_callV 45 111 (sp_kindAt hW xr_0) okX10_kindAt cvX2_48 ⟨(Nat.le_of_ble_eq_true rfl), (Nat.le_of_ble_eq_true rfl)⟩ rfl rfl hW.1.1 hW.1.2.2.1 rfl rfl rfl rfl (Nat.le_of_ble_eq_true rfl) (Nat.le_of_ble_eq_true rfl) (Nat.le_of_ble_eq_true rfl) ?_
      refine e_icmp_ne 46 130 114 rfl rfl rfl (by unfold xr at *; omega) (by unfold xr at *; omega) (fun h => ?_) (fun h => ?_)
      · skip
        rw [decide_eq_false (fun z => h z.2), Bool.false_and]
        refine e_iconst 55 131 rfl rfl ?_
        exact e_zreturn (x := 0) 56 rfl rfl (by omega) (Nat.le_of_ble_eq_true rfl) (Nat.le_of_ble_eq_true rfl)
      · skip
        rw [decide_eq_true ⟨h12, h⟩, Bool.true_and]
        refine e_aload_n 47 115 rfl rfl rfl rfl ?_
        refine e_aload_n 48 116 rfl rfl rfl rfl ?_
        refine e_iload_n 49 117 rfl rfl rfl rfl ?_
        refine g_callV 50 120 (sp_signAt hV hxi) okX10_signAt cvX2_45 ⟨(Nat.le_of_ble_eq_true rfl), (Nat.le_of_ble_eq_true rfl)⟩ rfl rfl hV.1.1 hV.1.2.2.1 rfl rfl rfl rfl (Nat.le_of_ble_eq_true rfl) (Nat.le_of_ble_eq_true rfl) (Nat.le_of_ble_eq_true rfl) ?_
        refine g_callV 51 123 (hbe) okX2_isBeyond cvX2_61 ⟨(Nat.le_of_ble_eq_true rfl), (Nat.le_of_ble_eq_true rfl)⟩ rfl rfl hq.1 hq.2.1 rfl rfl rfl rfl (Nat.le_of_ble_eq_true rfl) (Nat.le_of_ble_eq_true rfl) (Nat.le_of_ble_eq_true rfl) ?_
        refine e_ifb_eq 52 130 126 rfl rfl rfl (fun h3 => ?_) (fun h3 => ?_)
        · skip
          rw [h3]
          refine e_iconst 55 131 rfl rfl ?_
          exact e_zreturn (x := 0) 56 rfl rfl (by omega) (Nat.le_of_ble_eq_true rfl) (Nat.le_of_ble_eq_true rfl)
        · skip
          rw [h3]
          refine e_iconst 53 127 rfl rfl ?_
          refine e_goto 54 131 rfl rfl ?_
          exact e_zreturn (x := 1) 56 rfl rfl (by omega) (Nat.le_of_ble_eq_true rfl) (Nat.le_of_ble_eq_true rfl)
    refine e_iload_n 35 93 rfl rfl rfl rfl ?_
    refine e_iconst 36 94 rfl rfl ?_
    refine e_icmp_eq 37 102 97 rfl rfl rfl (by unfold xr at *; omega) (by unfold xr at *; omega) (fun h => ?_) (fun h => ?_)
    · skip
      exact h102 (Or.inl h)
    · skip
      refine e_iload_n 38 98 rfl rfl rfl rfl ?_
      refine e_iconst 39 99 rfl rfl ?_
      refine e_icmp_ne 40 130 102 rfl rfl rfl (by unfold xr at *; omega) (by unfold xr at *; omega) (fun h2 => ?_) (fun h2 => ?_)
      · skip
        rw [decide_eq_false (fun z => z.1.elim h h2), Bool.false_and]
        refine e_iconst 55 131 rfl rfl ?_
        exact e_zreturn (x := 0) 56 rfl rfl (by omega) (Nat.le_of_ble_eq_true rfl) (Nat.le_of_ble_eq_true rfl)
      · skip
        exact h102 (Or.inr h2)
  rcases (by omega : σ q 2 = 0 ∨ σ q 2 = 1 ∨ σ q 2 = 2 ∨ σ q 2 = 3 ∨ σ q 2 = 4) with h | h | h | h | h
  · have ho := sp_order hV hW (t.take i.toNat) (sv t i) ((t.drop i.toNat).drop (vsc (t.drop i.toNat) 0)) [] w [] (sv_split t i) (by simp) hv hw
    rw [hli] at ho
    have hlx := lexc_in (sv t i) w
    rw [h, show ffit 0 w t i = decide (lexc (sv t i) w = 0) by unfold ffit; rw [if_pos rfl]]
    refine e_entry okX2_fits (Nat.le_of_ble_eq_true rfl) (ls := [some _, some _, some _, none]) rfl ?_
    refine e_aload_n 0 1 rfl rfl rfl rfl ?_
    refine e_iload_n 1 2 rfl rfl rfl rfl ?_
    refine g_callV 2 5 (hk) okX10_kindAt cvX2_48 ⟨(Nat.le_of_ble_eq_true rfl), (Nat.le_of_ble_eq_true rfl)⟩ rfl rfl hV.1.1 hV.1.2.2.1 rfl rfl rfl rfl (Nat.le_of_ble_eq_true rfl) (Nat.le_of_ble_eq_true rfl) (Nat.le_of_ble_eq_true rfl) ?_
    refine e_istore_n 3 6 (ls' := [some _, some _, some _, some _]) rfl rfl rfl (Nat.le_of_ble_eq_true rfl) rfl ?_
    refine e_aload_n 4 7 rfl rfl rfl rfl ?_
    refine g_getI 5 10 2 ckX2 flX2_24 rfl rfl hq.1 hq.2.1 rfl rfl h ?_
    refine e_table 6 44 (x := 0) rfl (by unfold xr; omega) (by decide) (by decide) rfl rfl ?_
    refine e_aload_n 7 45 rfl rfl rfl rfl ?_
    refine e_iload_n 8 46 rfl rfl rfl rfl ?_
    refine e_aload_n 9 47 rfl rfl rfl rfl ?_
    refine g_getR 10 50 ckX2 flX2_14 rfl rfl hq.1 hq.2.1 rfl ?_
    refine e_iconst 11 51 rfl rfl ?_
    refine g_callS 12 54 (ho) okX10_order csX2_51 ⟨(Nat.le_of_ble_eq_true rfl), (Nat.le_of_ble_eq_true rfl)⟩ rfl rfl rfl rfl (Nat.le_of_ble_eq_true rfl) (Nat.le_of_ble_eq_true rfl) (Nat.le_of_ble_eq_true rfl) ?_
    refine e_if_ne 13 61 57 rfl rfl rfl (by unfold xr at *; omega) (fun h2 => ?_) (fun h2 => ?_)
    · skip
      rw [decide_eq_false h2]
      refine e_iconst 16 62 rfl rfl ?_
      exact e_zreturn (x := 0) 17 rfl rfl (by omega) (Nat.le_of_ble_eq_true rfl) (Nat.le_of_ble_eq_true rfl)
    · skip
      rw [decide_eq_true h2]
      refine e_iconst 14 58 rfl rfl ?_
      refine e_goto 15 62 rfl rfl ?_
      exact e_zreturn (x := 1) 17 rfl rfl (by omega) (Nat.le_of_ble_eq_true rfl) (Nat.le_of_ble_eq_true rfl)
  · skip
    refine e_entry okX2_fits (Nat.le_of_ble_eq_true rfl) (ls := [some _, some _, some _, none]) rfl ?_
    refine e_aload_n 0 1 rfl rfl rfl rfl ?_
    refine e_iload_n 1 2 rfl rfl rfl rfl ?_
    refine g_callV 2 5 (hk) okX10_kindAt cvX2_48 ⟨(Nat.le_of_ble_eq_true rfl), (Nat.le_of_ble_eq_true rfl)⟩ rfl rfl hV.1.1 hV.1.2.2.1 rfl rfl rfl rfl (Nat.le_of_ble_eq_true rfl) (Nat.le_of_ble_eq_true rfl) (Nat.le_of_ble_eq_true rfl) ?_
    refine e_istore_n 3 6 (ls' := [some _, some _, some _, some _]) rfl rfl rfl (Nat.le_of_ble_eq_true rfl) rfl ?_
    refine e_aload_n 4 7 rfl rfl rfl rfl ?_
    refine g_getI 5 10 2 ckX2 flX2_24 rfl rfl hq.1 hq.2.1 rfl rfl h ?_
    refine e_table 6 92 (x := 1) rfl (by unfold xr; omega) (by decide) (by decide) rfl rfl ?_
    exact other 1 (Or.inl rfl) h
  · skip
    refine e_entry okX2_fits (Nat.le_of_ble_eq_true rfl) (ls := [some _, some _, some _, none]) rfl ?_
    refine e_aload_n 0 1 rfl rfl rfl rfl ?_
    refine e_iload_n 1 2 rfl rfl rfl rfl ?_
    refine g_callV 2 5 (hk) okX10_kindAt cvX2_48 ⟨(Nat.le_of_ble_eq_true rfl), (Nat.le_of_ble_eq_true rfl)⟩ rfl rfl hV.1.1 hV.1.2.2.1 rfl rfl rfl rfl (Nat.le_of_ble_eq_true rfl) (Nat.le_of_ble_eq_true rfl) (Nat.le_of_ble_eq_true rfl) ?_
    refine e_istore_n 3 6 (ls' := [some _, some _, some _, some _]) rfl rfl rfl (Nat.le_of_ble_eq_true rfl) rfl ?_
    refine e_aload_n 4 7 rfl rfl rfl rfl ?_
    refine g_getI 5 10 2 ckX2 flX2_24 rfl rfl hq.1 hq.2.1 rfl rfl h ?_
    refine e_table 6 92 (x := 2) rfl (by unfold xr; omega) (by decide) (by decide) rfl rfl ?_
    exact other 2 (Or.inr rfl) h
  · rw [h, show ffit 3 w t i = true by unfold ffit; rw [if_neg (by decide), if_pos rfl]]
    refine e_entry okX2_fits (Nat.le_of_ble_eq_true rfl) (ls := [some _, some _, some _, none]) rfl ?_
    refine e_aload_n 0 1 rfl rfl rfl rfl ?_
    refine e_iload_n 1 2 rfl rfl rfl rfl ?_
    refine g_callV 2 5 (hk) okX10_kindAt cvX2_48 ⟨(Nat.le_of_ble_eq_true rfl), (Nat.le_of_ble_eq_true rfl)⟩ rfl rfl hV.1.1 hV.1.2.2.1 rfl rfl rfl rfl (Nat.le_of_ble_eq_true rfl) (Nat.le_of_ble_eq_true rfl) (Nat.le_of_ble_eq_true rfl) ?_
    refine e_istore_n 3 6 (ls' := [some _, some _, some _, some _]) rfl rfl rfl (Nat.le_of_ble_eq_true rfl) rfl ?_
    refine e_aload_n 4 7 rfl rfl rfl rfl ?_
    refine g_getI 5 10 2 ckX2 flX2_24 rfl rfl hq.1 hq.2.1 rfl rfl h ?_
    refine e_table 6 63 (x := 3) rfl (by unfold xr; omega) (by decide) (by decide) rfl rfl ?_
    refine e_iconst 18 64 rfl rfl ?_
    exact e_zreturn (x := 1) 19 rfl rfl (by omega) (Nat.le_of_ble_eq_true rfl) (Nat.le_of_ble_eq_true rfl)
  · have hwd := sp_widthAt hV (t.take i.toNat) (t.drop i.toNat) (List.take_append_drop _ _).symm
    rw [hli] at hwd
    have hwb := wsc_bnd (t.drop i.toNat) 0
    rw [List.length_drop] at hwb
    rw [h, show ffit 4 w t i = decide (knd (tok t i) = 3 ∧ wsc (t.drop i.toNat) 0 = tok w 0 - 2000) by unfold ffit; rw [if_neg (by decide), if_neg (by decide), if_pos rfl]]
    refine e_entry okX2_fits (Nat.le_of_ble_eq_true rfl) (ls := [some _, some _, some _, none]) rfl ?_
    refine e_aload_n 0 1 rfl rfl rfl rfl ?_
    refine e_iload_n 1 2 rfl rfl rfl rfl ?_
    refine g_callV 2 5 (hk) okX10_kindAt cvX2_48 ⟨(Nat.le_of_ble_eq_true rfl), (Nat.le_of_ble_eq_true rfl)⟩ rfl rfl hV.1.1 hV.1.2.2.1 rfl rfl rfl rfl (Nat.le_of_ble_eq_true rfl) (Nat.le_of_ble_eq_true rfl) (Nat.le_of_ble_eq_true rfl) ?_
    refine e_istore_n 3 6 (ls' := [some _, some _, some _, some _]) rfl rfl rfl (Nat.le_of_ble_eq_true rfl) rfl ?_
    refine e_aload_n 4 7 rfl rfl rfl rfl ?_
    refine g_getI 5 10 2 ckX2 flX2_24 rfl rfl hq.1 hq.2.1 rfl rfl h ?_
    refine e_table 6 65 (x := 4) rfl (by unfold xr; omega) (by decide) (by decide) rfl rfl ?_
    refine e_iload_n 20 66 rfl rfl rfl rfl ?_
    refine e_iconst 21 67 rfl rfl ?_
    refine e_icmp_ne 22 90 70 rfl rfl rfl (by unfold xr at *; omega) (by unfold xr at *; omega) (fun h2 => ?_) (fun h2 => ?_)
    · skip
      rw [decide_eq_false (fun z => h2 z.1)]
      refine e_iconst 33 91 rfl rfl ?_
      exact e_zreturn (x := 0) 34 rfl rfl (by omega) (Nat.le_of_ble_eq_true rfl) (Nat.le_of_ble_eq_true rfl)
    · skip
      refine e_aload_n 23 71 rfl rfl rfl rfl ?_
      refine e_iload_n 24 72 rfl rfl rfl rfl ?_
      refine g_callV 25 75 (hwd) okX10_widthAt cvX2_55 ⟨(Nat.le_of_ble_eq_true rfl), (Nat.le_of_ble_eq_true rfl)⟩ rfl rfl hV.1.1 hV.1.2.2.1 rfl rfl rfl rfl (Nat.le_of_ble_eq_true rfl) (Nat.le_of_ble_eq_true rfl) (Nat.le_of_ble_eq_true rfl) ?_
      refine e_aload_n 26 76 rfl rfl rfl rfl ?_
      refine g_getR 27 79 ckX2 flX2_14 rfl rfl hq.1 hq.2.1 rfl ?_
      refine e_iconst 28 80 rfl rfl ?_
      refine g_callV 29 83 (sp_numberAt hW xr_0) okX10_numberAt cvX2_58 ⟨(Nat.le_of_ble_eq_true rfl), (Nat.le_of_ble_eq_true rfl)⟩ rfl rfl hW.1.1 hW.1.2.2.1 rfl rfl rfl rfl (Nat.le_of_ble_eq_true rfl) (Nat.le_of_ble_eq_true rfl) (Nat.le_of_ble_eq_true rfl) ?_
      refine e_icmp_ne 30 90 86 rfl rfl rfl (by unfold xr at *; omega) (by unfold xr at *; omega) (fun h3 => ?_) (fun h3 => ?_)
      · skip
        rw [decide_eq_false (fun z => h3 z.2)]
        refine e_iconst 33 91 rfl rfl ?_
        exact e_zreturn (x := 0) 34 rfl rfl (by omega) (Nat.le_of_ble_eq_true rfl) (Nat.le_of_ble_eq_true rfl)
      · skip
        rw [decide_eq_true ⟨h2, h3⟩]
        refine e_iconst 31 87 rfl rfl ?_
        refine e_goto 32 91 rfl rfl ?_
        exact e_zreturn (x := 1) 34 rfl rfl (by omega) (Nat.le_of_ble_eq_true rfl) (Nat.le_of_ble_eq_true rfl)
theorem getD_mid (m r : List Int) (x : Int) : (m ++ x :: r).getD m.length 0 = x := by
  rw [List.getD_eq_getElem?_getD, List.getElem?_append_right (Nat.le_refl _), Nat.sub_self]
  rfl
theorem sp_fitsSome {σ : xSig} {q a cap p : Nat} {w t L : List Int} (hq : isFi q) (hW : VH σ (q + 1) 72 w) (hw : Cv w) (hr : 0 ≤ σ q 2 ∧ σ q 2 ≤ 4) (hV : VH σ a cap t) (hP : PH σ p L) (hL : ∀ i ∈ L, 0 ≤ i ∧ i < t.length ∧ Cv (sv t i)) : Rd MX2_fitsSome [.ref q, .ref a, .ref p] σ (zv (L.any (ffit (σ q 2) w t))) := by
  have h24 := hP.2.2.1
  have loop : ∀ (r m : List Int), L = m ++ r → x_E MX2_fitsSome 0 0 2 [some (.ref q), some (.ref a), some (.ref p), some (.int (ii m.length))] [] (St σ) 0 0 (zv (r.any (ffit (σ q 2) w t))) (St σ) := by
    intro r
    induction r with
    | nil =>
      intro m hm
      have hl : L.length = m.length := by rw [hm]; simp
      refine e_iload_n 2 3 rfl rfl rfl rfl ?_
      refine e_aload_n 3 4 rfl rfl rfl rfl ?_
      refine g_callV 4 7 (sp_plSize hP) okX6_size cvX2_31 ⟨(Nat.le_of_ble_eq_true rfl), (Nat.le_of_ble_eq_true rfl)⟩ rfl rfl hP.1.1 hP.1.2.2.1 rfl rfl rfl rfl (Nat.le_of_ble_eq_true rfl) (Nat.le_of_ble_eq_true rfl) (Nat.le_of_ble_eq_true rfl) ?_
      refine e_icmp_ge 5 31 10 rfl rfl rfl (by unfold xr at *; omega) (by unfold xr at *; omega) (fun _ => ?_) (fun h9 => absurd h9 (by omega))
      rw [show ([] : List Int).any (ffit (σ q 2) w t) = false from rfl]
      refine e_iconst 17 32 rfl rfl ?_
      exact e_zreturn (x := 0) 18 rfl rfl (by omega) (Nat.le_of_ble_eq_true rfl) (Nat.le_of_ble_eq_true rfl)
    | cons x r ih =>
      intro m hm
      have hl : L.length = m.length + r.length + 1 := by rw [hm]; simp; omega
      have hx := hL x (by rw [hm]; simp)
      have hn := ih (m ++ [x]) (by rw [hm, app_s])
      rw [len_s] at hn
      have hat := sp_plAt hP (i := m.length) (by omega)
      rw [hm, getD_mid] at hat
      have hf := sp_fits hq hW hw hr hV ⟨hx.1, hx.2.1⟩ hx.2.2
      rw [List.any_cons]
      refine e_iload_n 2 3 rfl rfl rfl rfl ?_
      refine e_aload_n 3 4 rfl rfl rfl rfl ?_
      refine g_callV 4 7 (sp_plSize hP) okX6_size cvX2_31 ⟨(Nat.le_of_ble_eq_true rfl), (Nat.le_of_ble_eq_true rfl)⟩ rfl rfl hP.1.1 hP.1.2.2.1 rfl rfl rfl rfl (Nat.le_of_ble_eq_true rfl) (Nat.le_of_ble_eq_true rfl) (Nat.le_of_ble_eq_true rfl) ?_
      refine e_icmp_ge 5 31 10 rfl rfl rfl (by unfold xr at *; omega) (by unfold xr at *; omega) (fun h9 => absurd h9 (by omega)) (fun _ => ?_)
      refine e_aload_n 6 11 rfl rfl rfl rfl ?_
      refine e_aload_n 7 12 rfl rfl rfl rfl ?_
      refine e_aload_n 8 13 rfl rfl rfl rfl ?_
      refine e_iload_n 9 14 rfl rfl rfl rfl ?_
      refine g_callV 10 17 (hat) okX6_at cvX2_37 ⟨(Nat.le_of_ble_eq_true rfl), (Nat.le_of_ble_eq_true rfl)⟩ rfl rfl hP.1.1 hP.1.2.2.1 rfl rfl rfl rfl (Nat.le_of_ble_eq_true rfl) (Nat.le_of_ble_eq_true rfl) (Nat.le_of_ble_eq_true rfl) ?_
      refine g_callV 11 20 (hf) okX2_fits cvX2_41 ⟨(Nat.le_of_ble_eq_true rfl), (Nat.le_of_ble_eq_true rfl)⟩ rfl rfl hq.1 hq.2.1 rfl rfl rfl rfl (Nat.le_of_ble_eq_true rfl) (Nat.le_of_ble_eq_true rfl) (Nat.le_of_ble_eq_true rfl) ?_
      refine e_ifb_eq 12 25 23 rfl rfl rfl (fun h => ?_) (fun h => ?_)
      · skip
        rw [h, Bool.false_or]
        refine e_iinc 15 28 (ls' := [some _, some _, some _, some _]) rfl rfl (Nat.le_of_ble_eq_true rfl) rfl rfl ?_
        refine e_goto 16 2 rfl rfl ?_
        exact hn
      · skip
        rw [h, Bool.true_or]
        refine e_iconst 13 24 rfl rfl ?_
        exact e_zreturn (x := 1) 14 rfl rfl (by omega) (Nat.le_of_ble_eq_true rfl) (Nat.le_of_ble_eq_true rfl)
  refine e_entry okX2_fitsSome (Nat.le_of_ble_eq_true rfl) (ls := [some _, some _, some _, none]) rfl ?_
  refine e_iconst 0 1 rfl rfl ?_
  refine e_istore_n 1 2 (ls' := [some _, some _, some _, some _]) rfl rfl rfl (Nat.le_of_ble_eq_true rfl) rfl ?_
  exact loop L [] rfl
theorem sp_fitsNothing {σ : xSig} {q : Nat} {w : List Int} (hq : isFi q) (hW : VH σ (q + 1) 72 w) (hr : 0 ≤ σ q 2 ∧ σ q 2 ≤ 4) : Rd MX2_fitsNothing [.ref q] σ (zv (decide (σ q 2 = 0 ∧ tok w 0 = 9))) := by
  have hb := hW.bnd 0
  refine e_entry okX2_fitsNothing (Nat.le_of_ble_eq_true rfl) (ls := [some _]) rfl ?_
  refine e_aload_n 0 1 rfl rfl rfl rfl ?_
  refine g_getI 1 4 2 ckX2 flX2_24 rfl rfl hq.1 hq.2.1 rfl rfl rfl ?_
  refine e_if_ne 2 24 7 rfl rfl rfl (by unfold xr at *; omega) (fun h => ?_) (fun h => ?_)
  · skip
    rw [decide_eq_false (fun z => h z.1)]
    refine e_iconst 11 25 rfl rfl ?_
    exact e_zreturn (x := 0) 12 rfl rfl (by omega) (Nat.le_of_ble_eq_true rfl) (Nat.le_of_ble_eq_true rfl)
  · skip
    refine e_aload_n 3 8 rfl rfl rfl rfl ?_
    refine g_getR 4 11 ckX2 flX2_14 rfl rfl hq.1 hq.2.1 rfl ?_
    refine e_iconst 5 12 rfl rfl ?_
    refine g_callV 6 15 (sp_signAt hW xr_0) okX10_signAt cvX2_45 ⟨(Nat.le_of_ble_eq_true rfl), (Nat.le_of_ble_eq_true rfl)⟩ rfl rfl hW.1.1 hW.1.2.2.1 rfl rfl rfl rfl (Nat.le_of_ble_eq_true rfl) (Nat.le_of_ble_eq_true rfl) (Nat.le_of_ble_eq_true rfl) ?_
    refine e_bipush 7 17 rfl rfl rfl ?_
    refine e_icmp_ne 8 24 20 rfl rfl rfl (by unfold xr at *; omega) (by unfold xr at *; omega) (fun h2 => ?_) (fun h2 => ?_)
    · skip
      rw [decide_eq_false (fun z => h2 z.2)]
      refine e_iconst 11 25 rfl rfl ?_
      exact e_zreturn (x := 0) 12 rfl rfl (by omega) (Nat.le_of_ble_eq_true rfl) (Nat.le_of_ble_eq_true rfl)
    · skip
      rw [decide_eq_true ⟨h, h2⟩]
      refine e_iconst 9 21 rfl rfl ?_
      refine e_goto 10 25 rfl rfl ?_
      exact e_zreturn (x := 1) 12 rfl rfl (by omega) (Nat.le_of_ble_eq_true rfl) (Nat.le_of_ble_eq_true rfl)
theorem sp_isFor {σ : xSig} {q : Nat} (hq : isFi q) (hr : 0 ≤ σ q 2 ∧ σ q 2 ≤ 4) (hp : xr (σ q 1)) {x : Int} (hx : xr x) : Rd MX2_isFor [.ref q, .int (ii x)] σ (zv (decide (σ q 1 = x ∧ σ q 2 < 3))) := by
  unfold xr at hp hx
  refine e_entry okX2_isFor (Nat.le_of_ble_eq_true rfl) (ls := [some _, some _]) rfl ?_
  refine e_aload_n 0 1 rfl rfl rfl rfl ?_
  refine g_getI 1 4 1 ckX2 flX2_20 rfl rfl hq.1 hq.2.1 rfl rfl rfl ?_
  refine e_iload_n 2 5 rfl rfl rfl rfl ?_
  refine e_icmp_ne 3 35 8 rfl rfl rfl (by unfold xr at *; omega) (by unfold xr at *; omega) (fun h => ?_) (fun h => ?_)
  · skip
    rw [decide_eq_false (fun z => h z.1)]
    refine e_iconst 17 36 rfl rfl ?_
    exact e_zreturn (x := 0) 18 rfl rfl (by omega) (Nat.le_of_ble_eq_true rfl) (Nat.le_of_ble_eq_true rfl)
  · skip
    refine e_aload_n 4 9 rfl rfl rfl rfl ?_
    refine g_getI 5 12 2 ckX2 flX2_24 rfl rfl hq.1 hq.2.1 rfl rfl rfl ?_
    refine e_if_eq 6 31 15 rfl rfl rfl (by unfold xr at *; omega) (fun h2 => ?_) (fun h2 => ?_)
    · skip
      rw [decide_eq_true (by omega)]
      refine e_iconst 15 32 rfl rfl ?_
      refine e_goto 16 36 rfl rfl ?_
      exact e_zreturn (x := 1) 18 rfl rfl (by omega) (Nat.le_of_ble_eq_true rfl) (Nat.le_of_ble_eq_true rfl)
    · skip
      refine e_aload_n 7 16 rfl rfl rfl rfl ?_
      refine g_getI 8 19 2 ckX2 flX2_24 rfl rfl hq.1 hq.2.1 rfl rfl rfl ?_
      refine e_iconst 9 20 rfl rfl ?_
      refine e_icmp_eq 10 31 23 rfl rfl rfl (by unfold xr at *; omega) (by unfold xr at *; omega) (fun h3 => ?_) (fun h3 => ?_)
      · skip
        rw [decide_eq_true (by omega)]
        refine e_iconst 15 32 rfl rfl ?_
        refine e_goto 16 36 rfl rfl ?_
        exact e_zreturn (x := 1) 18 rfl rfl (by omega) (Nat.le_of_ble_eq_true rfl) (Nat.le_of_ble_eq_true rfl)
      · skip
        refine e_aload_n 11 24 rfl rfl rfl rfl ?_
        refine g_getI 12 27 2 ckX2 flX2_24 rfl rfl hq.1 hq.2.1 rfl rfl rfl ?_
        refine e_iconst 13 28 rfl rfl ?_
        refine e_icmp_ne 14 35 31 rfl rfl rfl (by unfold xr at *; omega) (by unfold xr at *; omega) (fun h4 => ?_) (fun h4 => ?_)
        · skip
          rw [decide_eq_false (by omega)]
          refine e_iconst 17 36 rfl rfl ?_
          exact e_zreturn (x := 0) 18 rfl rfl (by omega) (Nat.le_of_ble_eq_true rfl) (Nat.le_of_ble_eq_true rfl)
        · skip
          rw [decide_eq_true (by omega)]
          refine e_iconst 15 32 rfl rfl ?_
          refine e_goto 16 36 rfl rfl ?_
          exact e_zreturn (x := 1) 18 rfl rfl (by omega) (Nat.le_of_ble_eq_true rfl) (Nat.le_of_ble_eq_true rfl)
theorem sp_fShape {σ : xSig} {q : Nat} (hq : isFi q) : Rd MX2_shape [.ref q] σ (iv (σ q 1 * 5 + σ q 2 + 1)) := by
  refine e_entry okX2_shape (Nat.le_of_ble_eq_true rfl) (ls := [some _]) rfl ?_
  refine e_aload_n 0 1 rfl rfl rfl rfl ?_
  refine g_getI 1 4 1 ckX2 flX2_20 rfl rfl hq.1 hq.2.1 rfl rfl rfl ?_
  refine e_iconst 2 5 rfl rfl ?_
  refine e_imul 3 6 rfl rfl ?_
  refine e_aload_n 4 7 rfl rfl rfl rfl ?_
  refine g_getI 5 10 2 ckX2 flX2_24 rfl rfl hq.1 hq.2.1 rfl rfl rfl ?_
  refine e_iadd 6 11 rfl rfl ?_
  refine e_iconst 7 12 rfl rfl ?_
  refine e_iadd 8 13 rfl rfl ?_
  exact e_ireturn 9 rfl rfl (Nat.le_of_ble_eq_true rfl) (Nat.le_of_ble_eq_true rfl)
theorem sp_fBecome {σ : xSig} {T : Nat → List Int} (hA : VAll σ T) {q b : Nat} (hq : isFi q) (hb : vO b = true) (hne : b ≠ q + 1) (hl : (T b).length ≤ 72) {x y : Int} :
    ∃ σ' : xSig, x_Sp MX2_become 0 0 [.ref q, .int (ii x), .int (ii y), .ref b] (St σ) vv (St σ') ∧ VAll σ' (uT T (q + 1) (T b)) ∧ NV [] (xu (xu σ q 1 x) q 2 y) σ' := by
  have hv := hq.2.2.1
  have hA1 : VAll (xu (xu σ q 1 x) q 2 y) T := (hA.xu _ _ hq.2.2.2.2).xu _ _ hq.2.2.2.2
  obtain ⟨e1, e2⟩ := vO_apart hv hb hne
  obtain ⟨σ', h1, h2, h3⟩ := sp_becomeV (hA1 _ hv) (hA1 b hb) (by rw [hq.2.2.2.1]; exact hl) hne e1 e2
  refine ⟨σ', ?_, hA1.put hv h2 h3, h3.nv hv⟩
  refine e_entry okX2_become (Nat.le_of_ble_eq_true rfl) (ls := [some _, some _, some _, some _]) rfl ?_
  refine e_aload_n 0 1 rfl rfl rfl rfl ?_
  refine e_iload_n 1 2 rfl rfl rfl rfl ?_
  refine g_putI 2 5 1 ckX2 flX2_20 rfl rfl hq.1 hq.2.1 rfl rfl ?_
  refine e_aload_n 3 6 rfl rfl rfl rfl ?_
  refine e_iload_n 4 7 rfl rfl rfl rfl ?_
  refine g_putI 5 10 2 ckX2 flX2_24 rfl rfl hq.1 hq.2.1 rfl rfl ?_
  refine e_aload_n 6 11 rfl rfl rfl rfl ?_
  refine g_getR 7 14 ckX2 flX2_14 rfl rfl hq.1 hq.2.1 rfl ?_
  refine e_aload_n 8 15 rfl rfl rfl rfl ?_
  refine g_callV 9 18 (h1) okX10_become_ cvX2_27 ⟨(Nat.le_of_ble_eq_true rfl), (Nat.le_of_ble_eq_true rfl)⟩ rfl rfl (vO_val hv).1 (vO_val hv).2.2.1 rfl rfl rfl rfl (Nat.le_of_ble_eq_true rfl) (Nat.le_of_ble_eq_true rfl) (Nat.le_of_ble_eq_true rfl) ?_
  exact e_return 10 rfl rfl (Nat.le_of_ble_eq_true rfl) (Nat.le_of_ble_eq_true rfl)
