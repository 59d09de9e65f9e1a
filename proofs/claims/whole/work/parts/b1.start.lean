/-! ===== what the law's start gives ===== -/
theorem px_one {s : State} {A : Array Value} (hts : ∀ w ∈ tb0, w.before A s = true) {ci n : Nat} (hk : x_CK ci) (hin : ∃ q : vw_C, vwCl[ci]? = some q ∧ Cond.instantiable q.1 n ∈ tb0) : ∃ p : ClassId × (Nat → Nat), ∀ q : vw_C, vwCl[ci]? = some q → u_Kn s q.1 q.2.1 q.2.2 p.1 p.2 := by
  obtain ⟨r, h1, h2, -⟩ := hk
  obtain ⟨q, g1, g2⟩ := hin
  cases h1.symm.trans g1
  obtain ⟨c, i, h⟩ := u_known hts h2 (hts _ g2)
  exact ⟨(c, i), fun q9 hq => by cases h1.symm.trans hq; exact h⟩
theorem px_K {s : State} {A : Array Value} (hts : ∀ w ∈ tb0, w.before A s = true) : ∃ D : va_G, ∀ (c : Nat) (q : vw_C), vwCl[c]? = some q → u_Kn s q.1 q.2.1 q.2.2 (D.1 c) (D.2 c) := by
  have h : ∀ c : Nat, ∃ p : ClassId × (Nat → Nat), ∀ q : vw_C, vwCl[c]? = some q → u_Kn s q.1 q.2.1 q.2.2 p.1 p.2 := fun c => match c with
    | 0 => px_one hts ckX0 ⟨_, rfl, inX0⟩
    | 1 => px_one hts ckX1 ⟨_, rfl, inX1⟩
    | 2 => px_one hts ckX2 ⟨_, rfl, inX2⟩
    | 3 => px_one hts ckX3 ⟨_, rfl, inX3⟩
    | 4 => px_one hts ckX4 ⟨_, rfl, inX4⟩
    | 5 => px_one hts ckX5 ⟨_, rfl, inX5⟩
    | 6 => px_one hts ckX6 ⟨_, rfl, inX6⟩
    | 7 => px_one hts ckX7 ⟨_, rfl, inX7⟩
    | 8 => px_one hts ckX8 ⟨_, rfl, inX8⟩
    | 9 => px_one hts ckX9 ⟨_, rfl, inX9⟩
    | 10 => px_one hts ckX10 ⟨_, rfl, inX10⟩
    | 11 => px_one hts ckX11 ⟨_, rfl, inX11⟩
    | 12 => px_one hts ckX12 ⟨_, rfl, inX12⟩
    | c + 13 => ⟨(0, fun _ => 0), fun q hq => by simp [vwCl] at hq⟩
  exact ⟨(fun c => (Classical.choose (h c)).1, fun c => (Classical.choose (h c)).2), fun c q hq => Classical.choose_spec (h c) q hq⟩
theorem px_AO {s : State} {C : String} (h : va_AO C s) : ∃ cA : ClassId, ArrOfT s cA (.object C) ∧ va_RA s cA (.object C) := by
  obtain ⟨comp, c, k, h1, h2, h3, h4, h5⟩ := Cond.arrayOver_spec h
  exact ⟨c, fun n z => ⟨fun k h => (by cases h), k, h3, comp, h4⟩, k, comp, h3, h4, h1, h5⟩
theorem px_int {s : State} {A : Array Value} (h : (Cond.arrayClass .int).before A s = true) : ∃ cA : ClassId, ArrOfT s cA .int ∧ va_RA s cA .int := by
  obtain ⟨cA, kA, comp, h1, h2, h3⟩ := Cond.arrayClass_spec h
  exact ⟨cA, fun n z => ⟨fun k h => (by cases h), kA, h2, comp, h3⟩, h1⟩
theorem px_bool {s : State} {A : Array Value} (h : (Cond.arrayClass .boolean).before A s = true) : ∃ cA : ClassId, ArrOfT s cA .boolean ∧ va_RA s cA .boolean := by
  obtain ⟨cA, kA, comp, h1, h2, h3⟩ := Cond.arrayClass_spec h
  exact ⟨cA, fun n z => ⟨fun k h => (by cases h), kA, h2, comp, h3⟩, h1⟩
theorem px_long {s : State} {A : Array Value} (h : (Cond.arrayClass .long).before A s = true) : ∃ cA : ClassId, ArrOfT s cA .long ∧ va_RA s cA .long := by
  obtain ⟨cA, kA, comp, h1, h2, h3⟩ := Cond.arrayClass_spec h
  exact ⟨cA, fun n z => ⟨fun k h => (by cases h), kA, h2, comp, h3⟩, h1⟩
theorem px_ex : ∀ q ∈ x_strs, Cond.exactly (.string q.1 q.2.1) "java/lang/String" ∈ flatC (Jvm.Cond.and given_1 narrow_1) := by decide +kernel
theorem px_w1 : Cond.arrayOver (.object "Shardmoor$Value") ∈ lw_tbl := by decide +kernel
theorem px_w2 : Cond.arrayOver (.object "Shardmoor$Filter") ∈ lw_tbl := by decide +kernel
theorem px_w3 : Cond.laysStatic Bundle.tN x_U Bundle.steD ∈ lw_tbl := by decide +kernel
theorem px_w4 : Cond.laysStatic Bundle.tN x_Z Bundle.listD ∈ lw_tbl := by decide +kernel
theorem px_w5 : Cond.initialized Bundle.tN ∈ lw_tbl := by decide +kernel
theorem px_w6 : Cond.isRef (.static Bundle.tN x_U Bundle.steD) ∈ flatC (Jvm.Cond.and given_1 narrow_1) := by decide +kernel
theorem px_w7 : Cond.isRef (.static Bundle.tN x_Z Bundle.listD) ∈ flatC (Jvm.Cond.and given_1 narrow_1) := by decide +kernel
theorem px_n : ∀ q ∈ ncs, Cond.not (.castable q.1 q.2) ∈ flatC (Jvm.Cond.and given_1 narrow_1) := by decide +kernel
theorem px_all {s : State} {b : Nat} (hl : ∀ w ∈ lw_tbl, w.before #[Value.ref b] s = true) (hg : (Jvm.Cond.and given_1 narrow_1).before #[Value.ref b] s = true) : ∃ G : xG, x_PX G s.heap.size s ∧ ∀ q ∈ ncs, va_Nc q.1 q.2 s := by
  have hts : ∀ w ∈ tb0, w.before #[Value.ref b] s = true := fun w h => hl w (List.mem_filter.mp h).1
  have hs := flat_of_before _ hg
  obtain ⟨D, hD⟩ := px_K hts
  have ao1 : va_AO "Shardmoor$Value" s := va_AO.of (hl _ px_w1)
  have ao2 : va_AO "Shardmoor$Filter" s := va_AO.of (hl _ px_w2)
  obtain ⟨c0, i0⟩ := px_int (hts _ ar_int)
  obtain ⟨c1, i1⟩ := px_bool (hts _ ar_boolean)
  obtain ⟨c2, i2⟩ := px_long (hts _ ar_long)
  obtain ⟨c3, i3⟩ := px_AO ao1
  obtain ⟨c4, i4⟩ := px_AO ao2
  have hA : ∀ a : Nat, a < s.heap.size → ¬ x_A s.heap.size a := fun a h => Nat.not_le.mpr h
  refine ⟨(D, fun k => match k with | 0 => c0 | 1 => c1 | 2 => c2 | 3 => c3 | _ => c4), ⟨⟨hD, fun k q hq => ?_⟩, fun w hw => ?_, fun q hq => ?_, vx_Zqof (hl _ px_w3) (hl _ px_w5) (hs _ px_w6) hA, vx_Zqof (hl _ px_w4) (hl _ px_w5) (hs _ px_w7) hA, ao1, ao2, Nat.le_refl _⟩, fun q hq => va_Nc.of (hs _ (px_n q hq))⟩
  · match k, hq with
    | 0, hq => cases hq; exact i0
    | 1, hq => cases hq; exact i1
    | 2, hq => cases hq; exact i2
    | 3, hq => cases hq; exact i3
    | 4, hq => cases hq; exact i4
    | k + 5, hq => simp [x_tys] at hq
  · have h1 := List.mem_filter.mp hw
    have h2 := hl w h1.1
    have hg := h1.2
    cases w <;> first | exact va_Nw.of rfl h2 | exact absurd (show false = true from hg) Bool.false_ne_true
  · obtain ⟨w, hw, e⟩ := List.mem_filterMap.mp hq
    have h2 := hl w hw
    obtain ⟨a, c, cell, k, q1, -⟩ := Cond.exactly_spec (hs _ (px_ex q hq))
    cases w <;> first | (cases e; exact ⟨a, vk_R.of h2 q1⟩) | exact absurd (show none = some q from e) (by simp)
theorem tb0_sub {s : State} {A : Array Value} (hl : ∀ w ∈ lw_tbl, w.before A s = true) : ∀ w ∈ tb0, w.before A s = true := fun w h => hl w (List.mem_filter.mp h).1
