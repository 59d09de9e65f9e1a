/-! ===== steps: find, the plans ===== -/
theorem er_cons {α : Type} {l : List α} {i : Nat} {x : α} (h : l[i]? = some x) : l.Perm (x :: l.eraseIdx i) := by
  obtain ⟨hi, hx⟩ := List.getElem?_eq_some_iff.mp h
  have e : l = l.take i ++ x :: l.drop (i + 1) := by
    rw [← hx, ← List.drop_eq_getElem_cons hi, List.take_append_drop]
  rw [List.eraseIdx_eq_take_drop_succ]
  exact (List.Perm.of_eq e).trans List.perm_middle
theorem er_perm {α : Type} {l1 l2 : List α} {i j : Nat} {x : α} (h : l1.Perm l2) (h1 : l1[i]? = some x) (h2 : l2[j]? = some x) : (l1.eraseIdx i).Perm (l2.eraseIdx j) :=
  (((er_cons h1).symm.trans h).trans (er_cons h2)).cons_inv
theorem er_map {α β : Type} (f : α → β) (l : List α) (i : Nat) : (l.map f).eraseIdx i = (l.eraseIdx i).map f := by
  rw [List.eraseIdx_eq_take_drop_succ, List.eraseIdx_eq_take_drop_succ, List.map_append, List.map_take, List.map_drop]
theorem plC_snoc {u : xSig} {s b l : Int} (hN : 0 ≤ u 248 6) : plC (kpp u s b l) = plC u ++ [(s, b, l)] := by
  obtain ⟨N, hN2⟩ := Int.eq_ofNat_of_zero_le hN
  unfold plC kpp
  rw [xu_same, hN2, show ((N : Int) + 1).toNat = N + 1 by omega, Int.toNat_natCast, List.range_succ, List.map_append]
  congr 1
  · refine List.map_congr_left fun j hj => ?_
    have hj := List.mem_range.mp hj
    have hne : ¬ (j : Int) = N := by omega
    simp [xu, hne]
  · simp [xu]
/-- the plans of both, as the invariant wants them -/
def PLB (i : Nat) (τ : xSig) (c m : xSig) : Prop := IXR c ∧ c 248 6 ≤ i ∧ (∀ q ∈ plC c, vshp q.1 ∧ (q.2.1 = -1 ∨ (ihas τ q.2.1 = true ∧ hasFor q.1 (pxs τ q.2.1)))) ∧ ((plC c).map Prod.fst).Nodup ∧ m 281 18 = c 248 6 ∧ ((plC c).map mkP).Perm (plM m)
theorem PLB.add {i : Nat} {τ c m m' : xSig} (h : PLB i τ c m) (hi : i < 512) {s b l : Int} (hs : vshp s) (hb : b = -1 ∨ (ihas τ b = true ∧ hasFor s (pxs τ b))) (hb2 : -1 ≤ b ∧ b < 3) (hl : 0 ≤ l ∧ l ≤ 100) (hn : s ∉ (plC c).map Prod.fst) (h18 : m' 281 18 = m 281 18 + 1) (hp : plM m' = plM m ++ [(mk9 s, b, l)]) : PLB (i + 1) τ (kpp c s b l) m' := by
  obtain ⟨h1, h2, h3, h4, h5, h6⟩ := h
  have h0 := h1.2.2.1
  have e6 : kpp c s b l 248 6 = c 248 6 + 1 := xu_same _ _ _ _
  refine ⟨IXR_kpp h1 (by omega) (by unfold vshp at hs; omega) hb2 hl, by rw [e6]; omega, ?_, ?_, by rw [h18, e6, h5], ?_⟩
  · rw [plC_snoc h0.1]
    intro q hq
    rcases List.mem_append.mp hq with q1 | q1
    · exact h3 q q1
    · rw [List.mem_singleton.mp q1]
      exact ⟨hs, hb⟩
  · rw [plC_snoc h0.1, List.map_append]
    refine ((List.perm_append_singleton s _).nodup_iff).mpr ?_
    exact List.nodup_cons.mpr ⟨hn, h4⟩
  · rw [plC_snoc h0.1, List.map_append, hp]
    exact h6.append_right _
theorem PLB.del {i : Nat} {τ c m m' : xSig} (h : PLB i τ c m) {p a : Nat} {s b l : Int} (hp : (plC c)[p]? = some (s, b, l)) (ha : (plM m)[a]? = some (mk9 s, b, l)) (h18 : m' 281 18 = m 281 18 - 1) (hm : plM m' = (plM m).eraseIdx a) : PLB i τ (fgp c p) m' ∧ s ∉ (plC (fgp c p)).map Prod.fst := by
  obtain ⟨h1, h2, h3, h4, h5, h6⟩ := h
  have h0 := h1.2.2.1
  have hp2 : (p : Int) < c 248 6 := by
    have := (List.getElem?_eq_some_iff.mp hp).1
    rw [plC_len] at this
    omega
  have g := fgp_pl hp2
  have g3 := (er_cons hp).map Prod.fst
  have g4 := List.nodup_cons.mp (g3.nodup_iff.mp h4)
  have g5 := g.map Prod.fst
  refine ⟨⟨IXR_fgp h1 (by omega), by rw [fgp_6]; omega, fun q hq => ?_, ?_, by rw [h18, fgp_6, h5], ?_⟩, ?_⟩
  · exact h3 q (List.mem_of_mem_eraseIdx (g.mem_iff.mp hq))
  · exact g5.nodup_iff.mpr g4.2
  · rw [hm]
    refine (g.map mkP).trans ?_
    rw [← er_map]
    exact er_perm h6 (by rw [List.getElem?_map, hp]; rfl) ha
  · intro q
    exact g4.1 (g5.mem_iff.mp q)
/-- whom a try can choose -/
def okT (τ : xSig) (t : Int × Int × Int) : Prop := 0 ≤ t.2.2 ∧ (t.2.2 ≠ 0 → t.1 = -1 ∨ (ihas τ t.1 = true ∧ ffi τ t.1 ≠ -1))
theorem okT.tp {τ : xSig} {t : Int × Int × Int} (h : okT τ t) {k l : Int} (hk : k = -1 ∨ (ihas τ k = true ∧ ffi τ k ≠ -1)) : okT τ (tpS t k l) := by
  obtain ⟨h1, h2⟩ := h
  unfold tpS
  refine ⟨?_, fun _ => ?_⟩
  · show 0 ≤ t.2.2 + 1
    omega
  · show (if t.2.2 = 0 ∨ l < t.2.1 then k else t.1) = -1 ∨ (ihas τ (if t.2.2 = 0 ∨ l < t.2.1 then k else t.1) = true ∧ ffi τ (if t.2.2 = 0 ∨ l < t.2.1 then k else t.1) ≠ -1)
    by_cases w : t.2.2 = 0 ∨ l < t.2.1
    · rw [if_pos w]; exact hk
    · rw [if_neg w]; exact h2 (fun q => w (Or.inl q))
theorem okT.tr {τ : xSig} {T : Nat → List Int} : ∀ (n i : Nat) (t : Int × Int × Int), okT τ t → okT τ (trS τ T i n t) := by
  intro n
  induction n with
  | zero => intro i t h; exact h
  | succ n ih =>
    intro i t h
    simp only [trS]
    refine ih (i + 1) _ ?_
    by_cases w : ffi τ i = -1
    · rw [if_pos w]; exact h
    · rw [if_neg w]
      refine h.tp (Or.inr ⟨?_, w⟩)
      cases hh : ihas τ i with
      | true => rfl
      | false => exact absurd (by unfold ffi; rw [hh]; rfl) w
theorem fnd_mem {P : Nat → Bool} : ∀ (n i : Nat) (x : Int), x ∈ fnd P i n → (i : Int) ≤ x ∧ x < i + n := by
  intro n
  induction n with
  | zero => intro i x h; simp [fnd] at h
  | succ n ih =>
    intro i x h
    simp only [fnd] at h
    rcases List.mem_append.mp h with q | q
    · split at q
      · have := List.mem_singleton.mp q
        omega
      · simp at q
    · have := ih (i + 1) x q
      omega
theorem fx256 {K : List Nat} {L : List (Nat × Int)} {σ σ' : xSig} (h : FX (256 :: K) σ σ') (h2 : ∀ j : Int, inP L 256 j = false → σ' 256 j = σ 256 j) (hc : (K.all fun b => L.any fun q => q.1 == b && q.2 == -1) = true) : FP L σ σ' := by
  intro b j hi
  by_cases e : b = 256
  · subst e
    exact h2 j hi
  · rw [h b (fun q => ?_)]
    rcases List.mem_cons.mp q with w | w
    · exact e w
    · have := inP_A (List.all_eq_true.mp hc b w) j
      rw [hi] at this
      cases this
/-- rows of a step that gives both sides anew -/
theorem IM.rows {i i' : Nat} {τ τ' σ σ' : xSig} {T : Nat → List Int} {G : Nat → Fo} (h : IM i τ T G σ) (hi : i ≤ i') (S1 S2 : List Nat) (L : List (Nat × Int)) (hF : FP L τ τ') (hF' : FP L σ σ') (hk : disK S1 L = true) (hr : disR S2 L = true) (h1 : ∀ k ∈ S1, KIc i' τ' T G k) (h2 : ∀ k ∈ S2, RMc τ' G σ' k) : IM i' τ' T G σ' := by
  refine ⟨fun k => ?_, fun k => ?_⟩
  · by_cases hk2 : k < 15
    · by_cases e : k ∈ S1
      · exact h1 k e
      · exact KIc_fp hi k (sam_fp hF (disK_at hk hk2 e)) (h.1 k)
    · obtain ⟨m, rfl⟩ : ∃ m, k = m + 15 := ⟨k - 15, by omega⟩
      trivial
  · by_cases hk2 : k < 23
    · by_cases e : k ∈ S2
      · exact h2 k e
      · exact RMc_fp k (sam_fp hF (disR_at hr hk2 e).1) (sam_fp hF' (disR_at hr hk2 e).2) (h.2 k)
    · obtain ⟨m, rfl⟩ : ∃ m, k = m + 23 := ⟨k - 23, by omega⟩
      trivial
