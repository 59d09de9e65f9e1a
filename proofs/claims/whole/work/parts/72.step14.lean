/-! ===== steps: insert ===== -/
theorem FP.fix {L : List (Nat × Int)} {σ σ' : xSig} {a : Nat} {j v : Int} (h : FP ((a, j) :: L) σ σ') (hj : j ≠ -1) (hv : σ' a j = v) : FP L (xu σ a j v) σ' := by
  intro b i q
  by_cases e : b = a ∧ i = j
  · rw [e.1, e.2, xu_same]; exact hv
  · rw [xu_ne _ (by omega)]
    refine h b i ?_
    show ((a == b && (j == -1 || j == i)) || inP L b i) = false
    rw [q, Bool.or_false]
    by_cases e1 : a = b
    · have e2 : ¬ j = i := fun w => e ⟨e1.symm, w.symm⟩
      simp [e1, e2, hj]
    · simp [e1]
theorem INV.fin2 {i : Nat} {τ σ : xSig} {T : Nat → List Int} {G : Nat → Fo} (hA : VAll σ T) (h : IM i τ T G σ) (hs : ∀ b : Nat, b < 281 → vA b = false → σ b = τ b) : INV i σ := by
  have hlt : ∀ k, k < 23 → (cT k).all (fun q => decide (q.1 < 281) && !vA q.1) = true ∧ (cK k).all (fun q => decide (q.1 < 281) && !vA q.1) = true := by decide +kernel
  have hsam : ∀ L : List (Nat × Int), L.all (fun q => decide (q.1 < 281) && !vA q.1) = true → sam L τ σ := fun L hL b j hi => by
    obtain ⟨q, hq, hq2⟩ := List.any_eq_true.mp hi
    have := List.all_eq_true.mp hL q hq
    simp only [Bool.and_eq_true, beq_iff_eq, decide_eq_true_eq, Bool.not_eq_true'] at hq2 this
    rw [hs b (by omega) (by rw [← hq2.1]; exact this.2)]
  refine ⟨T, G, hA, ⟨fun k => ?_, fun k => ?_⟩⟩
  · by_cases hk : k < 15
    · exact KIc_fp (Nat.le_refl i) k (hsam _ (hlt k (by omega)).2) (h.1 k)
    · obtain ⟨m, rfl⟩ : ∃ m, k = m + 15 := ⟨k - 15, by omega⟩
      trivial
  · by_cases hk : k < 23
    · exact RMc_fp k (hsam _ (hlt k hk).1) (fun _ _ _ => rfl) (h.2 k)
    · obtain ⟨m, rfl⟩ : ∃ m, k = m + 23 := ⟨k - 23, by omega⟩
      trivial
/-- one row of IM changes, and those named; the others stay -/
theorem IM.gen {i i' : Nat} {τ τ' σ σ' : xSig} {T T' : Nat → List Int} {G G' : Nat → Fo} {Lc Lm : List (Nat × Int)} (S1 S2 : List Nat) (h : IM i τ T G σ) (hi : i ≤ i') (fc : FP Lc τ τ') (fm : FP Lm σ σ') (h1 : disK S1 Lc = true) (h2 : disR S2 (Lc ++ Lm) = true) (hG : (T' = T ∧ G' = G) ∨ ((0 ∈ S1 ∧ 1 ∈ S1 ∧ 2 ∈ S1 ∧ 7 ∈ S1) ∧ 0 ∈ S2 ∧ 1 ∈ S2 ∧ 2 ∈ S2)) (k1 : ∀ k ∈ S1, KIc i' τ' T' G' k) (k2 : ∀ k ∈ S2, RMc τ' G' σ' k) : IM i' τ' T' G' σ' := by
  refine ⟨fun k => ?_, fun k => ?_⟩
  · by_cases hk : k < 15
    · by_cases hs : k ∈ S1
      · exact k1 k hs
      · have base := KIc_fp (T := T) (G := G) hi k (sam_fp fc (disK_at h1 hk hs)) (h.1 k)
        rcases hG with ⟨rfl, rfl⟩ | ⟨⟨q0, q1, q2, q7⟩, -⟩
        · exact base
        · exact KIc_TG k (fun e => hs (e ▸ q0)) (fun e => hs (e ▸ q1)) (fun e => hs (e ▸ q2)) (fun e => hs (e ▸ q7)) base
    · obtain ⟨m, rfl⟩ : ∃ m, k = m + 15 := ⟨k - 15, by omega⟩
      trivial
  · by_cases hk : k < 23
    · by_cases hs : k ∈ S2
      · exact k2 k hs
      · have q := disR_at h2 hk hs
        have sub : ∀ (K : List (Nat × Int)), ovl K (Lc ++ Lm) = false → ovl K Lc = false ∧ ovl K Lm = false := fun K hK => by
          unfold ovl at hK ⊢
          constructor
          · rw [Bool.eq_false_iff] at hK ⊢
            intro w
            apply hK
            obtain ⟨a, ha, hb⟩ := List.any_eq_true.mp w
            obtain ⟨c, hc, hd⟩ := List.any_eq_true.mp hb
            exact List.any_eq_true.mpr ⟨a, ha, List.any_eq_true.mpr ⟨c, List.mem_append_left _ hc, hd⟩⟩
          · rw [Bool.eq_false_iff] at hK ⊢
            intro w
            apply hK
            obtain ⟨a, ha, hb⟩ := List.any_eq_true.mp w
            obtain ⟨c, hc, hd⟩ := List.any_eq_true.mp hb
            exact List.any_eq_true.mpr ⟨a, ha, List.any_eq_true.mpr ⟨c, List.mem_append_right _ hc, hd⟩⟩
        have base := RMc_fp (G := G) k (sam_fp fc (sub _ q.1).1) (sam_fp fm (sub _ q.2).2) (h.2 k)
        rcases hG with ⟨rfl, rfl⟩ | ⟨-, q0, q1, q2⟩
        · exact base
        · refine RMc_G k ?_ base
          rcases (by omega : k = 0 ∨ k = 1 ∨ k = 2 ∨ 3 ≤ k) with w | w | w | w
          · exact absurd (w ▸ q0) hs
          · exact absurd (w ▸ q1) hs
          · exact absurd (w ▸ q2) hs
          · exact w
    · obtain ⟨m, rfl⟩ : ∃ m, k = m + 23 := ⟨k - 23, by omega⟩
      trivial
theorem IM.pop {i : Nat} {τ σ : xSig} {T : Nat → List Int} {G : Nat → Fo} (h : IM i τ T G σ) (hp : 0 < τ 1 2) : IM i (xu τ 1 2 (τ 1 2 - 1)) T G (xu σ 281 3 (τ 1 2 - 1)) := by
  have h3 : 0 ≤ τ 1 2 ∧ τ 1 2 ≤ 10 := h.1 3
  refine IM.gen (Lc := [(1, 2)]) (Lm := [(281, 3)]) [0, 3] [1, 5] h (Nat.le_refl i) (FP.rf.put rfl) (FP.rf.put rfl) rfl rfl (Or.inl ⟨rfl, rfl⟩) (alc ?_ (alc ?_ al0)) (alc ?_ (alc ?_ al0))
  · intro k hk
    rw [xu_same] at hk
    exact h.1 0 k (by omega)
  · show 0 ≤ xu τ 1 2 (τ 1 2 - 1) 1 2 ∧ xu τ 1 2 (τ 1 2 - 1) 1 2 ≤ 10
    rw [xu_same]; omega
  · intro k hk
    rw [xu_same] at hk
    exact (h.2 1 k (by omega)).of (xu_other _ _ _ (by decide))
  · show xu σ 281 3 (τ 1 2 - 1) 281 3 = xu τ 1 2 (τ 1 2 - 1) 1 2
    rw [xu_same, xu_same]
theorem IM.etr {i : Nat} {τ σ : xSig} {T : Nat → List Int} {G : Nat → Fo} (h : IM i τ T G σ) (hb : τ 239 3 + 1 + τ 25 4 ≤ 2 * i) (w n s : Int) : IM i (entd τ w n s) T G (ment σ w n s) := by
  have h11 : 0 ≤ τ 239 3 ∧ τ 239 3 + τ 25 4 ≤ 2 * i := h.1 11
  have h19 := h.2 19
  have fc : FP [(239, 3), (240, -1), (241, -1), (242, -1)] τ (entd τ w n s) := FP.put (FP.putA (FP.putA (FP.putA FP.rf rfl) rfl) rfl) rfl
  have v3 : entd τ w n s 239 3 = τ 239 3 + 1 := by simp [entd, xu]
  have v0 : ∀ j, entd τ w n s 240 j = (if j = τ 239 3 then w else τ 240 j) ∧ entd τ w n s 241 j = (if j = τ 239 3 then n else τ 241 j) ∧ entd τ w n s 242 j = (if j = τ 239 3 then s else τ 242 j) := fun j => by
    refine ⟨by simp [entd, xu], by simp [entd, xu], by simp [entd, xu]⟩
  obtain ⟨m3, m4, m5, m6⟩ := ment_v σ w n s
  refine IM.gen (Lc := [(239, 3), (240, -1), (241, -1), (242, -1)]) (Lm := [(303, -1), (304, -1), (305, -1), (281, 37)]) [11] [19] h (Nat.le_refl i) fc (ment_f _ _ _ _) rfl rfl (Or.inl ⟨rfl, rfl⟩) (alc ?_ al0) (alc ?_ al0)
  · show 0 ≤ entd τ w n s 239 3 ∧ entd τ w n s 239 3 + entd τ w n s 25 4 ≤ 2 * i
    rw [v3, fc 25 4 rfl]; omega
  · refine ⟨by rw [m3, v3, h19.1], fun j j0 j1 => ?_⟩
    rw [v3] at j1
    rw [m4, m5, m6, (v0 j).1, (v0 j).2.1, (v0 j).2.2, h19.1]
    by_cases e : j = τ 239 3
    · rw [if_pos e, if_pos e, if_pos e, if_pos e, if_pos e, if_pos e]; exact ⟨rfl, rfl, rfl⟩
    · rw [if_neg e, if_neg e, if_neg e, if_neg e, if_neg e, if_neg e]; exact h19.2 j j0 (by omega)
/-- a document is there, as this value; copied at once, if it is of the chunk that moves -/
theorem IM.doc {i i' : Nat} {τ σ σ' : xSig} {T : Nat → List Int} {G : Nat → Fo} (h : IM i τ T G σ) (hi : i ≤ i') {n : Nat} (hn : n < 100) {F : Fo} {t : List Int} {c : Int} (ht : t = tk (.add F (.num 0))) (hD : DC t F) (hc : c = if hasd τ n = true then τ 25 4 else τ 25 4 + 1) (h60 : c ≤ 60) (hb : τ 239 3 + c ≤ 2 * i') (fm : FP [(282, -1), (283, -1), (281, 2), (299, -1), (285, -1), (281, 7), (311, -1)] σ σ') (hob : oB σ σ' n) (hnew : MV σ' 282 11300 (100 * n + 1) (.add F (.num 0))) (h83 : ∀ j, σ' 283 j = if j = n then 1 else σ 283 j) (h2 : σ' 281 2 = c) (h99 : ∀ j, σ' 299 j = if j = n then bi (hmv τ && decide (chk τ t = τ 231 11)) else σ 299 j) : IM i' (xu (xu (xu τ 27 n 1) 25 4 c) 235 n (bi (hmv τ && decide (chk τ t = τ 231 11)))) (uT T (31 + 2 * n) t) (uG G (31 + 2 * n) (.add F (.num 0))) σ' := by
  generalize hB : bi (hmv τ && decide (chk τ t = τ 231 11)) = B at *
  have hB01 : B = 0 ∨ B = 1 := by rw [← hB]; exact bi_01 _
  have fc : FP [(27, -1), (25, 4), (235, -1)] τ (xu (xu (xu τ 27 n 1) 25 4 c) 235 n B) := ((FP.rf.putA rfl).put rfl).putA rfl
  have v27 : ∀ j, xu (xu (xu τ 27 n 1) 25 4 c) 235 n B 27 j = if j = n then 1 else τ 27 j := fun j => by simp [xu]
  have v25 : xu (xu (xu τ 27 n 1) 25 4 c) 235 n B 25 4 = c := by simp [xu]
  have v235 : ∀ j, xu (xu (xu τ 27 n 1) 25 4 c) 235 n B 235 j = if j = n then B else τ 235 j := fun j => by simp [xu]
  generalize xu (xu (xu τ 27 n 1) 25 4 c) 235 n B = τ' at *
  have hth : ∀ m : Nat, m < 100 → hasd τ' m = (hasd τ m || decide (m = n)) := fun m hm => by
    unfold hasd
    rw [v27]
    by_cases e : m = n
    · rw [if_pos (by omega), decT e, Bool.or_true, decT (by omega)]
    · rw [if_neg (by omega), decF e, Bool.or_false]
  have h4 := h.1 4
  have hcnd : cnd τ' = c := by
    cases hh : hasd τ n with
    | true =>
      rw [hh, if_pos rfl] at hc
      rw [hc, h4.2.1]
      unfold cnd
      refine smN_congr 100 0 fun j _ hj => ?_
      rw [hth j (by omega)]
      by_cases e : j = n
      · rw [e, hh]; rfl
      · rw [decF e, Bool.or_false]
    | false =>
      rw [hh, if_neg (by decide)] at hc
      rw [hc, h4.2.1]
      exact cnd_set hn hh (fun j hj => by rw [v27, if_neg hj]) (by rw [v27, if_pos rfl])
  have hpd : pa (.add F (.num 0)) ≤ 24 := by rw [(pa_add F).1]; have := hD.2.2; omega
  refine IM.gen (Lc := [(27, -1), (25, 4), (235, -1)]) (Lm := [(282, -1), (283, -1), (281, 2), (299, -1), (285, -1), (281, 7), (311, -1)]) [0, 1, 2, 4, 6, 7, 11] [0, 1, 2, 3, 4, 14] h hi fc fm rfl rfl (Or.inr ⟨⟨by simp, by simp, by simp, by simp⟩, by simp, by simp, by simp⟩) (alc ?_ (alc ?_ (alc ?_ (alc ?_ (alc ?_ (alc ?_ (alc ?_ al0))))))) (alc ?_ (alc ?_ (alc ?_ (alc ?_ (alc ?_ (alc ?_ al0))))))
  · intro k hk
    rw [fc 1 2 rfl] at hk
    have h3 : 0 ≤ τ 1 2 ∧ τ 1 2 ≤ 10 := h.1 3
    rw [uT_ne _ _ (by omega), uG_ne _ _ (by omega)]
    exact h.1 0 k hk
  · intro m hm hh
    by_cases e : m = n
    · subst e
      rw [uT_same, uG_same]
      exact ⟨ht, F, rfl⟩
    · rw [uT_ne _ _ (by omega), uG_ne _ _ (by omega)]
      rw [hth m hm, decF e, Bool.or_false] at hh
      exact h.1 1 m hm hh
  · intro k hk3 hk
    have q := KIc_fp hi 2 (sam_fp fc rfl) (h.1 2) k hk3 hk
    rw [uT_ne _ _ (by omega), uG_ne _ _ (by omega)]
    exact q
  · refine ⟨fun j => ?_, ?_, ?_⟩
    · rw [v27]
      split
      · exact Or.inr rfl
      · exact h4.1 j
    · rw [v25, hcnd]
    · rw [hcnd]; exact h60
  · obtain ⟨hC, q2, q3, q4, q5, q6, q7⟩ := h.1 6
    have e1 : τ' 231 = τ 231 := fc.cell 231 rfl
    have e2 : τ' 232 = τ 232 := fc.cell 232 rfl
    have e3 : τ' 233 = τ 233 := fc.cell 233 rfl
    refine ⟨⟨?_, ?_, ?_, ?_, ?_, ?_, ?_, fun j => ?_⟩, ?_, ?_, ?_, ?_, ?_, ?_⟩
    · rw [e1]; exact hC.1
    · rw [e1]; exact hC.2.1
    · rw [e1]; exact hC.2.2.1
    · rw [e1]; exact hC.2.2.2.1
    · rw [e1]; exact hC.2.2.2.2.1
    · rw [e2]; exact hC.2.2.2.2.2.1
    · rw [e3]; exact hC.2.2.2.2.2.2.1
    · rw [v235]
      split
      · exact hB01
      · exact hC.2.2.2.2.2.2.2 j
    · rw [e2]; exact q2
    · rw [e1, e2]; exact q3
    · rw [e1, e2]; exact q4
    · rw [e1]; exact q5
    · rw [e1]; exact q6
    · rw [e1]; exact q7
  · intro m hm h9
    rw [v235] at h9
    rw [fc 231 11 rfl, chk_congr9 (fc 231 7 rfl) (fc 231 9 rfl) (fc 231 10 rfl) (fc.cell 232 rfl), hth m hm]
    by_cases e : m = n
    · subst e
      rw [if_pos rfl, ← hB] at h9
      rw [uT_same, decT rfl, Bool.or_true]
      have hbt : (hmv τ && decide (chk τ t = τ 231 11)) = true := by
        cases w : (hmv τ && decide (chk τ t = τ 231 11)) with
        | true => rfl
        | false => rw [w] at h9; exact absurd h9 (by decide)
      rw [Bool.and_eq_true] at hbt
      exact ⟨rfl, of_decide_eq_true hbt.1, of_decide_eq_true hbt.2⟩
    · rw [if_neg (by omega)] at h9
      rw [uT_ne _ _ (by omega), decF e, Bool.or_false]
      exact h.1 7 m hm h9
  · show 0 ≤ τ' 239 3 ∧ τ' 239 3 + τ' 25 4 ≤ 2 * i'
    have h11 : 0 ≤ τ 239 3 ∧ τ 239 3 + τ 25 4 ≤ 2 * i := h.1 11
    rw [fc 239 3 rfl, v25]
    exact ⟨h11.1, hb⟩
  · intro m hm hh
    by_cases e : m = n
    · subst e
      rw [uG_same]
      exact ⟨hnew, hpd⟩
    · rw [uG_ne _ _ (by omega)]
      rw [hth m hm, decF e, Bool.or_false] at hh
      exact (h.2 0 m hm hh).ob hob (by omega)
  · intro k hk
    rw [fc 1 2 rfl] at hk
    have h3 : 0 ≤ τ 1 2 ∧ τ 1 2 ≤ 10 := h.1 3
    rw [uG_ne _ _ (by omega)]
    exact (h.2 1 k hk).ob hob (by omega)
  · intro k hk
    rw [fc 256 4 rfl] at hk
    have h9 := (h.1 9).2.2
    rw [uG_ne _ _ (by omega)]
    exact (h.2 2 k hk).ob hob (by omega)
  · intro m hm
    rw [h83, hth m hm]
    by_cases e : m = n
    · rw [if_pos (by omega), decT e, Bool.or_true]; rfl
    · rw [if_neg (by omega), decF e, Bool.or_false]; exact h.2 3 m hm
  · show σ' 281 2 = τ' 25 4
    rw [h2, v25]
  · intro m hm
    rw [h99, v235]
    by_cases e : m = n
    · rw [if_pos (by omega), if_pos (by omega)]
    · rw [if_neg (by omega), if_neg (by omega)]; exact h.2 14 m hm
/-- the model's question whether a document is of the chunk that moves -/
theorem mv_flag {τ : xSig} {t : List Int} (hC : CHR τ) : hmv τ = true → (chk τ t = τ 231 11 ↔ (hmv τ && decide (chk τ t = τ 231 11)) = true) := fun h => by
  rw [h, Bool.true_and, decide_eq_true_eq]
