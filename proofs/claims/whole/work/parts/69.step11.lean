/-! ===== steps: what telling does ===== -/
theorem disK_at {S : List Nat} {L : List (Nat × Int)} (h : disK S L = true) {k : Nat} (hk : k < 15) (hs : k ∉ S) : ovl (cK k) L = false := by
  have q := List.all_eq_true.mp h k (List.mem_range.mpr hk)
  simp only [Bool.or_eq_true, Bool.not_eq_true', List.contains_iff_mem] at q
  exact q.resolve_left hs
theorem disR_at {S : List Nat} {L : List (Nat × Int)} (h : disR S L = true) {k : Nat} (hk : k < 23) (hs : k ∉ S) : ovl (cT k) L = false ∧ ovl (cM k) L = false := by
  have q := List.all_eq_true.mp h k (List.mem_range.mpr hk)
  simp only [Bool.or_eq_true, Bool.and_eq_true, Bool.not_eq_true', List.contains_iff_mem] at q
  exact q.resolve_left hs
theorem tld_f (σ : xSig) (t : List Int) (w n r : Int) : FP [(236, -1), (237, -1), (235, -1), (240, -1), (241, -1), (242, -1), (239, 3)] σ (tld σ t w n r) := by
  unfold tld entd cao
  refine FP.put (FP.putA (FP.putA (FP.putA (FP.putA ?_ rfl) rfl) rfl) rfl) rfl
  exact (FX.fp (uro_o σ r)).mono rfl
theorem tld_236 (σ : xSig) (t : List Int) (w n r : Int) : tld σ t w n r 236 = uro σ r 236 ∧ tld σ t w n r 237 = uro σ r 237 := by
  unfold tld entd cao
  refine ⟨?_, ?_⟩
  · rw [xu_other _ _ _ (by decide), xu_other _ _ _ (by decide), xu_other _ _ _ (by decide), xu_other _ _ _ (by decide), xu_other _ _ _ (by decide)]
  · rw [xu_other _ _ _ (by decide), xu_other _ _ _ (by decide), xu_other _ _ _ (by decide), xu_other _ _ _ (by decide), xu_other _ _ _ (by decide)]
theorem uro_235 (σ : xSig) (r : Int) : uro σ r 235 = σ 235 ∧ uro σ r 231 = σ 231 ∧ uro σ r 239 = σ 239 ∧ uro σ r 240 = σ 240 ∧ uro σ r 241 = σ 241 ∧ uro σ r 242 = σ 242 := by
  have q := uro_o σ r
  exact ⟨q 235 (by decide), q 231 (by decide), q 239 (by decide), q 240 (by decide), q 241 (by decide), q 242 (by decide)⟩
theorem tld_235 (σ : xSig) (t : List Int) (w n r : Int) (j : Int) : tld σ t w n r 235 j = if j = n then bi (hmv σ && decide (chk σ t = σ 231 11)) else σ 235 j := by
  have q := uro_235 σ r
  unfold tld entd
  rw [xu_other _ _ _ (by decide), xu_other _ _ _ (by decide), xu_other _ _ _ (by decide), xu_other _ _ _ (by decide)]
  unfold cao
  have e1 : hmv (uro σ r) = hmv σ := by unfold hmv; rw [q.2.1]
  rw [e1, (uro_shd r t).1, q.2.1]
  by_cases e : j = n
  · rw [e, xu_same, if_pos rfl]
  · rw [xu_ne _ (Or.inr e), if_neg e, q.1]
theorem tld_ent (σ : xSig) (t : List Int) (w n r : Int) : tld σ t w n r 239 3 = σ 239 3 + 1 ∧ (∀ j, tld σ t w n r 240 j = if j = σ 239 3 then w else σ 240 j) ∧ (∀ j, tld σ t w n r 241 j = if j = σ 239 3 then n else σ 241 j) ∧ (∀ j, tld σ t w n r 242 j = if j = σ 239 3 then shd σ t else σ 242 j) := by
  obtain ⟨q1, q2, q3, q4, q5, q6⟩ := uro_235 σ r
  have e3 : cao (uro σ r) n t 239 3 = σ 239 3 := by unfold cao; rw [xu_other _ _ _ (by decide), q3]
  have e0 : ∀ j, cao (uro σ r) n t 240 j = σ 240 j ∧ cao (uro σ r) n t 241 j = σ 241 j ∧ cao (uro σ r) n t 242 j = σ 242 j := fun j => by
    unfold cao
    rw [xu_other _ _ _ (by decide), xu_other _ _ _ (by decide), xu_other _ _ _ (by decide), q4, q5, q6]
    exact ⟨rfl, rfl, rfl⟩
  unfold tld entd
  rw [e3]
  refine ⟨by simp [xu], fun j => ?_, fun j => ?_, fun j => ?_⟩
  · have := (e0 j).1
    simp [xu, this]
  · have := (e0 j).2.1
    simp [xu, this]
  · have := (e0 j).2.2
    simp [xu, this]
/-- both routers are used -/
theorem mur_uro {σ m : xSig} {r : Int} (h17 : m 281 31 = σ 231 8) (h18 : ∀ r : Int, 0 ≤ r → r < 2 → m 301 r = σ 236 r ∧ m 302 r = σ 237 r) (hr : 0 ≤ r ∧ r < 2) : ∀ r2 : Int, 0 ≤ r2 → r2 < 2 → mur m r 301 r2 = uro σ r 236 r2 ∧ mur m r 302 r2 = uro σ r 237 r2 := by
  intro r2 a b
  have e := h18 r hr.1 hr.2
  have e2 := h18 r2 a b
  unfold mur uro
  rw [e.1, h17]
  by_cases q : σ 236 r = σ 231 8
  · rw [if_pos q, if_pos q]; exact e2
  · rw [if_neg q, if_neg q]
    by_cases w : r2 = r
    · subst w
      simp [xu, e.2]
    · simp [xu, w, e2.1, e2.2]
theorem uro_bnd {i : Nat} {σ : xSig} {T : Nat → List Int} {G : Nat → Fo} {r : Int} (h : KIc i σ T G 12) (hr : 0 ≤ r ∧ r < 2) : ∀ r2 : Int, 0 ≤ r2 → r2 < 2 → 0 ≤ uro σ r 236 r2 ∧ uro σ r 236 r2 ≤ i + 1 := by
  intro r2 a b
  have h1 := h.1
  have h2 := h.2 r2 a b
  unfold uro
  split
  · exact h2
  · rw [xu_other _ _ _ (by decide)]
    by_cases w : r2 = r
    · rw [w, xu_same]; exact h1
    · rw [xu_ne _ (Or.inr w)]; exact h2
theorem uro_cg {σ σ' : xSig} {r : Int} (h8 : σ' 231 = σ 231) (h6 : σ' 236 = σ 236) (h7 : σ' 237 = σ 237) : uro σ' r 236 = uro σ r 236 ∧ uro σ' r 237 = uro σ r 237 := by
  unfold uro
  rw [h6, h8]
  split
  · exact ⟨h6, h7⟩
  · refine ⟨?_, ?_⟩
    · funext j
      simp [xu, h6]
    · funext j
      simp [xu, h7]
theorem ment_v (m : xSig) (w n s : Int) : ment m w n s 281 37 = m 281 37 + 1 ∧ (∀ j, ment m w n s 303 j = if j = m 281 37 then w else m 303 j) ∧ (∀ j, ment m w n s 304 j = if j = m 281 37 then n else m 304 j) ∧ (∀ j, ment m w n s 305 j = if j = m 281 37 then s else m 305 j) := by
  unfold ment
  refine ⟨by simp [xu], fun j => by simp [xu], fun j => by simp [xu], fun j => by simp [xu]⟩
theorem cnd_set {σ σ' : xSig} {n : Nat} (hn : n < 100) (h0 : hasd σ n = false) (h : ∀ j : Int, j ≠ n → σ' 27 j = σ 27 j) (h1 : σ' 27 n = 1) : cnd σ' = cnd σ + 1 := by
  unfold cnd
  have e1 : hasd σ' n = true := by unfold hasd; exact decide_eq_true ⟨by omega, by omega, h1⟩
  rw [smN_upd (f := fun n => bi (hasd σ n)) (g := fun n => bi (hasd σ' n)) (k := n) (fun j hj => ?_) 100 0 (by omega) (by omega)]
  · show _ + (bi (hasd σ' n) - bi (hasd σ n)) = _
    rw [e1, h0]
    simp [bi]
  · show bi (hasd σ' j) = bi (hasd σ j)
    unfold hasd
    rw [h j (by omega)]
/-- the map's version, and a router's: in range -/
theorem IM.ver {i : Nat} {τ σ : xSig} {T : Nat → List Int} {G : Nat → Fo} (h : IM i τ T G σ) (hi : i ≤ 512) {r : Int} (hr : 0 ≤ r ∧ r < 2) : xr (τ 231 8) ∧ xr (τ 236 r) ∧ σ 301 r = τ 236 r ∧ σ 281 31 = τ 231 8 := by
  have h1 := (h.1 12).1
  have h2 := (h.1 12).2 r hr.1 hr.2
  have h3 := h.2 18 r hr.1 hr.2
  have h4 : σ 281 31 = τ 231 8 := h.2 17
  exact ⟨by unfold xr; omega, by unfold xr; omega, h3.1, h4⟩
/-- how many entries there are -/
theorem IM.ent {i : Nat} {τ σ : xSig} {T : Nat → List Int} {G : Nat → Fo} (h : IM i τ T G σ) (hi : i < 512) : 0 ≤ τ 239 3 ∧ τ 239 3 + cnd τ ≤ 2 * i ∧ τ 239 3 < 1024 ∧ 0 ≤ cnd τ ∧ cnd τ ≤ 60 ∧ τ 25 4 = cnd τ ∧ σ 281 37 = τ 239 3 := by
  have h11 : 0 ≤ τ 239 3 ∧ τ 239 3 + τ 25 4 ≤ 2 * i := h.1 11
  have h4 := h.1 4
  have hc : 0 ≤ cnd τ := (smN_01 (fun i => bi_01 _) 100 0).1
  have h41 := h4.2.1
  have h42 := h4.2.2
  exact ⟨h11.1, by omega, by omega, hc, h42, h41, (h.2 19).1⟩
theorem outd_27 (σ : xSig) (n : Int) (j : Int) : outd σ n 27 j = if j = n then 0 else σ 27 j := by unfold outd; simp [xu]
theorem tka_f (σ : xSig) (t : List Int) (n : Int) : FP [(27, -1), (25, 4), (235, -1), (240, -1), (241, -1), (242, -1), (239, 3)] σ (tka σ t n) := by
  unfold tka entd outd
  exact FP.put (FP.putA (FP.putA (FP.putA (FP.putA (FP.put (FP.putA FP.rf rfl) rfl) rfl) rfl) rfl) rfl) rfl
theorem tka_v (σ : xSig) (t : List Int) (n : Int) : (∀ j, tka σ t n 27 j = if j = n then 0 else σ 27 j) ∧ tka σ t n 25 4 = σ 25 4 - 1 ∧ (∀ j, tka σ t n 235 j = if j = n then 0 else σ 235 j) ∧ tka σ t n 239 3 = σ 239 3 + 1 ∧ (∀ j, tka σ t n 240 j = if j = σ 239 3 then 2 else σ 240 j) ∧ (∀ j, tka σ t n 241 j = if j = σ 239 3 then n else σ 241 j) ∧ (∀ j, tka σ t n 242 j = if j = σ 239 3 then shd σ t else σ 242 j) := by
  unfold tka entd outd
  refine ⟨fun j => by simp [xu], by simp [xu], fun j => by simp [xu], by simp [xu], fun j => by simp [xu], fun j => by simp [xu], fun j => by simp [xu]⟩
theorem mrm_v (m : xSig) (d s : Int) : (∀ j, mrm m d s 283 j = if j = d then 0 else m 283 j) ∧ mrm m d s 281 2 = m 281 2 - 1 ∧ (∀ j, mrm m d s 299 j = if j = d then 0 else m 299 j) ∧ mrm m d s 281 37 = m 281 37 + 1 ∧ (∀ j, mrm m d s 303 j = if j = m 281 37 then 2 else m 303 j) ∧ (∀ j, mrm m d s 304 j = if j = m 281 37 then d else m 304 j) ∧ (∀ j, mrm m d s 305 j = if j = m 281 37 then s else m 305 j) := by
  unfold mrm ment
  refine ⟨fun j => by simp [xu], by simp [xu], fun j => by simp [xu], by simp [xu], fun j => by simp [xu], fun j => by simp [xu], fun j => by simp [xu]⟩
/-- one document taken away from both: the invariant at the same count of calls -/
theorem IM.tak {i : Nat} {τ σ : xSig} {T : Nat → List Int} {G : Nat → Fo} (h : IM i τ T G σ) {n : Nat} (hn : n < 100) (hh : hasd τ n = true) {s : Int} (hs : s = shd τ (T (31 + 2 * n))) : IM i (tka τ (T (31 + 2 * n)) n) T G (mrm σ n s) := by
  subst hs
  have fc := tka_f τ (T (31 + 2 * n)) n
  have fm := mrm_f σ n (shd τ (T (31 + 2 * n)))
  obtain ⟨v27, v25, v235, v3, v40, v41, v42⟩ := tka_v τ (T (31 + 2 * n)) n
  obtain ⟨m83, m2, m99, m37, m03, m04, m05⟩ := mrm_v σ n (shd τ (T (31 + 2 * n)))
  generalize hτ' : tka τ (T (31 + 2 * n)) n = τ' at *
  generalize hσ' : mrm σ n (shd τ (T (31 + 2 * n))) = σ' at *
  have hsub : ∀ m : Nat, hasd τ' m = true → hasd τ m = true ∧ m ≠ n := fun m hm => by
    have q := hasd_in hm
    rw [v27] at q
    by_cases e : (m : Int) = n
    · rw [if_pos e] at q; omega
    · rw [if_neg e] at q
      exact ⟨decide_eq_true q, fun w => e (by omega)⟩
  have hthere : ∀ m : Nat, m < 100 → hasd τ' m = (hasd τ m && decide (m ≠ n)) := fun m hm => by
    unfold hasd
    rw [v27]
    by_cases e : (m : Int) = n
    · rw [if_pos e, decF (by omega), decF (by omega : ¬ m ≠ n), Bool.and_false]
    · rw [if_neg e, decT (by omega : m ≠ n), Bool.and_true]
  have hcnd : cnd τ' = cnd τ - 1 := cnd_out hh (fun j hj => by rw [v27, if_neg hj]) (by rw [v27, if_pos rfl])
  have h4 := h.1 4
  have h11 : 0 ≤ τ 239 3 ∧ τ 239 3 + τ 25 4 ≤ 2 * i := h.1 11
  have h19 := h.2 19
  constructor
  · intro k
    by_cases hk : k < 15
    · rcases (by omega : k = 1 ∨ k = 4 ∨ k = 7 ∨ k = 6 ∨ k = 11 ∨ (k ≠ 1 ∧ k ≠ 4 ∧ k ≠ 7 ∧ k ≠ 6 ∧ k ≠ 11)) with rfl | rfl | rfl | rfl | rfl | w
      · intro m hm hm2
        exact h.1 1 m hm (hsub m hm2).1
      · refine ⟨fun j => ?_, ?_, ?_⟩
        · rw [v27]
          split
          · exact Or.inl rfl
          · exact h4.1 j
        · rw [v25, hcnd, h4.2.1]
        · rw [hcnd]; have := h4.2.2; omega
      · intro m hm h9
        rw [v235] at h9
        by_cases e : (m : Int) = n
        · rw [if_pos e] at h9; omega
        · rw [if_neg e] at h9
          have q := h.1 7 m hm h9
          have hm9 : hasd τ' m = true := by rw [hthere m hm, q.1, decT (by omega : m ≠ n)]; rfl
          refine ⟨hm9, ?_, ?_⟩
          · rw [fc 231 11 rfl]; exact q.2.1
          · rw [fc 231 11 rfl, chk_congr9 (fc 231 7 rfl) (fc 231 9 rfl) (fc 231 10 rfl) (fc.cell 232 rfl)]; exact q.2.2
      · obtain ⟨hC, q2, q3, q4, q5, q6, q7⟩ := h.1 6
        have e1 : τ' 231 = τ 231 := fc.cell 231 rfl
        have e2 : τ' 232 = τ 232 := fc.cell 232 rfl
        have e3 : τ' 233 = τ 233 := fc.cell 233 rfl
        refine ⟨⟨?_, ?_, ?_, ?_, ?_, ?_, ?_, fun j => ?_⟩, ?_, ?_, ?_, ?_, ?_, ?_⟩
        · rw [e1]; exact hC.1
        · rw [e1]; exact hC.2.1
        · rw [e1]; exact hC.2.2.1
        · rw [e1]; exact hC.2.2.2.1
        · rw [e1]; exact hC.2.2.2.2.1
        · rw [e2]; exact hC.2.2.2.2.2.1
        · rw [e3]; exact hC.2.2.2.2.2.2.1
        · rw [v235]
          split
          · exact Or.inl rfl
          · exact hC.2.2.2.2.2.2.2 j
        · rw [e2]; exact q2
        · rw [e1, e2]; exact q3
        · rw [e1, e2]; exact q4
        · rw [e1]; exact q5
        · rw [e1]; exact q6
        · rw [e1]; exact q7
      · show 0 ≤ τ' 239 3 ∧ τ' 239 3 + τ' 25 4 ≤ 2 * i
        rw [v3, v25]; omega
      · exact KIc_fp (Nat.le_refl i) k (sam_fp fc (disK_at (S := [1, 4, 7, 6, 11]) rfl hk (by simp; omega))) (h.1 k)
    · obtain ⟨m, rfl⟩ : ∃ m, k = m + 15 := ⟨k - 15, by omega⟩
      trivial
  · intro k
    by_cases hk : k < 23
    · rcases (by omega : k = 0 ∨ k = 3 ∨ k = 4 ∨ k = 14 ∨ k = 19 ∨ (k ≠ 0 ∧ k ≠ 3 ∧ k ≠ 4 ∧ k ≠ 14 ∧ k ≠ 19)) with rfl | rfl | rfl | rfl | rfl | w
      · intro m hm hm2
        exact (h.2 0 m hm (hsub m hm2).1).of (fm.cell 282 rfl)
      · intro m hm
        rw [m83, hthere m hm]
        have q : σ 283 m = bi (hasd τ m) := h.2 3 m hm
        by_cases e : (m : Int) = n
        · rw [if_pos e, decF (by omega : ¬ m ≠ n), Bool.and_false]; rfl
        · rw [if_neg e, decT (by omega : m ≠ n), Bool.and_true]; exact q
      · show σ' 281 2 = τ' 25 4
        have q : σ 281 2 = τ 25 4 := h.2 4
        rw [m2, v25, q]
      · intro m hm
        have q : σ 299 m = τ 235 m := h.2 14 m hm
        rw [m99, v235, q]
      · refine ⟨by rw [m37, v3, h19.1], fun j j0 j1 => ?_⟩
        rw [v3] at j1
        rw [m03, m04, m05, v40, v41, v42, h19.1]
        by_cases e : j = τ 239 3
        · rw [if_pos e, if_pos e, if_pos e, if_pos e, if_pos e, if_pos e]; exact ⟨rfl, rfl, rfl⟩
        · rw [if_neg e, if_neg e, if_neg e, if_neg e, if_neg e, if_neg e]; exact h19.2 j j0 (by omega)
      · exact RMc_fp k (sam_fp fc (disR_at (S := [0, 3, 4, 14, 19]) rfl hk (by simp; omega)).1) (sam_fp fm (disR_at (S := [0, 3, 4, 14, 19]) rfl hk (by simp; omega)).2) (h.2 k)
    · obtain ⟨m, rfl⟩ : ∃ m, k = m + 23 := ⟨k - 23, by omega⟩
      trivial
