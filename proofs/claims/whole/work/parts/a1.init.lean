/-! ===== the invariant at the start ===== -/
def s00 : xSig := mI (shI (fun _ _ => 0))
theorem s00_o {b : Nat} (h : b ∉ [0, 231, 232, 233, 234, 236, 249, 256, 281, 295, 297, 298, 300, 301]) (j : Int) : s00 b j = 0 := by
  simp only [List.mem_cons, List.not_mem_nil, or_false, not_or] at h
  obtain ⟨h0, h1, h2, h3, h4, h5, h6, h7, h8, h9, h10, h11, h12, h13⟩ := h
  simp [s00, mI, mI0, mbg, shI, quI, ixI, chI, bgc, xu, h0, h1, h2, h3, h4, h5, h6, h7, h8, h9, h10, h11, h12, h13]
theorem s00_0 (j : Int) : s00 0 j = if j = 8 then -1 else 0 := by simp [s00, mI, mI0, mbg, shI, quI, ixI, chI, bgc, xu]
theorem s00_231 (j : Int) : s00 231 j = if j = 7 then 3 else if j = 12 then -1 else if j = 11 then -1 else if j = 8 then 1 else 0 := by simp [s00, mI, mI0, mbg, shI, quI, ixI, chI, bgc, xu]
theorem s00_232 (j : Int) : s00 232 j = if j = 2 then 667 else if j = 1 then 334 else 0 := by simp [s00, mI, mI0, mbg, shI, quI, ixI, chI, bgc, xu]
theorem s00_233 (j : Int) : s00 233 j = if j = 2 then 2 else if j = 1 then 1 else 0 := by simp [s00, mI, mI0, mbg, shI, quI, ixI, chI, bgc, xu]
theorem s00_234 (j : Int) : s00 234 j = 0 := by simp [s00, mI, mI0, mbg, shI, quI, ixI, chI, bgc, xu]
theorem s00_236 (j : Int) : s00 236 j = if j = 1 then 1 else if j = 0 then 1 else 0 := by simp [s00, mI, mI0, mbg, shI, quI, ixI, chI, bgc, xu]
theorem s00_249 (j : Int) : s00 249 j = if j = 2 then -1 else if j = 1 then -1 else if j = 0 then -1 else 0 := by simp [s00, mI, mI0, mbg, shI, quI, ixI, chI, bgc, xu]
theorem s00_256 (j : Int) : s00 256 j = if j = 6 then -1 else 0 := by simp [s00, mI, mI0, mbg, shI, quI, ixI, chI, bgc, xu]
theorem s00_281 (j : Int) : s00 281 j = if j = 24 then 3 else if j = 38 then -1 else if j = 31 then 1 else if j = 25 then -1 else 0 := by simp [s00, mI, mI0, mbg, shI, quI, ixI, chI, bgc, xu]
theorem s00_295 (j : Int) : s00 295 j = if j = 0 then -1 else 0 := by
  simp [s00, mI, mI0, mbg, shI, quI, ixI, chI, bgc, xu]
  omega
theorem s00_297 (j : Int) : s00 297 j = if j = 2 then 667 else if j = 1 then 334 else 0 := by simp [s00, mI, mI0, mbg, shI, quI, ixI, chI, bgc, xu]
theorem s00_298 (j : Int) : s00 298 j = if j = 2 then 2 else if j = 1 then 1 else 0 := by simp [s00, mI, mI0, mbg, shI, quI, ixI, chI, bgc, xu]
theorem s00_300 (j : Int) : s00 300 j = 0 := by simp [s00, mI, mI0, mbg, shI, quI, ixI, chI, bgc, xu]
theorem s00_301 (j : Int) : s00 301 j = if j = 1 then 1 else if j = 0 then 1 else 0 := by simp [s00, mI, mI0, mbg, shI, quI, ixI, chI, bgc, xu]
theorem vA_not : ∀ b ∈ [0, 231, 232, 233, 234, 236, 249, 256, 281, 295, 297, 298, 300, 301], vA b = false := by decide +kernel
theorem vCap_200 : ∀ a, a < 314 → vO a = true → vCap a ≤ 200 := by decide +kernel
theorem s00_v {b : Nat} (h : vA b = true) (j : Int) : s00 b j = 0 := s00_o (fun q => by rw [vA_not b q] at h; cases h) j
theorem s00_VAll : VAll s00 (fun _ => []) := fun a ha => by
  have hv := vA_of ha
  refine ⟨vO_val ha, s00_v hv.1 1, by simp, vCap_200 a (vO_lt ha) ha, fun i hi => by simp at hi, fun i => ?_⟩
  rw [s00_v hv.2]
  omega
theorem s00_hasd (n : Int) : hasd s00 n = false := by
  unfold hasd
  rw [s00_o (by decide)]
  simp
theorem s00_cnd : cnd s00 = 0 := by
  unfold cnd
  have : ∀ m i : Nat, smN (fun n : Nat => bi (hasd s00 n)) i m = 0 := by
    intro m
    induction m with
    | zero => intro i; rfl
    | succ m ih =>
      intro i
      simp only [smN]
      rw [ih, s00_hasd]
      rfl
  exact this 100 0
theorem s00_ihas {k : Int} (h0 : 0 ≤ k) (h3 : k < 3) : ihas s00 k = false := by
  unfold ihas
  refine decF (fun q => q.2.2 ?_)
  rw [s00_249]
  split
  · rfl
  · split
    · rfl
    · split
      · rfl
      · omega
theorem s00_plC : plC s00 = [] := by
  unfold plC
  rw [s00_o (by decide)]
  rfl
theorem s00_plM : plM s00 = [] := by
  unfold plM
  rw [s00_281]
  rfl
theorem s00_KI : KI 0 s00 (fun _ => []) (fun _ => .num 0)
  | 0 => fun k hk => by
    rw [s00_o (by decide)] at hk
    omega
  | 1 => fun n _ hh => by rw [s00_hasd] at hh; cases hh
  | 2 => fun k _ hk => by
    rw [s00_256] at hk
    simp at hk
    omega
  | 3 => by
    show 0 ≤ s00 1 2 ∧ s00 1 2 ≤ 10
    rw [s00_o (by decide)]
    omega
  | 4 => ⟨fun j => Or.inl (s00_o (by decide) j), by rw [s00_o (by decide), s00_cnd], by rw [s00_cnd]; omega⟩
  | 5 => fun f => by
    rw [s00_o (by decide)]
    omega
  | 6 => by
    refine ⟨?_, ?_, fun k k0 k1 => ?_, fun k k0 k1 => ?_, ?_, ?_, ?_⟩
    · unfold CHR
      refine ⟨?_, ?_, ?_, ?_, ?_, ?_, ?_, ?_⟩
      · rw [s00_231]; decide
      · rw [s00_231]; decide
      · rw [s00_231]; decide
      · rw [s00_231]; decide
      · rw [s00_231]; decide
      · intro j
        rw [s00_232]
        split
        · omega
        · split <;> omega
      · intro j
        rw [s00_233]
        split
        · omega
        · split <;> omega
      · intro j
        exact Or.inl (s00_o (by decide) j)
    · rw [s00_232]; rfl
    · rw [s00_231] at k1
      rw [s00_232, s00_232]
      simp at k1
      rcases (by omega : k = 0 ∨ k = 1) with rfl | rfl <;> decide
    · rw [s00_232]
      split
      · omega
      · split <;> omega
    · rw [s00_231, s00_231]; decide
    · intro _; rw [s00_231]; rfl
    · intro q
      rw [s00_231] at q
      exact absurd rfl q
  | 7 => fun n _ hc => by
    rw [s00_o (by decide)] at hc
    cases hc
  | 8 => by
    refine ⟨⟨fun j => ?_, fun j => Or.inl (s00_o (by decide) j), ?_, fun j => ?_, fun j => ?_, fun j => ?_⟩, ?_, ?_, ?_⟩
    · rw [s00_249]
      split
      · omega
      · split
        · omega
        · split <;> omega
    · rw [s00_o (by decide)]; omega
    · rw [s00_o (by decide)]; omega
    · rw [s00_o (by decide)]; omega
    · rw [s00_o (by decide)]; omega
    · rw [s00_o (by decide)]; omega
    · rw [s00_plC]
      intro q hq
      simp at hq
    · rw [s00_plC]
      exact List.nodup_nil
  | 9 => by
    refine ⟨⟨?_, ?_, ?_⟩, ?_, ?_⟩
    · show -1 ≤ s00 256 6 ∧ s00 256 6 < 3
      rw [s00_256]; decide
    · show 0 ≤ s00 256 7 ∧ s00 256 7 ≤ 100
      rw [s00_256]; decide
    · exact ⟨Int.le_refl 0, Int.le_refl 0⟩
    · exact Or.inl (by rw [s00_256]; rfl)
    · rw [s00_256]; decide
  | 10 => by
    refine ⟨by rw [s00_256]; decide, fun k hk => ?_⟩
    rw [s00_256] at hk
    simp at hk
    omega
  | 11 => by
    show 0 ≤ s00 239 3 ∧ s00 239 3 + s00 25 4 ≤ 2 * ((0 : Nat) : Int)
    rw [s00_o (by decide), s00_o (by decide)]
    decide
  | 12 => by
    refine ⟨by rw [s00_231]; decide, fun r r0 r2 => ?_⟩
    rw [s00_236]
    split
    · decide
    · split <;> decide
  | 13 => by
    refine ⟨by rw [s00_0]; decide, by rw [s00_0]; decide⟩
  | 14 => by
    refine ⟨by rw [s00_o (by decide)]; decide, fun k k0 hk => ?_⟩
    rw [s00_o (by decide)] at hk
    omega
  | _ + 15 => trivial
theorem s00_RM : RM s00 (fun _ => .num 0) s00
  | 0 => fun n _ hh => by rw [s00_hasd] at hh; cases hh
  | 1 => fun k hk => by
    rw [s00_o (by decide)] at hk
    omega
  | 2 => fun k hk => by
    rw [s00_256] at hk
    simp at hk
    omega
  | 3 => fun n _ => by rw [s00_o (by decide), s00_hasd]; rfl
  | 4 => by
    show s00 281 2 = s00 25 4
    rw [s00_281, s00_o (by decide)]; rfl
  | 5 => by
    show s00 281 3 = s00 1 2
    rw [s00_281, s00_o (by decide)]; rfl
  | 6 => fun f _ _ => by rw [s00_o (by decide), s00_o (by decide)]
  | 7 => fun k k0 k3 => by
    rw [s00_ihas k0 k3, s00_o (by decide)]
    exact ⟨rfl, fun q => by cases q⟩
  | 8 => by
    refine ⟨by rw [s00_281, s00_256]; rfl, fun k _ hk => ?_⟩
    rw [s00_256] at hk
    simp at hk
    omega
  | 9 => by
    refine ⟨by rw [s00_281, s00_o (by decide)]; rfl, ?_⟩
    rw [s00_plC, s00_plM]
    exact List.Perm.nil
  | 10 => by
    show s00 295 0 = s00 256 6 ∧ s00 295 1 = s00 256 7 ∧ s00 295 2 = s00 256 8 ∧ s00 295 3 = s00 256 9
    rw [s00_295, s00_295, s00_295, s00_295, s00_256, s00_256, s00_256, s00_256]
    decide
  | 11 => by
    refine ⟨by rw [s00_281, s00_256]; rfl, fun k hk => ?_⟩
    rw [s00_256] at hk
    simp at hk
    omega
  | 12 => by
    refine ⟨by rw [s00_281, s00_231]; rfl, fun k _ _ => ?_⟩
    rw [s00_297, s00_232, s00_298, s00_233]
    exact ⟨rfl, rfl⟩
  | 13 => by
    refine ⟨fun _ => by rw [s00_281]; rfl, fun q => ?_⟩
    rw [s00_231] at q
    exact absurd rfl q
  | 14 => fun n _ => by rw [s00_o (by decide), s00_o (by decide)]
  | 15 => fun s _ _ => by rw [s00_300, s00_234]
  | 16 => by
    show s00 281 29 = s00 231 9 ∧ s00 281 30 = s00 231 10
    rw [s00_281, s00_231, s00_281, s00_231]
    decide
  | 17 => by
    show s00 281 31 = s00 231 8
    rw [s00_281, s00_231]; rfl
  | 18 => fun r _ _ => by
    rw [s00_301, s00_236, s00_o (by decide), s00_o (by decide)]
    exact ⟨rfl, rfl⟩
  | 19 => by
    refine ⟨by rw [s00_281, s00_o (by decide)]; rfl, fun k k0 hk => ?_⟩
    rw [s00_o (by decide)] at hk
    omega
  | 20 => by
    show s00 281 38 = s00 0 8
    rw [s00_281, s00_0]; rfl
  | 21 => by
    show s00 281 39 = s00 0 9
    rw [s00_281, s00_0]; rfl
  | 22 => by
    refine ⟨by rw [s00_281, s00_o (by decide)]; rfl, fun k k0 hk => ?_⟩
    rw [s00_o (by decide)] at hk
    omega
  | _ + 23 => trivial
theorem s00_INV : INV 0 s00 := ⟨fun _ => [], fun _ => .num 0, s00_VAll, s00_KI, s00_RM⟩
theorem INV.put313 {i : Nat} {σ : xSig} (h : INV i σ) (j v : Int) : INV i (xu σ 313 j v) := by
  obtain ⟨T, G, hA, hM⟩ := h
  refine INV.fin (G := G) (hA.xu j v (by decide +kernel)) ?_ (fun b _ => rfl)
  exact (hM.cls (FP.rf.putA rfl : FP [(313, -1)] σ (xu σ 313 j v)) (by decide +kernel) (by decide +kernel)).fp (FP.rf.putA rfl : FP [(313, -1)] σ (xu σ 313 j v)) (by decide +kernel)
