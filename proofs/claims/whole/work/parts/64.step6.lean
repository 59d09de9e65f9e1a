/-! ===== steps: split ===== -/
theorem lstLe_spec {f : Int → Int} {k : Int} : ∀ (n i : Nat) (c : Int), (lstLe f k i n c = c ∧ (∀ j : Int, i ≤ j → j < i + n → k < f j)) ∨ ((i : Int) ≤ lstLe f k i n c ∧ lstLe f k i n c < i + n ∧ f (lstLe f k i n c) ≤ k ∧ (∀ j : Int, lstLe f k i n c < j → j < i + n → k < f j)) := by
  intro n
  induction n with
  | zero => intro i c; exact Or.inl ⟨rfl, fun j a b => by omega⟩
  | succ n ih =>
    intro i c
    rw [lstLe]
    rcases ih (i + 1) (if f i ≤ k then (i : Int) else c) with ⟨h1, h2⟩ | ⟨h1, h2, h3, h4⟩
    · rw [h1]
      by_cases q : f i ≤ k
      · rw [if_pos q]
        exact Or.inr ⟨by omega, by omega, q, fun j a b => h2 j (by omega) (by omega)⟩
      · rw [if_neg q]
        refine Or.inl ⟨rfl, fun j a b => ?_⟩
        by_cases e : j = i
        · rw [e]; omega
        · exact h2 j (by omega) (by omega)
    · exact Or.inr ⟨by omega, by omega, h3, fun j a b => h4 j a (by omega)⟩
/-- the chunk of a key: its first key isn't above it, those of the later ones are -/
theorem chk_spec {τ : xSig} {t : List Int} (hC : CHR τ) (h0 : τ 232 0 = 0) : τ 232 (chk τ t) ≤ kyo τ t ∧ ∀ j : Int, chk τ t < j → j < τ 231 7 → kyo τ t < τ 232 j := by
  have h7 := hC.1
  have cf : ∀ j : Int, 0 ≤ j → j < τ 231 7 → cfst τ j = τ 232 j := fun j a b => by
    unfold cfst chas
    rw [decide_eq_true ⟨a, b⟩, if_pos rfl]
  have hky := kyo_bnd τ t
  have hb := chk_bnd hC t
  have hs := lstLe_spec (f := cfst τ) (k := kyo τ t) (τ 231 7 - 1).toNat 1 0
  rw [show lstLe (cfst τ) (kyo τ t) 1 (τ 231 7 - 1).toNat 0 = chk τ t from rfl] at hs
  rcases hs with ⟨h1, h2⟩ | ⟨h1, h2, h3, h4⟩
  · refine ⟨by rw [h1, h0]; exact hky.1, fun j a b => ?_⟩
    rw [← cf j (by omega) b]
    exact h2 j (by omega) (by omega)
  · refine ⟨by rw [← cf _ (by omega) (by omega)]; exact h3, fun j a b => ?_⟩
    rw [← cf j (by omega) b]
    exact h4 j a (by omega)
theorem cutd_f (σ : xSig) (c z : Int) : FP [(232, -1), (233, -1), (231, 7), (231, 8), (231, 11)] σ (cutd σ c z) := fun b j q => by
  unfold cutd
  have n2 : b ≠ 232 := fun e => by subst e; simp [inP] at q
  have n3 : b ≠ 233 := fun e => by subst e; simp [inP] at q
  rw [if_neg n2, if_neg n3]
  by_cases e : b = 231
  · subst e
    have n7 : j ≠ 7 := fun e => by subst e; simp [inP] at q
    have n8 : j ≠ 8 := fun e => by subst e; simp [inP] at q
    have n11 : j ≠ 11 := fun e => by subst e; simp [inP] at q
    rw [if_pos rfl, if_neg n7, if_neg n8, if_neg (fun w => n11 w.1)]
  · rw [if_neg e]
theorem cutd_2 (σ : xSig) (c z j : Int) : cutd σ c z 232 j = (if j = c + 1 then z else if c + 1 < j ∧ j ≤ σ 231 7 then σ 232 (j - 1) else σ 232 j) := rfl
theorem cutd_3 (σ : xSig) (c z j : Int) : cutd σ c z 233 j = (if j = c + 1 then σ 233 c else if c + 1 < j ∧ j ≤ σ 231 7 then σ 233 (j - 1) else σ 233 j) := rfl
theorem cutd_7 (σ : xSig) (c z : Int) : cutd σ c z 231 7 = σ 231 7 + 1 ∧ cutd σ c z 231 8 = σ 231 8 + 1 ∧ cutd σ c z 231 11 = if c < σ 231 11 then σ 231 11 + 1 else σ 231 11 := by
  refine ⟨rfl, rfl, ?_⟩
  simp [cutd]
/-- a chunk cut: the class's rows of chunks and copies -/
theorem cut_K {i : Nat} {σ σ' : xSig} {T : Nat → List Int} {G : Nat → Fo} {c z : Int} (h6 : KIc i σ T G 6) (h7 : KIc i σ T G 7) (hc : 0 ≤ c ∧ c < σ 231 7) (hz2 : σ 232 c < z ∧ (c + 1 < σ 231 7 → z < σ 232 (c + 1)) ∧ z < 1000) (hm : c ≠ σ 231 11) (h12 : σ 231 7 < 12) (hs : ∀ b : Nat, b < 281 → σ' b = cutd σ c z b) : KIc (i + 1) σ' T G 6 ∧ KIc (i + 1) σ' T G 7 := by
  obtain ⟨hC, q2, q3, q4, q5, q6, q7⟩ := h6
  have hC0 := hC
  obtain ⟨c1, c2, c3, c4, c5, c6, c7, c8⟩ := hC
  have f := cutd_f σ c z
  obtain ⟨d7, d8, d11⟩ := cutd_7 σ c z
  have e2 : ∀ j : Int, σ' 232 j = (if j = c + 1 then z else if c + 1 < j ∧ j ≤ σ 231 7 then σ 232 (j - 1) else σ 232 j) := fun j => by rw [hs 232 (by omega)]; rfl
  have e3 : ∀ j : Int, σ' 233 j = (if j = c + 1 then σ 233 c else if c + 1 < j ∧ j ≤ σ 231 7 then σ 233 (j - 1) else σ 233 j) := fun j => by rw [hs 233 (by omega)]; rfl
  have e7 : σ' 231 7 = σ 231 7 + 1 := by rw [hs 231 (by omega)]; exact d7
  have e11 : σ' 231 11 = if c < σ 231 11 then σ 231 11 + 1 else σ 231 11 := by rw [hs 231 (by omega)]; exact d11
  have e9 : σ' 231 9 = σ 231 9 := by rw [hs 231 (by omega)]; exact f 231 9 rfl
  have e10 : σ' 231 10 = σ 231 10 := by rw [hs 231 (by omega)]; exact f 231 10 rfl
  have e12 : σ' 231 12 = σ 231 12 := by rw [hs 231 (by omega)]; exact f 231 12 rfl
  have e5 : σ' 235 = σ 235 := by rw [hs 235 (by omega)]; exact f.cell 235 rfl
  have e27 : σ' 27 = σ 27 := by rw [hs 27 (by omega)]; exact f.cell 27 rfl
  have hCn : CHR σ' := by
    refine ⟨?_, ?_, ?_, ?_, ?_, ?_, ?_, ?_⟩
    · rw [e7]; omega
    · rw [e9]; exact c2
    · rw [e10]; exact c3
    · rw [e11]; split <;> omega
    · rw [e12]; exact c5
    · intro j
      rw [e2]
      have := c6 c
      split
      · omega
      · split
        · exact c6 _
        · exact c6 _
    · intro j
      rw [e3]
      split
      · exact c7 _
      · split
        · exact c7 _
        · exact c7 _
    · intro j; rw [e5]; exact c8 j
  have e0 : σ' 232 0 = 0 := by rw [e2, if_neg (by omega), if_neg (by omega)]; exact q2
  refine ⟨⟨hCn, e0, fun k k0 k1 => ?_, fun k k0 k1 => ?_, ?_, ?_, ?_⟩, fun n hn h9 => ?_⟩
  · rw [e7] at k1
    rw [e2, e2]
    rcases (by omega : k + 1 ≤ c ∨ k = c ∨ k = c + 1 ∨ c + 1 < k) with w | w | w | w
    · rw [if_neg (by omega), if_neg (by omega), if_neg (by omega), if_neg (by omega)]
      exact q3 k k0 (by omega)
    · rw [if_neg (by omega), if_neg (by omega), if_pos (by omega), w]
      exact hz2.1
    · rw [if_pos w, if_neg (by omega), if_pos (by omega), show k + 1 - 1 = c + 1 by omega]
      exact hz2.2.1 (by omega)
    · rw [if_neg (by omega), if_pos (by omega), if_neg (by omega), if_pos (by omega)]
      have := q3 (k - 1) (by omega) (by omega)
      rw [show k - 1 + 1 = k + 1 - 1 by omega] at this
      exact this
  · rw [e7] at k1
    rw [e2]
    split
    · exact hz2.2.2
    · split
      · exact q4 _ (by omega) (by omega)
      · exact q4 _ (by omega) (by omega)
  · rw [e11, e7]; split <;> omega
  · rw [e11, e12]; intro q; exact q6 (by split at q <;> omega)
  · rw [e11, e12]; intro q; exact q7 (by split at q <;> omega)
  · rw [e5] at h9
    obtain ⟨a1, a2, a3⟩ := h7 n hn h9
    have sp := chk_spec hC0 q2 (t := T (31 + 2 * n))
    have cb := chk_bnd hC0 (T (31 + 2 * n))
    rw [a3] at sp cb
    have eky : kyo σ' (T (31 + 2 * n)) = kyo σ (T (31 + 2 * n)) := kyo_congr9 e9 e10 _
    refine ⟨by rw [hasd_congr e27]; exact a1, by rw [e11]; split <;> omega, ?_⟩
    rw [e11]
    by_cases w : c < σ 231 11
    · rw [if_pos w]
      refine chk_eq hCn (by rw [e7]; omega) (Or.inr ?_) (fun j j0 j1 => ?_)
      · rw [e2, if_neg (by omega), if_pos (by omega), eky, show σ 231 11 + 1 - 1 = σ 231 11 by omega]
        exact sp.1
      · rw [e7] at j1
        rw [e2, if_neg (by omega), if_pos (by omega), eky]
        exact sp.2 (j - 1) (by omega) (by omega)
    · rw [if_neg w]
      refine chk_eq hCn (by rw [e7]; omega) (Or.inr ?_) (fun j j0 j1 => ?_)
      · rw [e2, if_neg (by omega), if_neg (by omega), eky]
        exact sp.1
      · rw [e7] at j1
        rw [e2, eky]
        have spc := sp.2 c (by omega) (by omega)
        split
        · omega
        · split
          · exact sp.2 (j - 1) (by omega) (by omega)
          · exact sp.2 j j0 (by omega)
def mshf (σ : xSig) (n i : Int) : xSig := fun b j => if (b = 297 ∨ b = 298) ∧ i < j ∧ j ≤ n then σ b (j - 1) else σ b j
theorem mshf_step (σ : xSig) {n i : Int} (hi : i ≤ n) : xu (xu (mshf σ n i) 297 i (σ 297 (i - 1))) 298 i (σ 298 (i - 1)) = mshf σ n (i - 1) := by
  funext b j
  unfold xu mshf
  by_cases h3 : b = 298 ∧ j = i
  · rw [if_pos h3, if_pos ⟨Or.inr h3.1, by omega, by omega⟩, h3.1, h3.2]
  · rw [if_neg h3]
    by_cases h2 : b = 297 ∧ j = i
    · rw [if_pos h2, if_pos ⟨Or.inl h2.1, by omega, by omega⟩, h2.1, h2.2]
    · rw [if_neg h2]
      by_cases h : (b = 297 ∨ b = 298) ∧ i < j ∧ j ≤ n
      · rw [if_pos h, if_pos ⟨h.1, by omega, by omega⟩]
      · rw [if_neg h, if_neg (fun q => by
          refine h ⟨q.1, ?_, q.2.2⟩
          rcases q.1 with w | w
          · have : j ≠ i := fun e => h2 ⟨w, e⟩
            omega
          · have : j ≠ i := fun e => h3 ⟨w, e⟩
            omega)]
theorem mshf_f (σ : xSig) (n i : Int) : FP [(297, -1), (298, -1)] σ (mshf σ n i) := fun b j q => by
  have := wc_no (L := [297, 298]) q
  simp only [List.mem_cons, List.not_mem_nil, or_false, not_or] at this
  unfold mshf
  rw [if_neg (fun w => by omega)]
def spl9 (σ : xSig) (c z : Int) : xSig := xu (xu (xu (xu (mshf (xu (cutd σ c z) 281 47 0) (σ 231 7) (c + 1)) 297 (c + 1) z) 298 (c + 1) (σ 298 c)) 281 24 (σ 231 7 + 1)) 281 31 (σ 281 31 + 1)
theorem st_split {i : Nat} {σ : xSig} (h : INV i σ) {c z : Int} (hc0 : xr c) (hz0 : xr z) : STEP i MX11_split MX12_split iv [nIOB, nIAE, nISE] [.int (ii c), .int (ii z)] σ := by
  have hM := h
  obtain ⟨T, G, hA, hM⟩ := hM
  have h6 := hM.1 6
  obtain ⟨hC, hz, hinc, hlt, hmv9, ht1, ht2⟩ := hM.1 6
  obtain ⟨y, y1, y2, y3, y4⟩ := mfrom hC hinc hmv9 (hM.2 13)
  have h7 := hC.1
  have hrow := hM.chm.2.1
  have hcb := cfst_bnd hC (c + 1)
  -- the walk up to the question, at any numbers that say the same of chunks
  have pre : ∀ (σ0 : xSig) (b : Bool), σ0 281 24 = σ 231 7 → (∀ j : Int, 0 ≤ j → j < σ 231 7 → σ0 297 j = σ 232 j) → b = (chas σ c && decide (σ 232 c + 1 ≤ z ∧ z ≤ cfst σ (c + 1) - 1)) → ∀ {o : xO} {Y : xS}, x_E MX12_split 0 0 70 [some (.ref 281), some (.int (ii c)), some (.int (ii z)), some (.int (ii (bi (chas σ c)))), none, some (.int (ii (bi b))), none] [.int (ii (bi b)), .int (ii (bi (chas σ c))), .ref 281] (St σ0) 0 0 o Y → x_Sp MX12_split 0 0 [.ref 281, .int (ii c), .int (ii z)] (St σ0) o Y := by
    intro σ0 b g24 g97 hb o Y kk
    have p1 := sp_mIsChunk (σ := σ0) g24 hC.1 hc0
    cases hh : chas σ c with
    | false =>
      rw [hh] at p1 hb kk
      rw [Bool.false_and] at hb
      subst hb
      refine e_entry okX12_split (Nat.le_of_ble_eq_true rfl) (ls := [some _, some _, some _, none, none, none, none]) rfl ?_
      refine e_aload_n 0 1 rfl rfl rfl rfl ?_
      refine e_iload_n 1 2 rfl rfl rfl rfl ?_
      refine g_callV 2 5 (p1) okX12_isChunk cvX12_325 ⟨(Nat.le_of_ble_eq_true rfl), (Nat.le_of_ble_eq_true rfl)⟩ rfl rfl (Nat.le_of_ble_eq_true rfl) rfl rfl rfl rfl rfl (Nat.le_of_ble_eq_true rfl) (Nat.le_of_ble_eq_true rfl) (Nat.le_of_ble_eq_true rfl) ?_
      refine e_istore_n 3 6 (ls' := [some _, some _, some _, some _, none, none, none]) rfl rfl rfl (Nat.le_of_ble_eq_true rfl) rfl ?_
      refine e_iload_n 4 7 rfl rfl rfl rfl ?_
      refine e_ifb_eq 5 31 10 rfl rfl rfl (fun hq => ?_) (fun hq => ?_)
      · skip
        refine e_sipush 19 34 rfl rfl rfl ?_
        refine e_istore 20 36 (ls' := [some _, some _, some _, some _, some _, none, none]) rfl rfl (Nat.le_of_ble_eq_true rfl) rfl ?_
        refine e_iload_n 21 37 rfl rfl rfl rfl ?_
        refine e_ifb_eq 22 63 40 rfl rfl rfl (fun hq => ?_) (fun hq => ?_)
        · skip
          refine e_iconst 37 64 rfl rfl ?_
          refine e_istore 38 66 (ls' := [some _, some _, some _, some _, some _, some _, none]) rfl rfl (Nat.le_of_ble_eq_true rfl) rfl ?_
          refine e_aload_n 39 67 rfl rfl rfl rfl ?_
          refine e_iload_n 40 68 rfl rfl rfl rfl ?_
          refine e_iload 41 70 rfl rfl rfl ?_
          refine e_dropm [true, true, true, true, false, true, false] (ls' := [some _, some _, some _, some _, none, some _, none]) rfl ?_
          exact kk
        · skip
          cases hq
      · skip
        cases hq
    | true =>
      have hci : 0 ≤ c ∧ c < σ 231 7 := of_decide_eq_true hh
      rw [hh] at p1 hb kk
      rw [Bool.true_and] at hb
      have e97 := g97 c hci.1 hci.2
      have hcc := hC.2.2.2.2.2.1 c
      have p2 := sp_mIn (σ := σ0) (x := z) (y := σ 232 c + 1) (z := cfst σ (c + 1) - 1) hz0 (by unfold xr; omega) (by unfold xr; omega)
      rw [← hb] at p2
      have fin : ∀ ov : Int, ov = cfst σ (c + 1) → x_E MX12_split 0 0 34 [some (.ref 281), some (.int (ii c)), some (.int (ii z)), some (.int (ii (bi true))), none, none, none] [.int (ii ov)] (St σ0) 0 0 o Y := by
        intro ov hov
        subst hov
        refine e_istore 20 36 (ls' := [some _, some _, some _, some _, some _, none, none]) rfl rfl (Nat.le_of_ble_eq_true rfl) rfl ?_
        refine e_iload_n 21 37 rfl rfl rfl rfl ?_
        refine e_ifb_eq 22 63 40 rfl rfl rfl (fun hq => ?_) (fun hq => ?_)
        · skip
          cases hq
        · skip
          refine e_iload_n 23 41 rfl rfl rfl rfl ?_
          refine e_aload_n 24 42 rfl rfl rfl rfl ?_
          refine g_getR 25 45 ckX12 flX12_57 rfl rfl (Nat.le_of_ble_eq_true rfl) rfl rfl ?_
          refine e_iload_n 26 46 rfl rfl rfl rfl ?_
          refine g_iaload 27 47 rfl rfl (Nat.le_of_ble_eq_true rfl) rfl (by omega) (by omega) (by omega) e97 ?_
          refine e_iconst 28 48 rfl rfl ?_
          refine e_iadd 29 49 rfl rfl ?_
          refine e_iload 30 51 rfl rfl rfl ?_
          refine e_iconst 31 52 rfl rfl ?_
          refine e_isub 32 53 rfl rfl ?_
          refine g_callS 33 56 (p2) okX12_in csX12_175 ⟨(Nat.le_of_ble_eq_true rfl), (Nat.le_of_ble_eq_true rfl)⟩ rfl rfl rfl rfl (Nat.le_of_ble_eq_true rfl) (Nat.le_of_ble_eq_true rfl) (Nat.le_of_ble_eq_true rfl) ?_
          refine e_ifb_eq 34 63 59 rfl rfl rfl (fun hq => ?_) (fun hq => ?_)
          · skip
            subst hq
            refine e_iconst 37 64 rfl rfl ?_
            refine e_istore 38 66 (ls' := [some _, some _, some _, some _, some _, some _, none]) rfl rfl (Nat.le_of_ble_eq_true rfl) rfl ?_
            refine e_aload_n 39 67 rfl rfl rfl rfl ?_
            refine e_iload_n 40 68 rfl rfl rfl rfl ?_
            refine e_iload 41 70 rfl rfl rfl ?_
            refine e_dropm [true, true, true, true, false, true, false] (ls' := [some _, some _, some _, some _, none, some _, none]) rfl ?_
            exact kk
          · skip
            subst hq
            refine e_iconst 35 60 rfl rfl ?_
            refine e_goto 36 64 rfl rfl ?_
            refine e_istore 38 66 (ls' := [some _, some _, some _, some _, some _, some _, none]) rfl rfl (Nat.le_of_ble_eq_true rfl) rfl ?_
            refine e_aload_n 39 67 rfl rfl rfl rfl ?_
            refine e_iload_n 40 68 rfl rfl rfl rfl ?_
            refine e_iload 41 70 rfl rfl rfl ?_
            refine e_dropm [true, true, true, true, false, true, false] (ls' := [some _, some _, some _, some _, none, some _, none]) rfl ?_
            exact kk
      refine e_entry okX12_split (Nat.le_of_ble_eq_true rfl) (ls := [some _, some _, some _, none, none, none, none]) rfl ?_
      refine e_aload_n 0 1 rfl rfl rfl rfl ?_
      refine e_iload_n 1 2 rfl rfl rfl rfl ?_
      refine g_callV 2 5 (p1) okX12_isChunk cvX12_325 ⟨(Nat.le_of_ble_eq_true rfl), (Nat.le_of_ble_eq_true rfl)⟩ rfl rfl (Nat.le_of_ble_eq_true rfl) rfl rfl rfl rfl rfl (Nat.le_of_ble_eq_true rfl) (Nat.le_of_ble_eq_true rfl) (Nat.le_of_ble_eq_true rfl) ?_
      refine e_istore_n 3 6 (ls' := [some _, some _, some _, some _, none, none, none]) rfl rfl rfl (Nat.le_of_ble_eq_true rfl) rfl ?_
      refine e_iload_n 4 7 rfl rfl rfl rfl ?_
      refine e_ifb_eq 5 31 10 rfl rfl rfl (fun hq => ?_) (fun hq => ?_)
      · skip
        cases hq
      · skip
        refine e_iload_n 6 11 rfl rfl rfl rfl ?_
        refine e_aload_n 7 12 rfl rfl rfl rfl ?_
        refine g_getI 8 15 24 ckX12 flX12_200 rfl rfl (Nat.le_of_ble_eq_true rfl) rfl rfl rfl g24 ?_
        refine e_iconst 9 16 rfl rfl ?_
        refine e_isub 10 17 rfl rfl ?_
        refine e_icmp_ge 11 31 20 rfl rfl rfl (by unfold xr at *; omega) (by unfold xr at *; omega) (fun hl => ?_) (fun hl => ?_)
        · skip
          refine e_sipush 19 34 rfl rfl rfl ?_
          refine fin 1000 ?_
          unfold cfst chas
          rw [decF (by omega), if_neg (by decide)]
        · skip
          refine e_aload_n 12 21 rfl rfl rfl rfl ?_
          refine g_getR 13 24 ckX12 flX12_57 rfl rfl (Nat.le_of_ble_eq_true rfl) rfl rfl ?_
          refine e_iload_n 14 25 rfl rfl rfl rfl ?_
          refine e_iconst 15 26 rfl rfl ?_
          refine e_iadd 16 27 rfl rfl ?_
          refine g_iaload 17 28 rfl rfl (Nat.le_of_ble_eq_true rfl) rfl (by omega) (by omega) (by omega) (g97 (c + 1) (by omega) (by omega)) ?_
          refine e_goto 18 34 rfl rfl ?_
          refine fin _ ?_
          unfold cfst chas
          rw [decT (by omega), if_pos rfl]
  have refu : ∀ (b1 b2 : Bool), x_E MX12_split 0 0 102 [some (.ref 281), some (.int (ii c)), some (.int (ii z)), some (.int (ii (bi b1))), none, some (.int (ii (bi b2))), none] [.int (ii (bi false)), .int (ii (bi b2)), .int (ii (bi b1)), .ref 281] (St σ) 0 0 (iv 0) (St (xu σ 281 47 (gcode b1 b2 false))) := by
    intro b1 b2
    refine g_callV 58 105 (sp_mGoes (a := b1) (b := b2) (c := false)) okX12_goes cvX12_167 ⟨(Nat.le_of_ble_eq_true rfl), (Nat.le_of_ble_eq_true rfl)⟩ rfl rfl (Nat.le_of_ble_eq_true rfl) rfl rfl rfl rfl rfl (Nat.le_of_ble_eq_true rfl) (Nat.le_of_ble_eq_true rfl) (Nat.le_of_ble_eq_true rfl) ?_
    refine e_ifb_ne 59 110 108 rfl rfl rfl (fun hb => ?_) (fun hb => ?_)
    · skip
      exfalso
      rw [Bool.and_false, Bool.and_false] at hb
      cases hb
    · skip
      refine e_iconst 60 109 rfl rfl ?_
      exact e_ireturn 61 rfl rfl (Nat.le_of_ble_eq_true rfl) (Nat.le_of_ble_eq_true rfl)
  have g97 : ∀ j : Int, 0 ≤ j → j < σ 231 7 → σ 297 j = σ 232 j := fun j a b => (hrow.2 j a b).1
  cases hh : chas σ c with
  | false =>
    refine STEP.refuse h 1 (by simp) (sp_splitX hC hc0 hh) (σ2 := xu σ 281 47 1) (y := 0) (pre σ false hrow.1 g97 (by rw [hh]; rfl) ?_) (xu_same _ _ _ _) F47s
    rw [hh]
    refine e_iload 42 72 rfl rfl rfl ?_
    refine e_ifb_eq 43 101 75 rfl rfl rfl (fun hb => ?_) (fun hb => ?_)
    · skip
      refine e_iconst 57 102 rfl rfl ?_
      exact refu false false
    · skip
      cases hb
  | true =>
    have hci : 0 ≤ c ∧ c < σ 231 7 := of_decide_eq_true hh
    have ecf : cfst σ c = σ 232 c := by unfold cfst; rw [hh, if_pos rfl]
    by_cases hfit : σ 232 c < z ∧ z < cfst σ (c + 1)
    · have pre2 := fun (σ0 : xSig) (g : σ0 281 24 = σ 231 7) (g2 : ∀ j : Int, 0 ≤ j → j < σ 231 7 → σ0 297 j = σ 232 j) => @pre σ0 true g g2 (by rw [hh, decT (by omega)]; rfl)
      have e97 := g97 c hci.1 hci.2
      have hcc := hC.2.2.2.2.2.1 c
      have hxc : xr (σ 232 c) := by unfold xr; omega
      by_cases hok : c ≠ σ 231 11 ∧ σ 231 7 < 12
      · have hmf : ¬ σ 232 c = y := fun q => hok.1 ((y4 c hci.1 hci.2).mp q.symm)
        have hcl := sp_split1 hC (c := c) (z := z) hh (by rw [ecf]; exact hfit) (decide_eq_false (fun q => hok.1 q.2)) hok.2
        have f1 := cutd_f σ c z
        have g1 : cutd σ c z 281 = σ 281 := f1.cell 281 rfl
        have g97' : cutd σ c z 297 = σ 297 := f1.cell 297 rfl
        have g98' : cutd σ c z 298 = σ 298 := f1.cell 298 rfl
        have f2 : FP [(232, -1), (233, -1), (231, 7), (231, 8), (231, 11), (281, 47)] σ (xu (cutd σ c z) 281 47 0) := (f1.mono rfl).put rfl
        -- the model's loop: the later chunks go one place up
        have lp : ∀ (m : Nat) (k : Int), k = c + 1 + m → k ≤ σ 231 7 → x_E MX12_split 0 0 116 [some (.ref 281), some (.int (ii c)), some (.int (ii z)), some (.int (ii (bi true))), none, some (.int (ii (bi true))), some (.int (ii k))] [] (St (mshf (xu (cutd σ c z) 281 47 0) (σ 231 7) k)) 0 0 (iv (σ 231 7 + 1)) (St (spl9 σ c z)) := by
          intro m
          induction m with
          | zero =>
            intro k hk hk2
            rw [show k = c + 1 by omega]
            unfold spl9
            have o1 : xu (mshf (xu (cutd σ c z) 281 47 0) (σ 231 7) (c + 1)) 297 (c + 1) z 298 c = σ 298 c := by
              rw [xu_other _ _ _ (by decide)]
              unfold mshf
              rw [if_neg (by omega), xu_other _ _ _ (by decide), g98']
            have o2 : xu (xu (mshf (xu (cutd σ c z) 281 47 0) (σ 231 7) (c + 1)) 297 (c + 1) z) 298 (c + 1) (σ 298 c) 281 24 = σ 231 7 := by
              rw [xu_other _ _ _ (by decide), xu_other _ _ _ (by decide), (mshf_f _ _ _) 281 24 rfl, f2 281 24 rfl]
              exact hrow.1
            have o3 : xu (xu (xu (mshf (xu (cutd σ c z) 281 47 0) (σ 231 7) (c + 1)) 297 (c + 1) z) 298 (c + 1) (σ 298 c)) 281 24 (σ 231 7 + 1) 281 31 = σ 281 31 := by
              rw [xu_ne _ (Or.inr (by decide)), xu_other _ _ _ (by decide), xu_other _ _ _ (by decide), (mshf_f _ _ _) 281 31 rfl, f2 281 31 rfl]
            have o4 : xu (xu (xu (xu (mshf (xu (cutd σ c z) 281 47 0) (σ 231 7) (c + 1)) 297 (c + 1) z) 298 (c + 1) (σ 298 c)) 281 24 (σ 231 7 + 1)) 281 31 (σ 281 31 + 1) 281 24 = σ 231 7 + 1 := by
              rw [xu_ne _ (Or.inr (by decide)), xu_same]
            refine e_iload 65 118 rfl rfl rfl ?_
            refine e_iload_n 66 119 rfl rfl rfl rfl ?_
            refine e_iconst 67 120 rfl rfl ?_
            refine e_iadd 68 121 rfl rfl ?_
            refine e_icmp_le 69 162 124 rfl rfl rfl (by unfold xr at *; omega) (by unfold xr at *; omega) (fun _ => ?_) (fun h9 => absurd h9 (by omega))
            refine e_aload_n 92 163 rfl rfl rfl rfl ?_
            refine g_getR 93 166 ckX12 flX12_57 rfl rfl (Nat.le_of_ble_eq_true rfl) rfl rfl ?_
            refine e_iload_n 94 167 rfl rfl rfl rfl ?_
            refine e_iconst 95 168 rfl rfl ?_
            refine e_iadd 96 169 rfl rfl ?_
            refine e_iload_n 97 170 rfl rfl rfl rfl ?_
            refine g_iastore 98 171 rfl rfl (Nat.le_of_ble_eq_true rfl) rfl (by omega) (by omega) (by omega) ?_
            refine e_aload_n 99 172 rfl rfl rfl rfl ?_
            refine g_getR 100 175 ckX12 flX12_60 rfl rfl (Nat.le_of_ble_eq_true rfl) rfl rfl ?_
            refine e_iload_n 101 176 rfl rfl rfl rfl ?_
            refine e_iconst 102 177 rfl rfl ?_
            refine e_iadd 103 178 rfl rfl ?_
            refine e_aload_n 104 179 rfl rfl rfl rfl ?_
            refine g_getR 105 182 ckX12 flX12_60 rfl rfl (Nat.le_of_ble_eq_true rfl) rfl rfl ?_
            refine e_iload_n 106 183 rfl rfl rfl rfl ?_
            refine g_iaload 107 184 rfl rfl (Nat.le_of_ble_eq_true rfl) rfl (by omega) (by omega) (by omega) o1 ?_
            refine g_iastore 108 185 rfl rfl (Nat.le_of_ble_eq_true rfl) rfl (by omega) (by omega) (by omega) ?_
            refine e_aload_n 109 186 rfl rfl rfl rfl ?_
            refine e_dup 110 187 rfl rfl rfl ?_
            refine g_getI 111 190 24 ckX12 flX12_200 rfl rfl (Nat.le_of_ble_eq_true rfl) rfl rfl rfl o2 ?_
            refine e_iconst 112 191 rfl rfl ?_
            refine e_iadd 113 192 rfl rfl ?_
            refine g_putI 114 195 24 ckX12 flX12_200 rfl rfl (Nat.le_of_ble_eq_true rfl) rfl rfl rfl ?_
            refine e_aload_n 115 196 rfl rfl rfl rfl ?_
            refine e_dup 116 197 rfl rfl rfl ?_
            refine g_getI 117 200 31 ckX12 flX12_73 rfl rfl (Nat.le_of_ble_eq_true rfl) rfl rfl rfl o3 ?_
            refine e_iconst 118 201 rfl rfl ?_
            refine e_iadd 119 202 rfl rfl ?_
            refine g_putI 120 205 31 ckX12 flX12_73 rfl rfl (Nat.le_of_ble_eq_true rfl) rfl rfl rfl ?_
            refine e_aload_n 121 206 rfl rfl rfl rfl ?_
            refine g_getI 122 209 24 ckX12 flX12_200 rfl rfl (Nat.le_of_ble_eq_true rfl) rfl rfl rfl o4 ?_
            exact e_ireturn 123 rfl rfl (Nat.le_of_ble_eq_true rfl) (Nat.le_of_ble_eq_true rfl)
          | succ m ih =>
            intro k hk hk2
            have := ih (k + -1) (by omega) (by omega)
            rw [show k + -1 = k - 1 by omega, ← mshf_step _ hk2] at this
            have o1 : mshf (xu (cutd σ c z) 281 47 0) (σ 231 7) k 297 (k - 1) = xu (cutd σ c z) 281 47 0 297 (k - 1) := by unfold mshf; rw [if_neg (by omega)]
            have o2 : xu (mshf (xu (cutd σ c z) 281 47 0) (σ 231 7) k) 297 k (xu (cutd σ c z) 281 47 0 297 (k - 1)) 298 (k - 1) = xu (cutd σ c z) 281 47 0 298 (k - 1) := by
              rw [xu_other _ _ _ (by decide)]
              unfold mshf
              rw [if_neg (by omega)]
            refine e_iload 65 118 rfl rfl rfl ?_
            refine e_iload_n 66 119 rfl rfl rfl rfl ?_
            refine e_iconst 67 120 rfl rfl ?_
            refine e_iadd 68 121 rfl rfl ?_
            refine e_icmp_le 69 162 124 rfl rfl rfl (by unfold xr at *; omega) (by unfold xr at *; omega) (fun h9 => absurd h9 (by omega)) (fun _ => ?_)
            refine e_aload_n 70 125 rfl rfl rfl rfl ?_
            refine g_getR 71 128 ckX12 flX12_57 rfl rfl (Nat.le_of_ble_eq_true rfl) rfl rfl ?_
            refine e_iload 72 130 rfl rfl rfl ?_
            refine e_aload_n 73 131 rfl rfl rfl rfl ?_
            refine g_getR 74 134 ckX12 flX12_57 rfl rfl (Nat.le_of_ble_eq_true rfl) rfl rfl ?_
            refine e_iload 75 136 rfl rfl rfl ?_
            refine e_iconst 76 137 rfl rfl ?_
            refine e_isub 77 138 rfl rfl ?_
            refine g_iaload 78 139 rfl rfl (Nat.le_of_ble_eq_true rfl) rfl (by omega) (by omega) (by omega) o1 ?_
            refine g_iastore 79 140 rfl rfl (Nat.le_of_ble_eq_true rfl) rfl (by omega) (by omega) (by omega) ?_
            refine e_aload_n 80 141 rfl rfl rfl rfl ?_
            refine g_getR 81 144 ckX12 flX12_60 rfl rfl (Nat.le_of_ble_eq_true rfl) rfl rfl ?_
            refine e_iload 82 146 rfl rfl rfl ?_
            refine e_aload_n 83 147 rfl rfl rfl rfl ?_
            refine g_getR 84 150 ckX12 flX12_60 rfl rfl (Nat.le_of_ble_eq_true rfl) rfl rfl ?_
            refine e_iload 85 152 rfl rfl rfl ?_
            refine e_iconst 86 153 rfl rfl ?_
            refine e_isub 87 154 rfl rfl ?_
            refine g_iaload 88 155 rfl rfl (Nat.le_of_ble_eq_true rfl) rfl (by omega) (by omega) (by omega) o2 ?_
            refine g_iastore 89 156 rfl rfl (Nat.le_of_ble_eq_true rfl) rfl (by omega) (by omega) (by omega) ?_
            refine e_iinc 90 159 (ls' := [some _, some _, some _, some _, none, some _, some _]) rfl rfl (Nat.le_of_ble_eq_true rfl) rfl rfl ?_
            refine e_goto 91 116 rfl rfl ?_
            rw [show k + -1 = k - 1 by omega]
            exact this
        have e0 : mshf (xu (cutd σ c z) 281 47 0) (σ 231 7) (σ 231 7) = xu (cutd σ c z) 281 47 0 := by
          funext b j
          unfold mshf
          rw [if_neg (by omega)]
        have lp0 := lp (σ 231 7 - c - 1).toNat (σ 231 7) (by omega) (by omega)
        rw [e0] at lp0
        refine ⟨cutd σ c z, spl9 σ c z, 0, σ 231 7 + 1, σ 231 7 + 1, ⟨by omega, by simp⟩, fun _ => hcl, fun q => absurd rfl q, pre2 _ (by rw [g1]; exact hrow.1) (fun j a b => by rw [g97']; exact g97 j a b) ?_, ?_, fun _ => rfl, ?_⟩
        · rw [hh]
          have e97' : cutd σ c z 297 c = σ 232 c := by rw [g97']; exact e97
          have y1' : cutd σ c z 281 25 = y := by rw [g1]; exact y1
          have e24' : cutd σ c z 281 24 = σ 231 7 := by rw [g1]; exact hrow.1
          have e24'' : xu (cutd σ c z) 281 47 0 281 24 = σ 231 7 := by rw [xu_ne _ (Or.inr (by decide))]; exact e24'
          refine e_iload 42 72 rfl rfl rfl ?_
          refine e_ifb_eq 43 101 75 rfl rfl rfl (fun hb => ?_) (fun hb => ?_)
          · skip
            cases hb
          · skip
            refine e_aload_n 44 76 rfl rfl rfl rfl ?_
            refine g_getR 45 79 ckX12 flX12_57 rfl rfl (Nat.le_of_ble_eq_true rfl) rfl rfl ?_
            refine e_iload_n 46 80 rfl rfl rfl rfl ?_
            refine g_iaload 47 81 rfl rfl (Nat.le_of_ble_eq_true rfl) rfl (by omega) (by omega) (by omega) e97' ?_
            refine e_aload_n 48 82 rfl rfl rfl rfl ?_
            refine g_getI 49 85 25 ckX12 flX12_63 rfl rfl (Nat.le_of_ble_eq_true rfl) rfl rfl rfl y1' ?_
            refine e_icmp_eq 50 101 88 rfl rfl rfl hxc y2 (fun h9 => absurd h9 hmf) (fun _ => ?_)
            refine e_aload_n 51 89 rfl rfl rfl rfl ?_
            refine g_getI 52 92 24 ckX12 flX12_200 rfl rfl (Nat.le_of_ble_eq_true rfl) rfl rfl rfl e24' ?_
            refine e_bipush 53 94 rfl rfl rfl ?_
            refine e_icmp_ge 54 101 97 rfl rfl rfl (by unfold xr at *; omega) (by unfold xr at *; omega) (fun h9 => absurd h9 (by omega)) (fun _ => ?_)
            refine e_iconst 55 98 rfl rfl ?_
            refine e_goto 56 102 rfl rfl ?_
            refine g_callV 58 105 (sp_mGoes (a := true) (b := true) (c := true)) okX12_goes cvX12_167 ⟨(Nat.le_of_ble_eq_true rfl), (Nat.le_of_ble_eq_true rfl)⟩ rfl rfl (Nat.le_of_ble_eq_true rfl) rfl rfl rfl rfl rfl (Nat.le_of_ble_eq_true rfl) (Nat.le_of_ble_eq_true rfl) (Nat.le_of_ble_eq_true rfl) ?_
            refine e_ifb_ne 59 110 108 rfl rfl rfl (fun hb => ?_) (fun hb => ?_)
            · skip
              refine e_aload_n 62 111 rfl rfl rfl rfl ?_
              refine g_getI 63 114 24 ckX12 flX12_200 rfl rfl (Nat.le_of_ble_eq_true rfl) rfl rfl rfl e24'' ?_
              refine e_istore 64 116 (ls' := [some _, some _, some _, some _, none, some _, some _]) rfl rfl (Nat.le_of_ble_eq_true rfl) rfl ?_
              exact lp0
            · skip
              cases hb
        · rw [spl9, xu_ne _ (Or.inr (by decide)), xu_ne _ (Or.inr (by decide)), xu_other _ _ _ (by decide), xu_other _ _ _ (by decide), (mshf_f _ _ _) 281 47 rfl, xu_same]
        · have f4 : FP [(232, -1), (233, -1), (231, 7), (231, 8), (231, 11), (281, 47), (297, -1), (298, -1), (281, 24), (281, 31)] σ (spl9 σ c z) := (((((f2.mono rfl).tr ((mshf_f _ _ _).mono rfl)).putA rfl).putA rfl).put rfl).put rfl
          generalize hσ2 : spl9 σ c z = σ2 at f4
          have gc : ∀ b : Nat, b < 281 → σ2 b = cutd σ c z b := fun b hb => by
            rw [← hσ2, spl9, xu_other _ _ _ (by omega), xu_other _ _ _ (by omega), xu_other _ _ _ (by omega), xu_other _ _ _ (by omega), (mshf_f _ _ _).cell b (by simp only [List.all_cons, List.all_nil, Bool.and_true, bne_iff_ne, Bool.and_eq_true]; omega), xu_other _ _ _ (by omega)]
          have m7 : ∀ j : Int, σ2 297 j = (if j = c + 1 then z else if c + 1 < j ∧ j ≤ σ 231 7 then σ 297 (j - 1) else σ 297 j) := fun j => by
            rw [← hσ2, spl9, xu_other _ _ _ (by decide), xu_other _ _ _ (by decide), xu_other _ _ _ (by decide)]
            by_cases e : j = c + 1
            · rw [e, xu_same, if_pos rfl]
            · rw [xu_ne _ (Or.inr e), if_neg e]
              unfold mshf
              by_cases w : c + 1 < j ∧ j ≤ σ 231 7
              · rw [if_pos ⟨Or.inl rfl, w⟩, if_pos w, xu_other _ _ _ (by decide), g97']
              · rw [if_neg (fun q => w q.2), if_neg w, xu_other _ _ _ (by decide), g97']
          have m8 : ∀ j : Int, σ2 298 j = (if j = c + 1 then σ 298 c else if c + 1 < j ∧ j ≤ σ 231 7 then σ 298 (j - 1) else σ 298 j) := fun j => by
            rw [← hσ2, spl9, xu_other _ _ _ (by decide), xu_other _ _ _ (by decide)]
            by_cases e : j = c + 1
            · rw [e, xu_same, if_pos rfl]
            · rw [xu_ne _ (Or.inr e), if_neg e, xu_other _ _ _ (by decide)]
              unfold mshf
              by_cases w : c + 1 < j ∧ j ≤ σ 231 7
              · rw [if_pos ⟨Or.inr rfl, w⟩, if_pos w, xu_other _ _ _ (by decide), g98']
              · rw [if_neg (fun q => w q.2), if_neg w, xu_other _ _ _ (by decide), g98']
          have k67 := cut_K (i := i) (σ' := σ2) h6 (hM.1 7) hci ⟨hfit.1, fun w => by have := hfit.2; unfold cfst chas at this; rw [decT (by omega), if_pos rfl] at this; exact this, by omega⟩ hok.1 hok.2 gc
          have d := cutd_7 σ c z
          have e7 : σ2 231 7 = σ 231 7 + 1 := by rw [gc 231 (by omega)]; exact d.1
          have e8 : σ2 231 8 = σ 231 8 + 1 := by rw [gc 231 (by omega)]; exact d.2.1
          have e11 : σ2 231 11 = if c < σ 231 11 then σ 231 11 + 1 else σ 231 11 := by rw [gc 231 (by omega)]; exact d.2.2
          have e2 : ∀ j : Int, σ2 232 j = (if j = c + 1 then z else if c + 1 < j ∧ j ≤ σ 231 7 then σ 232 (j - 1) else σ 232 j) := fun j => by rw [gc 232 (by omega)]; rfl
          have e3 : ∀ j : Int, σ2 233 j = (if j = c + 1 then σ 233 c else if c + 1 < j ∧ j ≤ σ 231 7 then σ 233 (j - 1) else σ 233 j) := fun j => by rw [gc 233 (by omega)]; rfl
          refine INV.go _ [6, 7, 12] [12, 13, 17] hA hM f4 (by decide +kernel) rfl rfl (alc k67.1 (alc k67.2 (alc ?_ al0))) (alc ?_ (alc ?_ (alc ?_ al0)))
          · have q := hM.1 12
            have q1 := q.1
            refine ⟨by rw [e8]; omega, fun r r0 r2 => ?_⟩
            have := q.2 r r0 r2
            rw [f4.cell 236 rfl]
            omega
          · refine ⟨?_, fun j j0 j1 => ?_⟩
            · rw [e7, ← hσ2, spl9, xu_ne _ (Or.inr (by decide)), xu_same]
            · rw [e7] at j1
              rw [m7, m8, e2, e3]
              by_cases w1 : j = c + 1
              · rw [if_pos w1, if_pos w1, if_pos w1, if_pos w1]
                exact ⟨rfl, (hrow.2 c hci.1 hci.2).2⟩
              · rw [if_neg w1, if_neg w1, if_neg w1, if_neg w1]
                by_cases w2 : c + 1 < j ∧ j ≤ σ 231 7
                · rw [if_pos w2, if_pos w2, if_pos w2, if_pos w2]
                  exact hrow.2 (j - 1) (by omega) (by omega)
                · rw [if_neg w2, if_neg w2, if_neg w2, if_neg w2]
                  exact hrow.2 j j0 (by omega)
          · have q13 := hM.2 13
            refine ⟨fun q => ?_, fun q => ?_⟩
            · rw [f4 281 25 rfl]
              refine q13.1 ?_
              rw [e11] at q
              have := hC.2.2.2.1
              split at q <;> omega
            · have hne : σ 231 11 ≠ -1 := by
                intro w
                rw [e11, w, if_neg (by omega)] at q
                exact q rfl
              have q2 := q13.2 hne
              have h11 := hC.2.2.2.1
              rw [f4 281 25 rfl, f4 281 26 rfl, f4 231 12 rfl, e11, e2]
              refine ⟨?_, q2.2⟩
              rw [q2.1]
              by_cases w : c < σ 231 11
              · rw [if_pos w, if_neg (by omega), if_pos (by omega), show σ 231 11 + 1 - 1 = σ 231 11 by omega]
              · rw [if_neg w, if_neg (by omega), if_neg (by omega)]
          · show σ2 281 31 = σ2 231 8
            rw [e8, ← hσ2, spl9, xu_same]
            have : σ 281 31 = σ 231 8 := hM.2 17
            omega
      · have hmm : ismv σ c = true ∨ 12 ≤ σ 231 7 := by
          by_cases w : c = σ 231 11
          · exact Or.inl (decide_eq_true ⟨by omega, w⟩)
          · exact Or.inr (by omega)
        refine STEP.refuse h 3 (by simp) (sp_splitX3 hC hh (by rw [ecf]; exact hfit) hmm) (σ2 := xu σ 281 47 3) (y := 0) (pre2 σ hrow.1 g97 ?_) (xu_same _ _ _ _) F47s
        rw [hh]
        refine e_iload 42 72 rfl rfl rfl ?_
        refine e_ifb_eq 43 101 75 rfl rfl rfl (fun hb => ?_) (fun hb => ?_)
        · skip
          cases hb
        · skip
          refine e_aload_n 44 76 rfl rfl rfl rfl ?_
          refine g_getR 45 79 ckX12 flX12_57 rfl rfl (Nat.le_of_ble_eq_true rfl) rfl rfl ?_
          refine e_iload_n 46 80 rfl rfl rfl rfl ?_
          refine g_iaload 47 81 rfl rfl (Nat.le_of_ble_eq_true rfl) rfl (by omega) (by omega) (by omega) e97 ?_
          refine e_aload_n 48 82 rfl rfl rfl rfl ?_
          refine g_getI 49 85 25 ckX12 flX12_63 rfl rfl (Nat.le_of_ble_eq_true rfl) rfl rfl rfl y1 ?_
          refine e_icmp_eq 50 101 88 rfl rfl rfl hxc y2 (fun hq => ?_) (fun hq => ?_)
          · skip
            refine e_iconst 57 102 rfl rfl ?_
            exact refu true true
          · skip
            have w : ¬ c = σ 231 11 := fun w => hq ((y4 c hci.1 hci.2).mpr w).symm
            refine e_aload_n 51 89 rfl rfl rfl rfl ?_
            refine g_getI 52 92 24 ckX12 flX12_200 rfl rfl (Nat.le_of_ble_eq_true rfl) rfl rfl rfl hrow.1 ?_
            refine e_bipush 53 94 rfl rfl rfl ?_
            refine e_icmp_ge 54 101 97 rfl rfl rfl (by unfold xr at *; omega) (by unfold xr at *; omega) (fun _ => ?_) (fun h9 => absurd h9 (by omega))
            refine e_iconst 57 102 rfl rfl ?_
            exact refu true true
    · refine STEP.refuse h 2 (by simp) (sp_splitX2 hC hz0 hh (by rw [ecf]; omega)) (σ2 := xu σ 281 47 2) (y := 0) (pre σ false hrow.1 g97 (by rw [hh, decF (by omega)]; rfl) ?_) (xu_same _ _ _ _) F47s
      rw [hh]
      refine e_iload 42 72 rfl rfl rfl ?_
      refine e_ifb_eq 43 101 75 rfl rfl rfl (fun hb => ?_) (fun hb => ?_)
      · skip
        refine e_iconst 57 102 rfl rfl ?_
        exact refu true false
      · skip
        cases hb
