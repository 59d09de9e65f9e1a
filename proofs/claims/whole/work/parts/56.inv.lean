/-! ===== frames over all but Values' cells ===== -/
def FV (L : List (Nat × Int)) (σ σ' : xSig) : Prop := ∀ (b : Nat) (j : Int), vA b = false → inP L b j = false → σ' b j = σ b j
theorem FV.rf {L : List (Nat × Int)} {σ : xSig} : FV L σ σ := fun _ _ _ _ => rfl
theorem FV.tr {L : List (Nat × Int)} {σ σ1 σ2 : xSig} (h : FV L σ σ1) (h2 : FV L σ1 σ2) : FV L σ σ2 := fun b j v q => (h2 b j v q).trans (h b j v q)
theorem FV.mono {L K : List (Nat × Int)} {σ σ1 : xSig} (h : FV L σ σ1) (hc : cov L K = true) : FV K σ σ1 := fun b j v q => h b j v (cov_in hc q)
theorem FV.trm {L L2 K : List (Nat × Int)} {σ σ1 σ2 : xSig} (h : FV L σ σ1) (h2 : FV L2 σ1 σ2) (hc : cov L K = true) (hc2 : cov L2 K = true) : FV K σ σ2 := (h.mono hc).tr (h2.mono hc2)
theorem FP.fv {L : List (Nat × Int)} {σ σ1 : xSig} (h : FP L σ σ1) : FV L σ σ1 := fun b j _ q => h b j q
theorem FV.put {L : List (Nat × Int)} {σ σ1 : xSig} (h : FV L σ σ1) {a : Nat} {j v : Int} (hi : inP L a j = true) : FV L σ (xu σ1 a j v) := by
  intro b i q1 q
  rw [xu_ne, h b i q1 q]
  by_cases e : b = a
  · refine Or.inr (fun e2 => ?_)
    rw [e, e2, hi] at q
    cases q
  · exact Or.inl e
theorem inP_A {L : List (Nat × Int)} {a : Nat} (hi : (L.any fun q => q.1 == a && q.2 == -1) = true) (j : Int) : inP L a j = true := by
  obtain ⟨q, hq, hq2⟩ := List.any_eq_true.mp hi
  refine List.any_eq_true.mpr ⟨q, hq, ?_⟩
  simp only [Bool.and_eq_true, Bool.or_eq_true, beq_iff_eq] at hq2 ⊢
  omega
theorem FV.putA {L : List (Nat × Int)} {σ σ1 : xSig} (h : FV L σ σ1) {a : Nat} {j v : Int} (hi : (L.any fun q => q.1 == a && q.2 == -1) = true) : FV L σ (xu σ1 a j v) := h.put (inP_A hi j)
theorem FP.putA {L : List (Nat × Int)} {σ σ1 : xSig} (h : FP L σ σ1) {a : Nat} {j v : Int} (hi : (L.any fun q => q.1 == a && q.2 == -1) = true) : FP L σ (xu σ1 a j v) := h.put (inP_A hi j)
/-- a list of whole cells -/
def wc (L : List Nat) : List (Nat × Int) := L.map fun b => (b, -1)
theorem wc_no {L : List Nat} {b : Nat} {j : Int} (h : inP (wc L) b j = false) : b ∉ L := fun hb => by
  have : inP (wc L) b j = true := List.any_eq_true.mpr ⟨(b, -1), List.mem_map.mpr ⟨b, hb, rfl⟩, by simp⟩
  rw [h] at this
  cases this
theorem FX.fp {L : List Nat} {σ σ1 : xSig} (h : FX L σ σ1) : FP (wc L) σ σ1 := fun b j q => by rw [h b (wc_no q)]
theorem NV.fv {L : List Nat} {σ σ1 : xSig} (h : NV L σ σ1) : FV (wc L) σ σ1 := fun b j v q => by rw [h b v (wc_no q)]
theorem Fr.fp {a : Nat} {σ σ1 : xSig} (h : Fr a σ σ1) : FP [(a, -1), (a + 1, -1)] σ σ1 := fun b j q => by
  have := wc_no (L := [a, a + 1]) q
  simp only [List.mem_cons, List.not_mem_nil, or_false, not_or] at this
  rw [h b this.1 this.2]
theorem FV.cell {L : List (Nat × Int)} {σ σ1 : xSig} (h : FV L σ σ1) (a : Nat) (hv : vA a = false) (ha : (L.all fun q => q.1 != a) = true) : σ1 a = σ a := by
  funext j
  refine h a j hv ?_
  cases e : inP L a j with
  | false => rfl
  | true =>
    exfalso
    obtain ⟨q, hq, hq2⟩ := List.any_eq_true.mp e
    have := List.all_eq_true.mp ha q hq
    simp only [Bool.and_eq_true, beq_iff_eq, bne_iff_ne] at hq2 this
    exact this hq2.1
def ovl (L K : List (Nat × Int)) : Bool := L.any fun q => K.any fun r => q.1 == r.1 && (q.2 == -1 || (r.2 == -1 || q.2 == r.2))
theorem ovl_in {L K : List (Nat × Int)} (h : ovl L K = false) {b : Nat} {j : Int} (h2 : inP L b j = true) : inP K b j = false := by
  cases e : inP K b j with
  | false => rfl
  | true =>
    exfalso
    obtain ⟨q, hq, hq2⟩ := List.any_eq_true.mp h2
    obtain ⟨r, hr, hr2⟩ := List.any_eq_true.mp e
    have : ovl L K = true := by
      refine List.any_eq_true.mpr ⟨q, hq, List.any_eq_true.mpr ⟨r, hr, ?_⟩⟩
      simp only [Bool.and_eq_true, Bool.or_eq_true, beq_iff_eq] at hq2 hr2 ⊢
      omega
    rw [h] at this
    cases this
/-! ===== what the model's cells say ===== -/
def MW (σ : xSig) (p : Int) (v : Fo) : Prop := MV σ 282 11300 p v ∧ pa v ≤ 24
/-- a plan -/
abbrev Pn := Int × Int × Int
def plC (τ : xSig) : List Pn := (List.range (τ 248 6).toNat).map fun p : Nat => (τ 251 p, τ 252 p, τ 253 p)
def plM (σ : xSig) : List Pn := (List.range (σ 281 18).toNat).map fun p : Nat => (σ 292 p, σ 293 p, σ 294 p)
/-- the model's number for what the class has as a shape -/
def mk9 (s : Int) : Int := if s / 130321 ≠ 0 then s / 130321 + 400 * (s / 361 % 361) + 160000 * (s % 361) else if s / 361 % 361 ≠ 0 then s / 361 % 361 + 400 * (s % 361) else s % 361
def mkP (q : Pn) : Pn := (mk9 q.1, q.2.1, q.2.2)
def vshp (s : Int) : Prop := (0 ≤ s ∧ s < 47045881) ∧ (s / 130321 ≠ 0 → s / 361 % 361 ≠ 0) ∧ (s / 361 % 361 ≠ 0 → s % 361 ≠ 0)
theorem mk9_bnd {s : Int} (h : vshp s) : 0 ≤ mk9 s ∧ mk9 s < 64000000 := by
  obtain ⟨h1, h2, h3⟩ := h
  unfold mk9
  split
  · omega
  · split <;> omega
theorem mk9_inj {s t : Int} (h : vshp s) (g : vshp t) (e : mk9 s = mk9 t) : s = t := by
  obtain ⟨h1, h2, h3⟩ := h
  obtain ⟨g1, g2, g3⟩ := g
  have es : s = 130321 * (s / 130321) + 361 * (s / 361 % 361) + s % 361 := by omega
  have et : t = 130321 * (t / 130321) + 361 * (t / 361 % 361) + t % 361 := by omega
  have bs : 0 ≤ s / 130321 ∧ s / 130321 < 361 := by omega
  have bt : 0 ≤ t / 130321 ∧ t / 130321 < 361 := by omega
  have cs : 0 ≤ s / 361 % 361 ∧ s / 361 % 361 < 361 := by omega
  have ct : 0 ≤ t / 361 % 361 ∧ t / 361 % 361 < 361 := by omega
  unfold mk9 at e
  generalize s / 130321 = a at *
  generalize s / 361 % 361 = b at *
  generalize t / 130321 = a' at *
  generalize t / 361 % 361 = b' at *
  have hc : 0 ≤ s % 361 ∧ s % 361 < 361 := by omega
  have hc' : 0 ≤ t % 361 ∧ t % 361 < 361 := by omega
  generalize s % 361 = c at *
  generalize t % 361 = c' at *
  split at e
  · split at e
    · have hcc : c = c' := by omega
      subst hcc
      have hbb : b = b' := by omega
      omega
    · split at e <;> omega
  · split at e
    · split at e
      · omega
      · split at e <;> omega
    · split at e
      · omega
      · split at e <;> omega
def RMc (τ : xSig) (G : Nat → Fo) (σ : xSig) : Nat → Prop
  | 0 => ∀ n : Nat, n < 100 → hasd τ n = true → MW σ (100 * n + 1) (G (31 + 2 * n))
  | 1 => ∀ i : Nat, (i : Int) < τ 1 2 → MW σ (100 * (100 + i) + 1) (G (5 + 2 * i))
  | 2 => ∀ i : Nat, (i : Int) < τ 256 4 → MW σ (100 * (110 + i) + 1) (G (265 + 3 * i))
  | 3 => ∀ n : Nat, n < 100 → σ 283 n = bi (hasd τ n)
  | 4 => σ 281 2 = τ 25 4
  | 5 => σ 281 3 = τ 1 2
  | 6 => ∀ f : Int, 0 ≤ f → f < 8 → σ 286 f = τ 28 f
  | 7 => ∀ k : Int, 0 ≤ k → k < 3 → σ 288 k = bi (ihas τ k) ∧ (ihas τ k = true → σ 287 k = τ 249 k ∧ σ 289 k = τ 250 k)
  | 8 => σ 281 14 = τ 256 4 ∧ ∀ i : Nat, i < 3 → (i : Int) < τ 256 4 → σ 290 i = τ (264 + 3 * i) 1 ∧ σ 291 i = τ (264 + 3 * i) 2
  | 9 => σ 281 18 = τ 248 6 ∧ ((plC τ).map mkP).Perm (plM σ)
  | 10 => σ 295 0 = τ 256 6 ∧ σ 295 1 = τ 256 7 ∧ σ 295 2 = τ 256 8 ∧ σ 295 3 = τ 256 9
  | 11 => σ 281 21 = τ 256 5 ∧ ∀ i : Nat, (i : Int) < τ 256 5 → σ 296 i = τ 263 i
  | 12 => σ 281 24 = τ 231 7 ∧ ∀ i : Int, 0 ≤ i → i < τ 231 7 → σ 297 i = τ 232 i ∧ σ 298 i = τ 233 i
  | 13 => (τ 231 11 = -1 → σ 281 25 = -1) ∧ (τ 231 11 ≠ -1 → σ 281 25 = τ 232 (τ 231 11) ∧ σ 281 26 = τ 231 12)
  | 14 => ∀ n : Nat, n < 100 → σ 299 n = τ 235 n
  | 15 => ∀ s : Int, 0 ≤ s → s < 3 → σ 300 s = τ 234 s
  | 16 => σ 281 29 = τ 231 9 ∧ σ 281 30 = τ 231 10
  | 17 => σ 281 31 = τ 231 8
  | 18 => ∀ r : Int, 0 ≤ r → r < 2 → σ 301 r = τ 236 r ∧ σ 302 r = τ 237 r
  | 19 => σ 281 37 = τ 239 3 ∧ ∀ i : Int, 0 ≤ i → i < τ 239 3 → σ 303 i = τ 240 i ∧ σ 304 i = τ 241 i ∧ σ 305 i = τ 242 i
  | 20 => σ 281 38 = τ 0 8
  | 21 => σ 281 39 = τ 0 9
  | 22 => σ 281 46 = τ 273 6 ∧ ∀ i : Int, 0 ≤ i → i < τ 273 6 → σ 308 i = τ 275 i ∧ σ 309 i = τ 276 i ∧ σ 310 i = τ 274 i
  | _ => True
def RM (τ : xSig) (G : Nat → Fo) (σ : xSig) : Prop := ∀ k, RMc τ G σ k
/-- the places that a row of RM looks at: of the class; of the model -/
def cT : Nat → List (Nat × Int)
  | 0 => [(27, -1)]
  | 1 => [(1, 2)]
  | 2 => [(256, 4)]
  | 3 => [(27, -1)]
  | 4 => [(25, 4)]
  | 5 => [(1, 2)]
  | 6 => [(28, -1)]
  | 7 => [(249, -1), (250, -1)]
  | 8 => [(256, 4), (264, -1), (267, -1), (270, -1)]
  | 9 => [(248, 6), (251, -1), (252, -1), (253, -1)]
  | 10 => [(256, 6), (256, 7), (256, 8), (256, 9)]
  | 11 => [(256, 5), (263, -1)]
  | 12 => [(231, 7), (232, -1), (233, -1)]
  | 13 => [(231, 11), (231, 12), (232, -1)]
  | 14 => [(235, -1)]
  | 15 => [(234, -1)]
  | 16 => [(231, 9), (231, 10)]
  | 17 => [(231, 8)]
  | 18 => [(236, -1), (237, -1)]
  | 19 => [(239, 3), (240, -1), (241, -1), (242, -1)]
  | 20 => [(0, 8)]
  | 21 => [(0, 9)]
  | 22 => [(273, 6), (274, -1), (275, -1), (276, -1)]
  | _ => []
def cM : Nat → List (Nat × Int)
  | 0 => [(282, -1)]
  | 1 => [(282, -1)]
  | 2 => [(282, -1)]
  | 3 => [(283, -1)]
  | 4 => [(281, 2)]
  | 5 => [(281, 3)]
  | 6 => [(286, -1)]
  | 7 => [(287, -1), (288, -1), (289, -1)]
  | 8 => [(281, 14), (290, -1), (291, -1)]
  | 9 => [(281, 18), (292, -1), (293, -1), (294, -1)]
  | 10 => [(295, -1)]
  | 11 => [(281, 21), (296, -1)]
  | 12 => [(281, 24), (297, -1), (298, -1)]
  | 13 => [(281, 25), (281, 26)]
  | 14 => [(299, -1)]
  | 15 => [(300, -1)]
  | 16 => [(281, 29), (281, 30)]
  | 17 => [(281, 31)]
  | 18 => [(301, -1), (302, -1)]
  | 19 => [(281, 37), (303, -1), (304, -1), (305, -1)]
  | 20 => [(281, 38)]
  | 21 => [(281, 39)]
  | 22 => [(281, 46), (308, -1), (309, -1), (310, -1)]
  | _ => []
/-- the same at the places -/
def sam (L : List (Nat × Int)) (σ σ' : xSig) : Prop := ∀ (b : Nat) (j : Int), inP L b j = true → σ' b j = σ b j
theorem sam.at {L : List (Nat × Int)} {σ σ' : xSig} (h : sam L σ σ') (b : Nat) (j : Int) (hi : inP L b j = true) : σ' b j = σ b j := h b j hi
theorem sam.cell {L : List (Nat × Int)} {σ σ' : xSig} (h : sam L σ σ') (a : Nat) (hi : (L.any fun q => q.1 == a && q.2 == -1) = true) : σ' a = σ a := funext fun j => h a j (inP_A hi j)
theorem plC_congr {τ τ' : xSig} (h : sam (cT 9) τ τ') : plC τ' = plC τ := by
  unfold plC
  rw [h.at 248 6 rfl, h.cell 251 rfl, h.cell 252 rfl, h.cell 253 rfl]
theorem plM_congr {σ σ' : xSig} (h : sam (cM 9) σ σ') : plM σ' = plM σ := by
  unfold plM
  rw [h.at 281 18 rfl, h.cell 292 rfl, h.cell 293 rfl, h.cell 294 rfl]
theorem MW.of {σ σ' : xSig} {p : Int} {v : Fo} (h : MW σ p v) (hs : σ' 282 = σ 282) : MW σ' p v := ⟨h.1.of hs, h.2⟩
theorem RMc_fp {τ τ' σ σ' : xSig} {G : Nat → Fo} : ∀ k, sam (cT k) τ τ' → sam (cM k) σ σ' → RMc τ G σ k → RMc τ' G σ' k
  | 0, h1, h2, h => fun n hn hh => (h n hn (by rw [← hasd_congr (h1.cell 27 rfl)]; exact hh)).of (h2.cell 282 rfl)
  | 1, h1, h2, h => fun i hi => (h i (by rw [← h1.at 1 2 rfl]; exact hi)).of (h2.cell 282 rfl)
  | 2, h1, h2, h => fun i hi => (h i (by rw [← h1.at 256 4 rfl]; exact hi)).of (h2.cell 282 rfl)
  | 3, h1, h2, h => fun n hn => by rw [h2.cell 283 rfl, hasd_congr (h1.cell 27 rfl)]; exact h n hn
  | 4, h1, h2, h => by
    show σ' 281 2 = τ' 25 4
    rw [h2.at 281 2 rfl, h1.at 25 4 rfl]; exact h
  | 5, h1, h2, h => by
    show σ' 281 3 = τ' 1 2
    rw [h2.at 281 3 rfl, h1.at 1 2 rfl]; exact h
  | 6, h1, h2, h => fun f h0 h8 => by rw [h2.cell 286 rfl, h1.cell 28 rfl]; exact h f h0 h8
  | 7, h1, h2, h => fun k h0 h3 => by rw [h2.cell 288 rfl, h2.cell 287 rfl, h2.cell 289 rfl, ihas_congr (h1.cell 249 rfl), h1.cell 249 rfl, h1.cell 250 rfl]; exact h k h0 h3
  | 8, h1, h2, h => by
    refine ⟨?_, fun i hi3 hi => ?_⟩
    · rw [h2.at 281 14 rfl, h1.at 256 4 rfl]; exact h.1
    · rw [h1.at 256 4 rfl] at hi
      have hI := h.2 i hi3 hi
      rw [h2.cell 290 rfl, h2.cell 291 rfl]
      have e : τ' (264 + 3 * i) = τ (264 + 3 * i) := by
        rcases (by omega : i = 0 ∨ i = 1 ∨ i = 2) with rfl | rfl | rfl
        · exact h1.cell 264 rfl
        · exact h1.cell 267 rfl
        · exact h1.cell 270 rfl
      rw [e]
      exact hI
  | 9, h1, h2, h => by
    refine ⟨?_, ?_⟩
    · rw [h2.at 281 18 rfl, h1.at 248 6 rfl]; exact h.1
    · rw [plC_congr h1, plM_congr h2]; exact h.2
  | 10, h1, h2, h => by
    show σ' 295 0 = τ' 256 6 ∧ σ' 295 1 = τ' 256 7 ∧ σ' 295 2 = τ' 256 8 ∧ σ' 295 3 = τ' 256 9
    rw [h2.cell 295 rfl, h1.at 256 6 rfl, h1.at 256 7 rfl, h1.at 256 8 rfl, h1.at 256 9 rfl]; exact h
  | 11, h1, h2, h => by
    refine ⟨?_, fun i hi => ?_⟩
    · rw [h2.at 281 21 rfl, h1.at 256 5 rfl]; exact h.1
    · rw [h1.at 256 5 rfl] at hi
      rw [h2.cell 296 rfl, h1.cell 263 rfl]; exact h.2 i hi
  | 12, h1, h2, h => by
    refine ⟨?_, fun i h0 hi => ?_⟩
    · rw [h2.at 281 24 rfl, h1.at 231 7 rfl]; exact h.1
    · rw [h1.at 231 7 rfl] at hi
      rw [h2.cell 297 rfl, h2.cell 298 rfl, h1.cell 232 rfl, h1.cell 233 rfl]; exact h.2 i h0 hi
  | 13, h1, h2, h => by
    show (τ' 231 11 = -1 → σ' 281 25 = -1) ∧ (τ' 231 11 ≠ -1 → σ' 281 25 = τ' 232 (τ' 231 11) ∧ σ' 281 26 = τ' 231 12)
    rw [h2.at 281 25 rfl, h2.at 281 26 rfl, h1.at 231 11 rfl, h1.at 231 12 rfl, h1.cell 232 rfl]; exact h
  | 14, h1, h2, h => fun n hn => by rw [h2.cell 299 rfl, h1.cell 235 rfl]; exact h n hn
  | 15, h1, h2, h => fun s h0 h3 => by rw [h2.cell 300 rfl, h1.cell 234 rfl]; exact h s h0 h3
  | 16, h1, h2, h => by
    show σ' 281 29 = τ' 231 9 ∧ σ' 281 30 = τ' 231 10
    rw [h2.at 281 29 rfl, h2.at 281 30 rfl, h1.at 231 9 rfl, h1.at 231 10 rfl]; exact h
  | 17, h1, h2, h => by
    show σ' 281 31 = τ' 231 8
    rw [h2.at 281 31 rfl, h1.at 231 8 rfl]; exact h
  | 18, h1, h2, h => fun r h0 h3 => by rw [h2.cell 301 rfl, h2.cell 302 rfl, h1.cell 236 rfl, h1.cell 237 rfl]; exact h r h0 h3
  | 19, h1, h2, h => by
    refine ⟨?_, fun i h0 hi => ?_⟩
    · rw [h2.at 281 37 rfl, h1.at 239 3 rfl]; exact h.1
    · rw [h1.at 239 3 rfl] at hi
      rw [h2.cell 303 rfl, h2.cell 304 rfl, h2.cell 305 rfl, h1.cell 240 rfl, h1.cell 241 rfl, h1.cell 242 rfl]; exact h.2 i h0 hi
  | 20, h1, h2, h => by
    show σ' 281 38 = τ' 0 8
    rw [h2.at 281 38 rfl, h1.at 0 8 rfl]; exact h
  | 21, h1, h2, h => by
    show σ' 281 39 = τ' 0 9
    rw [h2.at 281 39 rfl, h1.at 0 9 rfl]; exact h
  | 22, h1, h2, h => by
    refine ⟨?_, fun i h0 hi => ?_⟩
    · rw [h2.at 281 46 rfl, h1.at 273 6 rfl]; exact h.1
    · rw [h1.at 273 6 rfl] at hi
      rw [h2.cell 308 rfl, h2.cell 309 rfl, h2.cell 310 rfl, h1.cell 274 rfl, h1.cell 275 rfl, h1.cell 276 rfl]; exact h.2 i h0 hi
  | k + 23, _, _, _ => trivial
/-! ===== the class's own invariants ===== -/
/-- an index can look by one of a shape's filters -/
def hasFor (s x : Int) : Prop := ∃ rel : Int, (0 ≤ rel ∧ rel < 3) ∧ (s / 130321 = x * 5 + rel + 1 ∨ s / 361 % 361 = x * 5 + rel + 1 ∨ s % 361 = x * 5 + rel + 1)
def KIc (i : Nat) (τ : xSig) (T : Nat → List Int) (G : Nat → Fo) : Nat → Prop
  | 0 => ∀ k : Nat, (k : Int) < τ 1 2 → T (5 + 2 * k) = tk (G (5 + 2 * k))
  | 1 => ∀ n : Nat, n < 100 → hasd τ n = true → T (31 + 2 * n) = tk (G (31 + 2 * n)) ∧ ∃ F, G (31 + 2 * n) = .add F (.num 0)
  | 2 => ∀ k : Nat, k < 3 → (k : Int) < τ 256 4 → T (265 + 3 * k) = tk (G (265 + 3 * k)) ∧ (0 ≤ τ (264 + 3 * k) 1 ∧ τ (264 + 3 * k) 1 < 72) ∧ (0 ≤ τ (264 + 3 * k) 2 ∧ τ (264 + 3 * k) 2 ≤ 4) ∧ (τ (264 + 3 * k) 2 = 4 → knd (tok (tk (G (265 + 3 * k))) 0) = 1)
  | 3 => 0 ≤ τ 1 2 ∧ τ 1 2 ≤ 10
  | 4 => n01 τ 27 ∧ τ 25 4 = cnd τ ∧ cnd τ ≤ 60
  | 5 => ∀ f : Int, 0 ≤ τ 28 f ∧ τ 28 f ≤ 4
  | 6 => CHR τ ∧ τ 232 0 = 0 ∧ (∀ k : Int, 0 ≤ k → k + 1 < τ 231 7 → τ 232 k < τ 232 (k + 1)) ∧ (∀ k : Int, 0 ≤ k → k < τ 231 7 → τ 232 k < 1000) ∧ τ 231 11 < τ 231 7 ∧ (τ 231 11 = -1 → τ 231 12 = -1) ∧ (τ 231 11 ≠ -1 → 0 ≤ τ 231 12)
  | 7 => ∀ n : Nat, n < 100 → τ 235 n = 1 → hasd τ n = true ∧ τ 231 11 ≠ -1 ∧ chk τ (T (31 + 2 * n)) = τ 231 11
  | 8 => IXR τ ∧ τ 248 6 ≤ i ∧ (∀ q ∈ plC τ, vshp q.1 ∧ (q.2.1 = -1 ∨ (ihas τ q.2.1 = true ∧ hasFor q.1 (pxs τ q.2.1)))) ∧ ((plC τ).map Prod.fst).Nodup
  | 9 => sOK (τ 256 6, τ 256 7, 0) 0 ∧ (τ 256 9 = 0 ∨ τ 256 9 = 1) ∧ (0 ≤ τ 256 4 ∧ τ 256 4 ≤ 3)
  | 10 => (0 ≤ τ 256 5 ∧ τ 256 5 ≤ 60) ∧ ∀ k : Nat, (k : Int) < τ 256 5 → 0 ≤ τ 263 k ∧ τ 263 k < 100
  | 11 => 0 ≤ τ 239 3 ∧ τ 239 3 + τ 25 4 ≤ 2 * i
  | 12 => (0 ≤ τ 231 8 ∧ τ 231 8 ≤ i + 1) ∧ ∀ r : Int, 0 ≤ r → r < 2 → 0 ≤ τ 236 r ∧ τ 236 r ≤ i + 1
  | 13 => (-1 ≤ τ 0 8 ∧ τ 0 8 < 8) ∧ (0 ≤ τ 0 9 ∧ τ 0 9 ≤ 20 * i)
  | 14 => (0 ≤ τ 273 6 ∧ τ 273 6 ≤ 1440) ∧ ∀ k : Int, 0 ≤ k → k < τ 273 6 → 0 ≤ τ 275 k ∧ τ 275 k ≤ 100000
  | _ => True
def cK : Nat → List (Nat × Int)
  | 0 => [(1, 2)]
  | 1 => [(27, -1)]
  | 2 => [(256, 4), (264, -1), (267, -1), (270, -1)]
  | 3 => [(1, 2)]
  | 4 => [(27, -1), (25, 4)]
  | 5 => [(28, -1)]
  | 6 => [(231, 7), (231, 9), (231, 10), (231, 11), (231, 12), (232, -1), (233, -1), (235, -1)]
  | 7 => [(235, -1), (27, -1), (231, 7), (231, 9), (231, 10), (231, 11), (232, -1)]
  | 8 => [(248, 6), (249, -1), (250, -1), (251, -1), (252, -1), (253, -1)]
  | 9 => [(256, 4), (256, 6), (256, 7), (256, 9)]
  | 10 => [(256, 5), (263, -1)]
  | 11 => [(239, 3), (25, 4)]
  | 12 => [(231, 8), (236, -1)]
  | 13 => [(0, 8), (0, 9)]
  | 14 => [(273, 6), (275, -1)]
  | _ => []
def KI (i : Nat) (τ : xSig) (T : Nat → List Int) (G : Nat → Fo) : Prop := ∀ k, KIc i τ T G k
theorem cnd_congr {σ σ' : xSig} (h : σ' 27 = σ 27) : cnd σ' = cnd σ := by
  unfold cnd
  exact smN_congr 100 0 fun j _ _ => by rw [hasd_congr h]
theorem cfst_congr {σ σ' : xSig} (h7 : σ' 231 7 = σ 231 7) (h2 : σ' 232 = σ 232) (c : Int) : cfst σ' c = cfst σ c := by
  unfold cfst chas
  rw [h7, h2]
theorem kyo_congr9 {σ σ' : xSig} (h9 : σ' 231 9 = σ 231 9) (h10 : σ' 231 10 = σ 231 10) (t : List Int) : kyo σ' t = kyo σ t := by
  unfold kyo
  rw [h9, h10]
theorem chk_congr9 {σ σ' : xSig} (h7 : σ' 231 7 = σ 231 7) (h9 : σ' 231 9 = σ 231 9) (h10 : σ' 231 10 = σ 231 10) (h2 : σ' 232 = σ 232) (t : List Int) : chk σ' t = chk σ t := by
  unfold chk
  rw [show cfst σ' = cfst σ from funext (cfst_congr h7 h2), kyo_congr9 h9 h10, h7]
theorem KIc_fp {τ τ' : xSig} {T : Nat → List Int} {G : Nat → Fo} {i i' : Nat} (hi : i ≤ i') : ∀ k, sam (cK k) τ τ' → KIc i τ T G k → KIc i' τ' T G k
  | 0, h1, h => fun k hk => h k (by rw [← h1.at 1 2 rfl]; exact hk)
  | 1, h1, h => fun n hn hh => h n hn (by rw [← hasd_congr (h1.cell 27 rfl)]; exact hh)
  | 2, h1, h => fun k hk3 hk => by
    rw [h1.at 256 4 rfl] at hk
    have e : τ' (264 + 3 * k) = τ (264 + 3 * k) := by
      rcases (by omega : k = 0 ∨ k = 1 ∨ k = 2) with rfl | rfl | rfl
      · exact h1.cell 264 rfl
      · exact h1.cell 267 rfl
      · exact h1.cell 270 rfl
    rw [e]
    exact h k hk3 hk
  | 3, h1, h => by
    show 0 ≤ τ' 1 2 ∧ τ' 1 2 ≤ 10
    rw [h1.at 1 2 rfl]; exact h
  | 4, h1, h => by
    refine ⟨fun j => ?_, ?_, ?_⟩
    · rw [h1.cell 27 rfl]; exact h.1 j
    · rw [h1.at 25 4 rfl, cnd_congr (h1.cell 27 rfl)]; exact h.2.1
    · rw [cnd_congr (h1.cell 27 rfl)]; exact h.2.2
  | 5, h1, h => fun f => by rw [h1.cell 28 rfl]; exact h f
  | 6, h1, h => by
    obtain ⟨hC, h2, h3, h4, h5, h6, h7⟩ := h
    obtain ⟨c1, c2, c3, c4, c5, c6, c7, c8⟩ := hC
    refine ⟨⟨?_, ?_, ?_, ?_, ?_, ?_, ?_, ?_⟩, ?_, ?_, ?_, ?_, ?_, ?_⟩
    · rw [h1.at 231 7 rfl]; exact c1
    · rw [h1.at 231 9 rfl]; exact c2
    · rw [h1.at 231 10 rfl]; exact c3
    · rw [h1.at 231 11 rfl]; exact c4
    · rw [h1.at 231 12 rfl]; exact c5
    · rw [h1.cell 232 rfl]; exact c6
    · rw [h1.cell 233 rfl]; exact c7
    · intro j; rw [h1.cell 235 rfl]; exact c8 j
    · rw [h1.cell 232 rfl]; exact h2
    · rw [h1.cell 232 rfl, h1.at 231 7 rfl]; exact h3
    · rw [h1.cell 232 rfl, h1.at 231 7 rfl]; exact h4
    · rw [h1.at 231 11 rfl, h1.at 231 7 rfl]; exact h5
    · rw [h1.at 231 11 rfl, h1.at 231 12 rfl]; exact h6
    · rw [h1.at 231 11 rfl, h1.at 231 12 rfl]; exact h7
  | 7, h1, h => fun n hn hc => by
    rw [h1.cell 235 rfl] at hc
    have := h n hn hc
    rw [hasd_congr (h1.cell 27 rfl), h1.at 231 11 rfl, chk_congr9 (h1.at 231 7 rfl) (h1.at 231 9 rfl) (h1.at 231 10 rfl) (h1.cell 232 rfl)]
    exact this
  | 8, h1, h => by
    obtain ⟨hX, h2, h3, h4⟩ := h
    obtain ⟨x1, x2, x3, x4, x5, x6⟩ := hX
    have e : plC τ' = plC τ := by
      unfold plC
      rw [h1.at 248 6 rfl, h1.cell 251 rfl, h1.cell 252 rfl, h1.cell 253 rfl]
    refine ⟨⟨?_, fun j => ?_, ?_, ?_, ?_, ?_⟩, ?_, fun q hq => ?_, ?_⟩
    · rw [h1.cell 249 rfl]; exact x1
    · rw [h1.cell 250 rfl]; exact x2 j
    · rw [h1.at 248 6 rfl]; exact x3
    · rw [h1.cell 251 rfl]; exact x4
    · rw [h1.cell 252 rfl]; exact x5
    · rw [h1.cell 253 rfl]; exact x6
    · rw [h1.at 248 6 rfl]; omega
    · rw [e] at hq
      rw [ihas_congr (h1.cell 249 rfl), pxs_congr (h1.cell 249 rfl)]
      exact h3 q hq
    · rw [e]; exact h4
  | 9, h1, h => by
    show sOK (τ' 256 6, τ' 256 7, 0) 0 ∧ (τ' 256 9 = 0 ∨ τ' 256 9 = 1) ∧ (0 ≤ τ' 256 4 ∧ τ' 256 4 ≤ 3)
    rw [h1.at 256 4 rfl, h1.at 256 6 rfl, h1.at 256 7 rfl, h1.at 256 9 rfl]; exact h
  | 10, h1, h => by
    refine ⟨?_, fun k hk => ?_⟩
    · rw [h1.at 256 5 rfl]; exact h.1
    · rw [h1.at 256 5 rfl] at hk
      rw [h1.cell 263 rfl]; exact h.2 k hk
  | 11, h1, h => by
    have q : 0 ≤ τ 239 3 ∧ τ 239 3 + τ 25 4 ≤ 2 * i := h
    show 0 ≤ τ' 239 3 ∧ τ' 239 3 + τ' 25 4 ≤ 2 * i'
    rw [h1.at 239 3 rfl, h1.at 25 4 rfl]; omega
  | 12, h1, h => by
    refine ⟨?_, fun r h0 h2 => ?_⟩
    · have := h.1
      rw [h1.at 231 8 rfl]; omega
    · have := h.2 r h0 h2
      rw [h1.cell 236 rfl]; omega
  | 13, h1, h => by
    have q : (-1 ≤ τ 0 8 ∧ τ 0 8 < 8) ∧ (0 ≤ τ 0 9 ∧ τ 0 9 ≤ 20 * i) := h
    show (-1 ≤ τ' 0 8 ∧ τ' 0 8 < 8) ∧ (0 ≤ τ' 0 9 ∧ τ' 0 9 ≤ 20 * i')
    rw [h1.at 0 8 rfl, h1.at 0 9 rfl]; omega
  | 14, h1, h => by
    refine ⟨?_, fun k h0 hk => ?_⟩
    · rw [h1.at 273 6 rfl]; exact h.1
    · rw [h1.at 273 6 rfl] at hk
      rw [h1.cell 275 rfl]; exact h.2 k h0 hk
  | k + 15, _, _ => trivial
/-! ===== the invariant of all, and its step ===== -/
def IM (i : Nat) (τ : xSig) (T : Nat → List Int) (G : Nat → Fo) (σ : xSig) : Prop := KI i τ T G ∧ RM τ G σ
def INV (i : Nat) (σ : xSig) : Prop := ∃ T G, VAll σ T ∧ IM i σ T G σ
/-- no place of these is of a Value -/
def nva (L : List (Nat × Int)) : Bool := L.all fun q => !vA q.1
theorem sam_fv {L K : List (Nat × Int)} {σ σ' : xSig} (h : FV L σ σ') (hn : nva K = true) (ho : ovl K L = false) : sam K σ σ' := fun b j hi => by
  obtain ⟨q, hq, hq2⟩ := List.any_eq_true.mp hi
  have := List.all_eq_true.mp hn q hq
  simp only [Bool.and_eq_true, beq_iff_eq, Bool.not_eq_true'] at hq2 this
  exact h b j (by rw [← hq2.1]; exact this) (ovl_in ho hi)
theorem nva_all : ∀ k, k < 23 → (nva (cT k) && (nva (cM k) && nva (cK k))) = true := by decide +kernel
/-- which rows are clear of the places that change -/
def disR (S : List Nat) (L : List (Nat × Int)) : Bool := (List.range 23).all fun k => S.contains k || (!ovl (cT k) L && !ovl (cM k) L)
def disK (S : List Nat) (L : List (Nat × Int)) : Bool := (List.range 15).all fun k => S.contains k || !ovl (cK k) L
theorem RMc_G {τ σ : xSig} {G G' : Nat → Fo} : ∀ k, 3 ≤ k → RMc τ G σ k → RMc τ G' σ k
  | 0, h, _ => absurd h (by omega)
  | 1, h, _ => absurd h (by omega)
  | 2, h, _ => absurd h (by omega)
  | 3, _, h => h
  | 4, _, h => h
  | 5, _, h => h
  | 6, _, h => h
  | 7, _, h => h
  | 8, _, h => h
  | 9, _, h => h
  | 10, _, h => h
  | 11, _, h => h
  | 12, _, h => h
  | 13, _, h => h
  | 14, _, h => h
  | 15, _, h => h
  | 16, _, h => h
  | 17, _, h => h
  | 18, _, h => h
  | 19, _, h => h
  | 20, _, h => h
  | 21, _, h => h
  | 22, _, h => h
  | _ + 23, _, h => h
theorem KIc_TG {τ : xSig} {T T' : Nat → List Int} {G G' : Nat → Fo} {i : Nat} : ∀ k, k ≠ 0 → k ≠ 1 → k ≠ 2 → k ≠ 7 → KIc i τ T G k → KIc i τ T' G' k
  | 0, h, _, _, _, _ => absurd rfl h
  | 1, _, h, _, _, _ => absurd rfl h
  | 2, _, _, h, _, _ => absurd rfl h
  | 3, _, _, _, _, h => h
  | 4, _, _, _, _, h => h
  | 5, _, _, _, _, h => h
  | 6, _, _, _, _, h => h
  | 7, _, _, _, h, _ => absurd rfl h
  | 8, _, _, _, _, h => h
  | 9, _, _, _, _, h => h
  | 10, _, _, _, _, h => h
  | 11, _, _, _, _, h => h
  | 12, _, _, _, _, h => h
  | 13, _, _, _, _, h => h
  | 14, _, _, _, _, h => h
  | _ + 15, _, _, _, _, h => h
theorem RM.step {σ σ' : xSig} {G G' : Nat → Fo} (S : List Nat) (L : List (Nat × Int)) (h : RM σ G σ) (hF : FV L σ σ') (hd : disR S L = true) (hG : G' = G ∨ (0 ∈ S ∧ 1 ∈ S ∧ 2 ∈ S)) (hS : ∀ k ∈ S, RMc σ' G' σ' k) : RM σ' G' σ' := by
  intro k
  by_cases hk : k < 23
  · by_cases hs : k ∈ S
    · exact hS k hs
    · have hdk := List.all_eq_true.mp hd k (List.mem_range.mpr hk)
      have hn := nva_all k hk
      simp only [Bool.or_eq_true, Bool.and_eq_true, Bool.not_eq_true', List.contains_iff_mem] at hdk hn
      have hd2 := hdk.resolve_left hs
      have base := RMc_fp k (sam_fv hF hn.1 hd2.1) (sam_fv hF hn.2.1 hd2.2) (h k)
      rcases hG with rfl | ⟨q0, q1, q2⟩
      · exact base
      · refine RMc_G k ?_ base
        rcases (by omega : k = 0 ∨ k = 1 ∨ k = 2 ∨ 3 ≤ k) with rfl | rfl | rfl | q
        · exact absurd q0 hs
        · exact absurd q1 hs
        · exact absurd q2 hs
        · exact q
  · obtain ⟨m, rfl⟩ : ∃ m, k = m + 23 := ⟨k - 23, by omega⟩
    trivial
theorem KI.step {σ σ' : xSig} {T T' : Nat → List Int} {G G' : Nat → Fo} {i i' : Nat} (S : List Nat) (L : List (Nat × Int)) (h : KI i σ T G) (hi : i ≤ i') (hF : FV L σ σ') (hd : disK S L = true) (hG : (T' = T ∧ G' = G) ∨ (0 ∈ S ∧ 1 ∈ S ∧ 2 ∈ S ∧ 7 ∈ S)) (hS : ∀ k ∈ S, KIc i' σ' T' G' k) : KI i' σ' T' G' := by
  intro k
  by_cases hk : k < 15
  · by_cases hs : k ∈ S
    · exact hS k hs
    · have hdk := List.all_eq_true.mp hd k (List.mem_range.mpr hk)
      have hn := nva_all k (by omega)
      simp only [Bool.or_eq_true, Bool.and_eq_true, Bool.not_eq_true', List.contains_iff_mem] at hdk hn
      have hd2 := hdk.resolve_left hs
      have base := KIc_fp (T := T) (G := G) hi k (sam_fv hF hn.2.2 hd2) (h k)
      rcases hG with ⟨rfl, rfl⟩ | ⟨q0, q1, q2, q7⟩
      · exact base
      · refine KIc_TG k (fun e => ?_) (fun e => ?_) (fun e => ?_) (fun e => ?_) base
        · exact hs (e ▸ q0)
        · exact hs (e ▸ q1)
        · exact hs (e ▸ q2)
        · exact hs (e ▸ q7)
  · obtain ⟨m, rfl⟩ : ∃ m, k = m + 15 := ⟨k - 15, by omega⟩
    trivial
