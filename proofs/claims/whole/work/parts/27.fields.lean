/-! ===== a field set, a field taken ===== -/
def setf (f : Int) (w : Fo) : Fo → Fo
  | .mulL k F => if k = f then .mulL f (cat w (nxt F)) else if f < k then .mulL f (cat w (.mulL k F)) else .mulL k (setf f w F)
  | .mulR n x => .mulR (setf f w n) x
  | .add c n => .add c (setf f w n)
  | .sub c n => .sub c (setf f w n)
  | _ => .mulL f (cat w (.num 0))
def delf (f : Int) : Fo → Fo
  | .mulL k F => if k = f then nxt F else .mulL k (delf f F)
  | .mulR n x => .mulR (delf f n) x
  | .add c n => .add c (delf f n)
  | .sub c n => .sub c (delf f n)
  | _ => .num 0
theorem okf_lo : ∀ F : Fo, ∀ (b v : Bool) (lo lo2 : Int), okf b v lo F → lo2 ≤ lo → okf b v lo2 F := by
  intro F
  induction F with
  | num z =>
    intro b v lo lo2 h hl
    exact h
  | var z =>
    intro b v lo lo2 h
    exact h.elim
  | neg z ih =>
    intro b v lo lo2 h
    exact h.elim
  | mulL k F ih =>
    intro b v lo lo2 h hl
    exact ⟨h.1, h.2.1, ⟨by have := h.2.2.1; omega, h.2.2.1.2⟩, h.2.2.2⟩
  | mulR n x ih =>
    intro b v lo lo2 h hl
    exact ⟨h.1, h.2.1, ih _ _ _ _ h.2.2 hl⟩
  | add c n ihc ihn =>
    intro b v lo lo2 h hl
    exact ⟨h.1, h.2.1, ihn _ _ _ _ h.2.2 hl⟩
  | sub c n ihc ihn =>
    intro b v lo lo2 h hl
    exact ⟨h.1, h.2.1, ihn _ _ _ _ h.2.2 hl⟩
theorem setf_ok : ∀ F : Fo, ∀ (f : Int) (w : Fo) (v : Bool) (lo : Int), okf true v lo F → ok1 w → lo ≤ f → f < 8 → okf true v lo (setf f w F) := by
  intro F
  induction F with
  | num z =>
    intro f w v lo h hw hl h8
    exact ⟨rfl, h.1, ⟨hl, h8⟩, cat_ok hw ⟨rfl, rfl⟩⟩
  | var z =>
    intro f w v lo h
    exact h.elim
  | neg z ih =>
    intro f w v lo h
    exact h.elim
  | mulL k F ih =>
    intro f w v lo h hw hl h8
    have h1 := h.2.2.1
    simp only [setf]
    by_cases q : k = f
    · rw [if_pos q]
      subst q
      exact ⟨rfl, h.2.1, ⟨hl, h8⟩, cat_ok hw (val_cases h.2.2.2).2.1⟩
    · rw [if_neg q]
      by_cases q2 : f < k
      · rw [if_pos q2]
        exact ⟨rfl, h.2.1, ⟨hl, h8⟩, cat_ok hw ⟨rfl, rfl, ⟨by omega, h1.2⟩, h.2.2.2⟩⟩
      · rw [if_neg q2]
        exact ⟨rfl, h.2.1, h1, ih _ _ _ _ h.2.2.2 hw (by omega) h8⟩
  | mulR n x ih =>
    intro f w v lo h hw hl h8
    exact ⟨h.1, h.2.1, ih _ _ _ _ h.2.2 hw hl h8⟩
  | add c n ihc ihn =>
    intro f w v lo h hw hl h8
    exact ⟨h.1, h.2.1, ihn _ _ _ _ h.2.2 hw hl h8⟩
  | sub c n ihc ihn =>
    intro f w v lo h hw hl h8
    exact ⟨h.1, h.2.1, ihn _ _ _ _ h.2.2 hw hl h8⟩
theorem delf_ok : ∀ F : Fo, ∀ (f : Int) (v : Bool) (lo : Int), okf true v lo F → okf true v lo (delf f F) := by
  intro F
  induction F with
  | num z =>
    intro f v lo h
    exact ⟨h.1, rfl⟩
  | var z =>
    intro f v lo h
    exact h.elim
  | neg z ih =>
    intro f v lo h
    exact h.elim
  | mulL k F ih =>
    intro f v lo h
    have h1 := h.2.2.1
    simp only [delf]
    by_cases q : k = f
    · rw [if_pos q, h.2.1]
      exact okf_lo _ _ _ _ _ (val_cases h.2.2.2).2.1 (by omega)
    · rw [if_neg q]
      exact ⟨rfl, h.2.1, h1, ih _ _ _ h.2.2.2⟩
  | mulR n x ih =>
    intro f v lo h
    exact ⟨h.1, h.2.1, ih _ _ _ h.2.2⟩
  | add c n ihc ihn =>
    intro f v lo h
    exact ⟨h.1, h.2.1, ihn _ _ _ h.2.2⟩
  | sub c n ihc ihn =>
    intro f v lo h
    exact ⟨h.1, h.2.1, ihn _ _ _ h.2.2⟩
theorem setf_pa : ∀ F : Fo, ∀ (f : Int) (w : Fo) (v : Bool) (lo : Int), okf true v lo F → ok1 w → pa (setf f w F) = pa F - pa (get f F) + pa w := by
  intro F
  induction F with
  | num z =>
    intro f w v lo h hw
    simp only [setf, pa, get]
    rw [cat_pa hw]
    simp only [pa]
    omega
  | var z =>
    intro f w v lo h
    exact h.elim
  | neg z ih =>
    intro f w v lo h
    exact h.elim
  | mulL k F ih =>
    intro f w v lo h hw
    have h1 := h.2.2.1
    simp only [setf, get]
    by_cases q : k = f
    · rw [if_pos q, if_pos q]
      simp only [pa]
      rw [cat_pa hw, (val_cases h.2.2.2).2.2.2.2]
      omega
    · rw [if_neg q, if_neg q]
      by_cases q2 : f < k
      · rw [if_pos q2, get_hi F f _ _ _ h.2.2.2 rfl (by omega)]
        simp only [pa]
        rw [cat_pa hw]
        simp only [pa]
        omega
      · rw [if_neg q2]
        simp only [pa]
        exact ih _ _ _ _ h.2.2.2 hw
  | mulR n x ih =>
    intro f w v lo h hw
    have := ih f w _ _ h.2.2 hw
    simp only [setf, pa, get]
    omega
  | add c n ihc ihn =>
    intro f w v lo h hw
    have := ihn f w _ _ h.2.2 hw
    simp only [setf, pa, get]
    omega
  | sub c n ihc ihn =>
    intro f w v lo h hw
    have := ihn f w _ _ h.2.2 hw
    simp only [setf, pa, get]
    omega
theorem delf_pa : ∀ F : Fo, ∀ (f : Int) (v : Bool) (lo : Int), okf true v lo F → pa (delf f F) = pa F - pa (get f F) := by
  intro F
  induction F with
  | num z =>
    intro f v lo h
    simp [delf, pa, get]
  | var z =>
    intro f v lo h
    exact h.elim
  | neg z ih =>
    intro f v lo h
    exact h.elim
  | mulL k F ih =>
    intro f v lo h
    have h1 := h.2.2.1
    simp only [delf, get]
    by_cases q : k = f
    · rw [if_pos q, if_pos q]
      simp only [pa]
      rw [(val_cases h.2.2.2).2.2.2.2]
      omega
    · rw [if_neg q, if_neg q]
      simp only [pa]
      exact ih _ _ _ h.2.2.2
  | mulR n x ih =>
    intro f v lo h
    have := ih f _ _ h.2.2
    simp only [delf, pa, get]
    omega
  | add c n ihc ihn =>
    intro f v lo h
    have := ihn f _ _ h.2.2
    simp only [delf, pa, get]
    omega
  | sub c n ihc ihn =>
    intro f v lo h
    have := ihn f _ _ h.2.2
    simp only [delf, pa, get]
    omega
theorem get_pa : ∀ F : Fo, ∀ (f : Int) (v : Bool) (lo : Int), okf true v lo F → 0 ≤ pa (get f F) ∧ pa (get f F) ≤ pa F := by
  intro F
  induction F with
  | num z =>
    intro f v lo h
    simp [pa, get]
  | var z =>
    intro f v lo h
    exact h.elim
  | neg z ih =>
    intro f v lo h
    exact h.elim
  | mulL k F ih =>
    intro f v lo h
    simp only [get, pa]
    split
    · have h1 := (val_cases h.2.2.2).2.2.2.2
      have h2 := pa_nn (fst1 F)
      have h3 := pa_nn (nxt F)
      omega
    · exact ih _ _ _ h.2.2.2
  | mulR n x ih =>
    intro f v lo h
    have := ih f _ _ h.2.2
    simp only [pa, get]
    omega
  | add c n ihc ihn =>
    intro f v lo h
    have := ihn f _ _ h.2.2
    have := pa_nn c
    simp only [pa, get]
    omega
  | sub c n ihc ihn =>
    intro f v lo h
    have := ihn f _ _ h.2.2
    have := pa_nn c
    simp only [pa, get]
    omega
theorem setf_tk : ∀ F : Fo, ∀ (f : Int) (w : Fo) (v : Bool) (lo : Int), okf true v lo F → ok1 w → (∀ G, aft f F = .mulL f G → tk (setf f w F) = tk (bef f F) ++ (1 + f) :: (tk w ++ tk (nxt G))) ∧ ((∀ k G, aft f F = .mulL k G → f < k) → tk (setf f w F) = tk (bef f F) ++ (1 + f) :: (tk w ++ tk (aft f F))) := by
  intro F
  induction F with
  | num z =>
    intro f w v lo h hw
    refine ⟨fun G e => (by cases e), fun _ => ?_⟩
    simp only [setf, tk, bef, aft]
    rw [(cat_tk hw _).1]
    rfl
  | var z =>
    intro f w v lo h
    exact h.elim
  | neg z ih =>
    intro f w v lo h
    exact h.elim
  | mulL k F ih =>
    intro f w v lo h hw
    have h1 := h.2.2.1
    simp only [setf, bef, aft]
    by_cases q : k = f
    · rw [if_pos q, if_pos (by omega : f ≤ k), if_pos (by omega : f ≤ k)]
      refine ⟨fun G e => ?_, fun z => absurd (z k F rfl) (by omega)⟩
      cases e
      simp only [tk]
      rw [(cat_tk hw _).1]
      rfl
    · rw [if_neg q]
      by_cases q2 : f < k
      · rw [if_pos q2, if_pos (by omega : f ≤ k), if_pos (by omega : f ≤ k)]
        refine ⟨fun G e => ?_, fun _ => ?_⟩
        · cases e
          exact absurd rfl q
        · simp only [tk]
          rw [(cat_tk hw _).1]
          rfl
      · rw [if_neg q2, if_neg (by omega : ¬ f ≤ k), if_neg (by omega : ¬ f ≤ k)]
        have := ih f w _ _ h.2.2.2 hw
        refine ⟨fun G e => ?_, fun z => ?_⟩
        · simp only [tk, List.cons_append]
          rw [this.1 G e]
        · simp only [tk, List.cons_append]
          rw [this.2 z]
  | mulR n x ih =>
    intro f w v lo h hw
    have := ih f w _ _ h.2.2 hw
    simp only [setf, bef, aft, tk, List.cons_append]
    exact ⟨fun G e => by rw [this.1 G e], fun z => by rw [this.2 z]⟩
  | add c n ihc ihn =>
    intro f w v lo h hw
    have := ihn f w _ _ h.2.2 hw
    simp only [setf, bef, aft, tk, List.cons_append, List.append_assoc]
    exact ⟨fun G e => by rw [this.1 G e], fun z => by rw [this.2 z]⟩
  | sub c n ihc ihn =>
    intro f w v lo h hw
    have := ihn f w _ _ h.2.2 hw
    simp only [setf, bef, aft, tk, List.cons_append, List.append_assoc]
    exact ⟨fun G e => by rw [this.1 G e], fun z => by rw [this.2 z]⟩
theorem delf_no : ∀ F : Fo, ∀ (f : Int) (v : Bool) (lo : Int), okf true v lo F → f < lo → delf f F = F := by
  intro F
  induction F with
  | num z =>
    intro f v lo h hl
    rw [h.2]
    rfl
  | var z =>
    intro f v lo h
    exact h.elim
  | neg z ih =>
    intro f v lo h
    exact h.elim
  | mulL k F ih =>
    intro f v lo h hl
    have h1 := h.2.2.1
    simp only [delf]
    rw [if_neg (by omega), ih _ _ _ h.2.2.2 (by omega)]
  | mulR n x ih =>
    intro f v lo h hl
    simp only [delf]
    rw [ih _ _ _ h.2.2 hl]
  | add c n ihc ihn =>
    intro f v lo h hl
    simp only [delf]
    rw [ihn _ _ _ h.2.2 hl]
  | sub c n ihc ihn =>
    intro f v lo h hl
    simp only [delf]
    rw [ihn _ _ _ h.2.2 hl]
theorem delf_tk : ∀ F : Fo, ∀ (f : Int) (v : Bool) (lo : Int), okf true v lo F → (∀ G, aft f F = .mulL f G → tk (delf f F) = tk (bef f F) ++ tk (nxt G)) ∧ ((∀ k G, aft f F = .mulL k G → f < k) → tk (delf f F) = tk F) := by
  intro F
  induction F with
  | num z =>
    intro f v lo h
    exact ⟨fun G e => (by cases e), fun _ => rfl⟩
  | var z =>
    intro f v lo h
    exact h.elim
  | neg z ih =>
    intro f v lo h
    exact h.elim
  | mulL k F ih =>
    intro f v lo h
    have h1 := h.2.2.1
    simp only [delf, bef, aft]
    by_cases q : k = f
    · rw [if_pos q, if_pos (by omega : f ≤ k), if_pos (by omega : f ≤ k)]
      refine ⟨fun G e => ?_, fun z => absurd (z k F rfl) (by omega)⟩
      cases e
      rfl
    · rw [if_neg q]
      by_cases q2 : f < k
      · rw [if_pos (by omega : f ≤ k), if_pos (by omega : f ≤ k)]
        refine ⟨fun G e => ?_, fun _ => ?_⟩
        · cases e
          exact absurd rfl q
        · have hd := delf_no F f _ _ h.2.2.2 (by omega)
          simp only [tk]
          rw [hd]
      · rw [if_neg (by omega : ¬ f ≤ k), if_neg (by omega : ¬ f ≤ k)]
        have := ih f _ _ h.2.2.2
        refine ⟨fun G e => ?_, fun z => ?_⟩
        · simp only [tk, List.cons_append]
          rw [this.1 G e]
        · simp only [tk]
          rw [this.2 z]
  | mulR n x ih =>
    intro f v lo h
    have := ih f _ _ h.2.2
    simp only [delf, bef, aft, tk, List.cons_append]
    exact ⟨fun G e => by rw [this.1 G e], fun z => by rw [this.2 z]⟩
  | add c n ihc ihn =>
    intro f v lo h
    have := ihn f _ _ h.2.2
    simp only [delf, bef, aft, tk, List.cons_append, List.append_assoc]
    exact ⟨fun G e => by rw [this.1 G e], fun z => by rw [this.2 z]⟩
  | sub c n ihc ihn =>
    intro f v lo h
    have := ihn f _ _ h.2.2
    simp only [delf, bef, aft, tk, List.cons_append, List.append_assoc]
    exact ⟨fun G e => by rw [this.1 G e], fun z => by rw [this.2 z]⟩
/-- what stands first behind a field's place is not its sign -/
theorem aft_tok {F : Fo} {v : Bool} {lo f : Int} (hf : 0 ≤ f) (h : okf true v lo F) (ha : ∀ k G, aft f F = .mulL k G → f < k) (s : List Int) : tok (tk (aft f F) ++ 0 :: s) 0 ≠ 1 + f := by
  have h1 := aft_ok F f _ _ _ h
  generalize aft f F = A at h1 ha
  cases A with
  | num z => show tok (0 :: s) 0 ≠ 1 + f; rw [show tok (0 :: s) 0 = 0 from rfl]; omega
  | var z => exact h1.elim
  | neg z => exact h1.elim
  | mulL k G =>
    have := ha k G rfl
    show tok ((1 + k) :: (tk G ++ 0 :: s)) 0 ≠ 1 + f
    rw [show tok ((1 + k) :: (tk G ++ 0 :: s)) 0 = 1 + k from rfl]
    omega
  | mulR n x => exact absurd h1.1 (by decide)
  | add c n => exact absurd h1.1 (by decide)
  | sub c n => exact absurd h1.1 (by decide)
/-- the classes' set and take, over forests -/
theorem sp_setF {σ : xSig} {a cap b cap' : Nat} {p0 s : List Int} {F w : Fo} {f : Int} (hf : 0 ≤ f ∧ f < 8) (hp0 : 0 < p0.length) (hF : okf true false 0 F) (hw : ok1 w) (hV : VH σ a cap (p0 ++ (tk F ++ 0 :: s))) (hW : VH σ b cap' (tk w)) (hn : (p0 ++ (tk F ++ 0 :: s)).length + (tk w).length + 1 ≤ cap) (hb1 : b ≠ a) (hb2 : b ≠ a + 1) (hb3 : b + 1 ≠ a) :
    ∃ σ' : xSig, x_Sp MX10_setField 0 0 [.ref a, .int (ii (p0.length - 1)), .int (ii f), .ref b] (St σ) vv (St σ') ∧ VH σ' a cap (p0 ++ (tk (setf f w F) ++ 0 :: s)) ∧ Fr a σ σ' := by
  have hk := ssc_bef F f _ _ _ (by omega) hf.1 rfl hF s
  have ht := setf_tk F f w _ _ hF hw
  have hba := ba_tk F f _ _ _ hF
  rcases aft_cases (f := f) hF with ⟨G, a1, a2, a3, a4⟩ | ⟨a1, a2, a3⟩ | a
  · obtain ⟨v1, v2, v3, v4, v5⟩ := val_cases a2
    have e : tk F ++ 0 :: s = tk (bef f F) ++ (1 + f) :: tk (fst1 G) ++ (tk (nxt G) ++ 0 :: s) := by rw [hba, a1]; simp only [tk]; rw [v4]; simp
    rw [e] at hk hV hn
    simp only [List.length_append, List.length_cons] at hn
    obtain ⟨σ', k1, k2, k3⟩ := sp_setField_has hf hp0 (ra := tk (bef f F)) (v := tk (fst1 G)) (rc := tk (nxt G) ++ 0 :: s) (by simpa using hV) hk (vsc_cv (ok1_Cv v1) _) hW (by simp only [List.length_append, List.length_cons]; omega) hb1 hb2 hb3
    refine ⟨σ', k1, ?_, k3⟩
    rw [ht.1 G a1]
    simpa using k2
  · have e : tk F ++ 0 :: s = tk (bef f F) ++ (tk (aft f F) ++ 0 :: s) := by rw [← List.append_assoc, ← hba]
    rw [e] at hk hV hn
    simp only [List.length_append, List.length_cons] at hn
    obtain ⟨σ', k1, k2, k3⟩ := sp_setField_new hf hp0 (ra := tk (bef f F)) (rb := tk (aft f F) ++ 0 :: s) (by simpa using hV) hk (aft_tok hf.1 hF a3 s) hW (by simp only [List.length_append, List.length_cons]; omega) hb1 hb2 hb3
    refine ⟨σ', k1, ?_, k3⟩
    rw [ht.2 a3]
    simpa using k2
  · omega
theorem sp_takeF {σ : xSig} {a cap : Nat} {p0 s : List Int} {F : Fo} {f : Int} (hf : 0 ≤ f ∧ f < 8) (hp0 : 0 < p0.length) (hF : okf true false 0 F) (hV : VH σ a cap (p0 ++ (tk F ++ 0 :: s))) :
    ∃ σ' : xSig, x_Sp MX10_takeField 0 0 [.ref a, .int (ii (p0.length - 1)), .int (ii f)] (St σ) vv (St σ') ∧ VH σ' a cap (p0 ++ (tk (delf f F) ++ 0 :: s)) ∧ Fr a σ σ' := by
  have hk := ssc_bef F f _ _ _ (by omega) hf.1 rfl hF s
  have ht := delf_tk F f _ _ hF
  have hba := ba_tk F f _ _ _ hF
  rcases aft_cases (f := f) hF with ⟨G, a1, a2, a3, a4⟩ | ⟨a1, a2, a3⟩ | a
  · obtain ⟨v1, v2, v3, v4, v5⟩ := val_cases a2
    have e : tk F ++ 0 :: s = tk (bef f F) ++ (1 + f) :: tk (fst1 G) ++ (tk (nxt G) ++ 0 :: s) := by rw [hba, a1]; simp only [tk]; rw [v4]; simp
    rw [e] at hk hV
    obtain ⟨σ', k1, k2, k3⟩ := sp_takeField_has hf hp0 (ra := tk (bef f F)) (v := tk (fst1 G)) (rc := tk (nxt G) ++ 0 :: s) (by simpa using hV) hk (vsc_cv (ok1_Cv v1) _)
    refine ⟨σ', k1, ?_, k3⟩
    rw [ht.1 G a1]
    simpa using k2
  · have e : tk F ++ 0 :: s = tk (bef f F) ++ (tk (aft f F) ++ 0 :: s) := by rw [← List.append_assoc, ← hba]
    refine ⟨σ, ?_, by rw [ht.2 a3]; exact hV, Fr.rf⟩
    rw [e] at hk hV
    exact sp_takeField_no hf hp0 (ra := tk (bef f F)) (rb := tk (aft f F) ++ 0 :: s) (by simpa using hV) hk (aft_tok hf.1 hF a3 s)
  · omega
