/-! ===== edits of forests ===== -/
def inr9 (x : Int) : Bool := decide (-999 ≤ x ∧ x ≤ 999)
/-- a number added to each number of a row -/
def ade (z : Int) : Fo → Option Fo
  | .mulR n x => if knd x = 1 then (if inr9 (x - 2000 + z) = true then (ade z n).map fun m => .mulR m (2000 + (x - 2000 + z)) else none) else (ade z n).map fun m => .mulR m x
  | .add c n => (ade z n).map fun m => .add c m
  | .sub c n => (ade z n).map fun m => .sub c m
  | F => some F
/-- a row without the parts that are the same as a value -/
def pul (w : List Int) : Fo → Fo
  | .mulR n x => if lexc [x] w = 0 then pul w n else .mulR (pul w n) x
  | .add c n => if lexc (tk (.add c (.num 0))) w = 0 then pul w n else .add c (pul w n)
  | .sub c n => if lexc (tk (.sub c (.num 0))) w = 0 then pul w n else .sub c (pul w n)
  | F => F
/-- a row with a value behind -/
def apd (w : Fo) : Fo → Fo
  | .mulR n x => .mulR (apd w n) x
  | .add c n => .add c (apd w n)
  | .sub c n => .sub c (apd w n)
  | _ => w
/-- the value that an operator leaves at a field; none: refused -/
def edF (F : Fo) (f op : Int) (w : Fo) : Option Fo :=
  if op = 0 then some (setf f w F)
  else if op = 1 then some (delf f F)
  else if op = 2 then (match get f F with
    | .num _ => some (setf f w F)
    | .mulR _ x => if knd x = 1 ∧ inr9 (x - 2000 + (tok (tk w) 0 - 2000)) = true then some (setf f (.mulR (.num 0) (2000 + (x - 2000 + (tok (tk w) 0 - 2000)))) F) else none
    | _ => none)
  else if op = 3 then (match get f F with
    | .num _ => some (setf f (.sub w (.num 0)) F)
    | .sub c _ => some (setf f (.sub (apd w c) (.num 0)) F)
    | _ => none)
  else if op = 4 then (match get f F with
    | .num _ => some F
    | .sub c _ => some (setf f (.sub (pul (tk w) c) (.num 0)) F)
    | _ => none)
  else (match get f F with
    | .num _ => some F
    | .sub c _ => (ade (tok (tk w) 0 - 2000) c).map fun m => setf f (.sub m (.num 0)) F
    | _ => none)
/-- what an update leaves of a document -/
def edD (F : Fo) (path op : Int) (w : Fo) : Option Fo :=
  if (op = 2 ∨ op = 5) ∧ knd (tok (tk w) 0) ≠ 1 then none
  else if path < 8 then edF F path op w
  else match get (path / 8 - 1) F with
    | .num _ => if op = 1 ∨ op = 4 ∨ op = 5 then some F else (edF (.num 0) (path % 8) op w).map fun m => setf (path / 8 - 1) (.add m (.num 0)) F
    | .add c _ => (edF c (path % 8) op w).map fun m => setf (path / 8 - 1) (.add m (.num 0)) F
    | _ => none
theorem apd_tk : ∀ F : Fo, ∀ (w : Fo) (v : Bool) (lo : Int), okf false v lo F → tk (apd w F) = tk F ++ tk w := by
  intro F
  induction F with
  | num z =>
    intro w v lo h
    rfl
  | var z =>
    intro w v lo h
    exact h.elim
  | neg z ih =>
    intro w v lo h
    exact h.elim
  | mulL k F ih =>
    intro w v lo h
    exact absurd h.1 (by decide)
  | mulR n x ih =>
    intro w v lo h
    simp only [apd, tk, List.cons_append]
    rw [ih _ _ _ h.2.2]
  | add c n ihc ihn =>
    intro w v lo h
    simp only [apd, tk, List.cons_append, List.append_assoc]
    rw [ihn _ _ _ h.2.2]
  | sub c n ihc ihn =>
    intro w v lo h
    simp only [apd, tk, List.cons_append, List.append_assoc]
    rw [ihn _ _ _ h.2.2]
theorem apd_ok : ∀ F : Fo, ∀ (w : Fo) (lo : Int), okf false false lo F → ok1 w → okf false false lo (apd w F) ∧ pa (apd w F) = pa F + pa w := by
  intro F
  induction F with
  | num z =>
    intro w lo h hw
    exact ⟨okf_lo _ _ _ _ _ (show okf false false lo w by rcases hw with ⟨x, rfl, hx⟩ | ⟨c, rfl, hc⟩ | ⟨c, rfl, hc⟩; exact ⟨rfl, hx, rfl, rfl⟩; exact ⟨rfl, hc, rfl, rfl⟩; exact ⟨rfl, hc, rfl, rfl⟩) (Int.le_refl _), by simp [apd, pa]⟩
  | var z =>
    intro w lo h
    exact h.elim
  | neg z ih =>
    intro w lo h
    exact h.elim
  | mulL k F ih =>
    intro w lo h
    exact absurd h.1 (by decide)
  | mulR n x ih =>
    intro w lo h hw
    have := ih w _ h.2.2 hw
    exact ⟨⟨rfl, h.2.1, this.1⟩, by simp only [apd, pa]; omega⟩
  | add c n ihc ihn =>
    intro w lo h hw
    have := ihn w _ h.2.2 hw
    exact ⟨⟨rfl, h.2.1, this.1⟩, by simp only [apd, pa]; omega⟩
  | sub c n ihc ihn =>
    intro w lo h hw
    have := ihn w _ h.2.2 hw
    exact ⟨⟨rfl, h.2.1, this.1⟩, by simp only [apd, pa]; omega⟩
theorem pul_ok : ∀ F : Fo, ∀ (w : List Int) (lo : Int), okf false false lo F → okf false false lo (pul w F) ∧ pa (pul w F) ≤ pa F := by
  intro F
  induction F with
  | num z =>
    intro w lo h
    exact ⟨h, Int.le_refl _⟩
  | var z =>
    intro w lo h
    exact h.elim
  | neg z ih =>
    intro w lo h
    exact h.elim
  | mulL k F ih =>
    intro w lo h
    exact absurd h.1 (by decide)
  | mulR n x ih =>
    intro w lo h
    have := ih w _ h.2.2
    simp only [pul]
    split
    · exact ⟨this.1, by simp only [pa]; omega⟩
    · exact ⟨⟨rfl, h.2.1, this.1⟩, by simp only [pa]; omega⟩
  | add c n ihc ihn =>
    intro w lo h
    have := ihn w _ h.2.2
    have h9 := pa_nn c
    simp only [pul]
    split
    · exact ⟨this.1, by simp only [pa]; omega⟩
    · exact ⟨⟨rfl, h.2.1, this.1⟩, by simp only [pa]; omega⟩
  | sub c n ihc ihn =>
    intro w lo h
    have := ihn w _ h.2.2
    have h9 := pa_nn c
    simp only [pul]
    split
    · exact ⟨this.1, by simp only [pa]; omega⟩
    · exact ⟨⟨rfl, h.2.1, this.1⟩, by simp only [pa]; omega⟩
theorem ade_ok : ∀ F : Fo, ∀ (z : Int) (lo : Int) (m : Fo), okf false false lo F → ade z F = some m → okf false false lo m ∧ pa m = pa F := by
  intro F
  induction F with
  | num z =>
    intro z9 lo m h e
    simp only [ade, Option.some.injEq] at e
    rw [← e]
    exact ⟨h, rfl⟩
  | var z =>
    intro z lo m h
    exact h.elim
  | neg z ih =>
    intro z lo m h
    exact h.elim
  | mulL k F ih =>
    intro z lo m h
    exact absurd h.1 (by decide)
  | mulR n x ih =>
    intro z lo m h e
    simp only [ade] at e
    split at e
    · split at e
      · next q1 q2 =>
        obtain ⟨m', hm, rfl⟩ := Option.map_eq_some_iff.mp e
        have := ih z _ m' h.2.2 hm
        have q3 : -999 ≤ x - 2000 + z ∧ x - 2000 + z ≤ 999 := of_decide_eq_true q2
        exact ⟨⟨rfl, by unfold lfx; omega, this.1⟩, by simp only [pa]; omega⟩
      · cases e
    · obtain ⟨m', hm, rfl⟩ := Option.map_eq_some_iff.mp e
      have := ih z _ m' h.2.2 hm
      exact ⟨⟨rfl, h.2.1, this.1⟩, by simp only [pa]; omega⟩
  | add c n ihc ihn =>
    intro z lo m h e
    simp only [ade] at e
    obtain ⟨m', hm, rfl⟩ := Option.map_eq_some_iff.mp e
    have := ihn z _ m' h.2.2 hm
    exact ⟨⟨rfl, h.2.1, this.1⟩, by simp only [pa]; omega⟩
  | sub c n ihc ihn =>
    intro z lo m h e
    simp only [ade] at e
    obtain ⟨m', hm, rfl⟩ := Option.map_eq_some_iff.mp e
    have := ihn z _ m' h.2.2 hm
    exact ⟨⟨rfl, h.2.1, this.1⟩, by simp only [pa]; omega⟩
theorem setf_setf : ∀ F : Fo, ∀ (f : Int) (w w2 : Fo) (v : Bool) (lo : Int), okf true v lo F → ok1 w → setf f w2 (setf f w F) = setf f w2 F := by
  intro F
  induction F with
  | num z =>
    intro f w w2 v lo h hw
    simp only [setf]
    rw [if_pos trivial, (cat_tk hw _).2.2]
  | var z =>
    intro f w w2 v lo h
    exact h.elim
  | neg z ih =>
    intro f w w2 v lo h
    exact h.elim
  | mulL k F ih =>
    intro f w w2 v lo h hw
    simp only [setf]
    by_cases q : k = f
    · rw [if_pos q, if_pos q]
      simp only [setf]
      rw [if_pos trivial, (cat_tk hw _).2.2]
    · rw [if_neg q, if_neg q]
      by_cases q2 : f < k
      · rw [if_pos q2, if_pos q2]
        simp only [setf]
        rw [if_pos trivial, (cat_tk hw _).2.2]
      · rw [if_neg q2, if_neg q2]
        simp only [setf]
        rw [if_neg q, if_neg q2, ih _ _ _ _ _ h.2.2.2 hw]
  | mulR n x ih =>
    intro f w w2 v lo h hw
    simp only [setf]
    rw [ih _ _ _ _ _ h.2.2 hw]
  | add c n ihc ihn =>
    intro f w w2 v lo h hw
    simp only [setf]
    rw [ihn _ _ _ _ _ h.2.2 hw]
  | sub c n ihc ihn =>
    intro f w w2 v lo h hw
    simp only [setf]
    rw [ihn _ _ _ _ _ h.2.2 hw]
theorem setf_aft : ∀ F : Fo, ∀ (f : Int) (w : Fo) (v : Bool) (lo : Int), okf true v lo F → ok1 w → ∃ n, aft f (setf f w F) = .mulL f (cat w n) := by
  intro F
  induction F with
  | num z =>
    intro f w v lo h hw
    exact ⟨_, by simp only [setf, aft]; rw [if_pos (Int.le_refl f)]⟩
  | var z =>
    intro f w v lo h
    exact h.elim
  | neg z ih =>
    intro f w v lo h
    exact h.elim
  | mulL k F ih =>
    intro f w v lo h hw
    simp only [setf]
    by_cases q : k = f
    · rw [if_pos q]
      exact ⟨_, by simp only [aft]; rw [if_pos (Int.le_refl f)]⟩
    · rw [if_neg q]
      by_cases q2 : f < k
      · rw [if_pos q2]
        exact ⟨_, by simp only [aft]; rw [if_pos (Int.le_refl f)]⟩
      · rw [if_neg q2]
        obtain ⟨n, hn⟩ := ih f w _ _ h.2.2.2 hw
        exact ⟨n, by simp only [aft]; rw [if_neg (by omega)]; exact hn⟩
  | mulR n x ih =>
    intro f w v lo h hw
    obtain ⟨n9, hn⟩ := ih f w _ _ h.2.2 hw
    exact ⟨n9, by simp only [setf, aft]; exact hn⟩
  | add c n ihc ihn =>
    intro f w v lo h hw
    obtain ⟨n9, hn⟩ := ihn f w _ _ h.2.2 hw
    exact ⟨n9, by simp only [setf, aft]; exact hn⟩
  | sub c n ihc ihn =>
    intro f w v lo h hw
    obtain ⟨n9, hn⟩ := ihn f w _ _ h.2.2 hw
    exact ⟨n9, by simp only [setf, aft]; exact hn⟩
/-- a document's signs, around the value at a field -/
theorem at_fld {F G : Fo} {f lo : Int} {v : Bool} (h : okf true v lo F) (ha : aft f F = .mulL f G) (p s : List Int) : p ++ (tk F ++ 0 :: s) = (p ++ tk (bef f F) ++ [1 + f]) ++ (tk (fst1 G) ++ (tk (nxt G) ++ 0 :: s)) ∧ ∀ w, ok1 w → p ++ (tk (setf f w F) ++ 0 :: s) = (p ++ tk (bef f F) ++ [1 + f]) ++ (tk w ++ (tk (nxt G) ++ 0 :: s)) := by
  have a2 : okf true true (f + 1) G := by
    have := aft_ok F f _ _ _ h
    rw [ha] at this
    exact this.2.2.2
  refine ⟨?_, fun w hw => ?_⟩
  · rw [ba_tk F f _ _ _ h, ha]
    simp only [tk]
    rw [(val_cases a2).2.2.2.1]
    simp
  · rw [(setf_tk F f w _ _ h hw).1 G ha]
    simp
theorem at_len (p s : List Int) (f : Int) : ((p ++ s ++ [1 + f]).length : Int) = p.length + s.length + 1 := by simp; omega
/-! ===== Editor ===== -/
def eL : List Nat := [244, 245, 246, 247]
theorem sp_isNumber {σ : xSig} {x : Int} (hx : xr x) : Rd MX11_isNumber [.int (ii x)] σ (zv (inr9 x)) := by
  unfold xr at hx
  refine e_entry okX11_isNumber (Nat.le_of_ble_eq_true rfl) (ls := [some _]) rfl ?_
  refine e_iload_n 0 1 rfl rfl rfl rfl ?_
  refine e_sipush 1 4 rfl rfl rfl ?_
  refine e_icmp_lt 2 18 7 rfl rfl rfl (by unfold xr at *; omega) (by unfold xr at *; omega) (fun h => ?_) (fun h => ?_)
  · skip
    rw [show inr9 x = false from decide_eq_false (by omega)]
    refine e_iconst 8 19 rfl rfl ?_
    exact e_zreturn (x := 0) 9 rfl rfl (by omega) (Nat.le_of_ble_eq_true rfl) (Nat.le_of_ble_eq_true rfl)
  · skip
    refine e_iload_n 3 8 rfl rfl rfl rfl ?_
    refine e_sipush 4 11 rfl rfl rfl ?_
    refine e_icmp_gt 5 18 14 rfl rfl rfl (by unfold xr at *; omega) (by unfold xr at *; omega) (fun h2 => ?_) (fun h2 => ?_)
    · skip
      rw [show inr9 x = false from decide_eq_false (by omega)]
      refine e_iconst 8 19 rfl rfl ?_
      exact e_zreturn (x := 0) 9 rfl rfl (by omega) (Nat.le_of_ble_eq_true rfl) (Nat.le_of_ble_eq_true rfl)
    · skip
      rw [show inr9 x = true from decide_eq_true (by omega)]
      refine e_iconst 6 15 rfl rfl ?_
      refine e_goto 7 19 rfl rfl ?_
      exact e_zreturn (x := 1) 9 rfl rfl (by omega) (Nat.le_of_ble_eq_true rfl) (Nat.le_of_ble_eq_true rfl)
theorem sp_addAt {σ : xSig} {p s : List Int} {x z : Int} (hV : VH σ 244 152 (p ++ x :: s)) (hz : -10000 ≤ z ∧ z ≤ 10000) :
    x_Sp MX1_addAt 0 0 [.ref 243, .int (ii p.length), .int (ii z)] (St σ) (zv (inr9 (x - 2000 + z))) (St (if inr9 (x - 2000 + z) = true then xu σ 245 p.length (2000 + (x - 2000 + z)) else σ)) := by
  have hcap := hV.2.2.1
  simp only [List.length_append, List.length_cons] at hcap
  have hb := hV.bnd p.length
  rw [tok_hd] at hb
  have hnum := sp_numberAt hV (i := p.length) (by unfold xr; omega)
  rw [tok_hd] at hnum
  have hset := sp_setSign (x := 2000 + (x - 2000 + z)) hV
  refine e_entry okX1_addAt (Nat.le_of_ble_eq_true rfl) (ls := [some _, some _, some _, none]) rfl ?_
  refine e_aload_n 0 1 rfl rfl rfl rfl ?_
  refine g_getR 1 4 ckX1 flX1_14 rfl rfl (Nat.le_of_ble_eq_true rfl) rfl rfl ?_
  refine e_iload_n 2 5 rfl rfl rfl rfl ?_
  refine g_callV 3 8 (hnum) okX10_numberAt cvX1_49 ⟨(Nat.le_of_ble_eq_true rfl), (Nat.le_of_ble_eq_true rfl)⟩ rfl rfl (Nat.le_of_ble_eq_true rfl) rfl rfl rfl rfl rfl (Nat.le_of_ble_eq_true rfl) (Nat.le_of_ble_eq_true rfl) (Nat.le_of_ble_eq_true rfl) ?_
  refine e_iload_n 4 9 rfl rfl rfl rfl ?_
  refine e_iadd 5 10 rfl rfl ?_
  refine e_istore_n 6 11 (ls' := [some _, some _, some _, some _]) rfl rfl rfl (Nat.le_of_ble_eq_true rfl) rfl ?_
  refine e_iload_n 7 12 rfl rfl rfl rfl ?_
  refine e_callSN 8 15 (sp_isNumber (x := x - 2000 + z) (by unfold xr; omega)) okX11_isNumber csX1_71 ⟨(Nat.le_of_ble_eq_true rfl), (Nat.le_of_ble_eq_true rfl)⟩ rfl rfl rfl rfl (Nat.le_of_ble_eq_true rfl) (Nat.le_of_ble_eq_true rfl) (Nat.le_of_ble_eq_true rfl) ?_
  refine e_ifb_ne 9 20 18 rfl rfl rfl (fun h => ?_) (fun h => ?_)
  · skip
    rw [h, if_pos rfl]
    refine e_aload_n 12 21 rfl rfl rfl rfl ?_
    refine g_getR 13 24 ckX1 flX1_14 rfl rfl (Nat.le_of_ble_eq_true rfl) rfl rfl ?_
    refine e_iload_n 14 25 rfl rfl rfl rfl ?_
    refine e_sipush 15 28 rfl rfl rfl ?_
    refine e_iload_n 16 29 rfl rfl rfl rfl ?_
    refine e_iadd 17 30 rfl rfl ?_
    refine g_callV 18 33 (hset) okX10_setSign cvX1_75 ⟨(Nat.le_of_ble_eq_true rfl), (Nat.le_of_ble_eq_true rfl)⟩ rfl rfl (Nat.le_of_ble_eq_true rfl) rfl rfl rfl rfl rfl (Nat.le_of_ble_eq_true rfl) (Nat.le_of_ble_eq_true rfl) (Nat.le_of_ble_eq_true rfl) ?_
    refine e_iconst 19 34 rfl rfl ?_
    exact e_zreturn (x := 1) 20 rfl rfl (by omega) (Nat.le_of_ble_eq_true rfl) (Nat.le_of_ble_eq_true rfl)
  · skip
    rw [h, if_neg (by decide)]
    refine e_iconst 10 19 rfl rfl ?_
    exact e_zreturn (x := 0) 11 rfl rfl (by omega) (Nat.le_of_ble_eq_true rfl) (Nat.le_of_ble_eq_true rfl)
