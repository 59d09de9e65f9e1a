/-! ===== the model: what is made ===== -/
abbrev md9 : List (Nat × Int) := [(285, -1), (281, 7)]
abbrev vd9 : List (Nat × Int) := [(284, -1), (281, 5)]
/-- made so far -/
def MD (σ : xSig) (m : List Int) : Prop := σ 281 7 = m.length ∧ EA σ 285 0 m ∧ m.length ≤ 400
def VD (σ : xSig) (m : List Int) : Prop := σ 281 5 = m.length ∧ EA σ 284 0 m ∧ m.length ≤ 400
theorem MD.snoc {σ : xSig} {m : List Int} (h : MD σ m) (hl : m.length < 400) (x : Int) : MD (xu (xu σ 285 m.length x) 281 7 (m.length + 1)) (m ++ [x]) := by
  refine ⟨by rw [xu_same]; simp, ?_, by simp only [List.length_append, List.length_cons, List.length_nil]; omega⟩
  refine EA.cat (h.2.1.of fun i h1 h2 => ?_) (EA.mk ?_ EA.nil)
  · rw [xu_other _ _ _ (by decide), xu_ne _ (Or.inr (by omega))]
  · rw [xu_other _ _ _ (by decide), Int.zero_add, xu_same]
theorem VD.snoc {σ : xSig} {m : List Int} (h : VD σ m) (hl : m.length < 400) (x : Int) : VD (xu (xu σ 284 m.length x) 281 5 (m.length + 1)) (m ++ [x]) := by
  refine ⟨by rw [xu_same]; simp, ?_, by simp only [List.length_append, List.length_cons, List.length_nil]; omega⟩
  refine EA.cat (h.2.1.of fun i h1 h2 => ?_) (EA.mk ?_ EA.nil)
  · rw [xu_other _ _ _ (by decide), xu_ne _ (Or.inr (by omega))]
  · rw [xu_other _ _ _ (by decide), Int.zero_add, xu_same]
theorem md_f {σ : xSig} {n p m : Int} : FP md9 σ (xu (xu σ 285 n p) 281 7 m) := (FP.rf.put (by simp [inP])).put rfl
theorem vd_f {σ : xSig} {n p m : Int} : FP vd9 σ (xu (xu σ 284 n p) 281 5 m) := (FP.rf.put (by simp [inP])).put rfl
theorem MD.fp {σ σ' : xSig} {m : List Int} (h : MD σ m) (hF : FP m11 σ σ') : MD σ' m := ⟨by rw [hF 281 7 rfl]; exact h.1, h.2.1.of fun i _ _ => by rw [hF.cell 285 rfl], h.2.2⟩
theorem VD.fp {σ σ' : xSig} {m : List Int} (h : VD σ m) (hF : FP m11 σ σ') : VD σ' m := ⟨by rw [hF 281 5 rfl]; exact h.1, h.2.1.of fun i _ _ => by rw [hF.cell 284 rfl], h.2.2⟩
/-- a row that the model copies from into what is made -/
def isMS (a n : Nat) : Prop := isMA a n ∧ a ≠ 285 ∧ a ≠ 281
theorem isMS_all : isMS 282 11300 := ⟨isMA_all, by omega, by omega⟩
theorem isMS_val : isMS 284 400 := ⟨isMA_val, by omega, by omega⟩
theorem FP.msc {L : List (Nat × Int)} {σ σ' : xSig} (h : FP L σ σ') {a n : Nat} (ha : isMS a n) (hL : (L.all fun q => q.1 == 285 || (q.1 == 281 || q.1 == 311)) = true) : σ' a = σ a := by
  refine h.cell a ?_
  refine List.all_eq_true.mpr fun q hq => ?_
  have := List.all_eq_true.mp hL q hq
  have h1 := ha.1.2.2.2
  have h2 := ha.2.1
  have h3 := ha.2.2
  simp only [Bool.or_eq_true, beq_iff_eq, bne_iff_ne] at this ⊢
  intro e
  rw [e] at this
  omega
theorem add_lp {a nn : Nat} (ha : isMS a nn) : ∀ (t : List Int) (m : List Int) (fr to i : Int) (σ : xSig), to = i + t.length → 0 ≤ i → i + t.length ≤ nn → EA σ a i t → MD σ m → m.length + t.length ≤ 400 → ∃ σ', x_E MX12_adds 0 0 3 [some (.ref 281), some (.ref a), some (.int (ii fr)), some (.int (ii to)), some (.int (ii i))] [] (St σ) 0 0 vv (St σ') ∧ MD σ' (m ++ t) ∧ FP md9 σ σ' := by
  have hnn := ha.1.2.2.1
  intro t
  induction t with
  | nil =>
    intro m fr to i σ hto hi hn hE hM hl
    simp only [List.length_nil] at hto hn
    refine ⟨σ, ?_, by simpa using hM, FP.rf⟩
    refine e_iload 2 5 rfl rfl rfl ?_
    refine e_iload_n 3 6 rfl rfl rfl rfl ?_
    refine e_icmp_ge 4 38 9 rfl rfl rfl (by unfold xr at *; omega) (by unfold xr at *; omega) (fun _ => ?_) (fun h9 => absurd h9 (by omega))
    exact e_return 21 rfl rfl (Nat.le_of_ble_eq_true rfl) (Nat.le_of_ble_eq_true rfl)
  | cons x t ih =>
    intro m fr to i σ hto hi hn hE hM hl
    simp only [List.length_cons] at hto hn hl
    obtain ⟨e1, e2⟩ := EA.cons hE
    have hs := hM.snoc (by omega) x
    have f0 : FP md9 σ (xu (xu σ 285 m.length x) 281 7 (m.length + 1)) := md_f
    obtain ⟨σ', k1, k2, k3⟩ := ih (m ++ [x]) fr to (i + 1) _ (by omega) (by omega) (by omega) (e2.of fun j _ _ => by rw [f0.msc ha rfl]) hs (by simp only [List.length_append, List.length_cons, List.length_nil]; omega)
    refine ⟨σ', ?_, by simpa using k2, f0.tr k3⟩
    refine e_iload 2 5 rfl rfl rfl ?_
    refine e_iload_n 3 6 rfl rfl rfl rfl ?_
    refine e_icmp_ge 4 38 9 rfl rfl rfl (by unfold xr at *; omega) (by unfold xr at *; omega) (fun h9 => absurd h9 (by omega)) (fun _ => ?_)
    refine e_aload_n 5 10 rfl rfl rfl rfl ?_
    refine g_getR 6 13 ckX12 flX12_20 rfl rfl (Nat.le_of_ble_eq_true rfl) rfl rfl ?_
    refine e_aload_n 7 14 rfl rfl rfl rfl ?_
    refine g_getI 8 17 7 ckX12 flX12_179 rfl rfl (Nat.le_of_ble_eq_true rfl) rfl rfl rfl hM.1 ?_
    refine e_aload_n 9 18 rfl rfl rfl rfl ?_
    refine e_iload 10 20 rfl rfl rfl ?_
    refine g_iaload 11 21 rfl rfl ha.1.1 ha.1.2.1 (by omega) (by omega) (by omega) e1 ?_
    refine g_iastore 12 22 rfl rfl (Nat.le_of_ble_eq_true rfl) rfl (by omega) (by omega) (by omega) ?_
    refine e_aload_n 13 23 rfl rfl rfl rfl ?_
    refine e_dup 14 24 rfl rfl rfl ?_
    refine g_getI 15 27 7 ckX12 flX12_179 rfl rfl (Nat.le_of_ble_eq_true rfl) rfl rfl rfl ((congrFun (xu_other σ (m.length : Int) x (by decide : (281 : Nat) ≠ 285)) 7).trans hM.1) ?_
    refine e_iconst 16 28 rfl rfl ?_
    refine e_iadd 17 29 rfl rfl ?_
    refine g_putI 18 32 7 ckX12 flX12_179 rfl rfl (Nat.le_of_ble_eq_true rfl) rfl rfl rfl ?_
    refine e_iinc 19 35 (ls' := [some _, some _, some _, some _, some _]) rfl rfl (Nat.le_of_ble_eq_true rfl) rfl rfl ?_
    refine e_goto 20 3 rfl rfl ?_
    exact k1
theorem sp_mAdds {σ : xSig} {a nn : Nat} {p to : Int} {t m : List Int} (ha : isMS a nn) (hto : to = p + t.length) (hp : 0 ≤ p) (hn : p + t.length ≤ nn) (hE : EA σ a p t) (hM : MD σ m) (hl : m.length + t.length ≤ 400) : ∃ σ', x_Sp MX12_adds 0 0 [.ref 281, .ref a, .int (ii p), .int (ii to)] (St σ) vv (St σ') ∧ MD σ' (m ++ t) ∧ FP md9 σ σ' := by
  obtain ⟨σ', k1, k2, k3⟩ := add_lp ha t m p to p σ hto hp hn hE hM hl
  refine ⟨σ', ?_, k2, k3⟩
  refine e_entry okX12_adds (Nat.le_of_ble_eq_true rfl) (ls := [some _, some _, some _, some _, none]) rfl ?_
  refine e_iload_n 0 1 rfl rfl rfl rfl ?_
  refine e_istore 1 3 (ls' := [some _, some _, some _, some _, some _]) rfl rfl (Nat.le_of_ble_eq_true rfl) rfl ?_
  exact k1
theorem val_lp {a nn : Nat} (ha : isMA a nn) (ha2 : a = 282) : ∀ (t : List Int) (m : List Int) (fr to i : Int) (σ : xSig), to = i + t.length → 0 ≤ i → i + t.length ≤ nn → EA σ a i t → VD σ m → m.length + t.length ≤ 400 → ∃ σ', x_E MX12_values 0 0 3 [some (.ref 281), some (.ref a), some (.int (ii fr)), some (.int (ii to)), some (.int (ii i))] [] (St σ) 0 0 vv (St σ') ∧ VD σ' (m ++ t) ∧ FP vd9 σ σ' := by
  have hnn := ha.2.2.1
  intro t
  induction t with
  | nil =>
    intro m fr to i σ hto hi hn hE hM hl
    simp only [List.length_nil] at hto hn
    refine ⟨σ, ?_, by simpa using hM, FP.rf⟩
    refine e_iload 2 5 rfl rfl rfl ?_
    refine e_iload_n 3 6 rfl rfl rfl rfl ?_
    refine e_icmp_ge 4 38 9 rfl rfl rfl (by unfold xr at *; omega) (by unfold xr at *; omega) (fun _ => ?_) (fun h9 => absurd h9 (by omega))
    exact e_return 21 rfl rfl (Nat.le_of_ble_eq_true rfl) (Nat.le_of_ble_eq_true rfl)
  | cons x t ih =>
    intro m fr to i σ hto hi hn hE hM hl
    simp only [List.length_cons] at hto hn hl
    obtain ⟨e1, e2⟩ := EA.cons hE
    have hs := hM.snoc (by omega) x
    have f0 : FP vd9 σ (xu (xu σ 284 m.length x) 281 5 (m.length + 1)) := vd_f
    obtain ⟨σ', k1, k2, k3⟩ := ih (m ++ [x]) fr to (i + 1) _ (by omega) (by omega) (by omega) (e2.of fun j _ _ => by subst ha2; rw [f0.cell 282 rfl]) hs (by simp only [List.length_append, List.length_cons, List.length_nil]; omega)
    refine ⟨σ', ?_, by simpa using k2, f0.tr k3⟩
    refine e_iload 2 5 rfl rfl rfl ?_
    refine e_iload_n 3 6 rfl rfl rfl rfl ?_
    refine e_icmp_ge 4 38 9 rfl rfl rfl (by unfold xr at *; omega) (by unfold xr at *; omega) (fun h9 => absurd h9 (by omega)) (fun _ => ?_)
    refine e_aload_n 5 10 rfl rfl rfl rfl ?_
    refine g_getR 6 13 ckX12 flX12_17 rfl rfl (Nat.le_of_ble_eq_true rfl) rfl rfl ?_
    refine e_aload_n 7 14 rfl rfl rfl rfl ?_
    refine g_getI 8 17 5 ckX12 flX12_247 rfl rfl (Nat.le_of_ble_eq_true rfl) rfl rfl rfl hM.1 ?_
    refine e_aload_n 9 18 rfl rfl rfl rfl ?_
    refine e_iload 10 20 rfl rfl rfl ?_
    refine g_iaload 11 21 rfl rfl ha.1 ha.2.1 (by omega) (by omega) (by omega) e1 ?_
    refine g_iastore 12 22 rfl rfl (Nat.le_of_ble_eq_true rfl) rfl (by omega) (by omega) (by omega) ?_
    refine e_aload_n 13 23 rfl rfl rfl rfl ?_
    refine e_dup 14 24 rfl rfl rfl ?_
    refine g_getI 15 27 5 ckX12 flX12_247 rfl rfl (Nat.le_of_ble_eq_true rfl) rfl rfl rfl ((congrFun (xu_other σ (m.length : Int) x (by decide : (281 : Nat) ≠ 284)) 5).trans hM.1) ?_
    refine e_iconst 16 28 rfl rfl ?_
    refine e_iadd 17 29 rfl rfl ?_
    refine g_putI 18 32 5 ckX12 flX12_247 rfl rfl (Nat.le_of_ble_eq_true rfl) rfl rfl rfl ?_
    refine e_iinc 19 35 (ls' := [some _, some _, some _, some _, some _]) rfl rfl (Nat.le_of_ble_eq_true rfl) rfl rfl ?_
    refine e_goto 20 3 rfl rfl ?_
    exact k1
theorem sp_mValues {σ : xSig} {p to : Int} {t m : List Int} (hto : to = p + t.length) (hp : 0 ≤ p) (hn : p + t.length ≤ 11300) (hE : EA σ 282 p t) (hM : VD σ m) (hl : m.length + t.length ≤ 400) : ∃ σ', x_Sp MX12_values 0 0 [.ref 281, .ref 282, .int (ii p), .int (ii to)] (St σ) vv (St σ') ∧ VD σ' (m ++ t) ∧ FP vd9 σ σ' := by
  obtain ⟨σ', k1, k2, k3⟩ := val_lp isMA_all rfl t m p to p σ hto hp hn hE hM hl
  refine ⟨σ', ?_, k2, k3⟩
  refine e_entry okX12_values (Nat.le_of_ble_eq_true rfl) (ls := [some _, some _, some _, some _, none]) rfl ?_
  refine e_iload_n 0 1 rfl rfl rfl rfl ?_
  refine e_istore 1 3 (ls' := [some _, some _, some _, some _, some _]) rfl rfl (Nat.le_of_ble_eq_true rfl) rfl ?_
  exact k1
/-- what is made is laid at a place -/
def lay9 (σ : xSig) (at9 : Int) (m : List Int) (k : Int) : xSig := fun b j => if b = 282 ∧ at9 ≤ j ∧ j < at9 + k then m.getD (j - at9).toNat 0 else σ b j
theorem lay9_o (σ : xSig) (at9 : Int) (m : List Int) (k : Int) {b : Nat} (h : b ≠ 282) : lay9 σ at9 m k b = σ b := by
  funext j
  unfold lay9
  rw [if_neg (fun q => h q.1)]
theorem lay9_in (σ : xSig) (at9 : Int) (m : List Int) : EA (lay9 σ at9 m m.length) 282 at9 m := by
  intro i hi
  unfold lay9
  rw [if_pos ⟨rfl, by omega, by omega⟩, show (at9 + (i : Int) - at9).toNat = i by omega]
theorem lay9_out {σ : xSig} {at9 : Int} {m : List Int} {k p : Int} {t : List Int} (h : EA σ 282 p t) (hd : p + t.length ≤ at9 ∨ at9 + k ≤ p) : EA (lay9 σ at9 m k) 282 p t := h.of fun i h1 h2 => by
  unfold lay9
  rw [if_neg (by omega)]
theorem lay_lp {at9 : Int} {m : List Int} (h0 : 0 ≤ at9) (hn : at9 + m.length ≤ 11300) {σ : xSig} (hM : MD σ m) : ∀ (r : List Int) (k : Nat), k + r.length = m.length → x_E MX12_lays 0 0 2 [some (.ref 281), some (.int (ii at9)), some (.int (ii k))] [] (St (lay9 σ at9 m k)) 0 0 vv (St (lay9 σ at9 m m.length)) := by
  have h400 := hM.2.2
  intro r
  induction r with
  | nil =>
    intro k hk
    simp only [List.length_nil] at hk
    rw [show k = m.length by omega]
    have e1 : lay9 σ at9 m m.length 281 7 = m.length := by rw [lay9_o _ _ _ _ (by decide)]; exact hM.1
    refine e_iload_n 2 3 rfl rfl rfl rfl ?_
    refine e_aload_n 3 4 rfl rfl rfl rfl ?_
    refine g_getI 4 7 7 ckX12 flX12_179 rfl rfl (Nat.le_of_ble_eq_true rfl) rfl rfl rfl e1 ?_
    refine e_icmp_ge 5 30 10 rfl rfl rfl (by unfold xr at *; omega) (by unfold xr at *; omega) (fun _ => ?_) (fun h9 => absurd h9 (by omega))
    exact e_return 18 rfl rfl (Nat.le_of_ble_eq_true rfl) (Nat.le_of_ble_eq_true rfl)
  | cons x r ih =>
    intro k hk
    simp only [List.length_cons] at hk
    have e1 : lay9 σ at9 m k 281 7 = m.length := by rw [lay9_o _ _ _ _ (by decide)]; exact hM.1
    have e2 : lay9 σ at9 m k 285 k = m.getD k 0 := by
      rw [lay9_o _ _ _ _ (by decide)]
      have := hM.2.1 k (by omega)
      rwa [Int.zero_add] at this
    have e3 : xu (lay9 σ at9 m k) 282 (at9 + k) (m.getD k 0) = lay9 σ at9 m ((k + 1 : Nat) : Int) := by
      funext b j
      unfold xu lay9
      by_cases q : b = 282 ∧ j = at9 + k
      · rw [if_pos q, if_pos ⟨q.1, by omega, by omega⟩, show (j - at9).toNat = k by omega]
      · rw [if_neg q]
        by_cases q2 : b = 282 ∧ at9 ≤ j ∧ j < at9 + k
        · rw [if_pos q2, if_pos ⟨q2.1, q2.2.1, by omega⟩]
        · rw [if_neg q2, if_neg (by omega)]
    have := ih (k + 1) (by omega)
    rw [← e3] at this
    refine e_iload_n 2 3 rfl rfl rfl rfl ?_
    refine e_aload_n 3 4 rfl rfl rfl rfl ?_
    refine g_getI 4 7 7 ckX12 flX12_179 rfl rfl (Nat.le_of_ble_eq_true rfl) rfl rfl rfl e1 ?_
    refine e_icmp_ge 5 30 10 rfl rfl rfl (by unfold xr at *; omega) (by unfold xr at *; omega) (fun h9 => absurd h9 (by omega)) (fun _ => ?_)
    refine e_aload_n 6 11 rfl rfl rfl rfl ?_
    refine g_getR 7 14 ckX12 flX12_7 rfl rfl (Nat.le_of_ble_eq_true rfl) rfl rfl ?_
    refine e_iload_n 8 15 rfl rfl rfl rfl ?_
    refine e_iload_n 9 16 rfl rfl rfl rfl ?_
    refine e_iadd 10 17 rfl rfl ?_
    refine e_aload_n 11 18 rfl rfl rfl rfl ?_
    refine g_getR 12 21 ckX12 flX12_20 rfl rfl (Nat.le_of_ble_eq_true rfl) rfl rfl ?_
    refine e_iload_n 13 22 rfl rfl rfl rfl ?_
    refine g_iaload 14 23 rfl rfl (Nat.le_of_ble_eq_true rfl) rfl (by omega) (by omega) (by omega) e2 ?_
    refine g_iastore 15 24 rfl rfl (Nat.le_of_ble_eq_true rfl) rfl (by omega) (by omega) (by omega) ?_
    refine e_iinc 16 27 (ls' := [some _, some _, some _]) rfl rfl (Nat.le_of_ble_eq_true rfl) rfl rfl ?_
    refine e_goto 17 2 rfl rfl ?_
    exact this
theorem sp_mLays {σ : xSig} {at9 : Int} {m : List Int} (h0 : 0 ≤ at9) (hn : at9 + m.length ≤ 11300) (hM : MD σ m) : x_Sp MX12_lays 0 0 [.ref 281, .int (ii at9)] (St σ) vv (St (lay9 σ at9 m m.length)) := by
  have e0 : lay9 σ at9 m ((0 : Nat) : Int) = σ := by
    funext b j
    unfold lay9
    rw [if_neg (by omega)]
  have := lay_lp h0 hn hM m 0 (by omega)
  rw [e0] at this
  refine e_entry okX12_lays (Nat.le_of_ble_eq_true rfl) (ls := [some _, some _, none]) rfl ?_
  refine e_iconst 0 1 rfl rfl ?_
  refine e_istore_n 1 2 (ls' := [some _, some _, some _]) rfl rfl rfl (Nat.le_of_ble_eq_true rfl) rfl ?_
  exact this
/-! ===== builds ===== -/
theorem cat_setf {v : Fo} (h : ok1 v) (f : Int) (w n : Fo) : setf f w (cat v n) = cat v (setf f w n) := by
  rcases h with ⟨x, rfl, hx⟩ | ⟨c, rfl, hc⟩ | ⟨c, rfl, hc⟩ <;> rfl
theorem cat_delf {v : Fo} (h : ok1 v) (f : Int) (n : Fo) : delf f (cat v n) = cat v (delf f n) := by
  rcases h with ⟨x, rfl, hx⟩ | ⟨c, rfl, hc⟩ | ⟨c, rfl, hc⟩ <;> rfl
theorem setf_mulL {v : Fo} (h : ok1 v) (f k : Int) (w n : Fo) : setf f w (.mulL k (cat v n)) = if k = f then .mulL f (cat w n) else if f < k then .mulL f (cat w (.mulL k (cat v n))) else .mulL k (cat v (setf f w n)) := by
  rw [show setf f w (.mulL k (cat v n)) = if k = f then .mulL f (cat w (nxt (cat v n))) else if f < k then .mulL f (cat w (.mulL k (cat v n))) else .mulL k (setf f w (cat v n)) from rfl, (cat_tk h n).2.2, cat_setf h]
theorem delf_mulL {v : Fo} (h : ok1 v) (f k : Int) (n : Fo) : delf f (.mulL k (cat v n)) = if k = f then n else .mulL k (cat v (delf f n)) := by
  rw [show delf f (.mulL k (cat v n)) = if k = f then nxt (cat v n) else .mulL k (delf f (cat v n)) from rfl, (cat_tk h n).2.2, cat_delf h]
abbrev bl9 : List (Nat × Int) := [(285, -1), (281, 7), (311, -1)]
/-- the fields with one set, or one taken away -/
def bres (pl9 : Bool) (f : Int) (w F : Fo) : Fo := if pl9 = true then delf f F else setf f w F
abbrev buL (a : Nat) (root ob f : Int) (b : Nat) (fr to : Int) (pl9 : Bool) (p : Int) : List (Option Value) := [some (.ref 281), some (.ref a), some (.int (ii root)), some (.int (ii ob)), some (.int (ii f)), some (.ref b), some (.int (ii fr)), some (.int (ii to)), some (.int (ii (bi pl9))), some (.int (ii p)), none]
/-- the field put in: what is made goes on -/
theorem bu_put {a b nb : Nat} {root ob f fr to p nx9 : Int} {w : Fo} {σ : xSig} {m : List Int} (hb : isMS b nb) (hfr : 0 ≤ fr ∧ to = fr + (en w).length ∧ to ≤ nb) (hw : EA σ b fr (en w)) (hM : MD σ m) (hl : m.length + 1 + (en w).length ≤ 400) (hf : 0 ≤ f ∧ f < 8) :
    ∃ σ1, MD σ1 (m ++ (f :: en w)) ∧ FP md9 σ σ1 ∧ (∀ {o : xO} {Y : xS}, x_E MX12_builds 0 0 97 [some (.ref 281), some (.ref a), some (.int (ii root)), some (.int (ii ob)), some (.int (ii f)), some (.ref b), some (.int (ii fr)), some (.int (ii to)), some (.int (ii (bi false))), some (.int (ii p)), some (.int (ii nx9))] [] (St σ1) 0 0 o Y → x_E MX12_builds 0 0 66 [some (.ref 281), some (.ref a), some (.int (ii root)), some (.int (ii ob)), some (.int (ii f)), some (.ref b), some (.int (ii fr)), some (.int (ii to)), some (.int (ii (bi false))), some (.int (ii p)), some (.int (ii nx9))] [] (St σ) 0 0 o Y) ∧ (∀ {o : xO} {Y : xS}, x_E MX12_builds 0 0 161 (buL a root ob f b fr to false p) [] (St σ1) 0 0 o Y → x_E MX12_builds 0 0 130 (buL a root ob f b fr to false p) [] (St σ) 0 0 o Y) := by
  have hnb := hb.1.2.2.1
  have hs := hM.snoc (by omega) f
  have f0 : FP md9 σ (xu (xu σ 285 m.length f) 281 7 (m.length + 1)) := md_f
  obtain ⟨σ1, k1, k2, k3⟩ := sp_mAdds hb hfr.2.1 hfr.1 (by omega) (hw.of fun j _ _ => by rw [f0.msc hb rfl]) hs (by simp only [List.length_append, List.length_cons, List.length_nil]; omega)
  refine ⟨σ1, by simpa using k2, f0.tr k3, fun {o Y} kk => ?_, fun {o Y} kk => ?_⟩
  · skip
    refine e_aload_n 40 67 rfl rfl rfl rfl ?_
    refine g_getR 41 70 ckX12 flX12_20 rfl rfl (Nat.le_of_ble_eq_true rfl) rfl rfl ?_
    refine e_aload_n 42 71 rfl rfl rfl rfl ?_
    refine g_getI 43 74 7 ckX12 flX12_179 rfl rfl (Nat.le_of_ble_eq_true rfl) rfl rfl rfl hM.1 ?_
    refine e_iload 44 76 rfl rfl rfl ?_
    refine g_iastore 45 77 rfl rfl (Nat.le_of_ble_eq_true rfl) rfl (by omega) (by omega) (by omega) ?_
    refine e_aload_n 46 78 rfl rfl rfl rfl ?_
    refine e_dup 47 79 rfl rfl rfl ?_
    refine g_getI 48 82 7 ckX12 flX12_179 rfl rfl (Nat.le_of_ble_eq_true rfl) rfl rfl rfl ((congrFun (xu_other σ (m.length : Int) f (by decide : (281 : Nat) ≠ 285)) 7).trans hM.1) ?_
    refine e_iconst 49 83 rfl rfl ?_
    refine e_iadd 50 84 rfl rfl ?_
    refine g_putI 51 87 7 ckX12 flX12_179 rfl rfl (Nat.le_of_ble_eq_true rfl) rfl rfl rfl ?_
    refine e_aload_n 52 88 rfl rfl rfl rfl ?_
    refine e_aload 53 90 rfl rfl rfl ?_
    refine e_iload 54 92 rfl rfl rfl ?_
    refine e_iload 55 94 rfl rfl rfl ?_
    refine g_callV 56 97 (k1) okX12_adds cvX12_189 ⟨(Nat.le_of_ble_eq_true rfl), (Nat.le_of_ble_eq_true rfl)⟩ rfl rfl (Nat.le_of_ble_eq_true rfl) rfl rfl rfl rfl rfl (Nat.le_of_ble_eq_true rfl) (Nat.le_of_ble_eq_true rfl) (Nat.le_of_ble_eq_true rfl) ?_
    exact kk
  · skip
    refine e_aload_n 74 131 rfl rfl rfl rfl ?_
    refine g_getR 75 134 ckX12 flX12_20 rfl rfl (Nat.le_of_ble_eq_true rfl) rfl rfl ?_
    refine e_aload_n 76 135 rfl rfl rfl rfl ?_
    refine g_getI 77 138 7 ckX12 flX12_179 rfl rfl (Nat.le_of_ble_eq_true rfl) rfl rfl rfl hM.1 ?_
    refine e_iload 78 140 rfl rfl rfl ?_
    refine g_iastore 79 141 rfl rfl (Nat.le_of_ble_eq_true rfl) rfl (by omega) (by omega) (by omega) ?_
    refine e_aload_n 80 142 rfl rfl rfl rfl ?_
    refine e_dup 81 143 rfl rfl rfl ?_
    refine g_getI 82 146 7 ckX12 flX12_179 rfl rfl (Nat.le_of_ble_eq_true rfl) rfl rfl rfl ((congrFun (xu_other σ (m.length : Int) f (by decide : (281 : Nat) ≠ 285)) 7).trans hM.1) ?_
    refine e_iconst 83 147 rfl rfl ?_
    refine e_iadd 84 148 rfl rfl ?_
    refine g_putI 85 151 7 ckX12 flX12_179 rfl rfl (Nat.le_of_ble_eq_true rfl) rfl rfl rfl ?_
    refine e_aload_n 86 152 rfl rfl rfl rfl ?_
    refine e_aload 87 154 rfl rfl rfl ?_
    refine e_iload 88 156 rfl rfl rfl ?_
    refine e_iload 89 158 rfl rfl rfl ?_
    refine g_callV 90 161 (k1) okX12_adds cvX12_189 ⟨(Nat.le_of_ble_eq_true rfl), (Nat.le_of_ble_eq_true rfl)⟩ rfl rfl (Nat.le_of_ble_eq_true rfl) rfl rfl rfl rfl rfl (Nat.le_of_ble_eq_true rfl) (Nat.le_of_ble_eq_true rfl) (Nat.le_of_ble_eq_true rfl) ?_
    exact kk
theorem bu_lp {a nn b nb : Nat} {root ob f fr to : Int} {w V : Fo} {post : List Int} (ha : isMS a nn) (hb : isMS b nb) (hf : 0 ≤ f ∧ f < 8) : ∀ F lo, okf true false lo F → ∀ (pl9 : Bool) (p : Int) (σ : xSig) (m : List Int), 0 ≤ lo → pa F ≤ 51 → 0 ≤ p → EA σ a p (en F ++ -1 :: post) → MV σ a nn root V → p + (en F).length + 1 + post.length = root + (en V).length → (pl9 = false → ok1 w ∧ EA σ b fr (en w) ∧ (0 ≤ fr ∧ to = fr + (en w).length ∧ to ≤ nb) ∧ m.length + (en F).length + 1 + post.length + 1 + (en w).length ≤ 400) → MD σ m → m.length + (en F).length + 1 + post.length ≤ 400 → ∃ σ', x_E MX12_builds 0 0 33 (buL a root ob f b fr to pl9 p) [] (St σ) 0 0 vv (St σ') ∧ MD σ' (m ++ (en (bres pl9 f w F) ++ -1 :: post)) ∧ FP bl9 σ σ' := by
  have hnn := ha.1.2.2.1
  have hA := ha.1
  refine fldInd (fun lo => ?_) (fun lo k v n hk hk8 hv hn ih => ?_)
  · intro pl9 p σ m hlo hp hp0 hE hV hend hw hM hl
    simp only [en, List.nil_append, List.length_nil] at hE hend hl
    have hVn := hV.2.2.2.2.1
    obtain ⟨e1, -⟩ := EA.cons hE
    -- the end: what is behind the fields
    have tail : ∀ (pl8 : Bool) (σ1 : xSig) (m1 : List Int), FP md9 σ σ1 → MD σ1 m1 → m1.length + 1 + post.length ≤ 400 → ∃ σ', x_E MX12_builds 0 0 161 (buL a root ob f b fr to pl8 p) [] (St σ1) 0 0 vv (St σ') ∧ MD σ' (m1 ++ -1 :: post) ∧ FP bl9 σ1 σ' := by
      intro pl8 σ1 m1 f1 hM1 hl1
      have hV1 := hV.of (f1.msc ha rfl)
      have q1 := sp_mEnd hV1
      have f2 : FP m11 σ1 (xu σ1 311 0 (pa V)) := FP.rf.x11
      obtain ⟨σ', k1, k2, k3⟩ := sp_mAdds (σ := xu σ1 311 0 (pa V)) (p := p) (to := root + (en V).length) (t := -1 :: post) ha (by simp only [List.length_cons]; omega) hp0 (by simp only [List.length_cons]; omega) ((hE.of fun j _ _ => by rw [f1.msc ha rfl]).of11 hA f2) (hM1.fp f2) (by simp only [List.length_cons]; omega)
      refine ⟨σ', ?_, k2, (f2.mono rfl).tr (k3.mono rfl)⟩
      refine e_aload_n 91 162 rfl rfl rfl rfl ?_
      refine e_aload_n 92 163 rfl rfl rfl rfl ?_
      refine e_iload 93 165 rfl rfl rfl ?_
      refine e_aload_n 94 166 rfl rfl rfl rfl ?_
      refine e_aload_n 95 167 rfl rfl rfl rfl ?_
      refine e_iload_n 96 168 rfl rfl rfl rfl ?_
      refine g_callV 97 171 (q1) okX12_end cvX12_131 ⟨(Nat.le_of_ble_eq_true rfl), (Nat.le_of_ble_eq_true rfl)⟩ rfl rfl (Nat.le_of_ble_eq_true rfl) rfl rfl rfl rfl rfl (Nat.le_of_ble_eq_true rfl) (Nat.le_of_ble_eq_true rfl) (Nat.le_of_ble_eq_true rfl) ?_
      refine g_callV 98 174 (k1) okX12_adds cvX12_189 ⟨(Nat.le_of_ble_eq_true rfl), (Nat.le_of_ble_eq_true rfl)⟩ rfl rfl (Nat.le_of_ble_eq_true rfl) rfl rfl rfl rfl rfl (Nat.le_of_ble_eq_true rfl) (Nat.le_of_ble_eq_true rfl) (Nat.le_of_ble_eq_true rfl) ?_
      exact e_return 99 rfl rfl (Nat.le_of_ble_eq_true rfl) (Nat.le_of_ble_eq_true rfl)
    cases pl9 with
    | true =>
      obtain ⟨σ', k1, k2, k3⟩ := tail true σ m FP.rf hM (by omega)
      refine ⟨σ', ?_, k2, k3⟩
      refine e_aload_n 21 34 rfl rfl rfl rfl ?_
      refine e_iload 22 36 rfl rfl rfl ?_
      refine g_iaload 23 37 rfl rfl hA.1 hA.2.1 (by omega) (by omega) (by omega) e1 ?_
      refine e_iconst 24 38 rfl rfl ?_
      refine e_icmp_eq 25 125 41 rfl rfl rfl (by unfold xr at *; omega) (by unfold xr at *; omega) (fun _ => ?_) (fun h9 => absurd h9 (fun q => q rfl))
      refine e_iload 72 127 rfl rfl rfl ?_
      refine e_ifb_ne 73 161 130 rfl rfl rfl (fun h => ?_) (fun h => ?_)
      · skip
        exact k1
      · skip
        cases h
    | false =>
      obtain ⟨σ1, j1, j2, -, j4⟩ := bu_put (a := a) (root := root) (ob := ob) (p := p) (nx9 := 0) hb (hw rfl).2.2.1 (hw rfl).2.1 hM (by have := (hw rfl).2.2.2; simp only [en, List.length_nil] at this; omega) hf
      obtain ⟨σ', k1, k2, k3⟩ := tail false σ1 _ j2 j1 (by have := (hw rfl).2.2.2; simp only [en, List.length_nil] at this; simp only [List.length_append, List.length_cons]; omega)
      refine ⟨σ', ?_, ?_, (j2.mono rfl).tr k3⟩
      · skip
        refine e_aload_n 21 34 rfl rfl rfl rfl ?_
        refine e_iload 22 36 rfl rfl rfl ?_
        refine g_iaload 23 37 rfl rfl hA.1 hA.2.1 (by omega) (by omega) (by omega) e1 ?_
        refine e_iconst 24 38 rfl rfl ?_
        refine e_icmp_eq 25 125 41 rfl rfl rfl (by unfold xr at *; omega) (by unfold xr at *; omega) (fun _ => ?_) (fun h9 => absurd h9 (fun q => q rfl))
        refine e_iload 72 127 rfl rfl rfl ?_
        refine e_ifb_ne 73 161 130 rfl rfl rfl (fun h => ?_) (fun h => ?_)
        · skip
          cases h
        · skip
          exact j4 k1
      · have e9 : en (bres false f w (.num 0)) = f :: en w := by
          show f :: en (cat w (.num 0)) = _
          rw [cat_en (hw rfl).1]
          simp [en]
        rw [e9]
        simpa using k2
  · intro pl9 p σ m hlo hp hp0 hE hV hend hw hM hl
    have hol := ok1_pa hv
    have hpn9 := pa_nn n
    have e9 : pa (.mulL k (cat v n)) = pa v + pa n := cat_pa hv n
    rw [e9] at hp
    simp only [en, cat_en hv, List.length_cons, List.length_append, List.cons_append, List.append_assoc] at hE hend hl hw
    have hVn := hV.2.2.2.2.1
    have hVp := hV.2.2.2.1
    obtain ⟨e1, e2⟩ := EA.cons hE
    obtain ⟨e3, e4⟩ := EA.app e2
    have hkv : EA σ a p (k :: en v) := EA.mk e1 e3
    have hMv : MV σ a nn (p + 1) v := ⟨hA, hv, by omega, by omega, by omega, e3⟩
    have q1 := sp_mEnd hMv
    have f1 : FP m11 σ (xu σ 311 0 (pa v)) := FP.rf.x11
    have at100 : ∀ (pl8 : Bool) (σ1 : xSig) (m1 : List Int), FP bl9 σ σ1 → MD σ1 m1 → m1.length + (1 + (en v).length) + (en n).length + 1 + post.length ≤ 400 → (pl8 = false → ok1 w ∧ EA σ1 b fr (en w) ∧ (0 ≤ fr ∧ to = fr + (en w).length ∧ to ≤ nb) ∧ m1.length + (1 + (en v).length) + (en n).length + 1 + post.length + 1 + (en w).length ≤ 400) → ∃ σ', x_E MX12_builds 0 0 100 [some (.ref 281), some (.ref a), some (.int (ii root)), some (.int (ii ob)), some (.int (ii f)), some (.ref b), some (.int (ii fr)), some (.int (ii to)), some (.int (ii (bi pl8))), some (.int (ii p)), some (.int (ii (p + 1 + (en v).length)))] [] (St σ1) 0 0 vv (St σ') ∧ MD σ' (m1 ++ ((if k = f then [] else k :: en v) ++ (en (bres pl8 f w n) ++ -1 :: post))) ∧ FP bl9 σ1 σ' := by
      intro pl8 σ1 m1 g1 hM1 hl1 hw1
      have gc := g1.msc ha rfl
      have e1' : σ1 a p = k := by rw [gc]; exact e1
      by_cases hkf : k = f
      · obtain ⟨σ', k1, k2, k3⟩ := ih pl8 (p + 1 + (en v).length) σ1 m1 (by omega) (by omega) (by omega) (e4.of fun j _ _ => by rw [gc]) (hV.of gc) (by omega) (fun q => ⟨(hw1 q).1, (hw1 q).2.1, (hw1 q).2.2.1, by have := (hw1 q).2.2.2; omega⟩) hM1 (by omega)
        refine ⟨σ', ?_, by rw [if_pos hkf]; exact k2, k3⟩
        refine e_aload_n 59 101 rfl rfl rfl rfl ?_
        refine e_iload 60 103 rfl rfl rfl ?_
        refine g_iaload 61 104 rfl rfl hA.1 hA.2.1 (by omega) (by omega) (by omega) e1' ?_
        refine e_iload 62 106 rfl rfl rfl ?_
        refine e_icmp_eq 63 118 109 rfl rfl rfl (by unfold xr at *; omega) (by unfold xr at *; omega) (fun _ => ?_) (fun h9 => absurd h9 (fun q => q hkf))
        refine e_iload 69 120 rfl rfl rfl ?_
        refine e_istore 70 122 (ls' := [some _, some _, some _, some _, some _, some _, some _, some _, some _, some _, some _]) rfl rfl (Nat.le_of_ble_eq_true rfl) rfl ?_
        refine e_goto 71 33 rfl rfl ?_
        refine e_dropm [true, true, true, true, true, true, true, true, true, true, false] (ls' := [some _, some _, some _, some _, some _, some _, some _, some _, some _, some _, none]) rfl ?_
        exact k1
      · obtain ⟨σ2, j1, j2, j3⟩ := sp_mAdds (σ := σ1) (p := p) (to := p + 1 + (en v).length) (t := k :: en v) ha (by simp only [List.length_cons]; omega) hp0 (by simp only [List.length_cons]; omega) (hkv.of fun j _ _ => by rw [gc]) hM1 (by simp only [List.length_cons]; omega)
        have gc2 := (g1.tr (j3.mono rfl)).msc ha rfl
        have gb2 : σ2 b = σ1 b := j3.msc hb rfl
        obtain ⟨σ', k1, k2, k3⟩ := ih pl8 (p + 1 + (en v).length) σ2 (m1 ++ (k :: en v)) (by omega) (by omega) (by omega) (e4.of fun j _ _ => by rw [gc2]) (hV.of gc2) (by omega) (fun q => ⟨(hw1 q).1, (hw1 q).2.1.of fun j _ _ => by rw [gb2], (hw1 q).2.2.1, by have := (hw1 q).2.2.2; simp only [List.length_append, List.length_cons]; omega⟩) j2 (by simp only [List.length_append, List.length_cons]; omega)
        refine ⟨σ', ?_, by rw [if_neg hkf]; simpa using k2, (j3.mono rfl).tr k3⟩
        refine e_aload_n 59 101 rfl rfl rfl rfl ?_
        refine e_iload 60 103 rfl rfl rfl ?_
        refine g_iaload 61 104 rfl rfl hA.1 hA.2.1 (by omega) (by omega) (by omega) e1' ?_
        refine e_iload 62 106 rfl rfl rfl ?_
        refine e_icmp_eq 63 118 109 rfl rfl rfl (by unfold xr at *; omega) (by unfold xr at *; omega) (fun h9 => absurd h9 hkf) (fun _ => ?_)
        refine e_aload_n 64 110 rfl rfl rfl rfl ?_
        refine e_aload_n 65 111 rfl rfl rfl rfl ?_
        refine e_iload 66 113 rfl rfl rfl ?_
        refine e_iload 67 115 rfl rfl rfl ?_
        refine g_callV 68 118 (j1) okX12_adds cvX12_189 ⟨(Nat.le_of_ble_eq_true rfl), (Nat.le_of_ble_eq_true rfl)⟩ rfl rfl (Nat.le_of_ble_eq_true rfl) rfl rfl rfl rfl rfl (Nat.le_of_ble_eq_true rfl) (Nat.le_of_ble_eq_true rfl) (Nat.le_of_ble_eq_true rfl) ?_
        refine e_iload 69 120 rfl rfl rfl ?_
        refine e_istore 70 122 (ls' := [some _, some _, some _, some _, some _, some _, some _, some _, some _, some _, some _]) rfl rfl (Nat.le_of_ble_eq_true rfl) rfl ?_
        refine e_goto 71 33 rfl rfl ?_
        refine e_dropm [true, true, true, true, true, true, true, true, true, true, false] (ls' := [some _, some _, some _, some _, some _, some _, some _, some _, some _, some _, none]) rfl ?_
        exact k1
    have st52 : ∀ {Y : xS}, x_E MX12_builds 0 0 52 [some (.ref 281), some (.ref a), some (.int (ii root)), some (.int (ii ob)), some (.int (ii f)), some (.ref b), some (.int (ii fr)), some (.int (ii to)), some (.int (ii (bi pl9))), some (.int (ii p)), some (.int (ii (p + 1 + (en v).length)))] [] (St (xu σ 311 0 (pa v))) 0 0 vv Y → x_E MX12_builds 0 0 33 (buL a root ob f b fr to pl9 p) [] (St σ) 0 0 vv Y := by
      intro Y kk
      refine e_aload_n 21 34 rfl rfl rfl rfl ?_
      refine e_iload 22 36 rfl rfl rfl ?_
      refine g_iaload 23 37 rfl rfl hA.1 hA.2.1 (by omega) (by omega) (by omega) e1 ?_
      refine e_iconst 24 38 rfl rfl ?_
      refine e_icmp_eq 25 125 41 rfl rfl rfl (by unfold xr at *; omega) (by unfold xr at *; omega) (fun h9 => absurd h9 (by omega)) (fun _ => ?_)
      refine e_aload_n 26 42 rfl rfl rfl rfl ?_
      refine e_aload_n 27 43 rfl rfl rfl rfl ?_
      refine e_iload 28 45 rfl rfl rfl ?_
      refine e_iconst 29 46 rfl rfl ?_
      refine e_iadd 30 47 rfl rfl ?_
      refine g_callV 31 50 (q1) okX12_end cvX12_131 ⟨(Nat.le_of_ble_eq_true rfl), (Nat.le_of_ble_eq_true rfl)⟩ rfl rfl (Nat.le_of_ble_eq_true rfl) rfl rfl rfl rfl rfl (Nat.le_of_ble_eq_true rfl) (Nat.le_of_ble_eq_true rfl) (Nat.le_of_ble_eq_true rfl) ?_
      refine e_istore 32 52 (ls' := [some _, some _, some _, some _, some _, some _, some _, some _, some _, some _, some _]) rfl rfl (Nat.le_of_ble_eq_true rfl) rfl ?_
      exact kk
    have hM1 := hM.fp f1
    have g1 : FP bl9 σ (xu σ 311 0 (pa v)) := f1.mono rfl
    have e1x : xu σ 311 0 (pa v) a p = k := by rw [g1.msc ha rfl]; exact e1
    cases pl9 with
    | true =>
      obtain ⟨σ', k1, k2, k3⟩ := at100 true _ m g1 hM1 (by omega) (fun q => by cases q)
      refine ⟨σ', st52 ?_, ?_, g1.tr k3⟩
      · skip
        refine e_iload 33 54 rfl rfl rfl ?_
        refine e_ifb_ne 34 100 57 rfl rfl rfl (fun h => ?_) (fun h => ?_)
        · skip
          exact k1
        · skip
          cases h
      · have e8 : en (bres true f w (.mulL k (cat v n))) = (if k = f then [] else k :: en v) ++ en (bres true f w n) := by
          show en (delf f (.mulL k (cat v n))) = _ ++ en (delf f n)
          rw [delf_mulL hv]
          by_cases hkf : k = f
          · rw [if_pos hkf, if_pos hkf, delf_no n f false (k + 1) hn (by omega)]
            rfl
          · rw [if_neg hkf, if_neg hkf]
            show k :: en (cat v (delf f n)) = _
            rw [cat_en hv]
            rfl
        rw [e8, List.append_assoc]
        exact k2
    | false =>
      obtain ⟨hw1, hw2, hto, hwl⟩ := hw rfl
      have hw3 : EA (xu σ 311 0 (pa v)) b fr (en w) := hw2.of fun j _ _ => by rw [g1.msc hb rfl]
      by_cases hlt : k < f
      · obtain ⟨σ', k1, k2, k3⟩ := at100 false _ m g1 hM1 (by omega) (fun _ => ⟨hw1, hw3, hto, by omega⟩)
        refine ⟨σ', st52 ?_, ?_, g1.tr k3⟩
        · skip
          refine e_iload 33 54 rfl rfl rfl ?_
          refine e_ifb_ne 34 100 57 rfl rfl rfl (fun h => ?_) (fun h => ?_)
          · skip
            cases h
          · skip
            refine e_aload_n 35 58 rfl rfl rfl rfl ?_
            refine e_iload 36 60 rfl rfl rfl ?_
            refine g_iaload 37 61 rfl rfl hA.1 hA.2.1 (by omega) (by omega) (by omega) e1x ?_
            refine e_iload 38 63 rfl rfl rfl ?_
            refine e_icmp_lt 39 100 66 rfl rfl rfl (by unfold xr at *; omega) (by unfold xr at *; omega) (fun _ => ?_) (fun h9 => absurd h9 (by omega))
            exact k1
        · have e8 : en (bres false f w (.mulL k (cat v n))) = (if k = f then [] else k :: en v) ++ en (bres false f w n) := by
            show en (setf f w (.mulL k (cat v n))) = _ ++ en (setf f w n)
            rw [setf_mulL hv, if_neg (by omega), if_neg (by omega), if_neg (by omega)]
            show k :: en (cat v (setf f w n)) = _
            rw [cat_en hv]
            rfl
          rw [e8, List.append_assoc]
          exact k2
      · obtain ⟨σ1, j1, j2, j3, -⟩ := bu_put (a := a) (root := root) (ob := ob) (p := p) (nx9 := p + 1 + (en v).length) hb hto hw3 hM1 (by omega) hf
        obtain ⟨σ', k1, k2, k3⟩ := at100 true σ1 _ (g1.tr (j2.mono rfl)) j1 (by simp only [List.length_append, List.length_cons]; omega) (fun q => by cases q)
        refine ⟨σ', st52 ?_, ?_, (g1.tr (j2.mono rfl)).tr k3⟩
        · skip
          refine e_iload 33 54 rfl rfl rfl ?_
          refine e_ifb_ne 34 100 57 rfl rfl rfl (fun h => ?_) (fun h => ?_)
          · skip
            cases h
          · skip
            refine e_aload_n 35 58 rfl rfl rfl rfl ?_
            refine e_iload 36 60 rfl rfl rfl ?_
            refine g_iaload 37 61 rfl rfl hA.1 hA.2.1 (by omega) (by omega) (by omega) e1x ?_
            refine e_iload 38 63 rfl rfl rfl ?_
            refine e_icmp_lt 39 100 66 rfl rfl rfl (by unfold xr at *; omega) (by unfold xr at *; omega) (fun h9 => absurd h9 (by omega)) (fun _ => ?_)
            refine j3 ?_
            refine e_iconst 57 98 rfl rfl ?_
            refine e_istore 58 100 (ls' := [some _, some _, some _, some _, some _, some _, some _, some _, some _, some _, some _]) rfl rfl (Nat.le_of_ble_eq_true rfl) rfl ?_
            exact k1
        · have e8 : en (bres false f w (.mulL k (cat v n))) = (f :: en w) ++ ((if k = f then [] else k :: en v) ++ en (bres true f w n)) := by
            show en (setf f w (.mulL k (cat v n))) = _ ++ (_ ++ en (delf f n))
            rw [setf_mulL hv, delf_no n f false (k + 1) hn (by omega)]
            by_cases hkf : k = f
            · rw [if_pos hkf, if_pos hkf]
              show f :: en (cat w n) = _
              rw [cat_en hw1]
              rfl
            · rw [if_neg hkf, if_pos (by omega), if_neg hkf]
              show f :: en (cat w (.mulL k (cat v n))) = _
              rw [cat_en hw1]
              show f :: (en w ++ (k :: en (cat v n))) = _
              rw [cat_en hv]
              simp
          rw [e8]
          simpa using k2
/-- an object, root's own or one in it, with a field set, or taken away: all of the root's row anew -/
theorem sp_mBuilds {σ : xSig} {a nn b nb : Nat} {root ob f fr to : Int} {F w V : Fo} {pre post : List Int} (ha : isMS a nn) (hb : isMS b nb) (hf : 0 ≤ f ∧ f < 8) (hF : okf true false 0 F) (h47 : pa F ≤ 51) (hV : MV σ a nn root V) (hen : en V = pre ++ 4 :: (en F ++ -1 :: post)) (hob : ob = root + pre.length) (hw : to = fr ∨ (ok1 w ∧ EA σ b fr (en w) ∧ 0 ≤ fr ∧ to = fr + (en w).length ∧ to ≤ nb)) (hfr : xr fr) (hl : (en V).length + (en w).length + 1 ≤ 400) :
    ∃ σ', x_Sp MX12_builds 0 0 [.ref 281, .ref a, .int (ii root), .int (ii ob), .int (ii f), .ref b, .int (ii fr), .int (ii to)] (St σ) vv (St σ') ∧ MD σ' (pre ++ 4 :: (en (bres (decide (fr = to)) f w F) ++ -1 :: post)) ∧ FP bl9 σ σ' := by
  have hVn := hV.2.2.2.2.1
  have hVp := hV.2.2.2.1
  have hVE := hV.2.2.2.2.2
  have hnn := ha.1.2.2.1
  have hnb := hb.1.2.2.1
  rw [hen] at hVE
  have hlen : (en V).length = pre.length + 1 + (en F).length + 1 + post.length := by rw [hen]; simp; omega
  obtain ⟨e1, e2⟩ := EA.app hVE
  obtain ⟨e3, e4⟩ := EA.cons e2
  have f0 : FP bl9 σ (xu σ 281 7 0) := FP.rf.put rfl
  have hM0 : MD (xu σ 281 7 0) [] := ⟨xu_same _ _ _ _, EA.nil, by simp⟩
  have hpre : EA σ a root (pre ++ [4]) := EA.cat e1 (EA.mk e3 EA.nil)
  obtain ⟨σ1, j1, j2, j3⟩ := sp_mAdds (σ := xu σ 281 7 0) (p := root) (to := ob + 1) (t := pre ++ [4]) ha (by simp only [List.length_append, List.length_cons, List.length_nil]; omega) hVp (by simp only [List.length_append, List.length_cons, List.length_nil]; omega) (hpre.of fun j _ _ => by rw [f0.msc ha rfl]) hM0 (by simp only [List.length_append, List.length_cons, List.length_nil]; omega)
  have f1 : FP bl9 σ σ1 := f0.tr (j3.mono rfl)
  rw [List.nil_append] at j2
  have st : ∀ (pl9 : Bool) {Y : xS}, decide (fr = to) = pl9 → x_E MX12_builds 0 0 33 (buL a root ob f b fr to pl9 (ob + 1)) [] (St σ1) 0 0 vv Y → x_Sp MX12_builds 0 0 [.ref 281, .ref a, .int (ii root), .int (ii ob), .int (ii f), .ref b, .int (ii fr), .int (ii to)] (St σ) vv Y := by
    intro pl9 Y hpl kk
    have hto : xr to := by
      rcases hw with h | ⟨-, -, h1, h2, h3⟩
      · rw [h]; exact hfr
      · unfold xr; omega
    have fin : x_E MX12_builds 0 0 12 [some (.ref 281), some (.ref a), some (.int (ii root)), some (.int (ii ob)), some (.int (ii f)), some (.ref b), some (.int (ii fr)), some (.int (ii to)), none, none, none] [.int (ii (bi pl9))] (St σ) 0 0 vv Y := by
      refine e_istore 6 14 (ls' := [some _, some _, some _, some _, some _, some _, some _, some _, some _, none, none]) rfl rfl (Nat.le_of_ble_eq_true rfl) rfl ?_
      refine e_aload_n 7 15 rfl rfl rfl rfl ?_
      refine e_iconst 8 16 rfl rfl ?_
      refine g_putI 9 19 7 ckX12 flX12_179 rfl rfl (Nat.le_of_ble_eq_true rfl) rfl rfl rfl ?_
      refine e_aload_n 10 20 rfl rfl rfl rfl ?_
      refine e_aload_n 11 21 rfl rfl rfl rfl ?_
      refine e_iload_n 12 22 rfl rfl rfl rfl ?_
      refine e_iload_n 13 23 rfl rfl rfl rfl ?_
      refine e_iconst 14 24 rfl rfl ?_
      refine e_iadd 15 25 rfl rfl ?_
      refine g_callV 16 28 (j1) okX12_adds cvX12_189 ⟨(Nat.le_of_ble_eq_true rfl), (Nat.le_of_ble_eq_true rfl)⟩ rfl rfl (Nat.le_of_ble_eq_true rfl) rfl rfl rfl rfl rfl (Nat.le_of_ble_eq_true rfl) (Nat.le_of_ble_eq_true rfl) (Nat.le_of_ble_eq_true rfl) ?_
      refine e_iload_n 17 29 rfl rfl rfl rfl ?_
      refine e_iconst 18 30 rfl rfl ?_
      refine e_iadd 19 31 rfl rfl ?_
      refine e_istore 20 33 (ls' := [some _, some _, some _, some _, some _, some _, some _, some _, some _, some _, none]) rfl rfl (Nat.le_of_ble_eq_true rfl) rfl ?_
      exact kk
    refine e_entry okX12_builds (Nat.le_of_ble_eq_true rfl) (ls := [some _, some _, some _, some _, some _, some _, some _, some _, none, none, none]) rfl ?_
    refine e_iload 0 2 rfl rfl rfl ?_
    refine e_iload 1 4 rfl rfl rfl ?_
    refine e_icmp_ne 2 11 7 rfl rfl rfl hfr hto (fun h => ?_) (fun h => ?_)
    · skip
      rw [decide_eq_false h] at hpl
      subst hpl
      refine e_iconst 5 12 rfl rfl ?_
      exact fin
    · skip
      rw [decide_eq_true h] at hpl
      subst hpl
      refine e_iconst 3 8 rfl rfl ?_
      refine e_goto 4 12 rfl rfl ?_
      exact fin
  rw [show root + (pre.length : Int) = ob by omega] at e4
  have e4' : EA σ1 a (ob + 1) (en F ++ -1 :: post) := e4.of fun j _ _ => by rw [f1.msc ha rfl]
  have hV1 := hV.of (f1.msc ha rfl)
  have hml : (pre ++ [4]).length = pre.length + 1 := by simp
  rcases hw with h | ⟨h1, h2, h3, h4, h5⟩
  · obtain ⟨σ', k1, k2, k3⟩ := bu_lp (a := a) (nn := nn) (b := b) (nb := nb) (root := root) (ob := ob) (f := f) (fr := fr) (to := to) (w := w) (V := V) (post := post) ha hb hf F 0 hF true (ob + 1) σ1 (pre ++ [4]) (by omega) h47 (by omega) e4' hV1 (by omega) (fun q => by cases q) j2 (by rw [hml]; omega)
    have hne : decide (fr = to) = true := decide_eq_true h.symm
    refine ⟨σ', st true hne k1, ?_, f1.tr k3⟩
    rw [hne]
    simpa using k2
  · obtain ⟨σ', k1, k2, k3⟩ := bu_lp (a := a) (nn := nn) (b := b) (nb := nb) (root := root) (ob := ob) (f := f) (fr := fr) (to := to) (w := w) (V := V) (post := post) ha hb hf F 0 hF false (ob + 1) σ1 (pre ++ [4]) (by omega) h47 (by omega) e4' hV1 (by omega) (fun _ => ⟨h1, h2.of fun j _ _ => by rw [f1.msc hb rfl], ⟨h3, h4, h5⟩, by rw [hml]; omega⟩) j2 (by rw [hml]; omega)
    have hne : decide (fr = to) = false := decide_eq_false (by have := (ok1_pa h1).2.2; omega)
    refine ⟨σ', st false hne k1, ?_, f1.tr k3⟩
    rw [hne]
    simpa using k2
