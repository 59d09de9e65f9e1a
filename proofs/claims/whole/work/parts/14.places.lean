/-! ===== Pile.put, Places ===== -/
theorem ii_div {x y : Int} (hx : 0 ≤ x ∧ x < 2147483648) (hy : 0 < y ∧ y < 2147483648) : ii x / ii y = ii (x / y) := by
  obtain ⟨a, rfl⟩ := Int.eq_ofNat_of_zero_le hx.1
  obtain ⟨b, rfl⟩ := Int.eq_ofNat_of_zero_le (by omega : 0 ≤ y)
  exact pk_div (by omega) (by omega) (by omega)
theorem ii_rem {x y : Int} (hx : 0 ≤ x ∧ x < 2147483648) (hy : 0 < y ∧ y < 2147483648) : ii x - ii x / ii y * ii y = ii (x % y) := by
  obtain ⟨a, rfl⟩ := Int.eq_ofNat_of_zero_le hx.1
  obtain ⟨b, rfl⟩ := Int.eq_ofNat_of_zero_le (by omega : 0 ≤ y)
  exact pk_rem (by omega) (by omega) (by omega)
def newv (x : Int) : List Int := if 4000 ≤ x then [x, 0] else [x]
theorem sp_pPut {σ : xSig} {T : Nat → List Int} (hA : VAll σ T) (hn : 0 ≤ σ 1 2 ∧ σ 1 2 < 10) {x : Int} (hx : 0 ≤ x ∧ x < 6000) :
    ∃ σ' : xSig, x_Sp MX5_put 0 0 [.ref 1, .int (ii x)] (St σ) (iv (σ 1 2 + 1)) (St σ') ∧ VAll σ' (uT T (pv (σ 1 2)) (newv x)) ∧ NV [1] σ σ' ∧ σ' 1 2 = σ 1 2 + 1 := by
  have hv := pv_vO (σ 1 2)
  have hc : vCap (pv (σ 1 2)) = 72 := by rw [pv_in hn.1 hn.2]; exact (vO_p _ (by omega)).2
  have hA1 : VAll (xu σ 1 2 (σ 1 2 + 1)) T := hA.xu 2 _ (by decide +kernel)
  have e1 : xu σ 1 2 (σ 1 2 + 1) 1 2 = σ 1 2 + 1 := xu_same σ 1 2 _
  obtain ⟨σ', h1, h2, h3⟩ := sp_becomeI (hA1 _ hv) hx (by omega)
  have ht := sp_pTop (σ := xu σ 1 2 (σ 1 2 + 1)) (by omega)
  rw [show vtop (xu σ 1 2 (σ 1 2 + 1)) = pv (σ 1 2) by unfold vtop; rw [e1]; congr 1; omega] at ht
  have e2 : σ' 1 2 = σ 1 2 + 1 := by
    rw [h3 1 (fun q => by have := (vA_of hv).1; rw [← q] at this; revert this; decide +kernel) (fun q => by have := (vA_of hv).2; rw [← q] at this; revert this; decide +kernel)]
    exact e1
  refine ⟨σ', ?_, hA1.put hv h2 h3, ((NV.xu 1 2 _).tr (h3.nv hv)).mono (by simp), e2⟩
  refine e_entry okX5_put (Nat.le_of_ble_eq_true rfl) (ls := [some _, some _]) rfl ?_
  refine e_aload_n 0 1 rfl rfl rfl rfl ?_
  refine g_callV 1 4 (sp_pFull (by omega)) okX5_isFull cvX5_28 ⟨(Nat.le_of_ble_eq_true rfl), (Nat.le_of_ble_eq_true rfl)⟩ rfl rfl (Nat.le_of_ble_eq_true rfl) rfl rfl rfl rfl rfl (Nat.le_of_ble_eq_true rfl) (Nat.le_of_ble_eq_true rfl) (Nat.le_of_ble_eq_true rfl) ?_
  rw [decide_eq_false (by omega : ¬ 10 ≤ σ 1 2)]
  refine e_ifb_ne 2 25 7 rfl rfl rfl (fun h => ?_) (fun h => ?_)
  · skip
    cases h
  · skip
    refine e_aload_n 3 8 rfl rfl rfl rfl ?_
    refine e_dup 4 9 rfl rfl rfl ?_
    refine g_getI 5 12 2 ckX5 flX5_24 rfl rfl (Nat.le_of_ble_eq_true rfl) rfl rfl rfl rfl ?_
    refine e_iconst 6 13 rfl rfl ?_
    refine e_iadd 7 14 rfl rfl ?_
    refine g_putI 8 17 2 ckX5 flX5_24 rfl rfl (Nat.le_of_ble_eq_true rfl) rfl rfl rfl ?_
    refine e_aload_n 9 18 rfl rfl rfl rfl ?_
    refine g_callV 10 21 (ht) okX5_top cvX5_32 ⟨(Nat.le_of_ble_eq_true rfl), (Nat.le_of_ble_eq_true rfl)⟩ rfl rfl (Nat.le_of_ble_eq_true rfl) rfl rfl rfl rfl rfl (Nat.le_of_ble_eq_true rfl) (Nat.le_of_ble_eq_true rfl) (Nat.le_of_ble_eq_true rfl) ?_
    refine e_iload_n 11 22 rfl rfl rfl rfl ?_
    refine g_callV 12 25 (h1) okX10_become cvX5_36 ⟨(Nat.le_of_ble_eq_true rfl), (Nat.le_of_ble_eq_true rfl)⟩ rfl rfl (vO_val hv).1 (vO_val hv).2.2.1 rfl rfl rfl rfl (Nat.le_of_ble_eq_true rfl) (Nat.le_of_ble_eq_true rfl) (Nat.le_of_ble_eq_true rfl) ?_
    refine e_aload_n 13 26 rfl rfl rfl rfl ?_
    refine g_getI 14 29 2 ckX5 flX5_24 rfl rfl (Nat.le_of_ble_eq_true rfl) rfl rfl rfl e2 ?_
    exact e_ireturn 15 rfl rfl (Nat.le_of_ble_eq_true rfl) (Nat.le_of_ble_eq_true rfl)
/-- p is an object of Places, its row behind it -/
def isPl (p : Nat) : Prop := p < N0 ∧ p + 1 < N0 ∧ SH p = .inr (.inr (6, [some (some (p + 1)), none])) ∧ SH (p + 1) = .inl (0, 24) ∧ vA p = false ∧ vA (p + 1) = false
theorem isPl_s : isPl 254 ∧ isPl 261 ∧ isPl 279 := ⟨⟨Nat.le_of_ble_eq_true rfl, Nat.le_of_ble_eq_true rfl, rfl, rfl, by decide +kernel, by decide +kernel⟩, ⟨Nat.le_of_ble_eq_true rfl, Nat.le_of_ble_eq_true rfl, rfl, rfl, by decide +kernel, by decide +kernel⟩, ⟨Nat.le_of_ble_eq_true rfl, Nat.le_of_ble_eq_true rfl, rfl, rfl, by decide +kernel, by decide +kernel⟩⟩
def PH (σ : xSig) (p : Nat) (L : List Int) : Prop := isPl p ∧ σ p 1 = L.length ∧ L.length ≤ 24 ∧ ∀ i : Nat, i < L.length → σ (p + 1) i = L.getD i 0
theorem sp_plSize {σ : xSig} {p : Nat} {L : List Int} (h : PH σ p L) : Rd MX6_size [.ref p] σ (iv L.length) := by
  have hlen := h.2.1
  refine e_entry okX6_size (Nat.le_of_ble_eq_true rfl) (ls := [some _]) rfl ?_
  refine e_aload_n 0 1 rfl rfl rfl rfl ?_
  refine g_getI 1 4 1 ckX6 flX6_15 rfl rfl h.1.1 h.1.2.2.1 rfl rfl hlen ?_
  exact e_ireturn 2 rfl rfl (Nat.le_of_ble_eq_true rfl) (Nat.le_of_ble_eq_true rfl)
theorem sp_plAt {σ : xSig} {p : Nat} {L : List Int} (h : PH σ p L) {i : Nat} (hi : i < L.length) : Rd MX6_at [.ref p, .int (ii i)] σ (iv (L.getD i 0)) := by
  have hlen := h.2.1
  have h24 := h.2.2.1
  refine e_entry okX6_at (Nat.le_of_ble_eq_true rfl) (ls := [some _, some _]) rfl ?_
  refine e_iload_n 0 1 rfl rfl rfl rfl ?_
  refine e_if_lt 1 30 4 rfl rfl rfl (by unfold xr at *; omega) (fun h9 => absurd h9 (by omega)) (fun _ => ?_)
  refine e_iload_n 2 5 rfl rfl rfl rfl ?_
  refine e_aload_n 3 6 rfl rfl rfl rfl ?_
  refine g_getI 4 9 1 ckX6 flX6_15 rfl rfl h.1.1 h.1.2.2.1 rfl rfl hlen ?_
  refine e_icmp_ge 5 30 12 rfl rfl rfl (by unfold xr at *; omega) (by unfold xr at *; omega) (fun h9 => absurd h9 (by omega)) (fun _ => ?_)
  refine e_iload_n 6 13 rfl rfl rfl rfl ?_
  refine e_aload_n 7 14 rfl rfl rfl rfl ?_
  refine g_getR 8 17 ckX6 flX6_9 rfl rfl h.1.1 h.1.2.2.1 rfl ?_
  refine g_alen 9 18 rfl rfl h.1.2.1 h.1.2.2.2.1 (Nat.le_of_ble_eq_true rfl) ?_
  refine e_icmp_ge 10 30 21 rfl rfl rfl (by unfold xr at *; omega) (by unfold xr at *; omega) (fun h9 => absurd h9 (by omega)) (fun _ => ?_)
  refine e_aload_n 11 22 rfl rfl rfl rfl ?_
  refine g_getR 12 25 ckX6 flX6_9 rfl rfl h.1.1 h.1.2.2.1 rfl ?_
  refine e_iload_n 13 26 rfl rfl rfl rfl ?_
  refine g_iaload 14 27 rfl rfl h.1.2.1 h.1.2.2.2.1 (by omega) (by omega) (by omega) (h.2.2.2 i hi) ?_
  refine e_goto 15 31 rfl rfl ?_
  exact e_ireturn 17 rfl rfl (Nat.le_of_ble_eq_true rfl) (Nat.le_of_ble_eq_true rfl)
theorem PH.snoc {σ : xSig} {p : Nat} {L : List Int} (h : PH σ p L) (hl : L.length < 24) (i : Int) : PH (xu (xu σ (p + 1) L.length i) p 1 (L.length + 1)) p (L ++ [i]) := by
  obtain ⟨h1, h2, h3, h4⟩ := h
  refine ⟨h1, by rw [xu_same]; simp, by simp; omega, fun j hj => ?_⟩
  rw [xu_other _ _ _ (by omega), List.getD_eq_getElem?_getD]
  simp only [List.length_append, List.length_singleton] at hj
  by_cases e : j = L.length
  · subst e
    rw [xu_same, List.getElem?_append_right (Nat.le_refl _), Nat.sub_self]
    rfl
  · rw [xu_ne _ (Or.inr (by omega)), h4 j (by omega), List.getElem?_append_left (by omega), List.getD_eq_getElem?_getD]
theorem sp_note {σ : xSig} {p : Nat} {L : List Int} (h : PH σ p L) (hl : L.length < 24) {i : Int} :
    ∃ σ' : xSig, x_Sp MX6_note 0 0 [.ref p, .int (ii i)] (St σ) vv (St σ') ∧ PH σ' p (L ++ [i]) ∧ Fr p σ σ' := by
  have hlen := h.2.1
  refine ⟨_, ?_, h.snoc hl i, Fr.xu1.tr Fr.xu0⟩
  have e1 : xu σ (p + 1) L.length i p 1 = L.length := by rw [xu_other _ _ _ (by omega)]; exact hlen
  refine e_entry okX6_note (Nat.le_of_ble_eq_true rfl) (ls := [some _, some _]) rfl ?_
  refine e_aload_n 0 1 rfl rfl rfl rfl ?_
  refine g_getI 1 4 1 ckX6 flX6_15 rfl rfl h.1.1 h.1.2.2.1 rfl rfl hlen ?_
  refine e_if_lt 2 39 7 rfl rfl rfl (by unfold xr at *; omega) (fun h9 => absurd h9 (by omega)) (fun _ => ?_)
  refine e_aload_n 3 8 rfl rfl rfl rfl ?_
  refine g_getI 4 11 1 ckX6 flX6_15 rfl rfl h.1.1 h.1.2.2.1 rfl rfl hlen ?_
  refine e_aload_n 5 12 rfl rfl rfl rfl ?_
  refine g_getR 6 15 ckX6 flX6_9 rfl rfl h.1.1 h.1.2.2.1 rfl ?_
  refine g_alen 7 16 rfl rfl h.1.2.1 h.1.2.2.2.1 (Nat.le_of_ble_eq_true rfl) ?_
  refine e_icmp_ge 8 39 19 rfl rfl rfl (by unfold xr at *; omega) (by unfold xr at *; omega) (fun h9 => absurd h9 (by omega)) (fun _ => ?_)
  refine e_aload_n 9 20 rfl rfl rfl rfl ?_
  refine g_getR 10 23 ckX6 flX6_9 rfl rfl h.1.1 h.1.2.2.1 rfl ?_
  refine e_aload_n 11 24 rfl rfl rfl rfl ?_
  refine g_getI 12 27 1 ckX6 flX6_15 rfl rfl h.1.1 h.1.2.2.1 rfl rfl hlen ?_
  refine e_iload_n 13 28 rfl rfl rfl rfl ?_
  refine g_iastore 14 29 rfl rfl h.1.2.1 h.1.2.2.2.1 (by omega) (by omega) (by omega) ?_
  refine e_aload_n 15 30 rfl rfl rfl rfl ?_
  refine e_dup 16 31 rfl rfl rfl ?_
  refine g_getI 17 34 1 ckX6 flX6_15 rfl rfl h.1.1 h.1.2.2.1 rfl rfl e1 ?_
  refine e_iconst 18 35 rfl rfl ?_
  refine e_iadd 19 36 rfl rfl ?_
  refine g_putI 20 39 1 ckX6 flX6_15 rfl rfl h.1.1 h.1.2.2.1 rfl rfl ?_
  exact e_return 21 rfl rfl (Nat.le_of_ble_eq_true rfl) (Nat.le_of_ble_eq_true rfl)
/-- the places of a row's parts, in the signs behind its own -/
def nsc : List Int → Int → Int → List Int
  | [], _, _ => []
  | x :: r, d, i => if d < 0 then [] else (if d = 0 ∧ x ≠ 0 then [i] else []) ++ nsc r (d + trn x) (i + 1)
/-- what is had at a place: it, and behind a row the places of its parts -/
def tkl (t : List Int) (i : Int) : List Int := if i < 0 then [] else i :: (if tok t i = 4000 then nsc (t.drop (i.toNat + 1)) 0 (i + 1) else [])
theorem PH.fr {σ σ' : xSig} {p : Nat} {L : List Int} (h : PH σ p L) (h1 : σ' p = σ p) (h2 : σ' (p + 1) = σ (p + 1)) : PH σ' p L := by
  obtain ⟨q1, q2, q3, q4⟩ := h
  exact ⟨q1, by rw [h1]; exact q2, q3, fun i hi => by rw [h2]; exact q4 i hi⟩
theorem VH.pl {σ σ' : xSig} {p b cap : Nat} {t : List Int} (h : VH σ b cap t) (hb : vO b = true) (hp : isPl p) (hF : Fr p σ σ') : VH σ' b cap t := by
  have e1 : ∀ c, vA c = true → c ≠ p ∧ c ≠ p + 1 := fun c hc => ⟨(fun e => by rw [e, hp.2.2.2.2.1] at hc; cases hc), (fun e => by rw [e, hp.2.2.2.2.2] at hc; cases hc)⟩
  have e2 := e1 b (vA_of hb).1
  have e3 := e1 (b + 1) (vA_of hb).2
  exact h.same (hF b e2.1 e2.2) (hF (b + 1) e3.1 e3.2)
theorem sp_take {σ : xSig} {p a cap : Nat} {t L : List Int} (hV : VH σ a cap t) (ha : vO a = true) (h : PH σ p L) {i : Int} (hi : xr i) (h24 : L.length + (tkl t i).length ≤ 24) :
    ∃ σ' : xSig, x_Sp MX6_take 0 0 [.ref p, .ref a, .int (ii i)] (St σ) vv (St σ') ∧ PH σ' p (L ++ tkl t i) ∧ Fr p σ σ' := by
  unfold xr at hi
  by_cases hn : i < 0
  · refine ⟨σ, ?_, by unfold tkl; rw [if_pos hn, List.append_nil]; exact h, Fr.rf⟩
    refine e_entry okX6_take (Nat.le_of_ble_eq_true rfl) (ls := [some _, some _, some _, none, none, none]) rfl ?_
    refine e_iload_n 0 1 rfl rfl rfl rfl ?_
    refine e_if_ge 1 5 4 rfl rfl rfl (by unfold xr at *; omega) (fun h9 => absurd h9 (by omega)) (fun _ => ?_)
    exact e_return 2 rfl rfl (Nat.le_of_ble_eq_true rfl) (Nat.le_of_ble_eq_true rfl)
  · have hcap := hV.2.2.1
    have h200 := hV.2.2.2.1
    have e : tkl t i = i :: (if tok t i = 4000 then nsc (t.drop (i.toNat + 1)) 0 (i + 1) else []) := by unfold tkl; rw [if_neg hn]
    rw [e] at h24
    simp only [List.length_cons] at h24
    obtain ⟨σ1, h1, h2, h3⟩ := sp_note h (by omega) (i := i)
    have hV1 := hV.pl ha h.1 h3
    have hb := hV.bnd i
    by_cases h4 : tok t i = 4000
    · rw [if_pos h4] at e h24
      have hit : i < t.length := by
        rcases (by omega : i < (t.length : Int) ∨ (t.length : Int) ≤ i) with q | q
        · exact q
        · rw [tok_big q] at h4
          omega
      have loop : ∀ (r q9 L9 : List Int) (d : Int) (σ2 : xSig), t = q9 ++ r → VH σ2 a cap t → PH σ2 p L9 → Fr p σ σ2 → -(q9.length : Int) ≤ d → d ≤ q9.length → L9.length + (nsc r d q9.length).length ≤ 24 → ∃ σ' : xSig, x_E MX6_take 0 0 29 [some (.ref p), some (.ref a), some (.int (ii i)), some (.int (ii d)), some (.int (ii q9.length)), none] [] (St σ2) 0 0 vv (St σ') ∧ PH σ' p (L9 ++ nsc r d q9.length) ∧ Fr p σ σ' := by
        intro r
        induction r with
        | nil =>
          intro q9 L9 d σ2 ht hV2 hP2 hF2 hd1 hd2 hl9
          have hlen := hV2.2.1
          have hl : t.length = q9.length := by rw [ht]; simp
          refine ⟨σ2, ?_, by simpa [nsc] using hP2, hF2⟩
          refine e_iload 18 31 rfl rfl rfl ?_
          refine e_aload_n 19 32 rfl rfl rfl rfl ?_
          refine g_getIN 20 35 1 ckX10 fnX6_37 rfl rfl hV2.1.1 hV2.1.2.2.1 rfl rfl hlen ?_
          refine e_icmp_ge 21 79 38 rfl rfl rfl (by unfold xr at *; omega) (by unfold xr at *; omega) (fun _ => ?_) (fun h9 => absurd h9 (by omega))
          exact e_return 42 rfl rfl (Nat.le_of_ble_eq_true rfl) (Nat.le_of_ble_eq_true rfl)
        | cons x r ih =>
          intro q9 L9 d σ2 ht hV2 hP2 hF2 hd1 hd2 hl9
          have hlen := hV2.2.1
          have hl : t.length = q9.length + r.length + 1 := by rw [ht]; simp; omega
          have hx : tok t q9.length = x := by rw [ht]; exact tok_hd q9 x r
          have hxb := hV.bnd q9.length
          rw [hx] at hxb
          have htr := trn_in x
          by_cases hd : d < 0
          · refine ⟨σ2, ?_, by simp only [nsc]; rw [if_pos hd, List.append_nil]; exact hP2, hF2⟩
            refine e_iload 18 31 rfl rfl rfl ?_
            refine e_aload_n 19 32 rfl rfl rfl rfl ?_
            refine g_getIN 20 35 1 ckX10 fnX6_37 rfl rfl hV2.1.1 hV2.1.2.2.1 rfl rfl hlen ?_
            refine e_icmp_ge 21 79 38 rfl rfl rfl (by unfold xr at *; omega) (by unfold xr at *; omega) (fun h9 => absurd h9 (by omega)) (fun _ => ?_)
            refine e_iload_n 22 39 rfl rfl rfl rfl ?_
            refine e_if_lt 23 79 42 rfl rfl rfl (by unfold xr at *; omega) (fun _ => ?_) (fun h9 => absurd h9 (by omega))
            exact e_return 42 rfl rfl (Nat.le_of_ble_eq_true rfl) (Nat.le_of_ble_eq_true rfl)
          · have e3 : nsc (x :: r) d q9.length = (if d = 0 ∧ x ≠ 0 then [(q9.length : Int)] else []) ++ nsc r (d + trn x) (q9.length + 1) := by simp only [nsc]; rw [if_neg hd]
            rw [e3] at hl9 ⊢
            by_cases hc : d = 0 ∧ x ≠ 0
            · rw [if_pos hc] at hl9 ⊢
              simp only [List.length_append, List.length_singleton] at hl9
              obtain ⟨σ3, k1, k2, k3⟩ := sp_note hP2 (by omega) (i := q9.length)
              have hV3 := hV2.pl ha h.1 k3
              obtain ⟨σ', m1, m2, m3⟩ := ih (q9 ++ [x]) (L9 ++ [(q9.length : Int)]) (d + trn x) σ3 (by rw [ht, app_s]) hV3 k2 (hF2.tr k3) (by rw [len_s]; omega) (by rw [len_s]; omega) (by rw [len_s]; simp only [List.length_append, List.length_singleton]; omega)
              rw [len_s] at m1 m2
              refine ⟨σ', ?_, by simpa using m2, m3⟩
              refine e_iload 18 31 rfl rfl rfl ?_
              refine e_aload_n 19 32 rfl rfl rfl rfl ?_
              refine g_getIN 20 35 1 ckX10 fnX6_37 rfl rfl hV2.1.1 hV2.1.2.2.1 rfl rfl hlen ?_
              refine e_icmp_ge 21 79 38 rfl rfl rfl (by unfold xr at *; omega) (by unfold xr at *; omega) (fun h9 => absurd h9 (by omega)) (fun _ => ?_)
              refine e_iload_n 22 39 rfl rfl rfl rfl ?_
              refine e_if_lt 23 79 42 rfl rfl rfl (by unfold xr at *; omega) (fun h9 => absurd h9 (by omega)) (fun _ => ?_)
              refine e_aload_n 24 43 rfl rfl rfl rfl ?_
              refine e_iload 25 45 rfl rfl rfl ?_
              refine g_callV 26 48 (sp_signAt hV2 (i := q9.length) (by unfold xr; omega)) okX10_signAt cvX6_40 ⟨(Nat.le_of_ble_eq_true rfl), (Nat.le_of_ble_eq_true rfl)⟩ rfl rfl hV2.1.1 hV2.1.2.2.1 rfl rfl rfl rfl (Nat.le_of_ble_eq_true rfl) (Nat.le_of_ble_eq_true rfl) (Nat.le_of_ble_eq_true rfl) ?_
              rw [hx]
              refine e_istore 27 50 (ls' := [some _, some _, some _, some _, some _, some _]) rfl rfl (Nat.le_of_ble_eq_true rfl) rfl ?_
              refine e_iload_n 28 51 rfl rfl rfl rfl ?_
              refine e_if_ne 29 65 54 rfl rfl rfl (by unfold xr at *; omega) (fun h9 => absurd h9 (fun q => q hc.1)) (fun _ => ?_)
              refine e_iload 30 56 rfl rfl rfl ?_
              refine e_if_eq 31 65 59 rfl rfl rfl (by unfold xr at *; omega) (fun h9 => absurd h9 (hc.2)) (fun _ => ?_)
              refine e_aload_n 32 60 rfl rfl rfl rfl ?_
              refine e_iload 33 62 rfl rfl rfl ?_
              refine g_callV 34 65 (k1) okX6_note cvX6_46 ⟨(Nat.le_of_ble_eq_true rfl), (Nat.le_of_ble_eq_true rfl)⟩ rfl rfl h.1.1 h.1.2.2.1 rfl rfl rfl rfl (Nat.le_of_ble_eq_true rfl) (Nat.le_of_ble_eq_true rfl) (Nat.le_of_ble_eq_true rfl) ?_
              refine e_iload_n 35 66 rfl rfl rfl rfl ?_
              refine e_iload 36 68 rfl rfl rfl ?_
              refine g_callS 37 71 (sp_turnOf hxb) okX10_turnOf csX6_43 ⟨(Nat.le_of_ble_eq_true rfl), (Nat.le_of_ble_eq_true rfl)⟩ rfl rfl rfl rfl (Nat.le_of_ble_eq_true rfl) (Nat.le_of_ble_eq_true rfl) (Nat.le_of_ble_eq_true rfl) ?_
              refine e_iadd 38 72 rfl rfl ?_
              refine e_istore_n 39 73 (ls' := [some _, some _, some _, some _, some _, some _]) rfl rfl rfl (Nat.le_of_ble_eq_true rfl) rfl ?_
              refine e_iinc 40 76 (ls' := [some _, some _, some _, some _, some _, some _]) rfl rfl (Nat.le_of_ble_eq_true rfl) rfl rfl ?_
              refine e_goto 41 29 rfl rfl ?_
              refine e_dropm [true, true, true, true, true, false] (ls' := [some _, some _, some _, some _, some _, none]) rfl ?_
              exact m1
            · rw [if_neg hc] at hl9 ⊢
              rw [List.nil_append] at hl9
              obtain ⟨σ', m1, m2, m3⟩ := ih (q9 ++ [x]) L9 (d + trn x) σ2 (by rw [ht, app_s]) hV2 hP2 hF2 (by rw [len_s]; omega) (by rw [len_s]; omega) (by rw [len_s]; omega)
              rw [len_s] at m1 m2
              have on : x_E MX6_take 0 0 65 [some (.ref p), some (.ref a), some (.int (ii i)), some (.int (ii d)), some (.int (ii q9.length)), some (.int (ii x))] [] (St σ2) 0 0 vv (St σ') := by
                refine e_iload_n 35 66 rfl rfl rfl rfl ?_
                refine e_iload 36 68 rfl rfl rfl ?_
                refine g_callS 37 71 (sp_turnOf hxb) okX10_turnOf csX6_43 ⟨(Nat.le_of_ble_eq_true rfl), (Nat.le_of_ble_eq_true rfl)⟩ rfl rfl rfl rfl (Nat.le_of_ble_eq_true rfl) (Nat.le_of_ble_eq_true rfl) (Nat.le_of_ble_eq_true rfl) ?_
                refine e_iadd 38 72 rfl rfl ?_
                refine e_istore_n 39 73 (ls' := [some _, some _, some _, some _, some _, some _]) rfl rfl rfl (Nat.le_of_ble_eq_true rfl) rfl ?_
                refine e_iinc 40 76 (ls' := [some _, some _, some _, some _, some _, some _]) rfl rfl (Nat.le_of_ble_eq_true rfl) rfl rfl ?_
                refine e_goto 41 29 rfl rfl ?_
                refine e_dropm [true, true, true, true, true, false] (ls' := [some _, some _, some _, some _, some _, none]) rfl ?_
                exact m1
              refine ⟨σ', ?_, by simpa using m2, m3⟩
              refine e_iload 18 31 rfl rfl rfl ?_
              refine e_aload_n 19 32 rfl rfl rfl rfl ?_
              refine g_getIN 20 35 1 ckX10 fnX6_37 rfl rfl hV2.1.1 hV2.1.2.2.1 rfl rfl hlen ?_
              refine e_icmp_ge 21 79 38 rfl rfl rfl (by unfold xr at *; omega) (by unfold xr at *; omega) (fun h9 => absurd h9 (by omega)) (fun _ => ?_)
              refine e_iload_n 22 39 rfl rfl rfl rfl ?_
              refine e_if_lt 23 79 42 rfl rfl rfl (by unfold xr at *; omega) (fun h9 => absurd h9 (by omega)) (fun _ => ?_)
              refine e_aload_n 24 43 rfl rfl rfl rfl ?_
              refine e_iload 25 45 rfl rfl rfl ?_
              refine g_callV 26 48 (sp_signAt hV2 (i := q9.length) (by unfold xr; omega)) okX10_signAt cvX6_40 ⟨(Nat.le_of_ble_eq_true rfl), (Nat.le_of_ble_eq_true rfl)⟩ rfl rfl hV2.1.1 hV2.1.2.2.1 rfl rfl rfl rfl (Nat.le_of_ble_eq_true rfl) (Nat.le_of_ble_eq_true rfl) (Nat.le_of_ble_eq_true rfl) ?_
              rw [hx]
              refine e_istore 27 50 (ls' := [some _, some _, some _, some _, some _, some _]) rfl rfl (Nat.le_of_ble_eq_true rfl) rfl ?_
              refine e_iload_n 28 51 rfl rfl rfl rfl ?_
              refine e_if_ne 29 65 54 rfl rfl rfl (by unfold xr at *; omega) (fun h5 => ?_) (fun h5 => ?_)
              · skip
                exact on
              · skip
                refine e_iload 30 56 rfl rfl rfl ?_
                refine e_if_eq 31 65 59 rfl rfl rfl (by unfold xr at *; omega) (fun _ => ?_) (fun h9 => absurd h9 (fun q => hc ⟨h5, q⟩))
                exact on
      have ht2 : t = t.take (i.toNat + 1) ++ t.drop (i.toNat + 1) := (List.take_append_drop _ _).symm
      have hl2 : ((t.take (i.toNat + 1)).length : Int) = i + 1 := by rw [List.length_take]; omega
      obtain ⟨σ', m1, m2, m3⟩ := loop (t.drop (i.toNat + 1)) (t.take (i.toNat + 1)) (L ++ [i]) 0 σ1 ht2 hV1 h2 h3 (by omega) (by omega) (by rw [hl2]; simp only [List.length_append, List.length_singleton]; omega)
      rw [hl2] at m1 m2
      refine ⟨σ', ?_, by rw [e]; simpa using m2, m3⟩
      refine e_entry okX6_take (Nat.le_of_ble_eq_true rfl) (ls := [some _, some _, some _, none, none, none]) rfl ?_
      refine e_iload_n 0 1 rfl rfl rfl rfl ?_
      refine e_if_ge 1 5 4 rfl rfl rfl (by unfold xr at *; omega) (fun _ => ?_) (fun h9 => absurd h9 (by omega))
      refine e_aload_n 3 6 rfl rfl rfl rfl ?_
      refine e_iload_n 4 7 rfl rfl rfl rfl ?_
      refine g_callV 5 10 (h1) okX6_note cvX6_46 ⟨(Nat.le_of_ble_eq_true rfl), (Nat.le_of_ble_eq_true rfl)⟩ rfl rfl h.1.1 h.1.2.2.1 rfl rfl rfl rfl (Nat.le_of_ble_eq_true rfl) (Nat.le_of_ble_eq_true rfl) (Nat.le_of_ble_eq_true rfl) ?_
      refine e_aload_n 6 11 rfl rfl rfl rfl ?_
      refine e_iload_n 7 12 rfl rfl rfl rfl ?_
      refine g_callV 8 15 (sp_signAt hV1 (by unfold xr; omega)) okX10_signAt cvX6_40 ⟨(Nat.le_of_ble_eq_true rfl), (Nat.le_of_ble_eq_true rfl)⟩ rfl rfl hV.1.1 hV.1.2.2.1 rfl rfl rfl rfl (Nat.le_of_ble_eq_true rfl) (Nat.le_of_ble_eq_true rfl) (Nat.le_of_ble_eq_true rfl) ?_
      rw [h4]
      refine e_sipush 9 18 rfl rfl rfl ?_
      refine e_icmp_eq 10 22 21 rfl rfl rfl (by unfold xr at *; omega) (by unfold xr at *; omega) (fun _ => ?_) (fun h9 => absurd h9 (by omega))
      refine e_iconst 12 23 rfl rfl ?_
      refine e_istore_n 13 24 (ls' := [some _, some _, some _, some _, none, none]) rfl rfl rfl (Nat.le_of_ble_eq_true rfl) rfl ?_
      refine e_iload_n 14 25 rfl rfl rfl rfl ?_
      refine e_iconst 15 26 rfl rfl ?_
      refine e_iadd 16 27 rfl rfl ?_
      refine e_istore 17 29 (ls' := [some _, some _, some _, some _, some _, none]) rfl rfl (Nat.le_of_ble_eq_true rfl) rfl ?_
      exact m1
    · rw [if_neg h4] at e
      refine ⟨σ1, ?_, by rw [e]; exact h2, h3⟩
      refine e_entry okX6_take (Nat.le_of_ble_eq_true rfl) (ls := [some _, some _, some _, none, none, none]) rfl ?_
      refine e_iload_n 0 1 rfl rfl rfl rfl ?_
      refine e_if_ge 1 5 4 rfl rfl rfl (by unfold xr at *; omega) (fun _ => ?_) (fun h9 => absurd h9 (by omega))
      refine e_aload_n 3 6 rfl rfl rfl rfl ?_
      refine e_iload_n 4 7 rfl rfl rfl rfl ?_
      refine g_callV 5 10 (h1) okX6_note cvX6_46 ⟨(Nat.le_of_ble_eq_true rfl), (Nat.le_of_ble_eq_true rfl)⟩ rfl rfl h.1.1 h.1.2.2.1 rfl rfl rfl rfl (Nat.le_of_ble_eq_true rfl) (Nat.le_of_ble_eq_true rfl) (Nat.le_of_ble_eq_true rfl) ?_
      refine e_aload_n 6 11 rfl rfl rfl rfl ?_
      refine e_iload_n 7 12 rfl rfl rfl rfl ?_
      refine g_callV 8 15 (sp_signAt hV1 (by unfold xr; omega)) okX10_signAt cvX6_40 ⟨(Nat.le_of_ble_eq_true rfl), (Nat.le_of_ble_eq_true rfl)⟩ rfl rfl hV.1.1 hV.1.2.2.1 rfl rfl rfl rfl (Nat.le_of_ble_eq_true rfl) (Nat.le_of_ble_eq_true rfl) (Nat.le_of_ble_eq_true rfl) ?_
      refine e_sipush 9 18 rfl rfl rfl ?_
      refine e_icmp_eq 10 22 21 rfl rfl rfl (by unfold xr at *; omega) (by unfold xr at *; omega) (fun h9 => absurd h9 (by omega)) (fun _ => ?_)
      exact e_return 11 rfl rfl (Nat.le_of_ble_eq_true rfl) (Nat.le_of_ble_eq_true rfl)

/-- the places at a field of the objects that are parts of a row, in the signs behind the row's own -/
def tsc (t : List Int) : List Int → Int → Int → Int → List Int
  | [], _, _, _ => []
  | x :: r, f, d, i => if d < 0 then [] else (if d = 1 ∧ x = 1 + f then tkl t (i + 1) else []) ++ tsc t r f (d + trn x) (i + 1)
theorem sp_takeOfEach {σ : xSig} {p a cap : Nat} {t L : List Int} (hV : VH σ a cap t) (ha : vO a = true) (h : PH σ p L) {f : Int} (hf : 0 ≤ f ∧ f < 8) (p0 r0 : List Int) (h0 : t = p0 ++ r0) (hp0 : 0 < p0.length) (h24 : L.length + (tsc t r0 f 0 p0.length).length ≤ 24) :
    ∃ σ' : xSig, x_Sp MX6_takeOfEach 0 0 [.ref p, .ref a, .int (ii (p0.length - 1)), .int (ii f)] (St σ) vv (St σ') ∧ PH σ' p (L ++ tsc t r0 f 0 p0.length) ∧ Fr p σ σ' := by
  have hcap := hV.2.2.1
  have h200 := hV.2.2.2.1
  have hl0 : p0.length ≤ t.length := by rw [h0]; simp
  have loop : ∀ (r q9 L9 : List Int) (d : Int) (σ2 : xSig), t = q9 ++ r → VH σ2 a cap t → PH σ2 p L9 → Fr p σ σ2 → -(q9.length : Int) ≤ d → d ≤ q9.length → L9.length + (tsc t r f d q9.length).length ≤ 24 → ∃ σ' : xSig, x_E MX6_takeOfEach 0 0 8 [some (.ref p), some (.ref a), some (.int (ii (p0.length - 1))), some (.int (ii f)), some (.int (ii d)), some (.int (ii q9.length)), none] [] (St σ2) 0 0 vv (St σ') ∧ PH σ' p (L9 ++ tsc t r f d q9.length) ∧ Fr p σ σ' := by
    intro r
    induction r with
    | nil =>
      intro q9 L9 d σ2 ht hV2 hP2 hF2 hd1 hd2 hl9
      have hlen := hV2.2.1
      have hl : t.length = q9.length := by rw [ht]; simp
      refine ⟨σ2, ?_, by simpa [tsc] using hP2, hF2⟩
      refine e_iload 6 10 rfl rfl rfl ?_
      refine e_aload_n 7 11 rfl rfl rfl rfl ?_
      refine g_getIN 8 14 1 ckX10 fnX6_37 rfl rfl hV2.1.1 hV2.1.2.2.1 rfl rfl hlen ?_
      refine e_icmp_ge 9 69 17 rfl rfl rfl (by unfold xr at *; omega) (by unfold xr at *; omega) (fun _ => ?_) (fun h9 => absurd h9 (by omega))
      exact e_return 37 rfl rfl (Nat.le_of_ble_eq_true rfl) (Nat.le_of_ble_eq_true rfl)
    | cons x r ih =>
      intro q9 L9 d σ2 ht hV2 hP2 hF2 hd1 hd2 hl9
      have hlen := hV2.2.1
      have hl : t.length = q9.length + r.length + 1 := by rw [ht]; simp; omega
      have hx : tok t q9.length = x := by rw [ht]; exact tok_hd q9 x r
      have hxb := hV.bnd q9.length
      rw [hx] at hxb
      have htr := trn_in x
      by_cases hd : d < 0
      · refine ⟨σ2, ?_, by simp only [tsc]; rw [if_pos hd, List.append_nil]; exact hP2, hF2⟩
        refine e_iload 6 10 rfl rfl rfl ?_
        refine e_aload_n 7 11 rfl rfl rfl rfl ?_
        refine g_getIN 8 14 1 ckX10 fnX6_37 rfl rfl hV2.1.1 hV2.1.2.2.1 rfl rfl hlen ?_
        refine e_icmp_ge 9 69 17 rfl rfl rfl (by unfold xr at *; omega) (by unfold xr at *; omega) (fun h9 => absurd h9 (by omega)) (fun _ => ?_)
        refine e_iload 10 19 rfl rfl rfl ?_
        refine e_if_lt 11 69 22 rfl rfl rfl (by unfold xr at *; omega) (fun _ => ?_) (fun h9 => absurd h9 (by omega))
        exact e_return 37 rfl rfl (Nat.le_of_ble_eq_true rfl) (Nat.le_of_ble_eq_true rfl)
      · have e3 : tsc t (x :: r) f d q9.length = (if d = 1 ∧ x = 1 + f then tkl t (q9.length + 1) else []) ++ tsc t r f (d + trn x) (q9.length + 1) := by simp only [tsc]; rw [if_neg hd]
        rw [e3] at hl9 ⊢
        have on : ∀ (σ3 : xSig) (L3 : List Int), VH σ3 a cap t → PH σ3 p L3 → Fr p σ σ3 → L3.length + (tsc t r f (d + trn x) (q9.length + 1)).length ≤ 24 → ∃ σ' : xSig, x_E MX6_takeOfEach 0 0 53 [some (.ref p), some (.ref a), some (.int (ii (p0.length - 1))), some (.int (ii f)), some (.int (ii d)), some (.int (ii q9.length)), some (.int (ii x))] [] (St σ3) 0 0 vv (St σ') ∧ PH σ' p (L3 ++ tsc t r f (d + trn x) (q9.length + 1)) ∧ Fr p σ σ' := by
          intro σ3 L3 hV3 hP3 hF3 hl3
          obtain ⟨σ', m1, m2, m3⟩ := ih (q9 ++ [x]) L3 (d + trn x) σ3 (by rw [ht, app_s]) hV3 hP3 hF3 (by rw [len_s]; omega) (by rw [len_s]; omega) (by rw [len_s]; exact hl3)
          rw [len_s] at m1 m2
          refine ⟨σ', ?_, m2, m3⟩
          refine e_iload 30 55 rfl rfl rfl ?_
          refine e_iload 31 57 rfl rfl rfl ?_
          refine g_callS 32 60 (sp_turnOf hxb) okX10_turnOf csX6_43 ⟨(Nat.le_of_ble_eq_true rfl), (Nat.le_of_ble_eq_true rfl)⟩ rfl rfl rfl rfl (Nat.le_of_ble_eq_true rfl) (Nat.le_of_ble_eq_true rfl) (Nat.le_of_ble_eq_true rfl) ?_
          refine e_iadd 33 61 rfl rfl ?_
          refine e_istore 34 63 (ls' := [some _, some _, some _, some _, some _, some _, some _]) rfl rfl (Nat.le_of_ble_eq_true rfl) rfl ?_
          refine e_iinc 35 66 (ls' := [some _, some _, some _, some _, some _, some _, some _]) rfl rfl (Nat.le_of_ble_eq_true rfl) rfl rfl ?_
          refine e_goto 36 8 rfl rfl ?_
          refine e_dropm [true, true, true, true, true, true, false] (ls' := [some _, some _, some _, some _, some _, some _, none]) rfl ?_
          exact m1
        by_cases hc : d = 1 ∧ x = 1 + f
        · rw [if_pos hc] at hl9 ⊢
          simp only [List.length_append] at hl9
          obtain ⟨σ3, k1, k2, k3⟩ := sp_take hV2 ha hP2 (i := (q9.length : Int) + 1) (by unfold xr; omega) (by omega)
          obtain ⟨σ', m1, m2, m3⟩ := on σ3 _ (hV2.pl ha h.1 k3) k2 (hF2.tr k3) (by simp only [List.length_append]; omega)
          refine ⟨σ', ?_, by simpa using m2, m3⟩
          refine e_iload 6 10 rfl rfl rfl ?_
          refine e_aload_n 7 11 rfl rfl rfl rfl ?_
          refine g_getIN 8 14 1 ckX10 fnX6_37 rfl rfl hV2.1.1 hV2.1.2.2.1 rfl rfl hlen ?_
          refine e_icmp_ge 9 69 17 rfl rfl rfl (by unfold xr at *; omega) (by unfold xr at *; omega) (fun h9 => absurd h9 (by omega)) (fun _ => ?_)
          refine e_iload 10 19 rfl rfl rfl ?_
          refine e_if_lt 11 69 22 rfl rfl rfl (by unfold xr at *; omega) (fun h9 => absurd h9 (by omega)) (fun _ => ?_)
          refine e_aload_n 12 23 rfl rfl rfl rfl ?_
          refine e_iload 13 25 rfl rfl rfl ?_
          refine g_callV 14 28 (sp_signAt hV2 (i := q9.length) (by unfold xr; omega)) okX10_signAt cvX6_40 ⟨(Nat.le_of_ble_eq_true rfl), (Nat.le_of_ble_eq_true rfl)⟩ rfl rfl hV2.1.1 hV2.1.2.2.1 rfl rfl rfl rfl (Nat.le_of_ble_eq_true rfl) (Nat.le_of_ble_eq_true rfl) (Nat.le_of_ble_eq_true rfl) ?_
          rw [hx]
          refine e_istore 15 30 (ls' := [some _, some _, some _, some _, some _, some _, some _]) rfl rfl (Nat.le_of_ble_eq_true rfl) rfl ?_
          refine e_iload 16 32 rfl rfl rfl ?_
          refine e_iconst 17 33 rfl rfl ?_
          refine e_icmp_ne 18 53 36 rfl rfl rfl (by unfold xr at *; omega) (by unfold xr at *; omega) (fun h9 => absurd h9 (fun q => q hc.1)) (fun _ => ?_)
          refine e_iload 19 38 rfl rfl rfl ?_
          refine e_iconst 20 39 rfl rfl ?_
          refine e_iload_n 21 40 rfl rfl rfl rfl ?_
          refine e_iadd 22 41 rfl rfl ?_
          refine e_icmp_ne 23 53 44 rfl rfl rfl (by unfold xr at *; omega) (by unfold xr at *; omega) (fun h9 => absurd h9 (fun q => q hc.2)) (fun _ => ?_)
          refine e_aload_n 24 45 rfl rfl rfl rfl ?_
          refine e_aload_n 25 46 rfl rfl rfl rfl ?_
          refine e_iload 26 48 rfl rfl rfl ?_
          refine e_iconst 27 49 rfl rfl ?_
          refine e_iadd 28 50 rfl rfl ?_
          refine g_callV 29 53 (k1) okX6_take cvX6_25 ⟨(Nat.le_of_ble_eq_true rfl), (Nat.le_of_ble_eq_true rfl)⟩ rfl rfl h.1.1 h.1.2.2.1 rfl rfl rfl rfl (Nat.le_of_ble_eq_true rfl) (Nat.le_of_ble_eq_true rfl) (Nat.le_of_ble_eq_true rfl) ?_
          exact m1
        · rw [if_neg hc] at hl9 ⊢
          rw [List.nil_append] at hl9
          obtain ⟨σ', m1, m2, m3⟩ := on σ2 L9 hV2 hP2 hF2 (by omega)
          refine ⟨σ', ?_, by simpa using m2, m3⟩
          refine e_iload 6 10 rfl rfl rfl ?_
          refine e_aload_n 7 11 rfl rfl rfl rfl ?_
          refine g_getIN 8 14 1 ckX10 fnX6_37 rfl rfl hV2.1.1 hV2.1.2.2.1 rfl rfl hlen ?_
          refine e_icmp_ge 9 69 17 rfl rfl rfl (by unfold xr at *; omega) (by unfold xr at *; omega) (fun h9 => absurd h9 (by omega)) (fun _ => ?_)
          refine e_iload 10 19 rfl rfl rfl ?_
          refine e_if_lt 11 69 22 rfl rfl rfl (by unfold xr at *; omega) (fun h9 => absurd h9 (by omega)) (fun _ => ?_)
          refine e_aload_n 12 23 rfl rfl rfl rfl ?_
          refine e_iload 13 25 rfl rfl rfl ?_
          refine g_callV 14 28 (sp_signAt hV2 (i := q9.length) (by unfold xr; omega)) okX10_signAt cvX6_40 ⟨(Nat.le_of_ble_eq_true rfl), (Nat.le_of_ble_eq_true rfl)⟩ rfl rfl hV2.1.1 hV2.1.2.2.1 rfl rfl rfl rfl (Nat.le_of_ble_eq_true rfl) (Nat.le_of_ble_eq_true rfl) (Nat.le_of_ble_eq_true rfl) ?_
          rw [hx]
          refine e_istore 15 30 (ls' := [some _, some _, some _, some _, some _, some _, some _]) rfl rfl (Nat.le_of_ble_eq_true rfl) rfl ?_
          refine e_iload 16 32 rfl rfl rfl ?_
          refine e_iconst 17 33 rfl rfl ?_
          refine e_icmp_ne 18 53 36 rfl rfl rfl (by unfold xr at *; omega) (by unfold xr at *; omega) (fun h5 => ?_) (fun h5 => ?_)
          · skip
            exact m1
          · skip
            refine e_iload 19 38 rfl rfl rfl ?_
            refine e_iconst 20 39 rfl rfl ?_
            refine e_iload_n 21 40 rfl rfl rfl rfl ?_
            refine e_iadd 22 41 rfl rfl ?_
            refine e_icmp_ne 23 53 44 rfl rfl rfl (by unfold xr at *; omega) (by unfold xr at *; omega) (fun _ => ?_) (fun h9 => absurd h9 (fun q => hc ⟨h5, q⟩))
            exact m1
  obtain ⟨σ', m1, m2, m3⟩ := loop r0 p0 L 0 σ h0 hV h Fr.rf (by omega) (by omega) h24
  refine ⟨σ', ?_, m2, m3⟩
  refine e_entry okX6_takeOfEach (Nat.le_of_ble_eq_true rfl) (ls := [some _, some _, some _, some _, none, none, none]) rfl ?_
  refine e_iconst 0 1 rfl rfl ?_
  refine e_istore 1 3 (ls' := [some _, some _, some _, some _, some _, none, none]) rfl rfl (Nat.le_of_ble_eq_true rfl) rfl ?_
  refine e_iload_n 2 4 rfl rfl rfl rfl ?_
  refine e_iconst 3 5 rfl rfl ?_
  refine e_iadd 4 6 rfl rfl ?_
  refine e_istore 5 8 (ls' := [some _, some _, some _, some _, some _, some _, none]) rfl rfl (Nat.le_of_ble_eq_true rfl) rfl ?_
  rw [show (p0.length : Int) - 1 + 1 = p0.length by omega]
  exact m1
/-- the places of what a document has at a path -/
def atp (t : List Int) (path : Int) : List Int :=
  if path < 8 then tkl t (plc (t.take 1) (t.drop 1) path)
  else if knd (tok t (plc (t.take 1) (t.drop 1) (path / 8 - 1))) = 4 then tkl t (plc (t.take ((plc (t.take 1) (t.drop 1) (path / 8 - 1)).toNat + 1)) (t.drop ((plc (t.take 1) (t.drop 1) (path / 8 - 1)).toNat + 1)) (path % 8))
  else if knd (tok t (plc (t.take 1) (t.drop 1) (path / 8 - 1))) = 3 then tsc t (t.drop ((plc (t.take 1) (t.drop 1) (path / 8 - 1)).toNat + 1)) (path % 8) 0 (plc (t.take 1) (t.drop 1) (path / 8 - 1) + 1)
  else []
theorem plc_bnd (p0 r0 : List Int) (f : Int) : -1 ≤ plc p0 r0 f ∧ plc p0 r0 f ≤ p0.length + r0.length + 1 := by
  unfold plc
  have := ssc_le r0 f 0
  split <;> omega
theorem knd_tok_in {t : List Int} {i : Int} (h : knd (tok t i) ≠ 0) : 0 ≤ i ∧ i < t.length := by
  rcases (by omega : i < 0 ∨ (t.length : Int) ≤ i ∨ (0 ≤ i ∧ i < t.length)) with q | q | q
  · rw [tok_neg q] at h
    exact absurd rfl h
  · rw [tok_big q] at h
    exact absurd rfl h
  · exact q
theorem sp_gather {σ : xSig} {p a cap : Nat} {t : List Int} (hV : VH σ a cap t) (ha : vO a = true) (ht : 0 < t.length) (hP : isPl p) {path : Int} (hp : 0 ≤ path ∧ path < 72) (h24 : (atp t path).length ≤ 24) :
    ∃ σ' : xSig, x_Sp MX6_gather 0 0 [.ref p, .ref a, .int (ii path)] (St σ) vv (St σ') ∧ PH σ' p (atp t path) ∧ Fr p σ σ' := by
  have hcap := hV.2.2.1
  have h200 := hV.2.2.2.1
  have hP0 : PH (xu σ p 1 0) p [] := ⟨hP, by rw [xu_same]; rfl, by simp, fun i hi => by simp at hi⟩
  have hV0 := hV.pl ha hP (Fr.xu0 (σ := σ) (a := p) (j := 1) (v := 0))
  have ht1 : t = t.take 1 ++ t.drop 1 := (List.take_append_drop 1 t).symm
  have hl1 : (t.take 1).length = 1 := by rw [List.length_take]; omega
  have hplc : ∀ f : Int, 0 ≤ f ∧ f < 8 → Rd MX10_placeOf [.ref a, .int (ii 0), .int (ii f)] (xu σ p 1 0) (iv (plc (t.take 1) (t.drop 1) f)) := by
    intro f hf
    have := sp_placeOf hV0 hf (t.take 1) (t.drop 1) ht1 (by omega)
    rw [hl1] at this
    exact this
  have hb1 : ∀ f : Int, -1 ≤ plc (t.take 1) (t.drop 1) f ∧ plc (t.take 1) (t.drop 1) f ≤ 300 := fun f => by
    have := plc_bnd (t.take 1) (t.drop 1) f
    rw [hl1, List.length_drop] at this
    omega
  by_cases h8 : path < 8
  · have e : atp t path = tkl t (plc (t.take 1) (t.drop 1) path) := by unfold atp; rw [if_pos h8]
    have hq := hb1 path
    obtain ⟨σ', k1, k2, k3⟩ := sp_take hV0 ha hP0 (i := plc (t.take 1) (t.drop 1) path) (by unfold xr; omega) (by rw [← e]; simpa using h24)
    refine ⟨σ', ?_, by rw [e]; simpa using k2, Fr.xu0.tr k3⟩
    refine e_entry okX6_gather (Nat.le_of_ble_eq_true rfl) (ls := [some _, some _, some _, none, none, none]) rfl ?_
    refine e_aload_n 0 1 rfl rfl rfl rfl ?_
    refine e_iconst 1 2 rfl rfl ?_
    refine g_putI 2 5 1 ckX6 flX6_15 rfl rfl hP.1 hP.2.2.1 rfl rfl ?_
    refine e_iload_n 3 6 rfl rfl rfl rfl ?_
    refine e_bipush 4 8 rfl rfl rfl ?_
    refine e_icmp_ge 5 23 11 rfl rfl rfl (by unfold xr at *; omega) (by unfold xr at *; omega) (fun h9 => absurd h9 (by omega)) (fun _ => ?_)
    refine e_aload_n 6 12 rfl rfl rfl rfl ?_
    refine e_aload_n 7 13 rfl rfl rfl rfl ?_
    refine e_aload_n 8 14 rfl rfl rfl rfl ?_
    refine e_iconst 9 15 rfl rfl ?_
    refine e_iload_n 10 16 rfl rfl rfl rfl ?_
    refine g_callV 11 19 (hplc path ⟨hp.1, h8⟩) okX10_placeOf cvX6_19 ⟨(Nat.le_of_ble_eq_true rfl), (Nat.le_of_ble_eq_true rfl)⟩ rfl rfl hV.1.1 hV.1.2.2.1 rfl rfl rfl rfl (Nat.le_of_ble_eq_true rfl) (Nat.le_of_ble_eq_true rfl) (Nat.le_of_ble_eq_true rfl) ?_
    refine g_callV 12 22 (k1) okX6_take cvX6_25 ⟨(Nat.le_of_ble_eq_true rfl), (Nat.le_of_ble_eq_true rfl)⟩ rfl rfl hP.1 hP.2.2.1 rfl rfl rfl rfl (Nat.le_of_ble_eq_true rfl) (Nat.le_of_ble_eq_true rfl) (Nat.le_of_ble_eq_true rfl) ?_
    exact e_return 13 rfl rfl (Nat.le_of_ble_eq_true rfl) (Nat.le_of_ble_eq_true rfl)
  · have hf1 : 0 ≤ path / 8 - 1 ∧ path / 8 - 1 < 8 := by omega
    have hf2 : 0 ≤ path % 8 ∧ path % 8 < 8 := by omega
    have hq := hb1 (path / 8 - 1)
    generalize hz : plc (t.take 1) (t.drop 1) (path / 8 - 1) = z at hq
    have hk := hplc (path / 8 - 1) hf1
    rw [hz] at hk
    have hkn := knd_bnd (tok t z)
    have hxz : xr z := by unfold xr; omega
    by_cases h4 : knd (tok t z) = 4
    · have e : atp t path = tkl t (plc (t.take (z.toNat + 1)) (t.drop (z.toNat + 1)) (path % 8)) := by unfold atp; rw [if_neg h8, hz, if_pos h4]
      have hzi := knd_tok_in (t := t) (i := z) (by omega)
      have hl2 : ((t.take (z.toNat + 1)).length : Int) = z + 1 := by rw [List.length_take]; omega
      have hk2 := sp_placeOf hV0 hf2 (t.take (z.toNat + 1)) (t.drop (z.toNat + 1)) (List.take_append_drop _ t).symm (by omega)
      rw [hl2, show z + 1 - 1 = z by omega] at hk2
      have hq2 := plc_bnd (t.take (z.toNat + 1)) (t.drop (z.toNat + 1)) (path % 8)
      rw [List.length_drop] at hq2
      obtain ⟨σ', k1, k2, k3⟩ := sp_take hV0 ha hP0 (i := plc (t.take (z.toNat + 1)) (t.drop (z.toNat + 1)) (path % 8)) (by unfold xr; omega) (by rw [← e]; simpa using h24)
      refine ⟨σ', ?_, by rw [e]; simpa using k2, Fr.xu0.tr k3⟩
      refine e_entry okX6_gather (Nat.le_of_ble_eq_true rfl) (ls := [some _, some _, some _, none, none, none]) rfl ?_
      refine e_aload_n 0 1 rfl rfl rfl rfl ?_
      refine e_iconst 1 2 rfl rfl ?_
      refine g_putI 2 5 1 ckX6 flX6_15 rfl rfl hP.1 hP.2.2.1 rfl rfl ?_
      refine e_iload_n 3 6 rfl rfl rfl rfl ?_
      refine e_bipush 4 8 rfl rfl rfl ?_
      refine e_icmp_ge 5 23 11 rfl rfl rfl (by unfold xr at *; omega) (by unfold xr at *; omega) (fun _ => ?_) (fun h9 => absurd h9 (by omega))
      refine e_aload_n 14 24 rfl rfl rfl rfl ?_
      refine e_iconst 15 25 rfl rfl ?_
      refine e_iload_n 16 26 rfl rfl rfl rfl ?_
      refine e_bipush 17 28 rfl rfl rfl ?_
      refine e_idiv 18 29 rfl rfl (by decide) (ii_div (by omega) (by omega)) ?_
      refine e_iconst 19 30 rfl rfl ?_
      refine e_isub 20 31 rfl rfl ?_
      refine g_callV 21 34 (hk) okX10_placeOf cvX6_19 ⟨(Nat.le_of_ble_eq_true rfl), (Nat.le_of_ble_eq_true rfl)⟩ rfl rfl hV.1.1 hV.1.2.2.1 rfl rfl rfl rfl (Nat.le_of_ble_eq_true rfl) (Nat.le_of_ble_eq_true rfl) (Nat.le_of_ble_eq_true rfl) ?_
      refine e_istore_n 22 35 (ls' := [some _, some _, some _, some _, none, none]) rfl rfl rfl (Nat.le_of_ble_eq_true rfl) rfl ?_
      refine e_iload_n 23 36 rfl rfl rfl rfl ?_
      refine e_bipush 24 38 rfl rfl rfl ?_
      refine e_irem 25 39 rfl rfl (by decide) (ii_rem (by omega) (by omega)) ?_
      refine e_istore 26 41 (ls' := [some _, some _, some _, some _, some _, none]) rfl rfl (Nat.le_of_ble_eq_true rfl) rfl ?_
      refine e_aload_n 27 42 rfl rfl rfl rfl ?_
      refine e_iload_n 28 43 rfl rfl rfl rfl ?_
      refine g_callV 29 46 (sp_kindAt hV0 hxz) okX10_kindAt cvX6_29 ⟨(Nat.le_of_ble_eq_true rfl), (Nat.le_of_ble_eq_true rfl)⟩ rfl rfl hV.1.1 hV.1.2.2.1 rfl rfl rfl rfl (Nat.le_of_ble_eq_true rfl) (Nat.le_of_ble_eq_true rfl) (Nat.le_of_ble_eq_true rfl) ?_
      rw [h4]
      refine e_istore 30 48 (ls' := [some _, some _, some _, some _, some _, some _]) rfl rfl (Nat.le_of_ble_eq_true rfl) rfl ?_
      refine e_iload 31 50 rfl rfl rfl ?_
      refine e_iconst 32 51 rfl rfl ?_
      refine e_icmp_ne 33 66 54 rfl rfl rfl (by unfold xr at *; omega) (by unfold xr at *; omega) (fun h9 => absurd h9 (by omega)) (fun _ => ?_)
      refine e_aload_n 34 55 rfl rfl rfl rfl ?_
      refine e_aload_n 35 56 rfl rfl rfl rfl ?_
      refine e_aload_n 36 57 rfl rfl rfl rfl ?_
      refine e_iload_n 37 58 rfl rfl rfl rfl ?_
      refine e_iload 38 60 rfl rfl rfl ?_
      refine g_callV 39 63 (hk2) okX10_placeOf cvX6_19 ⟨(Nat.le_of_ble_eq_true rfl), (Nat.le_of_ble_eq_true rfl)⟩ rfl rfl hV.1.1 hV.1.2.2.1 rfl rfl rfl rfl (Nat.le_of_ble_eq_true rfl) (Nat.le_of_ble_eq_true rfl) (Nat.le_of_ble_eq_true rfl) ?_
      refine g_callV 40 66 (k1) okX6_take cvX6_25 ⟨(Nat.le_of_ble_eq_true rfl), (Nat.le_of_ble_eq_true rfl)⟩ rfl rfl hP.1 hP.2.2.1 rfl rfl rfl rfl (Nat.le_of_ble_eq_true rfl) (Nat.le_of_ble_eq_true rfl) (Nat.le_of_ble_eq_true rfl) ?_
      refine e_iload 41 68 rfl rfl rfl ?_
      refine e_iconst 42 69 rfl rfl ?_
      refine e_icmp_ne 43 80 72 rfl rfl rfl (by unfold xr at *; omega) (by unfold xr at *; omega) (fun _ => ?_) (fun h9 => absurd h9 (by omega))
      exact e_return 49 rfl rfl (Nat.le_of_ble_eq_true rfl) (Nat.le_of_ble_eq_true rfl)
    · by_cases h3 : knd (tok t z) = 3
      · have e : atp t path = tsc t (t.drop (z.toNat + 1)) (path % 8) 0 (z + 1) := by unfold atp; rw [if_neg h8, hz, if_neg h4, if_pos h3]
        have hzi := knd_tok_in (t := t) (i := z) (by omega)
        have hl2 : ((t.take (z.toNat + 1)).length : Int) = z + 1 := by rw [List.length_take]; omega
        obtain ⟨σ', k1, k2, k3⟩ := sp_takeOfEach hV0 ha hP0 hf2 (t.take (z.toNat + 1)) (t.drop (z.toNat + 1)) (List.take_append_drop _ t).symm (by omega) (by rw [hl2, ← e]; simpa using h24)
        rw [hl2] at k1 k2
        rw [show z + 1 - 1 = z by omega] at k1
        refine ⟨σ', ?_, by rw [e]; simpa using k2, Fr.xu0.tr k3⟩
        refine e_entry okX6_gather (Nat.le_of_ble_eq_true rfl) (ls := [some _, some _, some _, none, none, none]) rfl ?_
        refine e_aload_n 0 1 rfl rfl rfl rfl ?_
        refine e_iconst 1 2 rfl rfl ?_
        refine g_putI 2 5 1 ckX6 flX6_15 rfl rfl hP.1 hP.2.2.1 rfl rfl ?_
        refine e_iload_n 3 6 rfl rfl rfl rfl ?_
        refine e_bipush 4 8 rfl rfl rfl ?_
        refine e_icmp_ge 5 23 11 rfl rfl rfl (by unfold xr at *; omega) (by unfold xr at *; omega) (fun _ => ?_) (fun h9 => absurd h9 (by omega))
        refine e_aload_n 14 24 rfl rfl rfl rfl ?_
        refine e_iconst 15 25 rfl rfl ?_
        refine e_iload_n 16 26 rfl rfl rfl rfl ?_
        refine e_bipush 17 28 rfl rfl rfl ?_
        refine e_idiv 18 29 rfl rfl (by decide) (ii_div (by omega) (by omega)) ?_
        refine e_iconst 19 30 rfl rfl ?_
        refine e_isub 20 31 rfl rfl ?_
        refine g_callV 21 34 (hk) okX10_placeOf cvX6_19 ⟨(Nat.le_of_ble_eq_true rfl), (Nat.le_of_ble_eq_true rfl)⟩ rfl rfl hV.1.1 hV.1.2.2.1 rfl rfl rfl rfl (Nat.le_of_ble_eq_true rfl) (Nat.le_of_ble_eq_true rfl) (Nat.le_of_ble_eq_true rfl) ?_
        refine e_istore_n 22 35 (ls' := [some _, some _, some _, some _, none, none]) rfl rfl rfl (Nat.le_of_ble_eq_true rfl) rfl ?_
        refine e_iload_n 23 36 rfl rfl rfl rfl ?_
        refine e_bipush 24 38 rfl rfl rfl ?_
        refine e_irem 25 39 rfl rfl (by decide) (ii_rem (by omega) (by omega)) ?_
        refine e_istore 26 41 (ls' := [some _, some _, some _, some _, some _, none]) rfl rfl (Nat.le_of_ble_eq_true rfl) rfl ?_
        refine e_aload_n 27 42 rfl rfl rfl rfl ?_
        refine e_iload_n 28 43 rfl rfl rfl rfl ?_
        refine g_callV 29 46 (sp_kindAt hV0 hxz) okX10_kindAt cvX6_29 ⟨(Nat.le_of_ble_eq_true rfl), (Nat.le_of_ble_eq_true rfl)⟩ rfl rfl hV.1.1 hV.1.2.2.1 rfl rfl rfl rfl (Nat.le_of_ble_eq_true rfl) (Nat.le_of_ble_eq_true rfl) (Nat.le_of_ble_eq_true rfl) ?_
        rw [h3]
        refine e_istore 30 48 (ls' := [some _, some _, some _, some _, some _, some _]) rfl rfl (Nat.le_of_ble_eq_true rfl) rfl ?_
        refine e_iload 31 50 rfl rfl rfl ?_
        refine e_iconst 32 51 rfl rfl ?_
        refine e_icmp_ne 33 66 54 rfl rfl rfl (by unfold xr at *; omega) (by unfold xr at *; omega) (fun _ => ?_) (fun h9 => absurd h9 (by omega))
        refine e_iload 41 68 rfl rfl rfl ?_
        refine e_iconst 42 69 rfl rfl ?_
        refine e_icmp_ne 43 80 72 rfl rfl rfl (by unfold xr at *; omega) (by unfold xr at *; omega) (fun h9 => absurd h9 (by omega)) (fun _ => ?_)
        refine e_aload_n 44 73 rfl rfl rfl rfl ?_
        refine e_aload_n 45 74 rfl rfl rfl rfl ?_
        refine e_iload_n 46 75 rfl rfl rfl rfl ?_
        refine e_iload 47 77 rfl rfl rfl ?_
        refine g_callV 48 80 (k1) okX6_takeOfEach cvX6_33 ⟨(Nat.le_of_ble_eq_true rfl), (Nat.le_of_ble_eq_true rfl)⟩ rfl rfl hP.1 hP.2.2.1 rfl rfl rfl rfl (Nat.le_of_ble_eq_true rfl) (Nat.le_of_ble_eq_true rfl) (Nat.le_of_ble_eq_true rfl) ?_
        exact e_return 49 rfl rfl (Nat.le_of_ble_eq_true rfl) (Nat.le_of_ble_eq_true rfl)
      · have e : atp t path = [] := by unfold atp; rw [if_neg h8, hz, if_neg h4, if_neg h3]
        refine ⟨xu σ p 1 0, ?_, by rw [e]; exact hP0, Fr.xu0⟩
        refine e_entry okX6_gather (Nat.le_of_ble_eq_true rfl) (ls := [some _, some _, some _, none, none, none]) rfl ?_
        refine e_aload_n 0 1 rfl rfl rfl rfl ?_
        refine e_iconst 1 2 rfl rfl ?_
        refine g_putI 2 5 1 ckX6 flX6_15 rfl rfl hP.1 hP.2.2.1 rfl rfl ?_
        refine e_iload_n 3 6 rfl rfl rfl rfl ?_
        refine e_bipush 4 8 rfl rfl rfl ?_
        refine e_icmp_ge 5 23 11 rfl rfl rfl (by unfold xr at *; omega) (by unfold xr at *; omega) (fun _ => ?_) (fun h9 => absurd h9 (by omega))
        refine e_aload_n 14 24 rfl rfl rfl rfl ?_
        refine e_iconst 15 25 rfl rfl ?_
        refine e_iload_n 16 26 rfl rfl rfl rfl ?_
        refine e_bipush 17 28 rfl rfl rfl ?_
        refine e_idiv 18 29 rfl rfl (by decide) (ii_div (by omega) (by omega)) ?_
        refine e_iconst 19 30 rfl rfl ?_
        refine e_isub 20 31 rfl rfl ?_
        refine g_callV 21 34 (hk) okX10_placeOf cvX6_19 ⟨(Nat.le_of_ble_eq_true rfl), (Nat.le_of_ble_eq_true rfl)⟩ rfl rfl hV.1.1 hV.1.2.2.1 rfl rfl rfl rfl (Nat.le_of_ble_eq_true rfl) (Nat.le_of_ble_eq_true rfl) (Nat.le_of_ble_eq_true rfl) ?_
        refine e_istore_n 22 35 (ls' := [some _, some _, some _, some _, none, none]) rfl rfl rfl (Nat.le_of_ble_eq_true rfl) rfl ?_
        refine e_iload_n 23 36 rfl rfl rfl rfl ?_
        refine e_bipush 24 38 rfl rfl rfl ?_
        refine e_irem 25 39 rfl rfl (by decide) (ii_rem (by omega) (by omega)) ?_
        refine e_istore 26 41 (ls' := [some _, some _, some _, some _, some _, none]) rfl rfl (Nat.le_of_ble_eq_true rfl) rfl ?_
        refine e_aload_n 27 42 rfl rfl rfl rfl ?_
        refine e_iload_n 28 43 rfl rfl rfl rfl ?_
        refine g_callV 29 46 (sp_kindAt hV0 hxz) okX10_kindAt cvX6_29 ⟨(Nat.le_of_ble_eq_true rfl), (Nat.le_of_ble_eq_true rfl)⟩ rfl rfl hV.1.1 hV.1.2.2.1 rfl rfl rfl rfl (Nat.le_of_ble_eq_true rfl) (Nat.le_of_ble_eq_true rfl) (Nat.le_of_ble_eq_true rfl) ?_
        refine e_istore 30 48 (ls' := [some _, some _, some _, some _, some _, some _]) rfl rfl (Nat.le_of_ble_eq_true rfl) rfl ?_
        refine e_iload 31 50 rfl rfl rfl ?_
        refine e_iconst 32 51 rfl rfl ?_
        refine e_icmp_ne 33 66 54 rfl rfl rfl (by unfold xr at *; omega) (by unfold xr at *; omega) (fun _ => ?_) (fun h9 => absurd h9 (by omega))
        refine e_iload 41 68 rfl rfl rfl ?_
        refine e_iconst 42 69 rfl rfl ?_
        refine e_icmp_ne 43 80 72 rfl rfl rfl (by unfold xr at *; omega) (by unfold xr at *; omega) (fun _ => ?_) (fun h9 => absurd h9 (by omega))
        exact e_return 49 rfl rfl (Nat.le_of_ble_eq_true rfl) (Nat.le_of_ble_eq_true rfl)
