/-! ===== a field's value of a document, as the class sees it ===== -/
def hd9 (F : Fo) (f : Int) : Int := tok (tk (get f F)) 0
theorem tok_pl1 {t : List Int} {F : Fo} (hD : DC t F) {f : Int} (hf : 0 ≤ f ∧ f < 8) : tok t (pl1 t f) = hd9 F f := by
  obtain ⟨rfl, hF, h23⟩ := hD
  have e0 : pl1 (5000 :: (tk F ++ [0])) f = plc [5000] (tk F ++ 0 :: []) f := rfl
  rw [e0]
  unfold hd9
  rcases aft_cases (f := f) hF with ⟨G, a1, a2, a3, a4⟩ | ⟨a1, a2, a3⟩ | a1
  · rw [fld_at hf.1 hF a1, a3]
    have e1 := (at_fld hF a1 [5000] []).1
    rw [show 5000 :: (tk F ++ [0]) = [5000] ++ (tk F ++ 0 :: []) from rfl, e1]
    obtain ⟨v1, -⟩ := val_cases a2
    have hv : ∃ x r, tk (fst1 G) = x :: r := by
      rcases v1 with ⟨x, e, -⟩ | ⟨c, e, -⟩ | ⟨c, e, -⟩
      · exact ⟨x, [], by rw [e]; rfl⟩
      · exact ⟨5000, _, by rw [e]; rfl⟩
      · exact ⟨4000, _, by rw [e]; rfl⟩
    obtain ⟨x, r, hx⟩ := hv
    rw [hx]
    exact tok_hd _ x _
  · rw [plc_no (by omega) hf.1 hF a3, tok_neg (by omega), a1]
    rfl
  · omega
theorem fk_hd {t : List Int} {F : Fo} (hD : DC t F) {f : Int} (hf : 0 ≤ f ∧ f < 8) : fk t f = knd (hd9 F f) ∧ fnum t f = hd9 F f - 2000 ∧ fwrd t f = hd9 F f - 3000 := by
  unfold fk fnum fwrd
  rw [tok_pl1 hD hf]
  exact ⟨rfl, rfl, rfl⟩
/-- what the model sees at a field's place -/
theorem mv_fld {σ : xSig} {p : Int} {v : Fo} (h : MV σ 282 11300 p v) : σ 282 p = knd (tok (tk v) 0) ∧ (knd (tok (tk v) 0) = 1 → σ 282 (p + 1) = tok (tk v) 0 - 2000 ∧ p + 1 < 11300 ∧ -999 ≤ tok (tk v) 0 - 2000 ∧ tok (tk v) 0 - 2000 ≤ 999) ∧ (knd (tok (tk v) 0) = 2 → σ 282 (p + 1) = tok (tk v) 0 - 3000 ∧ p + 1 < 11300 ∧ 0 ≤ tok (tk v) 0 - 3000 ∧ tok (tk v) 0 - 3000 ≤ 99) ∧ 0 ≤ p ∧ p < 11300 := by
  have hol := ok1_pa h.2.1
  have hb := h.2.2.2
  have hE := h.2.2.2.2.2
  have hpb : 0 ≤ p ∧ p < 11300 := by omega
  rcases mv_hd h with ⟨x, rfl, hx, h1, h2⟩ | ⟨c, rfl, -, h1⟩ | ⟨c, rfl, -, h1, -⟩
  · have e : tok (tk (.mulR (.num 0) x)) 0 = x := rfl
    rw [e]
    simp only [en, List.append_nil] at hE hb
    refine ⟨h1, fun hk => ?_, fun hk => ?_, hpb.1, hpb.2⟩
    · rw [show lf x = [1, x - 2000] by unfold lf; rw [hk]; rfl] at hE hb
      have hb1 := hb.2.1
      simp only [List.length_cons, List.length_nil] at hb1
      have := (EA.cons (EA.cons hE).2).1
      rcases lfx_k hx with ⟨-, q⟩ | ⟨r, q⟩ | ⟨-, q⟩
      · omega
      · exact ⟨this, by omega, by omega, by omega⟩
      · omega
    · rw [show lf x = [2, x - 3000] by unfold lf; rw [hk]; rfl] at hE hb
      have hb1 := hb.2.1
      simp only [List.length_cons, List.length_nil] at hb1
      have := (EA.cons (EA.cons hE).2).1
      rcases lfx_k hx with ⟨-, q⟩ | ⟨-, q⟩ | ⟨r, q⟩
      · omega
      · omega
      · exact ⟨this, by omega, by omega, by omega⟩
  · have e : tok (tk (.add c (.num 0))) 0 = 5000 := rfl
    rw [e, show knd 5000 = 4 from by decide]
    exact ⟨h1, fun q => absurd q (by decide), fun q => absurd q (by decide), by omega, by omega⟩
  · have e : tok (tk (.sub c (.num 0))) 0 = 4000 := rfl
    rw [e, show knd 4000 = 3 from by decide]
    exact ⟨h1, fun q => absurd q (by decide), fun q => absurd q (by decide), by omega, by omega⟩
/-! ===== the model's chart ===== -/
theorem ii_tdiv {x y : Int} (hx : xr x) (hy : 0 < y ∧ y < 2147483648) : ii x / ii y = ii (x.tdiv y) := by
  apply Int32.toInt_inj.mp
  have h1 : (ii x).toInt = x := ii_toInt hx
  have h2 : (ii y).toInt = y := ii_toInt ⟨by omega, by omega⟩
  have h3 : xr (x.tdiv y) := by
    unfold xr at hx ⊢
    rcases Int.le_total 0 x with h | h
    · rw [Int.tdiv_eq_ediv_of_nonneg h]
      have := Int.ediv_nonneg h (by omega : 0 ≤ y)
      have := Int.ediv_le_self y h
      omega
    · rw [show x = -(-x) by omega, Int.neg_tdiv, Int.tdiv_eq_ediv_of_nonneg (by omega)]
      have := Int.ediv_nonneg (by omega : 0 ≤ -x) (by omega : 0 ≤ y)
      have := Int.ediv_le_self y (by omega : 0 ≤ -x)
      omega
  rw [ii_toInt h3, Int32.toInt_div, h1, h2]
  show (x.tdiv y).bmod 4294967296 = _
  unfold xr at h3
  rw [Int.bmod_def]
  omega
theorem ii_tmod {x y : Int} (hx : xr x) (hy : 0 < y ∧ y < 2147483648) : ii x - ii x / ii y * ii y = ii (x.tmod y) := by
  rw [ii_tdiv hx hy, ii_mul, ii_sub]
  congr 1
  rw [Int.tmod_def, Int.mul_comm]
theorem sp_mRest {σ : xSig} {x : Int} (hx : -100000000 ≤ x ∧ x ≤ 100000000) : Rd MX12_rest [.int (ii x)] σ (iv (x % 1000)) := by
  have hb : -1000 < x.tmod 1000 ∧ x.tmod 1000 < 1000 ∧ (x.tmod 1000 + 1000) % 1000 = x % 1000 := by
    rcases Int.le_total 0 x with h | h
    · rw [Int.tmod_eq_emod_of_nonneg h]
      omega
    · rw [show x = -(-x) by omega, Int.neg_tmod, Int.tmod_eq_emod_of_nonneg (by omega)]
      omega
  have h1 : ii x - ii x / ii 1000 * ii 1000 = ii (x.tmod 1000) := ii_tmod (by unfold xr; omega) (by omega)
  have h2 : ii (x.tmod 1000 + 1000) - ii (x.tmod 1000 + 1000) / ii 1000 * ii 1000 = ii (x % 1000) := by
    rw [ii_rem (by omega) (by omega), hb.2.2]
  refine e_entry okX12_rest (Nat.le_of_ble_eq_true rfl) (ls := [some _]) rfl ?_
  refine e_iload_n 0 1 rfl rfl rfl rfl ?_
  refine e_sipush 1 4 rfl rfl rfl ?_
  refine e_irem 2 5 rfl rfl (by decide) h1 ?_
  refine e_sipush 3 8 rfl rfl rfl ?_
  refine e_iadd 4 9 rfl rfl ?_
  refine e_sipush 5 12 rfl rfl rfl ?_
  refine e_irem 6 13 rfl rfl (by decide) h2 ?_
  exact e_ireturn 7 rfl rfl (Nat.le_of_ble_eq_true rfl) (Nat.le_of_ble_eq_true rfl)
theorem sp_mKeyOf {τ σ : xSig} {n : Nat} {t : List Int} {F : Fo} (h16 : σ 281 29 = τ 231 9 ∧ σ 281 30 = τ 231 10) (hf : 0 ≤ τ 231 9 ∧ τ 231 9 < 8) (hz : τ 231 10 = 0 ∨ τ 231 10 = 1) (hD : DC t F) (hM : MV σ 282 11300 (100 * n + 1) (.add F (.num 0))) : Rm MX12_keyOf [.ref 281, .int (ii n)] σ (iv (kyo τ t)) := by
  obtain ⟨r, σ1, c1, f1, hr⟩ := sp_mFieldOf hM hf
  obtain ⟨b1, b2, b3⟩ := fk_hd hD hf
  have hk : kyo τ t = (if τ 231 10 = 0 then (if knd (hd9 F (τ 231 9)) = 1 then (if 0 < hd9 F (τ 231 9) - 2000 then hd9 F (τ 231 9) - 2000 else 0) else 0) else if knd (hd9 F (τ 231 9)) = 1 then (7919 * (hd9 F (τ 231 9) - 2000) + 1000) % 1000 else if knd (hd9 F (τ 231 9)) = 2 then (104729 * (hd9 F (τ 231 9) - 3000) + 500) % 1000 else 250) := by
    unfold kyo
    rw [b1, b2, b3]
    by_cases q : τ 231 10 = 0
    · rw [if_pos q, if_pos q]
    · rw [if_neg q, if_neg q]
      by_cases q2 : knd (hd9 F (τ 231 9)) = 1
      · rw [if_pos q2, if_pos q2]
        omega
      · rw [if_neg q2, if_neg q2]
  refine ⟨σ1, ?_, f1⟩
  rw [hk]
  generalize hu : hd9 F (τ 231 9) = u
  have e30 : σ1 281 30 = τ 231 10 := by rw [f1 281 30 rfl]; exact h16.2
  have st : ∀ {o : xO} (kd : Int), (r = -1 ∧ kd = 0 ∨ (0 ≤ r ∧ r < 11300 ∧ σ1 282 r = kd)) → x_E MX12_keyOf 0 0 33 [some (.ref 281), some (.int (ii n)), some (.int (ii r)), some (.int (ii kd))] [] (St σ1) 0 0 o (St σ1) → x_Sp MX12_keyOf 0 0 [.ref 281, .int (ii n)] (St σ) o (St σ1) := by
    intro o kd hkd kk
    refine e_entry okX12_keyOf (Nat.le_of_ble_eq_true rfl) (ls := [some _, some _, none, none]) rfl ?_
    refine e_aload_n 0 1 rfl rfl rfl rfl ?_
    refine e_aload_n 1 2 rfl rfl rfl rfl ?_
    refine g_getR 2 5 ckX12 flX12_7 rfl rfl (Nat.le_of_ble_eq_true rfl) rfl rfl ?_
    refine e_iload_n 3 6 rfl rfl rfl rfl ?_
    refine g_callS 4 9 (sp_mBlock (x := n)) okX12_block csX12_142 ⟨(Nat.le_of_ble_eq_true rfl), (Nat.le_of_ble_eq_true rfl)⟩ rfl rfl rfl rfl (Nat.le_of_ble_eq_true rfl) (Nat.le_of_ble_eq_true rfl) (Nat.le_of_ble_eq_true rfl) ?_
    refine e_aload_n 5 10 rfl rfl rfl rfl ?_
    refine g_getI 6 13 29 ckX12 flX12_203 rfl rfl (Nat.le_of_ble_eq_true rfl) rfl rfl rfl h16.1 ?_
    refine g_callV 7 16 (c1) okX12_fieldOf cvX12_155 ⟨(Nat.le_of_ble_eq_true rfl), (Nat.le_of_ble_eq_true rfl)⟩ rfl rfl (Nat.le_of_ble_eq_true rfl) rfl rfl rfl rfl rfl (Nat.le_of_ble_eq_true rfl) (Nat.le_of_ble_eq_true rfl) (Nat.le_of_ble_eq_true rfl) ?_
    refine e_istore_n 8 17 (ls' := [some _, some _, some _, none]) rfl rfl rfl (Nat.le_of_ble_eq_true rfl) rfl ?_
    refine e_iload_n 9 18 rfl rfl rfl rfl ?_
    refine e_iconst 10 19 rfl rfl ?_
    refine e_icmp_ne 11 26 22 rfl rfl rfl (by unfold xr at *; omega) (by unfold xr at *; omega) (fun h => ?_) (fun h => ?_)
    · skip
      have q := hkd.resolve_left (fun q => h q.1)
      refine e_aload_n 14 27 rfl rfl rfl rfl ?_
      refine g_getR 15 30 ckX12 flX12_7 rfl rfl (Nat.le_of_ble_eq_true rfl) rfl rfl ?_
      refine e_iload_n 16 31 rfl rfl rfl rfl ?_
      refine g_iaload 17 32 rfl rfl (Nat.le_of_ble_eq_true rfl) rfl (by omega) (by omega) (by omega) q.2.2 ?_
      refine e_istore_n 18 33 (ls' := [some _, some _, some _, some _]) rfl rfl rfl (Nat.le_of_ble_eq_true rfl) rfl ?_
      exact kk
    · skip
      have q : kd = 0 := by
        rcases hkd with q | q
        · exact q.2
        · omega
      subst q
      refine e_iconst 12 23 rfl rfl ?_
      refine e_goto 13 32 rfl rfl ?_
      refine e_istore_n 18 33 (ls' := [some _, some _, some _, some _]) rfl rfl rfl (Nat.le_of_ble_eq_true rfl) rfl ?_
      exact kk
  -- the kind, and the number there
  have hkd : (r = -1 ∧ knd u = 0 ∨ (0 ≤ r ∧ r < 11300 ∧ σ1 282 r = knd u)) ∧ (knd u = 1 → 0 ≤ r ∧ r + 1 < 11300 ∧ σ1 282 (r + 1) = u - 2000 ∧ -999 ≤ u - 2000 ∧ u - 2000 ≤ 999) ∧ (knd u = 2 → 0 ≤ r ∧ r + 1 < 11300 ∧ σ1 282 (r + 1) = u - 3000 ∧ 0 ≤ u - 3000 ∧ u - 3000 ≤ 99) := by
    rcases hr with ⟨g1, g2⟩ | ⟨g1, g2⟩
    · have e : u = 0 := by rw [← hu]; unfold hd9; rw [g1]; rfl
      rw [e, show knd 0 = 0 from by decide]
      exact ⟨Or.inl ⟨g2, rfl⟩, fun q => absurd q (by decide), fun q => absurd q (by decide)⟩
    · have q := mv_fld g2
      rw [show tok (tk (get (τ 231 9) F)) 0 = u from hu] at q
      exact ⟨Or.inr ⟨g1, q.2.2.2.2, q.1⟩, fun w => ⟨g1, (q.2.1 w).2.1, (q.2.1 w).1, (q.2.1 w).2.2⟩, fun w => ⟨g1, (q.2.2.1 w).2.1, (q.2.2.1 w).1, (q.2.2.1 w).2.2⟩⟩
  have hkb := knd_bnd u
  refine st (knd u) hkd.1 ?_
  refine e_aload_n 19 34 rfl rfl rfl rfl ?_
  refine g_getI 20 37 30 ckX12 flX12_206 rfl rfl (Nat.le_of_ble_eq_true rfl) rfl rfl rfl e30 ?_
  refine e_if_eq 21 97 40 rfl rfl rfl (by unfold xr at *; omega) (fun h => ?_) (fun h => ?_)
  · skip
    rw [if_pos h]
    refine e_iload_n 54 98 rfl rfl rfl rfl ?_
    refine e_iconst 55 99 rfl rfl ?_
    refine e_icmp_ne 56 124 102 rfl rfl rfl (by unfold xr at *; omega) (by unfold xr at *; omega) (fun h2 => ?_) (fun h2 => ?_)
    · skip
      rw [if_neg h2]
      refine e_iconst 71 125 rfl rfl ?_
      exact e_ireturn 72 rfl rfl (Nat.le_of_ble_eq_true rfl) (Nat.le_of_ble_eq_true rfl)
    · skip
      rw [if_pos h2]
      obtain ⟨p1, p2, p3, p4⟩ := hkd.2.1 h2
      refine e_aload_n 57 103 rfl rfl rfl rfl ?_
      refine g_getR 58 106 ckX12 flX12_7 rfl rfl (Nat.le_of_ble_eq_true rfl) rfl rfl ?_
      refine e_iload_n 59 107 rfl rfl rfl rfl ?_
      refine e_iconst 60 108 rfl rfl ?_
      refine e_iadd 61 109 rfl rfl ?_
      refine g_iaload 62 110 rfl rfl (Nat.le_of_ble_eq_true rfl) rfl (by omega) (by omega) (by omega) p3 ?_
      refine e_if_le 63 124 113 rfl rfl rfl (by unfold xr at *; omega) (fun h3 => ?_) (fun h3 => ?_)
      · skip
        rw [if_neg (by omega)]
        refine e_iconst 71 125 rfl rfl ?_
        exact e_ireturn 72 rfl rfl (Nat.le_of_ble_eq_true rfl) (Nat.le_of_ble_eq_true rfl)
      · skip
        rw [if_pos (by omega)]
        refine e_aload_n 64 114 rfl rfl rfl rfl ?_
        refine g_getR 65 117 ckX12 flX12_7 rfl rfl (Nat.le_of_ble_eq_true rfl) rfl rfl ?_
        refine e_iload_n 66 118 rfl rfl rfl rfl ?_
        refine e_iconst 67 119 rfl rfl ?_
        refine e_iadd 68 120 rfl rfl ?_
        refine g_iaload 69 121 rfl rfl (Nat.le_of_ble_eq_true rfl) rfl (by omega) (by omega) (by omega) p3 ?_
        refine e_goto 70 125 rfl rfl ?_
        exact e_ireturn 72 rfl rfl (Nat.le_of_ble_eq_true rfl) (Nat.le_of_ble_eq_true rfl)
  · skip
    rw [if_neg h]
    refine e_iload_n 22 41 rfl rfl rfl rfl ?_
    refine e_iconst 23 42 rfl rfl ?_
    refine e_icmp_ne 24 67 45 rfl rfl rfl (by unfold xr at *; omega) (by unfold xr at *; omega) (fun h2 => ?_) (fun h2 => ?_)
    · skip
      rw [if_neg h2]
      refine e_iload_n 37 68 rfl rfl rfl rfl ?_
      refine e_iconst 38 69 rfl rfl ?_
      refine e_icmp_ne 39 93 72 rfl rfl rfl (by unfold xr at *; omega) (by unfold xr at *; omega) (fun h3 => ?_) (fun h3 => ?_)
      · skip
        rw [if_neg h3]
        refine e_sipush 52 96 rfl rfl rfl ?_
        exact e_ireturn 53 rfl rfl (Nat.le_of_ble_eq_true rfl) (Nat.le_of_ble_eq_true rfl)
      · skip
        rw [if_pos h3]
        obtain ⟨p1, p2, p3, p4⟩ := hkd.2.2 h3
        refine e_ldc 40 74 kcX12_213 (by rfl : _ = ii 104729) rfl rfl ?_
        refine e_aload_n 41 75 rfl rfl rfl rfl ?_
        refine g_getR 42 78 ckX12 flX12_7 rfl rfl (Nat.le_of_ble_eq_true rfl) rfl rfl ?_
        refine e_iload_n 43 79 rfl rfl rfl rfl ?_
        refine e_iconst 44 80 rfl rfl ?_
        refine e_iadd 45 81 rfl rfl ?_
        refine g_iaload 46 82 rfl rfl (Nat.le_of_ble_eq_true rfl) rfl (by omega) (by omega) (by omega) p3 ?_
        refine e_imul 47 83 rfl rfl ?_
        refine e_sipush 48 86 rfl rfl rfl ?_
        refine e_iadd 49 87 rfl rfl ?_
        refine g_callS 50 90 (sp_mRest (x := 104729 * (u - 3000) + 500) (by omega)) okX12_rest csX12_210 ⟨(Nat.le_of_ble_eq_true rfl), (Nat.le_of_ble_eq_true rfl)⟩ rfl rfl rfl rfl (Nat.le_of_ble_eq_true rfl) (Nat.le_of_ble_eq_true rfl) (Nat.le_of_ble_eq_true rfl) ?_
        refine e_goto 51 96 rfl rfl ?_
        exact e_ireturn 53 rfl rfl (Nat.le_of_ble_eq_true rfl) (Nat.le_of_ble_eq_true rfl)
    · skip
      rw [if_pos h2]
      obtain ⟨p1, p2, p3, p4⟩ := hkd.2.1 h2
      refine e_sipush 25 48 rfl rfl rfl ?_
      refine e_aload_n 26 49 rfl rfl rfl rfl ?_
      refine g_getR 27 52 ckX12 flX12_7 rfl rfl (Nat.le_of_ble_eq_true rfl) rfl rfl ?_
      refine e_iload_n 28 53 rfl rfl rfl rfl ?_
      refine e_iconst 29 54 rfl rfl ?_
      refine e_iadd 30 55 rfl rfl ?_
      refine g_iaload 31 56 rfl rfl (Nat.le_of_ble_eq_true rfl) rfl (by omega) (by omega) (by omega) p3 ?_
      refine e_imul 32 57 rfl rfl ?_
      refine e_sipush 33 60 rfl rfl rfl ?_
      refine e_iadd 34 61 rfl rfl ?_
      refine g_callS 35 64 (sp_mRest (x := 7919 * (u - 2000) + 1000) (by omega)) okX12_rest csX12_210 ⟨(Nat.le_of_ble_eq_true rfl), (Nat.le_of_ble_eq_true rfl)⟩ rfl rfl rfl rfl (Nat.le_of_ble_eq_true rfl) (Nat.le_of_ble_eq_true rfl) (Nat.le_of_ble_eq_true rfl) ?_
      refine e_goto 36 96 rfl rfl ?_
      exact e_ireturn 53 rfl rfl (Nat.le_of_ble_eq_true rfl) (Nat.le_of_ble_eq_true rfl)
theorem lstLe_eq {f : Int → Int} {k : Int} : ∀ (n i : Nat) (c r : Int), (r = c ∧ (∀ j : Int, i ≤ j → j < i + n → k < f j)) ∨ ((i : Int) ≤ r ∧ r < i + n ∧ f r ≤ k ∧ (∀ j : Int, r < j → j < i + n → k < f j)) → lstLe f k i n c = r := by
  intro n
  induction n with
  | zero =>
    intro i c r h
    rcases h with h | h
    · exact h.1.symm
    · omega
  | succ n ih =>
    intro i c r h
    unfold lstLe
    refine ih (i + 1) _ r ?_
    rcases h with ⟨rfl, h⟩ | ⟨h1, h2, h3, h4⟩
    · refine Or.inl ⟨?_, fun j j1 j2 => h j (by omega) (by omega)⟩
      have := h i (by omega) (by omega)
      rw [if_neg (by omega)]
    · by_cases e : r = i
      · subst e
        refine Or.inl ⟨by rw [if_pos h3], fun j j1 j2 => h4 j (by omega) (by omega)⟩
      · exact Or.inr ⟨by omega, by omega, h3, fun j j1 j2 => h4 j j1 (by omega)⟩
theorem chk_eq {τ : xSig} {t : List Int} (hC : CHR τ) {r : Int} (h0 : 0 ≤ r ∧ r < τ 231 7) (h1 : r = 0 ∨ τ 232 r ≤ kyo τ t) (h2 : ∀ j : Int, r < j → j < τ 231 7 → kyo τ t < τ 232 j) : chk τ t = r := by
  have h7 := hC.1
  have cf : ∀ j : Int, 0 ≤ j → j < τ 231 7 → cfst τ j = τ 232 j := fun j a b => by
    unfold cfst chas
    rw [decide_eq_true ⟨a, b⟩, if_pos rfl]
  unfold chk
  refine lstLe_eq _ _ _ _ ?_
  rcases (by omega : r = 0 ∨ 1 ≤ r) with e | e
  · refine Or.inl ⟨e, fun j j1 j2 => ?_⟩
    rw [cf j (by omega) (by omega)]
    exact h2 j (by omega) (by omega)
  · refine Or.inr ⟨by omega, by omega, ?_, fun j j1 j2 => ?_⟩
    · rw [cf r (by omega) (by omega)]
      omega
    · rw [cf j (by omega) (by omega)]
      exact h2 j (by omega) (by omega)
/-- what the model knows of the chart, to read it -/
def CHM (τ σ : xSig) : Prop := (CHR τ ∧ τ 232 0 = 0) ∧ (σ 281 24 = τ 231 7 ∧ ∀ i : Int, 0 ≤ i → i < τ 231 7 → σ 297 i = τ 232 i ∧ σ 298 i = τ 233 i) ∧ (σ 281 29 = τ 231 9 ∧ σ 281 30 = τ 231 10)
abbrev cM9 : List (Nat × Int) := [(281, 24), (297, -1), (298, -1), (281, 29), (281, 30)]
theorem CHM.sam {τ σ σ' : xSig} (h : CHM τ σ) (hs : sam cM9 σ σ') : CHM τ σ' := by
  obtain ⟨h1, ⟨h2, h3⟩, h4⟩ := h
  refine ⟨h1, ⟨?_, ?_⟩, ?_⟩
  · rw [hs.at 281 24 rfl]; exact h2
  · rw [hs.cell 297 rfl, hs.cell 298 rfl]; exact h3
  · rw [hs.at 281 29 rfl, hs.at 281 30 rfl]; exact h4
theorem sam_fp {L K : List (Nat × Int)} {σ σ' : xSig} (h : FP L σ σ') (ho : ovl K L = false) : sam K σ σ' := fun b j hi => h b j (ovl_in ho hi)
theorem CHM.fp {τ σ σ' : xSig} {L : List (Nat × Int)} (h : CHM τ σ) (hF : FP L σ σ') (ho : ovl cM9 L = false) : CHM τ σ' := h.sam (sam_fp hF ho)
theorem sp_mChunkOf {τ σ : xSig} {n : Nat} {t : List Int} {F : Fo} (h : CHM τ σ) (hD : DC t F) (hM : MV σ 282 11300 (100 * n + 1) (.add F (.num 0))) : Rm MX12_chunkOf [.ref 281, .int (ii n)] σ (iv (chk τ t)) := by
  have hC := h.1.1
  obtain ⟨σ1, c1, f1⟩ := sp_mKeyOf (τ := τ) h.2.2 hC.2.1 hC.2.2.1 hD hM
  have h1 := h.fp f1 rfl
  obtain ⟨⟨-, h0⟩, ⟨h24, hrow⟩, -⟩ := h1
  have h7 := hC.1
  have hky := kyo_bnd τ t
  have lp : ∀ (m : Nat) (k : Int), k = m → k < τ 231 7 → (∀ j : Int, k < j → j < τ 231 7 → kyo τ t < τ 232 j) → x_E MX12_chunkOf 0 0 13 [some (.ref 281), some (.int (ii n)), some (.int (ii (kyo τ t))), some (.int (ii k))] [] (St σ1) 0 0 (iv (chk τ t)) (St σ1) := by
    intro m
    induction m with
    | zero =>
      intro k hk hk2 hj
      have e1 : σ1 297 k = τ 232 k := (hrow k (by omega) hk2).1
      have e0 : τ 232 k = 0 := by rw [show k = 0 by omega]; exact h0
      rw [chk_eq hC (r := k) (by omega) (Or.inl (by omega)) hj]
      refine e_aload_n 9 14 rfl rfl rfl rfl ?_
      refine g_getR 10 17 ckX12 flX12_57 rfl rfl (Nat.le_of_ble_eq_true rfl) rfl rfl ?_
      refine e_iload_n 11 18 rfl rfl rfl rfl ?_
      refine g_iaload 12 19 rfl rfl (Nat.le_of_ble_eq_true rfl) rfl (by omega) (by omega) (by omega) (e1.trans e0) ?_
      refine e_iload_n 13 20 rfl rfl rfl rfl ?_
      refine e_icmp_le 14 29 23 rfl rfl rfl (by unfold xr at *; omega) (by unfold xr at *; omega) (fun _ => ?_) (fun h9 => absurd h9 (by omega))
      refine e_iload_n 17 30 rfl rfl rfl rfl ?_
      exact e_ireturn 18 rfl rfl (Nat.le_of_ble_eq_true rfl) (Nat.le_of_ble_eq_true rfl)
    | succ m ih =>
      intro k hk hk2 hj
      have e1 : σ1 297 k = τ 232 k := (hrow k (by omega) hk2).1
      have hb := hC.2.2.2.2.2.1 k
      refine e_aload_n 9 14 rfl rfl rfl rfl ?_
      refine g_getR 10 17 ckX12 flX12_57 rfl rfl (Nat.le_of_ble_eq_true rfl) rfl rfl ?_
      refine e_iload_n 11 18 rfl rfl rfl rfl ?_
      refine g_iaload 12 19 rfl rfl (Nat.le_of_ble_eq_true rfl) rfl (by omega) (by omega) (by omega) e1 ?_
      refine e_iload_n 13 20 rfl rfl rfl rfl ?_
      refine e_icmp_le 14 29 23 rfl rfl rfl (by unfold xr at *; omega) (by unfold xr at *; omega) (fun h9 => ?_) (fun h9 => ?_)
      · skip
        rw [chk_eq hC (r := k) (by omega) (Or.inr h9) hj]
        refine e_iload_n 17 30 rfl rfl rfl rfl ?_
        exact e_ireturn 18 rfl rfl (Nat.le_of_ble_eq_true rfl) (Nat.le_of_ble_eq_true rfl)
      · skip
        refine e_iinc 15 26 (ls' := [some _, some _, some _, some _]) rfl rfl (Nat.le_of_ble_eq_true rfl) rfl rfl ?_
        refine e_goto 16 13 rfl rfl ?_
        exact ih (k + -1) (by omega) (by omega) (fun j j1 j2 => by
          rcases (by omega : j = k ∨ k < j) with e | e
          · rw [e]; omega
          · exact hj j e j2)
  refine ⟨σ1, ?_, f1⟩
  refine e_entry okX12_chunkOf (Nat.le_of_ble_eq_true rfl) (ls := [some _, some _, none, none]) rfl ?_
  refine e_aload_n 0 1 rfl rfl rfl rfl ?_
  refine e_iload_n 1 2 rfl rfl rfl rfl ?_
  refine g_callV 2 5 (c1) okX12_keyOf cvX12_214 ⟨(Nat.le_of_ble_eq_true rfl), (Nat.le_of_ble_eq_true rfl)⟩ rfl rfl (Nat.le_of_ble_eq_true rfl) rfl rfl rfl rfl rfl (Nat.le_of_ble_eq_true rfl) (Nat.le_of_ble_eq_true rfl) (Nat.le_of_ble_eq_true rfl) ?_
  refine e_istore_n 3 6 (ls' := [some _, some _, some _, none]) rfl rfl rfl (Nat.le_of_ble_eq_true rfl) rfl ?_
  refine e_aload_n 4 7 rfl rfl rfl rfl ?_
  refine g_getI 5 10 24 ckX12 flX12_200 rfl rfl (Nat.le_of_ble_eq_true rfl) rfl rfl rfl h24 ?_
  refine e_iconst 6 11 rfl rfl ?_
  refine e_isub 7 12 rfl rfl ?_
  refine e_istore_n 8 13 (ls' := [some _, some _, some _, some _]) rfl rfl rfl (Nat.le_of_ble_eq_true rfl) rfl ?_
  exact lp (τ 231 7 - 1).toNat _ (by omega) (by omega) (fun j j1 j2 => by omega)
theorem sp_mShardOf {τ σ : xSig} {n : Nat} {t : List Int} {F : Fo} (h : CHM τ σ) (hD : DC t F) (hM : MV σ 282 11300 (100 * n + 1) (.add F (.num 0))) : Rm MX12_shardOf [.ref 281, .int (ii n)] σ (iv (shd τ t)) := by
  obtain ⟨σ1, c1, f1⟩ := sp_mChunkOf h hD hM
  have h1 := h.fp f1 rfl
  have hb := chk_bnd h.1.1 t
  have h7 := h.1.1.1
  rw [shd_eq h.1.1]
  refine ⟨σ1, ?_, f1⟩
  refine e_entry okX12_shardOf (Nat.le_of_ble_eq_true rfl) (ls := [some _, some _]) rfl ?_
  refine e_aload_n 0 1 rfl rfl rfl rfl ?_
  refine g_getR 1 4 ckX12 flX12_60 rfl rfl (Nat.le_of_ble_eq_true rfl) rfl rfl ?_
  refine e_aload_n 2 5 rfl rfl rfl rfl ?_
  refine e_iload_n 3 6 rfl rfl rfl rfl ?_
  refine g_callV 4 9 (c1) okX12_chunkOf cvX12_217 ⟨(Nat.le_of_ble_eq_true rfl), (Nat.le_of_ble_eq_true rfl)⟩ rfl rfl (Nat.le_of_ble_eq_true rfl) rfl rfl rfl rfl rfl (Nat.le_of_ble_eq_true rfl) (Nat.le_of_ble_eq_true rfl) (Nat.le_of_ble_eq_true rfl) ?_
  refine g_iaload 5 10 rfl rfl (Nat.le_of_ble_eq_true rfl) rfl (by omega) (by omega) (by omega) (h1.2.1.2 (chk τ t) hb.1 hb.2).2 ?_
  exact e_ireturn 6 rfl rfl (Nat.le_of_ble_eq_true rfl) (Nat.le_of_ble_eq_true rfl)
/-- which chunk moves -/
theorem sp_mMoving {τ σ : xSig} (h : CHM τ σ) (hinc : ∀ k : Int, 0 ≤ k → k + 1 < τ 231 7 → τ 232 k < τ 232 (k + 1)) (hm : τ 231 11 < τ 231 7) (h13 : (τ 231 11 = -1 → σ 281 25 = -1) ∧ (τ 231 11 ≠ -1 → σ 281 25 = τ 232 (τ 231 11) ∧ σ 281 26 = τ 231 12)) : Rd MX12_moving [.ref 281] σ (iv (τ 231 11)) := by
  have hC := h.1.1
  have h7 := hC.1
  have h11 := hC.2.2.2.1
  obtain ⟨h24, hrow⟩ := h.2.1
  have inc : ∀ (m : Nat) (i : Int), 0 ≤ i → i + 1 + m < τ 231 7 → τ 232 i < τ 232 (i + 1 + m) := by
    intro m
    induction m with
    | zero =>
      intro i i0 i1
      rw [show i + 1 + ((0 : Nat) : Int) = i + 1 by omega]
      exact hinc i i0 (by omega)
    | succ m ih =>
      intro i i0 i1
      have q1 := ih i i0 (by omega)
      have q2 := hinc (i + 1 + m) (by omega) (by omega)
      rw [show i + 1 + (m : Int) + 1 = i + 1 + ((m + 1 : Nat) : Int) by omega] at q2
      omega
  have nmb : ∃ z, σ 281 25 = z ∧ xr z ∧ ∀ i : Int, 0 ≤ i → i < τ 231 7 → (z = τ 232 i ↔ i = τ 231 11) := by
    by_cases e : τ 231 11 = -1
    · refine ⟨-1, h13.1 e, by unfold xr; omega, fun i i0 i1 => ?_⟩
      have := hC.2.2.2.2.2.1 i
      omega
    · refine ⟨τ 232 (τ 231 11), (h13.2 e).1, by have := hC.2.2.2.2.2.1 (τ 231 11); unfold xr; omega, fun i i0 i1 => ?_⟩
      constructor
      · intro q
        rcases Int.lt_trichotomy i (τ 231 11) with w | w | w
        · have := inc (τ 231 11 - i - 1).toNat i i0 (by omega)
          rw [show i + 1 + (((τ 231 11 - i - 1).toNat : Nat) : Int) = τ 231 11 by omega] at this
          omega
        · exact w
        · have := inc (i - τ 231 11 - 1).toNat (τ 231 11) (by omega) (by omega)
          rw [show τ 231 11 + 1 + (((i - τ 231 11 - 1).toNat : Nat) : Int) = i by omega] at this
          omega
      · intro q
        rw [q]
  obtain ⟨z, hz, hzr, hzi⟩ := nmb
  have lp : ∀ (m : Nat) (i : Int), 0 ≤ i → i + m = τ 231 7 → (τ 231 11 = -1 ∨ i ≤ τ 231 11) → x_E MX12_moving 0 0 2 [some (.ref 281), some (.int (ii i))] [] (St σ) 0 0 (iv (τ 231 11)) (St σ) := by
    intro m
    induction m with
    | zero =>
      intro i i0 hi hj
      have e : τ 231 11 = -1 := by omega
      refine e_iload_n 2 3 rfl rfl rfl rfl ?_
      refine e_aload_n 3 4 rfl rfl rfl rfl ?_
      refine g_getI 4 7 24 ckX12 flX12_200 rfl rfl (Nat.le_of_ble_eq_true rfl) rfl rfl rfl h24 ?_
      refine e_icmp_ge 5 31 10 rfl rfl rfl (by unfold xr at *; omega) (by unfold xr at *; omega) (fun _ => ?_) (fun h9 => absurd h9 (by omega))
      rw [e]
      refine e_iconst 17 32 rfl rfl ?_
      exact e_ireturn 18 rfl rfl (Nat.le_of_ble_eq_true rfl) (Nat.le_of_ble_eq_true rfl)
    | succ m ih =>
      intro i i0 hi hj
      have e1 : σ 297 i = τ 232 i := (hrow i i0 (by omega)).1
      have hb := hC.2.2.2.2.2.1 i
      refine e_iload_n 2 3 rfl rfl rfl rfl ?_
      refine e_aload_n 3 4 rfl rfl rfl rfl ?_
      refine g_getI 4 7 24 ckX12 flX12_200 rfl rfl (Nat.le_of_ble_eq_true rfl) rfl rfl rfl h24 ?_
      refine e_icmp_ge 5 31 10 rfl rfl rfl (by unfold xr at *; omega) (by unfold xr at *; omega) (fun h9 => absurd h9 (by omega)) (fun _ => ?_)
      refine e_aload_n 6 11 rfl rfl rfl rfl ?_
      refine g_getI 7 14 25 ckX12 flX12_63 rfl rfl (Nat.le_of_ble_eq_true rfl) rfl rfl rfl hz ?_
      refine e_aload_n 8 15 rfl rfl rfl rfl ?_
      refine g_getR 9 18 ckX12 flX12_57 rfl rfl (Nat.le_of_ble_eq_true rfl) rfl rfl ?_
      refine e_iload_n 10 19 rfl rfl rfl rfl ?_
      refine g_iaload 11 20 rfl rfl (Nat.le_of_ble_eq_true rfl) rfl (by omega) (by omega) (by omega) e1 ?_
      refine e_icmp_ne 12 25 23 rfl rfl rfl hzr (by unfold xr at *; omega) (fun h9 => ?_) (fun h9 => ?_)
      · skip
        refine e_iinc 15 28 (ls' := [some _, some _]) rfl rfl (Nat.le_of_ble_eq_true rfl) rfl rfl ?_
        refine e_goto 16 2 rfl rfl ?_
        refine ih (i + 1) (by omega) (by omega) ?_
        by_cases q : i = τ 231 11
        · exact absurd ((hzi i i0 (by omega)).mpr q) h9
        · omega
      · skip
        have q := (hzi i i0 (by omega)).mp h9
        rw [← q]
        refine e_iload_n 13 24 rfl rfl rfl rfl ?_
        exact e_ireturn 14 rfl rfl (Nat.le_of_ble_eq_true rfl) (Nat.le_of_ble_eq_true rfl)
  refine e_entry okX12_moving (Nat.le_of_ble_eq_true rfl) (ls := [some _, none]) rfl ?_
  refine e_iconst 0 1 rfl rfl ?_
  refine e_istore_n 1 2 (ls' := [some _, some _]) rfl rfl rfl (Nat.le_of_ble_eq_true rfl) rfl ?_
  exact lp (τ 231 7).toNat 0 (by omega) (by omega) (by omega)
