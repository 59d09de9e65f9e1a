/-! ===== the law: switch, loop, start ===== -/
def kW_head : List (Nat × Instr × Nat) := [(0, .new 8, 3), (3, .dup, 1), (4, .invokespecial 130, 3), (7, .astore_n 1, 1), (8, .new 131, 3), (11, .dup, 1), (12, .invokespecial 133, 3), (15, .astore_n 2, 1), (16, .iconst 1, 1), (17, .newarray .long, 2), (19, .astore_n 3, 1), (20, .iconst 0, 1), (21, .istore 4, 2), (23, .iload 4, 2), (25, .aload_n 0, 1), (26, .arraylength, 1), (27, .iconst 5, 1), (28, .isub, 1), (29, .if_icmp .gt 2484, 3), (32, .aload_n 0, 1), (33, .iload 4, 2), (35, .iaload, 1), (36, .bipush 63, 2), (38, .iand, 1), (39, .tableswitch 2468 0 41 #[181, 225, 281, 337, 381, 425, 469, 525, 538, 606, 705, 773, 841, 925, 981, 1049, 1062, 1118, 1174, 1187, 1243, 1311, 1378, 1446, 1514, 1570, 1614, 1658, 1714, 1798, 1854, 1910, 1923, 1991, 2046, 2102, 2158, 2226, 2294, 2362, 2387, 2455], 181), (2507, .iinc 4 5, 3), (2510, .goto (-2487), 3), (2513, .iconst 1, 1), (2514, .ireturn, 1)]
theorem dcW_head : kW_head.all (fun q => decide (decode code q.1 = .ok q.2)) = true := by decide +kernel
theorem i_and63 (x : Int32) : ∃ n : Nat, n < 64 ∧ x &&& ii 63 = ii (n : Nat) := by
  refine ⟨(x &&& ii 63).toBitVec.toNat, ?_, ?_⟩
  · rw [Int32.toBitVec_and, BitVec.toNat_and]
    exact Nat.lt_of_le_of_lt Nat.and_le_right (by decide)
  · apply Int32.toBitVec_inj.mp
    show _ = (Int32.ofInt _).toBitVec
    rw [Int32.toBitVec_ofInt, BitVec.ofInt_natCast, BitVec.ofNat_toNat, BitVec.setWidth_eq]
theorem law_switch {K : x_KT} {b L i kc ks : Nat} {xs : Nat → Int32} {σ : xSig} (hC : x_LC K b L xs) (hI : INV i σ) (hi : i < 512) (hj : 5 * i + 5 ≤ L) (hkc : kc + 1 ≤ 601024) (hks : ks + 6 ≤ 7293034) (kk : ∀ K' : x_KT, x_LC K' b L xs → ∀ σ2 : xSig, INV (i + 1) σ2 → x_F K' 8 [(0, .ref b)] 2507 (lsL i) [] (St σ2) (kc + 1) (ks + 6)) : x_F K 8 [(0, .ref b)] 32 (lsL i) [] (St σ) kc ks := by
  refine f_sld0 hC 36 rfl (by omega) (dq dcW_head 19 rfl) (dq dcW_head 20 rfl) (dq dcW_head 21 rfl) rfl ?_
  refine f_bipush hC.1 38 (dq dcW_head 22 rfl) rfl rfl ?_
  refine f_iand hC.1 39 (dq dcW_head 23 rfl) rfl ?_
  obtain ⟨n, hn, e⟩ := i_and63 (xs (5 * i))
  rw [e]
  by_cases h : n < 42
  · rcases (show n = 0 ∨ n = 1 ∨ n = 2 ∨ n = 3 ∨ n = 4 ∨ n = 5 ∨ n = 6 ∨ n = 7 ∨ n = 8 ∨ n = 9 ∨ n = 10 ∨ n = 11 ∨ n = 12 ∨ n = 13 ∨ n = 14 ∨ n = 15 ∨ n = 16 ∨ n = 17 ∨ n = 18 ∨ n = 19 ∨ n = 20 ∨ n = 21 ∨ n = 22 ∨ n = 23 ∨ n = 24 ∨ n = 25 ∨ n = 26 ∨ n = 27 ∨ n = 28 ∨ n = 29 ∨ n = 30 ∨ n = 31 ∨ n = 32 ∨ n = 33 ∨ n = 34 ∨ n = 35 ∨ n = 36 ∨ n = 37 ∨ n = 38 ∨ n = 39 ∨ n = 40 ∨ n = 41 by omega) with rfl | rfl | rfl | rfl | rfl | rfl | rfl | rfl | rfl | rfl | rfl | rfl | rfl | rfl | rfl | rfl | rfl | rfl | rfl | rfl | rfl | rfl | rfl | rfl | rfl | rfl | rfl | rfl | rfl | rfl | rfl | rfl | rfl | rfl | rfl | rfl | rfl | rfl | rfl | rfl | rfl | rfl
    · refine f_table hC.1 220 (dq dcW_head 24 rfl) (by unfold xr; omega) (by omega) (by omega) rfl rfl ?_
      exact lc_nothing hC hI hi hj hkc hks kk
    · refine f_table hC.1 264 (dq dcW_head 24 rfl) (by unfold xr; omega) (by omega) (by omega) rfl rfl ?_
      exact lc_number hC hI hi hj hkc hks kk
    · refine f_table hC.1 320 (dq dcW_head 24 rfl) (by unfold xr; omega) (by omega) (by omega) rfl rfl ?_
      exact lc_word hC hI hi hj hkc hks kk
    · refine f_table hC.1 376 (dq dcW_head 24 rfl) (by unfold xr; omega) (by omega) (by omega) rfl rfl ?_
      exact lc_row hC hI hi hj hkc hks kk
    · refine f_table hC.1 420 (dq dcW_head 24 rfl) (by unfold xr; omega) (by omega) (by omega) rfl rfl ?_
      exact lc_object hC hI hi hj hkc hks kk
    · refine f_table hC.1 464 (dq dcW_head 24 rfl) (by unfold xr; omega) (by omega) (by omega) rfl rfl ?_
      exact lc_add hC hI hi hj hkc hks kk
    · refine f_table hC.1 508 (dq dcW_head 24 rfl) (by unfold xr; omega) (by omega) (by omega) rfl rfl ?_
      exact lc_give hC hI hi hj hkc hks kk
    · refine f_table hC.1 564 (dq dcW_head 24 rfl) (by unfold xr; omega) (by omega) (by omega) rfl rfl ?_
      exact lc_drop hC hI hi hj hkc hks kk
    · refine f_table hC.1 577 (dq dcW_head 24 rfl) (by unfold xr; omega) (by omega) (by omega) rfl rfl ?_
      exact lc_insert hC hI hi hj hkc hks kk
    · refine f_table hC.1 645 (dq dcW_head 24 rfl) (by unfold xr; omega) (by omega) (by omega) rfl rfl ?_
      exact lc_update hC hI hi hj hkc hks kk
    · refine f_table hC.1 744 (dq dcW_head 24 rfl) (by unfold xr; omega) (by omega) (by omega) rfl rfl ?_
      exact lc_remove hC hI hi hj hkc hks kk
    · refine f_table hC.1 812 (dq dcW_head 24 rfl) (by unfold xr; omega) (by omega) (by omega) rfl rfl ?_
      exact lc_rule hC hI hi hj hkc hks kk
    · refine f_table hC.1 880 (dq dcW_head 24 rfl) (by unfold xr; omega) (by omega) (by omega) rfl rfl ?_
      exact lc_index hC hI hi hj hkc hks kk
    · refine f_table hC.1 964 (dq dcW_head 24 rfl) (by unfold xr; omega) (by omega) (by omega) rfl rfl ?_
      exact lc_dropIndex hC hI hi hj hkc hks kk
    · refine f_table hC.1 1020 (dq dcW_head 24 rfl) (by unfold xr; omega) (by omega) (by omega) rfl rfl ?_
      exact lc_filter hC hI hi hj hkc hks kk
    · refine f_table hC.1 1088 (dq dcW_head 24 rfl) (by unfold xr; omega) (by omega) (by omega) rfl rfl ?_
      exact lc_clear hC hI hi hj hkc hks kk
    · refine f_table hC.1 1101 (dq dcW_head 24 rfl) (by unfold xr; omega) (by omega) (by omega) rfl rfl ?_
      exact lc_find hC hI hi hj hkc hks kk
    · refine f_table hC.1 1157 (dq dcW_head 24 rfl) (by unfold xr; omega) (by omega) (by omega) rfl rfl ?_
      exact lc_found hC hI hi hj hkc hks kk
    · refine f_table hC.1 1213 (dq dcW_head 24 rfl) (by unfold xr; omega) (by omega) (by omega) rfl rfl ?_
      exact lc_findAnew hC hI hi hj hkc hks kk
    · refine f_table hC.1 1226 (dq dcW_head 24 rfl) (by unfold xr; omega) (by omega) (by omega) rfl rfl ?_
      exact lc_plan hC hI hi hj hkc hks kk
    · refine f_table hC.1 1282 (dq dcW_head 24 rfl) (by unfold xr; omega) (by omega) (by omega) rfl rfl ?_
      exact lc_group hC hI hi hj hkc hks kk
    · refine f_table hC.1 1350 (dq dcW_head 24 rfl) (by unfold xr; omega) (by omega) (by omega) rfl rfl ?_
      exact lc_grouped hC hI hi hj hkc hks kk
    · refine f_table hC.1 1417 (dq dcW_head 24 rfl) (by unfold xr; omega) (by omega) (by omega) rfl rfl ?_
      exact lc_split hC hI hi hj hkc hks kk
    · refine f_table hC.1 1485 (dq dcW_head 24 rfl) (by unfold xr; omega) (by omega) (by omega) rfl rfl ?_
      exact lc_move hC hI hi hj hkc hks kk
    · refine f_table hC.1 1553 (dq dcW_head 24 rfl) (by unfold xr; omega) (by omega) (by omega) rfl rfl ?_
      exact lc_copy hC hI hi hj hkc hks kk
    · refine f_table hC.1 1609 (dq dcW_head 24 rfl) (by unfold xr; omega) (by omega) (by omega) rfl rfl ?_
      exact lc_handOver hC hI hi hj hkc hks kk
    · refine f_table hC.1 1653 (dq dcW_head 24 rfl) (by unfold xr; omega) (by omega) (by omega) rfl rfl ?_
      exact lc_giveUp hC hI hi hj hkc hks kk
    · refine f_table hC.1 1697 (dq dcW_head 24 rfl) (by unfold xr; omega) (by omega) (by omega) rfl rfl ?_
      exact lc_clean hC hI hi hj hkc hks kk
    · refine f_table hC.1 1753 (dq dcW_head 24 rfl) (by unfold xr; omega) (by omega) (by omega) rfl rfl ?_
      exact lc_key hC hI hi hj hkc hks kk
    · refine f_table hC.1 1837 (dq dcW_head 24 rfl) (by unfold xr; omega) (by omega) (by omega) rfl rfl ?_
      exact lc_expire hC hI hi hj hkc hks kk
    · refine f_table hC.1 1893 (dq dcW_head 24 rfl) (by unfold xr; omega) (by omega) (by omega) rfl rfl ?_
      exact lc_tick hC hI hi hj hkc hks kk
    · refine f_table hC.1 1949 (dq dcW_head 24 rfl) (by unfold xr; omega) (by omega) (by omega) rfl rfl ?_
      exact lc_documents hC hI hi hj hkc hks kk
    · refine f_table hC.1 1962 (dq dcW_head 24 rfl) (by unfold xr; omega) (by omega) (by omega) rfl rfl ?_
      exact lc_document hC hI hi hj hkc hks kk
    · refine f_table hC.1 2030 (dq dcW_head 24 rfl) (by unfold xr; omega) (by omega) (by omega) rfl rfl ?_
      exact lc_print hC hI hi hj hkc hks kk
    · refine f_table hC.1 2085 (dq dcW_head 24 rfl) (by unfold xr; omega) (by omega) (by omega) rfl rfl ?_
      exact lc_entries hC hI hi hj hkc hks kk
    · refine f_table hC.1 2141 (dq dcW_head 24 rfl) (by unfold xr; omega) (by omega) (by omega) rfl rfl ?_
      exact lc_entriesAnew hC hI hi hj hkc hks kk
    · refine f_table hC.1 2197 (dq dcW_head 24 rfl) (by unfold xr; omega) (by omega) (by omega) rfl rfl ?_
      exact lc_chunk hC hI hi hj hkc hks kk
    · refine f_table hC.1 2265 (dq dcW_head 24 rfl) (by unfold xr; omega) (by omega) (by omega) rfl rfl ?_
      exact lc_shard hC hI hi hj hkc hks kk
    · refine f_table hC.1 2333 (dq dcW_head 24 rfl) (by unfold xr; omega) (by omega) (by omega) rfl rfl ?_
      exact lc_router hC hI hi hj hkc hks kk
    · refine f_table hC.1 2401 (dq dcW_head 24 rfl) (by unfold xr; omega) (by omega) (by omega) rfl rfl ?_
      exact lc_next hC hI hi hj hkc hks kk
    · refine f_table hC.1 2426 (dq dcW_head 24 rfl) (by unfold xr; omega) (by omega) (by omega) rfl rfl ?_
      exact lc_change hC hI hi hj hkc hks kk
    · refine f_table hC.1 2494 (dq dcW_head 24 rfl) (by unfold xr; omega) (by omega) (by omega) rfl rfl ?_
      exact lc_now hC hI hi hj hkc hks kk
  · refine f_tableO hC.1 2507 (dq dcW_head 24 rfl) (by unfold xr; omega) (Or.inr (by omega)) rfl ?_
    exact f_widen (by omega) (by omega) (kk K hC σ (INV.same [] hI FP.rf rfl))
theorem law_loop {b L : Nat} {xs : Nat → Int32} : ∀ (m i : Nat) (K : x_KT) (σ : xSig), x_LC K b L xs → INV i σ → L < 5 * (i + m) + 5 → i ≤ 512 → x_F K 8 [(0, .ref b)] 23 (lsL i) [] (St σ) (314 + i) (114915 + 6 * i) := by
  intro m
  induction m with
  | zero =>
    intro i K σ hC hI hm hi
    have hL := hC.2.2.2.2.2.2.1
    refine f_iload hC.1 25 (dq dcW_head 13 rfl) rfl rfl ?_
    refine f_slen hC 27 (dq dcW_head 14 rfl) (dq dcW_head 15 rfl) rfl ?_
    refine f_iconst hC.1 28 (dq dcW_head 16 rfl) rfl ?_
    refine f_isub hC.1 29 (dq dcW_head 17 rfl) rfl ?_
    refine f_icmp_gt hC.1 2513 32 (dq dcW_head 18 rfl) rfl rfl (by unfold xr; omega) (by unfold xr; omega) (fun h => ?_) (fun h => by omega)
    refine f_iconst hC.1 2514 (dq dcW_head 27 rfl) rfl ?_
    exact f_end hC (dq dcW_head 28 rfl) (by omega) (by omega)
  | succ m ih =>
    intro i K σ hC hI hm hi
    have hL := hC.2.2.2.2.2.2.1
    refine f_iload hC.1 25 (dq dcW_head 13 rfl) rfl rfl ?_
    refine f_slen hC 27 (dq dcW_head 14 rfl) (dq dcW_head 15 rfl) rfl ?_
    refine f_iconst hC.1 28 (dq dcW_head 16 rfl) rfl ?_
    refine f_isub hC.1 29 (dq dcW_head 17 rfl) rfl ?_
    refine f_icmp_gt hC.1 2513 32 (dq dcW_head 18 rfl) rfl rfl (by unfold xr; omega) (by unfold xr; omega) (fun h => ?_) (fun h => ?_)
    · refine f_iconst hC.1 2514 (dq dcW_head 27 rfl) rfl ?_
      exact f_end hC (dq dcW_head 28 rfl) (by omega) (by omega)
    · refine law_switch hC hI (by omega) (by omega) (by omega) (by omega) (fun K' hC' σ2 hI2 => ?_)
      have e5 : ((5 * (i + 1) : Nat) : Int) = ((5 * i : Nat) : Int) + 5 := by omega
      refine f_iinc hC'.1 2510 (ls' := lsL (i + 1)) (dq dcW_head 25 rfl) rfl (Nat.le_of_ble_eq_true rfl) rfl rfl (by show _ = ([none, some (.ref 0), some (.ref 281), some (.ref 313), some (.int (ii ((5 * (i + 1) : Nat) : Int))), none, none, none] : List (Option Value)); rw [e5]; rfl) ?_
      refine f_goto hC'.1 23 (dq dcW_head 26 rfl) rfl ?_
      exact f_widen (by omega) (by omega) (ih (i + 1) K' σ2 hC' hI2 (by omega) (by omega))
theorem f_new {K : x_KT} {cc : ByteArray} {n9 : Nat} {own : String} {ex : List (Nat × Value)} {pc kc ks N : Nat} {F : Nat → xShp} {σ : xSig} {ls : List (Option Value)} {st : List Value} (C : x_FC K cc n9 own) (nx : Nat) {ci idx : Nat} {r : vw_C} {F2 : Nat → xShp} {fs : List (Option (Option Nat))} (ty : Nat → FieldType) (hk : x_CK ci) (hr : vwCl[ci]? = some r) (hty : ∀ k, k < r.2.2 → parseFieldDescriptor (r.2.1 k).2.2.1 = some (ty k)) (hcl : Cond.classLink own idx r.1 ∈ tb0) (hin : Cond.instantiable r.1 r.2.2 ∈ tb0) (hini : Cond.initialized r.1 ∈ tb0) (hd : decode cc pc = .ok (.new idx, 3)) (hn : pc + 3 = nx)
    (hF : ∀ c, c < N → F2 c = F c) (hFN : F2 N = .inr (.inr (ci, fs))) (hz : ∀ j, σ N j = 0) (hdf : ∀ base j, j < r.2.2 → defaultValue (ty j) = vp_V (x_obj base fs (fun _ => 0)) j) (hcc : kc + 1 ≤ (kR K).cells) (hss : ks + r.2.2 ≤ (kR K).slots)
    (kk : x_F K n9 ex nx ls (.ref N :: st) (Wd (N + 1) F2 σ) (kc + 1) (ks + r.2.2)) : x_F K n9 ex pc ls st (Wd N F σ) kc ks := by
  subst hn
  intro H locs arr w S hl
  obtain ⟨r', k1, k2, -, -, -⟩ := hk
  cases hr.symm.trans k1
  have hts := C.2.2.2.2.1
  have hK := C.2.2.2.2.2.1.1
  have hKn := hK.1 ci _ hr
  have hsz : H.size = kB K + N := w.2 rfl
  refine W.newcK C.1 C.2.1 C.2.2.2.1 (hts _ hcl) (hts _ hin) (hts _ hini) rfl hd hcc hss hKn.2.1 rfl fun H1 kC hkC e1 z1 o1 => ?_
  have hσ : σ N = fun _ => 0 := funext hz
  obtain ⟨w1, S1⟩ := x_grow (F2 := F2) w S hF z1 o1 (by
    rw [hFN, hσ]
    rw [hsz] at e1
    exact ⟨_, hr, (u_born ty hts k2 hKn hkC e1 hty).to (hdf (kB K))⟩)
  have := kk H1 locs arr w1 S1 hl
  rw [show (List.map (x_v (kB K)) (.ref N :: st)) = .ref H.size :: st.map (x_v (kB K)) by rw [hsz]; rfl] at this
  exact this
theorem f_callI {K : x_KT} {cc : ByteArray} {n9 : Nat} {own : String} {ex : List (Nat × Value)} {pc kc ks : Nat} {X : xS} {ls : List (Option Value)} {st : List Value} (C : x_FC K cc n9 own) (nx : Nat) {M' : x_MT} {idx n b mc' ms' : Nat} {av rest : List Value} {X' : xS} (sp : x_Sp M' mc' ms' (.ref b :: av) X (.inl none) X') (ok' : x_MOk M') (cv : x_CI own M' idx n) (hfr : mFr M' + 1 ≤ (kR K).frames) (hlo : 8 + (mL M' + 11) + mLo M' ≤ (kR K).locals) (hd : decode cc pc = .ok (.invokespecial idx, 3)) (hn : pc + 3 = nx)
    (hst : st = av.reverse ++ .ref b :: rest) (hnn : av.length = n) (hrest : (rest.map fun v => v.category).sum ≤ 8) (hcc : kc + mc' ≤ (kR K).cells) (hss : ks + ms' ≤ (kR K).slots)
    (kk : x_F K n9 ex nx ls rest X' (kc + mc') (ks + ms')) : x_F K n9 ex pc ls st X kc ks := by
  subst hn
  subst hst
  intro H locs arr w S hl
  have hts := C.2.2.2.2.1
  obtain ⟨c1, c2, c3, c4, c5⟩ := cv
  have hcb := f_callB (mc' := mc') (ms' := ms') C ok' c1 c5 hfr hlo
  rw [c4] at hcb
  have run := x_toRun (XC := x_XC (kB K) (kG K) (.inl none) X') (va_runI (l := kL K) (e := kE K) (below := kW K) (meth := kH K) (locs := locs) (cells := kc) (slots := ks) (g := F0 (kM K) pc arr ((av.reverse ++ .ref b :: rest).map (x_v (kB K)))) (As := av.map (x_v (kB K))) (b := kB K + b) (rest := rest.map (x_v (kB K))) (f_fix C) (sp.met (kL K) (kG K) (kB K) C.2.2.2.2.2.2) ⟨hcb, c3, hts _ c2⟩ (f_pre (av := .ref b :: av) C w S) rfl (by rw [List.length_map]; exact hnn) hl.1 (by simp [x_v]) (lv_room (by rw [x_cats]; exact hrest)) hd ⟨hcc, hss⟩)
  intro T hT X0
  rcases run T hT X0 with ⟨v', st₀, t, T', L, h0, X', hL, e1, e2, ⟨⟨v2, hv2, hv⟩, hw, hF⟩, st⟩ | ⟨q, st₀, t, T', L, E, ce, h0, X', hL, e1, e2, ⟨hx, -⟩, -⟩
  · cases hv2
    cases hv
    obtain ⟨k1, k2, k3⟩ := vx_keep h0 e1 S (fun q _ h => h) (fun q h => h) hL hF
    obtain ⟨t2, a1, b1⟩ := kk T'.heap (locs ++ L) arr (by rw [e1]; exact hw) k3 hl T' rfl X'
    exact ⟨t2, st t2 a1, b1⟩
  · cases hx
theorem x_W9 {base : Nat} {G : xG} {w : Nat} {X : xS} {H : Heap} (h9 : ∀ c, c < xN X → nk9 (xF X c) = true) (h : x_W base G X H) : x_W base (G9 G w) X H := by
  have e : x_wl base (G9 G w) X = x_wl base G X := by
    show (List.range (xN X)).map _ = (List.range (xN X)).map _
    refine List.map_congr_left fun a ha => ?_
    rw [x_cell9 (h9 a (List.mem_range.mp ha))]
  refine ⟨?_, h.2⟩
  rw [e]
  exact h.1
theorem f_newL9 {K : x_KT} {cc : ByteArray} {n9 : Nat} {own : String} {ex : List (Nat × Value)} {pc kc ks N : Nat} {F F2 : Nat → xShp} {σ : xSig} {ls : List (Option Value)} {st : List Value} (C : x_FC K cc n9 own) (nx : Nat) (hd : decode cc pc = .ok (.newarray .long, 2)) (hn : pc + 2 = nx) (hF : ∀ c, c < N → F2 c = F c) (hFN : F2 N = .inl (9, 1)) (h9 : ∀ c, c < N → nk9 (F c) = true) (hcc : kc + 1 ≤ (kR K).cells) (hss : ks + 1 ≤ (kR K).slots)
    (kk : x_F (K9 K 0) n9 ex nx ls (.ref N :: st) (Wd (N + 1) F2 σ) (kc + 1) (ks + 1)) : x_F K n9 ex pc ls (.int (ii 1) :: st) (Wd N F σ) kc ks := by
  subst hn
  intro H locs arr w0 S hl
  have w := x_W9 (w := 0) (X := Wd N F σ) h9 w0
  have hts := C.2.2.2.2.1
  have hK := C.2.2.2.2.2.1.1
  have hsz : H.size = kB K + N := w.2 rfl
  have hneg : ¬ ii 1 < 0 := by decide
  refine va_newaK (atype := .long) C.1 C.2.1 (hts _ ar_long) rfl hd rfl hneg (show (ii 1).toNatClampNeg = 1 by decide) (by decide) hcc hss rfl fun H1 cA e1 z1 o1 hAr hNm => ?_
  have hcA : cA = (kG K).2 2 := Option.some.inj (hNm.symm.trans (hK.2 2 _ rfl).2)
  subst hcA
  obtain ⟨w1, S1⟩ := x_grow (F2 := F2) w S hF z1 o1 (by
    rw [hFN]
    rw [hsz] at e1
    exact e1.trans (congrArg some (vp_cell_l _ 1 _).symm))
  have := kk H1 locs arr w1 S1 hl
  rw [show (List.map (x_v (kB K)) (.ref N :: st)) = .ref H.size :: st.map (x_v (kB K)) by rw [hsz]; rfl] at this
  exact this
theorem f_known {K : x_KT} {n9 : Nat} {ex : List (Nat × Value)} {pc kc ks : Nat} {σ : xSig} {ls : List (Option Value)} {st : List Value} (kk : x_F K n9 ex pc ls st (St σ) kc ks) : x_F K n9 ex pc ls st (Wd 314 SH σ) kc ks := by
  intro H locs arr w S hl
  exact kk H locs arr ⟨w.1, fun h => by cases h⟩ S hl
theorem sh281 (j : Int) : shI (fun _ _ => 0) 281 j = 0 := by simp [shI, quI, ixI, chI, bgc, xu]
theorem sh_o {b : Nat} (h1 : 281 ≤ b) (h2 : b < 313) (j : Int) : shI (fun _ _ => 0) b j = 0 := by
  simp only [shI, quI, ixI, chI, bgc, xu]
  repeat rw [if_neg (by omega)]
theorem SH9f : ∀ c, c < 313 → nk9 (SH c) = true := fun c hc => SH9 c (by omega) (by omega)
/-- the law's frame, from its first instruction -/
theorem law_from {K : x_KT} {b L : Nat} {xs : Nat → Int32} (hC : x_LC K b L xs) : x_F K 8 [(0, .ref b)] 0 [none, none, none, none, none, none, none, none] [] (Wd 0 SH (fun _ _ => 0)) 0 0 := by
  have C := hC.1
  have hRm := hC.2.1
  have hcl : (kR K).cells = 601024 := by rw [hRm]; rfl
  have hsl : (kR K).slots = 7293034 := by rw [hRm]; rfl
  have hfr : (kR K).frames = 11 := by rw [hRm]; rfl
  have hlo : (kR K).locals = 446 := by rw [hRm]; rfl
  refine f_new C 3 (F2 := xfs SH 0 (.inr (.inr (11, fr11)))) tyX11 ckX11 rfl tyX11_ok clL_8 inX11 izX11 (dq dcW_head 0 rfl) rfl (fun c hc => absurd hc (Nat.not_lt_zero c)) (xfs_at _ _ _) (fun _ => rfl) df11 (by rw [hcl]; exact (Nat.le_of_ble_eq_true rfl)) (by rw [hsl]; exact (Nat.le_of_ble_eq_true rfl)) ?_
  refine f_dup C 4 (dq dcW_head 1 rfl) rfl rfl ?_
  refine f_callI C 7 (sp_iShard (σ := fun _ _ => 0) (fun _ _ _ => rfl)) okX11_init ciL_130 (by rw [hfr]; exact (Nat.le_of_ble_eq_true rfl)) (by rw [hlo]; exact (Nat.le_of_ble_eq_true rfl)) (dq dcW_head 2 rfl) rfl rfl rfl (Nat.le_of_ble_eq_true rfl) (by rw [hcl]; exact (Nat.le_of_ble_eq_true rfl)) (by rw [hsl]; exact (Nat.le_of_ble_eq_true rfl)) ?_
  refine f_astore_n C 8 (dq dcW_head 3 rfl) rfl rfl (Nat.le_of_ble_eq_true rfl) rfl rfl ?_
  refine f_new C 11 (F2 := xfs SH 281 (.inr (.inr (12, fr12)))) tyX12 ckX12 rfl tyX12_ok clL_131 inX12 izX12 (dq dcW_head 4 rfl) rfl (fun c hc => xfs_ne _ _ (by omega)) (xfs_at _ _ _) sh281 df12 (by rw [hcl]; exact (Nat.le_of_ble_eq_true rfl)) (by rw [hsl]; exact (Nat.le_of_ble_eq_true rfl)) ?_
  refine f_dup C 12 (dq dcW_head 5 rfl) rfl rfl ?_
  refine f_callI C 15 (sp_iModel (fun b h1 h2 j => sh_o h1 h2 j)) okX12_init ciL_133 (by rw [hfr]; exact (Nat.le_of_ble_eq_true rfl)) (by rw [hlo]; exact (Nat.le_of_ble_eq_true rfl)) (dq dcW_head 6 rfl) rfl rfl rfl (Nat.le_of_ble_eq_true rfl) (by rw [hcl]; exact (Nat.le_of_ble_eq_true rfl)) (by rw [hsl]; exact (Nat.le_of_ble_eq_true rfl)) ?_
  refine f_astore_n C 16 (dq dcW_head 7 rfl) rfl rfl (Nat.le_of_ble_eq_true rfl) rfl rfl ?_
  refine f_iconst C 17 (dq dcW_head 8 rfl) rfl ?_
  refine f_newL9 C 19 (F2 := SH) (dq dcW_head 9 rfl) rfl (fun _ _ => rfl) rfl SH9f (by rw [hcl]; exact (Nat.le_of_ble_eq_true rfl)) (by rw [hsl]; exact (Nat.le_of_ble_eq_true rfl)) ?_
  refine f_known ?_
  refine f_astore_n (C.out 0) 20 (dq dcW_head 10 rfl) rfl rfl (Nat.le_of_ble_eq_true rfl) rfl rfl ?_
  refine f_iconst (C.out 0) 21 (dq dcW_head 11 rfl) rfl ?_
  refine f_istore (C.out 0) 23 (dq dcW_head 12 rfl) rfl (Nat.le_of_ble_eq_true rfl) rfl rfl ?_
  exact law_loop (L + 1) 0 _ s00 (hC.out 0) s00_INV (by omega) (by omega)
