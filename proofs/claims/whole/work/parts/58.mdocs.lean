/-! ===== the model's documents ===== -/
def DOCM (τ : xSig) (T : Nat → List Int) (G : Nat → Fo) (σ : xSig) : Prop := (∀ n : Nat, n < 100 → hasd τ n = true → ∃ F, G (31 + 2 * n) = .add F (.num 0) ∧ DC (T (31 + 2 * n)) F ∧ MV σ 282 11300 (100 * n + 1) (.add F (.num 0))) ∧ ∀ n : Nat, n < 100 → σ 283 n = bi (hasd τ n)
abbrev cD9 : List (Nat × Int) := [(282, -1), (283, -1)]
theorem DOCM.fp {τ σ σ' : xSig} {T : Nat → List Int} {G : Nat → Fo} {L : List (Nat × Int)} (h : DOCM τ T G σ) (hF : FP L σ σ') (ho : ovl cD9 L = false) : DOCM τ T G σ' := by
  have hs := sam_fp hF ho
  refine ⟨fun n hn hh => ?_, fun n hn => by rw [hs.cell 283 rfl]; exact h.2 n hn⟩
  obtain ⟨F, h1, h2, h3⟩ := h.1 n hn hh
  exact ⟨F, h1, h2, h3.of (hs.cell 282 rfl)⟩
theorem doc_dc {τ : xSig} {T : Nat → List Int} {G : Nat → Fo} {v : Fo} {t : List Int} {F : Fo} (h1 : t = tk v) (h2 : v = .add F (.num 0)) (h3 : ok1 v) (h4 : pa v ≤ 24) : DC t F := by
  subst h2
  refine ⟨h1, ?_, ?_⟩
  · rcases h3 with ⟨x, hx, -⟩ | ⟨c, hx, h3⟩ | ⟨c, hx, h3⟩
    · cases hx
    · cases hx; exact h3
    · cases hx
  · have : pa (.add F (.num 0)) = 1 + pa F := by simp [pa]
    omega
theorem IM.docm {i : Nat} {τ σ : xSig} {T : Nat → List Int} {G : Nat → Fo} (h : IM i τ T G σ) : DOCM τ T G σ := by
  refine ⟨fun n hn hh => ?_, h.2 3⟩
  obtain ⟨h1, F, h2⟩ := h.1 1 n hn hh
  obtain ⟨h3, h4⟩ := h.2 0 n hn hh
  refine ⟨F, h2, doc_dc (τ := τ) (T := T) (G := G) h1 h2 h3.2.1 h4, ?_⟩
  rw [← h2]
  exact h3
theorem IM.chm {i : Nat} {τ σ : xSig} {T : Nat → List Int} {G : Nat → Fo} (h : IM i τ T G σ) : CHM τ σ := ⟨⟨(h.1 6).1, (h.1 6).2.1⟩, h.2 12, h.2 16⟩
theorem IM.gda {i : Nat} {τ σ : xSig} {T : Nat → List Int} {G : Nat → Fo} (h : IM i τ T G σ) : GDA τ T := fun n hn hh => by
  obtain ⟨F, -, h2, -⟩ := h.docm.1 n hn hh
  exact h2.gd
/-- all but what is only for the while may be another -/
abbrev scr9 : List (Nat × Int) := [(284, -1), (285, -1), (306, -1), (307, -1), (311, -1), (312, -1), (281, 5), (281, 7), (281, 41), (281, 47)]
theorem IM.fp {i : Nat} {τ σ σ' : xSig} {T : Nat → List Int} {G : Nat → Fo} {L : List (Nat × Int)} (h : IM i τ T G σ) (hF : FP L σ σ') (ho : (List.range 23).all (fun k => !ovl (cM k) L) = true) : IM i τ T G σ' := by
  refine ⟨h.1, fun k => ?_⟩
  by_cases hk : k < 23
  · have := List.all_eq_true.mp ho k (List.mem_range.mpr hk)
    rw [Bool.not_eq_true'] at this
    exact RMc_fp k (fun b j _ => rfl) (sam_fp hF this) (h.2 k)
  · obtain ⟨m, rfl⟩ : ∃ m, k = m + 23 := ⟨k - 23, by omega⟩
    trivial
theorem sp_mIsThere {τ σ : xSig} (h3 : ∀ n : Nat, n < 100 → σ 283 n = bi (hasd τ n)) {n : Int} (hn : xr n) : Rd MX12_isThere [.ref 281, .int (ii n)] σ (zv (hasd τ n)) := by
  have hi := sp_mIn (σ := σ) (x := n) (y := 0) (z := 99) hn (by unfold xr; omega) (by unfold xr; omega)
  refine e_entry okX12_isThere (Nat.le_of_ble_eq_true rfl) (ls := [some _, some _]) rfl ?_
  refine e_iload_n 0 1 rfl rfl rfl rfl ?_
  refine e_iconst 1 2 rfl rfl ?_
  refine e_bipush 2 4 rfl rfl rfl ?_
  refine g_callS 3 7 (hi) okX12_in csX12_175 ⟨(Nat.le_of_ble_eq_true rfl), (Nat.le_of_ble_eq_true rfl)⟩ rfl rfl rfl rfl (Nat.le_of_ble_eq_true rfl) (Nat.le_of_ble_eq_true rfl) (Nat.le_of_ble_eq_true rfl) ?_
  refine e_ifb_eq 4 23 10 rfl rfl rfl (fun h => ?_) (fun h => ?_)
  · skip
    have h9 := of_decide_eq_false h
    have e : hasd τ n = false := by
      unfold hasd
      exact decide_eq_false (fun q => h9 (by omega))
    rw [e]
    refine e_iconst 12 24 rfl rfl ?_
    exact e_zreturn (x := 0) 13 rfl rfl (by omega) (Nat.le_of_ble_eq_true rfl) (Nat.le_of_ble_eq_true rfl)
  · skip
    have h9 := of_decide_eq_true h
    obtain ⟨m, rfl⟩ := Int.eq_ofNat_of_zero_le h9.1
    refine e_aload_n 5 11 rfl rfl rfl rfl ?_
    refine g_getR 6 14 ckX12 flX12_13 rfl rfl (Nat.le_of_ble_eq_true rfl) rfl rfl ?_
    refine e_iload_n 7 15 rfl rfl rfl rfl ?_
    refine g_baload 8 16 rfl rfl (Nat.le_of_ble_eq_true rfl) rfl (by omega) (by omega) (by omega) (h3 m (by omega)) ?_
    refine e_ifb_eq 9 23 19 rfl rfl rfl (fun h2 => ?_) (fun h2 => ?_)
    · skip
      rw [h2]
      refine e_iconst 12 24 rfl rfl ?_
      exact e_zreturn (x := 0) 13 rfl rfl (by omega) (Nat.le_of_ble_eq_true rfl) (Nat.le_of_ble_eq_true rfl)
    · skip
      rw [h2]
      refine e_iconst 10 20 rfl rfl ?_
      refine e_goto 11 24 rfl rfl ?_
      exact e_zreturn (x := 1) 13 rfl rfl (by omega) (Nat.le_of_ble_eq_true rfl) (Nat.le_of_ble_eq_true rfl)
def mur (σ : xSig) (r : Int) : xSig := if σ 301 r = σ 281 31 then σ else xu (xu σ 301 r (σ 281 31)) 302 r (σ 302 r + 1)
theorem mur_f (σ : xSig) (r : Int) : FP [(301, -1), (302, -1)] σ (mur σ r) := by
  unfold mur
  split
  · exact FP.rf
  · exact (FP.rf.putA rfl).putA rfl
theorem sp_mUses {σ : xSig} {r : Int} (hr : 0 ≤ r ∧ r < 2) (h1 : xr (σ 301 r)) (h2 : xr (σ 281 31)) : x_Sp MX12_uses 0 0 [.ref 281, .int (ii r)] (St σ) vv (St (mur σ r)) := by
  unfold mur
  refine e_entry okX12_uses (Nat.le_of_ble_eq_true rfl) (ls := [some _, some _]) rfl ?_
  refine e_aload_n 0 1 rfl rfl rfl rfl ?_
  refine g_getR 1 4 ckX12 flX12_76 rfl rfl (Nat.le_of_ble_eq_true rfl) rfl rfl ?_
  refine e_iload_n 2 5 rfl rfl rfl rfl ?_
  refine g_iaload 3 6 rfl rfl (Nat.le_of_ble_eq_true rfl) rfl (by omega) (by omega) (by omega) rfl ?_
  refine e_aload_n 4 7 rfl rfl rfl rfl ?_
  refine g_getI 5 10 31 ckX12 flX12_73 rfl rfl (Nat.le_of_ble_eq_true rfl) rfl rfl rfl rfl ?_
  refine e_icmp_eq 6 33 13 rfl rfl rfl h1 h2 (fun h => ?_) (fun h => ?_)
  · skip
    rw [if_pos h]
    exact e_return 21 rfl rfl (Nat.le_of_ble_eq_true rfl) (Nat.le_of_ble_eq_true rfl)
  · skip
    rw [if_neg h]
    refine e_aload_n 7 14 rfl rfl rfl rfl ?_
    refine g_getR 8 17 ckX12 flX12_76 rfl rfl (Nat.le_of_ble_eq_true rfl) rfl rfl ?_
    refine e_iload_n 9 18 rfl rfl rfl rfl ?_
    refine e_aload_n 10 19 rfl rfl rfl rfl ?_
    refine g_getI 11 22 31 ckX12 flX12_73 rfl rfl (Nat.le_of_ble_eq_true rfl) rfl rfl rfl rfl ?_
    refine g_iastore 12 23 rfl rfl (Nat.le_of_ble_eq_true rfl) rfl (by omega) (by omega) (by omega) ?_
    refine e_aload_n 13 24 rfl rfl rfl rfl ?_
    refine g_getR 14 27 ckX12 flX12_79 rfl rfl (Nat.le_of_ble_eq_true rfl) rfl rfl ?_
    refine e_iload_n 15 28 rfl rfl rfl rfl ?_
    refine e_dup2 16 29 rfl rfl rfl rfl ?_
    refine g_iaload 17 30 rfl rfl (Nat.le_of_ble_eq_true rfl) rfl (by omega) (by omega) (by omega) (congrFun (xu_other σ r (σ 281 31) (by decide : (302 : Nat) ≠ 301)) r) ?_
    refine e_iconst 18 31 rfl rfl ?_
    refine e_iadd 19 32 rfl rfl ?_
    refine g_iastore 20 33 rfl rfl (Nat.le_of_ble_eq_true rfl) rfl (by omega) (by omega) (by omega) ?_
    exact e_return 21 rfl rfl (Nat.le_of_ble_eq_true rfl) (Nat.le_of_ble_eq_true rfl)
def ment (σ : xSig) (w n s : Int) : xSig := xu (xu (xu (xu σ 303 (σ 281 37) w) 304 (σ 281 37) n) 305 (σ 281 37) s) 281 37 (σ 281 37 + 1)
theorem ment_f (σ : xSig) (w n s : Int) : FP [(303, -1), (304, -1), (305, -1), (281, 37)] σ (ment σ w n s) := (((FP.rf.putA rfl).putA rfl).putA rfl).put rfl
theorem sp_mEnters {σ : xSig} (h : 0 ≤ σ 281 37 ∧ σ 281 37 < 20000) {w n s : Int} : x_Sp MX12_enters 0 0 [.ref 281, .int (ii w), .int (ii n), .int (ii s)] (St σ) vv (St (ment σ w n s)) := by
  have e1 : xu σ 303 (σ 281 37) w 281 37 = σ 281 37 := congrFun (xu_other σ (σ 281 37) w (by decide)) 37
  have e2 : xu (xu σ 303 (σ 281 37) w) 304 (σ 281 37) n 281 37 = σ 281 37 := (congrFun (xu_other _ (σ 281 37) n (by decide)) 37).trans e1
  have e3 : xu (xu (xu σ 303 (σ 281 37) w) 304 (σ 281 37) n) 305 (σ 281 37) s 281 37 = σ 281 37 := (congrFun (xu_other _ (σ 281 37) s (by decide)) 37).trans e2
  refine e_entry okX12_enters (Nat.le_of_ble_eq_true rfl) (ls := [some _, some _, some _, some _]) rfl ?_
  refine e_aload_n 0 1 rfl rfl rfl rfl ?_
  refine g_getI 1 4 37 ckX12 flX12_220 rfl rfl (Nat.le_of_ble_eq_true rfl) rfl rfl rfl rfl ?_
  refine e_sipush 2 7 rfl rfl rfl ?_
  refine e_icmp_ge 3 50 10 rfl rfl rfl (by unfold xr at *; omega) (by unfold xr at *; omega) (fun h9 => absurd h9 (by omega)) (fun _ => ?_)
  refine e_aload_n 4 11 rfl rfl rfl rfl ?_
  refine g_getR 5 14 ckX12 flX12_82 rfl rfl (Nat.le_of_ble_eq_true rfl) rfl rfl ?_
  refine e_aload_n 6 15 rfl rfl rfl rfl ?_
  refine g_getI 7 18 37 ckX12 flX12_220 rfl rfl (Nat.le_of_ble_eq_true rfl) rfl rfl rfl rfl ?_
  refine e_iload_n 8 19 rfl rfl rfl rfl ?_
  refine g_iastore 9 20 rfl rfl (Nat.le_of_ble_eq_true rfl) rfl (by omega) (by omega) (by omega) ?_
  refine e_aload_n 10 21 rfl rfl rfl rfl ?_
  refine g_getR 11 24 ckX12 flX12_85 rfl rfl (Nat.le_of_ble_eq_true rfl) rfl rfl ?_
  refine e_aload_n 12 25 rfl rfl rfl rfl ?_
  refine g_getI 13 28 37 ckX12 flX12_220 rfl rfl (Nat.le_of_ble_eq_true rfl) rfl rfl rfl e1 ?_
  refine e_iload_n 14 29 rfl rfl rfl rfl ?_
  refine g_iastore 15 30 rfl rfl (Nat.le_of_ble_eq_true rfl) rfl (by omega) (by omega) (by omega) ?_
  refine e_aload_n 16 31 rfl rfl rfl rfl ?_
  refine g_getR 17 34 ckX12 flX12_88 rfl rfl (Nat.le_of_ble_eq_true rfl) rfl rfl ?_
  refine e_aload_n 18 35 rfl rfl rfl rfl ?_
  refine g_getI 19 38 37 ckX12 flX12_220 rfl rfl (Nat.le_of_ble_eq_true rfl) rfl rfl rfl e2 ?_
  refine e_iload_n 20 39 rfl rfl rfl rfl ?_
  refine g_iastore 21 40 rfl rfl (Nat.le_of_ble_eq_true rfl) rfl (by omega) (by omega) (by omega) ?_
  refine e_aload_n 22 41 rfl rfl rfl rfl ?_
  refine e_dup 23 42 rfl rfl rfl ?_
  refine g_getI 24 45 37 ckX12 flX12_220 rfl rfl (Nat.le_of_ble_eq_true rfl) rfl rfl rfl e3 ?_
  refine e_iconst 25 46 rfl rfl ?_
  refine e_iadd 26 47 rfl rfl ?_
  refine g_putI 27 50 37 ckX12 flX12_220 rfl rfl (Nat.le_of_ble_eq_true rfl) rfl rfl rfl ?_
  exact e_return 28 rfl rfl (Nat.le_of_ble_eq_true rfl) (Nat.le_of_ble_eq_true rfl)
theorem sp_mKeeps {σ : xSig} {a nn : Nat} {F : Fo} {f kd r : Int} (ha : isMA a nn) (hk : 0 ≤ kd ∧ kd ≤ 4) (hr : (get f F = .num 0 ∧ r = -1) ∨ (0 ≤ r ∧ MV σ a nn r (get f F))) {x y : Int} : Rd MX12_keeps [.ref a, .int (ii x), .int (ii y), .int (ii kd), .int (ii r)] σ (zv (decide (kd = 0 ∨ knd (hd9 F f) = kd))) := by
  have hnn := ha.2.2.1
  refine e_entry okX12_keeps (Nat.le_of_ble_eq_true rfl) (ls := [some _, some _, some _, some _, some _]) rfl ?_
  refine e_iload_n 0 1 rfl rfl rfl rfl ?_
  refine e_if_eq 1 18 4 rfl rfl rfl (by unfold xr at *; omega) (fun h => ?_) (fun h => ?_)
  · skip
    rw [decide_eq_true (Or.inl h)]
    refine e_iconst 10 19 rfl rfl ?_
    refine e_goto 11 23 rfl rfl ?_
    exact e_zreturn (x := 1) 13 rfl rfl (by omega) (Nat.le_of_ble_eq_true rfl) (Nat.le_of_ble_eq_true rfl)
  · skip
    rcases hr with ⟨g1, rfl⟩ | ⟨g1, g2⟩
    · have e : hd9 F f = 0 := by unfold hd9; rw [g1]; rfl
      rw [e, show knd 0 = 0 from by decide, decide_eq_false (by omega)]
      refine e_iload 2 6 rfl rfl rfl ?_
      refine e_iconst 3 7 rfl rfl ?_
      refine e_icmp_eq 4 22 10 rfl rfl rfl (by unfold xr at *; omega) (by unfold xr at *; omega) (fun _ => ?_) (fun h9 => absurd h9 (by omega))
      refine e_iconst 12 23 rfl rfl ?_
      exact e_zreturn (x := 0) 13 rfl rfl (by omega) (Nat.le_of_ble_eq_true rfl) (Nat.le_of_ble_eq_true rfl)
    · have hb := g2.2.2.2
      have hol := ok1_pa g2.2.1
      have hu : σ a r = knd (hd9 F f) := by
        unfold hd9
        rcases mv_hd g2 with ⟨x, e, -, h1, -⟩ | ⟨c, e, -, h1⟩ | ⟨c, e, -, h1, -⟩
        · rw [e, h1]; rfl
        · rw [e, h1]; rfl
        · rw [e, h1]; rfl
      have hkb := knd_bnd (hd9 F f)
      generalize knd (hd9 F f) = u at *
      refine e_iload 2 6 rfl rfl rfl ?_
      refine e_iconst 3 7 rfl rfl ?_
      refine e_icmp_eq 4 22 10 rfl rfl rfl (by unfold xr at *; omega) (by unfold xr at *; omega) (fun h9 => absurd h9 (by omega)) (fun _ => ?_)
      refine e_aload_n 5 11 rfl rfl rfl rfl ?_
      refine e_iload 6 13 rfl rfl rfl ?_
      refine g_iaload 7 14 rfl rfl ha.1 ha.2.1 (by omega) (by omega) (by omega) hu ?_
      refine e_iload_n 8 15 rfl rfl rfl rfl ?_
      refine e_icmp_ne 9 22 18 rfl rfl rfl (by unfold xr at *; omega) (by unfold xr at *; omega) (fun h2 => ?_) (fun h2 => ?_)
      · skip
        rw [decide_eq_false (by omega)]
        refine e_iconst 12 23 rfl rfl ?_
        exact e_zreturn (x := 0) 13 rfl rfl (by omega) (Nat.le_of_ble_eq_true rfl) (Nat.le_of_ble_eq_true rfl)
      · skip
        rw [decide_eq_true (Or.inr h2)]
        refine e_iconst 10 19 rfl rfl ?_
        refine e_goto 11 23 rfl rfl ?_
        exact e_zreturn (x := 1) 13 rfl rfl (by omega) (Nat.le_of_ble_eq_true rfl) (Nat.le_of_ble_eq_true rfl)
/-- whether a document's fields keep the rules -/
def krF (τ : xSig) (F : Fo) : Bool := alN (fun f => decide (τ 28 f = 0 ∨ knd (hd9 F f) = τ 28 f)) 0 8
theorem krl_F {τ : xSig} {t : List Int} {F : Fo} (hD : DC t F) : krl τ t = krF τ F := by
  unfold krl krF
  refine alN_congr 8 0 fun j _ hj => ?_
  rw [(fk_hd hD (f := j) (by omega)).1]
theorem sp_mKeepsAll {τ σ : xSig} {a nn : Nat} {p : Int} {F : Fo} (h6 : ∀ f : Int, 0 ≤ f → f < 8 → σ 286 f = τ 28 f) (hru : ∀ f : Int, 0 ≤ τ 28 f ∧ τ 28 f ≤ 4) (hM : MV σ a nn p (.add F (.num 0))) : Rm MX12_keepsAll [.ref 281, .ref a, .int (ii p)] σ (zv (krF τ F)) := by
  have lp : ∀ (m i : Nat) (b : Bool) (σ : xSig), i + m = 8 → (∀ f : Int, 0 ≤ f → f < 8 → σ 286 f = τ 28 f) → MV σ a nn p (.add F (.num 0)) → ∃ σ', x_E MX12_keepsAll 0 0 5 [some (.ref 281), some (.ref a), some (.int (ii p)), some (.int (ii (bi b))), some (.int (ii i))] [] (St σ) 0 0 (zv (b && alN (fun f => decide (τ 28 f = 0 ∨ knd (hd9 F f) = τ 28 f)) i m)) (St σ') ∧ FP m11 σ σ' := by
    intro m
    induction m with
    | zero =>
      intro i b σ hi h6 hM
      refine ⟨σ, ?_, FP.rf⟩
      rw [show (b && alN (fun f => decide (τ 28 f = 0 ∨ knd (hd9 F f) = τ 28 f)) i 0) = b from Bool.and_true b]
      refine e_iload 4 7 rfl rfl rfl ?_
      refine e_bipush 5 9 rfl rfl rfl ?_
      refine e_icmp_ge 6 53 12 rfl rfl rfl (by unfold xr at *; omega) (by unfold xr at *; omega) (fun _ => ?_) (fun h9 => absurd h9 (by omega))
      refine e_iload_n 29 54 rfl rfl rfl rfl ?_
      exact e_zreturn 30 rfl rfl (bi_01 b) (Nat.le_of_ble_eq_true rfl) (Nat.le_of_ble_eq_true rfl)
    | succ m ih =>
      intro i b σ hi h6 hM
      have fin : ∀ (z : Bool) (σ1 : xSig), FP m11 σ σ1 → z = (b && decide (τ 28 i = 0 ∨ knd (hd9 F i) = τ 28 i)) → ∃ σ', x_E MX12_keepsAll 0 0 46 [some (.ref 281), some (.ref a), some (.int (ii p)), some (.int (ii (bi b))), some (.int (ii i))] [.int (ii (bi z))] (St σ1) 0 0 (zv (b && alN (fun f => decide (τ 28 f = 0 ∨ knd (hd9 F f) = τ 28 f)) i (m + 1))) (St σ') ∧ FP m11 σ1 σ' := by
        intro z σ1 g hz
        obtain ⟨σ', k1, k2⟩ := ih (i + 1) z σ1 (by omega) (by rw [g.cell 286 rfl]; exact h6) (hM.fp g)
        refine ⟨σ', ?_, k2⟩
        rw [show (b && alN (fun f => decide (τ 28 f = 0 ∨ knd (hd9 F f) = τ 28 f)) i (m + 1)) = (z && alN (fun f => decide (τ 28 f = 0 ∨ knd (hd9 F f) = τ 28 f)) (i + 1) m) by rw [hz, Bool.and_assoc]; rfl]
        refine e_istore_n 26 47 (ls' := [some _, some _, some _, some _, some _]) rfl rfl rfl (Nat.le_of_ble_eq_true rfl) rfl ?_
        refine e_iinc 27 50 (ls' := [some _, some _, some _, some _, some _]) rfl rfl (Nat.le_of_ble_eq_true rfl) rfl rfl ?_
        refine e_goto 28 5 rfl rfl ?_
        exact k1
      cases b with
      | false =>
        obtain ⟨σ', k1, k2⟩ := fin false σ FP.rf rfl
        refine ⟨σ', ?_, k2⟩
        refine e_iload 4 7 rfl rfl rfl ?_
        refine e_bipush 5 9 rfl rfl rfl ?_
        refine e_icmp_ge 6 53 12 rfl rfl rfl (by unfold xr at *; omega) (by unfold xr at *; omega) (fun h9 => absurd h9 (by omega)) (fun _ => ?_)
        refine e_iload_n 7 13 rfl rfl rfl rfl ?_
        refine e_ifb_eq 8 45 16 rfl rfl rfl (fun h => ?_) (fun h => ?_)
        · skip
          refine e_iconst 25 46 rfl rfl ?_
          exact k1
        · skip
          cases h
      | true =>
        obtain ⟨r, σ1, c1, f1, hr⟩ := sp_mFieldOf hM (f := i) (by omega)
        have hkp := sp_mKeeps (σ := σ1) (kd := τ 28 i) (x := p) (y := i) hM.1 (hru i) hr
        obtain ⟨σ', k1, k2⟩ := fin (decide (τ 28 i = 0 ∨ knd (hd9 F i) = τ 28 i)) σ1 f1 rfl
        refine ⟨σ', ?_, f1.tr k2⟩
        refine e_iload 4 7 rfl rfl rfl ?_
        refine e_bipush 5 9 rfl rfl rfl ?_
        refine e_icmp_ge 6 53 12 rfl rfl rfl (by unfold xr at *; omega) (by unfold xr at *; omega) (fun h9 => absurd h9 (by omega)) (fun _ => ?_)
        refine e_iload_n 7 13 rfl rfl rfl rfl ?_
        refine e_ifb_eq 8 45 16 rfl rfl rfl (fun h => ?_) (fun h => ?_)
        · skip
          cases h
        · skip
          refine e_aload_n 9 17 rfl rfl rfl rfl ?_
          refine e_iload_n 10 18 rfl rfl rfl rfl ?_
          refine e_iload 11 20 rfl rfl rfl ?_
          refine e_aload_n 12 21 rfl rfl rfl rfl ?_
          refine g_getR 13 24 ckX12 flX12_23 rfl rfl (Nat.le_of_ble_eq_true rfl) rfl rfl ?_
          refine e_iload 14 26 rfl rfl rfl ?_
          refine g_iaload 15 27 rfl rfl (Nat.le_of_ble_eq_true rfl) rfl (by omega) (by omega) (by omega) (h6 i (by omega) (by omega)) ?_
          refine e_aload_n 16 28 rfl rfl rfl rfl ?_
          refine e_aload_n 17 29 rfl rfl rfl rfl ?_
          refine e_iload_n 18 30 rfl rfl rfl rfl ?_
          refine e_iload 19 32 rfl rfl rfl ?_
          refine g_callV 20 35 (c1) okX12_fieldOf cvX12_155 ⟨(Nat.le_of_ble_eq_true rfl), (Nat.le_of_ble_eq_true rfl)⟩ rfl rfl (Nat.le_of_ble_eq_true rfl) rfl rfl rfl rfl rfl (Nat.le_of_ble_eq_true rfl) (Nat.le_of_ble_eq_true rfl) (Nat.le_of_ble_eq_true rfl) ?_
          refine g_callS 21 38 (hkp) okX12_keeps csX12_223 ⟨(Nat.le_of_ble_eq_true rfl), (Nat.le_of_ble_eq_true rfl)⟩ rfl rfl rfl rfl (Nat.le_of_ble_eq_true rfl) (Nat.le_of_ble_eq_true rfl) (Nat.le_of_ble_eq_true rfl) ?_
          refine e_ifb_eq 22 45 41 rfl rfl rfl (fun h2 => ?_) (fun h2 => ?_)
          · skip
            rw [h2] at k1
            refine e_iconst 25 46 rfl rfl ?_
            exact k1
          · skip
            rw [h2] at k1
            refine e_iconst 23 42 rfl rfl ?_
            refine e_goto 24 46 rfl rfl ?_
            exact k1
  obtain ⟨σ', k1, k2⟩ := lp 8 0 true σ (by omega) h6 hM
  refine ⟨σ', ?_, k2⟩
  rw [Bool.true_and] at k1
  refine e_entry okX12_keepsAll (Nat.le_of_ble_eq_true rfl) (ls := [some _, some _, some _, none, none]) rfl ?_
  refine e_iconst 0 1 rfl rfl ?_
  refine e_istore_n 1 2 (ls' := [some _, some _, some _, some _, none]) rfl rfl rfl (Nat.le_of_ble_eq_true rfl) rfl ?_
  refine e_iconst 2 3 rfl rfl ?_
  refine e_istore 3 5 (ls' := [some _, some _, some _, some _, some _]) rfl rfl (Nat.le_of_ble_eq_true rfl) rfl ?_
  exact k1
theorem sp_mDocsOf {τ σ : xSig} {T : Nat → List Int} {G : Nat → Fo} (hC : CHM τ σ) (hD : DOCM τ T G σ) {c : Int} (hc : xr c) : Rm MX12_documentsOf [.ref 281, .int (ii c)] σ (iv (cin τ T c)) := by
  unfold cin
  generalize hfe : (fun n : Nat => if hasd τ n = true ∧ chk τ (T (31 + 2 * n)) = c then (1 : Int) else 0) = f9
  have hf9 : ∀ n : Nat, f9 n = if hasd τ n = true ∧ chk τ (T (31 + 2 * n)) = c then (1 : Int) else 0 := fun n => by rw [← hfe]
  have lp : ∀ (m i : Nat) (acc : Int) (σ : xSig), i + m = 100 → CHM τ σ → DOCM τ T G σ → ∃ σ', x_E MX12_documentsOf 0 0 4 [some (.ref 281), some (.int (ii c)), some (.int (ii acc)), some (.int (ii i))] [] (St σ) 0 0 (iv (acc + smN f9 i m)) (St σ') ∧ FP m11 σ σ' := by
    intro m
    induction m with
    | zero =>
      intro i acc σ hi hC hD
      refine ⟨σ, ?_, FP.rf⟩
      rw [show acc + smN f9 i 0 = acc from Int.add_zero acc]
      refine e_iload_n 4 5 rfl rfl rfl rfl ?_
      refine e_bipush 5 7 rfl rfl rfl ?_
      refine e_icmp_ge 6 42 10 rfl rfl rfl (by unfold xr at *; omega) (by unfold xr at *; omega) (fun _ => ?_) (fun h9 => absurd h9 (by omega))
      refine e_iload_n 25 43 rfl rfl rfl rfl ?_
      exact e_ireturn 26 rfl rfl (Nat.le_of_ble_eq_true rfl) (Nat.le_of_ble_eq_true rfl)
    | succ m ih =>
      intro i acc σ hi hC hD
      have e3 := hD.2 i (by omega)
      have fin : ∀ (z : Int) (σ1 : xSig), FP m11 σ σ1 → z = f9 i → ∃ σ', x_E MX12_documentsOf 0 0 34 [some (.ref 281), some (.int (ii c)), some (.int (ii acc)), some (.int (ii i))] [.int (ii z), .int (ii acc)] (St σ1) 0 0 (iv (acc + smN f9 i (m + 1))) (St σ') ∧ FP m11 σ1 σ' := by
        intro z σ1 g hz
        obtain ⟨σ', k1, k2⟩ := ih (i + 1) (acc + z) σ1 (by omega) (hC.fp g rfl) (hD.fp g rfl)
        refine ⟨σ', ?_, k2⟩
        rw [show acc + smN f9 i (m + 1) = acc + z + smN f9 (i + 1) m by rw [smN, hz]; omega]
        refine e_iadd 21 35 rfl rfl ?_
        refine e_istore_n 22 36 (ls' := [some _, some _, some _, some _]) rfl rfl rfl (Nat.le_of_ble_eq_true rfl) rfl ?_
        refine e_iinc 23 39 (ls' := [some _, some _, some _, some _]) rfl rfl (Nat.le_of_ble_eq_true rfl) rfl rfl ?_
        refine e_goto 24 4 rfl rfl ?_
        exact k1
      cases hh : hasd τ i with
      | false =>
        obtain ⟨σ', k1, k2⟩ := fin 0 σ FP.rf (by rw [hf9, hh]; rfl)
        rw [hh] at e3
        refine ⟨σ', ?_, k2⟩
        refine e_iload_n 4 5 rfl rfl rfl rfl ?_
        refine e_bipush 5 7 rfl rfl rfl ?_
        refine e_icmp_ge 6 42 10 rfl rfl rfl (by unfold xr at *; omega) (by unfold xr at *; omega) (fun h9 => absurd h9 (by omega)) (fun _ => ?_)
        refine e_iload_n 7 11 rfl rfl rfl rfl ?_
        refine e_aload_n 8 12 rfl rfl rfl rfl ?_
        refine g_getR 9 15 ckX12 flX12_13 rfl rfl (Nat.le_of_ble_eq_true rfl) rfl rfl ?_
        refine e_iload_n 10 16 rfl rfl rfl rfl ?_
        refine g_baload 11 17 rfl rfl (Nat.le_of_ble_eq_true rfl) rfl (by omega) (by omega) (by omega) e3 ?_
        refine e_ifb_eq 12 33 20 rfl rfl rfl (fun h => ?_) (fun h => ?_)
        · skip
          refine e_iconst 20 34 rfl rfl ?_
          exact k1
        · skip
          cases h
      | true =>
        rw [hh] at e3
        obtain ⟨F, d1, d2, d3⟩ := hD.1 i (by omega) hh
        obtain ⟨σ1, c1, f1⟩ := sp_mChunkOf hC d2 d3
        have hcb := chk_bnd hC.1.1 (T (31 + 2 * i))
        have h7 := hC.1.1.1
        have hxc : xr (chk τ (T (31 + 2 * i))) := by unfold xr; omega
        by_cases he : chk τ (T (31 + 2 * i)) = c
        · obtain ⟨σ', k1, k2⟩ := fin 1 σ1 f1 (by rw [hf9, if_pos ⟨hh, he⟩])
          refine ⟨σ', ?_, f1.tr k2⟩
          refine e_iload_n 4 5 rfl rfl rfl rfl ?_
          refine e_bipush 5 7 rfl rfl rfl ?_
          refine e_icmp_ge 6 42 10 rfl rfl rfl (by unfold xr at *; omega) (by unfold xr at *; omega) (fun h9 => absurd h9 (by omega)) (fun _ => ?_)
          refine e_iload_n 7 11 rfl rfl rfl rfl ?_
          refine e_aload_n 8 12 rfl rfl rfl rfl ?_
          refine g_getR 9 15 ckX12 flX12_13 rfl rfl (Nat.le_of_ble_eq_true rfl) rfl rfl ?_
          refine e_iload_n 10 16 rfl rfl rfl rfl ?_
          refine g_baload 11 17 rfl rfl (Nat.le_of_ble_eq_true rfl) rfl (by omega) (by omega) (by omega) e3 ?_
          refine e_ifb_eq 12 33 20 rfl rfl rfl (fun h => ?_) (fun h => ?_)
          · skip
            cases h
          · skip
            refine e_aload_n 13 21 rfl rfl rfl rfl ?_
            refine e_iload_n 14 22 rfl rfl rfl rfl ?_
            refine g_callV 15 25 (c1) okX12_chunkOf cvX12_217 ⟨(Nat.le_of_ble_eq_true rfl), (Nat.le_of_ble_eq_true rfl)⟩ rfl rfl (Nat.le_of_ble_eq_true rfl) rfl rfl rfl rfl rfl (Nat.le_of_ble_eq_true rfl) (Nat.le_of_ble_eq_true rfl) (Nat.le_of_ble_eq_true rfl) ?_
            refine e_iload_n 16 26 rfl rfl rfl rfl ?_
            refine e_icmp_ne 17 33 29 rfl rfl rfl hxc hc (fun h9 => absurd h9 (fun q => q he)) (fun _ => ?_)
            refine e_iconst 18 30 rfl rfl ?_
            refine e_goto 19 34 rfl rfl ?_
            exact k1
        · obtain ⟨σ', k1, k2⟩ := fin 0 σ1 f1 (by rw [hf9, if_neg (fun q => he q.2)])
          refine ⟨σ', ?_, f1.tr k2⟩
          refine e_iload_n 4 5 rfl rfl rfl rfl ?_
          refine e_bipush 5 7 rfl rfl rfl ?_
          refine e_icmp_ge 6 42 10 rfl rfl rfl (by unfold xr at *; omega) (by unfold xr at *; omega) (fun h9 => absurd h9 (by omega)) (fun _ => ?_)
          refine e_iload_n 7 11 rfl rfl rfl rfl ?_
          refine e_aload_n 8 12 rfl rfl rfl rfl ?_
          refine g_getR 9 15 ckX12 flX12_13 rfl rfl (Nat.le_of_ble_eq_true rfl) rfl rfl ?_
          refine e_iload_n 10 16 rfl rfl rfl rfl ?_
          refine g_baload 11 17 rfl rfl (Nat.le_of_ble_eq_true rfl) rfl (by omega) (by omega) (by omega) e3 ?_
          refine e_ifb_eq 12 33 20 rfl rfl rfl (fun h => ?_) (fun h => ?_)
          · skip
            cases h
          · skip
            refine e_aload_n 13 21 rfl rfl rfl rfl ?_
            refine e_iload_n 14 22 rfl rfl rfl rfl ?_
            refine g_callV 15 25 (c1) okX12_chunkOf cvX12_217 ⟨(Nat.le_of_ble_eq_true rfl), (Nat.le_of_ble_eq_true rfl)⟩ rfl rfl (Nat.le_of_ble_eq_true rfl) rfl rfl rfl rfl rfl (Nat.le_of_ble_eq_true rfl) (Nat.le_of_ble_eq_true rfl) (Nat.le_of_ble_eq_true rfl) ?_
            refine e_iload_n 16 26 rfl rfl rfl rfl ?_
            refine e_icmp_ne 17 33 29 rfl rfl rfl hxc hc (fun _ => ?_) (fun h9 => absurd h9 he)
            refine e_iconst 20 34 rfl rfl ?_
            exact k1
  obtain ⟨σ', k1, k2⟩ := lp 100 0 0 σ (by omega) hC hD
  refine ⟨σ', ?_, k2⟩
  rw [Int.zero_add] at k1
  refine e_entry okX12_documentsOf (Nat.le_of_ble_eq_true rfl) (ls := [some _, some _, none, none]) rfl ?_
  refine e_iconst 0 1 rfl rfl ?_
  refine e_istore_n 1 2 (ls' := [some _, some _, some _, none]) rfl rfl rfl (Nat.le_of_ble_eq_true rfl) rfl ?_
  refine e_iconst 2 3 rfl rfl ?_
  refine e_istore_n 3 4 (ls' := [some _, some _, some _, some _]) rfl rfl rfl (Nat.le_of_ble_eq_true rfl) rfl ?_
  exact k1
/-- how many copies the model has -/
def mcp (τ σ : xSig) : Int := smN (fun n => if hasd τ n = true ∧ σ 299 n = 1 then 1 else 0) 0 100
theorem sp_mCopies {τ σ : xSig} (h3 : ∀ n : Nat, n < 100 → σ 283 n = bi (hasd τ n)) (h01 : ∀ n : Nat, n < 100 → σ 299 n = 0 ∨ σ 299 n = 1) : Rd MX12_copies [.ref 281] σ (iv (mcp τ σ)) := by
  unfold mcp
  generalize hfe : (fun n : Nat => if hasd τ n = true ∧ σ 299 n = 1 then (1 : Int) else 0) = f9
  have hf9 : ∀ n : Nat, f9 n = if hasd τ n = true ∧ σ 299 n = 1 then (1 : Int) else 0 := fun n => by rw [← hfe]
  have lp : ∀ (m i : Nat) (acc : Int), i + m = 100 → x_E MX12_copies 0 0 4 [some (.ref 281), some (.int (ii acc)), some (.int (ii i))] [] (St σ) 0 0 (iv (acc + smN f9 i m)) (St σ) := by
    intro m
    induction m with
    | zero =>
      intro i acc hi
      rw [show acc + smN f9 i 0 = acc from Int.add_zero acc]
      refine e_iload_n 4 5 rfl rfl rfl rfl ?_
      refine e_bipush 5 7 rfl rfl rfl ?_
      refine e_icmp_ge 6 42 10 rfl rfl rfl (by unfold xr at *; omega) (by unfold xr at *; omega) (fun _ => ?_) (fun h9 => absurd h9 (by omega))
      refine e_iload_n 25 43 rfl rfl rfl rfl ?_
      exact e_ireturn 26 rfl rfl (Nat.le_of_ble_eq_true rfl) (Nat.le_of_ble_eq_true rfl)
    | succ m ih =>
      intro i acc hi
      have e3 := h3 i (by omega)
      have fin : ∀ (z : Int), z = f9 i → x_E MX12_copies 0 0 34 [some (.ref 281), some (.int (ii acc)), some (.int (ii i))] [.int (ii z), .int (ii acc)] (St σ) 0 0 (iv (acc + smN f9 i (m + 1))) (St σ) := by
        intro z hz
        rw [show acc + smN f9 i (m + 1) = acc + z + smN f9 (i + 1) m by rw [smN, hz]; omega]
        refine e_iadd 21 35 rfl rfl ?_
        refine e_istore_n 22 36 (ls' := [some _, some _, some _]) rfl rfl rfl (Nat.le_of_ble_eq_true rfl) rfl ?_
        refine e_iinc 23 39 (ls' := [some _, some _, some _]) rfl rfl (Nat.le_of_ble_eq_true rfl) rfl rfl ?_
        refine e_goto 24 4 rfl rfl ?_
        exact ih (i + 1) (acc + z) (by omega)
      refine e_iload_n 4 5 rfl rfl rfl rfl ?_
      refine e_bipush 5 7 rfl rfl rfl ?_
      refine e_icmp_ge 6 42 10 rfl rfl rfl (by unfold xr at *; omega) (by unfold xr at *; omega) (fun h9 => absurd h9 (by omega)) (fun _ => ?_)
      refine e_iload_n 7 11 rfl rfl rfl rfl ?_
      refine e_aload_n 8 12 rfl rfl rfl rfl ?_
      refine g_getR 9 15 ckX12 flX12_13 rfl rfl (Nat.le_of_ble_eq_true rfl) rfl rfl ?_
      refine e_iload_n 10 16 rfl rfl rfl rfl ?_
      refine g_baload 11 17 rfl rfl (Nat.le_of_ble_eq_true rfl) rfl (by omega) (by omega) (by omega) e3 ?_
      refine e_ifb_eq 12 33 20 rfl rfl rfl (fun h => ?_) (fun h => ?_)
      · skip
        refine e_iconst 20 34 rfl rfl ?_
        exact fin 0 (by rw [hf9, h]; rfl)
      · skip
        have hx := h01 i (by omega)
        refine e_aload_n 13 21 rfl rfl rfl rfl ?_
        refine g_getR 14 24 ckX12 flX12_67 rfl rfl (Nat.le_of_ble_eq_true rfl) rfl rfl ?_
        refine e_iload_n 15 25 rfl rfl rfl rfl ?_
        refine g_baload 16 26 rfl rfl (Nat.le_of_ble_eq_true rfl) rfl (by omega) (by omega) (by omega) rfl ?_
        refine e_if_eq 17 33 29 rfl rfl rfl (by unfold xr at *; omega) (fun h2 => ?_) (fun h2 => ?_)
        · skip
          refine e_iconst 20 34 rfl rfl ?_
          exact fin 0 (by rw [hf9, if_neg (by omega)])
        · skip
          refine e_iconst 18 30 rfl rfl ?_
          refine e_goto 19 34 rfl rfl ?_
          exact fin 1 (by rw [hf9, if_pos ⟨h, by omega⟩])
  refine e_entry okX12_copies (Nat.le_of_ble_eq_true rfl) (ls := [some _, none, none]) rfl ?_
  refine e_iconst 0 1 rfl rfl ?_
  refine e_istore_n 1 2 (ls' := [some _, some _, none]) rfl rfl rfl (Nat.le_of_ble_eq_true rfl) rfl ?_
  refine e_iconst 2 3 rfl rfl ?_
  refine e_istore_n 3 4 (ls' := [some _, some _, some _]) rfl rfl rfl (Nat.le_of_ble_eq_true rfl) rfl ?_
  have := lp 100 0 0 (by omega)
  rw [Int.zero_add] at this
  exact this
theorem zr_f (σ : xSig) (a : Nat) (i : Int) : FP [(a, -1)] σ (zr σ a i) := fun b j q => by
  have := wc_no (L := [a]) q
  simp only [List.mem_cons, List.not_mem_nil, or_false] at this
  rw [zr_other σ i this]
theorem sp_mForgets {σ : xSig} : x_Sp MX12_forgets 0 0 [.ref 281] (St σ) vv (St (zr σ 299 100)) := by
  have lp : ∀ (m i : Nat), i + m = 100 → x_E MX12_forgets 0 0 2 [some (.ref 281), some (.int (ii i))] [] (St (zr σ 299 i)) 0 0 vv (St (zr σ 299 100)) := by
    intro m
    induction m with
    | zero =>
      intro i hi
      rw [show i = 100 by omega]
      refine e_iload_n 2 3 rfl rfl rfl rfl ?_
      refine e_bipush 3 5 rfl rfl rfl ?_
      refine e_icmp_ge 4 21 8 rfl rfl rfl (by unfold xr at *; omega) (by unfold xr at *; omega) (fun _ => ?_) (fun h9 => absurd h9 (by omega))
      exact e_return 12 rfl rfl (Nat.le_of_ble_eq_true rfl) (Nat.le_of_ble_eq_true rfl)
    | succ m ih =>
      intro i hi
      have := ih (i + 1) (by omega)
      rw [show (((i + 1 : Nat) : Int)) = (i : Int) + 1 by omega, ← zr_s] at this
      refine e_iload_n 2 3 rfl rfl rfl rfl ?_
      refine e_bipush 3 5 rfl rfl rfl ?_
      refine e_icmp_ge 4 21 8 rfl rfl rfl (by unfold xr at *; omega) (by unfold xr at *; omega) (fun h9 => absurd h9 (by omega)) (fun _ => ?_)
      refine e_aload_n 5 9 rfl rfl rfl rfl ?_
      refine g_getR 6 12 ckX12 flX12_67 rfl rfl (Nat.le_of_ble_eq_true rfl) rfl rfl ?_
      refine e_iload_n 7 13 rfl rfl rfl rfl ?_
      refine e_iconst 8 14 rfl rfl ?_
      refine g_bastore 9 15 rfl rfl (by omega) (Nat.le_of_ble_eq_true rfl) rfl (by omega) (by omega) (by omega) ?_
      refine e_iinc 10 18 (ls' := [some _, some _]) rfl rfl (Nat.le_of_ble_eq_true rfl) rfl rfl ?_
      refine e_goto 11 2 rfl rfl ?_
      exact this
  have := lp 100 0 (by omega)
  rw [show ((0 : Nat) : Int) = 0 from rfl, zr_0] at this
  refine e_entry okX12_forgets (Nat.le_of_ble_eq_true rfl) (ls := [some _, none]) rfl ?_
  refine e_iconst 0 1 rfl rfl ?_
  refine e_istore_n 1 2 (ls' := [some _, some _]) rfl rfl rfl (Nat.le_of_ble_eq_true rfl) rfl ?_
  exact this
def mbg (σ : xSig) : xSig := xu (xu (xu (xu (xu (xu (xu (xu (xu (xu σ 281 24 3) 297 0 0) 298 0 0) 300 0 0) 297 1 334) 298 1 1) 300 1 0) 297 2 667) 298 2 2) 300 2 0
theorem mbg_f (σ : xSig) : FP [(281, 24), (297, -1), (298, -1), (300, -1)] σ (mbg σ) := (((((((((FP.rf.put rfl).putA rfl).putA rfl).putA rfl).putA rfl).putA rfl).putA rfl).putA rfl).putA rfl).putA rfl
theorem sp_mChunksAnew {σ : xSig} : x_Sp MX12_chunksAnew 0 0 [.ref 281] (St σ) vv (St (mbg σ)) := by
  unfold mbg
  refine e_entry okX12_chunksAnew (Nat.le_of_ble_eq_true rfl) (ls := [some _, none]) rfl ?_
  refine e_aload_n 0 1 rfl rfl rfl rfl ?_
  refine e_iconst 1 2 rfl rfl ?_
  refine g_putI 2 5 24 ckX12 flX12_200 rfl rfl (Nat.le_of_ble_eq_true rfl) rfl rfl rfl ?_
  refine e_iconst 3 6 rfl rfl ?_
  refine e_istore_n 4 7 (ls' := [some _, some _]) rfl rfl rfl (Nat.le_of_ble_eq_true rfl) rfl ?_
  refine e_iload_n 5 8 rfl rfl rfl rfl ?_
  refine e_iconst 6 9 rfl rfl ?_
  refine e_icmp_ge 7 53 12 rfl rfl rfl (by unfold xr at *; omega) (by unfold xr at *; omega) (fun h9 => absurd h9 (by omega)) (fun _ => ?_)
  refine e_aload_n 8 13 rfl rfl rfl rfl ?_
  refine g_getR 9 16 ckX12 flX12_57 rfl rfl (Nat.le_of_ble_eq_true rfl) rfl rfl ?_
  refine e_iload_n 10 17 rfl rfl rfl rfl ?_
  refine e_iload_n 11 18 rfl rfl rfl rfl ?_
  refine e_if_ne 12 25 21 rfl rfl rfl (by unfold xr at *; omega) (fun h9 => absurd h9 (by omega)) (fun _ => ?_)
  refine e_iconst 13 22 rfl rfl ?_
  refine e_goto 14 32 rfl rfl ?_
  refine g_iastore 20 33 rfl rfl (Nat.le_of_ble_eq_true rfl) rfl (by omega) (by omega) (by omega) ?_
  refine e_aload_n 21 34 rfl rfl rfl rfl ?_
  refine g_getR 22 37 ckX12 flX12_60 rfl rfl (Nat.le_of_ble_eq_true rfl) rfl rfl ?_
  refine e_iload_n 23 38 rfl rfl rfl rfl ?_
  refine e_iload_n 24 39 rfl rfl rfl rfl ?_
  refine g_iastore 25 40 rfl rfl (Nat.le_of_ble_eq_true rfl) rfl (by omega) (by omega) (by omega) ?_
  refine e_aload_n 26 41 rfl rfl rfl rfl ?_
  refine g_getR 27 44 ckX12 flX12_70 rfl rfl (Nat.le_of_ble_eq_true rfl) rfl rfl ?_
  refine e_iload_n 28 45 rfl rfl rfl rfl ?_
  refine e_iconst 29 46 rfl rfl ?_
  refine g_iastore 30 47 rfl rfl (Nat.le_of_ble_eq_true rfl) rfl (by omega) (by omega) (by omega) ?_
  refine e_iinc 31 50 (ls' := [some _, some _]) rfl rfl (Nat.le_of_ble_eq_true rfl) rfl rfl ?_
  refine e_goto 32 7 rfl rfl ?_
  refine e_iload_n 5 8 rfl rfl rfl rfl ?_
  refine e_iconst 6 9 rfl rfl ?_
  refine e_icmp_ge 7 53 12 rfl rfl rfl (by unfold xr at *; omega) (by unfold xr at *; omega) (fun h9 => absurd h9 (by omega)) (fun _ => ?_)
  refine e_aload_n 8 13 rfl rfl rfl rfl ?_
  refine g_getR 9 16 ckX12 flX12_57 rfl rfl (Nat.le_of_ble_eq_true rfl) rfl rfl ?_
  refine e_iload_n 10 17 rfl rfl rfl rfl ?_
  refine e_iload_n 11 18 rfl rfl rfl rfl ?_
  refine e_if_ne 12 25 21 rfl rfl rfl (by unfold xr at *; omega) (fun _ => ?_) (fun h9 => absurd h9 (by omega))
  refine e_sipush 15 28 rfl rfl rfl ?_
  refine e_iload_n 16 29 rfl rfl rfl rfl ?_
  refine e_imul 17 30 rfl rfl ?_
  refine e_iconst 18 31 rfl rfl ?_
  refine e_iadd 19 32 rfl rfl ?_
  refine g_iastore 20 33 rfl rfl (Nat.le_of_ble_eq_true rfl) rfl (by omega) (by omega) (by omega) ?_
  refine e_aload_n 21 34 rfl rfl rfl rfl ?_
  refine g_getR 22 37 ckX12 flX12_60 rfl rfl (Nat.le_of_ble_eq_true rfl) rfl rfl ?_
  refine e_iload_n 23 38 rfl rfl rfl rfl ?_
  refine e_iload_n 24 39 rfl rfl rfl rfl ?_
  refine g_iastore 25 40 rfl rfl (Nat.le_of_ble_eq_true rfl) rfl (by omega) (by omega) (by omega) ?_
  refine e_aload_n 26 41 rfl rfl rfl rfl ?_
  refine g_getR 27 44 ckX12 flX12_70 rfl rfl (Nat.le_of_ble_eq_true rfl) rfl rfl ?_
  refine e_iload_n 28 45 rfl rfl rfl rfl ?_
  refine e_iconst 29 46 rfl rfl ?_
  refine g_iastore 30 47 rfl rfl (Nat.le_of_ble_eq_true rfl) rfl (by omega) (by omega) (by omega) ?_
  refine e_iinc 31 50 (ls' := [some _, some _]) rfl rfl (Nat.le_of_ble_eq_true rfl) rfl rfl ?_
  refine e_goto 32 7 rfl rfl ?_
  refine e_iload_n 5 8 rfl rfl rfl rfl ?_
  refine e_iconst 6 9 rfl rfl ?_
  refine e_icmp_ge 7 53 12 rfl rfl rfl (by unfold xr at *; omega) (by unfold xr at *; omega) (fun h9 => absurd h9 (by omega)) (fun _ => ?_)
  refine e_aload_n 8 13 rfl rfl rfl rfl ?_
  refine g_getR 9 16 ckX12 flX12_57 rfl rfl (Nat.le_of_ble_eq_true rfl) rfl rfl ?_
  refine e_iload_n 10 17 rfl rfl rfl rfl ?_
  refine e_iload_n 11 18 rfl rfl rfl rfl ?_
  refine e_if_ne 12 25 21 rfl rfl rfl (by unfold xr at *; omega) (fun _ => ?_) (fun h9 => absurd h9 (by omega))
  refine e_sipush 15 28 rfl rfl rfl ?_
  refine e_iload_n 16 29 rfl rfl rfl rfl ?_
  refine e_imul 17 30 rfl rfl ?_
  refine e_iconst 18 31 rfl rfl ?_
  refine e_iadd 19 32 rfl rfl ?_
  refine g_iastore 20 33 rfl rfl (Nat.le_of_ble_eq_true rfl) rfl (by omega) (by omega) (by omega) ?_
  refine e_aload_n 21 34 rfl rfl rfl rfl ?_
  refine g_getR 22 37 ckX12 flX12_60 rfl rfl (Nat.le_of_ble_eq_true rfl) rfl rfl ?_
  refine e_iload_n 23 38 rfl rfl rfl rfl ?_
  refine e_iload_n 24 39 rfl rfl rfl rfl ?_
  refine g_iastore 25 40 rfl rfl (Nat.le_of_ble_eq_true rfl) rfl (by omega) (by omega) (by omega) ?_
  refine e_aload_n 26 41 rfl rfl rfl rfl ?_
  refine g_getR 27 44 ckX12 flX12_70 rfl rfl (Nat.le_of_ble_eq_true rfl) rfl rfl ?_
  refine e_iload_n 28 45 rfl rfl rfl rfl ?_
  refine e_iconst 29 46 rfl rfl ?_
  refine g_iastore 30 47 rfl rfl (Nat.le_of_ble_eq_true rfl) rfl (by omega) (by omega) (by omega) ?_
  refine e_iinc 31 50 (ls' := [some _, some _]) rfl rfl (Nat.le_of_ble_eq_true rfl) rfl rfl ?_
  refine e_goto 32 7 rfl rfl ?_
  refine e_iload_n 5 8 rfl rfl rfl rfl ?_
  refine e_iconst 6 9 rfl rfl ?_
  refine e_icmp_ge 7 53 12 rfl rfl rfl (by unfold xr at *; omega) (by unfold xr at *; omega) (fun _ => ?_) (fun h9 => absurd h9 (by omega))
  exact e_return 33 rfl rfl (Nat.le_of_ble_eq_true rfl) (Nat.le_of_ble_eq_true rfl)
def mrm (σ : xSig) (d s : Int) : xSig := ment (xu (xu (xu σ 283 d 0) 299 d 0) 281 2 (σ 281 2 - 1)) 2 d s
theorem mrm_f (σ : xSig) (d s : Int) : FP [(283, -1), (299, -1), (281, 2), (303, -1), (304, -1), (305, -1), (281, 37)] σ (mrm σ d s) := (((FP.rf.putA rfl).putA rfl).put rfl).tr ((ment_f _ _ _ _).mono rfl)
theorem sp_mRemoves {τ σ : xSig} {n : Nat} {t : List Int} {F : Fo} (h : CHM τ σ) (hD : DC t F) (hM : MV σ 282 11300 (100 * n + 1) (.add F (.num 0))) (hn : n < 100) (he : 0 ≤ σ 281 37 ∧ σ 281 37 < 20000) : ∃ σ1, FP m11 σ σ1 ∧ x_Sp MX12_removes 0 0 [.ref 281, .int (ii n)] (St σ) (iv (shd τ t)) (St (mrm σ1 n (shd τ t))) := by
  obtain ⟨σ1, c1, f1⟩ := sp_mShardOf h hD hM
  refine ⟨σ1, f1, ?_⟩
  have e1 : xu (xu σ1 283 n 0) 299 n 0 281 2 = σ1 281 2 := by rw [xu_other _ _ _ (by decide), xu_other _ _ _ (by decide)]
  have e2 : xu (xu (xu σ1 283 n 0) 299 n 0) 281 2 (σ1 281 2 - 1) 281 37 = σ1 281 37 := by rw [xu_ne _ (Or.inr (by decide)), xu_other _ _ _ (by decide), xu_other _ _ _ (by decide)]
  refine e_entry okX12_removes (Nat.le_of_ble_eq_true rfl) (ls := [some _, some _, none]) rfl ?_
  refine e_aload_n 0 1 rfl rfl rfl rfl ?_
  refine e_iload_n 1 2 rfl rfl rfl rfl ?_
  refine g_callV 2 5 (c1) okX12_shardOf cvX12_237 ⟨(Nat.le_of_ble_eq_true rfl), (Nat.le_of_ble_eq_true rfl)⟩ rfl rfl (Nat.le_of_ble_eq_true rfl) rfl rfl rfl rfl rfl (Nat.le_of_ble_eq_true rfl) (Nat.le_of_ble_eq_true rfl) (Nat.le_of_ble_eq_true rfl) ?_
  refine e_istore_n 3 6 (ls' := [some _, some _, some _]) rfl rfl rfl (Nat.le_of_ble_eq_true rfl) rfl ?_
  refine e_aload_n 4 7 rfl rfl rfl rfl ?_
  refine g_getR 5 10 ckX12 flX12_13 rfl rfl (Nat.le_of_ble_eq_true rfl) rfl rfl ?_
  refine e_iload_n 6 11 rfl rfl rfl rfl ?_
  refine e_iconst 7 12 rfl rfl ?_
  refine g_bastore 8 13 rfl rfl (by omega) (Nat.le_of_ble_eq_true rfl) rfl (by omega) (by omega) (by omega) ?_
  refine e_aload_n 9 14 rfl rfl rfl rfl ?_
  refine g_getR 10 17 ckX12 flX12_67 rfl rfl (Nat.le_of_ble_eq_true rfl) rfl rfl ?_
  refine e_iload_n 11 18 rfl rfl rfl rfl ?_
  refine e_iconst 12 19 rfl rfl ?_
  refine g_bastore 13 20 rfl rfl (by omega) (Nat.le_of_ble_eq_true rfl) rfl (by omega) (by omega) (by omega) ?_
  refine e_aload_n 14 21 rfl rfl rfl rfl ?_
  refine e_dup 15 22 rfl rfl rfl ?_
  refine g_getI 16 25 2 ckX12 flX12_227 rfl rfl (Nat.le_of_ble_eq_true rfl) rfl rfl rfl e1 ?_
  refine e_iconst 17 26 rfl rfl ?_
  refine e_isub 18 27 rfl rfl ?_
  refine g_putI 19 30 2 ckX12 flX12_227 rfl rfl (Nat.le_of_ble_eq_true rfl) rfl rfl rfl ?_
  refine e_aload_n 20 31 rfl rfl rfl rfl ?_
  refine e_iconst 21 32 rfl rfl ?_
  refine e_iload_n 22 33 rfl rfl rfl rfl ?_
  refine e_iload_n 23 34 rfl rfl rfl rfl ?_
  refine g_callV 24 37 (sp_mEnters (by rw [e2, f1 281 37 rfl]; exact he)) okX12_enters cvX12_243 ⟨(Nat.le_of_ble_eq_true rfl), (Nat.le_of_ble_eq_true rfl)⟩ rfl rfl (Nat.le_of_ble_eq_true rfl) rfl rfl rfl rfl rfl (Nat.le_of_ble_eq_true rfl) (Nat.le_of_ble_eq_true rfl) (Nat.le_of_ble_eq_true rfl) ?_
  refine e_iload_n 25 38 rfl rfl rfl rfl ?_
  exact e_ireturn 26 rfl rfl (Nat.le_of_ble_eq_true rfl) (Nat.le_of_ble_eq_true rfl)
theorem sp_mIsChunk {τ σ : xSig} (h : σ 281 24 = τ 231 7) (h7 : 1 ≤ τ 231 7 ∧ τ 231 7 ≤ 12) {c : Int} (hc : xr c) : Rd MX12_isChunk [.ref 281, .int (ii c)] σ (zv (chas τ c)) := by
  have e : decide (0 ≤ c ∧ c ≤ τ 231 7 - 1) = chas τ c := by
    unfold chas
    by_cases q : 0 ≤ c ∧ c < τ 231 7
    · rw [decide_eq_true q, decide_eq_true (by omega)]
    · rw [decide_eq_false q, decide_eq_false (by omega)]
  have hi := sp_mIn (σ := σ) (x := c) (y := 0) (z := τ 231 7 - 1) hc (by unfold xr; omega) (by unfold xr; omega)
  rw [e] at hi
  refine e_entry okX12_isChunk (Nat.le_of_ble_eq_true rfl) (ls := [some _, some _]) rfl ?_
  refine e_iload_n 0 1 rfl rfl rfl rfl ?_
  refine e_iconst 1 2 rfl rfl ?_
  refine e_aload_n 2 3 rfl rfl rfl rfl ?_
  refine g_getI 3 6 24 ckX12 flX12_200 rfl rfl (Nat.le_of_ble_eq_true rfl) rfl rfl rfl h ?_
  refine e_iconst 4 7 rfl rfl ?_
  refine e_isub 5 8 rfl rfl ?_
  refine g_callS 6 11 (hi) okX12_in csX12_175 ⟨(Nat.le_of_ble_eq_true rfl), (Nat.le_of_ble_eq_true rfl)⟩ rfl rfl rfl rfl (Nat.le_of_ble_eq_true rfl) (Nat.le_of_ble_eq_true rfl) (Nat.le_of_ble_eq_true rfl) ?_
  exact e_zreturn 7 rfl rfl (bi_01 _) (Nat.le_of_ble_eq_true rfl) (Nat.le_of_ble_eq_true rfl)
