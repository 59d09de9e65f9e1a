/-! ===== steps: find, where an index looks ===== -/
theorem ll_toInt {x : Int} (h : -1000000000000 ≤ x ∧ x ≤ 1000000000000) : (ll x).toInt = x := by
  rw [Int64.toInt_ofInt]
  show x.bmod 18446744073709551616 = x
  rw [Int.bmod_def]
  omega
theorem l_cmp_eq (x : Int) : lg_cmp (ll x) (ll x) = ii 0 := by
  unfold lg_cmp
  rw [if_neg (by simp), if_pos rfl]
  rfl
theorem l_cmp_ne {x y : Int} (hx : -1000000000000 ≤ x ∧ x ≤ 1000000000000) (hy : -1000000000000 ≤ y ∧ y ≤ 1000000000000) (h : x ≠ y) : ∃ z, lg_cmp (ll x) (ll y) = ii z ∧ z ≠ 0 ∧ xr z := by
  have hne : ll x ≠ ll y := fun e => h (by rw [← ll_toInt hx, ← ll_toInt hy, e])
  by_cases g : ll x > ll y
  · exact ⟨1, by unfold lg_cmp; rw [if_pos g]; rfl, by decide, by unfold xr; omega⟩
  · exact ⟨-1, by unfold lg_cmp; rw [if_neg g, if_neg hne]; rfl, by decide, by unfold xr; omega⟩
theorem sp_mLookFilter {τ σ : xSig} {T : Nat → List Int} {G : Nat → Fo} (hX : IXR τ) (hI : FIM τ T G σ) {x : Int} (hh : ihas τ x = true) (e7 : σ 287 x = τ 249 x) : Rd MX12_lookFilter [.ref 281, .int (ii x)] σ (iv (ffi τ x)) := by
  have hx := ihas_in hh
  have hpx := pxs_has hX hh
  have epx : pxs τ x = τ 249 x := by unfold pxs; rw [if_pos ⟨hx.1, hx.2.1⟩]
  have e7' : σ 287 x = pxs τ x := by rw [epx]; exact e7
  have h43 := hI.1
  unfold ffi
  rw [if_pos hh]
  generalize hfe : (fun i : Int => bi (decide (τ (qf i) 1 = pxs τ x ∧ τ (qf i) 2 < 3))) = f9
  have hf9 : ∀ i : Int, f9 i = bi (decide (τ (qf i) 1 = pxs τ x ∧ τ (qf i) 2 < 3)) := fun n => by rw [← hfe]
  have lp : ∀ (m i : Nat), (i : Int) + m = τ 256 4 → x_E MX12_lookFilter 0 0 2 [some (.ref 281), some (.int (ii x)), some (.int (ii i))] [] (St σ) 0 0 (iv (fstIs f9 1 i m)) (St σ) := by
    intro m
    induction m with
    | zero =>
      intro i hi
      have e14 := hI.2.1
      refine e_iload_n 2 3 rfl rfl rfl rfl ?_
      refine e_aload_n 3 4 rfl rfl rfl rfl ?_
      refine g_getI 4 7 14 ckX12 flX12_279 rfl rfl (Nat.le_of_ble_eq_true rfl) rfl rfl rfl e14 ?_
      refine e_icmp_ge 5 43 10 rfl rfl rfl (by unfold xr at *; omega) (by unfold xr at *; omega) (fun _ => ?_) (fun h9 => absurd h9 (by omega))
      refine e_iconst 25 44 rfl rfl ?_
      exact e_ireturn 26 rfl rfl (Nat.le_of_ble_eq_true rfl) (Nat.le_of_ble_eq_true rfl)
    | succ m ih =>
      intro i hi
      have e14 := hI.2.1
      obtain ⟨⟨g1, g2, g3⟩, g4, g5, g6, g7⟩ := hI.2.2 i (by omega) (by omega)
      have k2 := ih (i + 1) (by omega)
      have xp : xr (τ (qf i) 1) := by unfold xr; omega
      have xq : xr (pxs τ x) := by unfold xr; omega
      by_cases hp : τ (qf i) 1 = pxs τ x
      · by_cases hr : τ (qf i) 2 < 3
        · have ez : fstIs f9 1 i (m + 1) = (i : Int) := by
            simp only [fstIs]
            rw [hf9, decT ⟨hp, hr⟩, if_pos (by decide)]
          rw [ez]
          refine e_iload_n 2 3 rfl rfl rfl rfl ?_
          refine e_aload_n 3 4 rfl rfl rfl rfl ?_
          refine g_getI 4 7 14 ckX12 flX12_279 rfl rfl (Nat.le_of_ble_eq_true rfl) rfl rfl rfl e14 ?_
          refine e_icmp_ge 5 43 10 rfl rfl rfl (by unfold xr at *; omega) (by unfold xr at *; omega) (fun h9 => absurd h9 (by omega)) (fun _ => ?_)
          refine e_aload_n 6 11 rfl rfl rfl rfl ?_
          refine g_getR 7 14 ckX12 flX12_35 rfl rfl (Nat.le_of_ble_eq_true rfl) rfl rfl ?_
          refine e_iload_n 8 15 rfl rfl rfl rfl ?_
          refine g_iaload 9 16 rfl rfl (Nat.le_of_ble_eq_true rfl) rfl (by omega) (by omega) (by omega) g1 ?_
          refine e_aload_n 10 17 rfl rfl rfl rfl ?_
          refine g_getR 11 20 ckX12 flX12_26 rfl rfl (Nat.le_of_ble_eq_true rfl) rfl rfl ?_
          refine e_iload_n 12 21 rfl rfl rfl rfl ?_
          refine g_iaload 13 22 rfl rfl (Nat.le_of_ble_eq_true rfl) rfl (by omega) (by omega) (by omega) e7' ?_
          refine e_icmp_ne 14 37 25 rfl rfl rfl xp xq (fun h9 => absurd h9 (fun q => q hp)) (fun _ => ?_)
          refine e_aload_n 15 26 rfl rfl rfl rfl ?_
          refine g_getR 16 29 ckX12 flX12_38 rfl rfl (Nat.le_of_ble_eq_true rfl) rfl rfl ?_
          refine e_iload_n 17 30 rfl rfl rfl rfl ?_
          refine g_iaload 18 31 rfl rfl (Nat.le_of_ble_eq_true rfl) rfl (by omega) (by omega) (by omega) g2 ?_
          refine e_iconst 19 32 rfl rfl ?_
          refine e_icmp_ge 20 37 35 rfl rfl rfl (by unfold xr at *; omega) (by unfold xr at *; omega) (fun h9 => absurd h9 (by omega)) (fun _ => ?_)
          refine e_iload_n 21 36 rfl rfl rfl rfl ?_
          exact e_ireturn 22 rfl rfl (Nat.le_of_ble_eq_true rfl) (Nat.le_of_ble_eq_true rfl)
        · have ez : fstIs f9 1 i (m + 1) = fstIs f9 1 (i + 1) m := by
            simp only [fstIs]
            rw [hf9, decF (fun q => hr q.2), if_neg (by decide)]
          rw [ez]
          refine e_iload_n 2 3 rfl rfl rfl rfl ?_
          refine e_aload_n 3 4 rfl rfl rfl rfl ?_
          refine g_getI 4 7 14 ckX12 flX12_279 rfl rfl (Nat.le_of_ble_eq_true rfl) rfl rfl rfl e14 ?_
          refine e_icmp_ge 5 43 10 rfl rfl rfl (by unfold xr at *; omega) (by unfold xr at *; omega) (fun h9 => absurd h9 (by omega)) (fun _ => ?_)
          refine e_aload_n 6 11 rfl rfl rfl rfl ?_
          refine g_getR 7 14 ckX12 flX12_35 rfl rfl (Nat.le_of_ble_eq_true rfl) rfl rfl ?_
          refine e_iload_n 8 15 rfl rfl rfl rfl ?_
          refine g_iaload 9 16 rfl rfl (Nat.le_of_ble_eq_true rfl) rfl (by omega) (by omega) (by omega) g1 ?_
          refine e_aload_n 10 17 rfl rfl rfl rfl ?_
          refine g_getR 11 20 ckX12 flX12_26 rfl rfl (Nat.le_of_ble_eq_true rfl) rfl rfl ?_
          refine e_iload_n 12 21 rfl rfl rfl rfl ?_
          refine g_iaload 13 22 rfl rfl (Nat.le_of_ble_eq_true rfl) rfl (by omega) (by omega) (by omega) e7' ?_
          refine e_icmp_ne 14 37 25 rfl rfl rfl xp xq (fun h9 => absurd h9 (fun q => q hp)) (fun _ => ?_)
          refine e_aload_n 15 26 rfl rfl rfl rfl ?_
          refine g_getR 16 29 ckX12 flX12_38 rfl rfl (Nat.le_of_ble_eq_true rfl) rfl rfl ?_
          refine e_iload_n 17 30 rfl rfl rfl rfl ?_
          refine g_iaload 18 31 rfl rfl (Nat.le_of_ble_eq_true rfl) rfl (by omega) (by omega) (by omega) g2 ?_
          refine e_iconst 19 32 rfl rfl ?_
          refine e_icmp_ge 20 37 35 rfl rfl rfl (by unfold xr at *; omega) (by unfold xr at *; omega) (fun _ => ?_) (fun h9 => absurd h9 (by omega))
          refine e_iinc 23 40 (ls' := [some _, some _, some _]) rfl rfl (Nat.le_of_ble_eq_true rfl) rfl rfl ?_
          refine e_goto 24 2 rfl rfl ?_
          exact k2
      · have ez : fstIs f9 1 i (m + 1) = fstIs f9 1 (i + 1) m := by
          simp only [fstIs]
          rw [hf9, decF (fun q => hp q.1), if_neg (by decide)]
        rw [ez]
        refine e_iload_n 2 3 rfl rfl rfl rfl ?_
        refine e_aload_n 3 4 rfl rfl rfl rfl ?_
        refine g_getI 4 7 14 ckX12 flX12_279 rfl rfl (Nat.le_of_ble_eq_true rfl) rfl rfl rfl e14 ?_
        refine e_icmp_ge 5 43 10 rfl rfl rfl (by unfold xr at *; omega) (by unfold xr at *; omega) (fun h9 => absurd h9 (by omega)) (fun _ => ?_)
        refine e_aload_n 6 11 rfl rfl rfl rfl ?_
        refine g_getR 7 14 ckX12 flX12_35 rfl rfl (Nat.le_of_ble_eq_true rfl) rfl rfl ?_
        refine e_iload_n 8 15 rfl rfl rfl rfl ?_
        refine g_iaload 9 16 rfl rfl (Nat.le_of_ble_eq_true rfl) rfl (by omega) (by omega) (by omega) g1 ?_
        refine e_aload_n 10 17 rfl rfl rfl rfl ?_
        refine g_getR 11 20 ckX12 flX12_26 rfl rfl (Nat.le_of_ble_eq_true rfl) rfl rfl ?_
        refine e_iload_n 12 21 rfl rfl rfl rfl ?_
        refine g_iaload 13 22 rfl rfl (Nat.le_of_ble_eq_true rfl) rfl (by omega) (by omega) (by omega) e7' ?_
        refine e_icmp_ne 14 37 25 rfl rfl rfl xp xq (fun _ => ?_) (fun h9 => absurd h9 hp)
        refine e_iinc 23 40 (ls' := [some _, some _, some _]) rfl rfl (Nat.le_of_ble_eq_true rfl) rfl rfl ?_
        refine e_goto 24 2 rfl rfl ?_
        exact k2
  have k := lp (τ 256 4).toNat 0 (by omega)
  refine e_entry okX12_lookFilter (Nat.le_of_ble_eq_true rfl) (ls := [some _, some _, none]) rfl ?_
  refine e_iconst 0 1 rfl rfl ?_
  refine e_istore_n 1 2 (ls' := [some _, some _, some _]) rfl rfl rfl (Nat.le_of_ble_eq_true rfl) rfl ?_
  exact k
theorem sp_mLooked0 {σ : xSig} : Rd MX12_looked [.ref 281, .int (ii (-1))] σ (iv (σ 281 2)) := by
  refine e_entry okX12_looked (Nat.le_of_ble_eq_true rfl) (ls := [some _, some _, none, none, none, none, none]) rfl ?_
  refine e_iload_n 0 1 rfl rfl rfl rfl ?_
  refine e_iconst 1 2 rfl rfl ?_
  refine e_icmp_ne 2 10 5 rfl rfl rfl (by unfold xr at *; omega) (by unfold xr at *; omega) (fun h9 => absurd h9 (fun q => q rfl)) (fun _ => ?_)
  refine e_aload_n 3 6 rfl rfl rfl rfl ?_
  refine g_getI 4 9 2 ckX12 flX12_227 rfl rfl (Nat.le_of_ble_eq_true rfl) rfl rfl rfl rfl ?_
  exact e_ireturn 5 rfl rfl (Nat.le_of_ble_eq_true rfl) (Nat.le_of_ble_eq_true rfl)
theorem lo_lp {x n d r : Int} {k : Nat} (hk : k < 3) {w : Fo} (hr : 0 ≤ r ∧ r < 3) : ∀ (B A : List (Int × Fo)) (s : xSig) (I : Int) (b b9 : Bool), I = A.length → SPs s (A ++ B) → I + B.length ≤ 200 → MV s 282 11300 (100 * (110 + k) + 1) w → s 291 k = r → b9 = (b || (B.map Prod.snd).any (fitF r (tk w))) → ∃ s', FP m11 s s' ∧ ∀ (o : xO) (Y : xS), x_E MX12_looked 0 0 98 [some (.ref 281), some (.int (ii x)), some (.int (ii k)), some (.int (ii n)), some (.int (ii d)), some (.int (ii (bi b9))), some (.int (ii (I + B.length)))] [] (St s') 0 0 o Y → x_E MX12_looked 0 0 56 [some (.ref 281), some (.int (ii x)), some (.int (ii k)), some (.int (ii n)), some (.int (ii d)), some (.int (ii (bi b))), some (.int (ii I))] [] (St s) 0 0 o Y := by
  intro B
  induction B with
  | nil =>
    intro A s I b b9 hI hS hl hw h291 h9
    have e41 : s 281 41 = I := by rw [hS.1, hI]; simp
    have e9 : b9 = b := by rw [h9]; simp
    refine ⟨s, FP.rf, fun o Y kk => ?_⟩
    rw [e9, show I + (([] : List (Int × Fo)).length : Int) = I from Int.add_zero I] at kk
    have hI2 : 0 ≤ I ∧ I ≤ 200 := by simp at hl; omega
    refine e_iload 33 58 rfl rfl rfl ?_
    refine e_aload_n 34 59 rfl rfl rfl rfl ?_
    refine g_getI 35 62 41 ckX12 flX12_152 rfl rfl (Nat.le_of_ble_eq_true rfl) rfl rfl rfl e41 ?_
    refine e_icmp_ge 36 98 65 rfl rfl rfl (by unfold xr at *; omega) (by unfold xr at *; omega) (fun _ => ?_) (fun h9 => absurd h9 (by omega))
    exact kk
  | cons q B ih =>
    intro A s I b b9 hI hS hl hw h291 h9
    have hlen : ((q :: B).length : Int) = B.length + 1 := by simp
    have e41 : s 281 41 = I + B.length + 1 := by rw [hS.1, hI]; simp; omega
    have eq : s 306 I = q.1 := by rw [hI]; exact spot_at hS
    have hI2 : 0 ≤ I ∧ I < 200 := by omega
    have hqv : MV s 282 11300 q.1 q.2 := hS.2.2 q (by simp)
    have h9' : b9 = ((b || fitF r (tk w) q.2) || (B.map Prod.snd).any (fitF r (tk w))) := by rw [h9, List.map_cons, List.any_cons, Bool.or_assoc]
    have fin : ∀ (s1 : xSig) (z : Bool), FP m11 s s1 → z = (b || fitF r (tk w) q.2) → ∃ s', FP m11 s s' ∧ ∀ (o : xO) (Y : xS), x_E MX12_looked 0 0 98 [some (.ref 281), some (.int (ii x)), some (.int (ii k)), some (.int (ii n)), some (.int (ii d)), some (.int (ii (bi b9))), some (.int (ii (I + (q :: B).length)))] [] (St s') 0 0 o Y → x_E MX12_looked 0 0 90 [some (.ref 281), some (.int (ii x)), some (.int (ii k)), some (.int (ii n)), some (.int (ii d)), some (.int (ii (bi b))), some (.int (ii I))] [.int (ii (bi z))] (St s1) 0 0 o Y := by
      intro s1 z g hz
      obtain ⟨s', k1, k2⟩ := ih (A ++ [q]) s1 (I + 1) z b9 (by simp; omega) (by rw [List.append_assoc]; exact hS.fp g) (by omega) (hw.fp g) (by rw [g.cell 291 rfl]; exact h291) (by rw [hz]; exact h9')
      refine ⟨s', g.tr k1, fun o Y kk => ?_⟩
      have kk2 := k2 o Y (by rw [show I + 1 + (B.length : Int) = I + ((q :: B).length : Int) by omega]; exact kk)
      refine e_istore 50 92 (ls' := [some _, some _, some _, some _, some _, some _, some _]) rfl rfl (Nat.le_of_ble_eq_true rfl) rfl ?_
      refine e_iinc 51 95 (ls' := [some _, some _, some _, some _, some _, some _, some _]) rfl rfl (Nat.le_of_ble_eq_true rfl) rfl rfl ?_
      refine e_goto 52 56 rfl rfl ?_
      exact kk2
    cases b with
    | true =>
      obtain ⟨s', k1, k2⟩ := fin s true FP.rf rfl
      refine ⟨s', k1, fun o Y kk => ?_⟩
      have kk2 := k2 o Y kk
      refine e_iload 33 58 rfl rfl rfl ?_
      refine e_aload_n 34 59 rfl rfl rfl rfl ?_
      refine g_getI 35 62 41 ckX12 flX12_152 rfl rfl (Nat.le_of_ble_eq_true rfl) rfl rfl rfl e41 ?_
      refine e_icmp_ge 36 98 65 rfl rfl rfl (by unfold xr at *; omega) (by unfold xr at *; omega) (fun h9 => absurd h9 (by omega)) (fun _ => ?_)
      refine e_iload 37 67 rfl rfl rfl ?_
      refine e_ifb_ne 38 85 70 rfl rfl rfl (fun h => ?_) (fun h => ?_)
      · skip
        refine e_iconst 47 86 rfl rfl ?_
        refine e_goto 48 90 rfl rfl ?_
        exact kk2
      · skip
        cases h
    | false =>
      obtain ⟨s1, c1, f1⟩ := sp_mFitsAt hk hqv hw h291 hr
      obtain ⟨s', k1, k2⟩ := fin s1 (fitF r (tk w) q.2) f1 rfl
      refine ⟨s', k1, fun o Y kk => ?_⟩
      have kk2 := k2 o Y kk
      generalize fitF r (tk w) q.2 = z at *
      refine e_iload 33 58 rfl rfl rfl ?_
      refine e_aload_n 34 59 rfl rfl rfl rfl ?_
      refine g_getI 35 62 41 ckX12 flX12_152 rfl rfl (Nat.le_of_ble_eq_true rfl) rfl rfl rfl e41 ?_
      refine e_icmp_ge 36 98 65 rfl rfl rfl (by unfold xr at *; omega) (by unfold xr at *; omega) (fun h9 => absurd h9 (by omega)) (fun _ => ?_)
      refine e_iload 37 67 rfl rfl rfl ?_
      refine e_ifb_ne 38 85 70 rfl rfl rfl (fun h => ?_) (fun h => ?_)
      · skip
        cases h
      · skip
        refine e_aload_n 39 71 rfl rfl rfl rfl ?_
        refine e_aload_n 40 72 rfl rfl rfl rfl ?_
        refine g_getR 41 75 ckX12 flX12_94 rfl rfl (Nat.le_of_ble_eq_true rfl) rfl rfl ?_
        refine e_iload 42 77 rfl rfl rfl ?_
        refine g_iaload 43 78 rfl rfl (Nat.le_of_ble_eq_true rfl) rfl (by omega) (by omega) (by omega) eq ?_
        refine e_iload_n 44 79 rfl rfl rfl rfl ?_
        refine g_callV 45 82 (c1) okX12_fitsAt cvX12_288 ⟨(Nat.le_of_ble_eq_true rfl), (Nat.le_of_ble_eq_true rfl)⟩ rfl rfl (Nat.le_of_ble_eq_true rfl) rfl rfl rfl rfl rfl (Nat.le_of_ble_eq_true rfl) (Nat.le_of_ble_eq_true rfl) (Nat.le_of_ble_eq_true rfl) ?_
        refine e_ifb_eq 46 89 85 rfl rfl rfl (fun h2 => ?_) (fun h2 => ?_)
        · skip
          rw [h2] at kk2
          refine e_iconst 49 90 rfl rfl ?_
          exact kk2
        · skip
          rw [h2] at kk2
          refine e_iconst 47 86 rfl rfl ?_
          refine e_goto 48 90 rfl rfl ?_
          exact kk2
theorem knd0 {v : Fo} (h : ok1 v) : knd (tok (tk v) 0) = 0 ↔ tok (tk v) 0 = 9 := by
  rcases h with ⟨x, rfl, hx⟩ | ⟨c, rfl, hc⟩ | ⟨c, rfl, hc⟩
  · have := lfx_k hx
    have e : tok (tk (.mulR (.num 0) x)) 0 = x := rfl
    rw [e]
    omega
  · have e : tok (tk (.add c (.num 0))) 0 = 5000 := rfl
    rw [e]
    exact ⟨fun q => absurd q (by decide), fun q => absurd q (by decide)⟩
  · have e : tok (tk (.sub c (.num 0))) 0 = 4000 := rfl
    rw [e]
    exact ⟨fun q => absurd q (by decide), fun q => absurd q (by decide)⟩
theorem ffi_at {τ : xSig} (h4 : 0 ≤ τ 256 4 ∧ τ 256 4 ≤ 3) {x : Int} (hh : ihas τ x = true) (hf : ffi τ x ≠ -1) : 0 ≤ ffi τ x ∧ ffi τ x < τ 256 4 ∧ τ (qf (ffi τ x)) 1 = pxs τ x ∧ τ (qf (ffi τ x)) 2 < 3 := by
  unfold ffi at hf ⊢
  rw [if_pos hh] at hf ⊢
  rcases fstIs_bnd (f := fun i : Int => bi (decide (τ (qf i) 1 = pxs τ x ∧ τ (qf i) 2 < 3))) (x := 1) (τ 256 4).toNat 0 with q | ⟨q1, q2, q3⟩
  · exact absurd q.1 hf
  · have q4 : τ (qf (fstIs (fun i : Int => bi (decide (τ (qf i) 1 = pxs τ x ∧ τ (qf i) 2 < 3))) 1 0 (τ 256 4).toNat)) 1 = pxs τ x ∧ τ (qf (fstIs (fun i : Int => bi (decide (τ (qf i) 1 = pxs τ x ∧ τ (qf i) 2 < 3))) 1 0 (τ 256 4).toNat)) 2 < 3 := by
      by_cases w : τ (qf (fstIs (fun i : Int => bi (decide (τ (qf i) 1 = pxs τ x ∧ τ (qf i) 2 < 3))) 1 0 (τ 256 4).toNat)) 1 = pxs τ x ∧ τ (qf (fstIs (fun i : Int => bi (decide (τ (qf i) 1 = pxs τ x ∧ τ (qf i) 2 < 3))) 1 0 (τ 256 4).toNat)) 2 < 3
      · exact w
      · rw [decF w] at q3
        exact absurd q3 (by decide)
    exact ⟨by omega, by omega, q4⟩
theorem sp_mLooked {τ σ : xSig} {T : Nat → List Int} {G : Nat → Fo} (hX : IXR τ) (hI : FIM τ T G σ) (hD : DOCM τ T G σ) {x : Int} (hh : ihas τ x = true) (hff : ffi τ x ≠ -1) (e7 : σ 287 x = τ 249 x ∧ σ 289 x = τ 250 x) : ∃ σ', x_Sp MX12_looked 0 0 [.ref 281, .int (ii x)] (St σ) (iv (lk τ T x)) (St σ') ∧ FP lk9 σ σ' := by
  have hx := ihas_in hh
  have hpx := pxs_has hX hh
  have epx : pxs τ x = τ 249 x := by unfold pxs; rw [if_pos ⟨hx.1, hx.2.1⟩]
  rw [epx] at hpx
  have h250 := hX.2.1 x
  have pl := sp_mLookFilter hX hI hh e7.1
  obtain ⟨a1, a2, a3, a4⟩ := ffi_at hI.1 hh hff
  unfold lk
  generalize ffi τ x = kf at *
  obtain ⟨k, rfl⟩ := Int.eq_ofNat_of_zero_le a1
  have h43 := hI.1
  have hk3 : k < 3 := by omega
  obtain ⟨⟨g1, g2, g3⟩, g4, g5, g6, g7⟩ := hI.2.2 k hk3 a2
  rw [g4]
  obtain ⟨r, hr⟩ : ∃ r, r = τ (qf k) 2 := ⟨_, rfl⟩
  rw [← hr] at g2 g6 a4 ⊢
  obtain ⟨w, hw⟩ : ∃ w, w = G (265 + 3 * k) := ⟨_, rfl⟩
  rw [← hw] at g3 ⊢
  obtain ⟨w1, -, -, w4⟩ := mv_fld g3
  have hwk := knd0 g3.2.1
  have bw := knd_bnd (tok (tk w) 0)
  obtain ⟨P, hP⟩ : ∃ P : Int, P = 100 * (110 + (k : Int)) + 1 := ⟨_, rfl⟩
  have pf := fun s => sp_mFilterAt (σ := s) (x := k)
  rw [← hP] at pf w1 w4
  unfold lkd
  generalize hfe : (fun n : Nat => if hasd τ n = true ∧ lk1 τ r (tk w) (T (31 + 2 * n)) x = true then (1 : Int) else 0) = f9
  have hf9 : ∀ n : Nat, f9 n = if hasd τ n = true ∧ lk1 τ r (tk w) (T (31 + 2 * n)) x = true then (1 : Int) else 0 := fun n => by rw [← hfe]
  have hx1 : xr x := by unfold xr; omega
  have lp : ∀ (m i : Nat) (acc : Int) (s : xSig), i + m = 100 → FP lk9 σ s → ∃ σ', x_E MX12_looked 0 0 21 [some (.ref 281), some (.int (ii x)), some (.int (ii k)), some (.int (ii acc)), some (.int (ii i)), none, none] [] (St s) 0 0 (iv (acc + smN f9 i m)) (St σ') ∧ FP lk9 s σ' := by
    intro m
    induction m with
    | zero =>
      intro i acc s hi hF
      refine ⟨s, ?_, FP.rf⟩
      rw [show acc + smN f9 i 0 = acc from Int.add_zero acc]
      refine e_iload 14 23 rfl rfl rfl ?_
      refine e_bipush 15 25 rfl rfl rfl ?_
      refine e_icmp_ge 16 167 28 rfl rfl rfl (by unfold xr at *; omega) (by unfold xr at *; omega) (fun _ => ?_) (fun h9 => absurd h9 (by omega))
      refine e_iload_n 89 168 rfl rfl rfl rfl ?_
      exact e_ireturn 90 rfl rfl (Nat.le_of_ble_eq_true rfl) (Nat.le_of_ble_eq_true rfl)
    | succ m ih =>
      intro i acc s hi hF
      have hD1 := hD.fp hF rfl
      have hI1 := hI.fp hF rfl
      have e3 := hD1.2 i (by omega)
      have e287 : s 287 x = τ 249 x := by rw [hF.cell 287 rfl]; exact e7.1
      -- behind a document
      have tail : ∀ (s1 : xSig) (z : Bool), FP lk9 s s1 → f9 i = (if z = true then 1 else 0) → ∃ σ', x_E MX12_looked 0 0 148 [some (.ref 281), some (.int (ii x)), some (.int (ii k)), some (.int (ii acc)), some (.int (ii i)), some (.int (ii (bi z))), none] [] (St s1) 0 0 (iv (acc + smN f9 i (m + 1))) (St σ') ∧ FP lk9 s σ' := by
        intro s1 z g hz
        obtain ⟨σ', k1, k2⟩ := ih (i + 1) (acc + f9 i) s1 (by omega) (hF.tr g)
        rw [show acc + f9 i + smN f9 (i + 1) m = acc + smN f9 i (m + 1) by rw [smN]; omega, hz] at k1
        refine ⟨σ', ?_, g.tr k2⟩
        cases z with
        | true =>
          rw [if_pos rfl] at k1
          refine e_iload_n 79 149 rfl rfl rfl rfl ?_
          refine e_iload 80 151 rfl rfl rfl ?_
          refine e_ifb_eq 81 158 154 rfl rfl rfl (fun h => ?_) (fun h => ?_)
          · skip
            cases h
          · skip
            refine e_iconst 82 155 rfl rfl ?_
            refine e_goto 83 159 rfl rfl ?_
            refine e_iadd 85 160 rfl rfl ?_
            refine e_istore_n 86 161 (ls' := [some _, some _, some _, some _, some _, some _, none]) rfl rfl rfl (Nat.le_of_ble_eq_true rfl) rfl ?_
            refine e_dropm [true, true, true, true, true, false, false] (ls' := [some _, some _, some _, some _, some _, none, none]) rfl ?_
            refine e_iinc 87 164 (ls' := [some _, some _, some _, some _, some _, none, none]) rfl rfl (Nat.le_of_ble_eq_true rfl) rfl rfl ?_
            refine e_goto 88 21 rfl rfl ?_
            exact k1
        | false =>
          rw [if_neg (by decide)] at k1
          refine e_iload_n 79 149 rfl rfl rfl rfl ?_
          refine e_iload 80 151 rfl rfl rfl ?_
          refine e_ifb_eq 81 158 154 rfl rfl rfl (fun h => ?_) (fun h => ?_)
          · skip
            refine e_iconst 84 159 rfl rfl ?_
            refine e_iadd 85 160 rfl rfl ?_
            refine e_istore_n 86 161 (ls' := [some _, some _, some _, some _, some _, some _, none]) rfl rfl rfl (Nat.le_of_ble_eq_true rfl) rfl ?_
            refine e_dropm [true, true, true, true, true, false, false] (ls' := [some _, some _, some _, some _, some _, none, none]) rfl ?_
            refine e_iinc 87 164 (ls' := [some _, some _, some _, some _, some _, none, none]) rfl rfl (Nat.le_of_ble_eq_true rfl) rfl rfl ?_
            refine e_goto 88 21 rfl rfl ?_
            exact k1
          · skip
            cases h
      cases hd : hasd τ i with
      | false =>
        obtain ⟨σ', k1, k2⟩ := tail s false FP.rf (by rw [hf9, hd]; simp)
        rw [hd] at e3
        refine ⟨σ', ?_, k2⟩
        refine e_iload 14 23 rfl rfl rfl ?_
        refine e_bipush 15 25 rfl rfl rfl ?_
        refine e_icmp_ge 16 167 28 rfl rfl rfl (by unfold xr at *; omega) (by unfold xr at *; omega) (fun h9 => absurd h9 (by omega)) (fun _ => ?_)
        refine e_iconst 17 29 rfl rfl ?_
        refine e_istore 18 31 (ls' := [some _, some _, some _, some _, some _, some _, none]) rfl rfl (Nat.le_of_ble_eq_true rfl) rfl ?_
        refine e_aload_n 19 32 rfl rfl rfl rfl ?_
        refine g_getR 20 35 ckX12 flX12_13 rfl rfl (Nat.le_of_ble_eq_true rfl) rfl rfl ?_
        refine e_iload 21 37 rfl rfl rfl ?_
        refine g_baload 22 38 rfl rfl (Nat.le_of_ble_eq_true rfl) rfl (by omega) (by omega) (by omega) e3 ?_
        refine e_ifb_eq 23 148 41 rfl rfl rfl (fun h => ?_) (fun h => ?_)
        · skip
          exact k1
        · skip
          cases h
      | true =>
        rw [hd] at e3
        obtain ⟨F, d1, d2, d3⟩ := hD1.1 i (by omega) hd
        obtain ⟨s1, L, c1, c2, c3, c4⟩ := sp_mLooks d3 hpx
        have hal := als_len d2 (τ 249 x)
        have hLl : (L.length : Int) = (als F (τ 249 x)).length := by rw [← c3, List.length_map]
        have hany : (atp (T (31 + 2 * i)) (τ 249 x)).any (ffit r (tk w) (T (31 + 2 * i))) = (als F (τ 249 x)).any (fitF r (tk w)) := d2.any hpx r (tk w)
        have hatl : ((atp (T (31 + 2 * i)) (τ 249 x)).length : Int) = L.length := by
          rw [d2.1, atp_eq d2.2.1 hpx, hLl]
          unfold als
          rw [List.length_map, List.length_map]
        obtain ⟨b9, hb9⟩ : ∃ b9, b9 = (false || (L.map Prod.snd).any (fitF r (tk w))) := ⟨_, rfl⟩
        obtain ⟨s2, f2, k2⟩ := lo_lp (x := x) (n := acc) (d := i) hk3 ⟨g6.1, a4⟩ L [] s1 0 false b9 rfl c2 (by omega) ((g3.lk hF).lk c4) (by rw [c4.cell 291 rfl, hF.cell 291 rfl]; exact g2) hb9
        rw [Bool.false_or, c3] at hb9
        have e41 : s2 281 41 = L.length := by rw [f2 281 41 rfl]; exact c2.1
        have hF2 : FP lk9 s s2 := c4.tr (f2.mono rfl)
        have hF3 : FP lk9 σ s2 := hF.tr hF2
        have e289 : s2 289 x = τ 250 x := by rw [hF3.cell 289 rfl]; exact e7.2
        have e291 : s2 291 k = r := by rw [hF3.cell 291 rfl]; exact g2
        have eall : s2 282 P = knd (tok (tk w) 0) := by rw [hF3.cell 282 rfl]; exact w1
        have elk : lk1 τ r (tk w) (T (31 + 2 * i)) x = if 0 < (L.length : Int) then b9 else hasn τ x && decide (r = 0 ∧ tok (tk w) 0 = 9) := by
          unfold lk1
          rw [epx, hany, ← hb9]
          by_cases q : 0 < (L.length : Int)
          · rw [if_pos q, if_pos (by omega)]
          · rw [if_neg q, if_neg (by omega)]
        have go : ∀ {o : xO} {Y : xS}, x_E MX12_looked 0 0 98 [some (.ref 281), some (.int (ii x)), some (.int (ii k)), some (.int (ii acc)), some (.int (ii i)), some (.int (ii (bi b9))), some (.int (ii (0 + L.length)))] [] (St s2) 0 0 o Y → x_E MX12_looked 0 0 21 [some (.ref 281), some (.int (ii x)), some (.int (ii k)), some (.int (ii acc)), some (.int (ii i)), none, none] [] (St s) 0 0 o Y := by
          intro o Y kk
          have kk2 := k2 _ _ kk
          refine e_iload 14 23 rfl rfl rfl ?_
          refine e_bipush 15 25 rfl rfl rfl ?_
          refine e_icmp_ge 16 167 28 rfl rfl rfl (by unfold xr at *; omega) (by unfold xr at *; omega) (fun h9 => absurd h9 (by omega)) (fun _ => ?_)
          refine e_iconst 17 29 rfl rfl ?_
          refine e_istore 18 31 (ls' := [some _, some _, some _, some _, some _, some _, none]) rfl rfl (Nat.le_of_ble_eq_true rfl) rfl ?_
          refine e_aload_n 19 32 rfl rfl rfl rfl ?_
          refine g_getR 20 35 ckX12 flX12_13 rfl rfl (Nat.le_of_ble_eq_true rfl) rfl rfl ?_
          refine e_iload 21 37 rfl rfl rfl ?_
          refine g_baload 22 38 rfl rfl (Nat.le_of_ble_eq_true rfl) rfl (by omega) (by omega) (by omega) e3 ?_
          refine e_ifb_eq 23 148 41 rfl rfl rfl (fun h => ?_) (fun h => ?_)
          · skip
            cases h
          · skip
            refine e_aload_n 24 42 rfl rfl rfl rfl ?_
            refine e_iload 25 44 rfl rfl rfl ?_
            refine e_aload_n 26 45 rfl rfl rfl rfl ?_
            refine g_getR 27 48 ckX12 flX12_26 rfl rfl (Nat.le_of_ble_eq_true rfl) rfl rfl ?_
            refine e_iload_n 28 49 rfl rfl rfl rfl ?_
            refine g_iaload 29 50 rfl rfl (Nat.le_of_ble_eq_true rfl) rfl (by omega) (by omega) (by omega) e287 ?_
            refine g_callV 30 53 (c1) okX12_looks cvX12_285 ⟨(Nat.le_of_ble_eq_true rfl), (Nat.le_of_ble_eq_true rfl)⟩ rfl rfl (Nat.le_of_ble_eq_true rfl) rfl rfl rfl rfl rfl (Nat.le_of_ble_eq_true rfl) (Nat.le_of_ble_eq_true rfl) (Nat.le_of_ble_eq_true rfl) ?_
            refine e_iconst 31 54 rfl rfl ?_
            refine e_istore 32 56 (ls' := [some _, some _, some _, some _, some _, some _, some _]) rfl rfl (Nat.le_of_ble_eq_true rfl) rfl ?_
            exact kk2
        have fin : ∀ (z : Bool), f9 i = (if z = true then 1 else 0) → ∃ σ', x_E MX12_looked 0 0 146 [some (.ref 281), some (.int (ii x)), some (.int (ii k)), some (.int (ii acc)), some (.int (ii i)), some (.int (ii (bi b9))), some (.int (ii (0 + L.length)))] [.int (ii (bi z))] (St s2) 0 0 (iv (acc + smN f9 i (m + 1))) (St σ') ∧ FP lk9 s σ' := by
          intro z hz
          obtain ⟨σ', k1, k3⟩ := tail s2 z hF2 hz
          refine ⟨σ', ?_, k3⟩
          refine e_istore 78 148 (ls' := [some _, some _, some _, some _, some _, some _, some _]) rfl rfl (Nat.le_of_ble_eq_true rfl) rfl ?_
          refine e_dropm [true, true, true, true, true, true, false] (ls' := [some _, some _, some _, some _, some _, some _, none]) rfl ?_
          exact k1
        cases hbb : b9 with
        | true =>
          have hL : 0 < (L.length : Int) := by
            by_cases q : 0 < (L.length : Int)
            · exact q
            · exfalso
              rw [hbb, List.eq_nil_of_length_eq_zero (l := als F (τ 249 x)) (by omega)] at hb9
              cases hb9
          obtain ⟨σ', k1, k3⟩ := fin true (by rw [hf9, elk, if_pos hL, hbb, if_pos ⟨hd, rfl⟩]; rfl)
          refine ⟨σ', go ?_, k3⟩
          rw [hbb] at k1 ⊢
          refine e_iload 53 100 rfl rfl rfl ?_
          refine e_ifb_ne 54 141 103 rfl rfl rfl (fun h => ?_) (fun h => ?_)
          · skip
            refine e_iconst 75 142 rfl rfl ?_
            refine e_goto 76 146 rfl rfl ?_
            exact k1
          · skip
            cases h
        | false =>
          have no : lk1 τ r (tk w) (T (31 + 2 * i)) x = false → ∃ σ', x_E MX12_looked 0 0 145 [some (.ref 281), some (.int (ii x)), some (.int (ii k)), some (.int (ii acc)), some (.int (ii i)), some (.int (ii (bi false))), some (.int (ii (0 + L.length)))] [] (St s2) 0 0 (iv (acc + smN f9 i (m + 1))) (St σ') ∧ FP lk9 s σ' := by
            intro hn
            obtain ⟨σ', k1, k3⟩ := fin false (by rw [hf9, hn]; simp)
            refine ⟨σ', ?_, k3⟩
            rw [hbb] at k1
            refine e_iconst 77 146 rfl rfl ?_
            exact k1
          rw [hbb] at elk
          by_cases hL : 0 < (L.length : Int)
          · rw [if_pos hL] at elk
            obtain ⟨σ', k1, k3⟩ := no elk
            refine ⟨σ', go ?_, k3⟩
            rw [hbb]
            refine e_iload 53 100 rfl rfl rfl ?_
            refine e_ifb_ne 54 141 103 rfl rfl rfl (fun h => ?_) (fun h => ?_)
            · skip
              cases h
            · skip
              refine e_aload_n 55 104 rfl rfl rfl rfl ?_
              refine g_getI 56 107 41 ckX12 flX12_152 rfl rfl (Nat.le_of_ble_eq_true rfl) rfl rfl rfl e41 ?_
              refine e_if_ne 57 145 110 rfl rfl rfl (by unfold xr at *; omega) (fun _ => ?_) (fun h9 => absurd h9 (by omega))
              exact k1
          · rw [if_neg hL] at elk
            by_cases hs0 : τ 250 x = 0
            · rw [show hasn τ x = true from decT ⟨hx.1, hx.2.1, hs0⟩, Bool.true_and] at elk
              by_cases hr0 : r = 0
              · by_cases h9 : tok (tk w) 0 = 9
                · rw [decT ⟨hr0, h9⟩] at elk
                  obtain ⟨σ', k1, k3⟩ := fin true (by rw [hf9, if_pos ⟨hd, elk⟩]; rfl)
                  refine ⟨σ', go ?_, k3⟩
                  rw [hbb] at k1 ⊢
                  refine e_iload 53 100 rfl rfl rfl ?_
                  refine e_ifb_ne 54 141 103 rfl rfl rfl (fun h => ?_) (fun h => ?_)
                  · skip
                    cases h
                  · skip
                    refine e_aload_n 55 104 rfl rfl rfl rfl ?_
                    refine g_getI 56 107 41 ckX12 flX12_152 rfl rfl (Nat.le_of_ble_eq_true rfl) rfl rfl rfl e41 ?_
                    refine e_if_ne 57 145 110 rfl rfl rfl (by unfold xr at *; omega) (fun h9 => absurd h9 (by omega)) (fun _ => ?_)
                    refine e_aload_n 58 111 rfl rfl rfl rfl ?_
                    refine g_getR 59 114 ckX12 flX12_32 rfl rfl (Nat.le_of_ble_eq_true rfl) rfl rfl ?_
                    refine e_iload_n 60 115 rfl rfl rfl rfl ?_
                    refine g_baload 61 116 rfl rfl (Nat.le_of_ble_eq_true rfl) rfl (by omega) (by omega) (by omega) (e289.trans hs0) ?_
                    refine e_if_ne 62 145 119 rfl rfl rfl (by unfold xr at *; omega) (fun h9 => absurd h9 (by omega)) (fun _ => ?_)
                    refine e_aload_n 63 120 rfl rfl rfl rfl ?_
                    refine g_getR 64 123 ckX12 flX12_38 rfl rfl (Nat.le_of_ble_eq_true rfl) rfl rfl ?_
                    refine e_iload_n 65 124 rfl rfl rfl rfl ?_
                    refine g_iaload 66 125 rfl rfl (Nat.le_of_ble_eq_true rfl) rfl (by omega) (by omega) (by omega) (e291.trans hr0) ?_
                    refine e_if_ne 67 145 128 rfl rfl rfl (by unfold xr at *; omega) (fun h9 => absurd h9 (by omega)) (fun _ => ?_)
                    refine e_aload_n 68 129 rfl rfl rfl rfl ?_
                    refine g_getR 69 132 ckX12 flX12_7 rfl rfl (Nat.le_of_ble_eq_true rfl) rfl rfl ?_
                    refine e_aload_n 70 133 rfl rfl rfl rfl ?_
                    refine e_iload_n 71 134 rfl rfl rfl rfl ?_
                    refine g_callV 72 137 (pf s2) okX12_filterAt cvX12_282 ⟨(Nat.le_of_ble_eq_true rfl), (Nat.le_of_ble_eq_true rfl)⟩ rfl rfl (Nat.le_of_ble_eq_true rfl) rfl rfl rfl rfl rfl (Nat.le_of_ble_eq_true rfl) (Nat.le_of_ble_eq_true rfl) (Nat.le_of_ble_eq_true rfl) ?_
                    refine g_iaload 73 138 rfl rfl (Nat.le_of_ble_eq_true rfl) rfl (by omega) (by omega) (by omega) (eall.trans (hwk.mpr h9)) ?_
                    refine e_if_ne 74 145 141 rfl rfl rfl (by unfold xr at *; omega) (fun h9 => absurd h9 (by omega)) (fun _ => ?_)
                    refine e_iconst 75 142 rfl rfl ?_
                    refine e_goto 76 146 rfl rfl ?_
                    exact k1
                · rw [decF (fun q => h9 q.2)] at elk
                  obtain ⟨σ', k1, k3⟩ := no elk
                  have hw9 : knd (tok (tk w) 0) ≠ 0 := fun q => h9 (hwk.mp q)
                  refine ⟨σ', go ?_, k3⟩
                  rw [hbb]
                  refine e_iload 53 100 rfl rfl rfl ?_
                  refine e_ifb_ne 54 141 103 rfl rfl rfl (fun h => ?_) (fun h => ?_)
                  · skip
                    cases h
                  · skip
                    refine e_aload_n 55 104 rfl rfl rfl rfl ?_
                    refine g_getI 56 107 41 ckX12 flX12_152 rfl rfl (Nat.le_of_ble_eq_true rfl) rfl rfl rfl e41 ?_
                    refine e_if_ne 57 145 110 rfl rfl rfl (by unfold xr at *; omega) (fun h9 => absurd h9 (by omega)) (fun _ => ?_)
                    refine e_aload_n 58 111 rfl rfl rfl rfl ?_
                    refine g_getR 59 114 ckX12 flX12_32 rfl rfl (Nat.le_of_ble_eq_true rfl) rfl rfl ?_
                    refine e_iload_n 60 115 rfl rfl rfl rfl ?_
                    refine g_baload 61 116 rfl rfl (Nat.le_of_ble_eq_true rfl) rfl (by omega) (by omega) (by omega) (e289.trans hs0) ?_
                    refine e_if_ne 62 145 119 rfl rfl rfl (by unfold xr at *; omega) (fun h9 => absurd h9 (by omega)) (fun _ => ?_)
                    refine e_aload_n 63 120 rfl rfl rfl rfl ?_
                    refine g_getR 64 123 ckX12 flX12_38 rfl rfl (Nat.le_of_ble_eq_true rfl) rfl rfl ?_
                    refine e_iload_n 65 124 rfl rfl rfl rfl ?_
                    refine g_iaload 66 125 rfl rfl (Nat.le_of_ble_eq_true rfl) rfl (by omega) (by omega) (by omega) (e291.trans hr0) ?_
                    refine e_if_ne 67 145 128 rfl rfl rfl (by unfold xr at *; omega) (fun h9 => absurd h9 (by omega)) (fun _ => ?_)
                    refine e_aload_n 68 129 rfl rfl rfl rfl ?_
                    refine g_getR 69 132 ckX12 flX12_7 rfl rfl (Nat.le_of_ble_eq_true rfl) rfl rfl ?_
                    refine e_aload_n 70 133 rfl rfl rfl rfl ?_
                    refine e_iload_n 71 134 rfl rfl rfl rfl ?_
                    refine g_callV 72 137 (pf s2) okX12_filterAt cvX12_282 ⟨(Nat.le_of_ble_eq_true rfl), (Nat.le_of_ble_eq_true rfl)⟩ rfl rfl (Nat.le_of_ble_eq_true rfl) rfl rfl rfl rfl rfl (Nat.le_of_ble_eq_true rfl) (Nat.le_of_ble_eq_true rfl) (Nat.le_of_ble_eq_true rfl) ?_
                    refine g_iaload 73 138 rfl rfl (Nat.le_of_ble_eq_true rfl) rfl (by omega) (by omega) (by omega) eall ?_
                    refine e_if_ne 74 145 141 rfl rfl rfl (by unfold xr at *; omega) (fun _ => ?_) (fun h9 => absurd h9 (by omega))
                    exact k1
              · rw [decF (fun q => hr0 q.1)] at elk
                obtain ⟨σ', k1, k3⟩ := no elk
                refine ⟨σ', go ?_, k3⟩
                rw [hbb]
                refine e_iload 53 100 rfl rfl rfl ?_
                refine e_ifb_ne 54 141 103 rfl rfl rfl (fun h => ?_) (fun h => ?_)
                · skip
                  cases h
                · skip
                  refine e_aload_n 55 104 rfl rfl rfl rfl ?_
                  refine g_getI 56 107 41 ckX12 flX12_152 rfl rfl (Nat.le_of_ble_eq_true rfl) rfl rfl rfl e41 ?_
                  refine e_if_ne 57 145 110 rfl rfl rfl (by unfold xr at *; omega) (fun h9 => absurd h9 (by omega)) (fun _ => ?_)
                  refine e_aload_n 58 111 rfl rfl rfl rfl ?_
                  refine g_getR 59 114 ckX12 flX12_32 rfl rfl (Nat.le_of_ble_eq_true rfl) rfl rfl ?_
                  refine e_iload_n 60 115 rfl rfl rfl rfl ?_
                  refine g_baload 61 116 rfl rfl (Nat.le_of_ble_eq_true rfl) rfl (by omega) (by omega) (by omega) (e289.trans hs0) ?_
                  refine e_if_ne 62 145 119 rfl rfl rfl (by unfold xr at *; omega) (fun h9 => absurd h9 (by omega)) (fun _ => ?_)
                  refine e_aload_n 63 120 rfl rfl rfl rfl ?_
                  refine g_getR 64 123 ckX12 flX12_38 rfl rfl (Nat.le_of_ble_eq_true rfl) rfl rfl ?_
                  refine e_iload_n 65 124 rfl rfl rfl rfl ?_
                  refine g_iaload 66 125 rfl rfl (Nat.le_of_ble_eq_true rfl) rfl (by omega) (by omega) (by omega) e291 ?_
                  refine e_if_ne 67 145 128 rfl rfl rfl (by unfold xr at *; omega) (fun _ => ?_) (fun h9 => absurd h9 (by omega))
                  exact k1
            · rw [show hasn τ x = false from decF (fun q => hs0 q.2.2), Bool.false_and] at elk
              obtain ⟨σ', k1, k3⟩ := no elk
              refine ⟨σ', go ?_, k3⟩
              rw [hbb]
              refine e_iload 53 100 rfl rfl rfl ?_
              refine e_ifb_ne 54 141 103 rfl rfl rfl (fun h => ?_) (fun h => ?_)
              · skip
                cases h
              · skip
                refine e_aload_n 55 104 rfl rfl rfl rfl ?_
                refine g_getI 56 107 41 ckX12 flX12_152 rfl rfl (Nat.le_of_ble_eq_true rfl) rfl rfl rfl e41 ?_
                refine e_if_ne 57 145 110 rfl rfl rfl (by unfold xr at *; omega) (fun h9 => absurd h9 (by omega)) (fun _ => ?_)
                refine e_aload_n 58 111 rfl rfl rfl rfl ?_
                refine g_getR 59 114 ckX12 flX12_32 rfl rfl (Nat.le_of_ble_eq_true rfl) rfl rfl ?_
                refine e_iload_n 60 115 rfl rfl rfl rfl ?_
                refine g_baload 61 116 rfl rfl (Nat.le_of_ble_eq_true rfl) rfl (by omega) (by omega) (by omega) e289 ?_
                refine e_if_ne 62 145 119 rfl rfl rfl (by unfold xr at *; omega) (fun _ => ?_) (fun h9 => absurd h9 (by omega))
                exact k1
  obtain ⟨σ', k1, k2⟩ := lp 100 0 0 σ (by omega) FP.rf
  refine ⟨σ', ?_, k2⟩
  rw [Int.zero_add] at k1
  refine e_entry okX12_looked (Nat.le_of_ble_eq_true rfl) (ls := [some _, some _, none, none, none, none, none]) rfl ?_
  refine e_iload_n 0 1 rfl rfl rfl rfl ?_
  refine e_iconst 1 2 rfl rfl ?_
  refine e_icmp_ne 2 10 5 rfl rfl rfl (by unfold xr at *; omega) (by unfold xr at *; omega) (fun _ => ?_) (fun h9 => absurd h9 (by omega))
  refine e_aload_n 6 11 rfl rfl rfl rfl ?_
  refine e_iload_n 7 12 rfl rfl rfl rfl ?_
  refine g_callV 8 15 (pl) okX12_lookFilter cvX12_294 ⟨(Nat.le_of_ble_eq_true rfl), (Nat.le_of_ble_eq_true rfl)⟩ rfl rfl (Nat.le_of_ble_eq_true rfl) rfl rfl rfl rfl rfl (Nat.le_of_ble_eq_true rfl) (Nat.le_of_ble_eq_true rfl) (Nat.le_of_ble_eq_true rfl) ?_
  refine e_istore_n 9 16 (ls' := [some _, some _, some _, none, none, none, none]) rfl rfl rfl (Nat.le_of_ble_eq_true rfl) rfl ?_
  refine e_iconst 10 17 rfl rfl ?_
  refine e_istore_n 11 18 (ls' := [some _, some _, some _, some _, none, none, none]) rfl rfl rfl (Nat.le_of_ble_eq_true rfl) rfl ?_
  refine e_iconst 12 19 rfl rfl ?_
  refine e_istore 13 21 (ls' := [some _, some _, some _, some _, some _, none, none]) rfl rfl (Nat.le_of_ble_eq_true rfl) rfl ?_
  exact k1
