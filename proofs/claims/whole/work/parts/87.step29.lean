/-! ===== steps: entries ===== -/
theorem cfF_nn : ∀ (L m : List Fo), 0 ≤ cfF m L := by
  intro L
  induction L with
  | nil => intro m; exact Int.le_refl 0
  | cons x r ih =>
    intro m
    have := ih (m ++ [x])
    have := bi_01 (frF m x)
    simp only [cfF]
    omega
theorem cfF_0 {L : List Fo} : cfF [] L = 0 ↔ L = [] := by
  cases L with
  | nil => exact ⟨fun _ => rfl, fun _ => rfl⟩
  | cons x r =>
    have := cfF_nn r ([] ++ [x])
    have e : cfF [] (x :: r) = 1 + cfF ([] ++ [x]) r := rfl
    refine ⟨fun q => ?_, fun q => by cases q⟩
    omega
theorem frF_snoc (m : List Fo) (y x : Fo) : frF (m ++ [y]) x = (frF m x && decide (lexc (tk y) (tk x) ≠ 0)) := by
  unfold frF
  rw [List.all_append]
  simp
theorem lexc_sym0 (a b : List Int) : lexc a b = 0 ↔ lexc b a = 0 := by
  have := lexc_anti a b
  omega
theorem spot_at {σ : xSig} {A B : List (Int × Fo)} {q : Int × Fo} (h : SPs σ (A ++ q :: B)) : σ 306 (A.length : Int) = q.1 := by
  have e := h.2.1 A.length (by simp)
  rw [Int.zero_add, List.map_append, List.map_cons] at e
  rw [e]
  have := getD_mid (A.map Prod.fst) (B.map Prod.fst) q.1
  rwa [List.length_map] at this
theorem er_in {x n d I : Int} {q : Int × Fo} {B : List (Int × Fo)} : ∀ (A2 A1 : List (Int × Fo)) (s : xSig) (J : Int) (b8 b9 : Bool), J = A1.length → I = J + A2.length → I < 200 → SPs s (A1 ++ (A2 ++ q :: B)) → b8 = frF (A1.map Prod.snd) q.2 → b9 = frF ((A1 ++ A2).map Prod.snd) q.2 → ∃ s', FP m11 s s' ∧ ∀ (o : xO) (Y : xS), x_E MX12_entriesOf 0 0 102 [some (.ref 281), some (.int (ii x)), some (.int (ii n)), some (.int (ii d)), some (.int (ii I)), some (.int (ii (bi b9))), some (.int (ii I))] [] (St s') 0 0 o Y → x_E MX12_entriesOf 0 0 48 [some (.ref 281), some (.int (ii x)), some (.int (ii n)), some (.int (ii d)), some (.int (ii I)), some (.int (ii (bi b8))), some (.int (ii J))] [] (St s) 0 0 o Y := by
  intro A2
  induction A2 with
  | nil =>
    intro A1 s J b8 b9 hJ hI hI2 hS h8 h9
    rw [List.append_nil] at h9
    have eI : I = J := by rw [hI]; simp
    have e9 : b9 = b8 := by rw [h8, h9]
    refine ⟨s, FP.rf, fun o Y kk => ?_⟩
    rw [e9, eI] at kk
    rw [eI] at hI2 ⊢
    have : 0 ≤ J := by omega
    refine e_iload 29 50 rfl rfl rfl ?_
    refine e_iload 30 52 rfl rfl rfl ?_
    refine e_icmp_ge 31 102 55 rfl rfl rfl (by unfold xr at *; omega) (by unfold xr at *; omega) (fun _ => ?_) (fun h9 => absurd h9 (by omega))
    exact kk
  | cons a A2 ih =>
    intro A1 s J b8 b9 hJ hI hI2 hS h8 h9
    have hlen : ((a :: A2).length : Int) = A2.length + 1 := by simp
    have hS2 : SPs s ((A1 ++ a :: A2) ++ q :: B) := by rw [List.append_assoc]; exact hS
    have hS3 : SPs s (A1 ++ a :: (A2 ++ q :: B)) := hS
    have ea : s 306 J = a.1 := by rw [hJ]; exact spot_at hS3
    have eq : s 306 I = q.1 := by
      rw [show I = ((A1 ++ a :: A2).length : Int) by simp; omega]
      exact spot_at hS2
    have hJ0 : 0 ≤ J ∧ J < I := by omega
    obtain ⟨s1, c1, f1⟩ := sp_mCompare (hS.2.2 q (by simp)) (hS.2.2 a (by simp))
    have hli : xr (lexc (tk q.2) (tk a.2)) := by
      have := lexc_in (tk q.2) (tk a.2)
      unfold xr; omega
    have fin : ∀ (s2 : xSig) (b : Bool), FP m11 s s2 → b = frF ((A1 ++ [a]).map Prod.snd) q.2 → ∃ s', FP m11 s s' ∧ ∀ (o : xO) (Y : xS), x_E MX12_entriesOf 0 0 102 [some (.ref 281), some (.int (ii x)), some (.int (ii n)), some (.int (ii d)), some (.int (ii I)), some (.int (ii (bi b9))), some (.int (ii I))] [] (St s') 0 0 o Y → x_E MX12_entriesOf 0 0 94 [some (.ref 281), some (.int (ii x)), some (.int (ii n)), some (.int (ii d)), some (.int (ii I)), some (.int (ii (bi b8))), some (.int (ii J))] [.int (ii (bi b))] (St s2) 0 0 o Y := by
      intro s2 b g hb
      obtain ⟨s', k1, k2⟩ := ih (A1 ++ [a]) s2 (J + 1) b b9 (by simp; omega) (by omega) hI2 (by rw [List.append_assoc]; exact hS.fp g) hb (by rw [List.append_assoc]; exact h9)
      refine ⟨s', g.tr k1, fun o Y kk => ?_⟩
      have kk2 := k2 o Y kk
      refine e_istore 52 96 (ls' := [some _, some _, some _, some _, some _, some _, some _]) rfl rfl (Nat.le_of_ble_eq_true rfl) rfl ?_
      refine e_iinc 53 99 (ls' := [some _, some _, some _, some _, some _, some _, some _]) rfl rfl (Nat.le_of_ble_eq_true rfl) rfl rfl ?_
      refine e_goto 54 48 rfl rfl ?_
      exact kk2
    have hfs : frF ((A1 ++ [a]).map Prod.snd) q.2 = (b8 && decide (lexc (tk a.2) (tk q.2) ≠ 0)) := by rw [List.map_append, h8]; exact frF_snoc _ _ _
    cases b8 with
    | false =>
      obtain ⟨s', k1, k2⟩ := fin s false FP.rf (by rw [hfs]; rfl)
      refine ⟨s', k1, fun o Y kk => ?_⟩
      have kk2 := k2 o Y kk
      refine e_iload 29 50 rfl rfl rfl ?_
      refine e_iload 30 52 rfl rfl rfl ?_
      refine e_icmp_ge 31 102 55 rfl rfl rfl (by unfold xr at *; omega) (by unfold xr at *; omega) (fun h9 => absurd h9 (by omega)) (fun _ => ?_)
      refine e_iload 32 57 rfl rfl rfl ?_
      refine e_ifb_eq 33 93 60 rfl rfl rfl (fun h => ?_) (fun h => ?_)
      · skip
        refine e_iconst 51 94 rfl rfl ?_
        exact kk2
      · skip
        cases h
    | true =>
      by_cases hz : lexc (tk q.2) (tk a.2) = 0
      · obtain ⟨s', k1, k2⟩ := fin s1 false f1 (by rw [hfs, decF (fun w => w ((lexc_sym0 _ _).mp hz))]; rfl)
        refine ⟨s', k1, fun o Y kk => ?_⟩
        have kk2 := k2 o Y kk
        refine e_iload 29 50 rfl rfl rfl ?_
        refine e_iload 30 52 rfl rfl rfl ?_
        refine e_icmp_ge 31 102 55 rfl rfl rfl (by unfold xr at *; omega) (by unfold xr at *; omega) (fun h9 => absurd h9 (by omega)) (fun _ => ?_)
        refine e_iload 32 57 rfl rfl rfl ?_
        refine e_ifb_eq 33 93 60 rfl rfl rfl (fun h => ?_) (fun h => ?_)
        · skip
          cases h
        · skip
          refine e_aload_n 34 61 rfl rfl rfl rfl ?_
          refine e_aload_n 35 62 rfl rfl rfl rfl ?_
          refine g_getR 36 65 ckX12 flX12_7 rfl rfl (Nat.le_of_ble_eq_true rfl) rfl rfl ?_
          refine e_aload_n 37 66 rfl rfl rfl rfl ?_
          refine g_getR 38 69 ckX12 flX12_94 rfl rfl (Nat.le_of_ble_eq_true rfl) rfl rfl ?_
          refine e_iload 39 71 rfl rfl rfl ?_
          refine g_iaload 40 72 rfl rfl (Nat.le_of_ble_eq_true rfl) rfl (by omega) (by omega) (by omega) eq ?_
          refine e_aload_n 41 73 rfl rfl rfl rfl ?_
          refine g_getR 42 76 ckX12 flX12_7 rfl rfl (Nat.le_of_ble_eq_true rfl) rfl rfl ?_
          refine e_aload_n 43 77 rfl rfl rfl rfl ?_
          refine g_getR 44 80 ckX12 flX12_94 rfl rfl (Nat.le_of_ble_eq_true rfl) rfl rfl ?_
          refine e_iload 45 82 rfl rfl rfl ?_
          refine g_iaload 46 83 rfl rfl (Nat.le_of_ble_eq_true rfl) rfl (by omega) (by omega) (by omega) ea ?_
          refine g_callV 47 86 (c1) okX12_compare cvX12_253 ⟨(Nat.le_of_ble_eq_true rfl), (Nat.le_of_ble_eq_true rfl)⟩ rfl rfl (Nat.le_of_ble_eq_true rfl) rfl rfl rfl rfl rfl (Nat.le_of_ble_eq_true rfl) (Nat.le_of_ble_eq_true rfl) (Nat.le_of_ble_eq_true rfl) ?_
          refine e_if_eq 48 93 89 rfl rfl rfl hli (fun _ => ?_) (fun h9 => absurd h9 (fun w => w hz))
          refine e_iconst 51 94 rfl rfl ?_
          exact kk2
      · obtain ⟨s', k1, k2⟩ := fin s1 true f1 (by rw [hfs, decT (p := lexc (tk a.2) (tk q.2) ≠ 0) (fun w => hz ((lexc_sym0 _ _).mp w))]; rfl)
        refine ⟨s', k1, fun o Y kk => ?_⟩
        have kk2 := k2 o Y kk
        refine e_iload 29 50 rfl rfl rfl ?_
        refine e_iload 30 52 rfl rfl rfl ?_
        refine e_icmp_ge 31 102 55 rfl rfl rfl (by unfold xr at *; omega) (by unfold xr at *; omega) (fun h9 => absurd h9 (by omega)) (fun _ => ?_)
        refine e_iload 32 57 rfl rfl rfl ?_
        refine e_ifb_eq 33 93 60 rfl rfl rfl (fun h => ?_) (fun h => ?_)
        · skip
          cases h
        · skip
          refine e_aload_n 34 61 rfl rfl rfl rfl ?_
          refine e_aload_n 35 62 rfl rfl rfl rfl ?_
          refine g_getR 36 65 ckX12 flX12_7 rfl rfl (Nat.le_of_ble_eq_true rfl) rfl rfl ?_
          refine e_aload_n 37 66 rfl rfl rfl rfl ?_
          refine g_getR 38 69 ckX12 flX12_94 rfl rfl (Nat.le_of_ble_eq_true rfl) rfl rfl ?_
          refine e_iload 39 71 rfl rfl rfl ?_
          refine g_iaload 40 72 rfl rfl (Nat.le_of_ble_eq_true rfl) rfl (by omega) (by omega) (by omega) eq ?_
          refine e_aload_n 41 73 rfl rfl rfl rfl ?_
          refine g_getR 42 76 ckX12 flX12_7 rfl rfl (Nat.le_of_ble_eq_true rfl) rfl rfl ?_
          refine e_aload_n 43 77 rfl rfl rfl rfl ?_
          refine g_getR 44 80 ckX12 flX12_94 rfl rfl (Nat.le_of_ble_eq_true rfl) rfl rfl ?_
          refine e_iload 45 82 rfl rfl rfl ?_
          refine g_iaload 46 83 rfl rfl (Nat.le_of_ble_eq_true rfl) rfl (by omega) (by omega) (by omega) ea ?_
          refine g_callV 47 86 (c1) okX12_compare cvX12_253 ⟨(Nat.le_of_ble_eq_true rfl), (Nat.le_of_ble_eq_true rfl)⟩ rfl rfl (Nat.le_of_ble_eq_true rfl) rfl rfl rfl rfl rfl (Nat.le_of_ble_eq_true rfl) (Nat.le_of_ble_eq_true rfl) (Nat.le_of_ble_eq_true rfl) ?_
          refine e_if_eq 48 93 89 rfl rfl rfl hli (fun h9 => absurd h9 hz) (fun _ => ?_)
          refine e_iconst 49 90 rfl rfl ?_
          refine e_goto 50 94 rfl rfl ?_
          exact kk2
theorem er_sp {x d : Int} : ∀ (B A : List (Int × Fo)) (s : xSig) (n I : Int), I = A.length → SPs s (A ++ B) → I + B.length ≤ 200 → ∃ s', FP m11 s s' ∧ ∀ (o : xO) (Y : xS), x_E MX12_entriesOf 0 0 121 [some (.ref 281), some (.int (ii x)), some (.int (ii (n + cfF (A.map Prod.snd) (B.map Prod.snd)))), some (.int (ii d)), some (.int (ii (I + B.length))), none, none] [] (St s') 0 0 o Y → x_E MX12_entriesOf 0 0 33 [some (.ref 281), some (.int (ii x)), some (.int (ii n)), some (.int (ii d)), some (.int (ii I)), none, none] [] (St s) 0 0 o Y := by
  intro B
  induction B with
  | nil =>
    intro A s n I hI hS hl
    have e41 : s 281 41 = I := by rw [hS.1, hI]; simp
    refine ⟨s, FP.rf, fun o Y kk => ?_⟩
    have ez : n + cfF (A.map Prod.snd) (List.map Prod.snd ([] : List (Int × Fo))) = n := Int.add_zero n
    rw [ez, show I + (([] : List (Int × Fo)).length : Int) = I from Int.add_zero I] at kk
    have hI2 : 0 ≤ I ∧ I ≤ 200 := by simp at hl; omega
    refine e_iload 21 35 rfl rfl rfl ?_
    refine e_aload_n 22 36 rfl rfl rfl rfl ?_
    refine g_getI 23 39 41 ckX12 flX12_152 rfl rfl (Nat.le_of_ble_eq_true rfl) rfl rfl rfl e41 ?_
    refine e_icmp_ge 24 121 42 rfl rfl rfl (by unfold xr at *; omega) (by unfold xr at *; omega) (fun _ => ?_) (fun h9 => absurd h9 (by omega))
    exact kk
  | cons b B ih =>
    intro A s n I hI hS hl
    have hlen : ((b :: B).length : Int) = B.length + 1 := by simp
    have e41 : s 281 41 = I + B.length + 1 := by rw [hS.1, hI]; simp; omega
    obtain ⟨s1, f1, k1⟩ := er_in (x := x) (n := n) (d := d) (I := I) (q := b) (B := B) A [] s 0 true (frF (A.map Prod.snd) b.2) rfl (by omega) (by omega) hS rfl rfl
    obtain ⟨s', f2, k2⟩ := ih (A ++ [b]) s1 (n + bi (frF (A.map Prod.snd) b.2)) (I + 1) (by simp; omega) (by rw [List.append_assoc]; exact hS.fp f1) (by omega)
    refine ⟨s', f1.tr f2, fun o Y kk => ?_⟩
    have ee : n + bi (frF (A.map Prod.snd) b.2) + cfF ((A ++ [b]).map Prod.snd) (B.map Prod.snd) = n + cfF (A.map Prod.snd) ((b :: B).map Prod.snd) := by
      rw [List.map_append]
      simp only [List.map_cons, List.map_nil, cfF]
      omega
    have e2 := k2 o Y (by rw [ee, show I + 1 + (B.length : Int) = I + ((b :: B).length : Int) by omega]; exact kk)
    generalize frF (A.map Prod.snd) b.2 = b9 at *
    have hI2 : 0 ≤ I ∧ I < 200 := by omega
    have kk3 : x_E MX12_entriesOf 0 0 102 [some (.ref 281), some (.int (ii x)), some (.int (ii n)), some (.int (ii d)), some (.int (ii I)), some (.int (ii (bi b9))), some (.int (ii I))] [] (St s1) 0 0 o Y := by
      cases b9 with
      | true =>
        refine e_iload_n 55 103 rfl rfl rfl rfl ?_
        refine e_iload 56 105 rfl rfl rfl ?_
        refine e_ifb_eq 57 112 108 rfl rfl rfl (fun h => ?_) (fun h => ?_)
        · skip
          cases h
        · skip
          refine e_iconst 58 109 rfl rfl ?_
          refine e_goto 59 113 rfl rfl ?_
          refine e_iadd 61 114 rfl rfl ?_
          refine e_istore_n 62 115 (ls' := [some _, some _, some _, some _, some _, some _, some _]) rfl rfl rfl (Nat.le_of_ble_eq_true rfl) rfl ?_
          refine e_iinc 63 118 (ls' := [some _, some _, some _, some _, some _, some _, some _]) rfl rfl (Nat.le_of_ble_eq_true rfl) rfl rfl ?_
          refine e_goto 64 33 rfl rfl ?_
          refine e_dropm [true, true, true, true, true, false, false] (ls' := [some _, some _, some _, some _, some _, none, none]) rfl ?_
          exact e2
      | false =>
        refine e_iload_n 55 103 rfl rfl rfl rfl ?_
        refine e_iload 56 105 rfl rfl rfl ?_
        refine e_ifb_eq 57 112 108 rfl rfl rfl (fun h => ?_) (fun h => ?_)
        · skip
          refine e_iconst 60 113 rfl rfl ?_
          refine e_iadd 61 114 rfl rfl ?_
          refine e_istore_n 62 115 (ls' := [some _, some _, some _, some _, some _, some _, some _]) rfl rfl rfl (Nat.le_of_ble_eq_true rfl) rfl ?_
          refine e_iinc 63 118 (ls' := [some _, some _, some _, some _, some _, some _, some _]) rfl rfl (Nat.le_of_ble_eq_true rfl) rfl rfl ?_
          refine e_goto 64 33 rfl rfl ?_
          refine e_dropm [true, true, true, true, true, false, false] (ls' := [some _, some _, some _, some _, some _, none, none]) rfl ?_
          exact e2
        · skip
          cases h
    have kk4 := k1 o Y kk3
    refine e_iload 21 35 rfl rfl rfl ?_
    refine e_aload_n 22 36 rfl rfl rfl rfl ?_
    refine g_getI 23 39 41 ckX12 flX12_152 rfl rfl (Nat.le_of_ble_eq_true rfl) rfl rfl rfl e41 ?_
    refine e_icmp_ge 24 121 42 rfl rfl rfl (by unfold xr at *; omega) (by unfold xr at *; omega) (fun h9 => absurd h9 (by omega)) (fun _ => ?_)
    refine e_iconst 25 43 rfl rfl ?_
    refine e_istore 26 45 (ls' := [some _, some _, some _, some _, some _, some _, none]) rfl rfl (Nat.le_of_ble_eq_true rfl) rfl ?_
    refine e_iconst 27 46 rfl rfl ?_
    refine e_istore 28 48 (ls' := [some _, some _, some _, some _, some _, some _, some _]) rfl rfl (Nat.le_of_ble_eq_true rfl) rfl ?_
    exact kk4
theorem als_len {F : Fo} {t : List Int} (h : DC t F) (path : Int) : ((als F path).length : Int) ≤ 23 := by
  have h1 := asp_len h.2.1 path
  have h2 := h.2.2
  unfold als
  rw [List.length_map]
  omega
theorem sp_mEntriesOf {τ σ : xSig} {T : Nat → List Int} {G : Nat → Fo} (hX : IXR τ) (hD : DOCM τ T G σ) {x : Int} (hh : ihas τ x = true) (e7 : σ 287 x = τ 249 x ∧ σ 289 x = τ 250 x) : ∃ σ', x_Sp MX12_entriesOf 0 0 [.ref 281, .int (ii x)] (St σ) (iv (ent τ T x)) (St σ') ∧ FP lk9 σ σ' := by
  have hx := ihas_in hh
  have hpx := pxs_has hX hh
  have epx : pxs τ x = τ 249 x := by unfold pxs; rw [if_pos ⟨hx.1, hx.2.1⟩]
  rw [epx] at hpx
  have h250 := hX.2.1 x
  unfold ent
  generalize hfe : (fun n : Nat => if hasd τ n = true then en1 τ (T (31 + 2 * n)) x else 0) = f9
  have hf9 : ∀ n : Nat, f9 n = if hasd τ n = true then en1 τ (T (31 + 2 * n)) x else 0 := fun n => by rw [← hfe]
  have lp : ∀ (m i : Nat) (acc : Int) (s : xSig), i + m = 100 → FP lk9 σ s → ∃ σ', x_E MX12_entriesOf 0 0 4 [some (.ref 281), some (.int (ii x)), some (.int (ii acc)), some (.int (ii i)), none, none, none] [] (St s) 0 0 (iv (acc + smN f9 i m)) (St σ') ∧ FP lk9 s σ' := by
    intro m
    induction m with
    | zero =>
      intro i acc s hi hF
      refine ⟨s, ?_, FP.rf⟩
      rw [show acc + smN f9 i 0 = acc from Int.add_zero acc]
      refine e_iload_n 4 5 rfl rfl rfl rfl ?_
      refine e_bipush 5 7 rfl rfl rfl ?_
      refine e_icmp_ge 6 151 10 rfl rfl rfl (by unfold xr at *; omega) (by unfold xr at *; omega) (fun _ => ?_) (fun h9 => absurd h9 (by omega))
      refine e_iload_n 81 152 rfl rfl rfl rfl ?_
      exact e_ireturn 82 rfl rfl (Nat.le_of_ble_eq_true rfl) (Nat.le_of_ble_eq_true rfl)
    | succ m ih =>
      intro i acc s hi hF
      have hD1 := hD.fp hF rfl
      have e3 := hD1.2 i (by omega)
      have e287 : s 287 x = τ 249 x := by rw [hF.cell 287 rfl]; exact e7.1
      have e289 : s 289 x = τ 250 x := by rw [hF.cell 289 rfl]; exact e7.2
      cases hd : hasd τ i with
      | false =>
        obtain ⟨σ', k1, k2⟩ := ih (i + 1) acc s (by omega) hF
        rw [hd] at e3
        refine ⟨σ', ?_, k2⟩
        rw [show acc + smN f9 i (m + 1) = acc + smN f9 (i + 1) m by rw [smN, hf9, hd]; simp]
        refine e_iload_n 4 5 rfl rfl rfl rfl ?_
        refine e_bipush 5 7 rfl rfl rfl ?_
        refine e_icmp_ge 6 151 10 rfl rfl rfl (by unfold xr at *; omega) (by unfold xr at *; omega) (fun h9 => absurd h9 (by omega)) (fun _ => ?_)
        refine e_aload_n 7 11 rfl rfl rfl rfl ?_
        refine g_getR 8 14 ckX12 flX12_13 rfl rfl (Nat.le_of_ble_eq_true rfl) rfl rfl ?_
        refine e_iload_n 9 15 rfl rfl rfl rfl ?_
        refine g_baload 10 16 rfl rfl (Nat.le_of_ble_eq_true rfl) rfl (by omega) (by omega) (by omega) e3 ?_
        refine e_ifb_eq 11 145 19 rfl rfl rfl (fun h => ?_) (fun h => ?_)
        · skip
          refine e_iinc 79 148 (ls' := [some _, some _, some _, some _, none, none, none]) rfl rfl (Nat.le_of_ble_eq_true rfl) rfl rfl ?_
          refine e_goto 80 4 rfl rfl ?_
          exact k1
        · skip
          cases h
      | true =>
        rw [hd] at e3
        obtain ⟨F, d1, d2, d3⟩ := hD1.1 i (by omega) hd
        obtain ⟨s1, L, c1, c2, c3, c4⟩ := sp_mLooks d3 hpx
        have hal := als_len d2 (τ 249 x)
        have hLl : (L.length : Int) = (als F (τ 249 x)).length := by rw [← c3, List.length_map]
        obtain ⟨s2, f2, k2⟩ := er_sp (x := x) (d := i) L [] s1 acc 0 rfl c2 (by omega)
        have e41 : s2 281 41 = L.length := by rw [f2 281 41 rfl]; exact c2.1
        have e289' : s2 289 x = τ 250 x := by rw [f2.cell 289 rfl, c4.cell 289 rfl]; exact e289
        have hF2 : FP lk9 s s2 := c4.tr (f2.mono rfl)
        have hen : en1 τ (T (31 + 2 * i)) x = enz (cfF [] (als F (τ 249 x))) (hasn τ x) := by
          unfold en1
          rw [epx, d2.cfr hpx]
        rw [List.map_nil, c3, Int.zero_add] at k2
        have hc0 := @cfF_0 (als F (τ 249 x))
        have fin : ∀ z : Int, f9 i = cfF [] (als F (τ 249 x)) + z → ∃ σ', x_E MX12_entriesOf 0 0 143 [some (.ref 281), some (.int (ii x)), some (.int (ii (acc + cfF [] (als F (τ 249 x))))), some (.int (ii i)), some (.int (ii L.length)), none, none] [.int (ii z), .int (ii (acc + cfF [] (als F (τ 249 x))))] (St s2) 0 0 (iv (acc + smN f9 i (m + 1))) (St σ') ∧ FP lk9 s σ' := by
          intro z hz
          obtain ⟨σ', j1, j2⟩ := ih (i + 1) (acc + cfF [] (als F (τ 249 x)) + z) s2 (by omega) (hF.tr hF2)
          refine ⟨σ', ?_, hF2.tr j2⟩
          rw [show acc + smN f9 i (m + 1) = acc + cfF [] (als F (τ 249 x)) + z + smN f9 (i + 1) m by rw [smN, hz]; omega]
          refine e_iadd 77 144 rfl rfl ?_
          refine e_istore_n 78 145 (ls' := [some _, some _, some _, some _, some _, none, none]) rfl rfl rfl (Nat.le_of_ble_eq_true rfl) rfl ?_
          refine e_dropm [true, true, true, true, false, false, false] (ls' := [some _, some _, some _, some _, none, none, none]) rfl ?_
          refine e_iinc 79 148 (ls' := [some _, some _, some _, some _, none, none, none]) rfl rfl (Nat.le_of_ble_eq_true rfl) rfl rfl ?_
          refine e_goto 80 4 rfl rfl ?_
          exact j1
        have go : ∀ {Y : xS}, x_E MX12_entriesOf 0 0 121 [some (.ref 281), some (.int (ii x)), some (.int (ii (acc + cfF [] (als F (τ 249 x))))), some (.int (ii i)), some (.int (ii L.length)), none, none] [] (St s2) 0 0 (iv (acc + smN f9 i (m + 1))) Y → x_E MX12_entriesOf 0 0 4 [some (.ref 281), some (.int (ii x)), some (.int (ii acc)), some (.int (ii i)), none, none, none] [] (St s) 0 0 (iv (acc + smN f9 i (m + 1))) Y := by
          intro Y kk
          have kk2 := k2 _ _ kk
          refine e_iload_n 4 5 rfl rfl rfl rfl ?_
          refine e_bipush 5 7 rfl rfl rfl ?_
          refine e_icmp_ge 6 151 10 rfl rfl rfl (by unfold xr at *; omega) (by unfold xr at *; omega) (fun h9 => absurd h9 (by omega)) (fun _ => ?_)
          refine e_aload_n 7 11 rfl rfl rfl rfl ?_
          refine g_getR 8 14 ckX12 flX12_13 rfl rfl (Nat.le_of_ble_eq_true rfl) rfl rfl ?_
          refine e_iload_n 9 15 rfl rfl rfl rfl ?_
          refine g_baload 10 16 rfl rfl (Nat.le_of_ble_eq_true rfl) rfl (by omega) (by omega) (by omega) e3 ?_
          refine e_ifb_eq 11 145 19 rfl rfl rfl (fun h => ?_) (fun h => ?_)
          · skip
            cases h
          · skip
            refine e_aload_n 12 20 rfl rfl rfl rfl ?_
            refine e_iload_n 13 21 rfl rfl rfl rfl ?_
            refine e_aload_n 14 22 rfl rfl rfl rfl ?_
            refine g_getR 15 25 ckX12 flX12_26 rfl rfl (Nat.le_of_ble_eq_true rfl) rfl rfl ?_
            refine e_iload_n 16 26 rfl rfl rfl rfl ?_
            refine g_iaload 17 27 rfl rfl (Nat.le_of_ble_eq_true rfl) rfl (by omega) (by omega) (by omega) e287 ?_
            refine g_callV 18 30 (c1) okX12_looks cvX12_285 ⟨(Nat.le_of_ble_eq_true rfl), (Nat.le_of_ble_eq_true rfl)⟩ rfl rfl (Nat.le_of_ble_eq_true rfl) rfl rfl rfl rfl rfl (Nat.le_of_ble_eq_true rfl) (Nat.le_of_ble_eq_true rfl) (Nat.le_of_ble_eq_true rfl) ?_
            refine e_iconst 19 31 rfl rfl ?_
            refine e_istore 20 33 (ls' := [some _, some _, some _, some _, some _, none, none]) rfl rfl (Nat.le_of_ble_eq_true rfl) rfl ?_
            exact kk2
        by_cases hL0 : (L.length : Int) = 0
        · have hz0 : cfF [] (als F (τ 249 x)) = 0 := hc0.mpr (List.eq_nil_of_length_eq_zero (by omega))
          by_cases hs0 : τ 250 x = 0
          · obtain ⟨σ', j1, j2⟩ := fin 1 (by
              rw [hf9, if_pos hd, hen, hz0, show hasn τ x = true from decT ⟨hx.1, hx.2.1, hs0⟩]
              rfl)
            refine ⟨σ', go ?_, j2⟩
            refine e_iload_n 65 122 rfl rfl rfl rfl ?_
            refine e_aload_n 66 123 rfl rfl rfl rfl ?_
            refine g_getI 67 126 41 ckX12 flX12_152 rfl rfl (Nat.le_of_ble_eq_true rfl) rfl rfl rfl e41 ?_
            refine e_if_ne 68 142 129 rfl rfl rfl (by unfold xr at *; omega) (fun h9 => absurd h9 (by omega)) (fun _ => ?_)
            refine e_aload_n 69 130 rfl rfl rfl rfl ?_
            refine g_getR 70 133 ckX12 flX12_32 rfl rfl (Nat.le_of_ble_eq_true rfl) rfl rfl ?_
            refine e_iload_n 71 134 rfl rfl rfl rfl ?_
            refine g_baload 72 135 rfl rfl (Nat.le_of_ble_eq_true rfl) rfl (by omega) (by omega) (by omega) (e289'.trans hs0) ?_
            refine e_if_ne 73 142 138 rfl rfl rfl (by unfold xr at *; omega) (fun h9 => absurd h9 (by omega)) (fun _ => ?_)
            refine e_iconst 74 139 rfl rfl ?_
            refine e_goto 75 143 rfl rfl ?_
            exact j1
          · obtain ⟨σ', j1, j2⟩ := fin 0 (by
              rw [hf9, if_pos hd, hen, hz0, show hasn τ x = false from decF (fun q => hs0 q.2.2)]
              rfl)
            refine ⟨σ', go ?_, j2⟩
            refine e_iload_n 65 122 rfl rfl rfl rfl ?_
            refine e_aload_n 66 123 rfl rfl rfl rfl ?_
            refine g_getI 67 126 41 ckX12 flX12_152 rfl rfl (Nat.le_of_ble_eq_true rfl) rfl rfl rfl e41 ?_
            refine e_if_ne 68 142 129 rfl rfl rfl (by unfold xr at *; omega) (fun h9 => absurd h9 (by omega)) (fun _ => ?_)
            refine e_aload_n 69 130 rfl rfl rfl rfl ?_
            refine g_getR 70 133 ckX12 flX12_32 rfl rfl (Nat.le_of_ble_eq_true rfl) rfl rfl ?_
            refine e_iload_n 71 134 rfl rfl rfl rfl ?_
            refine g_baload 72 135 rfl rfl (Nat.le_of_ble_eq_true rfl) rfl (by omega) (by omega) (by omega) e289' ?_
            refine e_if_ne 73 142 138 rfl rfl rfl (by unfold xr at *; omega) (fun _ => ?_) (fun h9 => absurd h9 (by omega))
            refine e_iconst 76 143 rfl rfl ?_
            exact j1
        · have hz0 : cfF [] (als F (τ 249 x)) ≠ 0 := fun q => hL0 (by rw [hLl, hc0.mp q]; rfl)
          obtain ⟨σ', j1, j2⟩ := fin 0 (by
            rw [hf9, if_pos hd, hen]
            unfold enz
            rw [if_neg (fun q => hz0 q.1)]
            omega)
          refine ⟨σ', go ?_, j2⟩
          refine e_iload_n 65 122 rfl rfl rfl rfl ?_
          refine e_aload_n 66 123 rfl rfl rfl rfl ?_
          refine g_getI 67 126 41 ckX12 flX12_152 rfl rfl (Nat.le_of_ble_eq_true rfl) rfl rfl rfl e41 ?_
          refine e_if_ne 68 142 129 rfl rfl rfl (by unfold xr at *; omega) (fun _ => ?_) (fun h9 => absurd h9 (by omega))
          refine e_iconst 76 143 rfl rfl ?_
          exact j1
  obtain ⟨σ', k1, k2⟩ := lp 100 0 0 σ (by omega) FP.rf
  refine ⟨σ', ?_, k2⟩
  rw [Int.zero_add] at k1
  refine e_entry okX12_entriesOf (Nat.le_of_ble_eq_true rfl) (ls := [some _, some _, none, none, none, none, none]) rfl ?_
  refine e_iconst 0 1 rfl rfl ?_
  refine e_istore_n 1 2 (ls' := [some _, some _, some _, none, none, none, none]) rfl rfl rfl (Nat.le_of_ble_eq_true rfl) rfl ?_
  refine e_iconst 2 3 rfl rfl ?_
  refine e_istore_n 3 4 (ls' := [some _, some _, some _, some _, none, none, none]) rfl rfl rfl (Nat.le_of_ble_eq_true rfl) rfl ?_
  exact k1
theorem sp_mEntries {τ σ : xSig} {T : Nat → List Int} {G : Nat → Fo} (hX : IXR τ) (hD : DOCM τ T G σ) (h7 : ∀ k : Int, 0 ≤ k → k < 3 → σ 288 k = bi (ihas τ k) ∧ (ihas τ k = true → σ 287 k = τ 249 k ∧ σ 289 k = τ 250 k)) {x : Int} (hh : ihas τ x = true) : ∃ σ', x_Sp MX12_entries 0 0 [.ref 281, .int (ii x)] (St σ) (iv (ent τ T x)) (St σ') ∧ FP scr9 σ σ' ∧ σ' 281 47 = 0 := by
  have hx := ihas_in hh
  have c1 := sp_mIsIndex (σ := σ) h7 (x := x) (by unfold xr; omega)
  rw [hh] at c1
  have e7 := (h7 x hx.1 hx.2.1).2 hh
  obtain ⟨σ', k1, k2⟩ := sp_mEntriesOf (σ := xu σ 281 47 0) hX (hD.fp (F47 (σ := σ) (c := 0)) rfl) hh (by rw [xu_other _ _ _ (by decide), xu_other _ _ _ (by decide)]; exact e7)
  refine ⟨σ', ?_, (F47s (σ := σ) (c := 0)).tr (k2.mono rfl), by rw [k2 281 47 rfl]; exact xu_same _ _ _ _⟩
  refine e_entry okX12_entries (Nat.le_of_ble_eq_true rfl) (ls := [some _, some _]) rfl ?_
  refine e_aload_n 0 1 rfl rfl rfl rfl ?_
  refine e_aload_n 1 2 rfl rfl rfl rfl ?_
  refine e_iload_n 2 3 rfl rfl rfl rfl ?_
  refine g_callV 3 6 (c1) okX12_isIndex cvX12_273 ⟨(Nat.le_of_ble_eq_true rfl), (Nat.le_of_ble_eq_true rfl)⟩ rfl rfl (Nat.le_of_ble_eq_true rfl) rfl rfl rfl rfl rfl (Nat.le_of_ble_eq_true rfl) (Nat.le_of_ble_eq_true rfl) (Nat.le_of_ble_eq_true rfl) ?_
  refine e_iconst 4 7 rfl rfl ?_
  refine e_iconst 5 8 rfl rfl ?_
  refine g_callV 6 11 (sp_mGoesT) okX12_goes cvX12_167 ⟨(Nat.le_of_ble_eq_true rfl), (Nat.le_of_ble_eq_true rfl)⟩ rfl rfl (Nat.le_of_ble_eq_true rfl) rfl rfl rfl rfl rfl (Nat.le_of_ble_eq_true rfl) (Nat.le_of_ble_eq_true rfl) (Nat.le_of_ble_eq_true rfl) ?_
  refine e_ifb_eq 7 22 14 rfl rfl rfl (fun hb => ?_) (fun hb => ?_)
  · skip
    cases hb
  · skip
    refine e_aload_n 8 15 rfl rfl rfl rfl ?_
    refine e_iload_n 9 16 rfl rfl rfl rfl ?_
    refine g_callV 10 19 (k1) okX12_entriesOf cvX12_343 ⟨(Nat.le_of_ble_eq_true rfl), (Nat.le_of_ble_eq_true rfl)⟩ rfl rfl (Nat.le_of_ble_eq_true rfl) rfl rfl rfl rfl rfl (Nat.le_of_ble_eq_true rfl) (Nat.le_of_ble_eq_true rfl) (Nat.le_of_ble_eq_true rfl) ?_
    refine e_goto 11 23 rfl rfl ?_
    exact e_ireturn 13 rfl rfl (Nat.le_of_ble_eq_true rfl) (Nat.le_of_ble_eq_true rfl)
theorem sp_mEntriesX {τ σ : xSig} (h7 : ∀ k : Int, 0 ≤ k → k < 3 → σ 288 k = bi (ihas τ k) ∧ (ihas τ k = true → σ 287 k = τ 249 k ∧ σ 289 k = τ 250 k)) {x : Int} (hx : xr x) (hh : ihas τ x = false) : x_Sp MX12_entries 0 0 [.ref 281, .int (ii x)] (St σ) (iv 0) (St (xu σ 281 47 1)) := by
  have c1 := sp_mIsIndex (σ := σ) h7 hx
  rw [hh] at c1
  refine e_entry okX12_entries (Nat.le_of_ble_eq_true rfl) (ls := [some _, some _]) rfl ?_
  refine e_aload_n 0 1 rfl rfl rfl rfl ?_
  refine e_aload_n 1 2 rfl rfl rfl rfl ?_
  refine e_iload_n 2 3 rfl rfl rfl rfl ?_
  refine g_callV 3 6 (c1) okX12_isIndex cvX12_273 ⟨(Nat.le_of_ble_eq_true rfl), (Nat.le_of_ble_eq_true rfl)⟩ rfl rfl (Nat.le_of_ble_eq_true rfl) rfl rfl rfl rfl rfl (Nat.le_of_ble_eq_true rfl) (Nat.le_of_ble_eq_true rfl) (Nat.le_of_ble_eq_true rfl) ?_
  refine e_iconst 4 7 rfl rfl ?_
  refine e_iconst 5 8 rfl rfl ?_
  refine g_callV 6 11 (sp_mGoes (a := false) (b := true) (c := true)) okX12_goes cvX12_167 ⟨(Nat.le_of_ble_eq_true rfl), (Nat.le_of_ble_eq_true rfl)⟩ rfl rfl (Nat.le_of_ble_eq_true rfl) rfl rfl rfl rfl rfl (Nat.le_of_ble_eq_true rfl) (Nat.le_of_ble_eq_true rfl) (Nat.le_of_ble_eq_true rfl) ?_
  refine e_ifb_eq 7 22 14 rfl rfl rfl (fun hb => ?_) (fun hb => ?_)
  · skip
    refine e_iconst 12 23 rfl rfl ?_
    exact e_ireturn 13 rfl rfl (Nat.le_of_ble_eq_true rfl) (Nat.le_of_ble_eq_true rfl)
  · skip
    cases hb
theorem fr254 {σ σ' : xSig} (h : Fr 254 σ σ') : FP csc9 σ σ' := h.fp.mono rfl
theorem RMc7.fr {σ σ1 : xSig} {L : List (Nat × Int)} (h7 : ∀ k : Int, 0 ≤ k → k < 3 → σ 288 k = bi (ihas σ k) ∧ (ihas σ k = true → σ 287 k = σ 249 k ∧ σ 289 k = σ 250 k)) (hF : FP L σ σ1) (ho : ovl [(287, -1), (288, -1), (289, -1)] L = false) : ∀ k : Int, 0 ≤ k → k < 3 → σ1 288 k = bi (ihas σ k) ∧ (ihas σ k = true → σ1 287 k = σ 249 k ∧ σ1 289 k = σ 250 k) := by
  have s9 := sam_fp hF ho
  intro k k0 k3
  rw [s9.cell 287 rfl, s9.cell 288 rfl, s9.cell 289 rfl]
  exact h7 k k0 k3
theorem st_entries {i : Nat} {σ : xSig} (h : INV i σ) {x : Int} (hx : xr x) : STEP i MX11_entries MX12_entries iv [nIOB] [.int (ii x)] σ := by
  have hM := h
  obtain ⟨T, G, hA, hM⟩ := hM
  obtain ⟨hX, -⟩ := hM.1 8
  have h7 := hM.2 7
  cases hh : ihas σ x with
  | false => exact STEP.refuse h 1 (by simp) (sp_entriesX hX hx hh) (σ2 := xu σ 281 47 1) (y := 0) (sp_mEntriesX h7 hx hh) (xu_same _ _ _ _) F47s
  | true =>
    obtain ⟨σ1, x1, x2⟩ := sp_entries1 hA (hM.1 4).1 hX hM.gda hh
    have f1 := fr254 x2
    obtain ⟨σ2, y1, y2, y3⟩ := sp_mEntries (σ := σ1) hX (hM.docm.fp f1 rfl) (RMc7.fr h7 f1 rfl) hh
    exact STEP.read h x1 y1 y3 f1 y2
theorem st_entriesAnew {i : Nat} {σ : xSig} (h : INV i σ) {x : Int} (hx : xr x) : STEP i MX11_entriesAnew MX12_entriesAnew iv [nIOB] [.int (ii x)] σ := by
  have hM := h
  obtain ⟨T, G, hA, hM⟩ := hM
  obtain ⟨hX, -⟩ := hM.1 8
  have h7 := hM.2 7
  cases hh : ihas σ x with
  | false =>
    refine STEP.refuse h 1 (by simp) (sp_entriesAnewX hX hx hh) (σ2 := xu σ 281 47 1) (y := 0) ?_ (xu_same _ _ _ _) F47s
    refine e_entry okX12_entriesAnew (Nat.le_of_ble_eq_true rfl) (ls := [some _, some _]) rfl ?_
    refine e_aload_n 0 1 rfl rfl rfl rfl ?_
    refine e_iload_n 1 2 rfl rfl rfl rfl ?_
    refine g_callV 2 5 (sp_mEntriesX h7 hx hh) okX12_entries cvX12_346 ⟨(Nat.le_of_ble_eq_true rfl), (Nat.le_of_ble_eq_true rfl)⟩ rfl rfl (Nat.le_of_ble_eq_true rfl) rfl rfl rfl rfl rfl (Nat.le_of_ble_eq_true rfl) (Nat.le_of_ble_eq_true rfl) (Nat.le_of_ble_eq_true rfl) ?_
    exact e_ireturn 3 rfl rfl (Nat.le_of_ble_eq_true rfl) (Nat.le_of_ble_eq_true rfl)
  | true =>
    obtain ⟨σ1, x1, x2⟩ := sp_entriesAnew1 hA (hM.1 4).1 hX hM.gda hh
    have f1 := fr254 x2
    obtain ⟨σ2, y1, y2, y3⟩ := sp_mEntries (σ := σ1) hX (hM.docm.fp f1 rfl) (RMc7.fr h7 f1 rfl) hh
    refine STEP.read h x1 ?_ y3 f1 y2
    refine e_entry okX12_entriesAnew (Nat.le_of_ble_eq_true rfl) (ls := [some _, some _]) rfl ?_
    refine e_aload_n 0 1 rfl rfl rfl rfl ?_
    refine e_iload_n 1 2 rfl rfl rfl rfl ?_
    refine g_callV 2 5 (y1) okX12_entries cvX12_346 ⟨(Nat.le_of_ble_eq_true rfl), (Nat.le_of_ble_eq_true rfl)⟩ rfl rfl (Nat.le_of_ble_eq_true rfl) rfl rfl rfl rfl rfl (Nat.le_of_ble_eq_true rfl) (Nat.le_of_ble_eq_true rfl) (Nat.le_of_ble_eq_true rfl) ?_
    exact e_ireturn 3 rfl rfl (Nat.le_of_ble_eq_true rfl) (Nat.le_of_ble_eq_true rfl)
