/-! ===== the model: the end of a value ===== -/
theorem e_lcmpI {M : x_MT} {mc ms pc kc ks : Nat} {ls : List (Option Value)} {st : List Value} {X Y : xS} {o : xO} (k nx : Nat) {x y : Int64} {z : Int} (hd : (mIns M)[k]? = some (pc, .lcmp, 1)) (hn : pc + 1 = nx) (hz : lg_cmp x y = ii z) (kk : x_E M mc ms nx ls (.int (ii z) :: st) X kc ks o Y) : x_E M mc ms pc ls (.long y :: .long x :: st) X kc ks o Y := by
  refine e_lcmp k nx hd hn ?_
  rw [hz]
  exact kk
theorem l_clr (x : Int64) {d j : Int} (h0 : 0 ≤ d) (h1 : d < 60) (j0 : 0 ≤ j) (j6 : j < 60) : lbt (x &&& (ll 1 <<< ((ii d).toInt64 &&& 63) ^^^ ll (-1))) j = if j = d then false else lbt x j := by
  rw [l_andn x _ j0 j6, l_shl1 h0 h1 j0 j6]
  by_cases e : j = d
  · simp [e]
  · simp [e]
theorem l_put (x : Int64) {d j : Int} (h0 : 0 ≤ d) (h1 : d < 60) (j0 : 0 ≤ j) (j6 : j < 60) : lbt (x ||| ll 1 <<< ((ii d).toInt64 &&& 63)) j = if j = d then true else lbt x j := by
  rw [l_or x _ j, l_shl1 h0 h1 j0 j6]
  by_cases e : j = d
  · simp [e]
  · simp [e]
abbrev bhL (a : Nat) (fr : Int) (ob : Int64) (d p n : Int) : List (Option Value) := [some (.ref a), some (.int (ii fr)), some (.ref 311), some (.long ob), none, some (.int (ii d)), some (.int (ii p)), some (.int (ii n)), none]
section BH
variable {σ : xSig} {a nn : Nat} {fr : Int} {o : xO} {Y : xS}
theorem bh_close {ob : Int64} {d p n : Int} (ha : isMA a nn) (hd : 1 ≤ d ∧ d < 60) (hp : 0 ≤ p ∧ p < nn) (hm : σ a p = -1) (kk : x_E MX12_behind 0 0 121 (bhL a fr ob (d + -1) (p + 1) n) [] (St σ) 0 0 o Y) : x_E MX12_behind 0 0 121 (bhL a fr ob d p n) [] (St σ) 0 0 o Y := by
  have hnn := ha.2.2.1
  refine e_iload 69 123 rfl rfl rfl ?_
  refine e_if_gt 70 11 126 rfl rfl rfl (by unfold xr at *; omega) (fun _ => ?_) (fun h9 => absurd h9 (by omega))
  refine e_iload 8 13 rfl rfl rfl ?_
  refine e_if_le 9 33 16 rfl rfl rfl (by unfold xr at *; omega) (fun h9 => absurd h9 (by omega)) (fun _ => ?_)
  refine e_aload_n 10 17 rfl rfl rfl rfl ?_
  refine e_iload 11 19 rfl rfl rfl ?_
  refine g_iaload 12 20 rfl rfl ha.1 ha.2.1 (by omega) (by omega) (by omega) hm ?_
  refine e_iconst 13 21 rfl rfl ?_
  refine e_icmp_ne 14 33 24 rfl rfl rfl (by unfold xr at *; omega) (by unfold xr at *; omega) (fun h9 => absurd h9 (fun q => q rfl)) (fun _ => ?_)
  refine e_iinc 15 27 (ls' := [some _, some _, some _, some _, none, some _, some _, some _, none]) rfl rfl (Nat.le_of_ble_eq_true rfl) rfl rfl ?_
  refine e_iinc 16 30 (ls' := [some _, some _, some _, some _, none, some _, some _, some _, none]) rfl rfl (Nat.le_of_ble_eq_true rfl) rfl rfl ?_
  refine e_goto 17 121 rfl rfl ?_
  exact kk
theorem bh_open {ob : Int64} {d p n : Int} (ha : isMA a nn) (hd : 1 ≤ d ∧ d < 60) (hp : 0 ≤ p ∧ p < nn) {y : Int} (hy : σ a p = y) (hyr : -1 < y ∧ y < 10000) (kk : x_E MX12_behind 0 0 59 (bhL a fr ob d (p + bi (lbt ob d)) n) [] (St σ) 0 0 o Y) : x_E MX12_behind 0 0 121 (bhL a fr ob d p n) [] (St σ) 0 0 o Y := by
  have hnn := ha.2.2.1
  have fin : ∀ z : Int, z = bi (lbt ob d) → x_E MX12_behind 0 0 56 (bhL a fr ob d p n) [.int (ii z), .int (ii p)] (St σ) 0 0 o Y := by
    intro z hz
    subst hz
    refine e_iadd 32 57 rfl rfl ?_
    refine e_istore 33 59 (ls' := [some _, some _, some _, some _, none, some _, some _, some _, none]) rfl rfl (Nat.le_of_ble_eq_true rfl) rfl ?_
    exact kk
  refine e_iload 69 123 rfl rfl rfl ?_
  refine e_if_gt 70 11 126 rfl rfl rfl (by unfold xr at *; omega) (fun _ => ?_) (fun h9 => absurd h9 (by omega))
  refine e_iload 8 13 rfl rfl rfl ?_
  refine e_if_le 9 33 16 rfl rfl rfl (by unfold xr at *; omega) (fun h9 => absurd h9 (by omega)) (fun _ => ?_)
  refine e_aload_n 10 17 rfl rfl rfl rfl ?_
  refine e_iload 11 19 rfl rfl rfl ?_
  refine g_iaload 12 20 rfl rfl ha.1 ha.2.1 (by omega) (by omega) (by omega) hy ?_
  refine e_iconst 13 21 rfl rfl ?_
  refine e_icmp_ne 14 33 24 rfl rfl rfl (by unfold xr at *; omega) (by unfold xr at *; omega) (fun _ => ?_) (fun h9 => absurd h9 (by omega))
  refine e_iload 18 35 rfl rfl rfl ?_
  refine e_iload 19 37 rfl rfl rfl ?_
  refine e_if_le 20 55 40 rfl rfl rfl (by unfold xr at *; omega) (fun h9 => absurd h9 (by omega)) (fun _ => ?_)
  refine e_lload_n 21 41 rfl rfl rfl rfl ?_
  refine e_iload 22 43 rfl rfl rfl ?_
  refine e_lshr 23 44 rfl rfl ?_
  refine e_lconst 24 45 rfl rfl ?_
  refine e_land 25 46 rfl rfl ?_
  refine e_lconst 26 47 rfl rfl ?_
  refine e_lcmpI 27 48 rfl rfl (l_bit ob (d := d) (by omega) (by omega)) ?_
  have hb := bi_01 (lbt ob d)
  refine e_if_ne 28 55 51 rfl rfl rfl (by unfold xr at *; omega) (fun h => ?_) (fun h => ?_)
  · skip
    refine e_iconst 31 56 rfl rfl ?_
    exact fin 0 (by omega)
  · skip
    refine e_iconst 29 52 rfl rfl ?_
    refine e_goto 30 56 rfl rfl ?_
    exact fin 1 (by omega)
theorem bh_leaf {ob : Int64} {d p n : Int} (ha : isMA a nn) (hp : 0 ≤ p ∧ p < nn) {y : Int} (hy : σ a p = y) (hyr : 0 ≤ y ∧ y < 3) {L : Int} (hL : L = if y = 1 ∨ y = 2 then 2 else 1) (kk : x_E MX12_behind 0 0 121 (bhL a fr ob d (p + L) (n + 1)) [] (St σ) 0 0 o Y) : x_E MX12_behind 0 0 59 (bhL a fr ob d p n) [] (St σ) 0 0 o Y := by
  have hnn := ha.2.2.1
  have fin : ∀ z : Int, z = L → x_E MX12_behind 0 0 83 [some (.ref a), some (.int (ii fr)), some (.ref 311), some (.long ob), none, some (.int (ii d)), some (.int (ii p)), some (.int (ii (n + 1))), some (.int (ii y))] [.int (ii z), .int (ii p)] (St σ) 0 0 o Y := by
    intro z hz
    subst hz
    refine e_iadd 46 84 rfl rfl ?_
    refine e_istore 47 86 (ls' := [some _, some _, some _, some _, none, some _, some _, some _, some _]) rfl rfl (Nat.le_of_ble_eq_true rfl) rfl ?_
    refine e_iload 48 88 rfl rfl rfl ?_
    refine e_iconst 49 89 rfl rfl ?_
    refine e_icmp_lt 50 121 92 rfl rfl rfl (by unfold xr at *; omega) (by unfold xr at *; omega) (fun _ => ?_) (fun h9 => absurd h9 (by omega))
    refine e_dropm [true, true, true, true, true, true, true, true, false] (ls' := [some _, some _, some _, some _, none, some _, some _, some _, none]) rfl ?_
    exact kk
  refine e_aload_n 34 60 rfl rfl rfl rfl ?_
  refine e_iload 35 62 rfl rfl rfl ?_
  refine g_iaload 36 63 rfl rfl ha.1 ha.2.1 (by omega) (by omega) (by omega) hy ?_
  refine e_istore 37 65 (ls' := [some _, some _, some _, some _, none, some _, some _, some _, some _]) rfl rfl (Nat.le_of_ble_eq_true rfl) rfl ?_
  refine e_iinc 38 68 (ls' := [some _, some _, some _, some _, none, some _, some _, some _, some _]) rfl rfl (Nat.le_of_ble_eq_true rfl) rfl rfl ?_
  refine e_iload 39 70 rfl rfl rfl ?_
  refine e_iload 40 72 rfl rfl rfl ?_
  refine g_callS 41 75 (sp_mIsLong (x := y) (by unfold xr; omega)) okX12_isLong csX12_121 ⟨(Nat.le_of_ble_eq_true rfl), (Nat.le_of_ble_eq_true rfl)⟩ rfl rfl rfl rfl (Nat.le_of_ble_eq_true rfl) (Nat.le_of_ble_eq_true rfl) (Nat.le_of_ble_eq_true rfl) ?_
  refine e_ifb_eq 42 82 78 rfl rfl rfl (fun h => ?_) (fun h => ?_)
  · skip
    have h2 := of_decide_eq_false h
    rw [if_neg h2] at hL
    refine e_iconst 45 83 rfl rfl ?_
    exact fin 1 hL.symm
  · skip
    have h2 := of_decide_eq_true h
    rw [if_pos h2] at hL
    refine e_iconst 43 79 rfl rfl ?_
    refine e_goto 44 83 rfl rfl ?_
    exact fin 2 hL.symm
theorem bh_nest {ob : Int64} {d p n : Int} (ha : isMA a nn) (hd : 0 ≤ d ∧ d < 58) (hp : 0 ≤ p ∧ p < nn) {y : Int} (hy : σ a p = y) (hyr : y = 3 ∨ y = 4) (kk : ∀ ob' : Int64, (∀ j, 0 ≤ j → j < 60 → lbt ob' j = if j = d + 1 then decide (y = 4) else lbt ob j) → x_E MX12_behind 0 0 121 (bhL a fr ob' (d + 1) (p + 1) (n + 1)) [] (St σ) 0 0 o Y) : x_E MX12_behind 0 0 59 (bhL a fr ob d p n) [] (St σ) 0 0 o Y := by
  have hnn := ha.2.2.1
  refine e_aload_n 34 60 rfl rfl rfl rfl ?_
  refine e_iload 35 62 rfl rfl rfl ?_
  refine g_iaload 36 63 rfl rfl ha.1 ha.2.1 (by omega) (by omega) (by omega) hy ?_
  refine e_istore 37 65 (ls' := [some _, some _, some _, some _, none, some _, some _, some _, some _]) rfl rfl (Nat.le_of_ble_eq_true rfl) rfl ?_
  refine e_iinc 38 68 (ls' := [some _, some _, some _, some _, none, some _, some _, some _, some _]) rfl rfl (Nat.le_of_ble_eq_true rfl) rfl rfl ?_
  refine e_iload 39 70 rfl rfl rfl ?_
  refine e_iload 40 72 rfl rfl rfl ?_
  refine g_callS 41 75 (sp_mIsLong (x := y) (by unfold xr; omega)) okX12_isLong csX12_121 ⟨(Nat.le_of_ble_eq_true rfl), (Nat.le_of_ble_eq_true rfl)⟩ rfl rfl rfl rfl (Nat.le_of_ble_eq_true rfl) (Nat.le_of_ble_eq_true rfl) (Nat.le_of_ble_eq_true rfl) ?_
  refine e_ifb_eq 42 82 78 rfl rfl rfl (fun h => ?_) (fun h => ?_)
  · skip
    refine e_iconst 45 83 rfl rfl ?_
    refine e_iadd 46 84 rfl rfl ?_
    refine e_istore 47 86 (ls' := [some _, some _, some _, some _, none, some _, some _, some _, some _]) rfl rfl (Nat.le_of_ble_eq_true rfl) rfl ?_
    refine e_iload 48 88 rfl rfl rfl ?_
    refine e_iconst 49 89 rfl rfl ?_
    refine e_icmp_lt 50 121 92 rfl rfl rfl (by unfold xr at *; omega) (by unfold xr at *; omega) (fun h9 => absurd h9 (by omega)) (fun _ => ?_)
    refine e_iinc 51 95 (ls' := [some _, some _, some _, some _, none, some _, some _, some _, some _]) rfl rfl (Nat.le_of_ble_eq_true rfl) rfl rfl ?_
    refine e_iload 52 97 rfl rfl rfl ?_
    refine e_iconst 53 98 rfl rfl ?_
    refine e_icmp_ne 54 110 101 rfl rfl rfl (by unfold xr at *; omega) (by unfold xr at *; omega) (fun h4 => ?_) (fun h4 => ?_)
    · skip
      refine e_lload_n 61 111 rfl rfl rfl rfl ?_
      refine e_lconst 62 112 rfl rfl ?_
      refine e_iload 63 114 rfl rfl rfl ?_
      refine e_lshl 64 115 rfl rfl ?_
      refine e_ldc2_w 65 118 kcX12_125 (by rfl : _ = ll (-1)) rfl rfl ?_
      refine e_lxor 66 119 rfl rfl ?_
      refine e_land 67 120 rfl rfl ?_
      refine e_lstore_n 68 121 (ls' := [some _, some _, some _, some _, none, some _, some _, some _, some _]) rfl rfl rfl (Nat.le_of_ble_eq_true rfl) rfl ?_
      refine e_dropm [true, true, true, true, true, true, true, true, false] (ls' := [some _, some _, some _, some _, none, some _, some _, some _, none]) rfl ?_
      refine kk _ (fun j j0 j6 => ?_)
      rw [decide_eq_false h4]
      exact l_clr ob (by omega) (by omega) j0 j6
    · skip
      refine e_lload_n 55 102 rfl rfl rfl rfl ?_
      refine e_lconst 56 103 rfl rfl ?_
      refine e_iload 57 105 rfl rfl rfl ?_
      refine e_lshl 58 106 rfl rfl ?_
      refine e_lor 59 107 rfl rfl ?_
      refine e_goto 60 120 rfl rfl ?_
      refine e_lstore_n 68 121 (ls' := [some _, some _, some _, some _, none, some _, some _, some _, some _]) rfl rfl rfl (Nat.le_of_ble_eq_true rfl) rfl ?_
      refine e_dropm [true, true, true, true, true, true, true, true, false] (ls' := [some _, some _, some _, some _, none, some _, some _, some _, none]) rfl ?_
      refine kk _ (fun j j0 j6 => ?_)
      rw [decide_eq_true h4]
      exact l_put ob (by omega) (by omega) j0 j6
  · skip
    have h2 := of_decide_eq_true h
    omega
theorem bh_fo (ha : isMA a nn) : ∀ F : Fo, ∀ (b v : Bool) (lo : Int), 0 ≤ lo → okf b v lo F → ∀ (p d n : Int) (ob : Int64), 1 ≤ d → d + pa F < 57 → 0 ≤ n → n + pa F ≤ 1000 → lbt ob d = b → 0 ≤ p → p + (en F).length < nn → EA σ a p (en F) → (∀ ob' : Int64, (∀ j, 0 ≤ j → j ≤ d → lbt ob' j = lbt ob j) → x_E MX12_behind 0 0 121 (bhL a fr ob' d (p + (en F).length) (n + pa F)) [] (St σ) 0 0 o Y) → x_E MX12_behind 0 0 (if v = true then 59 else 121) (bhL a fr ob d p n) [] (St σ) 0 0 o Y := by
  intro F
  have nest : ∀ (y : Int) (bc : Bool) (c n9 : Fo), (y = 3 ∧ bc = false ∨ y = 4 ∧ bc = true) → (∀ (b v : Bool) (lo : Int), 0 ≤ lo → okf b v lo c → ∀ (p d n : Int) (ob : Int64), 1 ≤ d → d + pa c < 57 → 0 ≤ n → n + pa c ≤ 1000 → lbt ob d = b → 0 ≤ p → p + (en c).length < nn → EA σ a p (en c) → (∀ ob' : Int64, (∀ j, 0 ≤ j → j ≤ d → lbt ob' j = lbt ob j) → x_E MX12_behind 0 0 121 (bhL a fr ob' d (p + (en c).length) (n + pa c)) [] (St σ) 0 0 o Y) → x_E MX12_behind 0 0 (if v = true then 59 else 121) (bhL a fr ob d p n) [] (St σ) 0 0 o Y) → (∀ (b v : Bool) (lo : Int), 0 ≤ lo → okf b v lo n9 → ∀ (p d n : Int) (ob : Int64), 1 ≤ d → d + pa n9 < 57 → 0 ≤ n → n + pa n9 ≤ 1000 → lbt ob d = b → 0 ≤ p → p + (en n9).length < nn → EA σ a p (en n9) → (∀ ob' : Int64, (∀ j, 0 ≤ j → j ≤ d → lbt ob' j = lbt ob j) → x_E MX12_behind 0 0 121 (bhL a fr ob' d (p + (en n9).length) (n + pa n9)) [] (St σ) 0 0 o Y) → x_E MX12_behind 0 0 (if v = true then 59 else 121) (bhL a fr ob d p n) [] (St σ) 0 0 o Y) → ∀ (b v : Bool) (lo : Int), 0 ≤ lo → b = v → okf bc false 0 c → okf b false lo n9 → ∀ (p d n : Int) (ob : Int64), 1 ≤ d → d + (1 + pa c + pa n9) < 57 → 0 ≤ n → n + (1 + pa c + pa n9) ≤ 1000 → lbt ob d = b → 0 ≤ p → p + (y :: (en c ++ -1 :: en n9)).length < nn → EA σ a p (y :: (en c ++ -1 :: en n9)) → (∀ ob' : Int64, (∀ j, 0 ≤ j → j ≤ d → lbt ob' j = lbt ob j) → x_E MX12_behind 0 0 121 (bhL a fr ob' d (p + (y :: (en c ++ -1 :: en n9)).length) (n + (1 + pa c + pa n9))) [] (St σ) 0 0 o Y) → x_E MX12_behind 0 0 (if v = true then 59 else 121) (bhL a fr ob d p n) [] (St σ) 0 0 o Y := by
    intro y bc c n9 hy ihc ihn b v lo hlo hbv hc hn9 p d n ob hd hd2 hn hn2 hob hp hp2 hE kk
    have q1 := pa_nn c
    have q2 := pa_nn n9
    obtain ⟨e1, e2⟩ := EA.cons hE
    obtain ⟨e3, e4⟩ := EA.app e2
    obtain ⟨e5, e6⟩ := EA.cons e4
    simp only [List.length_cons, List.length_append] at hp2 kk
    have mid : x_E MX12_behind 0 0 59 (bhL a fr ob d p n) [] (St σ) 0 0 o Y := by
      refine bh_nest ha (by omega) (by omega) e1 (by omega) (fun ob' hob' => ?_)
      have hb' : lbt ob' (d + 1) = bc := by
        rw [hob' (d + 1) (by omega) (by omega), if_pos rfl]
        rcases hy with ⟨rfl, rfl⟩ | ⟨rfl, rfl⟩
        · decide
        · decide
      refine ihc bc false 0 (by omega) hc (p + 1) (d + 1) (n + 1) ob' (by omega) (by omega) (by omega) (by omega) hb' (by omega) (by omega) e3 (fun ob2 h2 => ?_)
      refine bh_close ha (by omega) (by omega) e5 ?_
      rw [show d + 1 + -1 = d by omega]
      refine ihn b false lo hlo hn9 _ d (n + 1 + pa c) ob2 (by omega) (by omega) (by omega) (by omega) ?_ (by omega) (by omega) e6 (fun ob3 h3 => ?_)
      · rw [h2 d (by omega) (by omega), hob' d (by omega) (by omega), if_neg (by omega)]
        exact hob
      · have := kk ob3 (fun j j0 j1 => by rw [h3 j j0 j1, h2 j j0 (by omega), hob' j j0 (by omega), if_neg (by omega)])
        rw [show p + 1 + ((en c).length : Int) + 1 + ((en n9).length : Int) = p + (((en c).length + ((en n9).length + 1) + 1 : Nat) : Int) by omega, show n + 1 + pa c + pa n9 = n + (1 + pa c + pa n9) by omega]
        exact this
    cases v with
    | true => exact mid
    | false =>
      refine bh_open ha (by omega) (by omega) e1 (by omega) ?_
      rw [hob, hbv, show p + bi false = p from Int.add_zero p]
      exact mid
  induction F with
  | num z =>
    intro b v lo hlo h p d n ob hd hd2 hn hn2 hob hp hp2 hE kk
    obtain ⟨rfl, rfl⟩ := h
    have := kk ob (fun _ _ _ => rfl)
    simp only [en, pa, List.length_nil] at this
    rw [show p + ((0 : Nat) : Int) = p by omega, show n + 0 = n by omega] at this
    exact this
  | var z =>
    intro b v lo hlo h
    exact h.elim
  | neg z ih =>
    intro b v lo hlo h
    exact h.elim
  | mulL k F ih =>
    intro b v lo hlo h p d n ob hd hd2 hn hn2 hob hp hp2 hE kk
    obtain ⟨rfl, rfl, h3, h4⟩ := h
    simp only [en, pa, List.length_cons] at hp2 hE kk hd2 hn2
    obtain ⟨e1, e2⟩ := EA.cons hE
    refine bh_open ha (by have := pa_nn F; omega) (by omega) e1 (by omega) ?_
    rw [hob, show p + bi true = p + 1 from rfl]
    refine ih true true (k + 1) (by omega) h4 (p + 1) d n ob hd hd2 hn hn2 hob (by omega) (by omega) e2 (fun ob' h' => ?_)
    have := kk ob' h'
    rw [show p + 1 + ((en F).length : Int) = p + (((en F).length + 1 : Nat) : Int) by omega]
    exact this
  | mulR n9 x ih =>
    intro b v lo hlo h p d n ob hd hd2 hn hn2 hob hp hp2 hE kk
    obtain ⟨hbv, h2, h3⟩ := h
    have q2 := pa_nn n9
    simp only [en, pa, List.length_append] at hp2 hE kk hd2 hn2
    obtain ⟨e3, e4⟩ := EA.app hE
    obtain ⟨r, hr, hcs⟩ := lf_hd h2
    have hll := lf_len x
    have e1 : σ a p = knd x := by
      rw [hr] at e3
      exact (EA.cons e3).1
    have hk := knd_bnd x
    have mid : x_E MX12_behind 0 0 59 (bhL a fr ob d p n) [] (St σ) 0 0 o Y := by
      refine bh_leaf ha (by omega) e1 (by omega) (L := (lf x).length) ?_ ?_
      · rcases hcs with ⟨h5, h6⟩ | ⟨h5, h6⟩
        · rw [if_pos h5, h6]; rfl
        · rw [if_neg (by omega), h6]; rfl
      · refine ih b false lo hlo h3 _ d (n + 1) ob hd (by omega) (by omega) (by omega) hob (by omega) (by omega) e4 (fun ob' h' => ?_)
        have := kk ob' h'
        rw [show p + ((lf x).length : Int) + ((en n9).length : Int) = p + (((lf x).length + (en n9).length : Nat) : Int) by omega, show n + 1 + pa n9 = n + (1 + pa n9) by omega]
        exact this
    cases v with
    | true => exact mid
    | false =>
      refine bh_open ha (by omega) (by omega) e1 (by omega) ?_
      rw [hob, hbv, show p + bi false = p from Int.add_zero p]
      exact mid
  | add c n9 ihc ihn =>
    intro b v lo hlo h
    obtain ⟨hbv, h2, h3⟩ := h
    exact nest 4 true c n9 (Or.inr ⟨rfl, rfl⟩) ihc ihn b v lo hlo hbv h2 h3
  | sub c n9 ihc ihn =>
    intro b v lo hlo h
    obtain ⟨hbv, h2, h3⟩ := h
    exact nest 3 false c n9 (Or.inl ⟨rfl, rfl⟩) ihc ihn b v lo hlo hbv h2 h3
end BH
theorem bh_end {σ : xSig} {a : Nat} {fr : Int} {ob : Int64} {d p n : Int} (hd : d = 0) : x_E MX12_behind 0 0 121 (bhL a fr ob d p n) [] (St σ) 0 0 (iv p) (St (xu σ 311 0 n)) := by
  subst hd
  refine e_iload 69 123 rfl rfl rfl ?_
  refine e_if_gt 70 11 126 rfl rfl rfl (by unfold xr at *; omega) (fun h9 => absurd h9 (by omega)) (fun _ => ?_)
  refine e_aload_n 71 127 rfl rfl rfl rfl ?_
  refine e_iconst 72 128 rfl rfl ?_
  refine e_iload 73 130 rfl rfl rfl ?_
  refine g_iastore 74 131 rfl rfl (Nat.le_of_ble_eq_true rfl) rfl (by omega) (by omega) (by omega) ?_
  refine e_iload 75 133 rfl rfl rfl ?_
  exact e_ireturn 76 rfl rfl (Nat.le_of_ble_eq_true rfl) (Nat.le_of_ble_eq_true rfl)
theorem sp_behind {σ : xSig} {a nn : Nat} {p : Int} {v : Fo} (h : MV σ a nn p v) : x_Sp MX12_behind 0 0 [.ref a, .int (ii p), .ref 311] (St σ) (iv (p + (en v).length)) (St (xu σ 311 0 (pa v))) := by
  obtain ⟨ha, hv, h24, hp, hp2, hE⟩ := h
  have hnn := ha.2.2.1
  have hol := ok1_pa hv
  have st : ∀ {o Y}, x_E MX12_behind 0 0 59 (bhL a p (ll 0) 0 p 0) [] (St σ) 0 0 o Y → x_Sp MX12_behind 0 0 [.ref a, .int (ii p), .ref 311] (St σ) o Y := by
    intro o Y kk
    refine e_entry okX12_behind (Nat.le_of_ble_eq_true rfl) (ls := [some _, some _, some _, none, none, none, none, none, none]) rfl ?_
    refine e_lconst 0 1 rfl rfl ?_
    refine e_lstore_n 1 2 (ls' := [some _, some _, some _, some _, none, none, none, none, none]) rfl rfl rfl (Nat.le_of_ble_eq_true rfl) rfl ?_
    refine e_iconst 2 3 rfl rfl ?_
    refine e_istore 3 5 (ls' := [some _, some _, some _, some _, none, some _, none, none, none]) rfl rfl (Nat.le_of_ble_eq_true rfl) rfl ?_
    refine e_iload_n 4 6 rfl rfl rfl rfl ?_
    refine e_istore 5 8 (ls' := [some _, some _, some _, some _, none, some _, some _, none, none]) rfl rfl (Nat.le_of_ble_eq_true rfl) rfl ?_
    refine e_iconst 6 9 rfl rfl ?_
    refine e_istore 7 11 (ls' := [some _, some _, some _, some _, none, some _, some _, some _, none]) rfl rfl (Nat.le_of_ble_eq_true rfl) rfl ?_
    refine e_iload 8 13 rfl rfl rfl ?_
    refine e_if_le 9 33 16 rfl rfl rfl (by unfold xr at *; omega) (fun _ => ?_) (fun h9 => absurd h9 (by omega))
    refine e_iload 18 35 rfl rfl rfl ?_
    refine e_iload 19 37 rfl rfl rfl ?_
    refine e_if_le 20 55 40 rfl rfl rfl (by unfold xr at *; omega) (fun _ => ?_) (fun h9 => absurd h9 (by omega))
    refine e_iconst 31 56 rfl rfl ?_
    refine e_iadd 32 57 rfl rfl ?_
    refine e_istore 33 59 (ls' := [some _, some _, some _, some _, none, some _, some _, some _, none]) rfl rfl (Nat.le_of_ble_eq_true rfl) rfl ?_
    rw [show p + 0 = p by omega]
    exact kk
  have nest : ∀ (y : Int) (bc : Bool) (c : Fo), (y = 3 ∧ bc = false ∨ y = 4 ∧ bc = true) → okf bc false 0 c → pa v = 1 + pa c → en v = y :: (en c ++ [-1]) → x_Sp MX12_behind 0 0 [.ref a, .int (ii p), .ref 311] (St σ) (iv (p + (en v).length)) (St (xu σ 311 0 (pa v))) := by
    intro y bc c hy hc e1 e2
    rw [e2] at hE hp2 ⊢
    rw [e1]
    obtain ⟨d1, d2⟩ := EA.cons hE
    obtain ⟨d3, d4⟩ := EA.app d2
    obtain ⟨d5, d6⟩ := EA.cons d4
    simp only [List.length_cons, List.length_append, List.length_nil] at hp2 ⊢
    have q1 := pa_nn c
    refine st (bh_nest ha (by omega) (by omega) d1 (by omega) (fun ob' hob' => ?_))
    refine bh_fo ha c bc false 0 (by omega) hc (p + 1) (0 + 1) (0 + 1) ob' (by omega) (by omega) (by omega) (by omega) ?_ (by omega) (by omega) d3 (fun ob2 h2 => ?_)
    · rw [hob' (0 + 1) (by omega) (by omega), if_pos rfl]
      rcases hy with ⟨rfl, rfl⟩ | ⟨rfl, rfl⟩
      · decide
      · decide
    · refine bh_close ha (by omega) (by omega) d5 ?_
      have := bh_end (σ := σ) (a := a) (fr := p) (ob := ob2) (d := 0 + 1 + -1) (p := p + 1 + (en c).length + 1) (n := 0 + 1 + pa c) (by omega)
      rw [show p + 1 + ((en c).length : Int) + 1 = p + (((en c).length + (0 + 1) + 1 : Nat) : Int) by omega, show 0 + 1 + pa c = 1 + pa c by omega] at this
      rw [show p + 1 + ((en c).length : Int) + 1 = p + (((en c).length + (0 + 1) + 1 : Nat) : Int) by omega, show 0 + 1 + pa c = 1 + pa c by omega]
      exact this
  rcases hv with ⟨x, rfl, hx⟩ | ⟨c, rfl, hc⟩ | ⟨c, rfl, hc⟩
  · simp only [en, List.append_nil] at hE hp2 ⊢
    obtain ⟨r, hr, hcs⟩ := lf_hd hx
    have hll := lf_len x
    have e1 : σ a p = knd x := by
      rw [hr] at hE
      exact (EA.cons hE).1
    have hk := knd_bnd x
    refine st (bh_leaf ha (by omega) e1 (by omega) (L := (lf x).length) ?_ ?_)
    · rcases hcs with ⟨h5, h6⟩ | ⟨h5, h6⟩
      · rw [if_pos h5, h6]; rfl
      · rw [if_neg (by omega), h6]; rfl
    · exact bh_end rfl
  · exact nest 4 true c (Or.inr ⟨rfl, rfl⟩) hc (by simp [pa]) (by simp [en])
  · exact nest 3 false c (Or.inl ⟨rfl, rfl⟩) hc (by simp [pa]) (by simp [en])
theorem sp_mEnd {σ : xSig} {a nn : Nat} {p : Int} {v : Fo} (h : MV σ a nn p v) : x_Sp MX12_end 0 0 [.ref 281, .ref a, .int (ii p)] (St σ) (iv (p + (en v).length)) (St (xu σ 311 0 (pa v))) := by
  refine e_entry okX12_end (Nat.le_of_ble_eq_true rfl) (ls := [some _, some _, some _]) rfl ?_
  refine e_aload_n 0 1 rfl rfl rfl rfl ?_
  refine e_iload_n 1 2 rfl rfl rfl rfl ?_
  refine e_aload_n 2 3 rfl rfl rfl rfl ?_
  refine g_getR 3 6 ckX12 flX12_109 rfl rfl (Nat.le_of_ble_eq_true rfl) rfl rfl ?_
  refine g_callS 4 9 (sp_behind h) okX12_behind csX12_127 ⟨(Nat.le_of_ble_eq_true rfl), (Nat.le_of_ble_eq_true rfl)⟩ rfl rfl rfl rfl (Nat.le_of_ble_eq_true rfl) (Nat.le_of_ble_eq_true rfl) (Nat.le_of_ble_eq_true rfl) ?_
  exact e_ireturn 5 rfl rfl (Nat.le_of_ble_eq_true rfl) (Nat.le_of_ble_eq_true rfl)
theorem sp_mParts {σ : xSig} {a nn : Nat} {p : Int} {v : Fo} (h : MV σ a nn p v) : x_Sp MX12_parts 0 0 [.ref 281, .ref a, .int (ii p)] (St σ) (iv (pa v)) (St (xu σ 311 0 (pa v))) := by
  refine e_entry okX12_parts (Nat.le_of_ble_eq_true rfl) (ls := [some _, some _, some _]) rfl ?_
  refine e_aload_n 0 1 rfl rfl rfl rfl ?_
  refine e_iload_n 1 2 rfl rfl rfl rfl ?_
  refine e_aload_n 2 3 rfl rfl rfl rfl ?_
  refine g_getR 3 6 ckX12 flX12_109 rfl rfl (Nat.le_of_ble_eq_true rfl) rfl rfl ?_
  refine g_callS 4 9 (sp_behind h) okX12_behind csX12_127 ⟨(Nat.le_of_ble_eq_true rfl), (Nat.le_of_ble_eq_true rfl)⟩ rfl rfl rfl rfl (Nat.le_of_ble_eq_true rfl) (Nat.le_of_ble_eq_true rfl) (Nat.le_of_ble_eq_true rfl) ?_
  refine e_pop 5 10 rfl rfl rfl ?_
  refine e_aload_n 6 11 rfl rfl rfl rfl ?_
  refine g_getR 7 14 ckX12 flX12_109 rfl rfl (Nat.le_of_ble_eq_true rfl) rfl rfl ?_
  refine e_iconst 8 15 rfl rfl ?_
  refine g_iaload 9 16 rfl rfl (Nat.le_of_ble_eq_true rfl) rfl (by omega) (by omega) (by omega) (xu_same σ 311 0 (pa v)) ?_
  exact e_ireturn 10 rfl rfl (Nat.le_of_ble_eq_true rfl) (Nat.le_of_ble_eq_true rfl)
