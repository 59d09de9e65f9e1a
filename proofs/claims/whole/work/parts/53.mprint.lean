/-! ===== the model: print ===== -/
def prF : Fo → Int → Int
  | .num _, h => h
  | .var _, h => h
  | .neg _, h => h
  | .mulL k F, h => prF F (pon h (1 + k) 0)
  | .mulR n x, h => prF n (pon h x 0)
  | .add c n, h => prF n (prF c (pon h 5000 (nel c)))
  | .sub c n, h => prF n (prF c (pon h 4000 (nel c)))
theorem pon_k {h k w : Int} (hk : 0 ≤ k ∧ k < 8) : pon h (1 + k) w = 31 * h + k := by
  unfold pon
  rw [if_neg (by omega), if_pos (by omega)]
  omega
theorem pon_0 (h w : Int) : pon h 0 w = h := by
  unfold pon
  rw [if_pos rfl]
theorem pon_l {h x w : Int} (hx : lfx x) : pon h x w = if knd x = 1 then 31 * (31 * h + 1 + 1) + (x - 2000) else if knd x = 2 then 31 * (31 * h + 2 + 1) + (x - 3000) else 31 * h + 0 + 1 := by
  have := lfx_b hx
  unfold pon
  rw [if_neg (by omega), if_neg (by omega)]
  rcases lfx_k hx with ⟨q1, q2⟩ | ⟨q1, q2⟩ | ⟨q1, q2⟩ <;> rw [q2]
  · rw [if_neg (by decide), if_neg (by decide), if_pos rfl, if_neg (by decide), if_neg (by decide)]
    omega
  · rw [if_pos rfl, if_pos rfl]
    omega
  · rw [if_neg (by decide), if_pos rfl, if_neg (by decide), if_pos rfl]
    omega
theorem pon_n (h w : Int) : pon h 5000 w = 31 * (31 * h + 4 + 1) + w ∧ pon h 4000 w = 31 * (31 * h + 3 + 1) + w := by
  constructor
  · unfold pon
    rw [if_neg (by omega), if_neg (by omega), show knd 5000 = 4 from by decide, if_neg (by decide), if_neg (by decide), if_neg (by decide)]
    omega
  · unfold pon
    rw [if_neg (by omega), if_neg (by omega), show knd 4000 = 3 from by decide, if_neg (by decide), if_neg (by decide), if_neg (by decide)]
    omega
theorem wsc_nd {h : Int} (ht : trn h = 1) {c : Fo} {b : Bool} (hc : okf b false 0 c) (s : List Int) : wsc (h :: (tk c ++ 0 :: s)) 0 = nel c := by
  have e1 : wsc (0 :: s) 1 = 0 := by
    simp only [wsc]
    rw [trn_0, if_neg (by omega), if_pos (by omega)]
    rfl
  have e2 := wsc_sk1 c b false 0 (by omega) hc (0 :: s)
  simp only [wsc]
  rw [ht, if_neg (by omega), if_neg (by omega), show (0 : Int) + 1 = 1 from rfl, e2, e1]
  omega
theorem psc_sk : ∀ F : Fo, ∀ (b v : Bool) (lo : Int), 0 ≤ lo → okf b v lo F → ∀ (s : List Int) (d h : Int), 1 ≤ d → psc (tk F ++ s) d h = psc s d (prF F h) := by
  intro F
  induction F with
  | num z => intro b v lo h0 h s d h9 hd; rfl
  | var z => intro b v lo h0 h; exact h.elim
  | neg z ih => intro b v lo h0 h; exact h.elim
  | mulL k F ih =>
    intro b v lo h0 h s d h9 hd
    obtain ⟨-, -, h3, h4⟩ := h
    simp only [tk, prF, List.cons_append, psc]
    rw [trn_k (by omega), if_neg (by omega), pon_k (by omega), pon_k (by omega), Int.add_zero]
    exact ih _ _ (k + 1) (by omega) h4 s d _ hd
  | mulR n x ih =>
    intro b v lo h0 h s d h9 hd
    obtain ⟨-, h2, h3⟩ := h
    simp only [tk, prF, List.cons_append, psc]
    rw [(lfx_b h2).2.2, if_neg (by omega), pon_l h2, pon_l h2, Int.add_zero]
    exact ih _ _ lo h0 h3 s d _ hd
  | add c n ihc ihn =>
    intro b v lo h0 h s d h9 hd
    obtain ⟨-, h2, h3⟩ := h
    have e1 : psc (5000 :: (tk c ++ 0 :: (tk n ++ s))) d h9 = psc (tk c ++ 0 :: (tk n ++ s)) (d + 1) (pon h9 5000 (wsc (5000 :: (tk c ++ 0 :: (tk n ++ s))) 0)) := by
      rw [psc, trn_5, if_neg (by omega)]
    simp only [tk, prF, List.cons_append, List.append_assoc]
    rw [e1, wsc_nd trn_5 h2, ihc _ _ 0 (by omega) h2 _ (d + 1) _ (by omega), psc, trn_0, if_neg (by omega), pon_0, show d + 1 + -1 = d by omega]
    exact ihn _ _ lo h0 h3 s d _ hd
  | sub c n ihc ihn =>
    intro b v lo h0 h s d h9 hd
    obtain ⟨-, h2, h3⟩ := h
    have e1 : psc (4000 :: (tk c ++ 0 :: (tk n ++ s))) d h9 = psc (tk c ++ 0 :: (tk n ++ s)) (d + 1) (pon h9 4000 (wsc (4000 :: (tk c ++ 0 :: (tk n ++ s))) 0)) := by
      rw [psc, trn_4, if_neg (by omega)]
    simp only [tk, prF, List.cons_append, List.append_assoc]
    rw [e1, wsc_nd trn_4 h2, ihc _ _ 0 (by omega) h2 _ (d + 1) _ (by omega), psc, trn_0, if_neg (by omega), pon_0, show d + 1 + -1 = d by omega]
    exact ihn _ _ lo h0 h3 s d _ hd
/-- the print of what begins a row of signs is that of the value there -/
theorem psc_ok {v : Fo} (h : ok1 v) (s : List Int) (h9 : Int) : psc (tk v ++ s) 0 h9 = prF v h9 := by
  rcases h with ⟨x, rfl, hx⟩ | ⟨c, rfl, hc⟩ | ⟨c, rfl, hc⟩
  · have := lfx_b hx
    simp only [tk, prF, List.cons_append, List.nil_append]
    rw [psc, if_pos (by omega), pon_l hx, pon_l hx]
  · have e1 : psc (5000 :: (tk c ++ 0 :: s)) 0 h9 = psc (tk c ++ 0 :: s) (0 + 1) (pon h9 5000 (wsc (5000 :: (tk c ++ 0 :: s)) 0)) := by
      rw [psc, trn_5, if_neg (by omega)]
    simp only [tk, prF, List.cons_append, List.append_assoc, List.nil_append]
    rw [e1, wsc_nd trn_5 hc, psc_sk c _ _ 0 (by omega) hc _ (0 + 1) _ (by omega), psc, trn_0, if_pos (by omega), pon_0]
  · have e1 : psc (4000 :: (tk c ++ 0 :: s)) 0 h9 = psc (tk c ++ 0 :: s) (0 + 1) (pon h9 4000 (wsc (4000 :: (tk c ++ 0 :: s)) 0)) := by
      rw [psc, trn_4, if_neg (by omega)]
    simp only [tk, prF, List.cons_append, List.append_assoc, List.nil_append]
    rw [e1, wsc_nd trn_4 hc, psc_sk c _ _ 0 (by omega) hc _ (0 + 1) _ (by omega), psc, trn_0, if_pos (by omega), pon_0]
abbrev prL (a : Nat) (fr h : Int) (ob : Int64) (d p : Int) : List (Option Value) := [some (.ref 281), some (.ref a), some (.int (ii fr)), some (.long (ll h)), none, some (.long ob), none, some (.int (ii d)), some (.int (ii p)), none]
def pR (pc : Nat) (ls : List (Option Value)) (σ : xSig) (o : xO) : Prop := ∃ σf, x_E MX12_printOf 0 0 pc ls [] (St σ) 0 0 o (St σf) ∧ FP m11 σ σf
section PR
variable {σ : xSig} {a nn : Nat} {fr : Int} {o : xO}
theorem pr_close {ob : Int64} {h d p : Int} (ha : isMA a nn) (hd : 1 ≤ d ∧ d < 60) (hp : 0 ≤ p ∧ p < nn) (hm : σ a p = -1) (kk : pR 178 (prL a fr h ob (d + -1) (p + 1)) σ o) : pR 178 (prL a fr h ob d p) σ o := by
  have hnn := ha.2.2.1
  obtain ⟨σf, k, f⟩ := kk
  refine ⟨σf, ?_, f⟩
  refine e_iload 105 180 rfl rfl rfl ?_
  refine e_if_gt 106 13 183 rfl rfl rfl (by unfold xr at *; omega) (fun _ => ?_) (fun h9 => absurd h9 (by omega))
  refine e_iload 8 15 rfl rfl rfl ?_
  refine e_if_le 9 35 18 rfl rfl rfl (by unfold xr at *; omega) (fun h9 => absurd h9 (by omega)) (fun _ => ?_)
  refine e_aload_n 10 19 rfl rfl rfl rfl ?_
  refine e_iload 11 21 rfl rfl rfl ?_
  refine g_iaload 12 22 rfl rfl ha.1 ha.2.1 (by omega) (by omega) (by omega) hm ?_
  refine e_iconst 13 23 rfl rfl ?_
  refine e_icmp_ne 14 35 26 rfl rfl rfl (by unfold xr at *; omega) (by unfold xr at *; omega) (fun h9 => absurd h9 (fun q => q rfl)) (fun _ => ?_)
  refine e_iinc 15 29 (ls' := [some _, some _, some _, some _, none, some _, none, some _, some _, none]) rfl rfl (Nat.le_of_ble_eq_true rfl) rfl rfl ?_
  refine e_iinc 16 32 (ls' := [some _, some _, some _, some _, none, some _, none, some _, some _, none]) rfl rfl (Nat.le_of_ble_eq_true rfl) rfl rfl ?_
  refine e_goto 17 178 rfl rfl ?_
  exact k
theorem pr_openR {ob : Int64} {h d p : Int} (ha : isMA a nn) (hd : 1 ≤ d ∧ d < 60) (hp : 0 ≤ p ∧ p < nn) {y : Int} (hy : σ a p = y) (hyr : -1 < y ∧ y < 10000) (hob : lbt ob d = false) (kk : pR 67 (prL a fr h ob d p) σ o) : pR 178 (prL a fr h ob d p) σ o := by
  have hnn := ha.2.2.1
  obtain ⟨σf, k, f⟩ := kk
  refine ⟨σf, ?_, f⟩
  refine e_iload 105 180 rfl rfl rfl ?_
  refine e_if_gt 106 13 183 rfl rfl rfl (by unfold xr at *; omega) (fun _ => ?_) (fun h9 => absurd h9 (by omega))
  refine e_iload 8 15 rfl rfl rfl ?_
  refine e_if_le 9 35 18 rfl rfl rfl (by unfold xr at *; omega) (fun h9 => absurd h9 (by omega)) (fun _ => ?_)
  refine e_aload_n 10 19 rfl rfl rfl rfl ?_
  refine e_iload 11 21 rfl rfl rfl ?_
  refine g_iaload 12 22 rfl rfl ha.1 ha.2.1 (by omega) (by omega) (by omega) hy ?_
  refine e_iconst 13 23 rfl rfl ?_
  refine e_icmp_ne 14 35 26 rfl rfl rfl (by unfold xr at *; omega) (by unfold xr at *; omega) (fun _ => ?_) (fun h9 => absurd h9 (by omega))
  refine e_iload 18 37 rfl rfl rfl ?_
  refine e_if_le 19 67 40 rfl rfl rfl (by unfold xr at *; omega) (fun h9 => absurd h9 (by omega)) (fun _ => ?_)
  refine e_lload 20 42 rfl rfl rfl ?_
  refine e_iload 21 44 rfl rfl rfl ?_
  refine e_lshr 22 45 rfl rfl ?_
  refine e_lconst 23 46 rfl rfl ?_
  refine e_land 24 47 rfl rfl ?_
  refine e_lconst 25 48 rfl rfl ?_
  refine e_lcmpI 26 49 rfl rfl ((l_bit ob (d := d) (by omega) (by omega)).trans (by rw [hob]; rfl : _ = ii (-1))) ?_
  refine e_if_ne 27 67 52 rfl rfl rfl (by unfold xr at *; omega) (fun _ => ?_) (fun h9 => absurd h9 (by omega))
  exact k
theorem pr_openF {ob : Int64} {h d p : Int} (ha : isMA a nn) (hd : 1 ≤ d ∧ d < 60) (hp : 0 ≤ p ∧ p < nn) {y : Int} (hy : σ a p = y) (hyr : -1 < y ∧ y < 10000) (hob : lbt ob d = true) (kk : pR 67 (prL a fr (31 * h + y) ob d (p + 1)) σ o) : pR 178 (prL a fr h ob d p) σ o := by
  have hnn := ha.2.2.1
  obtain ⟨σf, k, f⟩ := kk
  refine ⟨σf, ?_, f⟩
  refine e_iload 105 180 rfl rfl rfl ?_
  refine e_if_gt 106 13 183 rfl rfl rfl (by unfold xr at *; omega) (fun _ => ?_) (fun h9 => absurd h9 (by omega))
  refine e_iload 8 15 rfl rfl rfl ?_
  refine e_if_le 9 35 18 rfl rfl rfl (by unfold xr at *; omega) (fun h9 => absurd h9 (by omega)) (fun _ => ?_)
  refine e_aload_n 10 19 rfl rfl rfl rfl ?_
  refine e_iload 11 21 rfl rfl rfl ?_
  refine g_iaload 12 22 rfl rfl ha.1 ha.2.1 (by omega) (by omega) (by omega) hy ?_
  refine e_iconst 13 23 rfl rfl ?_
  refine e_icmp_ne 14 35 26 rfl rfl rfl (by unfold xr at *; omega) (by unfold xr at *; omega) (fun _ => ?_) (fun h9 => absurd h9 (by omega))
  refine e_iload 18 37 rfl rfl rfl ?_
  refine e_if_le 19 67 40 rfl rfl rfl (by unfold xr at *; omega) (fun h9 => absurd h9 (by omega)) (fun _ => ?_)
  refine e_lload 20 42 rfl rfl rfl ?_
  refine e_iload 21 44 rfl rfl rfl ?_
  refine e_lshr 22 45 rfl rfl ?_
  refine e_lconst 23 46 rfl rfl ?_
  refine e_land 24 47 rfl rfl ?_
  refine e_lconst 25 48 rfl rfl ?_
  refine e_lcmpI 26 49 rfl rfl ((l_bit ob (d := d) (by omega) (by omega)).trans (by rw [hob]; rfl : _ = ii 0)) ?_
  refine e_if_ne 27 67 52 rfl rfl rfl (by unfold xr at *; omega) (fun h9 => absurd h9 (fun q => q rfl)) (fun _ => ?_)
  refine e_ldc2_w 28 55 kcX12_137 (by rfl : _ = ll 31) rfl rfl ?_
  refine e_lload_n 29 56 rfl rfl rfl rfl ?_
  refine e_lmul 30 57 rfl rfl ?_
  refine e_aload_n 31 58 rfl rfl rfl rfl ?_
  refine e_iload 32 60 rfl rfl rfl ?_
  refine g_iaload 33 61 rfl rfl ha.1 ha.2.1 (by omega) (by omega) (by omega) hy ?_
  refine e_i2l 34 62 rfl rfl (by unfold xr at *; omega) ?_
  refine e_ladd 35 63 rfl rfl ?_
  refine e_lstore_n 36 64 (ls' := [some _, some _, some _, some _, none, some _, none, some _, some _, none]) rfl rfl rfl (Nat.le_of_ble_eq_true rfl) rfl ?_
  refine e_iinc 37 67 (ls' := [some _, some _, some _, some _, none, some _, none, some _, some _, none]) rfl rfl (Nat.le_of_ble_eq_true rfl) rfl rfl ?_
  exact k
theorem pr_leaf {ob : Int64} {h d p x : Int} (ha : isMA a nn) (hx : lfx x) (hp : 0 ≤ p ∧ p + (lf x).length ≤ nn) (hE : EA σ a p (lf x)) (kk : pR 178 (prL a fr (pon h x 0) ob d (p + (lf x).length)) σ o) : pR 67 (prL a fr h ob d p) σ o := by
  have hnn := ha.2.2.1
  obtain ⟨σf, k, f⟩ := kk
  refine ⟨σf, ?_, f⟩
  rw [pon_l hx] at k
  rcases lfx_k hx with ⟨q1, q2⟩ | ⟨q1, q2⟩ | ⟨q1, q2⟩
  · rw [q2, if_neg (by decide), if_neg (by decide)] at k
    rw [show lf x = [0] by unfold lf; rw [q2]; rfl] at k hE hp
    have e1 := (EA.cons hE).1
    simp only [List.length_cons, List.length_nil] at hp
    refine e_aload_n 38 68 rfl rfl rfl rfl ?_
    refine e_iload 39 70 rfl rfl rfl ?_
    refine g_iaload 40 71 rfl rfl ha.1 ha.2.1 (by omega) (by omega) (by omega) e1 ?_
    refine e_istore 41 73 (ls' := [some _, some _, some _, some _, none, some _, none, some _, some _, some _]) rfl rfl (Nat.le_of_ble_eq_true rfl) rfl ?_
    refine e_ldc2_w 42 76 kcX12_137 (by rfl : _ = ll 31) rfl rfl ?_
    refine e_lload_n 43 77 rfl rfl rfl rfl ?_
    refine e_lmul 44 78 rfl rfl ?_
    refine e_iload 45 80 rfl rfl rfl ?_
    refine e_i2l 46 81 rfl rfl (by unfold xr at *; omega) ?_
    refine e_ladd 47 82 rfl rfl ?_
    refine e_lconst 48 83 rfl rfl ?_
    refine e_ladd 49 84 rfl rfl ?_
    refine e_lstore_n 50 85 (ls' := [some _, some _, some _, some _, none, some _, none, some _, some _, some _]) rfl rfl rfl (Nat.le_of_ble_eq_true rfl) rfl ?_
    refine e_iload 51 87 rfl rfl rfl ?_
    refine g_callS 52 90 (sp_mIsLong (x := 0) (by unfold xr; omega)) okX12_isLong csX12_121 ⟨(Nat.le_of_ble_eq_true rfl), (Nat.le_of_ble_eq_true rfl)⟩ rfl rfl rfl rfl (Nat.le_of_ble_eq_true rfl) (Nat.le_of_ble_eq_true rfl) (Nat.le_of_ble_eq_true rfl) ?_
    refine e_ifb_eq 53 107 93 rfl rfl rfl (fun h5 => ?_) (fun h5 => ?_)
    · skip
      refine e_iload 65 109 rfl rfl rfl ?_
      refine e_iconst 66 110 rfl rfl ?_
      refine e_icmp_lt 67 160 113 rfl rfl rfl (by unfold xr at *; omega) (by unfold xr at *; omega) (fun _ => ?_) (fun h9 => absurd h9 (by omega))
      refine e_iload 96 162 rfl rfl rfl ?_
      refine e_iload 97 164 rfl rfl rfl ?_
      refine g_callS 98 167 (sp_mIsLong (x := 0) (by unfold xr; omega)) okX12_isLong csX12_121 ⟨(Nat.le_of_ble_eq_true rfl), (Nat.le_of_ble_eq_true rfl)⟩ rfl rfl rfl rfl (Nat.le_of_ble_eq_true rfl) (Nat.le_of_ble_eq_true rfl) (Nat.le_of_ble_eq_true rfl) ?_
      refine e_ifb_eq 99 174 170 rfl rfl rfl (fun h6 => ?_) (fun h6 => ?_)
      · skip
        refine e_iconst 102 175 rfl rfl ?_
        refine e_iadd 103 176 rfl rfl ?_
        refine e_istore 104 178 (ls' := [some _, some _, some _, some _, none, some _, none, some _, some _, some _]) rfl rfl (Nat.le_of_ble_eq_true rfl) rfl ?_
        refine e_dropm [true, true, true, true, true, true, true, true, true, false] (ls' := [some _, some _, some _, some _, none, some _, none, some _, some _, none]) rfl ?_
        exact k
      · skip
        exact absurd h6 (by decide)
    · skip
      exact absurd h5 (by decide)
  · rw [q2, if_pos rfl] at k
    rw [show lf x = [1, x - 2000] by unfold lf; rw [q2]; rfl] at k hE hp
    obtain ⟨e1, e2⟩ := EA.cons hE
    have e3 := (EA.cons e2).1
    simp only [List.length_cons, List.length_nil] at hp
    refine e_aload_n 38 68 rfl rfl rfl rfl ?_
    refine e_iload 39 70 rfl rfl rfl ?_
    refine g_iaload 40 71 rfl rfl ha.1 ha.2.1 (by omega) (by omega) (by omega) e1 ?_
    refine e_istore 41 73 (ls' := [some _, some _, some _, some _, none, some _, none, some _, some _, some _]) rfl rfl (Nat.le_of_ble_eq_true rfl) rfl ?_
    refine e_ldc2_w 42 76 kcX12_137 (by rfl : _ = ll 31) rfl rfl ?_
    refine e_lload_n 43 77 rfl rfl rfl rfl ?_
    refine e_lmul 44 78 rfl rfl ?_
    refine e_iload 45 80 rfl rfl rfl ?_
    refine e_i2l 46 81 rfl rfl (by unfold xr at *; omega) ?_
    refine e_ladd 47 82 rfl rfl ?_
    refine e_lconst 48 83 rfl rfl ?_
    refine e_ladd 49 84 rfl rfl ?_
    refine e_lstore_n 50 85 (ls' := [some _, some _, some _, some _, none, some _, none, some _, some _, some _]) rfl rfl rfl (Nat.le_of_ble_eq_true rfl) rfl ?_
    refine e_iload 51 87 rfl rfl rfl ?_
    refine g_callS 52 90 (sp_mIsLong (x := 1) (by unfold xr; omega)) okX12_isLong csX12_121 ⟨(Nat.le_of_ble_eq_true rfl), (Nat.le_of_ble_eq_true rfl)⟩ rfl rfl rfl rfl (Nat.le_of_ble_eq_true rfl) (Nat.le_of_ble_eq_true rfl) (Nat.le_of_ble_eq_true rfl) ?_
    refine e_ifb_eq 53 107 93 rfl rfl rfl (fun h5 => ?_) (fun h5 => ?_)
    · skip
      exact absurd h5 (by decide)
    · skip
      refine e_ldc2_w 54 96 kcX12_137 (by rfl : _ = ll 31) rfl rfl ?_
      refine e_lload_n 55 97 rfl rfl rfl rfl ?_
      refine e_lmul 56 98 rfl rfl ?_
      refine e_aload_n 57 99 rfl rfl rfl rfl ?_
      refine e_iload 58 101 rfl rfl rfl ?_
      refine e_iconst 59 102 rfl rfl ?_
      refine e_iadd 60 103 rfl rfl ?_
      refine g_iaload 61 104 rfl rfl ha.1 ha.2.1 (by omega) (by omega) (by omega) e3 ?_
      refine e_i2l 62 105 rfl rfl (by unfold xr at *; omega) ?_
      refine e_ladd 63 106 rfl rfl ?_
      refine e_lstore_n 64 107 (ls' := [some _, some _, some _, some _, none, some _, none, some _, some _, some _]) rfl rfl rfl (Nat.le_of_ble_eq_true rfl) rfl ?_
      refine e_iload 65 109 rfl rfl rfl ?_
      refine e_iconst 66 110 rfl rfl ?_
      refine e_icmp_lt 67 160 113 rfl rfl rfl (by unfold xr at *; omega) (by unfold xr at *; omega) (fun _ => ?_) (fun h9 => absurd h9 (by omega))
      refine e_iload 96 162 rfl rfl rfl ?_
      refine e_iload 97 164 rfl rfl rfl ?_
      refine g_callS 98 167 (sp_mIsLong (x := 1) (by unfold xr; omega)) okX12_isLong csX12_121 ⟨(Nat.le_of_ble_eq_true rfl), (Nat.le_of_ble_eq_true rfl)⟩ rfl rfl rfl rfl (Nat.le_of_ble_eq_true rfl) (Nat.le_of_ble_eq_true rfl) (Nat.le_of_ble_eq_true rfl) ?_
      refine e_ifb_eq 99 174 170 rfl rfl rfl (fun h6 => ?_) (fun h6 => ?_)
      · skip
        exact absurd h6 (by decide)
      · skip
        refine e_iconst 100 171 rfl rfl ?_
        refine e_goto 101 175 rfl rfl ?_
        refine e_iadd 103 176 rfl rfl ?_
        refine e_istore 104 178 (ls' := [some _, some _, some _, some _, none, some _, none, some _, some _, some _]) rfl rfl (Nat.le_of_ble_eq_true rfl) rfl ?_
        refine e_dropm [true, true, true, true, true, true, true, true, true, false] (ls' := [some _, some _, some _, some _, none, some _, none, some _, some _, none]) rfl ?_
        exact k
  · rw [q2, if_neg (by decide), if_pos rfl] at k
    rw [show lf x = [2, x - 3000] by unfold lf; rw [q2]; rfl] at k hE hp
    obtain ⟨e1, e2⟩ := EA.cons hE
    have e3 := (EA.cons e2).1
    simp only [List.length_cons, List.length_nil] at hp
    refine e_aload_n 38 68 rfl rfl rfl rfl ?_
    refine e_iload 39 70 rfl rfl rfl ?_
    refine g_iaload 40 71 rfl rfl ha.1 ha.2.1 (by omega) (by omega) (by omega) e1 ?_
    refine e_istore 41 73 (ls' := [some _, some _, some _, some _, none, some _, none, some _, some _, some _]) rfl rfl (Nat.le_of_ble_eq_true rfl) rfl ?_
    refine e_ldc2_w 42 76 kcX12_137 (by rfl : _ = ll 31) rfl rfl ?_
    refine e_lload_n 43 77 rfl rfl rfl rfl ?_
    refine e_lmul 44 78 rfl rfl ?_
    refine e_iload 45 80 rfl rfl rfl ?_
    refine e_i2l 46 81 rfl rfl (by unfold xr at *; omega) ?_
    refine e_ladd 47 82 rfl rfl ?_
    refine e_lconst 48 83 rfl rfl ?_
    refine e_ladd 49 84 rfl rfl ?_
    refine e_lstore_n 50 85 (ls' := [some _, some _, some _, some _, none, some _, none, some _, some _, some _]) rfl rfl rfl (Nat.le_of_ble_eq_true rfl) rfl ?_
    refine e_iload 51 87 rfl rfl rfl ?_
    refine g_callS 52 90 (sp_mIsLong (x := 2) (by unfold xr; omega)) okX12_isLong csX12_121 ⟨(Nat.le_of_ble_eq_true rfl), (Nat.le_of_ble_eq_true rfl)⟩ rfl rfl rfl rfl (Nat.le_of_ble_eq_true rfl) (Nat.le_of_ble_eq_true rfl) (Nat.le_of_ble_eq_true rfl) ?_
    refine e_ifb_eq 53 107 93 rfl rfl rfl (fun h5 => ?_) (fun h5 => ?_)
    · skip
      exact absurd h5 (by decide)
    · skip
      refine e_ldc2_w 54 96 kcX12_137 (by rfl : _ = ll 31) rfl rfl ?_
      refine e_lload_n 55 97 rfl rfl rfl rfl ?_
      refine e_lmul 56 98 rfl rfl ?_
      refine e_aload_n 57 99 rfl rfl rfl rfl ?_
      refine e_iload 58 101 rfl rfl rfl ?_
      refine e_iconst 59 102 rfl rfl ?_
      refine e_iadd 60 103 rfl rfl ?_
      refine g_iaload 61 104 rfl rfl ha.1 ha.2.1 (by omega) (by omega) (by omega) e3 ?_
      refine e_i2l 62 105 rfl rfl (by unfold xr at *; omega) ?_
      refine e_ladd 63 106 rfl rfl ?_
      refine e_lstore_n 64 107 (ls' := [some _, some _, some _, some _, none, some _, none, some _, some _, some _]) rfl rfl rfl (Nat.le_of_ble_eq_true rfl) rfl ?_
      refine e_iload 65 109 rfl rfl rfl ?_
      refine e_iconst 66 110 rfl rfl ?_
      refine e_icmp_lt 67 160 113 rfl rfl rfl (by unfold xr at *; omega) (by unfold xr at *; omega) (fun _ => ?_) (fun h9 => absurd h9 (by omega))
      refine e_iload 96 162 rfl rfl rfl ?_
      refine e_iload 97 164 rfl rfl rfl ?_
      refine g_callS 98 167 (sp_mIsLong (x := 2) (by unfold xr; omega)) okX12_isLong csX12_121 ⟨(Nat.le_of_ble_eq_true rfl), (Nat.le_of_ble_eq_true rfl)⟩ rfl rfl rfl rfl (Nat.le_of_ble_eq_true rfl) (Nat.le_of_ble_eq_true rfl) (Nat.le_of_ble_eq_true rfl) ?_
      refine e_ifb_eq 99 174 170 rfl rfl rfl (fun h6 => ?_) (fun h6 => ?_)
      · skip
        exact absurd h6 (by decide)
      · skip
        refine e_iconst 100 171 rfl rfl ?_
        refine e_goto 101 175 rfl rfl ?_
        refine e_iadd 103 176 rfl rfl ?_
        refine e_istore 104 178 (ls' := [some _, some _, some _, some _, none, some _, none, some _, some _, some _]) rfl rfl (Nat.le_of_ble_eq_true rfl) rfl ?_
        refine e_dropm [true, true, true, true, true, true, true, true, true, false] (ls' := [some _, some _, some _, some _, none, some _, none, some _, some _, none]) rfl ?_
        exact k
theorem pr_nest {ob : Int64} {h d p : Int} {v : Fo} (hv : MV σ a nn p v) (hd : 0 ≤ d ∧ d < 58) {y : Int} (hy : σ a p = y) (hyr : y = 3 ∨ y = 4) (kk : ∀ (ob' : Int64) (σ' : xSig), FP m11 σ σ' → (∀ j, 0 ≤ j → j < 60 → lbt ob' j = if j = d + 1 then decide (y = 4) else lbt ob j) → pR 178 (prL a fr (31 * (31 * h + y + 1) + wdt v) ob' (d + 1) (p + 1)) σ' o) : pR 67 (prL a fr h ob d p) σ o := by
  have ha := hv.1
  have hnn := ha.2.2.1
  have hp2 := hv.2.2.2
  have hol := ok1_pa hv.2.1
  have hw : 0 ≤ wdt v ∧ wdt v ≤ 100 := by
    have h24 := hv.2.2.1
    cases v with
    | num z => exact ⟨by simp [wdt], by simp [wdt]⟩
    | var z => exact ⟨by simp [wdt], by simp [wdt]⟩
    | neg z => exact ⟨by simp [wdt], by simp [wdt]⟩
    | mulL k z => exact ⟨by simp [wdt], by simp [wdt]⟩
    | mulR z k => exact ⟨by simp [wdt], by simp [wdt]⟩
    | add c n => have := nel_pa c; have := pa_nn n; simp only [pa] at h24; simp only [wdt]; omega
    | sub c n => have := nel_pa c; have := pa_nn n; simp only [pa] at h24; simp only [wdt]; omega
  obtain ⟨σ1, c1, f1⟩ := sp_mMembersOf hv (by omega)
  by_cases h4 : y = 4
  · obtain ⟨σf, k, f⟩ := kk _ σ1 f1 (fun j j0 j6 => by rw [decide_eq_true h4]; exact l_put ob (d := d + 1) (by omega) (by omega) j0 j6)
    refine ⟨σf, ?_, f1.tr f⟩
    refine e_aload_n 38 68 rfl rfl rfl rfl ?_
    refine e_iload 39 70 rfl rfl rfl ?_
    refine g_iaload 40 71 rfl rfl ha.1 ha.2.1 (by omega) (by omega) (by omega) hy ?_
    refine e_istore 41 73 (ls' := [some _, some _, some _, some _, none, some _, none, some _, some _, some _]) rfl rfl (Nat.le_of_ble_eq_true rfl) rfl ?_
    refine e_ldc2_w 42 76 kcX12_137 (by rfl : _ = ll 31) rfl rfl ?_
    refine e_lload_n 43 77 rfl rfl rfl rfl ?_
    refine e_lmul 44 78 rfl rfl ?_
    refine e_iload 45 80 rfl rfl rfl ?_
    refine e_i2l 46 81 rfl rfl (by unfold xr at *; omega) ?_
    refine e_ladd 47 82 rfl rfl ?_
    refine e_lconst 48 83 rfl rfl ?_
    refine e_ladd 49 84 rfl rfl ?_
    refine e_lstore_n 50 85 (ls' := [some _, some _, some _, some _, none, some _, none, some _, some _, some _]) rfl rfl rfl (Nat.le_of_ble_eq_true rfl) rfl ?_
    refine e_iload 51 87 rfl rfl rfl ?_
    refine g_callS 52 90 (sp_mIsLong (x := y) (by unfold xr; omega)) okX12_isLong csX12_121 ⟨(Nat.le_of_ble_eq_true rfl), (Nat.le_of_ble_eq_true rfl)⟩ rfl rfl rfl rfl (Nat.le_of_ble_eq_true rfl) (Nat.le_of_ble_eq_true rfl) (Nat.le_of_ble_eq_true rfl) ?_
    refine e_ifb_eq 53 107 93 rfl rfl rfl (fun h5 => ?_) (fun h5 => ?_)
    · skip
      refine e_iload 65 109 rfl rfl rfl ?_
      refine e_iconst 66 110 rfl rfl ?_
      refine e_icmp_lt 67 160 113 rfl rfl rfl (by unfold xr at *; omega) (by unfold xr at *; omega) (fun h9 => absurd h9 (by omega)) (fun _ => ?_)
      refine e_ldc2_w 68 116 kcX12_137 (by rfl : _ = ll 31) rfl rfl ?_
      refine e_lload_n 69 117 rfl rfl rfl rfl ?_
      refine e_lmul 70 118 rfl rfl ?_
      refine e_aload_n 71 119 rfl rfl rfl rfl ?_
      refine e_aload_n 72 120 rfl rfl rfl rfl ?_
      refine e_iload 73 122 rfl rfl rfl ?_
      refine g_callV 74 125 (c1) okX12_membersOf cvX12_139 ⟨(Nat.le_of_ble_eq_true rfl), (Nat.le_of_ble_eq_true rfl)⟩ rfl rfl (Nat.le_of_ble_eq_true rfl) rfl rfl rfl rfl rfl (Nat.le_of_ble_eq_true rfl) (Nat.le_of_ble_eq_true rfl) (Nat.le_of_ble_eq_true rfl) ?_
      refine e_i2l 75 126 rfl rfl (by unfold xr at *; omega) ?_
      refine e_ladd 76 127 rfl rfl ?_
      refine e_lstore_n 77 128 (ls' := [some _, some _, some _, some _, none, some _, none, some _, some _, some _]) rfl rfl rfl (Nat.le_of_ble_eq_true rfl) rfl ?_
      refine e_iinc 78 131 (ls' := [some _, some _, some _, some _, none, some _, none, some _, some _, some _]) rfl rfl (Nat.le_of_ble_eq_true rfl) rfl rfl ?_
      refine e_iload 79 133 rfl rfl rfl ?_
      refine e_iconst 80 134 rfl rfl ?_
      refine e_icmp_ne 81 147 137 rfl rfl rfl (by unfold xr at *; omega) (by unfold xr at *; omega) (fun h9 => absurd h9 (by omega)) (fun _ => ?_)
      refine e_lload 82 139 rfl rfl rfl ?_
      refine e_lconst 83 140 rfl rfl ?_
      refine e_iload 84 142 rfl rfl rfl ?_
      refine e_lshl 85 143 rfl rfl ?_
      refine e_lor 86 144 rfl rfl ?_
      refine e_goto 87 158 rfl rfl ?_
      refine e_lstore 95 160 (ls' := [some _, some _, some _, some _, none, some _, none, some _, some _, some _]) rfl rfl (Nat.le_of_ble_eq_true rfl) rfl ?_
      refine e_iload 96 162 rfl rfl rfl ?_
      refine e_iload 97 164 rfl rfl rfl ?_
      refine g_callS 98 167 (sp_mIsLong (x := y) (by unfold xr; omega)) okX12_isLong csX12_121 ⟨(Nat.le_of_ble_eq_true rfl), (Nat.le_of_ble_eq_true rfl)⟩ rfl rfl rfl rfl (Nat.le_of_ble_eq_true rfl) (Nat.le_of_ble_eq_true rfl) (Nat.le_of_ble_eq_true rfl) ?_
      refine e_ifb_eq 99 174 170 rfl rfl rfl (fun h6 => ?_) (fun h6 => ?_)
      · skip
        refine e_iconst 102 175 rfl rfl ?_
        refine e_iadd 103 176 rfl rfl ?_
        refine e_istore 104 178 (ls' := [some _, some _, some _, some _, none, some _, none, some _, some _, some _]) rfl rfl (Nat.le_of_ble_eq_true rfl) rfl ?_
        refine e_dropm [true, true, true, true, true, true, true, true, true, false] (ls' := [some _, some _, some _, some _, none, some _, none, some _, some _, none]) rfl ?_
        exact k
      · skip
        have := of_decide_eq_true h6
        omega
    · skip
      have := of_decide_eq_true h5
      omega
  · obtain ⟨σf, k, f⟩ := kk _ σ1 f1 (fun j j0 j6 => by rw [decide_eq_false h4]; exact l_clr ob (d := d + 1) (by omega) (by omega) j0 j6)
    refine ⟨σf, ?_, f1.tr f⟩
    refine e_aload_n 38 68 rfl rfl rfl rfl ?_
    refine e_iload 39 70 rfl rfl rfl ?_
    refine g_iaload 40 71 rfl rfl ha.1 ha.2.1 (by omega) (by omega) (by omega) hy ?_
    refine e_istore 41 73 (ls' := [some _, some _, some _, some _, none, some _, none, some _, some _, some _]) rfl rfl (Nat.le_of_ble_eq_true rfl) rfl ?_
    refine e_ldc2_w 42 76 kcX12_137 (by rfl : _ = ll 31) rfl rfl ?_
    refine e_lload_n 43 77 rfl rfl rfl rfl ?_
    refine e_lmul 44 78 rfl rfl ?_
    refine e_iload 45 80 rfl rfl rfl ?_
    refine e_i2l 46 81 rfl rfl (by unfold xr at *; omega) ?_
    refine e_ladd 47 82 rfl rfl ?_
    refine e_lconst 48 83 rfl rfl ?_
    refine e_ladd 49 84 rfl rfl ?_
    refine e_lstore_n 50 85 (ls' := [some _, some _, some _, some _, none, some _, none, some _, some _, some _]) rfl rfl rfl (Nat.le_of_ble_eq_true rfl) rfl ?_
    refine e_iload 51 87 rfl rfl rfl ?_
    refine g_callS 52 90 (sp_mIsLong (x := y) (by unfold xr; omega)) okX12_isLong csX12_121 ⟨(Nat.le_of_ble_eq_true rfl), (Nat.le_of_ble_eq_true rfl)⟩ rfl rfl rfl rfl (Nat.le_of_ble_eq_true rfl) (Nat.le_of_ble_eq_true rfl) (Nat.le_of_ble_eq_true rfl) ?_
    refine e_ifb_eq 53 107 93 rfl rfl rfl (fun h5 => ?_) (fun h5 => ?_)
    · skip
      refine e_iload 65 109 rfl rfl rfl ?_
      refine e_iconst 66 110 rfl rfl ?_
      refine e_icmp_lt 67 160 113 rfl rfl rfl (by unfold xr at *; omega) (by unfold xr at *; omega) (fun h9 => absurd h9 (by omega)) (fun _ => ?_)
      refine e_ldc2_w 68 116 kcX12_137 (by rfl : _ = ll 31) rfl rfl ?_
      refine e_lload_n 69 117 rfl rfl rfl rfl ?_
      refine e_lmul 70 118 rfl rfl ?_
      refine e_aload_n 71 119 rfl rfl rfl rfl ?_
      refine e_aload_n 72 120 rfl rfl rfl rfl ?_
      refine e_iload 73 122 rfl rfl rfl ?_
      refine g_callV 74 125 (c1) okX12_membersOf cvX12_139 ⟨(Nat.le_of_ble_eq_true rfl), (Nat.le_of_ble_eq_true rfl)⟩ rfl rfl (Nat.le_of_ble_eq_true rfl) rfl rfl rfl rfl rfl (Nat.le_of_ble_eq_true rfl) (Nat.le_of_ble_eq_true rfl) (Nat.le_of_ble_eq_true rfl) ?_
      refine e_i2l 75 126 rfl rfl (by unfold xr at *; omega) ?_
      refine e_ladd 76 127 rfl rfl ?_
      refine e_lstore_n 77 128 (ls' := [some _, some _, some _, some _, none, some _, none, some _, some _, some _]) rfl rfl rfl (Nat.le_of_ble_eq_true rfl) rfl ?_
      refine e_iinc 78 131 (ls' := [some _, some _, some _, some _, none, some _, none, some _, some _, some _]) rfl rfl (Nat.le_of_ble_eq_true rfl) rfl rfl ?_
      refine e_iload 79 133 rfl rfl rfl ?_
      refine e_iconst 80 134 rfl rfl ?_
      refine e_icmp_ne 81 147 137 rfl rfl rfl (by unfold xr at *; omega) (by unfold xr at *; omega) (fun _ => ?_) (fun h9 => absurd h9 h4)
      refine e_lload 88 149 rfl rfl rfl ?_
      refine e_lconst 89 150 rfl rfl ?_
      refine e_iload 90 152 rfl rfl rfl ?_
      refine e_lshl 91 153 rfl rfl ?_
      refine e_ldc2_w 92 156 kcX12_125 (by rfl : _ = ll (-1)) rfl rfl ?_
      refine e_lxor 93 157 rfl rfl ?_
      refine e_land 94 158 rfl rfl ?_
      refine e_lstore 95 160 (ls' := [some _, some _, some _, some _, none, some _, none, some _, some _, some _]) rfl rfl (Nat.le_of_ble_eq_true rfl) rfl ?_
      refine e_iload 96 162 rfl rfl rfl ?_
      refine e_iload 97 164 rfl rfl rfl ?_
      refine g_callS 98 167 (sp_mIsLong (x := y) (by unfold xr; omega)) okX12_isLong csX12_121 ⟨(Nat.le_of_ble_eq_true rfl), (Nat.le_of_ble_eq_true rfl)⟩ rfl rfl rfl rfl (Nat.le_of_ble_eq_true rfl) (Nat.le_of_ble_eq_true rfl) (Nat.le_of_ble_eq_true rfl) ?_
      refine e_ifb_eq 99 174 170 rfl rfl rfl (fun h6 => ?_) (fun h6 => ?_)
      · skip
        refine e_iconst 102 175 rfl rfl ?_
        refine e_iadd 103 176 rfl rfl ?_
        refine e_istore 104 178 (ls' := [some _, some _, some _, some _, none, some _, none, some _, some _, some _]) rfl rfl (Nat.le_of_ble_eq_true rfl) rfl ?_
        refine e_dropm [true, true, true, true, true, true, true, true, true, false] (ls' := [some _, some _, some _, some _, none, some _, none, some _, some _, none]) rfl ?_
        exact k
      · skip
        have := of_decide_eq_true h6
        omega
    · skip
      have := of_decide_eq_true h5
      omega
end PR
def prG (a nn : Nat) (fr : Int) (o : xO) (F : Fo) : Prop := ∀ (b v : Bool) (lo : Int), 0 ≤ lo → okf b v lo F → ∀ (σ : xSig) (p d h : Int) (ob : Int64), 1 ≤ d → d + pa F < 57 → pa F ≤ 51 → lbt ob d = b → 0 ≤ p → p + (en F).length < nn → EA σ a p (en F) → (∀ (ob' : Int64) (σ' : xSig), FP m11 σ σ' → (∀ j, 0 ≤ j → j ≤ d → lbt ob' j = lbt ob j) → pR 178 (prL a fr (prF F h) ob' d (p + (en F).length)) σ' o) → pR (if v = true then 67 else 178) (prL a fr h ob d p) σ o
theorem pr_fo {a nn : Nat} {fr : Int} {o : xO} (ha : isMA a nn) : ∀ F : Fo, prG a nn fr o F := by
  intro F
  have nest : ∀ (y z : Int) (bc : Bool) (c n9 V : Fo), V = (if y = 4 then .add c (.num 0) else .sub c (.num 0)) → (y = 3 ∧ bc = false ∧ z = 4000 ∨ y = 4 ∧ bc = true ∧ z = 5000) → prG a nn fr o c → prG a nn fr o n9 → ∀ (b v : Bool) (lo : Int), 0 ≤ lo → b = v → okf bc false 0 c → okf b false lo n9 → ∀ (σ : xSig) (p d h : Int) (ob : Int64), 1 ≤ d → d + (1 + pa c + pa n9) < 57 → 1 + pa c + pa n9 ≤ 51 → lbt ob d = b → 0 ≤ p → p + (y :: (en c ++ -1 :: en n9)).length < nn → EA σ a p (y :: (en c ++ -1 :: en n9)) → (∀ (ob' : Int64) (σ' : xSig), FP m11 σ σ' → (∀ j, 0 ≤ j → j ≤ d → lbt ob' j = lbt ob j) → pR 178 (prL a fr (prF n9 (prF c (pon h z (nel c)))) ob' d (p + (y :: (en c ++ -1 :: en n9)).length)) σ' o) → pR (if v = true then 67 else 178) (prL a fr h ob d p) σ o := by
    intro y z bc c n9 V hV hy ihc ihn b v lo hlo hbv hc hn9 σ p d h ob hd hd2 h47 hob hp hp2 hE kk
    have q1 := pa_nn c
    have q2 := pa_nn n9
    obtain ⟨e1, e2⟩ := EA.cons hE
    obtain ⟨e3, e4⟩ := EA.app e2
    obtain ⟨e5, e6⟩ := EA.cons e4
    simp only [List.length_cons, List.length_append] at hp2 kk
    have hMV : MV σ a nn p V ∧ 31 * (31 * h + y + 1) + wdt V = pon h z (nel c) := by
      rcases hy with ⟨rfl, rfl, rfl⟩ | ⟨rfl, rfl, rfl⟩
      · rw [if_neg (by decide)] at hV
        subst hV
        refine ⟨⟨ha, Or.inr (Or.inr ⟨c, rfl, hc⟩), by simp only [pa]; omega, hp, ?_, ?_⟩, (pon_n h (nel c)).2.symm⟩
        · simp only [en, List.length_cons, List.length_append, List.length_nil]; omega
        · exact EA.mk e1 (EA.cat e3 (EA.mk e5 EA.nil))
      · rw [if_pos rfl] at hV
        subst hV
        refine ⟨⟨ha, Or.inr (Or.inl ⟨c, rfl, hc⟩), by simp only [pa]; omega, hp, ?_, ?_⟩, (pon_n h (nel c)).1.symm⟩
        · simp only [en, List.length_cons, List.length_append, List.length_nil]; omega
        · exact EA.mk e1 (EA.cat e3 (EA.mk e5 EA.nil))
    have mid : pR 67 (prL a fr h ob d p) σ o := by
      refine pr_nest hMV.1 (by omega) e1 (by omega) (fun ob' σ1 f1 hob' => ?_)
      rw [hMV.2]
      have hb' : lbt ob' (d + 1) = bc := by
        rw [hob' (d + 1) (by omega) (by omega), if_pos rfl]
        rcases hy with ⟨rfl, rfl, rfl⟩ | ⟨rfl, rfl, rfl⟩
        · decide
        · decide
      refine ihc bc false 0 (by omega) hc σ1 (p + 1) (d + 1) _ ob' (by omega) (by omega) (by omega) hb' (by omega) (by omega) (e3.of11 ha f1) (fun ob2 σ2 f2 h2 => ?_)
      have e5' : σ2 a (p + 1 + (en c).length) = -1 := (EA.of11 (EA.mk e5 EA.nil) ha (f1.tr f2) |> EA.cons).1
      refine pr_close ha (by omega) (by omega) e5' ?_
      rw [show d + 1 + -1 = d by omega]
      refine ihn b false lo hlo hn9 σ2 _ d _ ob2 (by omega) (by omega) (by omega) ?_ (by omega) (by omega) (e6.of11 ha (f1.tr f2)) (fun ob3 σ3 f3 h3 => ?_)
      · rw [h2 d (by omega) (by omega), hob' d (by omega) (by omega), if_neg (by omega)]
        exact hob
      · have := kk ob3 σ3 (f1.tr (f2.tr f3)) (fun j j0 j1 => by rw [h3 j j0 j1, h2 j j0 (by omega), hob' j j0 (by omega), if_neg (by omega)])
        rw [show p + 1 + ((en c).length : Int) + 1 + ((en n9).length : Int) = p + (((en c).length + ((en n9).length + 1) + 1 : Nat) : Int) by omega]
        exact this
    cases v with
    | true => exact mid
    | false => exact pr_openR ha (by omega) (by omega) e1 (by omega) (by rw [hob, hbv]) mid
  induction F with
  | num z =>
    intro b v lo hlo h σ p d h9 ob hd hd2 h47 hob hp hp2 hE kk
    obtain ⟨rfl, rfl⟩ := h
    have := kk ob σ FP.rf (fun _ _ _ => rfl)
    simp only [en, List.length_nil] at this
    rw [show p + ((0 : Nat) : Int) = p by omega] at this
    exact this
  | var z => intro b v lo hlo h; exact h.elim
  | neg z ih => intro b v lo hlo h; exact h.elim
  | mulL k F ih =>
    intro b v lo hlo h σ p d h9 ob hd hd2 h47 hob hp hp2 hE kk
    obtain ⟨rfl, rfl, h3, h4⟩ := h
    simp only [en, pa, prF, List.length_cons] at hp2 hE kk hd2 h47
    rw [pon_k (by omega)] at kk
    obtain ⟨e1, e2⟩ := EA.cons hE
    refine pr_openF ha (by have := pa_nn F; omega) (by omega) e1 (by omega) hob ?_
    refine ih true true (k + 1) (by omega) h4 σ (p + 1) d _ ob hd hd2 h47 hob (by omega) (by omega) e2 (fun ob' σ' f' h' => ?_)
    have := kk ob' σ' f' h'
    rw [show p + 1 + ((en F).length : Int) = p + (((en F).length + 1 : Nat) : Int) by omega]
    exact this
  | mulR n9 x ih =>
    intro b v lo hlo h σ p d h9 ob hd hd2 h47 hob hp hp2 hE kk
    obtain ⟨hbv, h2, h3⟩ := h
    have q2 := pa_nn n9
    simp only [en, pa, prF, List.length_append] at hp2 hE kk hd2 h47
    obtain ⟨e3, e4⟩ := EA.app hE
    obtain ⟨r, hr, hcs⟩ := lf_hd h2
    have hll := lf_len x
    have e1 : σ a p = knd x := by
      rw [hr] at e3
      exact (EA.cons e3).1
    have hk := knd_bnd x
    have mid : pR 67 (prL a fr h9 ob d p) σ o := by
      refine pr_leaf ha h2 (by omega) e3 ?_
      refine ih b false lo hlo h3 σ _ d _ ob hd (by omega) (by omega) hob (by omega) (by omega) e4 (fun ob' σ' f' h' => ?_)
      have := kk ob' σ' f' h'
      rw [show p + ((lf x).length : Int) + ((en n9).length : Int) = p + (((lf x).length + (en n9).length : Nat) : Int) by omega]
      exact this
    cases v with
    | true => exact mid
    | false => exact pr_openR ha (by omega) (by omega) e1 (by omega) (by rw [hob, hbv]) mid
  | add c n9 ihc ihn =>
    intro b v lo hlo h
    obtain ⟨hbv, h2, h3⟩ := h
    exact nest 4 5000 true c n9 _ rfl (Or.inr ⟨rfl, rfl, rfl⟩) ihc ihn b v lo hlo hbv h2 h3
  | sub c n9 ihc ihn =>
    intro b v lo hlo h
    obtain ⟨hbv, h2, h3⟩ := h
    exact nest 3 4000 false c n9 _ rfl (Or.inl ⟨rfl, rfl, rfl⟩) ihc ihn b v lo hlo hbv h2 h3
theorem pr_end {σ : xSig} {a : Nat} {fr h : Int} {ob : Int64} {d p : Int} (hd : d = 0) : pR 178 (prL a fr h ob d p) σ (.inl (some (.long (ll h)))) := by
  subst hd
  refine ⟨σ, ?_, FP.rf⟩
  refine e_iload 105 180 rfl rfl rfl ?_
  refine e_if_gt 106 13 183 rfl rfl rfl (by unfold xr at *; omega) (fun h9 => absurd h9 (by omega)) (fun _ => ?_)
  refine e_lload_n 107 184 rfl rfl rfl rfl ?_
  exact e_lreturn 108 rfl rfl (Nat.le_of_ble_eq_true rfl) (Nat.le_of_ble_eq_true rfl)
theorem sp_mPrintOf {σ : xSig} {a nn : Nat} {p : Int} {v : Fo} (h : MV σ a nn p v) : Rm MX12_printOf [.ref 281, .ref a, .int (ii p)] σ (.inl (some (.long (ll (prF v 7))))) := by
  have hM := h
  obtain ⟨ha, hv, h24, hp, hp2, hE⟩ := h
  have hnn := ha.2.2.1
  have hol := ok1_pa hv
  have st : ∀ {o}, pR 67 (prL a p 7 (ll 0) 0 p) σ o → Rm MX12_printOf [.ref 281, .ref a, .int (ii p)] σ o := by
    intro o kk
    obtain ⟨σf, k, f⟩ := kk
    refine ⟨σf, ?_, f⟩
    refine e_entry okX12_printOf (Nat.le_of_ble_eq_true rfl) (ls := [some _, some _, some _, none, none, none, none, none, none, none]) rfl ?_
    refine e_ldc2_w 0 3 kcX12_135 (by rfl : _ = ll 7) rfl rfl ?_
    refine e_lstore_n 1 4 (ls' := [some _, some _, some _, some _, none, none, none, none, none, none]) rfl rfl rfl (Nat.le_of_ble_eq_true rfl) rfl ?_
    refine e_lconst 2 5 rfl rfl ?_
    refine e_lstore 3 7 (ls' := [some _, some _, some _, some _, none, some _, none, none, none, none]) rfl rfl (Nat.le_of_ble_eq_true rfl) rfl ?_
    refine e_iconst 4 8 rfl rfl ?_
    refine e_istore 5 10 (ls' := [some _, some _, some _, some _, none, some _, none, some _, none, none]) rfl rfl (Nat.le_of_ble_eq_true rfl) rfl ?_
    refine e_iload_n 6 11 rfl rfl rfl rfl ?_
    refine e_istore 7 13 (ls' := [some _, some _, some _, some _, none, some _, none, some _, some _, none]) rfl rfl (Nat.le_of_ble_eq_true rfl) rfl ?_
    refine e_iload 8 15 rfl rfl rfl ?_
    refine e_if_le 9 35 18 rfl rfl rfl (by unfold xr at *; omega) (fun _ => ?_) (fun h9 => absurd h9 (by omega))
    refine e_iload 18 37 rfl rfl rfl ?_
    refine e_if_le 19 67 40 rfl rfl rfl (by unfold xr at *; omega) (fun _ => ?_) (fun h9 => absurd h9 (by omega))
    exact k
  have nest : ∀ (y z : Int) (bc : Bool) (c : Fo), (y = 3 ∧ bc = false ∨ y = 4 ∧ bc = true) → okf bc false 0 c → pa v = 1 + pa c → en v = y :: (en c ++ [-1]) → (∀ h, prF v h = prF c (31 * (31 * h + y + 1) + wdt v)) → Rm MX12_printOf [.ref 281, .ref a, .int (ii p)] σ (.inl (some (.long (ll (prF v 7))))) := by
    intro y z bc c hy hc e1 e2 e9
    rw [e2] at hE hp2
    rw [e9]
    obtain ⟨d1, d2⟩ := EA.cons hE
    obtain ⟨d3, d4⟩ := EA.app d2
    simp only [List.length_cons, List.length_append, List.length_nil] at hp2
    have q1 := pa_nn c
    refine st (pr_nest hM (by omega) d1 (by omega) (fun ob' σ1 f1 hob' => ?_))
    refine pr_fo ha c bc false 0 (by omega) hc σ1 (p + 1) (0 + 1) _ ob' (by omega) (by omega) (by omega) ?_ (by omega) (by omega) (d3.of11 ha f1) (fun ob2 σ2 f2 h2 => ?_)
    · rw [hob' (0 + 1) (by omega) (by omega), if_pos rfl]
      rcases hy with ⟨rfl, rfl⟩ | ⟨rfl, rfl⟩
      · decide
      · decide
    · exact pr_close ha (by omega) (by omega) (EA.cons (d4.of11 ha (f1.tr f2))).1 (pr_end (by omega))
  rcases hv with ⟨x, rfl, hx⟩ | ⟨c, rfl, hc⟩ | ⟨c, rfl, hc⟩
  · simp only [en, List.append_nil] at hE hp2
    exact st (pr_leaf ha hx (by omega) hE (pr_end rfl))
  · exact nest 4 5000 true c (Or.inr ⟨rfl, rfl⟩) hc (by simp [pa]) (by simp [en]) (fun h => by simp only [prF, wdt, (pon_n h (nel c)).1])
  · exact nest 3 4000 false c (Or.inl ⟨rfl, rfl⟩) hc (by simp [pa]) (by simp [en]) (fun h => by simp only [prF, wdt, (pon_n h (nel c)).2])
