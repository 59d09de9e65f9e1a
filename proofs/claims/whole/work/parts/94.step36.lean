/-! ===== steps: group, the groups ===== -/
abbrev Ky := List Int × Int × Int
abbrev Mg := Int × Fo × Int × Int
def aIns (v : List Int) (s : Int) : List Ky → List Ky
  | [] => [(v, 1, s)]
  | q :: r => if lexc q.1 v = -1 then q :: aIns v s r else if lexc q.1 v = 0 then (q.1, q.2.1 + 1, q.2.2 + s) :: r else (v, 1, s) :: q :: r
def mGI (p : Int) (v : Fo) (s : Int) : List Mg → List Mg
  | [] => [(p, v, 1, s)]
  | q :: r => if lexc (tk q.2.1) (tk v) = -1 then q :: mGI p v s r else if lexc (tk q.2.1) (tk v) = 0 then (q.1, q.2.1, q.2.2.1 + 1, q.2.2.2 + s) :: r else (p, v, 1, s) :: q :: r
def gKy (T : Nat → List Int) (g : Gr) : Ky := (gv T g, g.2.2.1, g.2.2.2)
def mKy (m : Mg) : Ky := (tk m.2.1, m.2.2.1, m.2.2.2)
theorem gIns_Ky {T : Nat → List Int} {v : List Int} {n i : Int} (hn : sv (T (31 + 2 * n.toNat)) i = v) (s : Int) : ∀ G : List Gr, (gIns T v n i s G).map (gKy T) = aIns v s (G.map (gKy T)) := by
  intro G
  induction G with
  | nil =>
    simp only [gIns, List.map_cons, List.map_nil, aIns, gKy]
    rw [show gv T (n, i, 1, s) = v from hn]
  | cons g r ih =>
    simp only [gIns, List.map_cons, aIns]
    by_cases w1 : lexc (gv T g) v = -1
    · rw [if_pos w1, if_pos (show lexc (gKy T g).1 v = -1 from w1), List.map_cons, ih]
    · rw [if_neg w1, if_neg (show ¬ lexc (gKy T g).1 v = -1 from w1)]
      by_cases w2 : lexc (gv T g) v = 0
      · rw [if_pos w2, if_pos (show lexc (gKy T g).1 v = 0 from w2), List.map_cons]
        rfl
      · rw [if_neg w2, if_neg (show ¬ lexc (gKy T g).1 v = 0 from w2), List.map_cons, List.map_cons]
        congr 1
        unfold gKy
        rw [show gv T (n, i, 1, s) = v from hn]
theorem mGI_Ky {p : Int} {v : Fo} (s : Int) : ∀ M : List Mg, (mGI p v s M).map mKy = aIns (tk v) s (M.map mKy) := by
  intro M
  induction M with
  | nil => rfl
  | cons g r ih =>
    simp only [mGI, List.map_cons, aIns]
    by_cases w1 : lexc (tk g.2.1) (tk v) = -1
    · rw [if_pos w1, if_pos (show lexc (mKy g).1 (tk v) = -1 from w1), List.map_cons, ih]
    · rw [if_neg w1, if_neg (show ¬ lexc (mKy g).1 (tk v) = -1 from w1)]
      by_cases w2 : lexc (tk g.2.1) (tk v) = 0
      · rw [if_pos w2, if_pos (show lexc (mKy g).1 (tk v) = 0 from w2), List.map_cons]
        rfl
      · rw [if_neg w2, if_neg (show ¬ lexc (mKy g).1 (tk v) = 0 from w2), List.map_cons, List.map_cons]
        rfl
def KB (L : List Ky) (m : Int) : Prop := (L.length : Int) ≤ m ∧ ∀ q ∈ L, 0 ≤ q.2.1 ∧ q.2.1 ≤ m
theorem KB.ins {v : List Int} {s m : Int} : ∀ {L : List Ky}, KB L m → KB (aIns v s L) (m + 1) := by
  intro L h
  have key : ∀ (L : List Ky), (∀ q ∈ L, 0 ≤ q.2.1 ∧ q.2.1 ≤ m) → 0 ≤ m → (aIns v s L).length ≤ L.length + 1 ∧ ∀ q ∈ aIns v s L, 0 ≤ q.2.1 ∧ q.2.1 ≤ m + 1 := by
    intro L
    induction L with
    | nil =>
      intro _ h0
      refine ⟨by simp [aIns], fun q hq => ?_⟩
      simp only [aIns, List.mem_singleton] at hq
      rw [hq]
      show (0 : Int) ≤ 1 ∧ (1 : Int) ≤ m + 1
      omega
    | cons g r ih =>
      intro hL h0
      obtain ⟨i1, i2⟩ := ih (fun q hq => hL q (List.mem_cons_of_mem _ hq)) h0
      have hg := hL g (by simp)
      simp only [aIns]
      by_cases w1 : lexc g.1 v = -1
      · rw [if_pos w1]
        refine ⟨by simp; omega, fun q hq => ?_⟩
        rcases List.mem_cons.mp hq with e | e
        · rw [e]; omega
        · exact i2 q e
      · rw [if_neg w1]
        by_cases w2 : lexc g.1 v = 0
        · rw [if_pos w2]
          refine ⟨by simp, fun q hq => ?_⟩
          rcases List.mem_cons.mp hq with e | e
          · rw [e]
            show 0 ≤ g.2.1 + 1 ∧ g.2.1 + 1 ≤ m + 1
            omega
          · have := hL q (List.mem_cons_of_mem _ e); omega
        · rw [if_neg w2]
          refine ⟨by simp, fun q hq => ?_⟩
          rcases List.mem_cons.mp hq with e | e
          · rw [e]
            show (0 : Int) ≤ 1 ∧ (1 : Int) ≤ m + 1
            omega
          · have := hL q e; omega
  have h0 : 0 ≤ m := by have := h.1; omega
  obtain ⟨a, b⟩ := key L h.2 h0
  exact ⟨by have := h.1; omega, b⟩
/-- the model's groups -/
def GM (s : xSig) (M : List Mg) : Prop := s 281 46 = M.length ∧ M.length ≤ 1440 ∧ ∀ (j : Nat) (m : Mg), M[j]? = some m → s 307 j = m.1 ∧ s 308 j = m.2.2.1 ∧ s 309 j = m.2.2.2 ∧ MV s 282 11300 m.1 m.2.1
abbrev cG9 : List (Nat × Int) := [(281, 46), (307, -1), (308, -1), (309, -1), (282, -1)]
theorem GM.fp {s s' : xSig} {M : List Mg} {L : List (Nat × Int)} (h : GM s M) (hF : FP L s s') (ho : ovl cG9 L = false) : GM s' M := by
  have s9 := sam_fp hF ho
  refine ⟨by rw [s9.at 281 46 rfl]; exact h.1, h.2.1, fun j m hj => ?_⟩
  obtain ⟨a, b, c, d⟩ := h.2.2 j m hj
  rw [s9.cell 307 rfl, s9.cell 308 rfl, s9.cell 309 rfl]
  exact ⟨a, b, c, d.of (s9.cell 282 rfl)⟩
theorem mGI_sp {p : Int} {v : Fo} {s : Int} : ∀ M : List Mg, ∃ A B, M = A ++ B ∧ (∀ m ∈ A, lexc (tk m.2.1) (tk v) = -1) ∧ ((B = [] ∧ mGI p v s M = A ++ [(p, v, 1, s)]) ∨ (∃ b B', B = b :: B' ∧ lexc (tk b.2.1) (tk v) = 0 ∧ mGI p v s M = A ++ (b.1, b.2.1, b.2.2.1 + 1, b.2.2.2 + s) :: B') ∨ (∃ b B', B = b :: B' ∧ lexc (tk b.2.1) (tk v) = 1 ∧ mGI p v s M = A ++ (p, v, 1, s) :: B)) := by
  intro M
  induction M with
  | nil => exact ⟨[], [], rfl, fun m hm => by simp at hm, Or.inl ⟨rfl, rfl⟩⟩
  | cons g r ih =>
    simp only [mGI]
    by_cases w1 : lexc (tk g.2.1) (tk v) = -1
    · rw [if_pos w1]
      obtain ⟨A, B, h1, h2, h3⟩ := ih
      refine ⟨g :: A, B, by rw [h1]; rfl, fun m hm => ?_, ?_⟩
      · rcases List.mem_cons.mp hm with e | e
        · rw [e]; exact w1
        · exact h2 m e
      · rcases h3 with ⟨q1, q2⟩ | ⟨b, B', q1, q2, q3⟩ | ⟨b, B', q1, q2, q3⟩
        · exact Or.inl ⟨q1, by rw [q2]; rfl⟩
        · exact Or.inr (Or.inl ⟨b, B', q1, q2, by rw [q3]; rfl⟩)
        · exact Or.inr (Or.inr ⟨b, B', q1, q2, by rw [q3]; rfl⟩)
    · rw [if_neg w1]
      by_cases w2 : lexc (tk g.2.1) (tk v) = 0
      · rw [if_pos w2]
        exact ⟨[], g :: r, rfl, fun m hm => by simp at hm, Or.inr (Or.inl ⟨g, r, rfl, w2, rfl⟩)⟩
      · rw [if_neg w2]
        have := lexc_in (tk g.2.1) (tk v)
        exact ⟨[], g :: r, rfl, fun m hm => by simp at hm, Or.inr (Or.inr ⟨g, r, rfl, by omega, rfl⟩)⟩
abbrev gaL (p s k : Int) : List (Option Value) := [some (.ref 281), some (.int (ii p)), some (.long (ll s)), none, some (.int (ii k)), none]
/-- to the place of a value among the groups -/
theorem ga_lp {p s : Int} {v : Fo} {M : List Mg} : ∀ (A2 A1 B : List Mg) (u : xSig) (k : Int), k = A1.length → M = A1 ++ (A2 ++ B) → GM u M → MV u 282 11300 p v → (∀ m ∈ A2, lexc (tk m.2.1) (tk v) = -1) → (B = [] ∨ ∃ b B', B = b :: B' ∧ lexc (tk b.2.1) (tk v) ≠ -1) → ∃ u', FP m11 u u' ∧ ∀ (o : xO) (Y : xS), x_E MX12_groupsAt 0 0 41 (gaL p s (k + A2.length)) [] (St u') 0 0 o Y → x_E MX12_groupsAt 0 0 3 (gaL p s k) [] (St u) 0 0 o Y := by
  intro A2
  induction A2 with
  | nil =>
    intro A1 B u k hk hM hG hv hA hB
    rw [show k + (([] : List Mg).length : Int) = k from Int.add_zero k]
    have e46 := hG.1
    have h1440 := hG.2.1
    rcases hB with e | ⟨b, B', e, hb⟩
    · refine ⟨u, FP.rf, fun o Y kk => ?_⟩
      have ek : u 281 46 = k := by rw [e46, hM, e, hk]; simp
      have hk0 : 0 ≤ k := by omega
      have hkx : k < 2147483648 := by
        rw [hM, e] at h1440
        simp at h1440
        omega
      refine e_iload 2 5 rfl rfl rfl ?_
      refine e_aload_n 3 6 rfl rfl rfl rfl ?_
      refine g_getI 4 9 46 ckX12 flX12_314 rfl rfl (Nat.le_of_ble_eq_true rfl) rfl rfl rfl ek ?_
      refine e_icmp_ge 5 41 12 rfl rfl rfl (by unfold xr at *; omega) (by unfold xr at *; omega) (fun _ => ?_) (fun h9 => absurd h9 (by omega))
      exact kk
    · have hget : M[A1.length]? = some b := by rw [hM, e]; simp
      obtain ⟨g1, g2, g3, g4⟩ := hG.2.2 _ _ hget
      rw [← hk] at g1
      obtain ⟨u1, c1, f1⟩ := sp_mCompare g4 hv
      have hli := lexc_in (tk b.2.1) (tk v)
      have hlx : xr (lexc (tk b.2.1) (tk v)) := by unfold xr; omega
      have hlen : k < u 281 46 := by rw [e46, hM, e, hk]; simp; omega
      have hk0 : 0 ≤ k ∧ u 281 46 ≤ 1440 := by omega
      refine ⟨u1, f1, fun o Y kk => ?_⟩
      refine e_iload 2 5 rfl rfl rfl ?_
      refine e_aload_n 3 6 rfl rfl rfl rfl ?_
      refine g_getI 4 9 46 ckX12 flX12_314 rfl rfl (Nat.le_of_ble_eq_true rfl) rfl rfl rfl rfl ?_
      refine e_icmp_ge 5 41 12 rfl rfl rfl (by unfold xr at *; omega) (by unfold xr at *; omega) (fun h9 => absurd h9 (by omega)) (fun _ => ?_)
      refine e_aload_n 6 13 rfl rfl rfl rfl ?_
      refine e_aload_n 7 14 rfl rfl rfl rfl ?_
      refine g_getR 8 17 ckX12 flX12_7 rfl rfl (Nat.le_of_ble_eq_true rfl) rfl rfl ?_
      refine e_aload_n 9 18 rfl rfl rfl rfl ?_
      refine g_getR 10 21 ckX12 flX12_97 rfl rfl (Nat.le_of_ble_eq_true rfl) rfl rfl ?_
      refine e_iload 11 23 rfl rfl rfl ?_
      refine g_iaload 12 24 rfl rfl (Nat.le_of_ble_eq_true rfl) rfl (by omega) (by omega) (by omega) g1 ?_
      refine e_aload_n 13 25 rfl rfl rfl rfl ?_
      refine g_getR 14 28 ckX12 flX12_7 rfl rfl (Nat.le_of_ble_eq_true rfl) rfl rfl ?_
      refine e_iload_n 15 29 rfl rfl rfl rfl ?_
      refine g_callV 16 32 (c1) okX12_compare cvX12_253 ⟨(Nat.le_of_ble_eq_true rfl), (Nat.le_of_ble_eq_true rfl)⟩ rfl rfl (Nat.le_of_ble_eq_true rfl) rfl rfl rfl rfl rfl (Nat.le_of_ble_eq_true rfl) (Nat.le_of_ble_eq_true rfl) (Nat.le_of_ble_eq_true rfl) ?_
      refine e_if_ge 17 41 35 rfl rfl rfl hlx (fun _ => ?_) (fun h9 => absurd h9 (by omega))
      exact kk
  | cons a A2 ih =>
    intro A1 B u k hk hM hG hv hA hB
    have hget : M[A1.length]? = some a := by rw [hM]; simp
    obtain ⟨g1, g2, g3, g4⟩ := hG.2.2 _ _ hget
    rw [← hk] at g1
    have e46 := hG.1
    have h1440 := hG.2.1
    obtain ⟨u1, c1, f1⟩ := sp_mCompare g4 hv
    have hla := hA a (by simp)
    rw [hla] at c1
    have hlen : k < u 281 46 := by rw [e46, hM, hk]; simp; omega
    have hk0 : 0 ≤ k ∧ u 281 46 ≤ 1440 := by omega
    obtain ⟨u', f2, k2⟩ := ih (A1 ++ [a]) B u1 (k + 1) (by simp; omega) (by rw [hM, List.append_assoc]; rfl) (hG.fp f1 rfl) (hv.fp f1) (fun m hm => hA m (List.mem_cons_of_mem _ hm)) hB
    refine ⟨u', f1.tr f2, fun o Y kk => ?_⟩
    have kk2 := k2 o Y (by rw [show k + 1 + (A2.length : Int) = k + ((a :: A2).length : Int) by simp; omega]; exact kk)
    refine e_iload 2 5 rfl rfl rfl ?_
    refine e_aload_n 3 6 rfl rfl rfl rfl ?_
    refine g_getI 4 9 46 ckX12 flX12_314 rfl rfl (Nat.le_of_ble_eq_true rfl) rfl rfl rfl rfl ?_
    refine e_icmp_ge 5 41 12 rfl rfl rfl (by unfold xr at *; omega) (by unfold xr at *; omega) (fun h9 => absurd h9 (by omega)) (fun _ => ?_)
    refine e_aload_n 6 13 rfl rfl rfl rfl ?_
    refine e_aload_n 7 14 rfl rfl rfl rfl ?_
    refine g_getR 8 17 ckX12 flX12_7 rfl rfl (Nat.le_of_ble_eq_true rfl) rfl rfl ?_
    refine e_aload_n 9 18 rfl rfl rfl rfl ?_
    refine g_getR 10 21 ckX12 flX12_97 rfl rfl (Nat.le_of_ble_eq_true rfl) rfl rfl ?_
    refine e_iload 11 23 rfl rfl rfl ?_
    refine g_iaload 12 24 rfl rfl (Nat.le_of_ble_eq_true rfl) rfl (by omega) (by omega) (by omega) g1 ?_
    refine e_aload_n 13 25 rfl rfl rfl rfl ?_
    refine g_getR 14 28 ckX12 flX12_7 rfl rfl (Nat.le_of_ble_eq_true rfl) rfl rfl ?_
    refine e_iload_n 15 29 rfl rfl rfl rfl ?_
    refine g_callV 16 32 (c1) okX12_compare cvX12_253 ⟨(Nat.le_of_ble_eq_true rfl), (Nat.le_of_ble_eq_true rfl)⟩ rfl rfl (Nat.le_of_ble_eq_true rfl) rfl rfl rfl rfl rfl (Nat.le_of_ble_eq_true rfl) (Nat.le_of_ble_eq_true rfl) (Nat.le_of_ble_eq_true rfl) ?_
    refine e_if_ge 17 41 35 rfl rfl rfl xm1 (fun h9 => absurd h9 (by omega)) (fun _ => ?_)
    refine e_iinc 18 38 (ls' := [some _, some _, some _, none, some _, none]) rfl rfl (Nat.le_of_ble_eq_true rfl) rfl rfl ?_
    refine e_goto 19 3 rfl rfl ?_
    exact kk2
/-- the groups behind a place, one place up -/
def msh (u : xSig) (i N : Int) : xSig := fun b j => if (b = 307 ∨ b = 308 ∨ b = 309) ∧ i < j ∧ j ≤ N then u b (j - 1) else u b j
theorem msh_o (u : xSig) (i N : Int) {b : Nat} (h : b ≠ 307 ∧ b ≠ 308 ∧ b ≠ 309) : msh u i N b = u b := by
  funext j
  unfold msh
  rw [if_neg]
  rintro ⟨q, -⟩
  omega
theorem msh_f (u : xSig) (i N : Int) : FP [(307, -1), (308, -1), (309, -1)] u (msh u i N) := fun b j hi => by
  rw [msh_o u i N]
  refine ⟨?_, ?_, ?_⟩ <;> intro e <;> subst e <;> cases hi
theorem msh_step (u : xSig) (i N : Int) (hi : i ≤ N) : xu (xu (xu (msh u i N) 307 i (u 307 (i - 1))) 308 i (u 308 (i - 1))) 309 i (u 309 (i - 1)) = msh u (i - 1) N := by
  funext b j
  unfold msh xu
  by_cases hb : b = 307 ∨ b = 308 ∨ b = 309
  · by_cases c : j = i
    · subst c
      rcases hb with rfl | rfl | rfl
      · simp; omega
      · simp; omega
      · simp; omega
    · rcases hb with rfl | rfl | rfl
      all_goals
        simp [c]
        by_cases c2 : i < j ∧ j ≤ N
        · rw [if_pos c2, if_pos (by omega)]
        · rw [if_neg c2, if_neg (by omega)]
  · simp only [not_or] at hb
    simp [hb.1, hb.2.1, hb.2.2]
theorem ms_lp {u : xSig} {p s k N : Int} (hk : 0 ≤ k) (hN : N < 1440) : ∀ (n : Nat) (j : Int), j = k + n → j ≤ N → ∀ (o : xO) (Y : xS), x_E MX12_groupsAt 0 0 140 (gaL p s k) [] (St (msh u k N)) 0 0 o Y → x_E MX12_groupsAt 0 0 79 [some (.ref 281), some (.int (ii p)), some (.long (ll s)), none, some (.int (ii k)), some (.int (ii j))] [] (St (msh u j N)) 0 0 o Y := by
  intro n
  induction n with
  | zero =>
    intro j hj hjN o Y kk
    have e : j = k := by omega
    subst e
    refine e_iload 39 81 rfl rfl rfl ?_
    refine e_iload 40 83 rfl rfl rfl ?_
    refine e_icmp_le 41 140 86 rfl rfl rfl (by unfold xr at *; omega) (by unfold xr at *; omega) (fun _ => ?_) (fun h9 => absurd h9 (by omega))
    refine e_dropm [true, true, true, false, true, false] (ls' := [some _, some _, some _, none, some _, none]) rfl ?_
    exact kk
  | succ n ih =>
    intro j hj hjN o Y kk
    have k2 := ih (j - 1) (by omega) (by omega) o Y kk
    rw [← msh_step u j N hjN] at k2
    have at1 : ∀ b : Nat, msh u j N b (j - 1) = u b (j - 1) := fun b => by
      unfold msh
      rw [if_neg]
      rintro ⟨-, q, -⟩
      omega
    have w2 : xu (msh u j N) 307 j (u 307 (j - 1)) 308 (j - 1) = u 308 (j - 1) := by rw [xu_other _ _ _ (by decide)]; exact at1 308
    have w3 : xu (xu (msh u j N) 307 j (u 307 (j - 1))) 308 j (u 308 (j - 1)) 309 (j - 1) = u 309 (j - 1) := by rw [xu_other _ _ _ (by decide), xu_other _ _ _ (by decide)]; exact at1 309
    have w1 := at1 307
    rw [show j - 1 = j + -1 by omega] at k2
    refine e_iload 39 81 rfl rfl rfl ?_
    refine e_iload 40 83 rfl rfl rfl ?_
    refine e_icmp_le 41 140 86 rfl rfl rfl (by unfold xr at *; omega) (by unfold xr at *; omega) (fun h9 => absurd h9 (by omega)) (fun _ => ?_)
    refine e_aload_n 42 87 rfl rfl rfl rfl ?_
    refine g_getR 43 90 ckX12 flX12_97 rfl rfl (Nat.le_of_ble_eq_true rfl) rfl rfl ?_
    refine e_iload 44 92 rfl rfl rfl ?_
    refine e_aload_n 45 93 rfl rfl rfl rfl ?_
    refine g_getR 46 96 ckX12 flX12_97 rfl rfl (Nat.le_of_ble_eq_true rfl) rfl rfl ?_
    refine e_iload 47 98 rfl rfl rfl ?_
    refine e_iconst 48 99 rfl rfl ?_
    refine e_isub 49 100 rfl rfl ?_
    refine g_iaload 50 101 rfl rfl (Nat.le_of_ble_eq_true rfl) rfl (by omega) (by omega) (by omega) w1 ?_
    refine g_iastore 51 102 rfl rfl (Nat.le_of_ble_eq_true rfl) rfl (by omega) (by omega) (by omega) ?_
    refine e_aload_n 52 103 rfl rfl rfl rfl ?_
    refine g_getR 53 106 ckX12 flX12_100 rfl rfl (Nat.le_of_ble_eq_true rfl) rfl rfl ?_
    refine e_iload 54 108 rfl rfl rfl ?_
    refine e_aload_n 55 109 rfl rfl rfl rfl ?_
    refine g_getR 56 112 ckX12 flX12_100 rfl rfl (Nat.le_of_ble_eq_true rfl) rfl rfl ?_
    refine e_iload 57 114 rfl rfl rfl ?_
    refine e_iconst 58 115 rfl rfl ?_
    refine e_isub 59 116 rfl rfl ?_
    refine g_iaload 60 117 rfl rfl (Nat.le_of_ble_eq_true rfl) rfl (by omega) (by omega) (by omega) w2 ?_
    refine g_iastore 61 118 rfl rfl (Nat.le_of_ble_eq_true rfl) rfl (by omega) (by omega) (by omega) ?_
    refine e_aload_n 62 119 rfl rfl rfl rfl ?_
    refine g_getR 63 122 ckX12 flX12_103 rfl rfl (Nat.le_of_ble_eq_true rfl) rfl rfl ?_
    refine e_iload 64 124 rfl rfl rfl ?_
    refine e_aload_n 65 125 rfl rfl rfl rfl ?_
    refine g_getR 66 128 ckX12 flX12_103 rfl rfl (Nat.le_of_ble_eq_true rfl) rfl rfl ?_
    refine e_iload 67 130 rfl rfl rfl ?_
    refine e_iconst 68 131 rfl rfl ?_
    refine e_isub 69 132 rfl rfl ?_
    refine g_laload 70 133 rfl rfl (Nat.le_of_ble_eq_true rfl) rfl (by omega) (by omega) (by omega) w3 ?_
    refine g_lastore 71 134 rfl rfl (Nat.le_of_ble_eq_true rfl) rfl (by omega) (by omega) (by omega) ?_
    refine e_iinc 72 137 (ls' := [some _, some _, some _, none, some _, some _]) rfl rfl (Nat.le_of_ble_eq_true rfl) rfl rfl ?_
    refine e_goto 73 79 rfl rfl ?_
    exact k2
/-- the last: one more, and its sum -/
theorem ga_fin {u : xSig} {p s k c0 s0 : Int} (hk : 0 ≤ k ∧ k < 3000) (h8 : u 308 k = c0) (h9 : u 309 k = s0) : x_E MX12_groupsAt 0 0 174 (gaL p s k) [] (St u) 0 0 vv (St (xu (xu u 308 k (c0 + 1)) 309 k (s0 + s))) := by
  have w : xu u 308 k (c0 + 1) 309 k = s0 := by rw [xu_other _ _ _ (by decide)]; exact h9
  refine e_aload_n 95 175 rfl rfl rfl rfl ?_
  refine g_getR 96 178 ckX12 flX12_100 rfl rfl (Nat.le_of_ble_eq_true rfl) rfl rfl ?_
  refine e_iload 97 180 rfl rfl rfl ?_
  refine e_dup2 98 181 rfl rfl rfl rfl ?_
  refine g_iaload 99 182 rfl rfl (Nat.le_of_ble_eq_true rfl) rfl (by omega) (by omega) (by omega) h8 ?_
  refine e_iconst 100 183 rfl rfl ?_
  refine e_iadd 101 184 rfl rfl ?_
  refine g_iastore 102 185 rfl rfl (Nat.le_of_ble_eq_true rfl) rfl (by omega) (by omega) (by omega) ?_
  refine e_aload_n 103 186 rfl rfl rfl rfl ?_
  refine g_getR 104 189 ckX12 flX12_103 rfl rfl (Nat.le_of_ble_eq_true rfl) rfl rfl ?_
  refine e_iload 105 191 rfl rfl rfl ?_
  refine e_dup2 106 192 rfl rfl rfl rfl ?_
  refine g_laload 107 193 rfl rfl (Nat.le_of_ble_eq_true rfl) rfl (by omega) (by omega) (by omega) w ?_
  refine e_lload_n 108 194 rfl rfl rfl rfl ?_
  refine e_ladd 109 195 rfl rfl ?_
  refine g_lastore 110 196 rfl rfl (Nat.le_of_ble_eq_true rfl) rfl (by omega) (by omega) (by omega) ?_
  exact e_return 111 rfl rfl (Nat.le_of_ble_eq_true rfl) (Nat.le_of_ble_eq_true rfl)
abbrev gA9 : List (Nat × Int) := [(311, -1), (307, -1), (308, -1), (309, -1), (281, 46)]
theorem GM.upd {u : xSig} {A B : List Mg} {b : Mg} (h : GM u (A ++ b :: B)) (c s : Int) : GM (xu (xu u 308 A.length c) 309 A.length s) (A ++ (b.1, b.2.1, c, s) :: B) := by
  obtain ⟨h1, h2, h3⟩ := h
  refine ⟨by rw [xu_other _ _ _ (by decide), xu_other _ _ _ (by decide), h1]; simp, by simp at h2 ⊢; omega, fun j m hj => ?_⟩
  by_cases e : j = A.length
  · subst e
    have hb := h3 A.length b (by simp)
    have em : m = (b.1, b.2.1, c, s) := by
      rw [List.getElem?_append_right (Nat.le_refl _), Nat.sub_self, List.getElem?_cons_zero] at hj
      exact (Option.some.inj hj).symm
    rw [em]
    refine ⟨?_, ?_, ?_, ?_⟩
    · rw [xu_other _ _ _ (by decide), xu_other _ _ _ (by decide)]; exact hb.1
    · rw [xu_other _ _ _ (by decide), xu_same]
    · rw [xu_same]
    · exact hb.2.2.2.of (by rw [xu_other _ _ _ (by decide), xu_other _ _ _ (by decide)])
  · have hj2 : (A ++ b :: B)[j]? = some m := by
      rw [← hj]
      by_cases q : j < A.length
      · rw [List.getElem?_append_left q, List.getElem?_append_left q]
      · rw [List.getElem?_append_right (by omega), List.getElem?_append_right (by omega)]
        obtain ⟨d, hd⟩ : ∃ d, j - A.length = d + 1 := ⟨j - A.length - 1, by omega⟩
        rw [hd, List.getElem?_cons_succ, List.getElem?_cons_succ]
    obtain ⟨a1, a2, a3, a4⟩ := h3 j m hj2
    have hne : ((j : Nat) : Int) ≠ A.length := by omega
    refine ⟨?_, ?_, ?_, ?_⟩
    · rw [xu_other _ _ _ (by decide), xu_other _ _ _ (by decide)]; exact a1
    · rw [xu_other _ _ _ (by decide), xu_ne _ (Or.inr hne)]; exact a2
    · rw [xu_ne _ (Or.inr hne), xu_other _ _ _ (by decide)]; exact a3
    · exact a4.of (by rw [xu_other _ _ _ (by decide), xu_other _ _ _ (by decide)])
theorem GM.mk {u : xSig} {A B : List Mg} (h : GM u (A ++ B)) (hl : (A ++ B).length < 1440) {p : Int} {v : Fo} (hv : MV u 282 11300 p v) : GM (xu (xu (xu (xu (msh u A.length (u 281 46)) 307 A.length p) 308 A.length 0) 309 A.length 0) 281 46 (u 281 46 + 1)) (A ++ (p, v, 0, 0) :: B) := by
  obtain ⟨h1, h2, h3⟩ := h
  have e282 : xu (xu (xu (xu (msh u A.length (u 281 46)) 307 A.length p) 308 A.length 0) 309 A.length 0) 281 46 (u 281 46 + 1) 282 = u 282 := by
    rw [xu_other _ _ _ (by decide), xu_other _ _ _ (by decide), xu_other _ _ _ (by decide), xu_other _ _ _ (by decide), msh_o _ _ _ (by decide)]
  refine ⟨by rw [xu_same, h1]; simp; omega, by simp at hl ⊢; omega, fun j m hj => ?_⟩
  have v7 : ∀ j : Int, xu (xu (xu (xu (msh u A.length (u 281 46)) 307 A.length p) 308 A.length 0) 309 A.length 0) 281 46 (u 281 46 + 1) 307 j = if j = A.length then p else msh u A.length (u 281 46) 307 j := fun j => by simp [xu]
  have v8 : ∀ j : Int, xu (xu (xu (xu (msh u A.length (u 281 46)) 307 A.length p) 308 A.length 0) 309 A.length 0) 281 46 (u 281 46 + 1) 308 j = if j = A.length then 0 else msh u A.length (u 281 46) 308 j := fun j => by simp [xu]
  have v9 : ∀ j : Int, xu (xu (xu (xu (msh u A.length (u 281 46)) 307 A.length p) 308 A.length 0) 309 A.length 0) 281 46 (u 281 46 + 1) 309 j = if j = A.length then 0 else msh u A.length (u 281 46) 309 j := fun j => by simp [xu]
  rw [v7, v8, v9]
  by_cases e : j = A.length
  · have em : m = (p, v, 0, 0) := by
      subst e
      rw [List.getElem?_append_right (Nat.le_refl _), Nat.sub_self, List.getElem?_cons_zero] at hj
      exact (Option.some.inj hj).symm
    have ej : (j : Int) = A.length := by omega
    rw [em, if_pos ej, if_pos ej, if_pos ej]
    exact ⟨rfl, rfl, rfl, hv.of e282⟩
  · have ej : ¬ (j : Int) = A.length := by omega
    rw [if_neg ej, if_neg ej, if_neg ej]
    by_cases q : j < A.length
    · have hj2 : (A ++ B)[j]? = some m := by
        rw [← hj, List.getElem?_append_left q, List.getElem?_append_left q]
      obtain ⟨a1, a2, a3, a4⟩ := h3 j m hj2
      have z : ∀ b : Nat, msh u A.length (u 281 46) b j = u b j := fun b => by
        unfold msh
        rw [if_neg]
        rintro ⟨-, q1, -⟩
        omega
      rw [z, z, z]
      exact ⟨a1, a2, a3, a4.of e282⟩
    · obtain ⟨d, hd⟩ : ∃ d, j = A.length + 1 + d := ⟨j - A.length - 1, by omega⟩
      have hj3 : B[d]? = some m := by
        rw [List.getElem?_append_right (by omega), show j - A.length = d + 1 by omega, List.getElem?_cons_succ] at hj
        exact hj
      have hdl := (List.getElem?_eq_some_iff.mp hj3).1
      have hj2 : (A ++ B)[A.length + d]? = some m := by
        rw [List.getElem?_append_right (by omega), show A.length + d - A.length = d by omega]
        exact hj3
      obtain ⟨a1, a2, a3, a4⟩ := h3 _ m hj2
      have z : ∀ b : Nat, (b = 307 ∨ b = 308 ∨ b = 309) → msh u A.length (u 281 46) b j = u b ((A.length + d : Nat) : Int) := fun b hb => by
        unfold msh
        rw [if_pos ⟨hb, by omega, by rw [h1]; simp; omega⟩]
        congr 1
        omega
      rw [z 307 (by omega), z 308 (by omega), z 309 (by omega)]
      exact ⟨a1, a2, a3, a4.of e282⟩
theorem sp_mGroupsAt {u : xSig} {p s : Int} {v : Fo} {M : List Mg} (hG : GM u M) (hl : M.length < 1440) (hv : MV u 282 11300 p v) : ∃ u', x_Sp MX12_groupsAt 0 0 [.ref 281, .int (ii p), .long (ll s)] (St u) vv (St u') ∧ GM u' (mGI p v s M) ∧ FP gA9 u u' := by
  obtain ⟨A, B, hM, hA, hB⟩ := mGI_sp (p := p) (v := v) (s := s) M
  have e46 := hG.1
  obtain ⟨u1, f1, k1⟩ := ga_lp (p := p) (s := s) (v := v) (M := M) A [] B u 0 rfl hM hG hv hA (by
    rcases hB with ⟨q, -⟩ | ⟨b, B', q1, q2, -⟩ | ⟨b, B', q1, q2, -⟩
    · exact Or.inl q
    · exact Or.inr ⟨b, B', q1, by omega⟩
    · exact Or.inr ⟨b, B', q1, by omega⟩)
  rw [Int.zero_add] at k1
  have hG1 := hG.fp f1 rfl
  have hv1 := hv.fp f1
  have e461 := hG1.1
  have start : ∀ {o : xO} {Y : xS}, x_E MX12_groupsAt 0 0 41 (gaL p s A.length) [] (St u1) 0 0 o Y → x_Sp MX12_groupsAt 0 0 [.ref 281, .int (ii p), .long (ll s)] (St u) o Y := by
    intro o Y kk
    have k3 := k1 _ _ kk
    refine e_entry okX12_groupsAt (Nat.le_of_ble_eq_true rfl) (ls := [some _, some _, some _, none, none, none]) rfl ?_
    refine e_iconst 0 1 rfl rfl ?_
    refine e_istore 1 3 (ls' := [some _, some _, some _, none, some _, none]) rfl rfl (Nat.le_of_ble_eq_true rfl) rfl ?_
    exact k3
  have hAl : (A.length : Int) ≤ M.length := by rw [hM]; simp; omega
  have hAB : (A.length : Int) + B.length = M.length := by rw [hM]; simp
  -- a new one
  have fresh : ∀ u2, FP m11 u1 u2 → ∃ u', x_E MX12_groupsAt 0 0 73 (gaL p s A.length) [] (St u2) 0 0 vv (St u') ∧ GM u' (A ++ (p, v, 1, s) :: B) ∧ FP gA9 u2 u' := by
    intro u2 g
    have hG2 := hG1.fp g rfl
    have hv2 := hv1.fp g
    have e462 := hG2.1
    rw [hM] at hG2 hl
    have hmk := hG2.mk hl hv2
    obtain ⟨u3, hu3⟩ : ∃ u3, u3 = xu (xu (xu (xu (msh u2 A.length (u2 281 46)) 307 A.length p) 308 A.length 0) 309 A.length 0) 281 46 (u2 281 46 + 1) := ⟨_, rfl⟩
    rw [← hu3] at hmk
    have f3 : FP gA9 u2 u3 := by rw [hu3]; exact (((((msh_f u2 _ _).mono rfl).putA rfl).putA rfl).putA rfl).put rfl
    have h8 : u3 308 A.length = 0 := by rw [hu3]; simp [xu]
    have h9 : u3 309 A.length = 0 := by rw [hu3]; simp [xu]
    have hAk : 0 ≤ (A.length : Int) ∧ (A.length : Int) < 3000 := by
      rw [List.length_append] at hl
      omega
    have k174 := ga_fin (u := u3) (p := p) (s := s) (k := A.length) hAk h8 h9
    have hup := hmk.upd (0 + 1) (0 + s)
    rw [show ((p, v, 0, 0) : Mg).1 = p from rfl, show ((p, v, 0, 0) : Mg).2.1 = v from rfl, Int.zero_add, Int.zero_add] at hup
    rw [Int.zero_add, Int.zero_add] at k174
    refine ⟨_, ?_, hup, (f3.putA rfl).putA rfl⟩
    rw [hu3] at k174 ⊢
    have hN : u2 281 46 < 1440 := by
      rw [e462]
      rw [List.length_append] at hl
      omega
    have w46 : xu (xu (xu (msh u2 A.length (u2 281 46)) 307 A.length p) 308 A.length 0) 309 A.length 0 281 46 = u2 281 46 := by
      rw [xu_other _ _ _ (by decide), xu_other _ _ _ (by decide), xu_other _ _ _ (by decide), msh_o _ _ _ (by decide)]
    have emsh : msh u2 (u2 281 46) (u2 281 46) = u2 := by
      funext b j
      unfold msh
      rw [if_neg]
      rintro ⟨-, q1, q2⟩
      omega
    have hAN : (A.length : Int) ≤ u2 281 46 := by rw [e462]; omega
    obtain ⟨n, hn⟩ := Int.eq_ofNat_of_zero_le (show 0 ≤ u2 281 46 - A.length by omega)
    generalize hke : (A.length : Int) = k at *
    have k140 : x_E MX12_groupsAt 0 0 140 (gaL p s k) [] (St (msh u2 k (u2 281 46))) 0 0 vv (St (xu (xu (xu (xu (xu (xu (msh u2 k (u2 281 46)) 307 k p) 308 k 0) 309 k 0) 281 46 (u2 281 46 + 1)) 308 k 1) 309 k s)) := by
      refine e_aload_n 74 141 rfl rfl rfl rfl ?_
      refine g_getR 75 144 ckX12 flX12_97 rfl rfl (Nat.le_of_ble_eq_true rfl) rfl rfl ?_
      refine e_iload 76 146 rfl rfl rfl ?_
      refine e_iload_n 77 147 rfl rfl rfl rfl ?_
      refine g_iastore 78 148 rfl rfl (Nat.le_of_ble_eq_true rfl) rfl (by omega) (by omega) (by omega) ?_
      refine e_aload_n 79 149 rfl rfl rfl rfl ?_
      refine g_getR 80 152 ckX12 flX12_100 rfl rfl (Nat.le_of_ble_eq_true rfl) rfl rfl ?_
      refine e_iload 81 154 rfl rfl rfl ?_
      refine e_iconst 82 155 rfl rfl ?_
      refine g_iastore 83 156 rfl rfl (Nat.le_of_ble_eq_true rfl) rfl (by omega) (by omega) (by omega) ?_
      refine e_aload_n 84 157 rfl rfl rfl rfl ?_
      refine g_getR 85 160 ckX12 flX12_103 rfl rfl (Nat.le_of_ble_eq_true rfl) rfl rfl ?_
      refine e_iload 86 162 rfl rfl rfl ?_
      refine e_lconst 87 163 rfl rfl ?_
      refine g_lastore 88 164 rfl rfl (Nat.le_of_ble_eq_true rfl) rfl (by omega) (by omega) (by omega) ?_
      refine e_aload_n 89 165 rfl rfl rfl rfl ?_
      refine e_dup 90 166 rfl rfl rfl ?_
      refine g_getI 91 169 46 ckX12 flX12_314 rfl rfl (Nat.le_of_ble_eq_true rfl) rfl rfl rfl w46 ?_
      refine e_iconst 92 170 rfl rfl ?_
      refine e_iadd 93 171 rfl rfl ?_
      refine g_putI 94 174 46 ckX12 flX12_314 rfl rfl (Nat.le_of_ble_eq_true rfl) rfl rfl rfl ?_
      exact k174
    have k79 := ms_lp (u := u2) (p := p) (s := s) (k := k) (N := u2 281 46) hAk.1 hN n (u2 281 46) (by omega) (Int.le_refl _) _ _ k140
    rw [emsh] at k79
    refine e_aload_n 36 74 rfl rfl rfl rfl ?_
    refine g_getI 37 77 46 ckX12 flX12_314 rfl rfl (Nat.le_of_ble_eq_true rfl) rfl rfl rfl rfl ?_
    refine e_istore 38 79 (ls' := [some _, some _, some _, none, some _, some _]) rfl rfl (Nat.le_of_ble_eq_true rfl) rfl ?_
    exact k79
  have hk0 : 0 ≤ (A.length : Int) ∧ u1 281 46 < 1440 ∧ (A.length : Int) ≤ u1 281 46 := by
    rw [e461]
    omega
  rcases hB with ⟨q1, q2⟩ | ⟨b, B', q1, q2, q3⟩ | ⟨b, B', q1, q2, q3⟩
  · obtain ⟨u', j1, j2, j3⟩ := fresh u1 FP.rf
    rw [q2]
    rw [q1] at j2
    refine ⟨u', start ?_, j2, FP.tr (f1.mono rfl) j3⟩
    have eA : u1 281 46 = A.length := by rw [e461, hM, q1]; simp
    generalize (A.length : Int) = k at *
    have xq1 : xr k := by unfold xr; omega
    have xq2 : xr (u1 281 46) := by unfold xr; omega
    refine e_iload 20 43 rfl rfl rfl ?_
    refine e_aload_n 21 44 rfl rfl rfl rfl ?_
    refine g_getI 22 47 46 ckX12 flX12_314 rfl rfl (Nat.le_of_ble_eq_true rfl) rfl rfl rfl rfl ?_
    refine e_icmp_eq 23 73 50 rfl rfl rfl xq1 xq2 (fun _ => ?_) (fun h9 => absurd h9 (by omega))
    exact j1
  · have hget : M[A.length]? = some b := by rw [hM, q1]; simp
    obtain ⟨g1, g2, g3, g4⟩ := hG1.2.2 _ _ hget
    obtain ⟨u2, c1, f2⟩ := sp_mCompare g4 hv1
    rw [q2] at c1
    have hG2 := hG1.fp f2 rfl
    have k174 := ga_fin (u := u2) (p := p) (s := s) (k := A.length) (c0 := b.2.2.1) (s0 := b.2.2.2) ⟨by omega, by omega⟩ (by rw [f2.cell 308 rfl]; exact g2) (by rw [f2.cell 309 rfl]; exact g3)
    rw [hM, q1] at hG2
    have hup := hG2.upd (b.2.2.1 + 1) (b.2.2.2 + s)
    rw [q3]
    refine ⟨_, start ?_, hup, FP.tr (f1.mono rfl) (((f2.mono rfl : FP gA9 u1 u2).putA rfl).putA rfl)⟩
    have eA : (A.length : Int) < u1 281 46 := by rw [e461, hM, q1]; simp; omega
    generalize (A.length : Int) = k at *
    have xq1 : xr k := by unfold xr; omega
    have xq2 : xr (u1 281 46) := by unfold xr; omega
    refine e_iload 20 43 rfl rfl rfl ?_
    refine e_aload_n 21 44 rfl rfl rfl rfl ?_
    refine g_getI 22 47 46 ckX12 flX12_314 rfl rfl (Nat.le_of_ble_eq_true rfl) rfl rfl rfl rfl ?_
    refine e_icmp_eq 23 73 50 rfl rfl rfl xq1 xq2 (fun h9 => absurd h9 (by omega)) (fun _ => ?_)
    refine e_aload_n 24 51 rfl rfl rfl rfl ?_
    refine e_aload_n 25 52 rfl rfl rfl rfl ?_
    refine g_getR 26 55 ckX12 flX12_7 rfl rfl (Nat.le_of_ble_eq_true rfl) rfl rfl ?_
    refine e_aload_n 27 56 rfl rfl rfl rfl ?_
    refine g_getR 28 59 ckX12 flX12_97 rfl rfl (Nat.le_of_ble_eq_true rfl) rfl rfl ?_
    refine e_iload 29 61 rfl rfl rfl ?_
    refine g_iaload 30 62 rfl rfl (Nat.le_of_ble_eq_true rfl) rfl (by omega) (by omega) (by omega) g1 ?_
    refine e_aload_n 31 63 rfl rfl rfl rfl ?_
    refine g_getR 32 66 ckX12 flX12_7 rfl rfl (Nat.le_of_ble_eq_true rfl) rfl rfl ?_
    refine e_iload_n 33 67 rfl rfl rfl rfl ?_
    refine g_callV 34 70 (c1) okX12_compare cvX12_253 ⟨(Nat.le_of_ble_eq_true rfl), (Nat.le_of_ble_eq_true rfl)⟩ rfl rfl (Nat.le_of_ble_eq_true rfl) rfl rfl rfl rfl rfl (Nat.le_of_ble_eq_true rfl) (Nat.le_of_ble_eq_true rfl) (Nat.le_of_ble_eq_true rfl) ?_
    refine e_if_eq 35 174 73 rfl rfl rfl (by unfold xr at *; omega) (fun _ => ?_) (fun h9 => absurd h9 (by omega))
    exact k174
  · have hget : M[A.length]? = some b := by rw [hM, q1]; simp
    obtain ⟨g1, g2, g3, g4⟩ := hG1.2.2 _ _ hget
    obtain ⟨u2, c1, f2⟩ := sp_mCompare g4 hv1
    rw [q2] at c1
    obtain ⟨u', j1, j2, j3⟩ := fresh u2 f2
    rw [q3]
    refine ⟨u', start ?_, j2, FP.tr (f1.mono rfl) (FP.tr (f2.mono rfl) j3)⟩
    have eA : (A.length : Int) < u1 281 46 := by rw [e461, hM, q1]; simp; omega
    generalize (A.length : Int) = k at *
    have xq1 : xr k := by unfold xr; omega
    have xq2 : xr (u1 281 46) := by unfold xr; omega
    refine e_iload 20 43 rfl rfl rfl ?_
    refine e_aload_n 21 44 rfl rfl rfl rfl ?_
    refine g_getI 22 47 46 ckX12 flX12_314 rfl rfl (Nat.le_of_ble_eq_true rfl) rfl rfl rfl rfl ?_
    refine e_icmp_eq 23 73 50 rfl rfl rfl xq1 xq2 (fun h9 => absurd h9 (by omega)) (fun _ => ?_)
    refine e_aload_n 24 51 rfl rfl rfl rfl ?_
    refine e_aload_n 25 52 rfl rfl rfl rfl ?_
    refine g_getR 26 55 ckX12 flX12_7 rfl rfl (Nat.le_of_ble_eq_true rfl) rfl rfl ?_
    refine e_aload_n 27 56 rfl rfl rfl rfl ?_
    refine g_getR 28 59 ckX12 flX12_97 rfl rfl (Nat.le_of_ble_eq_true rfl) rfl rfl ?_
    refine e_iload 29 61 rfl rfl rfl ?_
    refine g_iaload 30 62 rfl rfl (Nat.le_of_ble_eq_true rfl) rfl (by omega) (by omega) (by omega) g1 ?_
    refine e_aload_n 31 63 rfl rfl rfl rfl ?_
    refine g_getR 32 66 ckX12 flX12_7 rfl rfl (Nat.le_of_ble_eq_true rfl) rfl rfl ?_
    refine e_iload_n 33 67 rfl rfl rfl rfl ?_
    refine g_callV 34 70 (c1) okX12_compare cvX12_253 ⟨(Nat.le_of_ble_eq_true rfl), (Nat.le_of_ble_eq_true rfl)⟩ rfl rfl (Nat.le_of_ble_eq_true rfl) rfl rfl rfl rfl rfl (Nat.le_of_ble_eq_true rfl) (Nat.le_of_ble_eq_true rfl) (Nat.le_of_ble_eq_true rfl) ?_
    refine e_if_eq 35 174 73 rfl rfl rfl (by unfold xr at *; omega) (fun h9 => absurd h9 (by omega)) (fun _ => ?_)
    exact j1
