/-! ===== steps: group, the walk ===== -/
def aTk (s : Int) : List Fo → List Ky → List Ky
  | [], L => L
  | v :: r, L => aTk s r (if knd (tok (tk v) 0) = 3 then L else aIns (tk v) s L)
def smA : List Fo → Int
  | [] => 0
  | v :: r => (if knd (tok (tk v) 0) = 1 then tok (tk v) 0 - 2000 else 0) + smA r
def bdy : Fo → Fo
  | .add F _ => F
  | _ => .num 0
def aBd (τ : xSig) (G : Nat → Fo) (path sp : Int) : List Int → List Ky → List Ky
  | [], L => L
  | n :: r, L => aBd τ G path sp r (if hasd τ n = true then aTk (smA (als (bdy (G (31 + 2 * n.toNat))) sp)) (als (bdy (G (31 + 2 * n.toNat))) path) L else L)
theorem gTk_Ky {T : Nat → List Int} {n s : Int} {t : List Int} (ht : T (31 + 2 * n.toNat) = t) : ∀ (qs : List (Int × Fo)) (Gs : List Gr), (∀ q ∈ qs, AT t q) → (gTk T n s t (qs.map Prod.fst) Gs).map (gKy T) = aTk s (qs.map Prod.snd) (Gs.map (gKy T)) := by
  intro qs
  induction qs with
  | nil => intro Gs _; rfl
  | cons q r ih =>
    intro Gs h
    have hq := h q (by simp)
    simp only [List.map_cons, gTk, aTk]
    rw [ih _ (fun x hx => h x (List.mem_cons_of_mem _ hx)), hq.tok0]
    congr 1
    by_cases w : knd (tok (tk q.2) 0) = 3
    · rw [if_pos w, if_pos w]
    · rw [if_neg w, if_neg w, gIns_Ky (by rw [ht]), hq.val]
theorem smsL_A {t : List Int} : ∀ (qs : List (Int × Fo)), (∀ q ∈ qs, AT t q) → smsL t (qs.map Prod.fst) = smA (qs.map Prod.snd) := by
  intro qs
  induction qs with
  | nil => intro _; rfl
  | cons q r ih =>
    intro h
    simp only [List.map_cons, smsL, smA]
    rw [ih (fun x hx => h x (List.mem_cons_of_mem _ hx)), (h q (by simp)).tok0]
theorem gBd_Ky {τ : xSig} {T : Nat → List Int} {G : Nat → Fo} (hD : ∀ n : Nat, n < 100 → hasd τ n = true → ∃ F, G (31 + 2 * n) = .add F (.num 0) ∧ DC (T (31 + 2 * n)) F) {path sp : Int} (hp : 0 ≤ path ∧ path < 72) (hs : 0 ≤ sp ∧ sp < 72) : ∀ (Fs : List Int) (Gs : List Gr), (∀ n ∈ Fs, 0 ≤ n ∧ n < 100) → (gBd τ T path sp Fs Gs).map (gKy T) = aBd τ G path sp Fs (Gs.map (gKy T)) := by
  intro Fs
  induction Fs with
  | nil => intro Gs _; rfl
  | cons n r ih =>
    intro Gs h
    have hn := h n (by simp)
    simp only [gBd, aBd]
    rw [ih _ (fun x hx => h x (List.mem_cons_of_mem _ hx))]
    congr 1
    by_cases w : hasd τ n = true
    · rw [if_pos w, if_pos w]
      obtain ⟨m, rfl⟩ := Int.eq_ofNat_of_zero_le hn.1
      obtain ⟨F, d1, d2⟩ := hD m (by omega) w
      have e1 : bdy (G (31 + 2 * (m : Int).toNat)) = F := by
        rw [Int.toNat_natCast, d1]
        rfl
      have e2 : T (31 + 2 * (m : Int).toNat) = 5000 :: (tk F ++ [0]) := by rw [Int.toNat_natCast]; exact d2.1
      rw [e1, e2, atp_eq d2.2.1 hp, atp_eq d2.2.1 hs, gTk_Ky e2 _ _ (asp_at d2.2.1 path), smsL_A _ (asp_at d2.2.1 sp)]
      rfl
    · rw [if_neg w, if_neg w]
theorem KB.mono {L : List Ky} {m m' : Int} (h : KB L m) (hm : m ≤ m') : KB L m' := ⟨by have := h.1; omega, fun q hq => by have := h.2 q hq; omega⟩
theorem KB.tks {s : Int} : ∀ (vs : List Fo) {L : List Ky} {m : Int}, KB L m → KB (aTk s vs L) (m + vs.length) := by
  intro vs
  induction vs with
  | nil => intro L m h; exact h.mono (by simp)
  | cons v r ih =>
    intro L m h
    simp only [aTk]
    have := ih (L := if knd (tok (tk v) 0) = 3 then L else aIns (tk v) s L) (m := m + 1) (by
      split
      · exact h.mono (by omega)
      · exact h.ins)
    exact this.mono (by simp; omega)
theorem KB.bd {τ : xSig} {T : Nat → List Int} {G : Nat → Fo} (hD : ∀ n : Nat, n < 100 → hasd τ n = true → ∃ F, G (31 + 2 * n) = .add F (.num 0) ∧ DC (T (31 + 2 * n)) F) {path sp : Int} : ∀ (Fs : List Int) {L : List Ky} {m : Int}, (∀ n ∈ Fs, 0 ≤ n ∧ n < 100) → KB L m → KB (aBd τ G path sp Fs L) (m + 23 * Fs.length) := by
  intro Fs
  induction Fs with
  | nil => intro L m _ h; exact h.mono (by simp)
  | cons n r ih =>
    intro L m hn h
    simp only [aBd]
    have hn0 := hn n (by simp)
    refine (ih (m := m + 23) (fun x hx => hn x (List.mem_cons_of_mem _ hx)) ?_).mono (by simp; omega)
    by_cases w : hasd τ n = true
    · rw [if_pos w]
      obtain ⟨k, rfl⟩ := Int.eq_ofNat_of_zero_le hn0.1
      obtain ⟨F, d1, d2⟩ := hD k (by omega) w
      have e1 : bdy (G (31 + 2 * (k : Int).toNat)) = F := by
        rw [Int.toNat_natCast, d1]
        rfl
      rw [e1]
      have := als_len d2 path
      exact (h.tks _).mono (by omega)
    · rw [if_neg w]
      exact h.mono (by omega)
abbrev grL (pt sm f d a i : Int) : List (Option Value) := [some (.ref 281), some (.int (ii pt)), some (.int (ii sm)), some (.int (ii f)), some (.int (ii d)), some (.long (ll a)), none, some (.int (ii i))]
theorem su_lp {pt sm f d : Int} : ∀ (B A : List (Int × Fo)) (s : xSig) (a I : Int), I = A.length → SPs s (A ++ B) → I + B.length ≤ 200 → ∀ (o : xO) (Y : xS), x_E MX12_group 0 0 137 (grL pt sm f d (a + smA (B.map Prod.snd)) (I + B.length)) [] (St s) 0 0 o Y → x_E MX12_group 0 0 82 (grL pt sm f d a I) [] (St s) 0 0 o Y := by
  intro B
  induction B with
  | nil =>
    intro A s a I hI hS hl o Y kk
    have e41 : s 281 41 = I := by rw [hS.1, hI]; simp
    rw [show a + smA (List.map Prod.snd ([] : List (Int × Fo))) = a from Int.add_zero a, show I + (([] : List (Int × Fo)).length : Int) = I from Int.add_zero I] at kk
    have hI2 : 0 ≤ I ∧ I ≤ 200 := by simp at hl; omega
    refine e_iload 47 84 rfl rfl rfl ?_
    refine e_aload_n 48 85 rfl rfl rfl rfl ?_
    refine g_getI 49 88 41 ckX12 flX12_152 rfl rfl (Nat.le_of_ble_eq_true rfl) rfl rfl rfl e41 ?_
    refine e_icmp_ge 50 137 91 rfl rfl rfl (by unfold xr at *; omega) (by unfold xr at *; omega) (fun _ => ?_) (fun h9 => absurd h9 (by omega))
    exact kk
  | cons q B ih =>
    intro A s a I hI hS hl o Y kk
    have hlen : ((q :: B).length : Int) = B.length + 1 := by simp
    have e41 : s 281 41 = I + B.length + 1 := by rw [hS.1, hI]; simp; omega
    have eq : s 306 I = q.1 := by rw [hI]; exact spot_at hS
    have hI2 : 0 ≤ I ∧ I < 200 := by omega
    obtain ⟨v1, v2, v3, v4⟩ := mv_fld (hS.2.2 q (by simp))
    have bv := knd_bnd (tok (tk q.2) 0)
    have xkv : xr (knd (tok (tk q.2) 0)) := by unfold xr; omega
    have hcase : ∀ z : Int, z = (if knd (tok (tk q.2) 0) = 1 then tok (tk q.2) 0 - 2000 else 0) → x_E MX12_group 0 0 131 (grL pt sm f d (a + z) I) [] (St s) 0 0 o Y := by
      intro z hz
      have kk2 := ih (A ++ [q]) s (a + z) (I + 1) (by simp; omega) (by rw [List.append_assoc]; exact hS) (by omega) o Y (by
        rw [show a + z + smA (B.map Prod.snd) = a + smA ((q :: B).map Prod.snd) by simp only [List.map_cons, smA]; rw [hz]; omega, show I + 1 + (B.length : Int) = I + ((q :: B).length : Int) by omega]
        exact kk)
      refine e_iinc 75 134 (ls' := [some _, some _, some _, some _, some _, some _, none, some _]) rfl rfl (Nat.le_of_ble_eq_true rfl) rfl rfl ?_
      refine e_goto 76 82 rfl rfl ?_
      exact kk2
    by_cases h1 : knd (tok (tk q.2) 0) = 1
    · rw [if_pos h1] at hcase
      obtain ⟨e2, e3, e4, e5⟩ := v2 h1
      have k131 := hcase _ rfl
      have xz : xr (tok (tk q.2) 0 - 2000) := by unfold xr; omega
      generalize tok (tk q.2) 0 - 2000 = z at *
      refine e_iload 47 84 rfl rfl rfl ?_
      refine e_aload_n 48 85 rfl rfl rfl rfl ?_
      refine g_getI 49 88 41 ckX12 flX12_152 rfl rfl (Nat.le_of_ble_eq_true rfl) rfl rfl rfl e41 ?_
      refine e_icmp_ge 50 137 91 rfl rfl rfl (by unfold xr at *; omega) (by unfold xr at *; omega) (fun h9 => absurd h9 (by omega)) (fun _ => ?_)
      refine e_lload 51 93 rfl rfl rfl ?_
      refine e_aload_n 52 94 rfl rfl rfl rfl ?_
      refine g_getR 53 97 ckX12 flX12_7 rfl rfl (Nat.le_of_ble_eq_true rfl) rfl rfl ?_
      refine e_aload_n 54 98 rfl rfl rfl rfl ?_
      refine g_getR 55 101 ckX12 flX12_94 rfl rfl (Nat.le_of_ble_eq_true rfl) rfl rfl ?_
      refine e_iload 56 103 rfl rfl rfl ?_
      refine g_iaload 57 104 rfl rfl (Nat.le_of_ble_eq_true rfl) rfl (by omega) (by omega) (by omega) eq ?_
      refine g_iaload 58 105 rfl rfl (Nat.le_of_ble_eq_true rfl) rfl (by omega) (by omega) (by omega) v1 ?_
      refine e_iconst 59 106 rfl rfl ?_
      refine e_icmp_ne 60 127 109 rfl rfl rfl xkv (by unfold xr at *; omega) (fun h9 => absurd h9 (fun w => w h1)) (fun _ => ?_)
      refine e_aload_n 61 110 rfl rfl rfl rfl ?_
      refine g_getR 62 113 ckX12 flX12_7 rfl rfl (Nat.le_of_ble_eq_true rfl) rfl rfl ?_
      refine e_aload_n 63 114 rfl rfl rfl rfl ?_
      refine g_getR 64 117 ckX12 flX12_94 rfl rfl (Nat.le_of_ble_eq_true rfl) rfl rfl ?_
      refine e_iload 65 119 rfl rfl rfl ?_
      refine g_iaload 66 120 rfl rfl (Nat.le_of_ble_eq_true rfl) rfl (by omega) (by omega) (by omega) eq ?_
      refine e_iconst 67 121 rfl rfl ?_
      refine e_iadd 68 122 rfl rfl ?_
      refine g_iaload 69 123 rfl rfl (Nat.le_of_ble_eq_true rfl) rfl (by omega) (by omega) (by omega) e2 ?_
      refine e_i2l 70 124 rfl rfl xz ?_
      refine e_goto 71 128 rfl rfl ?_
      refine e_ladd 73 129 rfl rfl ?_
      refine e_lstore 74 131 (ls' := [some _, some _, some _, some _, some _, some _, none, some _]) rfl rfl (Nat.le_of_ble_eq_true rfl) rfl ?_
      exact k131
    · rw [if_neg h1] at hcase
      have k131 := hcase 0 rfl
      refine e_iload 47 84 rfl rfl rfl ?_
      refine e_aload_n 48 85 rfl rfl rfl rfl ?_
      refine g_getI 49 88 41 ckX12 flX12_152 rfl rfl (Nat.le_of_ble_eq_true rfl) rfl rfl rfl e41 ?_
      refine e_icmp_ge 50 137 91 rfl rfl rfl (by unfold xr at *; omega) (by unfold xr at *; omega) (fun h9 => absurd h9 (by omega)) (fun _ => ?_)
      refine e_lload 51 93 rfl rfl rfl ?_
      refine e_aload_n 52 94 rfl rfl rfl rfl ?_
      refine g_getR 53 97 ckX12 flX12_7 rfl rfl (Nat.le_of_ble_eq_true rfl) rfl rfl ?_
      refine e_aload_n 54 98 rfl rfl rfl rfl ?_
      refine g_getR 55 101 ckX12 flX12_94 rfl rfl (Nat.le_of_ble_eq_true rfl) rfl rfl ?_
      refine e_iload 56 103 rfl rfl rfl ?_
      refine g_iaload 57 104 rfl rfl (Nat.le_of_ble_eq_true rfl) rfl (by omega) (by omega) (by omega) eq ?_
      refine g_iaload 58 105 rfl rfl (Nat.le_of_ble_eq_true rfl) rfl (by omega) (by omega) (by omega) v1 ?_
      refine e_iconst 59 106 rfl rfl ?_
      refine e_icmp_ne 60 127 109 rfl rfl rfl xkv (by unfold xr at *; omega) (fun _ => ?_) (fun h9 => absurd h9 h1)
      refine e_lconst 72 128 rfl rfl ?_
      refine e_ladd 73 129 rfl rfl ?_
      refine e_lstore 74 131 (ls' := [some _, some _, some _, some _, some _, some _, none, some _]) rfl rfl (Nat.le_of_ble_eq_true rfl) rfl ?_
      exact k131
theorem gp_lp {pt sm f d a : Int} : ∀ (B A : List (Int × Fo)) (s : xSig) (M : List Mg) (I : Int), I = A.length → SPs s (A ++ B) → I + B.length ≤ 200 → GM s M → M.length + B.length ≤ 1440 → ∃ (s' : xSig) (M' : List Mg), GM s' M' ∧ M'.length ≤ M.length + B.length ∧ M'.map mKy = aTk a (B.map Prod.snd) (M.map mKy) ∧ FP gA9 s s' ∧ ∀ (o : xO) (Y : xS), x_E MX12_group 0 0 191 (grL pt sm f d a (I + B.length)) [] (St s') 0 0 o Y → x_E MX12_group 0 0 147 (grL pt sm f d a I) [] (St s) 0 0 o Y := by
  intro B
  induction B with
  | nil =>
    intro A s M I hI hS hl hG hM
    have e41 : s 281 41 = I := by rw [hS.1, hI]; simp
    refine ⟨s, M, hG, by simp, rfl, FP.rf, fun o Y kk => ?_⟩
    rw [show I + (([] : List (Int × Fo)).length : Int) = I from Int.add_zero I] at kk
    have hI2 : 0 ≤ I ∧ I ≤ 200 := by simp at hl; omega
    refine e_iload 83 149 rfl rfl rfl ?_
    refine e_aload_n 84 150 rfl rfl rfl rfl ?_
    refine g_getI 85 153 41 ckX12 flX12_152 rfl rfl (Nat.le_of_ble_eq_true rfl) rfl rfl rfl e41 ?_
    refine e_icmp_ge 86 191 156 rfl rfl rfl (by unfold xr at *; omega) (by unfold xr at *; omega) (fun _ => ?_) (fun h9 => absurd h9 (by omega))
    exact kk
  | cons q B ih =>
    intro A s M I hI hS hl hG hM
    have hlen : ((q :: B).length : Int) = B.length + 1 := by simp
    have hlen2 : (q :: B).length = B.length + 1 := by simp
    have e41 : s 281 41 = I + B.length + 1 := by rw [hS.1, hI]; simp; omega
    have eq : s 306 I = q.1 := by rw [hI]; exact spot_at hS
    have hI2 : 0 ≤ I ∧ I < 200 := by omega
    have hqv := hS.2.2 q (by simp)
    obtain ⟨v1, v2, v3, v4⟩ := mv_fld hqv
    have bv := knd_bnd (tok (tk q.2) 0)
    have xkv : xr (knd (tok (tk q.2) 0)) := by unfold xr; omega
    by_cases h3 : knd (tok (tk q.2) 0) = 3
    · obtain ⟨s', M', j1, j2, j3, j4, j5⟩ := ih (A ++ [q]) s M (I + 1) (by simp; omega) (by rw [List.append_assoc]; exact hS) (by omega) hG (by omega)
      refine ⟨s', M', j1, by omega, ?_, j4, fun o Y kk => ?_⟩
      · rw [j3]
        simp only [List.map_cons, aTk]
        rw [if_pos h3]
      · have kk2 := j5 o Y (by rw [show I + 1 + (B.length : Int) = I + ((q :: B).length : Int) by omega]; exact kk)
        refine e_iload 83 149 rfl rfl rfl ?_
        refine e_aload_n 84 150 rfl rfl rfl rfl ?_
        refine g_getI 85 153 41 ckX12 flX12_152 rfl rfl (Nat.le_of_ble_eq_true rfl) rfl rfl rfl e41 ?_
        refine e_icmp_ge 86 191 156 rfl rfl rfl (by unfold xr at *; omega) (by unfold xr at *; omega) (fun h9 => absurd h9 (by omega)) (fun _ => ?_)
        refine e_aload_n 87 157 rfl rfl rfl rfl ?_
        refine g_getR 88 160 ckX12 flX12_7 rfl rfl (Nat.le_of_ble_eq_true rfl) rfl rfl ?_
        refine e_aload_n 89 161 rfl rfl rfl rfl ?_
        refine g_getR 90 164 ckX12 flX12_94 rfl rfl (Nat.le_of_ble_eq_true rfl) rfl rfl ?_
        refine e_iload 91 166 rfl rfl rfl ?_
        refine g_iaload 92 167 rfl rfl (Nat.le_of_ble_eq_true rfl) rfl (by omega) (by omega) (by omega) eq ?_
        refine g_iaload 93 168 rfl rfl (Nat.le_of_ble_eq_true rfl) rfl (by omega) (by omega) (by omega) v1 ?_
        refine e_iconst 94 169 rfl rfl ?_
        refine e_icmp_eq 95 185 172 rfl rfl rfl xkv (by unfold xr at *; omega) (fun _ => ?_) (fun h9 => absurd h9 (fun w => w h3))
        refine e_iinc 103 188 (ls' := [some _, some _, some _, some _, some _, some _, none, some _]) rfl rfl (Nat.le_of_ble_eq_true rfl) rfl rfl ?_
        refine e_goto 104 147 rfl rfl ?_
        exact kk2
    · obtain ⟨u, c1, c2, c3⟩ := sp_mGroupsAt (s := a) hG (by omega) hqv
      have hlm : (mGI q.1 q.2 a M).length ≤ M.length + 1 := by
        clear hG c2 hM
        induction M with
        | nil => simp [mGI]
        | cons g r ihm =>
          simp only [mGI]
          split
          · simp; omega
          · split
            · simp
            · simp
      have fsp : SPs u (A ++ q :: B) := by
        refine ⟨by rw [c3 281 41 rfl]; exact hS.1, hS.2.1.of fun i _ _ => by rw [c3.cell 306 rfl], fun x hx => (hS.2.2 x hx).of (c3.cell 282 rfl)⟩
      obtain ⟨s', M', j1, j2, j3, j4, j5⟩ := ih (A ++ [q]) u (mGI q.1 q.2 a M) (I + 1) (by simp; omega) (by rw [List.append_assoc]; exact fsp) (by omega) c2 (by omega)
      refine ⟨s', M', j1, by omega, ?_, c3.tr j4, fun o Y kk => ?_⟩
      · rw [j3, mGI_Ky]
        simp only [List.map_cons, aTk]
        rw [if_neg h3]
      · have kk2 := j5 o Y (by rw [show I + 1 + (B.length : Int) = I + ((q :: B).length : Int) by omega]; exact kk)
        refine e_iload 83 149 rfl rfl rfl ?_
        refine e_aload_n 84 150 rfl rfl rfl rfl ?_
        refine g_getI 85 153 41 ckX12 flX12_152 rfl rfl (Nat.le_of_ble_eq_true rfl) rfl rfl rfl e41 ?_
        refine e_icmp_ge 86 191 156 rfl rfl rfl (by unfold xr at *; omega) (by unfold xr at *; omega) (fun h9 => absurd h9 (by omega)) (fun _ => ?_)
        refine e_aload_n 87 157 rfl rfl rfl rfl ?_
        refine g_getR 88 160 ckX12 flX12_7 rfl rfl (Nat.le_of_ble_eq_true rfl) rfl rfl ?_
        refine e_aload_n 89 161 rfl rfl rfl rfl ?_
        refine g_getR 90 164 ckX12 flX12_94 rfl rfl (Nat.le_of_ble_eq_true rfl) rfl rfl ?_
        refine e_iload 91 166 rfl rfl rfl ?_
        refine g_iaload 92 167 rfl rfl (Nat.le_of_ble_eq_true rfl) rfl (by omega) (by omega) (by omega) eq ?_
        refine g_iaload 93 168 rfl rfl (Nat.le_of_ble_eq_true rfl) rfl (by omega) (by omega) (by omega) v1 ?_
        refine e_iconst 94 169 rfl rfl ?_
        refine e_icmp_eq 95 185 172 rfl rfl rfl xkv (by unfold xr at *; omega) (fun h9 => absurd h9 h3) (fun _ => ?_)
        refine e_aload_n 96 173 rfl rfl rfl rfl ?_
        refine e_aload_n 97 174 rfl rfl rfl rfl ?_
        refine g_getR 98 177 ckX12 flX12_94 rfl rfl (Nat.le_of_ble_eq_true rfl) rfl rfl ?_
        refine e_iload 99 179 rfl rfl rfl ?_
        refine g_iaload 100 180 rfl rfl (Nat.le_of_ble_eq_true rfl) rfl (by omega) (by omega) (by omega) eq ?_
        refine e_lload 101 182 rfl rfl rfl ?_
        refine g_callV 102 185 (c1) okX12_groupsAt cvX12_317 ⟨(Nat.le_of_ble_eq_true rfl), (Nat.le_of_ble_eq_true rfl)⟩ rfl rfl (Nat.le_of_ble_eq_true rfl) rfl rfl rfl rfl rfl (Nat.le_of_ble_eq_true rfl) (Nat.le_of_ble_eq_true rfl) (Nat.le_of_ble_eq_true rfl) ?_
        refine e_iinc 103 188 (ls' := [some _, some _, some _, some _, some _, some _, none, some _]) rfl rfl (Nat.le_of_ble_eq_true rfl) rfl rfl ?_
        refine e_goto 104 147 rfl rfl ?_
        exact kk2
abbrev gB9 : List (Nat × Int) := [(311, -1), (306, -1), (281, 41), (307, -1), (308, -1), (309, -1), (281, 46)]
abbrev grK (pt sm f : Int) : List (Option Value) := [some (.ref 281), some (.int (ii pt)), some (.int (ii sm)), some (.int (ii f)), none, none, none, none]
theorem go_lp {τ : xSig} {T : Nat → List Int} {G : Nat → Fo} {pt sm : Int} (hpt : 0 ≤ pt ∧ pt < 72) (hsm : 0 ≤ sm ∧ sm < 72) {FF : List Int} (h60 : FF.length ≤ 60) (hFr : ∀ n ∈ FF, 0 ≤ n ∧ n < 100) : ∀ (F2 F1 : List Int) (s : xSig) (M : List Mg) (f : Int), f = F1.length → FF = F1 ++ F2 → MH9 s FF → DOCM τ T G s → GM s M → M.length + 23 * F2.length ≤ 1440 → ∃ (s' : xSig) (M' : List Mg), GM s' M' ∧ M'.length ≤ M.length + 23 * F2.length ∧ M'.map mKy = aBd τ G pt sm F2 (M.map mKy) ∧ FP gB9 s s' ∧ ∀ (o : xO) (Y : xS), x_E MX12_group 0 0 197 (grK pt sm (f + F2.length)) [] (St s') 0 0 o Y → x_E MX12_group 0 0 43 (grK pt sm f) [] (St s) 0 0 o Y := by
  intro F2
  induction F2 with
  | nil =>
    intro F1 s M f hf hFF hH hD hG hM
    refine ⟨s, M, hG, by simp, rfl, FP.rf, fun o Y kk => ?_⟩
    have e21 : s 281 21 = f := by rw [hH.1, hFF, hf]; simp
    have hl : F1.length ≤ 60 := by rw [hFF] at h60; simpa using h60
    rw [show f + (([] : List Int).length : Int) = f from Int.add_zero f] at kk
    refine e_iload_n 25 44 rfl rfl rfl rfl ?_
    refine e_aload_n 26 45 rfl rfl rfl rfl ?_
    refine g_getI 27 48 21 ckX12 flX12_308 rfl rfl (Nat.le_of_ble_eq_true rfl) rfl rfl rfl e21 ?_
    refine e_icmp_ge 28 197 51 rfl rfl rfl (by unfold xr at *; omega) (by unfold xr at *; omega) (fun _ => ?_) (fun h9 => absurd h9 (by omega))
    exact kk
  | cons n F2 ih =>
    intro F1 s M f hf hFF hH hD hG hM
    have hlen : ((n :: F2).length : Int) = F2.length + 1 := by simp
    have hlen2 : (n :: F2).length = F2.length + 1 := by simp
    have hlF : FF.length = F1.length + F2.length + 1 := by rw [hFF]; simp; omega
    have e21 : s 281 21 = f + F2.length + 1 := by rw [hH.1, hf]; omega
    have e296 : s 296 f = n := by
      rw [hf, hH.2.2 F1.length (by omega), hFF]
      exact getD_mid F1 F2 n
    have hn := hFr n (by rw [hFF]; simp)
    obtain ⟨m, rfl⟩ := Int.eq_ofNat_of_zero_le hn.1
    have e3 := hD.2 m (by omega)
    cases hh : hasd τ (m : Int) with
    | false =>
      obtain ⟨s', M', j1, j2, j3, j4, j5⟩ := ih (F1 ++ [(m : Int)]) s M (f + 1) (by simp; omega) (by rw [hFF, List.append_assoc]; rfl) hH hD hG (by omega)
      rw [show hasd τ (m : Nat) = false from hh] at e3
      refine ⟨s', M', j1, by omega, ?_, j4, fun o Y kk => ?_⟩
      · rw [j3]
        simp only [aBd]
        rw [if_neg (by rw [hh]; decide)]
      · have kk2 := j5 o Y (by rw [show f + 1 + (F2.length : Int) = f + (((m : Int) :: F2).length : Int) by omega]; exact kk)
        refine e_iload_n 25 44 rfl rfl rfl rfl ?_
        refine e_aload_n 26 45 rfl rfl rfl rfl ?_
        refine g_getI 27 48 21 ckX12 flX12_308 rfl rfl (Nat.le_of_ble_eq_true rfl) rfl rfl rfl e21 ?_
        refine e_icmp_ge 28 197 51 rfl rfl rfl (by unfold xr at *; omega) (by unfold xr at *; omega) (fun h9 => absurd h9 (by omega)) (fun _ => ?_)
        refine e_aload_n 29 52 rfl rfl rfl rfl ?_
        refine g_getR 30 55 ckX12 flX12_54 rfl rfl (Nat.le_of_ble_eq_true rfl) rfl rfl ?_
        refine e_iload_n 31 56 rfl rfl rfl rfl ?_
        refine g_iaload 32 57 rfl rfl (Nat.le_of_ble_eq_true rfl) rfl (by omega) (by omega) (by omega) e296 ?_
        refine e_istore 33 59 (ls' := [some _, some _, some _, some _, some _, none, none, none]) rfl rfl (Nat.le_of_ble_eq_true rfl) rfl ?_
        refine e_aload_n 34 60 rfl rfl rfl rfl ?_
        refine g_getR 35 63 ckX12 flX12_13 rfl rfl (Nat.le_of_ble_eq_true rfl) rfl rfl ?_
        refine e_iload 36 65 rfl rfl rfl ?_
        refine g_baload 37 66 rfl rfl (Nat.le_of_ble_eq_true rfl) rfl (by omega) (by omega) (by omega) e3 ?_
        refine e_ifb_eq 38 191 69 rfl rfl rfl (fun h => ?_) (fun h => ?_)
        · skip
          refine e_dropm [true, true, true, true, false, false, false, false] (ls' := [some _, some _, some _, some _, none, none, none, none]) rfl ?_
          refine e_iinc 105 194 (ls' := [some _, some _, some _, some _, none, none, none, none]) rfl rfl (Nat.le_of_ble_eq_true rfl) rfl rfl ?_
          refine e_goto 106 43 rfl rfl ?_
          exact kk2
        · skip
          cases h
    | true =>
      have hh2 : hasd τ (m : Nat) = true := hh
      rw [hh2] at e3
      obtain ⟨F, d1, d2, d3⟩ := hD.1 m (by omega) hh2
      have e1 : bdy (G (31 + 2 * (m : Int).toNat)) = F := by
        rw [Int.toNat_natCast, d1]
        rfl
      obtain ⟨s1, L1, a1, a2, a3, a4⟩ := sp_mLooks d3 hsm
      have hal1 := als_len d2 sm
      have hl1 : (L1.length : Int) = (als F sm).length := by rw [← a3, List.length_map]
      have hD1 := hD.fp a4 rfl
      have hG1 := hG.fp a4 rfl
      obtain ⟨F', d1', d2', d3'⟩ := hD1.1 m (by omega) hh2
      have eF : F' = F := by
        rw [d1] at d1'
        injection d1' with q1
        exact q1.symm
      subst eF
      obtain ⟨s2, L2, b1, b2, b3, b4⟩ := sp_mLooks d3' hpt
      have hal2 := als_len d2 pt
      have hl2 : (L2.length : Int) = (als F' pt).length := by rw [← b3, List.length_map]
      obtain ⟨s3, M3, c1, c2, c3, c4, c5⟩ := gp_lp (pt := pt) (sm := sm) (f := f) (d := m) (a := smA (als F' sm)) L2 [] s2 M 0 rfl b2 (by omega) (hG1.fp b4 rfl) (by omega)
      have f3 : FP gB9 s s3 := FP.tr (a4.mono rfl) (FP.tr (b4.mono rfl) (c4.mono rfl))
      obtain ⟨s', M', j1, j2, j3, j4, j5⟩ := ih (F1 ++ [(m : Int)]) s3 M3 (f + 1) (by simp; omega) (by rw [hFF, List.append_assoc]; rfl) (hH.fp f3 rfl) (hD.fp f3 rfl) c1 (by omega)
      refine ⟨s', M', j1, by omega, ?_, f3.tr j4, fun o Y kk => ?_⟩
      · rw [j3, c3, b3]
        simp only [aBd]
        rw [if_pos hh, e1]
      · have kk2 := j5 o Y (by rw [show f + 1 + (F2.length : Int) = f + (((m : Int) :: F2).length : Int) by omega]; exact kk)
        have k191 : x_E MX12_group 0 0 191 (grL pt sm f m (smA (als F' sm)) (0 + L2.length)) [] (St s3) 0 0 o Y := by
          refine e_dropm [true, true, true, true, false, false, false, false] (ls' := [some _, some _, some _, some _, none, none, none, none]) rfl ?_
          refine e_iinc 105 194 (ls' := [some _, some _, some _, some _, none, none, none, none]) rfl rfl (Nat.le_of_ble_eq_true rfl) rfl rfl ?_
          refine e_goto 106 43 rfl rfl ?_
          exact kk2
        have k147 := c5 o Y k191
        have k137 : x_E MX12_group 0 0 137 (grL pt sm f m (0 + smA (L1.map Prod.snd)) (0 + L1.length)) [] (St s1) 0 0 o Y := by
          rw [a3, Int.zero_add]
          refine e_aload_n 77 138 rfl rfl rfl rfl ?_
          refine e_iload 78 140 rfl rfl rfl ?_
          refine e_iload_n 79 141 rfl rfl rfl rfl ?_
          refine g_callV 80 144 (b1) okX12_looks cvX12_285 ⟨(Nat.le_of_ble_eq_true rfl), (Nat.le_of_ble_eq_true rfl)⟩ rfl rfl (Nat.le_of_ble_eq_true rfl) rfl rfl rfl rfl rfl (Nat.le_of_ble_eq_true rfl) (Nat.le_of_ble_eq_true rfl) (Nat.le_of_ble_eq_true rfl) ?_
          refine e_iconst 81 145 rfl rfl ?_
          refine e_istore 82 147 (ls' := [some _, some _, some _, some _, some _, some _, none, some _]) rfl rfl (Nat.le_of_ble_eq_true rfl) rfl ?_
          exact k147
        have k82 := su_lp (pt := pt) (sm := sm) (f := f) (d := m) L1 [] s1 0 0 rfl a2 (by omega) o Y k137
        refine e_iload_n 25 44 rfl rfl rfl rfl ?_
        refine e_aload_n 26 45 rfl rfl rfl rfl ?_
        refine g_getI 27 48 21 ckX12 flX12_308 rfl rfl (Nat.le_of_ble_eq_true rfl) rfl rfl rfl e21 ?_
        refine e_icmp_ge 28 197 51 rfl rfl rfl (by unfold xr at *; omega) (by unfold xr at *; omega) (fun h9 => absurd h9 (by omega)) (fun _ => ?_)
        refine e_aload_n 29 52 rfl rfl rfl rfl ?_
        refine g_getR 30 55 ckX12 flX12_54 rfl rfl (Nat.le_of_ble_eq_true rfl) rfl rfl ?_
        refine e_iload_n 31 56 rfl rfl rfl rfl ?_
        refine g_iaload 32 57 rfl rfl (Nat.le_of_ble_eq_true rfl) rfl (by omega) (by omega) (by omega) e296 ?_
        refine e_istore 33 59 (ls' := [some _, some _, some _, some _, some _, none, none, none]) rfl rfl (Nat.le_of_ble_eq_true rfl) rfl ?_
        refine e_aload_n 34 60 rfl rfl rfl rfl ?_
        refine g_getR 35 63 ckX12 flX12_13 rfl rfl (Nat.le_of_ble_eq_true rfl) rfl rfl ?_
        refine e_iload 36 65 rfl rfl rfl ?_
        refine g_baload 37 66 rfl rfl (Nat.le_of_ble_eq_true rfl) rfl (by omega) (by omega) (by omega) e3 ?_
        refine e_ifb_eq 38 191 69 rfl rfl rfl (fun h => ?_) (fun h => ?_)
        · skip
          cases h
        · skip
          refine e_lconst 39 70 rfl rfl ?_
          refine e_lstore 40 72 (ls' := [some _, some _, some _, some _, some _, some _, none, none]) rfl rfl (Nat.le_of_ble_eq_true rfl) rfl ?_
          refine e_aload_n 41 73 rfl rfl rfl rfl ?_
          refine e_iload 42 75 rfl rfl rfl ?_
          refine e_iload_n 43 76 rfl rfl rfl rfl ?_
          refine g_callV 44 79 (a1) okX12_looks cvX12_285 ⟨(Nat.le_of_ble_eq_true rfl), (Nat.le_of_ble_eq_true rfl)⟩ rfl rfl (Nat.le_of_ble_eq_true rfl) rfl rfl rfl rfl rfl (Nat.le_of_ble_eq_true rfl) (Nat.le_of_ble_eq_true rfl) (Nat.le_of_ble_eq_true rfl) ?_
          refine e_iconst 45 80 rfl rfl ?_
          refine e_istore 46 82 (ls' := [some _, some _, some _, some _, some _, some _, none, some _]) rfl rfl (Nat.le_of_ble_eq_true rfl) rfl ?_
          exact k82
abbrev gP9 : List (Nat × Int) := [(311, -1), (310, -1)]
theorem gr_lp {pt sm : Int} {M : List Mg} : ∀ (B A : List Mg) (s : xSig) (k : Int), k = A.length → M = A ++ B → GM s M → (∀ (j : Nat) (m : Mg), (j : Int) < k → M[j]? = some m → s 310 j = prF m.2.1 7) → ∃ s', x_E MX12_group 0 0 199 (grK pt sm k) [] (St s) 0 0 (iv M.length) (St s') ∧ GM s' M ∧ (∀ (j : Nat) (m : Mg), M[j]? = some m → s' 310 j = prF m.2.1 7) ∧ FP gP9 s s' := by
  intro B
  induction B with
  | nil =>
    intro A s k hk hM hG hP
    have e46 := hG.1
    have ek : (M.length : Int) = k := by rw [hM, hk]; simp
    rw [ek] at e46 ⊢
    have h1440 := hG.2.1
    refine ⟨s, ?_, hG, fun j m hj => hP j m ?_ hj, FP.rf⟩
    · have hk2 : 0 ≤ k ∧ k ≤ 1440 := by omega
      refine e_iload_n 109 200 rfl rfl rfl rfl ?_
      refine e_aload_n 110 201 rfl rfl rfl rfl ?_
      refine g_getI 111 204 46 ckX12 flX12_314 rfl rfl (Nat.le_of_ble_eq_true rfl) rfl rfl rfl e46 ?_
      refine e_icmp_ge 112 233 207 rfl rfl rfl (by unfold xr at *; omega) (by unfold xr at *; omega) (fun _ => ?_) (fun h9 => absurd h9 (by omega))
      refine e_aload_n 127 234 rfl rfl rfl rfl ?_
      refine g_getI 128 237 46 ckX12 flX12_314 rfl rfl (Nat.le_of_ble_eq_true rfl) rfl rfl rfl e46 ?_
      exact e_ireturn 129 rfl rfl (Nat.le_of_ble_eq_true rfl) (Nat.le_of_ble_eq_true rfl)
    · have := (List.getElem?_eq_some_iff.mp hj).1
      omega
  | cons b B ih =>
    intro A s k hk hM hG hP
    have e46 := hG.1
    have h1440 := hG.2.1
    have hget : M[A.length]? = some b := by rw [hM]; simp
    obtain ⟨g1, g2, g3, g4⟩ := hG.2.2 _ _ hget
    rw [← hk] at g1
    have ek : k < M.length := by rw [hM, hk]; simp; omega
    obtain ⟨s1, c1, f1⟩ := sp_mPrintOf g4
    have f2 : FP gP9 s (xu s1 310 k (prF b.2.1 7)) := (f1.mono rfl : FP gP9 s s1).putA rfl
    obtain ⟨s', j1, j2, j3, j4⟩ := ih (A ++ [b]) (xu s1 310 k (prF b.2.1 7)) (k + 1) (by simp; omega) (by rw [hM, List.append_assoc]; rfl) (hG.fp f2 rfl) (fun j m hj hm => by
      by_cases e : (j : Int) = k
      · rw [e, xu_same]
        have ej : j = A.length := by omega
        rw [ej, hget] at hm
        rw [Option.some.inj hm]
      · rw [xu_ne _ (Or.inr e), f1.cell 310 rfl]
        exact hP j m (by omega) hm)
    refine ⟨s', ?_, j2, j3, f2.tr j4⟩
    have hk2 : 0 ≤ k ∧ k < 1440 := by omega
    generalize prF b.2.1 7 = pr9 at *
    refine e_iload_n 109 200 rfl rfl rfl rfl ?_
    refine e_aload_n 110 201 rfl rfl rfl rfl ?_
    refine g_getI 111 204 46 ckX12 flX12_314 rfl rfl (Nat.le_of_ble_eq_true rfl) rfl rfl rfl e46 ?_
    refine e_icmp_ge 112 233 207 rfl rfl rfl (by unfold xr at *; omega) (by unfold xr at *; omega) (fun h9 => absurd h9 (by omega)) (fun _ => ?_)
    refine e_aload_n 113 208 rfl rfl rfl rfl ?_
    refine g_getR 114 211 ckX12 flX12_106 rfl rfl (Nat.le_of_ble_eq_true rfl) rfl rfl ?_
    refine e_iload_n 115 212 rfl rfl rfl rfl ?_
    refine e_aload_n 116 213 rfl rfl rfl rfl ?_
    refine e_aload_n 117 214 rfl rfl rfl rfl ?_
    refine g_getR 118 217 ckX12 flX12_7 rfl rfl (Nat.le_of_ble_eq_true rfl) rfl rfl ?_
    refine e_aload_n 119 218 rfl rfl rfl rfl ?_
    refine g_getR 120 221 ckX12 flX12_97 rfl rfl (Nat.le_of_ble_eq_true rfl) rfl rfl ?_
    refine e_iload_n 121 222 rfl rfl rfl rfl ?_
    refine g_iaload 122 223 rfl rfl (Nat.le_of_ble_eq_true rfl) rfl (by omega) (by omega) (by omega) g1 ?_
    refine g_callV 123 226 (c1) okX12_printOf cvX12_321 ⟨(Nat.le_of_ble_eq_true rfl), (Nat.le_of_ble_eq_true rfl)⟩ rfl rfl (Nat.le_of_ble_eq_true rfl) rfl rfl rfl rfl rfl (Nat.le_of_ble_eq_true rfl) (Nat.le_of_ble_eq_true rfl) (Nat.le_of_ble_eq_true rfl) ?_
    refine g_lastore 124 227 rfl rfl (Nat.le_of_ble_eq_true rfl) rfl (by omega) (by omega) (by omega) ?_
    refine e_iinc 125 230 (ls' := [some _, some _, some _, some _, none, none, none, none]) rfl rfl (Nat.le_of_ble_eq_true rfl) rfl rfl ?_
    refine e_goto 126 199 rfl rfl ?_
    exact j1
abbrev gF9 : List (Nat × Int) := [(311, -1), (306, -1), (281, 41), (307, -1), (308, -1), (309, -1), (310, -1), (281, 46), (281, 47)]
theorem sp_mGroup {τ σ : xSig} {T : Nat → List Int} {G : Nat → Fo} (hD : DOCM τ T G σ) {FF : List Int} (hH : MH9 σ FF) (hFr : ∀ n ∈ FF, 0 ≤ n ∧ n < 100) {pt sm : Int} (hpt : 0 ≤ pt ∧ pt < 72) (hsm : 0 ≤ sm ∧ sm < 72) : ∃ (s' : xSig) (M : List Mg), x_Sp MX12_group 0 0 [.ref 281, .int (ii pt), .int (ii sm)] (St σ) (iv M.length) (St s') ∧ GM s' M ∧ (∀ (j : Nat) (m : Mg), M[j]? = some m → s' 310 j = prF m.2.1 7) ∧ M.map mKy = aBd τ G pt sm FF [] ∧ FP gF9 σ s' ∧ s' 281 47 = 0 := by
  have f0 : FP [(281, 47), (281, 46)] σ (xu (xu σ 281 47 0) 281 46 0) := (FP.rf.put rfl).put rfl
  have h60 := hH.2.1
  have p1 := fun s => sp_mIn (σ := s) (x := pt) (y := 0) (z := 71) (by unfold xr; omega) (by unfold xr; omega) (by unfold xr; omega)
  have p2 := fun s => sp_mIn (σ := s) (x := sm) (y := 0) (z := 71) (by unfold xr; omega) (by unfold xr; omega) (by unfold xr; omega)
  rw [decT (by omega)] at p1 p2
  obtain ⟨s1, M, a1, a2, a3, a4, a5⟩ := go_lp hpt hsm h60 hFr FF [] _ [] 0 rfl rfl (hH.fp f0 rfl) (hD.fp f0 rfl) ⟨by rw [xu_same]; rfl, by simp, fun j m hj => by simp at hj⟩ (by simp; omega)
  obtain ⟨s2, b1, b2, b3, b4⟩ := gr_lp (pt := pt) (sm := sm) (M := M) M [] s1 0 rfl rfl a1 (fun j m hj _ => by omega)
  refine ⟨s2, M, ?_, b2, b3, a3, FP.tr (f0.mono rfl) (FP.tr (a4.mono rfl) (b4.mono rfl)), ?_⟩
  · have k197 : x_E MX12_group 0 0 197 (grK pt sm (0 + FF.length)) [] (St s1) 0 0 (iv M.length) (St s2) := by
      generalize (M.length : Int) = nM at *
      refine e_iconst 107 198 rfl rfl ?_
      refine e_istore_n 108 199 (ls' := [some _, some _, some _, some _, none, none, none, none]) rfl rfl rfl (Nat.le_of_ble_eq_true rfl) rfl ?_
      exact b1
    have k43 := a5 _ _ k197
    generalize (M.length : Int) = nM at *
    refine e_entry okX12_group (Nat.le_of_ble_eq_true rfl) (ls := [some _, some _, some _, none, none, none, none, none]) rfl ?_
    refine e_aload_n 0 1 rfl rfl rfl rfl ?_
    refine e_iload_n 1 2 rfl rfl rfl rfl ?_
    refine e_iconst 2 3 rfl rfl ?_
    refine e_bipush 3 5 rfl rfl rfl ?_
    refine g_callS 4 8 (p1 σ) okX12_in csX12_175 ⟨(Nat.le_of_ble_eq_true rfl), (Nat.le_of_ble_eq_true rfl)⟩ rfl rfl rfl rfl (Nat.le_of_ble_eq_true rfl) (Nat.le_of_ble_eq_true rfl) (Nat.le_of_ble_eq_true rfl) ?_
    refine e_ifb_eq 5 25 11 rfl rfl rfl (fun h1 => ?_) (fun h1 => ?_)
    · skip
      cases h1
    · skip
      refine e_iload_n 6 12 rfl rfl rfl rfl ?_
      refine e_iconst 7 13 rfl rfl ?_
      refine e_bipush 8 15 rfl rfl rfl ?_
      refine g_callS 9 18 (p2 σ) okX12_in csX12_175 ⟨(Nat.le_of_ble_eq_true rfl), (Nat.le_of_ble_eq_true rfl)⟩ rfl rfl rfl rfl (Nat.le_of_ble_eq_true rfl) (Nat.le_of_ble_eq_true rfl) (Nat.le_of_ble_eq_true rfl) ?_
      refine e_ifb_eq 10 25 21 rfl rfl rfl (fun h2 => ?_) (fun h2 => ?_)
      · skip
        cases h2
      · skip
        refine e_iconst 11 22 rfl rfl ?_
        refine e_goto 12 26 rfl rfl ?_
        refine e_iconst 14 27 rfl rfl ?_
        refine e_iconst 15 28 rfl rfl ?_
        refine g_callV 16 31 (sp_mGoesT) okX12_goes cvX12_167 ⟨(Nat.le_of_ble_eq_true rfl), (Nat.le_of_ble_eq_true rfl)⟩ rfl rfl (Nat.le_of_ble_eq_true rfl) rfl rfl rfl rfl rfl (Nat.le_of_ble_eq_true rfl) (Nat.le_of_ble_eq_true rfl) (Nat.le_of_ble_eq_true rfl) ?_
        refine e_ifb_ne 17 36 34 rfl rfl rfl (fun h3 => ?_) (fun h3 => ?_)
        · skip
          refine e_aload_n 20 37 rfl rfl rfl rfl ?_
          refine e_iconst 21 38 rfl rfl ?_
          refine g_putI 22 41 46 ckX12 flX12_314 rfl rfl (Nat.le_of_ble_eq_true rfl) rfl rfl rfl ?_
          refine e_iconst 23 42 rfl rfl ?_
          refine e_istore_n 24 43 (ls' := [some _, some _, some _, some _, none, none, none, none]) rfl rfl rfl (Nat.le_of_ble_eq_true rfl) rfl ?_
          exact k43
        · skip
          cases h3
  · rw [b4 281 47 rfl, a4 281 47 rfl, xu_ne _ (Or.inr (by decide)), xu_same]
theorem st_group {i : Nat} {σ : xSig} (h : INV i σ) {x y : Int} (hx : xr x) (hy : xr y) : STEP i MX11_group MX12_group iv [nIAE] [.int (ii x), .int (ii y)] σ := by
  have hM := h
  obtain ⟨T, G, hA, hM⟩ := hM
  by_cases hh : (0 ≤ x ∧ x < 72) ∧ 0 ≤ y ∧ y < 72
  · obtain ⟨hpt, hsm⟩ := hh
    obtain ⟨k10, k11⟩ := hM.1 10
    obtain ⟨e21, e296⟩ := hM.2 11
    obtain ⟨FF, hFFd⟩ : ∃ FF : List Int, FF = (List.range (σ 256 5).toNat).map fun k : Nat => σ 263 k := ⟨_, rfl⟩
    have hlen : (FF.length : Int) = σ 256 5 := by rw [hFFd]; simp; omega
    have hget : ∀ k : Nat, k < FF.length → FF.getD k 0 = σ 263 k := fun k hk => by
      rw [hFFd, List.getD_eq_getElem?_getD, List.getElem?_map, List.getElem?_range (by omega)]
      rfl
    have hFH : FH σ FF := ⟨hlen.symm, by omega, fun k hk => (hget k hk).symm⟩
    have hMH : MH9 σ FF := ⟨by rw [e21, hlen], by omega, fun k hk => by rw [e296 k (by omega), hget k hk]⟩
    have hFr : ∀ n ∈ FF, 0 ≤ n ∧ n < 100 := fun n hn => by
      rw [hFFd] at hn
      obtain ⟨k, k1, k2⟩ := List.mem_map.mp hn
      have k3 := List.mem_range.mp k1
      rw [← k2]
      exact k11 k (by omega)
    obtain ⟨σ1, x1, x2, x3, x4, x5⟩ := sp_group1 hA (hM.1 4).1 hM.gda hFH hFr hpt hsm
    have f1 : FP (wc gL) σ σ1 := x5.fp
    have hD := hM.docm
    have hDc : ∀ n : Nat, n < 100 → hasd σ n = true → ∃ F, G (31 + 2 * n) = .add F (.num 0) ∧ DC (T (31 + 2 * n)) F := fun n hn hh => by
      obtain ⟨F, d1, d2, -⟩ := hD.1 n hn hh
      exact ⟨F, d1, d2⟩
    have eky := gBd_Ky hDc hpt hsm FF [] hFr
    generalize hGs : gBd σ T x y FF [] = Gs at *
    obtain ⟨s', M, y1, y2, y3, y4, y5, y6⟩ := sp_mGroup (σ := σ1) (hD.fp f1 rfl) (hMH.fp f1 rfl) hFr hpt hsm
    have hkb : KB (M.map mKy) (23 * 60) := by
      rw [y4]
      exact (KB.bd hDc FF hFr (⟨by simp, fun q hq => by simp at hq⟩ : KB [] 0)).mono (by omega)
    rw [List.map_nil] at eky
    have ekm : Gs.map (gKy T) = M.map mKy := by rw [eky, y4]
    have hll : Gs.length = M.length := by
      have := congrArg List.length ekm
      simpa using this
    have pair : ∀ k : Nat, k < Gs.length → ∃ g m, Gs[k]? = some g ∧ M[k]? = some m ∧ gKy T g = mKy m := by
      intro k hk
      refine ⟨Gs[k], M[k]'(by omega), List.getElem?_eq_getElem hk, List.getElem?_eq_getElem (by omega), ?_⟩
      have := congrArg (fun l : List Ky => l[k]?) ekm
      simp only [List.getElem?_map] at this
      rw [List.getElem?_eq_getElem hk, List.getElem?_eq_getElem (show k < M.length by omega)] at this
      exact Option.some.inj this
    have hF2 : FP (wc gL ++ gF9) σ s' := FP.tr (f1.mono (by decide +kernel)) (y5.mono (by decide +kernel))
    have cl : ∀ b : Nat, b < 281 → s' b = σ1 b := fun b hb => y5.cell b (by simp only [List.all_cons, List.all_nil, Bool.and_true, bne_iff_ne, Bool.and_eq_true]; omega)
    refine ⟨σ1, s', 0, _, _, ⟨by omega, by simp⟩, fun _ => x1, fun q => absurd rfl q, y1, y6, fun _ => by rw [hll], ?_⟩
    refine INV.go _ [14] [22] hA hM hF2 (by decide +kernel) (by decide +kernel) (by decide +kernel) (alc ?_ al0) (alc ?_ al0)
    · refine ⟨?_, fun k k0 hk => ?_⟩
      · rw [cl 273 (by decide), x2.1]
        have := x2.2.1
        omega
      · rw [cl 273 (by decide), x2.1] at hk
        rw [cl 275 (by decide)]
        obtain ⟨n, rfl⟩ := Int.eq_ofNat_of_zero_le k0
        obtain ⟨g, m, p1, p2, p3⟩ := pair n (by omega)
        rw [(x2.2.2 n g p1).2.2.1]
        have q1 : g.2.2.1 = (mKy m).2.1 := congrArg (fun z : Ky => z.2.1) p3
        have q2 := hkb.2 (mKy m) (List.mem_map.mpr ⟨m, List.mem_of_getElem? p2, rfl⟩)
        rw [q1]
        omega
    · refine ⟨?_, fun k k0 hk => ?_⟩
      · rw [y2.1, cl 273 (by decide), x2.1, hll]
      · rw [cl 273 (by decide), x2.1] at hk
        rw [cl 275 (by decide), cl 276 (by decide), cl 274 (by decide)]
        obtain ⟨n, rfl⟩ := Int.eq_ofNat_of_zero_le k0
        obtain ⟨g, m, p1, p2, p3⟩ := pair n (by omega)
        obtain ⟨r1, r2, r3, r4⟩ := y2.2.2 n m p2
        obtain ⟨t1, t2, t3, t4⟩ := x2.2.2 n g p1
        have q1 : g.2.2.1 = m.2.2.1 := congrArg (fun z : Ky => z.2.1) p3
        have q2 : g.2.2.2 = m.2.2.2 := congrArg (fun z : Ky => z.2.2) p3
        have q3 : gv T g = tk m.2.1 := congrArg (fun z : Ky => z.1) p3
        refine ⟨by rw [r2, t3, q1], by rw [r3, t4, q2], ?_⟩
        rw [y3 n m p2, x4 n g p1]
        unfold prg
        have hsp := sv_split (T (31 + 2 * g.1.toNat)) g.2.1
        have hok := (x3.2 g (List.mem_of_getElem? p1)).2
        have hdr : (T (31 + 2 * g.1.toNat)).drop g.2.1.toNat = tk m.2.1 ++ ((T (31 + 2 * g.1.toNat)).drop g.2.1.toNat).drop (vsc ((T (31 + 2 * g.1.toNat)).drop g.2.1.toNat) 0) := by
          rw [← q3]
          unfold gv sv
          exact (List.take_append_drop _ _).symm
        rw [hdr, psc_ok r4.2.1]
  · refine STEP.refuse h 1 (by simp) (sp_groupX hx hy hh) (σ2 := xu σ 281 47 1) (y := 0) ?_ (xu_same _ _ _ _) F47s
    have p1 := fun s => sp_mIn (σ := s) (x := x) (y := 0) (z := 71) hx (by unfold xr; omega) (by unfold xr; omega)
    have p2 := fun s => sp_mIn (σ := s) (x := y) (y := 0) (z := 71) hy (by unfold xr; omega) (by unfold xr; omega)
    have k25 : x_E MX12_group 0 0 25 [some (.ref 281), some (.int (ii x)), some (.int (ii y)), none, none, none, none, none] [.ref 281] (St σ) 0 0 (iv 0) (St (xu σ 281 47 1)) := by
      refine e_iconst 13 26 rfl rfl ?_
      refine e_iconst 14 27 rfl rfl ?_
      refine e_iconst 15 28 rfl rfl ?_
      refine g_callV 16 31 (sp_mGoes (a := false) (b := true) (c := true)) okX12_goes cvX12_167 ⟨(Nat.le_of_ble_eq_true rfl), (Nat.le_of_ble_eq_true rfl)⟩ rfl rfl (Nat.le_of_ble_eq_true rfl) rfl rfl rfl rfl rfl (Nat.le_of_ble_eq_true rfl) (Nat.le_of_ble_eq_true rfl) (Nat.le_of_ble_eq_true rfl) ?_
      refine e_ifb_ne 17 36 34 rfl rfl rfl (fun h3 => ?_) (fun h3 => ?_)
      · skip
        cases h3
      · skip
        refine e_iconst 18 35 rfl rfl ?_
        exact e_ireturn 19 rfl rfl (Nat.le_of_ble_eq_true rfl) (Nat.le_of_ble_eq_true rfl)
    refine e_entry okX12_group (Nat.le_of_ble_eq_true rfl) (ls := [some _, some _, some _, none, none, none, none, none]) rfl ?_
    refine e_aload_n 0 1 rfl rfl rfl rfl ?_
    refine e_iload_n 1 2 rfl rfl rfl rfl ?_
    refine e_iconst 2 3 rfl rfl ?_
    refine e_bipush 3 5 rfl rfl rfl ?_
    refine g_callS 4 8 (p1 σ) okX12_in csX12_175 ⟨(Nat.le_of_ble_eq_true rfl), (Nat.le_of_ble_eq_true rfl)⟩ rfl rfl rfl rfl (Nat.le_of_ble_eq_true rfl) (Nat.le_of_ble_eq_true rfl) (Nat.le_of_ble_eq_true rfl) ?_
    refine e_ifb_eq 5 25 11 rfl rfl rfl (fun h1 => ?_) (fun h1 => ?_)
    · skip
      exact k25
    · skip
      refine e_iload_n 6 12 rfl rfl rfl rfl ?_
      refine e_iconst 7 13 rfl rfl ?_
      refine e_bipush 8 15 rfl rfl rfl ?_
      refine g_callS 9 18 (p2 σ) okX12_in csX12_175 ⟨(Nat.le_of_ble_eq_true rfl), (Nat.le_of_ble_eq_true rfl)⟩ rfl rfl rfl rfl (Nat.le_of_ble_eq_true rfl) (Nat.le_of_ble_eq_true rfl) (Nat.le_of_ble_eq_true rfl) ?_
      refine e_ifb_eq 10 25 21 rfl rfl rfl (fun h2 => ?_) (fun h2 => ?_)
      · skip
        exact k25
      · skip
        exfalso
        have h1' := of_decide_eq_true h1
        have h2' := of_decide_eq_true h2
        exact hh ⟨by omega, by omega⟩
