/-! ===== Groups ===== -/
/-- a group: (document, place, times, sum) -/
abbrev Gr := Int × Int × Int × Int
def gv (T : Nat → List Int) (g : Gr) : List Int := sv (T (31 + 2 * g.1.toNat)) g.2.1
def GH (σ : xSig) (G : List Gr) : Prop := σ 273 6 = G.length ∧ G.length ≤ 1440 ∧ ∀ (j : Nat) (g : Gr), G[j]? = some g → σ 277 j = g.1 ∧ σ 278 j = g.2.1 ∧ σ 275 j = g.2.2.1 ∧ σ 276 j = g.2.2.2
/-- the groups' values are values, of documents that are there -/
def GV (σ : xSig) (T : Nat → List Int) (g : Gr) : Prop := hasd σ g.1 = true ∧ 0 ≤ g.2.1 ∧ g.2.1 < (T (31 + 2 * g.1.toNat)).length ∧ Cv (gv T g)
theorem sp_gSize {σ : xSig} : Rd MX3_size [.ref 273] σ (iv (σ 273 6)) := by
  refine e_entry okX3_size (Nat.le_of_ble_eq_true rfl) (ls := [some _]) rfl ?_
  refine e_aload_n 0 1 rfl rfl rfl rfl ?_
  refine g_getI 1 4 6 ckX3 flX3_35 rfl rfl (Nat.le_of_ble_eq_true rfl) rfl rfl rfl rfl ?_
  exact e_ireturn 2 rfl rfl (Nat.le_of_ble_eq_true rfl) (Nat.le_of_ble_eq_true rfl)
theorem sp_gTell {σ : xSig} (h6 : 0 ≤ σ 273 6 ∧ σ 273 6 ≤ 1440) {p w : Int} (hp : 0 ≤ p ∧ p < σ 273 6) (hw : xr w) (h5 : xr (σ 275 p)) : Rd MX3_tell [.ref 273, .int (ii p), .int (ii w)] σ (.inl (some (.long (ll (if w = 0 then σ 274 p else if w = 1 then σ 275 p else σ 276 p))))) := by
  refine e_entry okX3_tell (Nat.le_of_ble_eq_true rfl) (ls := [some _, some _, some _]) rfl ?_
  refine e_iload_n 0 1 rfl rfl rfl rfl ?_
  refine e_if_lt 1 19 4 rfl rfl rfl (by unfold xr at *; omega) (fun h9 => absurd h9 (by omega)) (fun _ => ?_)
  refine e_iload_n 2 5 rfl rfl rfl rfl ?_
  refine e_aload_n 3 6 rfl rfl rfl rfl ?_
  refine g_getI 4 9 6 ckX3 flX3_35 rfl rfl (Nat.le_of_ble_eq_true rfl) rfl rfl rfl rfl ?_
  refine e_icmp_ge 5 19 12 rfl rfl rfl (by unfold xr at *; omega) (by unfold xr at *; omega) (fun h9 => absurd h9 (by omega)) (fun _ => ?_)
  refine e_iload_n 6 13 rfl rfl rfl rfl ?_
  refine e_sipush 7 16 rfl rfl rfl ?_
  refine e_icmp_lt 8 21 19 rfl rfl rfl (by unfold xr at *; omega) (by unfold xr at *; omega) (fun _ => ?_) (fun h9 => absurd h9 (by omega))
  refine e_iload_n 11 22 rfl rfl rfl rfl ?_
  refine e_if_ne 12 32 25 rfl rfl rfl (by unfold xr at *; omega) (fun h => ?_) (fun h => ?_)
  · skip
    rw [if_neg h]
    refine e_iload_n 18 33 rfl rfl rfl rfl ?_
    refine e_iconst 19 34 rfl rfl ?_
    refine e_icmp_ne 20 47 37 rfl rfl rfl (by unfold xr at *; omega) (by unfold xr at *; omega) (fun h2 => ?_) (fun h2 => ?_)
    · skip
      rw [if_neg h2]
      refine e_aload_n 27 48 rfl rfl rfl rfl ?_
      refine g_getR 28 51 ckX3 flX3_19 rfl rfl (Nat.le_of_ble_eq_true rfl) rfl rfl ?_
      refine e_iload_n 29 52 rfl rfl rfl rfl ?_
      refine g_laload 30 53 rfl rfl (Nat.le_of_ble_eq_true rfl) rfl (by omega) (by omega) (by omega) rfl ?_
      exact e_lreturn 31 rfl rfl (Nat.le_of_ble_eq_true rfl) (Nat.le_of_ble_eq_true rfl)
    · skip
      rw [if_pos h2]
      refine e_aload_n 21 38 rfl rfl rfl rfl ?_
      refine g_getR 22 41 ckX3 flX3_15 rfl rfl (Nat.le_of_ble_eq_true rfl) rfl rfl ?_
      refine e_iload_n 23 42 rfl rfl rfl rfl ?_
      refine g_iaload 24 43 rfl rfl (Nat.le_of_ble_eq_true rfl) rfl (by omega) (by omega) (by omega) rfl ?_
      refine e_i2l 25 44 rfl rfl h5 ?_
      refine e_goto 26 53 rfl rfl ?_
      exact e_lreturn 31 rfl rfl (Nat.le_of_ble_eq_true rfl) (Nat.le_of_ble_eq_true rfl)
  · skip
    rw [if_pos h]
    refine e_aload_n 13 26 rfl rfl rfl rfl ?_
    refine g_getR 14 29 ckX3 flX3_11 rfl rfl (Nat.le_of_ble_eq_true rfl) rfl rfl ?_
    refine e_iload_n 15 30 rfl rfl rfl rfl ?_
    refine g_laload 16 31 rfl rfl (Nat.le_of_ble_eq_true rfl) rfl (by omega) (by omega) (by omega) rfl ?_
    exact e_lreturn 17 rfl rfl (Nat.le_of_ble_eq_true rfl) (Nat.le_of_ble_eq_true rfl)
def smsL (t : List Int) : List Int → Int
  | [] => 0
  | x :: r => (if knd (tok t x) = 1 then tok t x - 2000 else 0) + smsL t r
theorem sp_sumOf {σ : xSig} {T : Nat → List Int} (hA : VAll σ T) {a : Nat} (ha : vO a = true) (hG : GD (T a)) {path : Int} (hp : 0 ≤ path ∧ path < 72) :
    ∃ σ' : xSig, x_Sp MX3_sumOf 0 0 [.ref 273, .ref a, .int (ii path)] (St σ) (.inl (some (.long (ll (smsL (T a) (atp (T a) path)))))) (St σ') ∧ Fr 279 σ σ' := by
  obtain ⟨g1, g2⟩ := hG
  obtain ⟨g3, g4⟩ := g2 _ hp.1 hp.2
  have hV := hA a ha
  have hcap := hV.2.2.1
  have h200 := hV.2.2.2.1
  obtain ⟨σ', k1, k2, k3⟩ := sp_gather hV ha g1 isPl_s.2.2 hp g3
  have hV2 := hV.pl ha isPl_s.2.2 k3
  have loop : ∀ (r m : List Int) (w : Int), atp (T a) path = m ++ r → x_E MX3_sumOf 0 0 14 [some (.ref 273), some (.ref a), some (.int (ii path)), some (.long (ll w)), none, some (.int (ii m.length)), none] [] (St σ') 0 0 (.inl (some (.long (ll (w + smsL (T a) r))))) (St σ') := by
    intro r
    induction r with
    | nil =>
      intro m w hm
      have hl : (atp (T a) path).length = m.length := by rw [hm]; simp
      rw [show smsL (T a) [] = 0 from rfl, Int.add_zero]
      refine e_iload 9 16 rfl rfl rfl ?_
      refine e_aload_n 10 17 rfl rfl rfl rfl ?_
      refine g_getR 11 20 ckX3 flX3_31 rfl rfl (Nat.le_of_ble_eq_true rfl) rfl rfl ?_
      refine g_callV 12 23 (sp_plSize k2) okX6_size cvX3_77 ⟨(Nat.le_of_ble_eq_true rfl), (Nat.le_of_ble_eq_true rfl)⟩ rfl rfl isPl_s.2.2.1 isPl_s.2.2.2.2.1 rfl rfl rfl rfl (Nat.le_of_ble_eq_true rfl) (Nat.le_of_ble_eq_true rfl) (Nat.le_of_ble_eq_true rfl) ?_
      refine e_icmp_ge 13 63 26 rfl rfl rfl (by unfold xr at *; omega) (by unfold xr at *; omega) (fun _ => ?_) (fun h9 => absurd h9 (by omega))
      refine e_lload_n 33 64 rfl rfl rfl rfl ?_
      exact e_lreturn 34 rfl rfl (Nat.le_of_ble_eq_true rfl) (Nat.le_of_ble_eq_true rfl)
    | cons x r ih =>
      intro m w hm
      have hl : (atp (T a) path).length = m.length + r.length + 1 := by rw [hm]; simp; omega
      have hat := sp_plAt k2 (i := m.length) (by omega)
      rw [hm, getD_mid] at hat
      have hx := g4 x (by rw [hm]; simp)
      have hxr : xr x := by unfold xr; omega
      have hn := fun w' => ih (m ++ [x]) w' (by rw [hm, app_s])
      rw [len_s] at hn
      have hb := hV2.bnd x
      have hkb := knd_bnd (tok (T a) x)
      simp only [smsL]
      refine e_iload 9 16 rfl rfl rfl ?_
      refine e_aload_n 10 17 rfl rfl rfl rfl ?_
      refine g_getR 11 20 ckX3 flX3_31 rfl rfl (Nat.le_of_ble_eq_true rfl) rfl rfl ?_
      refine g_callV 12 23 (sp_plSize k2) okX6_size cvX3_77 ⟨(Nat.le_of_ble_eq_true rfl), (Nat.le_of_ble_eq_true rfl)⟩ rfl rfl isPl_s.2.2.1 isPl_s.2.2.2.2.1 rfl rfl rfl rfl (Nat.le_of_ble_eq_true rfl) (Nat.le_of_ble_eq_true rfl) (Nat.le_of_ble_eq_true rfl) ?_
      refine e_icmp_ge 13 63 26 rfl rfl rfl (by unfold xr at *; omega) (by unfold xr at *; omega) (fun h9 => absurd h9 (by omega)) (fun _ => ?_)
      refine e_aload_n 14 27 rfl rfl rfl rfl ?_
      refine g_getR 15 30 ckX3 flX3_31 rfl rfl (Nat.le_of_ble_eq_true rfl) rfl rfl ?_
      refine e_iload 16 32 rfl rfl rfl ?_
      refine g_callV 17 35 (hat) okX6_at cvX3_80 ⟨(Nat.le_of_ble_eq_true rfl), (Nat.le_of_ble_eq_true rfl)⟩ rfl rfl isPl_s.2.2.1 isPl_s.2.2.2.2.1 rfl rfl rfl rfl (Nat.le_of_ble_eq_true rfl) (Nat.le_of_ble_eq_true rfl) (Nat.le_of_ble_eq_true rfl) ?_
      refine e_istore 18 37 (ls' := [some _, some _, some _, some _, none, some _, some _]) rfl rfl (Nat.le_of_ble_eq_true rfl) rfl ?_
      refine e_aload_n 19 38 rfl rfl rfl rfl ?_
      refine e_iload 20 40 rfl rfl rfl ?_
      refine g_callV 21 43 (sp_kindAt hV2 hxr) okX10_kindAt cvX3_82 ⟨(Nat.le_of_ble_eq_true rfl), (Nat.le_of_ble_eq_true rfl)⟩ rfl rfl hV2.1.1 hV2.1.2.2.1 rfl rfl rfl rfl (Nat.le_of_ble_eq_true rfl) (Nat.le_of_ble_eq_true rfl) (Nat.le_of_ble_eq_true rfl) ?_
      refine e_iconst 22 44 rfl rfl ?_
      refine e_icmp_ne 23 57 47 rfl rfl rfl (by unfold xr at *; omega) (by unfold xr at *; omega) (fun h => ?_) (fun h => ?_)
      · skip
        rw [if_neg h, Int.zero_add]
        refine e_iinc 31 60 (ls' := [some _, some _, some _, some _, none, some _, some _]) rfl rfl (Nat.le_of_ble_eq_true rfl) rfl rfl ?_
        refine e_goto 32 14 rfl rfl ?_
        refine e_dropm [true, true, true, true, false, true, false] (ls' := [some _, some _, some _, some _, none, some _, none]) rfl ?_
        exact hn w
      · skip
        rw [if_pos h, ← Int.add_assoc]
        refine e_lload_n 24 48 rfl rfl rfl rfl ?_
        refine e_aload_n 25 49 rfl rfl rfl rfl ?_
        refine e_iload 26 51 rfl rfl rfl ?_
        refine g_callV 27 54 (sp_numberAt hV2 hxr) okX10_numberAt cvX3_85 ⟨(Nat.le_of_ble_eq_true rfl), (Nat.le_of_ble_eq_true rfl)⟩ rfl rfl hV2.1.1 hV2.1.2.2.1 rfl rfl rfl rfl (Nat.le_of_ble_eq_true rfl) (Nat.le_of_ble_eq_true rfl) (Nat.le_of_ble_eq_true rfl) ?_
        refine e_i2l 28 55 rfl rfl (by unfold xr; omega) ?_
        refine e_ladd 29 56 rfl rfl ?_
        refine e_lstore_n 30 57 (ls' := [some _, some _, some _, some _, none, some _, some _]) rfl rfl rfl (Nat.le_of_ble_eq_true rfl) rfl ?_
        refine e_iinc 31 60 (ls' := [some _, some _, some _, some _, none, some _, some _]) rfl rfl (Nat.le_of_ble_eq_true rfl) rfl rfl ?_
        refine e_goto 32 14 rfl rfl ?_
        refine e_dropm [true, true, true, true, false, true, false] (ls' := [some _, some _, some _, some _, none, some _, none]) rfl ?_
        exact hn _
  refine ⟨σ', ?_, k3⟩
  have l9 := loop _ [] 0 rfl
  rw [Int.zero_add] at l9
  refine e_entry okX3_sumOf (Nat.le_of_ble_eq_true rfl) (ls := [some _, some _, some _, none, none, none, none]) rfl ?_
  refine e_aload_n 0 1 rfl rfl rfl rfl ?_
  refine g_getR 1 4 ckX3 flX3_31 rfl rfl (Nat.le_of_ble_eq_true rfl) rfl rfl ?_
  refine e_aload_n 2 5 rfl rfl rfl rfl ?_
  refine e_iload_n 3 6 rfl rfl rfl rfl ?_
  refine g_callV 4 9 (k1) okX6_gather cvX3_73 ⟨(Nat.le_of_ble_eq_true rfl), (Nat.le_of_ble_eq_true rfl)⟩ rfl rfl isPl_s.2.2.1 isPl_s.2.2.2.2.1 rfl rfl rfl rfl (Nat.le_of_ble_eq_true rfl) (Nat.le_of_ble_eq_true rfl) (Nat.le_of_ble_eq_true rfl) ?_
  refine e_lconst 5 10 rfl rfl ?_
  refine e_lstore_n 6 11 (ls' := [some _, some _, some _, some _, none, none, none]) rfl rfl rfl (Nat.le_of_ble_eq_true rfl) rfl ?_
  refine e_iconst 7 12 rfl rfl ?_
  refine e_istore 8 14 (ls' := [some _, some _, some _, some _, none, some _, none]) rfl rfl (Nat.le_of_ble_eq_true rfl) rfl ?_
  exact l9
theorem sp_orderTo {σ : xSig} {T : Nat → List Int} (hA : VAll σ T) (h01 : n01 σ 27) {G : List Gr} (hH : GH σ G) {j : Nat} {g : Gr} (hj : G[j]? = some g) (hg : GV σ T g) {a : Nat} (ha : vO a = true) {i : Int} (hi : 0 ≤ i ∧ i < (T a).length ∧ Cv (sv (T a) i)) :
    Rd MX3_orderTo [.ref 273, .ref 25, .int (ii j), .ref a, .int (ii i)] σ (iv (lexc (gv T g) (sv (T a) i))) := by
  obtain ⟨h1, h2, h3⟩ := hH
  obtain ⟨c1, c2, c3, c4⟩ := h3 j g hj
  have hjl : j < G.length := (List.getElem?_eq_some_iff.mp hj).1
  obtain ⟨q1, q2, q3, q4⟩ := hg
  have hgi := hasd_in q1
  have hat := sp_stAt h01 (n := g.1) (by unfold xr; omega)
  rw [show da σ g.1 = 31 + 2 * g.1.toNat by unfold da; rw [if_pos q1]] at hat
  have ho := sp_ordAt (hA _ (vO_s g.1.toNat (by omega)).1) (hA a ha) ⟨q2, q3, q4⟩ hi
  refine e_entry okX3_orderTo (Nat.le_of_ble_eq_true rfl) (ls := [some _, some _, some _, some _, some _]) rfl ?_
  refine e_iload_n 0 1 rfl rfl rfl rfl ?_
  refine e_if_lt 1 11 4 rfl rfl rfl (by unfold xr at *; omega) (fun h9 => absurd h9 (by omega)) (fun _ => ?_)
  refine e_iload_n 2 5 rfl rfl rfl rfl ?_
  refine e_sipush 3 8 rfl rfl rfl ?_
  refine e_icmp_lt 4 13 11 rfl rfl rfl (by unfold xr at *; omega) (by unfold xr at *; omega) (fun _ => ?_) (fun h9 => absurd h9 (by omega))
  refine e_aload_n 7 14 rfl rfl rfl rfl ?_
  refine e_aload_n 8 15 rfl rfl rfl rfl ?_
  refine g_getR 9 18 ckX3 flX3_22 rfl rfl (Nat.le_of_ble_eq_true rfl) rfl rfl ?_
  refine e_iload_n 10 19 rfl rfl rfl rfl ?_
  refine g_iaload 11 20 rfl rfl (Nat.le_of_ble_eq_true rfl) rfl (by omega) (by omega) (by omega) c1 ?_
  refine g_callV 12 23 (hat) okX8_at cvX3_55 ⟨(Nat.le_of_ble_eq_true rfl), (Nat.le_of_ble_eq_true rfl)⟩ rfl rfl (Nat.le_of_ble_eq_true rfl) rfl rfl rfl rfl rfl (Nat.le_of_ble_eq_true rfl) (Nat.le_of_ble_eq_true rfl) (Nat.le_of_ble_eq_true rfl) ?_
  refine e_aload_n 13 24 rfl rfl rfl rfl ?_
  refine g_getR 14 27 ckX3 flX3_25 rfl rfl (Nat.le_of_ble_eq_true rfl) rfl rfl ?_
  refine e_iload_n 15 28 rfl rfl rfl rfl ?_
  refine g_iaload 16 29 rfl rfl (Nat.le_of_ble_eq_true rfl) rfl (by omega) (by omega) (by omega) c2 ?_
  refine e_aload_n 17 30 rfl rfl rfl rfl ?_
  refine e_iload 18 32 rfl rfl rfl ?_
  refine g_callS 19 35 (ho) okX10_order csX3_100 ⟨(Nat.le_of_ble_eq_true rfl), (Nat.le_of_ble_eq_true rfl)⟩ rfl rfl rfl rfl (Nat.le_of_ble_eq_true rfl) (Nat.le_of_ble_eq_true rfl) (Nat.le_of_ble_eq_true rfl) ?_
  exact e_ireturn 20 rfl rfl (Nat.le_of_ble_eq_true rfl) (Nat.le_of_ble_eq_true rfl)
/-- the rows of the groups, from a place on one up -/
def gsh (σ : xSig) (i : Int) : xSig := fun b j => if (b = 275 ∨ b = 276 ∨ b = 277 ∨ b = 278) ∧ i < j ∧ j ≤ σ 273 6 then σ b (j - 1) else σ b j
theorem gsh_o (σ : xSig) (i : Int) {b : Nat} (h : b ≠ 275 ∧ b ≠ 276 ∧ b ≠ 277 ∧ b ≠ 278) : gsh σ i b = σ b := by
  funext j
  unfold gsh
  rw [if_neg (fun q => by omega)]
theorem gsh_at (σ : xSig) {i j : Int} (b : Nat) (h : j ≤ i) : gsh σ i b j = σ b j := by
  unfold gsh
  rw [if_neg (fun q => by omega)]
theorem gsh_step (σ : xSig) (i : Int) (hi : i ≤ σ 273 6) : xu (xu (xu (xu (gsh σ i) 275 i (σ 275 (i - 1))) 276 i (σ 276 (i - 1))) 277 i (σ 277 (i - 1))) 278 i (σ 278 (i - 1)) = gsh σ (i - 1) := by
  funext b j
  by_cases hb : b = 275 ∨ b = 276 ∨ b = 277 ∨ b = 278
  · by_cases hj : j = i
    · subst hj
      rcases hb with e | e | e | e <;> subst e <;> simp [xu, gsh] <;> omega
    · have : xu (xu (xu (xu (gsh σ i) 275 i (σ 275 (i - 1))) 276 i (σ 276 (i - 1))) 277 i (σ 277 (i - 1))) 278 i (σ 278 (i - 1)) b j = gsh σ i b j := by
        rw [xu_ne _ (Or.inr hj), xu_ne _ (Or.inr hj), xu_ne _ (Or.inr hj), xu_ne _ (Or.inr hj)]
      rw [this]
      unfold gsh
      by_cases h : i < j ∧ j ≤ σ 273 6
      · rw [if_pos ⟨hb, h⟩, if_pos ⟨hb, by omega⟩]
      · rw [if_neg (fun q => h q.2), if_neg (fun q => h (by omega))]
  · rw [xu_ne _ (Or.inl (by omega)), xu_ne _ (Or.inl (by omega)), xu_ne _ (Or.inl (by omega)), xu_ne _ (Or.inl (by omega)), gsh_o _ _ (by omega), gsh_o _ _ (by omega)]
/-- a group is made -/
def gmk (σ : xSig) (k n i : Int) : xSig := xu (xu (xu (xu (xu (gsh σ k) 275 k 0) 276 k 0) 277 k n) 278 k i) 273 6 (σ 273 6 + 1)
theorem sp_makeGroup {σ : xSig} (h6 : 0 ≤ σ 273 6 ∧ σ 273 6 < 1440) {k : Int} (hk : 0 ≤ k ∧ k ≤ σ 273 6) {n i : Int} : x_Sp MX3_makeGroup 0 0 [.ref 273, .int (ii k), .int (ii n), .int (ii i)] (St σ) (iv k) (St (gmk σ k n i)) := by
  have loop : ∀ (m : Nat) (z : Int), z = k + m → z ≤ σ 273 6 → x_E MX3_makeGroup 0 0 30 [some (.ref 273), some (.int (ii k)), some (.int (ii n)), some (.int (ii i)), some (.int (ii z))] [] (St (gsh σ z)) 0 0 (iv k) (St (gmk σ k n i)) := by
    intro m
    induction m with
    | zero =>
      intro z hz h2
      have e : z = k := by omega
      subst e
      have e6 : xu (xu (xu (xu (gsh σ z) 275 z 0) 276 z 0) 277 z n) 278 z i 273 6 = σ 273 6 := by
        rw [xu_ne _ (Or.inl (by decide)), xu_ne _ (Or.inl (by decide)), xu_ne _ (Or.inl (by decide)), xu_ne _ (Or.inl (by decide)), gsh_o _ _ (by decide)]
      unfold gmk
      refine e_iload 15 32 rfl rfl rfl ?_
      refine e_iload_n 16 33 rfl rfl rfl rfl ?_
      refine e_icmp_le 17 106 36 rfl rfl rfl (by unfold xr at *; omega) (by unfold xr at *; omega) (fun _ => ?_) (fun h9 => absurd h9 (by omega))
      refine e_aload_n 60 107 rfl rfl rfl rfl ?_
      refine g_getR 61 110 ckX3 flX3_15 rfl rfl (Nat.le_of_ble_eq_true rfl) rfl rfl ?_
      refine e_iload_n 62 111 rfl rfl rfl rfl ?_
      refine e_iconst 63 112 rfl rfl ?_
      refine g_iastore 64 113 rfl rfl (Nat.le_of_ble_eq_true rfl) rfl (by omega) (by omega) (by omega) ?_
      refine e_aload_n 65 114 rfl rfl rfl rfl ?_
      refine g_getR 66 117 ckX3 flX3_19 rfl rfl (Nat.le_of_ble_eq_true rfl) rfl rfl ?_
      refine e_iload_n 67 118 rfl rfl rfl rfl ?_
      refine e_lconst 68 119 rfl rfl ?_
      refine g_lastore 69 120 rfl rfl (Nat.le_of_ble_eq_true rfl) rfl (by omega) (by omega) (by omega) ?_
      refine e_aload_n 70 121 rfl rfl rfl rfl ?_
      refine g_getR 71 124 ckX3 flX3_22 rfl rfl (Nat.le_of_ble_eq_true rfl) rfl rfl ?_
      refine e_iload_n 72 125 rfl rfl rfl rfl ?_
      refine e_iload_n 73 126 rfl rfl rfl rfl ?_
      refine g_iastore 74 127 rfl rfl (Nat.le_of_ble_eq_true rfl) rfl (by omega) (by omega) (by omega) ?_
      refine e_aload_n 75 128 rfl rfl rfl rfl ?_
      refine g_getR 76 131 ckX3 flX3_25 rfl rfl (Nat.le_of_ble_eq_true rfl) rfl rfl ?_
      refine e_iload_n 77 132 rfl rfl rfl rfl ?_
      refine e_iload_n 78 133 rfl rfl rfl rfl ?_
      refine g_iastore 79 134 rfl rfl (Nat.le_of_ble_eq_true rfl) rfl (by omega) (by omega) (by omega) ?_
      refine e_aload_n 80 135 rfl rfl rfl rfl ?_
      refine e_dup 81 136 rfl rfl rfl ?_
      refine g_getI 82 139 6 ckX3 flX3_35 rfl rfl (Nat.le_of_ble_eq_true rfl) rfl rfl rfl e6 ?_
      refine e_iconst 83 140 rfl rfl ?_
      refine e_iadd 84 141 rfl rfl ?_
      refine g_putI 85 144 6 ckX3 flX3_35 rfl rfl (Nat.le_of_ble_eq_true rfl) rfl rfl rfl ?_
      refine e_iload_n 86 145 rfl rfl rfl rfl ?_
      exact e_ireturn 87 rfl rfl (Nat.le_of_ble_eq_true rfl) (Nat.le_of_ble_eq_true rfl)
    | succ m ih =>
      intro z hz h2
      have hn := ih (z - 1) (by omega) (by omega)
      have e1 : gsh σ z 275 (z - 1) = σ 275 (z - 1) := gsh_at σ _ (by omega)
      have e2 : xu (gsh σ z) 275 z (σ 275 (z - 1)) 276 (z - 1) = σ 276 (z - 1) := (xu_ne _ (Or.inl (by decide))).trans (gsh_at σ _ (by omega))
      have e3 : xu (xu (gsh σ z) 275 z (σ 275 (z - 1))) 276 z (σ 276 (z - 1)) 277 (z - 1) = σ 277 (z - 1) := (xu_ne _ (Or.inl (by decide))).trans ((xu_ne _ (Or.inl (by decide))).trans (gsh_at σ _ (by omega)))
      have e4 : xu (xu (xu (gsh σ z) 275 z (σ 275 (z - 1))) 276 z (σ 276 (z - 1))) 277 z (σ 277 (z - 1)) 278 (z - 1) = σ 278 (z - 1) := (xu_ne _ (Or.inl (by decide))).trans ((xu_ne _ (Or.inl (by decide))).trans ((xu_ne _ (Or.inl (by decide))).trans (gsh_at σ _ (by omega))))
      refine e_iload 15 32 rfl rfl rfl ?_
      refine e_iload_n 16 33 rfl rfl rfl rfl ?_
      refine e_icmp_le 17 106 36 rfl rfl rfl (by unfold xr at *; omega) (by unfold xr at *; omega) (fun h9 => absurd h9 (by omega)) (fun _ => ?_)
      refine e_aload_n 18 37 rfl rfl rfl rfl ?_
      refine g_getR 19 40 ckX3 flX3_15 rfl rfl (Nat.le_of_ble_eq_true rfl) rfl rfl ?_
      refine e_iload 20 42 rfl rfl rfl ?_
      refine e_aload_n 21 43 rfl rfl rfl rfl ?_
      refine g_getR 22 46 ckX3 flX3_15 rfl rfl (Nat.le_of_ble_eq_true rfl) rfl rfl ?_
      refine e_iload 23 48 rfl rfl rfl ?_
      refine e_iconst 24 49 rfl rfl ?_
      refine e_isub 25 50 rfl rfl ?_
      refine g_iaload 26 51 rfl rfl (Nat.le_of_ble_eq_true rfl) rfl (by omega) (by omega) (by omega) e1 ?_
      refine g_iastore 27 52 rfl rfl (Nat.le_of_ble_eq_true rfl) rfl (by omega) (by omega) (by omega) ?_
      refine e_aload_n 28 53 rfl rfl rfl rfl ?_
      refine g_getR 29 56 ckX3 flX3_19 rfl rfl (Nat.le_of_ble_eq_true rfl) rfl rfl ?_
      refine e_iload 30 58 rfl rfl rfl ?_
      refine e_aload_n 31 59 rfl rfl rfl rfl ?_
      refine g_getR 32 62 ckX3 flX3_19 rfl rfl (Nat.le_of_ble_eq_true rfl) rfl rfl ?_
      refine e_iload 33 64 rfl rfl rfl ?_
      refine e_iconst 34 65 rfl rfl ?_
      refine e_isub 35 66 rfl rfl ?_
      refine g_laload 36 67 rfl rfl (Nat.le_of_ble_eq_true rfl) rfl (by omega) (by omega) (by omega) e2 ?_
      refine g_lastore 37 68 rfl rfl (Nat.le_of_ble_eq_true rfl) rfl (by omega) (by omega) (by omega) ?_
      refine e_aload_n 38 69 rfl rfl rfl rfl ?_
      refine g_getR 39 72 ckX3 flX3_22 rfl rfl (Nat.le_of_ble_eq_true rfl) rfl rfl ?_
      refine e_iload 40 74 rfl rfl rfl ?_
      refine e_aload_n 41 75 rfl rfl rfl rfl ?_
      refine g_getR 42 78 ckX3 flX3_22 rfl rfl (Nat.le_of_ble_eq_true rfl) rfl rfl ?_
      refine e_iload 43 80 rfl rfl rfl ?_
      refine e_iconst 44 81 rfl rfl ?_
      refine e_isub 45 82 rfl rfl ?_
      refine g_iaload 46 83 rfl rfl (Nat.le_of_ble_eq_true rfl) rfl (by omega) (by omega) (by omega) e3 ?_
      refine g_iastore 47 84 rfl rfl (Nat.le_of_ble_eq_true rfl) rfl (by omega) (by omega) (by omega) ?_
      refine e_aload_n 48 85 rfl rfl rfl rfl ?_
      refine g_getR 49 88 ckX3 flX3_25 rfl rfl (Nat.le_of_ble_eq_true rfl) rfl rfl ?_
      refine e_iload 50 90 rfl rfl rfl ?_
      refine e_aload_n 51 91 rfl rfl rfl rfl ?_
      refine g_getR 52 94 ckX3 flX3_25 rfl rfl (Nat.le_of_ble_eq_true rfl) rfl rfl ?_
      refine e_iload 53 96 rfl rfl rfl ?_
      refine e_iconst 54 97 rfl rfl ?_
      refine e_isub 55 98 rfl rfl ?_
      refine g_iaload 56 99 rfl rfl (Nat.le_of_ble_eq_true rfl) rfl (by omega) (by omega) (by omega) e4 ?_
      refine g_iastore 57 100 rfl rfl (Nat.le_of_ble_eq_true rfl) rfl (by omega) (by omega) (by omega) ?_
      refine e_iinc 58 103 (ls' := [some _, some _, some _, some _, some _]) rfl rfl (Nat.le_of_ble_eq_true rfl) rfl rfl ?_
      refine e_goto 59 30 rfl rfl ?_
      rw [gsh_step σ z h2]
      exact hn
  refine e_entry okX3_makeGroup (Nat.le_of_ble_eq_true rfl) (ls := [some _, some _, some _, some _, none]) rfl ?_
  refine e_iload_n 0 1 rfl rfl rfl rfl ?_
  refine e_if_lt 1 22 4 rfl rfl rfl (by unfold xr at *; omega) (fun h9 => absurd h9 (by omega)) (fun _ => ?_)
  refine e_iload_n 2 5 rfl rfl rfl rfl ?_
  refine e_aload_n 3 6 rfl rfl rfl rfl ?_
  refine g_getI 4 9 6 ckX3 flX3_35 rfl rfl (Nat.le_of_ble_eq_true rfl) rfl rfl rfl rfl ?_
  refine e_icmp_gt 5 22 12 rfl rfl rfl (by unfold xr at *; omega) (by unfold xr at *; omega) (fun h9 => absurd h9 (by omega)) (fun _ => ?_)
  refine e_aload_n 6 13 rfl rfl rfl rfl ?_
  refine g_getI 7 16 6 ckX3 flX3_35 rfl rfl (Nat.le_of_ble_eq_true rfl) rfl rfl rfl rfl ?_
  refine e_sipush 8 19 rfl rfl rfl ?_
  refine e_icmp_lt 9 24 22 rfl rfl rfl (by unfold xr at *; omega) (by unfold xr at *; omega) (fun _ => ?_) (fun h9 => absurd h9 (by omega))
  refine e_aload_n 12 25 rfl rfl rfl rfl ?_
  refine g_getI 13 28 6 ckX3 flX3_35 rfl rfl (Nat.le_of_ble_eq_true rfl) rfl rfl rfl rfl ?_
  refine e_istore 14 30 (ls' := [some _, some _, some _, some _, some _]) rfl rfl (Nat.le_of_ble_eq_true rfl) rfl ?_
  have h9 := loop (σ 273 6 - k).toNat (σ 273 6) (by omega) (Int.le_refl _)
  rw [show gsh σ (σ 273 6) = σ by funext b j; unfold gsh; rw [if_neg (fun q => by omega)]] at h9
  exact h9
theorem GH.mk {σ : xSig} {A B : List Gr} (h : GH σ (A ++ B)) (hl : (A ++ B).length < 1440) (n i : Int) : GH (gmk σ A.length n i) (A ++ (n, i, 0, 0) :: B) := by
  obtain ⟨h1, h2, h3⟩ := h
  simp only [List.length_append] at h1 hl
  have rd : ∀ (b : Nat) (j : Int), b = 275 ∨ b = 276 ∨ b = 277 ∨ b = 278 → j ≠ (A.length : Int) → gmk σ A.length n i b j = gsh σ A.length b j := by
    intro b j hb hj
    unfold gmk
    rw [xu_ne _ (Or.inl (by omega)), xu_ne _ (Or.inr hj), xu_ne _ (Or.inr hj), xu_ne _ (Or.inr hj), xu_ne _ (Or.inr hj)]
  refine ⟨?_, by simp; omega, fun j g hj => ?_⟩
  · unfold gmk
    rw [xu_same, h1]
    simp
    omega
  · rcases (by omega : j < A.length ∨ j = A.length ∨ A.length < j) with q | q | q
    · rw [List.getElem?_append_left q] at hj
      have h9 := h3 j g (by rw [List.getElem?_append_left q]; exact hj)
      rw [rd 277 j (by omega) (by omega), rd 278 j (by omega) (by omega), rd 275 j (by omega) (by omega), rd 276 j (by omega) (by omega), gsh_at σ 277 (by omega), gsh_at σ 278 (by omega), gsh_at σ 275 (by omega), gsh_at σ 276 (by omega)]
      exact h9
    · subst q
      rw [List.getElem?_append_right (Nat.le_refl _), Nat.sub_self] at hj
      simp only [List.getElem?_cons_zero, Option.some.injEq] at hj
      subst hj
      simp [gmk, xu]
    · have hj2 : (A ++ B)[j - 1]? = some g := by
        rw [List.getElem?_append_right (by omega)] at hj ⊢
        rw [show j - A.length = (j - 1 - A.length) + 1 by omega, List.getElem?_cons_succ] at hj
        exact hj
      have hjl : j - 1 < (A ++ B).length := (List.getElem?_eq_some_iff.mp hj2).1
      rw [List.length_append] at hjl
      have h9 := h3 (j - 1) g hj2
      rw [show ((j - 1 : Nat) : Int) = (j : Int) - 1 by omega] at h9
      have gs : ∀ b : Nat, b = 275 ∨ b = 276 ∨ b = 277 ∨ b = 278 → gsh σ A.length b j = σ b ((j : Int) - 1) := fun b hb => by unfold gsh; rw [if_pos ⟨hb, by omega, by omega⟩]
      rw [rd 277 j (by omega) (by omega), rd 278 j (by omega) (by omega), rd 275 j (by omega) (by omega), rd 276 j (by omega) (by omega), gs 277 (by omega), gs 278 (by omega), gs 275 (by omega), gs 276 (by omega)]
      exact h9
theorem gmk_o (σ : xSig) (k n i : Int) : FX [273, 275, 276, 277, 278] σ (gmk σ k n i) := by
  intro b hb
  simp only [List.mem_cons, List.not_mem_nil, or_false, not_or] at hb
  unfold gmk
  rw [xu_other _ _ _ (by omega), xu_other _ _ _ (by omega), xu_other _ _ _ (by omega), xu_other _ _ _ (by omega), xu_other _ _ _ (by omega), gsh_o _ _ (by omega)]
