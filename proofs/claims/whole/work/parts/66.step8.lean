/-! ===== steps: the pile ===== -/
def uG (G : Nat → Fo) (a : Nat) (v : Fo) : Nat → Fo := fun b => if b = a then v else G b
theorem uG_same (G : Nat → Fo) (a : Nat) (v : Fo) : uG G a v a = v := by simp [uG]
theorem uG_ne (G : Nat → Fo) {a b : Nat} (v : Fo) (h : b ≠ a) : uG G a v b = G b := by simp [uG, h]
theorem MW.blk {σ σ' : xSig} {a : Int} {v : Fo} (h : MW σ (100 * a + 1) v) (hs : ∀ j : Int, 100 * a + 1 ≤ j → j < 100 * a + 100 → σ' 282 j = σ 282 j) : MW σ' (100 * a + 1) v := by
  obtain ⟨⟨h1, h2, h3, h4, h5, h6⟩, h7⟩ := h
  have := ok1_pa h2
  exact ⟨⟨h1, h2, h3, h4, h5, h6.of fun j j0 j1 => hs j j0 (by omega)⟩, h7⟩
/-- the model's rows but for one block -/
def oB (σ σ' : xSig) (B : Int) : Prop := ∀ j : Int, j < 100 * B + 1 ∨ 100 * B + 100 ≤ j → σ' 282 j = σ 282 j
theorem MW.ob {σ σ' : xSig} {a B : Int} {v : Fo} (h : MW σ (100 * a + 1) v) (hs : oB σ σ' B) (hne : a ≠ B) : MW σ' (100 * a + 1) v := h.blk fun j j0 j1 => hs j (by omega)
/-- a value newly on the pile -/
def pfo (v : Fo) : Prop := ok1 v ∧ pa v ≤ 24
theorem pile_inv {i : Nat} {σ σ2 : xSig} {T T' : Nat → List Int} {G : Nat → Fo} {L : List (Nat × Int)} {k : Nat} {v : Fo} (hM : IM i σ T G σ) (hA : VAll σ2 T') (hk10 : k < 10) (hsz : σ2 1 2 = k + 1) (hsz0 : k ≤ σ 1 2 ∧ σ 1 2 ≤ 10) (hv : ok1 v ∧ pa v ≤ 24) (hT : T' (5 + 2 * k) = tk v) (hTo : ∀ a, a ≠ 5 + 2 * k → a ≠ 244 → a ≠ 246 → T' a = T a) (hF : FV L σ σ2) (hLk : disK [0, 1, 2, 3, 7] L = true) (hLr : disR [0, 1, 2, 5] L = true) (hs4 : sam (cK 1 ++ (cK 2 ++ cK 7)) σ σ2) (hnew : MV σ2 282 11300 (100 * (100 + k) + 1) v) (hob : oB σ σ2 (100 + k)) (h5 : σ2 281 3 = σ2 1 2) : INV (i + 1) σ2 := by
  have s1 : sam (cK 1) σ σ2 := fun b j hi => hs4 b j (by simp only [inP, List.any_append, Bool.or_eq_true] at hi ⊢; exact Or.inl hi)
  have s2 : sam (cK 2) σ σ2 := fun b j hi => hs4 b j (by simp only [inP, List.any_append, Bool.or_eq_true] at hi ⊢; exact Or.inr (Or.inl hi))
  have s7 : sam (cK 7) σ σ2 := fun b j hi => hs4 b j (by simp only [inP, List.any_append, Bool.or_eq_true] at hi ⊢; exact Or.inr (Or.inr hi))
  have tdoc : ∀ n : Nat, n < 100 → T' (31 + 2 * n) = T (31 + 2 * n) := fun n hn => hTo _ (by omega) (by omega) (by omega)
  refine ⟨T', uG G (5 + 2 * k) v, hA, hM.1.step [0, 1, 2, 3, 7] L (by omega) hF hLk (Or.inr ⟨by simp, by simp, by simp, by simp⟩) (alc ?_ (alc ?_ (alc ?_ (alc ?_ (alc ?_ al0))))), hM.2.step [0, 1, 2, 5] L hF hLr (Or.inr ⟨by simp, by simp, by simp⟩) (alc ?_ (alc ?_ (alc ?_ (alc h5 al0))))⟩
  · intro m hm
    rw [hsz] at hm
    by_cases e : m = k
    · rw [e, hT, uG_same]
    · rw [hTo _ (by omega) (by omega) (by omega), uG_ne _ _ (by omega)]
      exact hM.1 0 m (by omega)
  · intro n hn hh
    rw [tdoc n hn, uG_ne _ _ (by omega)]
    exact KIc_fp (Nat.le_refl i) 1 s1 (hM.1 1) n hn hh
  · intro m hm3 hm
    have q := KIc_fp (Nat.le_refl i) 2 s2 (hM.1 2) m hm3 hm
    rw [hTo _ (by omega) (by omega) (by omega), uG_ne _ _ (by omega)]
    exact q
  · show 0 ≤ σ2 1 2 ∧ σ2 1 2 ≤ 10
    omega
  · intro n hn h9
    rw [tdoc n hn]
    exact KIc_fp (Nat.le_refl i) 7 s7 (hM.1 7) n hn h9
  · intro n hn hh
    rw [uG_ne _ _ (by omega)]
    exact (hM.2 0 n hn (by rw [← hasd_congr (s1.cell 27 rfl)]; exact hh)).ob hob (by omega)
  · intro m hm
    rw [hsz] at hm
    by_cases e : m = k
    · subst e
      rw [uG_same]
      exact ⟨hnew, hv.2⟩
    · rw [uG_ne _ _ (by omega)]
      exact (hM.2 1 m (by omega)).ob hob (by omega)
  · intro m hm
    rw [s2.at 256 4 rfl] at hm
    have h4 := (hM.1 9).2.2
    rw [uG_ne _ _ (by omega)]
    exact (hM.2 2 m hm).ob hob (by omega)
/-! a sign put on the pile -/
def mput (σ : xSig) (kd its : Int) : xSig := xu (xu (xu (xu σ 281 47 0) 282 (100 * (100 + σ 281 3) + 1) kd) 282 (100 * (100 + σ 281 3) + 1 + 1) (if 3 ≤ kd then -1 else its)) 281 3 (σ 281 3 + 1)
theorem mput_f (σ : xSig) (kd its : Int) : FP [(281, 47), (282, -1), (281, 3)] σ (mput σ kd its) := (((FP.rf.put rfl).putA rfl).putA rfl).put rfl
theorem sp_mPuts {σ : xSig} {kd its : Int} (h : 0 ≤ σ 281 3 ∧ σ 281 3 < 10) (hk : 0 ≤ kd ∧ kd ≤ 4) : x_Sp MX12_puts 0 0 [.ref 281, .int (ii (bi true)), .int (ii kd), .int (ii its)] (St σ) (iv (σ 281 3 + 1)) (St (mput σ kd its)) := by
  have e3 : xu σ 281 47 0 281 3 = σ 281 3 := xu_ne _ (Or.inr (by decide))
  have e3b : xu (xu (xu σ 281 47 0) 282 (100 * (100 + σ 281 3) + 1) kd) 282 (100 * (100 + σ 281 3) + 1 + 1) (if 3 ≤ kd then -1 else its) 281 3 = σ 281 3 := by rw [xu_other _ _ _ (by decide), xu_other _ _ _ (by decide)]; exact e3
  have fin : ∀ w : Int, w = (if 3 ≤ kd then -1 else its) → x_E MX12_puts 0 0 60 [some (.ref 281), some (.int (ii (bi true))), some (.int (ii kd)), some (.int (ii its)), some (.int (ii (100 * (100 + σ 281 3) + 1)))] [.int (ii w), .int (ii (100 * (100 + σ 281 3) + 1 + 1)), .ref 282] (St (xu (xu σ 281 47 0) 282 (100 * (100 + σ 281 3) + 1) kd)) 0 0 (iv (σ 281 3 + 1)) (St (mput σ kd its)) := by
    intro w hw
    subst hw
    unfold mput
    refine g_iastore 34 61 rfl rfl (Nat.le_of_ble_eq_true rfl) rfl (by omega) (by omega) (by omega) ?_
    refine e_aload_n 35 62 rfl rfl rfl rfl ?_
    refine e_dup 36 63 rfl rfl rfl ?_
    refine g_getI 37 66 3 ckX12 flX12_146 rfl rfl (Nat.le_of_ble_eq_true rfl) rfl rfl rfl e3b ?_
    refine e_iconst 38 67 rfl rfl ?_
    refine e_iadd 39 68 rfl rfl ?_
    refine g_putI 40 71 3 ckX12 flX12_146 rfl rfl (Nat.le_of_ble_eq_true rfl) rfl rfl rfl ?_
    refine e_aload_n 41 72 rfl rfl rfl rfl ?_
    refine g_getI 42 75 3 ckX12 flX12_146 rfl rfl (Nat.le_of_ble_eq_true rfl) rfl rfl rfl (xu_same _ 281 3 (σ 281 3 + 1)) ?_
    exact e_ireturn 43 rfl rfl (Nat.le_of_ble_eq_true rfl) (Nat.le_of_ble_eq_true rfl)
  refine e_entry okX12_puts (Nat.le_of_ble_eq_true rfl) (ls := [some _, some _, some _, some _, none]) rfl ?_
  refine e_aload_n 0 1 rfl rfl rfl rfl ?_
  refine e_iload_n 1 2 rfl rfl rfl rfl ?_
  refine e_aload_n 2 3 rfl rfl rfl rfl ?_
  refine g_getI 3 6 3 ckX12 flX12_146 rfl rfl (Nat.le_of_ble_eq_true rfl) rfl rfl rfl rfl ?_
  refine e_bipush 4 8 rfl rfl rfl ?_
  refine e_icmp_ge 5 15 11 rfl rfl rfl (by unfold xr at *; omega) (by unfold xr at *; omega) (fun h9 => absurd h9 (by omega)) (fun _ => ?_)
  refine e_iconst 6 12 rfl rfl ?_
  refine e_goto 7 16 rfl rfl ?_
  refine e_iconst 9 17 rfl rfl ?_
  refine g_callV 10 20 (sp_mGoes (a := true) (b := true) (c := true)) okX12_goes cvX12_167 ⟨(Nat.le_of_ble_eq_true rfl), (Nat.le_of_ble_eq_true rfl)⟩ rfl rfl (Nat.le_of_ble_eq_true rfl) rfl rfl rfl rfl rfl (Nat.le_of_ble_eq_true rfl) (Nat.le_of_ble_eq_true rfl) (Nat.le_of_ble_eq_true rfl) ?_
  refine e_ifb_ne 11 25 23 rfl rfl rfl (fun hb => ?_) (fun hb => ?_)
  · skip
    refine e_aload_n 14 26 rfl rfl rfl rfl ?_
    refine g_getI 15 29 3 ckX12 flX12_146 rfl rfl (Nat.le_of_ble_eq_true rfl) rfl rfl rfl e3 ?_
    refine g_callS 16 32 (sp_mPile (x := σ 281 3)) okX12_pile csX12_149 ⟨(Nat.le_of_ble_eq_true rfl), (Nat.le_of_ble_eq_true rfl)⟩ rfl rfl rfl rfl (Nat.le_of_ble_eq_true rfl) (Nat.le_of_ble_eq_true rfl) (Nat.le_of_ble_eq_true rfl) ?_
    refine e_istore 17 34 (ls' := [some _, some _, some _, some _, some _]) rfl rfl (Nat.le_of_ble_eq_true rfl) rfl ?_
    refine e_aload_n 18 35 rfl rfl rfl rfl ?_
    refine g_getR 19 38 ckX12 flX12_7 rfl rfl (Nat.le_of_ble_eq_true rfl) rfl rfl ?_
    refine e_iload 20 40 rfl rfl rfl ?_
    refine e_iload_n 21 41 rfl rfl rfl rfl ?_
    refine g_iastore 22 42 rfl rfl (Nat.le_of_ble_eq_true rfl) rfl (by omega) (by omega) (by omega) ?_
    refine e_aload_n 23 43 rfl rfl rfl rfl ?_
    refine g_getR 24 46 ckX12 flX12_7 rfl rfl (Nat.le_of_ble_eq_true rfl) rfl rfl ?_
    refine e_iload 25 48 rfl rfl rfl ?_
    refine e_iconst 26 49 rfl rfl ?_
    refine e_iadd 27 50 rfl rfl ?_
    refine e_iload_n 28 51 rfl rfl rfl rfl ?_
    refine e_iconst 29 52 rfl rfl ?_
    refine e_icmp_lt 30 59 55 rfl rfl rfl (by unfold xr at *; omega) (by unfold xr at *; omega) (fun hk3 => ?_) (fun hk3 => ?_)
    · skip
      refine e_iload_n 33 60 rfl rfl rfl rfl ?_
      exact fin its (by rw [if_neg (by omega)])
    · skip
      refine e_iconst 31 56 rfl rfl ?_
      refine e_goto 32 60 rfl rfl ?_
      exact fin (-1) (by rw [if_pos hk3])
  · skip
    cases hb
theorem sp_mPutsX {σ : xSig} {kd its : Int} {b : Bool} (h : 0 ≤ σ 281 3 ∧ σ 281 3 ≤ 10) (hx : b = false ∨ 10 ≤ σ 281 3) : x_Sp MX12_puts 0 0 [.ref 281, .int (ii (bi b)), .int (ii kd), .int (ii its)] (St σ) (iv 0) (St (xu σ 281 47 (if b = false then 1 else 2))) := by
  have fin : ∀ b2 : Bool, (b = false ∨ b2 = false) → x_E MX12_puts 0 0 16 [some (.ref 281), some (.int (ii (bi b))), some (.int (ii kd)), some (.int (ii its)), none] [.int (ii (bi b2)), .int (ii (bi b)), .ref 281] (St σ) 0 0 (iv 0) (St (xu σ 281 47 (if b = false then 1 else 2))) := by
    intro b2 hb2
    have e : gcode b b2 true = (if b = false then 1 else 2) := by
      cases b with
      | false => rfl
      | true =>
        rcases hb2 with w | w
        · cases w
        · rw [w]; rfl
    rw [← e]
    refine e_iconst 9 17 rfl rfl ?_
    refine g_callV 10 20 (sp_mGoes (a := b) (b := b2) (c := true)) okX12_goes cvX12_167 ⟨(Nat.le_of_ble_eq_true rfl), (Nat.le_of_ble_eq_true rfl)⟩ rfl rfl (Nat.le_of_ble_eq_true rfl) rfl rfl rfl rfl rfl (Nat.le_of_ble_eq_true rfl) (Nat.le_of_ble_eq_true rfl) (Nat.le_of_ble_eq_true rfl) ?_
    refine e_ifb_ne 11 25 23 rfl rfl rfl (fun hb => ?_) (fun hb => ?_)
    · skip
      exfalso
      rcases hb2 with w | w <;> rw [w] at hb <;> simp at hb
    · skip
      refine e_iconst 12 24 rfl rfl ?_
      exact e_ireturn 13 rfl rfl (Nat.le_of_ble_eq_true rfl) (Nat.le_of_ble_eq_true rfl)
  refine e_entry okX12_puts (Nat.le_of_ble_eq_true rfl) (ls := [some _, some _, some _, some _, none]) rfl ?_
  refine e_aload_n 0 1 rfl rfl rfl rfl ?_
  refine e_iload_n 1 2 rfl rfl rfl rfl ?_
  refine e_aload_n 2 3 rfl rfl rfl rfl ?_
  refine g_getI 3 6 3 ckX12 flX12_146 rfl rfl (Nat.le_of_ble_eq_true rfl) rfl rfl rfl rfl ?_
  refine e_bipush 4 8 rfl rfl rfl ?_
  refine e_icmp_ge 5 15 11 rfl rfl rfl (by unfold xr at *; omega) (by unfold xr at *; omega) (fun hq => ?_) (fun hq => ?_)
  · skip
    refine e_iconst 8 16 rfl rfl ?_
    exact fin false (Or.inr rfl)
  · skip
    refine e_iconst 6 12 rfl rfl ?_
    refine e_goto 7 16 rfl rfl ?_
    exact fin true (Or.inl (hx.resolve_right (by omega)))
/-- the value that a sign begins -/
def sgv (x : Int) : Fo := if x = 5000 then .add (.num 0) (.num 0) else if x = 4000 then .sub (.num 0) (.num 0) else .mulR (.num 0) x
theorem sgv_ok {x : Int} (h : lfx x ∨ x = 4000 ∨ x = 5000) : ok1 (sgv x) ∧ pa (sgv x) ≤ 24 ∧ newv x = tk (sgv x) := by
  rcases h with h | rfl | rfl
  · have := lfx_b h
    unfold sgv newv
    rw [if_neg (by omega), if_neg (by omega), if_neg (by omega)]
    exact ⟨Or.inl ⟨x, rfl, h⟩, by simp [pa], rfl⟩
  · exact ⟨Or.inr (Or.inr ⟨.num 0, rfl, rfl, rfl⟩), by decide, rfl⟩
  · exact ⟨Or.inr (Or.inl ⟨.num 0, rfl, rfl, rfl⟩), by decide, rfl⟩
/-- the same sign put by both -/
theorem put_both {i : Nat} {σ : xSig} (h : INV i σ) {x kd its : Int} (hx : lfx x ∨ x = 4000 ∨ x = 5000) (hen : en (sgv x) = if knd x = 0 then [kd] else [kd, if 3 ≤ kd then -1 else its]) (hk : 0 ≤ kd ∧ kd ≤ 4) (hlt : σ 1 2 < 10) : ∃ σ1 σ2 : xSig, x_Sp MX11_pileUp 0 0 [.ref 0, .int (ii x)] (St σ) (iv (σ 1 2 + 1)) (St σ1) ∧ (σ1 281 3 = σ 1 2 ∧ 0 ≤ σ 1 2) ∧ σ2 = mput σ1 kd its ∧ INV (i + 1) σ2 := by
  obtain ⟨T, G, hA, hM⟩ := h
  have h3 : 0 ≤ σ 1 2 ∧ σ 1 2 ≤ 10 := hM.1 3
  obtain ⟨g1, g2, g3⟩ := sgv_ok hx
  have hxr : 0 ≤ x ∧ x < 6000 := by
    rcases hx with w | rfl | rfl
    · have := lfx_b w; omega
    · omega
    · omega
  obtain ⟨σ1, k1, k2, k3, k4⟩ := sp_pileUp hA ⟨h3.1, hlt⟩ hxr
  have e3 : σ1 281 3 = σ 1 2 := by
    rw [k3 281 (by decide +kernel) (by decide)]
    exact hM.2 5
  refine ⟨σ1, mput σ1 kd its, k1, ⟨e3, h3.1⟩, rfl, ?_⟩
  obtain ⟨k, hk9⟩ := Int.eq_ofNat_of_zero_le h3.1
  have hpv : pv (σ 1 2) = 5 + 2 * k := by rw [pv_in h3.1 hlt, hk9]; rfl
  have fm := mput_f σ1 kd its
  have f : FV [(1, -1), (281, 47), (282, -1), (281, 3)] σ (mput σ1 kd its) := (k3.fv.mono rfl).tr (fm.fv.mono rfl)
  have e82 : ∀ j : Int, mput σ1 kd its 282 j = if j = 100 * (100 + σ 1 2) + 1 + 1 then (if 3 ≤ kd then -1 else its) else if j = 100 * (100 + σ 1 2) + 1 then kd else σ 282 j := fun j => by
    unfold mput
    rw [e3]
    have : σ1 282 j = σ 282 j := by rw [k3 282 (by decide +kernel) (by decide)]
    simp [xu, this]
  have s4 : sam (cK 1 ++ (cK 2 ++ cK 7)) σ (mput σ1 kd its) := sam_fv f (by decide +kernel) rfl
  have hA2 : VAll (mput σ1 kd its) (uT T (pv (σ 1 2)) (newv x)) := k2.fp fm (by decide +kernel)
  rw [hpv] at hA2
  have m12 : mput σ1 kd its 1 2 = k + 1 := by rw [fm.cell 1 rfl, k4, hk9]
  refine pile_inv (k := k) (v := sgv x) (L := [(1, -1), (281, 47), (282, -1), (281, 3)]) hM hA2 (by omega) m12 (by omega) ⟨g1, g2⟩ (by rw [uT_same]; exact g3) (fun a ha _ _ => uT_ne _ _ ha) f rfl rfl s4 ?_ (fun j hj => ?_) ?_
  · have hol := ok1_pa g1
    refine ⟨isMA_all, g1, by omega, by omega, by omega, ?_⟩
    rw [hen]
    by_cases q : knd x = 0
    · rw [if_pos q]
      refine EA.mk ?_ EA.nil
      rw [e82, if_neg (by omega), if_pos (by omega)]
    · rw [if_neg q]
      refine EA.mk ?_ (EA.mk ?_ EA.nil)
      · rw [e82, if_neg (by omega), if_pos (by omega)]
      · rw [e82, if_pos (by omega)]
  · rw [e82, if_neg (by omega), if_neg (by omega)]
  · rw [m12]
    unfold mput
    rw [xu_same, e3, hk9]
theorem mput47 (σ : xSig) (kd its : Int) : mput σ kd its 281 47 = 0 := by simp [mput, xu]
theorem mput_twice (σ : xSig) (kd its : Int) : mput (xu σ 281 47 0) kd its = mput σ kd its := by
  unfold mput
  rw [show xu σ 281 47 0 281 3 = σ 281 3 from xu_ne _ (Or.inr (by decide)), xu_xu]
theorem st_number {i : Nat} {σ : xSig} (h : INV i σ) {x : Int} (hx : xr x) : STEP i MX11_number MX12_number iv [nIAE, nISE] [.int (ii x)] σ := by
  have hM := h
  obtain ⟨T, G, hA, hM⟩ := hM
  have h3 : 0 ≤ σ 1 2 ∧ σ 1 2 ≤ 10 := hM.1 3
  have e5 : σ 281 3 = σ 1 2 := hM.2 5
  cases hr : inr9 x with
  | false =>
    have p1 := sp_mIn (σ := σ) (x := x) (y := -999) (z := 999) hx (by unfold xr; omega) (by unfold xr; omega)
    rw [show decide (-999 ≤ x ∧ x ≤ 999) = false from hr] at p1
    refine STEP.refuse h 1 (by simp) (sp_numberX hx hr) (σ2 := xu σ 281 47 1) (y := 0) ?_ (xu_same _ _ _ _) F47s
    refine e_entry okX12_number (Nat.le_of_ble_eq_true rfl) (ls := [some _, some _]) rfl ?_
    refine e_aload_n 0 1 rfl rfl rfl rfl ?_
    refine e_iload_n 1 2 rfl rfl rfl rfl ?_
    refine e_sipush 2 5 rfl rfl rfl ?_
    refine e_sipush 3 8 rfl rfl rfl ?_
    refine g_callS 4 11 (p1) okX12_in csX12_175 ⟨(Nat.le_of_ble_eq_true rfl), (Nat.le_of_ble_eq_true rfl)⟩ rfl rfl rfl rfl (Nat.le_of_ble_eq_true rfl) (Nat.le_of_ble_eq_true rfl) (Nat.le_of_ble_eq_true rfl) ?_
    refine e_iconst 5 12 rfl rfl ?_
    refine e_iload_n 6 13 rfl rfl rfl rfl ?_
    refine g_callV 7 16 (sp_mPutsX (b := false) (kd := 1) (its := x) (by omega) (Or.inl rfl)) okX12_puts cvX12_171 ⟨(Nat.le_of_ble_eq_true rfl), (Nat.le_of_ble_eq_true rfl)⟩ rfl rfl (Nat.le_of_ble_eq_true rfl) rfl rfl rfl rfl rfl (Nat.le_of_ble_eq_true rfl) (Nat.le_of_ble_eq_true rfl) (Nat.le_of_ble_eq_true rfl) ?_
    exact e_ireturn 8 rfl rfl (Nat.le_of_ble_eq_true rfl) (Nat.le_of_ble_eq_true rfl)
  | true =>
    have hrr := inr9_in hr
    by_cases hf : σ 1 2 < 10
    · obtain ⟨σ1, σ2, k1, k2, k3, k4⟩ := put_both h (x := 2000 + x) (kd := 1) (its := x) (Or.inl (Or.inr (Or.inl ⟨by omega, by omega⟩))) (by
        have hl : lfx (2000 + x) := Or.inr (Or.inl ⟨by omega, by omega⟩)
        have e : knd (2000 + x) = 1 := by
          rcases lfx_k hl with ⟨q, -⟩ | ⟨-, q⟩ | ⟨q, -⟩
          · omega
          · exact q
          · omega
        unfold sgv
        rw [if_neg (by omega), if_neg (by omega), e, if_neg (by decide)]
        simp only [en, List.append_nil]
        unfold lf
        rw [if_pos e, show 2000 + x - 2000 = x by omega]
        rfl) (by omega) hf
      subst k3
      have p1 := sp_mIn (σ := σ1) (x := x) (y := -999) (z := 999) hx (by unfold xr; omega) (by unfold xr; omega)
      rw [decT hrr] at p1
      refine ⟨σ1, _, 0, _, _, ⟨by omega, by simp⟩, fun _ => sp_number1 hx hr k1, fun q => absurd rfl q, (?_ : x_Sp MX12_number 0 0 _ _ (iv (σ1 281 3 + 1)) _), mput47 _ _ _, fun _ => by rw [k2.1], k4⟩
      refine e_entry okX12_number (Nat.le_of_ble_eq_true rfl) (ls := [some _, some _]) rfl ?_
      refine e_aload_n 0 1 rfl rfl rfl rfl ?_
      refine e_iload_n 1 2 rfl rfl rfl rfl ?_
      refine e_sipush 2 5 rfl rfl rfl ?_
      refine e_sipush 3 8 rfl rfl rfl ?_
      refine g_callS 4 11 (p1) okX12_in csX12_175 ⟨(Nat.le_of_ble_eq_true rfl), (Nat.le_of_ble_eq_true rfl)⟩ rfl rfl rfl rfl (Nat.le_of_ble_eq_true rfl) (Nat.le_of_ble_eq_true rfl) (Nat.le_of_ble_eq_true rfl) ?_
      refine e_iconst 5 12 rfl rfl ?_
      refine e_iload_n 6 13 rfl rfl rfl rfl ?_
      refine g_callV 7 16 (sp_mPuts (kd := 1) (its := x) (by omega) (by omega)) okX12_puts cvX12_171 ⟨(Nat.le_of_ble_eq_true rfl), (Nat.le_of_ble_eq_true rfl)⟩ rfl rfl (Nat.le_of_ble_eq_true rfl) rfl rfl rfl rfl rfl (Nat.le_of_ble_eq_true rfl) (Nat.le_of_ble_eq_true rfl) (Nat.le_of_ble_eq_true rfl) ?_
      exact e_ireturn 8 rfl rfl (Nat.le_of_ble_eq_true rfl) (Nat.le_of_ble_eq_true rfl)
    · have p1 := sp_mIn (σ := σ) (x := x) (y := -999) (z := 999) hx (by unfold xr; omega) (by unfold xr; omega)
      rw [decT hrr] at p1
      refine STEP.refuse h 2 (by simp) (sp_numberT hx hr (sp_pileUpT h3 hf)) (σ2 := xu σ 281 47 2) (y := 0) ?_ (xu_same _ _ _ _) F47s
      refine e_entry okX12_number (Nat.le_of_ble_eq_true rfl) (ls := [some _, some _]) rfl ?_
      refine e_aload_n 0 1 rfl rfl rfl rfl ?_
      refine e_iload_n 1 2 rfl rfl rfl rfl ?_
      refine e_sipush 2 5 rfl rfl rfl ?_
      refine e_sipush 3 8 rfl rfl rfl ?_
      refine g_callS 4 11 (p1) okX12_in csX12_175 ⟨(Nat.le_of_ble_eq_true rfl), (Nat.le_of_ble_eq_true rfl)⟩ rfl rfl rfl rfl (Nat.le_of_ble_eq_true rfl) (Nat.le_of_ble_eq_true rfl) (Nat.le_of_ble_eq_true rfl) ?_
      refine e_iconst 5 12 rfl rfl ?_
      refine e_iload_n 6 13 rfl rfl rfl rfl ?_
      refine g_callV 7 16 (sp_mPutsX (b := true) (kd := 1) (its := x) (by omega) (Or.inr (by omega))) okX12_puts cvX12_171 ⟨(Nat.le_of_ble_eq_true rfl), (Nat.le_of_ble_eq_true rfl)⟩ rfl rfl (Nat.le_of_ble_eq_true rfl) rfl rfl rfl rfl rfl (Nat.le_of_ble_eq_true rfl) (Nat.le_of_ble_eq_true rfl) (Nat.le_of_ble_eq_true rfl) ?_
      exact e_ireturn 8 rfl rfl (Nat.le_of_ble_eq_true rfl) (Nat.le_of_ble_eq_true rfl)
theorem st_word {i : Nat} {σ : xSig} (h : INV i σ) {x : Int} (hx : xr x) : STEP i MX11_word MX12_word iv [nIAE, nISE] [.int (ii x)] σ := by
  have hM := h
  obtain ⟨T, G, hA, hM⟩ := hM
  have h3 : 0 ≤ σ 1 2 ∧ σ 1 2 ≤ 10 := hM.1 3
  have e5 : σ 281 3 = σ 1 2 := hM.2 5
  by_cases hr : 0 ≤ x ∧ x < 100
  · by_cases hf : σ 1 2 < 10
    · obtain ⟨σ1, σ2, k1, k2, k3, k4⟩ := put_both h (x := 3000 + x) (kd := 2) (its := x) (Or.inl (Or.inr (Or.inr ⟨by omega, by omega⟩))) (by
        have hl : lfx (3000 + x) := Or.inr (Or.inr ⟨by omega, by omega⟩)
        have e : knd (3000 + x) = 2 := by
          rcases lfx_k hl with ⟨q, -⟩ | ⟨q, -⟩ | ⟨-, q⟩
          · omega
          · omega
          · exact q
        unfold sgv
        rw [if_neg (by omega), if_neg (by omega), e, if_neg (by decide)]
        simp only [en, List.append_nil]
        unfold lf
        rw [e, if_neg (by decide), if_pos rfl, show 3000 + x - 3000 = x by omega]
        rfl) (by omega) hf
      subst k3
      have p1 := sp_mIn (σ := σ1) (x := x) (y := 0) (z := 99) hx (by unfold xr; omega) (by unfold xr; omega)
      rw [decT (by omega)] at p1
      refine ⟨σ1, _, 0, _, _, ⟨by omega, by simp⟩, fun _ => sp_word1 hr k1, fun q => absurd rfl q, (?_ : x_Sp MX12_word 0 0 _ _ (iv (σ1 281 3 + 1)) _), mput47 _ _ _, fun _ => by rw [k2.1], k4⟩
      refine e_entry okX12_word (Nat.le_of_ble_eq_true rfl) (ls := [some _, some _]) rfl ?_
      refine e_aload_n 0 1 rfl rfl rfl rfl ?_
      refine e_iload_n 1 2 rfl rfl rfl rfl ?_
      refine e_iconst 2 3 rfl rfl ?_
      refine e_bipush 3 5 rfl rfl rfl ?_
      refine g_callS 4 8 (p1) okX12_in csX12_175 ⟨(Nat.le_of_ble_eq_true rfl), (Nat.le_of_ble_eq_true rfl)⟩ rfl rfl rfl rfl (Nat.le_of_ble_eq_true rfl) (Nat.le_of_ble_eq_true rfl) (Nat.le_of_ble_eq_true rfl) ?_
      refine e_iconst 5 9 rfl rfl ?_
      refine e_iload_n 6 10 rfl rfl rfl rfl ?_
      refine g_callV 7 13 (sp_mPuts (kd := 2) (its := x) (by omega) (by omega)) okX12_puts cvX12_171 ⟨(Nat.le_of_ble_eq_true rfl), (Nat.le_of_ble_eq_true rfl)⟩ rfl rfl (Nat.le_of_ble_eq_true rfl) rfl rfl rfl rfl rfl (Nat.le_of_ble_eq_true rfl) (Nat.le_of_ble_eq_true rfl) (Nat.le_of_ble_eq_true rfl) ?_
      exact e_ireturn 8 rfl rfl (Nat.le_of_ble_eq_true rfl) (Nat.le_of_ble_eq_true rfl)
    · have p1 := sp_mIn (σ := σ) (x := x) (y := 0) (z := 99) hx (by unfold xr; omega) (by unfold xr; omega)
      rw [decT (by omega)] at p1
      refine STEP.refuse h 2 (by simp) (sp_wordT hr (sp_pileUpT h3 hf)) (σ2 := xu σ 281 47 2) (y := 0) ?_ (xu_same _ _ _ _) F47s
      refine e_entry okX12_word (Nat.le_of_ble_eq_true rfl) (ls := [some _, some _]) rfl ?_
      refine e_aload_n 0 1 rfl rfl rfl rfl ?_
      refine e_iload_n 1 2 rfl rfl rfl rfl ?_
      refine e_iconst 2 3 rfl rfl ?_
      refine e_bipush 3 5 rfl rfl rfl ?_
      refine g_callS 4 8 (p1) okX12_in csX12_175 ⟨(Nat.le_of_ble_eq_true rfl), (Nat.le_of_ble_eq_true rfl)⟩ rfl rfl rfl rfl (Nat.le_of_ble_eq_true rfl) (Nat.le_of_ble_eq_true rfl) (Nat.le_of_ble_eq_true rfl) ?_
      refine e_iconst 5 9 rfl rfl ?_
      refine e_iload_n 6 10 rfl rfl rfl rfl ?_
      refine g_callV 7 13 (sp_mPutsX (b := true) (kd := 2) (its := x) (by omega) (Or.inr (by omega))) okX12_puts cvX12_171 ⟨(Nat.le_of_ble_eq_true rfl), (Nat.le_of_ble_eq_true rfl)⟩ rfl rfl (Nat.le_of_ble_eq_true rfl) rfl rfl rfl rfl rfl (Nat.le_of_ble_eq_true rfl) (Nat.le_of_ble_eq_true rfl) (Nat.le_of_ble_eq_true rfl) ?_
      exact e_ireturn 8 rfl rfl (Nat.le_of_ble_eq_true rfl) (Nat.le_of_ble_eq_true rfl)
  · have p1 := sp_mIn (σ := σ) (x := x) (y := 0) (z := 99) hx (by unfold xr; omega) (by unfold xr; omega)
    rw [decF (by omega)] at p1
    refine STEP.refuse h 1 (by simp) (sp_wordX hx (by omega)) (σ2 := xu σ 281 47 1) (y := 0) ?_ (xu_same _ _ _ _) F47s
    refine e_entry okX12_word (Nat.le_of_ble_eq_true rfl) (ls := [some _, some _]) rfl ?_
    refine e_aload_n 0 1 rfl rfl rfl rfl ?_
    refine e_iload_n 1 2 rfl rfl rfl rfl ?_
    refine e_iconst 2 3 rfl rfl ?_
    refine e_bipush 3 5 rfl rfl rfl ?_
    refine g_callS 4 8 (p1) okX12_in csX12_175 ⟨(Nat.le_of_ble_eq_true rfl), (Nat.le_of_ble_eq_true rfl)⟩ rfl rfl rfl rfl (Nat.le_of_ble_eq_true rfl) (Nat.le_of_ble_eq_true rfl) (Nat.le_of_ble_eq_true rfl) ?_
    refine e_iconst 5 9 rfl rfl ?_
    refine e_iload_n 6 10 rfl rfl rfl rfl ?_
    refine g_callV 7 13 (sp_mPutsX (b := false) (kd := 2) (its := x) (by omega) (Or.inl rfl)) okX12_puts cvX12_171 ⟨(Nat.le_of_ble_eq_true rfl), (Nat.le_of_ble_eq_true rfl)⟩ rfl rfl (Nat.le_of_ble_eq_true rfl) rfl rfl rfl rfl rfl (Nat.le_of_ble_eq_true rfl) (Nat.le_of_ble_eq_true rfl) (Nat.le_of_ble_eq_true rfl) ?_
    exact e_ireturn 8 rfl rfl (Nat.le_of_ble_eq_true rfl) (Nat.le_of_ble_eq_true rfl)
theorem st_nothing {i : Nat} {σ : xSig} (h : INV i σ) : STEP i MX11_nothing MX12_nothing iv [nISE] [] σ := by
  have hM := h
  obtain ⟨T, G, hA, hM⟩ := hM
  have h3 : 0 ≤ σ 1 2 ∧ σ 1 2 ≤ 10 := hM.1 3
  have e5 : σ 281 3 = σ 1 2 := hM.2 5
  by_cases hf : σ 1 2 < 10
  · obtain ⟨σ1, σ2, k1, k2, k3, k4⟩ := put_both h (x := 9) (kd := 0) (its := 0) (Or.inl (Or.inl rfl)) rfl (by omega) hf
    subst k3
    have hp := sp_mPuts (σ := xu σ1 281 47 0) (kd := 0) (its := 0) (by rw [xu_ne _ (Or.inr (by decide))]; omega) (by omega)
    rw [mput_twice, xu_ne _ (Or.inr (by decide))] at hp
    refine ⟨σ1, _, 0, _, _, ⟨by omega, by simp⟩, fun _ => sp_nothing1 k1, fun q => absurd rfl q, (?_ : x_Sp MX12_nothing 0 0 _ _ (iv (σ1 281 3 + 1)) _), mput47 _ _ _, fun _ => by rw [k2.1], k4⟩
    refine e_entry okX12_nothing (Nat.le_of_ble_eq_true rfl) (ls := [some _]) rfl ?_
    refine e_aload_n 0 1 rfl rfl rfl rfl ?_
    refine e_aload_n 1 2 rfl rfl rfl rfl ?_
    refine g_getI 2 5 3 ckX12 flX12_146 rfl rfl (Nat.le_of_ble_eq_true rfl) rfl rfl rfl rfl ?_
    refine e_bipush 3 7 rfl rfl rfl ?_
    refine e_icmp_ge 4 14 10 rfl rfl rfl (by unfold xr at *; omega) (by unfold xr at *; omega) (fun h9 => absurd h9 (by omega)) (fun _ => ?_)
    refine e_iconst 5 11 rfl rfl ?_
    refine e_goto 6 15 rfl rfl ?_
    refine e_iconst 8 16 rfl rfl ?_
    refine e_iconst 9 17 rfl rfl ?_
    refine g_callV 10 20 (sp_mGoes (a := true) (b := true) (c := true)) okX12_goes cvX12_167 ⟨(Nat.le_of_ble_eq_true rfl), (Nat.le_of_ble_eq_true rfl)⟩ rfl rfl (Nat.le_of_ble_eq_true rfl) rfl rfl rfl rfl rfl (Nat.le_of_ble_eq_true rfl) (Nat.le_of_ble_eq_true rfl) (Nat.le_of_ble_eq_true rfl) ?_
    refine e_ifb_ne 11 25 23 rfl rfl rfl (fun hb => ?_) (fun hb => ?_)
    · skip
      refine e_aload_n 14 26 rfl rfl rfl rfl ?_
      refine e_iconst 15 27 rfl rfl ?_
      refine e_iconst 16 28 rfl rfl ?_
      refine e_iconst 17 29 rfl rfl ?_
      refine g_callV 18 32 (hp) okX12_puts cvX12_171 ⟨(Nat.le_of_ble_eq_true rfl), (Nat.le_of_ble_eq_true rfl)⟩ rfl rfl (Nat.le_of_ble_eq_true rfl) rfl rfl rfl rfl rfl (Nat.le_of_ble_eq_true rfl) (Nat.le_of_ble_eq_true rfl) (Nat.le_of_ble_eq_true rfl) ?_
      exact e_ireturn 19 rfl rfl (Nat.le_of_ble_eq_true rfl) (Nat.le_of_ble_eq_true rfl)
    · skip
      cases hb
  · refine STEP.refuse h 1 (by simp) (sp_nothingT (sp_pileUpT h3 hf)) (σ2 := xu σ 281 47 1) (y := 0) ?_ (xu_same _ _ _ _) F47s
    refine e_entry okX12_nothing (Nat.le_of_ble_eq_true rfl) (ls := [some _]) rfl ?_
    refine e_aload_n 0 1 rfl rfl rfl rfl ?_
    refine e_aload_n 1 2 rfl rfl rfl rfl ?_
    refine g_getI 2 5 3 ckX12 flX12_146 rfl rfl (Nat.le_of_ble_eq_true rfl) rfl rfl rfl rfl ?_
    refine e_bipush 3 7 rfl rfl rfl ?_
    refine e_icmp_ge 4 14 10 rfl rfl rfl (by unfold xr at *; omega) (by unfold xr at *; omega) (fun _ => ?_) (fun h9 => absurd h9 (by omega))
    refine e_iconst 7 15 rfl rfl ?_
    refine e_iconst 8 16 rfl rfl ?_
    refine e_iconst 9 17 rfl rfl ?_
    refine g_callV 10 20 (sp_mGoes (a := false) (b := true) (c := true)) okX12_goes cvX12_167 ⟨(Nat.le_of_ble_eq_true rfl), (Nat.le_of_ble_eq_true rfl)⟩ rfl rfl (Nat.le_of_ble_eq_true rfl) rfl rfl rfl rfl rfl (Nat.le_of_ble_eq_true rfl) (Nat.le_of_ble_eq_true rfl) (Nat.le_of_ble_eq_true rfl) ?_
    refine e_ifb_ne 11 25 23 rfl rfl rfl (fun hb => ?_) (fun hb => ?_)
    · skip
      cases hb
    · skip
      refine e_iconst 12 24 rfl rfl ?_
      exact e_ireturn 13 rfl rfl (Nat.le_of_ble_eq_true rfl) (Nat.le_of_ble_eq_true rfl)
theorem st_row {i : Nat} {σ : xSig} (h : INV i σ) : STEP i MX11_row MX12_row iv [nISE] [] σ := by
  have hM := h
  obtain ⟨T, G, hA, hM⟩ := hM
  have h3 : 0 ≤ σ 1 2 ∧ σ 1 2 ≤ 10 := hM.1 3
  have e5 : σ 281 3 = σ 1 2 := hM.2 5
  by_cases hf : σ 1 2 < 10
  · obtain ⟨σ1, σ2, k1, k2, k3, k4⟩ := put_both h (x := 4000) (kd := 3) (its := 0) (Or.inr (Or.inl rfl)) rfl (by omega) hf
    subst k3
    have hp := sp_mPuts (σ := xu σ1 281 47 0) (kd := 3) (its := 0) (by rw [xu_ne _ (Or.inr (by decide))]; omega) (by omega)
    rw [mput_twice, xu_ne _ (Or.inr (by decide))] at hp
    refine ⟨σ1, _, 0, _, _, ⟨by omega, by simp⟩, fun _ => sp_row1 k1, fun q => absurd rfl q, (?_ : x_Sp MX12_row 0 0 _ _ (iv (σ1 281 3 + 1)) _), mput47 _ _ _, fun _ => by rw [k2.1], k4⟩
    refine e_entry okX12_row (Nat.le_of_ble_eq_true rfl) (ls := [some _]) rfl ?_
    refine e_aload_n 0 1 rfl rfl rfl rfl ?_
    refine e_aload_n 1 2 rfl rfl rfl rfl ?_
    refine g_getI 2 5 3 ckX12 flX12_146 rfl rfl (Nat.le_of_ble_eq_true rfl) rfl rfl rfl rfl ?_
    refine e_bipush 3 7 rfl rfl rfl ?_
    refine e_icmp_ge 4 14 10 rfl rfl rfl (by unfold xr at *; omega) (by unfold xr at *; omega) (fun h9 => absurd h9 (by omega)) (fun _ => ?_)
    refine e_iconst 5 11 rfl rfl ?_
    refine e_goto 6 15 rfl rfl ?_
    refine e_iconst 8 16 rfl rfl ?_
    refine e_iconst 9 17 rfl rfl ?_
    refine g_callV 10 20 (sp_mGoes (a := true) (b := true) (c := true)) okX12_goes cvX12_167 ⟨(Nat.le_of_ble_eq_true rfl), (Nat.le_of_ble_eq_true rfl)⟩ rfl rfl (Nat.le_of_ble_eq_true rfl) rfl rfl rfl rfl rfl (Nat.le_of_ble_eq_true rfl) (Nat.le_of_ble_eq_true rfl) (Nat.le_of_ble_eq_true rfl) ?_
    refine e_ifb_eq 11 33 23 rfl rfl rfl (fun hb => ?_) (fun hb => ?_)
    · skip
      cases hb
    · skip
      refine e_aload_n 12 24 rfl rfl rfl rfl ?_
      refine e_iconst 13 25 rfl rfl ?_
      refine e_iconst 14 26 rfl rfl ?_
      refine e_iconst 15 27 rfl rfl ?_
      refine g_callV 16 30 (hp) okX12_puts cvX12_171 ⟨(Nat.le_of_ble_eq_true rfl), (Nat.le_of_ble_eq_true rfl)⟩ rfl rfl (Nat.le_of_ble_eq_true rfl) rfl rfl rfl rfl rfl (Nat.le_of_ble_eq_true rfl) (Nat.le_of_ble_eq_true rfl) (Nat.le_of_ble_eq_true rfl) ?_
      refine e_goto 17 34 rfl rfl ?_
      exact e_ireturn 19 rfl rfl (Nat.le_of_ble_eq_true rfl) (Nat.le_of_ble_eq_true rfl)
  · refine STEP.refuse h 1 (by simp) (sp_rowT (sp_pileUpT h3 hf)) (σ2 := xu σ 281 47 1) (y := 0) ?_ (xu_same _ _ _ _) F47s
    refine e_entry okX12_row (Nat.le_of_ble_eq_true rfl) (ls := [some _]) rfl ?_
    refine e_aload_n 0 1 rfl rfl rfl rfl ?_
    refine e_aload_n 1 2 rfl rfl rfl rfl ?_
    refine g_getI 2 5 3 ckX12 flX12_146 rfl rfl (Nat.le_of_ble_eq_true rfl) rfl rfl rfl rfl ?_
    refine e_bipush 3 7 rfl rfl rfl ?_
    refine e_icmp_ge 4 14 10 rfl rfl rfl (by unfold xr at *; omega) (by unfold xr at *; omega) (fun _ => ?_) (fun h9 => absurd h9 (by omega))
    refine e_iconst 7 15 rfl rfl ?_
    refine e_iconst 8 16 rfl rfl ?_
    refine e_iconst 9 17 rfl rfl ?_
    refine g_callV 10 20 (sp_mGoes (a := false) (b := true) (c := true)) okX12_goes cvX12_167 ⟨(Nat.le_of_ble_eq_true rfl), (Nat.le_of_ble_eq_true rfl)⟩ rfl rfl (Nat.le_of_ble_eq_true rfl) rfl rfl rfl rfl rfl (Nat.le_of_ble_eq_true rfl) (Nat.le_of_ble_eq_true rfl) (Nat.le_of_ble_eq_true rfl) ?_
    refine e_ifb_eq 11 33 23 rfl rfl rfl (fun hb => ?_) (fun hb => ?_)
    · skip
      refine e_iconst 18 34 rfl rfl ?_
      exact e_ireturn 19 rfl rfl (Nat.le_of_ble_eq_true rfl) (Nat.le_of_ble_eq_true rfl)
    · skip
      cases hb
theorem st_object {i : Nat} {σ : xSig} (h : INV i σ) : STEP i MX11_object MX12_object iv [nISE] [] σ := by
  have hM := h
  obtain ⟨T, G, hA, hM⟩ := hM
  have h3 : 0 ≤ σ 1 2 ∧ σ 1 2 ≤ 10 := hM.1 3
  have e5 : σ 281 3 = σ 1 2 := hM.2 5
  by_cases hf : σ 1 2 < 10
  · obtain ⟨σ1, σ2, k1, k2, k3, k4⟩ := put_both h (x := 5000) (kd := 4) (its := 0) (Or.inr (Or.inr rfl)) rfl (by omega) hf
    subst k3
    have hp := sp_mPuts (σ := xu σ1 281 47 0) (kd := 4) (its := 0) (by rw [xu_ne _ (Or.inr (by decide))]; omega) (by omega)
    rw [mput_twice, xu_ne _ (Or.inr (by decide))] at hp
    refine ⟨σ1, _, 0, _, _, ⟨by omega, by simp⟩, fun _ => sp_object1 k1, fun q => absurd rfl q, (?_ : x_Sp MX12_object 0 0 _ _ (iv (σ1 281 3 + 1)) _), mput47 _ _ _, fun _ => by rw [k2.1], k4⟩
    refine e_entry okX12_object (Nat.le_of_ble_eq_true rfl) (ls := [some _]) rfl ?_
    refine e_aload_n 0 1 rfl rfl rfl rfl ?_
    refine e_aload_n 1 2 rfl rfl rfl rfl ?_
    refine g_getI 2 5 3 ckX12 flX12_146 rfl rfl (Nat.le_of_ble_eq_true rfl) rfl rfl rfl rfl ?_
    refine e_bipush 3 7 rfl rfl rfl ?_
    refine e_icmp_ge 4 14 10 rfl rfl rfl (by unfold xr at *; omega) (by unfold xr at *; omega) (fun h9 => absurd h9 (by omega)) (fun _ => ?_)
    refine e_iconst 5 11 rfl rfl ?_
    refine e_goto 6 15 rfl rfl ?_
    refine e_iconst 8 16 rfl rfl ?_
    refine e_iconst 9 17 rfl rfl ?_
    refine g_callV 10 20 (sp_mGoes (a := true) (b := true) (c := true)) okX12_goes cvX12_167 ⟨(Nat.le_of_ble_eq_true rfl), (Nat.le_of_ble_eq_true rfl)⟩ rfl rfl (Nat.le_of_ble_eq_true rfl) rfl rfl rfl rfl rfl (Nat.le_of_ble_eq_true rfl) (Nat.le_of_ble_eq_true rfl) (Nat.le_of_ble_eq_true rfl) ?_
    refine e_ifb_eq 11 33 23 rfl rfl rfl (fun hb => ?_) (fun hb => ?_)
    · skip
      cases hb
    · skip
      refine e_aload_n 12 24 rfl rfl rfl rfl ?_
      refine e_iconst 13 25 rfl rfl ?_
      refine e_iconst 14 26 rfl rfl ?_
      refine e_iconst 15 27 rfl rfl ?_
      refine g_callV 16 30 (hp) okX12_puts cvX12_171 ⟨(Nat.le_of_ble_eq_true rfl), (Nat.le_of_ble_eq_true rfl)⟩ rfl rfl (Nat.le_of_ble_eq_true rfl) rfl rfl rfl rfl rfl (Nat.le_of_ble_eq_true rfl) (Nat.le_of_ble_eq_true rfl) (Nat.le_of_ble_eq_true rfl) ?_
      refine e_goto 17 34 rfl rfl ?_
      exact e_ireturn 19 rfl rfl (Nat.le_of_ble_eq_true rfl) (Nat.le_of_ble_eq_true rfl)
  · refine STEP.refuse h 1 (by simp) (sp_objectT (sp_pileUpT h3 hf)) (σ2 := xu σ 281 47 1) (y := 0) ?_ (xu_same _ _ _ _) F47s
    refine e_entry okX12_object (Nat.le_of_ble_eq_true rfl) (ls := [some _]) rfl ?_
    refine e_aload_n 0 1 rfl rfl rfl rfl ?_
    refine e_aload_n 1 2 rfl rfl rfl rfl ?_
    refine g_getI 2 5 3 ckX12 flX12_146 rfl rfl (Nat.le_of_ble_eq_true rfl) rfl rfl rfl rfl ?_
    refine e_bipush 3 7 rfl rfl rfl ?_
    refine e_icmp_ge 4 14 10 rfl rfl rfl (by unfold xr at *; omega) (by unfold xr at *; omega) (fun _ => ?_) (fun h9 => absurd h9 (by omega))
    refine e_iconst 7 15 rfl rfl ?_
    refine e_iconst 8 16 rfl rfl ?_
    refine e_iconst 9 17 rfl rfl ?_
    refine g_callV 10 20 (sp_mGoes (a := false) (b := true) (c := true)) okX12_goes cvX12_167 ⟨(Nat.le_of_ble_eq_true rfl), (Nat.le_of_ble_eq_true rfl)⟩ rfl rfl (Nat.le_of_ble_eq_true rfl) rfl rfl rfl rfl rfl (Nat.le_of_ble_eq_true rfl) (Nat.le_of_ble_eq_true rfl) (Nat.le_of_ble_eq_true rfl) ?_
    refine e_ifb_eq 11 33 23 rfl rfl rfl (fun hb => ?_) (fun hb => ?_)
    · skip
      refine e_iconst 18 34 rfl rfl ?_
      exact e_ireturn 19 rfl rfl (Nat.le_of_ble_eq_true rfl) (Nat.le_of_ble_eq_true rfl)
    · skip
      cases hb
