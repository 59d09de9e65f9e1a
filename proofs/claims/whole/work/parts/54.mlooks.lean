/-! ===== what is had at a path, as values ===== -/
def prt : Fo → List Fo
  | .mulL _ F => prt F
  | .mulR n x => .mulR (.num 0) x :: prt n
  | .add c n => .add c (.num 0) :: prt n
  | .sub c n => .sub c (.num 0) :: prt n
  | _ => []
/-- a value, and a row's parts -/
def vl1 : Fo → List Fo
  | .mulR _ x => [.mulR (.num 0) x]
  | .add c _ => [.add c (.num 0)]
  | .sub c _ => .sub c (.num 0) :: prt c
  | _ => []
/-- of an object, what it has at a field -/
def vlo (f : Int) : Fo → List Fo
  | .add c _ => vl1 (get f c)
  | _ => []
/-- of a row, what each object that is a part has at a field -/
def vlr (f : Int) : Fo → List Fo
  | .mulL _ F => vlr f F
  | .mulR n _ => vlr f n
  | .add c n => vl1 (get f c) ++ vlr f n
  | .sub _ n => vlr f n
  | _ => []
/-- of a document's fields, at a path -/
def vls (F : Fo) (path : Int) : List Fo := if path < 8 then vl1 (get path F) else match get (path / 8 - 1) F with
  | .add c _ => vl1 (get (path % 8) c)
  | .sub c _ => vlr (path % 8) c
  | _ => []
theorem prt_pl : ∀ F : Fo, ∀ i : Int, (pl F i).map Prod.snd = prt F := by
  intro F
  induction F with
  | num z => intro i; rfl
  | var z => intro i; rfl
  | neg z ih => intro i; rfl
  | mulL k F ih => intro i; simp only [pl, prt]; exact ih _
  | mulR n x ih => intro i; simp only [pl, prt, List.map_cons, ih]
  | add c n ihc ihn => intro i; simp only [pl, prt, List.map_cons, ihn]
  | sub c n ihc ihn => intro i; simp only [pl, prt, List.map_cons, ihn]
theorem vl1_sp (v : Fo) (i : Int) : (sp1 v i).map Prod.snd = vl1 v := by
  cases v with
  | num z => rfl
  | var z => rfl
  | neg z => rfl
  | mulL k F => rfl
  | mulR n x => rfl
  | add c n => rfl
  | sub c n => simp only [sp1, vl1, List.map_cons, prt_pl]
theorem cat_sp1 {w : Fo} (h : ok1 w) (n : Fo) (i : Int) : sp1 (cat w n) i = sp1 w i := by
  rcases h with ⟨x, rfl, hx⟩ | ⟨c, rfl, hc⟩ | ⟨c, rfl, hc⟩ <;> rfl
theorem cat_gsp {w : Fo} (h : ok1 w) (f : Int) (n : Fo) (i : Int) : ∃ j, gsp f (cat w n) i = gsp f n j := by
  rcases h with ⟨x, rfl, hx⟩ | ⟨c, rfl, hc⟩ | ⟨c, rfl, hc⟩
  · exact ⟨_, rfl⟩
  · exact ⟨_, rfl⟩
  · exact ⟨_, rfl⟩
theorem cat_gs2 {w : Fo} (h : ok1 w) (f g : Int) (n : Fo) (i : Int) : ∃ j, gs2 f g (cat w n) i = gs2 f g n j := by
  rcases h with ⟨x, rfl, hx⟩ | ⟨c, rfl, hc⟩ | ⟨c, rfl, hc⟩
  · exact ⟨_, rfl⟩
  · exact ⟨_, rfl⟩
  · exact ⟨_, rfl⟩
theorem get_hi0 {F : Fo} {f lo : Int} (h : okf true false lo F) (hf : f < lo) : get f F = .num 0 := get_hi F f true false lo h rfl hf
theorem vl_gsp {F : Fo} {lo : Int} (f : Int) (h : okf true false lo F) : ∀ i, (gsp f F i).map Prod.snd = vl1 (get f F) := by
  refine fldInd (P := fun _ F => ∀ i, (gsp f F i).map Prod.snd = vl1 (get f F)) (fun lo i => rfl) (fun lo k v n h1 h2 hv hn ih i => ?_) F lo h
  rw [get_mulL hv, show gsp f (.mulL k (cat v n)) i = (if k = f then sp1 (cat v n) (i + 1) else []) ++ gsp f (cat v n) (i + 1) from rfl]
  obtain ⟨j, hj⟩ := cat_gsp hv f n (i + 1)
  rw [hj, List.map_append, ih j]
  by_cases e : k = f
  · rw [if_pos e, if_pos e, cat_sp1 hv, vl1_sp, get_hi0 hn (by omega)]
    exact List.append_nil _
  · rw [if_neg e, if_neg e]
    rfl
theorem vl_rsp : ∀ F : Fo, okf false false 0 F → ∀ (f i : Int), (rsp f F i).map Prod.snd = vlr f F := by
  intro F
  induction F with
  | num z => intro h f i; rfl
  | var z => intro h; exact h.elim
  | neg z ih => intro h; exact h.elim
  | mulL k F ih => intro h; exact absurd h.1 (by decide)
  | mulR n x ih => intro h f i; exact ih h.2.2 f _
  | add c n ihc ihn =>
    intro h f i
    simp only [rsp, vlr, List.map_append]
    rw [ihn h.2.2, vl_gsp f h.2.1]
  | sub c n ihc ihn => intro h f i; exact ihn h.2.2 f _
theorem vl_gs2 {F : Fo} {lo : Int} (f g : Int) (h : okf true false lo F) : ∀ i, (gs2 f g F i).map Prod.snd = match get f F with
  | .add c _ => vl1 (get g c)
  | .sub c _ => vlr g c
  | _ => [] := by
  refine fldInd (P := fun _ F => ∀ i, (gs2 f g F i).map Prod.snd = match get f F with
    | .add c _ => vl1 (get g c)
    | .sub c _ => vlr g c
    | _ => []) (fun lo i => rfl) (fun lo k v n h1 h2 hv hn ih i => ?_) F lo h
  rw [get_mulL hv]
  obtain ⟨j, hj⟩ := cat_gs2 hv f g n (i + 1)
  by_cases e : k = f
  · rw [if_pos e]
    have hnil : gs2 f g n j = [] := gs2_hi n f g false (k + 1) j hn (by omega)
    rcases hv with ⟨x, rfl, hx⟩ | ⟨c, rfl, hc⟩ | ⟨c, rfl, hc⟩
    · simp only [cat, gs2, if_pos e, List.nil_append] at hj ⊢
      rw [hj, hnil]
      rfl
    · simp only [cat, gs2, if_pos e] at hj ⊢
      rw [List.map_append, hj, hnil, vl_gsp g hc]
      exact List.append_nil _
    · simp only [cat, gs2, if_pos e] at hj ⊢
      rw [List.map_append, hj, hnil, vl_rsp c hc]
      exact List.append_nil _
  · rw [if_neg e, ← ih j, ← hj]
    simp only [gs2, if_neg e, List.nil_append]
theorem als_vls {F : Fo} (h : okf true false 0 F) (path : Int) : als F path = vls F path := by
  unfold als asp vls
  split
  · exact vl_gsp path h 1
  · exact vl_gs2 _ _ h 1
theorem prt_pa : ∀ F : Fo, ((prt F).length : Int) ≤ pa F := by
  intro F
  induction F with
  | num z => simp [prt, pa]
  | var z => simp [prt, pa]
  | neg z ih => simp [prt, pa]
  | mulL k F ih => simpa [prt, pa] using ih
  | mulR n x ih => simp only [prt, pa, List.length_cons]; omega
  | add c n ihc ihn => have := pa_nn c; simp only [prt, pa, List.length_cons]; omega
  | sub c n ihc ihn => have := pa_nn c; simp only [prt, pa, List.length_cons]; omega
theorem vl1_pa {v : Fo} : ((vl1 v).length : Int) ≤ pa v := by
  cases v with
  | num z => simp [vl1, pa]
  | var z => simp [vl1, pa]
  | neg z => simp [vl1, pa]
  | mulL k F => have := pa_nn F; simp only [vl1, pa, List.length_nil]; omega
  | mulR n x => have := pa_nn n; simp only [vl1, pa, List.length_cons, List.length_nil]; omega
  | add c n => have := pa_nn c; have := pa_nn n; simp only [vl1, pa, List.length_cons, List.length_nil]; omega
  | sub c n => have := prt_pa c; have := pa_nn n; simp only [vl1, pa, List.length_cons]; omega
/-! ===== the model's spots ===== -/
abbrev lk9 : List (Nat × Int) := [(306, -1), (281, 41), (311, -1)]
/-- the spots so far: places, with the values there -/
def SPs (σ : xSig) (L : List (Int × Fo)) : Prop := σ 281 41 = L.length ∧ EA σ 306 0 (L.map Prod.fst) ∧ ∀ q ∈ L, MV σ 282 11300 q.1 q.2
theorem MV.lk {σ σ' : xSig} {p : Int} {v : Fo} (h : MV σ 282 11300 p v) (hF : FP lk9 σ σ') : MV σ' 282 11300 p v := h.of (hF.cell 282 rfl)
theorem SPs.fp {σ σ' : xSig} {L : List (Int × Fo)} (h : SPs σ L) (hF : FP m11 σ σ') : SPs σ' L := ⟨by rw [hF 281 41 rfl]; exact h.1, h.2.1.of fun i _ _ => by rw [hF.cell 306 rfl], fun q hq => (h.2.2 q hq).fp hF⟩
theorem SPs.snoc {σ : xSig} {L : List (Int × Fo)} (h : SPs σ L) {p : Int} {v : Fo} (hv : MV σ 282 11300 p v) : SPs (xu (xu σ 306 L.length p) 281 41 (L.length + 1)) (L ++ [(p, v)]) := by
  have f : FP lk9 σ (xu (xu σ 306 L.length p) 281 41 (L.length + 1)) := (FP.rf.put (by simp [inP])).put rfl
  refine ⟨by rw [xu_same]; simp, ?_, fun q hq => ?_⟩
  · rw [List.map_append]
    refine EA.cat (h.2.1.of fun i h1 h2 => ?_) ?_
    · rw [List.length_map] at h2
      rw [xu_other _ _ _ (by decide), xu_ne _ (Or.inr (by omega))]
    · refine EA.mk ?_ EA.nil
      rw [List.length_map, xu_other _ _ _ (by decide), Int.zero_add, xu_same]
  · rcases List.mem_append.mp hq with hq | hq
    · exact (h.2.2 q hq).lk f
    · simp only [List.mem_cons, List.not_mem_nil, or_false] at hq
      subst hq
      exact hv.lk f
theorem snoc_f {σ : xSig} {n p m : Int} : FP lk9 σ (xu (xu σ 306 n p) 281 41 m) := (FP.rf.put (by simp [inP])).put rfl
theorem mv_hd {σ : xSig} {a n : Nat} {p : Int} {v : Fo} (h : MV σ a n p v) : (∃ x, v = .mulR (.num 0) x ∧ lfx x ∧ σ a p = knd x ∧ knd x < 3) ∨ (∃ c, v = .add c (.num 0) ∧ okf true false 0 c ∧ σ a p = 4) ∨ (∃ c, v = .sub c (.num 0) ∧ okf false false 0 c ∧ σ a p = 3 ∧ EA σ a (p + 1) (en c ++ [-1]) ∧ pa c ≤ 51 ∧ p + 2 + (en c).length ≤ n) := by
  obtain ⟨h1, h2, h3, h4, h5, h6⟩ := h
  rcases h2 with ⟨x, rfl, hx⟩ | ⟨c, rfl, hc⟩ | ⟨c, rfl, hc⟩
  · obtain ⟨r, hr, -⟩ := lf_hd hx
    simp only [en, List.append_nil, hr] at h6
    exact Or.inl ⟨x, rfl, hx, (EA.cons h6).1, by rcases lfx_k hx with ⟨-, q⟩ | ⟨-, q⟩ | ⟨-, q⟩ <;> omega⟩
  · exact Or.inr (Or.inl ⟨c, rfl, hc, (EA.cons h6).1⟩)
  · simp only [en] at h6 h5
    simp only [List.length_cons, List.length_append, List.length_nil] at h5
    simp only [pa] at h3
    exact Or.inr (Or.inr ⟨c, rfl, hc, (EA.cons h6).1, (EA.cons h6).2, by omega, by omega⟩)
theorem spt_lp : ∀ F, okf false false 0 F → ∀ (P p : Int) (σ : xSig) (L : List (Int × Fo)), pa F ≤ 51 → 0 ≤ p → p + (en F).length < 11300 → EA σ 282 p (en F ++ [-1]) → SPs σ L → L.length + pa F ≤ 200 → ∃ (σ' : xSig) (B : List (Int × Fo)), x_E MX12_spot 0 0 34 [some (.ref 281), some (.int (ii P)), some (.int (ii p))] [] (St σ) 0 0 vv (St σ') ∧ SPs σ' (L ++ B) ∧ B.map Prod.snd = prt F ∧ FP lk9 σ σ' := by
  refine rowInd ?_ (fun v n hv hn ih => ?_)
  · intro P p σ L hp hp0 hpn hE hL hL2
    obtain ⟨e1, -⟩ := EA.cons hE
    simp only [en, List.length_nil] at hpn
    refine ⟨σ, [], ?_, by simpa using hL, rfl, FP.rf⟩
    refine e_aload_n 22 35 rfl rfl rfl rfl ?_
    refine g_getR 23 38 ckX12 flX12_7 rfl rfl (Nat.le_of_ble_eq_true rfl) rfl rfl ?_
    refine e_iload_n 24 39 rfl rfl rfl rfl ?_
    refine g_iaload 25 40 rfl rfl (Nat.le_of_ble_eq_true rfl) rfl (by omega) (by omega) (by omega) e1 ?_
    refine e_iconst 26 41 rfl rfl ?_
    refine e_icmp_eq 27 77 44 rfl rfl rfl (by unfold xr at *; omega) (by unfold xr at *; omega) (fun _ => ?_) (fun h9 => absurd h9 (fun q => q rfl))
    exact e_return 47 rfl rfl (Nat.le_of_ble_eq_true rfl) (Nat.le_of_ble_eq_true rfl)
  · intro P p σ L hp hp0 hpn hE hL hL2
    have hol := ok1_pa hv
    have hpn9 := pa_nn n
    rw [cat_pa hv] at hp hL2
    simp only [cat_en hv, List.length_append, List.append_assoc] at hpn hE ⊢
    obtain ⟨e3, e4⟩ := EA.app hE
    have hM : MV σ 282 11300 p v := ⟨isMA_all, hv, by omega, by omega, by omega, e3⟩
    have hy0 : ∃ y, σ 282 p = y ∧ 0 ≤ y ∧ y < 10 := by
      rcases mv_hd hM with ⟨x, -, -, h1, h2⟩ | ⟨c, -, -, h1⟩ | ⟨c, -, -, h1, -⟩
      · have := knd_bnd x
        exact ⟨_, h1, by omega, by omega⟩
      · exact ⟨_, h1, by omega, by omega⟩
      · exact ⟨_, h1, by omega, by omega⟩
    obtain ⟨y, e1, y0, y1⟩ := hy0
    have hs := hL.snoc hM
    have f0 : FP lk9 σ (xu (xu σ 306 L.length p) 281 41 (L.length + 1)) := snoc_f
    have q1 := sp_mEnd (hM.lk f0)
    have f1 : FP m11 (xu (xu σ 306 L.length p) 281 41 (L.length + 1)) (xu (xu (xu σ 306 L.length p) 281 41 (L.length + 1)) 311 0 (pa v)) := FP.rf.x11
    have f2 := f0.tr (f1.mono (K := lk9) rfl)
    obtain ⟨σ', B, k1, k2, k3, k4⟩ := ih P (p + (en v).length) _ (L ++ [(p, v)]) (by omega) (by omega) (by omega) (e4.of fun i _ _ => by rw [f2.cell 282 rfl]) (hs.fp f1) (by simp only [List.length_append, List.length_cons, List.length_nil]; omega)
    refine ⟨σ', (p, v) :: B, ?_, by simpa using k2, ?_, f2.tr k4⟩
    · skip
      refine e_aload_n 22 35 rfl rfl rfl rfl ?_
      refine g_getR 23 38 ckX12 flX12_7 rfl rfl (Nat.le_of_ble_eq_true rfl) rfl rfl ?_
      refine e_iload_n 24 39 rfl rfl rfl rfl ?_
      refine g_iaload 25 40 rfl rfl (Nat.le_of_ble_eq_true rfl) rfl (by omega) (by omega) (by omega) e1 ?_
      refine e_iconst 26 41 rfl rfl ?_
      refine e_icmp_eq 27 77 44 rfl rfl rfl (by unfold xr at *; omega) (by unfold xr at *; omega) (fun h9 => absurd h9 (by omega)) (fun _ => ?_)
      refine e_aload_n 28 45 rfl rfl rfl rfl ?_
      refine g_getR 29 48 ckX12 flX12_94 rfl rfl (Nat.le_of_ble_eq_true rfl) rfl rfl ?_
      refine e_aload_n 30 49 rfl rfl rfl rfl ?_
      refine g_getI 31 52 41 ckX12 flX12_152 rfl rfl (Nat.le_of_ble_eq_true rfl) rfl rfl rfl hL.1 ?_
      refine e_iload_n 32 53 rfl rfl rfl rfl ?_
      refine g_iastore 33 54 rfl rfl (Nat.le_of_ble_eq_true rfl) rfl (by omega) (by omega) (by omega) ?_
      refine e_aload_n 34 55 rfl rfl rfl rfl ?_
      refine e_dup 35 56 rfl rfl rfl ?_
      refine g_getI 36 59 41 ckX12 flX12_152 rfl rfl (Nat.le_of_ble_eq_true rfl) rfl rfl rfl ((congrFun (xu_other σ (L.length : Int) p (by decide : (281 : Nat) ≠ 306)) 41).trans hL.1) ?_
      refine e_iconst 37 60 rfl rfl ?_
      refine e_iadd 38 61 rfl rfl ?_
      refine g_putI 39 64 41 ckX12 flX12_152 rfl rfl (Nat.le_of_ble_eq_true rfl) rfl rfl rfl ?_
      refine e_aload_n 40 65 rfl rfl rfl rfl ?_
      refine e_aload_n 41 66 rfl rfl rfl rfl ?_
      refine g_getR 42 69 ckX12 flX12_7 rfl rfl (Nat.le_of_ble_eq_true rfl) rfl rfl ?_
      refine e_iload_n 43 70 rfl rfl rfl rfl ?_
      refine g_callV 44 73 (q1) okX12_end cvX12_131 ⟨(Nat.le_of_ble_eq_true rfl), (Nat.le_of_ble_eq_true rfl)⟩ rfl rfl (Nat.le_of_ble_eq_true rfl) rfl rfl rfl rfl rfl (Nat.le_of_ble_eq_true rfl) (Nat.le_of_ble_eq_true rfl) (Nat.le_of_ble_eq_true rfl) ?_
      refine e_istore_n 45 74 (ls' := [some _, some _, some _]) rfl rfl rfl (Nat.le_of_ble_eq_true rfl) rfl ?_
      refine e_goto 46 34 rfl rfl ?_
      exact k1
    · rw [List.map_cons, k3]
      rcases hv with ⟨x, rfl, hx⟩ | ⟨c, rfl, hc⟩ | ⟨c, rfl, hc⟩ <;> rfl
theorem sp_mSpot {σ : xSig} {p : Int} {v : Fo} {L : List (Int × Fo)} (hM : MV σ 282 11300 p v) (hL : SPs σ L) (hl : L.length + pa v ≤ 200) : ∃ (σ' : xSig) (B : List (Int × Fo)), x_Sp MX12_spot 0 0 [.ref 281, .int (ii p)] (St σ) vv (St σ') ∧ SPs σ' (L ++ B) ∧ B.map Prod.snd = vl1 v ∧ FP lk9 σ σ' := by
  have hs := hL.snoc hM
  have hol := ok1_pa hM.2.1
  have hb := hM.2.2.2
  have f0 : FP lk9 σ (xu (xu σ 306 L.length p) 281 41 (L.length + 1)) := snoc_f
  have e0 : xu (xu σ 306 L.length p) 281 41 (L.length + 1) 282 = σ 282 := f0.cell 282 rfl
  have hm2 := congrFun (xu_other σ (L.length : Int) p (by decide : (281 : Nat) ≠ 306)) 41
  rcases mv_hd hM with ⟨x, rfl, -, h1, h2⟩ | ⟨c, rfl, -, h1⟩ | ⟨c, rfl, hc, h1, h2, h3, h4⟩
  · have := knd_bnd x
    refine ⟨_, [(p, .mulR (.num 0) x)], ?_, hs, rfl, f0⟩
    have e1 : xu (xu σ 306 L.length p) 281 41 (L.length + 1) 282 p = knd x := by rw [e0]; exact h1
    refine e_entry okX12_spot (Nat.le_of_ble_eq_true rfl) (ls := [some _, some _, none]) rfl ?_
    refine e_aload_n 0 1 rfl rfl rfl rfl ?_
    refine g_getR 1 4 ckX12 flX12_94 rfl rfl (Nat.le_of_ble_eq_true rfl) rfl rfl ?_
    refine e_aload_n 2 5 rfl rfl rfl rfl ?_
    refine g_getI 3 8 41 ckX12 flX12_152 rfl rfl (Nat.le_of_ble_eq_true rfl) rfl rfl rfl hL.1 ?_
    refine e_iload_n 4 9 rfl rfl rfl rfl ?_
    refine g_iastore 5 10 rfl rfl (Nat.le_of_ble_eq_true rfl) rfl (by omega) (by omega) (by omega) ?_
    refine e_aload_n 6 11 rfl rfl rfl rfl ?_
    refine e_dup 7 12 rfl rfl rfl ?_
    refine g_getI 8 15 41 ckX12 flX12_152 rfl rfl (Nat.le_of_ble_eq_true rfl) rfl rfl rfl (hm2.trans hL.1) ?_
    refine e_iconst 9 16 rfl rfl ?_
    refine e_iadd 10 17 rfl rfl ?_
    refine g_putI 11 20 41 ckX12 flX12_152 rfl rfl (Nat.le_of_ble_eq_true rfl) rfl rfl rfl ?_
    refine e_aload_n 12 21 rfl rfl rfl rfl ?_
    refine g_getR 13 24 ckX12 flX12_7 rfl rfl (Nat.le_of_ble_eq_true rfl) rfl rfl ?_
    refine e_iload_n 14 25 rfl rfl rfl rfl ?_
    refine g_iaload 15 26 rfl rfl (Nat.le_of_ble_eq_true rfl) rfl (by omega) (by omega) (by omega) e1 ?_
    refine e_iconst 16 27 rfl rfl ?_
    refine e_icmp_ne 17 77 30 rfl rfl rfl (by unfold xr at *; omega) (by unfold xr at *; omega) (fun _ => ?_) (fun h9 => absurd h9 (by omega))
    exact e_return 47 rfl rfl (Nat.le_of_ble_eq_true rfl) (Nat.le_of_ble_eq_true rfl)
  · refine ⟨_, [(p, .add c (.num 0))], ?_, hs, rfl, f0⟩
    have e1 : xu (xu σ 306 L.length p) 281 41 (L.length + 1) 282 p = 4 := by rw [e0]; exact h1
    refine e_entry okX12_spot (Nat.le_of_ble_eq_true rfl) (ls := [some _, some _, none]) rfl ?_
    refine e_aload_n 0 1 rfl rfl rfl rfl ?_
    refine g_getR 1 4 ckX12 flX12_94 rfl rfl (Nat.le_of_ble_eq_true rfl) rfl rfl ?_
    refine e_aload_n 2 5 rfl rfl rfl rfl ?_
    refine g_getI 3 8 41 ckX12 flX12_152 rfl rfl (Nat.le_of_ble_eq_true rfl) rfl rfl rfl hL.1 ?_
    refine e_iload_n 4 9 rfl rfl rfl rfl ?_
    refine g_iastore 5 10 rfl rfl (Nat.le_of_ble_eq_true rfl) rfl (by omega) (by omega) (by omega) ?_
    refine e_aload_n 6 11 rfl rfl rfl rfl ?_
    refine e_dup 7 12 rfl rfl rfl ?_
    refine g_getI 8 15 41 ckX12 flX12_152 rfl rfl (Nat.le_of_ble_eq_true rfl) rfl rfl rfl (hm2.trans hL.1) ?_
    refine e_iconst 9 16 rfl rfl ?_
    refine e_iadd 10 17 rfl rfl ?_
    refine g_putI 11 20 41 ckX12 flX12_152 rfl rfl (Nat.le_of_ble_eq_true rfl) rfl rfl rfl ?_
    refine e_aload_n 12 21 rfl rfl rfl rfl ?_
    refine g_getR 13 24 ckX12 flX12_7 rfl rfl (Nat.le_of_ble_eq_true rfl) rfl rfl ?_
    refine e_iload_n 14 25 rfl rfl rfl rfl ?_
    refine g_iaload 15 26 rfl rfl (Nat.le_of_ble_eq_true rfl) rfl (by omega) (by omega) (by omega) e1 ?_
    refine e_iconst 16 27 rfl rfl ?_
    refine e_icmp_ne 17 77 30 rfl rfl rfl (by unfold xr at *; omega) (by unfold xr at *; omega) (fun _ => ?_) (fun h9 => absurd h9 (by omega))
    exact e_return 47 rfl rfl (Nat.le_of_ble_eq_true rfl) (Nat.le_of_ble_eq_true rfl)
  · have e1 : xu (xu σ 306 L.length p) 281 41 (L.length + 1) 282 p = 3 := by rw [e0]; exact h1
    have e9 : pa (.sub c (.num 0)) = 1 + pa c := by simp [pa]
    rw [e9] at hl
    obtain ⟨σ', B, k1, k2, k3, k4⟩ := spt_lp c hc p (p + 1) _ _ h3 (by omega) (by omega) (h2.of fun i _ _ => by rw [e0]) hs (by simp only [List.length_append, List.length_cons, List.length_nil]; omega)
    refine ⟨σ', (p, .sub c (.num 0)) :: B, ?_, by simpa using k2, by rw [List.map_cons, k3]; rfl, f0.tr k4⟩
    refine e_entry okX12_spot (Nat.le_of_ble_eq_true rfl) (ls := [some _, some _, none]) rfl ?_
    refine e_aload_n 0 1 rfl rfl rfl rfl ?_
    refine g_getR 1 4 ckX12 flX12_94 rfl rfl (Nat.le_of_ble_eq_true rfl) rfl rfl ?_
    refine e_aload_n 2 5 rfl rfl rfl rfl ?_
    refine g_getI 3 8 41 ckX12 flX12_152 rfl rfl (Nat.le_of_ble_eq_true rfl) rfl rfl rfl hL.1 ?_
    refine e_iload_n 4 9 rfl rfl rfl rfl ?_
    refine g_iastore 5 10 rfl rfl (Nat.le_of_ble_eq_true rfl) rfl (by omega) (by omega) (by omega) ?_
    refine e_aload_n 6 11 rfl rfl rfl rfl ?_
    refine e_dup 7 12 rfl rfl rfl ?_
    refine g_getI 8 15 41 ckX12 flX12_152 rfl rfl (Nat.le_of_ble_eq_true rfl) rfl rfl rfl (hm2.trans hL.1) ?_
    refine e_iconst 9 16 rfl rfl ?_
    refine e_iadd 10 17 rfl rfl ?_
    refine g_putI 11 20 41 ckX12 flX12_152 rfl rfl (Nat.le_of_ble_eq_true rfl) rfl rfl rfl ?_
    refine e_aload_n 12 21 rfl rfl rfl rfl ?_
    refine g_getR 13 24 ckX12 flX12_7 rfl rfl (Nat.le_of_ble_eq_true rfl) rfl rfl ?_
    refine e_iload_n 14 25 rfl rfl rfl rfl ?_
    refine g_iaload 15 26 rfl rfl (Nat.le_of_ble_eq_true rfl) rfl (by omega) (by omega) (by omega) e1 ?_
    refine e_iconst 16 27 rfl rfl ?_
    refine e_icmp_ne 17 77 30 rfl rfl rfl (by unfold xr at *; omega) (by unfold xr at *; omega) (fun h9 => absurd h9 (fun q => q rfl)) (fun _ => ?_)
    refine e_iload_n 18 31 rfl rfl rfl rfl ?_
    refine e_iconst 19 32 rfl rfl ?_
    refine e_iadd 20 33 rfl rfl ?_
    refine e_istore_n 21 34 (ls' := [some _, some _, some _]) rfl rfl rfl (Nat.le_of_ble_eq_true rfl) rfl ?_
    exact k1
theorem sp_mSpotOf {σ : xSig} {p f : Int} {v : Fo} {L : List (Int × Fo)} (hM : MV σ 282 11300 p v) (hf : 0 ≤ f ∧ f < 8) (hL : SPs σ L) (hl : L.length + pa v ≤ 200) : ∃ (σ' : xSig) (B : List (Int × Fo)), x_Sp MX12_spotOf 0 0 [.ref 281, .int (ii p), .int (ii f)] (St σ) vv (St σ') ∧ SPs σ' (L ++ B) ∧ B.map Prod.snd = vlo f v ∧ FP lk9 σ σ' := by
  have hb := hM.2.2.2
  have hol := ok1_pa hM.2.1
  have notO : ∀ y, σ 282 p = y → y ≠ 4 → 0 ≤ y ∧ y < 10 → x_Sp MX12_spotOf 0 0 [.ref 281, .int (ii p), .int (ii f)] (St σ) vv (St σ) := by
    intro y h1 h4 hy
    refine e_entry okX12_spotOf (Nat.le_of_ble_eq_true rfl) (ls := [some _, some _, some _, none]) rfl ?_
    refine e_aload_n 0 1 rfl rfl rfl rfl ?_
    refine g_getR 1 4 ckX12 flX12_7 rfl rfl (Nat.le_of_ble_eq_true rfl) rfl rfl ?_
    refine e_iload_n 2 5 rfl rfl rfl rfl ?_
    refine g_iaload 3 6 rfl rfl (Nat.le_of_ble_eq_true rfl) rfl (by omega) (by omega) (by omega) h1 ?_
    refine e_iconst 4 7 rfl rfl ?_
    refine e_icmp_ne 5 23 10 rfl rfl rfl (by unfold xr at *; omega) (by unfold xr at *; omega) (fun _ => ?_) (fun h9 => absurd h9 h4)
    refine e_iconst 13 24 rfl rfl ?_
    refine e_istore_n 14 25 (ls' := [some _, some _, some _, some _]) rfl rfl rfl (Nat.le_of_ble_eq_true rfl) rfl ?_
    refine e_iload_n 15 26 rfl rfl rfl rfl ?_
    refine e_iconst 16 27 rfl rfl ?_
    refine e_icmp_eq 17 35 30 rfl rfl rfl (by unfold xr at *; omega) (by unfold xr at *; omega) (fun _ => ?_) (fun h9 => absurd h9 (fun q => q rfl))
    exact e_return 21 rfl rfl (Nat.le_of_ble_eq_true rfl) (Nat.le_of_ble_eq_true rfl)
  rcases mv_hd hM with ⟨x, rfl, -, h1, h2⟩ | ⟨c, rfl, hc, h1⟩ | ⟨c, rfl, hc, h1, h2, h3, h4⟩
  · have := knd_bnd x
    exact ⟨σ, [], notO _ h1 (by omega) (by omega), by simpa using hL, rfl, FP.rf⟩
  · obtain ⟨r, σ1, c1, f1, hr⟩ := sp_mFieldOf hM hf
    have f1' : FP lk9 σ σ1 := f1.mono rfl
    rcases hr with ⟨g1, rfl⟩ | ⟨g0, g1⟩
    · refine ⟨σ1, [], ?_, by simpa using hL.fp f1, by simp only [vlo, g1]; rfl, f1'⟩
      refine e_entry okX12_spotOf (Nat.le_of_ble_eq_true rfl) (ls := [some _, some _, some _, none]) rfl ?_
      refine e_aload_n 0 1 rfl rfl rfl rfl ?_
      refine g_getR 1 4 ckX12 flX12_7 rfl rfl (Nat.le_of_ble_eq_true rfl) rfl rfl ?_
      refine e_iload_n 2 5 rfl rfl rfl rfl ?_
      refine g_iaload 3 6 rfl rfl (Nat.le_of_ble_eq_true rfl) rfl (by omega) (by omega) (by omega) h1 ?_
      refine e_iconst 4 7 rfl rfl ?_
      refine e_icmp_ne 5 23 10 rfl rfl rfl (by unfold xr at *; omega) (by unfold xr at *; omega) (fun h9 => absurd h9 (fun q => q rfl)) (fun _ => ?_)
      refine e_aload_n 6 11 rfl rfl rfl rfl ?_
      refine e_aload_n 7 12 rfl rfl rfl rfl ?_
      refine g_getR 8 15 ckX12 flX12_7 rfl rfl (Nat.le_of_ble_eq_true rfl) rfl rfl ?_
      refine e_iload_n 9 16 rfl rfl rfl rfl ?_
      refine e_iload_n 10 17 rfl rfl rfl rfl ?_
      refine g_callV 11 20 (c1) okX12_fieldOf cvX12_155 ⟨(Nat.le_of_ble_eq_true rfl), (Nat.le_of_ble_eq_true rfl)⟩ rfl rfl (Nat.le_of_ble_eq_true rfl) rfl rfl rfl rfl rfl (Nat.le_of_ble_eq_true rfl) (Nat.le_of_ble_eq_true rfl) (Nat.le_of_ble_eq_true rfl) ?_
      refine e_goto 12 24 rfl rfl ?_
      refine e_istore_n 14 25 (ls' := [some _, some _, some _, some _]) rfl rfl rfl (Nat.le_of_ble_eq_true rfl) rfl ?_
      refine e_iload_n 15 26 rfl rfl rfl rfl ?_
      refine e_iconst 16 27 rfl rfl ?_
      refine e_icmp_eq 17 35 30 rfl rfl rfl (by unfold xr at *; omega) (by unfold xr at *; omega) (fun _ => ?_) (fun h9 => absurd h9 (by omega))
      exact e_return 21 rfl rfl (Nat.le_of_ble_eq_true rfl) (Nat.le_of_ble_eq_true rfl)
    · have g2 := g1.2.2.2
      have := get_pa c f _ _ hc
      have e9 : pa (.add c (.num 0)) = 1 + pa c := by simp [pa]
      rw [e9] at hl
      obtain ⟨σ2, B, k1, k2, k3, k4⟩ := sp_mSpot g1 (hL.fp f1) (by omega)
      refine ⟨σ2, B, ?_, k2, k3, f1'.tr k4⟩
      refine e_entry okX12_spotOf (Nat.le_of_ble_eq_true rfl) (ls := [some _, some _, some _, none]) rfl ?_
      refine e_aload_n 0 1 rfl rfl rfl rfl ?_
      refine g_getR 1 4 ckX12 flX12_7 rfl rfl (Nat.le_of_ble_eq_true rfl) rfl rfl ?_
      refine e_iload_n 2 5 rfl rfl rfl rfl ?_
      refine g_iaload 3 6 rfl rfl (Nat.le_of_ble_eq_true rfl) rfl (by omega) (by omega) (by omega) h1 ?_
      refine e_iconst 4 7 rfl rfl ?_
      refine e_icmp_ne 5 23 10 rfl rfl rfl (by unfold xr at *; omega) (by unfold xr at *; omega) (fun h9 => absurd h9 (fun q => q rfl)) (fun _ => ?_)
      refine e_aload_n 6 11 rfl rfl rfl rfl ?_
      refine e_aload_n 7 12 rfl rfl rfl rfl ?_
      refine g_getR 8 15 ckX12 flX12_7 rfl rfl (Nat.le_of_ble_eq_true rfl) rfl rfl ?_
      refine e_iload_n 9 16 rfl rfl rfl rfl ?_
      refine e_iload_n 10 17 rfl rfl rfl rfl ?_
      refine g_callV 11 20 (c1) okX12_fieldOf cvX12_155 ⟨(Nat.le_of_ble_eq_true rfl), (Nat.le_of_ble_eq_true rfl)⟩ rfl rfl (Nat.le_of_ble_eq_true rfl) rfl rfl rfl rfl rfl (Nat.le_of_ble_eq_true rfl) (Nat.le_of_ble_eq_true rfl) (Nat.le_of_ble_eq_true rfl) ?_
      refine e_goto 12 24 rfl rfl ?_
      refine e_istore_n 14 25 (ls' := [some _, some _, some _, some _]) rfl rfl rfl (Nat.le_of_ble_eq_true rfl) rfl ?_
      refine e_iload_n 15 26 rfl rfl rfl rfl ?_
      refine e_iconst 16 27 rfl rfl ?_
      refine e_icmp_eq 17 35 30 rfl rfl rfl (by unfold xr at *; omega) (by unfold xr at *; omega) (fun h9 => absurd h9 (by omega)) (fun _ => ?_)
      refine e_aload_n 18 31 rfl rfl rfl rfl ?_
      refine e_iload_n 19 32 rfl rfl rfl rfl ?_
      refine g_callV 20 35 (k1) okX12_spot cvX12_159 ⟨(Nat.le_of_ble_eq_true rfl), (Nat.le_of_ble_eq_true rfl)⟩ rfl rfl (Nat.le_of_ble_eq_true rfl) rfl rfl rfl rfl rfl (Nat.le_of_ble_eq_true rfl) (Nat.le_of_ble_eq_true rfl) (Nat.le_of_ble_eq_true rfl) ?_
      exact e_return 21 rfl rfl (Nat.le_of_ble_eq_true rfl) (Nat.le_of_ble_eq_true rfl)
  · exact ⟨σ, [], notO 3 h1 (by omega) (by omega), by simpa using hL, rfl, FP.rf⟩
theorem vlo_pa {v : Fo} (h : ok1 v) (f : Int) : ((vlo f v).length : Int) ≤ pa v := by
  rcases h with ⟨x, rfl, hx⟩ | ⟨c, rfl, hc⟩ | ⟨c, rfl, hc⟩
  · simp [vlo, pa]
  · have := get_pa c f _ _ hc
    have := vl1_pa (v := get f c)
    simp only [vlo, pa]
    omega
  · have := pa_nn c
    simp only [vlo, pa, List.length_nil]
    omega
theorem vlr_cat {v : Fo} (h : ok1 v) (f : Int) (n : Fo) : vlr f (cat v n) = vlo f v ++ vlr f n := by
  rcases h with ⟨x, rfl, hx⟩ | ⟨c, rfl, hc⟩ | ⟨c, rfl, hc⟩ <;> rfl
theorem lks_lp {X5 X6 : Int} (hf : 0 ≤ X6 ∧ X6 < 8) : ∀ F, okf false false 0 F → ∀ (dn pt rt p9 p : Int) (σ : xSig) (L : List (Int × Fo)), pa F ≤ 51 → 0 ≤ p → p + (en F).length < 11300 → EA σ 282 p (en F ++ [-1]) → SPs σ L → L.length + pa F ≤ 200 → ∃ (σ' : xSig) (B : List (Int × Fo)), x_E MX12_looks 0 0 70 [some (.ref 281), some (.int (ii dn)), some (.int (ii pt)), some (.int (ii rt)), some (.int (ii p9)), some (.int (ii X6)), some (.int (ii p))] [] (St σ) 0 0 vv (St σ') ∧ SPs σ' (L ++ B) ∧ B.map Prod.snd = vlr X6 F ∧ FP lk9 σ σ' := by
  refine rowInd ?_ (fun v n hv hn ih => ?_)
  · intro dn pt rt p9 p σ L hp hp0 hpn hE hL hL2
    obtain ⟨e1, -⟩ := EA.cons hE
    simp only [en, List.length_nil] at hpn
    refine ⟨σ, [], ?_, by simpa using hL, rfl, FP.rf⟩
    refine e_aload_n 42 71 rfl rfl rfl rfl ?_
    refine g_getR 43 74 ckX12 flX12_7 rfl rfl (Nat.le_of_ble_eq_true rfl) rfl rfl ?_
    refine e_iload 44 76 rfl rfl rfl ?_
    refine g_iaload 45 77 rfl rfl (Nat.le_of_ble_eq_true rfl) rfl (by omega) (by omega) (by omega) e1 ?_
    refine e_iconst 46 78 rfl rfl ?_
    refine e_icmp_eq 47 104 81 rfl rfl rfl (by unfold xr at *; omega) (by unfold xr at *; omega) (fun _ => ?_) (fun h9 => absurd h9 (fun q => q rfl))
    refine e_goto 59 121 rfl rfl ?_
    exact e_return 67 rfl rfl (Nat.le_of_ble_eq_true rfl) (Nat.le_of_ble_eq_true rfl)
  · intro dn pt rt p9 p σ L hp hp0 hpn hE hL hL2
    have hol := ok1_pa hv
    have hpn9 := pa_nn n
    rw [cat_pa hv] at hp hL2
    simp only [cat_en hv, List.length_append, List.append_assoc] at hpn hE ⊢
    obtain ⟨e3, e4⟩ := EA.app hE
    have hM : MV σ 282 11300 p v := ⟨isMA_all, hv, by omega, by omega, by omega, e3⟩
    have hy0 : ∃ y, σ 282 p = y ∧ 0 ≤ y ∧ y < 10 := by
      rcases mv_hd hM with ⟨x, -, -, h1, h2⟩ | ⟨c, -, -, h1⟩ | ⟨c, -, -, h1, -⟩
      · have := knd_bnd x
        exact ⟨_, h1, by omega, by omega⟩
      · exact ⟨_, h1, by omega, by omega⟩
      · exact ⟨_, h1, by omega, by omega⟩
    obtain ⟨y, e1, y0, y1⟩ := hy0
    obtain ⟨σ1, B1, c1, c2, c3, c4⟩ := sp_mSpotOf hM hf hL (by omega)
    have q1 := sp_mEnd (hM.lk c4)
    have f1 : FP m11 σ1 (xu σ1 311 0 (pa v)) := FP.rf.x11
    have f2 := c4.tr (f1.mono (K := lk9) rfl)
    have hl9 := vlo_pa hv X6
    have hl8 : B1.length = (vlo X6 v).length := by rw [← c3, List.length_map]
    obtain ⟨σ', B, k1, k2, k3, k4⟩ := ih dn pt rt p9 (p + (en v).length) _ (L ++ B1) (by omega) (by omega) (by omega) (e4.of fun i _ _ => by rw [f2.cell 282 rfl]) (c2.fp f1) (by rw [List.length_append]; omega)
    refine ⟨σ', B1 ++ B, ?_, by simpa using k2, ?_, f2.tr k4⟩
    · skip
      refine e_aload_n 42 71 rfl rfl rfl rfl ?_
      refine g_getR 43 74 ckX12 flX12_7 rfl rfl (Nat.le_of_ble_eq_true rfl) rfl rfl ?_
      refine e_iload 44 76 rfl rfl rfl ?_
      refine g_iaload 45 77 rfl rfl (Nat.le_of_ble_eq_true rfl) rfl (by omega) (by omega) (by omega) e1 ?_
      refine e_iconst 46 78 rfl rfl ?_
      refine e_icmp_eq 47 104 81 rfl rfl rfl (by unfold xr at *; omega) (by unfold xr at *; omega) (fun h9 => absurd h9 (by omega)) (fun _ => ?_)
      refine e_aload_n 48 82 rfl rfl rfl rfl ?_
      refine e_iload 49 84 rfl rfl rfl ?_
      refine e_iload 50 86 rfl rfl rfl ?_
      refine g_callV 51 89 (c1) okX12_spotOf cvX12_163 ⟨(Nat.le_of_ble_eq_true rfl), (Nat.le_of_ble_eq_true rfl)⟩ rfl rfl (Nat.le_of_ble_eq_true rfl) rfl rfl rfl rfl rfl (Nat.le_of_ble_eq_true rfl) (Nat.le_of_ble_eq_true rfl) (Nat.le_of_ble_eq_true rfl) ?_
      refine e_aload_n 52 90 rfl rfl rfl rfl ?_
      refine e_aload_n 53 91 rfl rfl rfl rfl ?_
      refine g_getR 54 94 ckX12 flX12_7 rfl rfl (Nat.le_of_ble_eq_true rfl) rfl rfl ?_
      refine e_iload 55 96 rfl rfl rfl ?_
      refine g_callV 56 99 (q1) okX12_end cvX12_131 ⟨(Nat.le_of_ble_eq_true rfl), (Nat.le_of_ble_eq_true rfl)⟩ rfl rfl (Nat.le_of_ble_eq_true rfl) rfl rfl rfl rfl rfl (Nat.le_of_ble_eq_true rfl) (Nat.le_of_ble_eq_true rfl) (Nat.le_of_ble_eq_true rfl) ?_
      refine e_istore 57 101 (ls' := [some _, some _, some _, some _, some _, some _, some _]) rfl rfl (Nat.le_of_ble_eq_true rfl) rfl ?_
      refine e_goto 58 70 rfl rfl ?_
      exact k1
    · rw [List.map_append, k3, c3, vlr_cat hv]
/-- the spots of a document at a path -/
theorem sp_mLooks {σ : xSig} {d : Nat} {F : Fo} {path : Int} (hM : MV σ 282 11300 (100 * d + 1) (.add F (.num 0))) (hp : 0 ≤ path ∧ path < 72) : ∃ (σ' : xSig) (L : List (Int × Fo)), x_Sp MX12_looks 0 0 [.ref 281, .int (ii d), .int (ii path)] (St σ) vv (St σ') ∧ SPs σ' L ∧ L.map Prod.snd = als F path ∧ FP lk9 σ σ' := by
  have hF : okf true false 0 F := by
    rcases hM.2.1 with ⟨x, hx, -⟩ | ⟨c, hx, h3⟩ | ⟨c, hx, h3⟩
    · cases hx
    · cases hx; exact h3
    · cases hx
  have h24 : 1 + pa F ≤ 52 := by have := hM.2.2.1; simp only [pa] at this; omega
  have hb := hM.2.2.2
  have hol := ok1_pa hM.2.1
  have f0 : FP lk9 σ (xu σ 281 41 0) := FP.rf.put rfl
  have hM0 := hM.lk f0
  have hL0 : SPs (xu σ 281 41 0) [] := ⟨xu_same _ _ _ _, EA.nil, fun q hq => by simp at hq⟩
  rw [als_vls hF]
  unfold vls
  by_cases h8 : path < 8
  · rw [if_pos h8]
    obtain ⟨σ', B, k1, k2, k3, k4⟩ := sp_mSpotOf hM0 ⟨hp.1, h8⟩ hL0 (by simp only [List.length_nil, pa]; omega)
    refine ⟨σ', B, ?_, k2, k3, f0.tr k4⟩
    refine e_entry okX12_looks (Nat.le_of_ble_eq_true rfl) (ls := [some _, some _, some _, none, none, none, none]) rfl ?_
    refine e_aload_n 0 1 rfl rfl rfl rfl ?_
    refine e_iconst 1 2 rfl rfl ?_
    refine g_putI 2 5 41 ckX12 flX12_152 rfl rfl (Nat.le_of_ble_eq_true rfl) rfl rfl rfl ?_
    refine e_iload_n 3 6 rfl rfl rfl rfl ?_
    refine g_callS 4 9 (sp_mBlock (x := d)) okX12_block csX12_142 ⟨(Nat.le_of_ble_eq_true rfl), (Nat.le_of_ble_eq_true rfl)⟩ rfl rfl rfl rfl (Nat.le_of_ble_eq_true rfl) (Nat.le_of_ble_eq_true rfl) (Nat.le_of_ble_eq_true rfl) ?_
    refine e_istore_n 5 10 (ls' := [some _, some _, some _, some _, none, none, none]) rfl rfl rfl (Nat.le_of_ble_eq_true rfl) rfl ?_
    refine e_iload_n 6 11 rfl rfl rfl rfl ?_
    refine e_bipush 7 13 rfl rfl rfl ?_
    refine e_icmp_ge 8 23 16 rfl rfl rfl (by unfold xr at *; omega) (by unfold xr at *; omega) (fun h9 => absurd h9 (by omega)) (fun _ => ?_)
    refine e_aload_n 9 17 rfl rfl rfl rfl ?_
    refine e_iload_n 10 18 rfl rfl rfl rfl ?_
    refine e_iload_n 11 19 rfl rfl rfl rfl ?_
    refine g_callV 12 22 (k1) okX12_spotOf cvX12_163 ⟨(Nat.le_of_ble_eq_true rfl), (Nat.le_of_ble_eq_true rfl)⟩ rfl rfl (Nat.le_of_ble_eq_true rfl) rfl rfl rfl rfl rfl (Nat.le_of_ble_eq_true rfl) (Nat.le_of_ble_eq_true rfl) (Nat.le_of_ble_eq_true rfl) ?_
    exact e_return 13 rfl rfl (Nat.le_of_ble_eq_true rfl) (Nat.le_of_ble_eq_true rfl)
  · rw [if_neg h8]
    have hdv : ii (path - 8) / ii 8 = ii (path / 8 - 1) := by
      rw [ii_div (by omega) (by omega)]
      congr 1
      omega
    have hrm : ii path - ii path / ii 8 * ii 8 = ii (path % 8) := ii_rem (by omega) (by omega)
    obtain ⟨r, σ1, c1, f1, hr⟩ := sp_mFieldOf hM0 (f := path / 8 - 1) (by omega)
    have f1' : FP lk9 σ σ1 := f0.tr (f1.mono rfl)
    have hL1 := hL0.fp f1
    have st : ∀ {Y : xS}, x_E MX12_looks 0 0 47 [some (.ref 281), some (.int (ii d)), some (.int (ii path)), some (.int (ii (100 * d + 1))), some (.int (ii r)), some (.int (ii (path % 8))), none] [] (St σ1) 0 0 vv Y → x_Sp MX12_looks 0 0 [.ref 281, .int (ii d), .int (ii path)] (St σ) vv Y := by
      intro Y k
      refine e_entry okX12_looks (Nat.le_of_ble_eq_true rfl) (ls := [some _, some _, some _, none, none, none, none]) rfl ?_
      refine e_aload_n 0 1 rfl rfl rfl rfl ?_
      refine e_iconst 1 2 rfl rfl ?_
      refine g_putI 2 5 41 ckX12 flX12_152 rfl rfl (Nat.le_of_ble_eq_true rfl) rfl rfl rfl ?_
      refine e_iload_n 3 6 rfl rfl rfl rfl ?_
      refine g_callS 4 9 (sp_mBlock (x := d)) okX12_block csX12_142 ⟨(Nat.le_of_ble_eq_true rfl), (Nat.le_of_ble_eq_true rfl)⟩ rfl rfl rfl rfl (Nat.le_of_ble_eq_true rfl) (Nat.le_of_ble_eq_true rfl) (Nat.le_of_ble_eq_true rfl) ?_
      refine e_istore_n 5 10 (ls' := [some _, some _, some _, some _, none, none, none]) rfl rfl rfl (Nat.le_of_ble_eq_true rfl) rfl ?_
      refine e_iload_n 6 11 rfl rfl rfl rfl ?_
      refine e_bipush 7 13 rfl rfl rfl ?_
      refine e_icmp_ge 8 23 16 rfl rfl rfl (by unfold xr at *; omega) (by unfold xr at *; omega) (fun _ => ?_) (fun h9 => absurd h9 (by omega))
      refine e_aload_n 14 24 rfl rfl rfl rfl ?_
      refine e_aload_n 15 25 rfl rfl rfl rfl ?_
      refine g_getR 16 28 ckX12 flX12_7 rfl rfl (Nat.le_of_ble_eq_true rfl) rfl rfl ?_
      refine e_iload_n 17 29 rfl rfl rfl rfl ?_
      refine e_iload_n 18 30 rfl rfl rfl rfl ?_
      refine e_bipush 19 32 rfl rfl rfl ?_
      refine e_isub 20 33 rfl rfl ?_
      refine e_bipush 21 35 rfl rfl rfl ?_
      refine e_idiv 22 36 rfl rfl (by decide) hdv ?_
      refine g_callV 23 39 (c1) okX12_fieldOf cvX12_155 ⟨(Nat.le_of_ble_eq_true rfl), (Nat.le_of_ble_eq_true rfl)⟩ rfl rfl (Nat.le_of_ble_eq_true rfl) rfl rfl rfl rfl rfl (Nat.le_of_ble_eq_true rfl) (Nat.le_of_ble_eq_true rfl) (Nat.le_of_ble_eq_true rfl) ?_
      refine e_istore 24 41 (ls' := [some _, some _, some _, some _, some _, none, none]) rfl rfl (Nat.le_of_ble_eq_true rfl) rfl ?_
      refine e_iload_n 25 42 rfl rfl rfl rfl ?_
      refine e_bipush 26 44 rfl rfl rfl ?_
      refine e_irem 27 45 rfl rfl (by decide) hrm ?_
      refine e_istore 28 47 (ls' := [some _, some _, some _, some _, some _, some _, none]) rfl rfl (Nat.le_of_ble_eq_true rfl) rfl ?_
      exact k
    rcases hr with ⟨g1, rfl⟩ | ⟨g0, g1⟩
    · refine ⟨σ1, [], st ?_, hL1, by rw [g1]; rfl, f1'⟩
      refine e_iload 29 49 rfl rfl rfl ?_
      refine e_iconst 30 50 rfl rfl ?_
      refine e_icmp_eq 31 107 53 rfl rfl rfl (by unfold xr at *; omega) (by unfold xr at *; omega) (fun _ => ?_) (fun h9 => absurd h9 (by omega))
      refine e_iload 60 109 rfl rfl rfl ?_
      refine e_iconst 61 110 rfl rfl ?_
      refine e_icmp_eq 62 121 113 rfl rfl rfl (by unfold xr at *; omega) (by unfold xr at *; omega) (fun _ => ?_) (fun h9 => absurd h9 (by omega))
      exact e_return 67 rfl rfl (Nat.le_of_ble_eq_true rfl) (Nat.le_of_ble_eq_true rfl)
    · have g2 := g1.2.2.2
      have hol2 := ok1_pa g1.2.1
      have hpg := get_pa F (path / 8 - 1) _ _ hF
      have other : ∀ y, σ1 282 r = y → y ≠ 3 → 0 ≤ y ∧ y < 10 → (∀ c, get (path / 8 - 1) F ≠ .sub c (.num 0)) → ∃ (σ' : xSig) (L : List (Int × Fo)), x_Sp MX12_looks 0 0 [.ref 281, .int (ii d), .int (ii path)] (St σ) vv (St σ') ∧ SPs σ' L ∧ L.map Prod.snd = vlo (path % 8) (get (path / 8 - 1) F) ∧ FP lk9 σ σ' := by
        intro y e1 e3 hy hns
        obtain ⟨σ', B, k1, k2, k3, k4⟩ := sp_mSpotOf g1 (f := path % 8) (by omega) hL1 (by simp only [List.length_nil]; omega)
        refine ⟨σ', B, st ?_, k2, k3, f1'.tr k4⟩
        refine e_iload 29 49 rfl rfl rfl ?_
        refine e_iconst 30 50 rfl rfl ?_
        refine e_icmp_eq 31 107 53 rfl rfl rfl (by unfold xr at *; omega) (by unfold xr at *; omega) (fun h9 => absurd h9 (by omega)) (fun _ => ?_)
        refine e_aload_n 32 54 rfl rfl rfl rfl ?_
        refine g_getR 33 57 ckX12 flX12_7 rfl rfl (Nat.le_of_ble_eq_true rfl) rfl rfl ?_
        refine e_iload 34 59 rfl rfl rfl ?_
        refine g_iaload 35 60 rfl rfl (Nat.le_of_ble_eq_true rfl) rfl (by omega) (by omega) (by omega) e1 ?_
        refine e_iconst 36 61 rfl rfl ?_
        refine e_icmp_ne 37 107 64 rfl rfl rfl (by unfold xr at *; omega) (by unfold xr at *; omega) (fun _ => ?_) (fun h9 => absurd h9 e3)
        refine e_iload 60 109 rfl rfl rfl ?_
        refine e_iconst 61 110 rfl rfl ?_
        refine e_icmp_eq 62 121 113 rfl rfl rfl (by unfold xr at *; omega) (by unfold xr at *; omega) (fun h9 => absurd h9 (by omega)) (fun _ => ?_)
        refine e_aload_n 63 114 rfl rfl rfl rfl ?_
        refine e_iload 64 116 rfl rfl rfl ?_
        refine e_iload 65 118 rfl rfl rfl ?_
        refine g_callV 66 121 (k1) okX12_spotOf cvX12_163 ⟨(Nat.le_of_ble_eq_true rfl), (Nat.le_of_ble_eq_true rfl)⟩ rfl rfl (Nat.le_of_ble_eq_true rfl) rfl rfl rfl rfl rfl (Nat.le_of_ble_eq_true rfl) (Nat.le_of_ble_eq_true rfl) (Nat.le_of_ble_eq_true rfl) ?_
        exact e_return 67 rfl rfl (Nat.le_of_ble_eq_true rfl) (Nat.le_of_ble_eq_true rfl)
      rcases mv_hd g1 with ⟨x, e, -, h1, h2⟩ | ⟨c, e, hc, h1⟩ | ⟨c, e, hc, h1, h2, h3, h4⟩
      · have := knd_bnd x
        have q := other _ h1 (by omega) (by omega) (fun c hc => by rw [e] at hc; cases hc)
        rw [e] at q ⊢
        exact q
      · have q := other 4 h1 (by omega) (by omega) (fun c hc => by rw [e] at hc; cases hc)
        rw [e] at q ⊢
        exact q
      · rw [e]
        have hpc : pa (.sub c (.num 0)) = 1 + pa c := by simp [pa]
        rw [e, hpc] at hpg
        obtain ⟨σ', B, k1, k2, k3, k4⟩ := lks_lp (X5 := 0) (X6 := path % 8) (by omega) c hc d path (100 * d + 1) r (r + 1) σ1 [] h3 (by omega) (by omega) h2 hL1 (by simp only [List.length_nil]; omega)
        refine ⟨σ', B, st ?_, k2, k3, f1'.tr k4⟩
        refine e_iload 29 49 rfl rfl rfl ?_
        refine e_iconst 30 50 rfl rfl ?_
        refine e_icmp_eq 31 107 53 rfl rfl rfl (by unfold xr at *; omega) (by unfold xr at *; omega) (fun h9 => absurd h9 (by omega)) (fun _ => ?_)
        refine e_aload_n 32 54 rfl rfl rfl rfl ?_
        refine g_getR 33 57 ckX12 flX12_7 rfl rfl (Nat.le_of_ble_eq_true rfl) rfl rfl ?_
        refine e_iload 34 59 rfl rfl rfl ?_
        refine g_iaload 35 60 rfl rfl (Nat.le_of_ble_eq_true rfl) rfl (by omega) (by omega) (by omega) h1 ?_
        refine e_iconst 36 61 rfl rfl ?_
        refine e_icmp_ne 37 107 64 rfl rfl rfl (by unfold xr at *; omega) (by unfold xr at *; omega) (fun h9 => absurd h9 (fun q => q rfl)) (fun _ => ?_)
        refine e_iload 38 66 rfl rfl rfl ?_
        refine e_iconst 39 67 rfl rfl ?_
        refine e_iadd 40 68 rfl rfl ?_
        refine e_istore 41 70 (ls' := [some _, some _, some _, some _, some _, some _, some _]) rfl rfl (Nat.le_of_ble_eq_true rfl) rfl ?_
        exact k1
