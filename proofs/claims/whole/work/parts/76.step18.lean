/-! ===== steps: updates, its pieces ===== -/
theorem wset_ok {F v : Fo} {f op : Int} (hv : ok1 v) (h1 : op ≠ 1) : wset F f op v = setf f v F := by
  unfold wset
  rw [if_neg h1]
  rcases hv with ⟨x, rfl, -⟩ | ⟨c, rfl, -⟩ | ⟨c, rfl, -⟩ <;> rfl
/-- where a field's value lies in an object -/
theorem fo_lp2 {a nn : Nat} {R f : Int} (ha : isMA a nn) (hf : 0 ≤ f ∧ f < 8) : ∀ F lo, okf true false lo F → ∀ (p : Int) (σ : xSig), 0 ≤ lo → pa F ≤ 51 → 0 ≤ p → p + (en F).length < nn → EA σ a p (en F ++ [-1]) → ∃ (r : Int) (σ' : xSig), x_E MX12_fieldOf 0 0 5 [some (.ref 281), some (.ref a), some (.int (ii R)), some (.int (ii f)), some (.int (ii p))] [] (St σ) 0 0 (iv r) (St σ') ∧ FP m11 σ σ' ∧ ((get f F = .num 0 ∧ r = -1) ∨ (ok1 (get f F) ∧ ∃ pre post : List Int, r = p + pre.length ∧ en F = pre ++ (en (get f F) ++ post) ∧ ∀ u, ok1 u → en (setf f u F) = pre ++ (en u ++ post))) := by
  have hnn := ha.2.2.1
  refine fldInd (fun lo => ?_) (fun lo k v n hk hk8 hv hn ih => ?_)
  · intro p σ hlo hp hp0 hpn hE
    obtain ⟨e1, -⟩ := EA.cons hE
    simp only [en, List.length_nil] at hpn
    refine ⟨-1, σ, ?_, FP.rf, Or.inl ⟨rfl, rfl⟩⟩
    refine e_aload_n 4 6 rfl rfl rfl rfl ?_
    refine e_iload 5 8 rfl rfl rfl ?_
    refine g_iaload 6 9 rfl rfl ha.1 ha.2.1 (by omega) (by omega) (by omega) e1 ?_
    refine e_iconst 7 10 rfl rfl ?_
    refine e_icmp_eq 8 40 13 rfl rfl rfl (by unfold xr at *; omega) (by unfold xr at *; omega) (fun _ => ?_) (fun h9 => absurd h9 (fun q => q rfl))
    refine e_iconst 26 41 rfl rfl ?_
    exact e_ireturn 27 rfl rfl (Nat.le_of_ble_eq_true rfl) (Nat.le_of_ble_eq_true rfl)
  · intro p σ hlo hp hp0 hpn hE
    have hol := ok1_pa hv
    have e9 : pa (.mulL k (cat v n)) = pa v + pa n := cat_pa hv n
    have hpn9 := pa_nn n
    rw [e9] at hp
    simp only [en, cat_en hv, List.length_cons, List.length_append, List.cons_append, List.append_assoc] at hpn hE ⊢
    obtain ⟨e1, e2⟩ := EA.cons hE
    obtain ⟨e3, e4⟩ := EA.app e2
    rw [get_mulL hv]
    by_cases hkf : k = f
    · rw [if_pos hkf]
      refine ⟨p + 1, σ, ?_, FP.rf, Or.inr ⟨hv, [k], en n, rfl, rfl, fun u hu => ?_⟩⟩
      · skip
        refine e_aload_n 4 6 rfl rfl rfl rfl ?_
        refine e_iload 5 8 rfl rfl rfl ?_
        refine g_iaload 6 9 rfl rfl ha.1 ha.2.1 (by omega) (by omega) (by omega) e1 ?_
        refine e_iconst 7 10 rfl rfl ?_
        refine e_icmp_eq 8 40 13 rfl rfl rfl (by unfold xr at *; omega) (by unfold xr at *; omega) (fun h9 => absurd h9 (by omega)) (fun _ => ?_)
        refine e_aload_n 9 14 rfl rfl rfl rfl ?_
        refine e_iload 10 16 rfl rfl rfl ?_
        refine g_iaload 11 17 rfl rfl ha.1 ha.2.1 (by omega) (by omega) (by omega) e1 ?_
        refine e_iload_n 12 18 rfl rfl rfl rfl ?_
        refine e_icmp_ne 13 26 21 rfl rfl rfl (by unfold xr at *; omega) (by unfold xr at *; omega) (fun h9 => absurd h9 (fun q => q hkf)) (fun _ => ?_)
        refine e_iload 14 23 rfl rfl rfl ?_
        refine e_iconst 15 24 rfl rfl ?_
        refine e_iadd 16 25 rfl rfl ?_
        exact e_ireturn 17 rfl rfl (Nat.le_of_ble_eq_true rfl) (Nat.le_of_ble_eq_true rfl)
      · rw [setf_mulL hv, if_pos hkf, hkf]
        show f :: en (cat u n) = _
        rw [cat_en hu]
        rfl
    · rw [if_neg hkf]
      have hM : MV σ a nn (p + 1) v := ⟨ha, hv, by omega, by omega, by omega, e3⟩
      have q1 := sp_mEnd hM
      have f1 : FP m11 σ (xu σ 311 0 (pa v)) := FP.rf.x11
      obtain ⟨r, σ', k1, k2, k3⟩ := ih (p + 1 + (en v).length) (xu σ 311 0 (pa v)) (by omega) (by omega) (by omega) (by omega) (e4.of11 ha f1)
      refine ⟨r, σ', ?_, f1.tr k2, ?_⟩
      · skip
        refine e_aload_n 4 6 rfl rfl rfl rfl ?_
        refine e_iload 5 8 rfl rfl rfl ?_
        refine g_iaload 6 9 rfl rfl ha.1 ha.2.1 (by omega) (by omega) (by omega) e1 ?_
        refine e_iconst 7 10 rfl rfl ?_
        refine e_icmp_eq 8 40 13 rfl rfl rfl (by unfold xr at *; omega) (by unfold xr at *; omega) (fun h9 => absurd h9 (by omega)) (fun _ => ?_)
        refine e_aload_n 9 14 rfl rfl rfl rfl ?_
        refine e_iload 10 16 rfl rfl rfl ?_
        refine g_iaload 11 17 rfl rfl ha.1 ha.2.1 (by omega) (by omega) (by omega) e1 ?_
        refine e_iload_n 12 18 rfl rfl rfl rfl ?_
        refine e_icmp_ne 13 26 21 rfl rfl rfl (by unfold xr at *; omega) (by unfold xr at *; omega) (fun _ => ?_) (fun h9 => absurd h9 hkf)
        refine e_aload_n 18 27 rfl rfl rfl rfl ?_
        refine e_aload_n 19 28 rfl rfl rfl rfl ?_
        refine e_iload 20 30 rfl rfl rfl ?_
        refine e_iconst 21 31 rfl rfl ?_
        refine e_iadd 22 32 rfl rfl ?_
        refine g_callV 23 35 (q1) okX12_end cvX12_131 ⟨(Nat.le_of_ble_eq_true rfl), (Nat.le_of_ble_eq_true rfl)⟩ rfl rfl (Nat.le_of_ble_eq_true rfl) rfl rfl rfl rfl rfl (Nat.le_of_ble_eq_true rfl) (Nat.le_of_ble_eq_true rfl) (Nat.le_of_ble_eq_true rfl) ?_
        refine e_istore 24 37 (ls' := [some _, some _, some _, some _, some _]) rfl rfl (Nat.le_of_ble_eq_true rfl) rfl ?_
        refine e_goto 25 5 rfl rfl ?_
        exact k1
      · rcases k3 with k3 | ⟨g1, pre, post, g2, g3, g4⟩
        · exact Or.inl k3
        · refine Or.inr ⟨g1, k :: (en v ++ pre), post, ?_, ?_, fun u hu => ?_⟩
          · rw [g2]
            simp only [List.length_cons, List.length_append]
            omega
          · rw [g3]
            simp
          · have hlt : ¬ f < k := fun q => by
              have := get_hi0 hn (show f < k + 1 by omega)
              exact ok1_ne g1 this
            rw [setf_mulL hv, if_neg hkf, if_neg hlt]
            show k :: en (cat v (setf f u n)) = _
            rw [cat_en hv, g4 u hu]
            simp
theorem sp_mFieldOf2 {σ : xSig} {a nn : Nat} {p f : Int} {F : Fo} (h : MV σ a nn p (.add F (.num 0))) (hf : 0 ≤ f ∧ f < 8) : ∃ (r : Int) (σ' : xSig), x_Sp MX12_fieldOf 0 0 [.ref 281, .ref a, .int (ii p), .int (ii f)] (St σ) (iv r) (St σ') ∧ FP m11 σ σ' ∧ ((get f F = .num 0 ∧ r = -1) ∨ (0 ≤ r ∧ MV σ' a nn r (get f F) ∧ ∃ pre post : List Int, r = p + 1 + pre.length ∧ en F = pre ++ (en (get f F) ++ post) ∧ ∀ u, ok1 u → en (setf f u F) = pre ++ (en u ++ post))) := by
  obtain ⟨ha, hv, h24, hp, hp2, hE⟩ := h
  have hnn := ha.2.2.1
  have hF : okf true false 0 F := by
    rcases hv with ⟨x, hx, -⟩ | ⟨c, hx, h3⟩ | ⟨c, hx, h3⟩
    · cases hx
    · cases hx; exact h3
    · cases hx
  simp only [en, List.length_cons, List.length_append, List.length_nil] at hp2 hE
  obtain ⟨e1, e2⟩ := EA.cons hE
  have e9 : pa (.add F (.num 0)) = 1 + pa F := by simp [pa]
  rw [e9] at h24
  obtain ⟨r, σ', k1, k2, k3⟩ := fo_lp2 (R := p) ha hf F 0 hF (p + 1) σ (by omega) (by omega) (by omega) (by omega) e2
  refine ⟨r, σ', ?_, k2, ?_⟩
  · skip
    refine e_entry okX12_fieldOf (Nat.le_of_ble_eq_true rfl) (ls := [some _, some _, some _, some _, none]) rfl ?_
    refine e_iload_n 0 1 rfl rfl rfl rfl ?_
    refine e_iconst 1 2 rfl rfl ?_
    refine e_iadd 2 3 rfl rfl ?_
    refine e_istore 3 5 (ls' := [some _, some _, some _, some _, some _]) rfl rfl (Nat.le_of_ble_eq_true rfl) rfl ?_
    exact k1
  · rcases k3 with k3 | ⟨g1, pre, post, g2, g3, g4⟩
    · exact Or.inl k3
    · have := get_pa F f _ _ hF
      have hlen : (en F).length = pre.length + ((en (get f F)).length + post.length) := by
        have := congrArg List.length g3
        simpa only [List.length_append] using this
      refine Or.inr ⟨by omega, ⟨ha, g1, by omega, by omega, by omega, ?_⟩, pre, post, g2, g3, g4⟩
      have e2' := e2
      rw [g3, List.append_assoc] at e2'
      have e5 := (EA.app (EA.app e2').2)
      rw [List.append_assoc] at e2'
      rw [g2]
      exact ((EA.app (EA.app e2').2).1).of11 ha k2
/-- two places on, of what an operator left -/
def sft (s : xSig) (n : Int) : xSig := fun b j => if b = 284 ∧ 2 ≤ j ∧ j < n + 2 then s 284 (j - 2) else s b j
theorem sft_f (s : xSig) (n : Int) : FP [(284, -1)] s (sft s n) := fun b j q => by
  unfold sft
  rw [if_neg]
  rintro ⟨rfl, -⟩
  simp [inP] at q
theorem sft_lp {m path op R fi f : Int} : ∀ (n : Nat), n ≤ 395 → ∀ (s : xSig) {o : xO} {Y : xS}, x_E MX12_updates 0 0 224 [some (.ref 281), some (.int (ii m)), some (.int (ii path)), some (.int (ii op)), some (.int (ii R)), some (.int (ii fi)), some (.int (ii (-1))), some (.int (ii f)), some (.int (ii (-1))), some (.int (ii (-1))), some (.int (ii (bi false))), none] [] (St (sft s n)) 0 0 o Y → x_E MX12_updates 0 0 197 [some (.ref 281), some (.int (ii m)), some (.int (ii path)), some (.int (ii op)), some (.int (ii R)), some (.int (ii fi)), some (.int (ii (-1))), some (.int (ii f)), some (.int (ii (-1))), some (.int (ii (-1))), some (.int (ii (bi false))), some (.int (ii ((n : Int) - 1)))] [] (St s) 0 0 o Y := by
  intro n
  induction n with
  | zero =>
    intro _ s o Y kk
    have e : sft s ((0 : Nat) : Int) = s := by
      funext b j
      unfold sft
      rw [if_neg (by omega)]
    rw [e] at kk
    refine e_iload 106 199 rfl rfl rfl ?_
    refine e_if_lt 107 224 202 rfl rfl rfl (by unfold xr at *; omega) (fun _ => ?_) (fun h9 => absurd h9 (by omega))
    refine e_dropm [true, true, true, true, true, true, true, true, true, true, true, false] (ls' := [some _, some _, some _, some _, some _, some _, some _, some _, some _, some _, some _, none]) rfl ?_
    exact kk
  | succ n ih =>
    intro hn s o Y kk
    have e : sft (xu s 284 ((n : Int) + 2) (s 284 n)) n = sft s ((n + 1 : Nat) : Int) := by
      funext b j
      unfold sft xu
      by_cases w : b = 284
      · subst w
        by_cases w1 : 2 ≤ j ∧ j < n + 2
        · rw [if_pos ⟨rfl, w1⟩, if_neg (show ¬((284 : Nat) = 284 ∧ j - 2 = n + 2) by omega), if_pos ⟨rfl, by omega⟩]
        · rw [if_neg (show ¬((284 : Nat) = 284 ∧ 2 ≤ j ∧ j < n + 2) from fun q => w1 q.2)]
          by_cases w2 : j = n + 2
          · rw [if_pos ⟨rfl, w2⟩, if_pos ⟨rfl, by omega⟩, show j - 2 = n by omega]
          · rw [if_neg (show ¬((284 : Nat) = 284 ∧ j = n + 2) from fun q => w2 q.2), if_neg (by omega)]
      · rw [if_neg (fun q => w q.1), if_neg (fun q => w q.1), if_neg (fun q => w q.1)]
    rw [← e] at kk
    have k2 := ih (by omega) _ kk
    rw [show ((n + 1 : Nat) : Int) - 1 = n by omega]
    refine e_iload 106 199 rfl rfl rfl ?_
    refine e_if_lt 107 224 202 rfl rfl rfl (by unfold xr at *; omega) (fun h9 => absurd h9 (by omega)) (fun _ => ?_)
    refine e_aload_n 108 203 rfl rfl rfl rfl ?_
    refine g_getR 109 206 ckX12 flX12_17 rfl rfl (Nat.le_of_ble_eq_true rfl) rfl rfl ?_
    refine e_iload 110 208 rfl rfl rfl ?_
    refine e_iconst 111 209 rfl rfl ?_
    refine e_iadd 112 210 rfl rfl ?_
    refine e_aload_n 113 211 rfl rfl rfl rfl ?_
    refine g_getR 114 214 ckX12 flX12_17 rfl rfl (Nat.le_of_ble_eq_true rfl) rfl rfl ?_
    refine e_iload 115 216 rfl rfl rfl ?_
    refine g_iaload 116 217 rfl rfl (Nat.le_of_ble_eq_true rfl) rfl (by omega) (by omega) (by omega) rfl ?_
    refine g_iastore 117 218 rfl rfl (Nat.le_of_ble_eq_true rfl) rfl (by omega) (by omega) (by omega) ?_
    refine e_iinc 118 221 (ls' := [some _, some _, some _, some _, some _, some _, some _, some _, some _, some _, some _, some _]) rfl rfl (Nat.le_of_ble_eq_true rfl) rfl rfl ?_
    refine e_goto 119 197 rfl rfl ?_
    exact k2
/-- and whether what is made is kept -/
theorem upd319 {τ s : xSig} {F' : Fo} {m path op R fi ob f x8 x9 x10 : Int} (hM : MD s (en (.add F' (.num 0)))) (hF : okf true false 0 F') (hp : pa (.add F' (.num 0)) ≤ 52) (h6 : ∀ f : Int, 0 ≤ f → f < 8 → s 286 f = τ 28 f) (hru : ∀ f : Int, 0 ≤ τ 28 f ∧ τ 28 f ≤ 4) :
    ∃ s', x_E MX12_updates 0 0 319 [some (.ref 281), some (.int (ii m)), some (.int (ii path)), some (.int (ii op)), some (.int (ii R)), some (.int (ii fi)), some (.int (ii ob)), some (.int (ii f)), some (.int (ii x8)), some (.int (ii x9)), some (.int (ii x10)), none] [] (St s) 0 0 (zv (decide (pa (.add F' (.num 0)) ≤ 24) && krF τ F')) (St s') ∧ FP m11 s s' := by
  have hv : ok1 (.add F' (.num 0)) := Or.inr (Or.inl ⟨_, rfl, hF⟩)
  have hMV := made_mv hM hv hp
  have c1 := sp_mParts hMV
  have f1 : FP m11 s (xu s 311 0 (pa (.add F' (.num 0)))) := FP.rf.x11
  have hpn := (ok1_pa hv).1
  obtain ⟨s2, c2, f2⟩ := sp_mKeepsAll (τ := τ) (fun f a b => by rw [f1.cell 286 rfl]; exact h6 f a b) hru (hMV.fp f1)
  by_cases h24 : pa (.add F' (.num 0)) ≤ 24
  · rw [decT h24, Bool.true_and]
    refine ⟨s2, ?_, f1.tr f2⟩
    refine e_aload_n 174 320 rfl rfl rfl rfl ?_
    refine e_aload_n 175 321 rfl rfl rfl rfl ?_
    refine g_getR 176 324 ckX12 flX12_20 rfl rfl (Nat.le_of_ble_eq_true rfl) rfl rfl ?_
    refine e_iconst 177 325 rfl rfl ?_
    refine g_callV 178 328 (c1) okX12_parts cvX12_186 ⟨(Nat.le_of_ble_eq_true rfl), (Nat.le_of_ble_eq_true rfl)⟩ rfl rfl (Nat.le_of_ble_eq_true rfl) rfl rfl rfl rfl rfl (Nat.le_of_ble_eq_true rfl) (Nat.le_of_ble_eq_true rfl) (Nat.le_of_ble_eq_true rfl) ?_
    refine e_bipush 179 330 rfl rfl rfl ?_
    refine e_icmp_gt 180 349 333 rfl rfl rfl (by unfold xr at *; omega) (by unfold xr at *; omega) (fun h9 => absurd h9 (by omega)) (fun _ => ?_)
    refine e_aload_n 181 334 rfl rfl rfl rfl ?_
    refine e_aload_n 182 335 rfl rfl rfl rfl ?_
    refine g_getR 183 338 ckX12 flX12_20 rfl rfl (Nat.le_of_ble_eq_true rfl) rfl rfl ?_
    refine e_iconst 184 339 rfl rfl ?_
    refine g_callV 185 342 (c2) okX12_keepsAll cvX12_230 ⟨(Nat.le_of_ble_eq_true rfl), (Nat.le_of_ble_eq_true rfl)⟩ rfl rfl (Nat.le_of_ble_eq_true rfl) rfl rfl rfl rfl rfl (Nat.le_of_ble_eq_true rfl) (Nat.le_of_ble_eq_true rfl) (Nat.le_of_ble_eq_true rfl) ?_
    refine e_ifb_eq 186 349 345 rfl rfl rfl (fun hb => ?_) (fun hb => ?_)
    · skip
      rw [hb]
      refine e_iconst 189 350 rfl rfl ?_
      exact e_zreturn 190 rfl rfl (Or.inl rfl) (Nat.le_of_ble_eq_true rfl) (Nat.le_of_ble_eq_true rfl)
    · skip
      rw [hb]
      refine e_iconst 187 346 rfl rfl ?_
      refine e_goto 188 350 rfl rfl ?_
      exact e_zreturn 190 rfl rfl (Or.inr rfl) (Nat.le_of_ble_eq_true rfl) (Nat.le_of_ble_eq_true rfl)
  · rw [decF h24, Bool.false_and]
    refine ⟨_, ?_, f1⟩
    refine e_aload_n 174 320 rfl rfl rfl rfl ?_
    refine e_aload_n 175 321 rfl rfl rfl rfl ?_
    refine g_getR 176 324 ckX12 flX12_20 rfl rfl (Nat.le_of_ble_eq_true rfl) rfl rfl ?_
    refine e_iconst 177 325 rfl rfl ?_
    refine g_callV 178 328 (c1) okX12_parts cvX12_186 ⟨(Nat.le_of_ble_eq_true rfl), (Nat.le_of_ble_eq_true rfl)⟩ rfl rfl (Nat.le_of_ble_eq_true rfl) rfl rfl rfl rfl rfl (Nat.le_of_ble_eq_true rfl) (Nat.le_of_ble_eq_true rfl) (Nat.le_of_ble_eq_true rfl) ?_
    refine e_bipush 179 330 rfl rfl rfl ?_
    refine e_icmp_gt 180 349 333 rfl rfl rfl (by unfold xr at *; omega) (by unfold xr at *; omega) (fun _ => ?_) (fun h9 => absurd h9 (by omega))
    refine e_iconst 189 350 rfl rfl ?_
    exact e_zreturn 190 rfl rfl (Or.inl rfl) (Nat.le_of_ble_eq_true rfl) (Nat.le_of_ble_eq_true rfl)
