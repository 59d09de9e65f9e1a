/-! ===== steps: updates ===== -/
theorem delf_abs {f : Int} : ∀ F lo, okf true false lo F → get f F = .num 0 → delf f F = F := by
  refine fldInd (fun lo _ => rfl) (fun lo k v n h1 h2 hv hn ih hg => ?_)
  rw [get_mulL hv] at hg
  by_cases hk : k = f
  · rw [if_pos hk] at hg
    exact absurd hg (ok1_ne hv)
  · rw [if_neg hk] at hg
    rw [delf_mulL hv, if_neg hk, ih hg]
abbrev up9 : List (Nat × Int) := [(284, -1), (281, 5), (285, -1), (281, 7), (311, -1)]
def upB (τ : xSig) : Option Fo → Bool
  | none => false
  | some F' => decide (pa (.add F' (.num 0)) ≤ 24) && krF τ F'
/-- the document as it is, made anew -/
theorem upd155 {τ s : xSig} {F F' : Fo} {m path op R fi ob f x8 x9 : Int} (hR : MV s 282 11300 R (.add F (.num 0))) (h24 : pa (.add F (.num 0)) ≤ 24) (he : en (.add F' (.num 0)) = en (.add F (.num 0))) (hF : okf true false 0 F') (hp : pa (.add F' (.num 0)) ≤ 52) (h6 : ∀ f : Int, 0 ≤ f → f < 8 → s 286 f = τ 28 f) (hru : ∀ f : Int, 0 ≤ τ 28 f ∧ τ 28 f ≤ 4) :
    ∃ s', x_E MX12_updates 0 0 155 [some (.ref 281), some (.int (ii m)), some (.int (ii path)), some (.int (ii op)), some (.int (ii R)), some (.int (ii fi)), some (.int (ii ob)), some (.int (ii f)), some (.int (ii x8)), some (.int (ii x9)), some (.int (ii (bi true))), none] [] (St s) 0 0 (zv (upB τ (some F'))) (St s') ∧ MD s' (en (.add F' (.num 0))) ∧ FP up9 s s' := by
  have hol := ok1_pa hR.2.1
  have hRb := hR.2.2.2
  have f0 : FP up9 s (xu s 281 7 0) := FP.rf.put rfl
  have hR0 : MV (xu s 281 7 0) 282 11300 R (.add F (.num 0)) := hR.of (f0.cell 282 rfl)
  have ce := sp_mEnd hR0
  have hMD : MD (xu s 281 7 0) [] := ⟨xu_same _ _ _ _, EA.nil, by simp⟩
  have f1 : FP m11 (xu s 281 7 0) (xu (xu s 281 7 0) 311 0 (pa (.add F (.num 0)))) := FP.rf.x11
  obtain ⟨s3, a1, a2, a3⟩ := sp_mAdds (σ := xu (xu s 281 7 0) 311 0 (pa (.add F (.num 0)))) (p := R) (to := R + (en (.add F (.num 0))).length) (t := en (.add F (.num 0))) isMS_all rfl (by omega) (by omega) (hR0.2.2.2.2.2.of11 isMA_all f1) (hMD.fp f1) (by simp only [List.length_nil]; omega)
  rw [List.nil_append, ← he] at a2
  have f3 : FP up9 s s3 := (f0.tr (f1.mono rfl)).tr (a3.mono rfl)
  obtain ⟨s4, b1, b2⟩ := upd319 (m := m) (path := path) (op := op) (R := R) (fi := fi) (ob := ob) (f := f) (x8 := x8) (x9 := x9) (x10 := bi true) a2 hF hp (fun f a b => by rw [f3.cell 286 rfl]; exact h6 f a b) hru
  refine ⟨s4, ?_, a2.fp b2, f3.tr (b2.mono rfl)⟩
  refine e_aload_n 84 156 rfl rfl rfl rfl ?_
  refine e_iconst 85 157 rfl rfl ?_
  refine g_putI 86 160 7 ckX12 flX12_179 rfl rfl (Nat.le_of_ble_eq_true rfl) rfl rfl rfl ?_
  refine e_aload_n 87 161 rfl rfl rfl rfl ?_
  refine e_aload_n 88 162 rfl rfl rfl rfl ?_
  refine g_getR 89 165 ckX12 flX12_7 rfl rfl (Nat.le_of_ble_eq_true rfl) rfl rfl ?_
  refine e_iload 90 167 rfl rfl rfl ?_
  refine e_aload_n 91 168 rfl rfl rfl rfl ?_
  refine e_aload_n 92 169 rfl rfl rfl rfl ?_
  refine g_getR 93 172 ckX12 flX12_7 rfl rfl (Nat.le_of_ble_eq_true rfl) rfl rfl ?_
  refine e_iload 94 174 rfl rfl rfl ?_
  refine g_callV 95 177 (ce) okX12_end cvX12_131 ⟨(Nat.le_of_ble_eq_true rfl), (Nat.le_of_ble_eq_true rfl)⟩ rfl rfl (Nat.le_of_ble_eq_true rfl) rfl rfl rfl rfl rfl (Nat.le_of_ble_eq_true rfl) (Nat.le_of_ble_eq_true rfl) (Nat.le_of_ble_eq_true rfl) ?_
  refine g_callV 96 180 (a1) okX12_adds cvX12_189 ⟨(Nat.le_of_ble_eq_true rfl), (Nat.le_of_ble_eq_true rfl)⟩ rfl rfl (Nat.le_of_ble_eq_true rfl) rfl rfl rfl rfl rfl (Nat.le_of_ble_eq_true rfl) (Nat.le_of_ble_eq_true rfl) (Nat.le_of_ble_eq_true rfl) ?_
  refine e_goto 97 319 rfl rfl ?_
  exact b1
/-- an object that is there: works, and the document made anew -/
theorem upd115 {τ s : xSig} {m path op R fi ob f x8 p : Int} {F Fi w : Fo} {wrap : Fo → Fo} {pre post : List Int} (hop : 0 ≤ op ∧ op ≤ 5) (h6 : ∀ f : Int, 0 ≤ f → f < 8 → s 286 f = τ 28 f) (hru : ∀ f : Int, 0 ≤ τ 28 f ∧ τ 28 f ≤ 4) (hR : MV s 282 11300 R (.add F (.num 0))) (h24 : pa (.add F (.num 0)) ≤ 24) (hFi : okf true false 0 Fi) (hf : 0 ≤ f ∧ f < 8)
    (hen : en (.add F (.num 0)) = pre ++ 4 :: (en Fi ++ -1 :: post)) (hob : ob = R + pre.length) (hpi : pa Fi ≤ 24) (hwr : ∀ G, okf true false 0 G → okf true false 0 (wrap G) ∧ en (.add (wrap G) (.num 0)) = pre ++ 4 :: (en G ++ -1 :: post) ∧ pa (.add (wrap G) (.num 0)) ≤ 24 - pa Fi + pa G)
    (hw : op = 1 ∨ (MV s 282 11300 (100 * (100 + (s 281 3 - 1)) + 1) w ∧ pa w ≤ 24)) (hg : (get f Fi = .num 0 ∧ p = -1) ∨ (0 ≤ p ∧ MV s 282 11300 p (get f Fi))) :
    ∃ s', x_E MX12_updates 0 0 115 [some (.ref 281), some (.int (ii m)), some (.int (ii path)), some (.int (ii op)), some (.int (ii R)), some (.int (ii fi)), some (.int (ii ob)), some (.int (ii f)), some (.int (ii x8)), some (.int (ii p)), none, none] [] (St s) 0 0 (zv (upB τ (if (op = 2 ∨ op = 5) ∧ knd (tok (tk w) 0) ≠ 1 then none else (edF Fi f op w).map wrap))) (St s') ∧ (∀ F', (if (op = 2 ∨ op = 5) ∧ knd (tok (tk w) 0) ≠ 1 then none else (edF Fi f op w).map wrap) = some F' → MD s' (en (.add F' (.num 0)))) ∧ FP up9 s s' := by
  have hpg := get_pa Fi f _ _ hFi
  have hRb := hR.2.2.2
  have hol := ok1_pa hR.2.1
  have hw1 : op = 1 ∨ ok1 w := hw.imp (fun q => q) (fun q => q.1.2.1)
  have hpr : xr p := by
    rcases hg with ⟨-, rfl⟩ | ⟨h0, hM⟩
    · unfold xr; omega
    · have := hM.2.2.2; unfold xr; omega
  have hxo : xr op := by unfold xr; omega
  have hob0 : 0 ≤ ob := by omega
  have hlen : (en (.add F (.num 0))).length = pre.length + 1 + (en Fi).length + 1 + post.length := by rw [hen]; simp; omega
  have hxb : xr ob := by unfold xr; omega
  have hobm : ¬ ob = -1 := by omega
  obtain ⟨s1, c1, c2, c3⟩ := sp_mWorks (p := p) hop (hw.imp (fun q => q) (fun q => ⟨q.1, by omega⟩)) (hg.imp (fun q => q) (fun q => ⟨q.1, q.2, by omega⟩))
  have ee := edF_wv Fi f op w hw1 hop
  by_cases hb : wvb (get f Fi) op w = true
  · rw [hb] at c1
    have hb2 := hb
    unfold wvb at hb2
    split at hb2
    · cases hb2
    · next hck =>
      obtain ⟨v, hv⟩ := Option.isSome_iff_exists.mp hb2
      rw [if_neg hck, ee, hv, Option.map_some, Option.map_some]
      have hVD := c2 hb v hv
      have g1 : FP up9 s s1 := c3.mono rfl
      have hR1 := hR.of (c3.cell 282 rfl)
      have h61 : ∀ f : Int, 0 ≤ f → f < 8 → s1 286 f = τ 28 f := fun f a b => by rw [c3.cell 286 rfl]; exact h6 f a b
      -- to the flag
      have A1 : p = -1 ∧ (op = 1 ∨ 4 ≤ op) → ∀ {o : xO} {Y : xS}, x_E MX12_updates 0 0 155 [some (.ref 281), some (.int (ii m)), some (.int (ii path)), some (.int (ii op)), some (.int (ii R)), some (.int (ii fi)), some (.int (ii ob)), some (.int (ii f)), some (.int (ii x8)), some (.int (ii p)), some (.int (ii (bi true))), none] [] (St s1) 0 0 o Y → x_E MX12_updates 0 0 115 [some (.ref 281), some (.int (ii m)), some (.int (ii path)), some (.int (ii op)), some (.int (ii R)), some (.int (ii fi)), some (.int (ii ob)), some (.int (ii f)), some (.int (ii x8)), some (.int (ii p)), none, none] [] (St s) 0 0 o Y := by
        intro hA o Y kk
        refine e_aload_n 62 116 rfl rfl rfl rfl ?_
        refine e_iload_n 63 117 rfl rfl rfl rfl ?_
        refine e_iload 64 119 rfl rfl rfl ?_
        refine g_callV 65 122 (c1) okX12_works cvX12_257 ⟨(Nat.le_of_ble_eq_true rfl), (Nat.le_of_ble_eq_true rfl)⟩ rfl rfl (Nat.le_of_ble_eq_true rfl) rfl rfl rfl rfl rfl (Nat.le_of_ble_eq_true rfl) (Nat.le_of_ble_eq_true rfl) (Nat.le_of_ble_eq_true rfl) ?_
        refine e_ifb_ne 66 127 125 rfl rfl rfl (fun hq => ?_) (fun hq => ?_)
        · skip
          refine e_iload 69 129 rfl rfl rfl ?_
          refine e_iconst 70 130 rfl rfl ?_
          refine e_icmp_ne 71 147 133 rfl rfl rfl hpr (by unfold xr at *; omega) (fun h9 => absurd h9 (fun q => q hA.1)) (fun _ => ?_)
          refine e_iload_n 72 134 rfl rfl rfl rfl ?_
          refine e_iconst 73 135 rfl rfl ?_
          refine e_icmp_eq 74 143 138 rfl rfl rfl hxo (by unfold xr at *; omega) (fun h1 => ?_) (fun h1 => ?_)
          · skip
            refine e_iconst 78 144 rfl rfl ?_
            refine e_goto 79 148 rfl rfl ?_
            refine e_istore 81 150 (ls' := [some _, some _, some _, some _, some _, some _, some _, some _, some _, some _, some _, none]) rfl rfl (Nat.le_of_ble_eq_true rfl) rfl ?_
            refine e_iload 82 152 rfl rfl rfl ?_
            refine e_if_eq 83 183 155 rfl rfl rfl (by unfold xr at *; omega) (fun h9 => absurd h9 (by omega)) (fun _ => ?_)
            exact kk
          · skip
            refine e_iload_n 75 139 rfl rfl rfl rfl ?_
            refine e_iconst 76 140 rfl rfl ?_
            refine e_icmp_lt 77 147 143 rfl rfl rfl hxo (by unfold xr at *; omega) (fun h9 => absurd h9 (by omega)) (fun _ => ?_)
            refine e_iconst 78 144 rfl rfl ?_
            refine e_goto 79 148 rfl rfl ?_
            refine e_istore 81 150 (ls' := [some _, some _, some _, some _, some _, some _, some _, some _, some _, some _, some _, none]) rfl rfl (Nat.le_of_ble_eq_true rfl) rfl ?_
            refine e_iload 82 152 rfl rfl rfl ?_
            refine e_if_eq 83 183 155 rfl rfl rfl (by unfold xr at *; omega) (fun h9 => absurd h9 (by omega)) (fun _ => ?_)
            exact kk
        · skip
          cases hq
      have B1 : ¬(p = -1 ∧ (op = 1 ∨ 4 ≤ op)) → ∀ {o : xO} {Y : xS}, x_E MX12_updates 0 0 183 [some (.ref 281), some (.int (ii m)), some (.int (ii path)), some (.int (ii op)), some (.int (ii R)), some (.int (ii fi)), some (.int (ii ob)), some (.int (ii f)), some (.int (ii x8)), some (.int (ii p)), some (.int (ii (bi false))), none] [] (St s1) 0 0 o Y → x_E MX12_updates 0 0 115 [some (.ref 281), some (.int (ii m)), some (.int (ii path)), some (.int (ii op)), some (.int (ii R)), some (.int (ii fi)), some (.int (ii ob)), some (.int (ii f)), some (.int (ii x8)), some (.int (ii p)), none, none] [] (St s) 0 0 o Y := by
        intro hA o Y kk
        refine e_aload_n 62 116 rfl rfl rfl rfl ?_
        refine e_iload_n 63 117 rfl rfl rfl rfl ?_
        refine e_iload 64 119 rfl rfl rfl ?_
        refine g_callV 65 122 (c1) okX12_works cvX12_257 ⟨(Nat.le_of_ble_eq_true rfl), (Nat.le_of_ble_eq_true rfl)⟩ rfl rfl (Nat.le_of_ble_eq_true rfl) rfl rfl rfl rfl rfl (Nat.le_of_ble_eq_true rfl) (Nat.le_of_ble_eq_true rfl) (Nat.le_of_ble_eq_true rfl) ?_
        refine e_ifb_ne 66 127 125 rfl rfl rfl (fun hq => ?_) (fun hq => ?_)
        · skip
          refine e_iload 69 129 rfl rfl rfl ?_
          refine e_iconst 70 130 rfl rfl ?_
          refine e_icmp_ne 71 147 133 rfl rfl rfl hpr (by unfold xr at *; omega) (fun h1 => ?_) (fun h1 => ?_)
          · skip
            refine e_iconst 80 148 rfl rfl ?_
            refine e_istore 81 150 (ls' := [some _, some _, some _, some _, some _, some _, some _, some _, some _, some _, some _, none]) rfl rfl (Nat.le_of_ble_eq_true rfl) rfl ?_
            refine e_iload 82 152 rfl rfl rfl ?_
            refine e_if_eq 83 183 155 rfl rfl rfl (by unfold xr at *; omega) (fun _ => ?_) (fun h9 => absurd h9 (by omega))
            exact kk
          · skip
            refine e_iload_n 72 134 rfl rfl rfl rfl ?_
            refine e_iconst 73 135 rfl rfl ?_
            refine e_icmp_eq 74 143 138 rfl rfl rfl hxo (by unfold xr at *; omega) (fun h9 => absurd h9 (fun q => hA ⟨h1, Or.inl q⟩)) (fun _ => ?_)
            refine e_iload_n 75 139 rfl rfl rfl rfl ?_
            refine e_iconst 76 140 rfl rfl ?_
            refine e_icmp_lt 77 147 143 rfl rfl rfl hxo (by unfold xr at *; omega) (fun _ => ?_) (fun h9 => absurd h9 (by omega))
            refine e_iconst 80 148 rfl rfl ?_
            refine e_istore 81 150 (ls' := [some _, some _, some _, some _, some _, some _, some _, some _, some _, some _, some _, none]) rfl rfl (Nat.le_of_ble_eq_true rfl) rfl ?_
            refine e_iload 82 152 rfl rfl rfl ?_
            refine e_if_eq 83 183 155 rfl rfl rfl (by unfold xr at *; omega) (fun _ => ?_) (fun h9 => absurd h9 (by omega))
            exact kk
        · skip
          cases hq
      by_cases hA : p = -1 ∧ (op = 1 ∨ 4 ≤ op)
      · have hgn : get f Fi = .num 0 := by
          rcases hg with q | q
          · exact q.1
          · omega
        have hset : wset Fi f op v = Fi := by
          by_cases h1 : op = 1
          · unfold wset
            rw [if_pos h1]
            exact delf_abs Fi 0 hFi hgn
          · rcases wv_ok hop h1 (hw1.resolve_left h1) (Or.inl hgn) hv with ⟨rfl, -, -⟩ | ⟨-, -, q⟩
            · unfold wset
              rw [if_neg h1]
            · have := q hgn
              omega
        rw [hset]
        obtain ⟨w1, w2, w3⟩ := hwr Fi hFi
        obtain ⟨s', k1, k2, k3⟩ := upd155 (τ := τ) (m := m) (path := path) (op := op) (fi := fi) (ob := ob) (f := f) (x8 := x8) (x9 := p) hR1 h24 (w2.trans hen.symm) w1 (by omega) h61 hru
        exact ⟨s', A1 hA k1, fun F' h => by cases h; exact k2, g1.tr k3⟩
      · -- put in, or taken out
        have hv9 : (op = 1 ∧ v = .num 0) ∨ (op ≠ 1 ∧ ok1 v ∧ pa v ≤ pa (get f Fi) + pa w + 1 ∧ pa w ≤ 24) := by
          by_cases h1 : op = 1
          · subst h1
            cases hv
            exact Or.inl ⟨rfl, rfl⟩
          · have hww := hw.resolve_left h1
            have hgo : get f Fi = .num 0 ∨ ok1 (get f Fi) := hg.imp (fun q => q.1) (fun q => q.2.2.1)
            rcases wv_ok hop h1 hww.1.2.1 hgo hv with ⟨-, q1, q2⟩ | ⟨q1, q2, -⟩
            · exfalso
              rcases hg with q | q
              · exact hA ⟨q.2, Or.inr q2⟩
              · exact ok1_ne q.2.2.1 q1
            · exact Or.inr ⟨h1, q1, q2, hww.2⟩
        obtain ⟨to, hto, hbr, hbw⟩ : ∃ to : Int, (to = if op = 1 then 0 else s1 281 5) ∧ bres (decide ((0 : Int) = to)) f v Fi = wset Fi f op v ∧ (to = 0 ∨ (ok1 v ∧ EA s1 284 0 (en v) ∧ (0 : Int) ≤ 0 ∧ to = 0 + (en v).length ∧ to ≤ ((400 : Nat) : Int))) := by
          rcases hv9 with ⟨h1, rfl⟩ | ⟨h1, q1, q2, q3⟩
          · refine ⟨0, by rw [if_pos h1], ?_, Or.inl rfl⟩
            unfold wset
            rw [if_pos h1]
            rfl
          · have hl := (ok1_pa q1).2.2
            have hV2 := hVD.2.2
            refine ⟨s1 281 5, by rw [if_neg h1], ?_, Or.inr ⟨q1, hVD.2.1, by omega, by rw [hVD.1, Int.zero_add], by rw [hVD.1]; omega⟩⟩
            rw [wset_ok q1 h1, hVD.1, decF (by omega)]
            rfl
        have hlv : ((en v).length : Int) ≤ 150 := by
          rcases hv9 with ⟨h1, rfl⟩ | ⟨h1, q1, q2, q3⟩
          · simp [en]
          · have := ok1_pa q1
            omega
        have hok' : okf true false 0 (wset Fi f op v) := by
          rcases hv9 with ⟨h1, rfl⟩ | ⟨h1, q1, q2, q3⟩
          · unfold wset
            rw [if_pos h1]
            exact delf_ok Fi f _ _ hFi
          · rw [wset_ok q1 h1]
            exact setf_ok Fi f v _ _ hFi q1 hf.1 hf.2
        have hpa' : pa (wset Fi f op v) ≤ pa Fi + 25 := by
          rcases hv9 with ⟨h1, rfl⟩ | ⟨h1, q1, q2, q3⟩
          · unfold wset
            rw [if_pos h1]
            have := delf_pa Fi f _ _ hFi
            omega
          · rw [wset_ok q1 h1]
            have := setf_pa Fi f v _ _ hFi q1
            omega
        obtain ⟨w1, w2, w3⟩ := hwr _ hok'
        obtain ⟨s3, b1, b2, b3⟩ := sp_mBuilds (σ := s1) (root := R) (ob := ob) (f := f) (fr := 0) (to := to) (F := Fi) (w := v) (V := .add F (.num 0)) isMS_all isMS_val hf hFi (by omega) hR1 hen hob hbw (by unfold xr; omega) (by omega)
        rw [hbr, ← w2] at b2
        have g3 : FP up9 s s3 := g1.tr (b3.mono rfl)
        obtain ⟨s4, d1, d2⟩ := upd319 (τ := τ) (m := m) (path := path) (op := op) (R := R) (fi := fi) (ob := ob) (f := f) (x8 := x8) (x9 := p) (x10 := bi false) b2 w1 (by omega) (fun f a b => by rw [g3.cell 286 rfl]; exact h6 f a b) hru
        refine ⟨s4, B1 hA ?_, fun F' h => (by cases h; exact b2.fp d2), g3.tr (d2.mono rfl)⟩
        have fin : x_E MX12_updates 0 0 316 [some (.ref 281), some (.int (ii m)), some (.int (ii path)), some (.int (ii op)), some (.int (ii R)), some (.int (ii fi)), some (.int (ii ob)), some (.int (ii f)), some (.int (ii x8)), some (.int (ii p)), some (.int (ii (bi false))), none] [.int (ii to), .int (ii 0), .ref 284, .int (ii f), .int (ii ob), .int (ii R), .ref 282, .ref 281] (St s1) 0 0 (zv (upB τ (some (wrap (wset Fi f op v))))) (St s4) := by
          refine g_callV 173 319 (b1) okX12_builds cvX12_196 ⟨(Nat.le_of_ble_eq_true rfl), (Nat.le_of_ble_eq_true rfl)⟩ rfl rfl (Nat.le_of_ble_eq_true rfl) rfl rfl rfl rfl rfl (Nat.le_of_ble_eq_true rfl) (Nat.le_of_ble_eq_true rfl) (Nat.le_of_ble_eq_true rfl) ?_
          exact d1
        have e5 : s1 281 5 = s1 281 5 := rfl
        refine e_iload 98 185 rfl rfl rfl ?_
        refine e_iconst 99 186 rfl rfl ?_
        refine e_icmp_ne 100 287 189 rfl rfl rfl hxb (by unfold xr at *; omega) (fun _ => ?_) (fun h9 => absurd h9 hobm)
        refine e_aload_n 157 288 rfl rfl rfl rfl ?_
        refine e_aload_n 158 289 rfl rfl rfl rfl ?_
        refine g_getR 159 292 ckX12 flX12_7 rfl rfl (Nat.le_of_ble_eq_true rfl) rfl rfl ?_
        refine e_iload 160 294 rfl rfl rfl ?_
        refine e_iload 161 296 rfl rfl rfl ?_
        refine e_iload 162 298 rfl rfl rfl ?_
        refine e_aload_n 163 299 rfl rfl rfl rfl ?_
        refine g_getR 164 302 ckX12 flX12_17 rfl rfl (Nat.le_of_ble_eq_true rfl) rfl rfl ?_
        refine e_iconst 165 303 rfl rfl ?_
        refine e_iload_n 166 304 rfl rfl rfl rfl ?_
        refine e_iconst 167 305 rfl rfl ?_
        refine e_icmp_ne 168 312 308 rfl rfl rfl hxo (by unfold xr at *; omega) (fun h1 => ?_) (fun h1 => ?_)
        · skip
          rw [if_neg h1] at hto
          rw [hto] at fin
          refine e_aload_n 171 313 rfl rfl rfl rfl ?_
          refine g_getI 172 316 5 ckX12 flX12_247 rfl rfl (Nat.le_of_ble_eq_true rfl) rfl rfl rfl rfl ?_
          exact fin
        · skip
          rw [if_pos h1] at hto
          rw [hto] at fin
          refine e_iconst 169 309 rfl rfl ?_
          refine e_goto 170 316 rfl rfl ?_
          exact fin
  · replace hb : wvb (get f Fi) op w = false := by cases q : wvb (get f Fi) op w with
      | false => rfl
      | true => exact absurd q hb
    rw [hb] at c1
    have hn : (if (op = 2 ∨ op = 5) ∧ knd (tok (tk w) 0) ≠ 1 then none else (edF Fi f op w).map wrap) = none := by
      unfold wvb at hb
      split at hb
      · next hck => rw [if_pos hck]
      · next hck =>
        rw [if_neg hck, ee]
        cases q : wv (get f Fi) op w with
        | none => rfl
        | some v => rw [q] at hb; cases hb
    rw [hn]
    refine ⟨s1, ?_, fun F' h => (by cases h), c3.mono rfl⟩
    show x_E MX12_updates 0 0 115 _ _ _ 0 0 (zv false) _
    refine e_aload_n 62 116 rfl rfl rfl rfl ?_
    refine e_iload_n 63 117 rfl rfl rfl rfl ?_
    refine e_iload 64 119 rfl rfl rfl ?_
    refine g_callV 65 122 (c1) okX12_works cvX12_257 ⟨(Nat.le_of_ble_eq_true rfl), (Nat.le_of_ble_eq_true rfl)⟩ rfl rfl (Nat.le_of_ble_eq_true rfl) rfl rfl rfl rfl rfl (Nat.le_of_ble_eq_true rfl) (Nat.le_of_ble_eq_true rfl) (Nat.le_of_ble_eq_true rfl) ?_
    refine e_ifb_ne 66 127 125 rfl rfl rfl (fun hq => ?_) (fun hq => ?_)
    · skip
      cases hq
    · skip
      refine e_iconst 67 126 rfl rfl ?_
      exact e_zreturn 68 rfl rfl (Or.inl rfl) (Nat.le_of_ble_eq_true rfl) (Nat.le_of_ble_eq_true rfl)
