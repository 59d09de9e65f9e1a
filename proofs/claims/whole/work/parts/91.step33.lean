/-! ===== steps: find, its ways ===== -/
theorem tr3 {τ : xSig} {T : Nat → List Int} {G : Nat → Fo} (hX : IXR τ) {s : xSig} (hN : FND τ T G s) {r K b f : Int} {t : Int × Int × Int} (hR : trR t b f (s 295 2)) : ∃ (s' : xSig) (b' f' : Int), FP fL9 s s' ∧ trR (trS τ T 0 3 t) b' f' (s' 295 2) ∧ ∀ (o : xO) (Y : xS), x_E MX12_find 0 0 170 [some (.ref 281), some (.int (ii r)), some (.long (ll K)), none, some (.int (ii (-1))), some (.int (ii b')), some (.int (ii f')), some (.int (ii 3)), none] [] (St s') 0 0 o Y → x_E MX12_find 0 0 170 [some (.ref 281), some (.int (ii r)), some (.long (ll K)), none, some (.int (ii (-1))), some (.int (ii b)), some (.int (ii f)), some (.int (ii 0)), none] [] (St s) 0 0 o Y := by
  obtain ⟨s1, b1, f1, p1, q1, r1⟩ := tr_st hX hN (r := r) (K := K) (k := 0) (by omega) hR
  obtain ⟨s2, b2, f2, p2, q2, r2⟩ := tr_st hX (hN.fp p1 rfl) (r := r) (K := K) (k := 1) (by omega) q1
  obtain ⟨s3, b3, f3, p3, q3, r3⟩ := tr_st hX ((hN.fp p1 rfl).fp p2 rfl) (r := r) (K := K) (k := 2) (by omega) q2
  exact ⟨s3, b3, f3, (p1.tr p2).tr p3, q3, fun o Y kk => r1 o Y (r2 o Y (r3 o Y kk))⟩
theorem plM_snoc {u : xSig} {K b f : Int} (hN : 0 ≤ u 281 18) : plM (xu (xu (xu (xu u 292 (u 281 18) K) 293 (u 281 18) b) 294 (u 281 18) f) 281 18 (u 281 18 + 1)) = plM u ++ [(K, b, f)] := by
  obtain ⟨N, hN2⟩ := Int.eq_ofNat_of_zero_le hN
  unfold plM
  rw [xu_same, hN2, show ((N : Int) + 1).toNat = N + 1 by omega, Int.toNat_natCast, List.range_succ, List.map_append]
  congr 1
  · refine List.map_congr_left fun j hj => ?_
    have hj := List.mem_range.mp hj
    have hne : ¬ (j : Int) = N := by omega
    simp [xu, hne]
  · simp [xu]
abbrev pL9 : List (Nat × Int) := [(295, -1), (281, 18), (292, -1), (293, -1), (294, -1)]
theorem pl_new {s : xSig} {r K b f d : Int} {t : Int × Int × Int} (h2 : s 281 2 = d) (hd : 0 ≤ d ∧ d ≤ 100) (hR : trR t b f (s 295 2)) (hN : 0 ≤ s 281 18 ∧ s 281 18 < 3000) : ∃ s', FP pL9 s s' ∧ s' 295 0 = (tpS t (-1) d).1 ∧ s' 295 1 = (tpS t (-1) d).2.1 ∧ s' 295 2 = (tpS t (-1) d).2.2 ∧ s' 295 3 = s 295 3 ∧ plM s' = plM s ++ [(K, (tpS t (-1) d).1, (tpS t (-1) d).2.1)] ∧ s' 281 18 = s 281 18 + 1 ∧ ∀ (o : xO) (Y : xS), x_E MX12_find 0 0 391 [some (.ref 281), some (.int (ii r)), some (.long (ll K)), none, none, none, none, none, none] [] (St s') 0 0 o Y → x_E MX12_find 0 0 170 [some (.ref 281), some (.int (ii r)), some (.long (ll K)), none, some (.int (ii (-1))), some (.int (ii b)), some (.int (ii f)), some (.int (ii 3)), none] [] (St s) 0 0 o Y := by
  obtain ⟨a1, a2, a3, a4, a5, a6⟩ := hR.tp (k := -1) hd
  have hne : (tpS t (-1) d).2.2 ≠ 0 := by
    show t.2.2 + 1 ≠ 0
    have := hR.2.2.2.1
    omega
  obtain ⟨a7, a8⟩ := a3 hne
  have hfr := hR.2.2.2.2.1
  have xd : xr d := by unfold xr; omega
  rw [← a7, ← a8, ← a1]
  generalize hbb : (if f = -1 ∨ d < f then (-1 : Int) else b) = b' at *
  generalize hff : (if f = -1 ∨ d < f then d else f) = f' at *
  obtain ⟨u, hu⟩ : ∃ u, u = xu (xu (xu s 295 2 (s 295 2 + 1)) 295 0 b') 295 1 f' := ⟨_, rfl⟩
  have hFu : FP [(295, -1)] s u := by rw [hu]; exact ((FP.rf.putA rfl).putA rfl).putA rfl
  have u18 : u 281 18 = s 281 18 := hFu 281 18 rfl
  have u0 : u 295 0 = b' ∧ u 295 1 = f' ∧ u 295 2 = s 295 2 + 1 ∧ u 295 3 = s 295 3 := by rw [hu]; simp [xu]
  have epl : plM u = plM s := plM_congr (σ := s) (σ' := u) (by
    intro bb j hi
    refine hFu bb j ?_
    cases e : inP [(295, -1)] bb j with
    | false => rfl
    | true =>
      exfalso
      simp only [inP, cM, List.any_cons, List.any_nil, Bool.or_false, Bool.and_eq_true, beq_iff_eq, Bool.or_eq_true] at e hi
      omega)
  refine ⟨xu (xu (xu (xu u 292 (u 281 18) K) 293 (u 281 18) b') 294 (u 281 18) f') 281 18 (u 281 18 + 1), ?_, ?_, ?_, ?_, ?_, ?_, ?_, fun o Y kk => ?_⟩
  · exact ((((hFu.mono rfl).putA rfl).putA rfl).putA rfl).put rfl
  · rw [xu_other _ _ _ (by decide), xu_other _ _ _ (by decide), xu_other _ _ _ (by decide), xu_other _ _ _ (by decide)]; exact u0.1
  · rw [xu_other _ _ _ (by decide), xu_other _ _ _ (by decide), xu_other _ _ _ (by decide), xu_other _ _ _ (by decide)]; exact u0.2.1
  · rw [xu_other _ _ _ (by decide), xu_other _ _ _ (by decide), xu_other _ _ _ (by decide), xu_other _ _ _ (by decide)]; exact u0.2.2.1
  · rw [xu_other _ _ _ (by decide), xu_other _ _ _ (by decide), xu_other _ _ _ (by decide), xu_other _ _ _ (by decide)]; exact u0.2.2.2
  · rw [plM_snoc (by rw [u18]; exact hN.1), epl]
  · rw [xu_same, u18]
  · have k349 : x_E MX12_find 0 0 339 [some (.ref 281), some (.int (ii r)), some (.long (ll K)), none, some (.int (ii (-1))), some (.int (ii b')), some (.int (ii f')), some (.int (ii 3)), none] [] (St u) 0 0 o Y := by
      rw [u18] at kk
      have hN1 := hN.1
      have hN2 := hN.2
      generalize s 281 18 = N at *
      have v1 : xu u 292 N K 281 18 = N := by rw [xu_other _ _ _ (by decide)]; exact u18
      have v2 : xu (xu u 292 N K) 293 N b' 281 18 = N := by rw [xu_other _ _ _ (by decide)]; exact v1
      have v3 : xu (xu (xu u 292 N K) 293 N b') 294 N f' 281 18 = N := by rw [xu_other _ _ _ (by decide)]; exact v2
      refine e_aload_n 189 340 rfl rfl rfl rfl ?_
      refine g_getI 190 343 18 ckX12 flX12_270 rfl rfl (Nat.le_of_ble_eq_true rfl) rfl rfl rfl u18 ?_
      refine e_sipush 191 346 rfl rfl rfl ?_
      refine e_icmp_ge 192 391 349 rfl rfl rfl (by unfold xr at *; omega) (by unfold xr at *; omega) (fun h9 => absurd h9 (by omega)) (fun _ => ?_)
      refine e_aload_n 193 350 rfl rfl rfl rfl ?_
      refine g_getR 194 353 ckX12 flX12_41 rfl rfl (Nat.le_of_ble_eq_true rfl) rfl rfl ?_
      refine e_aload_n 195 354 rfl rfl rfl rfl ?_
      refine g_getI 196 357 18 ckX12 flX12_270 rfl rfl (Nat.le_of_ble_eq_true rfl) rfl rfl rfl u18 ?_
      refine e_lload_n 197 358 rfl rfl rfl rfl ?_
      refine g_lastore 198 359 rfl rfl (Nat.le_of_ble_eq_true rfl) rfl (by omega) (by omega) (by omega) ?_
      refine e_aload_n 199 360 rfl rfl rfl rfl ?_
      refine g_getR 200 363 ckX12 flX12_45 rfl rfl (Nat.le_of_ble_eq_true rfl) rfl rfl ?_
      refine e_aload_n 201 364 rfl rfl rfl rfl ?_
      refine g_getI 202 367 18 ckX12 flX12_270 rfl rfl (Nat.le_of_ble_eq_true rfl) rfl rfl rfl v1 ?_
      refine e_iload 203 369 rfl rfl rfl ?_
      refine g_iastore 204 370 rfl rfl (Nat.le_of_ble_eq_true rfl) rfl (by omega) (by omega) (by omega) ?_
      refine e_aload_n 205 371 rfl rfl rfl rfl ?_
      refine g_getR 206 374 ckX12 flX12_48 rfl rfl (Nat.le_of_ble_eq_true rfl) rfl rfl ?_
      refine e_aload_n 207 375 rfl rfl rfl rfl ?_
      refine g_getI 208 378 18 ckX12 flX12_270 rfl rfl (Nat.le_of_ble_eq_true rfl) rfl rfl rfl v2 ?_
      refine e_iload 209 380 rfl rfl rfl ?_
      refine g_iastore 210 381 rfl rfl (Nat.le_of_ble_eq_true rfl) rfl (by omega) (by omega) (by omega) ?_
      refine e_aload_n 211 382 rfl rfl rfl rfl ?_
      refine e_dup 212 383 rfl rfl rfl ?_
      refine g_getI 213 386 18 ckX12 flX12_270 rfl rfl (Nat.le_of_ble_eq_true rfl) rfl rfl rfl v3 ?_
      refine e_iconst 214 387 rfl rfl ?_
      refine e_iadd 215 388 rfl rfl ?_
      refine g_putI 216 391 18 ckX12 flX12_270 rfl rfl (Nat.le_of_ble_eq_true rfl) rfl rfl rfl ?_
      refine e_dropm [true, true, true, false, false, false, false, false, false] (ls' := [some _, some _, some _, none, none, none, none, none, none]) rfl ?_
      exact kk
    rw [hu] at k349
    have k323 : x_E MX12_find 0 0 323 [some (.ref 281), some (.int (ii r)), some (.long (ll K)), none, some (.int (ii (-1))), some (.int (ii b')), some (.int (ii f')), some (.int (ii 3)), none] [] (St (xu s 295 2 (s 295 2 + 1))) 0 0 o Y := by
      refine e_aload_n 179 324 rfl rfl rfl rfl ?_
      refine g_getR 180 327 ckX12 flX12_51 rfl rfl (Nat.le_of_ble_eq_true rfl) rfl rfl ?_
      refine e_iconst 181 328 rfl rfl ?_
      refine e_iload 182 330 rfl rfl rfl ?_
      refine g_iastore 183 331 rfl rfl (Nat.le_of_ble_eq_true rfl) rfl (by omega) (by omega) (by omega) ?_
      refine e_aload_n 184 332 rfl rfl rfl rfl ?_
      refine g_getR 185 335 ckX12 flX12_51 rfl rfl (Nat.le_of_ble_eq_true rfl) rfl rfl ?_
      refine e_iconst 186 336 rfl rfl ?_
      refine e_iload 187 338 rfl rfl rfl ?_
      refine g_iastore 188 339 rfl rfl (Nat.le_of_ble_eq_true rfl) rfl (by omega) (by omega) (by omega) ?_
      exact k349
    have e2 : xu s 295 2 (s 295 2 + 1) 281 2 = d := by rw [xu_other _ _ _ (by decide)]; exact h2
    by_cases w1 : f = -1
    · rw [if_pos (Or.inl w1)] at hbb hff
      subst hbb
      subst hff
      refine e_iload 101 172 rfl rfl rfl ?_
      refine e_iconst 102 173 rfl rfl ?_
      refine e_icmp_ge 103 264 176 rfl rfl rfl (by unfold xr at *; omega) (by unfold xr at *; omega) (fun _ => ?_) (fun h9 => absurd h9 (by omega))
      refine e_aload_n 148 265 rfl rfl rfl rfl ?_
      refine g_getR 149 268 ckX12 flX12_51 rfl rfl (Nat.le_of_ble_eq_true rfl) rfl rfl ?_
      refine e_iconst 150 269 rfl rfl ?_
      refine e_dup2 151 270 rfl rfl rfl rfl ?_
      refine g_iaload 152 271 rfl rfl (Nat.le_of_ble_eq_true rfl) rfl (by omega) (by omega) (by omega) rfl ?_
      refine e_iconst 153 272 rfl rfl ?_
      refine e_iadd 154 273 rfl rfl ?_
      refine g_iastore 155 274 rfl rfl (Nat.le_of_ble_eq_true rfl) rfl (by omega) (by omega) (by omega) ?_
      refine e_iload 156 276 rfl rfl rfl ?_
      refine e_iconst 157 277 rfl rfl ?_
      refine e_icmp_eq 158 289 280 rfl rfl rfl hfr xm1 (fun _ => ?_) (fun h9 => absurd h9 (fun q => q w1))
      refine e_iconst 163 290 rfl rfl ?_
      refine e_goto 164 295 rfl rfl ?_
      refine e_istore 166 297 (ls' := [some _, some _, some _, none, some _, some _, some _, some _, none]) rfl rfl (Nat.le_of_ble_eq_true rfl) rfl ?_
      refine e_iload 167 299 rfl rfl rfl ?_
      refine e_iconst 168 300 rfl rfl ?_
      refine e_icmp_eq 169 312 303 rfl rfl rfl hfr xm1 (fun _ => ?_) (fun h9 => absurd h9 (fun q => q w1))
      refine e_aload_n 174 313 rfl rfl rfl rfl ?_
      refine g_getI 175 316 2 ckX12 flX12_227 rfl rfl (Nat.le_of_ble_eq_true rfl) rfl rfl rfl e2 ?_
      refine e_goto 176 321 rfl rfl ?_
      refine e_istore 178 323 (ls' := [some _, some _, some _, none, some _, some _, some _, some _, none]) rfl rfl (Nat.le_of_ble_eq_true rfl) rfl ?_
      exact k323
    · by_cases w2 : d < f
      · rw [if_pos (Or.inr w2)] at hbb hff
        subst hbb
        subst hff
        refine e_iload 101 172 rfl rfl rfl ?_
        refine e_iconst 102 173 rfl rfl ?_
        refine e_icmp_ge 103 264 176 rfl rfl rfl (by unfold xr at *; omega) (by unfold xr at *; omega) (fun _ => ?_) (fun h9 => absurd h9 (by omega))
        refine e_aload_n 148 265 rfl rfl rfl rfl ?_
        refine g_getR 149 268 ckX12 flX12_51 rfl rfl (Nat.le_of_ble_eq_true rfl) rfl rfl ?_
        refine e_iconst 150 269 rfl rfl ?_
        refine e_dup2 151 270 rfl rfl rfl rfl ?_
        refine g_iaload 152 271 rfl rfl (Nat.le_of_ble_eq_true rfl) rfl (by omega) (by omega) (by omega) rfl ?_
        refine e_iconst 153 272 rfl rfl ?_
        refine e_iadd 154 273 rfl rfl ?_
        refine g_iastore 155 274 rfl rfl (Nat.le_of_ble_eq_true rfl) rfl (by omega) (by omega) (by omega) ?_
        refine e_iload 156 276 rfl rfl rfl ?_
        refine e_iconst 157 277 rfl rfl ?_
        refine e_icmp_eq 158 289 280 rfl rfl rfl hfr xm1 (fun h9 => absurd h9 w1) (fun _ => ?_)
        refine e_aload_n 159 281 rfl rfl rfl rfl ?_
        refine g_getI 160 284 2 ckX12 flX12_227 rfl rfl (Nat.le_of_ble_eq_true rfl) rfl rfl rfl e2 ?_
        refine e_iload 161 286 rfl rfl rfl ?_
        refine e_icmp_ge 162 293 289 rfl rfl rfl xd hfr (fun h9 => absurd h9 (by omega)) (fun _ => ?_)
        refine e_iconst 163 290 rfl rfl ?_
        refine e_goto 164 295 rfl rfl ?_
        refine e_istore 166 297 (ls' := [some _, some _, some _, none, some _, some _, some _, some _, none]) rfl rfl (Nat.le_of_ble_eq_true rfl) rfl ?_
        refine e_iload 167 299 rfl rfl rfl ?_
        refine e_iconst 168 300 rfl rfl ?_
        refine e_icmp_eq 169 312 303 rfl rfl rfl hfr xm1 (fun h9 => absurd h9 w1) (fun _ => ?_)
        refine e_aload_n 170 304 rfl rfl rfl rfl ?_
        refine g_getI 171 307 2 ckX12 flX12_227 rfl rfl (Nat.le_of_ble_eq_true rfl) rfl rfl rfl e2 ?_
        refine e_iload 172 309 rfl rfl rfl ?_
        refine e_icmp_ge 173 319 312 rfl rfl rfl xd hfr (fun h9 => absurd h9 (by omega)) (fun _ => ?_)
        refine e_aload_n 174 313 rfl rfl rfl rfl ?_
        refine g_getI 175 316 2 ckX12 flX12_227 rfl rfl (Nat.le_of_ble_eq_true rfl) rfl rfl rfl e2 ?_
        refine e_goto 176 321 rfl rfl ?_
        refine e_istore 178 323 (ls' := [some _, some _, some _, none, some _, some _, some _, some _, none]) rfl rfl (Nat.le_of_ble_eq_true rfl) rfl ?_
        exact k323
      · rw [if_neg (fun q => q.elim w1 w2)] at hbb hff
        subst hbb
        subst hff
        refine e_iload 101 172 rfl rfl rfl ?_
        refine e_iconst 102 173 rfl rfl ?_
        refine e_icmp_ge 103 264 176 rfl rfl rfl (by unfold xr at *; omega) (by unfold xr at *; omega) (fun _ => ?_) (fun h9 => absurd h9 (by omega))
        refine e_aload_n 148 265 rfl rfl rfl rfl ?_
        refine g_getR 149 268 ckX12 flX12_51 rfl rfl (Nat.le_of_ble_eq_true rfl) rfl rfl ?_
        refine e_iconst 150 269 rfl rfl ?_
        refine e_dup2 151 270 rfl rfl rfl rfl ?_
        refine g_iaload 152 271 rfl rfl (Nat.le_of_ble_eq_true rfl) rfl (by omega) (by omega) (by omega) rfl ?_
        refine e_iconst 153 272 rfl rfl ?_
        refine e_iadd 154 273 rfl rfl ?_
        refine g_iastore 155 274 rfl rfl (Nat.le_of_ble_eq_true rfl) rfl (by omega) (by omega) (by omega) ?_
        refine e_iload 156 276 rfl rfl rfl ?_
        refine e_iconst 157 277 rfl rfl ?_
        refine e_icmp_eq 158 289 280 rfl rfl rfl hfr xm1 (fun h9 => absurd h9 w1) (fun _ => ?_)
        refine e_aload_n 159 281 rfl rfl rfl rfl ?_
        refine g_getI 160 284 2 ckX12 flX12_227 rfl rfl (Nat.le_of_ble_eq_true rfl) rfl rfl rfl e2 ?_
        refine e_iload 161 286 rfl rfl rfl ?_
        refine e_icmp_ge 162 293 289 rfl rfl rfl xd hfr (fun _ => ?_) (fun h9 => absurd h9 (by omega))
        refine e_iload 165 295 rfl rfl rfl ?_
        refine e_istore 166 297 (ls' := [some _, some _, some _, none, some _, some _, some _, some _, none]) rfl rfl (Nat.le_of_ble_eq_true rfl) rfl ?_
        refine e_iload 167 299 rfl rfl rfl ?_
        refine e_iconst 168 300 rfl rfl ?_
        refine e_icmp_eq 169 312 303 rfl rfl rfl hfr xm1 (fun h9 => absurd h9 w1) (fun _ => ?_)
        refine e_aload_n 170 304 rfl rfl rfl rfl ?_
        refine g_getI 171 307 2 ckX12 flX12_227 rfl rfl (Nat.le_of_ble_eq_true rfl) rfl rfl rfl e2 ?_
        refine e_iload 172 309 rfl rfl rfl ?_
        refine e_icmp_ge 173 319 312 rfl rfl rfl xd hfr (fun _ => ?_) (fun h9 => absurd h9 (by omega))
        refine e_iload 177 321 rfl rfl rfl ?_
        refine e_istore 178 323 (ls' := [some _, some _, some _, none, some _, some _, some _, some _, none]) rfl rfl (Nat.le_of_ble_eq_true rfl) rfl ?_
        exact k323
theorem f1_none {s : xSig} {r K N : Int} {o : xO} {Y : xS} (kk : x_E MX12_find 0 0 170 [some (.ref 281), some (.int (ii r)), some (.long (ll K)), none, some (.int (ii (-1))), some (.int (ii (-1))), some (.int (ii (-1))), some (.int (ii 0)), none] [] (St (xu (xu s 295 2 0) 295 3 0)) 0 0 o Y) : x_E MX12_find 0 0 69 [some (.ref 281), some (.int (ii r)), some (.long (ll K)), none, some (.int (ii (-1))), some (.int (ii N)), none, none, none] [] (St s) 0 0 o Y := by
  refine e_aload_n 38 70 rfl rfl rfl rfl ?_
  refine g_getR 39 73 ckX12 flX12_51 rfl rfl (Nat.le_of_ble_eq_true rfl) rfl rfl ?_
  refine e_iconst 40 74 rfl rfl ?_
  refine e_iconst 41 75 rfl rfl ?_
  refine g_iastore 42 76 rfl rfl (Nat.le_of_ble_eq_true rfl) rfl (by omega) (by omega) (by omega) ?_
  refine e_aload_n 43 77 rfl rfl rfl rfl ?_
  refine g_getR 44 80 ckX12 flX12_51 rfl rfl (Nat.le_of_ble_eq_true rfl) rfl rfl ?_
  refine e_iconst 45 81 rfl rfl ?_
  refine e_iconst 46 82 rfl rfl ?_
  refine g_iastore 47 83 rfl rfl (Nat.le_of_ble_eq_true rfl) rfl (by omega) (by omega) (by omega) ?_
  refine e_iload 48 85 rfl rfl rfl ?_
  refine e_iconst 49 86 rfl rfl ?_
  refine e_icmp_eq 50 155 89 rfl rfl rfl (by unfold xr at *; omega) (by unfold xr at *; omega) (fun _ => ?_) (fun h9 => absurd h9 (fun q => q rfl))
  refine e_iload 92 157 rfl rfl rfl ?_
  refine e_iconst 93 158 rfl rfl ?_
  refine e_icmp_ne 94 391 161 rfl rfl rfl (by unfold xr at *; omega) (by unfold xr at *; omega) (fun h9 => absurd h9 (fun q => q rfl)) (fun _ => ?_)
  refine e_iconst 95 162 rfl rfl ?_
  refine e_istore 96 164 (ls' := [some _, some _, some _, none, some _, some _, none, none, none]) rfl rfl (Nat.le_of_ble_eq_true rfl) rfl ?_
  refine e_iconst 97 165 rfl rfl ?_
  refine e_istore 98 167 (ls' := [some _, some _, some _, none, some _, some _, some _, none, none]) rfl rfl (Nat.le_of_ble_eq_true rfl) rfl ?_
  refine e_iconst 99 168 rfl rfl ?_
  refine e_istore 100 170 (ls' := [some _, some _, some _, none, some _, some _, some _, some _, none]) rfl rfl (Nat.le_of_ble_eq_true rfl) rfl ?_
  exact kk
theorem f1_plan {s : xSig} {r K N a x v l : Int} (ha : 0 ≤ a ∧ a < s 281 18) (h18 : s 281 18 ≤ 512) (hx : s 293 a = x) (hl : s 294 a = l) (hlb : 0 ≤ l ∧ l ≤ 100) (hvb : 0 ≤ v ∧ v ≤ 100) (hlk : ∀ u, FP [(295, -1)] s u → ∃ u', x_Sp MX12_looked 0 0 [.ref 281, .int (ii x)] (St u) (iv v) (St u') ∧ FP lk9 u u') :
    ∃ s3, FP [(306, -1), (281, 41), (311, -1), (295, -1)] s s3 ∧ s3 295 0 = x ∧ s3 295 1 = v ∧ s3 295 2 = 0 ∧ s3 295 3 = 0 ∧
      (v ≤ 2 * l + 2 → ∀ (o : xO) (Y : xS), x_E MX12_find 0 0 391 [some (.ref 281), some (.int (ii r)), some (.long (ll K)), none, none, none, none, none, none] [] (St s3) 0 0 o Y → x_E MX12_find 0 0 69 [some (.ref 281), some (.int (ii r)), some (.long (ll K)), none, some (.int (ii a)), some (.int (ii N)), none, none, none] [] (St s) 0 0 o Y) ∧
      (¬ v ≤ 2 * l + 2 → ∀ (o : xO) (Y : xS), x_E MX12_find 0 0 170 [some (.ref 281), some (.int (ii r)), some (.long (ll K)), none, some (.int (ii (-1))), some (.int (ii (-1))), some (.int (ii (-1))), some (.int (ii 0)), none] [] (St (xu (xu (dsh s3 a (s3 281 18 - 1)) 281 18 (s3 281 18 - 1)) 295 3 1)) 0 0 o Y → x_E MX12_find 0 0 69 [some (.ref 281), some (.int (ii r)), some (.long (ll K)), none, some (.int (ii a)), some (.int (ii N)), none, none, none] [] (St s) 0 0 o Y) := by
  have f1 : FP [(295, -1)] s (xu (xu (xu s 295 2 0) 295 3 0) 295 0 x) := ((FP.rf.putA rfl).putA rfl).putA rfl
  obtain ⟨s2, c2, f2⟩ := hlk _ f1
  have e293 : xu (xu s 295 2 0) 295 3 0 293 a = x := by rw [xu_other _ _ _ (by decide), xu_other _ _ _ (by decide)]; exact hx
  have e293' : xu (xu (xu s 295 2 0) 295 3 0) 295 0 x 293 a = x := by rw [xu_other _ _ _ (by decide)]; exact e293
  have e1 : xu s2 295 1 v 295 1 = v := xu_same _ _ _ _
  have e294 : xu s2 295 1 v 294 a = l := by rw [xu_other _ _ _ (by decide), f2.cell 294 rfl, f1.cell 294 rfl]; exact hl
  have e18 : xu s2 295 1 v 281 18 = s 281 18 := by rw [xu_other _ _ _ (by decide), f2 281 18 rfl, f1 281 18 rfl]
  have hv2 : ∀ j : Int, j ≠ 1 → xu s2 295 1 v 295 j = xu (xu (xu s 295 2 0) 295 3 0) 295 0 x 295 j := fun j hj => by
    rw [xu_ne _ (Or.inr hj), f2.cell 295 rfl]
  have xa : xr a := by unfold xr; omega
  have xv : xr v := by unfold xr; omega
  have xl : xr (2 * l + 2) := by unfold xr; omega
  have to136 : ∀ {o : xO} {Y : xS}, x_E MX12_find 0 0 136 [some (.ref 281), some (.int (ii r)), some (.long (ll K)), none, some (.int (ii a)), some (.int (ii N)), none, none, none] [.int (ii (2 * l + 2)), .int (ii v)] (St (xu s2 295 1 v)) 0 0 o Y → x_E MX12_find 0 0 69 [some (.ref 281), some (.int (ii r)), some (.long (ll K)), none, some (.int (ii a)), some (.int (ii N)), none, none, none] [] (St s) 0 0 o Y := by
    intro o Y kk
    refine e_aload_n 38 70 rfl rfl rfl rfl ?_
    refine g_getR 39 73 ckX12 flX12_51 rfl rfl (Nat.le_of_ble_eq_true rfl) rfl rfl ?_
    refine e_iconst 40 74 rfl rfl ?_
    refine e_iconst 41 75 rfl rfl ?_
    refine g_iastore 42 76 rfl rfl (Nat.le_of_ble_eq_true rfl) rfl (by omega) (by omega) (by omega) ?_
    refine e_aload_n 43 77 rfl rfl rfl rfl ?_
    refine g_getR 44 80 ckX12 flX12_51 rfl rfl (Nat.le_of_ble_eq_true rfl) rfl rfl ?_
    refine e_iconst 45 81 rfl rfl ?_
    refine e_iconst 46 82 rfl rfl ?_
    refine g_iastore 47 83 rfl rfl (Nat.le_of_ble_eq_true rfl) rfl (by omega) (by omega) (by omega) ?_
    refine e_iload 48 85 rfl rfl rfl ?_
    refine e_iconst 49 86 rfl rfl ?_
    refine e_icmp_eq 50 155 89 rfl rfl rfl xa xm1 (fun h9 => absurd h9 (by omega)) (fun _ => ?_)
    refine e_aload_n 51 90 rfl rfl rfl rfl ?_
    refine g_getR 52 93 ckX12 flX12_51 rfl rfl (Nat.le_of_ble_eq_true rfl) rfl rfl ?_
    refine e_iconst 53 94 rfl rfl ?_
    refine e_aload_n 54 95 rfl rfl rfl rfl ?_
    refine g_getR 55 98 ckX12 flX12_45 rfl rfl (Nat.le_of_ble_eq_true rfl) rfl rfl ?_
    refine e_iload 56 100 rfl rfl rfl ?_
    refine g_iaload 57 101 rfl rfl (Nat.le_of_ble_eq_true rfl) rfl (by omega) (by omega) (by omega) e293 ?_
    refine g_iastore 58 102 rfl rfl (Nat.le_of_ble_eq_true rfl) rfl (by omega) (by omega) (by omega) ?_
    refine e_aload_n 59 103 rfl rfl rfl rfl ?_
    refine g_getR 60 106 ckX12 flX12_51 rfl rfl (Nat.le_of_ble_eq_true rfl) rfl rfl ?_
    refine e_iconst 61 107 rfl rfl ?_
    refine e_aload_n 62 108 rfl rfl rfl rfl ?_
    refine e_aload_n 63 109 rfl rfl rfl rfl ?_
    refine g_getR 64 112 ckX12 flX12_45 rfl rfl (Nat.le_of_ble_eq_true rfl) rfl rfl ?_
    refine e_iload 65 114 rfl rfl rfl ?_
    refine g_iaload 66 115 rfl rfl (Nat.le_of_ble_eq_true rfl) rfl (by omega) (by omega) (by omega) e293' ?_
    refine g_callV 67 118 (c2) okX12_looked cvX12_305 ⟨(Nat.le_of_ble_eq_true rfl), (Nat.le_of_ble_eq_true rfl)⟩ rfl rfl (Nat.le_of_ble_eq_true rfl) rfl rfl rfl rfl rfl (Nat.le_of_ble_eq_true rfl) (Nat.le_of_ble_eq_true rfl) (Nat.le_of_ble_eq_true rfl) ?_
    refine g_iastore 68 119 rfl rfl (Nat.le_of_ble_eq_true rfl) rfl (by omega) (by omega) (by omega) ?_
    refine e_aload_n 69 120 rfl rfl rfl rfl ?_
    refine g_getR 70 123 ckX12 flX12_51 rfl rfl (Nat.le_of_ble_eq_true rfl) rfl rfl ?_
    refine e_iconst 71 124 rfl rfl ?_
    refine g_iaload 72 125 rfl rfl (Nat.le_of_ble_eq_true rfl) rfl (by omega) (by omega) (by omega) e1 ?_
    refine e_iconst 73 126 rfl rfl ?_
    refine e_aload_n 74 127 rfl rfl rfl rfl ?_
    refine g_getR 75 130 ckX12 flX12_48 rfl rfl (Nat.le_of_ble_eq_true rfl) rfl rfl ?_
    refine e_iload 76 132 rfl rfl rfl ?_
    refine g_iaload 77 133 rfl rfl (Nat.le_of_ble_eq_true rfl) rfl (by omega) (by omega) (by omega) e294 ?_
    refine e_imul 78 134 rfl rfl ?_
    refine e_iconst 79 135 rfl rfl ?_
    refine e_iadd 80 136 rfl rfl ?_
    exact kk
  refine ⟨xu s2 295 1 v, ?_, ?_, e1, ?_, ?_, fun hle o Y kk => to136 ?_, fun hle o Y kk => to136 ?_⟩
  · exact ((f1.mono rfl).tr (f2.mono rfl)).putA rfl
  · rw [hv2 0 (by decide), xu_same]
  · rw [hv2 2 (by decide)]; simp [xu]
  · rw [hv2 3 (by decide)]; simp [xu]
  · skip
    refine e_icmp_le 81 155 139 rfl rfl rfl xv xl (fun _ => ?_) (fun h9 => absurd h9 (by omega))
    refine e_iload 92 157 rfl rfl rfl ?_
    refine e_iconst 93 158 rfl rfl ?_
    refine e_icmp_ne 94 391 161 rfl rfl rfl xa xm1 (fun _ => ?_) (fun h9 => absurd h9 (by omega))
    refine e_dropm [true, true, true, false, false, false, false, false, false] (ls' := [some _, some _, some _, none, none, none, none, none, none]) rfl ?_
    exact kk
  · have pd := sp_mDropPlan (s := xu s2 295 1 v) (p := a) ha.1 (by rw [e18]; exact ha.2) (by rw [e18]; exact h18)
    refine e_icmp_le 81 155 139 rfl rfl rfl xv xl (fun h9 => absurd h9 (by omega)) (fun _ => ?_)
    refine e_aload_n 82 140 rfl rfl rfl rfl ?_
    refine e_iload 83 142 rfl rfl rfl ?_
    refine g_callV 84 145 (pd) okX12_dropPlan cvX12_276 ⟨(Nat.le_of_ble_eq_true rfl), (Nat.le_of_ble_eq_true rfl)⟩ rfl rfl (Nat.le_of_ble_eq_true rfl) rfl rfl rfl rfl rfl (Nat.le_of_ble_eq_true rfl) (Nat.le_of_ble_eq_true rfl) (Nat.le_of_ble_eq_true rfl) ?_
    refine e_iconst 85 146 rfl rfl ?_
    refine e_istore 86 148 (ls' := [some _, some _, some _, none, some _, some _, none, none, none]) rfl rfl (Nat.le_of_ble_eq_true rfl) rfl ?_
    refine e_aload_n 87 149 rfl rfl rfl rfl ?_
    refine g_getR 88 152 ckX12 flX12_51 rfl rfl (Nat.le_of_ble_eq_true rfl) rfl rfl ?_
    refine e_iconst 89 153 rfl rfl ?_
    refine e_iconst 90 154 rfl rfl ?_
    refine g_iastore 91 155 rfl rfl (Nat.le_of_ble_eq_true rfl) rfl (by omega) (by omega) (by omega) ?_
    refine e_iload 92 157 rfl rfl rfl ?_
    refine e_iconst 93 158 rfl rfl ?_
    refine e_icmp_ne 94 391 161 rfl rfl rfl (by unfold xr at *; omega) (by unfold xr at *; omega) (fun h9 => absurd h9 (fun q => q rfl)) (fun _ => ?_)
    refine e_iconst 95 162 rfl rfl ?_
    refine e_istore 96 164 (ls' := [some _, some _, some _, none, some _, some _, none, none, none]) rfl rfl (Nat.le_of_ble_eq_true rfl) rfl ?_
    refine e_iconst 97 165 rfl rfl ?_
    refine e_istore 98 167 (ls' := [some _, some _, some _, none, some _, some _, some _, none, none]) rfl rfl (Nat.le_of_ble_eq_true rfl) rfl ?_
    refine e_iconst 99 168 rfl rfl ?_
    refine e_istore 100 170 (ls' := [some _, some _, some _, none, some _, some _, some _, some _, none]) rfl rfl (Nat.le_of_ble_eq_true rfl) rfl ?_
    exact kk
/-- what the model has found -/
def MH9 (s : xSig) (F : List Int) : Prop := s 281 21 = F.length ∧ F.length ≤ 60 ∧ ∀ i : Nat, i < F.length → s 296 i = F.getD i 0
theorem MH9.snoc {s : xSig} {F : List Int} (h : MH9 s F) (hl : F.length < 60) (i : Int) : MH9 (xu (xu s 296 F.length i) 281 21 (F.length + 1)) (F ++ [i]) := by
  refine ⟨by rw [xu_same]; simp, by simp; omega, fun j hj => ?_⟩
  rw [xu_other _ _ _ (by decide)]
  by_cases c : j = F.length
  · subst c
    rw [xu_same]
    exact (getD_mid F [] i).symm
  · have hj2 : j < F.length := by simp at hj; omega
    rw [xu_ne _ (Or.inr (by omega)), h.2.2 j hj2]
    simp [List.getD_eq_getElem?_getD, List.getElem?_append_left hj2]
theorem MH9.fp {s s' : xSig} {F : List Int} {L : List (Nat × Int)} (h : MH9 s F) (hF : FP L s s') (ho : ovl [(281, 21), (296, -1)] L = false) : MH9 s' F := by
  have s9 := sam_fp hF ho
  exact ⟨by rw [s9.at 281 21 rfl]; exact h.1, h.2.1, fun i hi => by rw [s9.cell 296 rfl]; exact h.2.2 i hi⟩
abbrev dL9 : List (Nat × Int) := [(306, -1), (281, 41), (311, -1), (281, 21), (296, -1)]
theorem fd_lp {τ : xSig} {T : Nat → List Int} {G : Nat → Fo} {r K : Int} {FF : List Int} (h60 : FF.length ≤ 60) : ∀ (m i : Nat) (F : List Int) (s : xSig), i + m = 100 → F ++ fnd (fits9 τ T) i m = FF → MH9 s F → FND τ T G s → ∃ s', x_E MX12_find 0 0 399 [some (.ref 281), some (.int (ii r)), some (.long (ll K)), none, none, some (.int (ii i)), none, none, none] [] (St s) 0 0 (iv FF.length) (St s') ∧ MH9 s' FF ∧ FP dL9 s s' := by
  intro m
  induction m with
  | zero =>
    intro i F s hi hFF hH hN
    have e : F = FF := by rw [← hFF]; simp [fnd]
    subst e
    have h21 := hH.1
    refine ⟨s, ?_, hH, FP.rf⟩
    refine e_iload 222 401 rfl rfl rfl ?_
    refine e_bipush 223 403 rfl rfl rfl ?_
    refine e_icmp_ge 224 452 406 rfl rfl rfl (by unfold xr at *; omega) (by unfold xr at *; omega) (fun _ => ?_) (fun h9 => absurd h9 (by omega))
    refine e_aload_n 248 453 rfl rfl rfl rfl ?_
    refine g_getI 249 456 21 ckX12 flX12_308 rfl rfl (Nat.le_of_ble_eq_true rfl) rfl rfl rfl h21 ?_
    exact e_ireturn 250 rfl rfl (Nat.le_of_ble_eq_true rfl) (Nat.le_of_ble_eq_true rfl)
  | succ m ih =>
    intro i F s hi hFF hH hN
    have e3 := hN.2.1.2 i (by omega)
    have no : ∀ s1, FP lk9 s s1 → fits9 τ T i = false → ∃ s', x_E MX12_find 0 0 446 [some (.ref 281), some (.int (ii r)), some (.long (ll K)), none, none, some (.int (ii i)), none, none, none] [] (St s1) 0 0 (iv FF.length) (St s') ∧ MH9 s' FF ∧ FP dL9 s s' := by
      intro s1 g hf
      obtain ⟨s', k1, k2, k3⟩ := ih (i + 1) F s1 (by omega) (by rw [← hFF]; simp only [fnd, hf]; simp) (hH.fp g rfl) (hN.fp g rfl)
      refine ⟨s', ?_, k2, FP.tr (g.mono rfl) k3⟩
      refine e_iinc 246 449 (ls' := [some _, some _, some _, none, none, some _, none, none, none]) rfl rfl (Nat.le_of_ble_eq_true rfl) rfl rfl ?_
      refine e_goto 247 399 rfl rfl ?_
      exact k1
    cases hh : hasd τ i with
    | false =>
      obtain ⟨s', k1, k2, k3⟩ := no s FP.rf (by unfold fits9; rw [hh]; rfl)
      rw [hh] at e3
      refine ⟨s', ?_, k2, k3⟩
      refine e_iload 222 401 rfl rfl rfl ?_
      refine e_bipush 223 403 rfl rfl rfl ?_
      refine e_icmp_ge 224 452 406 rfl rfl rfl (by unfold xr at *; omega) (by unfold xr at *; omega) (fun h9 => absurd h9 (by omega)) (fun _ => ?_)
      refine e_aload_n 225 407 rfl rfl rfl rfl ?_
      refine g_getR 226 410 ckX12 flX12_13 rfl rfl (Nat.le_of_ble_eq_true rfl) rfl rfl ?_
      refine e_iload 227 412 rfl rfl rfl ?_
      refine g_baload 228 413 rfl rfl (Nat.le_of_ble_eq_true rfl) rfl (by omega) (by omega) (by omega) e3 ?_
      refine e_ifb_eq 229 446 416 rfl rfl rfl (fun h => ?_) (fun h => ?_)
      · skip
        exact k1
      · skip
        cases h
    | true =>
      rw [hh] at e3
      obtain ⟨Fo9, d1, d2, d3⟩ := hN.2.1.1 i (by omega) hh
      obtain ⟨s1, c1, f1⟩ := sp_mFitsAll hN.1 d2 d3
      cases hb : fal τ T (T (31 + 2 * i)) with
      | false =>
        rw [hb] at c1
        obtain ⟨s', k1, k2, k3⟩ := no s1 f1 (by unfold fits9; rw [hb, Bool.and_false])
        refine ⟨s', ?_, k2, k3⟩
        refine e_iload 222 401 rfl rfl rfl ?_
        refine e_bipush 223 403 rfl rfl rfl ?_
        refine e_icmp_ge 224 452 406 rfl rfl rfl (by unfold xr at *; omega) (by unfold xr at *; omega) (fun h9 => absurd h9 (by omega)) (fun _ => ?_)
        refine e_aload_n 225 407 rfl rfl rfl rfl ?_
        refine g_getR 226 410 ckX12 flX12_13 rfl rfl (Nat.le_of_ble_eq_true rfl) rfl rfl ?_
        refine e_iload 227 412 rfl rfl rfl ?_
        refine g_baload 228 413 rfl rfl (Nat.le_of_ble_eq_true rfl) rfl (by omega) (by omega) (by omega) e3 ?_
        refine e_ifb_eq 229 446 416 rfl rfl rfl (fun h => ?_) (fun h => ?_)
        · skip
          cases h
        · skip
          refine e_aload_n 230 417 rfl rfl rfl rfl ?_
          refine e_iload 231 419 rfl rfl rfl ?_
          refine g_callV 232 422 (c1) okX12_fitsAll cvX12_311 ⟨(Nat.le_of_ble_eq_true rfl), (Nat.le_of_ble_eq_true rfl)⟩ rfl rfl (Nat.le_of_ble_eq_true rfl) rfl rfl rfl rfl rfl (Nat.le_of_ble_eq_true rfl) (Nat.le_of_ble_eq_true rfl) (Nat.le_of_ble_eq_true rfl) ?_
          refine e_ifb_eq 233 446 425 rfl rfl rfl (fun h2 => ?_) (fun h2 => ?_)
          · skip
            exact k1
          · skip
            cases h2
      | true =>
        rw [hb] at c1
        have hfit : fits9 τ T i = true := by unfold fits9; rw [hh, hb]; rfl
        have hFF2 : (F ++ [(i : Int)]) ++ fnd (fits9 τ T) (i + 1) m = FF := by
          rw [← hFF, List.append_assoc]
          simp only [fnd, hfit]
          rfl
        have hl60 : F.length < 60 := by
          have := congrArg List.length hFF2
          simp only [List.length_append, List.length_cons, List.length_nil] at this
          omega
        have hH1 := hH.fp f1 rfl
        have e21 := hH1.1
        have e21' : xu s1 296 F.length i 281 21 = F.length := by rw [xu_other _ _ _ (by decide)]; exact e21
        obtain ⟨s', k1, k2, k3⟩ := ih (i + 1) (F ++ [(i : Int)]) _ (by omega) hFF2 (hH1.snoc hl60 i) ((hN.fp f1 rfl).fp ((FP.rf.putA rfl).put rfl : FP [(296, -1), (281, 21)] s1 _) rfl)
        refine ⟨s', ?_, k2, FP.tr ((FP.putA (f1.mono rfl) rfl).put rfl) k3⟩
        have hn9 : 0 ≤ (F.length : Int) ∧ (F.length : Int) < 60 := by omega
        generalize (F.length : Int) = n9 at *
        refine e_iload 222 401 rfl rfl rfl ?_
        refine e_bipush 223 403 rfl rfl rfl ?_
        refine e_icmp_ge 224 452 406 rfl rfl rfl (by unfold xr at *; omega) (by unfold xr at *; omega) (fun h9 => absurd h9 (by omega)) (fun _ => ?_)
        refine e_aload_n 225 407 rfl rfl rfl rfl ?_
        refine g_getR 226 410 ckX12 flX12_13 rfl rfl (Nat.le_of_ble_eq_true rfl) rfl rfl ?_
        refine e_iload 227 412 rfl rfl rfl ?_
        refine g_baload 228 413 rfl rfl (Nat.le_of_ble_eq_true rfl) rfl (by omega) (by omega) (by omega) e3 ?_
        refine e_ifb_eq 229 446 416 rfl rfl rfl (fun h => ?_) (fun h => ?_)
        · skip
          cases h
        · skip
          refine e_aload_n 230 417 rfl rfl rfl rfl ?_
          refine e_iload 231 419 rfl rfl rfl ?_
          refine g_callV 232 422 (c1) okX12_fitsAll cvX12_311 ⟨(Nat.le_of_ble_eq_true rfl), (Nat.le_of_ble_eq_true rfl)⟩ rfl rfl (Nat.le_of_ble_eq_true rfl) rfl rfl rfl rfl rfl (Nat.le_of_ble_eq_true rfl) (Nat.le_of_ble_eq_true rfl) (Nat.le_of_ble_eq_true rfl) ?_
          refine e_ifb_eq 233 446 425 rfl rfl rfl (fun h2 => ?_) (fun h2 => ?_)
          · skip
            cases h2
          · skip
            refine e_aload_n 234 426 rfl rfl rfl rfl ?_
            refine g_getR 235 429 ckX12 flX12_54 rfl rfl (Nat.le_of_ble_eq_true rfl) rfl rfl ?_
            refine e_aload_n 236 430 rfl rfl rfl rfl ?_
            refine g_getI 237 433 21 ckX12 flX12_308 rfl rfl (Nat.le_of_ble_eq_true rfl) rfl rfl rfl e21 ?_
            refine e_iload 238 435 rfl rfl rfl ?_
            refine g_iastore 239 436 rfl rfl (Nat.le_of_ble_eq_true rfl) rfl (by omega) (by omega) (by omega) ?_
            refine e_aload_n 240 437 rfl rfl rfl rfl ?_
            refine e_dup 241 438 rfl rfl rfl ?_
            refine g_getI 242 441 21 ckX12 flX12_308 rfl rfl (Nat.le_of_ble_eq_true rfl) rfl rfl rfl e21' ?_
            refine e_iconst 243 442 rfl rfl ?_
            refine e_iadd 244 443 rfl rfl ?_
            refine g_putI 245 446 21 ckX12 flX12_308 rfl rfl (Nat.le_of_ble_eq_true rfl) rfl rfl rfl ?_
            refine e_iinc 246 449 (ls' := [some _, some _, some _, none, none, some _, none, none, none]) rfl rfl (Nat.le_of_ble_eq_true rfl) rfl rfl ?_
            refine e_goto 247 399 rfl rfl ?_
            exact k1
theorem fd_all {τ : xSig} {T : Nat → List Int} {G : Nat → Fo} {r K : Int} (h60 : (fnd (fits9 τ T) 0 100).length ≤ 60) {s : xSig} (hN : FND τ T G s) : ∃ s', x_E MX12_find 0 0 391 [some (.ref 281), some (.int (ii r)), some (.long (ll K)), none, none, none, none, none, none] [] (St s) 0 0 (iv (fnd (fits9 τ T) 0 100).length) (St s') ∧ MH9 s' (fnd (fits9 τ T) 0 100) ∧ FP dL9 s s' := by
  have f0 : FP [(281, 21)] s (xu s 281 21 0) := FP.rf.put rfl
  obtain ⟨s', k1, k2, k3⟩ := fd_lp (r := r) (K := K) h60 100 0 [] (xu s 281 21 0) (by omega) rfl ⟨by rw [xu_same]; rfl, by simp, fun i hi => by simp at hi⟩ (hN.fp f0 rfl)
  refine ⟨s', ?_, k2, FP.tr (f0.mono rfl) k3⟩
  generalize (fnd (fits9 τ T) 0 100) = FF at *
  refine e_aload_n 217 392 rfl rfl rfl rfl ?_
  refine e_iconst 218 393 rfl rfl ?_
  refine g_putI 219 396 21 ckX12 flX12_308 rfl rfl (Nat.le_of_ble_eq_true rfl) rfl rfl rfl ?_
  refine e_iconst 220 397 rfl rfl ?_
  refine e_istore 221 399 (ls' := [some _, some _, some _, none, none, some _, none, none, none]) rfl rfl (Nat.le_of_ble_eq_true rfl) rfl ?_
  exact k1
