/-! ===== steps: findAnew ===== -/
/-- the filters, of both -/
def FIM (τ : xSig) (T : Nat → List Int) (G : Nat → Fo) (σ : xSig) : Prop := (0 ≤ τ 256 4 ∧ τ 256 4 ≤ 3) ∧ σ 281 14 = τ 256 4 ∧ ∀ k : Nat, k < 3 → (k : Int) < τ 256 4 → (σ 290 k = τ (qf k) 1 ∧ σ 291 k = τ (qf k) 2 ∧ MV σ 282 11300 (100 * (110 + k) + 1) (G (265 + 3 * k))) ∧ T (qf k + 1) = tk (G (265 + 3 * k)) ∧ (0 ≤ τ (qf k) 1 ∧ τ (qf k) 1 < 72) ∧ (0 ≤ τ (qf k) 2 ∧ τ (qf k) 2 ≤ 4) ∧ (τ (qf k) 2 = 4 → knd (tok (tk (G (265 + 3 * k))) 0) = 1)
abbrev cF9 : List (Nat × Int) := [(281, 14), (290, -1), (291, -1), (282, -1)]
theorem FIM.fp {τ σ σ' : xSig} {T : Nat → List Int} {G : Nat → Fo} {L : List (Nat × Int)} (h : FIM τ T G σ) (hF : FP L σ σ') (ho : ovl cF9 L = false) : FIM τ T G σ' := by
  have s9 := sam_fp hF ho
  obtain ⟨h1, h2, h3⟩ := h
  refine ⟨h1, by rw [s9.at 281 14 rfl]; exact h2, fun k hk hk4 => ?_⟩
  obtain ⟨⟨g1, g2, g3⟩, g4⟩ := h3 k hk hk4
  refine ⟨⟨?_, ?_, ?_⟩, g4⟩
  · rw [s9.cell 290 rfl]; exact g1
  · rw [s9.cell 291 rfl]; exact g2
  · exact g3.of (s9.cell 282 rfl)
theorem IM.fim {i : Nat} {τ σ : xSig} {T : Nat → List Int} {G : Nat → Fo} (h : IM i τ T G σ) : FIM τ T G σ := by
  refine ⟨(h.1 9).2.2, (h.2 8).1, fun k hk hk4 => ?_⟩
  have eq : qf (k : Int) = 264 + 3 * k := by rw [qf_in (by omega) (by omega)]; simp
  obtain ⟨a1, a2, a3, a4⟩ := h.1 2 k hk hk4
  obtain ⟨b1, b2⟩ := (h.2 8).2 k hk hk4
  have b3 := (h.2 2 k hk4).1
  rw [eq]
  exact ⟨⟨b1, b2, b3⟩, by rw [show 264 + 3 * k + 1 = 265 + 3 * k by omega]; exact a1, a2, a3, a4⟩
theorem IM.flt {i : Nat} {τ σ : xSig} {T : Nat → List Int} {G : Nat → Fo} (h : IM i τ T G σ) : FLT τ T := by
  refine ⟨(h.1 9).2.2, fun k hk => ?_⟩
  have h9 := (h.1 9).2.2
  obtain ⟨⟨-, -, g3⟩, g4, g5, g6, -⟩ := h.fim.2.2 k (by omega) hk
  exact ⟨g5, g6, by rw [g4]; exact ok1_Cv g3.2.1⟩
theorem sp_mFitsAt {σ : xSig} {p : Int} {v w : Fo} {k : Nat} (hk : k < 3) (hv : MV σ 282 11300 p v) (hw : MV σ 282 11300 (100 * (110 + k) + 1) w) {r : Int} (hr : σ 291 k = r) (hr3 : 0 ≤ r ∧ r < 3) : Rm MX12_fitsAt [.ref 281, .int (ii p), .int (ii k)] σ (zv (fitF r (tk w) v)) := by
  obtain ⟨σ1, c1, f1⟩ := sp_mCompare hv hw
  have hli : xr (lexc (tk v) (tk w)) := by
    have := lexc_in (tk v) (tk w)
    unfold xr; omega
  obtain ⟨v1, v2, v3, v4⟩ := mv_fld hv
  obtain ⟨w1, w2, w3, w4⟩ := mv_fld hw
  have bv := knd_bnd (tok (tk v) 0)
  have bw := knd_bnd (tok (tk w) 0)
  have pl := sp_mIsLong (σ := σ) (x := knd (tok (tk v) 0)) (by unfold xr; omega)
  have xkv : xr (knd (tok (tk v) 0)) := by unfold xr; omega
  have xkw : xr (knd (tok (tk w) 0)) := by unfold xr; omega
  obtain ⟨P, hP⟩ : ∃ P : Int, P = 100 * (110 + (k : Int)) + 1 := ⟨_, rfl⟩
  have pf := sp_mFilterAt (σ := σ) (x := k)
  rw [← hP] at pf c1 w1 w2 w3 w4
  have fin : ∀ (b : Bool) (s : xSig) (z : xO) (lv : Option Value), z = zv b → x_E MX12_fitsAt 0 0 133 [some (.ref 281), some (.int (ii p)), some (.int (ii k)), some (.int (ii P)), some (.int (ii r)), lv] [.int (ii (bi b))] (St s) 0 0 z (St s) := by
    intro b s z lv hz
    rw [hz]
    cases lv with
    | none =>
      exact e_zreturn 78 rfl rfl (bi_01 b) (Nat.le_of_ble_eq_true rfl) (Nat.le_of_ble_eq_true rfl)
    | some lv =>
      exact e_zreturn 78 rfl rfl (bi_01 b) (Nat.le_of_ble_eq_true rfl) (Nat.le_of_ble_eq_true rfl)
  by_cases h0 : r = 0
  · refine ⟨σ1, ?_, f1⟩
    have ef : fitF r (tk w) v = decide (lexc (tk v) (tk w) = 0) := by unfold fitF; rw [if_pos h0]
    by_cases hz : lexc (tk v) (tk w) = 0
    · have e1 : fitF r (tk w) v = true := by rw [ef, decT hz]
      rw [e1]
      refine e_entry okX12_fitsAt (Nat.le_of_ble_eq_true rfl) (ls := [some _, some _, some _, none, none, none]) rfl ?_
      refine e_aload_n 0 1 rfl rfl rfl rfl ?_
      refine e_iload_n 1 2 rfl rfl rfl rfl ?_
      refine g_callV 2 5 (pf) okX12_filterAt cvX12_282 ⟨(Nat.le_of_ble_eq_true rfl), (Nat.le_of_ble_eq_true rfl)⟩ rfl rfl (Nat.le_of_ble_eq_true rfl) rfl rfl rfl rfl rfl (Nat.le_of_ble_eq_true rfl) (Nat.le_of_ble_eq_true rfl) (Nat.le_of_ble_eq_true rfl) ?_
      refine e_istore_n 3 6 (ls' := [some _, some _, some _, some _, none, none]) rfl rfl rfl (Nat.le_of_ble_eq_true rfl) rfl ?_
      refine e_aload_n 4 7 rfl rfl rfl rfl ?_
      refine g_getR 5 10 ckX12 flX12_38 rfl rfl (Nat.le_of_ble_eq_true rfl) rfl rfl ?_
      refine e_iload_n 6 11 rfl rfl rfl rfl ?_
      refine g_iaload 7 12 rfl rfl (Nat.le_of_ble_eq_true rfl) rfl (by omega) (by omega) (by omega) hr ?_
      refine e_istore 8 14 (ls' := [some _, some _, some _, some _, some _, none]) rfl rfl (Nat.le_of_ble_eq_true rfl) rfl ?_
      refine e_iload 9 16 rfl rfl rfl ?_
      refine e_if_ne 10 42 19 rfl rfl rfl (by unfold xr at *; omega) (fun h9 => absurd h9 (fun q => q h0)) (fun _ => ?_)
      refine e_aload_n 11 20 rfl rfl rfl rfl ?_
      refine e_aload_n 12 21 rfl rfl rfl rfl ?_
      refine g_getR 13 24 ckX12 flX12_7 rfl rfl (Nat.le_of_ble_eq_true rfl) rfl rfl ?_
      refine e_iload_n 14 25 rfl rfl rfl rfl ?_
      refine e_aload_n 15 26 rfl rfl rfl rfl ?_
      refine g_getR 16 29 ckX12 flX12_7 rfl rfl (Nat.le_of_ble_eq_true rfl) rfl rfl ?_
      refine e_iload_n 17 30 rfl rfl rfl rfl ?_
      refine g_callV 18 33 (c1) okX12_compare cvX12_253 ⟨(Nat.le_of_ble_eq_true rfl), (Nat.le_of_ble_eq_true rfl)⟩ rfl rfl (Nat.le_of_ble_eq_true rfl) rfl rfl rfl rfl rfl (Nat.le_of_ble_eq_true rfl) (Nat.le_of_ble_eq_true rfl) (Nat.le_of_ble_eq_true rfl) ?_
      refine e_if_ne 19 40 36 rfl rfl rfl hli (fun h9 => absurd h9 (fun q => q hz)) (fun _ => ?_)
      refine e_iconst 20 37 rfl rfl ?_
      refine e_goto 21 41 rfl rfl ?_
      exact e_zreturn 23 rfl rfl (Or.inr rfl) (Nat.le_of_ble_eq_true rfl) (Nat.le_of_ble_eq_true rfl)
    · have e1 : fitF r (tk w) v = false := by rw [ef, decF hz]
      rw [e1]
      refine e_entry okX12_fitsAt (Nat.le_of_ble_eq_true rfl) (ls := [some _, some _, some _, none, none, none]) rfl ?_
      refine e_aload_n 0 1 rfl rfl rfl rfl ?_
      refine e_iload_n 1 2 rfl rfl rfl rfl ?_
      refine g_callV 2 5 (pf) okX12_filterAt cvX12_282 ⟨(Nat.le_of_ble_eq_true rfl), (Nat.le_of_ble_eq_true rfl)⟩ rfl rfl (Nat.le_of_ble_eq_true rfl) rfl rfl rfl rfl rfl (Nat.le_of_ble_eq_true rfl) (Nat.le_of_ble_eq_true rfl) (Nat.le_of_ble_eq_true rfl) ?_
      refine e_istore_n 3 6 (ls' := [some _, some _, some _, some _, none, none]) rfl rfl rfl (Nat.le_of_ble_eq_true rfl) rfl ?_
      refine e_aload_n 4 7 rfl rfl rfl rfl ?_
      refine g_getR 5 10 ckX12 flX12_38 rfl rfl (Nat.le_of_ble_eq_true rfl) rfl rfl ?_
      refine e_iload_n 6 11 rfl rfl rfl rfl ?_
      refine g_iaload 7 12 rfl rfl (Nat.le_of_ble_eq_true rfl) rfl (by omega) (by omega) (by omega) hr ?_
      refine e_istore 8 14 (ls' := [some _, some _, some _, some _, some _, none]) rfl rfl (Nat.le_of_ble_eq_true rfl) rfl ?_
      refine e_iload 9 16 rfl rfl rfl ?_
      refine e_if_ne 10 42 19 rfl rfl rfl (by unfold xr at *; omega) (fun h9 => absurd h9 (fun q => q h0)) (fun _ => ?_)
      refine e_aload_n 11 20 rfl rfl rfl rfl ?_
      refine e_aload_n 12 21 rfl rfl rfl rfl ?_
      refine g_getR 13 24 ckX12 flX12_7 rfl rfl (Nat.le_of_ble_eq_true rfl) rfl rfl ?_
      refine e_iload_n 14 25 rfl rfl rfl rfl ?_
      refine e_aload_n 15 26 rfl rfl rfl rfl ?_
      refine g_getR 16 29 ckX12 flX12_7 rfl rfl (Nat.le_of_ble_eq_true rfl) rfl rfl ?_
      refine e_iload_n 17 30 rfl rfl rfl rfl ?_
      refine g_callV 18 33 (c1) okX12_compare cvX12_253 ⟨(Nat.le_of_ble_eq_true rfl), (Nat.le_of_ble_eq_true rfl)⟩ rfl rfl (Nat.le_of_ble_eq_true rfl) rfl rfl rfl rfl rfl (Nat.le_of_ble_eq_true rfl) (Nat.le_of_ble_eq_true rfl) (Nat.le_of_ble_eq_true rfl) ?_
      refine e_if_ne 19 40 36 rfl rfl rfl hli (fun _ => ?_) (fun h9 => absurd h9 hz)
      refine e_iconst 22 41 rfl rfl ?_
      exact e_zreturn 23 rfl rfl (Or.inl rfl) (Nat.le_of_ble_eq_true rfl) (Nat.le_of_ble_eq_true rfl)
  · refine ⟨σ, ?_, FP.rf⟩
    have ef : fitF r (tk w) v = (decide ((knd (tok (tk v) 0) = 1 ∨ knd (tok (tk v) 0) = 2) ∧ knd (tok (tk v) 0) = knd (tok (tk w) 0)) && (if r = 1 then decide (tok (tk v) 0 < tok (tk w) 0) else decide (tok (tk w) 0 < tok (tk v) 0))) := by
      unfold fitF
      rw [if_neg h0, if_neg (show ¬ r = 3 by omega), if_neg (show ¬ r = 4 by omega)]
    have go : ∀ {o : xO} {Y : xS}, x_E MX12_fitsAt 0 0 42 [some (.ref 281), some (.int (ii p)), some (.int (ii k)), some (.int (ii P)), some (.int (ii r)), none] [] (St σ) 0 0 o Y → x_Sp MX12_fitsAt 0 0 [.ref 281, .int (ii p), .int (ii k)] (St σ) o Y := by
      intro o Y kk
      refine e_entry okX12_fitsAt (Nat.le_of_ble_eq_true rfl) (ls := [some _, some _, some _, none, none, none]) rfl ?_
      refine e_aload_n 0 1 rfl rfl rfl rfl ?_
      refine e_iload_n 1 2 rfl rfl rfl rfl ?_
      refine g_callV 2 5 (pf) okX12_filterAt cvX12_282 ⟨(Nat.le_of_ble_eq_true rfl), (Nat.le_of_ble_eq_true rfl)⟩ rfl rfl (Nat.le_of_ble_eq_true rfl) rfl rfl rfl rfl rfl (Nat.le_of_ble_eq_true rfl) (Nat.le_of_ble_eq_true rfl) (Nat.le_of_ble_eq_true rfl) ?_
      refine e_istore_n 3 6 (ls' := [some _, some _, some _, some _, none, none]) rfl rfl rfl (Nat.le_of_ble_eq_true rfl) rfl ?_
      refine e_aload_n 4 7 rfl rfl rfl rfl ?_
      refine g_getR 5 10 ckX12 flX12_38 rfl rfl (Nat.le_of_ble_eq_true rfl) rfl rfl ?_
      refine e_iload_n 6 11 rfl rfl rfl rfl ?_
      refine g_iaload 7 12 rfl rfl (Nat.le_of_ble_eq_true rfl) rfl (by omega) (by omega) (by omega) hr ?_
      refine e_istore 8 14 (ls' := [some _, some _, some _, some _, some _, none]) rfl rfl (Nat.le_of_ble_eq_true rfl) rfl ?_
      refine e_iload 9 16 rfl rfl rfl ?_
      refine e_if_ne 10 42 19 rfl rfl rfl (by unfold xr at *; omega) (fun _ => ?_) (fun h9 => absurd h9 h0)
      exact kk
    have no : ∀ lv : Value, fitF r (tk w) v = false → x_E MX12_fitsAt 0 0 132 [some (.ref 281), some (.int (ii p)), some (.int (ii k)), some (.int (ii P)), some (.int (ii r)), some lv] [] (St σ) 0 0 (zv (fitF r (tk w) v)) (St σ) := by
      intro lv e
      rw [e]
      refine e_iconst 77 133 rfl rfl ?_
      exact fin false σ _ (some lv) rfl
    have no73 : fitF r (tk w) v = false → x_E MX12_fitsAt 0 0 73 [some (.ref 281), some (.int (ii p)), some (.int (ii k)), some (.int (ii P)), some (.int (ii r)), none] [] (St σ) 0 0 (zv (fitF r (tk w) v)) (St σ) := by
      intro e
      refine e_iconst 41 74 rfl rfl ?_
      refine e_istore 42 76 (ls' := [some _, some _, some _, some _, some _, some _]) rfl rfl (Nat.le_of_ble_eq_true rfl) rfl ?_
      refine e_iload 43 78 rfl rfl rfl ?_
      refine e_if_eq 44 132 81 rfl rfl rfl (by unfold xr at *; omega) (fun _ => ?_) (fun h9 => absurd h9 (fun q => q rfl))
      exact no _ e
    refine go ?_
    by_cases hkk : knd (tok (tk v) 0) = knd (tok (tk w) 0)
    · by_cases hl : knd (tok (tk v) 0) = 1 ∨ knd (tok (tk v) 0) = 2
      · rw [decT ⟨hl, hkk⟩, Bool.true_and] at ef
        obtain ⟨c, hc1, hc2, hc3, hc4⟩ : ∃ c : Int, σ 282 (p + 1) = tok (tk v) 0 - c ∧ σ 282 (P + 1) = tok (tk w) 0 - c ∧ (xr (tok (tk v) 0 - c) ∧ xr (tok (tk w) 0 - c)) ∧ p + 1 < 11300 ∧ P + 1 < 11300 := by
          rcases hl with q | q
          · have a1 := v2 q
            have a2 := w2 (by omega)
            exact ⟨2000, a1.1, a2.1, ⟨by unfold xr; omega, by unfold xr; omega⟩, a1.2.1, a2.2.1⟩
          · have a1 := v3 q
            have a2 := w3 (by omega)
            exact ⟨3000, a1.1, a2.1, ⟨by unfold xr; omega, by unfold xr; omega⟩, a1.2.1, a2.2.1⟩
        have cmp : ∀ lv : Value, x_E MX12_fitsAt 0 0 81 [some (.ref 281), some (.int (ii p)), some (.int (ii k)), some (.int (ii P)), some (.int (ii r)), some lv] [] (St σ) 0 0 (zv (fitF r (tk w) v)) (St σ) := by
          intro lv
          by_cases h1 : r = 1
          · rw [if_pos h1] at ef
            by_cases hlt : tok (tk v) 0 < tok (tk w) 0
            · rw [decT hlt] at ef
              rw [ef]
              refine e_iload 45 83 rfl rfl rfl ?_
              refine e_iconst 46 84 rfl rfl ?_
              refine e_icmp_ne 47 109 87 rfl rfl rfl (by unfold xr at *; omega) (by unfold xr at *; omega) (fun h9 => absurd h9 (fun q => q h1)) (fun _ => ?_)
              refine e_aload_n 48 88 rfl rfl rfl rfl ?_
              refine g_getR 49 91 ckX12 flX12_7 rfl rfl (Nat.le_of_ble_eq_true rfl) rfl rfl ?_
              refine e_iload_n 50 92 rfl rfl rfl rfl ?_
              refine e_iconst 51 93 rfl rfl ?_
              refine e_iadd 52 94 rfl rfl ?_
              refine g_iaload 53 95 rfl rfl (Nat.le_of_ble_eq_true rfl) rfl (by omega) (by omega) (by omega) hc1 ?_
              refine e_aload_n 54 96 rfl rfl rfl rfl ?_
              refine g_getR 55 99 ckX12 flX12_7 rfl rfl (Nat.le_of_ble_eq_true rfl) rfl rfl ?_
              refine e_iload_n 56 100 rfl rfl rfl rfl ?_
              refine e_iconst 57 101 rfl rfl ?_
              refine e_iadd 58 102 rfl rfl ?_
              refine g_iaload 59 103 rfl rfl (Nat.le_of_ble_eq_true rfl) rfl (by omega) (by omega) (by omega) hc2 ?_
              refine e_icmp_ge 60 132 106 rfl rfl rfl hc3.1 hc3.2 (fun h9 => absurd h9 (by omega)) (fun _ => ?_)
              refine e_goto 61 128 rfl rfl ?_
              refine e_iconst 75 129 rfl rfl ?_
              refine e_goto 76 133 rfl rfl ?_
              exact fin true σ _ (some lv) rfl
            · rw [decF hlt] at ef
              refine e_iload 45 83 rfl rfl rfl ?_
              refine e_iconst 46 84 rfl rfl ?_
              refine e_icmp_ne 47 109 87 rfl rfl rfl (by unfold xr at *; omega) (by unfold xr at *; omega) (fun h9 => absurd h9 (fun q => q h1)) (fun _ => ?_)
              refine e_aload_n 48 88 rfl rfl rfl rfl ?_
              refine g_getR 49 91 ckX12 flX12_7 rfl rfl (Nat.le_of_ble_eq_true rfl) rfl rfl ?_
              refine e_iload_n 50 92 rfl rfl rfl rfl ?_
              refine e_iconst 51 93 rfl rfl ?_
              refine e_iadd 52 94 rfl rfl ?_
              refine g_iaload 53 95 rfl rfl (Nat.le_of_ble_eq_true rfl) rfl (by omega) (by omega) (by omega) hc1 ?_
              refine e_aload_n 54 96 rfl rfl rfl rfl ?_
              refine g_getR 55 99 ckX12 flX12_7 rfl rfl (Nat.le_of_ble_eq_true rfl) rfl rfl ?_
              refine e_iload_n 56 100 rfl rfl rfl rfl ?_
              refine e_iconst 57 101 rfl rfl ?_
              refine e_iadd 58 102 rfl rfl ?_
              refine g_iaload 59 103 rfl rfl (Nat.le_of_ble_eq_true rfl) rfl (by omega) (by omega) (by omega) hc2 ?_
              refine e_icmp_ge 60 132 106 rfl rfl rfl hc3.1 hc3.2 (fun _ => ?_) (fun h9 => absurd h9 (by omega))
              exact no lv ef
          · rw [if_neg h1] at ef
            by_cases hlt : tok (tk w) 0 < tok (tk v) 0
            · rw [decT hlt] at ef
              rw [ef]
              refine e_iload 45 83 rfl rfl rfl ?_
              refine e_iconst 46 84 rfl rfl ?_
              refine e_icmp_ne 47 109 87 rfl rfl rfl (by unfold xr at *; omega) (by unfold xr at *; omega) (fun _ => ?_) (fun h9 => absurd h9 h1)
              refine e_aload_n 62 110 rfl rfl rfl rfl ?_
              refine g_getR 63 113 ckX12 flX12_7 rfl rfl (Nat.le_of_ble_eq_true rfl) rfl rfl ?_
              refine e_iload_n 64 114 rfl rfl rfl rfl ?_
              refine e_iconst 65 115 rfl rfl ?_
              refine e_iadd 66 116 rfl rfl ?_
              refine g_iaload 67 117 rfl rfl (Nat.le_of_ble_eq_true rfl) rfl (by omega) (by omega) (by omega) hc1 ?_
              refine e_aload_n 68 118 rfl rfl rfl rfl ?_
              refine g_getR 69 121 ckX12 flX12_7 rfl rfl (Nat.le_of_ble_eq_true rfl) rfl rfl ?_
              refine e_iload_n 70 122 rfl rfl rfl rfl ?_
              refine e_iconst 71 123 rfl rfl ?_
              refine e_iadd 72 124 rfl rfl ?_
              refine g_iaload 73 125 rfl rfl (Nat.le_of_ble_eq_true rfl) rfl (by omega) (by omega) (by omega) hc2 ?_
              refine e_icmp_le 74 132 128 rfl rfl rfl hc3.1 hc3.2 (fun h9 => absurd h9 (by omega)) (fun _ => ?_)
              refine e_iconst 75 129 rfl rfl ?_
              refine e_goto 76 133 rfl rfl ?_
              exact fin true σ _ (some lv) rfl
            · rw [decF hlt] at ef
              refine e_iload 45 83 rfl rfl rfl ?_
              refine e_iconst 46 84 rfl rfl ?_
              refine e_icmp_ne 47 109 87 rfl rfl rfl (by unfold xr at *; omega) (by unfold xr at *; omega) (fun _ => ?_) (fun h9 => absurd h9 h1)
              refine e_aload_n 62 110 rfl rfl rfl rfl ?_
              refine g_getR 63 113 ckX12 flX12_7 rfl rfl (Nat.le_of_ble_eq_true rfl) rfl rfl ?_
              refine e_iload_n 64 114 rfl rfl rfl rfl ?_
              refine e_iconst 65 115 rfl rfl ?_
              refine e_iadd 66 116 rfl rfl ?_
              refine g_iaload 67 117 rfl rfl (Nat.le_of_ble_eq_true rfl) rfl (by omega) (by omega) (by omega) hc1 ?_
              refine e_aload_n 68 118 rfl rfl rfl rfl ?_
              refine g_getR 69 121 ckX12 flX12_7 rfl rfl (Nat.le_of_ble_eq_true rfl) rfl rfl ?_
              refine e_iload_n 70 122 rfl rfl rfl rfl ?_
              refine e_iconst 71 123 rfl rfl ?_
              refine e_iadd 72 124 rfl rfl ?_
              refine g_iaload 73 125 rfl rfl (Nat.le_of_ble_eq_true rfl) rfl (by omega) (by omega) (by omega) hc2 ?_
              refine e_icmp_le 74 132 128 rfl rfl rfl hc3.1 hc3.2 (fun _ => ?_) (fun h9 => absurd h9 (by omega))
              exact no lv ef
        rw [decT hl] at pl
        refine e_aload_n 24 43 rfl rfl rfl rfl ?_
        refine g_getR 25 46 ckX12 flX12_7 rfl rfl (Nat.le_of_ble_eq_true rfl) rfl rfl ?_
        refine e_iload_n 26 47 rfl rfl rfl rfl ?_
        refine g_iaload 27 48 rfl rfl (Nat.le_of_ble_eq_true rfl) rfl (by omega) (by omega) (by omega) v1 ?_
        refine e_aload_n 28 49 rfl rfl rfl rfl ?_
        refine g_getR 29 52 ckX12 flX12_7 rfl rfl (Nat.le_of_ble_eq_true rfl) rfl rfl ?_
        refine e_iload_n 30 53 rfl rfl rfl rfl ?_
        refine g_iaload 31 54 rfl rfl (Nat.le_of_ble_eq_true rfl) rfl (by omega) (by omega) (by omega) w1 ?_
        refine e_icmp_ne 32 73 57 rfl rfl rfl xkv xkw (fun h9 => absurd h9 (fun q => q hkk)) (fun _ => ?_)
        refine e_aload_n 33 58 rfl rfl rfl rfl ?_
        refine g_getR 34 61 ckX12 flX12_7 rfl rfl (Nat.le_of_ble_eq_true rfl) rfl rfl ?_
        refine e_iload_n 35 62 rfl rfl rfl rfl ?_
        refine g_iaload 36 63 rfl rfl (Nat.le_of_ble_eq_true rfl) rfl (by omega) (by omega) (by omega) v1 ?_
        refine g_callS 37 66 (pl) okX12_isLong csX12_121 ⟨(Nat.le_of_ble_eq_true rfl), (Nat.le_of_ble_eq_true rfl)⟩ rfl rfl rfl rfl (Nat.le_of_ble_eq_true rfl) (Nat.le_of_ble_eq_true rfl) (Nat.le_of_ble_eq_true rfl) ?_
        refine e_ifb_eq 38 73 69 rfl rfl rfl (fun h => ?_) (fun h => ?_)
        · skip
          cases h
        · skip
          refine e_iconst 39 70 rfl rfl ?_
          refine e_goto 40 74 rfl rfl ?_
          refine e_istore 42 76 (ls' := [some _, some _, some _, some _, some _, some _]) rfl rfl (Nat.le_of_ble_eq_true rfl) rfl ?_
          refine e_iload 43 78 rfl rfl rfl ?_
          refine e_if_eq 44 132 81 rfl rfl rfl (by unfold xr at *; omega) (fun h9 => absurd h9 (by decide)) (fun _ => ?_)
          exact cmp _
      · rw [decF (fun q => hl q.1), Bool.false_and] at ef
        rw [decF hl] at pl
        refine e_aload_n 24 43 rfl rfl rfl rfl ?_
        refine g_getR 25 46 ckX12 flX12_7 rfl rfl (Nat.le_of_ble_eq_true rfl) rfl rfl ?_
        refine e_iload_n 26 47 rfl rfl rfl rfl ?_
        refine g_iaload 27 48 rfl rfl (Nat.le_of_ble_eq_true rfl) rfl (by omega) (by omega) (by omega) v1 ?_
        refine e_aload_n 28 49 rfl rfl rfl rfl ?_
        refine g_getR 29 52 ckX12 flX12_7 rfl rfl (Nat.le_of_ble_eq_true rfl) rfl rfl ?_
        refine e_iload_n 30 53 rfl rfl rfl rfl ?_
        refine g_iaload 31 54 rfl rfl (Nat.le_of_ble_eq_true rfl) rfl (by omega) (by omega) (by omega) w1 ?_
        refine e_icmp_ne 32 73 57 rfl rfl rfl xkv xkw (fun h9 => absurd h9 (fun q => q hkk)) (fun _ => ?_)
        refine e_aload_n 33 58 rfl rfl rfl rfl ?_
        refine g_getR 34 61 ckX12 flX12_7 rfl rfl (Nat.le_of_ble_eq_true rfl) rfl rfl ?_
        refine e_iload_n 35 62 rfl rfl rfl rfl ?_
        refine g_iaload 36 63 rfl rfl (Nat.le_of_ble_eq_true rfl) rfl (by omega) (by omega) (by omega) v1 ?_
        refine g_callS 37 66 (pl) okX12_isLong csX12_121 ⟨(Nat.le_of_ble_eq_true rfl), (Nat.le_of_ble_eq_true rfl)⟩ rfl rfl rfl rfl (Nat.le_of_ble_eq_true rfl) (Nat.le_of_ble_eq_true rfl) (Nat.le_of_ble_eq_true rfl) ?_
        refine e_ifb_eq 38 73 69 rfl rfl rfl (fun h => ?_) (fun h => ?_)
        · skip
          exact no73 ef
        · skip
          cases h
    · rw [decF (fun q => hkk q.2), Bool.false_and] at ef
      refine e_aload_n 24 43 rfl rfl rfl rfl ?_
      refine g_getR 25 46 ckX12 flX12_7 rfl rfl (Nat.le_of_ble_eq_true rfl) rfl rfl ?_
      refine e_iload_n 26 47 rfl rfl rfl rfl ?_
      refine g_iaload 27 48 rfl rfl (Nat.le_of_ble_eq_true rfl) rfl (by omega) (by omega) (by omega) v1 ?_
      refine e_aload_n 28 49 rfl rfl rfl rfl ?_
      refine g_getR 29 52 ckX12 flX12_7 rfl rfl (Nat.le_of_ble_eq_true rfl) rfl rfl ?_
      refine e_iload_n 30 53 rfl rfl rfl rfl ?_
      refine g_iaload 31 54 rfl rfl (Nat.le_of_ble_eq_true rfl) rfl (by omega) (by omega) (by omega) w1 ?_
      refine e_icmp_ne 32 73 57 rfl rfl rfl xkv xkw (fun _ => ?_) (fun h9 => absurd h9 hkk)
      exact no73 ef
theorem wsc_wdt {v : Fo} (h : ok1 v) (hk : knd (tok (tk v) 0) = 3) : wsc (tk v) 0 = wdt v := by
  rcases h with ⟨x, rfl, hx⟩ | ⟨c, rfl, hc⟩ | ⟨c, rfl, hc⟩
  · exfalso
    have := lfx_k hx
    have e : tok (tk (.mulR (.num 0) x)) 0 = x := rfl
    rw [e] at hk
    omega
  · exfalso
    have e : tok (tk (.add c (.num 0))) 0 = 5000 := rfl
    rw [e] at hk
    exact absurd hk (by decide)
  · exact wsc_nd (by decide) hc []
theorem fi_lp {d r : Int} {k : Nat} (hk : k < 3) {w : Fo} (hr : 0 ≤ r ∧ r ≤ 4) (hw4 : r = 4 → knd (tok (tk w) 0) = 1) : ∀ (B A : List (Int × Fo)) (s : xSig) (I : Int) (b b9 : Bool), I = A.length → SPs s (A ++ B) → I + B.length ≤ 200 → MV s 282 11300 (100 * (110 + k) + 1) w → s 291 k = r → (r = 3 → b = true ∨ B = []) → b9 = (b || (B.map Prod.snd).any (fitF r (tk w))) → ∃ s', FP m11 s s' ∧ ∀ (o : xO) (Y : xS), x_E MX12_fits 0 0 138 [some (.ref 281), some (.int (ii d)), some (.int (ii k)), some (.int (ii r)), some (.int (ii (bi b9))), some (.int (ii (I + B.length)))] [] (St s') 0 0 o Y → x_E MX12_fits 0 0 40 [some (.ref 281), some (.int (ii d)), some (.int (ii k)), some (.int (ii r)), some (.int (ii (bi b))), some (.int (ii I))] [] (St s) 0 0 o Y := by
  intro B
  induction B with
  | nil =>
    intro A s I b b9 hI hS hl hw h291 h3 h9
    have e41 : s 281 41 = I := by rw [hS.1, hI]; simp
    have e9 : b9 = b := by rw [h9]; simp
    refine ⟨s, FP.rf, fun o Y kk => ?_⟩
    rw [e9, show I + (([] : List (Int × Fo)).length : Int) = I from Int.add_zero I] at kk
    have hI2 : 0 ≤ I ∧ I ≤ 200 := by simp at hl; omega
    refine e_iload 24 42 rfl rfl rfl ?_
    refine e_aload_n 25 43 rfl rfl rfl rfl ?_
    refine g_getI 26 46 41 ckX12 flX12_152 rfl rfl (Nat.le_of_ble_eq_true rfl) rfl rfl rfl e41 ?_
    refine e_icmp_ge 27 138 49 rfl rfl rfl (by unfold xr at *; omega) (by unfold xr at *; omega) (fun _ => ?_) (fun h9 => absurd h9 (by omega))
    exact kk
  | cons q B ih =>
    intro A s I b b9 hI hS hl hw h291 h3 h9
    have hlen : ((q :: B).length : Int) = B.length + 1 := by simp
    have e41 : s 281 41 = I + B.length + 1 := by rw [hS.1, hI]; simp; omega
    have eq : s 306 I = q.1 := by rw [hI]; exact spot_at hS
    have hI2 : 0 ≤ I ∧ I < 200 := by omega
    have hqv : MV s 282 11300 q.1 q.2 := hS.2.2 q (by simp)
    have hok := hqv.2.1
    obtain ⟨v1, v2, v3, v4⟩ := mv_fld hqv
    have bv := knd_bnd (tok (tk q.2) 0)
    have xkv : xr (knd (tok (tk q.2) 0)) := by unfold xr; omega
    have h9' : b9 = ((b || fitF r (tk w) q.2) || (B.map Prod.snd).any (fitF r (tk w))) := by rw [h9, List.map_cons, List.any_cons, Bool.or_assoc]
    -- what each round leaves
    have fin : ∀ (s1 : xSig) (z : Bool), FP m11 s s1 → z = (b || fitF r (tk w) q.2) → ∃ s', FP m11 s s' ∧ ∀ (o : xO) (Y : xS), x_E MX12_fits 0 0 138 [some (.ref 281), some (.int (ii d)), some (.int (ii k)), some (.int (ii r)), some (.int (ii (bi b9))), some (.int (ii (I + (q :: B).length)))] [] (St s') 0 0 o Y → x_E MX12_fits 0 0 130 [some (.ref 281), some (.int (ii d)), some (.int (ii k)), some (.int (ii r)), some (.int (ii (bi b))), some (.int (ii I))] [.int (ii (bi z))] (St s1) 0 0 o Y := by
      intro s1 z g hz
      obtain ⟨s', k1, k2⟩ := ih (A ++ [q]) s1 (I + 1) z b9 (by simp; omega) (by rw [List.append_assoc]; exact hS.fp g) (by omega) (hw.fp g) (by rw [g.cell 291 rfl]; exact h291) (fun e3 => by
        rcases h3 e3 with e | e
        · exact Or.inl (by rw [hz, e]; rfl)
        · cases e) (by rw [hz]; exact h9')
      refine ⟨s', g.tr k1, fun o Y kk => ?_⟩
      have kk2 := k2 o Y (by rw [show I + 1 + (B.length : Int) = I + ((q :: B).length : Int) by omega]; exact kk)
      refine e_istore 73 132 (ls' := [some _, some _, some _, some _, some _, some _]) rfl rfl (Nat.le_of_ble_eq_true rfl) rfl ?_
      refine e_iinc 74 135 (ls' := [some _, some _, some _, some _, some _, some _]) rfl rfl (Nat.le_of_ble_eq_true rfl) rfl rfl ?_
      refine e_goto 75 40 rfl rfl ?_
      exact kk2
    cases b with
    | true =>
      obtain ⟨s', k1, k2⟩ := fin s true FP.rf rfl
      refine ⟨s', k1, fun o Y kk => ?_⟩
      have kk2 := k2 o Y kk
      refine e_iload 24 42 rfl rfl rfl ?_
      refine e_aload_n 25 43 rfl rfl rfl rfl ?_
      refine g_getI 26 46 41 ckX12 flX12_152 rfl rfl (Nat.le_of_ble_eq_true rfl) rfl rfl rfl e41 ?_
      refine e_icmp_ge 27 138 49 rfl rfl rfl (by unfold xr at *; omega) (by unfold xr at *; omega) (fun h9 => absurd h9 (by omega)) (fun _ => ?_)
      refine e_iload 28 51 rfl rfl rfl ?_
      refine e_ifb_ne 29 125 54 rfl rfl rfl (fun h => ?_) (fun h => ?_)
      · skip
        refine e_iconst 70 126 rfl rfl ?_
        refine e_goto 71 130 rfl rfl ?_
        exact kk2
      · skip
        cases h
    | false =>
      have hr3 : r ≠ 3 := fun e => by
        rcases h3 e with q | q
        · cases q
        · cases q
      by_cases h4 : r = 4
      · have hw1 := hw4 h4
        obtain ⟨w1, w2, w3, w4⟩ := mv_fld hw
        obtain ⟨w5, w6, w7, w8⟩ := w2 hw1
        have ef : fitF r (tk w) q.2 = decide (knd (tok (tk q.2) 0) = 3 ∧ wsc (tk q.2) 0 = tok (tk w) 0 - 2000) := by
          unfold fitF
          rw [if_neg (show ¬ r = 0 by omega), if_neg hr3, if_pos h4]
        have pf := fun s1 => sp_mFilterAt (σ := s1) (x := k)
        obtain ⟨P, hP⟩ : ∃ P : Int, P = 100 * (110 + (k : Int)) + 1 := ⟨_, rfl⟩
        rw [← hP] at pf w4 w5 w6
        by_cases hk3 : knd (tok (tk q.2) 0) = 3
        · have hwd := wsc_wdt hok hk3
          obtain ⟨s1, c1, f1⟩ := sp_mMembersOf hqv (Or.inl (by rw [v1]; exact hk3))
          have e1 : s1 282 (P + 1) = tok (tk w) 0 - 2000 := by rw [f1.cell 282 rfl]; exact w5
          have xw : xr (tok (tk w) 0 - 2000) := by unfold xr; omega
          have xd : xr (wdt q.2) := by
            have h1 := hqv.2.2.1
            have h2 : 0 ≤ wdt q.2 ∧ wdt q.2 ≤ pa q.2 := by
              rcases hok with ⟨x, hx, -⟩ | ⟨c, hx, -⟩ | ⟨c, hx, -⟩
              · rw [hx]; simp [wdt, pa]
              · rw [hx]; have := nel_pa c; simp [wdt, pa]; omega
              · rw [hx]; have := nel_pa c; simp [wdt, pa]; omega
            unfold xr; omega
          by_cases he : wdt q.2 = tok (tk w) 0 - 2000
          · obtain ⟨s', k1, k2⟩ := fin s1 true f1 (by rw [ef, decT ⟨hk3, by rw [hwd]; exact he⟩]; rfl)
            refine ⟨s', k1, fun o Y kk => ?_⟩
            have kk2 := k2 o Y kk
            refine e_iload 24 42 rfl rfl rfl ?_
            refine e_aload_n 25 43 rfl rfl rfl rfl ?_
            refine g_getI 26 46 41 ckX12 flX12_152 rfl rfl (Nat.le_of_ble_eq_true rfl) rfl rfl rfl e41 ?_
            refine e_icmp_ge 27 138 49 rfl rfl rfl (by unfold xr at *; omega) (by unfold xr at *; omega) (fun h9 => absurd h9 (by omega)) (fun _ => ?_)
            refine e_iload 28 51 rfl rfl rfl ?_
            refine e_ifb_ne 29 125 54 rfl rfl rfl (fun h => ?_) (fun h => ?_)
            · skip
              cases h
            · skip
              refine e_iload_n 30 55 rfl rfl rfl rfl ?_
              refine e_iconst 31 56 rfl rfl ?_
              refine e_icmp_ne 32 105 59 rfl rfl rfl (by unfold xr at *; omega) (by unfold xr at *; omega) (fun h9 => absurd h9 (fun q => q h4)) (fun _ => ?_)
              refine e_aload_n 33 60 rfl rfl rfl rfl ?_
              refine g_getR 34 63 ckX12 flX12_7 rfl rfl (Nat.le_of_ble_eq_true rfl) rfl rfl ?_
              refine e_aload_n 35 64 rfl rfl rfl rfl ?_
              refine g_getR 36 67 ckX12 flX12_94 rfl rfl (Nat.le_of_ble_eq_true rfl) rfl rfl ?_
              refine e_iload 37 69 rfl rfl rfl ?_
              refine g_iaload 38 70 rfl rfl (Nat.le_of_ble_eq_true rfl) rfl (by omega) (by omega) (by omega) eq ?_
              refine g_iaload 39 71 rfl rfl (Nat.le_of_ble_eq_true rfl) rfl (by omega) (by omega) (by omega) v1 ?_
              refine e_iconst 40 72 rfl rfl ?_
              refine e_icmp_ne 41 105 75 rfl rfl rfl xkv (by unfold xr at *; omega) (fun h9 => absurd h9 (fun q => q hk3)) (fun _ => ?_)
              refine e_aload_n 42 76 rfl rfl rfl rfl ?_
              refine e_aload_n 43 77 rfl rfl rfl rfl ?_
              refine g_getR 44 80 ckX12 flX12_7 rfl rfl (Nat.le_of_ble_eq_true rfl) rfl rfl ?_
              refine e_aload_n 45 81 rfl rfl rfl rfl ?_
              refine g_getR 46 84 ckX12 flX12_94 rfl rfl (Nat.le_of_ble_eq_true rfl) rfl rfl ?_
              refine e_iload 47 86 rfl rfl rfl ?_
              refine g_iaload 48 87 rfl rfl (Nat.le_of_ble_eq_true rfl) rfl (by omega) (by omega) (by omega) eq ?_
              refine g_callV 49 90 (c1) okX12_membersOf cvX12_139 ⟨(Nat.le_of_ble_eq_true rfl), (Nat.le_of_ble_eq_true rfl)⟩ rfl rfl (Nat.le_of_ble_eq_true rfl) rfl rfl rfl rfl rfl (Nat.le_of_ble_eq_true rfl) (Nat.le_of_ble_eq_true rfl) (Nat.le_of_ble_eq_true rfl) ?_
              refine e_aload_n 50 91 rfl rfl rfl rfl ?_
              refine g_getR 51 94 ckX12 flX12_7 rfl rfl (Nat.le_of_ble_eq_true rfl) rfl rfl ?_
              refine e_aload_n 52 95 rfl rfl rfl rfl ?_
              refine e_iload_n 53 96 rfl rfl rfl rfl ?_
              refine g_callV 54 99 (pf s1) okX12_filterAt cvX12_282 ⟨(Nat.le_of_ble_eq_true rfl), (Nat.le_of_ble_eq_true rfl)⟩ rfl rfl (Nat.le_of_ble_eq_true rfl) rfl rfl rfl rfl rfl (Nat.le_of_ble_eq_true rfl) (Nat.le_of_ble_eq_true rfl) (Nat.le_of_ble_eq_true rfl) ?_
              refine e_iconst 55 100 rfl rfl ?_
              refine e_iadd 56 101 rfl rfl ?_
              refine g_iaload 57 102 rfl rfl (Nat.le_of_ble_eq_true rfl) rfl (by omega) (by omega) (by omega) e1 ?_
              refine e_icmp_eq 58 125 105 rfl rfl rfl xd xw (fun _ => ?_) (fun h9 => absurd h9 (fun q => q he))
              refine e_iconst 70 126 rfl rfl ?_
              refine e_goto 71 130 rfl rfl ?_
              exact kk2
          · obtain ⟨s', k1, k2⟩ := fin s1 false f1 (by rw [ef, decF (fun q => he (by rw [← hwd]; exact q.2))]; rfl)
            refine ⟨s', k1, fun o Y kk => ?_⟩
            have kk2 := k2 o Y kk
            refine e_iload 24 42 rfl rfl rfl ?_
            refine e_aload_n 25 43 rfl rfl rfl rfl ?_
            refine g_getI 26 46 41 ckX12 flX12_152 rfl rfl (Nat.le_of_ble_eq_true rfl) rfl rfl rfl e41 ?_
            refine e_icmp_ge 27 138 49 rfl rfl rfl (by unfold xr at *; omega) (by unfold xr at *; omega) (fun h9 => absurd h9 (by omega)) (fun _ => ?_)
            refine e_iload 28 51 rfl rfl rfl ?_
            refine e_ifb_ne 29 125 54 rfl rfl rfl (fun h => ?_) (fun h => ?_)
            · skip
              cases h
            · skip
              refine e_iload_n 30 55 rfl rfl rfl rfl ?_
              refine e_iconst 31 56 rfl rfl ?_
              refine e_icmp_ne 32 105 59 rfl rfl rfl (by unfold xr at *; omega) (by unfold xr at *; omega) (fun h9 => absurd h9 (fun q => q h4)) (fun _ => ?_)
              refine e_aload_n 33 60 rfl rfl rfl rfl ?_
              refine g_getR 34 63 ckX12 flX12_7 rfl rfl (Nat.le_of_ble_eq_true rfl) rfl rfl ?_
              refine e_aload_n 35 64 rfl rfl rfl rfl ?_
              refine g_getR 36 67 ckX12 flX12_94 rfl rfl (Nat.le_of_ble_eq_true rfl) rfl rfl ?_
              refine e_iload 37 69 rfl rfl rfl ?_
              refine g_iaload 38 70 rfl rfl (Nat.le_of_ble_eq_true rfl) rfl (by omega) (by omega) (by omega) eq ?_
              refine g_iaload 39 71 rfl rfl (Nat.le_of_ble_eq_true rfl) rfl (by omega) (by omega) (by omega) v1 ?_
              refine e_iconst 40 72 rfl rfl ?_
              refine e_icmp_ne 41 105 75 rfl rfl rfl xkv (by unfold xr at *; omega) (fun h9 => absurd h9 (fun q => q hk3)) (fun _ => ?_)
              refine e_aload_n 42 76 rfl rfl rfl rfl ?_
              refine e_aload_n 43 77 rfl rfl rfl rfl ?_
              refine g_getR 44 80 ckX12 flX12_7 rfl rfl (Nat.le_of_ble_eq_true rfl) rfl rfl ?_
              refine e_aload_n 45 81 rfl rfl rfl rfl ?_
              refine g_getR 46 84 ckX12 flX12_94 rfl rfl (Nat.le_of_ble_eq_true rfl) rfl rfl ?_
              refine e_iload 47 86 rfl rfl rfl ?_
              refine g_iaload 48 87 rfl rfl (Nat.le_of_ble_eq_true rfl) rfl (by omega) (by omega) (by omega) eq ?_
              refine g_callV 49 90 (c1) okX12_membersOf cvX12_139 ⟨(Nat.le_of_ble_eq_true rfl), (Nat.le_of_ble_eq_true rfl)⟩ rfl rfl (Nat.le_of_ble_eq_true rfl) rfl rfl rfl rfl rfl (Nat.le_of_ble_eq_true rfl) (Nat.le_of_ble_eq_true rfl) (Nat.le_of_ble_eq_true rfl) ?_
              refine e_aload_n 50 91 rfl rfl rfl rfl ?_
              refine g_getR 51 94 ckX12 flX12_7 rfl rfl (Nat.le_of_ble_eq_true rfl) rfl rfl ?_
              refine e_aload_n 52 95 rfl rfl rfl rfl ?_
              refine e_iload_n 53 96 rfl rfl rfl rfl ?_
              refine g_callV 54 99 (pf s1) okX12_filterAt cvX12_282 ⟨(Nat.le_of_ble_eq_true rfl), (Nat.le_of_ble_eq_true rfl)⟩ rfl rfl (Nat.le_of_ble_eq_true rfl) rfl rfl rfl rfl rfl (Nat.le_of_ble_eq_true rfl) (Nat.le_of_ble_eq_true rfl) (Nat.le_of_ble_eq_true rfl) ?_
              refine e_iconst 55 100 rfl rfl ?_
              refine e_iadd 56 101 rfl rfl ?_
              refine g_iaload 57 102 rfl rfl (Nat.le_of_ble_eq_true rfl) rfl (by omega) (by omega) (by omega) e1 ?_
              refine e_icmp_eq 58 125 105 rfl rfl rfl xd xw (fun h9 => absurd h9 he) (fun _ => ?_)
              refine e_iload_n 59 106 rfl rfl rfl rfl ?_
              refine e_iconst 60 107 rfl rfl ?_
              refine e_icmp_ge 61 129 110 rfl rfl rfl (by unfold xr at *; omega) (by unfold xr at *; omega) (fun _ => ?_) (fun h9 => absurd h9 (by omega))
              refine e_iconst 72 130 rfl rfl ?_
              exact kk2
        · obtain ⟨s', k1, k2⟩ := fin s false FP.rf (by rw [ef, decF (fun q => hk3 q.1)]; rfl)
          refine ⟨s', k1, fun o Y kk => ?_⟩
          have kk2 := k2 o Y kk
          refine e_iload 24 42 rfl rfl rfl ?_
          refine e_aload_n 25 43 rfl rfl rfl rfl ?_
          refine g_getI 26 46 41 ckX12 flX12_152 rfl rfl (Nat.le_of_ble_eq_true rfl) rfl rfl rfl e41 ?_
          refine e_icmp_ge 27 138 49 rfl rfl rfl (by unfold xr at *; omega) (by unfold xr at *; omega) (fun h9 => absurd h9 (by omega)) (fun _ => ?_)
          refine e_iload 28 51 rfl rfl rfl ?_
          refine e_ifb_ne 29 125 54 rfl rfl rfl (fun h => ?_) (fun h => ?_)
          · skip
            cases h
          · skip
            refine e_iload_n 30 55 rfl rfl rfl rfl ?_
            refine e_iconst 31 56 rfl rfl ?_
            refine e_icmp_ne 32 105 59 rfl rfl rfl (by unfold xr at *; omega) (by unfold xr at *; omega) (fun h9 => absurd h9 (fun q => q h4)) (fun _ => ?_)
            refine e_aload_n 33 60 rfl rfl rfl rfl ?_
            refine g_getR 34 63 ckX12 flX12_7 rfl rfl (Nat.le_of_ble_eq_true rfl) rfl rfl ?_
            refine e_aload_n 35 64 rfl rfl rfl rfl ?_
            refine g_getR 36 67 ckX12 flX12_94 rfl rfl (Nat.le_of_ble_eq_true rfl) rfl rfl ?_
            refine e_iload 37 69 rfl rfl rfl ?_
            refine g_iaload 38 70 rfl rfl (Nat.le_of_ble_eq_true rfl) rfl (by omega) (by omega) (by omega) eq ?_
            refine g_iaload 39 71 rfl rfl (Nat.le_of_ble_eq_true rfl) rfl (by omega) (by omega) (by omega) v1 ?_
            refine e_iconst 40 72 rfl rfl ?_
            refine e_icmp_ne 41 105 75 rfl rfl rfl xkv (by unfold xr at *; omega) (fun _ => ?_) (fun h9 => absurd h9 hk3)
            refine e_iload_n 59 106 rfl rfl rfl rfl ?_
            refine e_iconst 60 107 rfl rfl ?_
            refine e_icmp_ge 61 129 110 rfl rfl rfl (by unfold xr at *; omega) (by unfold xr at *; omega) (fun _ => ?_) (fun h9 => absurd h9 (by omega))
            refine e_iconst 72 130 rfl rfl ?_
            exact kk2
      · obtain ⟨s1, c1, f1⟩ := sp_mFitsAt hk hqv hw h291 (by omega)
        obtain ⟨s', k1, k2⟩ := fin s1 (fitF r (tk w) q.2) f1 rfl
        refine ⟨s', k1, fun o Y kk => ?_⟩
        have kk2 := k2 o Y kk
        generalize fitF r (tk w) q.2 = z at *
        refine e_iload 24 42 rfl rfl rfl ?_
        refine e_aload_n 25 43 rfl rfl rfl rfl ?_
        refine g_getI 26 46 41 ckX12 flX12_152 rfl rfl (Nat.le_of_ble_eq_true rfl) rfl rfl rfl e41 ?_
        refine e_icmp_ge 27 138 49 rfl rfl rfl (by unfold xr at *; omega) (by unfold xr at *; omega) (fun h9 => absurd h9 (by omega)) (fun _ => ?_)
        refine e_iload 28 51 rfl rfl rfl ?_
        refine e_ifb_ne 29 125 54 rfl rfl rfl (fun h => ?_) (fun h => ?_)
        · skip
          cases h
        · skip
          refine e_iload_n 30 55 rfl rfl rfl rfl ?_
          refine e_iconst 31 56 rfl rfl ?_
          refine e_icmp_ne 32 105 59 rfl rfl rfl (by unfold xr at *; omega) (by unfold xr at *; omega) (fun _ => ?_) (fun h9 => absurd h9 h4)
          refine e_iload_n 59 106 rfl rfl rfl rfl ?_
          refine e_iconst 60 107 rfl rfl ?_
          refine e_icmp_ge 61 129 110 rfl rfl rfl (by unfold xr at *; omega) (by unfold xr at *; omega) (fun h9 => absurd h9 (by omega)) (fun _ => ?_)
          refine e_aload_n 62 111 rfl rfl rfl rfl ?_
          refine e_aload_n 63 112 rfl rfl rfl rfl ?_
          refine g_getR 64 115 ckX12 flX12_94 rfl rfl (Nat.le_of_ble_eq_true rfl) rfl rfl ?_
          refine e_iload 65 117 rfl rfl rfl ?_
          refine g_iaload 66 118 rfl rfl (Nat.le_of_ble_eq_true rfl) rfl (by omega) (by omega) (by omega) eq ?_
          refine e_iload_n 67 119 rfl rfl rfl rfl ?_
          refine g_callV 68 122 (c1) okX12_fitsAt cvX12_288 ⟨(Nat.le_of_ble_eq_true rfl), (Nat.le_of_ble_eq_true rfl)⟩ rfl rfl (Nat.le_of_ble_eq_true rfl) rfl rfl rfl rfl rfl (Nat.le_of_ble_eq_true rfl) (Nat.le_of_ble_eq_true rfl) (Nat.le_of_ble_eq_true rfl) ?_
          refine e_ifb_eq 69 129 125 rfl rfl rfl (fun h2 => ?_) (fun h2 => ?_)
          · skip
            rw [h2] at kk2
            refine e_iconst 72 130 rfl rfl ?_
            exact kk2
          · skip
            rw [h2] at kk2
            refine e_iconst 70 126 rfl rfl ?_
            refine e_goto 71 130 rfl rfl ?_
            exact kk2
theorem sp_mFits {τ σ : xSig} {T : Nat → List Int} {G : Nat → Fo} (hI : FIM τ T G σ) {d : Nat} {t : List Int} {F : Fo} (hD : DC t F) (hM : MV σ 282 11300 (100 * d + 1) (.add F (.num 0))) {k : Nat} (hk : (k : Int) < τ 256 4) : ∃ σ', x_Sp MX12_fits 0 0 [.ref 281, .int (ii d), .int (ii k)] (St σ) (zv ((atp t (τ (qf k) 1)).any (ffit (τ (qf k) 2) (T (qf k + 1)) t))) (St σ') ∧ FP lk9 σ σ' := by
  have h43 := hI.1
  obtain ⟨⟨g1, g2, g3⟩, g4, g5, g6, g7⟩ := hI.2.2 k (by omega) hk
  rw [hD.any g5, g4]
  obtain ⟨s1, L, c1, c2, c3, c4⟩ := sp_mLooks hM g5
  have hal := als_len hD (τ (qf k) 1)
  have hLl : (L.length : Int) = (als F (τ (qf k) 1)).length := by rw [← c3, List.length_map]
  have e41 : s1 281 41 = L.length := c2.1
  have e291 : s1 291 k = τ (qf k) 2 := by rw [c4.cell 291 rfl]; exact g2
  generalize τ (qf k) 2 = r at *
  generalize τ (qf k) 1 = path at *
  obtain ⟨b, hb⟩ : ∃ b, b = decide (r = 3 ∧ 0 < (L.length : Int)) := ⟨_, rfl⟩
  obtain ⟨b9, hb9⟩ : ∃ b9, b9 = (b || (L.map Prod.snd).any (fitF r (tk (G (265 + 3 * k))))) := ⟨_, rfl⟩
  obtain ⟨s2, f2, k2⟩ := fi_lp (d := d) (by omega : k < 3) g6 g7 L [] s1 0 b b9 rfl c2 (by omega) (g3.lk c4) e291 (fun e3 => by
    by_cases hL : 0 < (L.length : Int)
    · exact Or.inl (by rw [hb, decT ⟨e3, hL⟩])
    · exact Or.inr (List.eq_nil_of_length_eq_zero (by omega))) hb9
  have eb9 : b9 = (als F path).any (fitF r (tk (G (265 + 3 * k)))) := by
    rw [hb9, c3, hb]
    by_cases h3 : r = 3 ∧ 0 < (L.length : Int)
    · rw [decT h3, Bool.true_or]
      symm
      rw [List.any_eq_true]
      cases hq : als F path with
      | nil =>
        exfalso
        rw [hq, List.length_nil] at hLl
        omega
      | cons x rs =>
        refine ⟨x, by simp, ?_⟩
        unfold fitF
        rw [if_neg (show ¬ r = 0 by omega), if_pos h3.1]
    · rw [decF h3, Bool.false_or]
  rw [← eb9]
  refine ⟨s2, ?_, c4.tr (f2.mono rfl)⟩
  have last : x_E MX12_fits 0 0 138 [some (.ref 281), some (.int (ii d)), some (.int (ii k)), some (.int (ii r)), some (.int (ii (bi b9))), some (.int (ii (0 + L.length)))] [] (St s2) 0 0 (zv b9) (St s2) := by
    refine e_iload 76 140 rfl rfl rfl ?_
    exact e_zreturn 77 rfl rfl (bi_01 b9) (Nat.le_of_ble_eq_true rfl) (Nat.le_of_ble_eq_true rfl)
  have k40 := k2 _ _ last
  by_cases h3 : r = 3
  · by_cases hL : 0 < (L.length : Int)
    · rw [show b = true by rw [hb, decT ⟨h3, hL⟩]] at k40
      refine e_entry okX12_fits (Nat.le_of_ble_eq_true rfl) (ls := [some _, some _, some _, none, none, none]) rfl ?_
      refine e_aload_n 0 1 rfl rfl rfl rfl ?_
      refine e_iload_n 1 2 rfl rfl rfl rfl ?_
      refine e_aload_n 2 3 rfl rfl rfl rfl ?_
      refine g_getR 3 6 ckX12 flX12_35 rfl rfl (Nat.le_of_ble_eq_true rfl) rfl rfl ?_
      refine e_iload_n 4 7 rfl rfl rfl rfl ?_
      refine g_iaload 5 8 rfl rfl (Nat.le_of_ble_eq_true rfl) rfl (by omega) (by omega) (by omega) g1 ?_
      refine g_callV 6 11 (c1) okX12_looks cvX12_285 ⟨(Nat.le_of_ble_eq_true rfl), (Nat.le_of_ble_eq_true rfl)⟩ rfl rfl (Nat.le_of_ble_eq_true rfl) rfl rfl rfl rfl rfl (Nat.le_of_ble_eq_true rfl) (Nat.le_of_ble_eq_true rfl) (Nat.le_of_ble_eq_true rfl) ?_
      refine e_aload_n 7 12 rfl rfl rfl rfl ?_
      refine g_getR 8 15 ckX12 flX12_38 rfl rfl (Nat.le_of_ble_eq_true rfl) rfl rfl ?_
      refine e_iload_n 9 16 rfl rfl rfl rfl ?_
      refine g_iaload 10 17 rfl rfl (Nat.le_of_ble_eq_true rfl) rfl (by omega) (by omega) (by omega) e291 ?_
      refine e_istore_n 11 18 (ls' := [some _, some _, some _, some _, none, none]) rfl rfl rfl (Nat.le_of_ble_eq_true rfl) rfl ?_
      refine e_iload_n 12 19 rfl rfl rfl rfl ?_
      refine e_iconst 13 20 rfl rfl ?_
      refine e_icmp_ne 14 34 23 rfl rfl rfl (by unfold xr at *; omega) (by unfold xr at *; omega) (fun h9 => absurd h9 (fun q => q h3)) (fun _ => ?_)
      refine e_aload_n 15 24 rfl rfl rfl rfl ?_
      refine g_getI 16 27 41 ckX12 flX12_152 rfl rfl (Nat.le_of_ble_eq_true rfl) rfl rfl rfl e41 ?_
      refine e_if_le 17 34 30 rfl rfl rfl (by unfold xr at *; omega) (fun h9 => absurd h9 (by omega)) (fun _ => ?_)
      refine e_iconst 18 31 rfl rfl ?_
      refine e_goto 19 35 rfl rfl ?_
      refine e_istore 21 37 (ls' := [some _, some _, some _, some _, some _, none]) rfl rfl (Nat.le_of_ble_eq_true rfl) rfl ?_
      refine e_iconst 22 38 rfl rfl ?_
      refine e_istore 23 40 (ls' := [some _, some _, some _, some _, some _, some _]) rfl rfl (Nat.le_of_ble_eq_true rfl) rfl ?_
      exact k40
    · rw [show b = false by rw [hb, decF (fun q => hL q.2)]] at k40
      refine e_entry okX12_fits (Nat.le_of_ble_eq_true rfl) (ls := [some _, some _, some _, none, none, none]) rfl ?_
      refine e_aload_n 0 1 rfl rfl rfl rfl ?_
      refine e_iload_n 1 2 rfl rfl rfl rfl ?_
      refine e_aload_n 2 3 rfl rfl rfl rfl ?_
      refine g_getR 3 6 ckX12 flX12_35 rfl rfl (Nat.le_of_ble_eq_true rfl) rfl rfl ?_
      refine e_iload_n 4 7 rfl rfl rfl rfl ?_
      refine g_iaload 5 8 rfl rfl (Nat.le_of_ble_eq_true rfl) rfl (by omega) (by omega) (by omega) g1 ?_
      refine g_callV 6 11 (c1) okX12_looks cvX12_285 ⟨(Nat.le_of_ble_eq_true rfl), (Nat.le_of_ble_eq_true rfl)⟩ rfl rfl (Nat.le_of_ble_eq_true rfl) rfl rfl rfl rfl rfl (Nat.le_of_ble_eq_true rfl) (Nat.le_of_ble_eq_true rfl) (Nat.le_of_ble_eq_true rfl) ?_
      refine e_aload_n 7 12 rfl rfl rfl rfl ?_
      refine g_getR 8 15 ckX12 flX12_38 rfl rfl (Nat.le_of_ble_eq_true rfl) rfl rfl ?_
      refine e_iload_n 9 16 rfl rfl rfl rfl ?_
      refine g_iaload 10 17 rfl rfl (Nat.le_of_ble_eq_true rfl) rfl (by omega) (by omega) (by omega) e291 ?_
      refine e_istore_n 11 18 (ls' := [some _, some _, some _, some _, none, none]) rfl rfl rfl (Nat.le_of_ble_eq_true rfl) rfl ?_
      refine e_iload_n 12 19 rfl rfl rfl rfl ?_
      refine e_iconst 13 20 rfl rfl ?_
      refine e_icmp_ne 14 34 23 rfl rfl rfl (by unfold xr at *; omega) (by unfold xr at *; omega) (fun h9 => absurd h9 (fun q => q h3)) (fun _ => ?_)
      refine e_aload_n 15 24 rfl rfl rfl rfl ?_
      refine g_getI 16 27 41 ckX12 flX12_152 rfl rfl (Nat.le_of_ble_eq_true rfl) rfl rfl rfl e41 ?_
      refine e_if_le 17 34 30 rfl rfl rfl (by unfold xr at *; omega) (fun _ => ?_) (fun h9 => absurd h9 (by omega))
      refine e_iconst 20 35 rfl rfl ?_
      refine e_istore 21 37 (ls' := [some _, some _, some _, some _, some _, none]) rfl rfl (Nat.le_of_ble_eq_true rfl) rfl ?_
      refine e_iconst 22 38 rfl rfl ?_
      refine e_istore 23 40 (ls' := [some _, some _, some _, some _, some _, some _]) rfl rfl (Nat.le_of_ble_eq_true rfl) rfl ?_
      exact k40
  · rw [show b = false by rw [hb, decF (fun q => h3 q.1)]] at k40
    refine e_entry okX12_fits (Nat.le_of_ble_eq_true rfl) (ls := [some _, some _, some _, none, none, none]) rfl ?_
    refine e_aload_n 0 1 rfl rfl rfl rfl ?_
    refine e_iload_n 1 2 rfl rfl rfl rfl ?_
    refine e_aload_n 2 3 rfl rfl rfl rfl ?_
    refine g_getR 3 6 ckX12 flX12_35 rfl rfl (Nat.le_of_ble_eq_true rfl) rfl rfl ?_
    refine e_iload_n 4 7 rfl rfl rfl rfl ?_
    refine g_iaload 5 8 rfl rfl (Nat.le_of_ble_eq_true rfl) rfl (by omega) (by omega) (by omega) g1 ?_
    refine g_callV 6 11 (c1) okX12_looks cvX12_285 ⟨(Nat.le_of_ble_eq_true rfl), (Nat.le_of_ble_eq_true rfl)⟩ rfl rfl (Nat.le_of_ble_eq_true rfl) rfl rfl rfl rfl rfl (Nat.le_of_ble_eq_true rfl) (Nat.le_of_ble_eq_true rfl) (Nat.le_of_ble_eq_true rfl) ?_
    refine e_aload_n 7 12 rfl rfl rfl rfl ?_
    refine g_getR 8 15 ckX12 flX12_38 rfl rfl (Nat.le_of_ble_eq_true rfl) rfl rfl ?_
    refine e_iload_n 9 16 rfl rfl rfl rfl ?_
    refine g_iaload 10 17 rfl rfl (Nat.le_of_ble_eq_true rfl) rfl (by omega) (by omega) (by omega) e291 ?_
    refine e_istore_n 11 18 (ls' := [some _, some _, some _, some _, none, none]) rfl rfl rfl (Nat.le_of_ble_eq_true rfl) rfl ?_
    refine e_iload_n 12 19 rfl rfl rfl rfl ?_
    refine e_iconst 13 20 rfl rfl ?_
    refine e_icmp_ne 14 34 23 rfl rfl rfl (by unfold xr at *; omega) (by unfold xr at *; omega) (fun _ => ?_) (fun h9 => absurd h9 h3)
    refine e_iconst 20 35 rfl rfl ?_
    refine e_istore 21 37 (ls' := [some _, some _, some _, some _, some _, none]) rfl rfl (Nat.le_of_ble_eq_true rfl) rfl ?_
    refine e_iconst 22 38 rfl rfl ?_
    refine e_istore 23 40 (ls' := [some _, some _, some _, some _, some _, some _]) rfl rfl (Nat.le_of_ble_eq_true rfl) rfl ?_
    exact k40
theorem sp_mFitsAll {τ σ : xSig} {T : Nat → List Int} {G : Nat → Fo} (hI : FIM τ T G σ) {d : Nat} {t : List Int} {F : Fo} (hD : DC t F) (hM : MV σ 282 11300 (100 * d + 1) (.add F (.num 0))) : ∃ σ', x_Sp MX12_fitsAll 0 0 [.ref 281, .int (ii d)] (St σ) (zv (fal τ T t)) (St σ') ∧ FP lk9 σ σ' := by
  unfold fal
  generalize hfe : (fun i : Nat => (atp t (τ (qf i) 1)).any (ffit (τ (qf i) 2) (T (qf i + 1)) t)) = f9
  have hf9 : ∀ i : Nat, f9 i = (atp t (τ (qf i) 1)).any (ffit (τ (qf i) 2) (T (qf i + 1)) t) := fun n => by rw [← hfe]
  have h43 := hI.1
  have lp : ∀ (m i : Nat) (s : xSig), (i : Int) + m = τ 256 4 → FP lk9 σ s → ∃ σ', x_E MX12_fitsAll 0 0 4 [some (.ref 281), some (.int (ii d)), some (.int (ii (bi true))), some (.int (ii i))] [] (St s) 0 0 (zv (alN f9 i m)) (St σ') ∧ FP lk9 s σ' := by
    intro m
    induction m with
    | zero =>
      intro i s hi hF
      have e14 : s 281 14 = τ 256 4 := by rw [hF 281 14 rfl]; exact hI.2.1
      refine ⟨s, ?_, FP.rf⟩
      refine e_iload_n 4 5 rfl rfl rfl rfl ?_
      refine e_aload_n 5 6 rfl rfl rfl rfl ?_
      refine g_getI 6 9 14 ckX12 flX12_279 rfl rfl (Nat.le_of_ble_eq_true rfl) rfl rfl rfl e14 ?_
      refine e_icmp_ge 7 29 12 rfl rfl rfl (by unfold xr at *; omega) (by unfold xr at *; omega) (fun _ => ?_) (fun h9 => absurd h9 (by omega))
      refine e_iload_n 17 30 rfl rfl rfl rfl ?_
      exact e_zreturn 18 rfl rfl (Or.inr rfl) (Nat.le_of_ble_eq_true rfl) (Nat.le_of_ble_eq_true rfl)
    | succ m ih =>
      intro i s hi hF
      have hI1 := hI.fp hF rfl
      have e14 : s 281 14 = τ 256 4 := hI1.2.1
      obtain ⟨s1, c1, f1⟩ := sp_mFits hI1 hD (hM.lk hF) (k := i) (by omega)
      rw [← hf9] at c1
      have e14' : s1 281 14 = τ 256 4 := by rw [f1 281 14 rfl]; exact e14
      cases hb : f9 i with
      | true =>
        obtain ⟨σ', k1, k2⟩ := ih (i + 1) s1 (by omega) (hF.tr f1)
        rw [hb] at c1
        refine ⟨σ', ?_, f1.tr k2⟩
        rw [show alN f9 i (m + 1) = alN f9 (i + 1) m by rw [alN, hb]; rfl]
        refine e_iload_n 4 5 rfl rfl rfl rfl ?_
        refine e_aload_n 5 6 rfl rfl rfl rfl ?_
        refine g_getI 6 9 14 ckX12 flX12_279 rfl rfl (Nat.le_of_ble_eq_true rfl) rfl rfl rfl e14 ?_
        refine e_icmp_ge 7 29 12 rfl rfl rfl (by unfold xr at *; omega) (by unfold xr at *; omega) (fun h9 => absurd h9 (by omega)) (fun _ => ?_)
        refine e_iload_n 8 13 rfl rfl rfl rfl ?_
        refine e_ifb_eq 9 29 16 rfl rfl rfl (fun hq => ?_) (fun hq => ?_)
        · skip
          cases hq
        · skip
          refine e_aload_n 10 17 rfl rfl rfl rfl ?_
          refine e_iload_n 11 18 rfl rfl rfl rfl ?_
          refine e_iload_n 12 19 rfl rfl rfl rfl ?_
          refine g_callV 13 22 (c1) okX12_fits cvX12_291 ⟨(Nat.le_of_ble_eq_true rfl), (Nat.le_of_ble_eq_true rfl)⟩ rfl rfl (Nat.le_of_ble_eq_true rfl) rfl rfl rfl rfl rfl (Nat.le_of_ble_eq_true rfl) (Nat.le_of_ble_eq_true rfl) (Nat.le_of_ble_eq_true rfl) ?_
          refine e_istore_n 14 23 (ls' := [some _, some _, some _, some _]) rfl rfl rfl (Nat.le_of_ble_eq_true rfl) rfl ?_
          refine e_iinc 15 26 (ls' := [some _, some _, some _, some _]) rfl rfl (Nat.le_of_ble_eq_true rfl) rfl rfl ?_
          refine e_goto 16 4 rfl rfl ?_
          exact k1
      | false =>
        rw [hb] at c1
        refine ⟨s1, ?_, f1⟩
        rw [show alN f9 i (m + 1) = false by rw [alN, hb]; rfl]
        have last : x_E MX12_fitsAll 0 0 29 [some (.ref 281), some (.int (ii d)), some (.int (ii (bi false))), some (.int (ii (((i + 1 : Nat)) : Int)))] [] (St s1) 0 0 (zv false) (St s1) := by
          refine e_iload_n 17 30 rfl rfl rfl rfl ?_
          exact e_zreturn 18 rfl rfl (Or.inl rfl) (Nat.le_of_ble_eq_true rfl) (Nat.le_of_ble_eq_true rfl)
        have k4 : x_E MX12_fitsAll 0 0 4 [some (.ref 281), some (.int (ii d)), some (.int (ii (bi false))), some (.int (ii (((i + 1 : Nat)) : Int)))] [] (St s1) 0 0 (zv false) (St s1) := by
          refine e_iload_n 4 5 rfl rfl rfl rfl ?_
          refine e_aload_n 5 6 rfl rfl rfl rfl ?_
          refine g_getI 6 9 14 ckX12 flX12_279 rfl rfl (Nat.le_of_ble_eq_true rfl) rfl rfl rfl e14' ?_
          refine e_icmp_ge 7 29 12 rfl rfl rfl (by unfold xr at *; omega) (by unfold xr at *; omega) (fun hge => ?_) (fun hge => ?_)
          · skip
            exact last
          · skip
            refine e_iload_n 8 13 rfl rfl rfl rfl ?_
            refine e_ifb_eq 9 29 16 rfl rfl rfl (fun hq => ?_) (fun hq => ?_)
            · skip
              exact last
            · skip
              cases hq
        refine e_iload_n 4 5 rfl rfl rfl rfl ?_
        refine e_aload_n 5 6 rfl rfl rfl rfl ?_
        refine g_getI 6 9 14 ckX12 flX12_279 rfl rfl (Nat.le_of_ble_eq_true rfl) rfl rfl rfl e14 ?_
        refine e_icmp_ge 7 29 12 rfl rfl rfl (by unfold xr at *; omega) (by unfold xr at *; omega) (fun h9 => absurd h9 (by omega)) (fun _ => ?_)
        refine e_iload_n 8 13 rfl rfl rfl rfl ?_
        refine e_ifb_eq 9 29 16 rfl rfl rfl (fun hq => ?_) (fun hq => ?_)
        · skip
          cases hq
        · skip
          refine e_aload_n 10 17 rfl rfl rfl rfl ?_
          refine e_iload_n 11 18 rfl rfl rfl rfl ?_
          refine e_iload_n 12 19 rfl rfl rfl rfl ?_
          refine g_callV 13 22 (c1) okX12_fits cvX12_291 ⟨(Nat.le_of_ble_eq_true rfl), (Nat.le_of_ble_eq_true rfl)⟩ rfl rfl (Nat.le_of_ble_eq_true rfl) rfl rfl rfl rfl rfl (Nat.le_of_ble_eq_true rfl) (Nat.le_of_ble_eq_true rfl) (Nat.le_of_ble_eq_true rfl) ?_
          refine e_istore_n 14 23 (ls' := [some _, some _, some _, some _]) rfl rfl rfl (Nat.le_of_ble_eq_true rfl) rfl ?_
          refine e_iinc 15 26 (ls' := [some _, some _, some _, some _]) rfl rfl (Nat.le_of_ble_eq_true rfl) rfl rfl ?_
          refine e_goto 16 4 rfl rfl ?_
          exact k4
  obtain ⟨σ', k1, k2⟩ := lp (τ 256 4).toNat 0 σ (by omega) FP.rf
  refine ⟨σ', ?_, k2⟩
  refine e_entry okX12_fitsAll (Nat.le_of_ble_eq_true rfl) (ls := [some _, some _, none, none]) rfl ?_
  refine e_iconst 0 1 rfl rfl ?_
  refine e_istore_n 1 2 (ls' := [some _, some _, some _, none]) rfl rfl rfl (Nat.le_of_ble_eq_true rfl) rfl ?_
  refine e_iconst 2 3 rfl rfl ?_
  refine e_istore_n 3 4 (ls' := [some _, some _, some _, some _]) rfl rfl rfl (Nat.le_of_ble_eq_true rfl) rfl ?_
  exact k1
theorem sp_mFindAnew {τ σ : xSig} {T : Nat → List Int} {G : Nat → Fo} (hI : FIM τ T G σ) (hD : DOCM τ T G σ) : ∃ σ', x_Sp MX12_findAnew 0 0 [.ref 281] (St σ) (iv (cft τ T)) (St σ') ∧ FP scr9 σ σ' ∧ σ' 281 47 = 0 := by
  unfold cft
  generalize hfe : (fun n : Nat => if hasd τ n = true ∧ fal τ T (T (31 + 2 * n)) = true then (1 : Int) else 0) = f9
  have hf9 : ∀ n : Nat, f9 n = if hasd τ n = true ∧ fal τ T (T (31 + 2 * n)) = true then (1 : Int) else 0 := fun n => by rw [← hfe]
  have lp : ∀ (m i : Nat) (acc : Int) (s : xSig), i + m = 100 → FP lk9 (xu σ 281 47 0) s → ∃ σ', x_E MX12_findAnew 0 0 9 [some (.ref 281), some (.int (ii acc)), some (.int (ii i))] [] (St s) 0 0 (iv (acc + smN f9 i m)) (St σ') ∧ FP lk9 s σ' := by
    intro m
    induction m with
    | zero =>
      intro i acc s hi hF
      refine ⟨s, ?_, FP.rf⟩
      rw [show acc + smN f9 i 0 = acc from Int.add_zero acc]
      refine e_iload_n 7 10 rfl rfl rfl rfl ?_
      refine e_bipush 8 12 rfl rfl rfl ?_
      refine e_icmp_ge 9 46 15 rfl rfl rfl (by unfold xr at *; omega) (by unfold xr at *; omega) (fun _ => ?_) (fun h9 => absurd h9 (by omega))
      refine e_iload_n 27 47 rfl rfl rfl rfl ?_
      exact e_ireturn 28 rfl rfl (Nat.le_of_ble_eq_true rfl) (Nat.le_of_ble_eq_true rfl)
    | succ m ih =>
      intro i acc s hi hF
      have hF2 : FP (lk9 ++ [(281, 47)]) σ s := FP.tr (F47.mono rfl) (hF.mono rfl)
      have hI1 := hI.fp hF2 rfl
      have hD1 := hD.fp hF2 rfl
      have e3 := hD1.2 i (by omega)
      have fin : ∀ (z : Int) (s1 : xSig), FP lk9 s s1 → z = f9 i → ∃ σ', x_E MX12_findAnew 0 0 38 [some (.ref 281), some (.int (ii acc)), some (.int (ii i))] [.int (ii z), .int (ii acc)] (St s1) 0 0 (iv (acc + smN f9 i (m + 1))) (St σ') ∧ FP lk9 s σ' := by
        intro z s1 g hz
        obtain ⟨σ', k1, k2⟩ := ih (i + 1) (acc + z) s1 (by omega) (hF.tr g)
        refine ⟨σ', ?_, g.tr k2⟩
        rw [show acc + smN f9 i (m + 1) = acc + z + smN f9 (i + 1) m by rw [smN, hz]; omega]
        refine e_iadd 23 39 rfl rfl ?_
        refine e_istore_n 24 40 (ls' := [some _, some _, some _]) rfl rfl rfl (Nat.le_of_ble_eq_true rfl) rfl ?_
        refine e_iinc 25 43 (ls' := [some _, some _, some _]) rfl rfl (Nat.le_of_ble_eq_true rfl) rfl rfl ?_
        refine e_goto 26 9 rfl rfl ?_
        exact k1
      cases hh : hasd τ i with
      | false =>
        obtain ⟨σ', k1, k2⟩ := fin 0 s FP.rf (by rw [hf9, hh]; rfl)
        rw [hh] at e3
        refine ⟨σ', ?_, k2⟩
        refine e_iload_n 7 10 rfl rfl rfl rfl ?_
        refine e_bipush 8 12 rfl rfl rfl ?_
        refine e_icmp_ge 9 46 15 rfl rfl rfl (by unfold xr at *; omega) (by unfold xr at *; omega) (fun h9 => absurd h9 (by omega)) (fun _ => ?_)
        refine e_iload_n 10 16 rfl rfl rfl rfl ?_
        refine e_aload_n 11 17 rfl rfl rfl rfl ?_
        refine g_getR 12 20 ckX12 flX12_13 rfl rfl (Nat.le_of_ble_eq_true rfl) rfl rfl ?_
        refine e_iload_n 13 21 rfl rfl rfl rfl ?_
        refine g_baload 14 22 rfl rfl (Nat.le_of_ble_eq_true rfl) rfl (by omega) (by omega) (by omega) e3 ?_
        refine e_ifb_eq 15 37 25 rfl rfl rfl (fun h => ?_) (fun h => ?_)
        · skip
          refine e_iconst 22 38 rfl rfl ?_
          exact k1
        · skip
          cases h
      | true =>
        rw [hh] at e3
        obtain ⟨F, d1, d2, d3⟩ := hD1.1 i (by omega) hh
        obtain ⟨s1, c1, f1⟩ := sp_mFitsAll hI1 d2 d3
        cases hb : fal τ T (T (31 + 2 * i)) with
        | true =>
          rw [hb] at c1
          obtain ⟨σ', k1, k2⟩ := fin 1 s1 f1 (by rw [hf9, if_pos ⟨hh, hb⟩])
          refine ⟨σ', ?_, k2⟩
          refine e_iload_n 7 10 rfl rfl rfl rfl ?_
          refine e_bipush 8 12 rfl rfl rfl ?_
          refine e_icmp_ge 9 46 15 rfl rfl rfl (by unfold xr at *; omega) (by unfold xr at *; omega) (fun h9 => absurd h9 (by omega)) (fun _ => ?_)
          refine e_iload_n 10 16 rfl rfl rfl rfl ?_
          refine e_aload_n 11 17 rfl rfl rfl rfl ?_
          refine g_getR 12 20 ckX12 flX12_13 rfl rfl (Nat.le_of_ble_eq_true rfl) rfl rfl ?_
          refine e_iload_n 13 21 rfl rfl rfl rfl ?_
          refine g_baload 14 22 rfl rfl (Nat.le_of_ble_eq_true rfl) rfl (by omega) (by omega) (by omega) e3 ?_
          refine e_ifb_eq 15 37 25 rfl rfl rfl (fun h => ?_) (fun h => ?_)
          · skip
            cases h
          · skip
            refine e_aload_n 16 26 rfl rfl rfl rfl ?_
            refine e_iload_n 17 27 rfl rfl rfl rfl ?_
            refine g_callV 18 30 (c1) okX12_fitsAll cvX12_311 ⟨(Nat.le_of_ble_eq_true rfl), (Nat.le_of_ble_eq_true rfl)⟩ rfl rfl (Nat.le_of_ble_eq_true rfl) rfl rfl rfl rfl rfl (Nat.le_of_ble_eq_true rfl) (Nat.le_of_ble_eq_true rfl) (Nat.le_of_ble_eq_true rfl) ?_
            refine e_ifb_eq 19 37 33 rfl rfl rfl (fun h2 => ?_) (fun h2 => ?_)
            · skip
              cases h2
            · skip
              refine e_iconst 20 34 rfl rfl ?_
              refine e_goto 21 38 rfl rfl ?_
              exact k1
        | false =>
          rw [hb] at c1
          obtain ⟨σ', k1, k2⟩ := fin 0 s1 f1 (by rw [hf9, hb]; simp)
          refine ⟨σ', ?_, k2⟩
          refine e_iload_n 7 10 rfl rfl rfl rfl ?_
          refine e_bipush 8 12 rfl rfl rfl ?_
          refine e_icmp_ge 9 46 15 rfl rfl rfl (by unfold xr at *; omega) (by unfold xr at *; omega) (fun h9 => absurd h9 (by omega)) (fun _ => ?_)
          refine e_iload_n 10 16 rfl rfl rfl rfl ?_
          refine e_aload_n 11 17 rfl rfl rfl rfl ?_
          refine g_getR 12 20 ckX12 flX12_13 rfl rfl (Nat.le_of_ble_eq_true rfl) rfl rfl ?_
          refine e_iload_n 13 21 rfl rfl rfl rfl ?_
          refine g_baload 14 22 rfl rfl (Nat.le_of_ble_eq_true rfl) rfl (by omega) (by omega) (by omega) e3 ?_
          refine e_ifb_eq 15 37 25 rfl rfl rfl (fun h => ?_) (fun h => ?_)
          · skip
            cases h
          · skip
            refine e_aload_n 16 26 rfl rfl rfl rfl ?_
            refine e_iload_n 17 27 rfl rfl rfl rfl ?_
            refine g_callV 18 30 (c1) okX12_fitsAll cvX12_311 ⟨(Nat.le_of_ble_eq_true rfl), (Nat.le_of_ble_eq_true rfl)⟩ rfl rfl (Nat.le_of_ble_eq_true rfl) rfl rfl rfl rfl rfl (Nat.le_of_ble_eq_true rfl) (Nat.le_of_ble_eq_true rfl) (Nat.le_of_ble_eq_true rfl) ?_
            refine e_ifb_eq 19 37 33 rfl rfl rfl (fun h2 => ?_) (fun h2 => ?_)
            · skip
              refine e_iconst 22 38 rfl rfl ?_
              exact k1
            · skip
              cases h2
  obtain ⟨σ', k1, k2⟩ := lp 100 0 0 (xu σ 281 47 0) (by omega) FP.rf
  refine ⟨σ', ?_, (F47s (σ := σ) (c := 0)).tr (k2.mono rfl), by rw [k2 281 47 rfl]; exact xu_same _ _ _ _⟩
  rw [Int.zero_add] at k1
  refine e_entry okX12_findAnew (Nat.le_of_ble_eq_true rfl) (ls := [some _, none, none]) rfl ?_
  refine e_aload_n 0 1 rfl rfl rfl rfl ?_
  refine e_iconst 1 2 rfl rfl ?_
  refine g_putI 2 5 47 ckX12 flX12_118 rfl rfl (Nat.le_of_ble_eq_true rfl) rfl rfl rfl ?_
  refine e_iconst 3 6 rfl rfl ?_
  refine e_istore_n 4 7 (ls' := [some _, some _, none]) rfl rfl rfl (Nat.le_of_ble_eq_true rfl) rfl ?_
  refine e_iconst 5 8 rfl rfl ?_
  refine e_istore_n 6 9 (ls' := [some _, some _, some _]) rfl rfl rfl (Nat.le_of_ble_eq_true rfl) rfl ?_
  exact k1
theorem fr261 {σ σ' : xSig} (h : Fr 261 σ σ') : FP csc9 σ σ' := h.fp.mono rfl
theorem st_findAnew {i : Nat} {σ : xSig} (h : INV i σ) : STEP i MX11_findAnew MX12_findAnew iv [] [] σ := by
  have hM := h
  obtain ⟨T, G, hA, hM⟩ := hM
  obtain ⟨σ1, x1, x2⟩ := sp_findAnew hA (hM.1 4).1 hM.flt hM.gda
  have f1 := fr261 x2
  obtain ⟨σ2, y1, y2, y3⟩ := sp_mFindAnew (σ := σ1) (hM.fim.fp f1 rfl) (hM.docm.fp f1 rfl)
  exact STEP.read h x1 y1 y3 f1 y2
