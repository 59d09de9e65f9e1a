/-! ===== the order of values ===== -/
theorem lexc_anti : ∀ a b : List Int, lexc a b = - lexc b a := by
  intro a
  induction a with
  | nil => intro b; cases b <;> simp [lexc]
  | cons x a ih =>
    intro b
    cases b with
    | nil => simp [lexc]
    | cons y b =>
      have := ih b
      rcases Int.lt_trichotomy x y with h | h | h
      · simp [lexc, h, show ¬ y < x by omega]
      · simp [lexc, h, this]
      · simp [lexc, h, show ¬ x < y by omega]
theorem lexc_trans : ∀ a b c : List Int, lexc a b = -1 → lexc b c = -1 → lexc a c = -1 := by
  intro a
  induction a with
  | nil => intro b c h; simp [lexc] at h
  | cons x a ih =>
    intro b c h1 h2
    cases b with
    | nil => simp [lexc] at h1
    | cons y b =>
      cases c with
      | nil => simp [lexc] at h2
      | cons z c =>
        simp only [lexc] at h1 h2 ⊢
        by_cases q1 : x < y
        · by_cases q2 : y < z
          · rw [if_pos (by omega)]
          · rw [if_neg q2] at h2
            by_cases q3 : z < y
            · rw [if_pos q3] at h2; omega
            · rw [if_pos (by omega)]
        · rw [if_neg q1] at h1
          by_cases q4 : y < x
          · rw [if_pos q4] at h1; omega
          · rw [if_neg q4] at h1
            by_cases q2 : y < z
            · rw [if_pos (by omega)]
            · rw [if_neg q2] at h2
              by_cases q3 : z < y
              · rw [if_pos q3] at h2; omega
              · rw [if_neg q3] at h2
                rw [if_neg (by omega), if_neg (by omega)]
                exact ih b c h1 h2
theorem lexc_pre : ∀ a b : List Int, lexc a b = 0 → (∃ s, b = a ++ s) ∨ (∃ s, a = b ++ s) := by
  intro a
  induction a with
  | nil => intro b _; exact Or.inl ⟨b, rfl⟩
  | cons x a ih =>
    intro b h
    cases b with
    | nil => exact Or.inr ⟨x :: a, rfl⟩
    | cons y b =>
      simp only [lexc] at h
      by_cases q1 : x < y
      · rw [if_pos q1] at h; omega
      · by_cases q2 : y < x
        · rw [if_neg q1, if_pos q2] at h; omega
        · rw [if_neg q1, if_neg q2] at h
          have e : x = y := by omega
          subst e
          rcases ih b h with ⟨s, hs⟩ | ⟨s, hs⟩
          · exact Or.inl ⟨s, by rw [hs]; rfl⟩
          · exact Or.inr ⟨s, by rw [hs]; rfl⟩
theorem cv_pre {a s : List Int} (h1 : Cv a) (h2 : Cv (a ++ s)) : s = [] := by
  cases s with
  | nil => rfl
  | cons x s =>
    have := h2.2.2 a.length h1.2.1 (by simp)
    rw [List.take_left' rfl, h1.1] at this
    omega
theorem lexc_eq {a b : List Int} (h1 : Cv a) (h2 : Cv b) (h : lexc a b = 0) : a = b := by
  rcases lexc_pre a b h with ⟨s, hs⟩ | ⟨s, hs⟩
  · rw [hs] at h2
    rw [hs, cv_pre h1 h2, List.append_nil]
  · rw [hs] at h1
    rw [hs, cv_pre h2 h1, List.append_nil]
theorem lexc_self (a : List Int) : lexc a a = 0 := by
  have := lexc_anti a a
  omega
/-! the groups, in order -/
def gIns (T : Nat → List Int) (v : List Int) (n i s : Int) : List Gr → List Gr
  | [] => [(n, i, 1, s)]
  | g :: r => if lexc (gv T g) v = -1 then g :: gIns T v n i s r else if lexc (gv T g) v = 0 then (g.1, g.2.1, g.2.2.1 + 1, g.2.2.2 + s) :: r else (n, i, 1, s) :: g :: r
def GS (T : Nat → List Int) : List Gr → Prop
  | [] => True
  | g :: r => (∀ g' ∈ r, lexc (gv T g) (gv T g') = -1) ∧ GS T r
def gmd (hit : Bool) (p : Nat) (G : List Gr) (n i : Int) : List Gr := if hit = true then G else G.take p ++ (n, i, 0, 0) :: G.drop p
theorem gIns_spec {T : Nat → List Int} {v : List Int} (hv : Cv v) (n i s : Int) : ∀ G : List Gr, GS T G → (∀ g ∈ G, Cv (gv T g)) →
    ∃ (p : Nat) (hit : Bool), p ≤ G.length ∧ (hit = true → p < G.length) ∧ (∀ (j : Nat) (g : Gr), G[j]? = some g → lexc (gv T g) v = if j < p then -1 else if j = p ∧ hit = true then 0 else 1) ∧ ∃ g, (gmd hit p G n i)[p]? = some g ∧ gIns T v n i s G = (gmd hit p G n i).set p (g.1, g.2.1, g.2.2.1 + 1, g.2.2.2 + s) := by
  intro G
  induction G with
  | nil =>
    intro _ _
    refine ⟨0, false, Nat.le_refl _, (fun q => by cases q), (fun j g hj => by simp at hj), (n, i, 0, 0), rfl, ?_⟩
    simp [gIns, gmd]
  | cons g G ih =>
    intro hS hC
    have hg := hC g (by simp)
    have hl := lexc_in (gv T g) v
    simp only [gIns]
    by_cases h1 : lexc (gv T g) v = -1
    · obtain ⟨p, hit, a1, a2, a3, g9, a4, a5⟩ := ih hS.2 (fun g' h' => hC g' (by simp [h']))
      rw [if_pos h1]
      refine ⟨p + 1, hit, by simp; omega, fun q => by have := a2 q; simp; omega, fun j g' hj => ?_, g9, ?_, ?_⟩
      · cases j with
        | zero =>
          simp only [List.getElem?_cons_zero, Option.some.injEq] at hj
          subst hj
          rw [if_pos (by omega)]
          exact h1
        | succ j =>
          simp only [List.getElem?_cons_succ] at hj
          have := a3 j g' hj
          rw [this]
          simp only [Nat.add_lt_add_iff_right, Nat.add_right_cancel_iff]
      · cases hit <;> simpa [gmd] using a4
      · rw [a5]
        cases hit <;> simp [gmd]
    · rw [if_neg h1]
      by_cases h0 : lexc (gv T g) v = 0
      · rw [if_pos h0]
        have e := lexc_eq hg hv h0
        refine ⟨0, true, Nat.zero_le _, fun _ => by simp, fun j g' hj => ?_, g, rfl, rfl⟩
        cases j with
        | zero =>
          simp only [List.getElem?_cons_zero, Option.some.injEq] at hj
          subst hj
          rw [if_neg (by omega), if_pos ⟨rfl, rfl⟩]
          exact h0
        | succ j =>
          simp only [List.getElem?_cons_succ] at hj
          have h9 := hS.1 g' (List.mem_of_getElem? hj)
          rw [e] at h9
          have := lexc_anti (gv T g') v
          rw [if_neg (by omega), if_neg (by omega)]
          omega
      · rw [if_neg h0]
        refine ⟨0, false, Nat.zero_le _, (fun q => by cases q), fun j g' hj => ?_, (n, i, 0, 0), rfl, by simp [gmd]⟩
        cases j with
        | zero =>
          simp only [List.getElem?_cons_zero, Option.some.injEq] at hj
          subst hj
          rw [if_neg (by omega), if_neg (fun q => by cases q.2)]
          omega
        | succ j =>
          simp only [List.getElem?_cons_succ] at hj
          have h9 := hS.1 g' (List.mem_of_getElem? hj)
          have h8 := lexc_anti v (gv T g)
          have h7 := lexc_trans v _ _ (by omega) h9
          have := lexc_anti (gv T g') v
          rw [if_neg (by omega), if_neg (fun q => by cases q.2)]
          omega
theorem gIns_mem {T : Nat → List Int} {v : List Int} {n i s : Int} : ∀ (G : List Gr) (g : Gr), g ∈ gIns T v n i s G → (g.1 = n ∧ g.2.1 = i) ∨ ∃ g' ∈ G, g.1 = g'.1 ∧ g.2.1 = g'.2.1 := by
  intro G
  induction G with
  | nil => intro g hg; simp only [gIns, List.mem_singleton] at hg; rw [hg]; exact Or.inl ⟨rfl, rfl⟩
  | cons g0 G ih =>
    intro g hg
    simp only [gIns] at hg
    by_cases h1 : lexc (gv T g0) v = -1
    · rw [if_pos h1] at hg
      rcases List.mem_cons.mp hg with q | q
      · exact Or.inr ⟨g0, by simp, by rw [q], by rw [q]⟩
      · rcases ih g q with h | ⟨g', h2, h3⟩
        · exact Or.inl h
        · exact Or.inr ⟨g', by simp [h2], h3⟩
    · rw [if_neg h1] at hg
      by_cases h0 : lexc (gv T g0) v = 0
      · rw [if_pos h0] at hg
        rcases List.mem_cons.mp hg with q | q
        · exact Or.inr ⟨g0, by simp, by rw [q], by rw [q]⟩
        · exact Or.inr ⟨g, by simp [q], rfl, rfl⟩
      · rw [if_neg h0] at hg
        rcases List.mem_cons.mp hg with q | q
        · exact Or.inl ⟨by rw [q], by rw [q]⟩
        · exact Or.inr ⟨g, q, rfl, rfl⟩
theorem gv_same {T : Nat → List Int} {g g' : Gr} (h1 : g.1 = g'.1) (h2 : g.2.1 = g'.2.1) : gv T g = gv T g' := by unfold gv; rw [h1, h2]
theorem gIns_GS {T : Nat → List Int} {v : List Int} (hv : Cv v) {n i : Int} (hn : sv (T (31 + 2 * n.toNat)) i = v) (s : Int) : ∀ G : List Gr, GS T G → (∀ g ∈ G, Cv (gv T g)) → GS T (gIns T v n i s G) := by
  intro G
  induction G with
  | nil => intro _ _; exact ⟨fun g' h => by simp at h, trivial⟩
  | cons g G ih =>
    intro hS hC
    have hl := lexc_in (gv T g) v
    simp only [gIns]
    by_cases h1 : lexc (gv T g) v = -1
    · rw [if_pos h1]
      refine ⟨fun g' h => ?_, ih hS.2 (fun g' h' => hC g' (by simp [h']))⟩
      rcases gIns_mem G g' h with q | ⟨g2, q1, q2, q3⟩
      · rw [show gv T g' = v by unfold gv; rw [q.1, q.2, hn]]
        exact h1
      · rw [gv_same q2 q3]
        exact hS.1 g2 q1
    · rw [if_neg h1]
      by_cases h0 : lexc (gv T g) v = 0
      · rw [if_pos h0]
        exact ⟨fun g' h => hS.1 g' h, hS.2⟩
      · rw [if_neg h0]
        have h8 := lexc_anti v (gv T g)
        have e : gv T ((n, i, 1, s) : Gr) = v := hn
        refine ⟨fun g' h => ?_, hS⟩
        rw [e]
        rcases List.mem_cons.mp h with q | q
        · rw [q]; omega
        · exact lexc_trans v _ _ (by omega) (hS.1 g' q)
theorem gIns_len {T : Nat → List Int} {v : List Int} {n i s : Int} : ∀ G : List Gr, (gIns T v n i s G).length ≤ G.length + 1 := by
  intro G
  induction G with
  | nil => simp [gIns]
  | cons g G ih =>
    simp only [gIns]
    split
    · simp; exact ih
    · split <;> simp
/-! ===== Groups: building ===== -/
theorem sp_groupFor {σ : xSig} {T : Nat → List Int} (hA : VAll σ T) (h01 : n01 σ 27) {G : List Gr} (hH : GH σ G) (hgv : ∀ g ∈ G, GV σ T g) {n : Nat} (hn : hasd σ n = true) {i : Int} (hi : 0 ≤ i ∧ i < (T (31 + 2 * n)).length ∧ Cv (sv (T (31 + 2 * n)) i)) {p : Nat} {hit : Bool} (hp : p ≤ G.length) (hh : hit = true → p < G.length) (hl : hit = false → G.length < 1440) (hc : ∀ (j : Nat) (g : Gr), G[j]? = some g → lexc (gv T g) (sv (T (31 + 2 * n)) i) = if j < p then -1 else if j = p ∧ hit = true then 0 else 1) :
    x_Sp MX3_groupFor 0 0 [.ref 273, .ref 25, .int (ii n), .int (ii i)] (St σ) (iv p) (St (if hit = true then σ else gmk σ p n i)) := by
  have h1440 := hH.2.1
  have hG6 := hH.1
  have hni := hasd_in hn
  have hat := sp_stAt h01 (n := n) (by unfold xr; omega)
  rw [da_has hn] at hat
  have hvn := (vO_s n (by omega)).1
  have fin : hit = false → ∀ it : Int, x_E MX3_groupFor 0 0 87 [some (.ref 273), some (.ref 25), some (.int (ii n)), some (.int (ii i)), some (.ref (31 + 2 * n)), some (.int (ii p)), some (.int (ii p)), some (.int (ii it)), none, none] [] (St σ) 0 0 (iv p) (St (if hit = true then σ else gmk σ p n i)) := by
    intro hf it
    have := hl hf
    rw [hf, if_neg (by decide)]
    have hm := sp_makeGroup (σ := σ) (by omega) (k := p) (by omega) (n := n) (i := i)
    refine e_aload_n 45 88 rfl rfl rfl rfl ?_
    refine e_iload 46 90 rfl rfl rfl ?_
    refine e_iload_n 47 91 rfl rfl rfl rfl ?_
    refine e_iload_n 48 92 rfl rfl rfl rfl ?_
    refine g_callV 49 95 (hm) okX3_makeGroup cvX3_96 ⟨(Nat.le_of_ble_eq_true rfl), (Nat.le_of_ble_eq_true rfl)⟩ rfl rfl (Nat.le_of_ble_eq_true rfl) rfl rfl rfl rfl rfl (Nat.le_of_ble_eq_true rfl) (Nat.le_of_ble_eq_true rfl) (Nat.le_of_ble_eq_true rfl) ?_
    exact e_ireturn 50 rfl rfl (Nat.le_of_ble_eq_true rfl) (Nat.le_of_ble_eq_true rfl)
  have loop : ∀ (f lo hi' it : Nat), hi' - lo ≤ f → lo ≤ p → p ≤ hi' → hi' ≤ G.length → (hit = true → p < hi') → it + (hi' - lo) ≤ 1440 → x_E MX3_groupFor 0 0 19 [some (.ref 273), some (.ref 25), some (.int (ii n)), some (.int (ii i)), some (.ref (31 + 2 * n)), some (.int (ii lo)), some (.int (ii hi')), some (.int (ii it)), none, none] [] (St σ) 0 0 (iv p) (St (if hit = true then σ else gmk σ p n i)) := by
    intro f
    induction f with
    | zero =>
      intro lo hi' it h1 h2 h3 h4 h5 h6
      have e1 : lo = p := by omega
      have e2 : hi' = p := by omega
      have hf : hit = false := by
        cases h : hit with
        | false => rfl
        | true => exact absurd (h5 h) (by omega)
      have hfin := fin hf it
      subst e1
      subst e2
      by_cases hit2 : it < 1440
      · skip
        refine e_iload 11 21 rfl rfl rfl ?_
        refine e_sipush 12 24 rfl rfl rfl ?_
        refine e_icmp_ge 13 87 27 rfl rfl rfl (by unfold xr at *; omega) (by unfold xr at *; omega) (fun h9 => absurd h9 (by omega)) (fun _ => ?_)
        refine e_iload 14 29 rfl rfl rfl ?_
        refine e_iload 15 31 rfl rfl rfl ?_
        refine e_icmp_ge 16 87 34 rfl rfl rfl (by unfold xr at *; omega) (by unfold xr at *; omega) (fun _ => ?_) (fun h9 => absurd h9 (by omega))
        exact hfin
      · skip
        refine e_iload 11 21 rfl rfl rfl ?_
        refine e_sipush 12 24 rfl rfl rfl ?_
        refine e_icmp_ge 13 87 27 rfl rfl rfl (by unfold xr at *; omega) (by unfold xr at *; omega) (fun _ => ?_) (fun h9 => absurd h9 (by omega))
        exact hfin
    | succ f ih =>
      intro lo hi' it h1 h2 h3 h4 h5 h6
      by_cases hlt : lo < hi'
      · obtain ⟨mid, hmid⟩ : ∃ mid : Nat, mid = (lo + hi') / 2 := ⟨_, rfl⟩
        have hm1 : lo ≤ mid ∧ mid < hi' := by omega
        have hmi : ((lo : Int) + hi') / 2 = (mid : Int) := by omega
        obtain ⟨g, hg⟩ : ∃ g, G[mid]? = some g := ⟨G[mid]'(by omega), List.getElem?_eq_getElem (by omega)⟩
        have ho := sp_orderTo hA h01 hH hg (hgv g (List.mem_of_getElem? hg)) hvn hi
        rw [hc mid g hg] at ho
        rcases (by omega : mid < p ∨ (mid = p) ∨ p < mid) with q | q | q
        · rw [if_pos q] at ho
          have hn2 := ih (mid + 1) hi' (it + 1) (by omega) (by omega) h3 h4 h5 (by omega)
          rw [show (((mid + 1 : Nat)) : Int) = (mid : Int) + 1 by omega, show (((it + 1 : Nat)) : Int) = (it : Int) + 1 by omega] at hn2
          refine e_iload 11 21 rfl rfl rfl ?_
          refine e_sipush 12 24 rfl rfl rfl ?_
          refine e_icmp_ge 13 87 27 rfl rfl rfl (by unfold xr at *; omega) (by unfold xr at *; omega) (fun h9 => absurd h9 (by omega)) (fun _ => ?_)
          refine e_iload 14 29 rfl rfl rfl ?_
          refine e_iload 15 31 rfl rfl rfl ?_
          refine e_icmp_ge 16 87 34 rfl rfl rfl (by unfold xr at *; omega) (by unfold xr at *; omega) (fun h9 => absurd h9 (by omega)) (fun _ => ?_)
          refine e_iload 17 36 rfl rfl rfl ?_
          refine e_iload 18 38 rfl rfl rfl ?_
          refine e_iadd 19 39 rfl rfl ?_
          refine e_iconst 20 40 rfl rfl ?_
          refine e_idiv 21 41 rfl rfl (by decide) (ii_div (by omega) (by omega)) ?_
          refine e_istore 22 43 (ls' := [some _, some _, some _, some _, some _, some _, some _, some _, some _, none]) rfl rfl (Nat.le_of_ble_eq_true rfl) rfl ?_
          rw [hmi]
          refine e_aload_n 23 44 rfl rfl rfl rfl ?_
          refine e_aload_n 24 45 rfl rfl rfl rfl ?_
          refine e_iload 25 47 rfl rfl rfl ?_
          refine e_aload 26 49 rfl rfl rfl ?_
          refine e_iload_n 27 50 rfl rfl rfl rfl ?_
          refine g_callV 28 53 (ho) okX3_orderTo cvX3_92 ⟨(Nat.le_of_ble_eq_true rfl), (Nat.le_of_ble_eq_true rfl)⟩ rfl rfl (Nat.le_of_ble_eq_true rfl) rfl rfl rfl rfl rfl (Nat.le_of_ble_eq_true rfl) (Nat.le_of_ble_eq_true rfl) (Nat.le_of_ble_eq_true rfl) ?_
          refine e_istore 29 55 (ls' := [some _, some _, some _, some _, some _, some _, some _, some _, some _, some _]) rfl rfl (Nat.le_of_ble_eq_true rfl) rfl ?_
          refine e_iload 30 57 rfl rfl rfl ?_
          refine e_if_ne 31 63 60 rfl rfl rfl (by unfold xr at *; omega) (fun _ => ?_) (fun h9 => absurd h9 (by omega))
          refine e_iload 34 65 rfl rfl rfl ?_
          refine e_if_ge 35 77 68 rfl rfl rfl (by unfold xr at *; omega) (fun h9 => absurd h9 (by omega)) (fun _ => ?_)
          refine e_iload 36 70 rfl rfl rfl ?_
          refine e_iconst 37 71 rfl rfl ?_
          refine e_iadd 38 72 rfl rfl ?_
          refine e_istore 39 74 (ls' := [some _, some _, some _, some _, some _, some _, some _, some _, some _, some _]) rfl rfl (Nat.le_of_ble_eq_true rfl) rfl ?_
          refine e_goto 40 81 rfl rfl ?_
          refine e_iinc 43 84 (ls' := [some _, some _, some _, some _, some _, some _, some _, some _, some _, some _]) rfl rfl (Nat.le_of_ble_eq_true rfl) rfl rfl ?_
          refine e_goto 44 19 rfl rfl ?_
          refine e_dropm [true, true, true, true, true, true, true, true, false, false] (ls' := [some _, some _, some _, some _, some _, some _, some _, some _, none, none]) rfl ?_
          exact hn2
        · by_cases hhit : hit = true
          · rw [if_neg (by omega), if_pos ⟨q, hhit⟩] at ho
            have e : p = mid := q.symm
            rw [if_pos hhit, e]
            refine e_iload 11 21 rfl rfl rfl ?_
            refine e_sipush 12 24 rfl rfl rfl ?_
            refine e_icmp_ge 13 87 27 rfl rfl rfl (by unfold xr at *; omega) (by unfold xr at *; omega) (fun h9 => absurd h9 (by omega)) (fun _ => ?_)
            refine e_iload 14 29 rfl rfl rfl ?_
            refine e_iload 15 31 rfl rfl rfl ?_
            refine e_icmp_ge 16 87 34 rfl rfl rfl (by unfold xr at *; omega) (by unfold xr at *; omega) (fun h9 => absurd h9 (by omega)) (fun _ => ?_)
            refine e_iload 17 36 rfl rfl rfl ?_
            refine e_iload 18 38 rfl rfl rfl ?_
            refine e_iadd 19 39 rfl rfl ?_
            refine e_iconst 20 40 rfl rfl ?_
            refine e_idiv 21 41 rfl rfl (by decide) (ii_div (by omega) (by omega)) ?_
            refine e_istore 22 43 (ls' := [some _, some _, some _, some _, some _, some _, some _, some _, some _, none]) rfl rfl (Nat.le_of_ble_eq_true rfl) rfl ?_
            rw [hmi]
            refine e_aload_n 23 44 rfl rfl rfl rfl ?_
            refine e_aload_n 24 45 rfl rfl rfl rfl ?_
            refine e_iload 25 47 rfl rfl rfl ?_
            refine e_aload 26 49 rfl rfl rfl ?_
            refine e_iload_n 27 50 rfl rfl rfl rfl ?_
            refine g_callV 28 53 (ho) okX3_orderTo cvX3_92 ⟨(Nat.le_of_ble_eq_true rfl), (Nat.le_of_ble_eq_true rfl)⟩ rfl rfl (Nat.le_of_ble_eq_true rfl) rfl rfl rfl rfl rfl (Nat.le_of_ble_eq_true rfl) (Nat.le_of_ble_eq_true rfl) (Nat.le_of_ble_eq_true rfl) ?_
            refine e_istore 29 55 (ls' := [some _, some _, some _, some _, some _, some _, some _, some _, some _, some _]) rfl rfl (Nat.le_of_ble_eq_true rfl) rfl ?_
            refine e_iload 30 57 rfl rfl rfl ?_
            refine e_if_ne 31 63 60 rfl rfl rfl (by unfold xr at *; omega) (fun h9 => absurd h9 (by omega)) (fun _ => ?_)
            refine e_iload 32 62 rfl rfl rfl ?_
            exact e_ireturn 33 rfl rfl (Nat.le_of_ble_eq_true rfl) (Nat.le_of_ble_eq_true rfl)
          · rw [if_neg (by omega), if_neg (fun z => hhit z.2)] at ho
            have hn2 := ih lo mid (it + 1) (by omega) (by omega) (by omega) (by omega) (fun z => absurd z hhit) (by omega)
            rw [show (((it + 1 : Nat)) : Int) = (it : Int) + 1 by omega] at hn2
            refine e_iload 11 21 rfl rfl rfl ?_
            refine e_sipush 12 24 rfl rfl rfl ?_
            refine e_icmp_ge 13 87 27 rfl rfl rfl (by unfold xr at *; omega) (by unfold xr at *; omega) (fun h9 => absurd h9 (by omega)) (fun _ => ?_)
            refine e_iload 14 29 rfl rfl rfl ?_
            refine e_iload 15 31 rfl rfl rfl ?_
            refine e_icmp_ge 16 87 34 rfl rfl rfl (by unfold xr at *; omega) (by unfold xr at *; omega) (fun h9 => absurd h9 (by omega)) (fun _ => ?_)
            refine e_iload 17 36 rfl rfl rfl ?_
            refine e_iload 18 38 rfl rfl rfl ?_
            refine e_iadd 19 39 rfl rfl ?_
            refine e_iconst 20 40 rfl rfl ?_
            refine e_idiv 21 41 rfl rfl (by decide) (ii_div (by omega) (by omega)) ?_
            refine e_istore 22 43 (ls' := [some _, some _, some _, some _, some _, some _, some _, some _, some _, none]) rfl rfl (Nat.le_of_ble_eq_true rfl) rfl ?_
            rw [hmi]
            refine e_aload_n 23 44 rfl rfl rfl rfl ?_
            refine e_aload_n 24 45 rfl rfl rfl rfl ?_
            refine e_iload 25 47 rfl rfl rfl ?_
            refine e_aload 26 49 rfl rfl rfl ?_
            refine e_iload_n 27 50 rfl rfl rfl rfl ?_
            refine g_callV 28 53 (ho) okX3_orderTo cvX3_92 ⟨(Nat.le_of_ble_eq_true rfl), (Nat.le_of_ble_eq_true rfl)⟩ rfl rfl (Nat.le_of_ble_eq_true rfl) rfl rfl rfl rfl rfl (Nat.le_of_ble_eq_true rfl) (Nat.le_of_ble_eq_true rfl) (Nat.le_of_ble_eq_true rfl) ?_
            refine e_istore 29 55 (ls' := [some _, some _, some _, some _, some _, some _, some _, some _, some _, some _]) rfl rfl (Nat.le_of_ble_eq_true rfl) rfl ?_
            refine e_iload 30 57 rfl rfl rfl ?_
            refine e_if_ne 31 63 60 rfl rfl rfl (by unfold xr at *; omega) (fun _ => ?_) (fun h9 => absurd h9 (by omega))
            refine e_iload 34 65 rfl rfl rfl ?_
            refine e_if_ge 35 77 68 rfl rfl rfl (by unfold xr at *; omega) (fun _ => ?_) (fun h9 => absurd h9 (by omega))
            refine e_iload 41 79 rfl rfl rfl ?_
            refine e_istore 42 81 (ls' := [some _, some _, some _, some _, some _, some _, some _, some _, some _, some _]) rfl rfl (Nat.le_of_ble_eq_true rfl) rfl ?_
            refine e_iinc 43 84 (ls' := [some _, some _, some _, some _, some _, some _, some _, some _, some _, some _]) rfl rfl (Nat.le_of_ble_eq_true rfl) rfl rfl ?_
            refine e_goto 44 19 rfl rfl ?_
            refine e_dropm [true, true, true, true, true, true, true, true, false, false] (ls' := [some _, some _, some _, some _, some _, some _, some _, some _, none, none]) rfl ?_
            exact hn2
        · rw [if_neg (by omega), if_neg (fun z => by omega)] at ho
          have hn2 := ih lo mid (it + 1) (by omega) (by omega) (by omega) (by omega) (fun _ => q) (by omega)
          rw [show (((it + 1 : Nat)) : Int) = (it : Int) + 1 by omega] at hn2
          refine e_iload 11 21 rfl rfl rfl ?_
          refine e_sipush 12 24 rfl rfl rfl ?_
          refine e_icmp_ge 13 87 27 rfl rfl rfl (by unfold xr at *; omega) (by unfold xr at *; omega) (fun h9 => absurd h9 (by omega)) (fun _ => ?_)
          refine e_iload 14 29 rfl rfl rfl ?_
          refine e_iload 15 31 rfl rfl rfl ?_
          refine e_icmp_ge 16 87 34 rfl rfl rfl (by unfold xr at *; omega) (by unfold xr at *; omega) (fun h9 => absurd h9 (by omega)) (fun _ => ?_)
          refine e_iload 17 36 rfl rfl rfl ?_
          refine e_iload 18 38 rfl rfl rfl ?_
          refine e_iadd 19 39 rfl rfl ?_
          refine e_iconst 20 40 rfl rfl ?_
          refine e_idiv 21 41 rfl rfl (by decide) (ii_div (by omega) (by omega)) ?_
          refine e_istore 22 43 (ls' := [some _, some _, some _, some _, some _, some _, some _, some _, some _, none]) rfl rfl (Nat.le_of_ble_eq_true rfl) rfl ?_
          rw [hmi]
          refine e_aload_n 23 44 rfl rfl rfl rfl ?_
          refine e_aload_n 24 45 rfl rfl rfl rfl ?_
          refine e_iload 25 47 rfl rfl rfl ?_
          refine e_aload 26 49 rfl rfl rfl ?_
          refine e_iload_n 27 50 rfl rfl rfl rfl ?_
          refine g_callV 28 53 (ho) okX3_orderTo cvX3_92 ⟨(Nat.le_of_ble_eq_true rfl), (Nat.le_of_ble_eq_true rfl)⟩ rfl rfl (Nat.le_of_ble_eq_true rfl) rfl rfl rfl rfl rfl (Nat.le_of_ble_eq_true rfl) (Nat.le_of_ble_eq_true rfl) (Nat.le_of_ble_eq_true rfl) ?_
          refine e_istore 29 55 (ls' := [some _, some _, some _, some _, some _, some _, some _, some _, some _, some _]) rfl rfl (Nat.le_of_ble_eq_true rfl) rfl ?_
          refine e_iload 30 57 rfl rfl rfl ?_
          refine e_if_ne 31 63 60 rfl rfl rfl (by unfold xr at *; omega) (fun _ => ?_) (fun h9 => absurd h9 (by omega))
          refine e_iload 34 65 rfl rfl rfl ?_
          refine e_if_ge 35 77 68 rfl rfl rfl (by unfold xr at *; omega) (fun _ => ?_) (fun h9 => absurd h9 (by omega))
          refine e_iload 41 79 rfl rfl rfl ?_
          refine e_istore 42 81 (ls' := [some _, some _, some _, some _, some _, some _, some _, some _, some _, some _]) rfl rfl (Nat.le_of_ble_eq_true rfl) rfl ?_
          refine e_iinc 43 84 (ls' := [some _, some _, some _, some _, some _, some _, some _, some _, some _, some _]) rfl rfl (Nat.le_of_ble_eq_true rfl) rfl rfl ?_
          refine e_goto 44 19 rfl rfl ?_
          refine e_dropm [true, true, true, true, true, true, true, true, false, false] (ls' := [some _, some _, some _, some _, some _, some _, some _, some _, none, none]) rfl ?_
          exact hn2
      · exact (ih lo hi' it (by omega) h2 h3 h4 h5 h6)
  have l9 := loop G.length 0 G.length 0 (by omega) (by omega) hp (Nat.le_refl _) hh (by omega)
  refine e_entry okX3_groupFor (Nat.le_of_ble_eq_true rfl) (ls := [some _, some _, some _, some _, none, none, none, none, none, none]) rfl ?_
  refine e_aload_n 0 1 rfl rfl rfl rfl ?_
  refine e_iload_n 1 2 rfl rfl rfl rfl ?_
  refine g_callV 2 5 (hat) okX8_at cvX3_55 ⟨(Nat.le_of_ble_eq_true rfl), (Nat.le_of_ble_eq_true rfl)⟩ rfl rfl (Nat.le_of_ble_eq_true rfl) rfl rfl rfl rfl rfl (Nat.le_of_ble_eq_true rfl) (Nat.le_of_ble_eq_true rfl) (Nat.le_of_ble_eq_true rfl) ?_
  refine e_astore 3 7 (ls' := [some _, some _, some _, some _, some _, none, none, none, none, none]) rfl rfl (Nat.le_of_ble_eq_true rfl) rfl ?_
  refine e_iconst 4 8 rfl rfl ?_
  refine e_istore 5 10 (ls' := [some _, some _, some _, some _, some _, some _, none, none, none, none]) rfl rfl (Nat.le_of_ble_eq_true rfl) rfl ?_
  refine e_aload_n 6 11 rfl rfl rfl rfl ?_
  refine g_getI 7 14 6 ckX3 flX3_35 rfl rfl (Nat.le_of_ble_eq_true rfl) rfl rfl rfl hG6 ?_
  refine e_istore 8 16 (ls' := [some _, some _, some _, some _, some _, some _, some _, none, none, none]) rfl rfl (Nat.le_of_ble_eq_true rfl) rfl ?_
  refine e_iconst 9 17 rfl rfl ?_
  refine e_istore 10 19 (ls' := [some _, some _, some _, some _, some _, some _, some _, some _, none, none]) rfl rfl (Nat.le_of_ble_eq_true rfl) rfl ?_
  exact l9
theorem VAll.fx {L : List Nat} {σ σ' : xSig} {T : Nat → List Int} (h : VAll σ T) (hF : FX L σ σ') (hL : L.all (fun b => !vA b) = true) : VAll σ' T := h.keep fun b hb => hF b (fun e => by
  have := List.all_eq_true.mp hL b e
  rw [hb] at this
  cases this)
def gL : List Nat := [273, 274, 275, 276, 277, 278, 279, 280]
theorem gL_ok : gL.all (fun b => !vA b) = true := by decide +kernel
theorem gL_27 : 27 ∉ gL := by decide
theorem GV.fr {σ σ' : xSig} {T : Nat → List Int} {g : Gr} (h : GV σ T g) (h27 : σ' 27 = σ 27) : GV σ' T g := ⟨by rw [hasd_congr h27]; exact h.1, h.2⟩
theorem GH.fr {σ σ' : xSig} {G : List Gr} (h : GH σ G) (hs : ∀ b : Nat, 273 ≤ b → b ≤ 278 → b ≠ 274 → σ' b = σ b) : GH σ' G := by
  obtain ⟨h1, h2, h3⟩ := h
  refine ⟨by rw [hs 273 (by decide) (by decide) (by decide)]; exact h1, h2, fun j g hj => ?_⟩
  rw [hs 275 (by decide) (by decide) (by decide), hs 276 (by decide) (by decide) (by decide), hs 277 (by decide) (by decide) (by decide), hs 278 (by decide) (by decide) (by decide)]
  exact h3 j g hj
theorem GH.upd {σ : xSig} {G : List Gr} (h : GH σ G) {p : Nat} {g : Gr} (hg : G[p]? = some g) (c s : Int) : GH (xu (xu σ 275 p c) 276 p s) (G.set p (g.1, g.2.1, c, s)) := by
  obtain ⟨h1, h2, h3⟩ := h
  refine ⟨?_, by simpa using h2, fun j g' hj => ?_⟩
  · rw [xu_ne _ (Or.inl (by decide)), xu_ne _ (Or.inl (by decide)), List.length_set]; exact h1
  · by_cases e : p = j
    · subst e
      have hpl : p < G.length := (List.getElem?_eq_some_iff.mp hg).1
      rw [List.getElem?_set_self hpl] at hj
      simp only [Option.some.injEq] at hj
      subst hj
      have h9 := h3 p g hg
      refine ⟨?_, ?_, ?_, ?_⟩
      · rw [xu_ne _ (Or.inl (by decide)), xu_ne _ (Or.inl (by decide))]; exact h9.1
      · rw [xu_ne _ (Or.inl (by decide)), xu_ne _ (Or.inl (by decide))]; exact h9.2.1
      · rw [xu_ne _ (Or.inl (by decide)), xu_same]
      · rw [xu_same]
    · rw [List.getElem?_set_ne e] at hj
      have h9 := h3 j g' hj
      rw [xu_ne _ (Or.inl (by decide)), xu_ne _ (Or.inl (by decide)), xu_ne _ (Or.inl (by decide)), xu_ne _ (Or.inl (by decide)), xu_ne _ (Or.inl (by decide)), xu_ne _ (Or.inr (by omega)), xu_ne _ (Or.inr (by omega)), xu_ne _ (Or.inl (by decide))]
      exact h9
/-- the places of a document taken in, one by one -/
def gTk (T : Nat → List Int) (n s : Int) (t : List Int) : List Int → List Gr → List Gr
  | [], G => G
  | x :: r, G => gTk T n s t r (if knd (tok t x) = 3 then G else gIns T (sv t x) n x s G)
/-- groups that are in order -/
def GOK (σ : xSig) (T : Nat → List Int) (G : List Gr) : Prop := GS T G ∧ ∀ g ∈ G, GV σ T g
theorem GOK.ins {σ : xSig} {T : Nat → List Int} {G : List Gr} (h : GOK σ T G) {n : Int} (hn : hasd σ n = true) {x : Int} (hx : 0 ≤ x ∧ x < (T (31 + 2 * n.toNat)).length ∧ Cv (sv (T (31 + 2 * n.toNat)) x)) (s : Int) : GOK σ T (gIns T (sv (T (31 + 2 * n.toNat)) x) n x s G) := by
  refine ⟨gIns_GS hx.2.2 rfl s G h.1 (fun g hg => (h.2 g hg).2.2.2), fun g hg => ?_⟩
  rcases gIns_mem G g hg with q | ⟨g', q1, q2, q3⟩
  · refine ⟨by rw [q.1]; exact hn, ?_⟩
    unfold gv
    rw [q.1, q.2]
    exact hx
  · have h9 := h.2 g' q1
    refine ⟨by rw [q2]; exact h9.1, ?_⟩
    rw [gv_same q2 q3, q2, q3]
    exact h9.2
theorem sp_takeIn {σ : xSig} {T : Nat → List Int} (hA : VAll σ T) (h01 : n01 σ 27) {G : List Gr} (hH : GH σ G) (hO : GOK σ T G) {n : Nat} (hn : hasd σ n = true) (hG : GD (T (31 + 2 * n))) {path : Int} (hp : 0 ≤ path ∧ path < 72) (hl : G.length + 24 ≤ 1440) (s : Int) :
    ∃ σ' : xSig, x_Sp MX3_takeIn 0 0 [.ref 273, .ref 25, .int (ii n), .int (ii path), .long (ll s)] (St σ) vv (St σ') ∧ GH σ' (gTk T n s (T (31 + 2 * n)) (atp (T (31 + 2 * n)) path) G) ∧ GOK σ T (gTk T n s (T (31 + 2 * n)) (atp (T (31 + 2 * n)) path) G) ∧ (gTk T n s (T (31 + 2 * n)) (atp (T (31 + 2 * n)) path) G).length ≤ G.length + 24 ∧ FX gL σ σ' := by
  obtain ⟨g1, g2⟩ := hG
  obtain ⟨g3, g4⟩ := g2 _ hp.1 hp.2
  have hni := hasd_in hn
  have hvn := (vO_s n (by omega)).1
  have hV := hA _ hvn
  have hcap := hV.2.2.1
  have h200 := hV.2.2.2.1
  have hat := sp_stAt h01 (n := n) (by unfold xr; omega)
  rw [da_has hn] at hat
  obtain ⟨σ0, k1, k2, k3⟩ := sp_gather hV hvn g1 isPl_s.2.2 hp g3
  have loop : ∀ (r m : List Int) (G1 : List Gr) (σ1 : xSig), atp (T (31 + 2 * n)) path = m ++ r → GH σ1 G1 → GOK σ T G1 → G1.length ≤ G.length + m.length → FX gL σ σ1 → PH σ1 279 (atp (T (31 + 2 * n)) path) → ∃ σ' : xSig, x_E MX3_takeIn 0 0 20 [some (.ref 273), some (.ref 25), some (.int (ii n)), some (.int (ii path)), some (.long (ll s)), none, some (.ref (31 + 2 * n)), some (.int (ii m.length)), none, none] [] (St σ1) 0 0 vv (St σ') ∧ GH σ' (gTk T n s (T (31 + 2 * n)) r G1) ∧ GOK σ T (gTk T n s (T (31 + 2 * n)) r G1) ∧ (gTk T n s (T (31 + 2 * n)) r G1).length ≤ G.length + 24 ∧ FX gL σ σ' := by
    intro r
    induction r with
    | nil =>
      intro m G1 σ1 hm hH1 hO1 hl1 hF1 hP1
      have hlm : (atp (T (31 + 2 * n)) path).length = m.length := by rw [hm]; simp
      refine ⟨σ1, ?_, hH1, hO1, by simp only [gTk]; omega, hF1⟩
      refine e_iload 11 22 rfl rfl rfl ?_
      refine e_aload_n 12 23 rfl rfl rfl rfl ?_
      refine g_getR 13 26 ckX3 flX3_31 rfl rfl (Nat.le_of_ble_eq_true rfl) rfl rfl ?_
      refine g_callV 14 29 (sp_plSize hP1) okX6_size cvX3_77 ⟨(Nat.le_of_ble_eq_true rfl), (Nat.le_of_ble_eq_true rfl)⟩ rfl rfl isPl_s.2.2.1 isPl_s.2.2.2.2.1 rfl rfl rfl rfl (Nat.le_of_ble_eq_true rfl) (Nat.le_of_ble_eq_true rfl) (Nat.le_of_ble_eq_true rfl) ?_
      refine e_icmp_ge 15 106 32 rfl rfl rfl (by unfold xr at *; omega) (by unfold xr at *; omega) (fun _ => ?_) (fun h9 => absurd h9 (by omega))
      exact e_return 55 rfl rfl (Nat.le_of_ble_eq_true rfl) (Nat.le_of_ble_eq_true rfl)
    | cons x r ih =>
      intro m G1 σ1 hm hH1 hO1 hl1 hF1 hP1
      have hlm : (atp (T (31 + 2 * n)) path).length = m.length + r.length + 1 := by rw [hm]; simp; omega
      have hatx := sp_plAt hP1 (i := m.length) (by omega)
      rw [hm, getD_mid] at hatx
      have hx := g4 x (by rw [hm]; simp)
      have hxr : xr x := by unfold xr; omega
      have hA1 := hA.fx hF1 gL_ok
      have h27 := hF1 27 gL_27
      have h011 : n01 σ1 27 := by unfold n01; rw [h27]; exact h01
      have hn1 : hasd σ1 n = true := by rw [hasd_congr h27]; exact hn
      have hV1 := hA1 _ hvn
      have hkb := knd_bnd (tok (T (31 + 2 * n)) x)
      simp only [gTk]
      by_cases h3 : knd (tok (T (31 + 2 * n)) x) = 3
      · rw [if_pos h3]
        obtain ⟨σ', m1, m2⟩ := ih (m ++ [x]) G1 σ1 (by rw [hm, app_s]) hH1 hO1 (by simp; omega) hF1 hP1
        rw [len_s] at m1
        refine ⟨σ', ?_, m2⟩
        refine e_iload 11 22 rfl rfl rfl ?_
        refine e_aload_n 12 23 rfl rfl rfl rfl ?_
        refine g_getR 13 26 ckX3 flX3_31 rfl rfl (Nat.le_of_ble_eq_true rfl) rfl rfl ?_
        refine g_callV 14 29 (sp_plSize hP1) okX6_size cvX3_77 ⟨(Nat.le_of_ble_eq_true rfl), (Nat.le_of_ble_eq_true rfl)⟩ rfl rfl isPl_s.2.2.1 isPl_s.2.2.2.2.1 rfl rfl rfl rfl (Nat.le_of_ble_eq_true rfl) (Nat.le_of_ble_eq_true rfl) (Nat.le_of_ble_eq_true rfl) ?_
        refine e_icmp_ge 15 106 32 rfl rfl rfl (by unfold xr at *; omega) (by unfold xr at *; omega) (fun h9 => absurd h9 (by omega)) (fun _ => ?_)
        refine e_aload_n 16 33 rfl rfl rfl rfl ?_
        refine g_getR 17 36 ckX3 flX3_31 rfl rfl (Nat.le_of_ble_eq_true rfl) rfl rfl ?_
        refine e_iload 18 38 rfl rfl rfl ?_
        refine g_callV 19 41 (hatx) okX6_at cvX3_80 ⟨(Nat.le_of_ble_eq_true rfl), (Nat.le_of_ble_eq_true rfl)⟩ rfl rfl isPl_s.2.2.1 isPl_s.2.2.2.2.1 rfl rfl rfl rfl (Nat.le_of_ble_eq_true rfl) (Nat.le_of_ble_eq_true rfl) (Nat.le_of_ble_eq_true rfl) ?_
        refine e_istore 20 43 (ls' := [some _, some _, some _, some _, some _, none, some _, some _, some _, none]) rfl rfl (Nat.le_of_ble_eq_true rfl) rfl ?_
        refine e_aload 21 45 rfl rfl rfl ?_
        refine e_iload 22 47 rfl rfl rfl ?_
        refine g_callV 23 50 (sp_kindAt hV1 hxr) okX10_kindAt cvX3_82 ⟨(Nat.le_of_ble_eq_true rfl), (Nat.le_of_ble_eq_true rfl)⟩ rfl rfl hV1.1.1 hV1.1.2.2.1 rfl rfl rfl rfl (Nat.le_of_ble_eq_true rfl) (Nat.le_of_ble_eq_true rfl) (Nat.le_of_ble_eq_true rfl) ?_
        refine e_iconst 24 51 rfl rfl ?_
        refine e_icmp_eq 25 100 54 rfl rfl rfl (by unfold xr at *; omega) (by unfold xr at *; omega) (fun _ => ?_) (fun h9 => absurd h9 (by omega))
        refine e_iinc 53 103 (ls' := [some _, some _, some _, some _, some _, none, some _, some _, some _, none]) rfl rfl (Nat.le_of_ble_eq_true rfl) rfl rfl ?_
        refine e_goto 54 20 rfl rfl ?_
        refine e_dropm [true, true, true, true, true, false, true, true, false, false] (ls' := [some _, some _, some _, some _, some _, none, some _, some _, none, none]) rfl ?_
        exact m1
      · rw [if_neg h3]
        obtain ⟨p, hit, a1, a2, a3, g9, a4, a5⟩ := gIns_spec hx.2.2 n x s G1 hO1.1 (fun g hg => (hO1.2 g hg).2.2.2)
        have hgf := sp_groupFor hA1 h011 hH1 (fun g hg => (hO1.2 g hg).fr h27) hn1 hx a1 a2 (fun _ => by omega) a3
        have hH2 : GH (if hit = true then σ1 else gmk σ1 p n x) (gmd hit p G1 n x) := by
          cases hit with
          | true => exact hH1
          | false =>
            have e : (G1.take p).length = p := by rw [List.length_take]; omega
            have hq := (show GH σ1 (G1.take p ++ G1.drop p) by rw [List.take_append_drop]; exact hH1).mk (by rw [List.take_append_drop]; omega) n x
            rw [e] at hq
            exact hq
        have hF2 : FX gL σ1 (if hit = true then σ1 else gmk σ1 p n x) := by
          split
          · exact FX.rf
          · exact fun b hb => gmk_o σ1 p n x b (fun e => hb (by simp only [gL, List.mem_cons, List.not_mem_nil, or_false] at e ⊢; omega))
        have hP2 : PH (if hit = true then σ1 else gmk σ1 p n x) 279 (atp (T (31 + 2 * n)) path) := by
          split
          · exact hP1
          · exact hP1.fr (gmk_o σ1 p n x 279 (by decide)) (gmk_o σ1 p n x 280 (by decide))
        generalize (if hit = true then σ1 else gmk σ1 p n x) = σ2 at hgf hH2 hF2 hP2
        have c := hH2.2.2 p g9 a4
        have hp1440 : p < 1440 := by
          have := (List.getElem?_eq_some_iff.mp a4).1
          have := hH2.2.1
          omega
        have hH3 := hH2.upd a4 (g9.2.2.1 + 1) (g9.2.2.2 + s)
        rw [← a5] at hH3
        have e276 : xu σ2 275 p (g9.2.2.1 + 1) 276 p = g9.2.2.2 := (xu_ne _ (Or.inl (by decide))).trans c.2.2.2
        have hO3 : GOK σ T (gIns T (sv (T (31 + 2 * n)) x) n x s G1) := hO1.ins (n := n) hn hx s
        have hil := gIns_len (T := T) (v := sv (T (31 + 2 * n)) x) (n := n) (i := x) (s := s) G1
        obtain ⟨σ', m1, m2⟩ := ih (m ++ [x]) _ (xu (xu σ2 275 p (g9.2.2.1 + 1)) 276 p (g9.2.2.2 + s)) (by rw [hm, app_s]) hH3 hO3 (by simp; omega) (((hF1.tr hF2).xu (by decide)).xu (by decide)) (hP2.fr (by rw [xu_other _ _ _ (by decide), xu_other _ _ _ (by decide)]) (by rw [xu_other _ _ _ (by decide), xu_other _ _ _ (by decide)]))
        rw [len_s] at m1
        refine ⟨σ', ?_, m2⟩
        refine e_iload 11 22 rfl rfl rfl ?_
        refine e_aload_n 12 23 rfl rfl rfl rfl ?_
        refine g_getR 13 26 ckX3 flX3_31 rfl rfl (Nat.le_of_ble_eq_true rfl) rfl rfl ?_
        refine g_callV 14 29 (sp_plSize hP1) okX6_size cvX3_77 ⟨(Nat.le_of_ble_eq_true rfl), (Nat.le_of_ble_eq_true rfl)⟩ rfl rfl isPl_s.2.2.1 isPl_s.2.2.2.2.1 rfl rfl rfl rfl (Nat.le_of_ble_eq_true rfl) (Nat.le_of_ble_eq_true rfl) (Nat.le_of_ble_eq_true rfl) ?_
        refine e_icmp_ge 15 106 32 rfl rfl rfl (by unfold xr at *; omega) (by unfold xr at *; omega) (fun h9 => absurd h9 (by omega)) (fun _ => ?_)
        refine e_aload_n 16 33 rfl rfl rfl rfl ?_
        refine g_getR 17 36 ckX3 flX3_31 rfl rfl (Nat.le_of_ble_eq_true rfl) rfl rfl ?_
        refine e_iload 18 38 rfl rfl rfl ?_
        refine g_callV 19 41 (hatx) okX6_at cvX3_80 ⟨(Nat.le_of_ble_eq_true rfl), (Nat.le_of_ble_eq_true rfl)⟩ rfl rfl isPl_s.2.2.1 isPl_s.2.2.2.2.1 rfl rfl rfl rfl (Nat.le_of_ble_eq_true rfl) (Nat.le_of_ble_eq_true rfl) (Nat.le_of_ble_eq_true rfl) ?_
        refine e_istore 20 43 (ls' := [some _, some _, some _, some _, some _, none, some _, some _, some _, none]) rfl rfl (Nat.le_of_ble_eq_true rfl) rfl ?_
        refine e_aload 21 45 rfl rfl rfl ?_
        refine e_iload 22 47 rfl rfl rfl ?_
        refine g_callV 23 50 (sp_kindAt hV1 hxr) okX10_kindAt cvX3_82 ⟨(Nat.le_of_ble_eq_true rfl), (Nat.le_of_ble_eq_true rfl)⟩ rfl rfl hV1.1.1 hV1.1.2.2.1 rfl rfl rfl rfl (Nat.le_of_ble_eq_true rfl) (Nat.le_of_ble_eq_true rfl) (Nat.le_of_ble_eq_true rfl) ?_
        refine e_iconst 24 51 rfl rfl ?_
        refine e_icmp_eq 25 100 54 rfl rfl rfl (by unfold xr at *; omega) (by unfold xr at *; omega) (fun h9 => absurd h9 (by omega)) (fun _ => ?_)
        refine e_aload_n 26 55 rfl rfl rfl rfl ?_
        refine e_aload_n 27 56 rfl rfl rfl rfl ?_
        refine e_iload_n 28 57 rfl rfl rfl rfl ?_
        refine e_iload 29 59 rfl rfl rfl ?_
        refine g_callV 30 62 (hgf) okX3_groupFor cvX3_88 ⟨(Nat.le_of_ble_eq_true rfl), (Nat.le_of_ble_eq_true rfl)⟩ rfl rfl (Nat.le_of_ble_eq_true rfl) rfl rfl rfl rfl rfl (Nat.le_of_ble_eq_true rfl) (Nat.le_of_ble_eq_true rfl) (Nat.le_of_ble_eq_true rfl) ?_
        refine e_istore 31 64 (ls' := [some _, some _, some _, some _, some _, none, some _, some _, some _, some _]) rfl rfl (Nat.le_of_ble_eq_true rfl) rfl ?_
        refine e_iload 32 66 rfl rfl rfl ?_
        refine e_if_lt 33 100 69 rfl rfl rfl (by unfold xr at *; omega) (fun h9 => absurd h9 (by omega)) (fun _ => ?_)
        refine e_iload 34 71 rfl rfl rfl ?_
        refine e_sipush 35 74 rfl rfl rfl ?_
        refine e_icmp_ge 36 100 77 rfl rfl rfl (by unfold xr at *; omega) (by unfold xr at *; omega) (fun h9 => absurd h9 (by omega)) (fun _ => ?_)
        refine e_aload_n 37 78 rfl rfl rfl rfl ?_
        refine g_getR 38 81 ckX3 flX3_15 rfl rfl (Nat.le_of_ble_eq_true rfl) rfl rfl ?_
        refine e_iload 39 83 rfl rfl rfl ?_
        refine e_dup2 40 84 rfl rfl rfl rfl ?_
        refine g_iaload 41 85 rfl rfl (Nat.le_of_ble_eq_true rfl) rfl (by omega) (by omega) (by omega) c.2.2.1 ?_
        refine e_iconst 42 86 rfl rfl ?_
        refine e_iadd 43 87 rfl rfl ?_
        refine g_iastore 44 88 rfl rfl (Nat.le_of_ble_eq_true rfl) rfl (by omega) (by omega) (by omega) ?_
        refine e_aload_n 45 89 rfl rfl rfl rfl ?_
        refine g_getR 46 92 ckX3 flX3_19 rfl rfl (Nat.le_of_ble_eq_true rfl) rfl rfl ?_
        refine e_iload 47 94 rfl rfl rfl ?_
        refine e_dup2 48 95 rfl rfl rfl rfl ?_
        refine g_laload 49 96 rfl rfl (Nat.le_of_ble_eq_true rfl) rfl (by omega) (by omega) (by omega) e276 ?_
        refine e_lload 50 98 rfl rfl rfl ?_
        refine e_ladd 51 99 rfl rfl ?_
        refine g_lastore 52 100 rfl rfl (Nat.le_of_ble_eq_true rfl) rfl (by omega) (by omega) (by omega) ?_
        refine e_iinc 53 103 (ls' := [some _, some _, some _, some _, some _, none, some _, some _, some _, some _]) rfl rfl (Nat.le_of_ble_eq_true rfl) rfl rfl ?_
        refine e_goto 54 20 rfl rfl ?_
        refine e_dropm [true, true, true, true, true, false, true, true, false, false] (ls' := [some _, some _, some _, some _, some _, none, some _, some _, none, none]) rfl ?_
        exact m1
  obtain ⟨σ', m1, m2⟩ := loop _ [] G σ0 rfl (hH.fr fun b q1 q2 q3 => k3 b (by omega) (by omega)) hO (by simp) (FX.of k3 (by decide) (by decide)) k2
  refine ⟨σ', ?_, m2⟩
  refine e_entry okX3_takeIn (Nat.le_of_ble_eq_true rfl) (ls := [some _, some _, some _, some _, some _, none, none, none, none, none]) rfl ?_
  refine e_aload_n 0 1 rfl rfl rfl rfl ?_
  refine e_iload_n 1 2 rfl rfl rfl rfl ?_
  refine g_callV 2 5 (hat) okX8_at cvX3_55 ⟨(Nat.le_of_ble_eq_true rfl), (Nat.le_of_ble_eq_true rfl)⟩ rfl rfl (Nat.le_of_ble_eq_true rfl) rfl rfl rfl rfl rfl (Nat.le_of_ble_eq_true rfl) (Nat.le_of_ble_eq_true rfl) (Nat.le_of_ble_eq_true rfl) ?_
  refine e_astore 3 7 (ls' := [some _, some _, some _, some _, some _, none, some _, none, none, none]) rfl rfl (Nat.le_of_ble_eq_true rfl) rfl ?_
  refine e_aload_n 4 8 rfl rfl rfl rfl ?_
  refine g_getR 5 11 ckX3 flX3_31 rfl rfl (Nat.le_of_ble_eq_true rfl) rfl rfl ?_
  refine e_aload 6 13 rfl rfl rfl ?_
  refine e_iload_n 7 14 rfl rfl rfl rfl ?_
  refine g_callV 8 17 (k1) okX6_gather cvX3_73 ⟨(Nat.le_of_ble_eq_true rfl), (Nat.le_of_ble_eq_true rfl)⟩ rfl rfl isPl_s.2.2.1 isPl_s.2.2.2.2.1 rfl rfl rfl rfl (Nat.le_of_ble_eq_true rfl) (Nat.le_of_ble_eq_true rfl) (Nat.le_of_ble_eq_true rfl) ?_
  refine e_iconst 9 18 rfl rfl ?_
  refine e_istore 10 20 (ls' := [some _, some _, some _, some _, some _, none, some _, some _, none, none]) rfl rfl (Nat.le_of_ble_eq_true rfl) rfl ?_
  exact m1
theorem drop_split (t : List Int) {i : Int} (h : 0 ≤ i ∧ i < t.length) : t = t.take i.toNat ++ t.drop i.toNat ∧ ((t.take i.toNat).length : Int) = i := ⟨(List.take_append_drop _ _).symm, by rw [List.length_take]; omega⟩
def prg (T : Nat → List Int) (g : Gr) : Int := psc ((T (31 + 2 * g.1.toNat)).drop g.2.1.toNat) 0 7
/-- the documents found taken in, one by one -/
def gBd (σ : xSig) (T : Nat → List Int) (path sp : Int) : List Int → List Gr → List Gr
  | [], G => G
  | n :: r, G => gBd σ T path sp r (if hasd σ n = true then gTk T n (smsL (T (31 + 2 * n.toNat)) (atp (T (31 + 2 * n.toNat)) sp)) (T (31 + 2 * n.toNat)) (atp (T (31 + 2 * n.toNat)) path) G else G)
theorem sp_gBuild {σ : xSig} {T : Nat → List Int} (hA : VAll σ T) (h01 : n01 σ 27) (hG : GDA σ T) {F : List Int} (hF : FH σ F) (hFr : ∀ n ∈ F, 0 ≤ n ∧ n < 100) {path sp : Int} (hp : 0 ≤ path ∧ path < 72) (hsp : 0 ≤ sp ∧ sp < 72) :
    ∃ σ' : xSig, x_Sp MX3_build 0 0 [.ref 273, .ref 25, .ref 256, .int (ii path), .int (ii sp)] (St σ) (iv (gBd σ T path sp F []).length) (St σ') ∧ GH σ' (gBd σ T path sp F []) ∧ GOK σ T (gBd σ T path sp F []) ∧ (∀ (j : Nat) (g : Gr), (gBd σ T path sp F [])[j]? = some g → σ' 274 j = prg T g) ∧ FX gL σ σ' := by
  have h60 := hF.2.1
  have loop2 : ∀ (G : List Gr) (r m : List Gr) (z : Value) (σ1 : xSig), G = m ++ r → GH σ1 G → GOK σ T G → (∀ (j : Nat) (g : Gr), j < m.length → G[j]? = some g → σ1 274 j = prg T g) → FX gL σ σ1 → ∃ σ' : xSig, x_E MX3_build 0 0 63 [some (.ref 273), some (.ref 25), some (.ref 256), some (.int (ii path)), some (.int (ii sp)), some (.int (ii m.length)), none] [] (St σ1) 0 0 (iv G.length) (St σ') ∧ GH σ' G ∧ GOK σ T G ∧ (∀ (j : Nat) (g : Gr), G[j]? = some g → σ' 274 j = prg T g) ∧ FX gL σ σ' := by
    intro G r
    induction r with
    | nil =>
      intro m z σ1 hm hH1 hO1 hp1 hF1
      have e6 := hH1.1
      have h1440 := hH1.2.1
      have hl : G.length = m.length := by rw [hm]; simp
      refine ⟨σ1, ?_, hH1, hO1, fun j g hj => hp1 j g (by have := (List.getElem?_eq_some_iff.mp hj).1; omega) hj, hF1⟩
      refine e_iload 32 65 rfl rfl rfl ?_
      refine e_aload_n 33 66 rfl rfl rfl rfl ?_
      refine g_getI 34 69 6 ckX3 flX3_35 rfl rfl (Nat.le_of_ble_eq_true rfl) rfl rfl rfl e6 ?_
      refine e_icmp_ge 35 114 72 rfl rfl rfl (by unfold xr at *; omega) (by unfold xr at *; omega) (fun _ => ?_) (fun h9 => absurd h9 (by omega))
      refine e_aload_n 56 115 rfl rfl rfl rfl ?_
      refine g_getI 57 118 6 ckX3 flX3_35 rfl rfl (Nat.le_of_ble_eq_true rfl) rfl rfl rfl e6 ?_
      exact e_ireturn 58 rfl rfl (Nat.le_of_ble_eq_true rfl) (Nat.le_of_ble_eq_true rfl)
    | cons g r ih =>
      intro m z σ1 hm hH1 hO1 hp1 hF1
      have e6 := hH1.1
      have h1440 := hH1.2.1
      have hl : G.length = m.length + r.length + 1 := by rw [hm]; simp; omega
      have hgj : G[m.length]? = some g := by rw [hm, List.getElem?_append_right (Nat.le_refl _), Nat.sub_self]; rfl
      have c := hH1.2.2 _ g hgj
      have hgv := hO1.2 g (by rw [hm]; simp)
      have hni := hasd_in hgv.1
      have h27 := hF1 27 gL_27
      have h011 : n01 σ1 27 := by unfold n01; rw [h27]; exact h01
      have hat := sp_stAt h011 (n := g.1) (by unfold xr; omega)
      rw [show da σ1 g.1 = 31 + 2 * g.1.toNat by unfold da; rw [if_pos (by rw [hasd_congr h27]; exact hgv.1)]] at hat
      have hvn := (vO_s g.1.toNat (by omega)).1
      have hds := drop_split (T (31 + 2 * g.1.toNat)) (i := g.2.1) ⟨hgv.2.1, hgv.2.2.1⟩
      have hpr := sp_printAt ((hA.fx hF1 gL_ok) _ hvn) _ _ hds.1
      rw [hds.2] at hpr
      obtain ⟨σ', m1, m2⟩ := ih (m ++ [g]) z (xu σ1 274 m.length (prg T g)) (by rw [hm]; simp) (hH1.fr fun b q1 q2 q3 => xu_other _ _ _ q3) hO1 (fun j g' hj hj2 => by
        by_cases e : j = m.length
        · subst e
          rw [hgj] at hj2
          simp only [Option.some.injEq] at hj2
          rw [xu_same, hj2]
        · rw [xu_ne _ (Or.inr (by omega))]
          exact hp1 j g' (by simp at hj; omega) hj2) (hF1.xu (by decide))
      rw [show (((m ++ [g]).length : Nat) : Int) = (m.length : Int) + 1 by simp] at m1
      refine ⟨σ', ?_, m2⟩
      have hV1 := (hA.fx hF1 gL_ok) _ hvn
      refine e_iload 32 65 rfl rfl rfl ?_
      refine e_aload_n 33 66 rfl rfl rfl rfl ?_
      refine g_getI 34 69 6 ckX3 flX3_35 rfl rfl (Nat.le_of_ble_eq_true rfl) rfl rfl rfl e6 ?_
      refine e_icmp_ge 35 114 72 rfl rfl rfl (by unfold xr at *; omega) (by unfold xr at *; omega) (fun h9 => absurd h9 (by omega)) (fun _ => ?_)
      refine e_iload 36 74 rfl rfl rfl ?_
      refine e_sipush 37 77 rfl rfl rfl ?_
      refine e_icmp_ge 38 114 80 rfl rfl rfl (by unfold xr at *; omega) (by unfold xr at *; omega) (fun h9 => absurd h9 (by omega)) (fun _ => ?_)
      refine e_aload_n 39 81 rfl rfl rfl rfl ?_
      refine g_getR 40 84 ckX3 flX3_11 rfl rfl (Nat.le_of_ble_eq_true rfl) rfl rfl ?_
      refine e_iload 41 86 rfl rfl rfl ?_
      refine e_aload_n 42 87 rfl rfl rfl rfl ?_
      refine e_aload_n 43 88 rfl rfl rfl rfl ?_
      refine g_getR 44 91 ckX3 flX3_22 rfl rfl (Nat.le_of_ble_eq_true rfl) rfl rfl ?_
      refine e_iload 45 93 rfl rfl rfl ?_
      refine g_iaload 46 94 rfl rfl (Nat.le_of_ble_eq_true rfl) rfl (by omega) (by omega) (by omega) c.1 ?_
      refine g_callV 47 97 (hat) okX8_at cvX3_55 ⟨(Nat.le_of_ble_eq_true rfl), (Nat.le_of_ble_eq_true rfl)⟩ rfl rfl (Nat.le_of_ble_eq_true rfl) rfl rfl rfl rfl rfl (Nat.le_of_ble_eq_true rfl) (Nat.le_of_ble_eq_true rfl) (Nat.le_of_ble_eq_true rfl) ?_
      refine e_aload_n 48 98 rfl rfl rfl rfl ?_
      refine g_getR 49 101 ckX3 flX3_25 rfl rfl (Nat.le_of_ble_eq_true rfl) rfl rfl ?_
      refine e_iload 50 103 rfl rfl rfl ?_
      refine g_iaload 51 104 rfl rfl (Nat.le_of_ble_eq_true rfl) rfl (by omega) (by omega) (by omega) c.2.1 ?_
      refine g_callV 52 107 (hpr) okX10_printAt cvX3_67 ⟨(Nat.le_of_ble_eq_true rfl), (Nat.le_of_ble_eq_true rfl)⟩ rfl rfl hV1.1.1 hV1.1.2.2.1 rfl rfl rfl rfl (Nat.le_of_ble_eq_true rfl) (Nat.le_of_ble_eq_true rfl) (Nat.le_of_ble_eq_true rfl) ?_
      refine g_lastore 53 108 rfl rfl (Nat.le_of_ble_eq_true rfl) rfl (by omega) (by omega) (by omega) ?_
      refine e_iinc 54 111 (ls' := [some _, some _, some _, some _, some _, some _, none]) rfl rfl (Nat.le_of_ble_eq_true rfl) rfl rfl ?_
      refine e_goto 55 63 rfl rfl ?_
      exact m1
  have loop1 : ∀ (r m : List Int) (G : List Gr) (σ1 : xSig), F = m ++ r → gBd σ T path sp r G = gBd σ T path sp F [] → GH σ1 G → GOK σ T G → G.length ≤ 24 * m.length → FX gL σ σ1 → ∃ σ' : xSig, x_E MX3_build 0 0 8 [some (.ref 273), some (.ref 25), some (.ref 256), some (.int (ii path)), some (.int (ii sp)), some (.int (ii m.length)), none] [] (St σ1) 0 0 (iv (gBd σ T path sp F []).length) (St σ') ∧ GH σ' (gBd σ T path sp F []) ∧ GOK σ T (gBd σ T path sp F []) ∧ (∀ (j : Nat) (g : Gr), (gBd σ T path sp F [])[j]? = some g → σ' 274 j = prg T g) ∧ FX gL σ σ' := by
    intro r
    induction r with
    | nil =>
      intro m G σ1 hm hB hH1 hO1 hl1 hF1
      have hFH := hF.fr (hF1 256 (by decide)) (hF1 263 (by decide))
      have hl : F.length = m.length := by rw [hm]; simp
      have hfs := sp_foundSize (σ := σ1)
      rw [hFH.1] at hfs
      simp only [gBd] at hB
      rw [← hB]
      obtain ⟨σ', m1, m2⟩ := loop2 G G [] (.int 0) σ1 rfl hH1 hO1 (fun j g hj => by simp at hj) hF1
      refine ⟨σ', ?_, m2⟩
      refine e_iload 5 10 rfl rfl rfl ?_
      refine e_aload_n 6 11 rfl rfl rfl rfl ?_
      refine g_callV 7 14 (hfs) okX7_foundSize cvX3_39 ⟨(Nat.le_of_ble_eq_true rfl), (Nat.le_of_ble_eq_true rfl)⟩ rfl rfl (Nat.le_of_ble_eq_true rfl) rfl rfl rfl rfl rfl (Nat.le_of_ble_eq_true rfl) (Nat.le_of_ble_eq_true rfl) (Nat.le_of_ble_eq_true rfl) ?_
      refine e_icmp_ge 8 60 17 rfl rfl rfl (by unfold xr at *; omega) (by unfold xr at *; omega) (fun _ => ?_) (fun h9 => absurd h9 (by omega))
      refine e_iconst 30 61 rfl rfl ?_
      refine e_istore 31 63 (ls' := [some _, some _, some _, some _, some _, some _, none]) rfl rfl (Nat.le_of_ble_eq_true rfl) rfl ?_
      exact m1
    | cons x r ih =>
      intro m G σ1 hm hB hH1 hO1 hl1 hF1
      have hFH := hF.fr (hF1 256 (by decide)) (hF1 263 (by decide))
      have hl : F.length = m.length + r.length + 1 := by rw [hm]; simp; omega
      have hfs := sp_foundSize (σ := σ1)
      rw [hFH.1] at hfs
      have hfa := sp_foundAt (σ := σ1) (by rw [hFH.1]; omega) (i := m.length) (by rw [hFH.1]; omega)
      rw [hFH.2.2 m.length (by omega), hm, getD_mid] at hfa
      have hx := hFr x (by rw [hm]; simp)
      have h27 := hF1 27 gL_27
      have h011 : n01 σ1 27 := by unfold n01; rw [h27]; exact h01
      have hhas := sp_has h011 (n := x) (by unfold xr; omega)
      rw [hasd_congr h27] at hhas
      simp only [gBd] at hB
      cases h : hasd σ x with
      | false =>
        rw [h] at hhas hB
        obtain ⟨σ', m1, m2⟩ := ih (m ++ [x]) G σ1 (by rw [hm, app_s]) hB hH1 hO1 (by simp; omega) hF1
        rw [len_s] at m1
        refine ⟨σ', ?_, m2⟩
        refine e_iload 5 10 rfl rfl rfl ?_
        refine e_aload_n 6 11 rfl rfl rfl rfl ?_
        refine g_callV 7 14 (hfs) okX7_foundSize cvX3_39 ⟨(Nat.le_of_ble_eq_true rfl), (Nat.le_of_ble_eq_true rfl)⟩ rfl rfl (Nat.le_of_ble_eq_true rfl) rfl rfl rfl rfl rfl (Nat.le_of_ble_eq_true rfl) (Nat.le_of_ble_eq_true rfl) (Nat.le_of_ble_eq_true rfl) ?_
        refine e_icmp_ge 8 60 17 rfl rfl rfl (by unfold xr at *; omega) (by unfold xr at *; omega) (fun h9 => absurd h9 (by omega)) (fun _ => ?_)
        refine e_aload_n 9 18 rfl rfl rfl rfl ?_
        refine e_iload 10 20 rfl rfl rfl ?_
        refine g_callV 11 23 (hfa) okX7_foundAt cvX3_45 ⟨(Nat.le_of_ble_eq_true rfl), (Nat.le_of_ble_eq_true rfl)⟩ rfl rfl (Nat.le_of_ble_eq_true rfl) rfl rfl rfl rfl rfl (Nat.le_of_ble_eq_true rfl) (Nat.le_of_ble_eq_true rfl) (Nat.le_of_ble_eq_true rfl) ?_
        refine e_istore 12 25 (ls' := [some _, some _, some _, some _, some _, some _, some _]) rfl rfl (Nat.le_of_ble_eq_true rfl) rfl ?_
        refine e_aload_n 13 26 rfl rfl rfl rfl ?_
        refine e_iload 14 28 rfl rfl rfl ?_
        refine g_callV 15 31 (hhas) okX8_has cvX3_49 ⟨(Nat.le_of_ble_eq_true rfl), (Nat.le_of_ble_eq_true rfl)⟩ rfl rfl (Nat.le_of_ble_eq_true rfl) rfl rfl rfl rfl rfl (Nat.le_of_ble_eq_true rfl) (Nat.le_of_ble_eq_true rfl) (Nat.le_of_ble_eq_true rfl) ?_
        refine e_ifb_eq 16 54 34 rfl rfl rfl (fun h2 => ?_) (fun h2 => ?_)
        · skip
          refine e_iinc 28 57 (ls' := [some _, some _, some _, some _, some _, some _, some _]) rfl rfl (Nat.le_of_ble_eq_true rfl) rfl rfl ?_
          refine e_goto 29 8 rfl rfl ?_
          refine e_dropm [true, true, true, true, true, true, false] (ls' := [some _, some _, some _, some _, some _, some _, none]) rfl ?_
          exact m1
        · skip
          cases h2
      | true =>
        rw [h] at hhas
        rw [h, if_pos rfl] at hB
        have ex : ((x.toNat : Nat) : Int) = x := by omega
        have hA1 := hA.fx hF1 gL_ok
        have hGx := hG x.toNat (by omega) (by rw [ex]; exact h)
        have hat := sp_stAt h011 (n := x) (by unfold xr; omega)
        rw [show da σ1 x = 31 + 2 * x.toNat by unfold da; rw [if_pos (by rw [hasd_congr h27]; exact h)]] at hat
        have hvn := (vO_s x.toNat (by omega)).1
        obtain ⟨σ2, k1, k2⟩ := sp_sumOf hA1 hvn hGx hsp
        have hF2 := hF1.tr (FX.of k2 (by decide) (by decide))
        have h272 := hF2 27 gL_27
        obtain ⟨σ3, j1, j2, j3, j4, j5⟩ := sp_takeIn (hA.fx hF2 gL_ok) (by unfold n01; rw [h272]; exact h01) (hH1.fr fun b q1 q2 q3 => k2 b (by omega) (by omega)) (⟨hO1.1, fun g hg => (hO1.2 g hg).fr h272⟩ : GOK σ2 T G) (n := x.toNat) (by rw [hasd_congr h272, ex]; exact h) hGx hp (by omega) (smsL (T (31 + 2 * x.toNat)) (atp (T (31 + 2 * x.toNat)) sp))
        rw [ex] at j1 j2 j3 j4
        obtain ⟨σ', m1, m2⟩ := ih (m ++ [x]) _ σ3 (by rw [hm, app_s]) hB j2 ⟨j3.1, fun g hg => (j3.2 g hg).fr h272.symm⟩ (by simp; omega) (hF2.tr j5)
        rw [len_s] at m1
        refine ⟨σ', ?_, m2⟩
        refine e_iload 5 10 rfl rfl rfl ?_
        refine e_aload_n 6 11 rfl rfl rfl rfl ?_
        refine g_callV 7 14 (hfs) okX7_foundSize cvX3_39 ⟨(Nat.le_of_ble_eq_true rfl), (Nat.le_of_ble_eq_true rfl)⟩ rfl rfl (Nat.le_of_ble_eq_true rfl) rfl rfl rfl rfl rfl (Nat.le_of_ble_eq_true rfl) (Nat.le_of_ble_eq_true rfl) (Nat.le_of_ble_eq_true rfl) ?_
        refine e_icmp_ge 8 60 17 rfl rfl rfl (by unfold xr at *; omega) (by unfold xr at *; omega) (fun h9 => absurd h9 (by omega)) (fun _ => ?_)
        refine e_aload_n 9 18 rfl rfl rfl rfl ?_
        refine e_iload 10 20 rfl rfl rfl ?_
        refine g_callV 11 23 (hfa) okX7_foundAt cvX3_45 ⟨(Nat.le_of_ble_eq_true rfl), (Nat.le_of_ble_eq_true rfl)⟩ rfl rfl (Nat.le_of_ble_eq_true rfl) rfl rfl rfl rfl rfl (Nat.le_of_ble_eq_true rfl) (Nat.le_of_ble_eq_true rfl) (Nat.le_of_ble_eq_true rfl) ?_
        refine e_istore 12 25 (ls' := [some _, some _, some _, some _, some _, some _, some _]) rfl rfl (Nat.le_of_ble_eq_true rfl) rfl ?_
        refine e_aload_n 13 26 rfl rfl rfl rfl ?_
        refine e_iload 14 28 rfl rfl rfl ?_
        refine g_callV 15 31 (hhas) okX8_has cvX3_49 ⟨(Nat.le_of_ble_eq_true rfl), (Nat.le_of_ble_eq_true rfl)⟩ rfl rfl (Nat.le_of_ble_eq_true rfl) rfl rfl rfl rfl rfl (Nat.le_of_ble_eq_true rfl) (Nat.le_of_ble_eq_true rfl) (Nat.le_of_ble_eq_true rfl) ?_
        refine e_ifb_eq 16 54 34 rfl rfl rfl (fun h2 => ?_) (fun h2 => ?_)
        · skip
          cases h2
        · skip
          refine e_aload_n 17 35 rfl rfl rfl rfl ?_
          refine e_aload_n 18 36 rfl rfl rfl rfl ?_
          refine e_iload 19 38 rfl rfl rfl ?_
          refine e_iload_n 20 39 rfl rfl rfl rfl ?_
          refine e_aload_n 21 40 rfl rfl rfl rfl ?_
          refine e_aload_n 22 41 rfl rfl rfl rfl ?_
          refine e_iload 23 43 rfl rfl rfl ?_
          refine g_callV 24 46 (hat) okX8_at cvX3_55 ⟨(Nat.le_of_ble_eq_true rfl), (Nat.le_of_ble_eq_true rfl)⟩ rfl rfl (Nat.le_of_ble_eq_true rfl) rfl rfl rfl rfl rfl (Nat.le_of_ble_eq_true rfl) (Nat.le_of_ble_eq_true rfl) (Nat.le_of_ble_eq_true rfl) ?_
          refine e_iload 25 48 rfl rfl rfl ?_
          refine g_callV 26 51 (k1) okX3_sumOf cvX3_59 ⟨(Nat.le_of_ble_eq_true rfl), (Nat.le_of_ble_eq_true rfl)⟩ rfl rfl (Nat.le_of_ble_eq_true rfl) rfl rfl rfl rfl rfl (Nat.le_of_ble_eq_true rfl) (Nat.le_of_ble_eq_true rfl) (Nat.le_of_ble_eq_true rfl) ?_
          refine g_callV 27 54 (j1) okX3_takeIn cvX3_63 ⟨(Nat.le_of_ble_eq_true rfl), (Nat.le_of_ble_eq_true rfl)⟩ rfl rfl (Nat.le_of_ble_eq_true rfl) rfl rfl rfl rfl rfl (Nat.le_of_ble_eq_true rfl) (Nat.le_of_ble_eq_true rfl) (Nat.le_of_ble_eq_true rfl) ?_
          refine e_iinc 28 57 (ls' := [some _, some _, some _, some _, some _, some _, some _]) rfl rfl (Nat.le_of_ble_eq_true rfl) rfl rfl ?_
          refine e_goto 29 8 rfl rfl ?_
          refine e_dropm [true, true, true, true, true, true, false] (ls' := [some _, some _, some _, some _, some _, some _, none]) rfl ?_
          exact m1
  have e0 : GH (xu σ 273 6 0) [] := ⟨by rw [xu_same]; rfl, by simp, fun j g hj => by simp at hj⟩
  obtain ⟨σ', m1, m2⟩ := loop1 F [] [] (xu σ 273 6 0) rfl rfl e0 ⟨trivial, fun g hg => by simp at hg⟩ (by simp) (FX.rf.xu (by decide))
  refine ⟨σ', ?_, m2⟩
  refine e_entry okX3_build (Nat.le_of_ble_eq_true rfl) (ls := [some _, some _, some _, some _, some _, none, none]) rfl ?_
  refine e_aload_n 0 1 rfl rfl rfl rfl ?_
  refine e_iconst 1 2 rfl rfl ?_
  refine g_putI 2 5 6 ckX3 flX3_35 rfl rfl (Nat.le_of_ble_eq_true rfl) rfl rfl rfl ?_
  refine e_iconst 3 6 rfl rfl ?_
  refine e_istore 4 8 (ls' := [some _, some _, some _, some _, some _, some _, none]) rfl rfl (Nat.le_of_ble_eq_true rfl) rfl ?_
  exact m1
