/-! ===== the law's own long[1] (cell 313): what it holds is carried by the context ===== -/
abbrev G9 (G : xG) (w : Nat) : xG := (G.1, fun k => bif Nat.beq k 9 then w else G.2 k)
abbrev K9 (K : x_KT) (w : Nat) : x_KT := (kP K, kL K, kE K, kR K, kS K, kM K, kA K, kW K, kH K, kC K, G9 (kG K) w, kB K, kQ K)
theorem beq9 {k : Nat} (h : k ≠ 9) : Nat.beq k 9 = false := by
  cases e2 : Nat.beq k 9
  · rfl
  · exact absurd (Nat.eq_of_beq_eq_true e2) h
theorem G9_self (G : xG) : G9 G (G.2 9) = G := by
  obtain ⟨a, f⟩ := G
  show (a, fun k => bif Nat.beq k 9 then f 9 else f k) = (a, f)
  congr 1
  funext k
  by_cases h : k = 9
  · rw [h]; rfl
  · rw [beq9 h]; rfl
theorem K9_self (K : x_KT) : K = K9 K ((kG K).2 9) := by
  obtain ⟨a1, a2, a3, a4, a5, a6, a7, a8, a9, a10, G, b, q⟩ := K
  show _ = (a1, a2, a3, a4, a5, a6, a7, a8, a9, a10, G9 G (G.2 9), b, q)
  rw [G9_self]
theorem x_FC.out {K : x_KT} {cc : ByteArray} {n9 : Nat} {own : String} (C : x_FC K cc n9 own) (w : Nat) : x_FC (K9 K w) cc n9 own := C
def nk9 : xShp → Bool
  | .inl q => !Nat.beq q.1 9
  | .inr (.inl q) => !Nat.beq q.1 9
  | .inr (.inr _) => true
theorem x_cell9 {base : Nat} {G : xG} {w : Nat} {s : xShp} {m : Int → Int} (h : nk9 s = true) : x_cell base (G9 G w) s m = x_cell base G s m := by
  rcases s with ⟨kd, n⟩ | ⟨kd, rs⟩ | ⟨ci, fs⟩
  · have e : Nat.beq kd 9 = false := by simpa [nk9] using h
    have hk : kd ≠ 9 := fun q => by rw [q] at e; cases e
    rw [x_cellA hk, x_cellA hk]
    show Sum.inl (bif Nat.beq kd 9 then w else G.2 kd, _) = _
    rw [e]
    rfl
  · have e : Nat.beq kd 9 = false := by simpa [nk9] using h
    show Sum.inl (bif Nat.beq kd 9 then w else G.2 kd, _) = _
    rw [e]
    rfl
  · rfl
theorem x_wl_setG {base : Nat} {G : xG} {w : Nat} {X : xS} {a : Nat} (ha : a < xN X) (ho : ∀ b, b < xN X → b ≠ a → nk9 (xF X b) = true) :
    x_wl base (G9 G w) X = (x_wl base G X).set a (base + a, x_cell base (G9 G w) (xF X a) (xM X a)) := by
  apply List.ext_getElem?
  intro k
  by_cases hk : k < xN X
  · rw [x_wl_at hk]
    by_cases hka : k = a
    · subst hka
      rw [List.getElem?_set_self (by simpa [x_wl] using hk)]
    · rw [List.getElem?_set_ne (Ne.symm hka), x_wl_at hk, x_cell9 (ho k hk hka)]
  · have h1 : (x_wl base (G9 G w) X)[k]? = none := by
      rw [List.getElem?_eq_none_iff]; simp [x_wl]; omega
    have h2 : ((x_wl base G X).set a (base + a, x_cell base (G9 G w) (xF X a) (xM X a)))[k]? = none := by
      rw [List.getElem?_eq_none_iff]; simp [x_wl]; omega
    rw [h1, h2]
theorem arrV_one {cI : ClassId} {f g : Nat → Value} (h : f 0 = g 0) : arrV cI 1 f = arrV cI 1 g := by
  unfold arrV
  have e : (fun j : Fin 1 => f j.val) = fun j => g j.val := by
    funext j
    have : j.val = 0 := by omega
    rw [this, h]
  rw [e]
section XF9
variable {K : x_KT} {cc : ByteArray} {n9 : Nat} {own : String} {ex : List (Nat × Value)} {pc kc ks : Nat} {ls : List (Option Value)} {st : List Value} {X : xS}
theorem f_laload9 (C : x_FC K cc n9 own) (nx : Nat) {a : Nat} {v : Int} (hd : decode cc pc = .ok (.laload, 1)) (hn : pc + 1 = nx) (ha : a < xN X) (hs : xF X a = .inl (9, 1)) (hv : Int64.ofNat ((kG K).2 9) = ll v)
    (kk : x_F K n9 ex nx ls (.long (ll v) :: st) X kc ks) : x_F K n9 ex pc ls (.int (ii 0) :: .ref a :: st) X kc ks := by
  subst hn
  intro H locs arr w S hl
  have he : (x_wl (kB K) (kG K) X)[a]? = some (kB K + a, .inl ((kG K).2 2, 1, .inr (.inl fun _ => Int64.ofNat ((kG K).2 9)))) := by rw [x_wl_at ha, hs]; rfl
  refine va_lald C.1 C.2.1 C.2.2.2.2.2.1.1 w.1 a 2 he rfl (ii_in (by decide) (by decide) (by decide)) hd ?_
  have := kk H locs arr w S hl
  rw [← hv] at this
  exact this
theorem f_lastore9 (C : x_FC K cc n9 own) (nx : Nat) {a : Nat} {v : Int} (hd : decode cc pc = .ok (.lastore, 1)) (hn : pc + 1 = nx) (ha : a < xN X) (hs : xF X a = .inl (9, 1)) (ho : ∀ b, b < xN X → b ≠ a → nk9 (xF X b) = true)
    (kk : x_F (K9 K (o9 (ll v))) n9 ex nx ls st X kc ks) : x_F K n9 ex pc ls (.long (ll v) :: .int (ii 0) :: .ref a :: st) X kc ks := by
  subst hn
  intro H locs arr w S hl
  have hK := C.2.2.2.2.2.1.1
  have he : (x_wl (kB K) (kG K) X)[a]? = some (kB K + a, .inl ((kG K).2 2, 1, .inr (.inl fun _ => Int64.ofNat ((kG K).2 9)))) := by rw [x_wl_at ha, hs]; rfl
  have hcell : H[kB K + a]? = some (vp_cell ((kG K).2 2) (1, .inr (.inl fun _ => Int64.ofNat ((kG K).2 9)))) := w.1 a _ he
  refine W.last C.1 C.2.1 hcell ((hK.2 2 _ rfl).1 1 (fun _ => .long (Int64.ofNat ((kG K).2 9)))) (fun q => by cases q) (by show ¬ ((ii 0) < 0 ∨ (arrV _ _ _).slots.size ≤ _); rw [arrV_size]; exact ii_in (n := 1) (by decide) (by decide) (by decide)) rfl rfl hd fun H1 e9 z oq => ?_
  have hat : va_at (kG K).1 vwCl (kB K + a, x_cell (kB K) (G9 (kG K) (o9 (ll v))) (xF X a) (xM X a)) H1 := by
    rw [hs]
    show H1[kB K + a]? = some (vp_cell ((kG K).2 2) (1, .inr (.inl fun _ => Int64.ofNat (o9 (ll v)))))
    rw [e9, vp_cell_l, vp_cell_l, arrV_store]
    congr 1
    refine arrV_one ?_
    rw [o9_of]
    rfl
  have hP2 := va_P.set w.1 x_D he hat oq
  rw [← x_wl_setG ha ho] at hP2
  exact kk H1 _ arr ⟨hP2, fun h => z.trans (w.2 h)⟩ (S.put z oq (Nat.le_add_right (kB K) a)) hl
end XF9
theorem SH9 : ∀ b, b < 314 → b ≠ 313 → nk9 (SH b) = true := by decide +kernel
