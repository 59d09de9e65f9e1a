/-! ===== the cells' rules over the law's cells, as they are used ===== -/
section XG
variable {M : x_MT} {mc ms pc kc ks : Nat} {ls : List (Option Value)} {st : List Value} {σ : xSig} {Y : xS} {o : xO}
theorem g_getI (k nx : Nat) {ci j a idx : Nat} {fs : List (Option (Option Nat))} {ty : FieldType} {fin : Bool} {v : Int} (jz : Int) (hk : x_CK ci) (hf : x_FL (mOwn M) idx ci j ty fin) (hd : (mIns M)[k]? = some (pc, .getfield idx, 3)) (hn : pc + 3 = nx) (ha : a < N0) (hs : SH a = .inr (.inr (ci, fs))) (hj : fs[j]? = some none) (hz : (j : Int) = jz) (hv : σ a jz = v)
    (kk : x_E M mc ms nx ls (.int (ii v) :: st) (St σ) kc ks o Y) : x_E M mc ms pc ls (.ref a :: st) (St σ) kc ks o Y := by
  subst hz
  subst hv
  exact e_getI (X := St σ) k nx hk hf hd hn ha hs hj kk
theorem g_getIN (k nx : Nat) {ci j a idx : Nat} {fs : List (Option (Option Nat))} {v : Int} (jz : Int) (hk : x_CK ci) (hf : x_FN (mOwn M) idx ci j) (hd : (mIns M)[k]? = some (pc, .getfield idx, 3)) (hn : pc + 3 = nx) (ha : a < N0) (hs : SH a = .inr (.inr (ci, fs))) (hj : fs[j]? = some none) (hz : (j : Int) = jz) (hv : σ a jz = v)
    (kk : x_E M mc ms nx ls (.int (ii v) :: st) (St σ) kc ks o Y) : x_E M mc ms pc ls (.ref a :: st) (St σ) kc ks o Y := by
  subst hz
  subst hv
  exact e_getIN (X := St σ) k nx hk hf hd hn ha hs hj kk
theorem g_getR (k nx : Nat) {ci j a idx : Nat} {fs : List (Option (Option Nat))} {ty : FieldType} {fin : Bool} {b : Nat} (hk : x_CK ci) (hf : x_FL (mOwn M) idx ci j ty fin) (hd : (mIns M)[k]? = some (pc, .getfield idx, 3)) (hn : pc + 3 = nx) (ha : a < N0) (hs : SH a = .inr (.inr (ci, fs))) (hj : fs[j]? = some (some (some b)))
    (kk : x_E M mc ms nx ls (.ref b :: st) (St σ) kc ks o Y) : x_E M mc ms pc ls (.ref a :: st) (St σ) kc ks o Y := e_getR (X := St σ) k nx hk hf hd hn ha hs hj kk
theorem g_putI (k nx : Nat) {ci j a idx : Nat} {fs : List (Option (Option Nat))} {v : Int} (jz : Int) (hk : x_CK ci) (hf : x_FL (mOwn M) idx ci j .int false) (hd : (mIns M)[k]? = some (pc, .putfield idx, 3)) (hn : pc + 3 = nx) (ha : a < N0) (hs : SH a = .inr (.inr (ci, fs))) (hj : fs[j]? = some none) (hz : (j : Int) = jz)
    (kk : x_E M mc ms nx ls st (St (xu σ a jz v)) kc ks o Y) : x_E M mc ms pc ls (.int (ii v) :: .ref a :: st) (St σ) kc ks o Y := by
  subst hz
  exact e_putI (X := St σ) k nx hk hf hd hn ha hs hj kk
theorem g_putZ (k nx : Nat) {ci j a idx : Nat} {fs : List (Option (Option Nat))} {v : Int} (jz : Int) (hk : x_CK ci) (hf : x_FL (mOwn M) idx ci j .boolean false) (hd : (mIns M)[k]? = some (pc, .putfield idx, 3)) (hn : pc + 3 = nx) (hv : v = 0 ∨ v = 1) (ha : a < N0) (hs : SH a = .inr (.inr (ci, fs))) (hj : fs[j]? = some none) (hz : (j : Int) = jz)
    (kk : x_E M mc ms nx ls st (St (xu σ a jz v)) kc ks o Y) : x_E M mc ms pc ls (.int (ii v) :: .ref a :: st) (St σ) kc ks o Y := by
  subst hz
  exact e_putZ (X := St σ) k nx hk hf hd hn hv ha hs hj kk
theorem g_alen (k nx : Nat) {kd a n : Nat} (hd : (mIns M)[k]? = some (pc, .arraylength, 1)) (hn : pc + 1 = nx) (ha : a < N0) (hs : SH a = .inl (kd, n)) (hkd : kd < 3)
    (kk : x_E M mc ms nx ls (.int (ii n) :: st) (St σ) kc ks o Y) : x_E M mc ms pc ls (.ref a :: st) (St σ) kc ks o Y := e_alen (X := St σ) k nx hd hn ha hs hkd kk
theorem g_alenR (k nx : Nat) {kd a : Nat} {rs : List (Option Nat)} (hd : (mIns M)[k]? = some (pc, .arraylength, 1)) (hn : pc + 1 = nx) (ha : a < N0) (hs : SH a = .inr (.inl (kd, rs))) (hkd : kd = 3 ∨ kd = 4)
    (kk : x_E M mc ms nx ls (.int (ii (rs.length : Nat)) :: st) (St σ) kc ks o Y) : x_E M mc ms pc ls (.ref a :: st) (St σ) kc ks o Y := e_alenR (X := St σ) k nx hd hn ha hs hkd kk
theorem g_iaload (k nx : Nat) {a n : Nat} {x v : Int} (hd : (mIns M)[k]? = some (pc, .iaload, 1)) (hn : pc + 1 = nx) (ha : a < N0) (hs : SH a = .inl (0, n)) (h0 : 0 ≤ x) (h1 : x < n) (h2 : n < 2147483648) (hv : σ a x = v)
    (kk : x_E M mc ms nx ls (.int (ii v) :: st) (St σ) kc ks o Y) : x_E M mc ms pc ls (.int (ii x) :: .ref a :: st) (St σ) kc ks o Y := by
  subst hv
  exact e_iaload (X := St σ) k nx hd hn ha hs h0 h1 h2 kk
theorem g_baload (k nx : Nat) {a n : Nat} {x v : Int} (hd : (mIns M)[k]? = some (pc, .baload, 1)) (hn : pc + 1 = nx) (ha : a < N0) (hs : SH a = .inl (1, n)) (h0 : 0 ≤ x) (h1 : x < n) (h2 : n < 2147483648) (hv : σ a x = v)
    (kk : x_E M mc ms nx ls (.int (ii v) :: st) (St σ) kc ks o Y) : x_E M mc ms pc ls (.int (ii x) :: .ref a :: st) (St σ) kc ks o Y := by
  subst hv
  exact e_baload (X := St σ) k nx hd hn ha hs h0 h1 h2 kk
theorem g_laload (k nx : Nat) {a n : Nat} {x v : Int} (hd : (mIns M)[k]? = some (pc, .laload, 1)) (hn : pc + 1 = nx) (ha : a < N0) (hs : SH a = .inl (2, n)) (h0 : 0 ≤ x) (h1 : x < n) (h2 : n < 2147483648) (hv : σ a x = v)
    (kk : x_E M mc ms nx ls (.long (ll v) :: st) (St σ) kc ks o Y) : x_E M mc ms pc ls (.int (ii x) :: .ref a :: st) (St σ) kc ks o Y := by
  subst hv
  exact e_laload (X := St σ) k nx hd hn ha hs h0 h1 h2 kk
theorem g_aaload (k nx : Nat) {a b kd : Nat} {rs : List (Option Nat)} {x : Int} (hd : (mIns M)[k]? = some (pc, .aaload, 1)) (hn : pc + 1 = nx) (ha : a < N0) (hs : SH a = .inr (.inl (kd, rs))) (hkd : kd = 3 ∨ kd = 4) (h0 : 0 ≤ x) (hr : rs[x.toNat]? = some (some b)) (h2 : rs.length < 2147483648)
    (kk : x_E M mc ms nx ls (.ref b :: st) (St σ) kc ks o Y) : x_E M mc ms pc ls (.int (ii x) :: .ref a :: st) (St σ) kc ks o Y := e_aaload (X := St σ) k nx hd hn ha hs hkd h0 hr h2 kk
theorem g_iastore (k nx : Nat) {a n : Nat} {x v : Int} (hd : (mIns M)[k]? = some (pc, .iastore, 1)) (hn : pc + 1 = nx) (ha : a < N0) (hs : SH a = .inl (0, n)) (h0 : 0 ≤ x) (h1 : x < n) (h2 : n < 2147483648)
    (kk : x_E M mc ms nx ls st (St (xu σ a x v)) kc ks o Y) : x_E M mc ms pc ls (.int (ii v) :: .int (ii x) :: .ref a :: st) (St σ) kc ks o Y := e_iastore (X := St σ) k nx hd hn ha hs h0 h1 h2 kk
theorem g_bastore (k nx : Nat) {a n : Nat} {x v : Int} (hd : (mIns M)[k]? = some (pc, .bastore, 1)) (hn : pc + 1 = nx) (hv : v = 0 ∨ v = 1) (ha : a < N0) (hs : SH a = .inl (1, n)) (h0 : 0 ≤ x) (h1 : x < n) (h2 : n < 2147483648)
    (kk : x_E M mc ms nx ls st (St (xu σ a x v)) kc ks o Y) : x_E M mc ms pc ls (.int (ii v) :: .int (ii x) :: .ref a :: st) (St σ) kc ks o Y := e_bastore (X := St σ) k nx hd hn hv ha hs h0 h1 h2 kk
theorem g_lastore (k nx : Nat) {a n : Nat} {x v : Int} (hd : (mIns M)[k]? = some (pc, .lastore, 1)) (hn : pc + 1 = nx) (ha : a < N0) (hs : SH a = .inl (2, n)) (h0 : 0 ≤ x) (h1 : x < n) (h2 : n < 2147483648)
    (kk : x_E M mc ms nx ls st (St (xu σ a x v)) kc ks o Y) : x_E M mc ms pc ls (.long (ll v) :: .int (ii x) :: .ref a :: st) (St σ) kc ks o Y := e_lastore (X := St σ) k nx hd hn ha hs h0 h1 h2 kk
theorem g_callV (k nx : Nat) {M' : x_MT} {idx n b ci mc' ms' : Nat} {r : vw_C} {fs : List (Option (Option Nat))} {av rest : List Value} {v : Option Value} {σ' : xSig} (sp : x_Sp M' mc' ms' (.ref b :: av) (St σ) (.inl v) (St σ')) (ok' : x_MOk M') (cv : x_CV (mOwn M) M' idx n) (hR : x_Rm M M') (hd : (mIns M)[k]? = some (pc, .invokevirtual idx, 3)) (hn : pc + 3 = nx)
    (hb : b < N0) (hs : SH b = .inr (.inr (ci, fs))) (hc : vwCl[ci]? = some r) (hrn : r.1 = mOwn M') (hst : st = av.reverse ++ .ref b :: rest) (hnn : av.length = n) (hrest : (rest.map fun v => v.category).sum ≤ 8) (hcc : kc + mc' ≤ mc) (hss : ks + ms' ≤ ms)
    (kk : x_E M mc ms nx ls (v.toList ++ rest) (St σ') (kc + mc') (ks + ms') o Y) : x_E M mc ms pc ls st (St σ) kc ks o Y := e_callV (X := St σ) k nx sp ok' cv hR hd hn hb hs hc hrn hst hnn hrest hcc hss kk
theorem g_callS (k nx : Nat) {M' : x_MT} {idx n mc' ms' : Nat} {av rest : List Value} {v : Option Value} {σ' : xSig} (sp : x_Sp M' mc' ms' av (St σ) (.inl v) (St σ')) (ok' : x_MOk M') (cv : x_CS (mOwn M) M' idx n) (hR : x_Rm M M') (hd : (mIns M)[k]? = some (pc, .invokestatic idx, 3)) (hn : pc + 3 = nx)
    (hst : st = av.reverse ++ rest) (hnn : av.length = n) (hrest : (rest.map fun v => v.category).sum ≤ 8) (hcc : kc + mc' ≤ mc) (hss : ks + ms' ≤ ms)
    (kk : x_E M mc ms nx ls (v.toList ++ rest) (St σ') (kc + mc') (ks + ms') o Y) : x_E M mc ms pc ls st (St σ) kc ks o Y := e_callS (X := St σ) k nx sp ok' cv hR hd hn hst hnn hrest hcc hss kk
theorem g_acopy (k nx : Nat) {idx a n : Nat} {sp dp m9 : Int} (hd : (mIns M)[k]? = some (pc, .invokestatic idx, 3)) (hn : pc + 3 = nx) (hw : Cond.methodLink (mOwn M) idx arraycopyName ∈ tb0 ∧ Cond.native arraycopyName ∈ tb0 ∧ Cond.static arraycopyName ∈ tb0 ∧ Cond.initialized "java/lang/System" ∈ tb0) (hfr : 1 ≤ mFr M) (hlo : 26 ≤ mLo M) (hrest : (st.map fun v => v.category).sum ≤ 8)
    (ha : a < N0) (hs : SH a = .inl (0, n)) (h1 : 0 ≤ sp) (h2 : 0 ≤ dp) (h3 : 0 ≤ m9) (h4 : sp + m9 ≤ n) (h5 : dp + m9 ≤ n) (h6 : n < 2147483648)
    (kk : x_E M mc ms nx ls st (St (xcp σ a sp dp m9)) kc ks o Y) : x_E M mc ms pc ls (.int (ii m9) :: .int (ii dp) :: .ref a :: .int (ii sp) :: .ref a :: st) (St σ) kc ks o Y := e_acopy (X := St σ) k nx hd hn hw hfr hlo hrest rfl ha hs h1 h2 h3 h4 h5 h6 kk
end XG
