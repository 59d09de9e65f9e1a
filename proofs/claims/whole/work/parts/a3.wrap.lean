/-! ===== the wrappers: words, entry ===== -/
def ncs : List (String × String) := [(nIAE, nIOB), (nISE, nIOB), (nISE, nIAE)]
def x_PH (G : xG) (base : Nat) (U : State) : Prop := x_PX G base U ∧ ∀ q ∈ ncs, va_Nc q.1 q.2 U
def x_PcH (base : Nat) (G : xG) (av : List Value) (X : xS) : Array Value → State → Prop := va_Pc (av.map (x_v base)) (fun U => x_W base G X U.heap ∧ x_PH G base U)
theorem x_PH.moved {G : xG} {base : Nat} {s U : State} (h : x_PH G base s) (hW : s.WarmedH U.vm) (hz : s.heap.size ≤ U.heap.size) (ho : ∀ q : Nat, q < s.heap.size → ¬ x_A base q → U.heap[q]? = s.heap[q]?) : x_PH G base U := ⟨h.1.moved hW hz ho, fun q hq => (h.2 q hq).moved hW.alike⟩
theorem x_blindH {base : Nat} {G : xG} {av : List Value} {X : xS} : FrameBlind (x_PcH base G av X) := by
  intro a U g mk h
  obtain ⟨h1, h2, h3⟩ := h
  exact ⟨h1, h2, h3.moved (State.WarmedH.refl U) (Nat.le_refl _) (fun _ _ _ => rfl)⟩
abbrev xwH (y : MethodName) (cc : ByteArray) (n9 : Nat) (hh : List (Nat × Nat × Nat × Nat)) : List Cond := Cond.codeWith y cc n9 (some .int) hh :: tb0
abbrev xrm (fr lo mc ms : Nat) : Room := { frames := fr, cells := mc, slots := ms, locals := lo }
def x_SpH (y : MethodName) (cc : ByteArray) (n9 : Nat) (hh : List (Nat × Nat × Nat × Nat)) (fr lo mc ms : Nat) (av : List Value) (X : xS) (f : Nat → Nat) (o : Int) (Y : xS) : Prop :=
  ∀ (l : Launch) (G : xG) (base : Nat), l.stackTraces = false → vx_Met l y (xwH y cc n9 hh) (xrm fr lo mc ms) (x_PcH base G av X) (x_Qc base (G9 G (f (G.2 9))) (.inl (some (.int (ii o)))) Y) (x_XC base G (.inl (some (.int (ii o)))) Y) mc ms (x_A base)
theorem f_entry {y : MethodName} {cc : ByteArray} {n9 : Nat} {hh : List (Nat × Nat × Nat × Nat)} {fr lo mc ms : Nat} {av : List Value} {X Y : xS} {f : Nat → Nat} {o : Int} {ls : List (Option Value)} (hy : plainName y.cls = true) (hcls : y.cls = RL) (hn : (x_en av).length ≤ n9) (hls : x_en av ++ List.replicate (n9 - (x_en av).length) none = ls)
    (kk : ∀ K : x_KT, x_FC K cc n9 RL → (kC K).exceptionTable.toList = tableOf hh → (kR K).frames = fr → (kR K).locals = lo → (kR K).cells = mc → (kR K).slots = ms → (∀ q ∈ ncs, va_Nc q.1 q.2 (kS K)) → (∀ (K' : x_KT), K' = K9 K (f ((kG K).2 9)) → ∀ (pc : Nat) (ls : List (Option Value)) (kc ks : Nat), decode cc pc = .ok (.ireturn, 1) → kc ≤ mc → ks ≤ ms → x_F K' n9 [] pc ls [.int (ii o)] Y kc ks) → x_F K n9 [] 0 ls [] X 0 0) : x_SpH y cc n9 hh fr lo mc ms av X f o Y := by
  intro l G base hst
  refine vx_ofWH (cc := cc) (maxL := n9) (ret := some .int) (hh := hh) hy rfl ?_
  intro p e s m args below meth c s₁ B hml hv
  obtain ⟨rfl, hw, hp, hnc⟩ := hv
  have hts := atoms_spec (ws := xwH y cc n9 hh) B.pre
  have htab := vx_table (x := y) B (hts _ List.mem_cons_self)
  have hlen : (lg_sl (av.map (x_v base))).length ≤ n9 := by rw [x_sl_len]; exact hn
  have hl := lv_entry (av.map (x_v base)) hlen
  rw [lg_entry_eq]
  have hown : s.vm.findClass RL = some m.cls := by rw [← hcls]; exact findClass_of_methodNamed B.named
  refine kk (p, l, e, xrm fr lo mc ms, s, m, (av.map (x_v base)).toArray, below, meth, c, G, base, vx_MQ below (x_Qc base (G9 G (f (G.2 9))) (.inl (some (.int (ii o)))) Y) (x_XC base G (.inl (some (.int (ii o)))) Y) (av.map (x_v base)).toArray s mc ms (x_A base)) ⟨B.exec, B.bytes, hml, hown, fun w h => hts w (List.mem_cons_of_mem _ h), hp, hst⟩ htab rfl rfl rfl rfl hnc ?_ s.heap [] _ hw va_S.rf (x_lsub hl fun q hq => ?_)
  · intro K' hK' pc ls kc ks hd h1 h2 H locs arr w S hl2
    subst hK'
    refine x_widen h1 h2 (vx_ret ?_)
    exact W.iret (v := ii o) B.exec B.bytes B.returns (fun t ht _ => x_fin (below := below) w S t ht) S.2.2 hd B.notSynchronized
  · rw [← hls] at hq
    exact x_en_mem av 0 _ (fun z hz => by have := List.eq_of_mem_replicate hz; cases this) hq
def zI (z : Int) : Int := (ii z).toInt
theorem zI_r (z : Int) : xr (zI z) := xr_of _
theorem zI_i (z : Int) : ii (zI z) = ii z := ii_of _
theorem f_i2lz {K : x_KT} {cc : ByteArray} {n9 : Nat} {own : String} {ex : List (Nat × Value)} {pc kc ks : Nat} {ls : List (Option Value)} {st : List Value} {X : xS} (C : x_FC K cc n9 own) (nx : Nat) {z : Int} (hd : decode cc pc = .ok (.i2l, 1)) (hn : pc + 1 = nx) (kk : x_F K n9 ex nx ls (.long (ll (zI z)) :: st) X kc ks) : x_F K n9 ex pc ls (.int (ii z) :: st) X kc ks := by
  rw [← zI_i]
  exact f_i2l C nx hd hn (zI_r z) kk
theorem f_ifeqz {K : x_KT} {cc : ByteArray} {n9 : Nat} {own : String} {ex : List (Nat × Value)} {pc kc ks : Nat} {ls : List (Option Value)} {st : List Value} {X : xS} (C : x_FC K cc n9 own) (tg nx : Nat) {z off : Int} (hd : decode cc pc = .ok (.ifCond .eq off, 3)) (ht : (pc : Int) + off = (tg : Int)) (hn : pc + 3 = nx) (kt : zI z = 0 → x_F K n9 ex tg ls st X kc ks) (kf : ¬ zI z = 0 → x_F K n9 ex nx ls st X kc ks) : x_F K n9 ex pc ls (.int (ii z) :: st) X kc ks := by
  rw [← zI_i]
  exact f_if_eq C tg nx hd ht hn (zI_r z) kt kf

theorem cast_nISE : Cond.castable nISE nISE ∈ x_nw := List.mem_of_getElem? (i := 9) (by decide +kernel)
theorem cast_nIAE : Cond.castable nIAE nIAE ∈ x_nw := List.mem_of_getElem? (i := 16) (by decide +kernel)
theorem cast_nIOB : Cond.castable nIOB nIOB ∈ x_nw := List.mem_of_getElem? (i := 17) (by decide +kernel)
theorem clL_13 : Cond.classLink RL 13 nISE ∈ tb0 := tb2_of 230 rfl rfl
theorem clL_19 : Cond.classLink RL 19 nIAE ∈ tb0 := tb3_of 106 rfl rfl
theorem clL_44 : Cond.classLink RL 44 nIOB ∈ tb0 := tb4_of 58 rfl rfl
theorem cvL_7 : x_CV RL MX11_nothing 7 0 := ⟨tb2_of 231 rfl rfl, tb2_of 232 rfl rfl, tb2_of 233 rfl rfl, by decide +kernel⟩
theorem cvL_15 : x_CV RL MX11_number 15 1 := ⟨tb3_of 107 rfl rfl, tb3_of 108 rfl rfl, tb3_of 109 rfl rfl, by decide +kernel⟩
theorem cvL_21 : x_CV RL MX11_word 21 1 := ⟨tb3_of 133 rfl rfl, tb3_of 134 rfl rfl, tb3_of 135 rfl rfl, by decide +kernel⟩
theorem cvL_24 : x_CV RL MX11_row 24 0 := ⟨tb3_of 141 rfl rfl, tb3_of 142 rfl rfl, tb3_of 143 rfl rfl, by decide +kernel⟩
theorem cvL_27 : x_CV RL MX11_object 27 0 := ⟨tb3_of 148 rfl rfl, tb3_of 149 rfl rfl, tb3_of 150 rfl rfl, by decide +kernel⟩
theorem cvL_30 : x_CV RL MX11_add 30 0 := ⟨tb3_of 155 rfl rfl, tb3_of 156 rfl rfl, tb3_of 157 rfl rfl, by decide +kernel⟩
theorem cvL_33 : x_CV RL MX11_give 33 1 := ⟨tb3_of 194 rfl rfl, tb3_of 195 rfl rfl, tb3_of 196 rfl rfl, by decide +kernel⟩
theorem cvL_36 : x_CV RL MX11_insert 36 2 := ⟨tb3_of 212 rfl rfl, tb3_of 213 rfl rfl, tb3_of 214 rfl rfl, by decide +kernel⟩
theorem cvL_40 : x_CV RL MX11_update 40 4 := ⟨tb4_of 59 rfl rfl, tb4_of 60 rfl rfl, tb4_of 61 rfl rfl, by decide +kernel⟩
theorem cvL_46 : x_CV RL MX11_remove 46 2 := ⟨tb4_of 147 rfl rfl, tb4_of 148 rfl rfl, tb4_of 149 rfl rfl, by decide +kernel⟩
theorem cvL_49 : x_CV RL MX11_rule 49 2 := ⟨tb4_of 167 rfl rfl, tb4_of 168 rfl rfl, tb4_of 169 rfl rfl, by decide +kernel⟩
theorem cvL_52 : x_CV RL MX11_index 52 2 := ⟨tb4_of 184 rfl rfl, tb4_of 185 rfl rfl, tb4_of 186 rfl rfl, by decide +kernel⟩
theorem cvL_56 : x_CV RL MX11_dropIndex 56 1 := ⟨tb4_of 205 rfl rfl, tb4_of 206 rfl rfl, tb4_of 207 rfl rfl, by decide +kernel⟩
theorem cvL_59 : x_CV RL MX11_filter 59 2 := ⟨tb4_of 229 rfl rfl, tb4_of 230 rfl rfl, tb4_of 231 rfl rfl, by decide +kernel⟩
theorem cvL_62 : x_CV RL MX11_find 62 1 := ⟨tb5_of 17 rfl rfl, tb5_of 18 rfl rfl, tb5_of 19 rfl rfl, by decide +kernel⟩
theorem cvL_65 : x_CV RL MX11_found 65 1 := ⟨tb5_of 94 rfl rfl, tb5_of 95 rfl rfl, tb5_of 96 rfl rfl, by decide +kernel⟩
theorem cvL_68 : x_CV RL MX11_plan 68 1 := ⟨tb5_of 110 rfl rfl, tb5_of 111 rfl rfl, tb5_of 112 rfl rfl, by decide +kernel⟩
theorem cvL_71 : x_CV RL MX11_group 71 2 := ⟨tb5_of 126 rfl rfl, tb5_of 127 rfl rfl, tb5_of 128 rfl rfl, by decide +kernel⟩
theorem cvL_74 : x_CV RL MX11_grouped 74 2 := ⟨tb5_of 181 rfl rfl, tb5_of 182 rfl rfl, tb5_of 183 rfl rfl, by decide +kernel⟩
theorem cvL_78 : x_CV RL MX11_split 78 2 := ⟨tb5_of 197 rfl rfl, tb5_of 198 rfl rfl, tb5_of 199 rfl rfl, by decide +kernel⟩
theorem cvL_81 : x_CV RL MX11_move 81 2 := ⟨tb5_of 225 rfl rfl, tb5_of 226 rfl rfl, tb5_of 227 rfl rfl, by decide +kernel⟩
theorem cvL_84 : x_CV RL MX11_copy 84 1 := ⟨tb6_of 13 rfl rfl, tb6_of 14 rfl rfl, tb6_of 15 rfl rfl, by decide +kernel⟩
theorem cvL_87 : x_CV RL MX11_handOver 87 0 := ⟨tb6_of 26 rfl rfl, tb6_of 27 rfl rfl, tb6_of 28 rfl rfl, by decide +kernel⟩
theorem cvL_90 : x_CV RL MX11_giveUp 90 0 := ⟨tb6_of 46 rfl rfl, tb6_of 47 rfl rfl, tb6_of 48 rfl rfl, by decide +kernel⟩
theorem cvL_93 : x_CV RL MX11_clean 93 1 := ⟨tb6_of 54 rfl rfl, tb6_of 55 rfl rfl, tb6_of 56 rfl rfl, by decide +kernel⟩
theorem cvL_96 : x_CV RL MX11_key 96 2 := ⟨tb6_of 69 rfl rfl, tb6_of 70 rfl rfl, tb6_of 71 rfl rfl, by decide +kernel⟩
theorem cvL_99 : x_CV RL MX11_expire 99 1 := ⟨tb6_of 82 rfl rfl, tb6_of 83 rfl rfl, tb6_of 84 rfl rfl, by decide +kernel⟩
theorem cvL_102 : x_CV RL MX11_tick 102 1 := ⟨tb6_of 89 rfl rfl, tb6_of 90 rfl rfl, tb6_of 91 rfl rfl, by decide +kernel⟩
theorem cvL_105 : x_CV RL MX11_document 105 2 := ⟨tb6_of 101 rfl rfl, tb6_of 102 rfl rfl, tb6_of 103 rfl rfl, by decide +kernel⟩
theorem cvL_108 : x_CV RL MX11_print 108 1 := ⟨tb6_of 109 rfl rfl, tb6_of 110 rfl rfl, tb6_of 111 rfl rfl, by decide +kernel⟩
theorem cvL_112 : x_CV RL MX11_entries 112 1 := ⟨tb6_of 117 rfl rfl, tb6_of 118 rfl rfl, tb6_of 119 rfl rfl, by decide +kernel⟩
theorem cvL_115 : x_CV RL MX11_entriesAnew 115 1 := ⟨tb6_of 138 rfl rfl, tb6_of 139 rfl rfl, tb6_of 140 rfl rfl, by decide +kernel⟩
theorem cvL_118 : x_CV RL MX11_chunk 118 2 := ⟨tb6_of 145 rfl rfl, tb6_of 146 rfl rfl, tb6_of 147 rfl rfl, by decide +kernel⟩
theorem cvL_121 : x_CV RL MX11_shard 121 2 := ⟨tb6_of 153 rfl rfl, tb6_of 154 rfl rfl, tb6_of 155 rfl rfl, by decide +kernel⟩
theorem cvL_124 : x_CV RL MX11_router 124 2 := ⟨tb6_of 170 rfl rfl, tb6_of 171 rfl rfl, tb6_of 172 rfl rfl, by decide +kernel⟩
theorem cvL_127 : x_CV RL MX11_change 127 2 := ⟨tb6_of 186 rfl rfl, tb6_of 187 rfl rfl, tb6_of 188 rfl rfl, by decide +kernel⟩
theorem ciL_130 : x_CI RL MX11_init 130 0 := ⟨tb1_of 24 rfl rfl, tb1_of 25 rfl rfl, rfl, rfl, by decide +kernel⟩
theorem ciL_133 : x_CI RL MX12_init 133 0 := ⟨tb6_of 201 rfl rfl, tb6_of 202 rfl rfl, rfl, rfl, by decide +kernel⟩
abbrev hL_nothing : List (Nat × Nat × Nat × Nat) := [(0, 8, 11, 13)]
theorem cwL_nothing : Cond.codeWith yL_nothing cL_nothing 3 (some .int) hL_nothing ∈ tb0 := tb2_of 229 rfl rfl
theorem msL_nothing : Cond.methodLink RL 134 yL_nothing ∈ tb0 ∧ Cond.static yL_nothing ∈ tb0 := ⟨tb2_of 227 rfl rfl, tb2_of 228 rfl rfl⟩
theorem cvL_139 : x_CV RL MX12_nothing 139 0 := ⟨tb7_of 124 rfl rfl, tb7_of 125 rfl rfl, tb7_of 126 rfl rfl, by decide +kernel⟩
theorem cvL_140 : x_CV RL MX12_thrown 140 0 := ⟨tb7_of 120 rfl rfl, tb7_of 121 rfl rfl, tb7_of 122 rfl rfl, by decide +kernel⟩
abbrev hL_number : List (Nat × Nat × Nat × Nat) := [(0, 9, 12, 19), (0, 9, 15, 13)]
theorem cwL_number : Cond.codeWith yL_number cL_number 4 (some .int) hL_number ∈ tb0 := tb3_of 105 rfl rfl
theorem msL_number : Cond.methodLink RL 143 yL_number ∈ tb0 ∧ Cond.static yL_number ∈ tb0 := ⟨tb3_of 103 rfl rfl, tb3_of 104 rfl rfl⟩
theorem cvL_146 : x_CV RL MX12_number 146 1 := ⟨tb7_of 142 rfl rfl, tb7_of 143 rfl rfl, tb7_of 144 rfl rfl, by decide +kernel⟩
abbrev hL_word : List (Nat × Nat × Nat × Nat) := [(0, 9, 12, 19), (0, 9, 15, 13)]
theorem cwL_word : Cond.codeWith yL_word cL_word 4 (some .int) hL_word ∈ tb0 := tb3_of 132 rfl rfl
theorem msL_word : Cond.methodLink RL 147 yL_word ∈ tb0 ∧ Cond.static yL_word ∈ tb0 := ⟨tb3_of 130 rfl rfl, tb3_of 131 rfl rfl⟩
theorem cvL_149 : x_CV RL MX12_word 149 1 := ⟨tb7_of 149 rfl rfl, tb7_of 150 rfl rfl, tb7_of 151 rfl rfl, by decide +kernel⟩
abbrev hL_row : List (Nat × Nat × Nat × Nat) := [(0, 8, 11, 13)]
theorem cwL_row : Cond.codeWith yL_row cL_row 3 (some .int) hL_row ∈ tb0 := tb3_of 140 rfl rfl
theorem msL_row : Cond.methodLink RL 150 yL_row ∈ tb0 ∧ Cond.static yL_row ∈ tb0 := ⟨tb3_of 138 rfl rfl, tb3_of 139 rfl rfl⟩
theorem cvL_152 : x_CV RL MX12_row 152 0 := ⟨tb7_of 153 rfl rfl, tb7_of 154 rfl rfl, tb7_of 155 rfl rfl, by decide +kernel⟩
abbrev hL_object : List (Nat × Nat × Nat × Nat) := [(0, 8, 11, 13)]
theorem cwL_object : Cond.codeWith yL_object cL_object 3 (some .int) hL_object ∈ tb0 := tb3_of 147 rfl rfl
theorem msL_object : Cond.methodLink RL 153 yL_object ∈ tb0 ∧ Cond.static yL_object ∈ tb0 := ⟨tb3_of 145 rfl rfl, tb3_of 146 rfl rfl⟩
theorem cvL_155 : x_CV RL MX12_object 155 0 := ⟨tb7_of 157 rfl rfl, tb7_of 158 rfl rfl, tb7_of 159 rfl rfl, by decide +kernel⟩
abbrev hL_add : List (Nat × Nat × Nat × Nat) := [(0, 8, 11, 13)]
theorem cwL_add : Cond.codeWith yL_add cL_add 3 (some .int) hL_add ∈ tb0 := tb3_of 154 rfl rfl
theorem msL_add : Cond.methodLink RL 156 yL_add ∈ tb0 ∧ Cond.static yL_add ∈ tb0 := ⟨tb3_of 152 rfl rfl, tb3_of 153 rfl rfl⟩
theorem cvL_158 : x_CV RL MX12_add 158 0 := ⟨tb7_of 161 rfl rfl, tb7_of 162 rfl rfl, tb7_of 163 rfl rfl, by decide +kernel⟩
abbrev hL_give : List (Nat × Nat × Nat × Nat) := [(0, 9, 12, 19), (0, 9, 15, 13)]
theorem cwL_give : Cond.codeWith yL_give cL_give 4 (some .int) hL_give ∈ tb0 := tb3_of 193 rfl rfl
theorem msL_give : Cond.methodLink RL 159 yL_give ∈ tb0 ∧ Cond.static yL_give ∈ tb0 := ⟨tb3_of 191 rfl rfl, tb3_of 192 rfl rfl⟩
theorem cvL_161 : x_CV RL MX12_give 161 1 := ⟨tb7_of 192 rfl rfl, tb7_of 193 rfl rfl, tb7_of 194 rfl rfl, by decide +kernel⟩
theorem cvL_162 : x_CV RL MX11_drop 162 0 := ⟨tb2_of 93 rfl rfl, tb2_of 94 rfl rfl, tb2_of 95 rfl rfl, by decide +kernel⟩
theorem cvL_165 : x_CV RL MX12_drop 165 0 := ⟨tb7_of 200 rfl rfl, tb7_of 201 rfl rfl, tb7_of 202 rfl rfl, by decide +kernel⟩
abbrev hL_insert : List (Nat × Nat × Nat × Nat) := [(0, 10, 13, 19), (0, 10, 17, 13)]
theorem cwL_insert : Cond.codeWith yL_insert cL_insert 5 (some .int) hL_insert ∈ tb0 := tb3_of 211 rfl rfl
theorem msL_insert : Cond.methodLink RL 166 yL_insert ∈ tb0 ∧ Cond.static yL_insert ∈ tb0 := ⟨tb3_of 209 rfl rfl, tb3_of 210 rfl rfl⟩
theorem cvL_169 : x_CV RL MX12_insert 169 2 := ⟨tb7_of 204 rfl rfl, tb7_of 205 rfl rfl, tb7_of 206 rfl rfl, by decide +kernel⟩
abbrev hL_update : List (Nat × Nat × Nat × Nat) := [(0, 21, 24, 44), (0, 21, 28, 19), (0, 21, 32, 13)]
theorem cwL_update : Cond.codeWith yL_update cL_update 7 (some .int) hL_update ∈ tb0 := tb4_of 57 rfl rfl
theorem msL_update : Cond.methodLink RL 170 yL_update ∈ tb0 ∧ Cond.static yL_update ∈ tb0 := ⟨tb4_of 55 rfl rfl, tb4_of 56 rfl rfl⟩
theorem cvL_173 : x_CV RL MX12_update 173 4 := ⟨tb8_of 7 rfl rfl, tb8_of 8 rfl rfl, tb8_of 9 rfl rfl, by decide +kernel⟩
abbrev hL_remove : List (Nat × Nat × Nat × Nat) := [(0, 10, 13, 44), (0, 10, 17, 19)]
theorem cwL_remove : Cond.codeWith yL_remove cL_remove 5 (some .int) hL_remove ∈ tb0 := tb4_of 146 rfl rfl
theorem msL_remove : Cond.methodLink RL 174 yL_remove ∈ tb0 ∧ Cond.static yL_remove ∈ tb0 := ⟨tb4_of 144 rfl rfl, tb4_of 145 rfl rfl⟩
theorem cvL_176 : x_CV RL MX12_remove 176 2 := ⟨tb8_of 31 rfl rfl, tb8_of 32 rfl rfl, tb8_of 33 rfl rfl, by decide +kernel⟩
abbrev hL_rule : List (Nat × Nat × Nat × Nat) := [(0, 10, 13, 19), (0, 10, 17, 13)]
theorem cwL_rule : Cond.codeWith yL_rule cL_rule 5 (some .int) hL_rule ∈ tb0 := tb4_of 166 rfl rfl
theorem msL_rule : Cond.methodLink RL 177 yL_rule ∈ tb0 ∧ Cond.static yL_rule ∈ tb0 := ⟨tb4_of 164 rfl rfl, tb4_of 165 rfl rfl⟩
theorem cvL_179 : x_CV RL MX12_rule 179 2 := ⟨tb8_of 39 rfl rfl, tb8_of 40 rfl rfl, tb8_of 41 rfl rfl, by decide +kernel⟩
abbrev hL_index : List (Nat × Nat × Nat × Nat) := [(0, 10, 13, 19), (0, 10, 17, 13)]
theorem cwL_index : Cond.codeWith yL_index cL_index 5 (some .int) hL_index ∈ tb0 := tb4_of 183 rfl rfl
theorem msL_index : Cond.methodLink RL 180 yL_index ∈ tb0 ∧ Cond.static yL_index ∈ tb0 := ⟨tb4_of 181 rfl rfl, tb4_of 182 rfl rfl⟩
theorem cvL_183 : x_CV RL MX12_index 183 2 := ⟨tb8_of 43 rfl rfl, tb8_of 44 rfl rfl, tb8_of 45 rfl rfl, by decide +kernel⟩
abbrev hL_dropIndex : List (Nat × Nat × Nat × Nat) := [(0, 9, 12, 44)]
theorem cwL_dropIndex : Cond.codeWith yL_dropIndex cL_dropIndex 4 (some .int) hL_dropIndex ∈ tb0 := tb4_of 204 rfl rfl
theorem msL_dropIndex : Cond.methodLink RL 184 yL_dropIndex ∈ tb0 ∧ Cond.static yL_dropIndex ∈ tb0 := ⟨tb4_of 202 rfl rfl, tb4_of 203 rfl rfl⟩
theorem cvL_186 : x_CV RL MX12_dropIndex 186 1 := ⟨tb8_of 47 rfl rfl, tb8_of 48 rfl rfl, tb8_of 49 rfl rfl, by decide +kernel⟩
abbrev hL_filter : List (Nat × Nat × Nat × Nat) := [(0, 10, 13, 19), (0, 10, 17, 13)]
theorem cwL_filter : Cond.codeWith yL_filter cL_filter 5 (some .int) hL_filter ∈ tb0 := tb4_of 228 rfl rfl
theorem msL_filter : Cond.methodLink RL 187 yL_filter ∈ tb0 ∧ Cond.static yL_filter ∈ tb0 := ⟨tb4_of 226 rfl rfl, tb4_of 227 rfl rfl⟩
theorem cvL_189 : x_CV RL MX12_filter 189 2 := ⟨tb8_of 59 rfl rfl, tb8_of 60 rfl rfl, tb8_of 61 rfl rfl, by decide +kernel⟩
theorem cvL_190 : x_CV RL MX11_clear 190 0 := ⟨tb2_of 101 rfl rfl, tb2_of 102 rfl rfl, tb2_of 103 rfl rfl, by decide +kernel⟩
theorem cvL_193 : x_CV RL MX12_clear 193 0 := ⟨tb8_of 67 rfl rfl, tb8_of 68 rfl rfl, tb8_of 69 rfl rfl, by decide +kernel⟩
abbrev hL_find : List (Nat × Nat × Nat × Nat) := [(0, 9, 12, 19)]
theorem cwL_find : Cond.codeWith yL_find cL_find 4 (some .int) hL_find ∈ tb0 := tb5_of 16 rfl rfl
theorem msL_find : Cond.methodLink RL 194 yL_find ∈ tb0 ∧ Cond.static yL_find ∈ tb0 := ⟨tb5_of 14 rfl rfl, tb5_of 15 rfl rfl⟩
theorem cvL_196 : x_CV RL MX12_find 196 1 := ⟨tb8_of 71 rfl rfl, tb8_of 72 rfl rfl, tb8_of 73 rfl rfl, by decide +kernel⟩
abbrev hL_found : List (Nat × Nat × Nat × Nat) := [(0, 9, 12, 44)]
theorem cwL_found : Cond.codeWith yL_found cL_found 4 (some .int) hL_found ∈ tb0 := tb5_of 93 rfl rfl
theorem msL_found : Cond.methodLink RL 197 yL_found ∈ tb0 ∧ Cond.static yL_found ∈ tb0 := ⟨tb5_of 91 rfl rfl, tb5_of 92 rfl rfl⟩
theorem cvL_199 : x_CV RL MX12_found 199 1 := ⟨tb8_of 117 rfl rfl, tb8_of 118 rfl rfl, tb8_of 119 rfl rfl, by decide +kernel⟩
theorem cvL_200 : x_CV RL MX11_findAnew 200 0 := ⟨tb2_of 109 rfl rfl, tb2_of 110 rfl rfl, tb2_of 111 rfl rfl, by decide +kernel⟩
theorem cvL_203 : x_CV RL MX12_findAnew 203 0 := ⟨tb8_of 121 rfl rfl, tb8_of 122 rfl rfl, tb8_of 123 rfl rfl, by decide +kernel⟩
abbrev hL_plan : List (Nat × Nat × Nat × Nat) := [(0, 9, 12, 19)]
theorem cwL_plan : Cond.codeWith yL_plan cL_plan 4 (some .int) hL_plan ∈ tb0 := tb5_of 109 rfl rfl
theorem msL_plan : Cond.methodLink RL 204 yL_plan ∈ tb0 ∧ Cond.static yL_plan ∈ tb0 := ⟨tb5_of 107 rfl rfl, tb5_of 108 rfl rfl⟩
theorem cvL_206 : x_CV RL MX12_plan 206 1 := ⟨tb8_of 125 rfl rfl, tb8_of 126 rfl rfl, tb8_of 127 rfl rfl, by decide +kernel⟩
abbrev hL_group : List (Nat × Nat × Nat × Nat) := [(0, 10, 13, 19)]
theorem cwL_group : Cond.codeWith yL_group cL_group 5 (some .int) hL_group ∈ tb0 := tb5_of 125 rfl rfl
theorem msL_group : Cond.methodLink RL 207 yL_group ∈ tb0 ∧ Cond.static yL_group ∈ tb0 := ⟨tb5_of 123 rfl rfl, tb5_of 124 rfl rfl⟩
theorem cvL_209 : x_CV RL MX12_group 209 2 := ⟨tb8_of 129 rfl rfl, tb8_of 130 rfl rfl, tb8_of 131 rfl rfl, by decide +kernel⟩
abbrev hL_grouped : List (Nat × Nat × Nat × Nat) := [(0, 9, 12, 44), (0, 9, 16, 19)]
theorem cwL_grouped : Cond.codeWith yL_grouped cL_grouped 5 (some .int) hL_grouped ∈ tb0 := tb5_of 180 rfl rfl
theorem msL_grouped : Cond.methodLink RL 210 yL_grouped ∈ tb0 ∧ Cond.static yL_grouped ∈ tb0 := ⟨tb5_of 178 rfl rfl, tb5_of 179 rfl rfl⟩
theorem cvL_212 : x_CV RL MX12_grouped 212 2 := ⟨tb8_of 143 rfl rfl, tb8_of 144 rfl rfl, tb8_of 145 rfl rfl, by decide +kernel⟩
abbrev hL_split : List (Nat × Nat × Nat × Nat) := [(0, 10, 13, 44), (0, 10, 17, 19), (0, 10, 21, 13)]
theorem cwL_split : Cond.codeWith yL_split cL_split 5 (some .int) hL_split ∈ tb0 := tb5_of 196 rfl rfl
theorem msL_split : Cond.methodLink RL 213 yL_split ∈ tb0 ∧ Cond.static yL_split ∈ tb0 := ⟨tb5_of 194 rfl rfl, tb5_of 195 rfl rfl⟩
theorem cvL_215 : x_CV RL MX12_split 215 2 := ⟨tb8_of 147 rfl rfl, tb8_of 148 rfl rfl, tb8_of 149 rfl rfl, by decide +kernel⟩
abbrev hL_move : List (Nat × Nat × Nat × Nat) := [(0, 10, 13, 44), (0, 10, 17, 19), (0, 10, 21, 13)]
theorem cwL_move : Cond.codeWith yL_move cL_move 5 (some .int) hL_move ∈ tb0 := tb5_of 224 rfl rfl
theorem msL_move : Cond.methodLink RL 216 yL_move ∈ tb0 ∧ Cond.static yL_move ∈ tb0 := ⟨tb5_of 222 rfl rfl, tb5_of 223 rfl rfl⟩
theorem cvL_218 : x_CV RL MX12_move 218 2 := ⟨tb8_of 155 rfl rfl, tb8_of 156 rfl rfl, tb8_of 157 rfl rfl, by decide +kernel⟩
abbrev hL_copy : List (Nat × Nat × Nat × Nat) := [(0, 9, 12, 19), (0, 9, 15, 13)]
theorem cwL_copy : Cond.codeWith yL_copy cL_copy 4 (some .int) hL_copy ∈ tb0 := tb6_of 12 rfl rfl
theorem msL_copy : Cond.methodLink RL 219 yL_copy ∈ tb0 ∧ Cond.static yL_copy ∈ tb0 := ⟨tb6_of 10 rfl rfl, tb6_of 11 rfl rfl⟩
theorem cvL_221 : x_CV RL MX12_copy 221 1 := ⟨tb8_of 167 rfl rfl, tb8_of 168 rfl rfl, tb8_of 169 rfl rfl, by decide +kernel⟩
abbrev hL_handOver : List (Nat × Nat × Nat × Nat) := [(0, 8, 11, 13)]
theorem cwL_handOver : Cond.codeWith yL_handOver cL_handOver 3 (some .int) hL_handOver ∈ tb0 := tb6_of 25 rfl rfl
theorem msL_handOver : Cond.methodLink RL 222 yL_handOver ∈ tb0 ∧ Cond.static yL_handOver ∈ tb0 := ⟨tb6_of 23 rfl rfl, tb6_of 24 rfl rfl⟩
theorem cvL_224 : x_CV RL MX12_handOver 224 0 := ⟨tb8_of 175 rfl rfl, tb8_of 176 rfl rfl, tb8_of 177 rfl rfl, by decide +kernel⟩
abbrev hL_giveUp : List (Nat × Nat × Nat × Nat) := [(0, 8, 11, 13)]
theorem cwL_giveUp : Cond.codeWith yL_giveUp cL_giveUp 3 (some .int) hL_giveUp ∈ tb0 := tb6_of 45 rfl rfl
theorem msL_giveUp : Cond.methodLink RL 225 yL_giveUp ∈ tb0 ∧ Cond.static yL_giveUp ∈ tb0 := ⟨tb6_of 43 rfl rfl, tb6_of 44 rfl rfl⟩
theorem cvL_227 : x_CV RL MX12_giveUp 227 0 := ⟨tb8_of 179 rfl rfl, tb8_of 180 rfl rfl, tb8_of 181 rfl rfl, by decide +kernel⟩
abbrev hL_clean : List (Nat × Nat × Nat × Nat) := [(0, 9, 12, 19)]
theorem cwL_clean : Cond.codeWith yL_clean cL_clean 4 (some .int) hL_clean ∈ tb0 := tb6_of 53 rfl rfl
theorem msL_clean : Cond.methodLink RL 228 yL_clean ∈ tb0 ∧ Cond.static yL_clean ∈ tb0 := ⟨tb6_of 51 rfl rfl, tb6_of 52 rfl rfl⟩
theorem cvL_230 : x_CV RL MX12_clean 230 1 := ⟨tb8_of 183 rfl rfl, tb8_of 184 rfl rfl, tb8_of 185 rfl rfl, by decide +kernel⟩
abbrev hL_key : List (Nat × Nat × Nat × Nat) := [(0, 10, 13, 19), (0, 10, 17, 13)]
theorem cwL_key : Cond.codeWith yL_key cL_key 5 (some .int) hL_key ∈ tb0 := tb6_of 68 rfl rfl
theorem msL_key : Cond.methodLink RL 231 yL_key ∈ tb0 ∧ Cond.static yL_key ∈ tb0 := ⟨tb6_of 66 rfl rfl, tb6_of 67 rfl rfl⟩
theorem cvL_233 : x_CV RL MX12_key 233 2 := ⟨tb8_of 187 rfl rfl, tb8_of 188 rfl rfl, tb8_of 189 rfl rfl, by decide +kernel⟩
abbrev hL_expire : List (Nat × Nat × Nat × Nat) := [(0, 9, 12, 19)]
theorem cwL_expire : Cond.codeWith yL_expire cL_expire 4 (some .int) hL_expire ∈ tb0 := tb6_of 81 rfl rfl
theorem msL_expire : Cond.methodLink RL 234 yL_expire ∈ tb0 ∧ Cond.static yL_expire ∈ tb0 := ⟨tb6_of 79 rfl rfl, tb6_of 80 rfl rfl⟩
theorem cvL_236 : x_CV RL MX12_expire 236 1 := ⟨tb8_of 191 rfl rfl, tb8_of 192 rfl rfl, tb8_of 193 rfl rfl, by decide +kernel⟩
abbrev hL_tick : List (Nat × Nat × Nat × Nat) := [(0, 9, 12, 19)]
theorem cwL_tick : Cond.codeWith yL_tick cL_tick 4 (some .int) hL_tick ∈ tb0 := tb6_of 88 rfl rfl
theorem msL_tick : Cond.methodLink RL 237 yL_tick ∈ tb0 ∧ Cond.static yL_tick ∈ tb0 := ⟨tb6_of 86 rfl rfl, tb6_of 87 rfl rfl⟩
theorem cvL_239 : x_CV RL MX12_tick 239 1 := ⟨tb8_of 195 rfl rfl, tb8_of 196 rfl rfl, tb8_of 197 rfl rfl, by decide +kernel⟩
theorem cvL_240 : x_CV RL MX11_documents 240 0 := ⟨tb2_of 204 rfl rfl, tb2_of 205 rfl rfl, tb2_of 206 rfl rfl, by decide +kernel⟩
theorem cvL_243 : x_CV RL MX12_documents 243 0 := ⟨tb8_of 199 rfl rfl, tb8_of 200 rfl rfl, tb8_of 201 rfl rfl, by decide +kernel⟩
abbrev hL_document : List (Nat × Nat × Nat × Nat) := [(0, 10, 13, 19)]
theorem cwL_document : Cond.codeWith yL_document cL_document 5 (some .int) hL_document ∈ tb0 := tb6_of 100 rfl rfl
theorem msL_document : Cond.methodLink RL 244 yL_document ∈ tb0 ∧ Cond.static yL_document ∈ tb0 := ⟨tb6_of 98 rfl rfl, tb6_of 99 rfl rfl⟩
theorem cvL_246 : x_CV RL MX12_document 246 2 := ⟨tb8_of 203 rfl rfl, tb8_of 204 rfl rfl, tb8_of 205 rfl rfl, by decide +kernel⟩
abbrev hL_print : List (Nat × Nat × Nat × Nat) := [(0, 8, 11, 44)]
theorem cwL_print : Cond.codeWith yL_print cL_print 4 (some .int) hL_print ∈ tb0 := tb6_of 108 rfl rfl
theorem msL_print : Cond.methodLink RL 247 yL_print ∈ tb0 ∧ Cond.static yL_print ∈ tb0 := ⟨tb6_of 106 rfl rfl, tb6_of 107 rfl rfl⟩
theorem cvL_249 : x_CV RL MX12_print 249 1 := ⟨tb8_of 207 rfl rfl, tb8_of 208 rfl rfl, tb8_of 209 rfl rfl, by decide +kernel⟩
abbrev hL_entries : List (Nat × Nat × Nat × Nat) := [(0, 9, 12, 44)]
theorem cwL_entries : Cond.codeWith yL_entries cL_entries 4 (some .int) hL_entries ∈ tb0 := tb6_of 116 rfl rfl
theorem msL_entries : Cond.methodLink RL 250 yL_entries ∈ tb0 ∧ Cond.static yL_entries ∈ tb0 := ⟨tb6_of 114 rfl rfl, tb6_of 115 rfl rfl⟩
theorem cvL_252 : x_CV RL MX12_entries 252 1 := ⟨tb8_of 211 rfl rfl, tb8_of 212 rfl rfl, tb8_of 213 rfl rfl, by decide +kernel⟩
abbrev hL_entriesAnew : List (Nat × Nat × Nat × Nat) := [(0, 9, 12, 44)]
theorem cwL_entriesAnew : Cond.codeWith yL_entriesAnew cL_entriesAnew 4 (some .int) hL_entriesAnew ∈ tb0 := tb6_of 137 rfl rfl
theorem msL_entriesAnew : Cond.methodLink RL 253 yL_entriesAnew ∈ tb0 ∧ Cond.static yL_entriesAnew ∈ tb0 := ⟨tb6_of 135 rfl rfl, tb6_of 136 rfl rfl⟩
theorem cvL_255 : x_CV RL MX12_entriesAnew 255 1 := ⟨tb8_of 219 rfl rfl, tb8_of 220 rfl rfl, tb8_of 221 rfl rfl, by decide +kernel⟩
abbrev hL_chunk : List (Nat × Nat × Nat × Nat) := [(0, 10, 13, 44), (0, 10, 17, 19)]
theorem cwL_chunk : Cond.codeWith yL_chunk cL_chunk 5 (some .int) hL_chunk ∈ tb0 := tb6_of 144 rfl rfl
theorem msL_chunk : Cond.methodLink RL 256 yL_chunk ∈ tb0 ∧ Cond.static yL_chunk ∈ tb0 := ⟨tb6_of 142 rfl rfl, tb6_of 143 rfl rfl⟩
theorem cvL_258 : x_CV RL MX12_chunk 258 2 := ⟨tb8_of 224 rfl rfl, tb8_of 225 rfl rfl, tb8_of 226 rfl rfl, by decide +kernel⟩
abbrev hL_shard : List (Nat × Nat × Nat × Nat) := [(0, 10, 13, 19)]
theorem cwL_shard : Cond.codeWith yL_shard cL_shard 5 (some .int) hL_shard ∈ tb0 := tb6_of 152 rfl rfl
theorem msL_shard : Cond.methodLink RL 259 yL_shard ∈ tb0 ∧ Cond.static yL_shard ∈ tb0 := ⟨tb6_of 150 rfl rfl, tb6_of 151 rfl rfl⟩
theorem cvL_261 : x_CV RL MX12_shard 261 2 := ⟨tb8_of 228 rfl rfl, tb8_of 229 rfl rfl, tb8_of 230 rfl rfl, by decide +kernel⟩
abbrev hL_router : List (Nat × Nat × Nat × Nat) := [(0, 10, 13, 19)]
theorem cwL_router : Cond.codeWith yL_router cL_router 5 (some .int) hL_router ∈ tb0 := tb6_of 169 rfl rfl
theorem msL_router : Cond.methodLink RL 262 yL_router ∈ tb0 ∧ Cond.static yL_router ∈ tb0 := ⟨tb6_of 167 rfl rfl, tb6_of 168 rfl rfl⟩
theorem cvL_264 : x_CV RL MX12_router 264 2 := ⟨tb8_of 232 rfl rfl, tb8_of 233 rfl rfl, tb8_of 234 rfl rfl, by decide +kernel⟩
theorem cvL_265 : x_CV RL MX11_next 265 1 := ⟨tb2_of 212 rfl rfl, tb2_of 213 rfl rfl, tb2_of 214 rfl rfl, by decide +kernel⟩
theorem cvL_268 : x_CV RL MX12_next 268 1 := ⟨tb8_of 236 rfl rfl, tb8_of 237 rfl rfl, tb8_of 238 rfl rfl, by decide +kernel⟩
abbrev hL_change : List (Nat × Nat × Nat × Nat) := [(0, 10, 13, 44), (0, 10, 17, 19)]
theorem cwL_change : Cond.codeWith yL_change cL_change 5 (some .int) hL_change ∈ tb0 := tb6_of 185 rfl rfl
theorem msL_change : Cond.methodLink RL 269 yL_change ∈ tb0 ∧ Cond.static yL_change ∈ tb0 := ⟨tb6_of 183 rfl rfl, tb6_of 184 rfl rfl⟩
theorem cvL_271 : x_CV RL MX12_change 271 2 := ⟨tb9_of 1 rfl rfl, tb9_of 2 rfl rfl, tb9_of 3 rfl rfl, by decide +kernel⟩
theorem cvL_272 : x_CV RL MX11_now 272 0 := ⟨tb2_of 223 rfl rfl, tb2_of 224 rfl rfl, tb2_of 225 rfl rfl, by decide +kernel⟩
theorem cvL_275 : x_CV RL MX12_now 275 0 := ⟨tb9_of 5 rfl rfl, tb9_of 6 rfl rfl, tb9_of 7 rfl rfl, by decide +kernel⟩
theorem izL : Cond.initialized RL ∈ tb0 := tb1_of 0 rfl rfl
