def lw_w0 : Cond := Cond.initialized "ScrubbedRecorderLaw"
/-- what stays through the law's walk -/
def lw_K (p : Program) (s : State) (m : MethodId) (c : Code) (b L : Nat) (xs : Nat → Int32) (D : va_G) (cA : Nat → ClassId) (te mi : Nat) : Prop := p.tables.exec = Jvm.exec ∧ c.code = code ∧ c.maxLocals = 4 ∧ s.vm.findClass "ScrubbedRecorderLaw" = some m.cls ∧ (∀ w ∈ lw_w0 :: zw, w.before #[Value.ref b] s = true) ∧ va_X b L xs s s.heap ∧ b < s.heap.size ∧ zh_S D cA mi s ∧ zh_E te (fun q => s.heap.size ≤ q) s s.heap ∧ L ≤ 2560
theorem zWd.keep {s : State} {D : va_G} {cA : Nat → ClassId} {te X Y n : Nat} {H : Heap} {locs : List Loc} (h : zWd s D cA te X Y n H locs) : zWd s D cA te X Y (n + 1) H locs := by
  obtain ⟨kd, ln, I, L, R, kd', ln', I', L', R', a9, e9, ad, c9, d9, g9, m9, q9, h1, h2, h3, h4, h5, h6, h7⟩ := h
  exact ⟨kd, ln, I, L, R, kd', ln', I', L', R', a9, e9, ad, c9, d9, g9, m9, q9, h1, h2, h3, h4, h5, h6, zS_keep h7⟩
theorem zy_31 (x : Int32) : ∃ r, r < 32 ∧ x &&& nI 31 = nI r := by
  refine ⟨x.toBitVec.toNat % 32, Nat.mod_lt _ (by decide), Int32.toBitVec_inj.mp (BitVec.eq_of_toNat_eq ?_)⟩
  show (x.toBitVec &&& (nI 31).toBitVec).toNat = (nI (x.toBitVec.toNat % 32)).toBitVec.toNat
  rw [BitVec.toNat_and, show (nI 31).toBitVec.toNat = 2 ^ 5 - 1 by decide, Nat.and_two_pow_sub_one_eq_mod]
  show _ = (BitVec.ofNat 32 (x.toBitVec.toNat % 32)).toNat
  rw [BitVec.toNat_ofNat]
  have : x.toBitVec.toNat % 32 < 32 := Nat.mod_lt _ (by decide)
  omega
section LWC
variable {p : Program} {l : Launch} {e : Env} {R0 : Room} {s : State} {m : MethodId} {args : Array Value} {below : List Frame} {meth : Method} {c : Code} {H : Heap} {locs : List Loc} {cells slots : Nat} {Q : State → Prop}
variable {cc : ByteArray} {pc : Nat} {ls : Array Slot} {rest : List Value} {D : va_G} {cA : Nat → ClassId} {b L X Y i k te mi : Nat} {xs : Nat → Int32}
/-- an int of the script -/
theorem zl_arg {j : Nat} {z : Int} (hx : p.tables.exec = Jvm.exec) (hb : c.code = cc) (hX : va_X b L xs s s.heap) (hbl : b < s.heap.size) (hS : va_S (fun q => s.heap.size ≤ q) s.heap H locs) (hl : lv_has ls 4 [(3, .int (nI i)), (2, .ref Y), (1, .ref X), (0, .ref b)]) (hi : i + j < L) (hL : L ≤ 2560) (d0 : decode cc pc = .ok (.aload_n 0, 1)) (d1 : decode cc (pc + 1) = .ok (.iload_n 3, 1)) (d2 : decode cc (pc + 2) = .ok (.iconst z, 1)) (hz : Int32.ofInt z = nI j) (d3 : decode cc (pc + 3) = .ok (.iadd, 1)) (d4 : decode cc (pc + 4) = .ok (.iaload, 1)) (kk : W p l e R0 s m args below meth c H locs cells slots Q (F0 m (pc + 5) ls (.int (xs (i + j)) :: rest))) : W p l e R0 s m args below meth c H locs cells slots Q (F0 m pc ls rest) := by
  refine lv_aload_n hx hb d0 rfl (lv_at hl 3 rfl) ?_
  refine lv_iload_n hx hb d1 rfl (lv_at hl 0 rfl) ?_
  refine lv_iconst (v := nI j) hx hb d2 hz ?_
  refine lv_iadd hx hb d3 ?_
  rw [nI_add]
  refine va_sld hx hb hX hbl (fun z => by omega) hS (vp_in_nI hi (by omega)) d4 ?_
  rw [nI_clamp (by omega)]
  exact kk
theorem zl_bool {v : Int32} (hx : p.tables.exec = Jvm.exec) (hb : c.code = cc) (d0 : decode cc pc = .ok (.ifCond .eq 7, 3)) (d1 : decode cc (pc + 3) = .ok (.iconst 1, 1)) (d2 : decode cc (pc + 4) = .ok (.goto 4, 3)) (d3 : decode cc (pc + 7) = .ok (.iconst 0, 1)) (kk : W p l e R0 s m args below meth c H locs cells slots Q (F0 m (pc + 8) ls (.int (if v = nI 0 then nI 0 else nI 1) :: rest))) : W p l e R0 s m args below meth c H locs cells slots Q (F0 m pc ls (.int v :: rest)) := by
  refine lv_if_eq (tgt := pc + 7) hx hb d0 (by omega) (fun hc => ?_) (fun hc => ?_)
  · refine lv_iconst (v := nI 0) hx hb d3 (by decide) ?_
    rw [if_pos (show v = nI 0 from hc)] at kk
    exact kk
  · refine lv_iconst (v := nI 1) hx hb d1 (by decide) ?_
    refine lv_goto (tgt := pc + 8) hx hb d2 (by omega) ?_
    rw [if_neg (show ¬ v = nI 0 from hc)] at kk
    exact kk
theorem zt_b01 {v : Int32} : (if v = nI 0 then nI 0 else nI 1) = nI 0 ∨ (if v = nI 0 then nI 0 else nI 1) = nI 1 := by
  by_cases h : v = nI 0
  · rw [if_pos h]
    exact Or.inl rfl
  · rw [if_neg h]
    exact Or.inr rfl
set_option maxHeartbeats 4000000 in
set_option maxRecDepth 100000 in
theorem lwc_makeStore (K : lw_K p s m c b L xs D cA te mi) (hi : i + 5 ≤ L) (hk : k < 600) (hl : lv_has ls 4 [(3, .int (nI i)), (2, .ref Y), (1, .ref X), (0, .ref b)]) (hz : zWd s D cA te X Y k H locs) (hc : cells + 3 ≤ 600000) (hs : slots + 1574 ≤ 7302250) (kk : ∀ (H1 : Heap) (locs1 : List Loc), zWd s D cA te X Y (k + 1) H1 locs1 → W p l e room_1 s m #[Value.ref b] below meth c H1 locs1 (cells + 3) (slots + 1574) Q (F0 m 792 ls [])) : W p l e room_1 s m #[Value.ref b] below meth c H locs cells slots Q (F0 m 128 ls []) := by
  obtain ⟨hx, hb, hml, hown, hts, hX, hbl, hSc, hE, hL⟩ := K
  have hw : ∀ {w : Cond}, w ∈ zw → w.before #[Value.ref b] s = true := fun h => hts _ (List.mem_cons_of_mem _ h)
  refine lv_aload_n hx hb d_Law_law_128 rfl (lv_at hl 2 rfl) ?_
  refine zl_arg (j := 1) hx hb hX hbl hz.S hl (by omega) hL d_Law_law_129 d_Law_law_130 d_Law_law_131 (by decide) d_Law_law_132 d_Law_law_133 ?_
  refine zl_arg (j := 2) hx hb hX hbl hz.S hl (by omega) hL d_Law_law_134 d_Law_law_135 d_Law_law_136 (by decide) d_Law_law_137 d_Law_law_138 ?_
  refine zl_bool hx hb d_Law_law_139 d_Law_law_142 d_Law_law_143 d_Law_law_146 ?_
  refine zl_arg (j := 3) hx hb hX hbl hz.S hl (by omega) hL d_Law_law_147 d_Law_law_148 d_Law_law_149 (by decide) d_Law_law_150 d_Law_law_151 ?_
  refine zr_1 (As := ([.int (xs (i + 1)), .int (if xs (i + 2) = nI 0 then nI 0 else nI 1), .int (xs (i + 3))] : List Value)) (rest := []) (X := X) (Y := Y) (y := y_Rec_makeStore) (ws := w_Rec_makeStore) (rm := { frames := 5, cells := 3, slots := 53, locals := 107 }) (mc := 3) (ms := 53) (y2 := y_Mod_makeStore) (w2 := w_Mod_makeStore) (rm2 := { frames := 1, cells := 0, slots := 0, locals := 22 }) (fun V => ∃ v8 : Int32, V = some (.int v8)) ⟨hx, hb, hml, hown, hts⟩ hz (fun kd ln I L R kd' ln' I' L' R' a9 e9 ad c9 d9 g9 m9 q9 h1 h2 h3 => ?_) ⟨(callB_of 3 hts (zg_all zw_87) rfl rfl rfl (hw zw_1) (hw zw_84) k_Rec_makeStore.2 ⟨Nat.le_of_ble_eq_true rfl, Nat.le_of_ble_eq_true rfl⟩), hw zw_85, hw zw_86⟩ hSc hE rfl hl.1 rfl (Nat.le_of_ble_eq_true rfl) d_Law_law_152 ⟨show cells + 3 ≤ 600000 by omega, show slots + 53 ≤ 7302250 by omega⟩ (fun V H1 locs1 hP hm => ?_)
  · obtain ⟨v8, h⟩ := zl_makeStore (l := l) (D := D) (cA := cA) (mi := mi) h1 hk h2 h3 (xs (i + 1)) (if xs (i + 2) = nI 0 then nI 0 else nI 1) (xs (i + 3)) zt_b01
    exact ⟨_, ⟨v8, rfl⟩, h⟩
  obtain ⟨v8, rfl⟩ := hP
  refine W.eq (g2 := F0 m 155 ls [.int v8]) rfl ?_
  refine lv_aload_n hx hb d_Law_law_155 rfl (lv_at hl 1 rfl) ?_
  refine zl_arg (j := 1) hx hb hX hbl hm.S hl (by omega) hL d_Law_law_156 d_Law_law_157 d_Law_law_158 (by decide) d_Law_law_159 d_Law_law_160 ?_
  refine zl_arg (j := 2) hx hb hX hbl hm.S hl (by omega) hL d_Law_law_161 d_Law_law_162 d_Law_law_163 (by decide) d_Law_law_164 d_Law_law_165 ?_
  refine zl_bool hx hb d_Law_law_166 d_Law_law_169 d_Law_law_170 d_Law_law_173 ?_
  refine zl_arg (j := 3) hx hb hX hbl hm.S hl (by omega) hL d_Law_law_174 d_Law_law_175 d_Law_law_176 (by decide) d_Law_law_177 d_Law_law_178 ?_
  refine zr_2 (As := ([.int (xs (i + 1)), .int (if xs (i + 2) = nI 0 then nI 0 else nI 1), .int (xs (i + 3))] : List Value)) (rest := [.int v8]) ⟨hx, hb, hml, hown, hts⟩ hm ⟨(callB_of 3 hts (zg_all zw_741) rfl rfl rfl (hw zw_3) (hw zw_738) k_Mod_makeStore.2 ⟨Nat.le_of_ble_eq_true rfl, Nat.le_of_ble_eq_true rfl⟩), hw zw_739, hw zw_740⟩ hSc hE rfl hl.1 rfl (Nat.le_of_ble_eq_true rfl) d_Law_law_179 ⟨show cells + 3 + 0 ≤ 600000 by omega, show slots + 53 + 0 ≤ 7302250 by omega⟩ (fun H2 locs2 hw2 => ?_)
  refine W.eq (g2 := F0 m 182 ls [.int v8, .int v8]) rfl ?_
  refine lv_icmp_eq (tgt := 792) hx hb d_Law_law_182 (by decide) (fun _ => ?_) (fun z => absurd rfl z)
  refine W.widen (k := cells + 3) (n := slots + 1574) (by omega) (by omega) ?_
  exact kk H2 locs2 hw2
set_option maxHeartbeats 4000000 in
set_option maxRecDepth 100000 in
theorem lwc_dropStore (K : lw_K p s m c b L xs D cA te mi) (hi : i + 5 ≤ L) (hk : k < 600) (hl : lv_has ls 4 [(3, .int (nI i)), (2, .ref Y), (1, .ref X), (0, .ref b)]) (hz : zWd s D cA te X Y k H locs) (hc : cells + 3 ≤ 600000) (hs : slots + 1574 ≤ 7302250) (kk : ∀ (H1 : Heap) (locs1 : List Loc), zWd s D cA te X Y (k + 1) H1 locs1 → W p l e room_1 s m #[Value.ref b] below meth c H1 locs1 (cells + 3) (slots + 1574) Q (F0 m 792 ls [])) : W p l e room_1 s m #[Value.ref b] below meth c H locs cells slots Q (F0 m 187 ls []) := by
  obtain ⟨hx, hb, hml, hown, hts, hX, hbl, hSc, hE, hL⟩ := K
  have hw : ∀ {w : Cond}, w ∈ zw → w.before #[Value.ref b] s = true := fun h => hts _ (List.mem_cons_of_mem _ h)
  refine lv_aload_n hx hb d_Law_law_187 rfl (lv_at hl 2 rfl) ?_
  refine zl_arg (j := 1) hx hb hX hbl hz.S hl (by omega) hL d_Law_law_188 d_Law_law_189 d_Law_law_190 (by decide) d_Law_law_191 d_Law_law_192 ?_
  refine zr_1 (As := ([.int (xs (i + 1))] : List Value)) (rest := []) (X := X) (Y := Y) (y := y_Rec_dropStore) (ws := w_Rec_dropStore) (rm := { frames := 5, cells := 0, slots := 0, locals := 129 }) (mc := 0) (ms := 0) (y2 := y_Mod_dropStore) (w2 := w_Mod_dropStore) (rm2 := { frames := 3, cells := 0, slots := 0, locals := 67 }) (fun V => ∃ v8 : Int32, V = some (.int v8)) ⟨hx, hb, hml, hown, hts⟩ hz (fun kd ln I L R kd' ln' I' L' R' a9 e9 ad c9 d9 g9 m9 q9 h1 h2 h3 => ?_) ⟨(callB_of 1 hts (zg_all zw_191) rfl rfl rfl (hw zw_1) (hw zw_188) k_Rec_dropStore.2 ⟨Nat.le_of_ble_eq_true rfl, Nat.le_of_ble_eq_true rfl⟩), hw zw_189, hw zw_190⟩ hSc hE rfl hl.1 rfl (Nat.le_of_ble_eq_true rfl) d_Law_law_193 ⟨show cells + 0 ≤ 600000 by omega, show slots + 0 ≤ 7302250 by omega⟩ (fun V H1 locs1 hP hm => ?_)
  · obtain ⟨v8, h⟩ := zl_dropStore (l := l) (D := D) (cA := cA) (mi := mi) h1 hk h2 h3 (xs (i + 1))
    exact ⟨_, ⟨v8, rfl⟩, h⟩
  obtain ⟨v8, rfl⟩ := hP
  refine W.eq (g2 := F0 m 196 ls [.int v8]) rfl ?_
  refine lv_aload_n hx hb d_Law_law_196 rfl (lv_at hl 1 rfl) ?_
  refine zl_arg (j := 1) hx hb hX hbl hm.S hl (by omega) hL d_Law_law_197 d_Law_law_198 d_Law_law_199 (by decide) d_Law_law_200 d_Law_law_201 ?_
  refine zr_2 (As := ([.int (xs (i + 1))] : List Value)) (rest := [.int v8]) ⟨hx, hb, hml, hown, hts⟩ hm ⟨(callB_of 1 hts (zg_all zw_753) rfl rfl rfl (hw zw_3) (hw zw_750) k_Mod_dropStore.2 ⟨Nat.le_of_ble_eq_true rfl, Nat.le_of_ble_eq_true rfl⟩), hw zw_751, hw zw_752⟩ hSc hE rfl hl.1 rfl (Nat.le_of_ble_eq_true rfl) d_Law_law_202 ⟨show cells + 0 + 0 ≤ 600000 by omega, show slots + 0 + 0 ≤ 7302250 by omega⟩ (fun H2 locs2 hw2 => ?_)
  refine W.eq (g2 := F0 m 205 ls [.int v8, .int v8]) rfl ?_
  refine lv_icmp_eq (tgt := 792) hx hb d_Law_law_205 (by decide) (fun _ => ?_) (fun z => absurd rfl z)
  refine W.widen (k := cells + 3) (n := slots + 1574) (by omega) (by omega) ?_
  exact kk H2 locs2 hw2
set_option maxHeartbeats 4000000 in
set_option maxRecDepth 100000 in
theorem lwc_put (K : lw_K p s m c b L xs D cA te mi) (hi : i + 5 ≤ L) (hk : k < 600) (hl : lv_has ls 4 [(3, .int (nI i)), (2, .ref Y), (1, .ref X), (0, .ref b)]) (hz : zWd s D cA te X Y k H locs) (hc : cells + 3 ≤ 600000) (hs : slots + 1574 ≤ 7302250) (kk : ∀ (H1 : Heap) (locs1 : List Loc), zWd s D cA te X Y (k + 1) H1 locs1 → W p l e room_1 s m #[Value.ref b] below meth c H1 locs1 (cells + 3) (slots + 1574) Q (F0 m 792 ls [])) : W p l e room_1 s m #[Value.ref b] below meth c H locs cells slots Q (F0 m 210 ls []) := by
  obtain ⟨hx, hb, hml, hown, hts, hX, hbl, hSc, hE, hL⟩ := K
  have hw : ∀ {w : Cond}, w ∈ zw → w.before #[Value.ref b] s = true := fun h => hts _ (List.mem_cons_of_mem _ h)
  refine lv_aload_n hx hb d_Law_law_210 rfl (lv_at hl 2 rfl) ?_
  refine zl_arg (j := 1) hx hb hX hbl hz.S hl (by omega) hL d_Law_law_211 d_Law_law_212 d_Law_law_213 (by decide) d_Law_law_214 d_Law_law_215 ?_
  refine zl_arg (j := 2) hx hb hX hbl hz.S hl (by omega) hL d_Law_law_216 d_Law_law_217 d_Law_law_218 (by decide) d_Law_law_219 d_Law_law_220 ?_
  refine lv_i2l (v := (xs (i + 2)).toInt64) hx hb d_Law_law_221 rfl ?_
  refine lv_bipush (v := nI 32) hx hb d_Law_law_222 (by decide) ?_
  refine lv_lshl (v := (xs (i + 2)).toInt64 <<< ((nI 32).toInt64 &&& 63)) hx hb d_Law_law_224 rfl ?_
  refine zl_arg (j := 3) hx hb hX hbl hz.S hl (by omega) hL d_Law_law_225 d_Law_law_226 d_Law_law_227 (by decide) d_Law_law_228 d_Law_law_229 ?_
  refine lv_i2l (v := (xs (i + 3)).toInt64) hx hb d_Law_law_230 rfl ?_
  refine lv_ldc2 (v := 4294967295) hx hb hown (hw zw_858) d_Law_law_231 ?_
  refine lv_land hx hb d_Law_law_234 ?_
  refine lv_lor hx hb d_Law_law_235 ?_
  refine zr_1 (As := ([.int (xs (i + 1)), .long (((xs (i + 2)).toInt64 <<< ((nI 32).toInt64 &&& 63)) ||| ((xs (i + 3)).toInt64 &&& 4294967295))] : List Value)) (rest := []) (X := X) (Y := Y) (y := y_Rec_put) (ws := w_Rec_put) (rm := { frames := 1, cells := 0, slots := 0, locals := 21 }) (mc := 0) (ms := 0) (y2 := y_Mod_put) (w2 := w_Mod_put) (rm2 := { frames := 0, cells := 0, slots := 0, locals := 0 }) (fun V => ∃ v8 : Int32, V = some (.int v8)) ⟨hx, hb, hml, hown, hts⟩ hz (fun kd ln I L R kd' ln' I' L' R' a9 e9 ad c9 d9 g9 m9 q9 h1 h2 h3 => ?_) ⟨(callB_of 2 hts (zg_all zw_231) rfl rfl rfl (hw zw_1) (hw zw_228) k_Rec_put.2 ⟨Nat.le_of_ble_eq_true rfl, Nat.le_of_ble_eq_true rfl⟩), hw zw_229, hw zw_230⟩ hSc hE rfl hl.1 rfl (Nat.le_of_ble_eq_true rfl) d_Law_law_236 ⟨show cells + 0 ≤ 600000 by omega, show slots + 0 ≤ 7302250 by omega⟩ (fun V H1 locs1 hP hm => ?_)
  · obtain ⟨v8, h⟩ := zl_put (l := l) (D := D) (cA := cA) (mi := mi) h1 hk h2 h3 (xs (i + 1)) (((xs (i + 2)).toInt64 <<< ((nI 32).toInt64 &&& 63)) ||| ((xs (i + 3)).toInt64 &&& 4294967295))
    exact ⟨_, ⟨v8, rfl⟩, h⟩
  obtain ⟨v8, rfl⟩ := hP
  refine W.eq (g2 := F0 m 239 ls [.int v8]) rfl ?_
  refine lv_aload_n hx hb d_Law_law_239 rfl (lv_at hl 1 rfl) ?_
  refine zl_arg (j := 1) hx hb hX hbl hm.S hl (by omega) hL d_Law_law_240 d_Law_law_241 d_Law_law_242 (by decide) d_Law_law_243 d_Law_law_244 ?_
  refine zl_arg (j := 2) hx hb hX hbl hm.S hl (by omega) hL d_Law_law_245 d_Law_law_246 d_Law_law_247 (by decide) d_Law_law_248 d_Law_law_249 ?_
  refine lv_i2l (v := (xs (i + 2)).toInt64) hx hb d_Law_law_250 rfl ?_
  refine lv_bipush (v := nI 32) hx hb d_Law_law_251 (by decide) ?_
  refine lv_lshl (v := (xs (i + 2)).toInt64 <<< ((nI 32).toInt64 &&& 63)) hx hb d_Law_law_253 rfl ?_
  refine zl_arg (j := 3) hx hb hX hbl hm.S hl (by omega) hL d_Law_law_254 d_Law_law_255 d_Law_law_256 (by decide) d_Law_law_257 d_Law_law_258 ?_
  refine lv_i2l (v := (xs (i + 3)).toInt64) hx hb d_Law_law_259 rfl ?_
  refine lv_ldc2 (v := 4294967295) hx hb hown (hw zw_858) d_Law_law_260 ?_
  refine lv_land hx hb d_Law_law_263 ?_
  refine lv_lor hx hb d_Law_law_264 ?_
  refine zr_2 (As := ([.int (xs (i + 1)), .long (((xs (i + 2)).toInt64 <<< ((nI 32).toInt64 &&& 63)) ||| ((xs (i + 3)).toInt64 &&& 4294967295))] : List Value)) (rest := [.int v8]) ⟨hx, hb, hml, hown, hts⟩ hm ⟨(callB_of 2 hts (zg_all zw_772) rfl rfl rfl (hw zw_3) (hw zw_769) k_Mod_put.2 ⟨Nat.le_of_ble_eq_true rfl, Nat.le_of_ble_eq_true rfl⟩), hw zw_770, hw zw_771⟩ hSc hE rfl hl.1 rfl (Nat.le_of_ble_eq_true rfl) d_Law_law_265 ⟨show cells + 0 + 0 ≤ 600000 by omega, show slots + 0 + 0 ≤ 7302250 by omega⟩ (fun H2 locs2 hw2 => ?_)
  refine W.eq (g2 := F0 m 268 ls [.int v8, .int v8]) rfl ?_
  refine lv_icmp_eq (tgt := 792) hx hb d_Law_law_268 (by decide) (fun _ => ?_) (fun z => absurd rfl z)
  refine W.widen (k := cells + 3) (n := slots + 1574) (by omega) (by omega) ?_
  exact kk H2 locs2 hw2
set_option maxHeartbeats 4000000 in
set_option maxRecDepth 100000 in
theorem lwc_record (K : lw_K p s m c b L xs D cA te mi) (hi : i + 5 ≤ L) (hk : k < 600) (hl : lv_has ls 4 [(3, .int (nI i)), (2, .ref Y), (1, .ref X), (0, .ref b)]) (hz : zWd s D cA te X Y k H locs) (hc : cells + 3 ≤ 600000) (hs : slots + 1574 ≤ 7302250) (kk : ∀ (H1 : Heap) (locs1 : List Loc), zWd s D cA te X Y (k + 1) H1 locs1 → W p l e room_1 s m #[Value.ref b] below meth c H1 locs1 (cells + 3) (slots + 1574) Q (F0 m 792 ls [])) : W p l e room_1 s m #[Value.ref b] below meth c H locs cells slots Q (F0 m 273 ls []) := by
  obtain ⟨hx, hb, hml, hown, hts, hX, hbl, hSc, hE, hL⟩ := K
  have hw : ∀ {w : Cond}, w ∈ zw → w.before #[Value.ref b] s = true := fun h => hts _ (List.mem_cons_of_mem _ h)
  refine lv_aload_n hx hb d_Law_law_273 rfl (lv_at hl 2 rfl) ?_
  refine zl_arg (j := 1) hx hb hX hbl hz.S hl (by omega) hL d_Law_law_274 d_Law_law_275 d_Law_law_276 (by decide) d_Law_law_277 d_Law_law_278 ?_
  refine zl_arg (j := 2) hx hb hX hbl hz.S hl (by omega) hL d_Law_law_279 d_Law_law_280 d_Law_law_281 (by decide) d_Law_law_282 d_Law_law_283 ?_
  refine zl_arg (j := 3) hx hb hX hbl hz.S hl (by omega) hL d_Law_law_284 d_Law_law_285 d_Law_law_286 (by decide) d_Law_law_287 d_Law_law_288 ?_
  refine zl_arg (j := 4) hx hb hX hbl hz.S hl (by omega) hL d_Law_law_289 d_Law_law_290 d_Law_law_291 (by decide) d_Law_law_292 d_Law_law_293 ?_
  refine zr_1 (As := ([.int (xs (i + 1)), .int (xs (i + 2)), .int (xs (i + 3)), .int (xs (i + 4))] : List Value)) (rest := []) (X := X) (Y := Y) (y := y_Rec_record) (ws := w_Rec_record) (rm := { frames := 8, cells := 3, slots := 1574, locals := 199 }) (mc := 3) (ms := 1574) (y2 := y_Mod_record) (w2 := w_Mod_record) (rm2 := { frames := 4, cells := 0, slots := 0, locals := 90 }) (fun V => ∃ v8 : Int32, V = some (.int v8)) ⟨hx, hb, hml, hown, hts⟩ hz (fun kd ln I L R kd' ln' I' L' R' a9 e9 ad c9 d9 g9 m9 q9 h1 h2 h3 => ?_) ⟨(callB_of 4 hts (zg_all zw_238) rfl rfl rfl (hw zw_1) (hw zw_235) k_Rec_record.2 ⟨Nat.le_of_ble_eq_true rfl, Nat.le_of_ble_eq_true rfl⟩), hw zw_236, hw zw_237⟩ hSc hE rfl hl.1 rfl (Nat.le_of_ble_eq_true rfl) d_Law_law_294 ⟨show cells + 3 ≤ 600000 by omega, show slots + 1574 ≤ 7302250 by omega⟩ (fun V H1 locs1 hP hm => ?_)
  · obtain ⟨v8, h⟩ := zl_record (l := l) (D := D) (cA := cA) (mi := mi) h1 hk h2 h3 (xs (i + 1)) (xs (i + 2)) (xs (i + 3)) (xs (i + 4))
    exact ⟨_, ⟨v8, rfl⟩, h⟩
  obtain ⟨v8, rfl⟩ := hP
  refine W.eq (g2 := F0 m 297 ls [.int v8]) rfl ?_
  refine lv_aload_n hx hb d_Law_law_297 rfl (lv_at hl 1 rfl) ?_
  refine zl_arg (j := 1) hx hb hX hbl hm.S hl (by omega) hL d_Law_law_298 d_Law_law_299 d_Law_law_300 (by decide) d_Law_law_301 d_Law_law_302 ?_
  refine zl_arg (j := 2) hx hb hX hbl hm.S hl (by omega) hL d_Law_law_303 d_Law_law_304 d_Law_law_305 (by decide) d_Law_law_306 d_Law_law_307 ?_
  refine zl_arg (j := 3) hx hb hX hbl hm.S hl (by omega) hL d_Law_law_308 d_Law_law_309 d_Law_law_310 (by decide) d_Law_law_311 d_Law_law_312 ?_
  refine zl_arg (j := 4) hx hb hX hbl hm.S hl (by omega) hL d_Law_law_313 d_Law_law_314 d_Law_law_315 (by decide) d_Law_law_316 d_Law_law_317 ?_
  refine zr_2 (As := ([.int (xs (i + 1)), .int (xs (i + 2)), .int (xs (i + 3)), .int (xs (i + 4))] : List Value)) (rest := [.int v8]) ⟨hx, hb, hml, hown, hts⟩ hm ⟨(callB_of 4 hts (zg_all zw_777) rfl rfl rfl (hw zw_3) (hw zw_774) k_Mod_record.2 ⟨Nat.le_of_ble_eq_true rfl, Nat.le_of_ble_eq_true rfl⟩), hw zw_775, hw zw_776⟩ hSc hE rfl hl.1 rfl (Nat.le_of_ble_eq_true rfl) d_Law_law_318 ⟨show cells + 3 + 0 ≤ 600000 by omega, show slots + 1574 + 0 ≤ 7302250 by omega⟩ (fun H2 locs2 hw2 => ?_)
  refine W.eq (g2 := F0 m 321 ls [.int v8, .int v8]) rfl ?_
  refine lv_icmp_eq (tgt := 792) hx hb d_Law_law_321 (by decide) (fun _ => ?_) (fun z => absurd rfl z)
  refine W.widen (k := cells + 3) (n := slots + 1574) (by omega) (by omega) ?_
  exact kk H2 locs2 hw2
set_option maxHeartbeats 4000000 in
set_option maxRecDepth 100000 in
theorem lwc_play (K : lw_K p s m c b L xs D cA te mi) (hi : i + 5 ≤ L) (hk : k < 600) (hl : lv_has ls 4 [(3, .int (nI i)), (2, .ref Y), (1, .ref X), (0, .ref b)]) (hz : zWd s D cA te X Y k H locs) (hc : cells + 3 ≤ 600000) (hs : slots + 1574 ≤ 7302250) (kk : ∀ (H1 : Heap) (locs1 : List Loc), zWd s D cA te X Y (k + 1) H1 locs1 → W p l e room_1 s m #[Value.ref b] below meth c H1 locs1 (cells + 3) (slots + 1574) Q (F0 m 792 ls [])) : W p l e room_1 s m #[Value.ref b] below meth c H locs cells slots Q (F0 m 326 ls []) := by
  obtain ⟨hx, hb, hml, hown, hts, hX, hbl, hSc, hE, hL⟩ := K
  have hw : ∀ {w : Cond}, w ∈ zw → w.before #[Value.ref b] s = true := fun h => hts _ (List.mem_cons_of_mem _ h)
  refine lv_aload_n hx hb d_Law_law_326 rfl (lv_at hl 2 rfl) ?_
  refine zl_arg (j := 1) hx hb hX hbl hz.S hl (by omega) hL d_Law_law_327 d_Law_law_328 d_Law_law_329 (by decide) d_Law_law_330 d_Law_law_331 ?_
  refine zl_arg (j := 2) hx hb hX hbl hz.S hl (by omega) hL d_Law_law_332 d_Law_law_333 d_Law_law_334 (by decide) d_Law_law_335 d_Law_law_336 ?_
  refine zl_arg (j := 3) hx hb hX hbl hz.S hl (by omega) hL d_Law_law_337 d_Law_law_338 d_Law_law_339 (by decide) d_Law_law_340 d_Law_law_341 ?_
  refine zl_arg (j := 4) hx hb hX hbl hz.S hl (by omega) hL d_Law_law_342 d_Law_law_343 d_Law_law_344 (by decide) d_Law_law_345 d_Law_law_346 ?_
  refine zr_1 (As := ([.int (xs (i + 1)), .int (xs (i + 2)), .int (xs (i + 3)), .int (xs (i + 4))] : List Value)) (rest := []) (X := X) (Y := Y) (y := y_Rec_play) (ws := w_Rec_play) (rm := { frames := 2, cells := 1, slots := 6, locals := 38 }) (mc := 1) (ms := 6) (y2 := y_Mod_play) (w2 := w_Mod_play) (rm2 := { frames := 1, cells := 0, slots := 0, locals := 21 }) (fun V => ∃ v8 : Int32, V = some (.int v8)) ⟨hx, hb, hml, hown, hts⟩ hz (fun kd ln I L R kd' ln' I' L' R' a9 e9 ad c9 d9 g9 m9 q9 h1 h2 h3 => ?_) ⟨(callB_of 4 hts (zg_all zw_366) rfl rfl rfl (hw zw_1) (hw zw_363) k_Rec_play.2 ⟨Nat.le_of_ble_eq_true rfl, Nat.le_of_ble_eq_true rfl⟩), hw zw_364, hw zw_365⟩ hSc hE rfl hl.1 rfl (Nat.le_of_ble_eq_true rfl) d_Law_law_347 ⟨show cells + 1 ≤ 600000 by omega, show slots + 6 ≤ 7302250 by omega⟩ (fun V H1 locs1 hP hm => ?_)
  · obtain ⟨v8, h⟩ := zl_play (l := l) (D := D) (cA := cA) (mi := mi) h1 hk h2 h3 (xs (i + 1)) (xs (i + 2)) (xs (i + 3)) (xs (i + 4))
    exact ⟨_, ⟨v8, rfl⟩, h⟩
  obtain ⟨v8, rfl⟩ := hP
  refine W.eq (g2 := F0 m 350 ls [.int v8]) rfl ?_
  refine lv_aload_n hx hb d_Law_law_350 rfl (lv_at hl 1 rfl) ?_
  refine zl_arg (j := 1) hx hb hX hbl hm.S hl (by omega) hL d_Law_law_351 d_Law_law_352 d_Law_law_353 (by decide) d_Law_law_354 d_Law_law_355 ?_
  refine zl_arg (j := 2) hx hb hX hbl hm.S hl (by omega) hL d_Law_law_356 d_Law_law_357 d_Law_law_358 (by decide) d_Law_law_359 d_Law_law_360 ?_
  refine zl_arg (j := 3) hx hb hX hbl hm.S hl (by omega) hL d_Law_law_361 d_Law_law_362 d_Law_law_363 (by decide) d_Law_law_364 d_Law_law_365 ?_
  refine zl_arg (j := 4) hx hb hX hbl hm.S hl (by omega) hL d_Law_law_366 d_Law_law_367 d_Law_law_368 (by decide) d_Law_law_369 d_Law_law_370 ?_
  refine zr_2 (As := ([.int (xs (i + 1)), .int (xs (i + 2)), .int (xs (i + 3)), .int (xs (i + 4))] : List Value)) (rest := [.int v8]) ⟨hx, hb, hml, hown, hts⟩ hm ⟨(callB_of 4 hts (zg_all zw_817) rfl rfl rfl (hw zw_3) (hw zw_814) k_Mod_play.2 ⟨Nat.le_of_ble_eq_true rfl, Nat.le_of_ble_eq_true rfl⟩), hw zw_815, hw zw_816⟩ hSc hE rfl hl.1 rfl (Nat.le_of_ble_eq_true rfl) d_Law_law_371 ⟨show cells + 1 + 0 ≤ 600000 by omega, show slots + 6 + 0 ≤ 7302250 by omega⟩ (fun H2 locs2 hw2 => ?_)
  refine W.eq (g2 := F0 m 374 ls [.int v8, .int v8]) rfl ?_
  refine lv_icmp_eq (tgt := 792) hx hb d_Law_law_374 (by decide) (fun _ => ?_) (fun z => absurd rfl z)
  refine W.widen (k := cells + 3) (n := slots + 1574) (by omega) (by omega) ?_
  exact kk H2 locs2 hw2
set_option maxHeartbeats 4000000 in
set_option maxRecDepth 100000 in
theorem lwc_stop (K : lw_K p s m c b L xs D cA te mi) (hi : i + 5 ≤ L) (hk : k < 600) (hl : lv_has ls 4 [(3, .int (nI i)), (2, .ref Y), (1, .ref X), (0, .ref b)]) (hz : zWd s D cA te X Y k H locs) (hc : cells + 3 ≤ 600000) (hs : slots + 1574 ≤ 7302250) (kk : ∀ (H1 : Heap) (locs1 : List Loc), zWd s D cA te X Y (k + 1) H1 locs1 → W p l e room_1 s m #[Value.ref b] below meth c H1 locs1 (cells + 3) (slots + 1574) Q (F0 m 792 ls [])) : W p l e room_1 s m #[Value.ref b] below meth c H locs cells slots Q (F0 m 379 ls []) := by
  obtain ⟨hx, hb, hml, hown, hts, hX, hbl, hSc, hE, hL⟩ := K
  have hw : ∀ {w : Cond}, w ∈ zw → w.before #[Value.ref b] s = true := fun h => hts _ (List.mem_cons_of_mem _ h)
  refine lv_aload_n hx hb d_Law_law_379 rfl (lv_at hl 2 rfl) ?_
  refine zl_arg (j := 1) hx hb hX hbl hz.S hl (by omega) hL d_Law_law_380 d_Law_law_381 d_Law_law_382 (by decide) d_Law_law_383 d_Law_law_384 ?_
  refine zr_1 (As := ([.int (xs (i + 1))] : List Value)) (rest := []) (X := X) (Y := Y) (y := y_Rec_stop) (ws := w_Rec_stop) (rm := { frames := 0, cells := 0, slots := 0, locals := 0 }) (mc := 0) (ms := 0) (y2 := y_Mod_stop) (w2 := w_Mod_stop) (rm2 := { frames := 0, cells := 0, slots := 0, locals := 0 }) (fun V => ∃ v8 : Int32, V = some (.int v8)) ⟨hx, hb, hml, hown, hts⟩ hz (fun kd ln I L R kd' ln' I' L' R' a9 e9 ad c9 d9 g9 m9 q9 h1 h2 h3 => ?_) ⟨(callB_of 1 hts (zg_all zw_400) rfl rfl rfl (hw zw_1) (hw zw_397) k_Rec_stop.2 ⟨Nat.le_of_ble_eq_true rfl, Nat.le_of_ble_eq_true rfl⟩), hw zw_398, hw zw_399⟩ hSc hE rfl hl.1 rfl (Nat.le_of_ble_eq_true rfl) d_Law_law_385 ⟨show cells + 0 ≤ 600000 by omega, show slots + 0 ≤ 7302250 by omega⟩ (fun V H1 locs1 hP hm => ?_)
  · obtain ⟨v8, h⟩ := zl_stop (l := l) (D := D) (cA := cA) (mi := mi) h1 hk h2 h3 (xs (i + 1))
    exact ⟨_, ⟨v8, rfl⟩, h⟩
  obtain ⟨v8, rfl⟩ := hP
  refine W.eq (g2 := F0 m 388 ls [.int v8]) rfl ?_
  refine lv_aload_n hx hb d_Law_law_388 rfl (lv_at hl 1 rfl) ?_
  refine zl_arg (j := 1) hx hb hX hbl hm.S hl (by omega) hL d_Law_law_389 d_Law_law_390 d_Law_law_391 (by decide) d_Law_law_392 d_Law_law_393 ?_
  refine zr_2 (As := ([.int (xs (i + 1))] : List Value)) (rest := [.int v8]) ⟨hx, hb, hml, hown, hts⟩ hm ⟨(callB_of 1 hts (zg_all zw_821) rfl rfl rfl (hw zw_3) (hw zw_818) k_Mod_stop.2 ⟨Nat.le_of_ble_eq_true rfl, Nat.le_of_ble_eq_true rfl⟩), hw zw_819, hw zw_820⟩ hSc hE rfl hl.1 rfl (Nat.le_of_ble_eq_true rfl) d_Law_law_394 ⟨show cells + 0 + 0 ≤ 600000 by omega, show slots + 0 + 0 ≤ 7302250 by omega⟩ (fun H2 locs2 hw2 => ?_)
  refine W.eq (g2 := F0 m 397 ls [.int v8, .int v8]) rfl ?_
  refine lv_icmp_eq (tgt := 792) hx hb d_Law_law_397 (by decide) (fun _ => ?_) (fun z => absurd rfl z)
  refine W.widen (k := cells + 3) (n := slots + 1574) (by omega) (by omega) ?_
  exact kk H2 locs2 hw2
set_option maxHeartbeats 4000000 in
set_option maxRecDepth 100000 in
theorem lwc_frame (K : lw_K p s m c b L xs D cA te mi) (hi : i + 5 ≤ L) (hk : k < 600) (hl : lv_has ls 4 [(3, .int (nI i)), (2, .ref Y), (1, .ref X), (0, .ref b)]) (hz : zWd s D cA te X Y k H locs) (hc : cells + 3 ≤ 600000) (hs : slots + 1574 ≤ 7302250) (kk : ∀ (H1 : Heap) (locs1 : List Loc), zWd s D cA te X Y (k + 1) H1 locs1 → W p l e room_1 s m #[Value.ref b] below meth c H1 locs1 (cells + 3) (slots + 1574) Q (F0 m 792 ls [])) : W p l e room_1 s m #[Value.ref b] below meth c H locs cells slots Q (F0 m 402 ls []) := by
  obtain ⟨hx, hb, hml, hown, hts, hX, hbl, hSc, hE, hL⟩ := K
  have hw : ∀ {w : Cond}, w ∈ zw → w.before #[Value.ref b] s = true := fun h => hts _ (List.mem_cons_of_mem _ h)
  refine lv_aload_n hx hb d_Law_law_402 rfl (lv_at hl 2 rfl) ?_
  refine zr_1 (As := ([] : List Value)) (rest := []) (X := X) (Y := Y) (y := y_Rec_frame) (ws := w_Rec_frame) (rm := { frames := 4, cells := 0, slots := 0, locals := 89 }) (mc := 0) (ms := 0) (y2 := y_Mod_frame) (w2 := w_Mod_frame) (rm2 := { frames := 2, cells := 0, slots := 0, locals := 48 }) (fun V => ∃ v8 : Int32, V = some (.int v8)) ⟨hx, hb, hml, hown, hts⟩ hz (fun kd ln I L R kd' ln' I' L' R' a9 e9 ad c9 d9 g9 m9 q9 h1 h2 h3 => ?_) ⟨(callB_of 0 hts (zg_all zw_404) rfl rfl rfl (hw zw_1) (hw zw_401) k_Rec_frame.2 ⟨Nat.le_of_ble_eq_true rfl, Nat.le_of_ble_eq_true rfl⟩), hw zw_402, hw zw_403⟩ hSc hE rfl hl.1 rfl (Nat.le_of_ble_eq_true rfl) d_Law_law_403 ⟨show cells + 0 ≤ 600000 by omega, show slots + 0 ≤ 7302250 by omega⟩ (fun V H1 locs1 hP hm => ?_)
  · obtain ⟨v8, h⟩ := zl_frame (l := l) (D := D) (cA := cA) (mi := mi) h1 hk h2 h3 
    exact ⟨_, ⟨v8, rfl⟩, h⟩
  obtain ⟨v8, rfl⟩ := hP
  refine W.eq (g2 := F0 m 406 ls [.int v8]) rfl ?_
  refine lv_aload_n hx hb d_Law_law_406 rfl (lv_at hl 1 rfl) ?_
  refine zr_2 (As := ([] : List Value)) (rest := [.int v8]) ⟨hx, hb, hml, hown, hts⟩ hm ⟨(callB_of 0 hts (zg_all zw_825) rfl rfl rfl (hw zw_3) (hw zw_822) k_Mod_frame.2 ⟨Nat.le_of_ble_eq_true rfl, Nat.le_of_ble_eq_true rfl⟩), hw zw_823, hw zw_824⟩ hSc hE rfl hl.1 rfl (Nat.le_of_ble_eq_true rfl) d_Law_law_407 ⟨show cells + 0 + 0 ≤ 600000 by omega, show slots + 0 + 0 ≤ 7302250 by omega⟩ (fun H2 locs2 hw2 => ?_)
  refine W.eq (g2 := F0 m 410 ls [.int v8, .int v8]) rfl ?_
  refine lv_icmp_eq (tgt := 792) hx hb d_Law_law_410 (by decide) (fun _ => ?_) (fun z => absurd rfl z)
  refine W.widen (k := cells + 3) (n := slots + 1574) (by omega) (by omega) ?_
  exact kk H2 locs2 hw2
set_option maxHeartbeats 4000000 in
set_option maxRecDepth 100000 in
theorem lwc_frameByte (K : lw_K p s m c b L xs D cA te mi) (hi : i + 5 ≤ L) (hk : k < 600) (hl : lv_has ls 4 [(3, .int (nI i)), (2, .ref Y), (1, .ref X), (0, .ref b)]) (hz : zWd s D cA te X Y k H locs) (hc : cells + 3 ≤ 600000) (hs : slots + 1574 ≤ 7302250) (kk : ∀ (H1 : Heap) (locs1 : List Loc), zWd s D cA te X Y (k + 1) H1 locs1 → W p l e room_1 s m #[Value.ref b] below meth c H1 locs1 (cells + 3) (slots + 1574) Q (F0 m 792 ls [])) : W p l e room_1 s m #[Value.ref b] below meth c H locs cells slots Q (F0 m 415 ls []) := by
  obtain ⟨hx, hb, hml, hown, hts, hX, hbl, hSc, hE, hL⟩ := K
  have hw : ∀ {w : Cond}, w ∈ zw → w.before #[Value.ref b] s = true := fun h => hts _ (List.mem_cons_of_mem _ h)
  refine lv_aload_n hx hb d_Law_law_415 rfl (lv_at hl 2 rfl) ?_
  refine zl_arg (j := 1) hx hb hX hbl hz.S hl (by omega) hL d_Law_law_416 d_Law_law_417 d_Law_law_418 (by decide) d_Law_law_419 d_Law_law_420 ?_
  refine zr_1 (As := ([.int (xs (i + 1))] : List Value)) (rest := []) (X := X) (Y := Y) (y := y_Rec_frameByte) (ws := w_Rec_frameByte) (rm := { frames := 2, cells := 0, slots := 0, locals := 42 }) (mc := 0) (ms := 0) (y2 := y_Mod_frameByte) (w2 := w_Mod_frameByte) (rm2 := { frames := 0, cells := 0, slots := 0, locals := 0 }) (fun V => ∃ v8 : Int32, V = some (.int v8)) ⟨hx, hb, hml, hown, hts⟩ hz (fun kd ln I L R kd' ln' I' L' R' a9 e9 ad c9 d9 g9 m9 q9 h1 h2 h3 => ?_) ⟨(callB_of 1 hts (zg_all zw_431) rfl rfl rfl (hw zw_1) (hw zw_428) k_Rec_frameByte.2 ⟨Nat.le_of_ble_eq_true rfl, Nat.le_of_ble_eq_true rfl⟩), hw zw_429, hw zw_430⟩ hSc hE rfl hl.1 rfl (Nat.le_of_ble_eq_true rfl) d_Law_law_421 ⟨show cells + 0 ≤ 600000 by omega, show slots + 0 ≤ 7302250 by omega⟩ (fun V H1 locs1 hP hm => ?_)
  · obtain ⟨v8, h⟩ := zl_frameByte (l := l) (D := D) (cA := cA) (mi := mi) h1 hk h2 h3 (xs (i + 1))
    exact ⟨_, ⟨v8, rfl⟩, h⟩
  obtain ⟨v8, rfl⟩ := hP
  refine W.eq (g2 := F0 m 424 ls [.int v8]) rfl ?_
  refine lv_aload_n hx hb d_Law_law_424 rfl (lv_at hl 1 rfl) ?_
  refine zl_arg (j := 1) hx hb hX hbl hm.S hl (by omega) hL d_Law_law_425 d_Law_law_426 d_Law_law_427 (by decide) d_Law_law_428 d_Law_law_429 ?_
  refine zr_2 (As := ([.int (xs (i + 1))] : List Value)) (rest := [.int v8]) ⟨hx, hb, hml, hown, hts⟩ hm ⟨(callB_of 1 hts (zg_all zw_837) rfl rfl rfl (hw zw_3) (hw zw_834) k_Mod_frameByte.2 ⟨Nat.le_of_ble_eq_true rfl, Nat.le_of_ble_eq_true rfl⟩), hw zw_835, hw zw_836⟩ hSc hE rfl hl.1 rfl (Nat.le_of_ble_eq_true rfl) d_Law_law_430 ⟨show cells + 0 + 0 ≤ 600000 by omega, show slots + 0 + 0 ≤ 7302250 by omega⟩ (fun H2 locs2 hw2 => ?_)
  refine W.eq (g2 := F0 m 433 ls [.int v8, .int v8]) rfl ?_
  refine lv_icmp_eq (tgt := 792) hx hb d_Law_law_433 (by decide) (fun _ => ?_) (fun z => absurd rfl z)
  refine W.widen (k := cells + 3) (n := slots + 1574) (by omega) (by omega) ?_
  exact kk H2 locs2 hw2
set_option maxHeartbeats 4000000 in
set_option maxRecDepth 100000 in
theorem lwc_confirm (K : lw_K p s m c b L xs D cA te mi) (hi : i + 5 ≤ L) (hk : k < 600) (hl : lv_has ls 4 [(3, .int (nI i)), (2, .ref Y), (1, .ref X), (0, .ref b)]) (hz : zWd s D cA te X Y k H locs) (hc : cells + 3 ≤ 600000) (hs : slots + 1574 ≤ 7302250) (kk : ∀ (H1 : Heap) (locs1 : List Loc), zWd s D cA te X Y (k + 1) H1 locs1 → W p l e room_1 s m #[Value.ref b] below meth c H1 locs1 (cells + 3) (slots + 1574) Q (F0 m 792 ls [])) : W p l e room_1 s m #[Value.ref b] below meth c H locs cells slots Q (F0 m 438 ls []) := by
  obtain ⟨hx, hb, hml, hown, hts, hX, hbl, hSc, hE, hL⟩ := K
  have hw : ∀ {w : Cond}, w ∈ zw → w.before #[Value.ref b] s = true := fun h => hts _ (List.mem_cons_of_mem _ h)
  refine lv_aload_n hx hb d_Law_law_438 rfl (lv_at hl 2 rfl) ?_
  refine zl_arg (j := 1) hx hb hX hbl hz.S hl (by omega) hL d_Law_law_439 d_Law_law_440 d_Law_law_441 (by decide) d_Law_law_442 d_Law_law_443 ?_
  refine zl_arg (j := 2) hx hb hX hbl hz.S hl (by omega) hL d_Law_law_444 d_Law_law_445 d_Law_law_446 (by decide) d_Law_law_447 d_Law_law_448 ?_
  refine zl_arg (j := 3) hx hb hX hbl hz.S hl (by omega) hL d_Law_law_449 d_Law_law_450 d_Law_law_451 (by decide) d_Law_law_452 d_Law_law_453 ?_
  refine zr_1 (As := ([.int (xs (i + 1)), .int (xs (i + 2)), .int (xs (i + 3))] : List Value)) (rest := []) (X := X) (Y := Y) (y := y_Rec_confirm) (ws := w_Rec_confirm) (rm := { frames := 5, cells := 0, slots := 0, locals := 129 }) (mc := 0) (ms := 0) (y2 := y_Mod_confirm) (w2 := w_Mod_confirm) (rm2 := { frames := 4, cells := 0, slots := 0, locals := 90 }) (fun V => ∃ v8 : Int32, V = some (.int v8)) ⟨hx, hb, hml, hown, hts⟩ hz (fun kd ln I L R kd' ln' I' L' R' a9 e9 ad c9 d9 g9 m9 q9 h1 h2 h3 => ?_) ⟨(callB_of 3 hts (zg_all zw_443) rfl rfl rfl (hw zw_1) (hw zw_440) k_Rec_confirm.2 ⟨Nat.le_of_ble_eq_true rfl, Nat.le_of_ble_eq_true rfl⟩), hw zw_441, hw zw_442⟩ hSc hE rfl hl.1 rfl (Nat.le_of_ble_eq_true rfl) d_Law_law_454 ⟨show cells + 0 ≤ 600000 by omega, show slots + 0 ≤ 7302250 by omega⟩ (fun V H1 locs1 hP hm => ?_)
  · obtain ⟨v8, h⟩ := zl_confirm (l := l) (D := D) (cA := cA) (mi := mi) h1 hk h2 h3 (xs (i + 1)) (xs (i + 2)) (xs (i + 3))
    exact ⟨_, ⟨v8, rfl⟩, h⟩
  obtain ⟨v8, rfl⟩ := hP
  refine W.eq (g2 := F0 m 457 ls [.int v8]) rfl ?_
  refine lv_aload_n hx hb d_Law_law_457 rfl (lv_at hl 1 rfl) ?_
  refine zl_arg (j := 1) hx hb hX hbl hm.S hl (by omega) hL d_Law_law_458 d_Law_law_459 d_Law_law_460 (by decide) d_Law_law_461 d_Law_law_462 ?_
  refine zl_arg (j := 2) hx hb hX hbl hm.S hl (by omega) hL d_Law_law_463 d_Law_law_464 d_Law_law_465 (by decide) d_Law_law_466 d_Law_law_467 ?_
  refine zl_arg (j := 3) hx hb hX hbl hm.S hl (by omega) hL d_Law_law_468 d_Law_law_469 d_Law_law_470 (by decide) d_Law_law_471 d_Law_law_472 ?_
  refine zr_2 (As := ([.int (xs (i + 1)), .int (xs (i + 2)), .int (xs (i + 3))] : List Value)) (rest := [.int v8]) ⟨hx, hb, hml, hown, hts⟩ hm ⟨(callB_of 3 hts (zg_all zw_805) rfl rfl rfl (hw zw_3) (hw zw_802) k_Mod_confirm.2 ⟨Nat.le_of_ble_eq_true rfl, Nat.le_of_ble_eq_true rfl⟩), hw zw_803, hw zw_804⟩ hSc hE rfl hl.1 rfl (Nat.le_of_ble_eq_true rfl) d_Law_law_473 ⟨show cells + 0 + 0 ≤ 600000 by omega, show slots + 0 + 0 ≤ 7302250 by omega⟩ (fun H2 locs2 hw2 => ?_)
  refine W.eq (g2 := F0 m 476 ls [.int v8, .int v8]) rfl ?_
  refine lv_icmp_eq (tgt := 792) hx hb d_Law_law_476 (by decide) (fun _ => ?_) (fun z => absurd rfl z)
  refine W.widen (k := cells + 3) (n := slots + 1574) (by omega) (by omega) ?_
  exact kk H2 locs2 hw2
set_option maxHeartbeats 4000000 in
set_option maxRecDepth 100000 in
theorem lwc_gap (K : lw_K p s m c b L xs D cA te mi) (hi : i + 5 ≤ L) (hk : k < 600) (hl : lv_has ls 4 [(3, .int (nI i)), (2, .ref Y), (1, .ref X), (0, .ref b)]) (hz : zWd s D cA te X Y k H locs) (hc : cells + 3 ≤ 600000) (hs : slots + 1574 ≤ 7302250) (kk : ∀ (H1 : Heap) (locs1 : List Loc), zWd s D cA te X Y (k + 1) H1 locs1 → W p l e room_1 s m #[Value.ref b] below meth c H1 locs1 (cells + 3) (slots + 1574) Q (F0 m 792 ls [])) : W p l e room_1 s m #[Value.ref b] below meth c H locs cells slots Q (F0 m 481 ls []) := by
  obtain ⟨hx, hb, hml, hown, hts, hX, hbl, hSc, hE, hL⟩ := K
  have hw : ∀ {w : Cond}, w ∈ zw → w.before #[Value.ref b] s = true := fun h => hts _ (List.mem_cons_of_mem _ h)
  refine lv_aload_n hx hb d_Law_law_481 rfl (lv_at hl 2 rfl) ?_
  refine zl_arg (j := 1) hx hb hX hbl hz.S hl (by omega) hL d_Law_law_482 d_Law_law_483 d_Law_law_484 (by decide) d_Law_law_485 d_Law_law_486 ?_
  refine zl_arg (j := 2) hx hb hX hbl hz.S hl (by omega) hL d_Law_law_487 d_Law_law_488 d_Law_law_489 (by decide) d_Law_law_490 d_Law_law_491 ?_
  refine zr_1 (As := ([.int (xs (i + 1)), .int (xs (i + 2))] : List Value)) (rest := []) (X := X) (Y := Y) (y := y_Rec_gap) (ws := w_Rec_gap) (rm := { frames := 5, cells := 0, slots := 0, locals := 109 }) (mc := 0) (ms := 0) (y2 := y_Mod_gap) (w2 := w_Mod_gap) (rm2 := { frames := 1, cells := 0, slots := 0, locals := 24 }) (fun V => ∃ v8 : Int32, V = some (.int v8)) ⟨hx, hb, hml, hown, hts⟩ hz (fun kd ln I L R kd' ln' I' L' R' a9 e9 ad c9 d9 g9 m9 q9 h1 h2 h3 => ?_) ⟨(callB_of 2 hts (zg_all zw_451) rfl rfl rfl (hw zw_1) (hw zw_448) k_Rec_gap.2 ⟨Nat.le_of_ble_eq_true rfl, Nat.le_of_ble_eq_true rfl⟩), hw zw_449, hw zw_450⟩ hSc hE rfl hl.1 rfl (Nat.le_of_ble_eq_true rfl) d_Law_law_492 ⟨show cells + 0 ≤ 600000 by omega, show slots + 0 ≤ 7302250 by omega⟩ (fun V H1 locs1 hP hm => ?_)
  · obtain ⟨v8, h⟩ := zl_gap (l := l) (D := D) (cA := cA) (mi := mi) h1 hk h2 h3 (xs (i + 1)) (xs (i + 2))
    exact ⟨_, ⟨v8, rfl⟩, h⟩
  obtain ⟨v8, rfl⟩ := hP
  refine W.eq (g2 := F0 m 495 ls [.int v8]) rfl ?_
  refine lv_aload_n hx hb d_Law_law_495 rfl (lv_at hl 1 rfl) ?_
  refine zl_arg (j := 1) hx hb hX hbl hm.S hl (by omega) hL d_Law_law_496 d_Law_law_497 d_Law_law_498 (by decide) d_Law_law_499 d_Law_law_500 ?_
  refine zl_arg (j := 2) hx hb hX hbl hm.S hl (by omega) hL d_Law_law_501 d_Law_law_502 d_Law_law_503 (by decide) d_Law_law_504 d_Law_law_505 ?_
  refine zr_2 (As := ([.int (xs (i + 1)), .int (xs (i + 2))] : List Value)) (rest := [.int v8]) ⟨hx, hb, hml, hown, hts⟩ hm ⟨(callB_of 2 hts (zg_all zw_809) rfl rfl rfl (hw zw_3) (hw zw_806) k_Mod_gap.2 ⟨Nat.le_of_ble_eq_true rfl, Nat.le_of_ble_eq_true rfl⟩), hw zw_807, hw zw_808⟩ hSc hE rfl hl.1 rfl (Nat.le_of_ble_eq_true rfl) d_Law_law_506 ⟨show cells + 0 + 0 ≤ 600000 by omega, show slots + 0 + 0 ≤ 7302250 by omega⟩ (fun H2 locs2 hw2 => ?_)
  refine W.eq (g2 := F0 m 509 ls [.int v8, .int v8]) rfl ?_
  refine lv_icmp_eq (tgt := 792) hx hb d_Law_law_509 (by decide) (fun _ => ?_) (fun z => absurd rfl z)
  refine W.widen (k := cells + 3) (n := slots + 1574) (by omega) (by omega) ?_
  exact kk H2 locs2 hw2
set_option maxHeartbeats 4000000 in
set_option maxRecDepth 100000 in
theorem lwc_count (K : lw_K p s m c b L xs D cA te mi) (hi : i + 5 ≤ L) (hk : k < 600) (hl : lv_has ls 4 [(3, .int (nI i)), (2, .ref Y), (1, .ref X), (0, .ref b)]) (hz : zWd s D cA te X Y k H locs) (hc : cells + 3 ≤ 600000) (hs : slots + 1574 ≤ 7302250) (kk : ∀ (H1 : Heap) (locs1 : List Loc), zWd s D cA te X Y (k + 1) H1 locs1 → W p l e room_1 s m #[Value.ref b] below meth c H1 locs1 (cells + 3) (slots + 1574) Q (F0 m 792 ls [])) : W p l e room_1 s m #[Value.ref b] below meth c H locs cells slots Q (F0 m 514 ls []) := by
  obtain ⟨hx, hb, hml, hown, hts, hX, hbl, hSc, hE, hL⟩ := K
  have hw : ∀ {w : Cond}, w ∈ zw → w.before #[Value.ref b] s = true := fun h => hts _ (List.mem_cons_of_mem _ h)
  refine lv_aload_n hx hb d_Law_law_514 rfl (lv_at hl 2 rfl) ?_
  refine zl_arg (j := 1) hx hb hX hbl hz.S hl (by omega) hL d_Law_law_515 d_Law_law_516 d_Law_law_517 (by decide) d_Law_law_518 d_Law_law_519 ?_
  refine zl_arg (j := 2) hx hb hX hbl hz.S hl (by omega) hL d_Law_law_520 d_Law_law_521 d_Law_law_522 (by decide) d_Law_law_523 d_Law_law_524 ?_
  refine zr_1 (As := ([.int (xs (i + 1)), .int (xs (i + 2))] : List Value)) (rest := []) (X := X) (Y := Y) (y := y_Rec_count) (ws := w_Rec_count) (rm := { frames := 4, cells := 0, slots := 0, locals := 86 }) (mc := 0) (ms := 0) (y2 := y_Mod_count) (w2 := w_Mod_count) (rm2 := { frames := 1, cells := 0, slots := 0, locals := 21 }) (fun V => ∃ v8 : Int32, V = some (.int v8)) ⟨hx, hb, hml, hown, hts⟩ hz (fun kd ln I L R kd' ln' I' L' R' a9 e9 ad c9 d9 g9 m9 q9 h1 h2 h3 => ?_) ⟨(callB_of 2 hts (zg_all zw_464) rfl rfl rfl (hw zw_1) (hw zw_461) k_Rec_count.2 ⟨Nat.le_of_ble_eq_true rfl, Nat.le_of_ble_eq_true rfl⟩), hw zw_462, hw zw_463⟩ hSc hE rfl hl.1 rfl (Nat.le_of_ble_eq_true rfl) d_Law_law_525 ⟨show cells + 0 ≤ 600000 by omega, show slots + 0 ≤ 7302250 by omega⟩ (fun V H1 locs1 hP hm => ?_)
  · obtain ⟨v8, h⟩ := zl_count (l := l) (D := D) (cA := cA) (mi := mi) h1 hk h2 h3 (xs (i + 1)) (xs (i + 2))
    exact ⟨_, ⟨v8, rfl⟩, h⟩
  obtain ⟨v8, rfl⟩ := hP
  refine W.eq (g2 := F0 m 528 ls [.int v8]) rfl ?_
  refine lv_aload_n hx hb d_Law_law_528 rfl (lv_at hl 1 rfl) ?_
  refine zl_arg (j := 1) hx hb hX hbl hm.S hl (by omega) hL d_Law_law_529 d_Law_law_530 d_Law_law_531 (by decide) d_Law_law_532 d_Law_law_533 ?_
  refine zl_arg (j := 2) hx hb hX hbl hm.S hl (by omega) hL d_Law_law_534 d_Law_law_535 d_Law_law_536 (by decide) d_Law_law_537 d_Law_law_538 ?_
  refine zr_2 (As := ([.int (xs (i + 1)), .int (xs (i + 2))] : List Value)) (rest := [.int v8]) ⟨hx, hb, hml, hown, hts⟩ hm ⟨(callB_of 2 hts (zg_all zw_813) rfl rfl rfl (hw zw_3) (hw zw_810) k_Mod_count.2 ⟨Nat.le_of_ble_eq_true rfl, Nat.le_of_ble_eq_true rfl⟩), hw zw_811, hw zw_812⟩ hSc hE rfl hl.1 rfl (Nat.le_of_ble_eq_true rfl) d_Law_law_539 ⟨show cells + 0 + 0 ≤ 600000 by omega, show slots + 0 + 0 ≤ 7302250 by omega⟩ (fun H2 locs2 hw2 => ?_)
  refine W.eq (g2 := F0 m 542 ls [.int v8, .int v8]) rfl ?_
  refine lv_icmp_eq (tgt := 792) hx hb d_Law_law_542 (by decide) (fun _ => ?_) (fun z => absurd rfl z)
  refine W.widen (k := cells + 3) (n := slots + 1574) (by omega) (by omega) ?_
  exact kk H2 locs2 hw2
set_option maxHeartbeats 4000000 in
set_option maxRecDepth 100000 in
theorem lwc_packetByte (K : lw_K p s m c b L xs D cA te mi) (hi : i + 5 ≤ L) (hk : k < 600) (hl : lv_has ls 4 [(3, .int (nI i)), (2, .ref Y), (1, .ref X), (0, .ref b)]) (hz : zWd s D cA te X Y k H locs) (hc : cells + 3 ≤ 600000) (hs : slots + 1574 ≤ 7302250) (kk : ∀ (H1 : Heap) (locs1 : List Loc), zWd s D cA te X Y (k + 1) H1 locs1 → W p l e room_1 s m #[Value.ref b] below meth c H1 locs1 (cells + 3) (slots + 1574) Q (F0 m 792 ls [])) : W p l e room_1 s m #[Value.ref b] below meth c H locs cells slots Q (F0 m 547 ls []) := by
  obtain ⟨hx, hb, hml, hown, hts, hX, hbl, hSc, hE, hL⟩ := K
  have hw : ∀ {w : Cond}, w ∈ zw → w.before #[Value.ref b] s = true := fun h => hts _ (List.mem_cons_of_mem _ h)
  refine lv_aload_n hx hb d_Law_law_547 rfl (lv_at hl 2 rfl) ?_
  refine zl_arg (j := 1) hx hb hX hbl hz.S hl (by omega) hL d_Law_law_548 d_Law_law_549 d_Law_law_550 (by decide) d_Law_law_551 d_Law_law_552 ?_
  refine zl_arg (j := 2) hx hb hX hbl hz.S hl (by omega) hL d_Law_law_553 d_Law_law_554 d_Law_law_555 (by decide) d_Law_law_556 d_Law_law_557 ?_
  refine zl_arg (j := 3) hx hb hX hbl hz.S hl (by omega) hL d_Law_law_558 d_Law_law_559 d_Law_law_560 (by decide) d_Law_law_561 d_Law_law_562 ?_
  refine zr_1 (As := ([.int (xs (i + 1)), .int (xs (i + 2)), .int (xs (i + 3))] : List Value)) (rest := []) (X := X) (Y := Y) (y := y_Rec_packetByte) (ws := w_Rec_packetByte) (rm := { frames := 5, cells := 0, slots := 0, locals := 109 }) (mc := 0) (ms := 0) (y2 := y_Mod_packetByte) (w2 := w_Mod_packetByte) (rm2 := { frames := 1, cells := 0, slots := 0, locals := 24 }) (fun V => ∃ v8 : Int32, V = some (.int v8)) ⟨hx, hb, hml, hown, hts⟩ hz (fun kd ln I L R kd' ln' I' L' R' a9 e9 ad c9 d9 g9 m9 q9 h1 h2 h3 => ?_) ⟨(callB_of 3 hts (zg_all zw_478) rfl rfl rfl (hw zw_1) (hw zw_475) k_Rec_packetByte.2 ⟨Nat.le_of_ble_eq_true rfl, Nat.le_of_ble_eq_true rfl⟩), hw zw_476, hw zw_477⟩ hSc hE rfl hl.1 rfl (Nat.le_of_ble_eq_true rfl) d_Law_law_563 ⟨show cells + 0 ≤ 600000 by omega, show slots + 0 ≤ 7302250 by omega⟩ (fun V H1 locs1 hP hm => ?_)
  · obtain ⟨v8, h⟩ := zl_packetByte (l := l) (D := D) (cA := cA) (mi := mi) h1 hk h2 h3 (xs (i + 1)) (xs (i + 2)) (xs (i + 3))
    exact ⟨_, ⟨v8, rfl⟩, h⟩
  obtain ⟨v8, rfl⟩ := hP
  refine W.eq (g2 := F0 m 566 ls [.int v8]) rfl ?_
  refine lv_aload_n hx hb d_Law_law_566 rfl (lv_at hl 1 rfl) ?_
  refine zl_arg (j := 1) hx hb hX hbl hm.S hl (by omega) hL d_Law_law_567 d_Law_law_568 d_Law_law_569 (by decide) d_Law_law_570 d_Law_law_571 ?_
  refine zl_arg (j := 2) hx hb hX hbl hm.S hl (by omega) hL d_Law_law_572 d_Law_law_573 d_Law_law_574 (by decide) d_Law_law_575 d_Law_law_576 ?_
  refine zl_arg (j := 3) hx hb hX hbl hm.S hl (by omega) hL d_Law_law_577 d_Law_law_578 d_Law_law_579 (by decide) d_Law_law_580 d_Law_law_581 ?_
  refine zr_2 (As := ([.int (xs (i + 1)), .int (xs (i + 2)), .int (xs (i + 3))] : List Value)) (rest := [.int v8]) ⟨hx, hb, hml, hown, hts⟩ hm ⟨(callB_of 3 hts (zg_all zw_789) rfl rfl rfl (hw zw_3) (hw zw_786) k_Mod_packetByte.2 ⟨Nat.le_of_ble_eq_true rfl, Nat.le_of_ble_eq_true rfl⟩), hw zw_787, hw zw_788⟩ hSc hE rfl hl.1 rfl (Nat.le_of_ble_eq_true rfl) d_Law_law_582 ⟨show cells + 0 + 0 ≤ 600000 by omega, show slots + 0 + 0 ≤ 7302250 by omega⟩ (fun H2 locs2 hw2 => ?_)
  refine W.eq (g2 := F0 m 585 ls [.int v8, .int v8]) rfl ?_
  refine lv_icmp_eq (tgt := 792) hx hb d_Law_law_585 (by decide) (fun _ => ?_) (fun z => absurd rfl z)
  refine W.widen (k := cells + 3) (n := slots + 1574) (by omega) (by omega) ?_
  exact kk H2 locs2 hw2
set_option maxHeartbeats 4000000 in
set_option maxRecDepth 100000 in
theorem lwc_seek (K : lw_K p s m c b L xs D cA te mi) (hi : i + 5 ≤ L) (hk : k < 600) (hl : lv_has ls 4 [(3, .int (nI i)), (2, .ref Y), (1, .ref X), (0, .ref b)]) (hz : zWd s D cA te X Y k H locs) (hc : cells + 3 ≤ 600000) (hs : slots + 1574 ≤ 7302250) (kk : ∀ (H1 : Heap) (locs1 : List Loc), zWd s D cA te X Y (k + 1) H1 locs1 → W p l e room_1 s m #[Value.ref b] below meth c H1 locs1 (cells + 3) (slots + 1574) Q (F0 m 792 ls [])) : W p l e room_1 s m #[Value.ref b] below meth c H locs cells slots Q (F0 m 590 ls []) := by
  obtain ⟨hx, hb, hml, hown, hts, hX, hbl, hSc, hE, hL⟩ := K
  have hw : ∀ {w : Cond}, w ∈ zw → w.before #[Value.ref b] s = true := fun h => hts _ (List.mem_cons_of_mem _ h)
  refine lv_aload_n hx hb d_Law_law_590 rfl (lv_at hl 2 rfl) ?_
  refine zl_arg (j := 1) hx hb hX hbl hz.S hl (by omega) hL d_Law_law_591 d_Law_law_592 d_Law_law_593 (by decide) d_Law_law_594 d_Law_law_595 ?_
  refine zl_arg (j := 2) hx hb hX hbl hz.S hl (by omega) hL d_Law_law_596 d_Law_law_597 d_Law_law_598 (by decide) d_Law_law_599 d_Law_law_600 ?_
  refine zr_1 (As := ([.int (xs (i + 1)), .int (xs (i + 2))] : List Value)) (rest := []) (X := X) (Y := Y) (y := y_Rec_seek) (ws := w_Rec_seek) (rm := { frames := 4, cells := 0, slots := 0, locals := 87 }) (mc := 0) (ms := 0) (y2 := y_Mod_seek) (w2 := w_Mod_seek) (rm2 := { frames := 1, cells := 0, slots := 0, locals := 21 }) (fun V => ∃ v8 : Int32, V = some (.int v8)) ⟨hx, hb, hml, hown, hts⟩ hz (fun kd ln I L R kd' ln' I' L' R' a9 e9 ad c9 d9 g9 m9 q9 h1 h2 h3 => ?_) ⟨(callB_of 2 hts (zg_all zw_483) rfl rfl rfl (hw zw_1) (hw zw_480) k_Rec_seek.2 ⟨Nat.le_of_ble_eq_true rfl, Nat.le_of_ble_eq_true rfl⟩), hw zw_481, hw zw_482⟩ hSc hE rfl hl.1 rfl (Nat.le_of_ble_eq_true rfl) d_Law_law_601 ⟨show cells + 0 ≤ 600000 by omega, show slots + 0 ≤ 7302250 by omega⟩ (fun V H1 locs1 hP hm => ?_)
  · obtain ⟨v8, h⟩ := zl_seek (l := l) (D := D) (cA := cA) (mi := mi) h1 hk h2 h3 (xs (i + 1)) (xs (i + 2))
    exact ⟨_, ⟨v8, rfl⟩, h⟩
  obtain ⟨v8, rfl⟩ := hP
  refine W.eq (g2 := F0 m 604 ls [.int v8]) rfl ?_
  refine lv_aload_n hx hb d_Law_law_604 rfl (lv_at hl 1 rfl) ?_
  refine zl_arg (j := 1) hx hb hX hbl hm.S hl (by omega) hL d_Law_law_605 d_Law_law_606 d_Law_law_607 (by decide) d_Law_law_608 d_Law_law_609 ?_
  refine zl_arg (j := 2) hx hb hX hbl hm.S hl (by omega) hL d_Law_law_610 d_Law_law_611 d_Law_law_612 (by decide) d_Law_law_613 d_Law_law_614 ?_
  refine zr_2 (As := ([.int (xs (i + 1)), .int (xs (i + 2))] : List Value)) (rest := [.int v8]) ⟨hx, hb, hml, hown, hts⟩ hm ⟨(callB_of 2 hts (zg_all zw_801) rfl rfl rfl (hw zw_3) (hw zw_798) k_Mod_seek.2 ⟨Nat.le_of_ble_eq_true rfl, Nat.le_of_ble_eq_true rfl⟩), hw zw_799, hw zw_800⟩ hSc hE rfl hl.1 rfl (Nat.le_of_ble_eq_true rfl) d_Law_law_615 ⟨show cells + 0 + 0 ≤ 600000 by omega, show slots + 0 + 0 ≤ 7302250 by omega⟩ (fun H2 locs2 hw2 => ?_)
  refine W.eq (g2 := F0 m 618 ls [.int v8, .int v8]) rfl ?_
  refine lv_icmp_eq (tgt := 792) hx hb d_Law_law_618 (by decide) (fun _ => ?_) (fun z => absurd rfl z)
  refine W.widen (k := cells + 3) (n := slots + 1574) (by omega) (by omega) ?_
  exact kk H2 locs2 hw2
set_option maxHeartbeats 4000000 in
set_option maxRecDepth 100000 in
theorem lwc_tick (K : lw_K p s m c b L xs D cA te mi) (hi : i + 5 ≤ L) (hk : k < 600) (hl : lv_has ls 4 [(3, .int (nI i)), (2, .ref Y), (1, .ref X), (0, .ref b)]) (hz : zWd s D cA te X Y k H locs) (hc : cells + 3 ≤ 600000) (hs : slots + 1574 ≤ 7302250) (kk : ∀ (H1 : Heap) (locs1 : List Loc), zWd s D cA te X Y (k + 1) H1 locs1 → W p l e room_1 s m #[Value.ref b] below meth c H1 locs1 (cells + 3) (slots + 1574) Q (F0 m 792 ls [])) : W p l e room_1 s m #[Value.ref b] below meth c H locs cells slots Q (F0 m 623 ls []) := by
  obtain ⟨hx, hb, hml, hown, hts, hX, hbl, hSc, hE, hL⟩ := K
  have hw : ∀ {w : Cond}, w ∈ zw → w.before #[Value.ref b] s = true := fun h => hts _ (List.mem_cons_of_mem _ h)
  refine lv_aload_n hx hb d_Law_law_623 rfl (lv_at hl 2 rfl) ?_
  refine zl_arg (j := 1) hx hb hX hbl hz.S hl (by omega) hL d_Law_law_624 d_Law_law_625 d_Law_law_626 (by decide) d_Law_law_627 d_Law_law_628 ?_
  refine zr_1 (As := ([.int (xs (i + 1))] : List Value)) (rest := []) (X := X) (Y := Y) (y := y_Rec_tick) (ws := w_Rec_tick) (rm := { frames := 3, cells := 0, slots := 0, locals := 66 }) (mc := 0) (ms := 0) (y2 := y_Mod_tick) (w2 := w_Mod_tick) (rm2 := { frames := 2, cells := 0, slots := 0, locals := 44 }) (fun V => ∃ v8 : Int32, V = some (.int v8)) ⟨hx, hb, hml, hown, hts⟩ hz (fun kd ln I L R kd' ln' I' L' R' a9 e9 ad c9 d9 g9 m9 q9 h1 h2 h3 => ?_) ⟨(callB_of 1 hts (zg_all zw_491) rfl rfl rfl (hw zw_1) (hw zw_488) k_Rec_tick.2 ⟨Nat.le_of_ble_eq_true rfl, Nat.le_of_ble_eq_true rfl⟩), hw zw_489, hw zw_490⟩ hSc hE rfl hl.1 rfl (Nat.le_of_ble_eq_true rfl) d_Law_law_629 ⟨show cells + 0 ≤ 600000 by omega, show slots + 0 ≤ 7302250 by omega⟩ (fun V H1 locs1 hP hm => ?_)
  · obtain ⟨v8, h⟩ := zl_tick (l := l) (D := D) (cA := cA) (mi := mi) h1 hk h2 h3 (xs (i + 1))
    exact ⟨_, ⟨v8, rfl⟩, h⟩
  obtain ⟨v8, rfl⟩ := hP
  refine W.eq (g2 := F0 m 632 ls [.int v8]) rfl ?_
  refine lv_aload_n hx hb d_Law_law_632 rfl (lv_at hl 1 rfl) ?_
  refine zl_arg (j := 1) hx hb hX hbl hm.S hl (by omega) hL d_Law_law_633 d_Law_law_634 d_Law_law_635 (by decide) d_Law_law_636 d_Law_law_637 ?_
  refine zr_2 (As := ([.int (xs (i + 1))] : List Value)) (rest := [.int v8]) ⟨hx, hb, hml, hown, hts⟩ hm ⟨(callB_of 1 hts (zg_all zw_733) rfl rfl rfl (hw zw_3) (hw zw_730) k_Mod_tick.2 ⟨Nat.le_of_ble_eq_true rfl, Nat.le_of_ble_eq_true rfl⟩), hw zw_731, hw zw_732⟩ hSc hE rfl hl.1 rfl (Nat.le_of_ble_eq_true rfl) d_Law_law_638 ⟨show cells + 0 + 0 ≤ 600000 by omega, show slots + 0 + 0 ≤ 7302250 by omega⟩ (fun H2 locs2 hw2 => ?_)
  refine W.eq (g2 := F0 m 641 ls [.int v8, .int v8]) rfl ?_
  refine lv_icmp_eq (tgt := 792) hx hb d_Law_law_641 (by decide) (fun _ => ?_) (fun z => absurd rfl z)
  refine W.widen (k := cells + 3) (n := slots + 1574) (by omega) (by omega) ?_
  exact kk H2 locs2 hw2
set_option maxHeartbeats 4000000 in
set_option maxRecDepth 100000 in
theorem lwc_flip (K : lw_K p s m c b L xs D cA te mi) (hi : i + 5 ≤ L) (hk : k < 600) (hl : lv_has ls 4 [(3, .int (nI i)), (2, .ref Y), (1, .ref X), (0, .ref b)]) (hz : zWd s D cA te X Y k H locs) (hc : cells + 3 ≤ 600000) (hs : slots + 1574 ≤ 7302250) (kk : ∀ (H1 : Heap) (locs1 : List Loc), zWd s D cA te X Y (k + 1) H1 locs1 → W p l e room_1 s m #[Value.ref b] below meth c H1 locs1 (cells + 3) (slots + 1574) Q (F0 m 792 ls [])) : W p l e room_1 s m #[Value.ref b] below meth c H locs cells slots Q (F0 m 646 ls []) := by
  obtain ⟨hx, hb, hml, hown, hts, hX, hbl, hSc, hE, hL⟩ := K
  have hw : ∀ {w : Cond}, w ∈ zw → w.before #[Value.ref b] s = true := fun h => hts _ (List.mem_cons_of_mem _ h)
  refine lv_aload_n hx hb d_Law_law_646 rfl (lv_at hl 2 rfl) ?_
  refine zl_arg (j := 1) hx hb hX hbl hz.S hl (by omega) hL d_Law_law_647 d_Law_law_648 d_Law_law_649 (by decide) d_Law_law_650 d_Law_law_651 ?_
  refine zl_arg (j := 2) hx hb hX hbl hz.S hl (by omega) hL d_Law_law_652 d_Law_law_653 d_Law_law_654 (by decide) d_Law_law_655 d_Law_law_656 ?_
  refine zl_arg (j := 3) hx hb hX hbl hz.S hl (by omega) hL d_Law_law_657 d_Law_law_658 d_Law_law_659 (by decide) d_Law_law_660 d_Law_law_661 ?_
  refine zr_1 (As := ([.int (xs (i + 1)), .int (xs (i + 2)), .int (xs (i + 3))] : List Value)) (rest := []) (X := X) (Y := Y) (y := y_Rec_flip) (ws := w_Rec_flip) (rm := { frames := 4, cells := 0, slots := 0, locals := 93 }) (mc := 0) (ms := 0) (y2 := y_Mod_flip) (w2 := w_Mod_flip) (rm2 := { frames := 1, cells := 0, slots := 0, locals := 23 }) (fun V => ∃ v8 : Int32, V = some (.int v8)) ⟨hx, hb, hml, hown, hts⟩ hz (fun kd ln I L R kd' ln' I' L' R' a9 e9 ad c9 d9 g9 m9 q9 h1 h2 h3 => ?_) ⟨(callB_of 3 hts (zg_all zw_513) rfl rfl rfl (hw zw_1) (hw zw_510) k_Rec_flip.2 ⟨Nat.le_of_ble_eq_true rfl, Nat.le_of_ble_eq_true rfl⟩), hw zw_511, hw zw_512⟩ hSc hE rfl hl.1 rfl (Nat.le_of_ble_eq_true rfl) d_Law_law_662 ⟨show cells + 0 ≤ 600000 by omega, show slots + 0 ≤ 7302250 by omega⟩ (fun V H1 locs1 hP hm => ?_)
  · obtain ⟨v8, h⟩ := zl_flip (l := l) (D := D) (cA := cA) (mi := mi) h1 hk h2 h3 (xs (i + 1)) (xs (i + 2)) (xs (i + 3))
    exact ⟨_, ⟨v8, rfl⟩, h⟩
  obtain ⟨v8, rfl⟩ := hP
  refine W.eq (g2 := F0 m 665 ls [.int v8]) rfl ?_
  refine lv_aload_n hx hb d_Law_law_665 rfl (lv_at hl 1 rfl) ?_
  refine zl_arg (j := 1) hx hb hX hbl hm.S hl (by omega) hL d_Law_law_666 d_Law_law_667 d_Law_law_668 (by decide) d_Law_law_669 d_Law_law_670 ?_
  refine zl_arg (j := 2) hx hb hX hbl hm.S hl (by omega) hL d_Law_law_671 d_Law_law_672 d_Law_law_673 (by decide) d_Law_law_674 d_Law_law_675 ?_
  refine zl_arg (j := 3) hx hb hX hbl hm.S hl (by omega) hL d_Law_law_676 d_Law_law_677 d_Law_law_678 (by decide) d_Law_law_679 d_Law_law_680 ?_
  refine zr_2 (As := ([.int (xs (i + 1)), .int (xs (i + 2)), .int (xs (i + 3))] : List Value)) (rest := [.int v8]) ⟨hx, hb, hml, hown, hts⟩ hm ⟨(callB_of 3 hts (zg_all zw_714) rfl rfl rfl (hw zw_3) (hw zw_711) k_Mod_flip.2 ⟨Nat.le_of_ble_eq_true rfl, Nat.le_of_ble_eq_true rfl⟩), hw zw_712, hw zw_713⟩ hSc hE rfl hl.1 rfl (Nat.le_of_ble_eq_true rfl) d_Law_law_681 ⟨show cells + 0 + 0 ≤ 600000 by omega, show slots + 0 + 0 ≤ 7302250 by omega⟩ (fun H2 locs2 hw2 => ?_)
  refine W.eq (g2 := F0 m 684 ls [.int v8, .int v8]) rfl ?_
  refine lv_icmp_eq (tgt := 792) hx hb d_Law_law_684 (by decide) (fun _ => ?_) (fun z => absurd rfl z)
  refine W.widen (k := cells + 3) (n := slots + 1574) (by omega) (by omega) ?_
  exact kk H2 locs2 hw2
set_option maxHeartbeats 4000000 in
set_option maxRecDepth 100000 in
theorem lwc_latch (K : lw_K p s m c b L xs D cA te mi) (hi : i + 5 ≤ L) (hk : k < 600) (hl : lv_has ls 4 [(3, .int (nI i)), (2, .ref Y), (1, .ref X), (0, .ref b)]) (hz : zWd s D cA te X Y k H locs) (hc : cells + 3 ≤ 600000) (hs : slots + 1574 ≤ 7302250) (kk : ∀ (H1 : Heap) (locs1 : List Loc), zWd s D cA te X Y (k + 1) H1 locs1 → W p l e room_1 s m #[Value.ref b] below meth c H1 locs1 (cells + 3) (slots + 1574) Q (F0 m 792 ls [])) : W p l e room_1 s m #[Value.ref b] below meth c H locs cells slots Q (F0 m 689 ls []) := by
  obtain ⟨hx, hb, hml, hown, hts, hX, hbl, hSc, hE, hL⟩ := K
  have hw : ∀ {w : Cond}, w ∈ zw → w.before #[Value.ref b] s = true := fun h => hts _ (List.mem_cons_of_mem _ h)
  refine lv_aload_n hx hb d_Law_law_689 rfl (lv_at hl 2 rfl) ?_
  refine zl_arg (j := 1) hx hb hX hbl hz.S hl (by omega) hL d_Law_law_690 d_Law_law_691 d_Law_law_692 (by decide) d_Law_law_693 d_Law_law_694 ?_
  refine zr_1 (As := ([.int (xs (i + 1))] : List Value)) (rest := []) (X := X) (Y := Y) (y := y_Rec_latch) (ws := w_Rec_latch) (rm := { frames := 4, cells := 0, slots := 0, locals := 89 }) (mc := 0) (ms := 0) (y2 := y_Mod_latch) (w2 := w_Mod_latch) (rm2 := { frames := 1, cells := 0, slots := 0, locals := 23 }) (fun V => ∃ v8 : Int32, V = some (.int v8)) ⟨hx, hb, hml, hown, hts⟩ hz (fun kd ln I L R kd' ln' I' L' R' a9 e9 ad c9 d9 g9 m9 q9 h1 h2 h3 => ?_) ⟨(callB_of 1 hts (zg_all zw_536) rfl rfl rfl (hw zw_1) (hw zw_533) k_Rec_latch.2 ⟨Nat.le_of_ble_eq_true rfl, Nat.le_of_ble_eq_true rfl⟩), hw zw_534, hw zw_535⟩ hSc hE rfl hl.1 rfl (Nat.le_of_ble_eq_true rfl) d_Law_law_695 ⟨show cells + 0 ≤ 600000 by omega, show slots + 0 ≤ 7302250 by omega⟩ (fun V H1 locs1 hP hm => ?_)
  · obtain ⟨v8, h⟩ := zl_latch (l := l) (D := D) (cA := cA) (mi := mi) h1 hk h2 h3 (xs (i + 1))
    exact ⟨_, ⟨v8, rfl⟩, h⟩
  obtain ⟨v8, rfl⟩ := hP
  refine W.eq (g2 := F0 m 698 ls [.int v8]) rfl ?_
  refine lv_aload_n hx hb d_Law_law_698 rfl (lv_at hl 1 rfl) ?_
  refine zl_arg (j := 1) hx hb hX hbl hm.S hl (by omega) hL d_Law_law_699 d_Law_law_700 d_Law_law_701 (by decide) d_Law_law_702 d_Law_law_703 ?_
  refine zr_2 (As := ([.int (xs (i + 1))] : List Value)) (rest := [.int v8]) ⟨hx, hb, hml, hown, hts⟩ hm ⟨(callB_of 1 hts (zg_all zw_725) rfl rfl rfl (hw zw_3) (hw zw_722) k_Mod_latch.2 ⟨Nat.le_of_ble_eq_true rfl, Nat.le_of_ble_eq_true rfl⟩), hw zw_723, hw zw_724⟩ hSc hE rfl hl.1 rfl (Nat.le_of_ble_eq_true rfl) d_Law_law_704 ⟨show cells + 0 + 0 ≤ 600000 by omega, show slots + 0 + 0 ≤ 7302250 by omega⟩ (fun H2 locs2 hw2 => ?_)
  refine W.eq (g2 := F0 m 707 ls [.int v8, .int v8]) rfl ?_
  refine lv_icmp_eq (tgt := 792) hx hb d_Law_law_707 (by decide) (fun _ => ?_) (fun z => absurd rfl z)
  refine W.widen (k := cells + 3) (n := slots + 1574) (by omega) (by omega) ?_
  exact kk H2 locs2 hw2
set_option maxHeartbeats 4000000 in
set_option maxRecDepth 100000 in
theorem lwc_power (K : lw_K p s m c b L xs D cA te mi) (hi : i + 5 ≤ L) (hk : k < 600) (hl : lv_has ls 4 [(3, .int (nI i)), (2, .ref Y), (1, .ref X), (0, .ref b)]) (hz : zWd s D cA te X Y k H locs) (hc : cells + 3 ≤ 600000) (hs : slots + 1574 ≤ 7302250) (kk : ∀ (H1 : Heap) (locs1 : List Loc), zWd s D cA te X Y (k + 1) H1 locs1 → W p l e room_1 s m #[Value.ref b] below meth c H1 locs1 (cells + 3) (slots + 1574) Q (F0 m 792 ls [])) : W p l e room_1 s m #[Value.ref b] below meth c H locs cells slots Q (F0 m 712 ls []) := by
  obtain ⟨hx, hb, hml, hown, hts, hX, hbl, hSc, hE, hL⟩ := K
  have hw : ∀ {w : Cond}, w ∈ zw → w.before #[Value.ref b] s = true := fun h => hts _ (List.mem_cons_of_mem _ h)
  refine lv_aload_n hx hb d_Law_law_712 rfl (lv_at hl 2 rfl) ?_
  refine zl_arg (j := 1) hx hb hX hbl hz.S hl (by omega) hL d_Law_law_713 d_Law_law_714 d_Law_law_715 (by decide) d_Law_law_716 d_Law_law_717 ?_
  refine zr_1 (As := ([.int (xs (i + 1))] : List Value)) (rest := []) (X := X) (Y := Y) (y := y_Rec_power) (ws := w_Rec_power) (rm := { frames := 2, cells := 0, slots := 0, locals := 41 }) (mc := 0) (ms := 0) (y2 := y_Mod_power) (w2 := w_Mod_power) (rm2 := { frames := 0, cells := 0, slots := 0, locals := 0 }) (fun V => ∃ v8 : Int32, V = some (.int v8)) ⟨hx, hb, hml, hown, hts⟩ hz (fun kd ln I L R kd' ln' I' L' R' a9 e9 ad c9 d9 g9 m9 q9 h1 h2 h3 => ?_) ⟨(callB_of 1 hts (zg_all zw_548) rfl rfl rfl (hw zw_1) (hw zw_545) k_Rec_power.2 ⟨Nat.le_of_ble_eq_true rfl, Nat.le_of_ble_eq_true rfl⟩), hw zw_546, hw zw_547⟩ hSc hE rfl hl.1 rfl (Nat.le_of_ble_eq_true rfl) d_Law_law_718 ⟨show cells + 0 ≤ 600000 by omega, show slots + 0 ≤ 7302250 by omega⟩ (fun V H1 locs1 hP hm => ?_)
  · obtain ⟨v8, h⟩ := zl_power (l := l) (D := D) (cA := cA) (mi := mi) h1 hk h2 h3 (xs (i + 1))
    exact ⟨_, ⟨v8, rfl⟩, h⟩
  obtain ⟨v8, rfl⟩ := hP
  refine W.eq (g2 := F0 m 721 ls [.int v8]) rfl ?_
  refine lv_aload_n hx hb d_Law_law_721 rfl (lv_at hl 1 rfl) ?_
  refine zl_arg (j := 1) hx hb hX hbl hm.S hl (by omega) hL d_Law_law_722 d_Law_law_723 d_Law_law_724 (by decide) d_Law_law_725 d_Law_law_726 ?_
  refine zr_2 (As := ([.int (xs (i + 1))] : List Value)) (rest := [.int v8]) ⟨hx, hb, hml, hown, hts⟩ hm ⟨(callB_of 1 hts (zg_all zw_729) rfl rfl rfl (hw zw_3) (hw zw_726) k_Mod_power.2 ⟨Nat.le_of_ble_eq_true rfl, Nat.le_of_ble_eq_true rfl⟩), hw zw_727, hw zw_728⟩ hSc hE rfl hl.1 rfl (Nat.le_of_ble_eq_true rfl) d_Law_law_727 ⟨show cells + 0 + 0 ≤ 600000 by omega, show slots + 0 + 0 ≤ 7302250 by omega⟩ (fun H2 locs2 hw2 => ?_)
  refine W.eq (g2 := F0 m 730 ls [.int v8, .int v8]) rfl ?_
  refine lv_icmp_eq (tgt := 792) hx hb d_Law_law_730 (by decide) (fun _ => ?_) (fun z => absurd rfl z)
  refine W.widen (k := cells + 3) (n := slots + 1574) (by omega) (by omega) ?_
  exact kk H2 locs2 hw2
set_option maxHeartbeats 4000000 in
set_option maxRecDepth 100000 in
theorem lwc_checkpoint (K : lw_K p s m c b L xs D cA te mi) (hi : i + 5 ≤ L) (hk : k < 600) (hl : lv_has ls 4 [(3, .int (nI i)), (2, .ref Y), (1, .ref X), (0, .ref b)]) (hz : zWd s D cA te X Y k H locs) (hc : cells + 3 ≤ 600000) (hs : slots + 1574 ≤ 7302250) (kk : ∀ (H1 : Heap) (locs1 : List Loc), zWd s D cA te X Y (k + 1) H1 locs1 → W p l e room_1 s m #[Value.ref b] below meth c H1 locs1 (cells + 3) (slots + 1574) Q (F0 m 792 ls [])) : W p l e room_1 s m #[Value.ref b] below meth c H locs cells slots Q (F0 m 735 ls []) := by
  obtain ⟨hx, hb, hml, hown, hts, hX, hbl, hSc, hE, hL⟩ := K
  have hw : ∀ {w : Cond}, w ∈ zw → w.before #[Value.ref b] s = true := fun h => hts _ (List.mem_cons_of_mem _ h)
  refine lv_aload_n hx hb d_Law_law_735 rfl (lv_at hl 2 rfl) ?_
  refine zl_arg (j := 1) hx hb hX hbl hz.S hl (by omega) hL d_Law_law_736 d_Law_law_737 d_Law_law_738 (by decide) d_Law_law_739 d_Law_law_740 ?_
  refine zr_1 (As := ([.int (xs (i + 1))] : List Value)) (rest := []) (X := X) (Y := Y) (y := y_Rec_checkpoint) (ws := w_Rec_checkpoint) (rm := { frames := 5, cells := 0, slots := 0, locals := 110 }) (mc := 0) (ms := 0) (y2 := y_Mod_checkpoint) (w2 := w_Mod_checkpoint) (rm2 := { frames := 2, cells := 0, slots := 0, locals := 46 }) (fun V => ∃ v8 : Int32, V = some (.int v8)) ⟨hx, hb, hml, hown, hts⟩ hz (fun kd ln I L R kd' ln' I' L' R' a9 e9 ad c9 d9 g9 m9 q9 h1 h2 h3 => ?_) ⟨(callB_of 1 hts (zg_all zw_556) rfl rfl rfl (hw zw_1) (hw zw_553) k_Rec_checkpoint.2 ⟨Nat.le_of_ble_eq_true rfl, Nat.le_of_ble_eq_true rfl⟩), hw zw_554, hw zw_555⟩ hSc hE rfl hl.1 rfl (Nat.le_of_ble_eq_true rfl) d_Law_law_741 ⟨show cells + 0 ≤ 600000 by omega, show slots + 0 ≤ 7302250 by omega⟩ (fun V H1 locs1 hP hm => ?_)
  · obtain ⟨v8, h⟩ := zl_checkpoint (l := l) (D := D) (cA := cA) (mi := mi) h1 hk h2 h3 (xs (i + 1))
    exact ⟨_, ⟨v8, rfl⟩, h⟩
  obtain ⟨v8, rfl⟩ := hP
  refine W.eq (g2 := F0 m 744 ls [.int v8]) rfl ?_
  refine lv_aload_n hx hb d_Law_law_744 rfl (lv_at hl 1 rfl) ?_
  refine zl_arg (j := 1) hx hb hX hbl hm.S hl (by omega) hL d_Law_law_745 d_Law_law_746 d_Law_law_747 (by decide) d_Law_law_748 d_Law_law_749 ?_
  refine zr_2 (As := ([.int (xs (i + 1))] : List Value)) (rest := [.int v8]) ⟨hx, hb, hml, hown, hts⟩ hm ⟨(callB_of 1 hts (zg_all zw_841) rfl rfl rfl (hw zw_3) (hw zw_838) k_Mod_checkpoint.2 ⟨Nat.le_of_ble_eq_true rfl, Nat.le_of_ble_eq_true rfl⟩), hw zw_839, hw zw_840⟩ hSc hE rfl hl.1 rfl (Nat.le_of_ble_eq_true rfl) d_Law_law_750 ⟨show cells + 0 + 0 ≤ 600000 by omega, show slots + 0 + 0 ≤ 7302250 by omega⟩ (fun H2 locs2 hw2 => ?_)
  refine W.eq (g2 := F0 m 753 ls [.int v8, .int v8]) rfl ?_
  refine lv_icmp_eq (tgt := 792) hx hb d_Law_law_753 (by decide) (fun _ => ?_) (fun z => absurd rfl z)
  refine W.widen (k := cells + 3) (n := slots + 1574) (by omega) (by omega) ?_
  exact kk H2 locs2 hw2
set_option maxHeartbeats 4000000 in
set_option maxRecDepth 100000 in
theorem lwc_reset (K : lw_K p s m c b L xs D cA te mi) (hi : i + 5 ≤ L) (hk : k < 600) (hl : lv_has ls 4 [(3, .int (nI i)), (2, .ref Y), (1, .ref X), (0, .ref b)]) (hz : zWd s D cA te X Y k H locs) (hc : cells + 3 ≤ 600000) (hs : slots + 1574 ≤ 7302250) (kk : ∀ (H1 : Heap) (locs1 : List Loc), zWd s D cA te X Y (k + 1) H1 locs1 → W p l e room_1 s m #[Value.ref b] below meth c H1 locs1 (cells + 3) (slots + 1574) Q (F0 m 792 ls [])) : W p l e room_1 s m #[Value.ref b] below meth c H locs cells slots Q (F0 m 758 ls []) := by
  obtain ⟨hx, hb, hml, hown, hts, hX, hbl, hSc, hE, hL⟩ := K
  have hw : ∀ {w : Cond}, w ∈ zw → w.before #[Value.ref b] s = true := fun h => hts _ (List.mem_cons_of_mem _ h)
  refine lv_aload_n hx hb d_Law_law_758 rfl (lv_at hl 2 rfl) ?_
  refine zr_1 (As := ([] : List Value)) (rest := []) (X := X) (Y := Y) (y := y_Rec_reset) (ws := w_Rec_reset) (rm := { frames := 4, cells := 0, slots := 0, locals := 86 }) (mc := 0) (ms := 0) (y2 := y_Mod_reset) (w2 := w_Mod_reset) (rm2 := { frames := 1, cells := 0, slots := 0, locals := 24 }) (fun V => V = none) ⟨hx, hb, hml, hown, hts⟩ hz (fun kd ln I L R kd' ln' I' L' R' a9 e9 ad c9 d9 g9 m9 q9 h1 h2 h3 => ?_) ⟨(callB_of 0 hts (zg_all zw_568) rfl rfl rfl (hw zw_1) (hw zw_565) k_Rec_reset.2 ⟨Nat.le_of_ble_eq_true rfl, Nat.le_of_ble_eq_true rfl⟩), hw zw_566, hw zw_567⟩ hSc hE rfl hl.1 rfl (Nat.le_of_ble_eq_true rfl) d_Law_law_759 ⟨show cells + 0 ≤ 600000 by omega, show slots + 0 ≤ 7302250 by omega⟩ (fun V H1 locs1 hP hm => ?_)
  · exact ⟨_, rfl, zl_reset (l := l) (D := D) (cA := cA) (mi := mi) h1 hk h2 h3⟩
  subst hP
  refine W.eq (g2 := F0 m 762 ls []) rfl ?_
  refine lv_aload_n hx hb d_Law_law_762 rfl (lv_at hl 1 rfl) ?_
  refine zr_2 (As := ([] : List Value)) (rest := []) ⟨hx, hb, hml, hown, hts⟩ hm ⟨(callB_of 0 hts (zg_all zw_849) rfl rfl rfl (hw zw_3) (hw zw_846) k_Mod_reset.2 ⟨Nat.le_of_ble_eq_true rfl, Nat.le_of_ble_eq_true rfl⟩), hw zw_847, hw zw_848⟩ hSc hE rfl hl.1 rfl (Nat.le_of_ble_eq_true rfl) d_Law_law_763 ⟨show cells + 0 + 0 ≤ 600000 by omega, show slots + 0 + 0 ≤ 7302250 by omega⟩ (fun H2 locs2 hw2 => ?_)
  refine W.eq (g2 := F0 m 766 ls []) rfl ?_
  refine lv_goto (tgt := 792) hx hb d_Law_law_766 (by decide) ?_
  refine W.widen (k := cells + 3) (n := slots + 1574) (by omega) (by omega) ?_
  exact kk H2 locs2 hw2
set_option maxHeartbeats 4000000 in
set_option maxRecDepth 100000 in
theorem lwc_told (K : lw_K p s m c b L xs D cA te mi) (hi : i + 5 ≤ L) (hk : k < 600) (hl : lv_has ls 4 [(3, .int (nI i)), (2, .ref Y), (1, .ref X), (0, .ref b)]) (hz : zWd s D cA te X Y k H locs) (hc : cells + 3 ≤ 600000) (hs : slots + 1574 ≤ 7302250) (kk : ∀ (H1 : Heap) (locs1 : List Loc), zWd s D cA te X Y (k + 1) H1 locs1 → W p l e room_1 s m #[Value.ref b] below meth c H1 locs1 (cells + 3) (slots + 1574) Q (F0 m 792 ls [])) : W p l e room_1 s m #[Value.ref b] below meth c H locs cells slots Q (F0 m 769 ls []) := by
  obtain ⟨hx, hb, hml, hown, hts, hX, hbl, hSc, hE, hL⟩ := K
  have hw : ∀ {w : Cond}, w ∈ zw → w.before #[Value.ref b] s = true := fun h => hts _ (List.mem_cons_of_mem _ h)
  refine lv_aload_n hx hb d_Law_law_769 rfl (lv_at hl 2 rfl) ?_
  refine zl_arg (j := 1) hx hb hX hbl hz.S hl (by omega) hL d_Law_law_770 d_Law_law_771 d_Law_law_772 (by decide) d_Law_law_773 d_Law_law_774 ?_
  refine zr_1 (As := ([.int (xs (i + 1))] : List Value)) (rest := []) (X := X) (Y := Y) (y := y_Rec_told) (ws := w_Rec_told) (rm := { frames := 1, cells := 0, slots := 0, locals := 22 }) (mc := 0) (ms := 0) (y2 := y_Mod_told) (w2 := w_Mod_told) (rm2 := { frames := 1, cells := 0, slots := 0, locals := 23 }) (fun V => ∃ v8 : Int32, V = some (.int v8)) ⟨hx, hb, hml, hown, hts⟩ hz (fun kd ln I L R kd' ln' I' L' R' a9 e9 ad c9 d9 g9 m9 q9 h1 h2 h3 => ?_) ⟨(callB_of 1 hts (zg_all zw_580) rfl rfl rfl (hw zw_1) (hw zw_577) k_Rec_told.2 ⟨Nat.le_of_ble_eq_true rfl, Nat.le_of_ble_eq_true rfl⟩), hw zw_578, hw zw_579⟩ hSc hE rfl hl.1 rfl (Nat.le_of_ble_eq_true rfl) d_Law_law_775 ⟨show cells + 0 ≤ 600000 by omega, show slots + 0 ≤ 7302250 by omega⟩ (fun V H1 locs1 hP hm => ?_)
  · obtain ⟨v8, h⟩ := zl_told (l := l) (D := D) (cA := cA) (mi := mi) h1 hk h2 h3 (xs (i + 1))
    exact ⟨_, ⟨v8, rfl⟩, h⟩
  obtain ⟨v8, rfl⟩ := hP
  refine W.eq (g2 := F0 m 778 ls [.int v8]) rfl ?_
  refine lv_aload_n hx hb d_Law_law_778 rfl (lv_at hl 1 rfl) ?_
  refine zl_arg (j := 1) hx hb hX hbl hm.S hl (by omega) hL d_Law_law_779 d_Law_law_780 d_Law_law_781 (by decide) d_Law_law_782 d_Law_law_783 ?_
  refine zr_2 (As := ([.int (xs (i + 1))] : List Value)) (rest := [.int v8]) ⟨hx, hb, hml, hown, hts⟩ hm ⟨(callB_of 1 hts (zg_all zw_857) rfl rfl rfl (hw zw_3) (hw zw_854) k_Mod_told.2 ⟨Nat.le_of_ble_eq_true rfl, Nat.le_of_ble_eq_true rfl⟩), hw zw_855, hw zw_856⟩ hSc hE rfl hl.1 rfl (Nat.le_of_ble_eq_true rfl) d_Law_law_784 ⟨show cells + 0 + 0 ≤ 600000 by omega, show slots + 0 + 0 ≤ 7302250 by omega⟩ (fun H2 locs2 hw2 => ?_)
  refine W.eq (g2 := F0 m 787 ls [.int v8, .int v8]) rfl ?_
  refine lv_icmp_eq (tgt := 792) hx hb d_Law_law_787 (by decide) (fun _ => ?_) (fun z => absurd rfl z)
  refine W.widen (k := cells + 3) (n := slots + 1574) (by omega) (by omega) ?_
  exact kk H2 locs2 hw2
end LWC
