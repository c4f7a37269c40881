def zb_mod (x : Int32) : Int32 := if x < nI 0 then nI 0 else if x < nI 6 then nI 1 else nI 0
/-- is word v of module m missing, where the lost module is lm and its first lost row fr -/
def zb_mis (lm fr : Int32) (m v : Nat) : Int32 := if nI m = lm then (if nI (v / 16) < fr then nI 0 else nI 1) else nI 0
def zb_two (f : Nat → Int64) (m v : Nat) : Int32 := if zb_cnt (f (m * 128 + v)) = nI 2 then nI 1 else nI 0
/-- of the modules from 6 - k on: can the others mend word v of module m -/
def zb_ocm (lm fr : Int32) (f : Nat → Int64) (m v : Nat) : Nat → Int32
  | 0 => nI 1
  | k + 1 => if 5 - k = m then zb_ocm lm fr f m v k else if zb_mis lm fr (5 - k) v = nI 0 then (if zb_two f (5 - k) v = nI 0 then zb_ocm lm fr f m v k else nI 0) else nI 0
theorem zb_ocm_s {lm fr : Int32} {f : Nat → Int64} {m v o : Nat} (h : o < 6) : zb_ocm lm fr f m v (6 - o) = if o = m then zb_ocm lm fr f m v (6 - (o + 1)) else if zb_mis lm fr o v = nI 0 then (if zb_two f o v = nI 0 then zb_ocm lm fr f m v (6 - (o + 1)) else nI 0) else nI 0 := by
  obtain ⟨k, hk⟩ : ∃ k, 6 - o = k + 1 := ⟨5 - o, by omega⟩
  have e1 : 6 - (o + 1) = k := by omega
  have e2 : 5 - k = o := by omega
  rw [hk, e1, zb_ocm, e2]

set_option maxHeartbeats 4000000 in
set_option maxRecDepth 100000 in
/-- Memory.isModule -/
theorem c_Mem_isModule {l : Launch} {D : va_G} {cA : Nat → ClassId} {te mi : Nat} {kd ln : Nat → Nat} {I : Nat → Nat → Int32} {L : Nat → Nat → Int64} {R : Nat → Nat → Option Nat} {x : Int32} : zc_M l y_Mem_isModule w_Mem_isModule { frames := 0, cells := 0, slots := 0, locals := 0 } 0 0 D cA te mi ([.int x] : List Value) kd ln I L R (zc_eq (some (.int (zb_mod x))) kd ln I L R) := by
  intro sz
  refine Met.ofW (cc := b_Mem_isModule) (maxL := 1) (ret := (some (.boolean))) (by decide +kernel) rfl ?_
  intro p e s m args below meth c s₁ B hml hv
  obtain ⟨rfl, hsz, hSc, hE, hH⟩ := hv
  have hx := B.exec
  have hb := B.bytes
  have hr := B.returns
  have hts := atoms_spec (ws := w_Mem_isModule) B.pre
  have hw : ∀ {w : Cond}, w ∈ zw → w.before ([.int x] : List Value).toArray s = true := fun h => hts _ (List.mem_cons_of_mem _ h)
  have hown : s.vm.findClass R_Mem = some m.cls := findClass_of_methodNamed B.named
  have hlocks := B.notSynchronized
  subst hsz
  have hK := hSc.1
  have hH : zh_H D cA (zc_A kd s.heap.size) kd ln I L R s.heap := hH.weaken (fun q h _ => Or.inl h)
  generalize hAe : zc_A kd s.heap.size = A at hH hE ⊢
  have hA : ∀ q : Nat, s.heap.size ≤ q → A q := fun q h => by rw [← hAe]; exact Or.inr h
  have hS : va_S A s.heap s.heap [] := va_S.rf
  have hl := lv_entry ([.int x] : List Value) (n := 1) (Nat.le_of_ble_eq_true rfl)
  rw [lg_entry_eq]
  generalize (lg_sl ([.int x] : List Value) ++ List.replicate (1 - (lg_sl ([.int x] : List Value)).length) Slot.unset).toArray = ls at hl ⊢
  have hl : lv_has ls 1 [(0, .int x)] := hl
  refine lv_iload_n hx hb d_Mem_isModule_0 rfl (lv_at hl 0 rfl) ?_
  refine lv_if_lt (tgt := 14) hx hb d_Mem_isModule_1 (by decide) (fun hc1 => ?_) (fun hc1 => ?_)
  · skip
    have hc1 : x < (nI 0) := hc1
    refine lv_iconst (v := nI 0) hx hb d_Mem_isModule_14 (by decide) ?_
    refine W.widen (k := 0) (n := 0) (Nat.le_of_ble_eq_true rfl) (Nat.le_of_ble_eq_true rfl) ?_
    subst hAe
    exact W.zret (v := nI 0) hx hb hr (by decide +kernel) (fun t ht hW => zc_end hS hH ht (⟨by rw [zb_mod, if_pos hc1], rfl, rfl, rfl, rfl, rfl⟩)) hS.2.2 d_Mem_isModule_15
  · skip
    have hc1 : ¬ x < (nI 0) := hc1
    refine lv_iload_n hx hb d_Mem_isModule_4 rfl (lv_at hl 0 rfl) ?_
    refine lv_bipush (v := nI 6) hx hb d_Mem_isModule_5 (by decide) ?_
    refine lv_icmp_ge (tgt := 14) hx hb d_Mem_isModule_7 (by decide) (fun hc2 => ?_) (fun hc2 => ?_)
    · skip
      have hc2 : ¬ x < (nI 6) := Int32.not_lt.mpr hc2
      refine lv_iconst (v := nI 0) hx hb d_Mem_isModule_14 (by decide) ?_
      refine W.widen (k := 0) (n := 0) (Nat.le_of_ble_eq_true rfl) (Nat.le_of_ble_eq_true rfl) ?_
      subst hAe
      exact W.zret (v := nI 0) hx hb hr (by decide +kernel) (fun t ht hW => zc_end hS hH ht (⟨by rw [zb_mod, if_neg hc1, if_neg hc2], rfl, rfl, rfl, rfl, rfl⟩)) hS.2.2 d_Mem_isModule_15
    · skip
      have hc2 : x < (nI 6) := Int32.not_le.mp hc2
      refine lv_iconst (v := nI 1) hx hb d_Mem_isModule_10 (by decide) ?_
      refine lv_goto (tgt := 15) hx hb d_Mem_isModule_11 (by decide) ?_
      refine W.widen (k := 0) (n := 0) (Nat.le_of_ble_eq_true rfl) (Nat.le_of_ble_eq_true rfl) ?_
      subst hAe
      exact W.zret (v := nI 1) hx hb hr (by decide +kernel) (fun t ht hW => zc_end hS hH ht (⟨by rw [zb_mod, if_neg hc1, if_pos hc2], rfl, rfl, rfl, rfl, rfl⟩)) hS.2.2 d_Mem_isModule_15

set_option maxHeartbeats 4000000 in
set_option maxRecDepth 100000 in
/-- Memory.isMissing -/
theorem c_Mem_isMissing {l : Launch} {D : va_G} {cA : Nat → ClassId} {te mi : Nat} {kd ln : Nat → Nat} {I : Nat → Nat → Int32} {L : Nat → Nat → Int64} {R : Nat → Nat → Option Nat} {M m9 v : Nat} (m0 : kd M = 2) (hv9 : v < 2 ^ 31) : zc_M l y_Mem_isMissing w_Mem_isMissing { frames := 0, cells := 0, slots := 0, locals := 0 } 0 0 D cA te mi ([.ref M, .int (nI m9), .int (nI v)] : List Value) kd ln I L R (zc_eq (some (.int (zb_mis (I M 2) (I M 4) m9 v))) kd ln I L R) := by
  intro sz
  refine Met.ofW (cc := b_Mem_isMissing) (maxL := 3) (ret := (some (.boolean))) (by decide +kernel) rfl ?_
  intro p e s m args below meth c s₁ B hml hv
  obtain ⟨rfl, hsz, hSc, hE, hH⟩ := hv
  have hx := B.exec
  have hb := B.bytes
  have hr := B.returns
  have hts := atoms_spec (ws := w_Mem_isMissing) B.pre
  have hw : ∀ {w : Cond}, w ∈ zw → w.before ([.ref M, .int (nI m9), .int (nI v)] : List Value).toArray s = true := fun h => hts _ (List.mem_cons_of_mem _ h)
  have hown : s.vm.findClass R_Mem = some m.cls := findClass_of_methodNamed B.named
  have hlocks := B.notSynchronized
  subst hsz
  have hK := hSc.1
  have hH : zh_H D cA (zc_A kd s.heap.size) kd ln I L R s.heap := hH.weaken (fun q h _ => Or.inl h)
  generalize hAe : zc_A kd s.heap.size = A at hH hE ⊢
  have hA : ∀ q : Nat, s.heap.size ≤ q → A q := fun q h => by rw [← hAe]; exact Or.inr h
  have hS : va_S A s.heap s.heap [] := va_S.rf
  have hl := lv_entry ([.ref M, .int (nI m9), .int (nI v)] : List Value) (n := 3) (Nat.le_of_ble_eq_true rfl)
  rw [lg_entry_eq]
  generalize (lg_sl ([.ref M, .int (nI m9), .int (nI v)] : List Value) ++ List.replicate (3 - (lg_sl ([.ref M, .int (nI m9), .int (nI v)] : List Value)).length) Slot.unset).toArray = ls at hl ⊢
  have hl : lv_has ls 3 [(0, .ref M), (1, .int (nI m9)), (2, .int (nI v))] := hl
  refine lv_iload_n hx hb d_Mem_isMissing_0 rfl (lv_at hl 1 rfl) ?_
  refine lv_aload_n hx hb d_Mem_isMissing_1 rfl (lv_at hl 0 rfl) ?_
  refine zr_geti (ci := 1) (C := R_Mem) (T := T_Mem) (N := 8) (ref := "ScrubbedRecorder$Memory") hx hb hts (fun w h => List.mem_cons_of_mem _ (zin_Mem w h)) hown hK hH m0 (by decide) rfl 2 (by decide) rfl (hw zw_33) (fun _ h9 => h9) d_Mem_isMissing_2 ?_
  refine lv_icmp_ne (tgt := 23) hx hb d_Mem_isMissing_5 (by decide) (fun hc1 => ?_) (fun hc1 => ?_)
  · skip
    have hc1 : ¬ (nI m9) = (I M 2) := hc1
    refine lv_iconst (v := nI 0) hx hb d_Mem_isMissing_23 (by decide) ?_
    refine W.widen (k := 0) (n := 0) (Nat.le_of_ble_eq_true rfl) (Nat.le_of_ble_eq_true rfl) ?_
    subst hAe
    exact W.zret (v := nI 0) hx hb hr (by decide +kernel) (fun t ht hW => zc_end hS hH ht (⟨by rw [zb_mis, if_neg hc1], rfl, rfl, rfl, rfl, rfl⟩)) hS.2.2 d_Mem_isMissing_24
  · skip
    have hc1 : (nI m9) = (I M 2) := hc1
    refine lv_iload_n hx hb d_Mem_isMissing_8 rfl (lv_at hl 2 rfl) ?_
    refine lv_bipush (v := nI 16) hx hb d_Mem_isMissing_9 (by decide) ?_
    refine lv_idiv hx hb d_Mem_isMissing_11 (zt_ne0 (by omega) (by omega)) ?_
    refine zt_i (y := nI (v / 16)) (pk_div (by omega) (by omega) (by omega)) ?_
    refine lv_aload_n hx hb d_Mem_isMissing_12 rfl (lv_at hl 0 rfl) ?_
    refine zr_geti (ci := 1) (C := R_Mem) (T := T_Mem) (N := 8) (ref := "ScrubbedRecorder$Memory") hx hb hts (fun w h => List.mem_cons_of_mem _ (zin_Mem w h)) hown hK hH m0 (by decide) rfl 4 (by decide) rfl (hw zw_35) (fun _ h9 => h9) d_Mem_isMissing_13 ?_
    refine lv_icmp_lt (tgt := 23) hx hb d_Mem_isMissing_16 (by decide) (fun hc2 => ?_) (fun hc2 => ?_)
    · skip
      have hc2 : (nI (v / 16)) < (I M 4) := hc2
      refine lv_iconst (v := nI 0) hx hb d_Mem_isMissing_23 (by decide) ?_
      refine W.widen (k := 0) (n := 0) (Nat.le_of_ble_eq_true rfl) (Nat.le_of_ble_eq_true rfl) ?_
      subst hAe
      exact W.zret (v := nI 0) hx hb hr (by decide +kernel) (fun t ht hW => zc_end hS hH ht (⟨by rw [zb_mis, if_pos hc1, if_pos hc2], rfl, rfl, rfl, rfl, rfl⟩)) hS.2.2 d_Mem_isMissing_24
    · skip
      have hc2 : ¬ (nI (v / 16)) < (I M 4) := hc2
      refine lv_iconst (v := nI 1) hx hb d_Mem_isMissing_19 (by decide) ?_
      refine lv_goto (tgt := 24) hx hb d_Mem_isMissing_20 (by decide) ?_
      refine W.widen (k := 0) (n := 0) (Nat.le_of_ble_eq_true rfl) (Nat.le_of_ble_eq_true rfl) ?_
      subst hAe
      exact W.zret (v := nI 1) hx hb hr (by decide +kernel) (fun t ht hW => zc_end hS hH ht (⟨by rw [zb_mis, if_pos hc1, if_neg hc2], rfl, rfl, rfl, rfl, rfl⟩)) hS.2.2 d_Mem_isMissing_24

set_option maxHeartbeats 4000000 in
set_option maxRecDepth 100000 in
/-- Memory.hasTwoFlips -/
theorem c_Mem_hasTwoFlips {l : Launch} {D : va_G} {cA : Nat → ClassId} {te mi : Nat} {kd ln : Nat → Nat} {I : Nat → Nat → Int32} {L : Nat → Nat → Int64} {R : Nat → Nat → Option Nat} {M F C : Nat} (m0 : kd M = 2) (m1 : R M 0 = some F) (m2 : R M 1 = some C) (m3 : kd F = 101) (m4 : ln F = 768) (m5 : kd C = 103) (m6 : ln C = 40) {m9 v : Nat} (hm9 : m9 < 6) (hv9 : v < 128) : zc_M l y_Mem_hasTwoFlips w_Mem_hasTwoFlips { frames := 1, cells := 0, slots := 0, locals := 21 } 0 0 D cA te mi ([.ref M, .int (nI m9), .int (nI v)] : List Value) kd ln I L R (zc_eq (some (.int (zb_two (L F) m9 v))) kd ln I L R) := by
  intro sz
  refine Met.ofW (cc := b_Mem_hasTwoFlips) (maxL := 3) (ret := (some (.boolean))) (by decide +kernel) rfl ?_
  intro p e s m args below meth c s₁ B hml hv
  obtain ⟨rfl, hsz, hSc, hE, hH⟩ := hv
  have hx := B.exec
  have hb := B.bytes
  have hr := B.returns
  have hts := atoms_spec (ws := w_Mem_hasTwoFlips) B.pre
  have hw : ∀ {w : Cond}, w ∈ zw → w.before ([.ref M, .int (nI m9), .int (nI v)] : List Value).toArray s = true := fun h => hts _ (List.mem_cons_of_mem _ h)
  have hown : s.vm.findClass R_Mem = some m.cls := findClass_of_methodNamed B.named
  have hlocks := B.notSynchronized
  subst hsz
  have hK := hSc.1
  have hH : zh_H D cA (zc_A kd s.heap.size) kd ln I L R s.heap := hH.weaken (fun q h _ => Or.inl h)
  generalize hAe : zc_A kd s.heap.size = A at hH hE ⊢
  have hA : ∀ q : Nat, s.heap.size ≤ q → A q := fun q h => by rw [← hAe]; exact Or.inr h
  have hS : va_S A s.heap s.heap [] := va_S.rf
  have hl := lv_entry ([.ref M, .int (nI m9), .int (nI v)] : List Value) (n := 3) (Nat.le_of_ble_eq_true rfl)
  rw [lg_entry_eq]
  generalize (lg_sl ([.ref M, .int (nI m9), .int (nI v)] : List Value) ++ List.replicate (3 - (lg_sl ([.ref M, .int (nI m9), .int (nI v)] : List Value)).length) Slot.unset).toArray = ls at hl ⊢
  have hl : lv_has ls 3 [(0, .ref M), (1, .int (nI m9)), (2, .int (nI v))] := hl
  refine lv_aload_n hx hb d_Mem_hasTwoFlips_0 rfl (lv_at hl 0 rfl) ?_
  refine zr_getr (ci := 1) (C := R_Mem) (T := T_Mem) (N := 8) (ref := "ScrubbedRecorder$Memory") hx hb hts (fun w h => List.mem_cons_of_mem _ (zin_Mem w h)) hown hK hH m0 (by decide) rfl 0 (by decide) rfl (hw zw_31) (fun _ h9 => h9) d_Mem_hasTwoFlips_1 (by rw [m1]) ?_
  refine lv_iload_n hx hb d_Mem_hasTwoFlips_4 rfl (lv_at hl 1 rfl) ?_
  refine lv_sipush (v := nI 128) hx hb d_Mem_hasTwoFlips_5 (by decide) ?_
  refine lv_imul hx hb d_Mem_hasTwoFlips_8 ?_
  refine zt_i (y := nI (m9 * 128)) (pk_mul m9 128) ?_
  refine lv_iload_n hx hb d_Mem_hasTwoFlips_9 rfl (lv_at hl 2 rfl) ?_
  refine lv_iadd hx hb d_Mem_hasTwoFlips_10 ?_
  refine zt_i (y := nI (m9 * 128 + v)) (nI_add (m9 * 128) v) ?_
  refine zr_aldl (j := m9 * 128 + v) hx hb hK hH m3 (by rw [m4]; exact zh_ix_n (by omega) (by omega)) d_Mem_hasTwoFlips_11 ?_
  refine zr_St (As := ([.long (L F (m9 * 128 + v))] : List Value)) (rest := []) ⟨hx, hb, hml, hown, hts⟩ c_Lng_bitCount ⟨(callB_of 1 hts (zg_all zw_506) rfl rfl rfl (hw zw_16) (hw zw_504) k_Lng_bitCount.2 ⟨Nat.le_of_ble_eq_true rfl, Nat.le_of_ble_eq_true rfl⟩), hw zw_505⟩ hSc hE hH hS hA rfl hl.1 rfl (Nat.le_of_ble_eq_true rfl) d_Mem_hasTwoFlips_12 ⟨Nat.le_of_ble_eq_true rfl, Nat.le_of_ble_eq_true rfl⟩ (fun v1 kd1 ln1 I1 L1 R1 H locs hp hH hS => ?_)
  obtain ⟨rfl, rfl, rfl, rfl, rfl, rfl⟩ := hp
  refine W.eq (g2 := F0 m 15 ls [.int (zb_cnt (L F (m9 * 128 + v)))]) rfl ?_
  refine W.widen (k := 0) (n := 0) (by omega) (by omega) ?_
  refine lv_iconst (v := nI 2) hx hb d_Mem_hasTwoFlips_15 (by decide) ?_
  refine lv_icmp_ne (tgt := 23) hx hb d_Mem_hasTwoFlips_16 (by decide) (fun hc2 => ?_) (fun hc2 => ?_)
  · skip
    have hc2 : ¬ (zb_cnt (L F (m9 * 128 + v))) = (nI 2) := hc2
    refine lv_iconst (v := nI 0) hx hb d_Mem_hasTwoFlips_23 (by decide) ?_
    refine W.widen (k := 0) (n := 0) (Nat.le_of_ble_eq_true rfl) (Nat.le_of_ble_eq_true rfl) ?_
    subst hAe
    exact W.zret (v := nI 0) hx hb hr (by decide +kernel) (fun t ht hW => zc_end hS hH ht (⟨by rw [zb_two, if_neg hc2], rfl, rfl, rfl, rfl, rfl⟩)) hS.2.2 d_Mem_hasTwoFlips_24
  · skip
    have hc2 : (zb_cnt (L F (m9 * 128 + v))) = (nI 2) := hc2
    refine lv_iconst (v := nI 1) hx hb d_Mem_hasTwoFlips_19 (by decide) ?_
    refine lv_goto (tgt := 24) hx hb d_Mem_hasTwoFlips_20 (by decide) ?_
    refine W.widen (k := 0) (n := 0) (Nat.le_of_ble_eq_true rfl) (Nat.le_of_ble_eq_true rfl) ?_
    subst hAe
    exact W.zret (v := nI 1) hx hb hr (by decide +kernel) (fun t ht hW => zc_end hS hH ht (⟨by rw [zb_two, if_pos hc2], rfl, rfl, rfl, rfl, rfl⟩)) hS.2.2 d_Mem_hasTwoFlips_24

set_option maxHeartbeats 4000000 in
set_option maxRecDepth 100000 in
/-- Memory.othersCanMend -/
theorem c_Mem_othersCanMend {l : Launch} {D : va_G} {cA : Nat → ClassId} {te mi : Nat} {kd ln : Nat → Nat} {I : Nat → Nat → Int32} {L : Nat → Nat → Int64} {R : Nat → Nat → Option Nat} {M F C : Nat} (m0 : kd M = 2) (m1 : R M 0 = some F) (m2 : R M 1 = some C) (m3 : kd F = 101) (m4 : ln F = 768) (m5 : kd C = 103) (m6 : ln C = 40) {m9 v : Nat} (hm9 : m9 < 6) (hv9 : v < 128) : zc_M l y_Mem_othersCanMend w_Mem_othersCanMend { frames := 2, cells := 0, slots := 0, locals := 43 } 0 0 D cA te mi ([.ref M, .int (nI m9), .int (nI v)] : List Value) kd ln I L R (zc_eq (some (.int (zb_ocm (I M 2) (I M 4) (L F) m9 v 6))) kd ln I L R) := by
  intro sz
  refine Met.ofW (cc := b_Mem_othersCanMend) (maxL := 4) (ret := (some (.boolean))) (by decide +kernel) rfl ?_
  intro p e s m args below meth c s₁ B hml hv
  obtain ⟨rfl, hsz, hSc, hE, hH⟩ := hv
  have hx := B.exec
  have hb := B.bytes
  have hr := B.returns
  have hts := atoms_spec (ws := w_Mem_othersCanMend) B.pre
  have hw : ∀ {w : Cond}, w ∈ zw → w.before ([.ref M, .int (nI m9), .int (nI v)] : List Value).toArray s = true := fun h => hts _ (List.mem_cons_of_mem _ h)
  have hown : s.vm.findClass R_Mem = some m.cls := findClass_of_methodNamed B.named
  have hlocks := B.notSynchronized
  subst hsz
  have hK := hSc.1
  have hH : zh_H D cA (zc_A kd s.heap.size) kd ln I L R s.heap := hH.weaken (fun q h _ => Or.inl h)
  generalize hAe : zc_A kd s.heap.size = A at hH hE ⊢
  have hA : ∀ q : Nat, s.heap.size ≤ q → A q := fun q h => by rw [← hAe]; exact Or.inr h
  have hS : va_S A s.heap s.heap [] := va_S.rf
  have hl := lv_entry ([.ref M, .int (nI m9), .int (nI v)] : List Value) (n := 4) (Nat.le_of_ble_eq_true rfl)
  rw [lg_entry_eq]
  generalize (lg_sl ([.ref M, .int (nI m9), .int (nI v)] : List Value) ++ List.replicate (4 - (lg_sl ([.ref M, .int (nI m9), .int (nI v)] : List Value)).length) Slot.unset).toArray = ls at hl ⊢
  have hl : lv_has ls 4 [(0, .ref M), (1, .int (nI m9)), (2, .int (nI v))] := hl
  refine lv_iconst (v := nI 0) hx hb d_Mem_othersCanMend_0 (by decide) ?_
  refine lv_istore_n (lv' := [(3, .int (nI 0)), (0, .ref M), (1, .int (nI m9)), (2, .int (nI v))]) hx hb d_Mem_othersCanMend_1 rfl hl (by decide) rfl (fun ls hl => ?_)
  have loop_2 : ∀ (z : Nat) (o : Nat) (H : Heap) (locs : List Loc) (ls : Array Slot), 6 - o < z → (o ≤ 6) → (zb_ocm (I M 2) (I M 4) (L F) m9 v (6 - o) = zb_ocm (I M 2) (I M 4) (L F) m9 v 6) → lv_has ls 4 [(0, .ref M), (1, .int (nI m9)), (2, .int (nI v)), (3, .int (nI o))] → zh_H D cA A kd ln I L R H → va_S A s.heap H locs → W p l e (headSpec w_Mem_othersCanMend { frames := 2, cells := 0, slots := 0, locals := 43 }).room s m ([.ref M, .int (nI m9), .int (nI v)] : List Value).toArray below meth c H locs 0 0 (MQ below (zc_Qc D cA A (zc_eq (some (.int (zb_ocm (I M 2) (I M 4) (L F) m9 v 6))) kd ln I L R)) ([.ref M, .int (nI m9), .int (nI v)] : List Value).toArray s 0 0 A) (F0 m 2 ls []) := by
    intro z
    induction z with
    | zero => intro o H locs ls hz; exact absurd hz (Nat.not_lt_zero _)
    | succ z ih_2 =>
      intro o H locs ls hz_2 ho hg hl hH hS
      refine lv_iload_n hx hb d_Mem_othersCanMend_2 rfl (lv_at hl 3 rfl) ?_
      refine lv_bipush (v := nI 6) hx hb d_Mem_othersCanMend_3 (by decide) ?_
      refine lv_icmp_ge (tgt := 39) hx hb d_Mem_othersCanMend_5 (by decide) (fun hc1 => ?_) (fun hc1 => ?_)
      · skip
        have hc1 := zt_geT (a := o) (b := 6) (by omega) (by omega) hc1
        refine lv_iconst (v := nI 1) hx hb d_Mem_othersCanMend_39 (by decide) ?_
        refine W.widen (k := 0) (n := 0) (Nat.le_of_ble_eq_true rfl) (Nat.le_of_ble_eq_true rfl) ?_
        subst hAe
        exact W.zret (v := nI 1) hx hb hr (by decide +kernel) (fun t ht hW => zc_end hS hH ht (⟨by rw [← hg, show 6 - o = 0 by omega]; rfl, rfl, rfl, rfl, rfl, rfl⟩)) hS.2.2 d_Mem_othersCanMend_40
      · skip
        have hc1 := zt_geF (a := o) (b := 6) (by omega) (by omega) hc1
        refine lv_iload_n hx hb d_Mem_othersCanMend_8 rfl (lv_at hl 3 rfl) ?_
        refine lv_iload_n hx hb d_Mem_othersCanMend_9 rfl (lv_at hl 1 rfl) ?_
        refine lv_icmp_eq (tgt := 33) hx hb d_Mem_othersCanMend_10 (by decide) (fun hc2 => ?_) (fun hc2 => ?_)
        · skip
          have hc2 := zt_eqT (a := o) (b := m9) (by omega) (by omega) hc2
          refine lv_iinc (k := 3) (v := nI (o + 1)) (lv' := [(3, .int (nI (o + 1))), (0, .ref M), (1, .int (nI m9)), (2, .int (nI v))]) hx hb d_Mem_othersCanMend_33 hl rfl (nI_add o 1) (by decide) rfl (fun ls hl => ?_)
          refine lv_goto (tgt := 2) hx hb d_Mem_othersCanMend_36 (by decide) ?_
          exact ih_2 (o + 1) _ _ _ (by omega) (by omega) (by rw [← hg, zb_ocm_s (o := o) (by omega)]; simp [hc1, hc2]) (lv_sub hl [1, 2, 3, 0] rfl) hH hS
        · skip
          have hc2 := zt_eqF (a := o) (b := m9) (by omega) (by omega) hc2
          refine lv_aload_n hx hb d_Mem_othersCanMend_13 rfl (lv_at hl 0 rfl) ?_
          refine lv_iload_n hx hb d_Mem_othersCanMend_14 rfl (lv_at hl 3 rfl) ?_
          refine lv_iload_n hx hb d_Mem_othersCanMend_15 rfl (lv_at hl 2 rfl) ?_
          refine zr_V (As := ([.int (nI o), .int (nI v)] : List Value)) (rest := []) (b := M) (ci := 1) (q := (R_Mem, T_Mem, 8)) ⟨hx, hb, hml, hown, hts⟩ (c_Mem_isMissing m0 (by omega)) ⟨(callB_of 2 hts (zg_all zw_524) rfl rfl rfl (hw zw_2) (hw zw_521) k_Mem_isMissing.2 ⟨Nat.le_of_ble_eq_true rfl, Nat.le_of_ble_eq_true rfl⟩), (hw zw_523), (hw zs_Mem_isMissing)⟩ hSc hE hH hS hA rfl (by decide) m0 rfl hl.1 rfl (Nat.le_of_ble_eq_true rfl) d_Mem_othersCanMend_16 ⟨Nat.le_of_ble_eq_true rfl, Nat.le_of_ble_eq_true rfl⟩ (fun v3 kd3 ln3 I3 L3 R3 H locs hp hH hS => ?_)
          obtain ⟨rfl, rfl, rfl, rfl, rfl, rfl⟩ := hp
          refine W.eq (g2 := F0 m 19 ls [.int (zb_mis (I M 2) (I M 4) o v)]) rfl ?_
          refine W.widen (k := 0) (n := 0) (by omega) (by omega) ?_
          refine lv_if_ne (tgt := 31) hx hb d_Mem_othersCanMend_19 (by decide) (fun hc4 => ?_) (fun hc4 => ?_)
          · skip
            have hc4 : ¬ (zb_mis (I M 2) (I M 4) o v) = (nI 0) := hc4
            refine lv_iconst (v := nI 0) hx hb d_Mem_othersCanMend_31 (by decide) ?_
            refine W.widen (k := 0) (n := 0) (Nat.le_of_ble_eq_true rfl) (Nat.le_of_ble_eq_true rfl) ?_
            subst hAe
            exact W.zret (v := nI 0) hx hb hr (by decide +kernel) (fun t ht hW => zc_end hS hH ht (⟨by rw [← hg, zb_ocm_s (o := o) (by omega)]; simp [hc1, hc2, hc4], rfl, rfl, rfl, rfl, rfl⟩)) hS.2.2 d_Mem_othersCanMend_32
          · skip
            have hc4 : (zb_mis (I M 2) (I M 4) o v) = (nI 0) := hc4
            refine lv_aload_n hx hb d_Mem_othersCanMend_22 rfl (lv_at hl 0 rfl) ?_
            refine lv_iload_n hx hb d_Mem_othersCanMend_23 rfl (lv_at hl 3 rfl) ?_
            refine lv_iload_n hx hb d_Mem_othersCanMend_24 rfl (lv_at hl 2 rfl) ?_
            refine zr_V (As := ([.int (nI o), .int (nI v)] : List Value)) (rest := []) (b := M) (ci := 1) (q := (R_Mem, T_Mem, 8)) ⟨hx, hb, hml, hown, hts⟩ (c_Mem_hasTwoFlips m0 m1 m2 m3 m4 m5 m6 (by omega) hv9) ⟨(callB_of 2 hts (zg_all zw_532) rfl rfl rfl (hw zw_2) (hw zw_529) k_Mem_hasTwoFlips.2 ⟨Nat.le_of_ble_eq_true rfl, Nat.le_of_ble_eq_true rfl⟩), (hw zw_531), (hw zs_Mem_hasTwoFlips)⟩ hSc hE hH hS hA rfl (by decide) m0 rfl hl.1 rfl (Nat.le_of_ble_eq_true rfl) d_Mem_othersCanMend_25 ⟨Nat.le_of_ble_eq_true rfl, Nat.le_of_ble_eq_true rfl⟩ (fun v5 kd5 ln5 I5 L5 R5 H locs hp hH hS => ?_)
            obtain ⟨rfl, rfl, rfl, rfl, rfl, rfl⟩ := hp
            refine W.eq (g2 := F0 m 28 ls [.int (zb_two (L F) o v)]) rfl ?_
            refine W.widen (k := 0) (n := 0) (by omega) (by omega) ?_
            refine lv_if_eq (tgt := 33) hx hb d_Mem_othersCanMend_28 (by decide) (fun hc6 => ?_) (fun hc6 => ?_)
            · skip
              have hc6 : (zb_two (L F) o v) = (nI 0) := hc6
              refine lv_iinc (k := 3) (v := nI (o + 1)) (lv' := [(3, .int (nI (o + 1))), (0, .ref M), (1, .int (nI m9)), (2, .int (nI v))]) hx hb d_Mem_othersCanMend_33 hl rfl (nI_add o 1) (by decide) rfl (fun ls hl => ?_)
              refine lv_goto (tgt := 2) hx hb d_Mem_othersCanMend_36 (by decide) ?_
              exact ih_2 (o + 1) _ _ _ (by omega) (by omega) (by rw [← hg, zb_ocm_s (o := o) (by omega)]; simp [hc1, hc2, hc4, hc6]) (lv_sub hl [1, 2, 3, 0] rfl) hH hS
            · skip
              have hc6 : ¬ (zb_two (L F) o v) = (nI 0) := hc6
              refine lv_iconst (v := nI 0) hx hb d_Mem_othersCanMend_31 (by decide) ?_
              refine W.widen (k := 0) (n := 0) (Nat.le_of_ble_eq_true rfl) (Nat.le_of_ble_eq_true rfl) ?_
              subst hAe
              exact W.zret (v := nI 0) hx hb hr (by decide +kernel) (fun t ht hW => zc_end hS hH ht (⟨by rw [← hg, zb_ocm_s (o := o) (by omega)]; simp [hc1, hc2, hc4, hc6], rfl, rfl, rfl, rfl, rfl⟩)) hS.2.2 d_Mem_othersCanMend_32
  exact loop_2 _ 0 _ _ _ (Nat.lt_succ_self _) (by omega) rfl (lv_sub hl [1, 2, 3, 0] rfl) hH hS

theorem zb_mod_of {x : Int32} (h : ¬ zb_mod x = nI 0) : ∃ j : Nat, j < 6 ∧ x = nI j := by
  unfold zb_mod at h
  by_cases h1 : x < nI 0
  · simp [h1] at h
  · by_cases h2 : x < nI 6
    · exact zt_ix h1 h2 (by decide)
    · simp [h1, h2] at h
theorem zb_mod_n {j : Nat} (h : j < 6) : ¬ zb_mod (nI j) = nI 0 := by
  unfold zb_mod
  rw [if_neg (nI_nlt (Nat.zero_le j) (by omega)), if_pos (nI_lt h (by decide))]
  decide
/-- of the words from 768 - k on: has one of another module than m two flips -/
def zb_oht (f : Nat → Int64) (m : Nat) : Nat → Int32
  | 0 => nI 0
  | r + 1 => if (767 - r) / 128 = m then zb_oht f m r else if zb_two f ((767 - r) / 128) ((767 - r) % 128) = nI 0 then zb_oht f m r else nI 1
theorem zb_oht_s {f : Nat → Int64} {m o v : Nat} (h : o < 6) (hv : v < 128) : zb_oht f m (768 - (o * 128 + v)) = if o = m then zb_oht f m (768 - (o * 128 + (v + 1))) else if zb_two f o v = nI 0 then zb_oht f m (768 - (o * 128 + (v + 1))) else nI 1 := by
  obtain ⟨k, hk⟩ : ∃ k, 768 - (o * 128 + v) = k + 1 := ⟨767 - (o * 128 + v), by omega⟩
  have e1 : 768 - (o * 128 + (v + 1)) = k := by omega
  have e2 : (767 - k) / 128 = o := by omega
  have e3 : (767 - k) % 128 = v := by omega
  rw [hk, e1, zb_oht, e2, e3]
/-- flip: which word gets which bits, if it is done -/
def zb_flip (lm fr : Int32) (f : Nat → Int64) (x y z : Int32) : Option (Nat × Int64) :=
  if zb_mod x = nI 0 then none else if y < nI 0 then none else if y < nI 128 then if z < nI 0 then none else if z < nI 39 then
  if zb_mis lm fr x.toNatClampNeg y.toNatClampNeg = nI 0 then
    (if nI 2 < zb_cnt (f (x.toNatClampNeg * 128 + y.toNatClampNeg) ^^^ ((1 : Int64) <<< (z.toInt64 &&& 63))) then none
     else if zb_cnt (f (x.toNatClampNeg * 128 + y.toNatClampNeg) ^^^ ((1 : Int64) <<< (z.toInt64 &&& 63))) = nI 2 then
       (if zb_ocm lm fr f x.toNatClampNeg y.toNatClampNeg 6 = nI 0 then none else some (x.toNatClampNeg * 128 + y.toNatClampNeg, f (x.toNatClampNeg * 128 + y.toNatClampNeg) ^^^ ((1 : Int64) <<< (z.toInt64 &&& 63))))
     else some (x.toNatClampNeg * 128 + y.toNatClampNeg, f (x.toNatClampNeg * 128 + y.toNatClampNeg) ^^^ ((1 : Int64) <<< (z.toInt64 &&& 63))))
  else none else none else none
def zb_upd (L : Nat → Nat → Int64) (F : Nat) : Option (Nat × Int64) → Nat → Nat → Int64
  | none => L
  | some (a, b) => zu L F a b
def zb_is {α : Type} : Option α → Int32
  | none => nI 0
  | some _ => nI 1

set_option maxHeartbeats 4000000 in
set_option maxRecDepth 100000 in
/-- Memory.othersHaveTwoFlips -/
theorem c_Mem_othersHaveTwoFlips {l : Launch} {D : va_G} {cA : Nat → ClassId} {te mi : Nat} {kd ln : Nat → Nat} {I : Nat → Nat → Int32} {L : Nat → Nat → Int64} {R : Nat → Nat → Option Nat} {M F C : Nat} (m0 : kd M = 2) (m1 : R M 0 = some F) (m2 : R M 1 = some C) (m3 : kd F = 101) (m4 : ln F = 768) (m5 : kd C = 103) (m6 : ln C = 40) {m9 : Nat} (hm9 : m9 < 6) : zc_M l y_Mem_othersHaveTwoFlips w_Mem_othersHaveTwoFlips { frames := 2, cells := 0, slots := 0, locals := 43 } 0 0 D cA te mi ([.ref M, .int (nI m9)] : List Value) kd ln I L R (zc_eq (some (.int (zb_oht (L F) m9 768))) kd ln I L R) := by
  intro sz
  refine Met.ofW (cc := b_Mem_othersHaveTwoFlips) (maxL := 4) (ret := (some (.boolean))) (by decide +kernel) rfl ?_
  intro p e s m args below meth c s₁ B hml hv
  obtain ⟨rfl, hsz, hSc, hE, hH⟩ := hv
  have hx := B.exec
  have hb := B.bytes
  have hr := B.returns
  have hts := atoms_spec (ws := w_Mem_othersHaveTwoFlips) B.pre
  have hw : ∀ {w : Cond}, w ∈ zw → w.before ([.ref M, .int (nI m9)] : List Value).toArray s = true := fun h => hts _ (List.mem_cons_of_mem _ h)
  have hown : s.vm.findClass R_Mem = some m.cls := findClass_of_methodNamed B.named
  have hlocks := B.notSynchronized
  subst hsz
  have hK := hSc.1
  have hH : zh_H D cA (zc_A kd s.heap.size) kd ln I L R s.heap := hH.weaken (fun q h _ => Or.inl h)
  generalize hAe : zc_A kd s.heap.size = A at hH hE ⊢
  have hA : ∀ q : Nat, s.heap.size ≤ q → A q := fun q h => by rw [← hAe]; exact Or.inr h
  have hS : va_S A s.heap s.heap [] := va_S.rf
  have hl := lv_entry ([.ref M, .int (nI m9)] : List Value) (n := 4) (Nat.le_of_ble_eq_true rfl)
  rw [lg_entry_eq]
  generalize (lg_sl ([.ref M, .int (nI m9)] : List Value) ++ List.replicate (4 - (lg_sl ([.ref M, .int (nI m9)] : List Value)).length) Slot.unset).toArray = ls at hl ⊢
  have hl : lv_has ls 4 [(0, .ref M), (1, .int (nI m9))] := hl
  refine lv_iconst (v := nI 0) hx hb d_Mem_othersHaveTwoFlips_0 (by decide) ?_
  refine lv_istore_n (lv' := [(2, .int (nI 0)), (0, .ref M), (1, .int (nI m9))]) hx hb d_Mem_othersHaveTwoFlips_1 rfl hl (by decide) rfl (fun ls hl => ?_)
  have loop_2 : ∀ (z : Nat) (o : Nat) (H : Heap) (locs : List Loc) (ls : Array Slot), 6 - o < z → (o ≤ 6) → (zb_oht (L F) m9 (768 - o * 128) = zb_oht (L F) m9 768) → lv_has ls 4 [(0, .ref M), (1, .int (nI m9)), (2, .int (nI o))] → zh_H D cA A kd ln I L R H → va_S A s.heap H locs → W p l e (headSpec w_Mem_othersHaveTwoFlips { frames := 2, cells := 0, slots := 0, locals := 43 }).room s m ([.ref M, .int (nI m9)] : List Value).toArray below meth c H locs 0 0 (MQ below (zc_Qc D cA A (zc_eq (some (.int (zb_oht (L F) m9 768))) kd ln I L R)) ([.ref M, .int (nI m9)] : List Value).toArray s 0 0 A) (F0 m 2 ls []) := by
    intro z
    induction z with
    | zero => intro o H locs ls hz; exact absurd hz (Nat.not_lt_zero _)
    | succ z ih_2 =>
      intro o H locs ls hz_2 ho hg hl hH hS
      refine lv_iload_n hx hb d_Mem_othersHaveTwoFlips_2 rfl (lv_at hl 2 rfl) ?_
      refine lv_bipush (v := nI 6) hx hb d_Mem_othersHaveTwoFlips_3 (by decide) ?_
      refine lv_icmp_ge (tgt := 45) hx hb d_Mem_othersHaveTwoFlips_5 (by decide) (fun hc1 => ?_) (fun hc1 => ?_)
      · skip
        have hc1 := zt_geT (a := o) (b := 6) (by omega) (by omega) hc1
        refine lv_iconst (v := nI 0) hx hb d_Mem_othersHaveTwoFlips_45 (by decide) ?_
        refine W.widen (k := 0) (n := 0) (Nat.le_of_ble_eq_true rfl) (Nat.le_of_ble_eq_true rfl) ?_
        subst hAe
        exact W.zret (v := nI 0) hx hb hr (by decide +kernel) (fun t ht hW => zc_end hS hH ht (⟨by rw [← hg, show 768 - o * 128 = 0 by omega]; rfl, rfl, rfl, rfl, rfl, rfl⟩)) hS.2.2 d_Mem_othersHaveTwoFlips_46
      · skip
        have hc1 := zt_geF (a := o) (b := 6) (by omega) (by omega) hc1
        refine lv_iconst (v := nI 0) hx hb d_Mem_othersHaveTwoFlips_8 (by decide) ?_
        refine lv_istore_n (lv' := [(3, .int (nI 0)), (0, .ref M), (1, .int (nI m9)), (2, .int (nI o))]) hx hb d_Mem_othersHaveTwoFlips_9 rfl hl (by decide) rfl (fun ls hl => ?_)
        have loop_10 : ∀ (z : Nat) (v : Nat) (H : Heap) (locs : List Loc) (ls : Array Slot), 128 - v < z → (v ≤ 128) → (zb_oht (L F) m9 (768 - (o * 128 + v)) = zb_oht (L F) m9 768) → lv_has ls 4 [(0, .ref M), (1, .int (nI m9)), (2, .int (nI o)), (3, .int (nI v))] → zh_H D cA A kd ln I L R H → va_S A s.heap H locs → W p l e (headSpec w_Mem_othersHaveTwoFlips { frames := 2, cells := 0, slots := 0, locals := 43 }).room s m ([.ref M, .int (nI m9)] : List Value).toArray below meth c H locs 0 0 (MQ below (zc_Qc D cA A (zc_eq (some (.int (zb_oht (L F) m9 768))) kd ln I L R)) ([.ref M, .int (nI m9)] : List Value).toArray s 0 0 A) (F0 m 10 ls []) := by
          intro z
          induction z with
          | zero => intro v H locs ls hz; exact absurd hz (Nat.not_lt_zero _)
          | succ z ih_10 =>
            intro v H locs ls hz_10 hv hg2 hl hH hS
            refine lv_iload_n hx hb d_Mem_othersHaveTwoFlips_10 rfl (lv_at hl 3 rfl) ?_
            refine lv_sipush (v := nI 128) hx hb d_Mem_othersHaveTwoFlips_11 (by decide) ?_
            refine lv_icmp_ge (tgt := 39) hx hb d_Mem_othersHaveTwoFlips_14 (by decide) (fun hc2 => ?_) (fun hc2 => ?_)
            · skip
              have hc2 := zt_geT (a := v) (b := 128) (by omega) (by omega) hc2
              refine lv_iinc (k := 2) (v := nI (o + 1)) (lv' := [(2, .int (nI (o + 1))), (0, .ref M), (1, .int (nI m9)), (3, .int (nI v))]) hx hb d_Mem_othersHaveTwoFlips_39 hl rfl (nI_add o 1) (by decide) rfl (fun ls hl => ?_)
              refine lv_goto (tgt := 2) hx hb d_Mem_othersHaveTwoFlips_42 (by decide) ?_
              exact ih_2 (o + 1) _ _ _ (by omega) (by omega) (by rw [← hg2]; congr 1; omega) (lv_sub hl [1, 2, 0] rfl) hH hS
            · skip
              have hc2 := zt_geF (a := v) (b := 128) (by omega) (by omega) hc2
              refine lv_iload_n hx hb d_Mem_othersHaveTwoFlips_17 rfl (lv_at hl 2 rfl) ?_
              refine lv_iload_n hx hb d_Mem_othersHaveTwoFlips_18 rfl (lv_at hl 1 rfl) ?_
              refine lv_icmp_eq (tgt := 33) hx hb d_Mem_othersHaveTwoFlips_19 (by decide) (fun hc3 => ?_) (fun hc3 => ?_)
              · skip
                have hc3 := zt_eqT (a := o) (b := m9) (by omega) (by omega) hc3
                refine lv_iinc (k := 3) (v := nI (v + 1)) (lv' := [(3, .int (nI (v + 1))), (0, .ref M), (1, .int (nI m9)), (2, .int (nI o))]) hx hb d_Mem_othersHaveTwoFlips_33 hl rfl (nI_add v 1) (by decide) rfl (fun ls hl => ?_)
                refine lv_goto (tgt := 10) hx hb d_Mem_othersHaveTwoFlips_36 (by decide) ?_
                exact ih_10 (v + 1) _ _ _ (by omega) (by omega) (by rw [← hg2, zb_oht_s (o := o) (v := v) (by omega) (by omega)]; simp [hc1, hc2, hc3]) (lv_sub hl [1, 2, 3, 0] rfl) hH hS
              · skip
                have hc3 := zt_eqF (a := o) (b := m9) (by omega) (by omega) hc3
                refine lv_aload_n hx hb d_Mem_othersHaveTwoFlips_22 rfl (lv_at hl 0 rfl) ?_
                refine lv_iload_n hx hb d_Mem_othersHaveTwoFlips_23 rfl (lv_at hl 2 rfl) ?_
                refine lv_iload_n hx hb d_Mem_othersHaveTwoFlips_24 rfl (lv_at hl 3 rfl) ?_
                refine zr_V (As := ([.int (nI o), .int (nI v)] : List Value)) (rest := []) (b := M) (ci := 1) (q := (R_Mem, T_Mem, 8)) ⟨hx, hb, hml, hown, hts⟩ (c_Mem_hasTwoFlips m0 m1 m2 m3 m4 m5 m6 (by omega) (by omega)) ⟨(callB_of 2 hts (zg_all zw_532) rfl rfl rfl (hw zw_2) (hw zw_529) k_Mem_hasTwoFlips.2 ⟨Nat.le_of_ble_eq_true rfl, Nat.le_of_ble_eq_true rfl⟩), (hw zw_531), (hw zs_Mem_hasTwoFlips)⟩ hSc hE hH hS hA rfl (by decide) m0 rfl hl.1 rfl (Nat.le_of_ble_eq_true rfl) d_Mem_othersHaveTwoFlips_25 ⟨Nat.le_of_ble_eq_true rfl, Nat.le_of_ble_eq_true rfl⟩ (fun v4 kd4 ln4 I4 L4 R4 H locs hp hH hS => ?_)
                obtain ⟨rfl, rfl, rfl, rfl, rfl, rfl⟩ := hp
                refine W.eq (g2 := F0 m 28 ls [.int (zb_two (L F) o v)]) rfl ?_
                refine W.widen (k := 0) (n := 0) (by omega) (by omega) ?_
                refine lv_if_eq (tgt := 33) hx hb d_Mem_othersHaveTwoFlips_28 (by decide) (fun hc5 => ?_) (fun hc5 => ?_)
                · skip
                  have hc5 : (zb_two (L F) o v) = (nI 0) := hc5
                  refine lv_iinc (k := 3) (v := nI (v + 1)) (lv' := [(3, .int (nI (v + 1))), (0, .ref M), (1, .int (nI m9)), (2, .int (nI o))]) hx hb d_Mem_othersHaveTwoFlips_33 hl rfl (nI_add v 1) (by decide) rfl (fun ls hl => ?_)
                  refine lv_goto (tgt := 10) hx hb d_Mem_othersHaveTwoFlips_36 (by decide) ?_
                  exact ih_10 (v + 1) _ _ _ (by omega) (by omega) (by rw [← hg2, zb_oht_s (o := o) (v := v) (by omega) (by omega)]; simp [hc1, hc2, hc3, hc5]) (lv_sub hl [1, 2, 3, 0] rfl) hH hS
                · skip
                  have hc5 : ¬ (zb_two (L F) o v) = (nI 0) := hc5
                  refine lv_iconst (v := nI 1) hx hb d_Mem_othersHaveTwoFlips_31 (by decide) ?_
                  refine W.widen (k := 0) (n := 0) (Nat.le_of_ble_eq_true rfl) (Nat.le_of_ble_eq_true rfl) ?_
                  subst hAe
                  exact W.zret (v := nI 1) hx hb hr (by decide +kernel) (fun t ht hW => zc_end hS hH ht (⟨by rw [← hg2, zb_oht_s (o := o) (v := v) (by omega) (by omega)]; simp [hc1, hc2, hc3, hc5], rfl, rfl, rfl, rfl, rfl⟩)) hS.2.2 d_Mem_othersHaveTwoFlips_32
        exact loop_10 _ 0 _ _ _ (Nat.lt_succ_self _) (by omega) hg (lv_sub hl [1, 2, 3, 0] rfl) hH hS
  exact loop_2 _ 0 _ _ _ (Nat.lt_succ_self _) (by omega) rfl (lv_sub hl [1, 2, 0] rfl) hH hS

set_option maxHeartbeats 4000000 in
set_option maxRecDepth 100000 in
/-- Memory.flipBit -/
theorem c_Mem_flipBit {l : Launch} {D : va_G} {cA : Nat → ClassId} {te mi : Nat} {kd ln : Nat → Nat} {I : Nat → Nat → Int32} {L : Nat → Nat → Int64} {R : Nat → Nat → Option Nat} {M F C : Nat} (m0 : kd M = 2) (m1 : R M 0 = some F) (m2 : R M 1 = some C) (m3 : kd F = 101) (m4 : ln F = 768) (m5 : kd C = 103) (m6 : ln C = 40) {x y z : Int32} : zc_M l y_Mem_flipBit w_Mem_flipBit { frames := 3, cells := 0, slots := 0, locals := 66 } 0 0 D cA te mi ([.ref M, .int x, .int y, .int z] : List Value) kd ln I L R (zc_eq (some (.int (zb_is (zb_flip (I M 2) (I M 4) (L F) x y z)))) kd ln I (zb_upd L F (zb_flip (I M 2) (I M 4) (L F) x y z)) R) := by
  intro sz
  refine Met.ofW (cc := b_Mem_flipBit) (maxL := 8) (ret := (some (.boolean))) (by decide +kernel) rfl ?_
  intro p e s m args below meth c s₁ B hml hv
  obtain ⟨rfl, hsz, hSc, hE, hH⟩ := hv
  have hx := B.exec
  have hb := B.bytes
  have hr := B.returns
  have hts := atoms_spec (ws := w_Mem_flipBit) B.pre
  have hw : ∀ {w : Cond}, w ∈ zw → w.before ([.ref M, .int x, .int y, .int z] : List Value).toArray s = true := fun h => hts _ (List.mem_cons_of_mem _ h)
  have hown : s.vm.findClass R_Mem = some m.cls := findClass_of_methodNamed B.named
  have hlocks := B.notSynchronized
  subst hsz
  have hK := hSc.1
  have hH : zh_H D cA (zc_A kd s.heap.size) kd ln I L R s.heap := hH.weaken (fun q h _ => Or.inl h)
  generalize hAe : zc_A kd s.heap.size = A at hH hE ⊢
  have hA : ∀ q : Nat, s.heap.size ≤ q → A q := fun q h => by rw [← hAe]; exact Or.inr h
  have hS : va_S A s.heap s.heap [] := va_S.rf
  have hl := lv_entry ([.ref M, .int x, .int y, .int z] : List Value) (n := 8) (Nat.le_of_ble_eq_true rfl)
  rw [lg_entry_eq]
  generalize (lg_sl ([.ref M, .int x, .int y, .int z] : List Value) ++ List.replicate (8 - (lg_sl ([.ref M, .int x, .int y, .int z] : List Value)).length) Slot.unset).toArray = ls at hl ⊢
  have hl : lv_has ls 8 [(0, .ref M), (1, .int x), (2, .int y), (3, .int z)] := hl
  refine lv_iload_n hx hb d_Mem_flipBit_0 rfl (lv_at hl 1 rfl) ?_
  refine zr_St (As := ([.int x] : List Value)) (rest := []) ⟨hx, hb, hml, hown, hts⟩ c_Mem_isModule ⟨(callB_of 1 hts (zg_all zw_520) rfl rfl rfl (hw zw_2) (hw zw_518) k_Mem_isModule.2 ⟨Nat.le_of_ble_eq_true rfl, Nat.le_of_ble_eq_true rfl⟩), hw zw_519⟩ hSc hE hH hS hA rfl hl.1 rfl (Nat.le_of_ble_eq_true rfl) d_Mem_flipBit_1 ⟨Nat.le_of_ble_eq_true rfl, Nat.le_of_ble_eq_true rfl⟩ (fun v1 kd1 ln1 I1 L1 R1 H locs hp hH hS => ?_)
  obtain ⟨rfl, rfl, rfl, rfl, rfl, rfl⟩ := hp
  refine W.eq (g2 := F0 m 4 ls [.int (zb_mod x)]) rfl ?_
  refine W.widen (k := 0) (n := 0) (by omega) (by omega) ?_
  refine lv_if_eq (tgt := 18) hx hb d_Mem_flipBit_4 (by decide) (fun hc2 => ?_) (fun hc2 => ?_)
  · skip
    have hc2 : (zb_mod x) = (nI 0) := hc2
    refine lv_iconst (v := nI 0) hx hb d_Mem_flipBit_18 (by decide) ?_
    have hres : (zb_flip (I M 2) (I M 4) (L F) x y z) = none := by simp [zb_flip, hc2]
    refine W.widen (k := 0) (n := 0) (Nat.le_of_ble_eq_true rfl) (Nat.le_of_ble_eq_true rfl) ?_
    subst hAe
    exact W.zret (v := nI 0) hx hb hr (by decide +kernel) (fun t ht hW => zc_end hS hH ht (⟨by rw [hres]; rfl, rfl, rfl, rfl, by rw [hres]; rfl, rfl⟩)) hS.2.2 d_Mem_flipBit_19
  · skip
    have hc2 : ¬ (zb_mod x) = (nI 0) := hc2
    obtain ⟨j1, hj1, rfl⟩ := zb_mod_of hc2
    refine lv_iload_n hx hb d_Mem_flipBit_7 rfl (lv_at hl 2 rfl) ?_
    refine lv_if_lt (tgt := 18) hx hb d_Mem_flipBit_8 (by decide) (fun hc3 => ?_) (fun hc3 => ?_)
    · skip
      have hc3 : y < (nI 0) := hc3
      refine lv_iconst (v := nI 0) hx hb d_Mem_flipBit_18 (by decide) ?_
      have hres : (zb_flip (I M 2) (I M 4) (L F) (nI j1) y z) = none := by simp [zb_flip, show (nI j1).toNatClampNeg = j1 from nI_clamp (by omega), hc2, hc3]
      refine W.widen (k := 0) (n := 0) (Nat.le_of_ble_eq_true rfl) (Nat.le_of_ble_eq_true rfl) ?_
      subst hAe
      exact W.zret (v := nI 0) hx hb hr (by decide +kernel) (fun t ht hW => zc_end hS hH ht (⟨by rw [hres]; rfl, rfl, rfl, rfl, by rw [hres]; rfl, rfl⟩)) hS.2.2 d_Mem_flipBit_19
    · skip
      have hc3 : ¬ y < (nI 0) := hc3
      refine lv_iload_n hx hb d_Mem_flipBit_11 rfl (lv_at hl 2 rfl) ?_
      refine lv_sipush (v := nI 128) hx hb d_Mem_flipBit_12 (by decide) ?_
      refine lv_icmp_lt (tgt := 20) hx hb d_Mem_flipBit_15 (by decide) (fun hc4 => ?_) (fun hc4 => ?_)
      · skip
        have hc4 : y < (nI 128) := hc4
        obtain ⟨j2, hj2, rfl⟩ := zt_ix hc3 hc4 (by decide)
        refine lv_iload_n hx hb d_Mem_flipBit_20 rfl (lv_at hl 3 rfl) ?_
        refine lv_if_lt (tgt := 39) hx hb d_Mem_flipBit_21 (by decide) (fun hc5 => ?_) (fun hc5 => ?_)
        · skip
          have hc5 : z < (nI 0) := hc5
          refine lv_iconst (v := nI 0) hx hb d_Mem_flipBit_39 (by decide) ?_
          have hres : (zb_flip (I M 2) (I M 4) (L F) (nI j1) (nI j2) z) = none := by simp [zb_flip, show (nI j1).toNatClampNeg = j1 from nI_clamp (by omega), show (nI j2).toNatClampNeg = j2 from nI_clamp (by omega), hc2, hc3, hc4, hc5]
          refine W.widen (k := 0) (n := 0) (Nat.le_of_ble_eq_true rfl) (Nat.le_of_ble_eq_true rfl) ?_
          subst hAe
          exact W.zret (v := nI 0) hx hb hr (by decide +kernel) (fun t ht hW => zc_end hS hH ht (⟨by rw [hres]; rfl, rfl, rfl, rfl, by rw [hres]; rfl, rfl⟩)) hS.2.2 d_Mem_flipBit_40
        · skip
          have hc5 : ¬ z < (nI 0) := hc5
          refine lv_iload_n hx hb d_Mem_flipBit_24 rfl (lv_at hl 3 rfl) ?_
          refine lv_bipush (v := nI 39) hx hb d_Mem_flipBit_25 (by decide) ?_
          refine lv_icmp_ge (tgt := 39) hx hb d_Mem_flipBit_27 (by decide) (fun hc6 => ?_) (fun hc6 => ?_)
          · skip
            have hc6 : ¬ z < (nI 39) := Int32.not_lt.mpr hc6
            refine lv_iconst (v := nI 0) hx hb d_Mem_flipBit_39 (by decide) ?_
            have hres : (zb_flip (I M 2) (I M 4) (L F) (nI j1) (nI j2) z) = none := by simp [zb_flip, show (nI j1).toNatClampNeg = j1 from nI_clamp (by omega), show (nI j2).toNatClampNeg = j2 from nI_clamp (by omega), hc2, hc3, hc4, hc5, hc6]
            refine W.widen (k := 0) (n := 0) (Nat.le_of_ble_eq_true rfl) (Nat.le_of_ble_eq_true rfl) ?_
            subst hAe
            exact W.zret (v := nI 0) hx hb hr (by decide +kernel) (fun t ht hW => zc_end hS hH ht (⟨by rw [hres]; rfl, rfl, rfl, rfl, by rw [hres]; rfl, rfl⟩)) hS.2.2 d_Mem_flipBit_40
          · skip
            have hc6 : z < (nI 39) := Int32.not_le.mp hc6
            obtain ⟨j3, hj3, rfl⟩ := zt_ix hc5 hc6 (by decide)
            refine lv_aload_n hx hb d_Mem_flipBit_30 rfl (lv_at hl 0 rfl) ?_
            refine lv_iload_n hx hb d_Mem_flipBit_31 rfl (lv_at hl 1 rfl) ?_
            refine lv_iload_n hx hb d_Mem_flipBit_32 rfl (lv_at hl 2 rfl) ?_
            refine zr_V (As := ([.int (nI j1), .int (nI j2)] : List Value)) (rest := []) (b := M) (ci := 1) (q := (R_Mem, T_Mem, 8)) ⟨hx, hb, hml, hown, hts⟩ (c_Mem_isMissing m0 (by omega)) ⟨(callB_of 2 hts (zg_all zw_524) rfl rfl rfl (hw zw_2) (hw zw_521) k_Mem_isMissing.2 ⟨Nat.le_of_ble_eq_true rfl, Nat.le_of_ble_eq_true rfl⟩), (hw zw_523), (hw zs_Mem_isMissing)⟩ hSc hE hH hS hA rfl (by decide) m0 rfl hl.1 rfl (Nat.le_of_ble_eq_true rfl) d_Mem_flipBit_33 ⟨Nat.le_of_ble_eq_true rfl, Nat.le_of_ble_eq_true rfl⟩ (fun v7 kd7 ln7 I7 L7 R7 H locs hp hH hS => ?_)
            obtain ⟨rfl, rfl, rfl, rfl, rfl, rfl⟩ := hp
            refine W.eq (g2 := F0 m 36 ls [.int (zb_mis (I M 2) (I M 4) j1 j2)]) rfl ?_
            refine W.widen (k := 0) (n := 0) (by omega) (by omega) ?_
            refine lv_if_eq (tgt := 41) hx hb d_Mem_flipBit_36 (by decide) (fun hc8 => ?_) (fun hc8 => ?_)
            · skip
              have hc8 : (zb_mis (I M 2) (I M 4) j1 j2) = (nI 0) := hc8
              refine lv_iload_n hx hb d_Mem_flipBit_41 rfl (lv_at hl 1 rfl) ?_
              refine lv_sipush (v := nI 128) hx hb d_Mem_flipBit_42 (by decide) ?_
              refine lv_imul hx hb d_Mem_flipBit_45 ?_
              refine zt_i (y := nI (j1 * 128)) (pk_mul j1 128) ?_
              refine lv_iload_n hx hb d_Mem_flipBit_46 rfl (lv_at hl 2 rfl) ?_
              refine lv_iadd hx hb d_Mem_flipBit_47 ?_
              refine zt_i (y := nI (j1 * 128 + j2)) (nI_add (j1 * 128) j2) ?_
              refine lv_istore (lv' := [(4, .int (nI (j1 * 128 + j2))), (0, .ref M), (1, .int (nI j1)), (2, .int (nI j2)), (3, .int (nI j3))]) hx hb d_Mem_flipBit_48 hl (by decide) rfl (fun ls hl => ?_)
              refine lv_aload_n hx hb d_Mem_flipBit_50 rfl (lv_at hl 1 rfl) ?_
              refine zr_getr (ci := 1) (C := R_Mem) (T := T_Mem) (N := 8) (ref := "ScrubbedRecorder$Memory") hx hb hts (fun w h => List.mem_cons_of_mem _ (zin_Mem w h)) hown hK hH m0 (by decide) rfl 0 (by decide) rfl (hw zw_31) (fun _ h9 => h9) d_Mem_flipBit_51 (by rw [m1]) ?_
              refine lv_iload hx hb d_Mem_flipBit_54 (lv_at hl 0 rfl) ?_
              refine zr_aldl (j := j1 * 128 + j2) hx hb hK hH m3 (by rw [m4]; exact zh_ix_n (by omega) (by omega)) d_Mem_flipBit_56 ?_
              refine lv_lconst (v := 1) hx hb d_Mem_flipBit_57 (by decide) ?_
              refine lv_iload_n hx hb d_Mem_flipBit_58 rfl (lv_at hl 4 rfl) ?_
              refine lv_lshl (v := (1 : Int64) <<< ((nI j3).toInt64 &&& 63)) hx hb d_Mem_flipBit_59 rfl ?_
              refine lv_lxor hx hb d_Mem_flipBit_60 ?_
              refine lv_lstore (lv' := [(5, .long ((L F (j1 * 128 + j2)) ^^^ ((1 : Int64) <<< ((nI j3).toInt64 &&& 63)))), (4, .int (nI (j1 * 128 + j2))), (0, .ref M), (1, .int (nI j1)), (2, .int (nI j2)), (3, .int (nI j3))]) hx hb d_Mem_flipBit_61 hl (by decide) rfl (fun ls hl => ?_)
              refine lv_lload hx hb d_Mem_flipBit_63 (lv_at hl 0 rfl) ?_
              refine zr_St (As := ([.long ((L F (j1 * 128 + j2)) ^^^ ((1 : Int64) <<< ((nI j3).toInt64 &&& 63)))] : List Value)) (rest := []) ⟨hx, hb, hml, hown, hts⟩ c_Lng_bitCount ⟨(callB_of 1 hts (zg_all zw_506) rfl rfl rfl (hw zw_16) (hw zw_504) k_Lng_bitCount.2 ⟨Nat.le_of_ble_eq_true rfl, Nat.le_of_ble_eq_true rfl⟩), hw zw_505⟩ hSc hE hH hS hA rfl hl.1 rfl (Nat.le_of_ble_eq_true rfl) d_Mem_flipBit_65 ⟨Nat.le_of_ble_eq_true rfl, Nat.le_of_ble_eq_true rfl⟩ (fun v9 kd9 ln9 I9 L9 R9 H locs hp hH hS => ?_)
              obtain ⟨rfl, rfl, rfl, rfl, rfl, rfl⟩ := hp
              refine W.eq (g2 := F0 m 68 ls [.int (zb_cnt ((L F (j1 * 128 + j2)) ^^^ ((1 : Int64) <<< ((nI j3).toInt64 &&& 63))))]) rfl ?_
              refine W.widen (k := 0) (n := 0) (by omega) (by omega) ?_
              refine lv_istore (lv' := [(7, .int (zb_cnt ((L F (j1 * 128 + j2)) ^^^ ((1 : Int64) <<< ((nI j3).toInt64 &&& 63))))), (5, .long ((L F (j1 * 128 + j2)) ^^^ ((1 : Int64) <<< ((nI j3).toInt64 &&& 63)))), (4, .int (nI (j1 * 128 + j2))), (0, .ref M), (1, .int (nI j1)), (2, .int (nI j2)), (3, .int (nI j3))]) hx hb d_Mem_flipBit_68 hl (by decide) rfl (fun ls hl => ?_)
              refine lv_iload hx hb d_Mem_flipBit_70 (lv_at hl 0 rfl) ?_
              refine lv_iconst (v := nI 2) hx hb d_Mem_flipBit_72 (by decide) ?_
              refine lv_icmp_gt (tgt := 91) hx hb d_Mem_flipBit_73 (by decide) (fun hc10 => ?_) (fun hc10 => ?_)
              · skip
                have hc10 : (nI 2) < (zb_cnt ((L F (j1 * 128 + j2)) ^^^ ((1 : Int64) <<< ((nI j3).toInt64 &&& 63)))) := hc10
                refine lv_iconst (v := nI 0) hx hb d_Mem_flipBit_91 (by decide) ?_
                have hres : (zb_flip (I M 2) (I M 4) (L F) (nI j1) (nI j2) (nI j3)) = none := by simp [zb_flip, show (nI j1).toNatClampNeg = j1 from nI_clamp (by omega), show (nI j2).toNatClampNeg = j2 from nI_clamp (by omega), hc2, hc3, hc4, hc5, hc6, hc8, hc10]
                refine W.widen (k := 0) (n := 0) (Nat.le_of_ble_eq_true rfl) (Nat.le_of_ble_eq_true rfl) ?_
                subst hAe
                exact W.zret (v := nI 0) hx hb hr (by decide +kernel) (fun t ht hW => zc_end hS hH ht (⟨by rw [hres]; rfl, rfl, rfl, rfl, by rw [hres]; rfl, rfl⟩)) hS.2.2 d_Mem_flipBit_92
              · skip
                have hc10 : ¬ (nI 2) < (zb_cnt ((L F (j1 * 128 + j2)) ^^^ ((1 : Int64) <<< ((nI j3).toInt64 &&& 63)))) := hc10
                refine lv_iload hx hb d_Mem_flipBit_76 (lv_at hl 0 rfl) ?_
                refine lv_iconst (v := nI 2) hx hb d_Mem_flipBit_78 (by decide) ?_
                refine lv_icmp_ne (tgt := 93) hx hb d_Mem_flipBit_79 (by decide) (fun hc11 => ?_) (fun hc11 => ?_)
                · skip
                  have hc11 : ¬ (zb_cnt ((L F (j1 * 128 + j2)) ^^^ ((1 : Int64) <<< ((nI j3).toInt64 &&& 63)))) = (nI 2) := hc11
                  refine lv_aload_n hx hb d_Mem_flipBit_93 rfl (lv_at hl 3 rfl) ?_
                  refine zr_getr (ci := 1) (C := R_Mem) (T := T_Mem) (N := 8) (ref := "ScrubbedRecorder$Memory") hx hb hts (fun w h => List.mem_cons_of_mem _ (zin_Mem w h)) hown hK hH m0 (by decide) rfl 0 (by decide) rfl (hw zw_31) (fun _ h9 => h9) d_Mem_flipBit_94 (by rw [m1]) ?_
                  refine lv_iload hx hb d_Mem_flipBit_97 (lv_at hl 2 rfl) ?_
                  refine lv_lload hx hb d_Mem_flipBit_99 (lv_at hl 1 rfl) ?_
                  refine zr_astl (j := j1 * 128 + j2) (y := (L F (j1 * 128 + j2)) ^^^ ((1 : Int64) <<< ((nI j3).toInt64 &&& 63))) hx hb hK hH hS m3 rfl (by rw [m4]; exact zh_ix_n (by omega) (by omega)) d_Mem_flipBit_101 (fun H locs hH hS => ?_)
                  refine lv_iconst (v := nI 1) hx hb d_Mem_flipBit_102 (by decide) ?_
                  have hres : (zb_flip (I M 2) (I M 4) (L F) (nI j1) (nI j2) (nI j3)) = some (j1 * 128 + j2, L F (j1 * 128 + j2) ^^^ ((1 : Int64) <<< ((nI j3).toInt64 &&& 63))) := by simp [zb_flip, show (nI j1).toNatClampNeg = j1 from nI_clamp (by omega), show (nI j2).toNatClampNeg = j2 from nI_clamp (by omega), hc2, hc3, hc4, hc5, hc6, hc8, hc10, hc11]
                  refine W.widen (k := 0) (n := 0) (Nat.le_of_ble_eq_true rfl) (Nat.le_of_ble_eq_true rfl) ?_
                  subst hAe
                  exact W.zret (v := nI 1) hx hb hr (by decide +kernel) (fun t ht hW => zc_end hS hH ht (⟨by rw [hres]; rfl, rfl, rfl, rfl, by rw [hres]; rfl, rfl⟩)) hS.2.2 d_Mem_flipBit_103
                · skip
                  have hc11 : (zb_cnt ((L F (j1 * 128 + j2)) ^^^ ((1 : Int64) <<< ((nI j3).toInt64 &&& 63)))) = (nI 2) := hc11
                  refine lv_aload_n hx hb d_Mem_flipBit_82 rfl (lv_at hl 3 rfl) ?_
                  refine lv_iload_n hx hb d_Mem_flipBit_83 rfl (lv_at hl 4 rfl) ?_
                  refine lv_iload_n hx hb d_Mem_flipBit_84 rfl (lv_at hl 5 rfl) ?_
                  refine zr_V (As := ([.int (nI j1), .int (nI j2)] : List Value)) (rest := []) (b := M) (ci := 1) (q := (R_Mem, T_Mem, 8)) ⟨hx, hb, hml, hown, hts⟩ (c_Mem_othersCanMend m0 m1 m2 m3 m4 m5 m6 (by omega) (by omega)) ⟨(callB_of 2 hts (zg_all zw_528) rfl rfl rfl (hw zw_2) (hw zw_525) k_Mem_othersCanMend.2 ⟨Nat.le_of_ble_eq_true rfl, Nat.le_of_ble_eq_true rfl⟩), (hw zw_527), (hw zs_Mem_othersCanMend)⟩ hSc hE hH hS hA rfl (by decide) m0 rfl hl.1 rfl (Nat.le_of_ble_eq_true rfl) d_Mem_flipBit_85 ⟨Nat.le_of_ble_eq_true rfl, Nat.le_of_ble_eq_true rfl⟩ (fun v12 kd12 ln12 I12 L12 R12 H locs hp hH hS => ?_)
                  obtain ⟨rfl, rfl, rfl, rfl, rfl, rfl⟩ := hp
                  refine W.eq (g2 := F0 m 88 ls [.int (zb_ocm (I M 2) (I M 4) (L F) j1 j2 6)]) rfl ?_
                  refine W.widen (k := 0) (n := 0) (by omega) (by omega) ?_
                  refine lv_if_ne (tgt := 93) hx hb d_Mem_flipBit_88 (by decide) (fun hc13 => ?_) (fun hc13 => ?_)
                  · skip
                    have hc13 : ¬ (zb_ocm (I M 2) (I M 4) (L F) j1 j2 6) = (nI 0) := hc13
                    refine lv_aload_n hx hb d_Mem_flipBit_93 rfl (lv_at hl 3 rfl) ?_
                    refine zr_getr (ci := 1) (C := R_Mem) (T := T_Mem) (N := 8) (ref := "ScrubbedRecorder$Memory") hx hb hts (fun w h => List.mem_cons_of_mem _ (zin_Mem w h)) hown hK hH m0 (by decide) rfl 0 (by decide) rfl (hw zw_31) (fun _ h9 => h9) d_Mem_flipBit_94 (by rw [m1]) ?_
                    refine lv_iload hx hb d_Mem_flipBit_97 (lv_at hl 2 rfl) ?_
                    refine lv_lload hx hb d_Mem_flipBit_99 (lv_at hl 1 rfl) ?_
                    refine zr_astl (j := j1 * 128 + j2) (y := (L F (j1 * 128 + j2)) ^^^ ((1 : Int64) <<< ((nI j3).toInt64 &&& 63))) hx hb hK hH hS m3 rfl (by rw [m4]; exact zh_ix_n (by omega) (by omega)) d_Mem_flipBit_101 (fun H locs hH hS => ?_)
                    refine lv_iconst (v := nI 1) hx hb d_Mem_flipBit_102 (by decide) ?_
                    have hres : (zb_flip (I M 2) (I M 4) (L F) (nI j1) (nI j2) (nI j3)) = some (j1 * 128 + j2, L F (j1 * 128 + j2) ^^^ ((1 : Int64) <<< ((nI j3).toInt64 &&& 63))) := by simp [zb_flip, show (nI j1).toNatClampNeg = j1 from nI_clamp (by omega), show (nI j2).toNatClampNeg = j2 from nI_clamp (by omega), hc2, hc3, hc4, hc5, hc6, hc8, hc10, hc11, hc13]
                    refine W.widen (k := 0) (n := 0) (Nat.le_of_ble_eq_true rfl) (Nat.le_of_ble_eq_true rfl) ?_
                    subst hAe
                    exact W.zret (v := nI 1) hx hb hr (by decide +kernel) (fun t ht hW => zc_end hS hH ht (⟨by rw [hres]; rfl, rfl, rfl, rfl, by rw [hres]; rfl, rfl⟩)) hS.2.2 d_Mem_flipBit_103
                  · skip
                    have hc13 : (zb_ocm (I M 2) (I M 4) (L F) j1 j2 6) = (nI 0) := hc13
                    refine lv_iconst (v := nI 0) hx hb d_Mem_flipBit_91 (by decide) ?_
                    have hres : (zb_flip (I M 2) (I M 4) (L F) (nI j1) (nI j2) (nI j3)) = none := by simp [zb_flip, show (nI j1).toNatClampNeg = j1 from nI_clamp (by omega), show (nI j2).toNatClampNeg = j2 from nI_clamp (by omega), hc2, hc3, hc4, hc5, hc6, hc8, hc10, hc11, hc13]
                    refine W.widen (k := 0) (n := 0) (Nat.le_of_ble_eq_true rfl) (Nat.le_of_ble_eq_true rfl) ?_
                    subst hAe
                    exact W.zret (v := nI 0) hx hb hr (by decide +kernel) (fun t ht hW => zc_end hS hH ht (⟨by rw [hres]; rfl, rfl, rfl, rfl, by rw [hres]; rfl, rfl⟩)) hS.2.2 d_Mem_flipBit_92
            · skip
              have hc8 : ¬ (zb_mis (I M 2) (I M 4) j1 j2) = (nI 0) := hc8
              refine lv_iconst (v := nI 0) hx hb d_Mem_flipBit_39 (by decide) ?_
              have hres : (zb_flip (I M 2) (I M 4) (L F) (nI j1) (nI j2) (nI j3)) = none := by simp [zb_flip, show (nI j1).toNatClampNeg = j1 from nI_clamp (by omega), show (nI j2).toNatClampNeg = j2 from nI_clamp (by omega), hc2, hc3, hc4, hc5, hc6, hc8]
              refine W.widen (k := 0) (n := 0) (Nat.le_of_ble_eq_true rfl) (Nat.le_of_ble_eq_true rfl) ?_
              subst hAe
              exact W.zret (v := nI 0) hx hb hr (by decide +kernel) (fun t ht hW => zc_end hS hH ht (⟨by rw [hres]; rfl, rfl, rfl, rfl, by rw [hres]; rfl, rfl⟩)) hS.2.2 d_Mem_flipBit_40
      · skip
        have hc4 : ¬ y < (nI 128) := hc4
        refine lv_iconst (v := nI 0) hx hb d_Mem_flipBit_18 (by decide) ?_
        have hres : (zb_flip (I M 2) (I M 4) (L F) (nI j1) y z) = none := by simp [zb_flip, show (nI j1).toNatClampNeg = j1 from nI_clamp (by omega), hc2, hc3, hc4]
        refine W.widen (k := 0) (n := 0) (Nat.le_of_ble_eq_true rfl) (Nat.le_of_ble_eq_true rfl) ?_
        subst hAe
        exact W.zret (v := nI 0) hx hb hr (by decide +kernel) (fun t ht hW => zc_end hS hH ht (⟨by rw [hres]; rfl, rfl, rfl, rfl, by rw [hres]; rfl, rfl⟩)) hS.2.2 d_Mem_flipBit_19

/-- the words of module m below place n are cleared -/
def zb_clr (f : Nat → Int64) (m n : Nat) : Nat → Int64 := fun j => if m * 128 ≤ j ∧ j < m * 128 + n then 0 else f j
theorem zb_clr_0 (L : Nat → Nat → Int64) (F m : Nat) : va_up L F (zb_clr (L F) m 0) = L := by
  funext a j
  by_cases h : a = F
  · subst h
    rw [va_up_self]
    unfold zb_clr
    rw [if_neg (by omega)]
  · rw [va_up_ne _ _ h]
theorem zb_clr_s (L : Nat → Nat → Int64) (F m v : Nat) : zu (va_up L F (zb_clr (L F) m v)) F (m * 128 + v) 0 = va_up L F (zb_clr (L F) m (v + 1)) := by
  funext a j
  by_cases h : a = F
  · subst h
    rw [zu_at, va_up_self, va_up_self]
    by_cases hj : j = m * 128 + v
    · subst hj
      rw [va_up_self]
      unfold zb_clr
      rw [if_pos (by omega)]
    · rw [va_up_ne _ _ hj]
      unfold zb_clr
      by_cases h2 : m * 128 ≤ j ∧ j < m * 128 + v
      · rw [if_pos h2, if_pos (by omega)]
      · rw [if_neg h2, if_neg (by omega)]
  · rw [zu_ne _ _ _ h, va_up_ne _ _ h, va_up_ne _ _ h]
/-- latch: is it done -/
def zb_off (lm : Int32) (f : Nat → Int64) (x : Int32) : Int32 := if zb_mod x = nI 0 then nI 0 else if lm = (-1) then (if zb_oht f x.toNatClampNeg 768 = nI 0 then nI 1 else nI 0) else nI 0
def zb_offI (I : Nat → Nat → Int32) (M : Nat) (d x : Int32) : Nat → Nat → Int32 := if d = nI 0 then I else zu (zu (zu I M 2 x) M 3 (nI 1)) M 4 (nI 0)
def zb_offL (L : Nat → Nat → Int64) (F : Nat) (d x : Int32) : Nat → Nat → Int64 := if d = nI 0 then L else va_up L F (zb_clr (L F) x.toNatClampNeg 128)
/-- power: is it done -/
def zb_on (lm off x : Int32) : Int32 := if zb_mod x = nI 0 then nI 0 else if x = lm then (if off = nI 0 then nI 0 else nI 1) else nI 0
def zb_onI (I : Nat → Nat → Int32) (M : Nat) (d : Int32) : Nat → Nat → Int32 := if d = nI 0 then I else zu I M 3 (nI 0)
def zb_rbI (I : Nat → Nat → Int32) (M : Nat) : Nat → Nat → Int32 := if I M 2 = (-1) then I else if I M 3 = nI 0 then (if I M 4 + nI 1 = nI 8 then zu (zu I M 4 (I M 4 + nI 1)) M 2 (-1) else zu I M 4 (I M 4 + nI 1)) else I
def zb_swI (I : Nat → Nat → Int32) (M : Nat) (c : Int32) : Nat → Nat → Int32 := if c = nI 1 then zu I M 6 (I M 6 + nI 1) else if c = nI 2 then zu I M 7 (I M 7 + nI 1) else I
def zb_s1 (M F : Nat) (q : (Nat → Nat → Int32) × (Nat → Nat → Int64)) : (Nat → Nat → Int32) × (Nat → Nat → Int64) := (zu (zb_swI q.1 M (zb_cnt (q.2 F (q.1 M 5).toNatClampNeg))) M 5 (nI (((q.1 M 5).toNatClampNeg + 1) % 768)), zu q.2 F (q.1 M 5).toNatClampNeg 0)
def zb_sn (M F : Nat) : Nat → (Nat → Nat → Int32) × (Nat → Nat → Int64) → (Nat → Nat → Int32) × (Nat → Nat → Int64)
  | 0, q => q
  | n + 1, q => zb_sn M F n (zb_s1 M F q)
theorem zb_swI_sn (I : Nat → Nat → Int32) (M : Nat) (c : Int32) (k : Nat) (h1 : k ≠ 6) (h2 : k ≠ 7) : zb_swI I M c M k = I M k := by
  unfold zb_swI
  by_cases a : c = nI 1
  · rw [if_pos a, zu_k _ _ _ _ h1]
  · rw [if_neg a]
    by_cases b : c = nI 2
    · rw [if_pos b, zu_k _ _ _ _ h2]
    · rw [if_neg b]
/-- the two words that a write of a page's word reaches -/
def zb_wx (page word : Nat) : Nat := (if page % 5 < page / 5 % 6 then page % 5 else page % 5 + 1) * 128 + (page / 5 * 16 + word)
def zb_wy (page word : Nat) : Nat := page / 5 % 6 * 128 + (page / 5 * 16 + word)
def zb_wr (F page word : Nat) (L : Nat → Nat → Int64) : Nat → Nat → Int64 := zu (zu L F (zb_wx page word) 0) F (zb_wy page word) 0
def zb_wrs (F page : Nat) (L : Nat → Nat → Int64) : Nat → Nat → Nat → Int64
  | 0 => L
  | n + 1 => zb_wr F page n (zb_wrs F page L n)
/-- the least page that is in no chain, from 39 - k on (the last one where all are) -/
def zb_lp (c : Nat → Int32) : Nat → Nat
  | 0 => 39
  | k + 1 => if c (38 - k) = nI 0 then 38 - k else zb_lp c k
theorem zb_lp_s {c : Nat → Int32} {p : Nat} (h : p < 39) : zb_lp c (39 - p) = if c p = nI 0 then p else zb_lp c (39 - (p + 1)) := by
  obtain ⟨k, hk⟩ : ∃ k, 39 - p = k + 1 := ⟨38 - p, by omega⟩
  have e1 : 39 - (p + 1) = k := by omega
  have e2 : 38 - k = p := by omega
  rw [hk, e1, zb_lp, e2]
def zb_cf (c : Nat → Int32) : Nat → Nat
  | 0 => 0
  | n + 1 => zb_cf c n + (if c n = nI 0 then 1 else 0)
theorem zb_cf_le (c : Nat → Int32) : ∀ n, zb_cf c n ≤ n
  | 0 => Nat.le_refl _
  | n + 1 => by
    have := zb_cf_le c n
    show zb_cf c n + _ ≤ _
    by_cases h : c n = nI 0
    · rw [if_pos h]; omega
    · rw [if_neg h]; omega
def zb_cw (f : Nat → Int64) : Nat → Nat
  | 0 => 0
  | n + 1 => zb_cw f n + (if lg_cmp (f n) 0 = nI 0 then 0 else 1)
theorem zb_cw_le (f : Nat → Int64) : ∀ n, zb_cw f n ≤ n
  | 0 => Nat.le_refl _
  | n + 1 => by
    have := zb_cw_le f n
    show zb_cw f n + _ ≤ _
    by_cases h : lg_cmp (f n) 0 = nI 0
    · rw [if_pos h]; omega
    · rw [if_neg h]; omega

set_option maxHeartbeats 4000000 in
set_option maxRecDepth 100000 in
/-- Memory.switchOff -/
theorem c_Mem_switchOff {l : Launch} {D : va_G} {cA : Nat → ClassId} {te mi : Nat} {kd ln : Nat → Nat} {I : Nat → Nat → Int32} {L : Nat → Nat → Int64} {R : Nat → Nat → Option Nat} {M F C : Nat} (m0 : kd M = 2) (m1 : R M 0 = some F) (m2 : R M 1 = some C) (m3 : kd F = 101) (m4 : ln F = 768) (m5 : kd C = 103) (m6 : ln C = 40) {x : Int32} : zc_M l y_Mem_switchOff w_Mem_switchOff { frames := 3, cells := 0, slots := 0, locals := 66 } 0 0 D cA te mi ([.ref M, .int x] : List Value) kd ln I L R (zc_eq (some (.int (zb_off (I M 2) (L F) x))) kd ln (zb_offI I M (zb_off (I M 2) (L F) x) x) (zb_offL L F (zb_off (I M 2) (L F) x) x) R) := by
  intro sz
  refine Met.ofW (cc := b_Mem_switchOff) (maxL := 4) (ret := (some (.boolean))) (by decide +kernel) rfl ?_
  intro p e s m args below meth c s₁ B hml hv
  obtain ⟨rfl, hsz, hSc, hE, hH⟩ := hv
  have hx := B.exec
  have hb := B.bytes
  have hr := B.returns
  have hts := atoms_spec (ws := w_Mem_switchOff) B.pre
  have hw : ∀ {w : Cond}, w ∈ zw → w.before ([.ref M, .int x] : List Value).toArray s = true := fun h => hts _ (List.mem_cons_of_mem _ h)
  have hown : s.vm.findClass R_Mem = some m.cls := findClass_of_methodNamed B.named
  have hlocks := B.notSynchronized
  subst hsz
  have hK := hSc.1
  have hH : zh_H D cA (zc_A kd s.heap.size) kd ln I L R s.heap := hH.weaken (fun q h _ => Or.inl h)
  generalize hAe : zc_A kd s.heap.size = A at hH hE ⊢
  have hA : ∀ q : Nat, s.heap.size ≤ q → A q := fun q h => by rw [← hAe]; exact Or.inr h
  have hS : va_S A s.heap s.heap [] := va_S.rf
  have hl := lv_entry ([.ref M, .int x] : List Value) (n := 4) (Nat.le_of_ble_eq_true rfl)
  rw [lg_entry_eq]
  generalize (lg_sl ([.ref M, .int x] : List Value) ++ List.replicate (4 - (lg_sl ([.ref M, .int x] : List Value)).length) Slot.unset).toArray = ls at hl ⊢
  have hl : lv_has ls 4 [(0, .ref M), (1, .int x)] := hl
  refine lv_iload_n hx hb d_Mem_switchOff_0 rfl (lv_at hl 1 rfl) ?_
  refine zr_St (As := ([.int x] : List Value)) (rest := []) ⟨hx, hb, hml, hown, hts⟩ c_Mem_isModule ⟨(callB_of 1 hts (zg_all zw_520) rfl rfl rfl (hw zw_2) (hw zw_518) k_Mem_isModule.2 ⟨Nat.le_of_ble_eq_true rfl, Nat.le_of_ble_eq_true rfl⟩), hw zw_519⟩ hSc hE hH hS hA rfl hl.1 rfl (Nat.le_of_ble_eq_true rfl) d_Mem_switchOff_1 ⟨Nat.le_of_ble_eq_true rfl, Nat.le_of_ble_eq_true rfl⟩ (fun v1 kd1 ln1 I1 L1 R1 H locs hp hH hS => ?_)
  obtain ⟨rfl, rfl, rfl, rfl, rfl, rfl⟩ := hp
  refine W.eq (g2 := F0 m 4 ls [.int (zb_mod x)]) rfl ?_
  refine W.widen (k := 0) (n := 0) (by omega) (by omega) ?_
  refine lv_if_eq (tgt := 23) hx hb d_Mem_switchOff_4 (by decide) (fun hc2 => ?_) (fun hc2 => ?_)
  · skip
    have hc2 : (zb_mod x) = (nI 0) := hc2
    refine lv_iconst (v := nI 0) hx hb d_Mem_switchOff_23 (by decide) ?_
    have hres : (zb_off (I M 2) (L F) x) = nI 0 := by simp [zb_off, hc2]
    refine W.widen (k := 0) (n := 0) (Nat.le_of_ble_eq_true rfl) (Nat.le_of_ble_eq_true rfl) ?_
    subst hAe
    exact W.zret (v := nI 0) hx hb hr (by decide +kernel) (fun t ht hW => zc_end hS hH ht (⟨by rw [hres], rfl, rfl, by rw [hres]; rfl, by rw [hres]; rfl, rfl⟩)) hS.2.2 d_Mem_switchOff_24
  · skip
    have hc2 : ¬ (zb_mod x) = (nI 0) := hc2
    obtain ⟨j1, hj1, rfl⟩ := zb_mod_of hc2
    refine lv_aload_n hx hb d_Mem_switchOff_7 rfl (lv_at hl 0 rfl) ?_
    refine zr_geti (ci := 1) (C := R_Mem) (T := T_Mem) (N := 8) (ref := "ScrubbedRecorder$Memory") hx hb hts (fun w h => List.mem_cons_of_mem _ (zin_Mem w h)) hown hK hH m0 (by decide) rfl 2 (by decide) rfl (hw zw_33) (fun _ h9 => h9) d_Mem_switchOff_8 ?_
    refine lv_iconst (v := (-1)) hx hb d_Mem_switchOff_11 (by decide) ?_
    refine lv_icmp_ne (tgt := 23) hx hb d_Mem_switchOff_12 (by decide) (fun hc3 => ?_) (fun hc3 => ?_)
    · skip
      have hc3 : ¬ (I M 2) = (-1) := hc3
      refine lv_iconst (v := nI 0) hx hb d_Mem_switchOff_23 (by decide) ?_
      have hres : (zb_off (I M 2) (L F) (nI j1)) = nI 0 := by simp [zb_off, show (nI j1).toNatClampNeg = j1 from nI_clamp (by omega), hc2, hc3]
      refine W.widen (k := 0) (n := 0) (Nat.le_of_ble_eq_true rfl) (Nat.le_of_ble_eq_true rfl) ?_
      subst hAe
      exact W.zret (v := nI 0) hx hb hr (by decide +kernel) (fun t ht hW => zc_end hS hH ht (⟨by rw [hres], rfl, rfl, by rw [hres]; rfl, by rw [hres]; rfl, rfl⟩)) hS.2.2 d_Mem_switchOff_24
    · skip
      have hc3 : (I M 2) = (-1) := hc3
      refine lv_aload_n hx hb d_Mem_switchOff_15 rfl (lv_at hl 0 rfl) ?_
      refine lv_iload_n hx hb d_Mem_switchOff_16 rfl (lv_at hl 1 rfl) ?_
      refine zr_V (As := ([.int (nI j1)] : List Value)) (rest := []) (b := M) (ci := 1) (q := (R_Mem, T_Mem, 8)) ⟨hx, hb, hml, hown, hts⟩ (c_Mem_othersHaveTwoFlips m0 m1 m2 m3 m4 m5 m6 (by omega)) ⟨(callB_of 1 hts (zg_all zw_544) rfl rfl rfl (hw zw_2) (hw zw_541) k_Mem_othersHaveTwoFlips.2 ⟨Nat.le_of_ble_eq_true rfl, Nat.le_of_ble_eq_true rfl⟩), (hw zw_543), (hw zs_Mem_othersHaveTwoFlips)⟩ hSc hE hH hS hA rfl (by decide) m0 rfl hl.1 rfl (Nat.le_of_ble_eq_true rfl) d_Mem_switchOff_17 ⟨Nat.le_of_ble_eq_true rfl, Nat.le_of_ble_eq_true rfl⟩ (fun v4 kd4 ln4 I4 L4 R4 H locs hp hH hS => ?_)
      obtain ⟨rfl, rfl, rfl, rfl, rfl, rfl⟩ := hp
      refine W.eq (g2 := F0 m 20 ls [.int (zb_oht (L F) j1 768)]) rfl ?_
      refine W.widen (k := 0) (n := 0) (by omega) (by omega) ?_
      refine lv_if_eq (tgt := 25) hx hb d_Mem_switchOff_20 (by decide) (fun hc5 => ?_) (fun hc5 => ?_)
      · skip
        have hc5 : (zb_oht (L F) j1 768) = (nI 0) := hc5
        refine lv_aload_n hx hb d_Mem_switchOff_25 rfl (lv_at hl 0 rfl) ?_
        refine lv_iload_n hx hb d_Mem_switchOff_26 rfl (lv_at hl 1 rfl) ?_
        refine zr_puti (ref := "ScrubbedRecorder$Memory") (ci := 1) (C := R_Mem) (T := T_Mem) (N := 8) (x := nI j1) (ty := .int) hx hb hts (fun w h => List.mem_cons_of_mem _ (zin_Mem w h)) ty_Mem tyok_Mem nm_Mem hown hK hH hS m0 (by decide) rfl 2 (by decide) rfl (hw zw_33) (fun _ h9 => h9) rfl (by decide +kernel) rfl rfl d_Mem_switchOff_27 (fun H locs hH hS => ?_)
        refine lv_aload_n hx hb d_Mem_switchOff_30 rfl (lv_at hl 0 rfl) ?_
        refine lv_iconst (v := nI 1) hx hb d_Mem_switchOff_31 (by decide) ?_
        refine zr_puti (ref := "ScrubbedRecorder$Memory") (ci := 1) (C := R_Mem) (T := T_Mem) (N := 8) (x := nI 1) (ty := .boolean) hx hb hts (fun w h => List.mem_cons_of_mem _ (zin_Mem w h)) ty_Mem tyok_Mem nm_Mem hown hK hH hS m0 (by decide) rfl 3 (by decide) rfl (hw zw_34) (fun _ h9 => h9) rfl (by decide +kernel) (by decide +kernel) (by decide +kernel) d_Mem_switchOff_32 (fun H locs hH hS => ?_)
        refine lv_aload_n hx hb d_Mem_switchOff_35 rfl (lv_at hl 0 rfl) ?_
        refine lv_iconst (v := nI 0) hx hb d_Mem_switchOff_36 (by decide) ?_
        refine zr_puti (ref := "ScrubbedRecorder$Memory") (ci := 1) (C := R_Mem) (T := T_Mem) (N := 8) (x := nI 0) (ty := .int) hx hb hts (fun w h => List.mem_cons_of_mem _ (zin_Mem w h)) ty_Mem tyok_Mem nm_Mem hown hK hH hS m0 (by decide) rfl 4 (by decide) rfl (hw zw_35) (fun _ h9 => h9) rfl (by decide +kernel) rfl rfl d_Mem_switchOff_37 (fun H locs hH hS => ?_)
        refine lv_iload_n hx hb d_Mem_switchOff_40 rfl (lv_at hl 1 rfl) ?_
        refine lv_sipush (v := nI 128) hx hb d_Mem_switchOff_41 (by decide) ?_
        refine lv_imul hx hb d_Mem_switchOff_44 ?_
        refine zt_i (y := nI (j1 * 128)) (pk_mul j1 128) ?_
        refine lv_istore_n (lv' := [(2, .int (nI (j1 * 128))), (0, .ref M), (1, .int (nI j1))]) hx hb d_Mem_switchOff_45 rfl hl (by decide) rfl (fun ls hl => ?_)
        refine lv_iconst (v := nI 0) hx hb d_Mem_switchOff_46 (by decide) ?_
        refine lv_istore_n (lv' := [(3, .int (nI 0)), (2, .int (nI (j1 * 128))), (0, .ref M), (1, .int (nI j1))]) hx hb d_Mem_switchOff_47 rfl hl (by decide) rfl (fun ls hl => ?_)
        have loop_48 : ∀ (z : Nat) (v : Nat) (H : Heap) (locs : List Loc) (ls : Array Slot), 128 - v < z → (v ≤ 128) → lv_has ls 4 [(0, .ref M), (1, .int (nI j1)), (2, .int (nI (j1 * 128))), (3, .int (nI v))] → zh_H D cA A kd ln (zu (zu (zu I M 2 (nI j1)) M 3 (nI 1)) M 4 (nI 0)) (va_up L F (zb_clr (L F) j1 v)) R H → va_S A s.heap H locs → W p l e (headSpec w_Mem_switchOff { frames := 3, cells := 0, slots := 0, locals := 66 }).room s m ([.ref M, .int (nI j1)] : List Value).toArray below meth c H locs 0 0 (MQ below (zc_Qc D cA A (zc_eq (some (.int (zb_off (I M 2) (L F) (nI j1)))) kd ln (zb_offI I M (zb_off (I M 2) (L F) (nI j1)) (nI j1)) (zb_offL L F (zb_off (I M 2) (L F) (nI j1)) (nI j1)) R)) ([.ref M, .int (nI j1)] : List Value).toArray s 0 0 A) (F0 m 48 ls []) := by
          intro z
          induction z with
          | zero => intro v H locs ls hz; exact absurd hz (Nat.not_lt_zero _)
          | succ z ih_48 =>
            intro v H locs ls hz_48 hv hl hH hS
            refine lv_iload_n hx hb d_Mem_switchOff_48 rfl (lv_at hl 3 rfl) ?_
            refine lv_sipush (v := nI 128) hx hb d_Mem_switchOff_49 (by decide) ?_
            refine lv_icmp_ge (tgt := 70) hx hb d_Mem_switchOff_52 (by decide) (fun hc6 => ?_) (fun hc6 => ?_)
            · skip
              have hc6 := zt_geT (a := v) (b := 128) (by omega) (by omega) hc6
              refine lv_iconst (v := nI 1) hx hb d_Mem_switchOff_70 (by decide) ?_
              have hres : (zb_off (I M 2) (L F) (nI j1)) = nI 1 := by simp [zb_off, show (nI j1).toNatClampNeg = j1 from nI_clamp (by omega), hc2, hc3, hc5, hc6]
              refine W.widen (k := 0) (n := 0) (Nat.le_of_ble_eq_true rfl) (Nat.le_of_ble_eq_true rfl) ?_
              subst hAe
              exact W.zret (v := nI 1) hx hb hr (by decide +kernel) (fun t ht hW => zc_end hS hH ht (⟨by rw [hres], rfl, rfl, by rw [hres]; rfl, by rw [hres, show v = 128 by omega, zb_offL, if_neg (by decide), nI_clamp (by omega)], rfl⟩)) hS.2.2 d_Mem_switchOff_71
            · skip
              have hc6 := zt_geF (a := v) (b := 128) (by omega) (by omega) hc6
              refine lv_aload_n hx hb d_Mem_switchOff_55 rfl (lv_at hl 0 rfl) ?_
              refine zr_getr (ci := 1) (C := R_Mem) (T := T_Mem) (N := 8) (ref := "ScrubbedRecorder$Memory") hx hb hts (fun w h => List.mem_cons_of_mem _ (zin_Mem w h)) hown hK hH m0 (by decide) rfl 0 (by decide) rfl (hw zw_31) (fun _ h9 => h9) d_Mem_switchOff_56 (by rw [m1]) ?_
              refine lv_iload_n hx hb d_Mem_switchOff_59 rfl (lv_at hl 2 rfl) ?_
              refine lv_iload_n hx hb d_Mem_switchOff_60 rfl (lv_at hl 3 rfl) ?_
              refine lv_iadd hx hb d_Mem_switchOff_61 ?_
              refine zt_i (y := nI (j1 * 128 + v)) (nI_add (j1 * 128) v) ?_
              refine lv_lconst (v := 0) hx hb d_Mem_switchOff_62 (by decide) ?_
              refine zr_astl (j := j1 * 128 + v) (y := 0) hx hb hK hH hS m3 rfl (by rw [m4]; exact zh_ix_n (by omega) (by omega)) d_Mem_switchOff_63 (fun H locs hH hS => ?_)
              refine lv_iinc (k := 3) (v := nI (v + 1)) (lv' := [(3, .int (nI (v + 1))), (0, .ref M), (1, .int (nI j1)), (2, .int (nI (j1 * 128)))]) hx hb d_Mem_switchOff_64 hl rfl (nI_add v 1) (by decide) rfl (fun ls hl => ?_)
              refine lv_goto (tgt := 48) hx hb d_Mem_switchOff_67 (by decide) ?_
              rw [zb_clr_s] at hH
              exact ih_48 (v + 1) _ _ _ (by omega) (by omega) (lv_sub hl [1, 2, 3, 0] rfl) hH hS
        rw [← zb_clr_0 L F j1] at hH
        exact loop_48 _ 0 _ _ _ (Nat.lt_succ_self _) (by omega) (lv_sub hl [2, 3, 1, 0] rfl) hH hS
      · skip
        have hc5 : ¬ (zb_oht (L F) j1 768) = (nI 0) := hc5
        refine lv_iconst (v := nI 0) hx hb d_Mem_switchOff_23 (by decide) ?_
        have hres : (zb_off (I M 2) (L F) (nI j1)) = nI 0 := by simp [zb_off, show (nI j1).toNatClampNeg = j1 from nI_clamp (by omega), hc2, hc3, hc5]
        refine W.widen (k := 0) (n := 0) (Nat.le_of_ble_eq_true rfl) (Nat.le_of_ble_eq_true rfl) ?_
        subst hAe
        exact W.zret (v := nI 0) hx hb hr (by decide +kernel) (fun t ht hW => zc_end hS hH ht (⟨by rw [hres], rfl, rfl, by rw [hres]; rfl, by rw [hres]; rfl, rfl⟩)) hS.2.2 d_Mem_switchOff_24

set_option maxHeartbeats 4000000 in
set_option maxRecDepth 100000 in
/-- Memory.switchOn -/
theorem c_Mem_switchOn {l : Launch} {D : va_G} {cA : Nat → ClassId} {te mi : Nat} {kd ln : Nat → Nat} {I : Nat → Nat → Int32} {L : Nat → Nat → Int64} {R : Nat → Nat → Option Nat} {M : Nat} (m0 : kd M = 2) {x : Int32} : zc_M l y_Mem_switchOn w_Mem_switchOn { frames := 1, cells := 0, slots := 0, locals := 20 } 0 0 D cA te mi ([.ref M, .int x] : List Value) kd ln I L R (zc_eq (some (.int (zb_on (I M 2) (I M 3) x))) kd ln (zb_onI I M (zb_on (I M 2) (I M 3) x)) L R) := by
  intro sz
  refine Met.ofW (cc := b_Mem_switchOn) (maxL := 2) (ret := (some (.boolean))) (by decide +kernel) rfl ?_
  intro p e s m args below meth c s₁ B hml hv
  obtain ⟨rfl, hsz, hSc, hE, hH⟩ := hv
  have hx := B.exec
  have hb := B.bytes
  have hr := B.returns
  have hts := atoms_spec (ws := w_Mem_switchOn) B.pre
  have hw : ∀ {w : Cond}, w ∈ zw → w.before ([.ref M, .int x] : List Value).toArray s = true := fun h => hts _ (List.mem_cons_of_mem _ h)
  have hown : s.vm.findClass R_Mem = some m.cls := findClass_of_methodNamed B.named
  have hlocks := B.notSynchronized
  subst hsz
  have hK := hSc.1
  have hH : zh_H D cA (zc_A kd s.heap.size) kd ln I L R s.heap := hH.weaken (fun q h _ => Or.inl h)
  generalize hAe : zc_A kd s.heap.size = A at hH hE ⊢
  have hA : ∀ q : Nat, s.heap.size ≤ q → A q := fun q h => by rw [← hAe]; exact Or.inr h
  have hS : va_S A s.heap s.heap [] := va_S.rf
  have hl := lv_entry ([.ref M, .int x] : List Value) (n := 2) (Nat.le_of_ble_eq_true rfl)
  rw [lg_entry_eq]
  generalize (lg_sl ([.ref M, .int x] : List Value) ++ List.replicate (2 - (lg_sl ([.ref M, .int x] : List Value)).length) Slot.unset).toArray = ls at hl ⊢
  have hl : lv_has ls 2 [(0, .ref M), (1, .int x)] := hl
  refine lv_iload_n hx hb d_Mem_switchOn_0 rfl (lv_at hl 1 rfl) ?_
  refine zr_St (As := ([.int x] : List Value)) (rest := []) ⟨hx, hb, hml, hown, hts⟩ c_Mem_isModule ⟨(callB_of 1 hts (zg_all zw_520) rfl rfl rfl (hw zw_2) (hw zw_518) k_Mem_isModule.2 ⟨Nat.le_of_ble_eq_true rfl, Nat.le_of_ble_eq_true rfl⟩), hw zw_519⟩ hSc hE hH hS hA rfl hl.1 rfl (Nat.le_of_ble_eq_true rfl) d_Mem_switchOn_1 ⟨Nat.le_of_ble_eq_true rfl, Nat.le_of_ble_eq_true rfl⟩ (fun v1 kd1 ln1 I1 L1 R1 H locs hp hH hS => ?_)
  obtain ⟨rfl, rfl, rfl, rfl, rfl, rfl⟩ := hp
  refine W.eq (g2 := F0 m 4 ls [.int (zb_mod x)]) rfl ?_
  refine W.widen (k := 0) (n := 0) (by omega) (by omega) ?_
  refine lv_if_eq (tgt := 22) hx hb d_Mem_switchOn_4 (by decide) (fun hc2 => ?_) (fun hc2 => ?_)
  · skip
    have hc2 : (zb_mod x) = (nI 0) := hc2
    refine lv_iconst (v := nI 0) hx hb d_Mem_switchOn_22 (by decide) ?_
    have hres : (zb_on (I M 2) (I M 3) x) = nI 0 := by rw [zb_on, if_pos hc2]
    refine W.widen (k := 0) (n := 0) (Nat.le_of_ble_eq_true rfl) (Nat.le_of_ble_eq_true rfl) ?_
    subst hAe
    exact W.zret (v := nI 0) hx hb hr (by decide +kernel) (fun t ht hW => zc_end hS hH ht (⟨by rw [hres], rfl, rfl, by rw [hres]; rfl, rfl, rfl⟩)) hS.2.2 d_Mem_switchOn_23
  · skip
    have hc2 : ¬ (zb_mod x) = (nI 0) := hc2
    refine lv_iload_n hx hb d_Mem_switchOn_7 rfl (lv_at hl 1 rfl) ?_
    refine lv_aload_n hx hb d_Mem_switchOn_8 rfl (lv_at hl 0 rfl) ?_
    refine zr_geti (ci := 1) (C := R_Mem) (T := T_Mem) (N := 8) (ref := "ScrubbedRecorder$Memory") hx hb hts (fun w h => List.mem_cons_of_mem _ (zin_Mem w h)) hown hK hH m0 (by decide) rfl 2 (by decide) rfl (hw zw_33) (fun _ h9 => h9) d_Mem_switchOn_9 ?_
    refine lv_icmp_ne (tgt := 22) hx hb d_Mem_switchOn_12 (by decide) (fun hc3 => ?_) (fun hc3 => ?_)
    · skip
      have hc3 : ¬ x = (I M 2) := hc3
      refine lv_iconst (v := nI 0) hx hb d_Mem_switchOn_22 (by decide) ?_
      have hres : (zb_on (I M 2) (I M 3) x) = nI 0 := by rw [zb_on, if_neg hc2, if_neg hc3]
      refine W.widen (k := 0) (n := 0) (Nat.le_of_ble_eq_true rfl) (Nat.le_of_ble_eq_true rfl) ?_
      subst hAe
      exact W.zret (v := nI 0) hx hb hr (by decide +kernel) (fun t ht hW => zc_end hS hH ht (⟨by rw [hres], rfl, rfl, by rw [hres]; rfl, rfl, rfl⟩)) hS.2.2 d_Mem_switchOn_23
    · skip
      have hc3 : x = (I M 2) := hc3
      refine lv_aload_n hx hb d_Mem_switchOn_15 rfl (lv_at hl 0 rfl) ?_
      refine zr_geti (ci := 1) (C := R_Mem) (T := T_Mem) (N := 8) (ref := "ScrubbedRecorder$Memory") hx hb hts (fun w h => List.mem_cons_of_mem _ (zin_Mem w h)) hown hK hH m0 (by decide) rfl 3 (by decide) rfl (hw zw_34) (fun _ h9 => h9) d_Mem_switchOn_16 ?_
      refine lv_if_ne (tgt := 24) hx hb d_Mem_switchOn_19 (by decide) (fun hc4 => ?_) (fun hc4 => ?_)
      · skip
        have hc4 : ¬ (I M 3) = (nI 0) := hc4
        refine lv_aload_n hx hb d_Mem_switchOn_24 rfl (lv_at hl 0 rfl) ?_
        refine lv_iconst (v := nI 0) hx hb d_Mem_switchOn_25 (by decide) ?_
        refine zr_puti (ref := "ScrubbedRecorder$Memory") (ci := 1) (C := R_Mem) (T := T_Mem) (N := 8) (x := nI 0) (ty := .boolean) hx hb hts (fun w h => List.mem_cons_of_mem _ (zin_Mem w h)) ty_Mem tyok_Mem nm_Mem hown hK hH hS m0 (by decide) rfl 3 (by decide) rfl (hw zw_34) (fun _ h9 => h9) rfl (by decide +kernel) (by decide +kernel) (by decide +kernel) d_Mem_switchOn_26 (fun H locs hH hS => ?_)
        refine lv_iconst (v := nI 1) hx hb d_Mem_switchOn_29 (by decide) ?_
        have hres : (zb_on (I M 2) (I M 3) x) = nI 1 := by rw [zb_on, if_neg hc2, if_pos hc3, if_neg hc4]
        refine W.widen (k := 0) (n := 0) (Nat.le_of_ble_eq_true rfl) (Nat.le_of_ble_eq_true rfl) ?_
        subst hAe
        exact W.zret (v := nI 1) hx hb hr (by decide +kernel) (fun t ht hW => zc_end hS hH ht (⟨by rw [hres], rfl, rfl, by rw [hres]; rfl, rfl, rfl⟩)) hS.2.2 d_Mem_switchOn_30
      · skip
        have hc4 : (I M 3) = (nI 0) := hc4
        refine lv_iconst (v := nI 0) hx hb d_Mem_switchOn_22 (by decide) ?_
        have hres : (zb_on (I M 2) (I M 3) x) = nI 0 := by rw [zb_on, if_neg hc2, if_pos hc3, if_pos hc4]
        refine W.widen (k := 0) (n := 0) (Nat.le_of_ble_eq_true rfl) (Nat.le_of_ble_eq_true rfl) ?_
        subst hAe
        exact W.zret (v := nI 0) hx hb hr (by decide +kernel) (fun t ht hW => zc_end hS hH ht (⟨by rw [hres], rfl, rfl, by rw [hres]; rfl, rfl, rfl⟩)) hS.2.2 d_Mem_switchOn_23

set_option maxHeartbeats 4000000 in
set_option maxRecDepth 100000 in
/-- Memory.rebuildRow -/
theorem c_Mem_rebuildRow {l : Launch} {D : va_G} {cA : Nat → ClassId} {te mi : Nat} {kd ln : Nat → Nat} {I : Nat → Nat → Int32} {L : Nat → Nat → Int64} {R : Nat → Nat → Option Nat} {M : Nat} (m0 : kd M = 2) : zc_M l y_Mem_rebuildRow w_Mem_rebuildRow { frames := 0, cells := 0, slots := 0, locals := 0 } 0 0 D cA te mi ([.ref M] : List Value) kd ln I L R (zc_eq none kd ln (zb_rbI I M) L R) := by
  intro sz
  refine Met.ofW (cc := b_Mem_rebuildRow) (maxL := 1) (ret := none) (by decide +kernel) rfl ?_
  intro p e s m args below meth c s₁ B hml hv
  obtain ⟨rfl, hsz, hSc, hE, hH⟩ := hv
  have hx := B.exec
  have hb := B.bytes
  have hr := B.returns
  have hts := atoms_spec (ws := w_Mem_rebuildRow) B.pre
  have hw : ∀ {w : Cond}, w ∈ zw → w.before ([.ref M] : List Value).toArray s = true := fun h => hts _ (List.mem_cons_of_mem _ h)
  have hown : s.vm.findClass R_Mem = some m.cls := findClass_of_methodNamed B.named
  have hlocks := B.notSynchronized
  subst hsz
  have hK := hSc.1
  have hH : zh_H D cA (zc_A kd s.heap.size) kd ln I L R s.heap := hH.weaken (fun q h _ => Or.inl h)
  generalize hAe : zc_A kd s.heap.size = A at hH hE ⊢
  have hA : ∀ q : Nat, s.heap.size ≤ q → A q := fun q h => by rw [← hAe]; exact Or.inr h
  have hS : va_S A s.heap s.heap [] := va_S.rf
  have hl := lv_entry ([.ref M] : List Value) (n := 1) (Nat.le_of_ble_eq_true rfl)
  rw [lg_entry_eq]
  generalize (lg_sl ([.ref M] : List Value) ++ List.replicate (1 - (lg_sl ([.ref M] : List Value)).length) Slot.unset).toArray = ls at hl ⊢
  have hl : lv_has ls 1 [(0, .ref M)] := hl
  refine lv_aload_n hx hb d_Mem_rebuildRow_0 rfl (lv_at hl 0 rfl) ?_
  refine zr_geti (ci := 1) (C := R_Mem) (T := T_Mem) (N := 8) (ref := "ScrubbedRecorder$Memory") hx hb hts (fun w h => List.mem_cons_of_mem _ (zin_Mem w h)) hown hK hH m0 (by decide) rfl 2 (by decide) rfl (hw zw_33) (fun _ h9 => h9) d_Mem_rebuildRow_1 ?_
  refine lv_iconst (v := (-1)) hx hb d_Mem_rebuildRow_4 (by decide) ?_
  refine lv_icmp_eq (tgt := 15) hx hb d_Mem_rebuildRow_5 (by decide) (fun hc1 => ?_) (fun hc1 => ?_)
  · skip
    have hc1 : (I M 2) = (-1) := hc1
    refine W.widen (k := 0) (n := 0) (Nat.le_of_ble_eq_true rfl) (Nat.le_of_ble_eq_true rfl) ?_
    subst hAe
    exact W.vret hx hb hr (fun t ht hW => zc_end hS hH ht (⟨rfl, rfl, rfl, by rw [zb_rbI, if_pos hc1], rfl, rfl⟩)) hS.2.2 d_Mem_rebuildRow_15
  · skip
    have hc1 : ¬ (I M 2) = (-1) := hc1
    refine lv_aload_n hx hb d_Mem_rebuildRow_8 rfl (lv_at hl 0 rfl) ?_
    refine zr_geti (ci := 1) (C := R_Mem) (T := T_Mem) (N := 8) (ref := "ScrubbedRecorder$Memory") hx hb hts (fun w h => List.mem_cons_of_mem _ (zin_Mem w h)) hown hK hH m0 (by decide) rfl 3 (by decide) rfl (hw zw_34) (fun _ h9 => h9) d_Mem_rebuildRow_9 ?_
    refine lv_if_eq (tgt := 16) hx hb d_Mem_rebuildRow_12 (by decide) (fun hc2 => ?_) (fun hc2 => ?_)
    · skip
      have hc2 : (I M 3) = (nI 0) := hc2
      refine lv_aload_n hx hb d_Mem_rebuildRow_16 rfl (lv_at hl 0 rfl) ?_
      refine lv_dup hx hb d_Mem_rebuildRow_17 rfl ?_
      refine zr_geti (ci := 1) (C := R_Mem) (T := T_Mem) (N := 8) (ref := "ScrubbedRecorder$Memory") hx hb hts (fun w h => List.mem_cons_of_mem _ (zin_Mem w h)) hown hK hH m0 (by decide) rfl 4 (by decide) rfl (hw zw_35) (fun _ h9 => h9) d_Mem_rebuildRow_18 ?_
      refine lv_iconst (v := nI 1) hx hb d_Mem_rebuildRow_21 (by decide) ?_
      refine lv_iadd hx hb d_Mem_rebuildRow_22 ?_
      refine zr_puti (ref := "ScrubbedRecorder$Memory") (ci := 1) (C := R_Mem) (T := T_Mem) (N := 8) (x := (I M 4) + (nI 1)) (ty := .int) hx hb hts (fun w h => List.mem_cons_of_mem _ (zin_Mem w h)) ty_Mem tyok_Mem nm_Mem hown hK hH hS m0 (by decide) rfl 4 (by decide) rfl (hw zw_35) (fun _ h9 => h9) rfl (by decide +kernel) rfl rfl d_Mem_rebuildRow_23 (fun H locs hH hS => ?_)
      refine lv_aload_n hx hb d_Mem_rebuildRow_26 rfl (lv_at hl 0 rfl) ?_
      refine zr_geti (ci := 1) (C := R_Mem) (T := T_Mem) (N := 8) (ref := "ScrubbedRecorder$Memory") hx hb hts (fun w h => List.mem_cons_of_mem _ (zin_Mem w h)) hown hK hH m0 (by decide) rfl 4 (by decide) rfl (hw zw_35) (fun _ h9 => h9) d_Mem_rebuildRow_27 ?_
      refine zt_i (y := (I M 4) + (nI 1)) (by rw [zu_self]) ?_
      refine lv_bipush (v := nI 8) hx hb d_Mem_rebuildRow_30 (by decide) ?_
      refine lv_icmp_ne (tgt := 40) hx hb d_Mem_rebuildRow_32 (by decide) (fun hc3 => ?_) (fun hc3 => ?_)
      · skip
        have hc3 : ¬ ((I M 4) + (nI 1)) = (nI 8) := hc3
        refine W.widen (k := 0) (n := 0) (Nat.le_of_ble_eq_true rfl) (Nat.le_of_ble_eq_true rfl) ?_
        subst hAe
        exact W.vret hx hb hr (fun t ht hW => zc_end hS hH ht (⟨rfl, rfl, rfl, by rw [zb_rbI, if_neg hc1, if_pos hc2, if_neg hc3], rfl, rfl⟩)) hS.2.2 d_Mem_rebuildRow_40
      · skip
        have hc3 : ((I M 4) + (nI 1)) = (nI 8) := hc3
        refine lv_aload_n hx hb d_Mem_rebuildRow_35 rfl (lv_at hl 0 rfl) ?_
        refine lv_iconst (v := (-1)) hx hb d_Mem_rebuildRow_36 (by decide) ?_
        refine zr_puti (ref := "ScrubbedRecorder$Memory") (ci := 1) (C := R_Mem) (T := T_Mem) (N := 8) (x := (-1)) (ty := .int) hx hb hts (fun w h => List.mem_cons_of_mem _ (zin_Mem w h)) ty_Mem tyok_Mem nm_Mem hown hK hH hS m0 (by decide) rfl 2 (by decide) rfl (hw zw_33) (fun _ h9 => h9) rfl (by decide +kernel) rfl rfl d_Mem_rebuildRow_37 (fun H locs hH hS => ?_)
        refine W.widen (k := 0) (n := 0) (Nat.le_of_ble_eq_true rfl) (Nat.le_of_ble_eq_true rfl) ?_
        subst hAe
        exact W.vret hx hb hr (fun t ht hW => zc_end hS hH ht (⟨rfl, rfl, rfl, by rw [zb_rbI, if_neg hc1, if_pos hc2, if_pos hc3], rfl, rfl⟩)) hS.2.2 d_Mem_rebuildRow_40
    · skip
      have hc2 : ¬ (I M 3) = (nI 0) := hc2
      refine W.widen (k := 0) (n := 0) (Nat.le_of_ble_eq_true rfl) (Nat.le_of_ble_eq_true rfl) ?_
      subst hAe
      exact W.vret hx hb hr (fun t ht hW => zc_end hS hH ht (⟨rfl, rfl, rfl, by rw [zb_rbI, if_neg hc1, if_neg hc2], rfl, rfl⟩)) hS.2.2 d_Mem_rebuildRow_15

set_option maxHeartbeats 4000000 in
set_option maxRecDepth 100000 in
/-- Memory.scrubFromStart -/
theorem c_Mem_scrubFromStart {l : Launch} {D : va_G} {cA : Nat → ClassId} {te mi : Nat} {kd ln : Nat → Nat} {I : Nat → Nat → Int32} {L : Nat → Nat → Int64} {R : Nat → Nat → Option Nat} {M : Nat} (m0 : kd M = 2) : zc_M l y_Mem_scrubFromStart w_Mem_scrubFromStart { frames := 0, cells := 0, slots := 0, locals := 0 } 0 0 D cA te mi ([.ref M] : List Value) kd ln I L R (zc_eq none kd ln (zu I M 5 (nI 0)) L R) := by
  intro sz
  refine Met.ofW (cc := b_Mem_scrubFromStart) (maxL := 1) (ret := none) (by decide +kernel) rfl ?_
  intro p e s m args below meth c s₁ B hml hv
  obtain ⟨rfl, hsz, hSc, hE, hH⟩ := hv
  have hx := B.exec
  have hb := B.bytes
  have hr := B.returns
  have hts := atoms_spec (ws := w_Mem_scrubFromStart) B.pre
  have hw : ∀ {w : Cond}, w ∈ zw → w.before ([.ref M] : List Value).toArray s = true := fun h => hts _ (List.mem_cons_of_mem _ h)
  have hown : s.vm.findClass R_Mem = some m.cls := findClass_of_methodNamed B.named
  have hlocks := B.notSynchronized
  subst hsz
  have hK := hSc.1
  have hH : zh_H D cA (zc_A kd s.heap.size) kd ln I L R s.heap := hH.weaken (fun q h _ => Or.inl h)
  generalize hAe : zc_A kd s.heap.size = A at hH hE ⊢
  have hA : ∀ q : Nat, s.heap.size ≤ q → A q := fun q h => by rw [← hAe]; exact Or.inr h
  have hS : va_S A s.heap s.heap [] := va_S.rf
  have hl := lv_entry ([.ref M] : List Value) (n := 1) (Nat.le_of_ble_eq_true rfl)
  rw [lg_entry_eq]
  generalize (lg_sl ([.ref M] : List Value) ++ List.replicate (1 - (lg_sl ([.ref M] : List Value)).length) Slot.unset).toArray = ls at hl ⊢
  have hl : lv_has ls 1 [(0, .ref M)] := hl
  refine lv_aload_n hx hb d_Mem_scrubFromStart_0 rfl (lv_at hl 0 rfl) ?_
  refine lv_iconst (v := nI 0) hx hb d_Mem_scrubFromStart_1 (by decide) ?_
  refine zr_puti (ref := "ScrubbedRecorder$Memory") (ci := 1) (C := R_Mem) (T := T_Mem) (N := 8) (x := nI 0) (ty := .int) hx hb hts (fun w h => List.mem_cons_of_mem _ (zin_Mem w h)) ty_Mem tyok_Mem nm_Mem hown hK hH hS m0 (by decide) rfl 5 (by decide) rfl (hw zw_36) (fun _ h9 => h9) rfl (by decide +kernel) rfl rfl d_Mem_scrubFromStart_2 (fun H locs hH hS => ?_)
  refine W.widen (k := 0) (n := 0) (Nat.le_of_ble_eq_true rfl) (Nat.le_of_ble_eq_true rfl) ?_
  subst hAe
  exact W.vret hx hb hr (fun t ht hW => zc_end hS hH ht (⟨rfl, rfl, rfl, rfl, rfl, rfl⟩)) hS.2.2 d_Mem_scrubFromStart_5

set_option maxHeartbeats 4000000 in
set_option maxRecDepth 100000 in
/-- Memory.scrubWord -/
theorem c_Mem_scrubWord {l : Launch} {D : va_G} {cA : Nat → ClassId} {te mi : Nat} {kd ln : Nat → Nat} {I : Nat → Nat → Int32} {L : Nat → Nat → Int64} {R : Nat → Nat → Option Nat} {M F C : Nat} (m0 : kd M = 2) (m1 : R M 0 = some F) (m2 : R M 1 = some C) (m3 : kd F = 101) (m4 : ln F = 768) (m5 : kd C = 103) (m6 : ln C = 40) {k9 : Nat} (hk9 : k9 < 768) : zc_M l y_Mem_scrubWord w_Mem_scrubWord { frames := 1, cells := 0, slots := 0, locals := 21 } 0 0 D cA te mi ([.ref M, .int (nI k9)] : List Value) kd ln I L R (zc_eq none kd ln (zb_swI I M (zb_cnt (L F k9))) (zu L F k9 0) R) := by
  intro sz
  refine Met.ofW (cc := b_Mem_scrubWord) (maxL := 3) (ret := none) (by decide +kernel) rfl ?_
  intro p e s m args below meth c s₁ B hml hv
  obtain ⟨rfl, hsz, hSc, hE, hH⟩ := hv
  have hx := B.exec
  have hb := B.bytes
  have hr := B.returns
  have hts := atoms_spec (ws := w_Mem_scrubWord) B.pre
  have hw : ∀ {w : Cond}, w ∈ zw → w.before ([.ref M, .int (nI k9)] : List Value).toArray s = true := fun h => hts _ (List.mem_cons_of_mem _ h)
  have hown : s.vm.findClass R_Mem = some m.cls := findClass_of_methodNamed B.named
  have hlocks := B.notSynchronized
  subst hsz
  have hK := hSc.1
  have hH : zh_H D cA (zc_A kd s.heap.size) kd ln I L R s.heap := hH.weaken (fun q h _ => Or.inl h)
  generalize hAe : zc_A kd s.heap.size = A at hH hE ⊢
  have hA : ∀ q : Nat, s.heap.size ≤ q → A q := fun q h => by rw [← hAe]; exact Or.inr h
  have hS : va_S A s.heap s.heap [] := va_S.rf
  have hl := lv_entry ([.ref M, .int (nI k9)] : List Value) (n := 3) (Nat.le_of_ble_eq_true rfl)
  rw [lg_entry_eq]
  generalize (lg_sl ([.ref M, .int (nI k9)] : List Value) ++ List.replicate (3 - (lg_sl ([.ref M, .int (nI k9)] : List Value)).length) Slot.unset).toArray = ls at hl ⊢
  have hl : lv_has ls 3 [(0, .ref M), (1, .int (nI k9))] := hl
  refine lv_aload_n hx hb d_Mem_scrubWord_0 rfl (lv_at hl 0 rfl) ?_
  refine zr_getr (ci := 1) (C := R_Mem) (T := T_Mem) (N := 8) (ref := "ScrubbedRecorder$Memory") hx hb hts (fun w h => List.mem_cons_of_mem _ (zin_Mem w h)) hown hK hH m0 (by decide) rfl 0 (by decide) rfl (hw zw_31) (fun _ h9 => h9) d_Mem_scrubWord_1 (by rw [m1]) ?_
  refine lv_iload_n hx hb d_Mem_scrubWord_4 rfl (lv_at hl 1 rfl) ?_
  refine zr_aldl (j := k9) hx hb hK hH m3 (by rw [m4]; exact zh_ix_n (by omega) (by omega)) d_Mem_scrubWord_5 ?_
  refine zr_St (As := ([.long (L F k9)] : List Value)) (rest := []) ⟨hx, hb, hml, hown, hts⟩ c_Lng_bitCount ⟨(callB_of 1 hts (zg_all zw_506) rfl rfl rfl (hw zw_16) (hw zw_504) k_Lng_bitCount.2 ⟨Nat.le_of_ble_eq_true rfl, Nat.le_of_ble_eq_true rfl⟩), hw zw_505⟩ hSc hE hH hS hA rfl hl.1 rfl (Nat.le_of_ble_eq_true rfl) d_Mem_scrubWord_6 ⟨Nat.le_of_ble_eq_true rfl, Nat.le_of_ble_eq_true rfl⟩ (fun v1 kd1 ln1 I1 L1 R1 H locs hp hH hS => ?_)
  obtain ⟨rfl, rfl, rfl, rfl, rfl, rfl⟩ := hp
  refine W.eq (g2 := F0 m 9 ls [.int (zb_cnt (L F k9))]) rfl ?_
  refine W.widen (k := 0) (n := 0) (by omega) (by omega) ?_
  refine lv_istore_n (lv' := [(2, .int (zb_cnt (L F k9))), (0, .ref M), (1, .int (nI k9))]) hx hb d_Mem_scrubWord_9 rfl hl (by decide) rfl (fun ls hl => ?_)
  refine lv_iload_n hx hb d_Mem_scrubWord_10 rfl (lv_at hl 0 rfl) ?_
  refine lv_iconst (v := nI 1) hx hb d_Mem_scrubWord_11 (by decide) ?_
  refine lv_icmp_ne (tgt := 28) hx hb d_Mem_scrubWord_12 (by decide) (fun hc2 => ?_) (fun hc2 => ?_)
  · skip
    have hc2 : ¬ (zb_cnt (L F k9)) = (nI 1) := hc2
    refine lv_iload_n hx hb d_Mem_scrubWord_28 rfl (lv_at hl 0 rfl) ?_
    refine lv_iconst (v := nI 2) hx hb d_Mem_scrubWord_29 (by decide) ?_
    refine lv_icmp_ne (tgt := 43) hx hb d_Mem_scrubWord_30 (by decide) (fun hc3 => ?_) (fun hc3 => ?_)
    · skip
      have hc3 : ¬ (zb_cnt (L F k9)) = (nI 2) := hc3
      refine lv_aload_n hx hb d_Mem_scrubWord_43 rfl (lv_at hl 1 rfl) ?_
      refine zr_getr (ci := 1) (C := R_Mem) (T := T_Mem) (N := 8) (ref := "ScrubbedRecorder$Memory") hx hb hts (fun w h => List.mem_cons_of_mem _ (zin_Mem w h)) hown hK hH m0 (by decide) rfl 0 (by decide) rfl (hw zw_31) (fun _ h9 => h9) d_Mem_scrubWord_44 (by rw [m1]) ?_
      refine lv_iload_n hx hb d_Mem_scrubWord_47 rfl (lv_at hl 2 rfl) ?_
      refine lv_lconst (v := 0) hx hb d_Mem_scrubWord_48 (by decide) ?_
      refine zr_astl (j := k9) (y := 0) hx hb hK hH hS m3 rfl (by rw [m4]; exact zh_ix_n (by omega) (by omega)) d_Mem_scrubWord_49 (fun H locs hH hS => ?_)
      refine W.widen (k := 0) (n := 0) (Nat.le_of_ble_eq_true rfl) (Nat.le_of_ble_eq_true rfl) ?_
      subst hAe
      exact W.vret hx hb hr (fun t ht hW => zc_end hS hH ht (⟨rfl, rfl, rfl, by rw [zb_swI, if_neg hc2, if_neg hc3], rfl, rfl⟩)) hS.2.2 d_Mem_scrubWord_50
    · skip
      have hc3 : (zb_cnt (L F k9)) = (nI 2) := hc3
      refine lv_aload_n hx hb d_Mem_scrubWord_33 rfl (lv_at hl 1 rfl) ?_
      refine lv_dup hx hb d_Mem_scrubWord_34 rfl ?_
      refine zr_geti (ci := 1) (C := R_Mem) (T := T_Mem) (N := 8) (ref := "ScrubbedRecorder$Memory") hx hb hts (fun w h => List.mem_cons_of_mem _ (zin_Mem w h)) hown hK hH m0 (by decide) rfl 7 (by decide) rfl (hw zw_39) (fun _ h9 => h9) d_Mem_scrubWord_35 ?_
      refine lv_iconst (v := nI 1) hx hb d_Mem_scrubWord_38 (by decide) ?_
      refine lv_iadd hx hb d_Mem_scrubWord_39 ?_
      refine zr_puti (ref := "ScrubbedRecorder$Memory") (ci := 1) (C := R_Mem) (T := T_Mem) (N := 8) (x := (I M 7) + (nI 1)) (ty := .int) hx hb hts (fun w h => List.mem_cons_of_mem _ (zin_Mem w h)) ty_Mem tyok_Mem nm_Mem hown hK hH hS m0 (by decide) rfl 7 (by decide) rfl (hw zw_39) (fun _ h9 => h9) rfl (by decide +kernel) rfl rfl d_Mem_scrubWord_40 (fun H locs hH hS => ?_)
      refine lv_aload_n hx hb d_Mem_scrubWord_43 rfl (lv_at hl 1 rfl) ?_
      refine zr_getr (ci := 1) (C := R_Mem) (T := T_Mem) (N := 8) (ref := "ScrubbedRecorder$Memory") hx hb hts (fun w h => List.mem_cons_of_mem _ (zin_Mem w h)) hown hK hH m0 (by decide) rfl 0 (by decide) rfl (hw zw_31) (fun _ h9 => h9) d_Mem_scrubWord_44 (by rw [m1]) ?_
      refine lv_iload_n hx hb d_Mem_scrubWord_47 rfl (lv_at hl 2 rfl) ?_
      refine lv_lconst (v := 0) hx hb d_Mem_scrubWord_48 (by decide) ?_
      refine zr_astl (j := k9) (y := 0) hx hb hK hH hS m3 rfl (by rw [m4]; exact zh_ix_n (by omega) (by omega)) d_Mem_scrubWord_49 (fun H locs hH hS => ?_)
      refine W.widen (k := 0) (n := 0) (Nat.le_of_ble_eq_true rfl) (Nat.le_of_ble_eq_true rfl) ?_
      subst hAe
      exact W.vret hx hb hr (fun t ht hW => zc_end hS hH ht (⟨rfl, rfl, rfl, by rw [zb_swI, if_neg hc2, if_pos hc3], rfl, rfl⟩)) hS.2.2 d_Mem_scrubWord_50
  · skip
    have hc2 : (zb_cnt (L F k9)) = (nI 1) := hc2
    refine lv_aload_n hx hb d_Mem_scrubWord_15 rfl (lv_at hl 1 rfl) ?_
    refine lv_dup hx hb d_Mem_scrubWord_16 rfl ?_
    refine zr_geti (ci := 1) (C := R_Mem) (T := T_Mem) (N := 8) (ref := "ScrubbedRecorder$Memory") hx hb hts (fun w h => List.mem_cons_of_mem _ (zin_Mem w h)) hown hK hH m0 (by decide) rfl 6 (by decide) rfl (hw zw_37) (fun _ h9 => h9) d_Mem_scrubWord_17 ?_
    refine lv_iconst (v := nI 1) hx hb d_Mem_scrubWord_20 (by decide) ?_
    refine lv_iadd hx hb d_Mem_scrubWord_21 ?_
    refine zr_puti (ref := "ScrubbedRecorder$Memory") (ci := 1) (C := R_Mem) (T := T_Mem) (N := 8) (x := (I M 6) + (nI 1)) (ty := .int) hx hb hts (fun w h => List.mem_cons_of_mem _ (zin_Mem w h)) ty_Mem tyok_Mem nm_Mem hown hK hH hS m0 (by decide) rfl 6 (by decide) rfl (hw zw_37) (fun _ h9 => h9) rfl (by decide +kernel) rfl rfl d_Mem_scrubWord_22 (fun H locs hH hS => ?_)
    refine lv_goto (tgt := 43) hx hb d_Mem_scrubWord_25 (by decide) ?_
    refine lv_aload_n hx hb d_Mem_scrubWord_43 rfl (lv_at hl 1 rfl) ?_
    refine zr_getr (ci := 1) (C := R_Mem) (T := T_Mem) (N := 8) (ref := "ScrubbedRecorder$Memory") hx hb hts (fun w h => List.mem_cons_of_mem _ (zin_Mem w h)) hown hK hH m0 (by decide) rfl 0 (by decide) rfl (hw zw_31) (fun _ h9 => h9) d_Mem_scrubWord_44 (by rw [m1]) ?_
    refine lv_iload_n hx hb d_Mem_scrubWord_47 rfl (lv_at hl 2 rfl) ?_
    refine lv_lconst (v := 0) hx hb d_Mem_scrubWord_48 (by decide) ?_
    refine zr_astl (j := k9) (y := 0) hx hb hK hH hS m3 rfl (by rw [m4]; exact zh_ix_n (by omega) (by omega)) d_Mem_scrubWord_49 (fun H locs hH hS => ?_)
    refine W.widen (k := 0) (n := 0) (Nat.le_of_ble_eq_true rfl) (Nat.le_of_ble_eq_true rfl) ?_
    subst hAe
    exact W.vret hx hb hr (fun t ht hW => zc_end hS hH ht (⟨rfl, rfl, rfl, by rw [zb_swI, if_pos hc2], rfl, rfl⟩)) hS.2.2 d_Mem_scrubWord_50

set_option maxHeartbeats 4000000 in
set_option maxRecDepth 100000 in
/-- Memory.writeWord -/
theorem c_Mem_writeWord {l : Launch} {D : va_G} {cA : Nat → ClassId} {te mi : Nat} {kd ln : Nat → Nat} {I : Nat → Nat → Int32} {L : Nat → Nat → Int64} {R : Nat → Nat → Option Nat} {M F C : Nat} (m0 : kd M = 2) (m1 : R M 0 = some F) (m2 : R M 1 = some C) (m3 : kd F = 101) (m4 : ln F = 768) (m5 : kd C = 103) (m6 : ln C = 40) {page word : Nat} (hp9 : page < 40) (hw9 : word < 16) : zc_M l y_Mem_writeWord w_Mem_writeWord { frames := 0, cells := 0, slots := 0, locals := 0 } 0 0 D cA te mi ([.ref M, .int (nI page), .int (nI word)] : List Value) kd ln I L R (zc_eq none kd ln I (zb_wr F page word L) R) := by
  intro sz
  refine Met.ofW (cc := b_Mem_writeWord) (maxL := 8) (ret := none) (by decide +kernel) rfl ?_
  intro p e s m args below meth c s₁ B hml hv
  obtain ⟨rfl, hsz, hSc, hE, hH⟩ := hv
  have hx := B.exec
  have hb := B.bytes
  have hr := B.returns
  have hts := atoms_spec (ws := w_Mem_writeWord) B.pre
  have hw : ∀ {w : Cond}, w ∈ zw → w.before ([.ref M, .int (nI page), .int (nI word)] : List Value).toArray s = true := fun h => hts _ (List.mem_cons_of_mem _ h)
  have hown : s.vm.findClass R_Mem = some m.cls := findClass_of_methodNamed B.named
  have hlocks := B.notSynchronized
  subst hsz
  have hK := hSc.1
  have hH : zh_H D cA (zc_A kd s.heap.size) kd ln I L R s.heap := hH.weaken (fun q h _ => Or.inl h)
  generalize hAe : zc_A kd s.heap.size = A at hH hE ⊢
  have hA : ∀ q : Nat, s.heap.size ≤ q → A q := fun q h => by rw [← hAe]; exact Or.inr h
  have hS : va_S A s.heap s.heap [] := va_S.rf
  have hl := lv_entry ([.ref M, .int (nI page), .int (nI word)] : List Value) (n := 8) (Nat.le_of_ble_eq_true rfl)
  rw [lg_entry_eq]
  generalize (lg_sl ([.ref M, .int (nI page), .int (nI word)] : List Value) ++ List.replicate (8 - (lg_sl ([.ref M, .int (nI page), .int (nI word)] : List Value)).length) Slot.unset).toArray = ls at hl ⊢
  have hl : lv_has ls 8 [(0, .ref M), (1, .int (nI page)), (2, .int (nI word))] := hl
  refine lv_iload_n hx hb d_Mem_writeWord_0 rfl (lv_at hl 1 rfl) ?_
  refine lv_iconst (v := nI 5) hx hb d_Mem_writeWord_1 (by decide) ?_
  refine lv_idiv hx hb d_Mem_writeWord_2 (zt_ne0 (by omega) (by omega)) ?_
  refine zt_i (y := nI (page / 5)) (pk_div (by omega) (by omega) (by omega)) ?_
  refine lv_istore_n (lv' := [(3, .int (nI (page / 5))), (0, .ref M), (1, .int (nI page)), (2, .int (nI word))]) hx hb d_Mem_writeWord_3 rfl hl (by decide) rfl (fun ls hl => ?_)
  refine lv_iload_n hx hb d_Mem_writeWord_4 rfl (lv_at hl 0 rfl) ?_
  refine lv_bipush (v := nI 6) hx hb d_Mem_writeWord_5 (by decide) ?_
  refine lv_irem hx hb d_Mem_writeWord_7 (zt_ne0 (by omega) (by omega)) ?_
  refine zt_i (y := nI ((page / 5) % 6)) (pk_rem (by omega) (by omega) (by omega)) ?_
  refine lv_istore (lv' := [(4, .int (nI ((page / 5) % 6))), (3, .int (nI (page / 5))), (0, .ref M), (1, .int (nI page)), (2, .int (nI word))]) hx hb d_Mem_writeWord_8 hl (by decide) rfl (fun ls hl => ?_)
  refine lv_iload_n hx hb d_Mem_writeWord_10 rfl (lv_at hl 3 rfl) ?_
  refine lv_iconst (v := nI 5) hx hb d_Mem_writeWord_11 (by decide) ?_
  refine lv_irem hx hb d_Mem_writeWord_12 (zt_ne0 (by omega) (by omega)) ?_
  refine zt_i (y := nI (page % 5)) (pk_rem (by omega) (by omega) (by omega)) ?_
  refine lv_istore (lv' := [(5, .int (nI (page % 5))), (4, .int (nI ((page / 5) % 6))), (3, .int (nI (page / 5))), (0, .ref M), (1, .int (nI page)), (2, .int (nI word))]) hx hb d_Mem_writeWord_13 hl (by decide) rfl (fun ls hl => ?_)
  refine lv_iload hx hb d_Mem_writeWord_15 (lv_at hl 0 rfl) ?_
  refine lv_iload hx hb d_Mem_writeWord_17 (lv_at hl 1 rfl) ?_
  refine lv_icmp_ge (tgt := 27) hx hb d_Mem_writeWord_19 (by decide) (fun hc1 => ?_) (fun hc1 => ?_)
  · skip
    have hc1 := zt_geT (a := (page % 5)) (b := ((page / 5) % 6)) (by omega) (by omega) hc1
    refine lv_iload hx hb d_Mem_writeWord_27 (lv_at hl 0 rfl) ?_
    refine lv_iconst (v := nI 1) hx hb d_Mem_writeWord_29 (by decide) ?_
    refine lv_iadd hx hb d_Mem_writeWord_30 ?_
    refine zt_i (y := nI (page % 5 + 1)) (nI_add (page % 5) 1) ?_
    refine lv_istore (lv' := [(6, .int (nI (page % 5 + 1))), (5, .int (nI (page % 5))), (4, .int (nI ((page / 5) % 6))), (3, .int (nI (page / 5))), (0, .ref M), (1, .int (nI page)), (2, .int (nI word))]) hx hb d_Mem_writeWord_31 hl (by decide) rfl (fun ls hl => ?_)
    refine lv_iload_n hx hb d_Mem_writeWord_33 rfl (lv_at hl 3 rfl) ?_
    refine lv_bipush (v := nI 16) hx hb d_Mem_writeWord_34 (by decide) ?_
    refine lv_imul hx hb d_Mem_writeWord_36 ?_
    refine zt_i (y := nI ((page / 5) * 16)) (pk_mul (page / 5) 16) ?_
    refine lv_iload_n hx hb d_Mem_writeWord_37 rfl (lv_at hl 6 rfl) ?_
    refine lv_iadd hx hb d_Mem_writeWord_38 ?_
    refine zt_i (y := nI ((page / 5) * 16 + word)) (nI_add ((page / 5) * 16) word) ?_
    refine lv_istore (lv' := [(7, .int (nI ((page / 5) * 16 + word))), (6, .int (nI (page % 5 + 1))), (5, .int (nI (page % 5))), (4, .int (nI ((page / 5) % 6))), (3, .int (nI (page / 5))), (0, .ref M), (1, .int (nI page)), (2, .int (nI word))]) hx hb d_Mem_writeWord_39 hl (by decide) rfl (fun ls hl => ?_)
    refine lv_aload_n hx hb d_Mem_writeWord_41 rfl (lv_at hl 5 rfl) ?_
    refine zr_getr (ci := 1) (C := R_Mem) (T := T_Mem) (N := 8) (ref := "ScrubbedRecorder$Memory") hx hb hts (fun w h => List.mem_cons_of_mem _ (zin_Mem w h)) hown hK hH m0 (by decide) rfl 0 (by decide) rfl (hw zw_31) (fun _ h9 => h9) d_Mem_writeWord_42 (by rw [m1]) ?_
    refine lv_iload hx hb d_Mem_writeWord_45 (lv_at hl 1 rfl) ?_
    refine lv_sipush (v := nI 128) hx hb d_Mem_writeWord_47 (by decide) ?_
    refine lv_imul hx hb d_Mem_writeWord_50 ?_
    refine zt_i (y := nI ((page % 5 + 1) * 128)) (pk_mul (page % 5 + 1) 128) ?_
    refine lv_iload hx hb d_Mem_writeWord_51 (lv_at hl 0 rfl) ?_
    refine lv_iadd hx hb d_Mem_writeWord_53 ?_
    refine zt_i (y := nI ((page % 5 + 1) * 128 + ((page / 5) * 16 + word))) (nI_add ((page % 5 + 1) * 128) ((page / 5) * 16 + word)) ?_
    refine lv_lconst (v := 0) hx hb d_Mem_writeWord_54 (by decide) ?_
    refine zr_astl (j := (page % 5 + 1) * 128 + ((page / 5) * 16 + word)) (y := 0) hx hb hK hH hS m3 rfl (by rw [m4]; exact zh_ix_n (by omega) (by omega)) d_Mem_writeWord_55 (fun H locs hH hS => ?_)
    refine lv_aload_n hx hb d_Mem_writeWord_56 rfl (lv_at hl 5 rfl) ?_
    refine zr_getr (ci := 1) (C := R_Mem) (T := T_Mem) (N := 8) (ref := "ScrubbedRecorder$Memory") hx hb hts (fun w h => List.mem_cons_of_mem _ (zin_Mem w h)) hown hK hH m0 (by decide) rfl 0 (by decide) rfl (hw zw_31) (fun _ h9 => h9) d_Mem_writeWord_57 (by rw [m1]) ?_
    refine lv_iload hx hb d_Mem_writeWord_60 (lv_at hl 3 rfl) ?_
    refine lv_sipush (v := nI 128) hx hb d_Mem_writeWord_62 (by decide) ?_
    refine lv_imul hx hb d_Mem_writeWord_65 ?_
    refine zt_i (y := nI (((page / 5) % 6) * 128)) (pk_mul ((page / 5) % 6) 128) ?_
    refine lv_iload hx hb d_Mem_writeWord_66 (lv_at hl 0 rfl) ?_
    refine lv_iadd hx hb d_Mem_writeWord_68 ?_
    refine zt_i (y := nI (((page / 5) % 6) * 128 + ((page / 5) * 16 + word))) (nI_add (((page / 5) % 6) * 128) ((page / 5) * 16 + word)) ?_
    refine lv_lconst (v := 0) hx hb d_Mem_writeWord_69 (by decide) ?_
    refine zr_astl (j := ((page / 5) % 6) * 128 + ((page / 5) * 16 + word)) (y := 0) hx hb hK hH hS m3 rfl (by rw [m4]; exact zh_ix_n (by omega) (by omega)) d_Mem_writeWord_70 (fun H locs hH hS => ?_)
    refine W.widen (k := 0) (n := 0) (Nat.le_of_ble_eq_true rfl) (Nat.le_of_ble_eq_true rfl) ?_
    subst hAe
    exact W.vret hx hb hr (fun t ht hW => zc_end hS hH ht (⟨rfl, rfl, rfl, rfl, by rw [zb_wr, zb_wx, zb_wy]; first | rw [if_pos (by omega)] | rw [if_neg (by omega)], rfl⟩)) hS.2.2 d_Mem_writeWord_71
  · skip
    have hc1 := zt_geF (a := (page % 5)) (b := ((page / 5) % 6)) (by omega) (by omega) hc1
    refine lv_iload hx hb d_Mem_writeWord_22 (lv_at hl 0 rfl) ?_
    refine lv_goto (tgt := 31) hx hb d_Mem_writeWord_24 (by decide) ?_
    refine lv_istore (lv' := [(6, .int (nI (page % 5))), (5, .int (nI (page % 5))), (4, .int (nI ((page / 5) % 6))), (3, .int (nI (page / 5))), (0, .ref M), (1, .int (nI page)), (2, .int (nI word))]) hx hb d_Mem_writeWord_31 hl (by decide) rfl (fun ls hl => ?_)
    refine lv_iload_n hx hb d_Mem_writeWord_33 rfl (lv_at hl 3 rfl) ?_
    refine lv_bipush (v := nI 16) hx hb d_Mem_writeWord_34 (by decide) ?_
    refine lv_imul hx hb d_Mem_writeWord_36 ?_
    refine zt_i (y := nI ((page / 5) * 16)) (pk_mul (page / 5) 16) ?_
    refine lv_iload_n hx hb d_Mem_writeWord_37 rfl (lv_at hl 6 rfl) ?_
    refine lv_iadd hx hb d_Mem_writeWord_38 ?_
    refine zt_i (y := nI ((page / 5) * 16 + word)) (nI_add ((page / 5) * 16) word) ?_
    refine lv_istore (lv' := [(7, .int (nI ((page / 5) * 16 + word))), (6, .int (nI (page % 5))), (5, .int (nI (page % 5))), (4, .int (nI ((page / 5) % 6))), (3, .int (nI (page / 5))), (0, .ref M), (1, .int (nI page)), (2, .int (nI word))]) hx hb d_Mem_writeWord_39 hl (by decide) rfl (fun ls hl => ?_)
    refine lv_aload_n hx hb d_Mem_writeWord_41 rfl (lv_at hl 5 rfl) ?_
    refine zr_getr (ci := 1) (C := R_Mem) (T := T_Mem) (N := 8) (ref := "ScrubbedRecorder$Memory") hx hb hts (fun w h => List.mem_cons_of_mem _ (zin_Mem w h)) hown hK hH m0 (by decide) rfl 0 (by decide) rfl (hw zw_31) (fun _ h9 => h9) d_Mem_writeWord_42 (by rw [m1]) ?_
    refine lv_iload hx hb d_Mem_writeWord_45 (lv_at hl 1 rfl) ?_
    refine lv_sipush (v := nI 128) hx hb d_Mem_writeWord_47 (by decide) ?_
    refine lv_imul hx hb d_Mem_writeWord_50 ?_
    refine zt_i (y := nI ((page % 5) * 128)) (pk_mul (page % 5) 128) ?_
    refine lv_iload hx hb d_Mem_writeWord_51 (lv_at hl 0 rfl) ?_
    refine lv_iadd hx hb d_Mem_writeWord_53 ?_
    refine zt_i (y := nI ((page % 5) * 128 + ((page / 5) * 16 + word))) (nI_add ((page % 5) * 128) ((page / 5) * 16 + word)) ?_
    refine lv_lconst (v := 0) hx hb d_Mem_writeWord_54 (by decide) ?_
    refine zr_astl (j := (page % 5) * 128 + ((page / 5) * 16 + word)) (y := 0) hx hb hK hH hS m3 rfl (by rw [m4]; exact zh_ix_n (by omega) (by omega)) d_Mem_writeWord_55 (fun H locs hH hS => ?_)
    refine lv_aload_n hx hb d_Mem_writeWord_56 rfl (lv_at hl 5 rfl) ?_
    refine zr_getr (ci := 1) (C := R_Mem) (T := T_Mem) (N := 8) (ref := "ScrubbedRecorder$Memory") hx hb hts (fun w h => List.mem_cons_of_mem _ (zin_Mem w h)) hown hK hH m0 (by decide) rfl 0 (by decide) rfl (hw zw_31) (fun _ h9 => h9) d_Mem_writeWord_57 (by rw [m1]) ?_
    refine lv_iload hx hb d_Mem_writeWord_60 (lv_at hl 3 rfl) ?_
    refine lv_sipush (v := nI 128) hx hb d_Mem_writeWord_62 (by decide) ?_
    refine lv_imul hx hb d_Mem_writeWord_65 ?_
    refine zt_i (y := nI (((page / 5) % 6) * 128)) (pk_mul ((page / 5) % 6) 128) ?_
    refine lv_iload hx hb d_Mem_writeWord_66 (lv_at hl 0 rfl) ?_
    refine lv_iadd hx hb d_Mem_writeWord_68 ?_
    refine zt_i (y := nI (((page / 5) % 6) * 128 + ((page / 5) * 16 + word))) (nI_add (((page / 5) % 6) * 128) ((page / 5) * 16 + word)) ?_
    refine lv_lconst (v := 0) hx hb d_Mem_writeWord_69 (by decide) ?_
    refine zr_astl (j := ((page / 5) % 6) * 128 + ((page / 5) * 16 + word)) (y := 0) hx hb hK hH hS m3 rfl (by rw [m4]; exact zh_ix_n (by omega) (by omega)) d_Mem_writeWord_70 (fun H locs hH hS => ?_)
    refine W.widen (k := 0) (n := 0) (Nat.le_of_ble_eq_true rfl) (Nat.le_of_ble_eq_true rfl) ?_
    subst hAe
    exact W.vret hx hb hr (fun t ht hW => zc_end hS hH ht (⟨rfl, rfl, rfl, rfl, by rw [zb_wr, zb_wx, zb_wy]; first | rw [if_pos (by omega)] | rw [if_neg (by omega)], rfl⟩)) hS.2.2 d_Mem_writeWord_71

set_option maxHeartbeats 4000000 in
set_option maxRecDepth 100000 in
/-- Memory.freePage -/
theorem c_Mem_freePage {l : Launch} {D : va_G} {cA : Nat → ClassId} {te mi : Nat} {kd ln : Nat → Nat} {I : Nat → Nat → Int32} {L : Nat → Nat → Int64} {R : Nat → Nat → Option Nat} {M F C : Nat} (m0 : kd M = 2) (m1 : R M 0 = some F) (m2 : R M 1 = some C) (m3 : kd F = 101) (m4 : ln F = 768) (m5 : kd C = 103) (m6 : ln C = 40) {page : Nat} (hp9 : page < 40) : zc_M l y_Mem_freePage w_Mem_freePage { frames := 1, cells := 0, slots := 0, locals := 27 } 0 0 D cA te mi ([.ref M, .int (nI page)] : List Value) kd ln I L R (zc_eq none kd ln (zu I C page (nI 0)) (zb_wr F page 0 L) R) := by
  intro sz
  refine Met.ofW (cc := b_Mem_freePage) (maxL := 2) (ret := none) (by decide +kernel) rfl ?_
  intro p e s m args below meth c s₁ B hml hv
  obtain ⟨rfl, hsz, hSc, hE, hH⟩ := hv
  have hx := B.exec
  have hb := B.bytes
  have hr := B.returns
  have hts := atoms_spec (ws := w_Mem_freePage) B.pre
  have hw : ∀ {w : Cond}, w ∈ zw → w.before ([.ref M, .int (nI page)] : List Value).toArray s = true := fun h => hts _ (List.mem_cons_of_mem _ h)
  have hown : s.vm.findClass R_Mem = some m.cls := findClass_of_methodNamed B.named
  have hlocks := B.notSynchronized
  subst hsz
  have hK := hSc.1
  have hH : zh_H D cA (zc_A kd s.heap.size) kd ln I L R s.heap := hH.weaken (fun q h _ => Or.inl h)
  generalize hAe : zc_A kd s.heap.size = A at hH hE ⊢
  have hA : ∀ q : Nat, s.heap.size ≤ q → A q := fun q h => by rw [← hAe]; exact Or.inr h
  have hS : va_S A s.heap s.heap [] := va_S.rf
  have hl := lv_entry ([.ref M, .int (nI page)] : List Value) (n := 2) (Nat.le_of_ble_eq_true rfl)
  rw [lg_entry_eq]
  generalize (lg_sl ([.ref M, .int (nI page)] : List Value) ++ List.replicate (2 - (lg_sl ([.ref M, .int (nI page)] : List Value)).length) Slot.unset).toArray = ls at hl ⊢
  have hl : lv_has ls 2 [(0, .ref M), (1, .int (nI page))] := hl
  refine lv_aload_n hx hb d_Mem_freePage_0 rfl (lv_at hl 0 rfl) ?_
  refine zr_getr (ci := 1) (C := R_Mem) (T := T_Mem) (N := 8) (ref := "ScrubbedRecorder$Memory") hx hb hts (fun w h => List.mem_cons_of_mem _ (zin_Mem w h)) hown hK hH m0 (by decide) rfl 1 (by decide) rfl (hw zw_32) (fun _ h9 => h9) d_Mem_freePage_1 (by rw [m2]) ?_
  refine lv_iload_n hx hb d_Mem_freePage_4 rfl (lv_at hl 1 rfl) ?_
  refine lv_iconst (v := nI 0) hx hb d_Mem_freePage_5 (by decide) ?_
  refine zr_astz (j := page) (y := nI 0) hx hb hK hH hS m5 (by decide +kernel) (by rw [m6]; exact zh_ix_n (by omega) (by omega)) d_Mem_freePage_6 (fun H locs hH hS => ?_)
  refine lv_aload_n hx hb d_Mem_freePage_7 rfl (lv_at hl 0 rfl) ?_
  refine lv_iload_n hx hb d_Mem_freePage_8 rfl (lv_at hl 1 rfl) ?_
  refine lv_iconst (v := nI 0) hx hb d_Mem_freePage_9 (by decide) ?_
  refine zr_V (As := ([.int (nI page), .int (nI 0)] : List Value)) (rest := []) (b := M) (ci := 1) (q := (R_Mem, T_Mem, 8)) ⟨hx, hb, hml, hown, hts⟩ (c_Mem_writeWord m0 m1 m2 m3 m4 m5 m6 (by omega) (by omega)) ⟨(callB_of 2 hts (zg_all zw_211) rfl rfl rfl (hw zw_2) (hw zw_208) k_Mem_writeWord.2 ⟨Nat.le_of_ble_eq_true rfl, Nat.le_of_ble_eq_true rfl⟩), (hw zw_209), (hw zw_210)⟩ hSc hE hH hS hA rfl (by decide) m0 rfl hl.1 rfl (Nat.le_of_ble_eq_true rfl) d_Mem_freePage_10 ⟨Nat.le_of_ble_eq_true rfl, Nat.le_of_ble_eq_true rfl⟩ (fun v1 kd1 ln1 I1 L1 R1 H locs hp hH hS => ?_)
  obtain ⟨rfl, rfl, rfl, rfl, rfl, rfl⟩ := hp
  refine W.eq (g2 := F0 m 13 ls []) rfl ?_
  refine W.widen (k := 0) (n := 0) (Nat.le_of_ble_eq_true rfl) (Nat.le_of_ble_eq_true rfl) ?_
  subst hAe
  exact W.vret hx hb hr (fun t ht hW => zc_end hS hH ht (⟨rfl, rfl, rfl, rfl, rfl, rfl⟩)) hS.2.2 d_Mem_freePage_13

set_option maxHeartbeats 4000000 in
set_option maxRecDepth 100000 in
/-- Memory.openLeastPage -/
theorem c_Mem_openLeastPage {l : Launch} {D : va_G} {cA : Nat → ClassId} {te mi : Nat} {kd ln : Nat → Nat} {I : Nat → Nat → Int32} {L : Nat → Nat → Int64} {R : Nat → Nat → Option Nat} {M F C : Nat} (m0 : kd M = 2) (m1 : R M 0 = some F) (m2 : R M 1 = some C) (m3 : kd F = 101) (m4 : ln F = 768) (m5 : kd C = 103) (m6 : ln C = 40) : zc_M l y_Mem_openLeastPage w_Mem_openLeastPage { frames := 1, cells := 0, slots := 0, locals := 27 } 0 0 D cA te mi ([.ref M] : List Value) kd ln I L R (zc_eq (some (.int (nI (zb_lp (I C) 39)))) kd ln (zu I C (zb_lp (I C) 39) (nI 1)) (zb_wrs F (zb_lp (I C) 39) L 16) R) := by
  intro sz
  refine Met.ofW (cc := b_Mem_openLeastPage) (maxL := 3) (ret := (some (.int))) (by decide +kernel) rfl ?_
  intro p e s m args below meth c s₁ B hml hv
  obtain ⟨rfl, hsz, hSc, hE, hH⟩ := hv
  have hx := B.exec
  have hb := B.bytes
  have hr := B.returns
  have hts := atoms_spec (ws := w_Mem_openLeastPage) B.pre
  have hw : ∀ {w : Cond}, w ∈ zw → w.before ([.ref M] : List Value).toArray s = true := fun h => hts _ (List.mem_cons_of_mem _ h)
  have hown : s.vm.findClass R_Mem = some m.cls := findClass_of_methodNamed B.named
  have hlocks := B.notSynchronized
  subst hsz
  have hK := hSc.1
  have hH : zh_H D cA (zc_A kd s.heap.size) kd ln I L R s.heap := hH.weaken (fun q h _ => Or.inl h)
  generalize hAe : zc_A kd s.heap.size = A at hH hE ⊢
  have hA : ∀ q : Nat, s.heap.size ≤ q → A q := fun q h => by rw [← hAe]; exact Or.inr h
  have hS : va_S A s.heap s.heap [] := va_S.rf
  have hl := lv_entry ([.ref M] : List Value) (n := 3) (Nat.le_of_ble_eq_true rfl)
  rw [lg_entry_eq]
  generalize (lg_sl ([.ref M] : List Value) ++ List.replicate (3 - (lg_sl ([.ref M] : List Value)).length) Slot.unset).toArray = ls at hl ⊢
  have hl : lv_has ls 3 [(0, .ref M)] := hl
  refine lv_iconst (v := nI 0) hx hb d_Mem_openLeastPage_0 (by decide) ?_
  refine lv_istore_n (lv' := [(1, .int (nI 0)), (0, .ref M)]) hx hb d_Mem_openLeastPage_1 rfl hl (by decide) rfl (fun ls hl => ?_)
  have loop_2 : ∀ (z : Nat) (g : Nat) (H : Heap) (locs : List Loc) (ls : Array Slot), 39 - g < z → (g ≤ 39) → (zb_lp (I C) (39 - g) = zb_lp (I C) 39) → lv_has ls 3 [(0, .ref M), (1, .int (nI g))] → zh_H D cA A kd ln I L R H → va_S A s.heap H locs → W p l e (headSpec w_Mem_openLeastPage { frames := 1, cells := 0, slots := 0, locals := 27 }).room s m ([.ref M] : List Value).toArray below meth c H locs 0 0 (MQ below (zc_Qc D cA A (zc_eq (some (.int (nI (zb_lp (I C) 39)))) kd ln (zu I C (zb_lp (I C) 39) (nI 1)) (zb_wrs F (zb_lp (I C) 39) L 16) R)) ([.ref M] : List Value).toArray s 0 0 A) (F0 m 2 ls []) := by
    intro z
    induction z with
    | zero => intro g H locs ls hz; exact absurd hz (Nat.not_lt_zero _)
    | succ z ih_2 =>
      intro g H locs ls hz_2 hg9 hg hl hH hS
      refine lv_iload_n hx hb d_Mem_openLeastPage_2 rfl (lv_at hl 1 rfl) ?_
      refine lv_bipush (v := nI 39) hx hb d_Mem_openLeastPage_3 (by decide) ?_
      refine lv_icmp_ge (tgt := 23) hx hb d_Mem_openLeastPage_5 (by decide) (fun hc1 => ?_) (fun hc1 => ?_)
      · skip
        have hc1 := zt_geT (a := g) (b := 39) (by omega) (by omega) hc1
        refine lv_aload_n hx hb d_Mem_openLeastPage_23 rfl (lv_at hl 0 rfl) ?_
        refine zr_getr (ci := 1) (C := R_Mem) (T := T_Mem) (N := 8) (ref := "ScrubbedRecorder$Memory") hx hb hts (fun w h => List.mem_cons_of_mem _ (zin_Mem w h)) hown hK hH m0 (by decide) rfl 1 (by decide) rfl (hw zw_32) (fun _ h9 => h9) d_Mem_openLeastPage_24 (by rw [m2]) ?_
        refine lv_iload_n hx hb d_Mem_openLeastPage_27 rfl (lv_at hl 1 rfl) ?_
        refine lv_iconst (v := nI 1) hx hb d_Mem_openLeastPage_28 (by decide) ?_
        refine zr_astz (j := g) (y := nI 1) hx hb hK hH hS m5 (by decide +kernel) (by rw [m6]; exact zh_ix_n (by omega) (by omega)) d_Mem_openLeastPage_29 (fun H locs hH hS => ?_)
        refine lv_iconst (v := nI 0) hx hb d_Mem_openLeastPage_30 (by decide) ?_
        refine lv_istore_n (lv' := [(2, .int (nI 0)), (0, .ref M), (1, .int (nI g))]) hx hb d_Mem_openLeastPage_31 rfl hl (by decide) rfl (fun ls hl => ?_)
        have hpg : zb_lp (I C) 39 = g := by rw [← hg, show 39 - g = 0 by omega]; show 39 = g; omega
        have loop_32 : ∀ (z : Nat) (v : Nat) (H : Heap) (locs : List Loc) (ls : Array Slot), 16 - v < z → (v ≤ 16) → lv_has ls 3 [(0, .ref M), (1, .int (nI g)), (2, .int (nI v))] → zh_H D cA A kd ln (zu I C g (nI 1)) (zb_wrs F g L v) R H → va_S A s.heap H locs → W p l e (headSpec w_Mem_openLeastPage { frames := 1, cells := 0, slots := 0, locals := 27 }).room s m ([.ref M] : List Value).toArray below meth c H locs 0 0 (MQ below (zc_Qc D cA A (zc_eq (some (.int (nI (zb_lp (I C) 39)))) kd ln (zu I C (zb_lp (I C) 39) (nI 1)) (zb_wrs F (zb_lp (I C) 39) L 16) R)) ([.ref M] : List Value).toArray s 0 0 A) (F0 m 32 ls []) := by
          intro z
          induction z with
          | zero => intro v H locs ls hz; exact absurd hz (Nat.not_lt_zero _)
          | succ z ih_32 =>
            intro v H locs ls hz_32 hv hl hH hS
            refine lv_iload_n hx hb d_Mem_openLeastPage_32 rfl (lv_at hl 2 rfl) ?_
            refine lv_bipush (v := nI 16) hx hb d_Mem_openLeastPage_33 (by decide) ?_
            refine lv_icmp_ge (tgt := 50) hx hb d_Mem_openLeastPage_35 (by decide) (fun hc2 => ?_) (fun hc2 => ?_)
            · skip
              have hc2 := zt_geT (a := v) (b := 16) (by omega) (by omega) hc2
              refine lv_iload_n hx hb d_Mem_openLeastPage_50 rfl (lv_at hl 1 rfl) ?_
              refine W.widen (k := 0) (n := 0) (Nat.le_of_ble_eq_true rfl) (Nat.le_of_ble_eq_true rfl) ?_
              subst hAe
              exact W.iret (v := nI g) hx hb hr (fun t ht hW => zc_end hS hH ht (⟨by rw [hpg], rfl, rfl, by rw [hpg], by rw [hpg, show v = 16 by omega], rfl⟩)) hS.2.2 d_Mem_openLeastPage_51
            · skip
              have hc2 := zt_geF (a := v) (b := 16) (by omega) (by omega) hc2
              refine lv_aload_n hx hb d_Mem_openLeastPage_38 rfl (lv_at hl 0 rfl) ?_
              refine lv_iload_n hx hb d_Mem_openLeastPage_39 rfl (lv_at hl 1 rfl) ?_
              refine lv_iload_n hx hb d_Mem_openLeastPage_40 rfl (lv_at hl 2 rfl) ?_
              refine zr_V (As := ([.int (nI g), .int (nI v)] : List Value)) (rest := []) (b := M) (ci := 1) (q := (R_Mem, T_Mem, 8)) ⟨hx, hb, hml, hown, hts⟩ (c_Mem_writeWord m0 m1 m2 m3 m4 m5 m6 (by omega) (by omega)) ⟨(callB_of 2 hts (zg_all zw_211) rfl rfl rfl (hw zw_2) (hw zw_208) k_Mem_writeWord.2 ⟨Nat.le_of_ble_eq_true rfl, Nat.le_of_ble_eq_true rfl⟩), (hw zw_209), (hw zw_210)⟩ hSc hE hH hS hA rfl (by decide) m0 rfl hl.1 rfl (Nat.le_of_ble_eq_true rfl) d_Mem_openLeastPage_41 ⟨Nat.le_of_ble_eq_true rfl, Nat.le_of_ble_eq_true rfl⟩ (fun v3 kd3 ln3 I3 L3 R3 H locs hp hH hS => ?_)
              obtain ⟨rfl, rfl, rfl, rfl, rfl, rfl⟩ := hp
              refine W.eq (g2 := F0 m 44 ls []) rfl ?_
              refine lv_iinc (k := 2) (v := nI (v + 1)) (lv' := [(2, .int (nI (v + 1))), (0, .ref M), (1, .int (nI g))]) hx hb d_Mem_openLeastPage_44 hl rfl (nI_add v 1) (by decide) rfl (fun ls hl => ?_)
              refine lv_goto (tgt := 32) hx hb d_Mem_openLeastPage_47 (by decide) ?_
              exact ih_32 (v + 1) _ _ _ (by omega) (by omega) (lv_sub hl [1, 2, 0] rfl) hH hS
        exact loop_32 _ 0 _ _ _ (Nat.lt_succ_self _) (by omega) (lv_sub hl [1, 2, 0] rfl) hH hS
      · skip
        have hc1 := zt_geF (a := g) (b := 39) (by omega) (by omega) hc1
        refine lv_aload_n hx hb d_Mem_openLeastPage_8 rfl (lv_at hl 0 rfl) ?_
        refine zr_getr (ci := 1) (C := R_Mem) (T := T_Mem) (N := 8) (ref := "ScrubbedRecorder$Memory") hx hb hts (fun w h => List.mem_cons_of_mem _ (zin_Mem w h)) hown hK hH m0 (by decide) rfl 1 (by decide) rfl (hw zw_32) (fun _ h9 => h9) d_Mem_openLeastPage_9 (by rw [m2]) ?_
        refine lv_iload_n hx hb d_Mem_openLeastPage_12 rfl (lv_at hl 1 rfl) ?_
        refine zr_aldz (j := g) hx hb hK hH m5 (by rw [m6]; exact zh_ix_n (by omega) (by omega)) d_Mem_openLeastPage_13 ?_
        refine lv_if_eq (tgt := 23) hx hb d_Mem_openLeastPage_14 (by decide) (fun hc4 => ?_) (fun hc4 => ?_)
        · skip
          have hc4 : (I C g) = (nI 0) := hc4
          refine lv_aload_n hx hb d_Mem_openLeastPage_23 rfl (lv_at hl 0 rfl) ?_
          refine zr_getr (ci := 1) (C := R_Mem) (T := T_Mem) (N := 8) (ref := "ScrubbedRecorder$Memory") hx hb hts (fun w h => List.mem_cons_of_mem _ (zin_Mem w h)) hown hK hH m0 (by decide) rfl 1 (by decide) rfl (hw zw_32) (fun _ h9 => h9) d_Mem_openLeastPage_24 (by rw [m2]) ?_
          refine lv_iload_n hx hb d_Mem_openLeastPage_27 rfl (lv_at hl 1 rfl) ?_
          refine lv_iconst (v := nI 1) hx hb d_Mem_openLeastPage_28 (by decide) ?_
          refine zr_astz (j := g) (y := nI 1) hx hb hK hH hS m5 (by decide +kernel) (by rw [m6]; exact zh_ix_n (by omega) (by omega)) d_Mem_openLeastPage_29 (fun H locs hH hS => ?_)
          refine lv_iconst (v := nI 0) hx hb d_Mem_openLeastPage_30 (by decide) ?_
          refine lv_istore_n (lv' := [(2, .int (nI 0)), (0, .ref M), (1, .int (nI g))]) hx hb d_Mem_openLeastPage_31 rfl hl (by decide) rfl (fun ls hl => ?_)
          have hpg : zb_lp (I C) 39 = g := by rw [← hg, zb_lp_s (p := g) (by omega)]; simp [hc1, hc4]
          have loop_32 : ∀ (z : Nat) (v : Nat) (H : Heap) (locs : List Loc) (ls : Array Slot), 16 - v < z → (v ≤ 16) → lv_has ls 3 [(0, .ref M), (1, .int (nI g)), (2, .int (nI v))] → zh_H D cA A kd ln (zu I C g (nI 1)) (zb_wrs F g L v) R H → va_S A s.heap H locs → W p l e (headSpec w_Mem_openLeastPage { frames := 1, cells := 0, slots := 0, locals := 27 }).room s m ([.ref M] : List Value).toArray below meth c H locs 0 0 (MQ below (zc_Qc D cA A (zc_eq (some (.int (nI (zb_lp (I C) 39)))) kd ln (zu I C (zb_lp (I C) 39) (nI 1)) (zb_wrs F (zb_lp (I C) 39) L 16) R)) ([.ref M] : List Value).toArray s 0 0 A) (F0 m 32 ls []) := by
            intro z
            induction z with
            | zero => intro v H locs ls hz; exact absurd hz (Nat.not_lt_zero _)
            | succ z ih_32 =>
              intro v H locs ls hz_32 hv hl hH hS
              refine lv_iload_n hx hb d_Mem_openLeastPage_32 rfl (lv_at hl 2 rfl) ?_
              refine lv_bipush (v := nI 16) hx hb d_Mem_openLeastPage_33 (by decide) ?_
              refine lv_icmp_ge (tgt := 50) hx hb d_Mem_openLeastPage_35 (by decide) (fun hc5 => ?_) (fun hc5 => ?_)
              · skip
                have hc5 := zt_geT (a := v) (b := 16) (by omega) (by omega) hc5
                refine lv_iload_n hx hb d_Mem_openLeastPage_50 rfl (lv_at hl 1 rfl) ?_
                refine W.widen (k := 0) (n := 0) (Nat.le_of_ble_eq_true rfl) (Nat.le_of_ble_eq_true rfl) ?_
                subst hAe
                exact W.iret (v := nI g) hx hb hr (fun t ht hW => zc_end hS hH ht (⟨by rw [hpg], rfl, rfl, by rw [hpg], by rw [hpg, show v = 16 by omega], rfl⟩)) hS.2.2 d_Mem_openLeastPage_51
              · skip
                have hc5 := zt_geF (a := v) (b := 16) (by omega) (by omega) hc5
                refine lv_aload_n hx hb d_Mem_openLeastPage_38 rfl (lv_at hl 0 rfl) ?_
                refine lv_iload_n hx hb d_Mem_openLeastPage_39 rfl (lv_at hl 1 rfl) ?_
                refine lv_iload_n hx hb d_Mem_openLeastPage_40 rfl (lv_at hl 2 rfl) ?_
                refine zr_V (As := ([.int (nI g), .int (nI v)] : List Value)) (rest := []) (b := M) (ci := 1) (q := (R_Mem, T_Mem, 8)) ⟨hx, hb, hml, hown, hts⟩ (c_Mem_writeWord m0 m1 m2 m3 m4 m5 m6 (by omega) (by omega)) ⟨(callB_of 2 hts (zg_all zw_211) rfl rfl rfl (hw zw_2) (hw zw_208) k_Mem_writeWord.2 ⟨Nat.le_of_ble_eq_true rfl, Nat.le_of_ble_eq_true rfl⟩), (hw zw_209), (hw zw_210)⟩ hSc hE hH hS hA rfl (by decide) m0 rfl hl.1 rfl (Nat.le_of_ble_eq_true rfl) d_Mem_openLeastPage_41 ⟨Nat.le_of_ble_eq_true rfl, Nat.le_of_ble_eq_true rfl⟩ (fun v6 kd6 ln6 I6 L6 R6 H locs hp hH hS => ?_)
                obtain ⟨rfl, rfl, rfl, rfl, rfl, rfl⟩ := hp
                refine W.eq (g2 := F0 m 44 ls []) rfl ?_
                refine lv_iinc (k := 2) (v := nI (v + 1)) (lv' := [(2, .int (nI (v + 1))), (0, .ref M), (1, .int (nI g))]) hx hb d_Mem_openLeastPage_44 hl rfl (nI_add v 1) (by decide) rfl (fun ls hl => ?_)
                refine lv_goto (tgt := 32) hx hb d_Mem_openLeastPage_47 (by decide) ?_
                exact ih_32 (v + 1) _ _ _ (by omega) (by omega) (lv_sub hl [1, 2, 0] rfl) hH hS
          exact loop_32 _ 0 _ _ _ (Nat.lt_succ_self _) (by omega) (lv_sub hl [1, 2, 0] rfl) hH hS
        · skip
          have hc4 : ¬ (I C g) = (nI 0) := hc4
          refine lv_iinc (k := 1) (v := nI (g + 1)) (lv' := [(1, .int (nI (g + 1))), (0, .ref M)]) hx hb d_Mem_openLeastPage_17 hl rfl (nI_add g 1) (by decide) rfl (fun ls hl => ?_)
          refine lv_goto (tgt := 2) hx hb d_Mem_openLeastPage_20 (by decide) ?_
          exact ih_2 (g + 1) _ _ _ (by omega) (by omega) (by rw [← hg, zb_lp_s (p := g) (by omega)]; simp [hc1, hc4]) (lv_sub hl [1, 0] rfl) hH hS
  exact loop_2 _ 0 _ _ _ (Nat.lt_succ_self _) (by omega) rfl (lv_sub hl [1, 0] rfl) hH hS

set_option maxHeartbeats 4000000 in
set_option maxRecDepth 100000 in
/-- Memory.countFreePages -/
theorem c_Mem_countFreePages {l : Launch} {D : va_G} {cA : Nat → ClassId} {te mi : Nat} {kd ln : Nat → Nat} {I : Nat → Nat → Int32} {L : Nat → Nat → Int64} {R : Nat → Nat → Option Nat} {M F C : Nat} (m0 : kd M = 2) (m1 : R M 0 = some F) (m2 : R M 1 = some C) (m3 : kd F = 101) (m4 : ln F = 768) (m5 : kd C = 103) (m6 : ln C = 40) : zc_M l y_Mem_countFreePages w_Mem_countFreePages { frames := 0, cells := 0, slots := 0, locals := 0 } 0 0 D cA te mi ([.ref M] : List Value) kd ln I L R (zc_eq (some (.int (nI (zb_cf (I C) 40)))) kd ln I L R) := by
  intro sz
  refine Met.ofW (cc := b_Mem_countFreePages) (maxL := 3) (ret := (some (.int))) (by decide +kernel) rfl ?_
  intro p e s m args below meth c s₁ B hml hv
  obtain ⟨rfl, hsz, hSc, hE, hH⟩ := hv
  have hx := B.exec
  have hb := B.bytes
  have hr := B.returns
  have hts := atoms_spec (ws := w_Mem_countFreePages) B.pre
  have hw : ∀ {w : Cond}, w ∈ zw → w.before ([.ref M] : List Value).toArray s = true := fun h => hts _ (List.mem_cons_of_mem _ h)
  have hown : s.vm.findClass R_Mem = some m.cls := findClass_of_methodNamed B.named
  have hlocks := B.notSynchronized
  subst hsz
  have hK := hSc.1
  have hH : zh_H D cA (zc_A kd s.heap.size) kd ln I L R s.heap := hH.weaken (fun q h _ => Or.inl h)
  generalize hAe : zc_A kd s.heap.size = A at hH hE ⊢
  have hA : ∀ q : Nat, s.heap.size ≤ q → A q := fun q h => by rw [← hAe]; exact Or.inr h
  have hS : va_S A s.heap s.heap [] := va_S.rf
  have hl := lv_entry ([.ref M] : List Value) (n := 3) (Nat.le_of_ble_eq_true rfl)
  rw [lg_entry_eq]
  generalize (lg_sl ([.ref M] : List Value) ++ List.replicate (3 - (lg_sl ([.ref M] : List Value)).length) Slot.unset).toArray = ls at hl ⊢
  have hl : lv_has ls 3 [(0, .ref M)] := hl
  refine lv_iconst (v := nI 0) hx hb d_Mem_countFreePages_0 (by decide) ?_
  refine lv_istore_n (lv' := [(1, .int (nI 0)), (0, .ref M)]) hx hb d_Mem_countFreePages_1 rfl hl (by decide) rfl (fun ls hl => ?_)
  refine lv_iconst (v := nI 0) hx hb d_Mem_countFreePages_2 (by decide) ?_
  refine lv_istore_n (lv' := [(2, .int (nI 0)), (1, .int (nI 0)), (0, .ref M)]) hx hb d_Mem_countFreePages_3 rfl hl (by decide) rfl (fun ls hl => ?_)
  have loop_4 : ∀ (z : Nat) (g : Nat) (H : Heap) (locs : List Loc) (ls : Array Slot), 40 - g < z → (g ≤ 40) → lv_has ls 3 [(0, .ref M), (1, .int (nI (zb_cf (I C) g))), (2, .int (nI g))] → zh_H D cA A kd ln I L R H → va_S A s.heap H locs → W p l e (headSpec w_Mem_countFreePages { frames := 0, cells := 0, slots := 0, locals := 0 }).room s m ([.ref M] : List Value).toArray below meth c H locs 0 0 (MQ below (zc_Qc D cA A (zc_eq (some (.int (nI (zb_cf (I C) 40)))) kd ln I L R)) ([.ref M] : List Value).toArray s 0 0 A) (F0 m 4 ls []) := by
    intro z
    induction z with
    | zero => intro g H locs ls hz; exact absurd hz (Nat.not_lt_zero _)
    | succ z ih_4 =>
      intro g H locs ls hz_4 hg9 hl hH hS
      have hcf := zb_cf_le (I C) g
      refine lv_iload_n hx hb d_Mem_countFreePages_4 rfl (lv_at hl 2 rfl) ?_
      refine lv_bipush (v := nI 40) hx hb d_Mem_countFreePages_5 (by decide) ?_
      refine lv_icmp_ge (tgt := 28) hx hb d_Mem_countFreePages_7 (by decide) (fun hc1 => ?_) (fun hc1 => ?_)
      · skip
        have hc1 := zt_geT (a := g) (b := 40) (by omega) (by omega) hc1
        refine lv_iload_n hx hb d_Mem_countFreePages_28 rfl (lv_at hl 1 rfl) ?_
        refine W.widen (k := 0) (n := 0) (Nat.le_of_ble_eq_true rfl) (Nat.le_of_ble_eq_true rfl) ?_
        subst hAe
        exact W.iret (v := nI (zb_cf (I C) g)) hx hb hr (fun t ht hW => zc_end hS hH ht (⟨by rw [show g = 40 by omega], rfl, rfl, rfl, rfl, rfl⟩)) hS.2.2 d_Mem_countFreePages_29
      · skip
        have hc1 := zt_geF (a := g) (b := 40) (by omega) (by omega) hc1
        refine lv_aload_n hx hb d_Mem_countFreePages_10 rfl (lv_at hl 0 rfl) ?_
        refine zr_getr (ci := 1) (C := R_Mem) (T := T_Mem) (N := 8) (ref := "ScrubbedRecorder$Memory") hx hb hts (fun w h => List.mem_cons_of_mem _ (zin_Mem w h)) hown hK hH m0 (by decide) rfl 1 (by decide) rfl (hw zw_32) (fun _ h9 => h9) d_Mem_countFreePages_11 (by rw [m2]) ?_
        refine lv_iload_n hx hb d_Mem_countFreePages_14 rfl (lv_at hl 2 rfl) ?_
        refine zr_aldz (j := g) hx hb hK hH m5 (by rw [m6]; exact zh_ix_n (by omega) (by omega)) d_Mem_countFreePages_15 ?_
        refine lv_if_ne (tgt := 22) hx hb d_Mem_countFreePages_16 (by decide) (fun hc2 => ?_) (fun hc2 => ?_)
        · skip
          have hc2 : ¬ (I C g) = (nI 0) := hc2
          refine lv_iinc (k := 2) (v := nI (g + 1)) (lv' := [(2, .int (nI (g + 1))), (0, .ref M), (1, .int (nI (zb_cf (I C) g)))]) hx hb d_Mem_countFreePages_22 hl rfl (nI_add g 1) (by decide) rfl (fun ls hl => ?_)
          refine lv_goto (tgt := 4) hx hb d_Mem_countFreePages_25 (by decide) ?_
          have e3 : zb_cf (I C) (g + 1) = zb_cf (I C) g := by show zb_cf (I C) g + _ = _; simp [hc1, hc2]
          have hl : lv_has ls 3 [(2, .int (nI (g + 1))), (0, .ref M), (1, .int (nI (zb_cf (I C) (g + 1))))] := by rw [e3]; exact hl
          exact ih_4 (g + 1) _ _ _ (by omega) (by omega) (lv_sub hl [1, 2, 0] rfl) hH hS
        · skip
          have hc2 : (I C g) = (nI 0) := hc2
          refine lv_iinc (k := 1) (v := nI (zb_cf (I C) g + 1)) (lv' := [(1, .int (nI (zb_cf (I C) g + 1))), (0, .ref M), (2, .int (nI g))]) hx hb d_Mem_countFreePages_19 hl rfl (nI_add (zb_cf (I C) g) 1) (by decide) rfl (fun ls hl => ?_)
          refine lv_iinc (k := 2) (v := nI (g + 1)) (lv' := [(2, .int (nI (g + 1))), (1, .int (nI (zb_cf (I C) g + 1))), (0, .ref M)]) hx hb d_Mem_countFreePages_22 hl rfl (nI_add g 1) (by decide) rfl (fun ls hl => ?_)
          refine lv_goto (tgt := 4) hx hb d_Mem_countFreePages_25 (by decide) ?_
          have e4 : zb_cf (I C) (g + 1) = zb_cf (I C) g + 1 := by show zb_cf (I C) g + _ = _; simp [hc1, hc2]
          have hl : lv_has ls 3 [(2, .int (nI (g + 1))), (1, .int (nI (zb_cf (I C) (g + 1)))), (0, .ref M)] := by rw [e4]; exact hl
          exact ih_4 (g + 1) _ _ _ (by omega) (by omega) (lv_sub hl [2, 1, 0] rfl) hH hS
  exact loop_4 _ 0 _ _ _ (Nat.lt_succ_self _) (by omega) (lv_sub hl [2, 1, 0] rfl) hH hS

set_option maxHeartbeats 4000000 in
set_option maxRecDepth 100000 in
/-- Memory.countFlippedWords -/
theorem c_Mem_countFlippedWords {l : Launch} {D : va_G} {cA : Nat → ClassId} {te mi : Nat} {kd ln : Nat → Nat} {I : Nat → Nat → Int32} {L : Nat → Nat → Int64} {R : Nat → Nat → Option Nat} {M F C : Nat} (m0 : kd M = 2) (m1 : R M 0 = some F) (m2 : R M 1 = some C) (m3 : kd F = 101) (m4 : ln F = 768) (m5 : kd C = 103) (m6 : ln C = 40) : zc_M l y_Mem_countFlippedWords w_Mem_countFlippedWords { frames := 0, cells := 0, slots := 0, locals := 0 } 0 0 D cA te mi ([.ref M] : List Value) kd ln I L R (zc_eq (some (.int (nI (zb_cw (L F) 768)))) kd ln I L R) := by
  intro sz
  refine Met.ofW (cc := b_Mem_countFlippedWords) (maxL := 3) (ret := (some (.int))) (by decide +kernel) rfl ?_
  intro p e s m args below meth c s₁ B hml hv
  obtain ⟨rfl, hsz, hSc, hE, hH⟩ := hv
  have hx := B.exec
  have hb := B.bytes
  have hr := B.returns
  have hts := atoms_spec (ws := w_Mem_countFlippedWords) B.pre
  have hw : ∀ {w : Cond}, w ∈ zw → w.before ([.ref M] : List Value).toArray s = true := fun h => hts _ (List.mem_cons_of_mem _ h)
  have hown : s.vm.findClass R_Mem = some m.cls := findClass_of_methodNamed B.named
  have hlocks := B.notSynchronized
  subst hsz
  have hK := hSc.1
  have hH : zh_H D cA (zc_A kd s.heap.size) kd ln I L R s.heap := hH.weaken (fun q h _ => Or.inl h)
  generalize hAe : zc_A kd s.heap.size = A at hH hE ⊢
  have hA : ∀ q : Nat, s.heap.size ≤ q → A q := fun q h => by rw [← hAe]; exact Or.inr h
  have hS : va_S A s.heap s.heap [] := va_S.rf
  have hl := lv_entry ([.ref M] : List Value) (n := 3) (Nat.le_of_ble_eq_true rfl)
  rw [lg_entry_eq]
  generalize (lg_sl ([.ref M] : List Value) ++ List.replicate (3 - (lg_sl ([.ref M] : List Value)).length) Slot.unset).toArray = ls at hl ⊢
  have hl : lv_has ls 3 [(0, .ref M)] := hl
  refine lv_iconst (v := nI 0) hx hb d_Mem_countFlippedWords_0 (by decide) ?_
  refine lv_istore_n (lv' := [(1, .int (nI 0)), (0, .ref M)]) hx hb d_Mem_countFlippedWords_1 rfl hl (by decide) rfl (fun ls hl => ?_)
  refine lv_iconst (v := nI 0) hx hb d_Mem_countFlippedWords_2 (by decide) ?_
  refine lv_istore_n (lv' := [(2, .int (nI 0)), (1, .int (nI 0)), (0, .ref M)]) hx hb d_Mem_countFlippedWords_3 rfl hl (by decide) rfl (fun ls hl => ?_)
  have loop_4 : ∀ (z : Nat) (g : Nat) (H : Heap) (locs : List Loc) (ls : Array Slot), 768 - g < z → (g ≤ 768) → lv_has ls 3 [(0, .ref M), (1, .int (nI (zb_cw (L F) g))), (2, .int (nI g))] → zh_H D cA A kd ln I L R H → va_S A s.heap H locs → W p l e (headSpec w_Mem_countFlippedWords { frames := 0, cells := 0, slots := 0, locals := 0 }).room s m ([.ref M] : List Value).toArray below meth c H locs 0 0 (MQ below (zc_Qc D cA A (zc_eq (some (.int (nI (zb_cw (L F) 768)))) kd ln I L R)) ([.ref M] : List Value).toArray s 0 0 A) (F0 m 4 ls []) := by
    intro z
    induction z with
    | zero => intro g H locs ls hz; exact absurd hz (Nat.not_lt_zero _)
    | succ z ih_4 =>
      intro g H locs ls hz_4 hg9 hl hH hS
      have hcf := zb_cw_le (L F) g
      refine lv_iload_n hx hb d_Mem_countFlippedWords_4 rfl (lv_at hl 2 rfl) ?_
      refine lv_sipush (v := nI 768) hx hb d_Mem_countFlippedWords_5 (by decide) ?_
      refine lv_icmp_ge (tgt := 31) hx hb d_Mem_countFlippedWords_8 (by decide) (fun hc1 => ?_) (fun hc1 => ?_)
      · skip
        have hc1 := zt_geT (a := g) (b := 768) (by omega) (by omega) hc1
        refine lv_iload_n hx hb d_Mem_countFlippedWords_31 rfl (lv_at hl 1 rfl) ?_
        refine W.widen (k := 0) (n := 0) (Nat.le_of_ble_eq_true rfl) (Nat.le_of_ble_eq_true rfl) ?_
        subst hAe
        exact W.iret (v := nI (zb_cw (L F) g)) hx hb hr (fun t ht hW => zc_end hS hH ht (⟨by rw [show g = 768 by omega], rfl, rfl, rfl, rfl, rfl⟩)) hS.2.2 d_Mem_countFlippedWords_32
      · skip
        have hc1 := zt_geF (a := g) (b := 768) (by omega) (by omega) hc1
        refine lv_aload_n hx hb d_Mem_countFlippedWords_11 rfl (lv_at hl 0 rfl) ?_
        refine zr_getr (ci := 1) (C := R_Mem) (T := T_Mem) (N := 8) (ref := "ScrubbedRecorder$Memory") hx hb hts (fun w h => List.mem_cons_of_mem _ (zin_Mem w h)) hown hK hH m0 (by decide) rfl 0 (by decide) rfl (hw zw_31) (fun _ h9 => h9) d_Mem_countFlippedWords_12 (by rw [m1]) ?_
        refine lv_iload_n hx hb d_Mem_countFlippedWords_15 rfl (lv_at hl 2 rfl) ?_
        refine zr_aldl (j := g) hx hb hK hH m3 (by rw [m4]; exact zh_ix_n (by omega) (by omega)) d_Mem_countFlippedWords_16 ?_
        refine lv_lconst (v := 0) hx hb d_Mem_countFlippedWords_17 (by decide) ?_
        refine W.lcmp hx hb d_Mem_countFlippedWords_18 ?_
        refine lv_if_eq (tgt := 25) hx hb d_Mem_countFlippedWords_19 (by decide) (fun hc2 => ?_) (fun hc2 => ?_)
        · skip
          have hc2 : (lg_cmp (L F g) 0) = (nI 0) := hc2
          refine lv_iinc (k := 2) (v := nI (g + 1)) (lv' := [(2, .int (nI (g + 1))), (0, .ref M), (1, .int (nI (zb_cw (L F) g)))]) hx hb d_Mem_countFlippedWords_25 hl rfl (nI_add g 1) (by decide) rfl (fun ls hl => ?_)
          refine lv_goto (tgt := 4) hx hb d_Mem_countFlippedWords_28 (by decide) ?_
          have e3 : zb_cw (L F) (g + 1) = zb_cw (L F) g := by show zb_cw (L F) g + _ = _; simp [hc1, hc2]
          have hl : lv_has ls 3 [(2, .int (nI (g + 1))), (0, .ref M), (1, .int (nI (zb_cw (L F) (g + 1))))] := by rw [e3]; exact hl
          exact ih_4 (g + 1) _ _ _ (by omega) (by omega) (lv_sub hl [1, 2, 0] rfl) hH hS
        · skip
          have hc2 : ¬ (lg_cmp (L F g) 0) = (nI 0) := hc2
          refine lv_iinc (k := 1) (v := nI (zb_cw (L F) g + 1)) (lv' := [(1, .int (nI (zb_cw (L F) g + 1))), (0, .ref M), (2, .int (nI g))]) hx hb d_Mem_countFlippedWords_22 hl rfl (nI_add (zb_cw (L F) g) 1) (by decide) rfl (fun ls hl => ?_)
          refine lv_iinc (k := 2) (v := nI (g + 1)) (lv' := [(2, .int (nI (g + 1))), (1, .int (nI (zb_cw (L F) g + 1))), (0, .ref M)]) hx hb d_Mem_countFlippedWords_25 hl rfl (nI_add g 1) (by decide) rfl (fun ls hl => ?_)
          refine lv_goto (tgt := 4) hx hb d_Mem_countFlippedWords_28 (by decide) ?_
          have e4 : zb_cw (L F) (g + 1) = zb_cw (L F) g + 1 := by show zb_cw (L F) g + _ = _; simp [hc1, hc2]
          have hl : lv_has ls 3 [(2, .int (nI (g + 1))), (1, .int (nI (zb_cw (L F) (g + 1)))), (0, .ref M)] := by rw [e4]; exact hl
          exact ih_4 (g + 1) _ _ _ (by omega) (by omega) (lv_sub hl [2, 1, 0] rfl) hH hS
  exact loop_4 _ 0 _ _ _ (Nat.lt_succ_self _) (by omega) (lv_sub hl [2, 1, 0] rfl) hH hS

set_option maxHeartbeats 4000000 in
set_option maxRecDepth 100000 in
/-- Memory.countLostRows -/
theorem c_Mem_countLostRows {l : Launch} {D : va_G} {cA : Nat → ClassId} {te mi : Nat} {kd ln : Nat → Nat} {I : Nat → Nat → Int32} {L : Nat → Nat → Int64} {R : Nat → Nat → Option Nat} {M : Nat} (m0 : kd M = 2) : zc_M l y_Mem_countLostRows w_Mem_countLostRows { frames := 0, cells := 0, slots := 0, locals := 0 } 0 0 D cA te mi ([.ref M] : List Value) kd ln I L R (zc_eq (some (.int (if I M 2 = (-1) then nI 0 else nI 8 - I M 4))) kd ln I L R) := by
  intro sz
  refine Met.ofW (cc := b_Mem_countLostRows) (maxL := 1) (ret := (some (.int))) (by decide +kernel) rfl ?_
  intro p e s m args below meth c s₁ B hml hv
  obtain ⟨rfl, hsz, hSc, hE, hH⟩ := hv
  have hx := B.exec
  have hb := B.bytes
  have hr := B.returns
  have hts := atoms_spec (ws := w_Mem_countLostRows) B.pre
  have hw : ∀ {w : Cond}, w ∈ zw → w.before ([.ref M] : List Value).toArray s = true := fun h => hts _ (List.mem_cons_of_mem _ h)
  have hown : s.vm.findClass R_Mem = some m.cls := findClass_of_methodNamed B.named
  have hlocks := B.notSynchronized
  subst hsz
  have hK := hSc.1
  have hH : zh_H D cA (zc_A kd s.heap.size) kd ln I L R s.heap := hH.weaken (fun q h _ => Or.inl h)
  generalize hAe : zc_A kd s.heap.size = A at hH hE ⊢
  have hA : ∀ q : Nat, s.heap.size ≤ q → A q := fun q h => by rw [← hAe]; exact Or.inr h
  have hS : va_S A s.heap s.heap [] := va_S.rf
  have hl := lv_entry ([.ref M] : List Value) (n := 1) (Nat.le_of_ble_eq_true rfl)
  rw [lg_entry_eq]
  generalize (lg_sl ([.ref M] : List Value) ++ List.replicate (1 - (lg_sl ([.ref M] : List Value)).length) Slot.unset).toArray = ls at hl ⊢
  have hl : lv_has ls 1 [(0, .ref M)] := hl
  refine lv_aload_n hx hb d_Mem_countLostRows_0 rfl (lv_at hl 0 rfl) ?_
  refine zr_geti (ci := 1) (C := R_Mem) (T := T_Mem) (N := 8) (ref := "ScrubbedRecorder$Memory") hx hb hts (fun w h => List.mem_cons_of_mem _ (zin_Mem w h)) hown hK hH m0 (by decide) rfl 2 (by decide) rfl (hw zw_33) (fun _ h9 => h9) d_Mem_countLostRows_1 ?_
  refine lv_iconst (v := (-1)) hx hb d_Mem_countLostRows_4 (by decide) ?_
  refine lv_icmp_ne (tgt := 12) hx hb d_Mem_countLostRows_5 (by decide) (fun hc1 => ?_) (fun hc1 => ?_)
  · skip
    have hc1 : ¬ (I M 2) = (-1) := hc1
    refine lv_bipush (v := nI 8) hx hb d_Mem_countLostRows_12 (by decide) ?_
    refine lv_aload_n hx hb d_Mem_countLostRows_14 rfl (lv_at hl 0 rfl) ?_
    refine zr_geti (ci := 1) (C := R_Mem) (T := T_Mem) (N := 8) (ref := "ScrubbedRecorder$Memory") hx hb hts (fun w h => List.mem_cons_of_mem _ (zin_Mem w h)) hown hK hH m0 (by decide) rfl 4 (by decide) rfl (hw zw_35) (fun _ h9 => h9) d_Mem_countLostRows_15 ?_
    refine lv_isub hx hb d_Mem_countLostRows_18 ?_
    refine W.widen (k := 0) (n := 0) (Nat.le_of_ble_eq_true rfl) (Nat.le_of_ble_eq_true rfl) ?_
    subst hAe
    exact W.iret (v := (nI 8) - (I M 4)) hx hb hr (fun t ht hW => zc_end hS hH ht (⟨by simp [hc1], rfl, rfl, rfl, rfl, rfl⟩)) hS.2.2 d_Mem_countLostRows_19
  · skip
    have hc1 : (I M 2) = (-1) := hc1
    refine lv_iconst (v := nI 0) hx hb d_Mem_countLostRows_8 (by decide) ?_
    refine lv_goto (tgt := 19) hx hb d_Mem_countLostRows_9 (by decide) ?_
    refine W.widen (k := 0) (n := 0) (Nat.le_of_ble_eq_true rfl) (Nat.le_of_ble_eq_true rfl) ?_
    subst hAe
    exact W.iret (v := nI 0) hx hb hr (fun t ht hW => zc_end hS hH ht (⟨by simp [hc1], rfl, rfl, rfl, rfl, rfl⟩)) hS.2.2 d_Mem_countLostRows_19

set_option maxHeartbeats 4000000 in
set_option maxRecDepth 100000 in
/-- Memory.scrub -/
theorem c_Mem_scrub {l : Launch} {D : va_G} {cA : Nat → ClassId} {te mi : Nat} {kd ln : Nat → Nat} {I : Nat → Nat → Int32} {L : Nat → Nat → Int64} {R : Nat → Nat → Option Nat} {M F C : Nat} (m0 : kd M = 2) (m1 : R M 0 = some F) (m2 : R M 1 = some C) (m3 : kd F = 101) (m4 : ln F = 768) (m5 : kd C = 103) (m6 : ln C = 40) {n sn : Nat} (hn9 : n < 2 ^ 30) (hs0 : I M 5 = nI sn) (hs1 : sn < 768) : zc_M l y_Mem_scrub w_Mem_scrub { frames := 2, cells := 0, slots := 0, locals := 43 } 0 0 D cA te mi ([.ref M, .int (nI n)] : List Value) kd ln I L R (zc_eq (some (.int ((zb_sn M F n (I, L)).1 M 6 + (zb_sn M F n (I, L)).1 M 7 - (I M 6 + I M 7)))) kd ln (zb_sn M F n (I, L)).1 (zb_sn M F n (I, L)).2 R) := by
  intro sz
  refine Met.ofW (cc := b_Mem_scrub) (maxL := 4) (ret := (some (.int))) (by decide +kernel) rfl ?_
  intro p e s m args below meth c s₁ B hml hv
  obtain ⟨rfl, hsz, hSc, hE, hH⟩ := hv
  have hx := B.exec
  have hb := B.bytes
  have hr := B.returns
  have hts := atoms_spec (ws := w_Mem_scrub) B.pre
  have hw : ∀ {w : Cond}, w ∈ zw → w.before ([.ref M, .int (nI n)] : List Value).toArray s = true := fun h => hts _ (List.mem_cons_of_mem _ h)
  have hown : s.vm.findClass R_Mem = some m.cls := findClass_of_methodNamed B.named
  have hlocks := B.notSynchronized
  subst hsz
  have hK := hSc.1
  have hH : zh_H D cA (zc_A kd s.heap.size) kd ln I L R s.heap := hH.weaken (fun q h _ => Or.inl h)
  generalize hAe : zc_A kd s.heap.size = A at hH hE ⊢
  have hA : ∀ q : Nat, s.heap.size ≤ q → A q := fun q h => by rw [← hAe]; exact Or.inr h
  have hS : va_S A s.heap s.heap [] := va_S.rf
  have hl := lv_entry ([.ref M, .int (nI n)] : List Value) (n := 4) (Nat.le_of_ble_eq_true rfl)
  rw [lg_entry_eq]
  generalize (lg_sl ([.ref M, .int (nI n)] : List Value) ++ List.replicate (4 - (lg_sl ([.ref M, .int (nI n)] : List Value)).length) Slot.unset).toArray = ls at hl ⊢
  have hl : lv_has ls 4 [(0, .ref M), (1, .int (nI n))] := hl
  refine lv_aload_n hx hb d_Mem_scrub_0 rfl (lv_at hl 0 rfl) ?_
  refine zr_geti (ci := 1) (C := R_Mem) (T := T_Mem) (N := 8) (ref := "ScrubbedRecorder$Memory") hx hb hts (fun w h => List.mem_cons_of_mem _ (zin_Mem w h)) hown hK hH m0 (by decide) rfl 6 (by decide) rfl (hw zw_37) (fun _ h9 => h9) d_Mem_scrub_1 ?_
  refine lv_aload_n hx hb d_Mem_scrub_4 rfl (lv_at hl 0 rfl) ?_
  refine zr_geti (ci := 1) (C := R_Mem) (T := T_Mem) (N := 8) (ref := "ScrubbedRecorder$Memory") hx hb hts (fun w h => List.mem_cons_of_mem _ (zin_Mem w h)) hown hK hH m0 (by decide) rfl 7 (by decide) rfl (hw zw_39) (fun _ h9 => h9) d_Mem_scrub_5 ?_
  refine lv_iadd hx hb d_Mem_scrub_8 ?_
  refine lv_istore_n (lv' := [(2, .int ((I M 6) + (I M 7))), (0, .ref M), (1, .int (nI n))]) hx hb d_Mem_scrub_9 rfl hl (by decide) rfl (fun ls hl => ?_)
  refine lv_iconst (v := nI 0) hx hb d_Mem_scrub_10 (by decide) ?_
  refine lv_istore_n (lv' := [(3, .int (nI 0)), (2, .int ((I M 6) + (I M 7))), (0, .ref M), (1, .int (nI n))]) hx hb d_Mem_scrub_11 rfl hl (by decide) rfl (fun ls hl => ?_)
  have loop_12 : ∀ (z : Nat) (i : Nat) (k1 : Nat) (I1 : Nat → Nat → Int32) (L1 : Nat → Nat → Int64) (H : Heap) (locs : List Loc) (ls : Array Slot), n - i < z → (i ≤ n) → (k1 < 768) → (I1 M 5 = nI k1) → (zb_sn M F (n - i) (I1, L1) = zb_sn M F n (I, L)) → lv_has ls 4 [(0, .ref M), (1, .int (nI n)), (2, .int ((I M 6) + (I M 7))), (3, .int (nI i))] → zh_H D cA A kd ln I1 L1 R H → va_S A s.heap H locs → W p l e (headSpec w_Mem_scrub { frames := 2, cells := 0, slots := 0, locals := 43 }).room s m ([.ref M, .int (nI n)] : List Value).toArray below meth c H locs 0 0 (MQ below (zc_Qc D cA A (zc_eq (some (.int ((zb_sn M F n (I, L)).1 M 6 + (zb_sn M F n (I, L)).1 M 7 - (I M 6 + I M 7)))) kd ln (zb_sn M F n (I, L)).1 (zb_sn M F n (I, L)).2 R)) ([.ref M, .int (nI n)] : List Value).toArray s 0 0 A) (F0 m 12 ls []) := by
    intro z
    induction z with
    | zero => intro i k1 I1 L1 H locs ls hz; exact absurd hz (Nat.not_lt_zero _)
    | succ z ih_12 =>
      intro i k1 I1 L1 H locs ls hz_12 hi hk1 hs2 hg hl hH hS
      refine lv_iload_n hx hb d_Mem_scrub_12 rfl (lv_at hl 3 rfl) ?_
      refine lv_iload_n hx hb d_Mem_scrub_13 rfl (lv_at hl 1 rfl) ?_
      refine lv_icmp_ge (tgt := 45) hx hb d_Mem_scrub_14 (by decide) (fun hc1 => ?_) (fun hc1 => ?_)
      · skip
        have hc1 := zt_geT (a := i) (b := n) (by omega) (by omega) hc1
        refine lv_aload_n hx hb d_Mem_scrub_45 rfl (lv_at hl 0 rfl) ?_
        refine zr_geti (ci := 1) (C := R_Mem) (T := T_Mem) (N := 8) (ref := "ScrubbedRecorder$Memory") hx hb hts (fun w h => List.mem_cons_of_mem _ (zin_Mem w h)) hown hK hH m0 (by decide) rfl 6 (by decide) rfl (hw zw_37) (fun _ h9 => h9) d_Mem_scrub_46 ?_
        refine lv_aload_n hx hb d_Mem_scrub_49 rfl (lv_at hl 0 rfl) ?_
        refine zr_geti (ci := 1) (C := R_Mem) (T := T_Mem) (N := 8) (ref := "ScrubbedRecorder$Memory") hx hb hts (fun w h => List.mem_cons_of_mem _ (zin_Mem w h)) hown hK hH m0 (by decide) rfl 7 (by decide) rfl (hw zw_39) (fun _ h9 => h9) d_Mem_scrub_50 ?_
        refine lv_iadd hx hb d_Mem_scrub_53 ?_
        refine lv_iload_n hx hb d_Mem_scrub_54 rfl (lv_at hl 2 rfl) ?_
        refine lv_isub hx hb d_Mem_scrub_55 ?_
        refine W.widen (k := 0) (n := 0) (Nat.le_of_ble_eq_true rfl) (Nat.le_of_ble_eq_true rfl) ?_
        subst hAe
        exact W.iret (v := ((I1 M 6) + (I1 M 7)) - ((I M 6) + (I M 7))) hx hb hr (fun t ht hW => zc_end hS hH ht (⟨by rw [← hg, show n - i = 0 by omega]; rfl, rfl, rfl, by rw [← hg, show n - i = 0 by omega]; rfl, by rw [← hg, show n - i = 0 by omega]; rfl, rfl⟩)) hS.2.2 d_Mem_scrub_56
      · skip
        have hc1 := zt_geF (a := i) (b := n) (by omega) (by omega) hc1
        refine lv_aload_n hx hb d_Mem_scrub_17 rfl (lv_at hl 0 rfl) ?_
        refine lv_aload_n hx hb d_Mem_scrub_18 rfl (lv_at hl 0 rfl) ?_
        refine zr_geti (ci := 1) (C := R_Mem) (T := T_Mem) (N := 8) (ref := "ScrubbedRecorder$Memory") hx hb hts (fun w h => List.mem_cons_of_mem _ (zin_Mem w h)) hown hK hH m0 (by decide) rfl 5 (by decide) rfl (hw zw_36) (fun _ h9 => h9) d_Mem_scrub_19 ?_
        refine zt_i (y := nI k1) (by rw [hs2]) ?_
        refine zr_V (As := ([.int (nI k1)] : List Value)) (rest := []) (b := M) (ci := 1) (q := (R_Mem, T_Mem, 8)) ⟨hx, hb, hml, hown, hts⟩ (c_Mem_scrubWord m0 m1 m2 m3 m4 m5 m6 (by omega)) ⟨(callB_of 1 hts (zg_all zw_503) rfl rfl rfl (hw zw_2) (hw zw_500) k_Mem_scrubWord.2 ⟨Nat.le_of_ble_eq_true rfl, Nat.le_of_ble_eq_true rfl⟩), (hw zw_502), (hw zs_Mem_scrubWord)⟩ hSc hE hH hS hA rfl (by decide) m0 rfl hl.1 rfl (Nat.le_of_ble_eq_true rfl) d_Mem_scrub_22 ⟨Nat.le_of_ble_eq_true rfl, Nat.le_of_ble_eq_true rfl⟩ (fun v2 kd2 ln2 I2 L2 R2 H locs hp hH hS => ?_)
        obtain ⟨rfl, rfl, rfl, rfl, rfl, rfl⟩ := hp
        have f3 : (zb_swI I1 M (zb_cnt (L1 F k1))) M 5 = nI k1 := by rw [zb_swI_sn _ _ _ _ (by decide) (by decide)]; exact hs2
        refine W.eq (g2 := F0 m 25 ls []) rfl ?_
        refine lv_aload_n hx hb d_Mem_scrub_25 rfl (lv_at hl 0 rfl) ?_
        refine lv_aload_n hx hb d_Mem_scrub_26 rfl (lv_at hl 0 rfl) ?_
        refine zr_geti (ci := 1) (C := R_Mem) (T := T_Mem) (N := 8) (ref := "ScrubbedRecorder$Memory") hx hb hts (fun w h => List.mem_cons_of_mem _ (zin_Mem w h)) hown hK hH m0 (by decide) rfl 5 (by decide) rfl (hw zw_36) (fun _ h9 => h9) d_Mem_scrub_27 ?_
        refine zt_i (y := nI k1) (by rw [f3]) ?_
        refine lv_iconst (v := nI 1) hx hb d_Mem_scrub_30 (by decide) ?_
        refine lv_iadd hx hb d_Mem_scrub_31 ?_
        refine zt_i (y := nI (k1 + 1)) (nI_add k1 1) ?_
        refine lv_sipush (v := nI 768) hx hb d_Mem_scrub_32 (by decide) ?_
        refine lv_irem hx hb d_Mem_scrub_35 (zt_ne0 (by omega) (by omega)) ?_
        refine zt_i (y := nI ((k1 + 1) % 768)) (pk_rem (by omega) (by omega) (by omega)) ?_
        refine zr_puti (ref := "ScrubbedRecorder$Memory") (ci := 1) (C := R_Mem) (T := T_Mem) (N := 8) (x := nI ((k1 + 1) % 768)) (ty := .int) hx hb hts (fun w h => List.mem_cons_of_mem _ (zin_Mem w h)) ty_Mem tyok_Mem nm_Mem hown hK hH hS m0 (by decide) rfl 5 (by decide) rfl (hw zw_36) (fun _ h9 => h9) rfl (by decide +kernel) rfl rfl d_Mem_scrub_36 (fun H locs hH hS => ?_)
        refine lv_iinc (k := 3) (v := nI (i + 1)) (lv' := [(3, .int (nI (i + 1))), (0, .ref M), (1, .int (nI n)), (2, .int ((I M 6) + (I M 7)))]) hx hb d_Mem_scrub_39 hl rfl (nI_add i 1) (by decide) rfl (fun ls hl => ?_)
        refine lv_goto (tgt := 12) hx hb d_Mem_scrub_42 (by decide) ?_
        exact ih_12 (i + 1) ((k1 + 1) % 768) (zu (zb_swI I1 M (zb_cnt (L1 F k1))) M 5 (nI ((k1 + 1) % 768))) (zu L1 F k1 0) _ _ _ (by omega) (by omega) (by omega) (by rw [zu_self]) (by rw [← hg, show n - i = n - (i + 1) + 1 by omega, zb_sn]; unfold zb_s1; simp only [hs2, nI_clamp (show k1 < 2 ^ 31 by omega)]) (lv_sub hl [1, 2, 3, 0] rfl) hH hS
  exact loop_12 _ 0 sn I L _ _ _ (Nat.lt_succ_self _) (by omega) hs1 hs0 rfl (lv_sub hl [2, 3, 1, 0] rfl) hH hS
