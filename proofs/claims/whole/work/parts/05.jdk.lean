set_option maxHeartbeats 4000000 in
set_option maxRecDepth 100000 in
/-- Math.max -/
theorem c_Mth_max {l : Launch} {D : va_G} {cA : Nat → ClassId} {te mi : Nat} {kd ln : Nat → Nat} {I : Nat → Nat → Int32} {L : Nat → Nat → Int64} {R : Nat → Nat → Option Nat} {a b : Nat} (ha : a < 2 ^ 31) (hb9 : b < 2 ^ 31) : zc_M l y_Mth_max w_Mth_max { frames := 0, cells := 0, slots := 0, locals := 0 } 0 0 D cA te mi ([.int (nI a), .int (nI b)] : List Value) kd ln I L R (zc_eq (some (.int (nI (max a b)))) kd ln I L R) := by
  intro sz
  refine va_MetF (cc := b_Mth_max) (maxL := 2) (ret := (some (.int))) (by decide +kernel) rfl ?_
  intro p e s m args below meth c s₁ B hml hv
  obtain ⟨rfl, hsz, hSc, hE, hH⟩ := hv
  have hx := B.exec
  have hb := B.bytes
  have hr := B.returns
  have hts := atoms_spec (ws := w_Mth_max) B.pre
  have hw : ∀ {w : Cond}, w ∈ zw → w.before ([.int (nI a), .int (nI b)] : List Value).toArray s = true := fun h => hts _ (List.mem_cons_of_mem _ h)
  have hown : s.vm.findClass R_Mth = some m.cls := findClass_of_methodNamed B.named
  have hlocks := B.notSynchronized
  subst hsz
  have hK := hSc.1
  have hH : zh_H D cA (zc_A kd s.heap.size) kd ln I L R s.heap := hH.weaken (fun q h _ => Or.inl h)
  generalize hAe : zc_A kd s.heap.size = A at hH hE ⊢
  have hA : ∀ q : Nat, s.heap.size ≤ q → A q := fun q h => by rw [← hAe]; exact Or.inr h
  have hS : va_S A s.heap s.heap [] := va_S.rf
  have hl := lv_entry ([.int (nI a), .int (nI b)] : List Value) (n := 2) (Nat.le_of_ble_eq_true rfl)
  rw [lg_entry_eq]
  generalize (lg_sl ([.int (nI a), .int (nI b)] : List Value) ++ List.replicate (2 - (lg_sl ([.int (nI a), .int (nI b)] : List Value)).length) Slot.unset).toArray = ls at hl ⊢
  have hl : lv_has ls 2 [(0, .int (nI a)), (1, .int (nI b))] := hl
  refine lv_iload_n hx hb d_Mth_max_0 rfl (lv_at hl 0 rfl) ?_
  refine lv_iload_n hx hb d_Mth_max_1 rfl (lv_at hl 1 rfl) ?_
  refine lv_icmp_lt (tgt := 9) hx hb d_Mth_max_2 (by decide) (fun hc1 => ?_) (fun hc1 => ?_)
  · skip
    have hc1 := zt_ltT (a := a) (b := b) (by omega) (by omega) hc1
    refine lv_iload_n hx hb d_Mth_max_9 rfl (lv_at hl 1 rfl) ?_
    refine W.widen (k := 0) (n := 0) (Nat.le_of_ble_eq_true rfl) (Nat.le_of_ble_eq_true rfl) ?_
    subst hAe
    exact W.iret (v := nI b) hx hb hr (fun t ht hW => zc_end hS hH ht (⟨by congr 3; omega, rfl, rfl, rfl, rfl, rfl⟩)) hS.2.2 d_Mth_max_10
  · skip
    have hc1 := zt_ltF (a := a) (b := b) (by omega) (by omega) hc1
    refine lv_iload_n hx hb d_Mth_max_5 rfl (lv_at hl 0 rfl) ?_
    refine lv_goto (tgt := 10) hx hb d_Mth_max_6 (by decide) ?_
    refine W.widen (k := 0) (n := 0) (Nat.le_of_ble_eq_true rfl) (Nat.le_of_ble_eq_true rfl) ?_
    subst hAe
    exact W.iret (v := nI a) hx hb hr (fun t ht hW => zc_end hS hH ht (⟨by congr 3; omega, rfl, rfl, rfl, rfl, rfl⟩)) hS.2.2 d_Mth_max_10

set_option maxHeartbeats 4000000 in
set_option maxRecDepth 100000 in
/-- Math.min -/
theorem c_Mth_min {l : Launch} {D : va_G} {cA : Nat → ClassId} {te mi : Nat} {kd ln : Nat → Nat} {I : Nat → Nat → Int32} {L : Nat → Nat → Int64} {R : Nat → Nat → Option Nat} {a b : Nat} (ha : a < 2 ^ 31) (hb9 : b < 2 ^ 31) : zc_M l y_Mth_min w_Mth_min { frames := 0, cells := 0, slots := 0, locals := 0 } 0 0 D cA te mi ([.int (nI a), .int (nI b)] : List Value) kd ln I L R (zc_eq (some (.int (nI (min a b)))) kd ln I L R) := by
  intro sz
  refine va_MetF (cc := b_Mth_min) (maxL := 2) (ret := (some (.int))) (by decide +kernel) rfl ?_
  intro p e s m args below meth c s₁ B hml hv
  obtain ⟨rfl, hsz, hSc, hE, hH⟩ := hv
  have hx := B.exec
  have hb := B.bytes
  have hr := B.returns
  have hts := atoms_spec (ws := w_Mth_min) B.pre
  have hw : ∀ {w : Cond}, w ∈ zw → w.before ([.int (nI a), .int (nI b)] : List Value).toArray s = true := fun h => hts _ (List.mem_cons_of_mem _ h)
  have hown : s.vm.findClass R_Mth = some m.cls := findClass_of_methodNamed B.named
  have hlocks := B.notSynchronized
  subst hsz
  have hK := hSc.1
  have hH : zh_H D cA (zc_A kd s.heap.size) kd ln I L R s.heap := hH.weaken (fun q h _ => Or.inl h)
  generalize hAe : zc_A kd s.heap.size = A at hH hE ⊢
  have hA : ∀ q : Nat, s.heap.size ≤ q → A q := fun q h => by rw [← hAe]; exact Or.inr h
  have hS : va_S A s.heap s.heap [] := va_S.rf
  have hl := lv_entry ([.int (nI a), .int (nI b)] : List Value) (n := 2) (Nat.le_of_ble_eq_true rfl)
  rw [lg_entry_eq]
  generalize (lg_sl ([.int (nI a), .int (nI b)] : List Value) ++ List.replicate (2 - (lg_sl ([.int (nI a), .int (nI b)] : List Value)).length) Slot.unset).toArray = ls at hl ⊢
  have hl : lv_has ls 2 [(0, .int (nI a)), (1, .int (nI b))] := hl
  refine lv_iload_n hx hb d_Mth_min_0 rfl (lv_at hl 0 rfl) ?_
  refine lv_iload_n hx hb d_Mth_min_1 rfl (lv_at hl 1 rfl) ?_
  refine lv_icmp_gt (tgt := 9) hx hb d_Mth_min_2 (by decide) (fun hc1 => ?_) (fun hc1 => ?_)
  · skip
    have hc1 := zt_gtT (a := a) (b := b) (by omega) (by omega) hc1
    refine lv_iload_n hx hb d_Mth_min_9 rfl (lv_at hl 1 rfl) ?_
    refine W.widen (k := 0) (n := 0) (Nat.le_of_ble_eq_true rfl) (Nat.le_of_ble_eq_true rfl) ?_
    subst hAe
    exact W.iret (v := nI b) hx hb hr (fun t ht hW => zc_end hS hH ht (⟨by congr 3; omega, rfl, rfl, rfl, rfl, rfl⟩)) hS.2.2 d_Mth_min_10
  · skip
    have hc1 := zt_gtF (a := a) (b := b) (by omega) (by omega) hc1
    refine lv_iload_n hx hb d_Mth_min_5 rfl (lv_at hl 0 rfl) ?_
    refine lv_goto (tgt := 10) hx hb d_Mth_min_6 (by decide) ?_
    refine W.widen (k := 0) (n := 0) (Nat.le_of_ble_eq_true rfl) (Nat.le_of_ble_eq_true rfl) ?_
    subst hAe
    exact W.iret (v := nI a) hx hb hr (fun t ht hW => zc_end hS hH ht (⟨by congr 3; omega, rfl, rfl, rfl, rfl, rfl⟩)) hS.2.2 d_Mth_min_10

def zb_c1 (x : Int64) : Int64 := x - (((x.toUInt64 >>> ((nI 1).toInt64.toUInt64 &&& Int64.toUInt64 63)).toInt64) &&& 6148914691236517205)
def zb_c2 (x : Int64) : Int64 := (x &&& 3689348814741910323) + (((x.toUInt64 >>> ((nI 2).toInt64.toUInt64 &&& Int64.toUInt64 63)).toInt64) &&& 3689348814741910323)
def zb_c3 (x : Int64) : Int64 := (x + ((x.toUInt64 >>> ((nI 4).toInt64.toUInt64 &&& Int64.toUInt64 63)).toInt64)) &&& 1085102592571150095
def zb_c4 (x : Int64) : Int64 := x + ((x.toUInt64 >>> ((nI 8).toInt64.toUInt64 &&& Int64.toUInt64 63)).toInt64)
def zb_c5 (x : Int64) : Int64 := x + ((x.toUInt64 >>> ((nI 16).toInt64.toUInt64 &&& Int64.toUInt64 63)).toInt64)
def zb_c6 (x : Int64) : Int64 := x + ((x.toUInt64 >>> ((nI 32).toInt64.toUInt64 &&& Int64.toUInt64 63)).toInt64)
/-- what Long.bitCount answers -/
def zb_cnt (x : Int64) : Int32 := ((zb_c6 (zb_c5 (zb_c4 (zb_c3 (zb_c2 (zb_c1 x)))))).toInt32) &&& (nI 127)
set_option maxHeartbeats 4000000 in
set_option maxRecDepth 100000 in
/-- Long.bitCount -/
theorem c_Lng_bitCount {l : Launch} {D : va_G} {cA : Nat → ClassId} {te mi : Nat} {kd ln : Nat → Nat} {I : Nat → Nat → Int32} {L : Nat → Nat → Int64} {R : Nat → Nat → Option Nat} {x : Int64} : zc_M l y_Lng_bitCount w_Lng_bitCount { frames := 0, cells := 0, slots := 0, locals := 0 } 0 0 D cA te mi ([.long x] : List Value) kd ln I L R (zc_eq (some (.int (zb_cnt x))) kd ln I L R) := by
  intro sz
  refine va_MetF (cc := b_Lng_bitCount) (maxL := 2) (ret := (some (.int))) (by decide +kernel) rfl ?_
  intro p e s m args below meth c s₁ B hml hv
  obtain ⟨rfl, hsz, hSc, hE, hH⟩ := hv
  have hx := B.exec
  have hb := B.bytes
  have hr := B.returns
  have hts := atoms_spec (ws := w_Lng_bitCount) B.pre
  have hw : ∀ {w : Cond}, w ∈ zw → w.before ([.long x] : List Value).toArray s = true := fun h => hts _ (List.mem_cons_of_mem _ h)
  have hown : s.vm.findClass R_Lng = some m.cls := findClass_of_methodNamed B.named
  have hlocks := B.notSynchronized
  subst hsz
  have hK := hSc.1
  have hH : zh_H D cA (zc_A kd s.heap.size) kd ln I L R s.heap := hH.weaken (fun q h _ => Or.inl h)
  generalize hAe : zc_A kd s.heap.size = A at hH hE ⊢
  have hA : ∀ q : Nat, s.heap.size ≤ q → A q := fun q h => by rw [← hAe]; exact Or.inr h
  have hS : va_S A s.heap s.heap [] := va_S.rf
  have hl := lv_entry ([.long x] : List Value) (n := 2) (Nat.le_of_ble_eq_true rfl)
  rw [lg_entry_eq]
  generalize (lg_sl ([.long x] : List Value) ++ List.replicate (2 - (lg_sl ([.long x] : List Value)).length) Slot.unset).toArray = ls at hl ⊢
  have hl : lv_has ls 2 [(0, .long x)] := hl
  refine lv_lload_n hx hb d_Lng_bitCount_0 rfl (lv_at hl 0 rfl) ?_
  refine lv_lload_n hx hb d_Lng_bitCount_1 rfl (lv_at hl 0 rfl) ?_
  refine lv_iconst (v := nI 1) hx hb d_Lng_bitCount_2 (by decide) ?_
  refine lv_lushr (v := (x.toUInt64 >>> ((nI 1).toInt64.toUInt64 &&& Int64.toUInt64 63)).toInt64) hx hb d_Lng_bitCount_3 rfl ?_
  refine lv_ldc2 (v := 6148914691236517205) hx hb hown (hw zw_507) d_Lng_bitCount_4 ?_
  refine lv_land hx hb d_Lng_bitCount_7 ?_
  refine lv_lsub hx hb d_Lng_bitCount_8 ?_
  refine zt_l (y := (zb_c1 x)) rfl ?_
  refine lv_lstore_n (lv' := [(0, .long (zb_c1 x))]) hx hb d_Lng_bitCount_9 rfl hl (by decide) rfl (fun ls hl => ?_)
  refine lv_lload_n hx hb d_Lng_bitCount_10 rfl (lv_at hl 0 rfl) ?_
  refine lv_ldc2 (v := 3689348814741910323) hx hb hown (hw zw_508) d_Lng_bitCount_11 ?_
  refine lv_land hx hb d_Lng_bitCount_14 ?_
  refine lv_lload_n hx hb d_Lng_bitCount_15 rfl (lv_at hl 0 rfl) ?_
  refine lv_iconst (v := nI 2) hx hb d_Lng_bitCount_16 (by decide) ?_
  refine lv_lushr (v := ((zb_c1 x).toUInt64 >>> ((nI 2).toInt64.toUInt64 &&& Int64.toUInt64 63)).toInt64) hx hb d_Lng_bitCount_17 rfl ?_
  refine lv_ldc2 (v := 3689348814741910323) hx hb hown (hw zw_508) d_Lng_bitCount_18 ?_
  refine lv_land hx hb d_Lng_bitCount_21 ?_
  refine lv_ladd hx hb d_Lng_bitCount_22 ?_
  refine zt_l (y := (zb_c2 (zb_c1 x))) rfl ?_
  refine lv_lstore_n (lv' := [(0, .long (zb_c2 (zb_c1 x)))]) hx hb d_Lng_bitCount_23 rfl hl (by decide) rfl (fun ls hl => ?_)
  refine lv_lload_n hx hb d_Lng_bitCount_24 rfl (lv_at hl 0 rfl) ?_
  refine lv_lload_n hx hb d_Lng_bitCount_25 rfl (lv_at hl 0 rfl) ?_
  refine lv_iconst (v := nI 4) hx hb d_Lng_bitCount_26 (by decide) ?_
  refine lv_lushr (v := ((zb_c2 (zb_c1 x)).toUInt64 >>> ((nI 4).toInt64.toUInt64 &&& Int64.toUInt64 63)).toInt64) hx hb d_Lng_bitCount_27 rfl ?_
  refine lv_ladd hx hb d_Lng_bitCount_28 ?_
  refine lv_ldc2 (v := 1085102592571150095) hx hb hown (hw zw_509) d_Lng_bitCount_29 ?_
  refine lv_land hx hb d_Lng_bitCount_32 ?_
  refine zt_l (y := (zb_c3 (zb_c2 (zb_c1 x)))) rfl ?_
  refine lv_lstore_n (lv' := [(0, .long (zb_c3 (zb_c2 (zb_c1 x))))]) hx hb d_Lng_bitCount_33 rfl hl (by decide) rfl (fun ls hl => ?_)
  refine lv_lload_n hx hb d_Lng_bitCount_34 rfl (lv_at hl 0 rfl) ?_
  refine lv_lload_n hx hb d_Lng_bitCount_35 rfl (lv_at hl 0 rfl) ?_
  refine lv_bipush (v := nI 8) hx hb d_Lng_bitCount_36 (by decide) ?_
  refine lv_lushr (v := ((zb_c3 (zb_c2 (zb_c1 x))).toUInt64 >>> ((nI 8).toInt64.toUInt64 &&& Int64.toUInt64 63)).toInt64) hx hb d_Lng_bitCount_38 rfl ?_
  refine lv_ladd hx hb d_Lng_bitCount_39 ?_
  refine zt_l (y := (zb_c4 (zb_c3 (zb_c2 (zb_c1 x))))) rfl ?_
  refine lv_lstore_n (lv' := [(0, .long (zb_c4 (zb_c3 (zb_c2 (zb_c1 x)))))]) hx hb d_Lng_bitCount_40 rfl hl (by decide) rfl (fun ls hl => ?_)
  refine lv_lload_n hx hb d_Lng_bitCount_41 rfl (lv_at hl 0 rfl) ?_
  refine lv_lload_n hx hb d_Lng_bitCount_42 rfl (lv_at hl 0 rfl) ?_
  refine lv_bipush (v := nI 16) hx hb d_Lng_bitCount_43 (by decide) ?_
  refine lv_lushr (v := ((zb_c4 (zb_c3 (zb_c2 (zb_c1 x)))).toUInt64 >>> ((nI 16).toInt64.toUInt64 &&& Int64.toUInt64 63)).toInt64) hx hb d_Lng_bitCount_45 rfl ?_
  refine lv_ladd hx hb d_Lng_bitCount_46 ?_
  refine zt_l (y := (zb_c5 (zb_c4 (zb_c3 (zb_c2 (zb_c1 x)))))) rfl ?_
  refine lv_lstore_n (lv' := [(0, .long (zb_c5 (zb_c4 (zb_c3 (zb_c2 (zb_c1 x))))))]) hx hb d_Lng_bitCount_47 rfl hl (by decide) rfl (fun ls hl => ?_)
  refine lv_lload_n hx hb d_Lng_bitCount_48 rfl (lv_at hl 0 rfl) ?_
  refine lv_lload_n hx hb d_Lng_bitCount_49 rfl (lv_at hl 0 rfl) ?_
  refine lv_bipush (v := nI 32) hx hb d_Lng_bitCount_50 (by decide) ?_
  refine lv_lushr (v := ((zb_c5 (zb_c4 (zb_c3 (zb_c2 (zb_c1 x))))).toUInt64 >>> ((nI 32).toInt64.toUInt64 &&& Int64.toUInt64 63)).toInt64) hx hb d_Lng_bitCount_52 rfl ?_
  refine lv_ladd hx hb d_Lng_bitCount_53 ?_
  refine zt_l (y := (zb_c6 (zb_c5 (zb_c4 (zb_c3 (zb_c2 (zb_c1 x))))))) rfl ?_
  refine lv_lstore_n (lv' := [(0, .long (zb_c6 (zb_c5 (zb_c4 (zb_c3 (zb_c2 (zb_c1 x)))))))]) hx hb d_Lng_bitCount_54 rfl hl (by decide) rfl (fun ls hl => ?_)
  refine lv_lload_n hx hb d_Lng_bitCount_55 rfl (lv_at hl 0 rfl) ?_
  refine lv_l2i (v := (zb_c6 (zb_c5 (zb_c4 (zb_c3 (zb_c2 (zb_c1 x)))))).toInt32) hx hb d_Lng_bitCount_56 rfl ?_
  refine lv_bipush (v := nI 127) hx hb d_Lng_bitCount_57 (by decide) ?_
  refine lv_iand hx hb d_Lng_bitCount_59 ?_
  refine W.widen (k := 0) (n := 0) (Nat.le_of_ble_eq_true rfl) (Nat.le_of_ble_eq_true rfl) ?_
  subst hAe
  exact W.iret (v := ((zb_c6 (zb_c5 (zb_c4 (zb_c3 (zb_c2 (zb_c1 x)))))).toInt32) &&& (nI 127)) hx hb hr (fun t ht hW => zc_end hS hH ht (⟨rfl, rfl, rfl, rfl, rfl, rfl⟩)) hS.2.2 d_Lng_bitCount_60

set_option maxHeartbeats 4000000 in
set_option maxRecDepth 100000 in
/-- Preconditions.checkIndex -/
theorem c_Pre_checkIndex {l : Launch} {D : va_G} {cA : Nat → ClassId} {te mi : Nat} {kd ln : Nat → Nat} {I : Nat → Nat → Int32} {L : Nat → Nat → Int64} {R : Nat → Nat → Option Nat} {j n : Nat} (hj : j < n) (hn : n < 2 ^ 31) : zc_M l y_Pre_checkIndex w_Pre_checkIndex { frames := 0, cells := 0, slots := 0, locals := 0 } 0 0 D cA te mi ([.int (nI j), .int (nI n), .null] : List Value) kd ln I L R (zc_eq (some (.int (nI j))) kd ln I L R) := by
  intro sz
  refine va_MetF (cc := b_Pre_checkIndex) (maxL := 3) (ret := (some (.int))) (by decide +kernel) rfl ?_
  intro p e s m args below meth c s₁ B hml hv
  obtain ⟨rfl, hsz, hSc, hE, hH⟩ := hv
  have hx := B.exec
  have hb := B.bytes
  have hr := B.returns
  have hts := atoms_spec (ws := w_Pre_checkIndex) B.pre
  have hw : ∀ {w : Cond}, w ∈ zw → w.before ([.int (nI j), .int (nI n), .null] : List Value).toArray s = true := fun h => hts _ (List.mem_cons_of_mem _ h)
  have hown : s.vm.findClass R_Pre = some m.cls := findClass_of_methodNamed B.named
  have hlocks := B.notSynchronized
  subst hsz
  have hK := hSc.1
  have hH : zh_H D cA (zc_A kd s.heap.size) kd ln I L R s.heap := hH.weaken (fun q h _ => Or.inl h)
  generalize hAe : zc_A kd s.heap.size = A at hH hE ⊢
  have hA : ∀ q : Nat, s.heap.size ≤ q → A q := fun q h => by rw [← hAe]; exact Or.inr h
  have hS : va_S A s.heap s.heap [] := va_S.rf
  have hl := lv_entry ([.int (nI j), .int (nI n), .null] : List Value) (n := 3) (Nat.le_of_ble_eq_true rfl)
  rw [lg_entry_eq]
  generalize (lg_sl ([.int (nI j), .int (nI n), .null] : List Value) ++ List.replicate (3 - (lg_sl ([.int (nI j), .int (nI n), .null] : List Value)).length) Slot.unset).toArray = ls at hl ⊢
  have hl : lv_has ls 3 [(0, .int (nI j)), (1, .int (nI n)), (2, .null)] := hl
  refine lv_iload_n hx hb d_Pre_checkIndex_0 rfl (lv_at hl 0 rfl) ?_
  refine lv_if_lt (tgt := 9) hx hb d_Pre_checkIndex_1 (by decide) (fun hc1 => ?_) (fun hc1 => ?_)
  · skip
    have hc1 := zt_ltT (a := j) (b := 0) (by omega) (by omega) hc1
    exact absurd hc1 (by omega)
  · skip
    have hc1 := zt_ltF (a := j) (b := 0) (by omega) (by omega) hc1
    refine lv_iload_n hx hb d_Pre_checkIndex_4 rfl (lv_at hl 0 rfl) ?_
    refine lv_iload_n hx hb d_Pre_checkIndex_5 rfl (lv_at hl 1 rfl) ?_
    refine lv_icmp_lt (tgt := 16) hx hb d_Pre_checkIndex_6 (by decide) (fun hc2 => ?_) (fun hc2 => ?_)
    · skip
      have hc2 := zt_ltT (a := j) (b := n) (by omega) (by omega) hc2
      refine lv_iload_n hx hb d_Pre_checkIndex_16 rfl (lv_at hl 0 rfl) ?_
      refine W.widen (k := 0) (n := 0) (Nat.le_of_ble_eq_true rfl) (Nat.le_of_ble_eq_true rfl) ?_
      subst hAe
      exact W.iret (v := nI j) hx hb hr (fun t ht hW => zc_end hS hH ht (⟨rfl, rfl, rfl, rfl, rfl, rfl⟩)) hS.2.2 d_Pre_checkIndex_17
    · skip
      have hc2 := zt_ltF (a := j) (b := n) (by omega) (by omega) hc2
      exact absurd hc2 (by omega)

set_option maxHeartbeats 4000000 in
set_option maxRecDepth 100000 in
/-- Objects.checkIndex -/
theorem c_Objs_checkIndex {l : Launch} {D : va_G} {cA : Nat → ClassId} {te mi : Nat} {kd ln : Nat → Nat} {I : Nat → Nat → Int32} {L : Nat → Nat → Int64} {R : Nat → Nat → Option Nat} {j n : Nat} (hj : j < n) (hn : n < 2 ^ 31) : zc_M l y_Objs_checkIndex w_Objs_checkIndex { frames := 1, cells := 0, slots := 0, locals := 22 } 0 0 D cA te mi ([.int (nI j), .int (nI n)] : List Value) kd ln I L R (zc_eq (some (.int (nI j))) kd ln I L R) := by
  intro sz
  refine va_MetF (cc := b_Objs_checkIndex) (maxL := 2) (ret := (some (.int))) (by decide +kernel) rfl ?_
  intro p e s m args below meth c s₁ B hml hv
  obtain ⟨rfl, hsz, hSc, hE, hH⟩ := hv
  have hx := B.exec
  have hb := B.bytes
  have hr := B.returns
  have hts := atoms_spec (ws := w_Objs_checkIndex) B.pre
  have hw : ∀ {w : Cond}, w ∈ zw → w.before ([.int (nI j), .int (nI n)] : List Value).toArray s = true := fun h => hts _ (List.mem_cons_of_mem _ h)
  have hown : s.vm.findClass R_Objs = some m.cls := findClass_of_methodNamed B.named
  have hlocks := B.notSynchronized
  subst hsz
  have hK := hSc.1
  have hH : zh_H D cA (zc_A kd s.heap.size) kd ln I L R s.heap := hH.weaken (fun q h _ => Or.inl h)
  generalize hAe : zc_A kd s.heap.size = A at hH hE ⊢
  have hA : ∀ q : Nat, s.heap.size ≤ q → A q := fun q h => by rw [← hAe]; exact Or.inr h
  have hS : va_S A s.heap s.heap [] := va_S.rf
  have hl := lv_entry ([.int (nI j), .int (nI n)] : List Value) (n := 2) (Nat.le_of_ble_eq_true rfl)
  rw [lg_entry_eq]
  generalize (lg_sl ([.int (nI j), .int (nI n)] : List Value) ++ List.replicate (2 - (lg_sl ([.int (nI j), .int (nI n)] : List Value)).length) Slot.unset).toArray = ls at hl ⊢
  have hl : lv_has ls 2 [(0, .int (nI j)), (1, .int (nI n))] := hl
  refine lv_iload_n hx hb d_Objs_checkIndex_0 rfl (lv_at hl 0 rfl) ?_
  refine lv_iload_n hx hb d_Objs_checkIndex_1 rfl (lv_at hl 1 rfl) ?_
  refine lv_null hx hb d_Objs_checkIndex_2 ?_
  refine zr_St (As := ([.int (nI j), .int (nI n), .null] : List Value)) (rest := []) ⟨hx, hb, hml, hown, hts⟩ (c_Pre_checkIndex hj hn) ⟨(callB_of 3 hts (zg_all zw_182) rfl rfl rfl (hw zw_9) (hw zw_180) k_Pre_checkIndex.2 ⟨Nat.le_of_ble_eq_true rfl, Nat.le_of_ble_eq_true rfl⟩), hw zw_181⟩ hSc hE hH hS hA rfl hl.1 rfl (Nat.le_of_ble_eq_true rfl) d_Objs_checkIndex_3 ⟨Nat.le_of_ble_eq_true rfl, Nat.le_of_ble_eq_true rfl⟩ (fun v1 kd1 ln1 I1 L1 R1 H locs hp hH hS => ?_)
  obtain ⟨rfl, rfl, rfl, rfl, rfl, rfl⟩ := hp
  refine W.eq (g2 := F0 m 6 ls [.int (nI j)]) rfl ?_
  refine W.widen (k := 0) (n := 0) (by omega) (by omega) ?_
  refine W.widen (k := 0) (n := 0) (Nat.le_of_ble_eq_true rfl) (Nat.le_of_ble_eq_true rfl) ?_
  subst hAe
  exact W.iret (v := nI j) hx hb hr (fun t ht hW => zc_end hS hH ht (⟨rfl, rfl, rfl, rfl, rfl, rfl⟩)) hS.2.2 d_Objs_checkIndex_6

set_option maxHeartbeats 4000000 in
set_option maxRecDepth 100000 in
/-- ArrayList.size -/
theorem c_AL_size {l : Launch} {D : va_G} {cA : Nat → ClassId} {te mi : Nat} {kd ln : Nat → Nat} {I : Nat → Nat → Int32} {L : Nat → Nat → Int64} {R : Nat → Nat → Option Nat} {al : Nat} {z : Int32} (h0 : kd al = 6) (h1 : I al 1 = z) : zc_M l y_AL_size w_AL_size { frames := 0, cells := 0, slots := 0, locals := 0 } 0 0 D cA te mi ([.ref al] : List Value) kd ln I L R (zc_eq (some (.int z)) kd ln I L R) := by
  intro sz
  refine Met.ofW (cc := b_AL_size) (maxL := 1) (ret := (some (.int))) (by decide +kernel) rfl ?_
  intro p e s m args below meth c s₁ B hml hv
  obtain ⟨rfl, hsz, hSc, hE, hH⟩ := hv
  have hx := B.exec
  have hb := B.bytes
  have hr := B.returns
  have hts := atoms_spec (ws := w_AL_size) B.pre
  have hw : ∀ {w : Cond}, w ∈ zw → w.before ([.ref al] : List Value).toArray s = true := fun h => hts _ (List.mem_cons_of_mem _ h)
  have hown : s.vm.findClass R_AL = some m.cls := findClass_of_methodNamed B.named
  have hlocks := B.notSynchronized
  subst hsz
  have hK := hSc.1
  have hH : zh_H D cA (zc_A kd s.heap.size) kd ln I L R s.heap := hH.weaken (fun q h _ => Or.inl h)
  generalize hAe : zc_A kd s.heap.size = A at hH hE ⊢
  have hA : ∀ q : Nat, s.heap.size ≤ q → A q := fun q h => by rw [← hAe]; exact Or.inr h
  have hS : va_S A s.heap s.heap [] := va_S.rf
  have hl := lv_entry ([.ref al] : List Value) (n := 1) (Nat.le_of_ble_eq_true rfl)
  rw [lg_entry_eq]
  generalize (lg_sl ([.ref al] : List Value) ++ List.replicate (1 - (lg_sl ([.ref al] : List Value)).length) Slot.unset).toArray = ls at hl ⊢
  have hl : lv_has ls 1 [(0, .ref al)] := hl
  refine lv_aload_n hx hb d_AL_size_0 rfl (lv_at hl 0 rfl) ?_
  refine zr_geti (ci := 5) (C := R_AL) (T := T_AL) (N := 3) (ref := "java/util/ArrayList") hx hb hts (fun w h => List.mem_cons_of_mem _ (zin_AL w h)) hown hK hH h0 (by decide) rfl 1 (by decide) rfl (hw zw_112) (fun _ h9 => h9) d_AL_size_1 ?_
  refine zt_i (y := z) (by rw [h1]) ?_
  refine W.widen (k := 0) (n := 0) (Nat.le_of_ble_eq_true rfl) (Nat.le_of_ble_eq_true rfl) ?_
  subst hAe
  exact W.iret (v := z) hx hb hr (fun t ht hW => zc_end hS hH ht (⟨rfl, rfl, rfl, rfl, rfl, rfl⟩)) hS.2.2 d_AL_size_4

set_option maxHeartbeats 4000000 in
set_option maxRecDepth 100000 in
/-- ArrayList.elementData -/
theorem c_AL_elementData {l : Launch} {D : va_G} {cA : Nat → ClassId} {te mi : Nat} {kd ln : Nat → Nat} {I : Nat → Nat → Int32} {L : Nat → Nat → Int64} {R : Nat → Nat → Option Nat} {al ea n : Nat} (h0 : kd al = 6) (h1 : I al 1 = nI n) (h2 : R al 0 = some ea) (h3 : kd ea = 104) (h4 : n ≤ ln ea) (h5 : ln ea < 2 ^ 30) {j b : Nat} (hj : j < n) (hb9 : R ea j = some b) : zc_M l y_AL_elementData w_AL_elementData { frames := 0, cells := 0, slots := 0, locals := 0 } 0 0 D cA te mi ([.ref al, .int (nI j)] : List Value) kd ln I L R (zc_eq (some (.ref b)) kd ln I L R) := by
  intro sz
  refine Met.ofW (cc := b_AL_elementData) (maxL := 2) (ret := (some ((.object "java/lang/Object")))) (by decide +kernel) rfl ?_
  intro p e s m args below meth c s₁ B hml hv
  obtain ⟨rfl, hsz, hSc, hE, hH⟩ := hv
  have hx := B.exec
  have hb := B.bytes
  have hr := B.returns
  have hts := atoms_spec (ws := w_AL_elementData) B.pre
  have hw : ∀ {w : Cond}, w ∈ zw → w.before ([.ref al, .int (nI j)] : List Value).toArray s = true := fun h => hts _ (List.mem_cons_of_mem _ h)
  have hown : s.vm.findClass R_AL = some m.cls := findClass_of_methodNamed B.named
  have hlocks := B.notSynchronized
  subst hsz
  have hK := hSc.1
  have hH : zh_H D cA (zc_A kd s.heap.size) kd ln I L R s.heap := hH.weaken (fun q h _ => Or.inl h)
  generalize hAe : zc_A kd s.heap.size = A at hH hE ⊢
  have hA : ∀ q : Nat, s.heap.size ≤ q → A q := fun q h => by rw [← hAe]; exact Or.inr h
  have hS : va_S A s.heap s.heap [] := va_S.rf
  have hl := lv_entry ([.ref al, .int (nI j)] : List Value) (n := 2) (Nat.le_of_ble_eq_true rfl)
  rw [lg_entry_eq]
  generalize (lg_sl ([.ref al, .int (nI j)] : List Value) ++ List.replicate (2 - (lg_sl ([.ref al, .int (nI j)] : List Value)).length) Slot.unset).toArray = ls at hl ⊢
  have hl : lv_has ls 2 [(0, .ref al), (1, .int (nI j))] := hl
  refine lv_aload_n hx hb d_AL_elementData_0 rfl (lv_at hl 0 rfl) ?_
  refine zr_getr (ci := 5) (C := R_AL) (T := T_AL) (N := 3) (ref := "java/util/ArrayList") hx hb hts (fun w h => List.mem_cons_of_mem _ (zin_AL w h)) hown hK hH h0 (by decide) rfl 0 (by decide) rfl (hw zw_111) (fun _ h9 => h9) d_AL_elementData_1 (by rw [h2]) ?_
  refine lv_iload_n hx hb d_AL_elementData_4 rfl (lv_at hl 1 rfl) ?_
  refine zr_aldr (t := 4) (j := j) hx hb (by decide) (by decide) rfl hK hH h3 (zh_ix_n (by omega) (by omega)) d_AL_elementData_5 (by rw [hb9]) ?_
  refine W.widen (k := 0) (n := 0) (Nat.le_of_ble_eq_true rfl) (Nat.le_of_ble_eq_true rfl) ?_
  subst hAe
  exact W.aret hx hb hr (Or.inl ⟨_, rfl⟩) (Or.inr ⟨_, rfl⟩) (fun t ht hW => zc_end hS hH ht (⟨rfl, rfl, rfl, rfl, rfl, rfl⟩)) hS.2.2 d_AL_elementData_6

set_option maxHeartbeats 4000000 in
set_option maxRecDepth 100000 in
/-- ArrayList.get -/
theorem c_AL_get {l : Launch} {D : va_G} {cA : Nat → ClassId} {te mi : Nat} {kd ln : Nat → Nat} {I : Nat → Nat → Int32} {L : Nat → Nat → Int64} {R : Nat → Nat → Option Nat} {al ea n : Nat} (h0 : kd al = 6) (h1 : I al 1 = nI n) (h2 : R al 0 = some ea) (h3 : kd ea = 104) (h4 : n ≤ ln ea) (h5 : ln ea < 2 ^ 30) {j b : Nat} (hj : j < n) (hb9 : R ea j = some b) : zc_M l y_AL_get w_AL_get { frames := 2, cells := 0, slots := 0, locals := 43 } 0 0 D cA te mi ([.ref al, .int (nI j)] : List Value) kd ln I L R (zc_eq (some (.ref b)) kd ln I L R) := by
  intro sz
  refine Met.ofW (cc := b_AL_get) (maxL := 2) (ret := (some ((.object "java/lang/Object")))) (by decide +kernel) rfl ?_
  intro p e s m args below meth c s₁ B hml hv
  obtain ⟨rfl, hsz, hSc, hE, hH⟩ := hv
  have hx := B.exec
  have hb := B.bytes
  have hr := B.returns
  have hts := atoms_spec (ws := w_AL_get) B.pre
  have hw : ∀ {w : Cond}, w ∈ zw → w.before ([.ref al, .int (nI j)] : List Value).toArray s = true := fun h => hts _ (List.mem_cons_of_mem _ h)
  have hown : s.vm.findClass R_AL = some m.cls := findClass_of_methodNamed B.named
  have hlocks := B.notSynchronized
  subst hsz
  have hK := hSc.1
  have hH : zh_H D cA (zc_A kd s.heap.size) kd ln I L R s.heap := hH.weaken (fun q h _ => Or.inl h)
  generalize hAe : zc_A kd s.heap.size = A at hH hE ⊢
  have hA : ∀ q : Nat, s.heap.size ≤ q → A q := fun q h => by rw [← hAe]; exact Or.inr h
  have hS : va_S A s.heap s.heap [] := va_S.rf
  have hl := lv_entry ([.ref al, .int (nI j)] : List Value) (n := 2) (Nat.le_of_ble_eq_true rfl)
  rw [lg_entry_eq]
  generalize (lg_sl ([.ref al, .int (nI j)] : List Value) ++ List.replicate (2 - (lg_sl ([.ref al, .int (nI j)] : List Value)).length) Slot.unset).toArray = ls at hl ⊢
  have hl : lv_has ls 2 [(0, .ref al), (1, .int (nI j))] := hl
  refine lv_iload_n hx hb d_AL_get_0 rfl (lv_at hl 1 rfl) ?_
  refine lv_aload_n hx hb d_AL_get_1 rfl (lv_at hl 0 rfl) ?_
  refine zr_geti (ci := 5) (C := R_AL) (T := T_AL) (N := 3) (ref := "java/util/ArrayList") hx hb hts (fun w h => List.mem_cons_of_mem _ (zin_AL w h)) hown hK hH h0 (by decide) rfl 1 (by decide) rfl (hw zw_112) (fun _ h9 => h9) d_AL_get_2 ?_
  refine zt_i (y := nI n) (by rw [h1]) ?_
  refine zr_St (As := ([.int (nI j), .int (nI n)] : List Value)) (rest := []) ⟨hx, hb, hml, hown, hts⟩ (c_Objs_checkIndex hj (by omega)) ⟨(callB_of 2 hts (zg_all zw_179) rfl rfl rfl (hw zw_8) (hw zw_177) k_Objs_checkIndex.2 ⟨Nat.le_of_ble_eq_true rfl, Nat.le_of_ble_eq_true rfl⟩), hw zw_178⟩ hSc hE hH hS hA rfl hl.1 rfl (Nat.le_of_ble_eq_true rfl) d_AL_get_5 ⟨Nat.le_of_ble_eq_true rfl, Nat.le_of_ble_eq_true rfl⟩ (fun v1 kd1 ln1 I1 L1 R1 H locs hp hH hS => ?_)
  obtain ⟨rfl, rfl, rfl, rfl, rfl, rfl⟩ := hp
  refine W.eq (g2 := F0 m 8 ls [.int (nI j)]) rfl ?_
  refine W.widen (k := 0) (n := 0) (by omega) (by omega) ?_
  refine lv_pop hx hb d_AL_get_8 rfl ?_
  refine lv_aload_n hx hb d_AL_get_9 rfl (lv_at hl 0 rfl) ?_
  refine lv_iload_n hx hb d_AL_get_10 rfl (lv_at hl 1 rfl) ?_
  refine zr_V (As := ([.int (nI j)] : List Value)) (rest := []) (b := al) (ci := 5) (q := (R_AL, T_AL, 3)) ⟨hx, hb, hml, hown, hts⟩ (c_AL_elementData h0 h1 h2 h3 h4 h5 hj hb9) ⟨(callB_of 1 hts (zg_all zw_186) rfl rfl rfl (hw zw_7) (hw zw_183) k_AL_elementData.2 ⟨Nat.le_of_ble_eq_true rfl, Nat.le_of_ble_eq_true rfl⟩), (hw zw_184), (hw zw_185)⟩ hSc hE hH hS hA rfl (by decide) h0 rfl hl.1 rfl (Nat.le_of_ble_eq_true rfl) d_AL_get_11 ⟨Nat.le_of_ble_eq_true rfl, Nat.le_of_ble_eq_true rfl⟩ (fun v2 kd2 ln2 I2 L2 R2 H locs hp hH hS => ?_)
  obtain ⟨rfl, rfl, rfl, rfl, rfl, rfl⟩ := hp
  refine W.eq (g2 := F0 m 14 ls [.ref b]) rfl ?_
  refine W.widen (k := 0) (n := 0) (by omega) (by omega) ?_
  refine W.widen (k := 0) (n := 0) (Nat.le_of_ble_eq_true rfl) (Nat.le_of_ble_eq_true rfl) ?_
  subst hAe
  exact W.aret hx hb hr (Or.inl ⟨_, rfl⟩) (Or.inr ⟨_, rfl⟩) (fun t ht hW => zc_end hS hH ht (⟨rfl, rfl, rfl, rfl, rfl, rfl⟩)) hS.2.2 d_AL_get_14

set_option maxHeartbeats 4000000 in
set_option maxRecDepth 100000 in
/-- ArrayList.fastRemove at 0 -/
theorem c_AL_fastRemove {l : Launch} {D : va_G} {cA : Nat → ClassId} {te mi : Nat} {kd ln : Nat → Nat} {I : Nat → Nat → Int32} {L : Nat → Nat → Int64} {R : Nat → Nat → Option Nat} {al ea n : Nat} (h0 : kd al = 6) (h1 : I al 1 = nI n) (h2 : R al 0 = some ea) (h3 : kd ea = 104) (h4 : n ≤ ln ea) (h5 : ln ea < 2 ^ 30) (hn1 : 1 ≤ n) (hel : ∀ j, j < n → ∀ y, R ea j = some y → kd y = 4) : zc_M l y_AL_fastRemove w_AL_fastRemove { frames := 1, cells := 0, slots := 0, locals := 40 } 0 0 D cA te mi ([.ref al, .ref ea, .int (nI 0)] : List Value) kd ln I L R (fun v9 kd9 ln9 I9 L9 R9 => none = v9 ∧ kd = kd9 ∧ ln = ln9 ∧ zu (zu I al 2 (I al 2 + nI 1)) al 1 (nI (n - 1)) = I9 ∧ L = L9 ∧ (∀ a, a ≠ ea → R9 a = R a) ∧ ∀ j, j < n - 1 → R9 ea j = R ea (j + 1)) := by
  intro sz
  refine Met.ofW (cc := b_AL_fastRemove) (maxL := 4) (ret := none) (by decide +kernel) rfl ?_
  intro p e s m args below meth c s₁ B hml hv
  obtain ⟨rfl, hsz, hSc, hE, hH⟩ := hv
  have hx := B.exec
  have hb := B.bytes
  have hr := B.returns
  have hts := atoms_spec (ws := w_AL_fastRemove) B.pre
  have hw : ∀ {w : Cond}, w ∈ zw → w.before ([.ref al, .ref ea, .int (nI 0)] : List Value).toArray s = true := fun h => hts _ (List.mem_cons_of_mem _ h)
  have hown : s.vm.findClass R_AL = some m.cls := findClass_of_methodNamed B.named
  have hlocks := B.notSynchronized
  subst hsz
  have hK := hSc.1
  have hH : zh_H D cA (zc_A kd s.heap.size) kd ln I L R s.heap := hH.weaken (fun q h _ => Or.inl h)
  generalize hAe : zc_A kd s.heap.size = A at hH hE ⊢
  have hA : ∀ q : Nat, s.heap.size ≤ q → A q := fun q h => by rw [← hAe]; exact Or.inr h
  have hS : va_S A s.heap s.heap [] := va_S.rf
  have hl := lv_entry ([.ref al, .ref ea, .int (nI 0)] : List Value) (n := 4) (Nat.le_of_ble_eq_true rfl)
  rw [lg_entry_eq]
  generalize (lg_sl ([.ref al, .ref ea, .int (nI 0)] : List Value) ++ List.replicate (4 - (lg_sl ([.ref al, .ref ea, .int (nI 0)] : List Value)).length) Slot.unset).toArray = ls at hl ⊢
  have hl : lv_has ls 4 [(0, .ref al), (1, .ref ea), (2, .int (nI 0))] := hl
  refine lv_aload_n hx hb d_AL_fastRemove_0 rfl (lv_at hl 0 rfl) ?_
  refine lv_dup hx hb d_AL_fastRemove_1 rfl ?_
  refine zr_geti (ci := 5) (C := R_AL) (T := T_AL) (N := 3) (ref := "java/util/ArrayList") hx hb hts (fun w h => List.mem_cons_of_mem _ (zin_AL w h)) hown hK hH h0 (by decide) rfl 2 (by decide) rfl (hw zw_114) (fun x9 h9 => u_same (hw zw_115) x9 h9) d_AL_fastRemove_2 ?_
  refine lv_iconst (v := nI 1) hx hb d_AL_fastRemove_5 (by decide) ?_
  refine lv_iadd hx hb d_AL_fastRemove_6 ?_
  refine zr_puti (ref := "java/util/ArrayList") (ci := 5) (C := R_AL) (T := T_AL) (N := 3) (x := (I al 2) + (nI 1)) (ty := .int) hx hb hts (fun w h => List.mem_cons_of_mem _ (zin_AL w h)) ty_AL tyok_AL nm_AL hown hK hH hS h0 (by decide) rfl 2 (by decide) rfl (hw zw_114) (fun x9 h9 => u_same (hw zw_115) x9 h9) rfl (by decide +kernel) rfl rfl d_AL_fastRemove_7 (fun H locs hH hS => ?_)
  refine lv_aload_n hx hb d_AL_fastRemove_10 rfl (lv_at hl 0 rfl) ?_
  refine zr_geti (ci := 5) (C := R_AL) (T := T_AL) (N := 3) (ref := "java/util/ArrayList") hx hb hts (fun w h => List.mem_cons_of_mem _ (zin_AL w h)) hown hK hH h0 (by decide) rfl 1 (by decide) rfl (hw zw_112) (fun _ h9 => h9) d_AL_fastRemove_11 ?_
  refine zt_i (y := nI n) (by rw [zu_k _ _ _ _ (show (1 : Nat) ≠ 2 by decide), h1]) ?_
  refine lv_iconst (v := nI 1) hx hb d_AL_fastRemove_14 (by decide) ?_
  refine lv_isub hx hb d_AL_fastRemove_15 ?_
  refine zt_i (y := nI (n - 1)) (pk_sub (by omega)) ?_
  refine lv_dup hx hb d_AL_fastRemove_16 rfl ?_
  refine lv_istore_n (lv' := [(3, .int (nI (n - 1))), (0, .ref al), (1, .ref ea), (2, .int (nI 0))]) hx hb d_AL_fastRemove_17 rfl hl (by decide) rfl (fun ls hl => ?_)
  refine lv_iload_n hx hb d_AL_fastRemove_18 rfl (lv_at hl 3 rfl) ?_
  refine lv_icmp_le (tgt := 34) hx hb d_AL_fastRemove_19 (by decide) (fun hc1 => ?_) (fun hc1 => ?_)
  · skip
    have hc1 := zt_leT (a := (n - 1)) (b := 0) (by omega) (by omega) hc1
    refine lv_aload_n hx hb d_AL_fastRemove_34 rfl (lv_at hl 2 rfl) ?_
    refine lv_aload_n hx hb d_AL_fastRemove_35 rfl (lv_at hl 1 rfl) ?_
    refine lv_iload_n hx hb d_AL_fastRemove_36 rfl (lv_at hl 0 rfl) ?_
    refine lv_dup_x1 hx hb d_AL_fastRemove_37 rfl rfl ?_
    refine zr_puti (ref := "java/util/ArrayList") (ci := 5) (C := R_AL) (T := T_AL) (N := 3) (x := nI (n - 1)) (ty := .int) hx hb hts (fun w h => List.mem_cons_of_mem _ (zin_AL w h)) ty_AL tyok_AL nm_AL hown hK hH hS h0 (by decide) rfl 1 (by decide) rfl (hw zw_112) (fun _ h9 => h9) rfl (by decide +kernel) rfl rfl d_AL_fastRemove_38 (fun H locs hH hS => ?_)
    refine lv_null hx hb d_AL_fastRemove_41 ?_
    refine zr_astN (t := 4) (j := n - 1) hx hb (by decide) (by decide) rfl hK hH hS h3 (zh_ix_n (by omega) (by omega)) d_AL_fastRemove_42 (fun H locs hH hS => ?_)
    refine W.widen (k := 0) (n := 0) (Nat.le_of_ble_eq_true rfl) (Nat.le_of_ble_eq_true rfl) ?_
    subst hAe
    exact W.vret hx hb hr (fun t ht hW => zc_end hS hH ht (⟨rfl, rfl, rfl, rfl, rfl, fun a ha => by rw [zu_ne _ _ _ ha], fun j hj => absurd hj (by omega)⟩)) hS.2.2 d_AL_fastRemove_43
  · skip
    have hc1 := zt_leF (a := (n - 1)) (b := 0) (by omega) (by omega) hc1
    refine lv_aload_n hx hb d_AL_fastRemove_22 rfl (lv_at hl 2 rfl) ?_
    refine lv_iload_n hx hb d_AL_fastRemove_23 rfl (lv_at hl 3 rfl) ?_
    refine lv_iconst (v := nI 1) hx hb d_AL_fastRemove_24 (by decide) ?_
    refine lv_iadd hx hb d_AL_fastRemove_25 ?_
    refine zt_i (y := nI 1) (by decide) ?_
    refine lv_aload_n hx hb d_AL_fastRemove_26 rfl (lv_at hl 2 rfl) ?_
    refine lv_iload_n hx hb d_AL_fastRemove_27 rfl (lv_at hl 3 rfl) ?_
    refine lv_iload_n hx hb d_AL_fastRemove_28 rfl (lv_at hl 0 rfl) ?_
    refine lv_iload_n hx hb d_AL_fastRemove_29 rfl (lv_at hl 3 rfl) ?_
    refine lv_isub hx hb d_AL_fastRemove_30 ?_
    refine zt_i (y := nI (n - 1 - 0)) (pk_sub (by omega)) ?_
    refine zr_copyq (t := 4) (sp := 1) (dp := 0) (n := n - 1 - 0) hx hb (by rw [hml]; exact hl.1.symm) hown (hw zw_223) (hw zw_214) (hw zw_213) (hw zw_10) (ci := 3) (by decide) (by decide) rfl (hSc.2.1 _ (by decide +kernel)) rfl (by decide) hK hH hS h3 h3 (by omega) (by omega) (by omega) (fun i hi y hy => hel _ (by omega) y hy) (Nat.le_of_ble_eq_true rfl) (Nat.le_of_ble_eq_true rfl) d_AL_fastRemove_31 (fun H locs hH hS => ?_)
    refine lv_aload_n hx hb d_AL_fastRemove_34 rfl (lv_at hl 2 rfl) ?_
    refine lv_aload_n hx hb d_AL_fastRemove_35 rfl (lv_at hl 1 rfl) ?_
    refine lv_iload_n hx hb d_AL_fastRemove_36 rfl (lv_at hl 0 rfl) ?_
    refine lv_dup_x1 hx hb d_AL_fastRemove_37 rfl rfl ?_
    refine zr_puti (ref := "java/util/ArrayList") (ci := 5) (C := R_AL) (T := T_AL) (N := 3) (x := nI (n - 1)) (ty := .int) hx hb hts (fun w h => List.mem_cons_of_mem _ (zin_AL w h)) ty_AL tyok_AL nm_AL hown hK hH hS h0 (by decide) rfl 1 (by decide) rfl (hw zw_112) (fun _ h9 => h9) rfl (by decide +kernel) rfl rfl d_AL_fastRemove_38 (fun H locs hH hS => ?_)
    refine lv_null hx hb d_AL_fastRemove_41 ?_
    refine zr_astN (t := 4) (j := n - 1) hx hb (by decide) (by decide) rfl hK hH hS h3 (zh_ix_n (by omega) (by omega)) d_AL_fastRemove_42 (fun H locs hH hS => ?_)
    refine W.widen (k := 0) (n := 0) (Nat.le_of_ble_eq_true rfl) (Nat.le_of_ble_eq_true rfl) ?_
    subst hAe
    exact W.vret hx hb hr (fun t ht hW => zc_end hS hH ht (⟨rfl, rfl, rfl, rfl, rfl, fun a ha => by rw [zu_ne _ _ _ ha, va_up_ne _ _ ha], fun j hj => by rw [zu_k _ _ _ _ (show j ≠ n - 1 by omega), va_up_self, pk_cpy_in (by omega) (by omega)]; congr 1; omega⟩)) hS.2.2 d_AL_fastRemove_43

set_option maxHeartbeats 4000000 in
set_option maxRecDepth 100000 in
/-- ArrayList.remove at 0 -/
theorem c_AL_remove {l : Launch} {D : va_G} {cA : Nat → ClassId} {te mi : Nat} {kd ln : Nat → Nat} {I : Nat → Nat → Int32} {L : Nat → Nat → Int64} {R : Nat → Nat → Option Nat} {al ea n : Nat} (h0 : kd al = 6) (h1 : I al 1 = nI n) (h2 : R al 0 = some ea) (h3 : kd ea = 104) (h4 : n ≤ ln ea) (h5 : ln ea < 2 ^ 30) (hn1 : 1 ≤ n) (hel : ∀ j, j < n → ∀ y, R ea j = some y → kd y = 4) {b : Nat} (hb9 : R ea 0 = some b) : zc_M l y_AL_remove w_AL_remove { frames := 2, cells := 0, slots := 0, locals := 63 } 0 0 D cA te mi ([.ref al, .int (nI 0)] : List Value) kd ln I L R (fun v9 kd9 ln9 I9 L9 R9 => some (.ref b) = v9 ∧ kd = kd9 ∧ ln = ln9 ∧ zu (zu I al 2 (I al 2 + nI 1)) al 1 (nI (n - 1)) = I9 ∧ L = L9 ∧ (∀ a, a ≠ ea → R9 a = R a) ∧ ∀ j, j < n - 1 → R9 ea j = R ea (j + 1)) := by
  intro sz
  refine Met.ofW (cc := b_AL_remove) (maxL := 4) (ret := (some ((.object "java/lang/Object")))) (by decide +kernel) rfl ?_
  intro p e s m args below meth c s₁ B hml hv
  obtain ⟨rfl, hsz, hSc, hE, hH⟩ := hv
  have hx := B.exec
  have hb := B.bytes
  have hr := B.returns
  have hts := atoms_spec (ws := w_AL_remove) B.pre
  have hw : ∀ {w : Cond}, w ∈ zw → w.before ([.ref al, .int (nI 0)] : List Value).toArray s = true := fun h => hts _ (List.mem_cons_of_mem _ h)
  have hown : s.vm.findClass R_AL = some m.cls := findClass_of_methodNamed B.named
  have hlocks := B.notSynchronized
  subst hsz
  have hK := hSc.1
  have hH : zh_H D cA (zc_A kd s.heap.size) kd ln I L R s.heap := hH.weaken (fun q h _ => Or.inl h)
  generalize hAe : zc_A kd s.heap.size = A at hH hE ⊢
  have hA : ∀ q : Nat, s.heap.size ≤ q → A q := fun q h => by rw [← hAe]; exact Or.inr h
  have hS : va_S A s.heap s.heap [] := va_S.rf
  have hl := lv_entry ([.ref al, .int (nI 0)] : List Value) (n := 4) (Nat.le_of_ble_eq_true rfl)
  rw [lg_entry_eq]
  generalize (lg_sl ([.ref al, .int (nI 0)] : List Value) ++ List.replicate (4 - (lg_sl ([.ref al, .int (nI 0)] : List Value)).length) Slot.unset).toArray = ls at hl ⊢
  have hl : lv_has ls 4 [(0, .ref al), (1, .int (nI 0))] := hl
  refine lv_iload_n hx hb d_AL_remove_0 rfl (lv_at hl 1 rfl) ?_
  refine lv_aload_n hx hb d_AL_remove_1 rfl (lv_at hl 0 rfl) ?_
  refine zr_geti (ci := 5) (C := R_AL) (T := T_AL) (N := 3) (ref := "java/util/ArrayList") hx hb hts (fun w h => List.mem_cons_of_mem _ (zin_AL w h)) hown hK hH h0 (by decide) rfl 1 (by decide) rfl (hw zw_112) (fun _ h9 => h9) d_AL_remove_2 ?_
  refine zt_i (y := nI n) (by rw [h1]) ?_
  refine zr_St (As := ([.int (nI 0), .int (nI n)] : List Value)) (rest := []) ⟨hx, hb, hml, hown, hts⟩ (c_Objs_checkIndex (by omega) (by omega)) ⟨(callB_of 2 hts (zg_all zw_179) rfl rfl rfl (hw zw_8) (hw zw_177) k_Objs_checkIndex.2 ⟨Nat.le_of_ble_eq_true rfl, Nat.le_of_ble_eq_true rfl⟩), hw zw_178⟩ hSc hE hH hS hA rfl hl.1 rfl (Nat.le_of_ble_eq_true rfl) d_AL_remove_5 ⟨Nat.le_of_ble_eq_true rfl, Nat.le_of_ble_eq_true rfl⟩ (fun v1 kd1 ln1 I1 L1 R1 H locs hp hH hS => ?_)
  obtain ⟨rfl, rfl, rfl, rfl, rfl, rfl⟩ := hp
  refine W.eq (g2 := F0 m 8 ls [.int (nI 0)]) rfl ?_
  refine W.widen (k := 0) (n := 0) (by omega) (by omega) ?_
  refine lv_pop hx hb d_AL_remove_8 rfl ?_
  refine lv_aload_n hx hb d_AL_remove_9 rfl (lv_at hl 0 rfl) ?_
  refine zr_getr (ci := 5) (C := R_AL) (T := T_AL) (N := 3) (ref := "java/util/ArrayList") hx hb hts (fun w h => List.mem_cons_of_mem _ (zin_AL w h)) hown hK hH h0 (by decide) rfl 0 (by decide) rfl (hw zw_111) (fun _ h9 => h9) d_AL_remove_10 (by rw [h2]) ?_
  refine lv_astore_n (lv' := [(2, .ref ea), (0, .ref al), (1, .int (nI 0))]) hx hb d_AL_remove_13 rfl hl (by decide) rfl (fun ls hl => ?_)
  refine lv_aload_n hx hb d_AL_remove_14 rfl (lv_at hl 0 rfl) ?_
  refine lv_iload_n hx hb d_AL_remove_15 rfl (lv_at hl 2 rfl) ?_
  refine zr_aldr (t := 4) (j := 0) hx hb (by decide) (by decide) rfl hK hH h3 (zh_ix_n (by omega) (by omega)) d_AL_remove_16 (by rw [hb9]) ?_
  refine lv_astore_n (lv' := [(3, .ref b), (2, .ref ea), (0, .ref al), (1, .int (nI 0))]) hx hb d_AL_remove_17 rfl hl (by decide) rfl (fun ls hl => ?_)
  refine lv_aload_n hx hb d_AL_remove_18 rfl (lv_at hl 2 rfl) ?_
  refine lv_aload_n hx hb d_AL_remove_19 rfl (lv_at hl 1 rfl) ?_
  refine lv_iload_n hx hb d_AL_remove_20 rfl (lv_at hl 3 rfl) ?_
  refine zr_V (As := ([.ref ea, .int (nI 0)] : List Value)) (rest := []) (b := al) (ci := 5) (q := (R_AL, T_AL, 3)) ⟨hx, hb, hml, hown, hts⟩ (c_AL_fastRemove h0 h1 h2 h3 h4 h5 hn1 hel) ⟨(callB_of 2 hts (zg_all zw_222) rfl rfl rfl (hw zw_7) (hw zw_219) k_AL_fastRemove.2 ⟨Nat.le_of_ble_eq_true rfl, Nat.le_of_ble_eq_true rfl⟩), (hw zw_221), (hw zs_AL_fastRemove)⟩ hSc hE hH hS hA rfl (by decide) h0 rfl hl.1 rfl (Nat.le_of_ble_eq_true rfl) d_AL_remove_21 ⟨Nat.le_of_ble_eq_true rfl, Nat.le_of_ble_eq_true rfl⟩ (fun v2 kd2 ln2 I2 L2 R2 H locs hp hH hS => ?_)
  obtain ⟨rfl, rfl, rfl, rfl, rfl, hp1, hp2⟩ := hp
  refine W.eq (g2 := F0 m 24 ls []) rfl ?_
  refine W.widen (k := 0) (n := 0) (by omega) (by omega) ?_
  refine lv_aload_n hx hb d_AL_remove_24 rfl (lv_at hl 0 rfl) ?_
  refine W.widen (k := 0) (n := 0) (Nat.le_of_ble_eq_true rfl) (Nat.le_of_ble_eq_true rfl) ?_
  subst hAe
  exact W.aret hx hb hr (Or.inl ⟨_, rfl⟩) (Or.inr ⟨_, rfl⟩) (fun t ht hW => zc_end hS hH ht (⟨rfl, rfl, rfl, rfl, rfl, hp1, hp2⟩)) hS.2.2 d_AL_remove_25

set_option maxHeartbeats 4000000 in
set_option maxRecDepth 100000 in
/-- ArraysSupport.newLength -/
theorem c_ASup_newLength {l : Launch} {D : va_G} {cA : Nat → ClassId} {te mi : Nat} {kd ln : Nat → Nat} {I : Nat → Nat → Int32} {L : Nat → Nat → Int64} {R : Nat → Nat → Option Nat} {a b d : Nat} (h1 : a < 2 ^ 20) (h2 : b < 2 ^ 20) (h3 : d < 2 ^ 20) (h4 : 0 < b) : zc_M l y_ASup_newLength w_ASup_newLength { frames := 1, cells := 0, slots := 0, locals := 21 } 0 0 D cA te mi ([.int (nI a), .int (nI b), .int (nI d)] : List Value) kd ln I L R (zc_eq (some (.int (nI (a + max b d)))) kd ln I L R) := by
  intro sz
  refine va_MetF (cc := b_ASup_newLength) (maxL := 4) (ret := (some (.int))) (by decide +kernel) rfl ?_
  intro p e s m args below meth c s₁ B hml hv
  obtain ⟨rfl, hsz, hSc, hE, hH⟩ := hv
  have hx := B.exec
  have hb := B.bytes
  have hr := B.returns
  have hts := atoms_spec (ws := w_ASup_newLength) B.pre
  have hw : ∀ {w : Cond}, w ∈ zw → w.before ([.int (nI a), .int (nI b), .int (nI d)] : List Value).toArray s = true := fun h => hts _ (List.mem_cons_of_mem _ h)
  have hown : s.vm.findClass R_ASup = some m.cls := findClass_of_methodNamed B.named
  have hlocks := B.notSynchronized
  subst hsz
  have hK := hSc.1
  have hH : zh_H D cA (zc_A kd s.heap.size) kd ln I L R s.heap := hH.weaken (fun q h _ => Or.inl h)
  generalize hAe : zc_A kd s.heap.size = A at hH hE ⊢
  have hA : ∀ q : Nat, s.heap.size ≤ q → A q := fun q h => by rw [← hAe]; exact Or.inr h
  have hS : va_S A s.heap s.heap [] := va_S.rf
  have hl := lv_entry ([.int (nI a), .int (nI b), .int (nI d)] : List Value) (n := 4) (Nat.le_of_ble_eq_true rfl)
  rw [lg_entry_eq]
  generalize (lg_sl ([.int (nI a), .int (nI b), .int (nI d)] : List Value) ++ List.replicate (4 - (lg_sl ([.int (nI a), .int (nI b), .int (nI d)] : List Value)).length) Slot.unset).toArray = ls at hl ⊢
  have hl : lv_has ls 4 [(0, .int (nI a)), (1, .int (nI b)), (2, .int (nI d))] := hl
  refine lv_iload_n hx hb d_ASup_newLength_0 rfl (lv_at hl 0 rfl) ?_
  refine lv_iload_n hx hb d_ASup_newLength_1 rfl (lv_at hl 1 rfl) ?_
  refine lv_iload_n hx hb d_ASup_newLength_2 rfl (lv_at hl 2 rfl) ?_
  refine zr_St (As := ([.int (nI b), .int (nI d)] : List Value)) (rest := [.int (nI a)]) ⟨hx, hb, hml, hown, hts⟩ (c_Mth_max (by omega) (by omega)) ⟨(callB_of 2 hts (zg_all zw_248) rfl rfl rfl (hw zw_11) (hw zw_326) k_Mth_max.2 ⟨Nat.le_of_ble_eq_true rfl, Nat.le_of_ble_eq_true rfl⟩), hw zw_247⟩ hSc hE hH hS hA rfl hl.1 rfl (Nat.le_of_ble_eq_true rfl) d_ASup_newLength_3 ⟨Nat.le_of_ble_eq_true rfl, Nat.le_of_ble_eq_true rfl⟩ (fun v1 kd1 ln1 I1 L1 R1 H locs hp hH hS => ?_)
  obtain ⟨rfl, rfl, rfl, rfl, rfl, rfl⟩ := hp
  refine W.eq (g2 := F0 m 6 ls [.int (nI (max b d)), .int (nI a)]) rfl ?_
  refine W.widen (k := 0) (n := 0) (by omega) (by omega) ?_
  refine lv_iadd hx hb d_ASup_newLength_6 ?_
  refine zt_i (y := nI (a + (max b d))) (nI_add a (max b d)) ?_
  refine lv_istore_n (lv' := [(3, .int (nI (a + (max b d)))), (0, .int (nI a)), (1, .int (nI b)), (2, .int (nI d))]) hx hb d_ASup_newLength_7 rfl hl (by decide) rfl (fun ls hl => ?_)
  refine lv_iconst (v := nI 0) hx hb d_ASup_newLength_8 (by decide) ?_
  refine lv_iload_n hx hb d_ASup_newLength_9 rfl (lv_at hl 0 rfl) ?_
  refine lv_icmp_ge (tgt := 21) hx hb d_ASup_newLength_10 (by decide) (fun hc2 => ?_) (fun hc2 => ?_)
  · skip
    have hc2 := zt_geT (a := 0) (b := (a + (max b d))) (by omega) (by omega) hc2
    exact absurd hc2 (by omega)
  · skip
    have hc2 := zt_geF (a := 0) (b := (a + (max b d))) (by omega) (by omega) hc2
    refine lv_iload_n hx hb d_ASup_newLength_13 rfl (lv_at hl 0 rfl) ?_
    refine lv_ldc (v := 2147483639) hx hb hown (hw zw_327) d_ASup_newLength_14 ?_
    refine lv_icmp_gt (tgt := 21) hx hb d_ASup_newLength_16 (by decide) (fun hc3 => ?_) (fun hc3 => ?_)
    · skip
      have hc3 := zt_gtT (a := (a + (max b d))) (b := 2147483639) (by omega) (by omega) hc3
      exact absurd hc3 (by omega)
    · skip
      have hc3 := zt_gtF (a := (a + (max b d))) (b := 2147483639) (by omega) (by omega) hc3
      refine lv_iload_n hx hb d_ASup_newLength_19 rfl (lv_at hl 0 rfl) ?_
      refine W.widen (k := 0) (n := 0) (Nat.le_of_ble_eq_true rfl) (Nat.le_of_ble_eq_true rfl) ?_
      subst hAe
      exact W.iret (v := nI (a + (max b d))) hx hb hr (fun t ht hW => zc_end hS hH ht (⟨by congr 3, rfl, rfl, rfl, rfl, rfl⟩)) hS.2.2 d_ASup_newLength_20

set_option maxHeartbeats 4000000 in
set_option maxRecDepth 100000 in
/-- Arrays.copyOf, with the class -/
theorem c_Arr_copyOf3 {l : Launch} {D : va_G} {cA : Nat → ClassId} {te mi : Nat} {kd ln : Nat → Nat} {I : Nat → Nat → Int32} {L : Nat → Nat → Int64} {R : Nat → Nat → Option Nat} {ea n cp : Nat} (h3 : kd ea = 104) (h4 : ln ea = n) (hc1 : n ≤ cp) (hc2 : cp ≤ 1500) (hel : ∀ j, j < n → ∀ y, R ea j = some y → kd y = 4) : zc_M l y_Arr_copyOf3 w_Arr_copyOf3 { frames := 1, cells := 1, slots := 1500, locals := 40 } 1 1500 D cA te mi ([.ref ea, .int (nI cp), .ref mi] : List Value) kd ln I L R (fun v9 kd9 ln9 I9 L9 R9 => ∃ q, kd q = 0 ∧ some (.ref q) = v9 ∧ va_up kd q 104 = kd9 ∧ va_up ln q (cp) = ln9 ∧ va_up I q (fun _ => 0) = I9 ∧ va_up L q (fun _ => 0) = L9 ∧ (∀ a, a ≠ q → R9 a = R a) ∧ ∀ j, j < n → R9 q j = R ea j) := by
  intro sz
  refine va_MetF (cc := b_Arr_copyOf3) (maxL := 4) (ret := (some ((.array (.object "java/lang/Object"))))) (by decide +kernel) rfl ?_
  intro p e s m args below meth c s₁ B hml hv
  obtain ⟨rfl, hsz, hSc, hE, hH⟩ := hv
  have hx := B.exec
  have hb := B.bytes
  have hr := B.returns
  have hts := atoms_spec (ws := w_Arr_copyOf3) B.pre
  have hw : ∀ {w : Cond}, w ∈ zw → w.before ([.ref ea, .int (nI cp), .ref mi] : List Value).toArray s = true := fun h => hts _ (List.mem_cons_of_mem _ h)
  have hown : s.vm.findClass R_Arr = some m.cls := findClass_of_methodNamed B.named
  have hlocks := B.notSynchronized
  subst hsz
  have hK := hSc.1
  have hH : zh_H D cA (zc_A kd s.heap.size) kd ln I L R s.heap := hH.weaken (fun q h _ => Or.inl h)
  generalize hAe : zc_A kd s.heap.size = A at hH hE ⊢
  have hA : ∀ q : Nat, s.heap.size ≤ q → A q := fun q h => by rw [← hAe]; exact Or.inr h
  have hS : va_S A s.heap s.heap [] := va_S.rf
  have hl := lv_entry ([.ref ea, .int (nI cp), .ref mi] : List Value) (n := 4) (Nat.le_of_ble_eq_true rfl)
  rw [lg_entry_eq]
  generalize (lg_sl ([.ref ea, .int (nI cp), .ref mi] : List Value) ++ List.replicate (4 - (lg_sl ([.ref ea, .int (nI cp), .ref mi] : List Value)).length) Slot.unset).toArray = ls at hl ⊢
  have hl : lv_has ls 4 [(0, .ref ea), (1, .int (nI cp)), (2, .ref mi)] := hl
  refine lv_aload_n hx hb d_Arr_copyOf3_0 rfl (lv_at hl 2 rfl) ?_
  refine va_ldcM hx hb hown (hw zw_348) hSc.2.2.2.1 d_Arr_copyOf3_1 ?_
  refine lv_acmp_ne (rx := some mi) (ry := some mi) (tgt := 13) hx hb d_Arr_copyOf3_3 (by decide) (fun hc1 => ?_) (fun hc1 => ?_)
  · skip
    exact absurd rfl hc1
  · skip
    refine lv_iload_n hx hb d_Arr_copyOf3_6 rfl (lv_at hl 1 rfl) ?_
    refine zr_newq (t := 4) (N' := cp) (C := "java/lang/Object") hx hb (by decide) (by decide) rfl hown (hw zw_350) (hSc.2.2.1 _ (by decide +kernel)) hK hH hS hA (nI_pos (by omega)) (nI_clamp (by omega)) (by omega) (Nat.le_of_ble_eq_true rfl) (by show 0 + (cp) ≤ 1500; omega) d_Arr_copyOf3_7 (fun q2 H hq3 hH hS => ?_)
    refine W.widen (k := 1) (n := 1500) (by omega) (by omega) ?_
    refine lv_goto (tgt := 24) hx hb d_Arr_copyOf3_10 (by decide) ?_
    refine lv_astore_n (lv' := [(3, .ref q2), (0, .ref ea), (1, .int (nI cp)), (2, .ref mi)]) hx hb d_Arr_copyOf3_24 rfl hl (by decide) rfl (fun ls hl => ?_)
    refine lv_aload_n hx hb d_Arr_copyOf3_25 rfl (lv_at hl 1 rfl) ?_
    refine lv_iconst (v := nI 0) hx hb d_Arr_copyOf3_26 (by decide) ?_
    refine lv_aload_n hx hb d_Arr_copyOf3_27 rfl (lv_at hl 0 rfl) ?_
    refine lv_iconst (v := nI 0) hx hb d_Arr_copyOf3_28 (by decide) ?_
    refine lv_aload_n hx hb d_Arr_copyOf3_29 rfl (lv_at hl 1 rfl) ?_
    refine zr_alen (t := 4) hx hb (by decide) hK hH (by rw [va_up_ne _ _ (zt_kd h3 hq3 (by decide))]; exact h3) d_Arr_copyOf3_30 ?_
    refine zt_i (y := nI n) (by rw [va_up_ne _ _ (zt_kd h3 hq3 (by decide)), h4]) ?_
    refine lv_iload_n hx hb d_Arr_copyOf3_31 rfl (lv_at hl 2 rfl) ?_
    refine zr_St (As := ([.int (nI n), .int (nI cp)] : List Value)) (rest := [.int (nI 0), .ref q2, .int (nI 0), .ref ea]) ⟨hx, hb, hml, hown, hts⟩ (c_Mth_min (by omega) (by omega)) ⟨(callB_of 2 hts (zg_all zw_234) rfl rfl rfl (hw zw_11) (hw zw_351) k_Mth_min.2 ⟨Nat.le_of_ble_eq_true rfl, Nat.le_of_ble_eq_true rfl⟩), hw zw_233⟩ hSc hE hH hS hA rfl hl.1 rfl (Nat.le_of_ble_eq_true rfl) d_Arr_copyOf3_32 ⟨Nat.le_of_ble_eq_true rfl, Nat.le_of_ble_eq_true rfl⟩ (fun v4 kd4 ln4 I4 L4 R4 H locs hp hH hS => ?_)
    obtain ⟨rfl, rfl, rfl, rfl, rfl, rfl⟩ := hp
    refine W.eq (g2 := F0 m 35 ls [.int (nI (min n cp)), .int (nI 0), .ref q2, .int (nI 0), .ref ea]) rfl ?_
    refine W.widen (k := 1) (n := 1500) (by omega) (by omega) ?_
    refine zr_copyq (t := 4) (sp := 0) (dp := 0) (n := min n cp) hx hb (by rw [hml]; exact hl.1.symm) hown (hw zw_352) (hw zw_214) (hw zw_213) (hw zw_10) (ci := 3) (by decide) (by decide) rfl (hSc.2.1 _ (by decide +kernel)) rfl (by decide) hK hH hS (by rw [va_up_ne _ _ (zt_kd h3 hq3 (by decide))]; exact h3) (by rw [va_up_self]) (by rw [va_up_ne _ _ (zt_kd h3 hq3 (by decide)), h4]; omega) (by rw [va_up_self]; omega) (by omega) (fun i hi y hy => by rw [va_up_ne _ _ (zt_kd h3 hq3 (by decide))] at hy; have hy4 := hel _ (by omega) y hy; rw [va_up_ne _ _ (zt_kd hy4 hq3 (by decide))]; exact hy4) (Nat.le_of_ble_eq_true rfl) (Nat.le_of_ble_eq_true rfl) d_Arr_copyOf3_35 (fun H locs hH hS => ?_)
    refine lv_aload_n hx hb d_Arr_copyOf3_38 rfl (lv_at hl 0 rfl) ?_
    refine W.widen (k := 1) (n := 1500) (Nat.le_of_ble_eq_true rfl) (Nat.le_of_ble_eq_true rfl) ?_
    subst hAe
    exact W.aret hx hb hr (Or.inr ⟨_, rfl⟩) (Or.inr ⟨_, rfl⟩) (fun t ht hW => zc_end hS hH ht (⟨q2, hq3, rfl, rfl, rfl, rfl, rfl, fun a ha => by rw [va_up_ne _ _ ha, va_up_ne _ _ ha], fun j hj => by rw [va_up_self, pk_cpy_in (by omega) (by omega), va_up_ne _ _ (zt_kd h3 hq3 (by decide))]; congr 1; omega⟩)) hS.2.2 d_Arr_copyOf3_39

set_option maxHeartbeats 4000000 in
set_option maxRecDepth 100000 in
/-- Arrays.copyOf -/
theorem c_Arr_copyOf {l : Launch} {D : va_G} {cA : Nat → ClassId} {te mi : Nat} {kd ln : Nat → Nat} {I : Nat → Nat → Int32} {L : Nat → Nat → Int64} {R : Nat → Nat → Option Nat} {ea n cp : Nat} (h3 : kd ea = 104) (h4 : ln ea = n) (hc1 : n ≤ cp) (hc2 : cp ≤ 1500) (hel : ∀ j, j < n → ∀ y, R ea j = some y → kd y = 4) : zc_M l y_Arr_copyOf w_Arr_copyOf { frames := 2, cells := 1, slots := 1500, locals := 63 } 1 1500 D cA te mi ([.ref ea, .int (nI cp)] : List Value) kd ln I L R (fun v9 kd9 ln9 I9 L9 R9 => ∃ q, kd q = 0 ∧ some (.ref q) = v9 ∧ va_up kd q 104 = kd9 ∧ va_up ln q (cp) = ln9 ∧ va_up I q (fun _ => 0) = I9 ∧ va_up L q (fun _ => 0) = L9 ∧ (∀ a, a ≠ q → R9 a = R a) ∧ ∀ j, j < n → R9 q j = R ea j) := by
  intro sz
  refine va_MetF (cc := b_Arr_copyOf) (maxL := 2) (ret := (some ((.array (.object "java/lang/Object"))))) (by decide +kernel) rfl ?_
  intro p e s m args below meth c s₁ B hml hv
  obtain ⟨rfl, hsz, hSc, hE, hH⟩ := hv
  have hx := B.exec
  have hb := B.bytes
  have hr := B.returns
  have hts := atoms_spec (ws := w_Arr_copyOf) B.pre
  have hw : ∀ {w : Cond}, w ∈ zw → w.before ([.ref ea, .int (nI cp)] : List Value).toArray s = true := fun h => hts _ (List.mem_cons_of_mem _ h)
  have hown : s.vm.findClass R_Arr = some m.cls := findClass_of_methodNamed B.named
  have hlocks := B.notSynchronized
  subst hsz
  have hK := hSc.1
  have hH : zh_H D cA (zc_A kd s.heap.size) kd ln I L R s.heap := hH.weaken (fun q h _ => Or.inl h)
  generalize hAe : zc_A kd s.heap.size = A at hH hE ⊢
  have hA : ∀ q : Nat, s.heap.size ≤ q → A q := fun q h => by rw [← hAe]; exact Or.inr h
  have hS : va_S A s.heap s.heap [] := va_S.rf
  have hl := lv_entry ([.ref ea, .int (nI cp)] : List Value) (n := 2) (Nat.le_of_ble_eq_true rfl)
  rw [lg_entry_eq]
  generalize (lg_sl ([.ref ea, .int (nI cp)] : List Value) ++ List.replicate (2 - (lg_sl ([.ref ea, .int (nI cp)] : List Value)).length) Slot.unset).toArray = ls at hl ⊢
  have hl : lv_has ls 2 [(0, .ref ea), (1, .int (nI cp))] := hl
  refine lv_aload_n hx hb d_Arr_copyOf_0 rfl (lv_at hl 0 rfl) ?_
  refine lv_iload_n hx hb d_Arr_copyOf_1 rfl (lv_at hl 1 rfl) ?_
  refine lv_aload_n hx hb d_Arr_copyOf_2 rfl (lv_at hl 0 rfl) ?_
  refine va_getC (C := "[Ljava/lang/Object;") (mi := mi) hx hb (by rw [hml]; exact hl.1.symm) hown (hw zw_334) (va_Dc.use hSc.2.2.2.2) (hw zw_861) (hw zw_335) (hw zw_344) hSc.2.2.2.1 (zh_recvA (t := 4) (by decide) (by decide) rfl (by decide +kernel) hK hH h3) (Nat.le_of_ble_eq_true rfl) (Nat.le_of_ble_eq_true rfl) d_Arr_copyOf_3 ?_
  refine zr_St (As := ([.ref ea, .int (nI cp), .ref mi] : List Value)) (rest := []) ⟨hx, hb, hml, hown, hts⟩ (c_Arr_copyOf3 h3 h4 hc1 hc2 hel) ⟨(callB_of 3 hts (zg_all zw_347) rfl rfl rfl (hw zw_14) (hw zw_345) k_Arr_copyOf3.2 ⟨Nat.le_of_ble_eq_true rfl, Nat.le_of_ble_eq_true rfl⟩), hw zw_346⟩ hSc hE hH hS hA rfl hl.1 rfl (Nat.le_of_ble_eq_true rfl) d_Arr_copyOf_6 ⟨Nat.le_of_ble_eq_true rfl, Nat.le_of_ble_eq_true rfl⟩ (fun v1 kd1 ln1 I1 L1 R1 H locs hp hH hS => ?_)
  obtain ⟨q, hq, rfl, rfl, rfl, rfl, rfl, hp1, hp2⟩ := hp
  refine W.eq (g2 := F0 m 9 ls [.ref q]) rfl ?_
  refine W.widen (k := 1) (n := 1500) (by omega) (by omega) ?_
  refine W.widen (k := 1) (n := 1500) (Nat.le_of_ble_eq_true rfl) (Nat.le_of_ble_eq_true rfl) ?_
  subst hAe
  exact W.aret hx hb hr (Or.inr ⟨_, rfl⟩) (Or.inr ⟨_, rfl⟩) (fun t ht hW => zc_end hS hH ht (⟨q, hq, rfl, rfl, rfl, rfl, rfl, hp1, hp2⟩)) hS.2.2 d_Arr_copyOf_9

set_option maxHeartbeats 4000000 in
set_option maxRecDepth 100000 in
/-- ArrayList.grow(int), E -/
theorem c_AL_grow1_E {l : Launch} {D : va_G} {cA : Nat → ClassId} {te mi : Nat} {kd ln : Nat → Nat} {I : Nat → Nat → Int32} {L : Nat → Nat → Int64} {R : Nat → Nat → Option Nat} {al : Nat} (h0 : kd al = 6) (h1 : I al 1 = nI 0) (h2 : R al 0 = some te) : zc_M l y_AL_grow1 w_AL_grow1 { frames := 3, cells := 1, slots := 1500, locals := 84 } 1 1500 D cA te mi ([.ref al, .int (nI 1)] : List Value) kd ln I L R (fun v9 kd9 ln9 I9 L9 R9 => ∃ q, kd q = 0 ∧ some (.ref q) = v9 ∧ va_up kd q 104 = kd9 ∧ va_up ln q (10) = ln9 ∧ va_up I q (fun _ => 0) = I9 ∧ va_up L q (fun _ => 0) = L9 ∧ (∀ a, a ≠ q → a ≠ al → R9 a = R a) ∧ (∀ k, k ≠ 0 → R9 al k = R al k) ∧ R9 al 0 = some q ∧ ∀ j, j < 0 → R9 q j = R te j) := by
  intro sz
  refine Met.ofW (cc := b_AL_grow1) (maxL := 4) (ret := (some ((.array (.object "java/lang/Object"))))) (by decide +kernel) rfl ?_
  intro p e s m args below meth c s₁ B hml hv
  obtain ⟨rfl, hsz, hSc, hE, hH⟩ := hv
  have hx := B.exec
  have hb := B.bytes
  have hr := B.returns
  have hts := atoms_spec (ws := w_AL_grow1) B.pre
  have hw : ∀ {w : Cond}, w ∈ zw → w.before ([.ref al, .int (nI 1)] : List Value).toArray s = true := fun h => hts _ (List.mem_cons_of_mem _ h)
  have hown : s.vm.findClass R_AL = some m.cls := findClass_of_methodNamed B.named
  have hlocks := B.notSynchronized
  subst hsz
  have hK := hSc.1
  have hH : zh_H D cA (zc_A kd s.heap.size) kd ln I L R s.heap := hH.weaken (fun q h _ => Or.inl h)
  generalize hAe : zc_A kd s.heap.size = A at hH hE ⊢
  have hA : ∀ q : Nat, s.heap.size ≤ q → A q := fun q h => by rw [← hAe]; exact Or.inr h
  have hS : va_S A s.heap s.heap [] := va_S.rf
  have hl := lv_entry ([.ref al, .int (nI 1)] : List Value) (n := 4) (Nat.le_of_ble_eq_true rfl)
  rw [lg_entry_eq]
  generalize (lg_sl ([.ref al, .int (nI 1)] : List Value) ++ List.replicate (4 - (lg_sl ([.ref al, .int (nI 1)] : List Value)).length) Slot.unset).toArray = ls at hl ⊢
  have hl : lv_has ls 4 [(0, .ref al), (1, .int (nI 1))] := hl
  refine lv_aload_n hx hb d_AL_grow1_0 rfl (lv_at hl 0 rfl) ?_
  refine zr_getr (ci := 5) (C := R_AL) (T := T_AL) (N := 3) (ref := "java/util/ArrayList") hx hb hts (fun w h => List.mem_cons_of_mem _ (zin_AL w h)) hown hK hH h0 (by decide) rfl 0 (by decide) rfl (hw zw_111) (fun _ h9 => h9) d_AL_grow1_1 (by rw [h2]) ?_
  refine va_tlen (v := nI 0) hx hb hE.2 hS rfl d_AL_grow1_4 ?_
  refine lv_istore_n (lv' := [(2, .int (nI 0)), (0, .ref al), (1, .int (nI 1))]) hx hb d_AL_grow1_5 rfl hl (by decide) rfl (fun ls hl => ?_)
  refine lv_iload_n hx hb d_AL_grow1_6 rfl (lv_at hl 0 rfl) ?_
  refine lv_if_gt (tgt := 20) hx hb d_AL_grow1_7 (by decide) (fun hc1 => ?_) (fun hc1 => ?_)
  · skip
    have hc1 := zt_gtT (a := 0) (b := 0) (by omega) (by omega) hc1
    exact absurd hc1 (by omega)
  · skip
    have hc1 := zt_gtF (a := 0) (b := 0) (by omega) (by omega) hc1
    refine lv_aload_n hx hb d_AL_grow1_10 rfl (lv_at hl 1 rfl) ?_
    refine zr_getr (ci := 5) (C := R_AL) (T := T_AL) (N := 3) (ref := "java/util/ArrayList") hx hb hts (fun w h => List.mem_cons_of_mem _ (zin_AL w h)) hown hK hH h0 (by decide) rfl 0 (by decide) rfl (hw zw_111) (fun _ h9 => h9) d_AL_grow1_11 (by rw [h2]) ?_
    refine va_gets hx hb hE.1 hS hown (hw zw_109) (fun _ h => h) d_AL_grow1_14 ?_
    refine lv_acmp_eq (rx := some te) (ry := some te) (tgt := 45) hx hb d_AL_grow1_17 (by decide) (fun hc2 => ?_) (fun hc2 => ?_)
    · skip
      refine lv_aload_n hx hb d_AL_grow1_45 rfl (lv_at hl 1 rfl) ?_
      refine lv_bipush (v := nI 10) hx hb d_AL_grow1_46 (by decide) ?_
      refine lv_iload_n hx hb d_AL_grow1_48 rfl (lv_at hl 2 rfl) ?_
      refine zr_St (As := ([.int (nI 10), .int (nI 1)] : List Value)) (rest := [.ref al]) ⟨hx, hb, hml, hown, hts⟩ (c_Mth_max (by omega) (by omega)) ⟨(callB_of 2 hts (zg_all zw_248) rfl rfl rfl (hw zw_11) (hw zw_353) k_Mth_max.2 ⟨Nat.le_of_ble_eq_true rfl, Nat.le_of_ble_eq_true rfl⟩), hw zw_247⟩ hSc hE hH hS hA rfl hl.1 rfl (Nat.le_of_ble_eq_true rfl) d_AL_grow1_49 ⟨Nat.le_of_ble_eq_true rfl, Nat.le_of_ble_eq_true rfl⟩ (fun v3 kd3 ln3 I3 L3 R3 H locs hp hH hS => ?_)
      obtain ⟨rfl, rfl, rfl, rfl, rfl, rfl⟩ := hp
      refine W.eq (g2 := F0 m 52 ls [.int (nI 10), .ref al]) rfl ?_
      refine W.widen (k := 0) (n := 0) (by omega) (by omega) ?_
      refine zr_newq (t := 4) (N' := 10) (C := "java/lang/Object") hx hb (by decide) (by decide) rfl hown (hw zw_354) (hSc.2.2.1 _ (by decide +kernel)) hK hH hS hA (nI_pos (by omega)) (nI_clamp (by omega)) (by omega) (Nat.le_of_ble_eq_true rfl) (by show 0 + (10) ≤ 1500; omega) d_AL_grow1_52 (fun q4 H hq5 hH hS => ?_)
      refine W.widen (k := 1) (n := 10) (by omega) (by omega) ?_
      refine lv_dup_x1 hx hb d_AL_grow1_55 rfl rfl ?_
      refine zr_putq (ref := "java/util/ArrayList") (ci := 5) (C := R_AL) (T := T_AL) (N := 3) (x := some q4) (ty := .array (.object "java/lang/Object")) hx hb hts (fun w h => List.mem_cons_of_mem _ (zin_AL w h)) ty_AL tyok_AL nm_AL hown hK hH hS (by rw [va_up_ne _ _ (zt_kd h0 hq5 (by decide))]; exact h0) (by decide) rfl 0 (by decide) rfl (hw zw_111) (fun _ h9 => h9) rfl (by decide +kernel) rfl rfl d_AL_grow1_56 (fun H locs hH hS => ?_)
      refine W.widen (k := 1) (n := 1500) (Nat.le_of_ble_eq_true rfl) (Nat.le_of_ble_eq_true rfl) ?_
      subst hAe
      exact W.aret hx hb hr (Or.inr ⟨_, rfl⟩) (Or.inr ⟨_, rfl⟩) (fun t ht hW => zc_end hS hH ht (⟨q4, hq5, rfl, rfl, rfl, rfl, rfl, fun a ha hb => by rw [zu_ne _ _ _ hb, va_up_ne _ _ ha], fun k hk => by rw [zu_k _ _ _ _ hk, va_up_ne _ _ (zt_kd h0 hq5 (by decide))], by rw [zu_self], fun j hj => absurd hj (by omega)⟩)) hS.2.2 d_AL_grow1_59
    · skip
      exact absurd rfl hc2

set_option maxHeartbeats 4000000 in
set_option maxRecDepth 100000 in
/-- ArrayList.grow(), E -/
theorem c_AL_grow_E {l : Launch} {D : va_G} {cA : Nat → ClassId} {te mi : Nat} {kd ln : Nat → Nat} {I : Nat → Nat → Int32} {L : Nat → Nat → Int64} {R : Nat → Nat → Option Nat} {al : Nat} (h0 : kd al = 6) (h1 : I al 1 = nI 0) (h2 : R al 0 = some te) : zc_M l y_AL_grow w_AL_grow { frames := 4, cells := 1, slots := 1500, locals := 107 } 1 1500 D cA te mi ([.ref al] : List Value) kd ln I L R (fun v9 kd9 ln9 I9 L9 R9 => ∃ q, kd q = 0 ∧ some (.ref q) = v9 ∧ va_up kd q 104 = kd9 ∧ va_up ln q (10) = ln9 ∧ va_up I q (fun _ => 0) = I9 ∧ va_up L q (fun _ => 0) = L9 ∧ (∀ a, a ≠ q → a ≠ al → R9 a = R a) ∧ (∀ k, k ≠ 0 → R9 al k = R al k) ∧ R9 al 0 = some q ∧ ∀ j, j < 0 → R9 q j = R te j) := by
  intro sz
  refine Met.ofW (cc := b_AL_grow) (maxL := 1) (ret := (some ((.array (.object "java/lang/Object"))))) (by decide +kernel) rfl ?_
  intro p e s m args below meth c s₁ B hml hv
  obtain ⟨rfl, hsz, hSc, hE, hH⟩ := hv
  have hx := B.exec
  have hb := B.bytes
  have hr := B.returns
  have hts := atoms_spec (ws := w_AL_grow) B.pre
  have hw : ∀ {w : Cond}, w ∈ zw → w.before ([.ref al] : List Value).toArray s = true := fun h => hts _ (List.mem_cons_of_mem _ h)
  have hown : s.vm.findClass R_AL = some m.cls := findClass_of_methodNamed B.named
  have hlocks := B.notSynchronized
  subst hsz
  have hK := hSc.1
  have hH : zh_H D cA (zc_A kd s.heap.size) kd ln I L R s.heap := hH.weaken (fun q h _ => Or.inl h)
  generalize hAe : zc_A kd s.heap.size = A at hH hE ⊢
  have hA : ∀ q : Nat, s.heap.size ≤ q → A q := fun q h => by rw [← hAe]; exact Or.inr h
  have hS : va_S A s.heap s.heap [] := va_S.rf
  have hl := lv_entry ([.ref al] : List Value) (n := 1) (Nat.le_of_ble_eq_true rfl)
  rw [lg_entry_eq]
  generalize (lg_sl ([.ref al] : List Value) ++ List.replicate (1 - (lg_sl ([.ref al] : List Value)).length) Slot.unset).toArray = ls at hl ⊢
  have hl : lv_has ls 1 [(0, .ref al)] := hl
  refine lv_aload_n hx hb d_AL_grow_0 rfl (lv_at hl 0 rfl) ?_
  refine lv_aload_n hx hb d_AL_grow_1 rfl (lv_at hl 0 rfl) ?_
  refine zr_geti (ci := 5) (C := R_AL) (T := T_AL) (N := 3) (ref := "java/util/ArrayList") hx hb hts (fun w h => List.mem_cons_of_mem _ (zin_AL w h)) hown hK hH h0 (by decide) rfl 1 (by decide) rfl (hw zw_112) (fun _ h9 => h9) d_AL_grow_2 ?_
  refine zt_i (y := nI 0) (by rw [h1]) ?_
  refine lv_iconst (v := nI 1) hx hb d_AL_grow_5 (by decide) ?_
  refine lv_iadd hx hb d_AL_grow_6 ?_
  refine zt_i (y := nI 1) (by decide) ?_
  refine zr_V (As := ([.int (nI 1)] : List Value)) (rest := []) (b := al) (ci := 5) (q := (R_AL, T_AL, 3)) ⟨hx, hb, hml, hown, hts⟩ (c_AL_grow1_E h0 h1 h2) ⟨(callB_of 1 hts (zg_all zw_322) rfl rfl rfl (hw zw_7) (hw zw_319) k_AL_grow1.2 ⟨Nat.le_of_ble_eq_true rfl, Nat.le_of_ble_eq_true rfl⟩), (hw zw_321), (hw zs_AL_grow1)⟩ hSc hE hH hS hA rfl (by decide) h0 rfl hl.1 rfl (Nat.le_of_ble_eq_true rfl) d_AL_grow_7 ⟨Nat.le_of_ble_eq_true rfl, Nat.le_of_ble_eq_true rfl⟩ (fun v1 kd1 ln1 I1 L1 R1 H locs hp hH hS => ?_)
  obtain ⟨q, hq, rfl, rfl, rfl, rfl, rfl, hp1, hp2, hp3, hp4⟩ := hp
  refine W.eq (g2 := F0 m 10 ls [.ref q]) rfl ?_
  refine W.widen (k := 1) (n := 1500) (by omega) (by omega) ?_
  refine W.widen (k := 1) (n := 1500) (Nat.le_of_ble_eq_true rfl) (Nat.le_of_ble_eq_true rfl) ?_
  subst hAe
  exact W.aret hx hb hr (Or.inr ⟨_, rfl⟩) (Or.inr ⟨_, rfl⟩) (fun t ht hW => zc_end hS hH ht (⟨q, hq, rfl, rfl, rfl, rfl, rfl, hp1, hp2, hp3, hp4⟩)) hS.2.2 d_AL_grow_10

set_option maxHeartbeats 4000000 in
set_option maxRecDepth 100000 in
/-- ArrayList.grow(int), F -/
theorem c_AL_grow1_F {l : Launch} {D : va_G} {cA : Nat → ClassId} {te mi : Nat} {kd ln : Nat → Nat} {I : Nat → Nat → Int32} {L : Nat → Nat → Int64} {R : Nat → Nat → Option Nat} {al ea n : Nat} (h0 : kd al = 6) (h1 : I al 1 = nI n) (h2 : R al 0 = some ea) (h3 : kd ea = 104) (h4 : ln ea = n) (h5 : 1 ≤ n) (h6 : n ≤ 900) (hel : ∀ j, j < n → ∀ y, R ea j = some y → kd y = 4) : zc_M l y_AL_grow1 w_AL_grow1 { frames := 3, cells := 1, slots := 1500, locals := 84 } 1 1500 D cA te mi ([.ref al, .int (nI (n + 1))] : List Value) kd ln I L R (fun v9 kd9 ln9 I9 L9 R9 => ∃ q, kd q = 0 ∧ some (.ref q) = v9 ∧ va_up kd q 104 = kd9 ∧ va_up ln q (n + max 1 (n / 2)) = ln9 ∧ va_up I q (fun _ => 0) = I9 ∧ va_up L q (fun _ => 0) = L9 ∧ (∀ a, a ≠ q → a ≠ al → R9 a = R a) ∧ (∀ k, k ≠ 0 → R9 al k = R al k) ∧ R9 al 0 = some q ∧ ∀ j, j < n → R9 q j = R ea j) := by
  intro sz
  refine Met.ofW (cc := b_AL_grow1) (maxL := 4) (ret := (some ((.array (.object "java/lang/Object"))))) (by decide +kernel) rfl ?_
  intro p e s m args below meth c s₁ B hml hv
  obtain ⟨rfl, hsz, hSc, hE, hH⟩ := hv
  have hx := B.exec
  have hb := B.bytes
  have hr := B.returns
  have hts := atoms_spec (ws := w_AL_grow1) B.pre
  have hw : ∀ {w : Cond}, w ∈ zw → w.before ([.ref al, .int (nI (n + 1))] : List Value).toArray s = true := fun h => hts _ (List.mem_cons_of_mem _ h)
  have hown : s.vm.findClass R_AL = some m.cls := findClass_of_methodNamed B.named
  have hlocks := B.notSynchronized
  subst hsz
  have hK := hSc.1
  have hH : zh_H D cA (zc_A kd s.heap.size) kd ln I L R s.heap := hH.weaken (fun q h _ => Or.inl h)
  generalize hAe : zc_A kd s.heap.size = A at hH hE ⊢
  have hA : ∀ q : Nat, s.heap.size ≤ q → A q := fun q h => by rw [← hAe]; exact Or.inr h
  have hS : va_S A s.heap s.heap [] := va_S.rf
  have hl := lv_entry ([.ref al, .int (nI (n + 1))] : List Value) (n := 4) (Nat.le_of_ble_eq_true rfl)
  rw [lg_entry_eq]
  generalize (lg_sl ([.ref al, .int (nI (n + 1))] : List Value) ++ List.replicate (4 - (lg_sl ([.ref al, .int (nI (n + 1))] : List Value)).length) Slot.unset).toArray = ls at hl ⊢
  have hl : lv_has ls 4 [(0, .ref al), (1, .int (nI (n + 1)))] := hl
  refine lv_aload_n hx hb d_AL_grow1_0 rfl (lv_at hl 0 rfl) ?_
  refine zr_getr (ci := 5) (C := R_AL) (T := T_AL) (N := 3) (ref := "java/util/ArrayList") hx hb hts (fun w h => List.mem_cons_of_mem _ (zin_AL w h)) hown hK hH h0 (by decide) rfl 0 (by decide) rfl (hw zw_111) (fun _ h9 => h9) d_AL_grow1_1 (by rw [h2]) ?_
  refine zr_alen (t := 4) hx hb (by decide) hK hH h3 d_AL_grow1_4 ?_
  refine zt_i (y := nI n) (by rw [h4]) ?_
  refine lv_istore_n (lv' := [(2, .int (nI n)), (0, .ref al), (1, .int (nI (n + 1)))]) hx hb d_AL_grow1_5 rfl hl (by decide) rfl (fun ls hl => ?_)
  refine lv_iload_n hx hb d_AL_grow1_6 rfl (lv_at hl 0 rfl) ?_
  refine lv_if_gt (tgt := 20) hx hb d_AL_grow1_7 (by decide) (fun hc1 => ?_) (fun hc1 => ?_)
  · skip
    have hc1 := zt_gtT (a := n) (b := 0) (by omega) (by omega) hc1
    refine lv_iload_n hx hb d_AL_grow1_20 rfl (lv_at hl 0 rfl) ?_
    refine lv_iload_n hx hb d_AL_grow1_21 rfl (lv_at hl 2 rfl) ?_
    refine lv_iload_n hx hb d_AL_grow1_22 rfl (lv_at hl 0 rfl) ?_
    refine lv_isub hx hb d_AL_grow1_23 ?_
    refine zt_i (y := nI (n + 1 - n)) (pk_sub (by omega)) ?_
    refine lv_iload_n hx hb d_AL_grow1_24 rfl (lv_at hl 0 rfl) ?_
    refine lv_iconst (v := nI 1) hx hb d_AL_grow1_25 (by decide) ?_
    refine lv_ishr hx hb d_AL_grow1_26 ?_
    refine zt_i (y := nI (n / 2 ^ 1)) (pk_shrN (by omega) _ 1 (by decide)) ?_
    refine zr_St (As := ([.int (nI n), .int (nI (n + 1 - n)), .int (nI (n / 2 ^ 1))] : List Value)) (rest := []) ⟨hx, hb, hml, hown, hts⟩ (c_ASup_newLength (a := n) (b := n + 1 - n) (d := n / 2 ^ 1) (by omega) (by omega) (by omega) (by omega)) ⟨(callB_of 3 hts (zg_all zw_325) rfl rfl rfl (hw zw_13) (hw zw_323) k_ASup_newLength.2 ⟨Nat.le_of_ble_eq_true rfl, Nat.le_of_ble_eq_true rfl⟩), hw zw_324⟩ hSc hE hH hS hA rfl hl.1 rfl (Nat.le_of_ble_eq_true rfl) d_AL_grow1_27 ⟨Nat.le_of_ble_eq_true rfl, Nat.le_of_ble_eq_true rfl⟩ (fun v2 kd2 ln2 I2 L2 R2 H locs hp hH hS => ?_)
    obtain ⟨rfl, rfl, rfl, rfl, rfl, rfl⟩ := hp
    rw [show n + max (n + 1 - n) (n / 2 ^ 1) = n + max 1 (n / 2) by rw [show n + 1 - n = 1 by omega]]
    refine W.eq (g2 := F0 m 30 ls [.int (nI (n + max 1 (n / 2)))]) rfl ?_
    refine W.widen (k := 0) (n := 0) (by omega) (by omega) ?_
    refine lv_istore_n (lv' := [(3, .int (nI (n + max 1 (n / 2)))), (2, .int (nI n)), (0, .ref al), (1, .int (nI (n + 1)))]) hx hb d_AL_grow1_30 rfl hl (by decide) rfl (fun ls hl => ?_)
    refine lv_aload_n hx hb d_AL_grow1_31 rfl (lv_at hl 2 rfl) ?_
    refine lv_aload_n hx hb d_AL_grow1_32 rfl (lv_at hl 2 rfl) ?_
    refine zr_getr (ci := 5) (C := R_AL) (T := T_AL) (N := 3) (ref := "java/util/ArrayList") hx hb hts (fun w h => List.mem_cons_of_mem _ (zin_AL w h)) hown hK hH h0 (by decide) rfl 0 (by decide) rfl (hw zw_111) (fun _ h9 => h9) d_AL_grow1_33 (by rw [h2]) ?_
    refine lv_iload_n hx hb d_AL_grow1_36 rfl (lv_at hl 0 rfl) ?_
    refine zr_St (As := ([.ref ea, .int (nI (n + max 1 (n / 2)))] : List Value)) (rest := [.ref al]) ⟨hx, hb, hml, hown, hts⟩ (c_Arr_copyOf (cp := n + max 1 (n / 2)) h3 h4 (by omega) (by omega) hel) ⟨(callB_of 2 hts (zg_all zw_333) rfl rfl rfl (hw zw_14) (hw zw_331) k_Arr_copyOf.2 ⟨Nat.le_of_ble_eq_true rfl, Nat.le_of_ble_eq_true rfl⟩), hw zw_332⟩ hSc hE hH hS hA rfl hl.1 rfl (Nat.le_of_ble_eq_true rfl) d_AL_grow1_37 ⟨Nat.le_of_ble_eq_true rfl, Nat.le_of_ble_eq_true rfl⟩ (fun v3 kd3 ln3 I3 L3 R3 H locs hp hH hS => ?_)
    obtain ⟨q, hq, rfl, rfl, rfl, rfl, rfl, hp1, hp2⟩ := hp
    refine W.eq (g2 := F0 m 40 ls [.ref q, .ref al]) rfl ?_
    refine W.widen (k := 1) (n := 1500) (by omega) (by omega) ?_
    refine lv_dup_x1 hx hb d_AL_grow1_40 rfl rfl ?_
    refine zr_putq (ref := "java/util/ArrayList") (ci := 5) (C := R_AL) (T := T_AL) (N := 3) (x := some q) (ty := .array (.object "java/lang/Object")) hx hb hts (fun w h => List.mem_cons_of_mem _ (zin_AL w h)) ty_AL tyok_AL nm_AL hown hK hH hS (by rw [va_up_ne _ _ (zt_kd h0 hq (by decide))]; exact h0) (by decide) rfl 0 (by decide) rfl (hw zw_111) (fun _ h9 => h9) rfl (by decide +kernel) rfl rfl d_AL_grow1_41 (fun H locs hH hS => ?_)
    refine W.widen (k := 1) (n := 1500) (Nat.le_of_ble_eq_true rfl) (Nat.le_of_ble_eq_true rfl) ?_
    subst hAe
    exact W.aret hx hb hr (Or.inr ⟨_, rfl⟩) (Or.inr ⟨_, rfl⟩) (fun t ht hW => zc_end hS hH ht (⟨q, hq, rfl, rfl, rfl, rfl, rfl, fun a ha hb => by rw [zu_ne _ _ _ hb, hp1 a ha], fun k hk => by rw [zu_k _ _ _ _ hk, hp1 al (zt_kd h0 hq (by decide))], by rw [zu_self], fun j hj => by rw [zu_ne _ _ _ (Ne.symm (zt_kd h0 hq (by decide))), hp2 j hj]⟩)) hS.2.2 d_AL_grow1_44
  · skip
    have hc1 := zt_gtF (a := n) (b := 0) (by omega) (by omega) hc1
    exact absurd hc1 (by omega)

set_option maxHeartbeats 4000000 in
set_option maxRecDepth 100000 in
/-- ArrayList.grow(), F -/
theorem c_AL_grow_F {l : Launch} {D : va_G} {cA : Nat → ClassId} {te mi : Nat} {kd ln : Nat → Nat} {I : Nat → Nat → Int32} {L : Nat → Nat → Int64} {R : Nat → Nat → Option Nat} {al ea n : Nat} (h0 : kd al = 6) (h1 : I al 1 = nI n) (h2 : R al 0 = some ea) (h3 : kd ea = 104) (h4 : ln ea = n) (h5 : 1 ≤ n) (h6 : n ≤ 900) (hel : ∀ j, j < n → ∀ y, R ea j = some y → kd y = 4) : zc_M l y_AL_grow w_AL_grow { frames := 4, cells := 1, slots := 1500, locals := 107 } 1 1500 D cA te mi ([.ref al] : List Value) kd ln I L R (fun v9 kd9 ln9 I9 L9 R9 => ∃ q, kd q = 0 ∧ some (.ref q) = v9 ∧ va_up kd q 104 = kd9 ∧ va_up ln q (n + max 1 (n / 2)) = ln9 ∧ va_up I q (fun _ => 0) = I9 ∧ va_up L q (fun _ => 0) = L9 ∧ (∀ a, a ≠ q → a ≠ al → R9 a = R a) ∧ (∀ k, k ≠ 0 → R9 al k = R al k) ∧ R9 al 0 = some q ∧ ∀ j, j < n → R9 q j = R ea j) := by
  intro sz
  refine Met.ofW (cc := b_AL_grow) (maxL := 1) (ret := (some ((.array (.object "java/lang/Object"))))) (by decide +kernel) rfl ?_
  intro p e s m args below meth c s₁ B hml hv
  obtain ⟨rfl, hsz, hSc, hE, hH⟩ := hv
  have hx := B.exec
  have hb := B.bytes
  have hr := B.returns
  have hts := atoms_spec (ws := w_AL_grow) B.pre
  have hw : ∀ {w : Cond}, w ∈ zw → w.before ([.ref al] : List Value).toArray s = true := fun h => hts _ (List.mem_cons_of_mem _ h)
  have hown : s.vm.findClass R_AL = some m.cls := findClass_of_methodNamed B.named
  have hlocks := B.notSynchronized
  subst hsz
  have hK := hSc.1
  have hH : zh_H D cA (zc_A kd s.heap.size) kd ln I L R s.heap := hH.weaken (fun q h _ => Or.inl h)
  generalize hAe : zc_A kd s.heap.size = A at hH hE ⊢
  have hA : ∀ q : Nat, s.heap.size ≤ q → A q := fun q h => by rw [← hAe]; exact Or.inr h
  have hS : va_S A s.heap s.heap [] := va_S.rf
  have hl := lv_entry ([.ref al] : List Value) (n := 1) (Nat.le_of_ble_eq_true rfl)
  rw [lg_entry_eq]
  generalize (lg_sl ([.ref al] : List Value) ++ List.replicate (1 - (lg_sl ([.ref al] : List Value)).length) Slot.unset).toArray = ls at hl ⊢
  have hl : lv_has ls 1 [(0, .ref al)] := hl
  refine lv_aload_n hx hb d_AL_grow_0 rfl (lv_at hl 0 rfl) ?_
  refine lv_aload_n hx hb d_AL_grow_1 rfl (lv_at hl 0 rfl) ?_
  refine zr_geti (ci := 5) (C := R_AL) (T := T_AL) (N := 3) (ref := "java/util/ArrayList") hx hb hts (fun w h => List.mem_cons_of_mem _ (zin_AL w h)) hown hK hH h0 (by decide) rfl 1 (by decide) rfl (hw zw_112) (fun _ h9 => h9) d_AL_grow_2 ?_
  refine zt_i (y := nI n) (by rw [h1]) ?_
  refine lv_iconst (v := nI 1) hx hb d_AL_grow_5 (by decide) ?_
  refine lv_iadd hx hb d_AL_grow_6 ?_
  refine zt_i (y := nI (n + 1)) (nI_add n 1) ?_
  refine zr_V (As := ([.int (nI (n + 1))] : List Value)) (rest := []) (b := al) (ci := 5) (q := (R_AL, T_AL, 3)) ⟨hx, hb, hml, hown, hts⟩ (c_AL_grow1_F h0 h1 h2 h3 h4 h5 h6 hel) ⟨(callB_of 1 hts (zg_all zw_322) rfl rfl rfl (hw zw_7) (hw zw_319) k_AL_grow1.2 ⟨Nat.le_of_ble_eq_true rfl, Nat.le_of_ble_eq_true rfl⟩), (hw zw_321), (hw zs_AL_grow1)⟩ hSc hE hH hS hA rfl (by decide) h0 rfl hl.1 rfl (Nat.le_of_ble_eq_true rfl) d_AL_grow_7 ⟨Nat.le_of_ble_eq_true rfl, Nat.le_of_ble_eq_true rfl⟩ (fun v1 kd1 ln1 I1 L1 R1 H locs hp hH hS => ?_)
  obtain ⟨q, hq, rfl, rfl, rfl, rfl, rfl, hp1, hp2, hp3, hp4⟩ := hp
  refine W.eq (g2 := F0 m 10 ls [.ref q]) rfl ?_
  refine W.widen (k := 1) (n := 1500) (by omega) (by omega) ?_
  refine W.widen (k := 1) (n := 1500) (Nat.le_of_ble_eq_true rfl) (Nat.le_of_ble_eq_true rfl) ?_
  subst hAe
  exact W.aret hx hb hr (Or.inr ⟨_, rfl⟩) (Or.inr ⟨_, rfl⟩) (fun t ht hW => zc_end hS hH ht (⟨q, hq, rfl, rfl, rfl, rfl, rfl, hp1, hp2, hp3, hp4⟩)) hS.2.2 d_AL_grow_10

/-- behind an addition: the list's array is q -/
abbrev zl_add (V : Option Value) (al ea n b : Nat) (kd ln : Nat → Nat) (I : Nat → Nat → Int32) (L : Nat → Nat → Int64) (R : Nat → Nat → Option Nat) : zc_T := fun v9 kd9 ln9 I9 L9 R9 => V = v9 ∧ ∃ q, R9 al 0 = some q ∧ kd9 q = 104 ∧ n < ln9 q ∧ ln9 q ≤ 1500 ∧ (q = ea ∨ kd q = 0) ∧ (∀ a, a ≠ q → kd9 a = kd a ∧ ln9 a = ln a ∧ L9 a = L a) ∧ (∀ a, a ≠ q → a ≠ al → I9 a = I a ∧ R9 a = R a) ∧ (∀ k, k ≠ 0 → R9 al k = R al k) ∧ I9 al 1 = nI (n + 1) ∧ (∀ k, k ≠ 1 → k ≠ 2 → I9 al k = I al k) ∧ (∀ j, j < n → R9 q j = R ea j) ∧ R9 q n = some b

set_option maxHeartbeats 4000000 in
set_option maxRecDepth 100000 in
/-- ArrayList.add(Object, Object[], int), A -/
theorem c_AL_add3_A {l : Launch} {D : va_G} {cA : Nat → ClassId} {te mi : Nat} {kd ln : Nat → Nat} {I : Nat → Nat → Int32} {L : Nat → Nat → Int64} {R : Nat → Nat → Option Nat} {al ea n b : Nat} (h0 : kd al = 6) (h1 : I al 1 = nI n) (h2 : R al 0 = some ea) (h3 : kd ea = 104) (h4 : n < ln ea) (h5 : ln ea ≤ 1500) (hb9 : kd b = 4) : zc_M l y_AL_add3 w_AL_add3 { frames := 5, cells := 1, slots := 1500, locals := 127 } 1 1500 D cA te mi ([.ref al, .ref b, .ref ea, .int (nI n)] : List Value) kd ln I L R (zl_add none al ea n b kd ln I L R) := by
  intro sz
  refine Met.ofW (cc := b_AL_add3) (maxL := 4) (ret := none) (by decide +kernel) rfl ?_
  intro p e s m args below meth c s₁ B hml hv
  obtain ⟨rfl, hsz, hSc, hE, hH⟩ := hv
  have hx := B.exec
  have hb := B.bytes
  have hr := B.returns
  have hts := atoms_spec (ws := w_AL_add3) B.pre
  have hw : ∀ {w : Cond}, w ∈ zw → w.before ([.ref al, .ref b, .ref ea, .int (nI n)] : List Value).toArray s = true := fun h => hts _ (List.mem_cons_of_mem _ h)
  have hown : s.vm.findClass R_AL = some m.cls := findClass_of_methodNamed B.named
  have hlocks := B.notSynchronized
  subst hsz
  have hK := hSc.1
  have hH : zh_H D cA (zc_A kd s.heap.size) kd ln I L R s.heap := hH.weaken (fun q h _ => Or.inl h)
  generalize hAe : zc_A kd s.heap.size = A at hH hE ⊢
  have hA : ∀ q : Nat, s.heap.size ≤ q → A q := fun q h => by rw [← hAe]; exact Or.inr h
  have hS : va_S A s.heap s.heap [] := va_S.rf
  have hl := lv_entry ([.ref al, .ref b, .ref ea, .int (nI n)] : List Value) (n := 4) (Nat.le_of_ble_eq_true rfl)
  rw [lg_entry_eq]
  generalize (lg_sl ([.ref al, .ref b, .ref ea, .int (nI n)] : List Value) ++ List.replicate (4 - (lg_sl ([.ref al, .ref b, .ref ea, .int (nI n)] : List Value)).length) Slot.unset).toArray = ls at hl ⊢
  have hl : lv_has ls 4 [(0, .ref al), (1, .ref b), (2, .ref ea), (3, .int (nI n))] := hl
  refine lv_iload_n hx hb d_AL_add3_0 rfl (lv_at hl 3 rfl) ?_
  refine lv_aload_n hx hb d_AL_add3_1 rfl (lv_at hl 2 rfl) ?_
  refine zr_alen (t := 4) hx hb (by decide) hK hH h3 d_AL_add3_2 ?_
  refine lv_icmp_ne (tgt := 11) hx hb d_AL_add3_3 (by decide) (fun hc1 => ?_) (fun hc1 => ?_)
  · skip
    have hc1 := zt_neT (a := n) (b := (ln ea)) (by omega) (by omega) hc1
    refine lv_aload_n hx hb d_AL_add3_11 rfl (lv_at hl 2 rfl) ?_
    refine lv_iload_n hx hb d_AL_add3_12 rfl (lv_at hl 3 rfl) ?_
    refine lv_aload_n hx hb d_AL_add3_13 rfl (lv_at hl 1 rfl) ?_
    refine zr_astO (t := 4) (ci := 3) (j := n) hx hb (by decide) (by decide) rfl hK (hSc.2.1 _ (by decide +kernel)) hH hS h3 hb9 (by decide) rfl (zh_ix_n (by omega) (by omega)) d_AL_add3_14 (fun H locs hH hS => ?_)
    refine lv_aload_n hx hb d_AL_add3_15 rfl (lv_at hl 0 rfl) ?_
    refine lv_iload_n hx hb d_AL_add3_16 rfl (lv_at hl 3 rfl) ?_
    refine lv_iconst (v := nI 1) hx hb d_AL_add3_17 (by decide) ?_
    refine lv_iadd hx hb d_AL_add3_18 ?_
    refine zt_i (y := nI (n + 1)) (nI_add n 1) ?_
    refine zr_puti (ref := "java/util/ArrayList") (ci := 5) (C := R_AL) (T := T_AL) (N := 3) (x := nI (n + 1)) (ty := .int) hx hb hts (fun w h => List.mem_cons_of_mem _ (zin_AL w h)) ty_AL tyok_AL nm_AL hown hK hH hS h0 (by decide) rfl 1 (by decide) rfl (hw zw_112) (fun _ h9 => h9) rfl (by decide +kernel) rfl rfl d_AL_add3_19 (fun H locs hH hS => ?_)
    refine W.widen (k := 1) (n := 1500) (Nat.le_of_ble_eq_true rfl) (Nat.le_of_ble_eq_true rfl) ?_
    subst hAe
    exact W.vret hx hb hr (fun t ht hW => zc_end hS hH ht (⟨rfl, ea, by rw [zu_ne _ _ _ (zt_kd h0 h3 (by decide)), h2], h3, h4, h5, Or.inl rfl, fun a ha => ⟨rfl, rfl, rfl⟩, fun a ha hb => ⟨by rw [zu_ne _ _ _ hb], by rw [zu_ne _ _ _ ha]⟩, fun k hk => by rw [zu_ne _ _ _ (zt_kd h0 h3 (by decide))], by rw [zu_self], fun k h1 h2 => by rw [zu_k _ _ _ _ h1], fun j hj => by rw [zu_k _ _ _ _ (show j ≠ n by omega)], by rw [zu_self]⟩)) hS.2.2 d_AL_add3_22
  · skip
    have hc1 := zt_neF (a := n) (b := (ln ea)) (by omega) (by omega) hc1
    exact absurd hc1 (by omega)

set_option maxHeartbeats 4000000 in
set_option maxRecDepth 100000 in
/-- ArrayList.add(Object, Object[], int), E -/
theorem c_AL_add3_E {l : Launch} {D : va_G} {cA : Nat → ClassId} {te mi : Nat} {kd ln : Nat → Nat} {I : Nat → Nat → Int32} {L : Nat → Nat → Int64} {R : Nat → Nat → Option Nat} {al b : Nat} (h0 : kd al = 6) (h1 : I al 1 = nI 0) (h2 : R al 0 = some te) (hb9 : kd b = 4) : zc_M l y_AL_add3 w_AL_add3 { frames := 5, cells := 1, slots := 1500, locals := 127 } 1 1500 D cA te mi ([.ref al, .ref b, .ref te, .int (nI 0)] : List Value) kd ln I L R (zl_add none al te 0 b kd ln I L R) := by
  intro sz
  refine Met.ofW (cc := b_AL_add3) (maxL := 4) (ret := none) (by decide +kernel) rfl ?_
  intro p e s m args below meth c s₁ B hml hv
  obtain ⟨rfl, hsz, hSc, hE, hH⟩ := hv
  have hx := B.exec
  have hb := B.bytes
  have hr := B.returns
  have hts := atoms_spec (ws := w_AL_add3) B.pre
  have hw : ∀ {w : Cond}, w ∈ zw → w.before ([.ref al, .ref b, .ref te, .int (nI 0)] : List Value).toArray s = true := fun h => hts _ (List.mem_cons_of_mem _ h)
  have hown : s.vm.findClass R_AL = some m.cls := findClass_of_methodNamed B.named
  have hlocks := B.notSynchronized
  subst hsz
  have hK := hSc.1
  have hH : zh_H D cA (zc_A kd s.heap.size) kd ln I L R s.heap := hH.weaken (fun q h _ => Or.inl h)
  generalize hAe : zc_A kd s.heap.size = A at hH hE ⊢
  have hA : ∀ q : Nat, s.heap.size ≤ q → A q := fun q h => by rw [← hAe]; exact Or.inr h
  have hS : va_S A s.heap s.heap [] := va_S.rf
  have hl := lv_entry ([.ref al, .ref b, .ref te, .int (nI 0)] : List Value) (n := 4) (Nat.le_of_ble_eq_true rfl)
  rw [lg_entry_eq]
  generalize (lg_sl ([.ref al, .ref b, .ref te, .int (nI 0)] : List Value) ++ List.replicate (4 - (lg_sl ([.ref al, .ref b, .ref te, .int (nI 0)] : List Value)).length) Slot.unset).toArray = ls at hl ⊢
  have hl : lv_has ls 4 [(0, .ref al), (1, .ref b), (2, .ref te), (3, .int (nI 0))] := hl
  refine lv_iload_n hx hb d_AL_add3_0 rfl (lv_at hl 3 rfl) ?_
  refine lv_aload_n hx hb d_AL_add3_1 rfl (lv_at hl 2 rfl) ?_
  refine va_tlen (v := nI 0) hx hb hE.2 hS rfl d_AL_add3_2 ?_
  refine lv_icmp_ne (tgt := 11) hx hb d_AL_add3_3 (by decide) (fun hc1 => ?_) (fun hc1 => ?_)
  · skip
    have hc1 := zt_neT (a := 0) (b := 0) (by omega) (by omega) hc1
    exact absurd hc1 (by omega)
  · skip
    have hc1 := zt_neF (a := 0) (b := 0) (by omega) (by omega) hc1
    refine lv_aload_n hx hb d_AL_add3_6 rfl (lv_at hl 0 rfl) ?_
    refine zr_V (As := ([] : List Value)) (rest := []) (b := al) (ci := 5) (q := (R_AL, T_AL, 3)) ⟨hx, hb, hml, hown, hts⟩ (c_AL_grow_E h0 h1 h2) ⟨(callB_of 0 hts (zg_all zw_318) rfl rfl rfl (hw zw_7) (hw zw_315) k_AL_grow.2 ⟨Nat.le_of_ble_eq_true rfl, Nat.le_of_ble_eq_true rfl⟩), (hw zw_317), (hw zs_AL_grow)⟩ hSc hE hH hS hA rfl (by decide) h0 rfl hl.1 rfl (Nat.le_of_ble_eq_true rfl) d_AL_add3_7 ⟨Nat.le_of_ble_eq_true rfl, Nat.le_of_ble_eq_true rfl⟩ (fun v2 kd2 ln2 I2 L2 R2 H locs hp hH hS => ?_)
    obtain ⟨q, hq, rfl, rfl, rfl, rfl, rfl, hp1, hp2, hp3, hp4⟩ := hp
    refine W.eq (g2 := F0 m 10 ls [.ref q]) rfl ?_
    refine W.widen (k := 1) (n := 1500) (by omega) (by omega) ?_
    refine lv_astore_n (lv' := [(2, .ref q), (0, .ref al), (1, .ref b), (3, .int (nI 0))]) hx hb d_AL_add3_10 rfl hl (by decide) rfl (fun ls hl => ?_)
    refine lv_aload_n hx hb d_AL_add3_11 rfl (lv_at hl 0 rfl) ?_
    refine lv_iload_n hx hb d_AL_add3_12 rfl (lv_at hl 3 rfl) ?_
    refine lv_aload_n hx hb d_AL_add3_13 rfl (lv_at hl 2 rfl) ?_
    refine zr_astO (t := 4) (ci := 3) (j := 0) hx hb (by decide) (by decide) rfl hK (hSc.2.1 _ (by decide +kernel)) hH hS (by rw [va_up_self]) (by rw [va_up_ne _ _ (zt_kd hb9 hq (by decide))]; exact hb9) (by decide) rfl (by rw [va_up_self]; exact zh_ix_n (by omega) (by omega)) d_AL_add3_14 (fun H locs hH hS => ?_)
    refine lv_aload_n hx hb d_AL_add3_15 rfl (lv_at hl 1 rfl) ?_
    refine lv_iload_n hx hb d_AL_add3_16 rfl (lv_at hl 3 rfl) ?_
    refine lv_iconst (v := nI 1) hx hb d_AL_add3_17 (by decide) ?_
    refine lv_iadd hx hb d_AL_add3_18 ?_
    refine zt_i (y := nI 1) (by decide) ?_
    refine zr_puti (ref := "java/util/ArrayList") (ci := 5) (C := R_AL) (T := T_AL) (N := 3) (x := nI 1) (ty := .int) hx hb hts (fun w h => List.mem_cons_of_mem _ (zin_AL w h)) ty_AL tyok_AL nm_AL hown hK hH hS (by rw [va_up_ne _ _ (zt_kd h0 hq (by decide))]; exact h0) (by decide) rfl 1 (by decide) rfl (hw zw_112) (fun _ h9 => h9) rfl (by decide +kernel) rfl rfl d_AL_add3_19 (fun H locs hH hS => ?_)
    refine W.widen (k := 1) (n := 1500) (Nat.le_of_ble_eq_true rfl) (Nat.le_of_ble_eq_true rfl) ?_
    subst hAe
    exact W.vret hx hb hr (fun t ht hW => zc_end hS hH ht (⟨rfl, q, by rw [zu_ne _ _ _ (zt_kd h0 hq (by decide)), hp3], by rw [va_up_self], by rw [va_up_self]; omega, by rw [va_up_self]; omega, Or.inr hq, fun a ha => ⟨by rw [va_up_ne _ _ ha], by rw [va_up_ne _ _ ha], by rw [va_up_ne _ _ ha]⟩, fun a ha hb => ⟨by rw [zu_ne _ _ _ hb, va_up_ne _ _ ha], by rw [zu_ne _ _ _ ha, hp1 a ha hb]⟩, fun k hk => by rw [zu_ne _ _ _ (zt_kd h0 hq (by decide)), hp2 k hk], by rw [zu_self], fun k h1 h2 => by rw [zu_k _ _ _ _ h1, va_up_ne _ _ (zt_kd h0 hq (by decide))], fun j hj => absurd hj (by omega), by rw [zu_self]⟩)) hS.2.2 d_AL_add3_22

set_option maxHeartbeats 4000000 in
set_option maxRecDepth 100000 in
/-- ArrayList.add(Object, Object[], int), F -/
theorem c_AL_add3_F {l : Launch} {D : va_G} {cA : Nat → ClassId} {te mi : Nat} {kd ln : Nat → Nat} {I : Nat → Nat → Int32} {L : Nat → Nat → Int64} {R : Nat → Nat → Option Nat} {al ea n b : Nat} (h0 : kd al = 6) (h1 : I al 1 = nI n) (h2 : R al 0 = some ea) (h3 : kd ea = 104) (h4 : ln ea = n) (h5 : 1 ≤ n) (h6 : n ≤ 900) (hel : ∀ j, j < n → ∀ y, R ea j = some y → kd y = 4) (hb9 : kd b = 4) : zc_M l y_AL_add3 w_AL_add3 { frames := 5, cells := 1, slots := 1500, locals := 127 } 1 1500 D cA te mi ([.ref al, .ref b, .ref ea, .int (nI n)] : List Value) kd ln I L R (zl_add none al ea n b kd ln I L R) := by
  intro sz
  refine Met.ofW (cc := b_AL_add3) (maxL := 4) (ret := none) (by decide +kernel) rfl ?_
  intro p e s m args below meth c s₁ B hml hv
  obtain ⟨rfl, hsz, hSc, hE, hH⟩ := hv
  have hx := B.exec
  have hb := B.bytes
  have hr := B.returns
  have hts := atoms_spec (ws := w_AL_add3) B.pre
  have hw : ∀ {w : Cond}, w ∈ zw → w.before ([.ref al, .ref b, .ref ea, .int (nI n)] : List Value).toArray s = true := fun h => hts _ (List.mem_cons_of_mem _ h)
  have hown : s.vm.findClass R_AL = some m.cls := findClass_of_methodNamed B.named
  have hlocks := B.notSynchronized
  subst hsz
  have hK := hSc.1
  have hH : zh_H D cA (zc_A kd s.heap.size) kd ln I L R s.heap := hH.weaken (fun q h _ => Or.inl h)
  generalize hAe : zc_A kd s.heap.size = A at hH hE ⊢
  have hA : ∀ q : Nat, s.heap.size ≤ q → A q := fun q h => by rw [← hAe]; exact Or.inr h
  have hS : va_S A s.heap s.heap [] := va_S.rf
  have hl := lv_entry ([.ref al, .ref b, .ref ea, .int (nI n)] : List Value) (n := 4) (Nat.le_of_ble_eq_true rfl)
  rw [lg_entry_eq]
  generalize (lg_sl ([.ref al, .ref b, .ref ea, .int (nI n)] : List Value) ++ List.replicate (4 - (lg_sl ([.ref al, .ref b, .ref ea, .int (nI n)] : List Value)).length) Slot.unset).toArray = ls at hl ⊢
  have hl : lv_has ls 4 [(0, .ref al), (1, .ref b), (2, .ref ea), (3, .int (nI n))] := hl
  refine lv_iload_n hx hb d_AL_add3_0 rfl (lv_at hl 3 rfl) ?_
  refine lv_aload_n hx hb d_AL_add3_1 rfl (lv_at hl 2 rfl) ?_
  refine zr_alen (t := 4) hx hb (by decide) hK hH h3 d_AL_add3_2 ?_
  refine zt_i (y := nI n) (by rw [h4]) ?_
  refine lv_icmp_ne (tgt := 11) hx hb d_AL_add3_3 (by decide) (fun hc1 => ?_) (fun hc1 => ?_)
  · skip
    have hc1 := zt_neT (a := n) (b := n) (by omega) (by omega) hc1
    exact absurd hc1 (by omega)
  · skip
    have hc1 := zt_neF (a := n) (b := n) (by omega) (by omega) hc1
    refine lv_aload_n hx hb d_AL_add3_6 rfl (lv_at hl 0 rfl) ?_
    refine zr_V (As := ([] : List Value)) (rest := []) (b := al) (ci := 5) (q := (R_AL, T_AL, 3)) ⟨hx, hb, hml, hown, hts⟩ (c_AL_grow_F h0 h1 h2 h3 h4 h5 h6 hel) ⟨(callB_of 0 hts (zg_all zw_318) rfl rfl rfl (hw zw_7) (hw zw_315) k_AL_grow.2 ⟨Nat.le_of_ble_eq_true rfl, Nat.le_of_ble_eq_true rfl⟩), (hw zw_317), (hw zs_AL_grow)⟩ hSc hE hH hS hA rfl (by decide) h0 rfl hl.1 rfl (Nat.le_of_ble_eq_true rfl) d_AL_add3_7 ⟨Nat.le_of_ble_eq_true rfl, Nat.le_of_ble_eq_true rfl⟩ (fun v2 kd2 ln2 I2 L2 R2 H locs hp hH hS => ?_)
    obtain ⟨q, hq, rfl, rfl, rfl, rfl, rfl, hp1, hp2, hp3, hp4⟩ := hp
    refine W.eq (g2 := F0 m 10 ls [.ref q]) rfl ?_
    refine W.widen (k := 1) (n := 1500) (by omega) (by omega) ?_
    refine lv_astore_n (lv' := [(2, .ref q), (0, .ref al), (1, .ref b), (3, .int (nI n))]) hx hb d_AL_add3_10 rfl hl (by decide) rfl (fun ls hl => ?_)
    refine lv_aload_n hx hb d_AL_add3_11 rfl (lv_at hl 0 rfl) ?_
    refine lv_iload_n hx hb d_AL_add3_12 rfl (lv_at hl 3 rfl) ?_
    refine lv_aload_n hx hb d_AL_add3_13 rfl (lv_at hl 2 rfl) ?_
    refine zr_astO (t := 4) (ci := 3) (j := n) hx hb (by decide) (by decide) rfl hK (hSc.2.1 _ (by decide +kernel)) hH hS (by rw [va_up_self]) (by rw [va_up_ne _ _ (zt_kd hb9 hq (by decide))]; exact hb9) (by decide) rfl (by rw [va_up_self]; exact zh_ix_n (by omega) (by omega)) d_AL_add3_14 (fun H locs hH hS => ?_)
    refine lv_aload_n hx hb d_AL_add3_15 rfl (lv_at hl 1 rfl) ?_
    refine lv_iload_n hx hb d_AL_add3_16 rfl (lv_at hl 3 rfl) ?_
    refine lv_iconst (v := nI 1) hx hb d_AL_add3_17 (by decide) ?_
    refine lv_iadd hx hb d_AL_add3_18 ?_
    refine zt_i (y := nI (n + 1)) (nI_add n 1) ?_
    refine zr_puti (ref := "java/util/ArrayList") (ci := 5) (C := R_AL) (T := T_AL) (N := 3) (x := nI (n + 1)) (ty := .int) hx hb hts (fun w h => List.mem_cons_of_mem _ (zin_AL w h)) ty_AL tyok_AL nm_AL hown hK hH hS (by rw [va_up_ne _ _ (zt_kd h0 hq (by decide))]; exact h0) (by decide) rfl 1 (by decide) rfl (hw zw_112) (fun _ h9 => h9) rfl (by decide +kernel) rfl rfl d_AL_add3_19 (fun H locs hH hS => ?_)
    refine W.widen (k := 1) (n := 1500) (Nat.le_of_ble_eq_true rfl) (Nat.le_of_ble_eq_true rfl) ?_
    subst hAe
    exact W.vret hx hb hr (fun t ht hW => zc_end hS hH ht (⟨rfl, q, by rw [zu_ne _ _ _ (zt_kd h0 hq (by decide)), hp3], by rw [va_up_self], by rw [va_up_self]; omega, by rw [va_up_self]; omega, Or.inr hq, fun a ha => ⟨by rw [va_up_ne _ _ ha], by rw [va_up_ne _ _ ha], by rw [va_up_ne _ _ ha]⟩, fun a ha hb => ⟨by rw [zu_ne _ _ _ hb, va_up_ne _ _ ha], by rw [zu_ne _ _ _ ha, hp1 a ha hb]⟩, fun k hk => by rw [zu_ne _ _ _ (zt_kd h0 hq (by decide)), hp2 k hk], by rw [zu_self], fun k h1 h2 => by rw [zu_k _ _ _ _ h1, va_up_ne _ _ (zt_kd h0 hq (by decide))], fun j hj => by rw [zu_k _ _ _ _ (show j ≠ n by omega), hp4 j hj], by rw [zu_self]⟩)) hS.2.2 d_AL_add3_22

theorem c_AL_add3 {l : Launch} {D : va_G} {cA : Nat → ClassId} {te mi : Nat} {kd ln : Nat → Nat} {I : Nat → Nat → Int32} {L : Nat → Nat → Int64} {R : Nat → Nat → Option Nat} {al ea n b : Nat} (h0 : kd al = 6) (h1 : I al 1 = nI n) (h2 : R al 0 = some ea) (h3 : (ea = te ∧ n = 0) ∨ (kd ea = 104 ∧ n ≤ ln ea ∧ ln ea ≤ 1500 ∧ 1 ≤ ln ea)) (h6 : n ≤ 900) (hel : ∀ j, j < n → ∀ y, R ea j = some y → kd y = 4) (hb9 : kd b = 4) : zc_M l y_AL_add3 w_AL_add3 { frames := 5, cells := 1, slots := 1500, locals := 127 } 1 1500 D cA te mi ([.ref al, .ref b, .ref ea, .int (nI n)] : List Value) kd ln I L R (zl_add none al ea n b kd ln I L R) := by
  rcases h3 with ⟨rfl, rfl⟩ | ⟨h3, h4, h5, h7⟩
  · exact c_AL_add3_E h0 h1 h2 hb9
  · rcases Nat.lt_or_ge n (ln ea) with h | h
    · exact c_AL_add3_A h0 h1 h2 h3 h h5 hb9
    · exact c_AL_add3_F h0 h1 h2 h3 (by omega) (by omega) h6 hel hb9

set_option maxHeartbeats 4000000 in
set_option maxRecDepth 100000 in
/-- ArrayList.add -/
theorem c_AL_add {l : Launch} {D : va_G} {cA : Nat → ClassId} {te mi : Nat} {kd ln : Nat → Nat} {I : Nat → Nat → Int32} {L : Nat → Nat → Int64} {R : Nat → Nat → Option Nat} {al ea n b : Nat} (h0 : kd al = 6) (h1 : I al 1 = nI n) (h2 : R al 0 = some ea) (h3 : (ea = te ∧ n = 0) ∨ (kd ea = 104 ∧ n ≤ ln ea ∧ ln ea ≤ 1500 ∧ 1 ≤ ln ea)) (h6 : n ≤ 900) (hel : ∀ j, j < n → ∀ y, R ea j = some y → kd y = 4) (hb9 : kd b = 4) : zc_M l y_AL_add w_AL_add { frames := 6, cells := 1, slots := 1500, locals := 150 } 1 1500 D cA te mi ([.ref al, .ref b] : List Value) kd ln I L R (zl_add (some (.int (nI 1))) al ea n b kd ln I L R) := by
  intro sz
  refine Met.ofW (cc := b_AL_add) (maxL := 2) (ret := (some (.boolean))) (by decide +kernel) rfl ?_
  intro p e s m args below meth c s₁ B hml hv
  obtain ⟨rfl, hsz, hSc, hE, hH⟩ := hv
  have hx := B.exec
  have hb := B.bytes
  have hr := B.returns
  have hts := atoms_spec (ws := w_AL_add) B.pre
  have hw : ∀ {w : Cond}, w ∈ zw → w.before ([.ref al, .ref b] : List Value).toArray s = true := fun h => hts _ (List.mem_cons_of_mem _ h)
  have hown : s.vm.findClass R_AL = some m.cls := findClass_of_methodNamed B.named
  have hlocks := B.notSynchronized
  subst hsz
  have hK := hSc.1
  have hH : zh_H D cA (zc_A kd s.heap.size) kd ln I L R s.heap := hH.weaken (fun q h _ => Or.inl h)
  generalize hAe : zc_A kd s.heap.size = A at hH hE ⊢
  have hA : ∀ q : Nat, s.heap.size ≤ q → A q := fun q h => by rw [← hAe]; exact Or.inr h
  have hS : va_S A s.heap s.heap [] := va_S.rf
  have hl := lv_entry ([.ref al, .ref b] : List Value) (n := 2) (Nat.le_of_ble_eq_true rfl)
  rw [lg_entry_eq]
  generalize (lg_sl ([.ref al, .ref b] : List Value) ++ List.replicate (2 - (lg_sl ([.ref al, .ref b] : List Value)).length) Slot.unset).toArray = ls at hl ⊢
  have hl : lv_has ls 2 [(0, .ref al), (1, .ref b)] := hl
  refine lv_aload_n hx hb d_AL_add_0 rfl (lv_at hl 0 rfl) ?_
  refine lv_dup hx hb d_AL_add_1 rfl ?_
  refine zr_geti (ci := 5) (C := R_AL) (T := T_AL) (N := 3) (ref := "java/util/ArrayList") hx hb hts (fun w h => List.mem_cons_of_mem _ (zin_AL w h)) hown hK hH h0 (by decide) rfl 2 (by decide) rfl (hw zw_114) (fun x9 h9 => u_same (hw zw_115) x9 h9) d_AL_add_2 ?_
  refine lv_iconst (v := nI 1) hx hb d_AL_add_5 (by decide) ?_
  refine lv_iadd hx hb d_AL_add_6 ?_
  refine zr_puti (ref := "java/util/ArrayList") (ci := 5) (C := R_AL) (T := T_AL) (N := 3) (x := (I al 2) + (nI 1)) (ty := .int) hx hb hts (fun w h => List.mem_cons_of_mem _ (zin_AL w h)) ty_AL tyok_AL nm_AL hown hK hH hS h0 (by decide) rfl 2 (by decide) rfl (hw zw_114) (fun x9 h9 => u_same (hw zw_115) x9 h9) rfl (by decide +kernel) rfl rfl d_AL_add_7 (fun H locs hH hS => ?_)
  refine lv_aload_n hx hb d_AL_add_10 rfl (lv_at hl 0 rfl) ?_
  refine lv_aload_n hx hb d_AL_add_11 rfl (lv_at hl 1 rfl) ?_
  refine lv_aload_n hx hb d_AL_add_12 rfl (lv_at hl 0 rfl) ?_
  refine zr_getr (ci := 5) (C := R_AL) (T := T_AL) (N := 3) (ref := "java/util/ArrayList") hx hb hts (fun w h => List.mem_cons_of_mem _ (zin_AL w h)) hown hK hH h0 (by decide) rfl 0 (by decide) rfl (hw zw_111) (fun _ h9 => h9) d_AL_add_13 (by rw [h2]) ?_
  refine lv_aload_n hx hb d_AL_add_16 rfl (lv_at hl 0 rfl) ?_
  refine zr_geti (ci := 5) (C := R_AL) (T := T_AL) (N := 3) (ref := "java/util/ArrayList") hx hb hts (fun w h => List.mem_cons_of_mem _ (zin_AL w h)) hown hK hH h0 (by decide) rfl 1 (by decide) rfl (hw zw_112) (fun _ h9 => h9) d_AL_add_17 ?_
  refine zt_i (y := nI n) (by rw [zu_k _ _ _ _ (show (1 : Nat) ≠ 2 by decide), h1]) ?_
  refine zr_V (As := ([.ref b, .ref ea, .int (nI n)] : List Value)) (rest := []) (b := al) (ci := 5) (q := (R_AL, T_AL, 3)) ⟨hx, hb, hml, hown, hts⟩ (c_AL_add3 h0 (by rw [zu_k _ _ _ _ (show (1 : Nat) ≠ 2 by decide)]; exact h1) h2 h3 h6 hel hb9) ⟨(callB_of 3 hts (zg_all zw_314) rfl rfl rfl (hw zw_7) (hw zw_311) k_AL_add3.2 ⟨Nat.le_of_ble_eq_true rfl, Nat.le_of_ble_eq_true rfl⟩), (hw zw_313), (hw zs_AL_add3)⟩ hSc hE hH hS hA rfl (by decide) h0 rfl hl.1 rfl (Nat.le_of_ble_eq_true rfl) d_AL_add_20 ⟨Nat.le_of_ble_eq_true rfl, Nat.le_of_ble_eq_true rfl⟩ (fun v1 kd1 ln1 I1 L1 R1 H locs hp hH hS => ?_)
  obtain ⟨rfl, q, p1, p2, p3, p4, p5, p6, p7, p8, p9, p10, p11, p12⟩ := hp
  refine W.eq (g2 := F0 m 23 ls []) rfl ?_
  refine W.widen (k := 1) (n := 1500) (by omega) (by omega) ?_
  refine lv_iconst (v := nI 1) hx hb d_AL_add_23 (by decide) ?_
  refine W.widen (k := 1) (n := 1500) (Nat.le_of_ble_eq_true rfl) (Nat.le_of_ble_eq_true rfl) ?_
  subst hAe
  exact W.zret (v := nI 1) hx hb hr (by decide +kernel) (fun t ht hW => zc_end hS hH ht (⟨rfl, q, p1, p2, p3, p4, p5, p6, fun a ha hb => ⟨by rw [(p7 a ha hb).1, zu_ne _ _ _ hb], (p7 a ha hb).2⟩, p8, p9, fun k k1 k2 => by rw [p10 k k1 k2, zu_k _ _ _ _ k2], p11, p12⟩)) hS.2.2 d_AL_add_24

set_option maxHeartbeats 4000000 in
set_option maxRecDepth 100000 in
/-- AbstractCollection() -/
theorem c_ABC_init {l : Launch} {D : va_G} {cA : Nat → ClassId} {te mi : Nat} {kd ln : Nat → Nat} {I : Nat → Nat → Int32} {L : Nat → Nat → Int64} {R : Nat → Nat → Option Nat} {al : Nat} : zc_M l y_ABC_init w_ABC_init { frames := 1, cells := 0, slots := 0, locals := 12 } 0 0 D cA te mi ([.ref al] : List Value) kd ln I L R (zc_eq none kd ln I L R) := by
  intro sz
  refine va_MetF (cc := b_ABC_init) (maxL := 1) (ret := none) (by decide +kernel) rfl ?_
  intro p e s m args below meth c s₁ B hml hv
  obtain ⟨rfl, hsz, hSc, hE, hH⟩ := hv
  have hx := B.exec
  have hb := B.bytes
  have hr := B.returns
  have hts := atoms_spec (ws := w_ABC_init) B.pre
  have hw : ∀ {w : Cond}, w ∈ zw → w.before ([.ref al] : List Value).toArray s = true := fun h => hts _ (List.mem_cons_of_mem _ h)
  have hown : s.vm.findClass R_ABC = some m.cls := findClass_of_methodNamed B.named
  have hlocks := B.notSynchronized
  subst hsz
  have hK := hSc.1
  have hH : zh_H D cA (zc_A kd s.heap.size) kd ln I L R s.heap := hH.weaken (fun q h _ => Or.inl h)
  generalize hAe : zc_A kd s.heap.size = A at hH hE ⊢
  have hA : ∀ q : Nat, s.heap.size ≤ q → A q := fun q h => by rw [← hAe]; exact Or.inr h
  have hS : va_S A s.heap s.heap [] := va_S.rf
  have hl := lv_entry ([.ref al] : List Value) (n := 1) (Nat.le_of_ble_eq_true rfl)
  rw [lg_entry_eq]
  generalize (lg_sl ([.ref al] : List Value) ++ List.replicate (1 - (lg_sl ([.ref al] : List Value)).length) Slot.unset).toArray = ls at hl ⊢
  have hl : lv_has ls 1 [(0, .ref al)] := hl
  have hin : meth.name = "<init>" := (name_of_methodNamed B.named B.method).1
  refine lv_aload_n hx hb d_ABC_init_0 rfl (lv_at hl 0 rfl) ?_
  refine W.objInit hx hb hown (hw zw_108) (hw zw_23) (hw zw_24) rfl (by rw [hml]; exact hl.1) rfl d_ABC_init_1 (Nat.le_of_ble_eq_true rfl) (Nat.le_of_ble_eq_true rfl) ?_
  refine W.eq (g2 := F0 m 4 ls []) rfl ?_
  refine W.widen (k := 0) (n := 0) (Nat.le_of_ble_eq_true rfl) (Nat.le_of_ble_eq_true rfl) ?_
  subst hAe
  exact W.vret hx hb hr (fun t ht hW => zc_end hS hH ht (⟨rfl, rfl, rfl, rfl, rfl, rfl⟩)) hS.2.2 d_ABC_init_4

set_option maxHeartbeats 4000000 in
set_option maxRecDepth 100000 in
/-- AbstractList() -/
theorem c_ABL_init {l : Launch} {D : va_G} {cA : Nat → ClassId} {te mi : Nat} {kd ln : Nat → Nat} {I : Nat → Nat → Int32} {L : Nat → Nat → Int64} {R : Nat → Nat → Option Nat} {al : Nat} (h0 : kd al = 6) : zc_M l y_ABL_init w_ABL_init { frames := 2, cells := 0, slots := 0, locals := 32 } 0 0 D cA te mi ([.ref al] : List Value) kd ln I L R (zc_eq none kd ln (zu I al 2 (nI 0)) L R) := by
  intro sz
  refine va_MetF (cc := b_ABL_init) (maxL := 1) (ret := none) (by decide +kernel) rfl ?_
  intro p e s m args below meth c s₁ B hml hv
  obtain ⟨rfl, hsz, hSc, hE, hH⟩ := hv
  have hx := B.exec
  have hb := B.bytes
  have hr := B.returns
  have hts := atoms_spec (ws := w_ABL_init) B.pre
  have hw : ∀ {w : Cond}, w ∈ zw → w.before ([.ref al] : List Value).toArray s = true := fun h => hts _ (List.mem_cons_of_mem _ h)
  have hown : s.vm.findClass R_ABL = some m.cls := findClass_of_methodNamed B.named
  have hlocks := B.notSynchronized
  subst hsz
  have hK := hSc.1
  have hH : zh_H D cA (zc_A kd s.heap.size) kd ln I L R s.heap := hH.weaken (fun q h _ => Or.inl h)
  generalize hAe : zc_A kd s.heap.size = A at hH hE ⊢
  have hA : ∀ q : Nat, s.heap.size ≤ q → A q := fun q h => by rw [← hAe]; exact Or.inr h
  have hS : va_S A s.heap s.heap [] := va_S.rf
  have hl := lv_entry ([.ref al] : List Value) (n := 1) (Nat.le_of_ble_eq_true rfl)
  rw [lg_entry_eq]
  generalize (lg_sl ([.ref al] : List Value) ++ List.replicate (1 - (lg_sl ([.ref al] : List Value)).length) Slot.unset).toArray = ls at hl ⊢
  have hl : lv_has ls 1 [(0, .ref al)] := hl
  have hin : meth.name = "<init>" := (name_of_methodNamed B.named B.method).1
  refine lv_aload_n hx hb d_ABL_init_0 rfl (lv_at hl 0 rfl) ?_
  refine zr_In (As := ([] : List Value)) (rest := []) (b := al) ⟨hx, hb, hml, hown, hts⟩ c_ABC_init ⟨(callB_of 0 hts (zg_all zw_107) rfl rfl rfl (hw zw_5) (hw zw_105) k_ABC_init.2 ⟨Nat.le_of_ble_eq_true rfl, Nat.le_of_ble_eq_true rfl⟩), rfl, (hw zw_106)⟩ hSc hE hH hS hA rfl hl.1 rfl (Nat.le_of_ble_eq_true rfl) d_ABL_init_1 ⟨Nat.le_of_ble_eq_true rfl, Nat.le_of_ble_eq_true rfl⟩ (fun v1 kd1 ln1 I1 L1 R1 H locs hp hH hS => ?_)
  obtain ⟨rfl, rfl, rfl, rfl, rfl, rfl⟩ := hp
  refine W.eq (g2 := F0 m 4 ls []) rfl ?_
  refine W.widen (k := 0) (n := 0) (by omega) (by omega) ?_
  refine lv_aload_n hx hb d_ABL_init_4 rfl (lv_at hl 0 rfl) ?_
  refine lv_iconst (v := nI 0) hx hb d_ABL_init_5 (by decide) ?_
  refine zr_puti (ref := "java/util/AbstractList") (ci := 5) (C := R_AL) (T := T_AL) (N := 3) (x := nI 0) (ty := .int) hx hb hts (fun w h => List.mem_cons_of_mem _ (zin_AL w h)) ty_AL tyok_AL nm_AL hown hK hH hS h0 (by decide) rfl 2 (by decide) rfl (hw zw_113) (fun _ h9 => h9) rfl (by decide +kernel) rfl rfl d_ABL_init_6 (fun H locs hH hS => ?_)
  refine W.widen (k := 0) (n := 0) (Nat.le_of_ble_eq_true rfl) (Nat.le_of_ble_eq_true rfl) ?_
  subst hAe
  exact W.vret hx hb hr (fun t ht hW => zc_end hS hH ht (⟨rfl, rfl, rfl, rfl, rfl, rfl⟩)) hS.2.2 d_ABL_init_9

set_option maxHeartbeats 4000000 in
set_option maxRecDepth 100000 in
/-- ArrayList() -/
theorem c_AL_init {l : Launch} {D : va_G} {cA : Nat → ClassId} {te mi : Nat} {kd ln : Nat → Nat} {I : Nat → Nat → Int32} {L : Nat → Nat → Int64} {R : Nat → Nat → Option Nat} {al : Nat} (h0 : kd al = 6) : zc_M l y_AL_init w_AL_init { frames := 3, cells := 0, slots := 0, locals := 52 } 0 0 D cA te mi ([.ref al] : List Value) kd ln I L R (zc_eq none kd ln (zu I al 2 (nI 0)) L (zu R al 0 (some te))) := by
  intro sz
  refine Met.ofW (cc := b_AL_init) (maxL := 1) (ret := none) (by decide +kernel) rfl ?_
  intro p e s m args below meth c s₁ B hml hv
  obtain ⟨rfl, hsz, hSc, hE, hH⟩ := hv
  have hx := B.exec
  have hb := B.bytes
  have hr := B.returns
  have hts := atoms_spec (ws := w_AL_init) B.pre
  have hw : ∀ {w : Cond}, w ∈ zw → w.before ([.ref al] : List Value).toArray s = true := fun h => hts _ (List.mem_cons_of_mem _ h)
  have hown : s.vm.findClass R_AL = some m.cls := findClass_of_methodNamed B.named
  have hlocks := B.notSynchronized
  subst hsz
  have hK := hSc.1
  have hH : zh_H D cA (zc_A kd s.heap.size) kd ln I L R s.heap := hH.weaken (fun q h _ => Or.inl h)
  generalize hAe : zc_A kd s.heap.size = A at hH hE ⊢
  have hA : ∀ q : Nat, s.heap.size ≤ q → A q := fun q h => by rw [← hAe]; exact Or.inr h
  have hS : va_S A s.heap s.heap [] := va_S.rf
  have hl := lv_entry ([.ref al] : List Value) (n := 1) (Nat.le_of_ble_eq_true rfl)
  rw [lg_entry_eq]
  generalize (lg_sl ([.ref al] : List Value) ++ List.replicate (1 - (lg_sl ([.ref al] : List Value)).length) Slot.unset).toArray = ls at hl ⊢
  have hl : lv_has ls 1 [(0, .ref al)] := hl
  have hin : meth.name = "<init>" := (name_of_methodNamed B.named B.method).1
  refine lv_aload_n hx hb d_AL_init_0 rfl (lv_at hl 0 rfl) ?_
  refine zr_In (As := ([] : List Value)) (rest := []) (b := al) ⟨hx, hb, hml, hown, hts⟩ (c_ABL_init h0) ⟨(callB_of 0 hts (zg_all zw_104) rfl rfl rfl (hw zw_6) (hw zw_102) k_ABL_init.2 ⟨Nat.le_of_ble_eq_true rfl, Nat.le_of_ble_eq_true rfl⟩), rfl, (hw zw_103)⟩ hSc hE hH hS hA rfl hl.1 rfl (Nat.le_of_ble_eq_true rfl) d_AL_init_1 ⟨Nat.le_of_ble_eq_true rfl, Nat.le_of_ble_eq_true rfl⟩ (fun v1 kd1 ln1 I1 L1 R1 H locs hp hH hS => ?_)
  obtain ⟨rfl, rfl, rfl, rfl, rfl, rfl⟩ := hp
  refine W.eq (g2 := F0 m 4 ls []) rfl ?_
  refine W.widen (k := 0) (n := 0) (by omega) (by omega) ?_
  refine lv_aload_n hx hb d_AL_init_4 rfl (lv_at hl 0 rfl) ?_
  refine va_gets hx hb hE.1 hS hown (hw zw_109) (fun _ h => h) d_AL_init_5 ?_
  refine zr_putq (ref := "java/util/ArrayList") (ci := 5) (C := R_AL) (T := T_AL) (N := 3) (x := some te) (ty := .array (.object "java/lang/Object")) hx hb hts (fun w h => List.mem_cons_of_mem _ (zin_AL w h)) ty_AL tyok_AL nm_AL hown hK hH hS h0 (by decide) rfl 0 (by decide) rfl (hw zw_111) (fun _ h9 => h9) rfl (by decide +kernel) rfl rfl d_AL_init_8 (fun H locs hH hS => ?_)
  refine W.widen (k := 0) (n := 0) (Nat.le_of_ble_eq_true rfl) (Nat.le_of_ble_eq_true rfl) ?_
  subst hAe
  exact W.vret hx hb hr (fun t ht hW => zc_end hS hH ht (⟨rfl, rfl, rfl, rfl, rfl, rfl⟩)) hS.2.2 d_AL_init_11
