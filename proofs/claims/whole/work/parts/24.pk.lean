/-- the byte of a number's four -/
def zk_b4 (x : Int32) (i : Nat) : Int32 := (x.toUInt32 >>> ((nI (8 * (3 - i))).toUInt32 &&& Int32.toUInt32 31)).toInt32 &&& (nI 255)
def zk_ask (v : Int64) : Int32 := if lg_cmp v 0 = nI 0 then nI 0 else nI 1
def zk_bt (f : Nat → Int32) (n : Nat) (x : Int32) : Int32 := if x < nI 0 then (-1) else if x < nI n then (f x.toNatClampNeg) &&& (nI 255) else (-1)
def zk_bf (f : Nat → Int32) (n : Nat) (s t x : Int32) : Int32 := if x < nI 0 then (-1) else if x = nI 0 then s else if x < nI 5 then zk_b4 t (x.toNatClampNeg - 1) else zk_bt f n (x - nI 5)
/-- what a packet tells -/
def zk_t5 (a t : Int32) (n : Nat) : Nat → Int32 := va_up (zo_seg (va_up (fun _ => 0) 0 a.toInt8.toInt32) 1 4 (fun i => (zk_b4 t i).toInt8.toInt32)) 5 (nI n).toInt8.toInt32
def zk_te (b : Nat → Int32) (a t : Int32) (n : Nat) : Nat → Int32 := va_cpy b (zk_t5 a t n) 0 6 n
/-- a new packet's own ints -/
def zk_pi (k x t : Int32) : Nat → Int32 := va_up (va_up (va_up (va_up (fun _ => 0) 4 (-1)) 0 k) 2 x) 3 t
def zk_hi (f q : Nat → Int32) : Int32 := if q 5 = nI 0 then (if q 3 < f 0 then nI 0 else if f 1 < q 3 then nI 0 else nI 1) else nI 0
def zk_gb (f q : Nat → Int32) (u v : Int64) : Int32 := if f 2 = q 2 then (if lg_cmp u v < nI 0 then nI 1 else nI 0) else (if f 2 < q 2 then nI 1 else nI 0)
theorem zk_t8 (x : Int32) : vp_nar .byte x.toInt8.toInt32 = x.toInt8.toInt32 := by
  show (x.toInt8.toInt32).toInt8.toInt32 = x.toInt8.toInt32
  rw [Int8.toInt8_toInt32]

set_option maxHeartbeats 4000000 in
set_option maxRecDepth 100000 in
/-- byteOfFour -/
theorem c_Rec_byteOfFour {l : Launch} {D : va_G} {cA : Nat → ClassId} {te mi : Nat} {kd ln : Nat → Nat} {I : Nat → Nat → Int32} {L : Nat → Nat → Int64} {R : Nat → Nat → Option Nat} {x : Int32} {i : Nat} (hi : i < 4) : zc_M l y_Rec_byteOfFour w_Rec_byteOfFour { frames := 0, cells := 0, slots := 0, locals := 0 } 0 0 D cA te mi ([.int x, .int (nI i)] : List Value) kd ln I L R (zc_eq (some (.int (zk_b4 x i))) kd ln I L R) := by
  intro sz
  refine Met.ofW (cc := b_Rec_byteOfFour) (maxL := 2) (ret := (some (.int))) (by decide +kernel) rfl ?_
  intro p e s m args below meth c s₁ B hml hv
  obtain ⟨rfl, hsz, hSc, hE, hH⟩ := hv
  have hx := B.exec
  have hb := B.bytes
  have hr := B.returns
  have hts := atoms_spec (ws := w_Rec_byteOfFour) B.pre
  have hw : ∀ {w : Cond}, w ∈ zw → w.before ([.int x, .int (nI i)] : List Value).toArray s = true := fun h => hts _ (List.mem_cons_of_mem _ h)
  have hown : s.vm.findClass R_Rec = some m.cls := findClass_of_methodNamed B.named
  have hlocks := B.notSynchronized
  subst hsz
  have hK := hSc.1
  have hH : zh_H D cA (zc_A kd s.heap.size) kd ln I L R s.heap := hH.weaken (fun q h _ => Or.inl h)
  generalize hAe : zc_A kd s.heap.size = A at hH hE ⊢
  have hA : ∀ q : Nat, s.heap.size ≤ q → A q := fun q h => by rw [← hAe]; exact Or.inr h
  have hS : va_S A s.heap s.heap [] := va_S.rf
  have hl := lv_entry ([.int x, .int (nI i)] : List Value) (n := 2) (Nat.le_of_ble_eq_true rfl)
  rw [lg_entry_eq]
  generalize (lg_sl ([.int x, .int (nI i)] : List Value) ++ List.replicate (2 - (lg_sl ([.int x, .int (nI i)] : List Value)).length) Slot.unset).toArray = ls at hl ⊢
  have hl : lv_has ls 2 [(0, .int x), (1, .int (nI i))] := hl
  refine lv_iload_n hx hb d_Rec_byteOfFour_0 rfl (lv_at hl 0 rfl) ?_
  refine lv_bipush (v := nI 8) hx hb d_Rec_byteOfFour_1 (by decide) ?_
  refine lv_iconst (v := nI 3) hx hb d_Rec_byteOfFour_3 (by decide) ?_
  refine lv_iload_n hx hb d_Rec_byteOfFour_4 rfl (lv_at hl 1 rfl) ?_
  refine lv_isub hx hb d_Rec_byteOfFour_5 ?_
  refine zt_i (y := nI (3 - i)) (pk_sub (by omega)) ?_
  refine lv_imul hx hb d_Rec_byteOfFour_6 ?_
  refine zt_i (y := nI (8 * (3 - i))) (pk_mul 8 (3 - i)) ?_
  refine lv_iushr (v := (x.toUInt32 >>> ((nI (8 * (3 - i))).toUInt32 &&& Int32.toUInt32 31)).toInt32) hx hb d_Rec_byteOfFour_7 rfl ?_
  refine lv_sipush (v := nI 255) hx hb d_Rec_byteOfFour_8 (by decide) ?_
  refine lv_iand hx hb d_Rec_byteOfFour_11 ?_
  refine W.widen (k := 0) (n := 0) (Nat.le_of_ble_eq_true rfl) (Nat.le_of_ble_eq_true rfl) ?_
  subst hAe
  exact W.iret (v := ((x.toUInt32 >>> ((nI (8 * (3 - i))).toUInt32 &&& Int32.toUInt32 31)).toInt32) &&& (nI 255)) hx hb hr (fun t ht hW => zc_end hS hH ht (⟨rfl, rfl, rfl, rfl, rfl, rfl⟩)) hS.2.2 d_Rec_byteOfFour_12

set_option maxHeartbeats 4000000 in
set_option maxRecDepth 100000 in
/-- Packet.wordsFor -/
theorem c_Pk_wordsFor {l : Launch} {D : va_G} {cA : Nat → ClassId} {te mi : Nat} {kd ln : Nat → Nat} {I : Nat → Nat → Int32} {L : Nat → Nat → Int64} {R : Nat → Nat → Option Nat} {n : Nat} (hn : n ≤ 60) : zc_M l y_Pk_wordsFor w_Pk_wordsFor { frames := 0, cells := 0, slots := 0, locals := 0 } 0 0 D cA te mi ([.int (nI n)] : List Value) kd ln I L R (zc_eq (some (.int (nI (2 + (n + 3) / 4)))) kd ln I L R) := by
  intro sz
  refine Met.ofW (cc := b_Pk_wordsFor) (maxL := 1) (ret := (some (.int))) (by decide +kernel) rfl ?_
  intro p e s m args below meth c s₁ B hml hv
  obtain ⟨rfl, hsz, hSc, hE, hH⟩ := hv
  have hx := B.exec
  have hb := B.bytes
  have hr := B.returns
  have hts := atoms_spec (ws := w_Pk_wordsFor) B.pre
  have hw : ∀ {w : Cond}, w ∈ zw → w.before ([.int (nI n)] : List Value).toArray s = true := fun h => hts _ (List.mem_cons_of_mem _ h)
  have hown : s.vm.findClass R_Pk = some m.cls := findClass_of_methodNamed B.named
  have hlocks := B.notSynchronized
  subst hsz
  have hK := hSc.1
  have hH : zh_H D cA (zc_A kd s.heap.size) kd ln I L R s.heap := hH.weaken (fun q h _ => Or.inl h)
  generalize hAe : zc_A kd s.heap.size = A at hH hE ⊢
  have hA : ∀ q : Nat, s.heap.size ≤ q → A q := fun q h => by rw [← hAe]; exact Or.inr h
  have hS : va_S A s.heap s.heap [] := va_S.rf
  have hl := lv_entry ([.int (nI n)] : List Value) (n := 1) (Nat.le_of_ble_eq_true rfl)
  rw [lg_entry_eq]
  generalize (lg_sl ([.int (nI n)] : List Value) ++ List.replicate (1 - (lg_sl ([.int (nI n)] : List Value)).length) Slot.unset).toArray = ls at hl ⊢
  have hl : lv_has ls 1 [(0, .int (nI n))] := hl
  refine lv_iconst (v := nI 2) hx hb d_Pk_wordsFor_0 (by decide) ?_
  refine lv_iload_n hx hb d_Pk_wordsFor_1 rfl (lv_at hl 0 rfl) ?_
  refine lv_iconst (v := nI 4) hx hb d_Pk_wordsFor_2 (by decide) ?_
  refine lv_iadd hx hb d_Pk_wordsFor_3 ?_
  refine zt_i (y := nI (n + 4)) (nI_add n 4) ?_
  refine lv_iconst (v := nI 1) hx hb d_Pk_wordsFor_4 (by decide) ?_
  refine lv_isub hx hb d_Pk_wordsFor_5 ?_
  refine zt_i (y := nI (n + 4 - 1)) (pk_sub (by omega)) ?_
  refine lv_iconst (v := nI 4) hx hb d_Pk_wordsFor_6 (by decide) ?_
  refine lv_idiv hx hb d_Pk_wordsFor_7 (zt_ne0 (by omega) (by omega)) ?_
  refine zt_i (y := nI ((n + 4 - 1) / 4)) (pk_div (by omega) (by omega) (by omega)) ?_
  refine lv_iadd hx hb d_Pk_wordsFor_8 ?_
  refine zt_i (y := nI (2 + ((n + 4 - 1) / 4))) (nI_add 2 ((n + 4 - 1) / 4)) ?_
  refine W.widen (k := 0) (n := 0) (Nat.le_of_ble_eq_true rfl) (Nat.le_of_ble_eq_true rfl) ?_
  subst hAe
  exact W.iret (v := nI (2 + ((n + 4 - 1) / 4))) hx hb hr (fun t ht hW => zc_end hS hH ht (⟨by rw [show n + 4 - 1 = n + 3 by omega], rfl, rfl, rfl, rfl, rfl⟩)) hS.2.2 d_Pk_wordsFor_9

set_option maxHeartbeats 4000000 in
set_option maxRecDepth 100000 in
/-- Packet.isAskedFor -/
theorem c_Pk_isAskedFor {l : Launch} {D : va_G} {cA : Nat → ClassId} {te mi : Nat} {kd ln : Nat → Nat} {I : Nat → Nat → Int32} {L : Nat → Nat → Int64} {R : Nat → Nat → Option Nat} {P : Nat} (h0 : kd P = 4) : zc_M l y_Pk_isAskedFor w_Pk_isAskedFor { frames := 0, cells := 0, slots := 0, locals := 0 } 0 0 D cA te mi ([.ref P] : List Value) kd ln I L R (zc_eq (some (.int (zk_ask (L P 7)))) kd ln I L R) := by
  intro sz
  refine Met.ofW (cc := b_Pk_isAskedFor) (maxL := 1) (ret := (some (.boolean))) (by decide +kernel) rfl ?_
  intro p e s m args below meth c s₁ B hml hv
  obtain ⟨rfl, hsz, hSc, hE, hH⟩ := hv
  have hx := B.exec
  have hb := B.bytes
  have hr := B.returns
  have hts := atoms_spec (ws := w_Pk_isAskedFor) B.pre
  have hw : ∀ {w : Cond}, w ∈ zw → w.before ([.ref P] : List Value).toArray s = true := fun h => hts _ (List.mem_cons_of_mem _ h)
  have hown : s.vm.findClass R_Pk = some m.cls := findClass_of_methodNamed B.named
  have hlocks := B.notSynchronized
  subst hsz
  have hK := hSc.1
  have hH : zh_H D cA (zc_A kd s.heap.size) kd ln I L R s.heap := hH.weaken (fun q h _ => Or.inl h)
  generalize hAe : zc_A kd s.heap.size = A at hH hE ⊢
  have hA : ∀ q : Nat, s.heap.size ≤ q → A q := fun q h => by rw [← hAe]; exact Or.inr h
  have hS : va_S A s.heap s.heap [] := va_S.rf
  have hl := lv_entry ([.ref P] : List Value) (n := 1) (Nat.le_of_ble_eq_true rfl)
  rw [lg_entry_eq]
  generalize (lg_sl ([.ref P] : List Value) ++ List.replicate (1 - (lg_sl ([.ref P] : List Value)).length) Slot.unset).toArray = ls at hl ⊢
  have hl : lv_has ls 1 [(0, .ref P)] := hl
  refine lv_aload_n hx hb d_Pk_isAskedFor_0 rfl (lv_at hl 0 rfl) ?_
  refine zr_getl (ci := 3) (C := R_Pk) (T := T_Pk) (N := 8) (ref := "ScrubbedRecorder$Packet") hx hb hts (fun w h => List.mem_cons_of_mem _ (zin_Pk w h)) hown hK hH h0 (by decide) rfl 7 (by decide) rfl (hw zw_277) (fun _ h9 => h9) d_Pk_isAskedFor_1 ?_
  refine lv_lconst (v := 0) hx hb d_Pk_isAskedFor_4 (by decide) ?_
  refine W.lcmp hx hb d_Pk_isAskedFor_5 ?_
  refine lv_if_eq (tgt := 13) hx hb d_Pk_isAskedFor_6 (by decide) (fun hc1 => ?_) (fun hc1 => ?_)
  · skip
    have hc1 : (lg_cmp (L P 7) 0) = (nI 0) := hc1
    refine lv_iconst (v := nI 0) hx hb d_Pk_isAskedFor_13 (by decide) ?_
    refine W.widen (k := 0) (n := 0) (Nat.le_of_ble_eq_true rfl) (Nat.le_of_ble_eq_true rfl) ?_
    subst hAe
    exact W.zret (v := nI 0) hx hb hr (by decide +kernel) (fun t ht hW => zc_end hS hH ht (⟨by rw [zk_ask, if_pos hc1], rfl, rfl, rfl, rfl, rfl⟩)) hS.2.2 d_Pk_isAskedFor_14
  · skip
    have hc1 : ¬ (lg_cmp (L P 7) 0) = (nI 0) := hc1
    refine lv_iconst (v := nI 1) hx hb d_Pk_isAskedFor_9 (by decide) ?_
    refine lv_goto (tgt := 14) hx hb d_Pk_isAskedFor_10 (by decide) ?_
    refine W.widen (k := 0) (n := 0) (Nat.le_of_ble_eq_true rfl) (Nat.le_of_ble_eq_true rfl) ?_
    subst hAe
    exact W.zret (v := nI 1) hx hb hr (by decide +kernel) (fun t ht hW => zc_end hS hH ht (⟨by rw [zk_ask, if_neg hc1], rfl, rfl, rfl, rfl, rfl⟩)) hS.2.2 d_Pk_isAskedFor_14

set_option maxHeartbeats 4000000 in
set_option maxRecDepth 100000 in
/-- Packet.frameLength -/
theorem c_Pk_frameLength {l : Launch} {D : va_G} {cA : Nat → ClassId} {te mi : Nat} {kd ln : Nat → Nat} {I : Nat → Nat → Int32} {L : Nat → Nat → Int64} {R : Nat → Nat → Option Nat} {P T n : Nat} (h0 : kd P = 4) (h1 : R P 1 = some T) (h2 : kd T = 102) (h3 : ln T = n) (h4 : n ≤ 66) : zc_M l y_Pk_frameLength w_Pk_frameLength { frames := 0, cells := 0, slots := 0, locals := 0 } 0 0 D cA te mi ([.ref P] : List Value) kd ln I L R (zc_eq (some (.int (nI (5 + n)))) kd ln I L R) := by
  intro sz
  refine Met.ofW (cc := b_Pk_frameLength) (maxL := 1) (ret := (some (.int))) (by decide +kernel) rfl ?_
  intro p e s m args below meth c s₁ B hml hv
  obtain ⟨rfl, hsz, hSc, hE, hH⟩ := hv
  have hx := B.exec
  have hb := B.bytes
  have hr := B.returns
  have hts := atoms_spec (ws := w_Pk_frameLength) B.pre
  have hw : ∀ {w : Cond}, w ∈ zw → w.before ([.ref P] : List Value).toArray s = true := fun h => hts _ (List.mem_cons_of_mem _ h)
  have hown : s.vm.findClass R_Pk = some m.cls := findClass_of_methodNamed B.named
  have hlocks := B.notSynchronized
  subst hsz
  have hK := hSc.1
  have hH : zh_H D cA (zc_A kd s.heap.size) kd ln I L R s.heap := hH.weaken (fun q h _ => Or.inl h)
  generalize hAe : zc_A kd s.heap.size = A at hH hE ⊢
  have hA : ∀ q : Nat, s.heap.size ≤ q → A q := fun q h => by rw [← hAe]; exact Or.inr h
  have hS : va_S A s.heap s.heap [] := va_S.rf
  have hl := lv_entry ([.ref P] : List Value) (n := 1) (Nat.le_of_ble_eq_true rfl)
  rw [lg_entry_eq]
  generalize (lg_sl ([.ref P] : List Value) ++ List.replicate (1 - (lg_sl ([.ref P] : List Value)).length) Slot.unset).toArray = ls at hl ⊢
  have hl : lv_has ls 1 [(0, .ref P)] := hl
  refine lv_iconst (v := nI 5) hx hb d_Pk_frameLength_0 (by decide) ?_
  refine lv_aload_n hx hb d_Pk_frameLength_1 rfl (lv_at hl 0 rfl) ?_
  refine zr_getr (ci := 3) (C := R_Pk) (T := T_Pk) (N := 8) (ref := "ScrubbedRecorder$Packet") hx hb hts (fun w h => List.mem_cons_of_mem _ (zin_Pk w h)) hown hK hH h0 (by decide) rfl 1 (by decide) rfl (hw zw_263) (fun _ h9 => h9) d_Pk_frameLength_2 (by rw [h1]) ?_
  refine zr_alen (t := 2) hx hb (by decide) hK hH h2 d_Pk_frameLength_5 ?_
  refine zt_i (y := nI n) (by rw [h3]) ?_
  refine lv_iadd hx hb d_Pk_frameLength_6 ?_
  refine zt_i (y := nI (5 + n)) (nI_add 5 n) ?_
  refine W.widen (k := 0) (n := 0) (Nat.le_of_ble_eq_true rfl) (Nat.le_of_ble_eq_true rfl) ?_
  subst hAe
  exact W.iret (v := nI (5 + n)) hx hb hr (fun t ht hW => zc_end hS hH ht (⟨rfl, rfl, rfl, rfl, rfl, rfl⟩)) hS.2.2 d_Pk_frameLength_7

set_option maxHeartbeats 4000000 in
set_option maxRecDepth 100000 in
/-- Packet.byteThatTells -/
theorem c_Pk_byteThatTells {l : Launch} {D : va_G} {cA : Nat → ClassId} {te mi : Nat} {kd ln : Nat → Nat} {I : Nat → Nat → Int32} {L : Nat → Nat → Int64} {R : Nat → Nat → Option Nat} {P T n : Nat} (h0 : kd P = 4) (h1 : R P 1 = some T) (h2 : kd T = 102) (h3 : ln T = n) (h4 : n ≤ 66) {x : Int32} : zc_M l y_Pk_byteThatTells w_Pk_byteThatTells { frames := 0, cells := 0, slots := 0, locals := 0 } 0 0 D cA te mi ([.ref P, .int x] : List Value) kd ln I L R (zc_eq (some (.int (zk_bt (I T) n x))) kd ln I L R) := by
  intro sz
  refine Met.ofW (cc := b_Pk_byteThatTells) (maxL := 2) (ret := (some (.int))) (by decide +kernel) rfl ?_
  intro p e s m args below meth c s₁ B hml hv
  obtain ⟨rfl, hsz, hSc, hE, hH⟩ := hv
  have hx := B.exec
  have hb := B.bytes
  have hr := B.returns
  have hts := atoms_spec (ws := w_Pk_byteThatTells) B.pre
  have hw : ∀ {w : Cond}, w ∈ zw → w.before ([.ref P, .int x] : List Value).toArray s = true := fun h => hts _ (List.mem_cons_of_mem _ h)
  have hown : s.vm.findClass R_Pk = some m.cls := findClass_of_methodNamed B.named
  have hlocks := B.notSynchronized
  subst hsz
  have hK := hSc.1
  have hH : zh_H D cA (zc_A kd s.heap.size) kd ln I L R s.heap := hH.weaken (fun q h _ => Or.inl h)
  generalize hAe : zc_A kd s.heap.size = A at hH hE ⊢
  have hA : ∀ q : Nat, s.heap.size ≤ q → A q := fun q h => by rw [← hAe]; exact Or.inr h
  have hS : va_S A s.heap s.heap [] := va_S.rf
  have hl := lv_entry ([.ref P, .int x] : List Value) (n := 2) (Nat.le_of_ble_eq_true rfl)
  rw [lg_entry_eq]
  generalize (lg_sl ([.ref P, .int x] : List Value) ++ List.replicate (2 - (lg_sl ([.ref P, .int x] : List Value)).length) Slot.unset).toArray = ls at hl ⊢
  have hl : lv_has ls 2 [(0, .ref P), (1, .int x)] := hl
  refine lv_iload_n hx hb d_Pk_byteThatTells_0 rfl (lv_at hl 1 rfl) ?_
  refine lv_if_lt (tgt := 13) hx hb d_Pk_byteThatTells_1 (by decide) (fun hc1 => ?_) (fun hc1 => ?_)
  · skip
    have hc1 : x < (nI 0) := hc1
    refine lv_iconst (v := (-1)) hx hb d_Pk_byteThatTells_13 (by decide) ?_
    refine lv_goto (tgt := 27) hx hb d_Pk_byteThatTells_14 (by decide) ?_
    refine W.widen (k := 0) (n := 0) (Nat.le_of_ble_eq_true rfl) (Nat.le_of_ble_eq_true rfl) ?_
    subst hAe
    exact W.iret (v := (-1)) hx hb hr (fun t ht hW => zc_end hS hH ht (⟨by rw [zk_bt, if_pos hc1], rfl, rfl, rfl, rfl, rfl⟩)) hS.2.2 d_Pk_byteThatTells_27
  · skip
    have hc1 : ¬ x < (nI 0) := hc1
    refine lv_iload_n hx hb d_Pk_byteThatTells_4 rfl (lv_at hl 1 rfl) ?_
    refine lv_aload_n hx hb d_Pk_byteThatTells_5 rfl (lv_at hl 0 rfl) ?_
    refine zr_getr (ci := 3) (C := R_Pk) (T := T_Pk) (N := 8) (ref := "ScrubbedRecorder$Packet") hx hb hts (fun w h => List.mem_cons_of_mem _ (zin_Pk w h)) hown hK hH h0 (by decide) rfl 1 (by decide) rfl (hw zw_263) (fun _ h9 => h9) d_Pk_byteThatTells_6 (by rw [h1]) ?_
    refine zr_alen (t := 2) hx hb (by decide) hK hH h2 d_Pk_byteThatTells_9 ?_
    refine zt_i (y := nI n) (by rw [h3]) ?_
    refine lv_icmp_lt (tgt := 17) hx hb d_Pk_byteThatTells_10 (by decide) (fun hc2 => ?_) (fun hc2 => ?_)
    · skip
      have hc2 : x < (nI n) := hc2
      obtain ⟨j1, hj1, rfl⟩ := zt_ix hc1 hc2 (by omega)
      refine lv_aload_n hx hb d_Pk_byteThatTells_17 rfl (lv_at hl 0 rfl) ?_
      refine zr_getr (ci := 3) (C := R_Pk) (T := T_Pk) (N := 8) (ref := "ScrubbedRecorder$Packet") hx hb hts (fun w h => List.mem_cons_of_mem _ (zin_Pk w h)) hown hK hH h0 (by decide) rfl 1 (by decide) rfl (hw zw_263) (fun _ h9 => h9) d_Pk_byteThatTells_18 (by rw [h1]) ?_
      refine lv_iload_n hx hb d_Pk_byteThatTells_21 rfl (lv_at hl 1 rfl) ?_
      refine zr_aldb (j := j1) hx hb hK hH h2 (by rw [h3]; exact zh_ix_n (by omega) (by omega)) d_Pk_byteThatTells_22 ?_
      refine lv_sipush (v := nI 255) hx hb d_Pk_byteThatTells_23 (by decide) ?_
      refine lv_iand hx hb d_Pk_byteThatTells_26 ?_
      refine W.widen (k := 0) (n := 0) (Nat.le_of_ble_eq_true rfl) (Nat.le_of_ble_eq_true rfl) ?_
      subst hAe
      exact W.iret (v := (I T j1) &&& (nI 255)) hx hb hr (fun t ht hW => zc_end hS hH ht (⟨by rw [zk_bt, if_neg hc1, if_pos hc2, nI_clamp (by omega)], rfl, rfl, rfl, rfl, rfl⟩)) hS.2.2 d_Pk_byteThatTells_27
    · skip
      have hc2 : ¬ x < (nI n) := hc2
      refine lv_iconst (v := (-1)) hx hb d_Pk_byteThatTells_13 (by decide) ?_
      refine lv_goto (tgt := 27) hx hb d_Pk_byteThatTells_14 (by decide) ?_
      refine W.widen (k := 0) (n := 0) (Nat.le_of_ble_eq_true rfl) (Nat.le_of_ble_eq_true rfl) ?_
      subst hAe
      exact W.iret (v := (-1)) hx hb hr (fun t ht hW => zc_end hS hH ht (⟨by rw [zk_bt, if_neg hc1, if_neg hc2], rfl, rfl, rfl, rfl, rfl⟩)) hS.2.2 d_Pk_byteThatTells_27

set_option maxHeartbeats 4000000 in
set_option maxRecDepth 100000 in
/-- Packet.byteOfFrame -/
theorem c_Pk_byteOfFrame {l : Launch} {D : va_G} {cA : Nat → ClassId} {te mi : Nat} {kd ln : Nat → Nat} {I : Nat → Nat → Int32} {L : Nat → Nat → Int64} {R : Nat → Nat → Option Nat} {P T n : Nat} (h0 : kd P = 4) (h1 : R P 1 = some T) (h2 : kd T = 102) (h3 : ln T = n) (h4 : n ≤ 66) {x : Int32} : zc_M l y_Pk_byteOfFrame w_Pk_byteOfFrame { frames := 1, cells := 0, slots := 0, locals := 21 } 0 0 D cA te mi ([.ref P, .int x] : List Value) kd ln I L R (zc_eq (some (.int (zk_bf (I T) n (I P 0) (I P 2) x))) kd ln I L R) := by
  intro sz
  refine Met.ofW (cc := b_Pk_byteOfFrame) (maxL := 2) (ret := (some (.int))) (by decide +kernel) rfl ?_
  intro p e s m args below meth c s₁ B hml hv
  obtain ⟨rfl, hsz, hSc, hE, hH⟩ := hv
  have hx := B.exec
  have hb := B.bytes
  have hr := B.returns
  have hts := atoms_spec (ws := w_Pk_byteOfFrame) B.pre
  have hw : ∀ {w : Cond}, w ∈ zw → w.before ([.ref P, .int x] : List Value).toArray s = true := fun h => hts _ (List.mem_cons_of_mem _ h)
  have hown : s.vm.findClass R_Pk = some m.cls := findClass_of_methodNamed B.named
  have hlocks := B.notSynchronized
  subst hsz
  have hK := hSc.1
  have hH : zh_H D cA (zc_A kd s.heap.size) kd ln I L R s.heap := hH.weaken (fun q h _ => Or.inl h)
  generalize hAe : zc_A kd s.heap.size = A at hH hE ⊢
  have hA : ∀ q : Nat, s.heap.size ≤ q → A q := fun q h => by rw [← hAe]; exact Or.inr h
  have hS : va_S A s.heap s.heap [] := va_S.rf
  have hl := lv_entry ([.ref P, .int x] : List Value) (n := 2) (Nat.le_of_ble_eq_true rfl)
  rw [lg_entry_eq]
  generalize (lg_sl ([.ref P, .int x] : List Value) ++ List.replicate (2 - (lg_sl ([.ref P, .int x] : List Value)).length) Slot.unset).toArray = ls at hl ⊢
  have hl : lv_has ls 2 [(0, .ref P), (1, .int x)] := hl
  refine lv_iload_n hx hb d_Pk_byteOfFrame_0 rfl (lv_at hl 1 rfl) ?_
  refine lv_if_ge (tgt := 6) hx hb d_Pk_byteOfFrame_1 (by decide) (fun hc1 => ?_) (fun hc1 => ?_)
  · skip
    have hc1 : ¬ x < (nI 0) := Int32.not_lt.mpr hc1
    refine lv_iload_n hx hb d_Pk_byteOfFrame_6 rfl (lv_at hl 1 rfl) ?_
    refine lv_if_ne (tgt := 15) hx hb d_Pk_byteOfFrame_7 (by decide) (fun hc2 => ?_) (fun hc2 => ?_)
    · skip
      have hc2 : ¬ x = (nI 0) := hc2
      refine lv_iload_n hx hb d_Pk_byteOfFrame_15 rfl (lv_at hl 1 rfl) ?_
      refine lv_iconst (v := nI 5) hx hb d_Pk_byteOfFrame_16 (by decide) ?_
      refine lv_icmp_ge (tgt := 31) hx hb d_Pk_byteOfFrame_17 (by decide) (fun hc3 => ?_) (fun hc3 => ?_)
      · skip
        have hc3 : ¬ x < (nI 5) := Int32.not_lt.mpr hc3
        refine lv_aload_n hx hb d_Pk_byteOfFrame_31 rfl (lv_at hl 0 rfl) ?_
        refine lv_iload_n hx hb d_Pk_byteOfFrame_32 rfl (lv_at hl 1 rfl) ?_
        refine lv_iconst (v := nI 5) hx hb d_Pk_byteOfFrame_33 (by decide) ?_
        refine lv_isub hx hb d_Pk_byteOfFrame_34 ?_
        refine zr_V (As := ([.int (x - (nI 5))] : List Value)) (rest := []) (b := P) (ci := 3) (q := (R_Pk, T_Pk, 8)) ⟨hx, hb, hml, hown, hts⟩ (c_Pk_byteThatTells h0 h1 h2 h3 h4) ⟨(callB_of 1 hts (zg_all zw_439) rfl rfl rfl (hw zw_12) (hw zw_436) k_Pk_byteThatTells.2 ⟨Nat.le_of_ble_eq_true rfl, Nat.le_of_ble_eq_true rfl⟩), (hw zw_437), (hw zw_438)⟩ hSc hE hH hS hA rfl (by decide) h0 rfl hl.1 rfl (Nat.le_of_ble_eq_true rfl) d_Pk_byteOfFrame_35 ⟨Nat.le_of_ble_eq_true rfl, Nat.le_of_ble_eq_true rfl⟩ (fun v4 kd4 ln4 I4 L4 R4 H locs hp hH hS => ?_)
        obtain ⟨rfl, rfl, rfl, rfl, rfl, rfl⟩ := hp
        refine W.eq (g2 := F0 m 38 ls [.int (zk_bt (I T) n (x - (nI 5)))]) rfl ?_
        refine W.widen (k := 0) (n := 0) (by omega) (by omega) ?_
        refine W.widen (k := 0) (n := 0) (Nat.le_of_ble_eq_true rfl) (Nat.le_of_ble_eq_true rfl) ?_
        subst hAe
        exact W.iret (v := zk_bt (I T) n (x - (nI 5))) hx hb hr (fun t ht hW => zc_end hS hH ht (⟨by rw [zk_bf, if_neg hc1, if_neg hc2, if_neg hc3], rfl, rfl, rfl, rfl, rfl⟩)) hS.2.2 d_Pk_byteOfFrame_38
      · skip
        have hc3 : x < (nI 5) := Int32.not_le.mp hc3
        obtain ⟨j1, hj1, rfl⟩ := zt_ix hc1 hc3 (by omega)
        have hj0 : 1 ≤ j1 := Nat.pos_of_ne_zero (fun e => hc2 (by rw [e]))
        refine lv_aload_n hx hb d_Pk_byteOfFrame_20 rfl (lv_at hl 0 rfl) ?_
        refine zr_geti (ci := 3) (C := R_Pk) (T := T_Pk) (N := 8) (ref := "ScrubbedRecorder$Packet") hx hb hts (fun w h => List.mem_cons_of_mem _ (zin_Pk w h)) hown hK hH h0 (by decide) rfl 2 (by decide) rfl (hw zw_264) (fun _ h9 => h9) d_Pk_byteOfFrame_21 ?_
        refine lv_iload_n hx hb d_Pk_byteOfFrame_24 rfl (lv_at hl 1 rfl) ?_
        refine lv_iconst (v := nI 1) hx hb d_Pk_byteOfFrame_25 (by decide) ?_
        refine lv_isub hx hb d_Pk_byteOfFrame_26 ?_
        refine zt_i (y := nI (j1 - 1)) (pk_sub (by omega)) ?_
        refine zr_StN (As := ([.int (I P 2), .int (nI (j1 - 1))] : List Value)) (rest := []) ⟨hx, hb, hml, hown, hts⟩ (c_Rec_byteOfFour (by omega)) ⟨(va_cnB 2 hts (zg_all zw_260) rfl rfl rfl (hSc.2.1 (.methodLinkNest R_Pk 32 y_Rec_byteOfFour "ScrubbedRecorder") (by decide +kernel)) (hw zw_1) k_Rec_byteOfFour.2 ⟨Nat.le_of_ble_eq_true rfl, Nat.le_of_ble_eq_true rfl⟩), hw zw_259, trivial⟩ hSc hE hH hS hA rfl hl.1 rfl (Nat.le_of_ble_eq_true rfl) d_Pk_byteOfFrame_27 ⟨Nat.le_of_ble_eq_true rfl, Nat.le_of_ble_eq_true rfl⟩ (fun v5 kd5 ln5 I5 L5 R5 H locs hp hH hS => ?_)
        obtain ⟨rfl, rfl, rfl, rfl, rfl, rfl⟩ := hp
        refine W.eq (g2 := F0 m 30 ls [.int (zk_b4 (I P 2) (j1 - 1))]) rfl ?_
        refine W.widen (k := 0) (n := 0) (by omega) (by omega) ?_
        refine W.widen (k := 0) (n := 0) (Nat.le_of_ble_eq_true rfl) (Nat.le_of_ble_eq_true rfl) ?_
        subst hAe
        exact W.iret (v := zk_b4 (I P 2) (j1 - 1)) hx hb hr (fun t ht hW => zc_end hS hH ht (⟨by rw [zk_bf, if_neg hc1, if_neg hc2, if_pos hc3, nI_clamp (by omega)], rfl, rfl, rfl, rfl, rfl⟩)) hS.2.2 d_Pk_byteOfFrame_30
    · skip
      have hc2 : x = (nI 0) := hc2
      refine lv_aload_n hx hb d_Pk_byteOfFrame_10 rfl (lv_at hl 0 rfl) ?_
      refine zr_geti (ci := 3) (C := R_Pk) (T := T_Pk) (N := 8) (ref := "ScrubbedRecorder$Packet") hx hb hts (fun w h => List.mem_cons_of_mem _ (zin_Pk w h)) hown hK hH h0 (by decide) rfl 0 (by decide) rfl (hw zw_262) (fun _ h9 => h9) d_Pk_byteOfFrame_11 ?_
      refine W.widen (k := 0) (n := 0) (Nat.le_of_ble_eq_true rfl) (Nat.le_of_ble_eq_true rfl) ?_
      subst hAe
      exact W.iret (v := I P 0) hx hb hr (fun t ht hW => zc_end hS hH ht (⟨by rw [zk_bf, if_neg hc1, if_pos hc2], rfl, rfl, rfl, rfl, rfl⟩)) hS.2.2 d_Pk_byteOfFrame_14
  · skip
    have hc1 : x < (nI 0) := Int32.not_le.mp hc1
    refine lv_iconst (v := (-1)) hx hb d_Pk_byteOfFrame_4 (by decide) ?_
    refine W.widen (k := 0) (n := 0) (Nat.le_of_ble_eq_true rfl) (Nat.le_of_ble_eq_true rfl) ?_
    subst hAe
    exact W.iret (v := (-1)) hx hb hr (fun t ht hW => zc_end hS hH ht (⟨by rw [zk_bf, if_pos hc1], rfl, rfl, rfl, rfl, rfl⟩)) hS.2.2 d_Pk_byteOfFrame_5

theorem zu_eq {α : Type} (f : Nat → Nat → α) (a k : Nat) (x : α) : zu f a k x = va_up f a (va_up (f a) k x) := by
  funext b j
  by_cases h : b = a
  · subst h
    rw [zu_at, va_up_self]
  · rw [zu_ne _ _ _ h, va_up_ne _ _ h]
theorem up_up {α : Type} (f : Nat → α) (a : Nat) (x y : α) : va_up (va_up f a x) a y = va_up f a y := by
  funext b
  by_cases h : b = a
  · subst h
    rw [va_up_self, va_up_self]
  · rw [va_up_ne _ _ h, va_up_ne _ _ h, va_up_ne _ _ h]
theorem zu_id2 {L : Nat → Nat → Int64} {P : Nat} (h : L P = fun _ => 0) : zu L P 7 0 = L := by
  have e := zu_id L P 7
  rw [h] at e
  exact e
theorem zk_pi_eq {I : Nat → Nat → Int32} {P : Nat} (x y t : Int32) (h : I P = fun _ => 0) : zu (zu (zu (zu I P 4 (-1)) P 0 x) P 2 y) P 3 t = va_up I P (zk_pi x y t) := by
  unfold zk_pi
  simp only [zu_eq, va_up_self, up_up, h]

set_option maxHeartbeats 4000000 in
set_option maxRecDepth 100000 in
/-- Packet, the constructor -/
theorem c_Pk_init {l : Launch} {D : va_G} {cA : Nat → ClassId} {te mi : Nat} {kd ln : Nat → Nat} {I : Nat → Nat → Int32} {L : Nat → Nat → Int64} {R : Nat → Nat → Option Nat} {P Bf n : Nat} {x y a t : Int32} (h0 : kd P = 4) (h1 : I P = fun _ => 0) (h2 : L P = fun _ => 0) (h3 : kd Bf = 102) (h4 : ln Bf = 60) (hn : n ≤ 60) (hby : ∀ i, fits .byte (.int (I Bf i)) = true) : zc_M l y_Pk_init w_Pk_init { frames := 1, cells := 1, slots := 66, locals := 40 } 1 66 D cA te mi ([.ref P, .int x, .int y, .int a, .int t, .ref Bf, .int (nI n)] : List Value) kd ln I L R (fun v9 kd9 ln9 I9 L9 R9 => none = v9 ∧ ∃ T, kd T = 0 ∧ va_up kd T 102 = kd9 ∧ va_up ln T (6 + n) = ln9 ∧ va_up (va_up I P (zk_pi x y t)) T (zk_te (I Bf) a t n) = I9 ∧ va_up L T (fun _ => 0) = L9 ∧ zu (va_up R T (fun _ => none)) P 1 (some T) = R9) := by
  intro sz
  refine Met.ofW (cc := b_Pk_init) (maxL := 8) (ret := none) (by decide +kernel) rfl ?_
  intro p e s m args below meth c s₁ B hml hv
  obtain ⟨rfl, hsz, hSc, hE, hH⟩ := hv
  have hx := B.exec
  have hb := B.bytes
  have hr := B.returns
  have hts := atoms_spec (ws := w_Pk_init) B.pre
  have hw : ∀ {w : Cond}, w ∈ zw → w.before ([.ref P, .int x, .int y, .int a, .int t, .ref Bf, .int (nI n)] : List Value).toArray s = true := fun h => hts _ (List.mem_cons_of_mem _ h)
  have hown : s.vm.findClass R_Pk = some m.cls := findClass_of_methodNamed B.named
  have hlocks := B.notSynchronized
  subst hsz
  have hK := hSc.1
  have hH : zh_H D cA (zc_A kd s.heap.size) kd ln I L R s.heap := hH.weaken (fun q h _ => Or.inl h)
  generalize hAe : zc_A kd s.heap.size = A at hH hE ⊢
  have hA : ∀ q : Nat, s.heap.size ≤ q → A q := fun q h => by rw [← hAe]; exact Or.inr h
  have hS : va_S A s.heap s.heap [] := va_S.rf
  have hl := lv_entry ([.ref P, .int x, .int y, .int a, .int t, .ref Bf, .int (nI n)] : List Value) (n := 8) (Nat.le_of_ble_eq_true rfl)
  rw [lg_entry_eq]
  generalize (lg_sl ([.ref P, .int x, .int y, .int a, .int t, .ref Bf, .int (nI n)] : List Value) ++ List.replicate (8 - (lg_sl ([.ref P, .int x, .int y, .int a, .int t, .ref Bf, .int (nI n)] : List Value)).length) Slot.unset).toArray = ls at hl ⊢
  have hl : lv_has ls 8 [(0, .ref P), (1, .int x), (2, .int y), (3, .int a), (4, .int t), (5, .ref Bf), (6, .int (nI n))] := hl
  have hin : meth.name = "<init>" := (name_of_methodNamed B.named B.method).1
  refine lv_aload_n hx hb d_Pk_init_0 rfl (lv_at hl 0 rfl) ?_
  refine W.objInit hx hb hown (hw zw_257) (hw zw_23) (hw zw_24) rfl (by rw [hml]; exact hl.1) rfl d_Pk_init_1 (Nat.le_of_ble_eq_true rfl) (Nat.le_of_ble_eq_true rfl) ?_
  refine W.eq (g2 := F0 m 4 ls []) rfl ?_
  refine lv_aload_n hx hb d_Pk_init_4 rfl (lv_at hl 0 rfl) ?_
  refine lv_iconst (v := (-1)) hx hb d_Pk_init_5 (by decide) ?_
  refine zr_puti (ref := "ScrubbedRecorder$Packet") (ci := 3) (C := R_Pk) (T := T_Pk) (N := 8) (x := (-1)) (ty := .int) hx hb hts (fun w h => List.mem_cons_of_mem _ (zin_Pk w h)) ty_Pk tyok_Pk nm_Pk hown hK hH hS h0 (by decide) rfl 4 (by decide) rfl (hw zw_271) (fun _ h9 => h9) rfl (by decide +kernel) rfl rfl d_Pk_init_6 (fun H locs hH hS => ?_)
  refine lv_aload_n hx hb d_Pk_init_9 rfl (lv_at hl 0 rfl) ?_
  refine lv_lconst (v := 0) hx hb d_Pk_init_10 (by decide) ?_
  refine zr_putl (ref := "ScrubbedRecorder$Packet") (ci := 3) (C := R_Pk) (T := T_Pk) (N := 8) (x := 0) (ty := .long) hx hb hts (fun w h => List.mem_cons_of_mem _ (zin_Pk w h)) ty_Pk tyok_Pk nm_Pk hown hK hH hS h0 (by decide) rfl 7 (by decide) rfl (hw zw_277) (fun _ h9 => h9) rfl (by decide +kernel) rfl rfl d_Pk_init_11 (fun H locs hH hS => ?_)
  refine lv_aload_n hx hb d_Pk_init_14 rfl (lv_at hl 0 rfl) ?_
  refine lv_iload_n hx hb d_Pk_init_15 rfl (lv_at hl 1 rfl) ?_
  refine zr_putFi (ref := "ScrubbedRecorder$Packet") (ci := 3) (C := R_Pk) (T := T_Pk) (N := 8) (x := x) (ty := .int) hx hb hts (fun w h => List.mem_cons_of_mem _ (zin_Pk w h)) ty_Pk tyok_Pk nm_Pk hown hK hH hS h0 (by decide) rfl 0 (by decide) rfl (hw zw_262) (fun _ h9 => h9) rfl hin rfl (by decide +kernel) rfl rfl d_Pk_init_16 (fun H locs hH hS => ?_)
  refine lv_aload_n hx hb d_Pk_init_19 rfl (lv_at hl 0 rfl) ?_
  refine lv_iload_n hx hb d_Pk_init_20 rfl (lv_at hl 2 rfl) ?_
  refine zr_putFi (ref := "ScrubbedRecorder$Packet") (ci := 3) (C := R_Pk) (T := T_Pk) (N := 8) (x := y) (ty := .int) hx hb hts (fun w h => List.mem_cons_of_mem _ (zin_Pk w h)) ty_Pk tyok_Pk nm_Pk hown hK hH hS h0 (by decide) rfl 2 (by decide) rfl (hw zw_264) (fun _ h9 => h9) rfl hin rfl (by decide +kernel) rfl rfl d_Pk_init_21 (fun H locs hH hS => ?_)
  refine lv_aload_n hx hb d_Pk_init_24 rfl (lv_at hl 0 rfl) ?_
  refine lv_iload hx hb d_Pk_init_25 (lv_at hl 4 rfl) ?_
  refine zr_putFi (ref := "ScrubbedRecorder$Packet") (ci := 3) (C := R_Pk) (T := T_Pk) (N := 8) (x := t) (ty := .int) hx hb hts (fun w h => List.mem_cons_of_mem _ (zin_Pk w h)) ty_Pk tyok_Pk nm_Pk hown hK hH hS h0 (by decide) rfl 3 (by decide) rfl (hw zw_268) (fun _ h9 => h9) rfl hin rfl (by decide +kernel) rfl rfl d_Pk_init_27 (fun H locs hH hS => ?_)
  refine lv_aload_n hx hb d_Pk_init_30 rfl (lv_at hl 0 rfl) ?_
  refine lv_bipush (v := nI 6) hx hb d_Pk_init_31 (by decide) ?_
  refine lv_iload hx hb d_Pk_init_33 (lv_at hl 6 rfl) ?_
  refine lv_iadd hx hb d_Pk_init_35 ?_
  refine zt_i (y := nI (6 + n)) (nI_add 6 n) ?_
  refine zr_newab (atype := .byte) (N' := 6 + n) hx hb (hw zw_83) rfl hK hH hS hA (nI_pos (by omega)) (nI_clamp (by omega)) (by omega) (Nat.le_of_ble_eq_true rfl) (by show 0 + (6 + n) ≤ 66; omega) d_Pk_init_36 (fun q1 H hq2 hH hS => ?_)
  refine W.widen (k := 1) (n := 66) (by omega) (by omega) ?_
  refine zr_putFq (ref := "ScrubbedRecorder$Packet") (ci := 3) (C := R_Pk) (T := T_Pk) (N := 8) (x := some q1) (ty := .array .byte) hx hb hts (fun w h => List.mem_cons_of_mem _ (zin_Pk w h)) ty_Pk tyok_Pk nm_Pk hown hK hH hS (by rw [va_up_ne _ _ (zt_kd h0 hq2 (by decide))]; exact h0) (by decide) rfl 1 (by decide) rfl (hw zw_263) (fun _ h9 => h9) rfl hin rfl (by decide +kernel) rfl rfl d_Pk_init_38 (fun H locs hH hS => ?_)
  have hPT : P ≠ q1 := (zt_kd h0 hq2 (by decide))
  have hBT : Bf ≠ q1 := (zt_kd h3 hq2 (by decide))
  have hPB : P ≠ Bf := zt_kd h0 h3 (by decide)
  have eI : (va_up (zu (zu (zu (zu I P 4 (-1)) P 0 x) P 2 y) P 3 t) q1 (fun _ => 0)) = va_up (va_up I P (zk_pi x y t)) q1 (fun _ => 0) := by rw [zk_pi_eq x y t h1]
  have eL : (va_up (zu L P 7 0) q1 (fun _ => 0)) = va_up L q1 (fun _ => 0) := by rw [zu_id2 h2]
  have eR : (zu (va_up R q1 (fun _ => none)) P 1 (some q1)) = zu (va_up R q1 (fun _ => none)) P 1 (some q1) := rfl
  rw [eI, eL] at hH
  generalize hI5 : va_up I P (zk_pi x y t) = I5 at hH
  have hIB : I5 Bf = I Bf := by rw [← hI5, va_up_ne _ _ (Ne.symm hPB)]
  have kT : va_up kd q1 102 q1 = 102 := va_up_self _ _ _
  have kP : va_up kd q1 102 P = 4 := by rw [va_up_ne _ _ hPT]; exact h0
  have kB : va_up kd q1 102 Bf = 102 := by rw [va_up_ne _ _ hBT]; exact h3
  have nT : va_up ln q1 (6 + n) q1 = 6 + n := va_up_self _ _ _
  have nB : va_up ln q1 (6 + n) Bf = 60 := by rw [va_up_ne _ _ hBT]; exact h4
  have rT : zu (va_up R q1 (fun _ => none)) P 1 (some q1) P 1 = some q1 := zu_self _ _ _ _
  generalize hkd5 : va_up kd q1 102 = kd5 at hH kT kP kB
  generalize hln5 : va_up ln q1 (6 + n) = ln5 at hH nT nB
  generalize hL5 : va_up L q1 (fun _ => 0) = L5 at hH
  generalize hR5 : zu (va_up R q1 (fun _ => none)) P 1 (some q1) = R5 at hH rT
  refine lv_aload_n hx hb d_Pk_init_41 rfl (lv_at hl 0 rfl) ?_
  refine zr_getr (ci := 3) (C := R_Pk) (T := T_Pk) (N := 8) (ref := "ScrubbedRecorder$Packet") hx hb hts (fun w h => List.mem_cons_of_mem _ (zin_Pk w h)) hown hK hH kP (by decide) rfl 1 (by decide) rfl (hw zw_263) (fun _ h9 => h9) d_Pk_init_42 (by rw [rT]) ?_
  refine lv_iconst (v := nI 0) hx hb d_Pk_init_45 (by decide) ?_
  refine lv_iload_n hx hb d_Pk_init_46 rfl (lv_at hl 3 rfl) ?_
  refine lv_i2b (v := a.toInt8.toInt32) hx hb d_Pk_init_47 rfl ?_
  refine zr_astb (j := 0) (y := a.toInt8.toInt32) hx hb hK hH hS kT (zk_t8 _) (by rw [nT]; exact zh_ix_n (by omega) (by omega)) d_Pk_init_48 (fun H locs hH hS => ?_)
  refine lv_iconst (v := nI 0) hx hb d_Pk_init_49 (by decide) ?_
  refine lv_istore (lv' := [(7, .int (nI 0)), (0, .ref P), (1, .int x), (2, .int y), (3, .int a), (4, .int t), (5, .ref Bf), (6, .int (nI n))]) hx hb d_Pk_init_50 hl (by decide) rfl (fun ls hl => ?_)
  have loop_52 : ∀ (z : Nat) (i : Nat) (H : Heap) (locs : List Loc) (ls : Array Slot), 4 - i < z → (i ≤ 4) → lv_has ls 8 [(0, .ref P), (1, .int x), (2, .int y), (3, .int a), (4, .int t), (5, .ref Bf), (6, .int (nI n)), (7, .int (nI i))] → zh_H D cA A kd5 ln5 (va_up I5 q1 (zo_seg (va_up (fun _ => 0) 0 a.toInt8.toInt32) 1 i (fun i => (zk_b4 t i).toInt8.toInt32))) L5 R5 H → va_S A s.heap H locs → W p l e (headSpec w_Pk_init { frames := 1, cells := 1, slots := 66, locals := 40 }).room s m ([.ref P, .int x, .int y, .int a, .int t, .ref Bf, .int (nI n)] : List Value).toArray below meth c H locs 1 66 (MQ below (zc_Qc D cA A (fun v9 kd9 ln9 I9 L9 R9 => none = v9 ∧ ∃ T, kd T = 0 ∧ va_up kd T 102 = kd9 ∧ va_up ln T (6 + n) = ln9 ∧ va_up I5 T (zk_te (I Bf) a t n) = I9 ∧ va_up L T (fun _ => 0) = L9 ∧ zu (va_up R T (fun _ => none)) P 1 (some T) = R9)) ([.ref P, .int x, .int y, .int a, .int t, .ref Bf, .int (nI n)] : List Value).toArray s 1 66 A) (F0 m 52 ls []) := by
    intro z
    induction z with
    | zero => intro i H locs ls hz; exact absurd hz (Nat.not_lt_zero _)
    | succ z ih_52 =>
      intro i H locs ls hz_52 hi hl hH hS
      refine lv_iload hx hb d_Pk_init_52 (lv_at hl 7 rfl) ?_
      refine lv_iconst (v := nI 4) hx hb d_Pk_init_54 (by decide) ?_
      refine lv_icmp_ge (tgt := 81) hx hb d_Pk_init_55 (by decide) (fun hc3 => ?_) (fun hc3 => ?_)
      · skip
        have hc3 := zt_geT (a := i) (b := 4) (by omega) (by omega) hc3
        refine lv_aload_n hx hb d_Pk_init_81 rfl (lv_at hl 0 rfl) ?_
        refine zr_getr (ci := 3) (C := R_Pk) (T := T_Pk) (N := 8) (ref := "ScrubbedRecorder$Packet") hx hb hts (fun w h => List.mem_cons_of_mem _ (zin_Pk w h)) hown hK hH kP (by decide) rfl 1 (by decide) rfl (hw zw_263) (fun _ h9 => h9) d_Pk_init_82 (by rw [rT]) ?_
        refine lv_iconst (v := nI 5) hx hb d_Pk_init_85 (by decide) ?_
        refine lv_iload hx hb d_Pk_init_86 (lv_at hl 6 rfl) ?_
        refine lv_i2b (v := (nI n).toInt8.toInt32) hx hb d_Pk_init_88 rfl ?_
        refine zr_astb (j := 5) (y := (nI n).toInt8.toInt32) hx hb hK hH hS kT (zk_t8 _) (by rw [nT]; exact zh_ix_n (by omega) (by omega)) d_Pk_init_89 (fun H locs hH hS => ?_)
        have hH : zh_H D cA A kd5 ln5 (va_up I5 q1 (zk_t5 a t n)) L5 R5 H := by unfold zk_t5; rw [← show i = 4 by omega, ← zu_up]; exact hH
        refine lv_aload hx hb d_Pk_init_90 (lv_at hl 5 rfl) ?_
        refine lv_iconst (v := nI 0) hx hb d_Pk_init_92 (by decide) ?_
        refine lv_aload_n hx hb d_Pk_init_93 rfl (lv_at hl 0 rfl) ?_
        refine zr_getr (ci := 3) (C := R_Pk) (T := T_Pk) (N := 8) (ref := "ScrubbedRecorder$Packet") hx hb hts (fun w h => List.mem_cons_of_mem _ (zin_Pk w h)) hown hK hH kP (by decide) rfl 1 (by decide) rfl (hw zw_263) (fun _ h9 => h9) d_Pk_init_94 (by rw [rT]) ?_
        refine lv_bipush (v := nI 6) hx hb d_Pk_init_97 (by decide) ?_
        refine lv_iload hx hb d_Pk_init_99 (lv_at hl 6 rfl) ?_
        refine zr_copyb (sp := 0) (dp := 6) (n := n) hx hb (by rw [hml]; exact hl.1.symm) hown (hw zw_261) (hw zw_214) (hw zw_213) (hw zw_10) hK hH hS kB kT (by rw [nB]; omega) (by rw [nT]; omega) (by omega) (fun i _ => by rw [va_up_ne _ _ hBT, hIB, Nat.zero_add]; exact hby i) (Nat.le_of_ble_eq_true rfl) (Nat.le_of_ble_eq_true rfl) d_Pk_init_101 (fun H locs hH hS => ?_)
        refine W.widen (k := 1) (n := 66) (Nat.le_of_ble_eq_true rfl) (Nat.le_of_ble_eq_true rfl) ?_
        subst hAe
        exact W.vret hx hb hr (fun t ht hW => zc_end hS hH ht (⟨rfl, q1, hq2, hkd5, hln5, by rw [va_up_ne _ _ hBT, va_up_self, hIB, up_up]; rfl, hL5, hR5⟩)) hS.2.2 d_Pk_init_104
      · skip
        have hc3 := zt_geF (a := i) (b := 4) (by omega) (by omega) hc3
        refine lv_aload_n hx hb d_Pk_init_58 rfl (lv_at hl 0 rfl) ?_
        refine zr_getr (ci := 3) (C := R_Pk) (T := T_Pk) (N := 8) (ref := "ScrubbedRecorder$Packet") hx hb hts (fun w h => List.mem_cons_of_mem _ (zin_Pk w h)) hown hK hH kP (by decide) rfl 1 (by decide) rfl (hw zw_263) (fun _ h9 => h9) d_Pk_init_59 (by rw [rT]) ?_
        refine lv_iconst (v := nI 1) hx hb d_Pk_init_62 (by decide) ?_
        refine lv_iload hx hb d_Pk_init_63 (lv_at hl 7 rfl) ?_
        refine lv_iadd hx hb d_Pk_init_65 ?_
        refine zt_i (y := nI (1 + i)) (nI_add 1 i) ?_
        refine lv_iload hx hb d_Pk_init_66 (lv_at hl 4 rfl) ?_
        refine lv_iload hx hb d_Pk_init_68 (lv_at hl 7 rfl) ?_
        refine zr_StN (As := ([.int t, .int (nI i)] : List Value)) (rest := [.int (nI (1 + i)), .ref q1]) ⟨hx, hb, hml, hown, hts⟩ (c_Rec_byteOfFour (by omega)) ⟨(va_cnB 2 hts (zg_all zw_260) rfl rfl rfl (hSc.2.1 (.methodLinkNest R_Pk 32 y_Rec_byteOfFour "ScrubbedRecorder") (by decide +kernel)) (hw zw_1) k_Rec_byteOfFour.2 ⟨Nat.le_of_ble_eq_true rfl, Nat.le_of_ble_eq_true rfl⟩), hw zw_259, trivial⟩ hSc hE hH hS hA rfl hl.1 rfl (Nat.le_of_ble_eq_true rfl) d_Pk_init_70 ⟨Nat.le_of_ble_eq_true rfl, Nat.le_of_ble_eq_true rfl⟩ (fun v4 kd4 ln4 I4 L4 R4 H locs hp hH hS => ?_)
        obtain ⟨rfl, rfl, rfl, rfl, rfl, rfl⟩ := hp
        refine W.eq (g2 := F0 m 73 ls [.int (zk_b4 t i), .int (nI (1 + i)), .ref q1]) rfl ?_
        refine W.widen (k := 1) (n := 66) (by omega) (by omega) ?_
        refine lv_i2b (v := (zk_b4 t i).toInt8.toInt32) hx hb d_Pk_init_73 rfl ?_
        refine zr_astb (j := 1 + i) (y := (zk_b4 t i).toInt8.toInt32) hx hb hK hH hS kT (zk_t8 _) (by rw [nT]; exact zh_ix_n (by omega) (by omega)) d_Pk_init_74 (fun H locs hH hS => ?_)
        refine lv_iinc (k := 7) (v := nI (i + 1)) (lv' := [(7, .int (nI (i + 1))), (0, .ref P), (1, .int x), (2, .int y), (3, .int a), (4, .int t), (5, .ref Bf), (6, .int (nI n))]) hx hb d_Pk_init_75 hl rfl (nI_add i 1) (by decide) rfl (fun ls hl => ?_)
        refine lv_goto (tgt := 52) hx hb d_Pk_init_78 (by decide) ?_
        have hH : zh_H D cA A kd5 ln5 (va_up I5 q1 (zo_seg (va_up (fun _ => 0) 0 a.toInt8.toInt32) 1 (i + 1) (fun i => (zk_b4 t i).toInt8.toInt32))) L5 R5 H := by rw [← zo_seg_s]; exact hH
        exact ih_52 (i + 1) _ _ _ (by omega) (by omega) (lv_sub hl [1, 2, 3, 4, 5, 6, 7, 0] rfl) hH hS
  have hH : zh_H D cA A kd5 ln5 (va_up I5 q1 (zo_seg (va_up (fun _ => 0) 0 a.toInt8.toInt32) 1 0 (fun i => (zk_b4 t i).toInt8.toInt32))) L5 R5 H := by rw [zo_seg_z, ← zu_up]; exact hH
  exact loop_52 _ 0 _ _ _ (Nat.lt_succ_self _) (by omega) (lv_sub hl [1, 2, 3, 4, 5, 6, 7, 0] rfl) hH hS

set_option maxHeartbeats 4000000 in
set_option maxRecDepth 100000 in
/-- Playback.goesBefore -/
theorem c_Pb_goesBefore {l : Launch} {D : va_G} {cA : Nat → ClassId} {te mi : Nat} {kd ln : Nat → Nat} {I : Nat → Nat → Int32} {L : Nat → Nat → Int64} {R : Nat → Nat → Option Nat} {P Q : Nat} (h0 : kd P = 5) (h1 : kd Q = 5) : zc_M l y_Pb_goesBefore w_Pb_goesBefore { frames := 0, cells := 0, slots := 0, locals := 0 } 0 0 D cA te mi ([.ref P, .ref Q] : List Value) kd ln I L R (zc_eq (some (.int (zk_gb (I P) (I Q) (L P 3) (L Q 3)))) kd ln I L R) := by
  intro sz
  refine Met.ofW (cc := b_Pb_goesBefore) (maxL := 2) (ret := (some (.boolean))) (by decide +kernel) rfl ?_
  intro p e s m args below meth c s₁ B hml hv
  obtain ⟨rfl, hsz, hSc, hE, hH⟩ := hv
  have hx := B.exec
  have hb := B.bytes
  have hr := B.returns
  have hts := atoms_spec (ws := w_Pb_goesBefore) B.pre
  have hw : ∀ {w : Cond}, w ∈ zw → w.before ([.ref P, .ref Q] : List Value).toArray s = true := fun h => hts _ (List.mem_cons_of_mem _ h)
  have hown : s.vm.findClass R_Pb = some m.cls := findClass_of_methodNamed B.named
  have hlocks := B.notSynchronized
  subst hsz
  have hK := hSc.1
  have hH : zh_H D cA (zc_A kd s.heap.size) kd ln I L R s.heap := hH.weaken (fun q h _ => Or.inl h)
  generalize hAe : zc_A kd s.heap.size = A at hH hE ⊢
  have hA : ∀ q : Nat, s.heap.size ≤ q → A q := fun q h => by rw [← hAe]; exact Or.inr h
  have hS : va_S A s.heap s.heap [] := va_S.rf
  have hl := lv_entry ([.ref P, .ref Q] : List Value) (n := 2) (Nat.le_of_ble_eq_true rfl)
  rw [lg_entry_eq]
  generalize (lg_sl ([.ref P, .ref Q] : List Value) ++ List.replicate (2 - (lg_sl ([.ref P, .ref Q] : List Value)).length) Slot.unset).toArray = ls at hl ⊢
  have hl : lv_has ls 2 [(0, .ref P), (1, .ref Q)] := hl
  refine lv_aload_n hx hb d_Pb_goesBefore_0 rfl (lv_at hl 0 rfl) ?_
  refine zr_geti (ci := 4) (C := R_Pb) (T := T_Pb) (N := 6) (ref := "ScrubbedRecorder$Playback") hx hb hts (fun w h => List.mem_cons_of_mem _ (zin_Pb w h)) hown hK hH h0 (by decide) rfl 2 (by decide) rfl (hw zw_378) (fun _ h9 => h9) d_Pb_goesBefore_1 ?_
  refine lv_aload_n hx hb d_Pb_goesBefore_4 rfl (lv_at hl 1 rfl) ?_
  refine zr_geti (ci := 4) (C := R_Pb) (T := T_Pb) (N := 6) (ref := "ScrubbedRecorder$Playback") hx hb hts (fun w h => List.mem_cons_of_mem _ (zin_Pb w h)) hown hK hH h1 (by decide) rfl 2 (by decide) rfl (hw zw_378) (fun _ h9 => h9) d_Pb_goesBefore_5 ?_
  refine lv_icmp_eq (tgt := 28) hx hb d_Pb_goesBefore_8 (by decide) (fun hc1 => ?_) (fun hc1 => ?_)
  · skip
    have hc1 : (I P 2) = (I Q 2) := hc1
    refine lv_aload_n hx hb d_Pb_goesBefore_28 rfl (lv_at hl 0 rfl) ?_
    refine zr_getl (ci := 4) (C := R_Pb) (T := T_Pb) (N := 6) (ref := "ScrubbedRecorder$Playback") hx hb hts (fun w h => List.mem_cons_of_mem _ (zin_Pb w h)) hown hK hH h0 (by decide) rfl 3 (by decide) rfl (hw zw_379) (fun _ h9 => h9) d_Pb_goesBefore_29 ?_
    refine lv_aload_n hx hb d_Pb_goesBefore_32 rfl (lv_at hl 1 rfl) ?_
    refine zr_getl (ci := 4) (C := R_Pb) (T := T_Pb) (N := 6) (ref := "ScrubbedRecorder$Playback") hx hb hts (fun w h => List.mem_cons_of_mem _ (zin_Pb w h)) hown hK hH h1 (by decide) rfl 3 (by decide) rfl (hw zw_379) (fun _ h9 => h9) d_Pb_goesBefore_33 ?_
    refine W.lcmp hx hb d_Pb_goesBefore_36 ?_
    refine lv_if_ge (tgt := 44) hx hb d_Pb_goesBefore_37 (by decide) (fun hc2 => ?_) (fun hc2 => ?_)
    · skip
      have hc2 : ¬ (lg_cmp (L P 3) (L Q 3)) < (nI 0) := Int32.not_lt.mpr hc2
      refine lv_iconst (v := nI 0) hx hb d_Pb_goesBefore_44 (by decide) ?_
      refine W.widen (k := 0) (n := 0) (Nat.le_of_ble_eq_true rfl) (Nat.le_of_ble_eq_true rfl) ?_
      subst hAe
      exact W.zret (v := nI 0) hx hb hr (by decide +kernel) (fun t ht hW => zc_end hS hH ht (⟨by rw [zk_gb, if_pos hc1, if_neg hc2], rfl, rfl, rfl, rfl, rfl⟩)) hS.2.2 d_Pb_goesBefore_45
    · skip
      have hc2 : (lg_cmp (L P 3) (L Q 3)) < (nI 0) := Int32.not_le.mp hc2
      refine lv_iconst (v := nI 1) hx hb d_Pb_goesBefore_40 (by decide) ?_
      refine lv_goto (tgt := 45) hx hb d_Pb_goesBefore_41 (by decide) ?_
      refine W.widen (k := 0) (n := 0) (Nat.le_of_ble_eq_true rfl) (Nat.le_of_ble_eq_true rfl) ?_
      subst hAe
      exact W.zret (v := nI 1) hx hb hr (by decide +kernel) (fun t ht hW => zc_end hS hH ht (⟨by rw [zk_gb, if_pos hc1, if_pos hc2], rfl, rfl, rfl, rfl, rfl⟩)) hS.2.2 d_Pb_goesBefore_45
  · skip
    have hc1 : ¬ (I P 2) = (I Q 2) := hc1
    refine lv_aload_n hx hb d_Pb_goesBefore_11 rfl (lv_at hl 0 rfl) ?_
    refine zr_geti (ci := 4) (C := R_Pb) (T := T_Pb) (N := 6) (ref := "ScrubbedRecorder$Playback") hx hb hts (fun w h => List.mem_cons_of_mem _ (zin_Pb w h)) hown hK hH h0 (by decide) rfl 2 (by decide) rfl (hw zw_378) (fun _ h9 => h9) d_Pb_goesBefore_12 ?_
    refine lv_aload_n hx hb d_Pb_goesBefore_15 rfl (lv_at hl 1 rfl) ?_
    refine zr_geti (ci := 4) (C := R_Pb) (T := T_Pb) (N := 6) (ref := "ScrubbedRecorder$Playback") hx hb hts (fun w h => List.mem_cons_of_mem _ (zin_Pb w h)) hown hK hH h1 (by decide) rfl 2 (by decide) rfl (hw zw_378) (fun _ h9 => h9) d_Pb_goesBefore_16 ?_
    refine lv_icmp_ge (tgt := 26) hx hb d_Pb_goesBefore_19 (by decide) (fun hc3 => ?_) (fun hc3 => ?_)
    · skip
      have hc3 : ¬ (I P 2) < (I Q 2) := Int32.not_lt.mpr hc3
      refine lv_iconst (v := nI 0) hx hb d_Pb_goesBefore_26 (by decide) ?_
      refine W.widen (k := 0) (n := 0) (Nat.le_of_ble_eq_true rfl) (Nat.le_of_ble_eq_true rfl) ?_
      subst hAe
      exact W.zret (v := nI 0) hx hb hr (by decide +kernel) (fun t ht hW => zc_end hS hH ht (⟨by rw [zk_gb, if_neg hc1, if_neg hc3], rfl, rfl, rfl, rfl, rfl⟩)) hS.2.2 d_Pb_goesBefore_27
    · skip
      have hc3 : (I P 2) < (I Q 2) := Int32.not_le.mp hc3
      refine lv_iconst (v := nI 1) hx hb d_Pb_goesBefore_22 (by decide) ?_
      refine lv_goto (tgt := 27) hx hb d_Pb_goesBefore_23 (by decide) ?_
      refine W.widen (k := 0) (n := 0) (Nat.le_of_ble_eq_true rfl) (Nat.le_of_ble_eq_true rfl) ?_
      subst hAe
      exact W.zret (v := nI 1) hx hb hr (by decide +kernel) (fun t ht hW => zc_end hS hH ht (⟨by rw [zk_gb, if_neg hc1, if_pos hc3], rfl, rfl, rfl, rfl, rfl⟩)) hS.2.2 d_Pb_goesBefore_27

set_option maxHeartbeats 4000000 in
set_option maxRecDepth 100000 in
/-- Playback.hasIn -/
theorem c_Pb_hasIn {l : Launch} {D : va_G} {cA : Nat → ClassId} {te mi : Nat} {kd ln : Nat → Nat} {I : Nat → Nat → Int32} {L : Nat → Nat → Int64} {R : Nat → Nat → Option Nat} {P Q : Nat} (h0 : kd P = 5) (h1 : kd Q = 4) : zc_M l y_Pb_hasIn w_Pb_hasIn { frames := 0, cells := 0, slots := 0, locals := 0 } 0 0 D cA te mi ([.ref P, .ref Q] : List Value) kd ln I L R (zc_eq (some (.int (zk_hi (I P) (I Q)))) kd ln I L R) := by
  intro sz
  refine Met.ofW (cc := b_Pb_hasIn) (maxL := 2) (ret := (some (.boolean))) (by decide +kernel) rfl ?_
  intro p e s m args below meth c s₁ B hml hv
  obtain ⟨rfl, hsz, hSc, hE, hH⟩ := hv
  have hx := B.exec
  have hb := B.bytes
  have hr := B.returns
  have hts := atoms_spec (ws := w_Pb_hasIn) B.pre
  have hw : ∀ {w : Cond}, w ∈ zw → w.before ([.ref P, .ref Q] : List Value).toArray s = true := fun h => hts _ (List.mem_cons_of_mem _ h)
  have hown : s.vm.findClass R_Pb = some m.cls := findClass_of_methodNamed B.named
  have hlocks := B.notSynchronized
  subst hsz
  have hK := hSc.1
  have hH : zh_H D cA (zc_A kd s.heap.size) kd ln I L R s.heap := hH.weaken (fun q h _ => Or.inl h)
  generalize hAe : zc_A kd s.heap.size = A at hH hE ⊢
  have hA : ∀ q : Nat, s.heap.size ≤ q → A q := fun q h => by rw [← hAe]; exact Or.inr h
  have hS : va_S A s.heap s.heap [] := va_S.rf
  have hl := lv_entry ([.ref P, .ref Q] : List Value) (n := 2) (Nat.le_of_ble_eq_true rfl)
  rw [lg_entry_eq]
  generalize (lg_sl ([.ref P, .ref Q] : List Value) ++ List.replicate (2 - (lg_sl ([.ref P, .ref Q] : List Value)).length) Slot.unset).toArray = ls at hl ⊢
  have hl : lv_has ls 2 [(0, .ref P), (1, .ref Q)] := hl
  refine lv_aload_n hx hb d_Pb_hasIn_0 rfl (lv_at hl 1 rfl) ?_
  refine zr_geti (ci := 3) (C := R_Pk) (T := T_Pk) (N := 8) (ref := "ScrubbedRecorder$Packet") hx hb hts (fun w h => List.mem_cons_of_mem _ (zin_Pk w h)) hown hK hH h1 (by decide) rfl 5 (by decide) rfl (hw zw_273) (fun _ h9 => h9) d_Pb_hasIn_1 ?_
  refine lv_if_ne (tgt := 33) hx hb d_Pb_hasIn_4 (by decide) (fun hc1 => ?_) (fun hc1 => ?_)
  · skip
    have hc1 : ¬ (I Q 5) = (nI 0) := hc1
    refine lv_iconst (v := nI 0) hx hb d_Pb_hasIn_33 (by decide) ?_
    refine W.widen (k := 0) (n := 0) (Nat.le_of_ble_eq_true rfl) (Nat.le_of_ble_eq_true rfl) ?_
    subst hAe
    exact W.zret (v := nI 0) hx hb hr (by decide +kernel) (fun t ht hW => zc_end hS hH ht (⟨by rw [zk_hi, if_neg hc1], rfl, rfl, rfl, rfl, rfl⟩)) hS.2.2 d_Pb_hasIn_34
  · skip
    have hc1 : (I Q 5) = (nI 0) := hc1
    refine lv_aload_n hx hb d_Pb_hasIn_7 rfl (lv_at hl 1 rfl) ?_
    refine zr_geti (ci := 3) (C := R_Pk) (T := T_Pk) (N := 8) (ref := "ScrubbedRecorder$Packet") hx hb hts (fun w h => List.mem_cons_of_mem _ (zin_Pk w h)) hown hK hH h1 (by decide) rfl 3 (by decide) rfl (hw zw_269) (fun _ h9 => h9) d_Pb_hasIn_8 ?_
    refine lv_aload_n hx hb d_Pb_hasIn_11 rfl (lv_at hl 0 rfl) ?_
    refine zr_geti (ci := 4) (C := R_Pb) (T := T_Pb) (N := 6) (ref := "ScrubbedRecorder$Playback") hx hb hts (fun w h => List.mem_cons_of_mem _ (zin_Pb w h)) hown hK hH h0 (by decide) rfl 0 (by decide) rfl (hw zw_376) (fun _ h9 => h9) d_Pb_hasIn_12 ?_
    refine lv_icmp_lt (tgt := 33) hx hb d_Pb_hasIn_15 (by decide) (fun hc2 => ?_) (fun hc2 => ?_)
    · skip
      have hc2 : (I Q 3) < (I P 0) := hc2
      refine lv_iconst (v := nI 0) hx hb d_Pb_hasIn_33 (by decide) ?_
      refine W.widen (k := 0) (n := 0) (Nat.le_of_ble_eq_true rfl) (Nat.le_of_ble_eq_true rfl) ?_
      subst hAe
      exact W.zret (v := nI 0) hx hb hr (by decide +kernel) (fun t ht hW => zc_end hS hH ht (⟨by rw [zk_hi, if_pos hc1, if_pos hc2], rfl, rfl, rfl, rfl, rfl⟩)) hS.2.2 d_Pb_hasIn_34
    · skip
      have hc2 : ¬ (I Q 3) < (I P 0) := hc2
      refine lv_aload_n hx hb d_Pb_hasIn_18 rfl (lv_at hl 1 rfl) ?_
      refine zr_geti (ci := 3) (C := R_Pk) (T := T_Pk) (N := 8) (ref := "ScrubbedRecorder$Packet") hx hb hts (fun w h => List.mem_cons_of_mem _ (zin_Pk w h)) hown hK hH h1 (by decide) rfl 3 (by decide) rfl (hw zw_269) (fun _ h9 => h9) d_Pb_hasIn_19 ?_
      refine lv_aload_n hx hb d_Pb_hasIn_22 rfl (lv_at hl 0 rfl) ?_
      refine zr_geti (ci := 4) (C := R_Pb) (T := T_Pb) (N := 6) (ref := "ScrubbedRecorder$Playback") hx hb hts (fun w h => List.mem_cons_of_mem _ (zin_Pb w h)) hown hK hH h0 (by decide) rfl 1 (by decide) rfl (hw zw_377) (fun _ h9 => h9) d_Pb_hasIn_23 ?_
      refine lv_icmp_gt (tgt := 33) hx hb d_Pb_hasIn_26 (by decide) (fun hc3 => ?_) (fun hc3 => ?_)
      · skip
        have hc3 : (I P 1) < (I Q 3) := hc3
        refine lv_iconst (v := nI 0) hx hb d_Pb_hasIn_33 (by decide) ?_
        refine W.widen (k := 0) (n := 0) (Nat.le_of_ble_eq_true rfl) (Nat.le_of_ble_eq_true rfl) ?_
        subst hAe
        exact W.zret (v := nI 0) hx hb hr (by decide +kernel) (fun t ht hW => zc_end hS hH ht (⟨by rw [zk_hi, if_pos hc1, if_neg hc2, if_pos hc3], rfl, rfl, rfl, rfl, rfl⟩)) hS.2.2 d_Pb_hasIn_34
      · skip
        have hc3 : ¬ (I P 1) < (I Q 3) := hc3
        refine lv_iconst (v := nI 1) hx hb d_Pb_hasIn_29 (by decide) ?_
        refine lv_goto (tgt := 34) hx hb d_Pb_hasIn_30 (by decide) ?_
        refine W.widen (k := 0) (n := 0) (Nat.le_of_ble_eq_true rfl) (Nat.le_of_ble_eq_true rfl) ?_
        subst hAe
        exact W.zret (v := nI 1) hx hb hr (by decide +kernel) (fun t ht hW => zc_end hS hH ht (⟨by rw [zk_hi, if_pos hc1, if_neg hc2, if_neg hc3], rfl, rfl, rfl, rfl, rfl⟩)) hS.2.2 d_Pb_hasIn_34

set_option maxHeartbeats 4000000 in
set_option maxRecDepth 100000 in
/-- Playback, the constructor -/
theorem c_Pb_init {l : Launch} {D : va_G} {cA : Nat → ClassId} {te mi : Nat} {kd ln : Nat → Nat} {I : Nat → Nat → Int32} {L : Nat → Nat → Int64} {R : Nat → Nat → Option Nat} {P Q : Nat} {x y z : Int32} {v : Int64} (h0 : kd P = 5) (h1 : kd Q = 3) : zc_M l y_Pb_init w_Pb_init { frames := 1, cells := 0, slots := 0, locals := 12 } 0 0 D cA te mi ([.ref P, .ref Q, .int x, .int y, .int z, .long v] : List Value) kd ln I L R (zc_eq none kd ln (zu (zu (zu (zu I P 5 (-1)) P 0 x) P 1 y) P 2 z) (zu L P 3 v) (zu R P 4 (some Q))) := by
  intro sz
  refine Met.ofW (cc := b_Pb_init) (maxL := 7) (ret := none) (by decide +kernel) rfl ?_
  intro p e s m args below meth c s₁ B hml hv
  obtain ⟨rfl, hsz, hSc, hE, hH⟩ := hv
  have hx := B.exec
  have hb := B.bytes
  have hr := B.returns
  have hts := atoms_spec (ws := w_Pb_init) B.pre
  have hw : ∀ {w : Cond}, w ∈ zw → w.before ([.ref P, .ref Q, .int x, .int y, .int z, .long v] : List Value).toArray s = true := fun h => hts _ (List.mem_cons_of_mem _ h)
  have hown : s.vm.findClass R_Pb = some m.cls := findClass_of_methodNamed B.named
  have hlocks := B.notSynchronized
  subst hsz
  have hK := hSc.1
  have hH : zh_H D cA (zc_A kd s.heap.size) kd ln I L R s.heap := hH.weaken (fun q h _ => Or.inl h)
  generalize hAe : zc_A kd s.heap.size = A at hH hE ⊢
  have hA : ∀ q : Nat, s.heap.size ≤ q → A q := fun q h => by rw [← hAe]; exact Or.inr h
  have hS : va_S A s.heap s.heap [] := va_S.rf
  have hl := lv_entry ([.ref P, .ref Q, .int x, .int y, .int z, .long v] : List Value) (n := 7) (Nat.le_of_ble_eq_true rfl)
  rw [lg_entry_eq]
  generalize (lg_sl ([.ref P, .ref Q, .int x, .int y, .int z, .long v] : List Value) ++ List.replicate (7 - (lg_sl ([.ref P, .ref Q, .int x, .int y, .int z, .long v] : List Value)).length) Slot.unset).toArray = ls at hl ⊢
  have hl : lv_has ls 7 [(0, .ref P), (1, .ref Q), (2, .int x), (3, .int y), (4, .int z), (5, .long v)] := hl
  have hin : meth.name = "<init>" := (name_of_methodNamed B.named B.method).1
  refine lv_aload_n hx hb d_Pb_init_0 rfl (lv_at hl 0 rfl) ?_
  refine W.objInit hx hb hown (hw zw_375) (hw zw_23) (hw zw_24) rfl (by rw [hml]; exact hl.1) rfl d_Pb_init_1 (Nat.le_of_ble_eq_true rfl) (Nat.le_of_ble_eq_true rfl) ?_
  refine W.eq (g2 := F0 m 4 ls []) rfl ?_
  refine lv_aload_n hx hb d_Pb_init_4 rfl (lv_at hl 0 rfl) ?_
  refine lv_iconst (v := (-1)) hx hb d_Pb_init_5 (by decide) ?_
  refine zr_puti (ref := "ScrubbedRecorder$Playback") (ci := 4) (C := R_Pb) (T := T_Pb) (N := 6) (x := (-1)) (ty := .int) hx hb hts (fun w h => List.mem_cons_of_mem _ (zin_Pb w h)) ty_Pb tyok_Pb nm_Pb hown hK hH hS h0 (by decide) rfl 5 (by decide) rfl (hw zw_382) (fun _ h9 => h9) rfl (by decide +kernel) rfl rfl d_Pb_init_6 (fun H locs hH hS => ?_)
  refine lv_aload_n hx hb d_Pb_init_9 rfl (lv_at hl 0 rfl) ?_
  refine lv_aload_n hx hb d_Pb_init_10 rfl (lv_at hl 1 rfl) ?_
  refine zr_putFq (ref := "ScrubbedRecorder$Playback") (ci := 4) (C := R_Pb) (T := T_Pb) (N := 6) (x := some Q) (ty := .object "ScrubbedRecorder$Store") hx hb hts (fun w h => List.mem_cons_of_mem _ (zin_Pb w h)) ty_Pb tyok_Pb nm_Pb hown hK hH hS h0 (by decide) rfl 4 (by decide) rfl (hw zw_380) (fun _ h9 => h9) rfl hin rfl (by decide +kernel) rfl rfl d_Pb_init_11 (fun H locs hH hS => ?_)
  refine lv_aload_n hx hb d_Pb_init_14 rfl (lv_at hl 0 rfl) ?_
  refine lv_iload_n hx hb d_Pb_init_15 rfl (lv_at hl 2 rfl) ?_
  refine zr_putFi (ref := "ScrubbedRecorder$Playback") (ci := 4) (C := R_Pb) (T := T_Pb) (N := 6) (x := x) (ty := .int) hx hb hts (fun w h => List.mem_cons_of_mem _ (zin_Pb w h)) ty_Pb tyok_Pb nm_Pb hown hK hH hS h0 (by decide) rfl 0 (by decide) rfl (hw zw_376) (fun _ h9 => h9) rfl hin rfl (by decide +kernel) rfl rfl d_Pb_init_16 (fun H locs hH hS => ?_)
  refine lv_aload_n hx hb d_Pb_init_19 rfl (lv_at hl 0 rfl) ?_
  refine lv_iload_n hx hb d_Pb_init_20 rfl (lv_at hl 3 rfl) ?_
  refine zr_putFi (ref := "ScrubbedRecorder$Playback") (ci := 4) (C := R_Pb) (T := T_Pb) (N := 6) (x := y) (ty := .int) hx hb hts (fun w h => List.mem_cons_of_mem _ (zin_Pb w h)) ty_Pb tyok_Pb nm_Pb hown hK hH hS h0 (by decide) rfl 1 (by decide) rfl (hw zw_377) (fun _ h9 => h9) rfl hin rfl (by decide +kernel) rfl rfl d_Pb_init_21 (fun H locs hH hS => ?_)
  refine lv_aload_n hx hb d_Pb_init_24 rfl (lv_at hl 0 rfl) ?_
  refine lv_iload hx hb d_Pb_init_25 (lv_at hl 4 rfl) ?_
  refine zr_putFi (ref := "ScrubbedRecorder$Playback") (ci := 4) (C := R_Pb) (T := T_Pb) (N := 6) (x := z) (ty := .int) hx hb hts (fun w h => List.mem_cons_of_mem _ (zin_Pb w h)) ty_Pb tyok_Pb nm_Pb hown hK hH hS h0 (by decide) rfl 2 (by decide) rfl (hw zw_378) (fun _ h9 => h9) rfl hin rfl (by decide +kernel) rfl rfl d_Pb_init_27 (fun H locs hH hS => ?_)
  refine lv_aload_n hx hb d_Pb_init_30 rfl (lv_at hl 0 rfl) ?_
  refine lv_lload hx hb d_Pb_init_31 (lv_at hl 5 rfl) ?_
  refine zr_putFl (ref := "ScrubbedRecorder$Playback") (ci := 4) (C := R_Pb) (T := T_Pb) (N := 6) (x := v) (ty := .long) hx hb hts (fun w h => List.mem_cons_of_mem _ (zin_Pb w h)) ty_Pb tyok_Pb nm_Pb hown hK hH hS h0 (by decide) rfl 3 (by decide) rfl (hw zw_379) (fun _ h9 => h9) rfl hin rfl (by decide +kernel) rfl rfl d_Pb_init_33 (fun H locs hH hS => ?_)
  refine W.widen (k := 0) (n := 0) (Nat.le_of_ble_eq_true rfl) (Nat.le_of_ble_eq_true rfl) ?_
  subst hAe
  exact W.vret hx hb hr (fun t ht hW => zc_end hS hH ht (⟨rfl, rfl, rfl, rfl, rfl, rfl⟩)) hS.2.2 d_Pb_init_36
