def zo_tl (m9 : Nat → Nat → Int32) (q9 : Nat → Nat → Int64) (s i : Nat) : Int32 := if i = 0 then m9 18 s else if i < 5 then ((m9 19 s) >>> ((nI (8 * (4 - i))) &&& 31)) &&& (nI 255) else if i = 5 then m9 20 s else (((q9 25 (8 * s + (i - 6) / 8)) >>> ((nI (8 * ((i - 6) % 8))).toInt64 &&& 63)) &&& 255).toInt32
def zo_pb (m9 : Nat → Nat → Int32) (q9 : Nat → Nat → Int64) (x y z : Int32) : Int32 := if x < nI 0 then (-1) else if zo_fd m9 x y 280 < nI 0 then (-1) else if z < nI 0 then (-1) else if nI 5 + m9 20 (zo_fd m9 x y 280).toNatClampNeg < z then (-1) else zo_tl m9 q9 (zo_fd m9 x y 280).toNatClampNeg z.toNatClampNeg
def zo_se (m9 : Nat → Nat → Int32) (x y : Int32) : Nat → Int32
  | 0 => (-1)
  | n + 1 => if m9 16 n = x then (if m9 19 n < y then zo_se m9 x y n else if zo_se m9 x y n < nI 0 then m9 17 n else if m9 17 n < zo_se m9 x y n then m9 17 n else zo_se m9 x y n) else zo_se m9 x y n
def zo_mkI (m9 : Nat → Nat → Int32) (k : Nat) (b y : Int32) : Nat → Nat → Int32 := zu (zu (zu (zu (zu (zu (zu m9 7 k (nI 1)) 8 k b) 9 k y) 10 k (nI 0)) 11 k (nI 0)) 12 k (nI 0)) 13 k (nI 16)
def zo_svI (m9 : Nat → Nat → Int32) : Nat → Nat → Int32 := va_up m9 23 (zo_map (m9 23) (zo_sv m9) 280)
def zo_mk (m9 : Nat → Nat → Int32) (x b y : Int32) : Int32 × (Nat → Nat → Int32) := if x < nI 0 then ((-2), m9) else if nI 3 < x then ((-2), m9) else if y < nI 3 then ((-2), m9) else if nI 40 < y then ((-2), m9) else if m9 7 x.toNatClampNeg = nI 0 then (if zo_un (m9 7) (m9 9) 4 < y then ((-4), m9) else (zo_un (zo_svI (zo_mkI m9 x.toNatClampNeg b y) 7) (zo_svI (zo_mkI m9 x.toNatClampNeg b y) 9) 4, zo_svI (zo_mkI m9 x.toNatClampNeg b y))) else ((-3), m9)
def zo_fb (m9 : Nat → Nat → Int32) (x : Int32) : Int32 := if x < nI 0 then (-1) else if x < m9 40 35 then m9 36 x.toNatClampNeg else (-1)

set_option maxHeartbeats 4000000 in
set_option maxRecDepth 100000 in
/-- tells -/
theorem c_Mod_tells {l : Launch} {D : va_G} {cA : Nat → ClassId} {te mi : Nat} {kd ln : Nat → Nat} {I : Nat → Nat → Int32} {L : Nat → Nat → Int64} {R : Nat → Nat → Option Nat} {X : Nat} {ad : Nat → Nat} {m9 : Nat → Nat → Int32} {q9 : Nat → Nat → Int64} (hm : zoR X ad m9 q9 kd ln I L R) {s9 i9 : Nat} (hs9 : s9 < 280) (hi9 : i9 ≤ 65) : zc_M l y_Mod_tells w_Mod_tells { frames := 0, cells := 0, slots := 0, locals := 0 } 0 0 D cA te mi ([.ref X, .int (nI s9), .int (nI i9)] : List Value) kd ln I L R (zo_P (some (.int (zo_tl m9 q9 s9 i9))) X ad m9 q9 kd ln R) := by
  intro sz
  refine Met.ofW (cc := b_Mod_tells) (maxL := 3) (ret := (some (.int))) (by decide +kernel) rfl ?_
  intro p e s m args below meth c s₁ B hml hv
  obtain ⟨rfl, hsz, hSc, hE, hH⟩ := hv
  have hx := B.exec
  have hb := B.bytes
  have hr := B.returns
  have hts := atoms_spec (ws := w_Mod_tells) B.pre
  have hw : ∀ {w : Cond}, w ∈ zw → w.before ([.ref X, .int (nI s9), .int (nI i9)] : List Value).toArray s = true := fun h => hts _ (List.mem_cons_of_mem _ h)
  have hown : s.vm.findClass R_Mod = some m.cls := findClass_of_methodNamed B.named
  have hlocks := B.notSynchronized
  subst hsz
  have hK := hSc.1
  have hH : zh_H D cA (zc_A kd s.heap.size) kd ln I L R s.heap := hH.weaken (fun q h _ => Or.inl h)
  generalize hAe : zc_A kd s.heap.size = A at hH hE ⊢
  have hA : ∀ q : Nat, s.heap.size ≤ q → A q := fun q h => by rw [← hAe]; exact Or.inr h
  have hS : va_S A s.heap s.heap [] := va_S.rf
  have hl := lv_entry ([.ref X, .int (nI s9), .int (nI i9)] : List Value) (n := 3) (Nat.le_of_ble_eq_true rfl)
  rw [lg_entry_eq]
  generalize (lg_sl ([.ref X, .int (nI s9), .int (nI i9)] : List Value) ++ List.replicate (3 - (lg_sl ([.ref X, .int (nI s9), .int (nI i9)] : List Value)).length) Slot.unset).toArray = ls at hl ⊢
  have hl : lv_has ls 3 [(0, .ref X), (1, .int (nI s9)), (2, .int (nI i9))] := hl
  have k18 : kd (ad 18) = 100 := (hm.1.2.1 18 (by decide) (by decide)).2.1
  have n18 : ln (ad 18) = 280 := (hm.1.2.1 18 (by decide) (by decide)).2.2
  have r18 : R X 18 = some (ad 18) := (hm.1.2.1 18 (by decide) (by decide)).1
  have k19 : kd (ad 19) = 100 := (hm.1.2.1 19 (by decide) (by decide)).2.1
  have n19 : ln (ad 19) = 280 := (hm.1.2.1 19 (by decide) (by decide)).2.2
  have r19 : R X 19 = some (ad 19) := (hm.1.2.1 19 (by decide) (by decide)).1
  have k20 : kd (ad 20) = 100 := (hm.1.2.1 20 (by decide) (by decide)).2.1
  have n20 : ln (ad 20) = 280 := (hm.1.2.1 20 (by decide) (by decide)).2.2
  have r20 : R X 20 = some (ad 20) := (hm.1.2.1 20 (by decide) (by decide)).1
  have k25 : kd (ad 25) = 101 := (hm.1.2.1 25 (by decide) (by decide)).2.1
  have n25 : ln (ad 25) = 2240 := (hm.1.2.1 25 (by decide) (by decide)).2.2
  have r25 : R X 25 = some (ad 25) := (hm.1.2.1 25 (by decide) (by decide)).1
  refine lv_iload_n hx hb d_Mod_tells_0 rfl (lv_at hl 2 rfl) ?_
  refine lv_if_ne (tgt := 11) hx hb d_Mod_tells_1 (by decide) (fun hc1 => ?_) (fun hc1 => ?_)
  · skip
    have hc1 := zt_neT (a := i9) (b := 0) (by omega) (by omega) hc1
    refine lv_iload_n hx hb d_Mod_tells_11 rfl (lv_at hl 2 rfl) ?_
    refine lv_iconst (v := nI 5) hx hb d_Mod_tells_12 (by decide) ?_
    refine lv_icmp_ge (tgt := 34) hx hb d_Mod_tells_13 (by decide) (fun hc2 => ?_) (fun hc2 => ?_)
    · skip
      have hc2 := zt_geT (a := i9) (b := 5) (by omega) (by omega) hc2
      refine lv_iload_n hx hb d_Mod_tells_34 rfl (lv_at hl 2 rfl) ?_
      refine lv_iconst (v := nI 5) hx hb d_Mod_tells_35 (by decide) ?_
      refine lv_icmp_ne (tgt := 48) hx hb d_Mod_tells_36 (by decide) (fun hc3 => ?_) (fun hc3 => ?_)
      · skip
        have hc3 := zt_neT (a := i9) (b := 5) (by omega) (by omega) hc3
        refine lv_aload_n hx hb d_Mod_tells_48 rfl (lv_at hl 0 rfl) ?_
        refine zr_getr (ci := 6) (C := R_Mod) (T := T_Mod) (N := 37) (ref := "ScrubbedRecorderModel") hx hb hts (fun w h => List.mem_cons_of_mem _ (zin_Mod w h)) hown hK hH hm.1.1 (by decide) rfl 25 (by decide) rfl (hw zw_624) (fun _ h9 => h9) d_Mod_tells_49 (by rw [r25]) ?_
        refine lv_bipush (v := nI 8) hx hb d_Mod_tells_52 (by decide) ?_
        refine lv_iload_n hx hb d_Mod_tells_54 rfl (lv_at hl 1 rfl) ?_
        refine lv_imul hx hb d_Mod_tells_55 ?_
        refine zt_i (y := nI (8 * s9)) (pk_mul 8 s9) ?_
        refine lv_iload_n hx hb d_Mod_tells_56 rfl (lv_at hl 2 rfl) ?_
        refine lv_bipush (v := nI 6) hx hb d_Mod_tells_57 (by decide) ?_
        refine lv_isub hx hb d_Mod_tells_59 ?_
        refine zt_i (y := nI (i9 - 6)) (pk_sub (by omega)) ?_
        refine lv_bipush (v := nI 8) hx hb d_Mod_tells_60 (by decide) ?_
        refine lv_idiv hx hb d_Mod_tells_62 (zt_ne0 (by omega) (by omega)) ?_
        refine zt_i (y := nI ((i9 - 6) / 8)) (pk_div (by omega) (by omega) (by omega)) ?_
        refine lv_iadd hx hb d_Mod_tells_63 ?_
        refine zt_i (y := nI (8 * s9 + ((i9 - 6) / 8))) (nI_add (8 * s9) ((i9 - 6) / 8)) ?_
        refine zr_aldl (j := 8 * s9 + ((i9 - 6) / 8)) hx hb hK hH k25 (by rw [n25]; exact zh_ix_n (by omega) (by omega)) d_Mod_tells_64 ?_
        refine zt_l (y := q9 25 (8 * s9 + ((i9 - 6) / 8))) (congrFun (hm.2.2.2 25 (by decide) (by decide)) (8 * s9 + ((i9 - 6) / 8))) ?_
        refine lv_bipush (v := nI 8) hx hb d_Mod_tells_65 (by decide) ?_
        refine lv_iload_n hx hb d_Mod_tells_67 rfl (lv_at hl 2 rfl) ?_
        refine lv_bipush (v := nI 6) hx hb d_Mod_tells_68 (by decide) ?_
        refine lv_isub hx hb d_Mod_tells_70 ?_
        refine zt_i (y := nI (i9 - 6)) (pk_sub (by omega)) ?_
        refine lv_bipush (v := nI 8) hx hb d_Mod_tells_71 (by decide) ?_
        refine lv_irem hx hb d_Mod_tells_73 (zt_ne0 (by omega) (by omega)) ?_
        refine zt_i (y := nI ((i9 - 6) % 8)) (pk_rem (by omega) (by omega) (by omega)) ?_
        refine lv_imul hx hb d_Mod_tells_74 ?_
        refine zt_i (y := nI (8 * ((i9 - 6) % 8))) (pk_mul 8 ((i9 - 6) % 8)) ?_
        refine lv_lshr (v := (q9 25 (8 * s9 + ((i9 - 6) / 8))) >>> ((nI (8 * ((i9 - 6) % 8))).toInt64 &&& 63)) hx hb d_Mod_tells_75 rfl ?_
        refine lv_ldc2 (v := 255) hx hb hown (hw zw_773) d_Mod_tells_76 ?_
        refine lv_land hx hb d_Mod_tells_79 ?_
        refine lv_l2i (v := (((q9 25 (8 * s9 + ((i9 - 6) / 8))) >>> ((nI (8 * ((i9 - 6) % 8))).toInt64 &&& 63)) &&& 255).toInt32) hx hb d_Mod_tells_80 rfl ?_
        refine W.widen (k := 0) (n := 0) (Nat.le_of_ble_eq_true rfl) (Nat.le_of_ble_eq_true rfl) ?_
        subst hAe
        exact W.iret (v := (((q9 25 (8 * s9 + ((i9 - 6) / 8))) >>> ((nI (8 * ((i9 - 6) % 8))).toInt64 &&& 63)) &&& 255).toInt32) hx hb hr (fun t ht hW => zc_end hS hH ht (⟨by rw [zo_tl, if_neg (by omega), if_neg (by omega), if_neg (by omega)], rfl, rfl, rfl, hm⟩)) hS.2.2 d_Mod_tells_81
      · skip
        have hc3 := zt_neF (a := i9) (b := 5) (by omega) (by omega) hc3
        refine lv_aload_n hx hb d_Mod_tells_39 rfl (lv_at hl 0 rfl) ?_
        refine zr_getr (ci := 6) (C := R_Mod) (T := T_Mod) (N := 37) (ref := "ScrubbedRecorderModel") hx hb hts (fun w h => List.mem_cons_of_mem _ (zin_Mod w h)) hown hK hH hm.1.1 (by decide) rfl 20 (by decide) rfl (hw zw_619) (fun _ h9 => h9) d_Mod_tells_40 (by rw [r20]) ?_
        refine lv_iload_n hx hb d_Mod_tells_43 rfl (lv_at hl 1 rfl) ?_
        refine zr_aldi (j := s9) hx hb hK hH k20 (by rw [n20]; exact zh_ix_n (by omega) (by omega)) d_Mod_tells_44 ?_
        refine zt_i (y := m9 20 s9) (congrFun (hm.2.1 20 (by decide) (by decide) (by decide)) s9) ?_
        refine lv_goto (tgt := 81) hx hb d_Mod_tells_45 (by decide) ?_
        refine W.widen (k := 0) (n := 0) (Nat.le_of_ble_eq_true rfl) (Nat.le_of_ble_eq_true rfl) ?_
        subst hAe
        exact W.iret (v := m9 20 s9) hx hb hr (fun t ht hW => zc_end hS hH ht (⟨by rw [zo_tl, if_neg (by omega), if_neg (by omega), if_pos (by omega)], rfl, rfl, rfl, hm⟩)) hS.2.2 d_Mod_tells_81
    · skip
      have hc2 := zt_geF (a := i9) (b := 5) (by omega) (by omega) hc2
      refine lv_aload_n hx hb d_Mod_tells_16 rfl (lv_at hl 0 rfl) ?_
      refine zr_getr (ci := 6) (C := R_Mod) (T := T_Mod) (N := 37) (ref := "ScrubbedRecorderModel") hx hb hts (fun w h => List.mem_cons_of_mem _ (zin_Mod w h)) hown hK hH hm.1.1 (by decide) rfl 19 (by decide) rfl (hw zw_618) (fun _ h9 => h9) d_Mod_tells_17 (by rw [r19]) ?_
      refine lv_iload_n hx hb d_Mod_tells_20 rfl (lv_at hl 1 rfl) ?_
      refine zr_aldi (j := s9) hx hb hK hH k19 (by rw [n19]; exact zh_ix_n (by omega) (by omega)) d_Mod_tells_21 ?_
      refine zt_i (y := m9 19 s9) (congrFun (hm.2.1 19 (by decide) (by decide) (by decide)) s9) ?_
      refine lv_bipush (v := nI 8) hx hb d_Mod_tells_22 (by decide) ?_
      refine lv_iconst (v := nI 4) hx hb d_Mod_tells_24 (by decide) ?_
      refine lv_iload_n hx hb d_Mod_tells_25 rfl (lv_at hl 2 rfl) ?_
      refine lv_isub hx hb d_Mod_tells_26 ?_
      refine zt_i (y := nI (4 - i9)) (pk_sub (by omega)) ?_
      refine lv_imul hx hb d_Mod_tells_27 ?_
      refine zt_i (y := nI (8 * (4 - i9))) (pk_mul 8 (4 - i9)) ?_
      refine lv_ishr hx hb d_Mod_tells_28 ?_
      refine lv_sipush (v := nI 255) hx hb d_Mod_tells_29 (by decide) ?_
      refine lv_iand hx hb d_Mod_tells_32 ?_
      refine W.widen (k := 0) (n := 0) (Nat.le_of_ble_eq_true rfl) (Nat.le_of_ble_eq_true rfl) ?_
      subst hAe
      exact W.iret (v := ((m9 19 s9) >>> ((nI (8 * (4 - i9))) &&& 31)) &&& (nI 255)) hx hb hr (fun t ht hW => zc_end hS hH ht (⟨by rw [zo_tl, if_neg (by omega), if_pos (by omega)], rfl, rfl, rfl, hm⟩)) hS.2.2 d_Mod_tells_33
  · skip
    have hc1 := zt_neF (a := i9) (b := 0) (by omega) (by omega) hc1
    refine lv_aload_n hx hb d_Mod_tells_4 rfl (lv_at hl 0 rfl) ?_
    refine zr_getr (ci := 6) (C := R_Mod) (T := T_Mod) (N := 37) (ref := "ScrubbedRecorderModel") hx hb hts (fun w h => List.mem_cons_of_mem _ (zin_Mod w h)) hown hK hH hm.1.1 (by decide) rfl 18 (by decide) rfl (hw zw_617) (fun _ h9 => h9) d_Mod_tells_5 (by rw [r18]) ?_
    refine lv_iload_n hx hb d_Mod_tells_8 rfl (lv_at hl 1 rfl) ?_
    refine zr_aldi (j := s9) hx hb hK hH k18 (by rw [n18]; exact zh_ix_n (by omega) (by omega)) d_Mod_tells_9 ?_
    refine zt_i (y := m9 18 s9) (congrFun (hm.2.1 18 (by decide) (by decide) (by decide)) s9) ?_
    refine W.widen (k := 0) (n := 0) (Nat.le_of_ble_eq_true rfl) (Nat.le_of_ble_eq_true rfl) ?_
    subst hAe
    exact W.iret (v := m9 18 s9) hx hb hr (fun t ht hW => zc_end hS hH ht (⟨by rw [zo_tl, if_pos (by omega)], rfl, rfl, rfl, hm⟩)) hS.2.2 d_Mod_tells_10

set_option maxHeartbeats 4000000 in
set_option maxRecDepth 100000 in
/-- packetByte -/
theorem c_Mod_packetByte {l : Launch} {D : va_G} {cA : Nat → ClassId} {te mi : Nat} {kd ln : Nat → Nat} {I : Nat → Nat → Int32} {L : Nat → Nat → Int64} {R : Nat → Nat → Option Nat} {X : Nat} {ad : Nat → Nat} {m9 : Nat → Nat → Int32} {q9 : Nat → Nat → Int64} (hm : zoR X ad m9 q9 kd ln I L R) {x y z : Int32} (hsz : ∀ t, t < 280 → ∃ n, n ≤ 60 ∧ m9 20 t = nI n) : zc_M l y_Mod_packetByte w_Mod_packetByte { frames := 1, cells := 0, slots := 0, locals := 24 } 0 0 D cA te mi ([.ref X, .int x, .int y, .int z] : List Value) kd ln I L R (zo_P (some (.int (zo_pb m9 q9 x y z))) X ad m9 q9 kd ln R) := by
  intro sz
  refine Met.ofW (cc := b_Mod_packetByte) (maxL := 5) (ret := (some (.int))) (by decide +kernel) rfl ?_
  intro p e s m args below meth c s₁ B hml hv
  obtain ⟨rfl, hsz, hSc, hE, hH⟩ := hv
  have hx := B.exec
  have hb := B.bytes
  have hr := B.returns
  have hts := atoms_spec (ws := w_Mod_packetByte) B.pre
  have hw : ∀ {w : Cond}, w ∈ zw → w.before ([.ref X, .int x, .int y, .int z] : List Value).toArray s = true := fun h => hts _ (List.mem_cons_of_mem _ h)
  have hown : s.vm.findClass R_Mod = some m.cls := findClass_of_methodNamed B.named
  have hlocks := B.notSynchronized
  subst hsz
  have hK := hSc.1
  have hH : zh_H D cA (zc_A kd s.heap.size) kd ln I L R s.heap := hH.weaken (fun q h _ => Or.inl h)
  generalize hAe : zc_A kd s.heap.size = A at hH hE ⊢
  have hA : ∀ q : Nat, s.heap.size ≤ q → A q := fun q h => by rw [← hAe]; exact Or.inr h
  have hS : va_S A s.heap s.heap [] := va_S.rf
  have hl := lv_entry ([.ref X, .int x, .int y, .int z] : List Value) (n := 5) (Nat.le_of_ble_eq_true rfl)
  rw [lg_entry_eq]
  generalize (lg_sl ([.ref X, .int x, .int y, .int z] : List Value) ++ List.replicate (5 - (lg_sl ([.ref X, .int x, .int y, .int z] : List Value)).length) Slot.unset).toArray = ls at hl ⊢
  have hl : lv_has ls 5 [(0, .ref X), (1, .int x), (2, .int y), (3, .int z)] := hl
  have k20 : kd (ad 20) = 100 := (hm.1.2.1 20 (by decide) (by decide)).2.1
  have n20 : ln (ad 20) = 280 := (hm.1.2.1 20 (by decide) (by decide)).2.2
  have r20 : R X 20 = some (ad 20) := (hm.1.2.1 20 (by decide) (by decide)).1
  refine lv_iload_n hx hb d_Mod_packetByte_0 rfl (lv_at hl 1 rfl) ?_
  refine lv_if_ge (tgt := 8) hx hb d_Mod_packetByte_1 (by decide) (fun hc1 => ?_) (fun hc1 => ?_)
  · skip
    have hc1 : ¬ x < (nI 0) := Int32.not_lt.mpr hc1
    refine lv_aload_n hx hb d_Mod_packetByte_8 rfl (lv_at hl 0 rfl) ?_
    refine lv_iload_n hx hb d_Mod_packetByte_9 rfl (lv_at hl 1 rfl) ?_
    refine lv_iload_n hx hb d_Mod_packetByte_10 rfl (lv_at hl 2 rfl) ?_
    refine zr_V (As := ([.int x, .int y] : List Value)) (rest := []) (b := X) (ci := 6) (q := (R_Mod, T_Mod, 37)) ⟨hx, hb, hml, hown, hts⟩ (c_Mod_find hm ) ⟨(callB_of 2 hts (zg_all zw_793) rfl rfl rfl (hw zw_3) (hw zw_790) k_Mod_find.2 ⟨Nat.le_of_ble_eq_true rfl, Nat.le_of_ble_eq_true rfl⟩), (hw zw_792), (hw zs_Mod_find)⟩ hSc hE hH hS hA rfl (by decide) hm.1.1 rfl hl.1 rfl (Nat.le_of_ble_eq_true rfl) d_Mod_packetByte_11 ⟨Nat.le_of_ble_eq_true rfl, Nat.le_of_ble_eq_true rfl⟩ (fun v2 kd2 ln2 I2 L2 R2 H locs hp hH hS => ?_)
    obtain ⟨rfl, rfl, rfl, rfl, hm⟩ := hp
    refine W.eq (g2 := F0 m 14 ls [.int (zo_fd m9 x y 280)]) rfl ?_
    refine W.widen (k := 0) (n := 0) (by omega) (by omega) ?_
    refine lv_istore (lv' := [(4, .int (zo_fd m9 x y 280)), (0, .ref X), (1, .int x), (2, .int y), (3, .int z)]) hx hb d_Mod_packetByte_14 hl (by decide) rfl (fun ls hl => ?_)
    refine lv_iload hx hb d_Mod_packetByte_16 (lv_at hl 0 rfl) ?_
    refine lv_if_lt (tgt := 38) hx hb d_Mod_packetByte_18 (by decide) (fun hc3 => ?_) (fun hc3 => ?_)
    · skip
      have hc3 : (zo_fd m9 x y 280) < (nI 0) := hc3
      refine lv_iconst (v := (-1)) hx hb d_Mod_packetByte_38 (by decide) ?_
      refine lv_goto (tgt := 49) hx hb d_Mod_packetByte_39 (by decide) ?_
      refine W.widen (k := 0) (n := 0) (Nat.le_of_ble_eq_true rfl) (Nat.le_of_ble_eq_true rfl) ?_
      subst hAe
      exact W.iret (v := (-1)) hx hb hr (fun t ht hW => zc_end hS hH ht (⟨by rw [zo_pb, if_neg hc1, if_pos hc3], rfl, rfl, rfl, hm⟩)) hS.2.2 d_Mod_packetByte_49
    · skip
      have hc3 : ¬ (zo_fd m9 x y 280) < (nI 0) := hc3
      obtain ⟨s9, hs9, es9, -⟩ := zo_fd_of 280 (by omega) hc3
      have cs9 : (zo_fd m9 x y 280).toNatClampNeg = s9 := by rw [es9]; exact nI_clamp (by omega)
      have hl : lv_has ls 5 [(4, .int (nI s9)), (0, .ref X), (1, .int x), (2, .int y), (3, .int z)] := by rw [← es9]; exact hl
      refine lv_iload_n hx hb d_Mod_packetByte_21 rfl (lv_at hl 4 rfl) ?_
      refine lv_if_lt (tgt := 38) hx hb d_Mod_packetByte_22 (by decide) (fun hc4 => ?_) (fun hc4 => ?_)
      · skip
        have hc4 : z < (nI 0) := hc4
        refine lv_iconst (v := (-1)) hx hb d_Mod_packetByte_38 (by decide) ?_
        refine lv_goto (tgt := 49) hx hb d_Mod_packetByte_39 (by decide) ?_
        refine W.widen (k := 0) (n := 0) (Nat.le_of_ble_eq_true rfl) (Nat.le_of_ble_eq_true rfl) ?_
        subst hAe
        exact W.iret (v := (-1)) hx hb hr (fun t ht hW => zc_end hS hH ht (⟨by rw [zo_pb, if_neg hc1, if_neg hc3, cs9, if_pos hc4], rfl, rfl, rfl, hm⟩)) hS.2.2 d_Mod_packetByte_49
      · skip
        have hc4 : ¬ z < (nI 0) := hc4
        refine lv_iload_n hx hb d_Mod_packetByte_25 rfl (lv_at hl 4 rfl) ?_
        refine lv_iconst (v := nI 5) hx hb d_Mod_packetByte_26 (by decide) ?_
        refine lv_aload_n hx hb d_Mod_packetByte_27 rfl (lv_at hl 1 rfl) ?_
        refine zr_getr (ci := 6) (C := R_Mod) (T := T_Mod) (N := 37) (ref := "ScrubbedRecorderModel") hx hb hts (fun w h => List.mem_cons_of_mem _ (zin_Mod w h)) hown hK hH hm.1.1 (by decide) rfl 20 (by decide) rfl (hw zw_619) (fun _ h9 => h9) d_Mod_packetByte_28 (by rw [r20]) ?_
        refine lv_iload hx hb d_Mod_packetByte_31 (lv_at hl 0 rfl) ?_
        refine zr_aldi (j := s9) hx hb hK hH k20 (by rw [n20]; exact zh_ix_n (by omega) (by omega)) d_Mod_packetByte_33 ?_
        refine zt_i (y := m9 20 s9) (congrFun (hm.2.1 20 (by decide) (by decide) (by decide)) s9) ?_
        refine lv_iadd hx hb d_Mod_packetByte_34 ?_
        refine lv_icmp_le (tgt := 42) hx hb d_Mod_packetByte_35 (by decide) (fun hc5 => ?_) (fun hc5 => ?_)
        · skip
          have hc5 : ¬ ((nI 5) + (m9 20 s9)) < z := Int32.not_lt.mpr hc5
          obtain ⟨n9, hn9, en9⟩ := hsz s9 hs9
          have hz9 := hc5
          rw [en9, nI_add] at hz9
          obtain ⟨i9, hi9, rfl⟩ := zt_ix hc4 (zt_gt hz9 (by omega)) (by omega)
          refine lv_aload_n hx hb d_Mod_packetByte_42 rfl (lv_at hl 1 rfl) ?_
          refine lv_iload hx hb d_Mod_packetByte_43 (lv_at hl 0 rfl) ?_
          refine lv_iload_n hx hb d_Mod_packetByte_45 rfl (lv_at hl 4 rfl) ?_
          refine zr_V (As := ([.int (nI s9), .int (nI i9)] : List Value)) (rest := []) (b := X) (ci := 6) (q := (R_Mod, T_Mod, 37)) ⟨hx, hb, hml, hown, hts⟩ (c_Mod_tells hm (by omega) (by omega)) ⟨(callB_of 2 hts (zg_all zw_797) rfl rfl rfl (hw zw_3) (hw zw_794) k_Mod_tells.2 ⟨Nat.le_of_ble_eq_true rfl, Nat.le_of_ble_eq_true rfl⟩), (hw zw_796), (hw zs_Mod_tells)⟩ hSc hE hH hS hA rfl (by decide) hm.1.1 rfl hl.1 rfl (Nat.le_of_ble_eq_true rfl) d_Mod_packetByte_46 ⟨Nat.le_of_ble_eq_true rfl, Nat.le_of_ble_eq_true rfl⟩ (fun v6 kd6 ln6 I6 L6 R6 H locs hp hH hS => ?_)
          obtain ⟨rfl, rfl, rfl, rfl, hm⟩ := hp
          refine W.eq (g2 := F0 m 49 ls [.int (zo_tl m9 q9 s9 i9)]) rfl ?_
          refine W.widen (k := 0) (n := 0) (by omega) (by omega) ?_
          refine W.widen (k := 0) (n := 0) (Nat.le_of_ble_eq_true rfl) (Nat.le_of_ble_eq_true rfl) ?_
          subst hAe
          exact W.iret (v := zo_tl m9 q9 s9 i9) hx hb hr (fun t ht hW => zc_end hS hH ht (⟨by rw [zo_pb, if_neg hc1, if_neg hc3, cs9, if_neg hc4, if_neg hc5, nI_clamp (by omega)], rfl, rfl, rfl, hm⟩)) hS.2.2 d_Mod_packetByte_49
        · skip
          have hc5 : ((nI 5) + (m9 20 s9)) < z := Int32.not_le.mp hc5
          refine lv_iconst (v := (-1)) hx hb d_Mod_packetByte_38 (by decide) ?_
          refine lv_goto (tgt := 49) hx hb d_Mod_packetByte_39 (by decide) ?_
          refine W.widen (k := 0) (n := 0) (Nat.le_of_ble_eq_true rfl) (Nat.le_of_ble_eq_true rfl) ?_
          subst hAe
          exact W.iret (v := (-1)) hx hb hr (fun t ht hW => zc_end hS hH ht (⟨by rw [zo_pb, if_neg hc1, if_neg hc3, cs9, if_neg hc4, if_pos hc5], rfl, rfl, rfl, hm⟩)) hS.2.2 d_Mod_packetByte_49
  · skip
    have hc1 : x < (nI 0) := Int32.not_le.mp hc1
    refine lv_iconst (v := (-1)) hx hb d_Mod_packetByte_4 (by decide) ?_
    refine lv_goto (tgt := 14) hx hb d_Mod_packetByte_5 (by decide) ?_
    refine lv_istore (lv' := [(4, .int (-1)), (0, .ref X), (1, .int x), (2, .int y), (3, .int z)]) hx hb d_Mod_packetByte_14 hl (by decide) rfl (fun ls hl => ?_)
    refine lv_iload hx hb d_Mod_packetByte_16 (lv_at hl 0 rfl) ?_
    refine lv_if_lt (tgt := 38) hx hb d_Mod_packetByte_18 (by decide) (fun hc7 => ?_) (fun hc7 => ?_)
    · skip
      have hc7 : (-1) < (nI 0) := hc7
      refine lv_iconst (v := (-1)) hx hb d_Mod_packetByte_38 (by decide) ?_
      refine lv_goto (tgt := 49) hx hb d_Mod_packetByte_39 (by decide) ?_
      refine W.widen (k := 0) (n := 0) (Nat.le_of_ble_eq_true rfl) (Nat.le_of_ble_eq_true rfl) ?_
      subst hAe
      exact W.iret (v := (-1)) hx hb hr (fun t ht hW => zc_end hS hH ht (⟨by rw [zo_pb, if_pos hc1], rfl, rfl, rfl, hm⟩)) hS.2.2 d_Mod_packetByte_49
    · skip
      have hc7 : ¬ (-1) < (nI 0) := hc7
      exact absurd hc7 (by decide)

set_option maxHeartbeats 4000000 in
set_option maxRecDepth 100000 in
/-- seek -/
theorem c_Mod_seek {l : Launch} {D : va_G} {cA : Nat → ClassId} {te mi : Nat} {kd ln : Nat → Nat} {I : Nat → Nat → Int32} {L : Nat → Nat → Int64} {R : Nat → Nat → Option Nat} {X : Nat} {ad : Nat → Nat} {m9 : Nat → Nat → Int32} {q9 : Nat → Nat → Int64} (hm : zoR X ad m9 q9 kd ln I L R) {x y : Int32} : zc_M l y_Mod_seek w_Mod_seek { frames := 1, cells := 0, slots := 0, locals := 21 } 0 0 D cA te mi ([.ref X, .int x, .int y] : List Value) kd ln I L R (zo_P (some (.int (if zo_made (m9 7) x = nI 0 then (-1) else zo_se m9 x y 280))) X ad m9 q9 kd ln R) := by
  intro sz
  refine Met.ofW (cc := b_Mod_seek) (maxL := 6) (ret := (some (.int))) (by decide +kernel) rfl ?_
  intro p e s m args below meth c s₁ B hml hv
  obtain ⟨rfl, hsz, hSc, hE, hH⟩ := hv
  have hx := B.exec
  have hb := B.bytes
  have hr := B.returns
  have hts := atoms_spec (ws := w_Mod_seek) B.pre
  have hw : ∀ {w : Cond}, w ∈ zw → w.before ([.ref X, .int x, .int y] : List Value).toArray s = true := fun h => hts _ (List.mem_cons_of_mem _ h)
  have hown : s.vm.findClass R_Mod = some m.cls := findClass_of_methodNamed B.named
  have hlocks := B.notSynchronized
  subst hsz
  have hK := hSc.1
  have hH : zh_H D cA (zc_A kd s.heap.size) kd ln I L R s.heap := hH.weaken (fun q h _ => Or.inl h)
  generalize hAe : zc_A kd s.heap.size = A at hH hE ⊢
  have hA : ∀ q : Nat, s.heap.size ≤ q → A q := fun q h => by rw [← hAe]; exact Or.inr h
  have hS : va_S A s.heap s.heap [] := va_S.rf
  have hl := lv_entry ([.ref X, .int x, .int y] : List Value) (n := 6) (Nat.le_of_ble_eq_true rfl)
  rw [lg_entry_eq]
  generalize (lg_sl ([.ref X, .int x, .int y] : List Value) ++ List.replicate (6 - (lg_sl ([.ref X, .int x, .int y] : List Value)).length) Slot.unset).toArray = ls at hl ⊢
  have hl : lv_has ls 6 [(0, .ref X), (1, .int x), (2, .int y)] := hl
  have k16 : kd (ad 16) = 100 := (hm.1.2.1 16 (by decide) (by decide)).2.1
  have n16 : ln (ad 16) = 280 := (hm.1.2.1 16 (by decide) (by decide)).2.2
  have r16 : R X 16 = some (ad 16) := (hm.1.2.1 16 (by decide) (by decide)).1
  have k17 : kd (ad 17) = 100 := (hm.1.2.1 17 (by decide) (by decide)).2.1
  have n17 : ln (ad 17) = 280 := (hm.1.2.1 17 (by decide) (by decide)).2.2
  have r17 : R X 17 = some (ad 17) := (hm.1.2.1 17 (by decide) (by decide)).1
  have k19 : kd (ad 19) = 100 := (hm.1.2.1 19 (by decide) (by decide)).2.1
  have n19 : ln (ad 19) = 280 := (hm.1.2.1 19 (by decide) (by decide)).2.2
  have r19 : R X 19 = some (ad 19) := (hm.1.2.1 19 (by decide) (by decide)).1
  refine lv_iconst (v := (-1)) hx hb d_Mod_seek_0 (by decide) ?_
  refine lv_istore_n (lv' := [(3, .int (-1)), (0, .ref X), (1, .int x), (2, .int y)]) hx hb d_Mod_seek_1 rfl hl (by decide) rfl (fun ls hl => ?_)
  refine lv_iconst (v := nI 0) hx hb d_Mod_seek_2 (by decide) ?_
  refine lv_istore (lv' := [(4, .int (nI 0)), (3, .int (-1)), (0, .ref X), (1, .int x), (2, .int y)]) hx hb d_Mod_seek_3 hl (by decide) rfl (fun ls hl => ?_)
  have loop_5 : ∀ (z : Nat) (i : Nat) (I_5 : Nat → Nat → Int32) (L_5 : Nat → Nat → Int64) (H : Heap) (locs : List Loc) (ls : Array Slot), 280 - i < z → (i ≤ 280) → (i = 0 ∨ ¬ zo_made (m9 7) x = nI 0) → (zoR X ad m9 q9 kd ln I_5 L_5 R) → lv_has ls 6 [(0, .ref X), (1, .int x), (2, .int y), (3, .int (zo_se m9 x y i)), (4, .int (nI i))] → zh_H D cA A kd ln I_5 L_5 R H → va_S A s.heap H locs → W p l e (headSpec w_Mod_seek { frames := 1, cells := 0, slots := 0, locals := 21 }).room s m ([.ref X, .int x, .int y] : List Value).toArray below meth c H locs 0 0 (MQ below (zc_Qc D cA A (zo_P (some (.int (if zo_made (m9 7) x = nI 0 then (-1) else zo_se m9 x y 280))) X ad m9 q9 kd ln R)) ([.ref X, .int x, .int y] : List Value).toArray s 0 0 A) (F0 m 5 ls []) := by
    intro z
    induction z with
    | zero => intro i I_5 L_5 H locs ls hz; exact absurd hz (Nat.not_lt_zero _)
    | succ z ih_5 =>
      intro i I_5 L_5 H locs ls hz_5 hi hmd hm hl hH hS
      refine lv_iload hx hb d_Mod_seek_5 (lv_at hl 4 rfl) ?_
      refine lv_sipush (v := nI 280) hx hb d_Mod_seek_7 (by decide) ?_
      refine lv_icmp_ge (tgt := 88) hx hb d_Mod_seek_10 (by decide) (fun hc1 => ?_) (fun hc1 => ?_)
      · skip
        have hc1 := zt_geT (a := i) (b := 280) (by omega) (by omega) hc1
        refine lv_iload_n hx hb d_Mod_seek_88 rfl (lv_at hl 3 rfl) ?_
        refine W.widen (k := 0) (n := 0) (Nat.le_of_ble_eq_true rfl) (Nat.le_of_ble_eq_true rfl) ?_
        subst hAe
        exact W.iret (v := zo_se m9 x y i) hx hb hr (fun t ht hW => zc_end hS hH ht (⟨by rw [if_neg (hmd.resolve_left (by omega)), show i = 280 by omega], rfl, rfl, rfl, hm⟩)) hS.2.2 d_Mod_seek_89
      · skip
        have hc1 := zt_geF (a := i) (b := 280) (by omega) (by omega) hc1
        refine lv_aload_n hx hb d_Mod_seek_13 rfl (lv_at hl 0 rfl) ?_
        refine lv_iload_n hx hb d_Mod_seek_14 rfl (lv_at hl 1 rfl) ?_
        refine zr_V (As := ([.int x] : List Value)) (rest := []) (b := X) (ci := 6) (q := (R_Mod, T_Mod, 37)) ⟨hx, hb, hml, hown, hts⟩ (c_Mod_isMade hm ) ⟨(callB_of 1 hts (zg_all zw_757) rfl rfl rfl (hw zw_3) (hw zw_754) k_Mod_isMade.2 ⟨Nat.le_of_ble_eq_true rfl, Nat.le_of_ble_eq_true rfl⟩), (hw zw_756), (hw zs_Mod_isMade)⟩ hSc hE hH hS hA rfl (by decide) hm.1.1 rfl hl.1 rfl (Nat.le_of_ble_eq_true rfl) d_Mod_seek_15 ⟨Nat.le_of_ble_eq_true rfl, Nat.le_of_ble_eq_true rfl⟩ (fun v2 kd2 ln2 I2 L2 R2 H locs hp hH hS => ?_)
        obtain ⟨rfl, rfl, rfl, rfl, hm⟩ := hp
        refine W.eq (g2 := F0 m 18 ls [.int (zo_made (m9 7) x)]) rfl ?_
        refine W.widen (k := 0) (n := 0) (by omega) (by omega) ?_
        refine lv_if_eq (tgt := 88) hx hb d_Mod_seek_18 (by decide) (fun hc3 => ?_) (fun hc3 => ?_)
        · skip
          have hc3 : (zo_made (m9 7) x) = (nI 0) := hc3
          refine lv_iload_n hx hb d_Mod_seek_88 rfl (lv_at hl 3 rfl) ?_
          refine W.widen (k := 0) (n := 0) (Nat.le_of_ble_eq_true rfl) (Nat.le_of_ble_eq_true rfl) ?_
          subst hAe
          exact W.iret (v := zo_se m9 x y i) hx hb hr (fun t ht hW => zc_end hS hH ht (⟨by rw [if_pos hc3, (hmd.resolve_right (fun q => q hc3))]; rfl, rfl, rfl, rfl, hm⟩)) hS.2.2 d_Mod_seek_89
        · skip
          have hc3 : ¬ (zo_made (m9 7) x) = (nI 0) := hc3
          refine lv_aload_n hx hb d_Mod_seek_21 rfl (lv_at hl 0 rfl) ?_
          refine zr_getr (ci := 6) (C := R_Mod) (T := T_Mod) (N := 37) (ref := "ScrubbedRecorderModel") hx hb hts (fun w h => List.mem_cons_of_mem _ (zin_Mod w h)) hown hK hH hm.1.1 (by decide) rfl 16 (by decide) rfl (hw zw_615) (fun _ h9 => h9) d_Mod_seek_22 (by rw [r16]) ?_
          refine lv_iload hx hb d_Mod_seek_25 (lv_at hl 4 rfl) ?_
          refine zr_aldi (j := i) hx hb hK hH k16 (by rw [n16]; exact zh_ix_n (by omega) (by omega)) d_Mod_seek_27 ?_
          refine zt_i (y := m9 16 i) (congrFun (hm.2.1 16 (by decide) (by decide) (by decide)) i) ?_
          refine lv_iload_n hx hb d_Mod_seek_28 rfl (lv_at hl 1 rfl) ?_
          refine lv_icmp_ne (tgt := 47) hx hb d_Mod_seek_29 (by decide) (fun hc4 => ?_) (fun hc4 => ?_)
          · skip
            have hc4 : ¬ (m9 16 i) = x := hc4
            refine lv_iconst (v := nI 0) hx hb d_Mod_seek_47 (by decide) ?_
            refine lv_istore (lv' := [(5, .int (nI 0)), (0, .ref X), (1, .int x), (2, .int y), (3, .int (zo_se m9 x y i)), (4, .int (nI i))]) hx hb d_Mod_seek_48 hl (by decide) rfl (fun ls hl => ?_)
            refine lv_iload hx hb d_Mod_seek_50 (lv_at hl 0 rfl) ?_
            refine lv_if_eq (tgt := 80) hx hb d_Mod_seek_52 (by decide) (fun hc5 => ?_) (fun hc5 => ?_)
            · skip
              have hc5 := zt_eqT (a := 0) (b := 0) (by omega) (by omega) hc5
              refine lv_iload_n hx hb d_Mod_seek_80 rfl (lv_at hl 4 rfl) ?_
              refine lv_istore_n (lv' := [(3, .int (zo_se m9 x y i)), (5, .int (nI 0)), (0, .ref X), (1, .int x), (2, .int y), (4, .int (nI i))]) hx hb d_Mod_seek_81 rfl hl (by decide) rfl (fun ls hl => ?_)
              refine lv_iinc (k := 5) (v := nI (i + 1)) (lv' := [(4, .int (nI (i + 1))), (3, .int (zo_se m9 x y i)), (5, .int (nI 0)), (0, .ref X), (1, .int x), (2, .int y)]) hx hb d_Mod_seek_82 hl rfl (nI_add i 1) (by decide) rfl (fun ls hl => ?_)
              refine lv_goto (tgt := 5) hx hb d_Mod_seek_85 (by decide) ?_
              have e6 : zo_se m9 x y (i + 1) = zo_se m9 x y i := by rw [zo_se, if_neg hc4]
              have hl : lv_has ls 6 [(4, .int (nI (i + 1))), (3, .int (zo_se m9 x y (i + 1))), (5, .int (nI 0)), (0, .ref X), (1, .int x), (2, .int y)] := by rw [e6]; exact hl
              exact ih_5 (i + 1) _ _ _ _ _ (by omega) (by omega) (Or.inr hc3) hm (lv_sub hl [3, 4, 5, 1, 0] rfl) hH hS
            · skip
              have hc5 := zt_eqF (a := 0) (b := 0) (by omega) (by omega) hc5
              exact absurd hc5 (by omega)
          · skip
            have hc4 : (m9 16 i) = x := hc4
            refine lv_aload_n hx hb d_Mod_seek_32 rfl (lv_at hl 0 rfl) ?_
            refine zr_getr (ci := 6) (C := R_Mod) (T := T_Mod) (N := 37) (ref := "ScrubbedRecorderModel") hx hb hts (fun w h => List.mem_cons_of_mem _ (zin_Mod w h)) hown hK hH hm.1.1 (by decide) rfl 19 (by decide) rfl (hw zw_618) (fun _ h9 => h9) d_Mod_seek_33 (by rw [r19]) ?_
            refine lv_iload hx hb d_Mod_seek_36 (lv_at hl 4 rfl) ?_
            refine zr_aldi (j := i) hx hb hK hH k19 (by rw [n19]; exact zh_ix_n (by omega) (by omega)) d_Mod_seek_38 ?_
            refine zt_i (y := m9 19 i) (congrFun (hm.2.1 19 (by decide) (by decide) (by decide)) i) ?_
            refine lv_iload_n hx hb d_Mod_seek_39 rfl (lv_at hl 2 rfl) ?_
            refine lv_icmp_lt (tgt := 47) hx hb d_Mod_seek_40 (by decide) (fun hc7 => ?_) (fun hc7 => ?_)
            · skip
              have hc7 : (m9 19 i) < y := hc7
              refine lv_iconst (v := nI 0) hx hb d_Mod_seek_47 (by decide) ?_
              refine lv_istore (lv' := [(5, .int (nI 0)), (0, .ref X), (1, .int x), (2, .int y), (3, .int (zo_se m9 x y i)), (4, .int (nI i))]) hx hb d_Mod_seek_48 hl (by decide) rfl (fun ls hl => ?_)
              refine lv_iload hx hb d_Mod_seek_50 (lv_at hl 0 rfl) ?_
              refine lv_if_eq (tgt := 80) hx hb d_Mod_seek_52 (by decide) (fun hc8 => ?_) (fun hc8 => ?_)
              · skip
                have hc8 := zt_eqT (a := 0) (b := 0) (by omega) (by omega) hc8
                refine lv_iload_n hx hb d_Mod_seek_80 rfl (lv_at hl 4 rfl) ?_
                refine lv_istore_n (lv' := [(3, .int (zo_se m9 x y i)), (5, .int (nI 0)), (0, .ref X), (1, .int x), (2, .int y), (4, .int (nI i))]) hx hb d_Mod_seek_81 rfl hl (by decide) rfl (fun ls hl => ?_)
                refine lv_iinc (k := 5) (v := nI (i + 1)) (lv' := [(4, .int (nI (i + 1))), (3, .int (zo_se m9 x y i)), (5, .int (nI 0)), (0, .ref X), (1, .int x), (2, .int y)]) hx hb d_Mod_seek_82 hl rfl (nI_add i 1) (by decide) rfl (fun ls hl => ?_)
                refine lv_goto (tgt := 5) hx hb d_Mod_seek_85 (by decide) ?_
                have e9 : zo_se m9 x y (i + 1) = zo_se m9 x y i := by rw [zo_se, if_pos hc4, if_pos hc7]
                have hl : lv_has ls 6 [(4, .int (nI (i + 1))), (3, .int (zo_se m9 x y (i + 1))), (5, .int (nI 0)), (0, .ref X), (1, .int x), (2, .int y)] := by rw [e9]; exact hl
                exact ih_5 (i + 1) _ _ _ _ _ (by omega) (by omega) (Or.inr hc3) hm (lv_sub hl [3, 4, 5, 1, 0] rfl) hH hS
              · skip
                have hc8 := zt_eqF (a := 0) (b := 0) (by omega) (by omega) hc8
                exact absurd hc8 (by omega)
            · skip
              have hc7 : ¬ (m9 19 i) < y := hc7
              refine lv_iconst (v := nI 1) hx hb d_Mod_seek_43 (by decide) ?_
              refine lv_goto (tgt := 48) hx hb d_Mod_seek_44 (by decide) ?_
              refine lv_istore (lv' := [(5, .int (nI 1)), (0, .ref X), (1, .int x), (2, .int y), (3, .int (zo_se m9 x y i)), (4, .int (nI i))]) hx hb d_Mod_seek_48 hl (by decide) rfl (fun ls hl => ?_)
              refine lv_iload hx hb d_Mod_seek_50 (lv_at hl 0 rfl) ?_
              refine lv_if_eq (tgt := 80) hx hb d_Mod_seek_52 (by decide) (fun hc10 => ?_) (fun hc10 => ?_)
              · skip
                have hc10 := zt_eqT (a := 1) (b := 0) (by omega) (by omega) hc10
                exact absurd hc10 (by omega)
              · skip
                have hc10 := zt_eqF (a := 1) (b := 0) (by omega) (by omega) hc10
                refine lv_iload_n hx hb d_Mod_seek_55 rfl (lv_at hl 4 rfl) ?_
                refine lv_if_lt (tgt := 70) hx hb d_Mod_seek_56 (by decide) (fun hc11 => ?_) (fun hc11 => ?_)
                · skip
                  have hc11 : (zo_se m9 x y i) < (nI 0) := hc11
                  refine lv_aload_n hx hb d_Mod_seek_70 rfl (lv_at hl 1 rfl) ?_
                  refine zr_getr (ci := 6) (C := R_Mod) (T := T_Mod) (N := 37) (ref := "ScrubbedRecorderModel") hx hb hts (fun w h => List.mem_cons_of_mem _ (zin_Mod w h)) hown hK hH hm.1.1 (by decide) rfl 17 (by decide) rfl (hw zw_616) (fun _ h9 => h9) d_Mod_seek_71 (by rw [r17]) ?_
                  refine lv_iload hx hb d_Mod_seek_74 (lv_at hl 5 rfl) ?_
                  refine zr_aldi (j := i) hx hb hK hH k17 (by rw [n17]; exact zh_ix_n (by omega) (by omega)) d_Mod_seek_76 ?_
                  refine zt_i (y := m9 17 i) (congrFun (hm.2.1 17 (by decide) (by decide) (by decide)) i) ?_
                  refine lv_goto (tgt := 81) hx hb d_Mod_seek_77 (by decide) ?_
                  refine lv_istore_n (lv' := [(3, .int (m9 17 i)), (5, .int (nI 1)), (0, .ref X), (1, .int x), (2, .int y), (4, .int (nI i))]) hx hb d_Mod_seek_81 rfl hl (by decide) rfl (fun ls hl => ?_)
                  refine lv_iinc (k := 5) (v := nI (i + 1)) (lv' := [(4, .int (nI (i + 1))), (3, .int (m9 17 i)), (5, .int (nI 1)), (0, .ref X), (1, .int x), (2, .int y)]) hx hb d_Mod_seek_82 hl rfl (nI_add i 1) (by decide) rfl (fun ls hl => ?_)
                  refine lv_goto (tgt := 5) hx hb d_Mod_seek_85 (by decide) ?_
                  have e12 : zo_se m9 x y (i + 1) = m9 17 i := by rw [zo_se, if_pos hc4, if_neg hc7, if_pos hc11]
                  have hl : lv_has ls 6 [(4, .int (nI (i + 1))), (3, .int (zo_se m9 x y (i + 1))), (5, .int (nI 1)), (0, .ref X), (1, .int x), (2, .int y)] := by rw [e12]; exact hl
                  exact ih_5 (i + 1) _ _ _ _ _ (by omega) (by omega) (Or.inr hc3) hm (lv_sub hl [3, 4, 5, 1, 0] rfl) hH hS
                · skip
                  have hc11 : ¬ (zo_se m9 x y i) < (nI 0) := hc11
                  refine lv_aload_n hx hb d_Mod_seek_59 rfl (lv_at hl 1 rfl) ?_
                  refine zr_getr (ci := 6) (C := R_Mod) (T := T_Mod) (N := 37) (ref := "ScrubbedRecorderModel") hx hb hts (fun w h => List.mem_cons_of_mem _ (zin_Mod w h)) hown hK hH hm.1.1 (by decide) rfl 17 (by decide) rfl (hw zw_616) (fun _ h9 => h9) d_Mod_seek_60 (by rw [r17]) ?_
                  refine lv_iload hx hb d_Mod_seek_63 (lv_at hl 5 rfl) ?_
                  refine zr_aldi (j := i) hx hb hK hH k17 (by rw [n17]; exact zh_ix_n (by omega) (by omega)) d_Mod_seek_65 ?_
                  refine zt_i (y := m9 17 i) (congrFun (hm.2.1 17 (by decide) (by decide) (by decide)) i) ?_
                  refine lv_iload_n hx hb d_Mod_seek_66 rfl (lv_at hl 4 rfl) ?_
                  refine lv_icmp_ge (tgt := 80) hx hb d_Mod_seek_67 (by decide) (fun hc13 => ?_) (fun hc13 => ?_)
                  · skip
                    have hc13 : ¬ (m9 17 i) < (zo_se m9 x y i) := Int32.not_lt.mpr hc13
                    refine lv_iload_n hx hb d_Mod_seek_80 rfl (lv_at hl 4 rfl) ?_
                    refine lv_istore_n (lv' := [(3, .int (zo_se m9 x y i)), (5, .int (nI 1)), (0, .ref X), (1, .int x), (2, .int y), (4, .int (nI i))]) hx hb d_Mod_seek_81 rfl hl (by decide) rfl (fun ls hl => ?_)
                    refine lv_iinc (k := 5) (v := nI (i + 1)) (lv' := [(4, .int (nI (i + 1))), (3, .int (zo_se m9 x y i)), (5, .int (nI 1)), (0, .ref X), (1, .int x), (2, .int y)]) hx hb d_Mod_seek_82 hl rfl (nI_add i 1) (by decide) rfl (fun ls hl => ?_)
                    refine lv_goto (tgt := 5) hx hb d_Mod_seek_85 (by decide) ?_
                    have e14 : zo_se m9 x y (i + 1) = zo_se m9 x y i := by rw [zo_se, if_pos hc4, if_neg hc7, if_neg hc11, if_neg hc13]
                    have hl : lv_has ls 6 [(4, .int (nI (i + 1))), (3, .int (zo_se m9 x y (i + 1))), (5, .int (nI 1)), (0, .ref X), (1, .int x), (2, .int y)] := by rw [e14]; exact hl
                    exact ih_5 (i + 1) _ _ _ _ _ (by omega) (by omega) (Or.inr hc3) hm (lv_sub hl [3, 4, 5, 1, 0] rfl) hH hS
                  · skip
                    have hc13 : (m9 17 i) < (zo_se m9 x y i) := Int32.not_le.mp hc13
                    refine lv_aload_n hx hb d_Mod_seek_70 rfl (lv_at hl 1 rfl) ?_
                    refine zr_getr (ci := 6) (C := R_Mod) (T := T_Mod) (N := 37) (ref := "ScrubbedRecorderModel") hx hb hts (fun w h => List.mem_cons_of_mem _ (zin_Mod w h)) hown hK hH hm.1.1 (by decide) rfl 17 (by decide) rfl (hw zw_616) (fun _ h9 => h9) d_Mod_seek_71 (by rw [r17]) ?_
                    refine lv_iload hx hb d_Mod_seek_74 (lv_at hl 5 rfl) ?_
                    refine zr_aldi (j := i) hx hb hK hH k17 (by rw [n17]; exact zh_ix_n (by omega) (by omega)) d_Mod_seek_76 ?_
                    refine zt_i (y := m9 17 i) (congrFun (hm.2.1 17 (by decide) (by decide) (by decide)) i) ?_
                    refine lv_goto (tgt := 81) hx hb d_Mod_seek_77 (by decide) ?_
                    refine lv_istore_n (lv' := [(3, .int (m9 17 i)), (5, .int (nI 1)), (0, .ref X), (1, .int x), (2, .int y), (4, .int (nI i))]) hx hb d_Mod_seek_81 rfl hl (by decide) rfl (fun ls hl => ?_)
                    refine lv_iinc (k := 5) (v := nI (i + 1)) (lv' := [(4, .int (nI (i + 1))), (3, .int (m9 17 i)), (5, .int (nI 1)), (0, .ref X), (1, .int x), (2, .int y)]) hx hb d_Mod_seek_82 hl rfl (nI_add i 1) (by decide) rfl (fun ls hl => ?_)
                    refine lv_goto (tgt := 5) hx hb d_Mod_seek_85 (by decide) ?_
                    have e15 : zo_se m9 x y (i + 1) = m9 17 i := by rw [zo_se, if_pos hc4, if_neg hc7, if_neg hc11, if_pos hc13]
                    have hl : lv_has ls 6 [(4, .int (nI (i + 1))), (3, .int (zo_se m9 x y (i + 1))), (5, .int (nI 1)), (0, .ref X), (1, .int x), (2, .int y)] := by rw [e15]; exact hl
                    exact ih_5 (i + 1) _ _ _ _ _ (by omega) (by omega) (Or.inr hc3) hm (lv_sub hl [3, 4, 5, 1, 0] rfl) hH hS
  exact loop_5 _ 0 _ _ _ _ _ (Nat.lt_succ_self _) (by omega) (Or.inl rfl) hm (lv_sub hl [2, 3, 4, 1, 0] rfl) hH hS

set_option maxHeartbeats 4000000 in
set_option maxRecDepth 100000 in
/-- makeStore -/
theorem c_Mod_makeStore {l : Launch} {D : va_G} {cA : Nat → ClassId} {te mi : Nat} {kd ln : Nat → Nat} {I : Nat → Nat → Int32} {L : Nat → Nat → Int64} {R : Nat → Nat → Option Nat} {X : Nat} {ad : Nat → Nat} {m9 : Nat → Nat → Int32} {q9 : Nat → Nat → Int64} (hm : zoR X ad m9 q9 kd ln I L R) {x b y : Int32} (hb01 : b = nI 0 ∨ b = nI 1) : zc_M l y_Mod_makeStore w_Mod_makeStore { frames := 1, cells := 0, slots := 0, locals := 22 } 0 0 D cA te mi ([.ref X, .int x, .int b, .int y] : List Value) kd ln I L R (zo_P (some (.int ((zo_mk m9 x b y).1))) X ad ((zo_mk m9 x b y).2) q9 kd ln R) := by
  intro sz
  refine Met.ofW (cc := b_Mod_makeStore) (maxL := 4) (ret := (some (.int))) (by decide +kernel) rfl ?_
  intro p e s m args below meth c s₁ B hml hv
  obtain ⟨rfl, hsz, hSc, hE, hH⟩ := hv
  have hx := B.exec
  have hb := B.bytes
  have hr := B.returns
  have hts := atoms_spec (ws := w_Mod_makeStore) B.pre
  have hw : ∀ {w : Cond}, w ∈ zw → w.before ([.ref X, .int x, .int b, .int y] : List Value).toArray s = true := fun h => hts _ (List.mem_cons_of_mem _ h)
  have hown : s.vm.findClass R_Mod = some m.cls := findClass_of_methodNamed B.named
  have hlocks := B.notSynchronized
  subst hsz
  have hK := hSc.1
  have hH : zh_H D cA (zc_A kd s.heap.size) kd ln I L R s.heap := hH.weaken (fun q h _ => Or.inl h)
  generalize hAe : zc_A kd s.heap.size = A at hH hE ⊢
  have hA : ∀ q : Nat, s.heap.size ≤ q → A q := fun q h => by rw [← hAe]; exact Or.inr h
  have hS : va_S A s.heap s.heap [] := va_S.rf
  have hl := lv_entry ([.ref X, .int x, .int b, .int y] : List Value) (n := 4) (Nat.le_of_ble_eq_true rfl)
  rw [lg_entry_eq]
  generalize (lg_sl ([.ref X, .int x, .int b, .int y] : List Value) ++ List.replicate (4 - (lg_sl ([.ref X, .int x, .int b, .int y] : List Value)).length) Slot.unset).toArray = ls at hl ⊢
  have hl : lv_has ls 4 [(0, .ref X), (1, .int x), (2, .int b), (3, .int y)] := hl
  have k7 : kd (ad 7) = 103 := (hm.1.2.1 7 (by decide) (by decide)).2.1
  have n7 : ln (ad 7) = 4 := (hm.1.2.1 7 (by decide) (by decide)).2.2
  have r7 : R X 7 = some (ad 7) := (hm.1.2.1 7 (by decide) (by decide)).1
  have k8 : kd (ad 8) = 103 := (hm.1.2.1 8 (by decide) (by decide)).2.1
  have n8 : ln (ad 8) = 4 := (hm.1.2.1 8 (by decide) (by decide)).2.2
  have r8 : R X 8 = some (ad 8) := (hm.1.2.1 8 (by decide) (by decide)).1
  have k9 : kd (ad 9) = 100 := (hm.1.2.1 9 (by decide) (by decide)).2.1
  have n9 : ln (ad 9) = 4 := (hm.1.2.1 9 (by decide) (by decide)).2.2
  have r9 : R X 9 = some (ad 9) := (hm.1.2.1 9 (by decide) (by decide)).1
  have k10 : kd (ad 10) = 100 := (hm.1.2.1 10 (by decide) (by decide)).2.1
  have n10 : ln (ad 10) = 4 := (hm.1.2.1 10 (by decide) (by decide)).2.2
  have r10 : R X 10 = some (ad 10) := (hm.1.2.1 10 (by decide) (by decide)).1
  have k11 : kd (ad 11) = 100 := (hm.1.2.1 11 (by decide) (by decide)).2.1
  have n11 : ln (ad 11) = 4 := (hm.1.2.1 11 (by decide) (by decide)).2.2
  have r11 : R X 11 = some (ad 11) := (hm.1.2.1 11 (by decide) (by decide)).1
  have k12 : kd (ad 12) = 100 := (hm.1.2.1 12 (by decide) (by decide)).2.1
  have n12 : ln (ad 12) = 4 := (hm.1.2.1 12 (by decide) (by decide)).2.2
  have r12 : R X 12 = some (ad 12) := (hm.1.2.1 12 (by decide) (by decide)).1
  have k13 : kd (ad 13) = 100 := (hm.1.2.1 13 (by decide) (by decide)).2.1
  have n13 : ln (ad 13) = 4 := (hm.1.2.1 13 (by decide) (by decide)).2.2
  have r13 : R X 13 = some (ad 13) := (hm.1.2.1 13 (by decide) (by decide)).1
  refine lv_iload_n hx hb d_Mod_makeStore_0 rfl (lv_at hl 1 rfl) ?_
  refine lv_if_lt (tgt := 20) hx hb d_Mod_makeStore_1 (by decide) (fun hc1 => ?_) (fun hc1 => ?_)
  · skip
    have hc1 : x < (nI 0) := hc1
    refine lv_bipush (v := (-2)) hx hb d_Mod_makeStore_20 (by decide) ?_
    have hres : zo_mk m9 x b y = ((-2), m9) := by rw [zo_mk, if_pos hc1]
    refine W.widen (k := 0) (n := 0) (Nat.le_of_ble_eq_true rfl) (Nat.le_of_ble_eq_true rfl) ?_
    subst hAe
    exact W.iret (v := (-2)) hx hb hr (fun t ht hW => zc_end hS hH ht (⟨by rw [hres], rfl, rfl, rfl, by rw [hres]; exact hm⟩)) hS.2.2 d_Mod_makeStore_22
  · skip
    have hc1 : ¬ x < (nI 0) := hc1
    refine lv_iload_n hx hb d_Mod_makeStore_4 rfl (lv_at hl 1 rfl) ?_
    refine lv_iconst (v := nI 3) hx hb d_Mod_makeStore_5 (by decide) ?_
    refine lv_icmp_gt (tgt := 20) hx hb d_Mod_makeStore_6 (by decide) (fun hc2 => ?_) (fun hc2 => ?_)
    · skip
      have hc2 : (nI 3) < x := hc2
      refine lv_bipush (v := (-2)) hx hb d_Mod_makeStore_20 (by decide) ?_
      have hres : zo_mk m9 x b y = ((-2), m9) := by rw [zo_mk, if_neg hc1, if_pos hc2]
      refine W.widen (k := 0) (n := 0) (Nat.le_of_ble_eq_true rfl) (Nat.le_of_ble_eq_true rfl) ?_
      subst hAe
      exact W.iret (v := (-2)) hx hb hr (fun t ht hW => zc_end hS hH ht (⟨by rw [hres], rfl, rfl, rfl, by rw [hres]; exact hm⟩)) hS.2.2 d_Mod_makeStore_22
    · skip
      have hc2 : ¬ (nI 3) < x := hc2
      obtain ⟨j1, hj1, rfl⟩ := zt_ix hc1 (zt_gt hc2 (by decide)) (by decide)
      refine lv_iload_n hx hb d_Mod_makeStore_9 rfl (lv_at hl 3 rfl) ?_
      refine lv_iconst (v := nI 3) hx hb d_Mod_makeStore_10 (by decide) ?_
      refine lv_icmp_lt (tgt := 20) hx hb d_Mod_makeStore_11 (by decide) (fun hc3 => ?_) (fun hc3 => ?_)
      · skip
        have hc3 : y < (nI 3) := hc3
        refine lv_bipush (v := (-2)) hx hb d_Mod_makeStore_20 (by decide) ?_
        have hres : zo_mk m9 (nI j1) b y = ((-2), m9) := by rw [zo_mk, if_neg hc1, if_neg hc2, if_pos hc3]
        refine W.widen (k := 0) (n := 0) (Nat.le_of_ble_eq_true rfl) (Nat.le_of_ble_eq_true rfl) ?_
        subst hAe
        exact W.iret (v := (-2)) hx hb hr (fun t ht hW => zc_end hS hH ht (⟨by rw [hres], rfl, rfl, rfl, by rw [hres]; exact hm⟩)) hS.2.2 d_Mod_makeStore_22
      · skip
        have hc3 : ¬ y < (nI 3) := hc3
        refine lv_iload_n hx hb d_Mod_makeStore_14 rfl (lv_at hl 3 rfl) ?_
        refine lv_bipush (v := nI 40) hx hb d_Mod_makeStore_15 (by decide) ?_
        refine lv_icmp_le (tgt := 23) hx hb d_Mod_makeStore_17 (by decide) (fun hc4 => ?_) (fun hc4 => ?_)
        · skip
          have hc4 : ¬ (nI 40) < y := Int32.not_lt.mpr hc4
          refine lv_aload_n hx hb d_Mod_makeStore_23 rfl (lv_at hl 0 rfl) ?_
          refine zr_getr (ci := 6) (C := R_Mod) (T := T_Mod) (N := 37) (ref := "ScrubbedRecorderModel") hx hb hts (fun w h => List.mem_cons_of_mem _ (zin_Mod w h)) hown hK hH hm.1.1 (by decide) rfl 7 (by decide) rfl (hw zw_606) (fun _ h9 => h9) d_Mod_makeStore_24 (by rw [r7]) ?_
          refine lv_iload_n hx hb d_Mod_makeStore_27 rfl (lv_at hl 1 rfl) ?_
          refine zr_aldz (j := j1) hx hb hK hH k7 (by rw [n7]; exact zh_ix_n (by omega) (by omega)) d_Mod_makeStore_28 ?_
          refine zt_i (y := m9 7 j1) (congrFun (hm.2.1 7 (by decide) (by decide) (by decide)) j1) ?_
          refine lv_if_eq (tgt := 35) hx hb d_Mod_makeStore_29 (by decide) (fun hc5 => ?_) (fun hc5 => ?_)
          · skip
            have hc5 : (m9 7 j1) = (nI 0) := hc5
            refine lv_iload_n hx hb d_Mod_makeStore_35 rfl (lv_at hl 3 rfl) ?_
            refine lv_aload_n hx hb d_Mod_makeStore_36 rfl (lv_at hl 0 rfl) ?_
            refine zr_V (As := ([] : List Value)) (rest := [.int y]) (b := X) (ci := 6) (q := (R_Mod, T_Mod, 37)) ⟨hx, hb, hml, hown, hts⟩ (c_Mod_unpromised hm ) ⟨(callB_of 0 hts (zg_all zw_745) rfl rfl rfl (hw zw_3) (hw zw_742) k_Mod_unpromised.2 ⟨Nat.le_of_ble_eq_true rfl, Nat.le_of_ble_eq_true rfl⟩), (hw zw_744), (hw zs_Mod_unpromised)⟩ hSc hE hH hS hA rfl (by decide) hm.1.1 rfl hl.1 rfl (Nat.le_of_ble_eq_true rfl) d_Mod_makeStore_37 ⟨Nat.le_of_ble_eq_true rfl, Nat.le_of_ble_eq_true rfl⟩ (fun v6 kd6 ln6 I6 L6 R6 H locs hp hH hS => ?_)
            obtain ⟨rfl, rfl, rfl, rfl, hm⟩ := hp
            refine W.eq (g2 := F0 m 40 ls [.int (zo_un (m9 7) (m9 9) 4), .int y]) rfl ?_
            refine W.widen (k := 0) (n := 0) (by omega) (by omega) ?_
            refine lv_icmp_le (tgt := 46) hx hb d_Mod_makeStore_40 (by decide) (fun hc7 => ?_) (fun hc7 => ?_)
            · skip
              have hc7 : ¬ (zo_un (m9 7) (m9 9) 4) < y := Int32.not_lt.mpr hc7
              refine lv_aload_n hx hb d_Mod_makeStore_46 rfl (lv_at hl 0 rfl) ?_
              refine zr_getr (ci := 6) (C := R_Mod) (T := T_Mod) (N := 37) (ref := "ScrubbedRecorderModel") hx hb hts (fun w h => List.mem_cons_of_mem _ (zin_Mod w h)) hown hK hH hm.1.1 (by decide) rfl 7 (by decide) rfl (hw zw_606) (fun _ h9 => h9) d_Mod_makeStore_47 (by rw [r7]) ?_
              refine lv_iload_n hx hb d_Mod_makeStore_50 rfl (lv_at hl 1 rfl) ?_
              refine lv_iconst (v := nI 1) hx hb d_Mod_makeStore_51 (by decide) ?_
              refine zr_astz (j := j1) (y := nI 1) hx hb hK hH hS k7 (by decide +kernel) (by rw [n7]; exact zh_ix_n (by omega) (by omega)) d_Mod_makeStore_52 (fun H locs hH hS => ?_)
              have hm := zoR_I hm 7 (by decide) j1 (nI 1)
              generalize zu I6 (ad 7) j1 (nI 1) = I8 at hm hH
              refine lv_aload_n hx hb d_Mod_makeStore_53 rfl (lv_at hl 0 rfl) ?_
              refine zr_getr (ci := 6) (C := R_Mod) (T := T_Mod) (N := 37) (ref := "ScrubbedRecorderModel") hx hb hts (fun w h => List.mem_cons_of_mem _ (zin_Mod w h)) hown hK hH hm.1.1 (by decide) rfl 8 (by decide) rfl (hw zw_607) (fun _ h9 => h9) d_Mod_makeStore_54 (by rw [r8]) ?_
              refine lv_iload_n hx hb d_Mod_makeStore_57 rfl (lv_at hl 1 rfl) ?_
              refine lv_iload_n hx hb d_Mod_makeStore_58 rfl (lv_at hl 2 rfl) ?_
              refine zr_astz (j := j1) (y := b) hx hb hK hH hS k8 (zt_bo hb01) (by rw [n8]; exact zh_ix_n (by omega) (by omega)) d_Mod_makeStore_59 (fun H locs hH hS => ?_)
              have hm := zoR_I hm 8 (by decide) j1 b
              generalize zu I8 (ad 8) j1 b = I9 at hm hH
              refine lv_aload_n hx hb d_Mod_makeStore_60 rfl (lv_at hl 0 rfl) ?_
              refine zr_getr (ci := 6) (C := R_Mod) (T := T_Mod) (N := 37) (ref := "ScrubbedRecorderModel") hx hb hts (fun w h => List.mem_cons_of_mem _ (zin_Mod w h)) hown hK hH hm.1.1 (by decide) rfl 9 (by decide) rfl (hw zw_608) (fun _ h9 => h9) d_Mod_makeStore_61 (by rw [r9]) ?_
              refine lv_iload_n hx hb d_Mod_makeStore_64 rfl (lv_at hl 1 rfl) ?_
              refine lv_iload_n hx hb d_Mod_makeStore_65 rfl (lv_at hl 3 rfl) ?_
              refine zr_asti (j := j1) (y := y) hx hb hK hH hS k9 rfl (by rw [n9]; exact zh_ix_n (by omega) (by omega)) d_Mod_makeStore_66 (fun H locs hH hS => ?_)
              have hm := zoR_I hm 9 (by decide) j1 y
              generalize zu I9 (ad 9) j1 y = I10 at hm hH
              refine lv_aload_n hx hb d_Mod_makeStore_67 rfl (lv_at hl 0 rfl) ?_
              refine zr_getr (ci := 6) (C := R_Mod) (T := T_Mod) (N := 37) (ref := "ScrubbedRecorderModel") hx hb hts (fun w h => List.mem_cons_of_mem _ (zin_Mod w h)) hown hK hH hm.1.1 (by decide) rfl 10 (by decide) rfl (hw zw_609) (fun _ h9 => h9) d_Mod_makeStore_68 (by rw [r10]) ?_
              refine lv_iload_n hx hb d_Mod_makeStore_71 rfl (lv_at hl 1 rfl) ?_
              refine lv_iconst (v := nI 0) hx hb d_Mod_makeStore_72 (by decide) ?_
              refine zr_asti (j := j1) (y := nI 0) hx hb hK hH hS k10 rfl (by rw [n10]; exact zh_ix_n (by omega) (by omega)) d_Mod_makeStore_73 (fun H locs hH hS => ?_)
              have hm := zoR_I hm 10 (by decide) j1 (nI 0)
              generalize zu I10 (ad 10) j1 (nI 0) = I11 at hm hH
              refine lv_aload_n hx hb d_Mod_makeStore_74 rfl (lv_at hl 0 rfl) ?_
              refine zr_getr (ci := 6) (C := R_Mod) (T := T_Mod) (N := 37) (ref := "ScrubbedRecorderModel") hx hb hts (fun w h => List.mem_cons_of_mem _ (zin_Mod w h)) hown hK hH hm.1.1 (by decide) rfl 11 (by decide) rfl (hw zw_610) (fun _ h9 => h9) d_Mod_makeStore_75 (by rw [r11]) ?_
              refine lv_iload_n hx hb d_Mod_makeStore_78 rfl (lv_at hl 1 rfl) ?_
              refine lv_iconst (v := nI 0) hx hb d_Mod_makeStore_79 (by decide) ?_
              refine zr_asti (j := j1) (y := nI 0) hx hb hK hH hS k11 rfl (by rw [n11]; exact zh_ix_n (by omega) (by omega)) d_Mod_makeStore_80 (fun H locs hH hS => ?_)
              have hm := zoR_I hm 11 (by decide) j1 (nI 0)
              generalize zu I11 (ad 11) j1 (nI 0) = I12 at hm hH
              refine lv_aload_n hx hb d_Mod_makeStore_81 rfl (lv_at hl 0 rfl) ?_
              refine zr_getr (ci := 6) (C := R_Mod) (T := T_Mod) (N := 37) (ref := "ScrubbedRecorderModel") hx hb hts (fun w h => List.mem_cons_of_mem _ (zin_Mod w h)) hown hK hH hm.1.1 (by decide) rfl 12 (by decide) rfl (hw zw_611) (fun _ h9 => h9) d_Mod_makeStore_82 (by rw [r12]) ?_
              refine lv_iload_n hx hb d_Mod_makeStore_85 rfl (lv_at hl 1 rfl) ?_
              refine lv_iconst (v := nI 0) hx hb d_Mod_makeStore_86 (by decide) ?_
              refine zr_asti (j := j1) (y := nI 0) hx hb hK hH hS k12 rfl (by rw [n12]; exact zh_ix_n (by omega) (by omega)) d_Mod_makeStore_87 (fun H locs hH hS => ?_)
              have hm := zoR_I hm 12 (by decide) j1 (nI 0)
              generalize zu I12 (ad 12) j1 (nI 0) = I13 at hm hH
              refine lv_aload_n hx hb d_Mod_makeStore_88 rfl (lv_at hl 0 rfl) ?_
              refine zr_getr (ci := 6) (C := R_Mod) (T := T_Mod) (N := 37) (ref := "ScrubbedRecorderModel") hx hb hts (fun w h => List.mem_cons_of_mem _ (zin_Mod w h)) hown hK hH hm.1.1 (by decide) rfl 13 (by decide) rfl (hw zw_612) (fun _ h9 => h9) d_Mod_makeStore_89 (by rw [r13]) ?_
              refine lv_iload_n hx hb d_Mod_makeStore_92 rfl (lv_at hl 1 rfl) ?_
              refine lv_bipush (v := nI 16) hx hb d_Mod_makeStore_93 (by decide) ?_
              refine zr_asti (j := j1) (y := nI 16) hx hb hK hH hS k13 rfl (by rw [n13]; exact zh_ix_n (by omega) (by omega)) d_Mod_makeStore_95 (fun H locs hH hS => ?_)
              have hm := zoR_I hm 13 (by decide) j1 (nI 16)
              generalize zu I13 (ad 13) j1 (nI 16) = I14 at hm hH
              refine lv_aload_n hx hb d_Mod_makeStore_96 rfl (lv_at hl 0 rfl) ?_
              refine zr_V (As := ([] : List Value)) (rest := []) (b := X) (ci := 6) (q := (R_Mod, T_Mod, 37)) ⟨hx, hb, hml, hown, hts⟩ (c_Mod_save hm ) ⟨(callB_of 0 hts (zg_all zw_749) rfl rfl rfl (hw zw_3) (hw zw_746) k_Mod_save.2 ⟨Nat.le_of_ble_eq_true rfl, Nat.le_of_ble_eq_true rfl⟩), (hw zw_748), (hw zs_Mod_save)⟩ hSc hE hH hS hA rfl (by decide) hm.1.1 rfl hl.1 rfl (Nat.le_of_ble_eq_true rfl) d_Mod_makeStore_97 ⟨Nat.le_of_ble_eq_true rfl, Nat.le_of_ble_eq_true rfl⟩ (fun v15 kd15 ln15 I15 L15 R15 H locs hp hH hS => ?_)
              obtain ⟨rfl, rfl, rfl, rfl, hm⟩ := hp
              refine W.eq (g2 := F0 m 100 ls []) rfl ?_
              refine W.widen (k := 0) (n := 0) (by omega) (by omega) ?_
              refine lv_aload_n hx hb d_Mod_makeStore_100 rfl (lv_at hl 0 rfl) ?_
              refine zr_V (As := ([] : List Value)) (rest := []) (b := X) (ci := 6) (q := (R_Mod, T_Mod, 37)) ⟨hx, hb, hml, hown, hts⟩ (c_Mod_unpromised hm ) ⟨(callB_of 0 hts (zg_all zw_745) rfl rfl rfl (hw zw_3) (hw zw_742) k_Mod_unpromised.2 ⟨Nat.le_of_ble_eq_true rfl, Nat.le_of_ble_eq_true rfl⟩), (hw zw_744), (hw zs_Mod_unpromised)⟩ hSc hE hH hS hA rfl (by decide) hm.1.1 rfl hl.1 rfl (Nat.le_of_ble_eq_true rfl) d_Mod_makeStore_101 ⟨Nat.le_of_ble_eq_true rfl, Nat.le_of_ble_eq_true rfl⟩ (fun v16 kd16 ln16 I16 L16 R16 H locs hp hH hS => ?_)
              obtain ⟨rfl, rfl, rfl, rfl, hm⟩ := hp
              refine W.eq (g2 := F0 m 104 ls [.int (zo_un ((zo_svI (zo_mkI m9 j1 b y)) 7) ((zo_svI (zo_mkI m9 j1 b y)) 9) 4)]) rfl ?_
              refine W.widen (k := 0) (n := 0) (by omega) (by omega) ?_
              have hres : zo_mk m9 (nI j1) b y = (zo_un ((zo_svI (zo_mkI m9 j1 b y)) 7) ((zo_svI (zo_mkI m9 j1 b y)) 9) 4, (zo_svI (zo_mkI m9 j1 b y))) := by rw [zo_mk, if_neg hc1, if_neg hc2, if_neg hc3, if_neg hc4, nI_clamp (by omega), if_pos hc5, if_neg hc7]
              refine W.widen (k := 0) (n := 0) (Nat.le_of_ble_eq_true rfl) (Nat.le_of_ble_eq_true rfl) ?_
              subst hAe
              exact W.iret (v := zo_un ((zo_svI (zo_mkI m9 j1 b y)) 7) ((zo_svI (zo_mkI m9 j1 b y)) 9) 4) hx hb hr (fun t ht hW => zc_end hS hH ht (⟨by rw [hres], rfl, rfl, rfl, by rw [hres]; exact hm⟩)) hS.2.2 d_Mod_makeStore_104
            · skip
              have hc7 : (zo_un (m9 7) (m9 9) 4) < y := Int32.not_le.mp hc7
              refine lv_bipush (v := (-4)) hx hb d_Mod_makeStore_43 (by decide) ?_
              have hres : zo_mk m9 (nI j1) b y = ((-4), m9) := by rw [zo_mk, if_neg hc1, if_neg hc2, if_neg hc3, if_neg hc4, nI_clamp (by omega), if_pos hc5, if_pos hc7]
              refine W.widen (k := 0) (n := 0) (Nat.le_of_ble_eq_true rfl) (Nat.le_of_ble_eq_true rfl) ?_
              subst hAe
              exact W.iret (v := (-4)) hx hb hr (fun t ht hW => zc_end hS hH ht (⟨by rw [hres], rfl, rfl, rfl, by rw [hres]; exact hm⟩)) hS.2.2 d_Mod_makeStore_45
          · skip
            have hc5 : ¬ (m9 7 j1) = (nI 0) := hc5
            refine lv_bipush (v := (-3)) hx hb d_Mod_makeStore_32 (by decide) ?_
            have hres : zo_mk m9 (nI j1) b y = ((-3), m9) := by rw [zo_mk, if_neg hc1, if_neg hc2, if_neg hc3, if_neg hc4, nI_clamp (by omega), if_neg hc5]
            refine W.widen (k := 0) (n := 0) (Nat.le_of_ble_eq_true rfl) (Nat.le_of_ble_eq_true rfl) ?_
            subst hAe
            exact W.iret (v := (-3)) hx hb hr (fun t ht hW => zc_end hS hH ht (⟨by rw [hres], rfl, rfl, rfl, by rw [hres]; exact hm⟩)) hS.2.2 d_Mod_makeStore_34
        · skip
          have hc4 : (nI 40) < y := Int32.not_le.mp hc4
          refine lv_bipush (v := (-2)) hx hb d_Mod_makeStore_20 (by decide) ?_
          have hres : zo_mk m9 (nI j1) b y = ((-2), m9) := by rw [zo_mk, if_neg hc1, if_neg hc2, if_neg hc3, if_pos hc4]
          refine W.widen (k := 0) (n := 0) (Nat.le_of_ble_eq_true rfl) (Nat.le_of_ble_eq_true rfl) ?_
          subst hAe
          exact W.iret (v := (-2)) hx hb hr (fun t ht hW => zc_end hS hH ht (⟨by rw [hres], rfl, rfl, rfl, by rw [hres]; exact hm⟩)) hS.2.2 d_Mod_makeStore_22

set_option maxHeartbeats 4000000 in
set_option maxRecDepth 100000 in
/-- frameByte -/
theorem c_Mod_frameByte {l : Launch} {D : va_G} {cA : Nat → ClassId} {te mi : Nat} {kd ln : Nat → Nat} {I : Nat → Nat → Int32} {L : Nat → Nat → Int64} {R : Nat → Nat → Option Nat} {X : Nat} {ad : Nat → Nat} {m9 : Nat → Nat → Int32} {q9 : Nat → Nat → Int64} (hm : zoR X ad m9 q9 kd ln I L R) {x : Int32} (hfs : ¬ nI 80 < m9 40 35) : zc_M l y_Mod_frameByte w_Mod_frameByte { frames := 0, cells := 0, slots := 0, locals := 0 } 0 0 D cA te mi ([.ref X, .int x] : List Value) kd ln I L R (zo_P (some (.int (zo_fb m9 x))) X ad m9 q9 kd ln R) := by
  intro sz
  refine Met.ofW (cc := b_Mod_frameByte) (maxL := 2) (ret := (some (.int))) (by decide +kernel) rfl ?_
  intro p e s m args below meth c s₁ B hml hv
  obtain ⟨rfl, hsz, hSc, hE, hH⟩ := hv
  have hx := B.exec
  have hb := B.bytes
  have hr := B.returns
  have hts := atoms_spec (ws := w_Mod_frameByte) B.pre
  have hw : ∀ {w : Cond}, w ∈ zw → w.before ([.ref X, .int x] : List Value).toArray s = true := fun h => hts _ (List.mem_cons_of_mem _ h)
  have hown : s.vm.findClass R_Mod = some m.cls := findClass_of_methodNamed B.named
  have hlocks := B.notSynchronized
  subst hsz
  have hK := hSc.1
  have hH : zh_H D cA (zc_A kd s.heap.size) kd ln I L R s.heap := hH.weaken (fun q h _ => Or.inl h)
  generalize hAe : zc_A kd s.heap.size = A at hH hE ⊢
  have hA : ∀ q : Nat, s.heap.size ≤ q → A q := fun q h => by rw [← hAe]; exact Or.inr h
  have hS : va_S A s.heap s.heap [] := va_S.rf
  have hl := lv_entry ([.ref X, .int x] : List Value) (n := 2) (Nat.le_of_ble_eq_true rfl)
  rw [lg_entry_eq]
  generalize (lg_sl ([.ref X, .int x] : List Value) ++ List.replicate (2 - (lg_sl ([.ref X, .int x] : List Value)).length) Slot.unset).toArray = ls at hl ⊢
  have hl : lv_has ls 2 [(0, .ref X), (1, .int x)] := hl
  have k36 : kd (ad 36) = 100 := (hm.1.2.1 36 (by decide) (by decide)).2.1
  have n36 : ln (ad 36) = 80 := (hm.1.2.1 36 (by decide) (by decide)).2.2
  have r36 : R X 36 = some (ad 36) := (hm.1.2.1 36 (by decide) (by decide)).1
  refine lv_iload_n hx hb d_Mod_frameByte_0 rfl (lv_at hl 1 rfl) ?_
  refine lv_if_lt (tgt := 21) hx hb d_Mod_frameByte_1 (by decide) (fun hc1 => ?_) (fun hc1 => ?_)
  · skip
    have hc1 : x < (nI 0) := hc1
    refine lv_iconst (v := (-1)) hx hb d_Mod_frameByte_21 (by decide) ?_
    refine W.widen (k := 0) (n := 0) (Nat.le_of_ble_eq_true rfl) (Nat.le_of_ble_eq_true rfl) ?_
    subst hAe
    exact W.iret (v := (-1)) hx hb hr (fun t ht hW => zc_end hS hH ht (⟨by rw [zo_fb, if_pos hc1], rfl, rfl, rfl, hm⟩)) hS.2.2 d_Mod_frameByte_22
  · skip
    have hc1 : ¬ x < (nI 0) := hc1
    refine lv_iload_n hx hb d_Mod_frameByte_4 rfl (lv_at hl 1 rfl) ?_
    refine lv_aload_n hx hb d_Mod_frameByte_5 rfl (lv_at hl 0 rfl) ?_
    refine zr_geti (ci := 6) (C := R_Mod) (T := T_Mod) (N := 37) (ref := "ScrubbedRecorderModel") hx hb hts (fun w h => List.mem_cons_of_mem _ (zin_Mod w h)) hown hK hH hm.1.1 (by decide) rfl 35 (by decide) rfl (hw zw_634) (fun _ h9 => h9) d_Mod_frameByte_6 ?_
    refine zt_i (y := m9 40 35) (congrFun hm.2.2.1 35) ?_
    refine lv_icmp_ge (tgt := 21) hx hb d_Mod_frameByte_9 (by decide) (fun hc2 => ?_) (fun hc2 => ?_)
    · skip
      have hc2 : ¬ x < (m9 40 35) := Int32.not_lt.mpr hc2
      refine lv_iconst (v := (-1)) hx hb d_Mod_frameByte_21 (by decide) ?_
      refine W.widen (k := 0) (n := 0) (Nat.le_of_ble_eq_true rfl) (Nat.le_of_ble_eq_true rfl) ?_
      subst hAe
      exact W.iret (v := (-1)) hx hb hr (fun t ht hW => zc_end hS hH ht (⟨by rw [zo_fb, if_neg hc1, if_neg hc2], rfl, rfl, rfl, hm⟩)) hS.2.2 d_Mod_frameByte_22
    · skip
      have hc2 : x < (m9 40 35) := Int32.not_le.mp hc2
      obtain ⟨j1, hj1, rfl⟩ := zt_ix hc1 (Int32.lt_of_lt_of_le hc2 (Int32.not_lt.mp hfs)) (by decide)
      refine lv_aload_n hx hb d_Mod_frameByte_12 rfl (lv_at hl 0 rfl) ?_
      refine zr_getr (ci := 6) (C := R_Mod) (T := T_Mod) (N := 37) (ref := "ScrubbedRecorderModel") hx hb hts (fun w h => List.mem_cons_of_mem _ (zin_Mod w h)) hown hK hH hm.1.1 (by decide) rfl 36 (by decide) rfl (hw zw_635) (fun _ h9 => h9) d_Mod_frameByte_13 (by rw [r36]) ?_
      refine lv_iload_n hx hb d_Mod_frameByte_16 rfl (lv_at hl 1 rfl) ?_
      refine zr_aldi (j := j1) hx hb hK hH k36 (by rw [n36]; exact zh_ix_n (by omega) (by omega)) d_Mod_frameByte_17 ?_
      refine zt_i (y := m9 36 j1) (congrFun (hm.2.1 36 (by decide) (by decide) (by decide)) j1) ?_
      refine lv_goto (tgt := 22) hx hb d_Mod_frameByte_18 (by decide) ?_
      refine W.widen (k := 0) (n := 0) (Nat.le_of_ble_eq_true rfl) (Nat.le_of_ble_eq_true rfl) ?_
      subst hAe
      exact W.iret (v := m9 36 j1) hx hb hr (fun t ht hW => zc_end hS hH ht (⟨by rw [zo_fb, if_neg hc1, if_pos hc2, nI_clamp (by omega)], rfl, rfl, rfl, hm⟩)) hS.2.2 d_Mod_frameByte_22
