theorem zk_pbi_eq {I : Nat → Nat → Int32} {P : Nat} (x y z : Int32) (h : I P = fun _ => 0) : zu (zu (zu (zu I P 5 (-1)) P 0 x) P 1 y) P 2 z = va_up I P (zk_pbi x y z) := by
  unfold zk_pbi
  simp only [zu_eq, va_up_self, up_up, h]

set_option maxHeartbeats 4000000 in
set_option maxRecDepth 100000 in
/-- play, of no store -/
theorem c_Rec_play_N {l : Launch} {D : va_G} {cA : Nat → ClassId} {te mi : Nat} {kd ln : Nat → Nat} {I : Nat → Nat → Int32} {L : Nat → Nat → Int64} {R : Nat → Nat → Option Nat} {X : Nat} {a9 e9 : Nat → Nat} {c9 : Nat → Nat → Int32} {d9 : Nat → Nat → Int64} {g9 : Nat → Nat → Nat} (hm : zkR X te a9 e9 c9 d9 g9 kd ln I L R) {x a b d : Int32} (hmd : zk_md g9 x = none) : zc_M l y_Rec_play w_Rec_play { frames := 2, cells := 1, slots := 6, locals := 38 } 1 6 D cA te mi ([.ref X, .int x, .int a, .int b, .int d] : List Value) kd ln I L R (zk_P (some (.int (-2))) X te a9 e9 c9 d9 g9 kd ln) := by
  intro sz
  refine Met.ofW (cc := b_Rec_play) (maxL := 7) (ret := (some (.int))) (by decide +kernel) rfl ?_
  intro p e s m args below meth c s₁ B hml hv
  obtain ⟨rfl, hsz, hSc, hE, hH⟩ := hv
  have hx := B.exec
  have hb := B.bytes
  have hr := B.returns
  have hts := atoms_spec (ws := w_Rec_play) B.pre
  have hw : ∀ {w : Cond}, w ∈ zw → w.before ([.ref X, .int x, .int a, .int b, .int d] : List Value).toArray s = true := fun h => hts _ (List.mem_cons_of_mem _ h)
  have hown : s.vm.findClass R_Rec = some m.cls := findClass_of_methodNamed B.named
  have hlocks := B.notSynchronized
  subst hsz
  have hK := hSc.1
  have hH : zh_H D cA (zc_A kd s.heap.size) kd ln I L R s.heap := hH.weaken (fun q h _ => Or.inl h)
  generalize hAe : zc_A kd s.heap.size = A at hH hE ⊢
  have hA : ∀ q : Nat, s.heap.size ≤ q → A q := fun q h => by rw [← hAe]; exact Or.inr h
  have hS : va_S A s.heap s.heap [] := va_S.rf
  have hl := lv_entry ([.ref X, .int x, .int a, .int b, .int d] : List Value) (n := 7) (Nat.le_of_ble_eq_true rfl)
  rw [lg_entry_eq]
  generalize (lg_sl ([.ref X, .int x, .int a, .int b, .int d] : List Value) ++ List.replicate (7 - (lg_sl ([.ref X, .int x, .int a, .int b, .int d] : List Value)).length) Slot.unset).toArray = ls at hl ⊢
  have hl : lv_has ls 7 [(0, .ref X), (1, .int x), (2, .int a), (3, .int b), (4, .int d)] := hl
  refine lv_aload_n hx hb d_Rec_play_0 rfl (lv_at hl 0 rfl) ?_
  refine lv_iload_n hx hb d_Rec_play_1 rfl (lv_at hl 1 rfl) ?_
  refine zr_V (As := ([.int x] : List Value)) (rest := []) (b := X) (ci := 0) (q := (R_Rec, T_Rec, 6)) ⟨hx, hb, hml, hown, hts⟩ (c_Rec_madeStore_N hm hmd) ⟨(callB_of 1 hts (zg_all zw_195) rfl rfl rfl (hw zw_1) (hw zw_192) k_Rec_madeStore.2 ⟨Nat.le_of_ble_eq_true rfl, Nat.le_of_ble_eq_true rfl⟩), (hw zw_194), (hw zs_Rec_madeStore)⟩ hSc hE hH hS hA rfl (by decide) hm.2.2.1.1 rfl hl.1 rfl (Nat.le_of_ble_eq_true rfl) d_Rec_play_2 ⟨Nat.le_of_ble_eq_true rfl, Nat.le_of_ble_eq_true rfl⟩ (fun v1 kd1 ln1 I1 L1 R1 H locs hp hH hS => ?_)
  obtain ⟨rfl, rfl, rfl, rfl, rfl, rfl⟩ := hp
  refine W.eq (g2 := F0 m 5 ls [.null]) rfl ?_
  refine W.widen (k := 0) (n := 0) (by omega) (by omega) ?_
  refine lv_astoreN (lv' := [(5, .null), (0, .ref X), (1, .int x), (2, .int a), (3, .int b), (4, .int d)]) hx hb d_Rec_play_5 hl (by decide) rfl (fun ls hl => ?_)
  refine lv_aloadN hx hb d_Rec_play_7 (lv_at hl 0 rfl) ?_
  refine lv_ifnullN (tgt := 24) hx hb d_Rec_play_9 (by decide) ?_
  refine lv_bipush (v := (-2)) hx hb d_Rec_play_24 (by decide) ?_
  refine W.widen (k := 1) (n := 6) (Nat.le_of_ble_eq_true rfl) (Nat.le_of_ble_eq_true rfl) ?_
  subst hAe
  exact W.iret (v := (-2)) hx hb hr (fun t ht hW => zc_end hS hH ht (⟨rfl, rfl, rfl, hm⟩)) hS.2.2 d_Rec_play_26

set_option maxHeartbeats 4000000 in
set_option maxRecDepth 100000 in
/-- play, refused -/
theorem c_Rec_play_B {l : Launch} {D : va_G} {cA : Nat → ClassId} {te mi : Nat} {kd ln : Nat → Nat} {I : Nat → Nat → Int32} {L : Nat → Nat → Int64} {R : Nat → Nat → Option Nat} {X : Nat} {a9 e9 : Nat → Nat} {c9 : Nat → Nat → Int32} {d9 : Nat → Nat → Int64} {g9 : Nat → Nat → Nat} (hm : zkR X te a9 e9 c9 d9 g9 kd ln I L R) {k : Nat} (hk4 : k < 4) (hgk : g9 0 k ≠ 0) {a b d : Int32} (hbad : d < nI 0 ∨ nI 9 < d) : zc_M l y_Rec_play w_Rec_play { frames := 2, cells := 1, slots := 6, locals := 38 } 1 6 D cA te mi ([.ref X, .int (nI k), .int a, .int b, .int d] : List Value) kd ln I L R (zk_P (some (.int (-2))) X te a9 e9 c9 d9 g9 kd ln) := by
  intro sz
  refine Met.ofW (cc := b_Rec_play) (maxL := 7) (ret := (some (.int))) (by decide +kernel) rfl ?_
  intro p e s m args below meth c s₁ B hml hv
  obtain ⟨rfl, hsz, hSc, hE, hH⟩ := hv
  have hx := B.exec
  have hb := B.bytes
  have hr := B.returns
  have hts := atoms_spec (ws := w_Rec_play) B.pre
  have hw : ∀ {w : Cond}, w ∈ zw → w.before ([.ref X, .int (nI k), .int a, .int b, .int d] : List Value).toArray s = true := fun h => hts _ (List.mem_cons_of_mem _ h)
  have hown : s.vm.findClass R_Rec = some m.cls := findClass_of_methodNamed B.named
  have hlocks := B.notSynchronized
  subst hsz
  have hK := hSc.1
  have hH : zh_H D cA (zc_A kd s.heap.size) kd ln I L R s.heap := hH.weaken (fun q h _ => Or.inl h)
  generalize hAe : zc_A kd s.heap.size = A at hH hE ⊢
  have hA : ∀ q : Nat, s.heap.size ≤ q → A q := fun q h => by rw [← hAe]; exact Or.inr h
  have hS : va_S A s.heap s.heap [] := va_S.rf
  have hl := lv_entry ([.ref X, .int (nI k), .int a, .int b, .int d] : List Value) (n := 7) (Nat.le_of_ble_eq_true rfl)
  rw [lg_entry_eq]
  generalize (lg_sl ([.ref X, .int (nI k), .int a, .int b, .int d] : List Value) ++ List.replicate (7 - (lg_sl ([.ref X, .int (nI k), .int a, .int b, .int d] : List Value)).length) Slot.unset).toArray = ls at hl ⊢
  have hl : lv_has ls 7 [(0, .ref X), (1, .int (nI k)), (2, .int a), (3, .int b), (4, .int d)] := hl
  refine lv_aload_n hx hb d_Rec_play_0 rfl (lv_at hl 0 rfl) ?_
  refine lv_iload_n hx hb d_Rec_play_1 rfl (lv_at hl 1 rfl) ?_
  refine zr_V (As := ([.int (nI k)] : List Value)) (rest := []) (b := X) (ci := 0) (q := (R_Rec, T_Rec, 6)) ⟨hx, hb, hml, hown, hts⟩ (c_Rec_madeStore_S hm (by omega) hgk) ⟨(callB_of 1 hts (zg_all zw_195) rfl rfl rfl (hw zw_1) (hw zw_192) k_Rec_madeStore.2 ⟨Nat.le_of_ble_eq_true rfl, Nat.le_of_ble_eq_true rfl⟩), (hw zw_194), (hw zs_Rec_madeStore)⟩ hSc hE hH hS hA rfl (by decide) hm.2.2.1.1 rfl hl.1 rfl (Nat.le_of_ble_eq_true rfl) d_Rec_play_2 ⟨Nat.le_of_ble_eq_true rfl, Nat.le_of_ble_eq_true rfl⟩ (fun v1 kd1 ln1 I1 L1 R1 H locs hp hH hS => ?_)
  obtain ⟨rfl, rfl, rfl, rfl, rfl, rfl⟩ := hp
  refine W.eq (g2 := F0 m 5 ls [.ref (a9 (10 + k))]) rfl ?_
  refine W.widen (k := 0) (n := 0) (by omega) (by omega) ?_
  refine lv_astore (lv' := [(5, .ref (a9 (10 + k))), (0, .ref X), (1, .int (nI k)), (2, .int a), (3, .int b), (4, .int d)]) hx hb d_Rec_play_5 hl (by decide) rfl (fun ls hl => ?_)
  refine lv_aload hx hb d_Rec_play_7 (lv_at hl 0 rfl) ?_
  refine lv_ifnull hx hb d_Rec_play_9 ?_
  refine lv_iload hx hb d_Rec_play_12 (lv_at hl 5 rfl) ?_
  refine lv_if_lt (tgt := 24) hx hb d_Rec_play_14 (by decide) (fun hc2 => ?_) (fun hc2 => ?_)
  · skip
    have hc2 : d < (nI 0) := hc2
    refine lv_bipush (v := (-2)) hx hb d_Rec_play_24 (by decide) ?_
    refine W.widen (k := 1) (n := 6) (Nat.le_of_ble_eq_true rfl) (Nat.le_of_ble_eq_true rfl) ?_
    subst hAe
    exact W.iret (v := (-2)) hx hb hr (fun t ht hW => zc_end hS hH ht (⟨rfl, rfl, rfl, hm⟩)) hS.2.2 d_Rec_play_26
  · skip
    have hc2 : ¬ d < (nI 0) := hc2
    refine lv_iload hx hb d_Rec_play_17 (lv_at hl 5 rfl) ?_
    refine lv_bipush (v := nI 9) hx hb d_Rec_play_19 (by decide) ?_
    refine lv_icmp_le (tgt := 27) hx hb d_Rec_play_21 (by decide) (fun hc3 => ?_) (fun hc3 => ?_)
    · skip
      have hc3 : ¬ (nI 9) < d := Int32.not_lt.mpr hc3
      exact absurd hbad (fun q => q.elim (by assumption) (by assumption))
    · skip
      have hc3 : (nI 9) < d := Int32.not_le.mp hc3
      refine lv_bipush (v := (-2)) hx hb d_Rec_play_24 (by decide) ?_
      refine W.widen (k := 1) (n := 6) (Nat.le_of_ble_eq_true rfl) (Nat.le_of_ble_eq_true rfl) ?_
      subst hAe
      exact W.iret (v := (-2)) hx hb hr (fun t ht hW => zc_end hS hH ht (⟨rfl, rfl, rfl, hm⟩)) hS.2.2 d_Rec_play_26

set_option maxHeartbeats 4000000 in
set_option maxRecDepth 100000 in
/-- play -/
theorem c_Rec_play_F {l : Launch} {D : va_G} {cA : Nat → ClassId} {te mi : Nat} {kd ln : Nat → Nat} {I : Nat → Nat → Int32} {L : Nat → Nat → Int64} {R : Nat → Nat → Option Nat} {X : Nat} {a9 e9 : Nat → Nat} {c9 : Nat → Nat → Int32} {d9 : Nat → Nat → Int64} {g9 : Nat → Nat → Nat} (hm : zkR X te a9 e9 c9 d9 g9 kd ln I L R) {k : Nat} (hk4 : k < 4) (hgk : g9 0 k ≠ 0) {a b d : Int32} (hd1 : ¬ d < nI 0) (hd2 : ¬ nI 9 < d) (hfull : ∀ i, i < 4 → g9 3 i ≠ 0) : zc_M l y_Rec_play w_Rec_play { frames := 2, cells := 1, slots := 6, locals := 38 } 1 6 D cA te mi ([.ref X, .int (nI k), .int a, .int b, .int d] : List Value) kd ln I L R (zk_P (some (.int (-4))) X te a9 e9 c9 d9 g9 kd ln) := by
  intro sz
  refine Met.ofW (cc := b_Rec_play) (maxL := 7) (ret := (some (.int))) (by decide +kernel) rfl ?_
  intro p e s m args below meth c s₁ B hml hv
  obtain ⟨rfl, hsz, hSc, hE, hH⟩ := hv
  have hx := B.exec
  have hb := B.bytes
  have hr := B.returns
  have hts := atoms_spec (ws := w_Rec_play) B.pre
  have hw : ∀ {w : Cond}, w ∈ zw → w.before ([.ref X, .int (nI k), .int a, .int b, .int d] : List Value).toArray s = true := fun h => hts _ (List.mem_cons_of_mem _ h)
  have hown : s.vm.findClass R_Rec = some m.cls := findClass_of_methodNamed B.named
  have hlocks := B.notSynchronized
  subst hsz
  have hK := hSc.1
  have hH : zh_H D cA (zc_A kd s.heap.size) kd ln I L R s.heap := hH.weaken (fun q h _ => Or.inl h)
  generalize hAe : zc_A kd s.heap.size = A at hH hE ⊢
  have hA : ∀ q : Nat, s.heap.size ≤ q → A q := fun q h => by rw [← hAe]; exact Or.inr h
  have hS : va_S A s.heap s.heap [] := va_S.rf
  have hl := lv_entry ([.ref X, .int (nI k), .int a, .int b, .int d] : List Value) (n := 7) (Nat.le_of_ble_eq_true rfl)
  rw [lg_entry_eq]
  generalize (lg_sl ([.ref X, .int (nI k), .int a, .int b, .int d] : List Value) ++ List.replicate (7 - (lg_sl ([.ref X, .int (nI k), .int a, .int b, .int d] : List Value)).length) Slot.unset).toArray = ls at hl ⊢
  have hl : lv_has ls 7 [(0, .ref X), (1, .int (nI k)), (2, .int a), (3, .int b), (4, .int d)] := hl
  refine lv_aload_n hx hb d_Rec_play_0 rfl (lv_at hl 0 rfl) ?_
  refine lv_iload_n hx hb d_Rec_play_1 rfl (lv_at hl 1 rfl) ?_
  refine zr_V (As := ([.int (nI k)] : List Value)) (rest := []) (b := X) (ci := 0) (q := (R_Rec, T_Rec, 6)) ⟨hx, hb, hml, hown, hts⟩ (c_Rec_madeStore_S hm (by omega) hgk) ⟨(callB_of 1 hts (zg_all zw_195) rfl rfl rfl (hw zw_1) (hw zw_192) k_Rec_madeStore.2 ⟨Nat.le_of_ble_eq_true rfl, Nat.le_of_ble_eq_true rfl⟩), (hw zw_194), (hw zs_Rec_madeStore)⟩ hSc hE hH hS hA rfl (by decide) hm.2.2.1.1 rfl hl.1 rfl (Nat.le_of_ble_eq_true rfl) d_Rec_play_2 ⟨Nat.le_of_ble_eq_true rfl, Nat.le_of_ble_eq_true rfl⟩ (fun v1 kd1 ln1 I1 L1 R1 H locs hp hH hS => ?_)
  obtain ⟨rfl, rfl, rfl, rfl, rfl, rfl⟩ := hp
  refine W.eq (g2 := F0 m 5 ls [.ref (a9 (10 + k))]) rfl ?_
  refine W.widen (k := 0) (n := 0) (by omega) (by omega) ?_
  refine lv_astore (lv' := [(5, .ref (a9 (10 + k))), (0, .ref X), (1, .int (nI k)), (2, .int a), (3, .int b), (4, .int d)]) hx hb d_Rec_play_5 hl (by decide) rfl (fun ls hl => ?_)
  refine lv_aload hx hb d_Rec_play_7 (lv_at hl 0 rfl) ?_
  refine lv_ifnull hx hb d_Rec_play_9 ?_
  refine lv_iload hx hb d_Rec_play_12 (lv_at hl 5 rfl) ?_
  refine lv_if_lt (tgt := 24) hx hb d_Rec_play_14 (by decide) (fun hc2 => ?_) (fun hc2 => ?_)
  · skip
    have hc2 : d < (nI 0) := hc2
    (first | exact absurd hc2 hd1 | exact absurd hc2 hd2)
  · skip
    have hc2 : ¬ d < (nI 0) := hc2
    refine lv_iload hx hb d_Rec_play_17 (lv_at hl 5 rfl) ?_
    refine lv_bipush (v := nI 9) hx hb d_Rec_play_19 (by decide) ?_
    refine lv_icmp_le (tgt := 27) hx hb d_Rec_play_21 (by decide) (fun hc3 => ?_) (fun hc3 => ?_)
    · skip
      have hc3 : ¬ (nI 9) < d := Int32.not_lt.mpr hc3
      refine lv_iconst (v := nI 0) hx hb d_Rec_play_27 (by decide) ?_
      refine lv_istore (lv' := [(6, .int (nI 0)), (5, .ref (a9 (10 + k))), (0, .ref X), (1, .int (nI k)), (2, .int a), (3, .int b), (4, .int d)]) hx hb d_Rec_play_28 hl (by decide) rfl (fun ls hl => ?_)
      have loop_30 : ∀ (z : Nat) (i : Nat) (I_30 : Nat → Nat → Int32) (L_30 : Nat → Nat → Int64) (R_30 : Nat → Nat → Option Nat) (H : Heap) (locs : List Loc) (ls : Array Slot), 4 - i < z → (i ≤ 4) → (zkR X te a9 e9 c9 d9 g9 kd ln I_30 L_30 R_30) → lv_has ls 7 [(0, .ref X), (2, .int a), (3, .int b), (4, .int d), (5, .ref (a9 (10 + k))), (6, .int (nI i))] → zh_H D cA A kd ln I_30 L_30 R_30 H → va_S A s.heap H locs → W p l e (headSpec w_Rec_play { frames := 2, cells := 1, slots := 6, locals := 38 }).room s m ([.ref X, .int (nI k), .int a, .int b, .int d] : List Value).toArray below meth c H locs 0 0 (MQ below (zc_Qc D cA A (zk_P (some (.int (-4))) X te a9 e9 c9 d9 g9 kd ln)) ([.ref X, .int (nI k), .int a, .int b, .int d] : List Value).toArray s 1 6 A) (F0 m 30 ls []) := by
        intro z
        induction z with
        | zero => intro i I_30 L_30 R_30 H locs ls hz; exact absurd hz (Nat.not_lt_zero _)
        | succ z ih_30 =>
          intro i I_30 L_30 R_30 H locs ls hz_30 hi hm hl hH hS
          refine lv_iload hx hb d_Rec_play_30 (lv_at hl 5 rfl) ?_
          refine lv_iconst (v := nI 4) hx hb d_Rec_play_32 (by decide) ?_
          refine lv_icmp_ge (tgt := 79) hx hb d_Rec_play_33 (by decide) (fun hc4 => ?_) (fun hc4 => ?_)
          · skip
            have hc4 := zt_geT (a := i) (b := 4) (by omega) (by omega) hc4
            refine lv_bipush (v := (-4)) hx hb d_Rec_play_79 (by decide) ?_
            refine W.widen (k := 1) (n := 6) (Nat.le_of_ble_eq_true rfl) (Nat.le_of_ble_eq_true rfl) ?_
            subst hAe
            exact W.iret (v := (-4)) hx hb hr (fun t ht hW => zc_end hS hH ht (⟨rfl, rfl, rfl, hm⟩)) hS.2.2 d_Rec_play_81
          · skip
            have hc4 := zt_geF (a := i) (b := 4) (by omega) (by omega) hc4
            refine lv_aload_n hx hb d_Rec_play_36 rfl (lv_at hl 0 rfl) ?_
            refine zr_getr (ci := 0) (C := R_Rec) (T := T_Rec) (N := 6) (ref := "ScrubbedRecorder") hx hb hts (fun w h => List.mem_cons_of_mem _ (zin_Rec w h)) hown hK hH hm.2.2.1.1 (by decide) rfl 2 (by decide) rfl (hw zw_66) (fun _ h9 => h9) d_Rec_play_37 hm.2.2.1.2.2.2.1 ?_
            refine lv_iload hx hb d_Rec_play_40 (lv_at hl 5 rfl) ?_
            rcases Decidable.em (g9 3 i = 0) with hg5 | hg5
            · skip
              refine zr_ald0 (b := 0) (t := 6) (j := i) hx hb (by decide) (by decide) rfl hK hH (show kd (a9 5) = 106 from zkR_k hm (zk_lv0 (by decide))) (by rw [show ln (a9 5) = 4 from zkR_n hm (zk_lv0 (by decide)) (by decide)]; exact zh_ix_n (by omega) (by omega)) d_Rec_play_42 (zkR_pn hm (by omega) hg5) ?_
              refine lv_ifnonnullN hx hb d_Rec_play_43 ?_
              exact absurd hg5 (hfull i (by omega))
            · skip
              refine zr_aldr (t := 6) (j := i) hx hb (by decide) (by decide) rfl hK hH (show kd (a9 5) = 106 from zkR_k hm (zk_lv0 (by decide))) (by rw [show ln (a9 5) = 4 from zkR_n hm (zk_lv0 (by decide)) (by decide)]; exact zh_ix_n (by omega) (by omega)) d_Rec_play_42 (zkR_pb hm (by omega) hg5).1 ?_
              refine lv_ifnonnull (tgt := 73) hx hb d_Rec_play_43 (by decide) ?_
              refine lv_iinc (k := 5) (v := nI (i + 1)) (lv' := [(6, .int (nI (i + 1))), (0, .ref X), (2, .int a), (3, .int b), (4, .int d), (5, .ref (a9 (10 + k)))]) hx hb d_Rec_play_73 hl rfl (nI_add i 1) (by decide) rfl (fun ls hl => ?_)
              refine lv_goto (tgt := 30) hx hb d_Rec_play_76 (by decide) ?_
              exact ih_30 (i + 1) _ _ _ _ _ _ (by omega) (by omega) hm (lv_sub hl [1, 2, 3, 4, 5, 0] rfl) hH hS
      exact loop_30 _ 0 _ _ _ _ _ _ (Nat.lt_succ_self _) (by omega) hm (lv_sub hl [2, 4, 5, 6, 1, 0] rfl) hH hS
    · skip
      have hc3 : (nI 9) < d := Int32.not_le.mp hc3
      (first | exact absurd hc3 hd1 | exact absurd hc3 hd2)

set_option maxHeartbeats 4000000 in
set_option maxRecDepth 100000 in
/-- play -/
theorem c_Rec_play_S {l : Launch} {D : va_G} {cA : Nat → ClassId} {te mi : Nat} {kd ln : Nat → Nat} {I : Nat → Nat → Int32} {L : Nat → Nat → Int64} {R : Nat → Nat → Option Nat} {X : Nat} {a9 e9 : Nat → Nat} {c9 : Nat → Nat → Int32} {d9 : Nat → Nat → Int64} {g9 : Nat → Nat → Nat} (hm : zkR X te a9 e9 c9 d9 g9 kd ln I L R) {k : Nat} (hk4 : k < 4) (hgk : g9 0 k ≠ 0) {a b d : Int32} (hd1 : ¬ d < nI 0) (hd2 : ¬ nI 9 < d) {j : Nat} (hj4 : j < 4) (hgj : g9 3 j = 0) (hfree : ∀ i, i < j → g9 3 i ≠ 0) (h39 : ∀ p, p < 4 → g9 3 p ≤ 4) : zc_M l y_Rec_play w_Rec_play { frames := 2, cells := 1, slots := 6, locals := 38 } 1 6 D cA te mi ([.ref X, .int (nI k), .int a, .int b, .int d] : List Value) kd ln I L R (zk_Q (some (.int (nI j))) X te (va_up c9 (30 + j) (zk_pbi a b d)) (va_up (zu d9 9 0 (d9 9 0 + 1)) (30 + j) (va_up (fun _ => 0) 3 (d9 9 0 + 1))) (zu g9 3 j (k + 1))) := by
  intro sz
  refine Met.ofW (cc := b_Rec_play) (maxL := 7) (ret := (some (.int))) (by decide +kernel) rfl ?_
  intro p e s m args below meth c s₁ B hml hv
  obtain ⟨rfl, hsz, hSc, hE, hH⟩ := hv
  have hx := B.exec
  have hb := B.bytes
  have hr := B.returns
  have hts := atoms_spec (ws := w_Rec_play) B.pre
  have hw : ∀ {w : Cond}, w ∈ zw → w.before ([.ref X, .int (nI k), .int a, .int b, .int d] : List Value).toArray s = true := fun h => hts _ (List.mem_cons_of_mem _ h)
  have hown : s.vm.findClass R_Rec = some m.cls := findClass_of_methodNamed B.named
  have hlocks := B.notSynchronized
  subst hsz
  have hK := hSc.1
  have hH : zh_H D cA (zc_A kd s.heap.size) kd ln I L R s.heap := hH.weaken (fun q h _ => Or.inl h)
  generalize hAe : zc_A kd s.heap.size = A at hH hE ⊢
  have hA : ∀ q : Nat, s.heap.size ≤ q → A q := fun q h => by rw [← hAe]; exact Or.inr h
  have hS : va_S A s.heap s.heap [] := va_S.rf
  have hl := lv_entry ([.ref X, .int (nI k), .int a, .int b, .int d] : List Value) (n := 7) (Nat.le_of_ble_eq_true rfl)
  rw [lg_entry_eq]
  generalize (lg_sl ([.ref X, .int (nI k), .int a, .int b, .int d] : List Value) ++ List.replicate (7 - (lg_sl ([.ref X, .int (nI k), .int a, .int b, .int d] : List Value)).length) Slot.unset).toArray = ls at hl ⊢
  have hl : lv_has ls 7 [(0, .ref X), (1, .int (nI k)), (2, .int a), (3, .int b), (4, .int d)] := hl
  refine lv_aload_n hx hb d_Rec_play_0 rfl (lv_at hl 0 rfl) ?_
  refine lv_iload_n hx hb d_Rec_play_1 rfl (lv_at hl 1 rfl) ?_
  refine zr_V (As := ([.int (nI k)] : List Value)) (rest := []) (b := X) (ci := 0) (q := (R_Rec, T_Rec, 6)) ⟨hx, hb, hml, hown, hts⟩ (c_Rec_madeStore_S hm (by omega) hgk) ⟨(callB_of 1 hts (zg_all zw_195) rfl rfl rfl (hw zw_1) (hw zw_192) k_Rec_madeStore.2 ⟨Nat.le_of_ble_eq_true rfl, Nat.le_of_ble_eq_true rfl⟩), (hw zw_194), (hw zs_Rec_madeStore)⟩ hSc hE hH hS hA rfl (by decide) hm.2.2.1.1 rfl hl.1 rfl (Nat.le_of_ble_eq_true rfl) d_Rec_play_2 ⟨Nat.le_of_ble_eq_true rfl, Nat.le_of_ble_eq_true rfl⟩ (fun v1 kd1 ln1 I1 L1 R1 H locs hp hH hS => ?_)
  obtain ⟨rfl, rfl, rfl, rfl, rfl, rfl⟩ := hp
  refine W.eq (g2 := F0 m 5 ls [.ref (a9 (10 + k))]) rfl ?_
  refine W.widen (k := 0) (n := 0) (by omega) (by omega) ?_
  refine lv_astore (lv' := [(5, .ref (a9 (10 + k))), (0, .ref X), (1, .int (nI k)), (2, .int a), (3, .int b), (4, .int d)]) hx hb d_Rec_play_5 hl (by decide) rfl (fun ls hl => ?_)
  refine lv_aload hx hb d_Rec_play_7 (lv_at hl 0 rfl) ?_
  refine lv_ifnull hx hb d_Rec_play_9 ?_
  refine lv_iload hx hb d_Rec_play_12 (lv_at hl 5 rfl) ?_
  refine lv_if_lt (tgt := 24) hx hb d_Rec_play_14 (by decide) (fun hc2 => ?_) (fun hc2 => ?_)
  · skip
    have hc2 : d < (nI 0) := hc2
    (first | exact absurd hc2 hd1 | exact absurd hc2 hd2)
  · skip
    have hc2 : ¬ d < (nI 0) := hc2
    refine lv_iload hx hb d_Rec_play_17 (lv_at hl 5 rfl) ?_
    refine lv_bipush (v := nI 9) hx hb d_Rec_play_19 (by decide) ?_
    refine lv_icmp_le (tgt := 27) hx hb d_Rec_play_21 (by decide) (fun hc3 => ?_) (fun hc3 => ?_)
    · skip
      have hc3 : ¬ (nI 9) < d := Int32.not_lt.mpr hc3
      refine lv_iconst (v := nI 0) hx hb d_Rec_play_27 (by decide) ?_
      refine lv_istore (lv' := [(6, .int (nI 0)), (5, .ref (a9 (10 + k))), (0, .ref X), (1, .int (nI k)), (2, .int a), (3, .int b), (4, .int d)]) hx hb d_Rec_play_28 hl (by decide) rfl (fun ls hl => ?_)
      have loop_30 : ∀ (z : Nat) (i : Nat) (I_30 : Nat → Nat → Int32) (L_30 : Nat → Nat → Int64) (R_30 : Nat → Nat → Option Nat) (H : Heap) (locs : List Loc) (ls : Array Slot), 4 - i < z → (i ≤ j) → (zkR X te a9 e9 c9 d9 g9 kd ln I_30 L_30 R_30) → lv_has ls 7 [(0, .ref X), (2, .int a), (3, .int b), (4, .int d), (5, .ref (a9 (10 + k))), (6, .int (nI i))] → zh_H D cA A kd ln I_30 L_30 R_30 H → va_S A s.heap H locs → W p l e (headSpec w_Rec_play { frames := 2, cells := 1, slots := 6, locals := 38 }).room s m ([.ref X, .int (nI k), .int a, .int b, .int d] : List Value).toArray below meth c H locs 0 0 (MQ below (zc_Qc D cA A (zk_Q (some (.int (nI j))) X te (va_up c9 (30 + j) (zk_pbi a b d)) (va_up (zu d9 9 0 (d9 9 0 + 1)) (30 + j) (va_up (fun _ => 0) 3 (d9 9 0 + 1))) (zu g9 3 j (k + 1)))) ([.ref X, .int (nI k), .int a, .int b, .int d] : List Value).toArray s 1 6 A) (F0 m 30 ls []) := by
        intro z
        induction z with
        | zero => intro i I_30 L_30 R_30 H locs ls hz; exact absurd hz (Nat.not_lt_zero _)
        | succ z ih_30 =>
          intro i I_30 L_30 R_30 H locs ls hz_30 hi hm hl hH hS
          refine lv_iload hx hb d_Rec_play_30 (lv_at hl 5 rfl) ?_
          refine lv_iconst (v := nI 4) hx hb d_Rec_play_32 (by decide) ?_
          refine lv_icmp_ge (tgt := 79) hx hb d_Rec_play_33 (by decide) (fun hc4 => ?_) (fun hc4 => ?_)
          · skip
            have hc4 := zt_geT (a := i) (b := 4) (by omega) (by omega) hc4
            exact absurd hc4 (by omega)
          · skip
            have hc4 := zt_geF (a := i) (b := 4) (by omega) (by omega) hc4
            refine lv_aload_n hx hb d_Rec_play_36 rfl (lv_at hl 0 rfl) ?_
            refine zr_getr (ci := 0) (C := R_Rec) (T := T_Rec) (N := 6) (ref := "ScrubbedRecorder") hx hb hts (fun w h => List.mem_cons_of_mem _ (zin_Rec w h)) hown hK hH hm.2.2.1.1 (by decide) rfl 2 (by decide) rfl (hw zw_66) (fun _ h9 => h9) d_Rec_play_37 hm.2.2.1.2.2.2.1 ?_
            refine lv_iload hx hb d_Rec_play_40 (lv_at hl 5 rfl) ?_
            rcases Decidable.em (g9 3 i = 0) with hg5 | hg5
            · skip
              refine zr_ald0 (b := 0) (t := 6) (j := i) hx hb (by decide) (by decide) rfl hK hH (show kd (a9 5) = 106 from zkR_k hm (zk_lv0 (by decide))) (by rw [show ln (a9 5) = 4 from zkR_n hm (zk_lv0 (by decide)) (by decide)]; exact zh_ix_n (by omega) (by omega)) d_Rec_play_42 (zkR_pn hm (by omega) hg5) ?_
              refine lv_ifnonnullN hx hb d_Rec_play_43 ?_
              have hij : i = j := by rcases Nat.lt_or_ge i j with q | q; exact absurd hg5 (hfree i q); omega
              rw [hij] at hl
              refine lv_aload_n hx hb d_Rec_play_46 rfl (lv_at hl 0 rfl) ?_
              refine zr_getr (ci := 0) (C := R_Rec) (T := T_Rec) (N := 6) (ref := "ScrubbedRecorder") hx hb hts (fun w h => List.mem_cons_of_mem _ (zin_Rec w h)) hown hK hH hm.2.2.1.1 (by decide) rfl 2 (by decide) rfl (hw zw_66) (fun _ h9 => h9) d_Rec_play_47 hm.2.2.1.2.2.2.1 ?_
              refine lv_iload hx hb d_Rec_play_50 (lv_at hl 5 rfl) ?_
              have hm0 := hm
              refine zr_new (ci := 4) (C := R_Pb) (T := T_Pb) (N := 6) hx hb hts (fun w h => List.mem_cons_of_mem _ (zin_Pb w h)) ty_Pb tyok_Pb hown (hw zw_62) (hw zw_367) (hw zw_15) hK hH hS hA (by decide) rfl zdf_Pb (Nat.le_of_ble_eq_true rfl) (Nat.le_of_ble_eq_true rfl) d_Rec_play_52 (fun q6 H hq7 hH hS => ?_)
              refine W.widen (k := 1) (n := 6) (by omega) (by omega) ?_
              have hQl : ∀ r, zk_lv g9 r → a9 r ≠ q6 := fun r hr e => zkR_nz hm hr (by rw [e]; exact hq7)
              have hXq : X ≠ q6 := fun e => by have h8 := hm.2.2.1.1; rw [e, hq7] at h8; omega
              have hm := zkR_fm (kd1 := (va_up kd q6 5)) (ln1 := ln) (I1 := (va_up I_30 q6 (fun _ => 0))) (L1 := (va_up L_30 q6 (fun _ => 0))) (R1 := (va_up R_30 q6 (fun _ => none))) hm (zh_te hE hH) (fun a8 ha8 => by have hne : a8 ≠ q6 := fun e => ha8 (by rw [e]; exact hq7); rw [va_up_ne _ _ hne, va_up_ne _ _ hne, va_up_ne _ _ hne, va_up_ne _ _ hne]; exact ⟨rfl, rfl, rfl, rfl, rfl⟩)
              have kQ : (va_up kd q6 5) q6 = 5 := va_up_self _ _ _
              have iQ : (va_up I_30 q6 (fun _ => 0)) q6 = fun _ => 0 := va_up_self _ _ _
              have lQ : (va_up L_30 q6 (fun _ => 0)) q6 = fun _ => 0 := va_up_self _ _ _
              refine lv_dup hx hb d_Rec_play_55 rfl ?_
              refine lv_aload hx hb d_Rec_play_56 (lv_at hl 4 rfl) ?_
              refine lv_iload_n hx hb d_Rec_play_58 rfl (lv_at hl 1 rfl) ?_
              refine lv_iload_n hx hb d_Rec_play_59 rfl (lv_at hl 2 rfl) ?_
              refine lv_iload hx hb d_Rec_play_60 (lv_at hl 3 rfl) ?_
              refine lv_aload_n hx hb d_Rec_play_62 rfl (lv_at hl 0 rfl) ?_
              refine zr_V (As := ([] : List Value)) (rest := [.int d, .int b, .int a, .ref (a9 (10 + k)), .ref q6, .ref q6, .int (nI j), .ref (a9 5)]) (b := X) (ci := 0) (q := (R_Rec, T_Rec, 6)) ⟨hx, hb, hml, hown, hts⟩ (c_Rec_nextTurn hm.2.2.1.1) ⟨(callB_of 0 hts (zg_all zw_371) rfl rfl rfl (hw zw_1) (hw zw_368) k_Rec_nextTurn.2 ⟨Nat.le_of_ble_eq_true rfl, Nat.le_of_ble_eq_true rfl⟩), (hw zw_370), (hw zs_Rec_nextTurn)⟩ hSc hE hH hS hA rfl (by decide) hm.2.2.1.1 rfl hl.1 rfl (Nat.le_of_ble_eq_true rfl) d_Rec_play_63 ⟨Nat.le_of_ble_eq_true rfl, Nat.le_of_ble_eq_true rfl⟩ (fun v8 kd8 ln8 I8 L8 R8 H locs hp hH hS => ?_)
              obtain ⟨rfl, rfl, rfl, rfl, rfl, rfl⟩ := hp
              rw [show (va_up L_30 q6 (fun _ => 0)) X 5 = d9 9 0 from hm.2.2.1.2.2.2.2.2] at hH ⊢
              have hm := zkR_T hm (d9 9 0 + 1)
              refine W.eq (g2 := F0 m 66 ls [.long (d9 9 0 + 1), .int d, .int b, .int a, .ref (a9 (10 + k)), .ref q6, .ref q6, .int (nI j), .ref (a9 5)]) rfl ?_
              refine W.widen (k := 1) (n := 6) (by omega) (by omega) ?_
              refine zr_In (As := ([.ref (a9 (10 + k)), .int a, .int b, .int d, .long (d9 9 0 + 1)] : List Value)) (rest := [.ref q6, .int (nI j), .ref (a9 5)]) (b := q6) ⟨hx, hb, hml, hown, hts⟩ (c_Pb_init kQ ((zkR_k hm (zk_lv1 (by omega) hgk)).trans (zk_k1 (by omega)))) ⟨(callB_of 5 hts (zg_all zw_374) rfl rfl rfl (hw zw_15) (hw zw_372) k_Pb_init.2 ⟨Nat.le_of_ble_eq_true rfl, Nat.le_of_ble_eq_true rfl⟩), rfl, (hw zw_373)⟩ hSc hE hH hS hA rfl hl.1 rfl (Nat.le_of_ble_eq_true rfl) d_Rec_play_66 ⟨Nat.le_of_ble_eq_true rfl, Nat.le_of_ble_eq_true rfl⟩ (fun v9 kd9 ln9 I9 L9 R9 H locs hp hH hS => ?_)
              obtain ⟨rfl, rfl, rfl, rfl, rfl, rfl⟩ := hp
              rw [zk_pbi_eq a b d iQ, up_up] at hH
              have eL : zu (zu (va_up L_30 q6 (fun _ => 0)) X 5 (d9 9 0 + 1)) q6 3 (d9 9 0 + 1) = va_up (zu L_30 X 5 (d9 9 0 + 1)) q6 (va_up (fun _ => 0) 3 (d9 9 0 + 1)) := by rw [zu_upc _ _ _ _ hXq, zu_up]
              rw [eL] at hH
              have hm := zkR_fm (kd1 := (va_up kd q6 5)) (ln1 := ln) (I1 := va_up I_30 q6 (zk_pbi a b d)) (L1 := va_up (zu L_30 X 5 (d9 9 0 + 1)) q6 (va_up (fun _ => 0) 3 (d9 9 0 + 1))) (R1 := zu (va_up R_30 q6 (fun _ => none)) q6 4 (some (a9 (10 + k)))) (zkR_T hm0 (d9 9 0 + 1)) (zh_te hE hH) (fun a8 ha8 => by have hne : a8 ≠ q6 := fun e => ha8 (by rw [e]; exact hq7); rw [va_up_ne _ _ hne, va_up_ne _ _ hne, va_up_ne _ _ hne, zu_ne _ _ _ hne, va_up_ne _ _ hne]; exact ⟨rfl, rfl, rfl, rfl, rfl⟩)
              have iQ5 : (va_up I_30 q6 (zk_pbi a b d)) q6 = zk_pbi a b d := va_up_self _ _ _
              have lQ5 : (va_up (zu L_30 X 5 (d9 9 0 + 1)) q6 (va_up (fun _ => 0) 3 (d9 9 0 + 1))) q6 = va_up (fun _ => 0) 3 (d9 9 0 + 1) := va_up_self _ _ _
              have rQ5 : (zu (va_up R_30 q6 (fun _ => none)) q6 4 (some (a9 (10 + k)))) q6 4 = some (a9 (10 + k)) := zu_self _ _ _ _
              clear iQ lQ eL
              generalize (va_up kd q6 5) = kd5 at hm hH kQ
              generalize va_up I_30 q6 (zk_pbi a b d) = I5 at hm hH iQ5
              generalize va_up (zu L_30 X 5 (d9 9 0 + 1)) q6 (va_up (fun _ => 0) 3 (d9 9 0 + 1)) = L5 at hm hH lQ5
              generalize zu (va_up R_30 q6 (fun _ => none)) q6 4 (some (a9 (10 + k))) = R5 at hm hH rQ5
              refine W.eq (g2 := F0 m 69 ls [.ref q6, .int (nI j), .ref (a9 5)]) rfl ?_
              refine W.widen (k := 1) (n := 6) (by omega) (by omega) ?_
              refine zr_astr (t := 6) (ci := 4) (j := j) hx hb (by decide) (by decide) rfl hK hH hS (show kd5 (a9 5) = 106 from zkR_k hm (zk_lv0 (by decide))) kQ (by decide) rfl (by rw [show ln (a9 5) = 4 from zkR_n hm (zk_lv0 (by decide)) (by decide)]; exact zh_ix_n (by omega) (by omega)) d_Rec_play_69 (fun H locs hH hS => ?_)
              have hm := zkR_pw hm hj4 hk4 hgj h39 kQ rQ5 hQl
              rw [iQ5, lQ5] at hm
              generalize zu R5 (a9 5) j (some q6) = R10 at hm hH
              refine lv_iload hx hb d_Rec_play_70 (lv_at hl 5 rfl) ?_
              refine W.widen (k := 1) (n := 6) (Nat.le_of_ble_eq_true rfl) (Nat.le_of_ble_eq_true rfl) ?_
              subst hAe
              exact W.iret (v := nI j) hx hb hr (fun t ht hW => zc_end hS hH ht (⟨rfl, _, _, hm⟩)) hS.2.2 d_Rec_play_72
            · skip
              refine zr_aldr (t := 6) (j := i) hx hb (by decide) (by decide) rfl hK hH (show kd (a9 5) = 106 from zkR_k hm (zk_lv0 (by decide))) (by rw [show ln (a9 5) = 4 from zkR_n hm (zk_lv0 (by decide)) (by decide)]; exact zh_ix_n (by omega) (by omega)) d_Rec_play_42 (zkR_pb hm (by omega) hg5).1 ?_
              refine lv_ifnonnull (tgt := 73) hx hb d_Rec_play_43 (by decide) ?_
              refine lv_iinc (k := 5) (v := nI (i + 1)) (lv' := [(6, .int (nI (i + 1))), (0, .ref X), (2, .int a), (3, .int b), (4, .int d), (5, .ref (a9 (10 + k)))]) hx hb d_Rec_play_73 hl rfl (nI_add i 1) (by decide) rfl (fun ls hl => ?_)
              refine lv_goto (tgt := 30) hx hb d_Rec_play_76 (by decide) ?_
              exact ih_30 (i + 1) _ _ _ _ _ _ (by omega) (by have h8 := hg5; rcases Nat.lt_or_ge i j with q | q; exact q; exact absurd (show g9 3 i = 0 by rw [show i = j by omega]; exact hgj) h8) hm (lv_sub hl [1, 2, 3, 4, 5, 0] rfl) hH hS
      exact loop_30 _ 0 _ _ _ _ _ _ (Nat.lt_succ_self _) (by omega) hm (lv_sub hl [2, 4, 5, 6, 1, 0] rfl) hH hS
    · skip
      have hc3 : (nI 9) < d := Int32.not_le.mp hc3
      (first | exact absurd hc3 hd1 | exact absurd hc3 hd2)

set_option maxHeartbeats 4000000 in
set_option maxRecDepth 100000 in
/-- makeStore, refused -/
theorem c_Rec_makeStore_B {l : Launch} {D : va_G} {cA : Nat → ClassId} {te mi : Nat} {kd ln : Nat → Nat} {I : Nat → Nat → Int32} {L : Nat → Nat → Int64} {R : Nat → Nat → Option Nat} {X : Nat} {a9 e9 : Nat → Nat} {c9 : Nat → Nat → Int32} {d9 : Nat → Nat → Int64} {g9 : Nat → Nat → Nat} (hm : zkR X te a9 e9 c9 d9 g9 kd ln I L R) {x b y : Int32} (hbad : x < nI 0 ∨ ¬ x < nI 4 ∨ y < nI 3 ∨ nI 40 < y) : zc_M l y_Rec_makeStore w_Rec_makeStore { frames := 5, cells := 3, slots := 53, locals := 107 } 3 53 D cA te mi ([.ref X, .int x, .int b, .int y] : List Value) kd ln I L R (zk_P (some (.int (-2))) X te a9 e9 c9 d9 g9 kd ln) := by
  intro sz
  refine Met.ofW (cc := b_Rec_makeStore) (maxL := 4) (ret := (some (.int))) (by decide +kernel) rfl ?_
  intro p e s m args below meth c s₁ B hml hv
  obtain ⟨rfl, hsz, hSc, hE, hH⟩ := hv
  have hx := B.exec
  have hb := B.bytes
  have hr := B.returns
  have hts := atoms_spec (ws := w_Rec_makeStore) B.pre
  have hw : ∀ {w : Cond}, w ∈ zw → w.before ([.ref X, .int x, .int b, .int y] : List Value).toArray s = true := fun h => hts _ (List.mem_cons_of_mem _ h)
  have hown : s.vm.findClass R_Rec = some m.cls := findClass_of_methodNamed B.named
  have hlocks := B.notSynchronized
  subst hsz
  have hK := hSc.1
  have hH : zh_H D cA (zc_A kd s.heap.size) kd ln I L R s.heap := hH.weaken (fun q h _ => Or.inl h)
  generalize hAe : zc_A kd s.heap.size = A at hH hE ⊢
  have hA : ∀ q : Nat, s.heap.size ≤ q → A q := fun q h => by rw [← hAe]; exact Or.inr h
  have hS : va_S A s.heap s.heap [] := va_S.rf
  have hl := lv_entry ([.ref X, .int x, .int b, .int y] : List Value) (n := 4) (Nat.le_of_ble_eq_true rfl)
  rw [lg_entry_eq]
  generalize (lg_sl ([.ref X, .int x, .int b, .int y] : List Value) ++ List.replicate (4 - (lg_sl ([.ref X, .int x, .int b, .int y] : List Value)).length) Slot.unset).toArray = ls at hl ⊢
  have hl : lv_has ls 4 [(0, .ref X), (1, .int x), (2, .int b), (3, .int y)] := hl
  refine lv_iload_n hx hb d_Rec_makeStore_0 rfl (lv_at hl 1 rfl) ?_
  refine lv_if_lt (tgt := 20) hx hb d_Rec_makeStore_1 (by decide) (fun hc1 => ?_) (fun hc1 => ?_)
  · skip
    have hc1 : x < (nI 0) := hc1
    refine lv_bipush (v := (-2)) hx hb d_Rec_makeStore_20 (by decide) ?_
    refine W.widen (k := 3) (n := 53) (Nat.le_of_ble_eq_true rfl) (Nat.le_of_ble_eq_true rfl) ?_
    subst hAe
    exact W.iret (v := (-2)) hx hb hr (fun t ht hW => zc_end hS hH ht (⟨rfl, rfl, rfl, hm⟩)) hS.2.2 d_Rec_makeStore_22
  · skip
    have hc1 : ¬ x < (nI 0) := hc1
    refine lv_iload_n hx hb d_Rec_makeStore_4 rfl (lv_at hl 1 rfl) ?_
    refine lv_iconst (v := nI 4) hx hb d_Rec_makeStore_5 (by decide) ?_
    refine lv_icmp_ge (tgt := 20) hx hb d_Rec_makeStore_6 (by decide) (fun hc2 => ?_) (fun hc2 => ?_)
    · skip
      have hc2 : ¬ x < (nI 4) := Int32.not_lt.mpr hc2
      refine lv_bipush (v := (-2)) hx hb d_Rec_makeStore_20 (by decide) ?_
      refine W.widen (k := 3) (n := 53) (Nat.le_of_ble_eq_true rfl) (Nat.le_of_ble_eq_true rfl) ?_
      subst hAe
      exact W.iret (v := (-2)) hx hb hr (fun t ht hW => zc_end hS hH ht (⟨rfl, rfl, rfl, hm⟩)) hS.2.2 d_Rec_makeStore_22
    · skip
      have hc2 : x < (nI 4) := Int32.not_le.mp hc2
      refine lv_iload_n hx hb d_Rec_makeStore_9 rfl (lv_at hl 3 rfl) ?_
      refine lv_iconst (v := nI 3) hx hb d_Rec_makeStore_10 (by decide) ?_
      refine lv_icmp_lt (tgt := 20) hx hb d_Rec_makeStore_11 (by decide) (fun hc3 => ?_) (fun hc3 => ?_)
      · skip
        have hc3 : y < (nI 3) := hc3
        refine lv_bipush (v := (-2)) hx hb d_Rec_makeStore_20 (by decide) ?_
        refine W.widen (k := 3) (n := 53) (Nat.le_of_ble_eq_true rfl) (Nat.le_of_ble_eq_true rfl) ?_
        subst hAe
        exact W.iret (v := (-2)) hx hb hr (fun t ht hW => zc_end hS hH ht (⟨rfl, rfl, rfl, hm⟩)) hS.2.2 d_Rec_makeStore_22
      · skip
        have hc3 : ¬ y < (nI 3) := hc3
        refine lv_iload_n hx hb d_Rec_makeStore_14 rfl (lv_at hl 3 rfl) ?_
        refine lv_bipush (v := nI 40) hx hb d_Rec_makeStore_15 (by decide) ?_
        refine lv_icmp_le (tgt := 23) hx hb d_Rec_makeStore_17 (by decide) (fun hc4 => ?_) (fun hc4 => ?_)
        · skip
          have hc4 : ¬ (nI 40) < y := Int32.not_lt.mpr hc4
          exact absurd hbad (fun q => q.elim (by assumption) (fun q => q.elim (fun z => z (by assumption)) (fun q => q.elim (by assumption) (by assumption))))
        · skip
          have hc4 : (nI 40) < y := Int32.not_le.mp hc4
          refine lv_bipush (v := (-2)) hx hb d_Rec_makeStore_20 (by decide) ?_
          refine W.widen (k := 3) (n := 53) (Nat.le_of_ble_eq_true rfl) (Nat.le_of_ble_eq_true rfl) ?_
          subst hAe
          exact W.iret (v := (-2)) hx hb hr (fun t ht hW => zc_end hS hH ht (⟨rfl, rfl, rfl, hm⟩)) hS.2.2 d_Rec_makeStore_22

set_option maxHeartbeats 4000000 in
set_option maxRecDepth 100000 in
/-- makeStore, taken -/
theorem c_Rec_makeStore_T {l : Launch} {D : va_G} {cA : Nat → ClassId} {te mi : Nat} {kd ln : Nat → Nat} {I : Nat → Nat → Int32} {L : Nat → Nat → Int64} {R : Nat → Nat → Option Nat} {X : Nat} {a9 e9 : Nat → Nat} {c9 : Nat → Nat → Int32} {d9 : Nat → Nat → Int64} {g9 : Nat → Nat → Nat} (hm : zkR X te a9 e9 c9 d9 g9 kd ln I L R) {k n : Nat} {b : Int32} (hk4 : k < 4) (hn3 : 3 ≤ n) (hn40 : n ≤ 40) (hgk : g9 0 k ≠ 0) : zc_M l y_Rec_makeStore w_Rec_makeStore { frames := 5, cells := 3, slots := 53, locals := 107 } 3 53 D cA te mi ([.ref X, .int (nI k), .int b, .int (nI n)] : List Value) kd ln I L R (zk_P (some (.int (-3))) X te a9 e9 c9 d9 g9 kd ln) := by
  intro sz
  refine Met.ofW (cc := b_Rec_makeStore) (maxL := 4) (ret := (some (.int))) (by decide +kernel) rfl ?_
  intro p e s m args below meth c s₁ B hml hv
  obtain ⟨rfl, hsz, hSc, hE, hH⟩ := hv
  have hx := B.exec
  have hb := B.bytes
  have hr := B.returns
  have hts := atoms_spec (ws := w_Rec_makeStore) B.pre
  have hw : ∀ {w : Cond}, w ∈ zw → w.before ([.ref X, .int (nI k), .int b, .int (nI n)] : List Value).toArray s = true := fun h => hts _ (List.mem_cons_of_mem _ h)
  have hown : s.vm.findClass R_Rec = some m.cls := findClass_of_methodNamed B.named
  have hlocks := B.notSynchronized
  subst hsz
  have hK := hSc.1
  have hH : zh_H D cA (zc_A kd s.heap.size) kd ln I L R s.heap := hH.weaken (fun q h _ => Or.inl h)
  generalize hAe : zc_A kd s.heap.size = A at hH hE ⊢
  have hA : ∀ q : Nat, s.heap.size ≤ q → A q := fun q h => by rw [← hAe]; exact Or.inr h
  have hS : va_S A s.heap s.heap [] := va_S.rf
  have hl := lv_entry ([.ref X, .int (nI k), .int b, .int (nI n)] : List Value) (n := 4) (Nat.le_of_ble_eq_true rfl)
  rw [lg_entry_eq]
  generalize (lg_sl ([.ref X, .int (nI k), .int b, .int (nI n)] : List Value) ++ List.replicate (4 - (lg_sl ([.ref X, .int (nI k), .int b, .int (nI n)] : List Value)).length) Slot.unset).toArray = ls at hl ⊢
  have hl : lv_has ls 4 [(0, .ref X), (1, .int (nI k)), (2, .int b), (3, .int (nI n))] := hl
  refine lv_iload_n hx hb d_Rec_makeStore_0 rfl (lv_at hl 1 rfl) ?_
  refine lv_if_lt (tgt := 20) hx hb d_Rec_makeStore_1 (by decide) (fun hc1 => ?_) (fun hc1 => ?_)
  · skip
    have hc1 := zt_ltT (a := k) (b := 0) (by omega) (by omega) hc1
    exact absurd hc1 (by omega)
  · skip
    have hc1 := zt_ltF (a := k) (b := 0) (by omega) (by omega) hc1
    refine lv_iload_n hx hb d_Rec_makeStore_4 rfl (lv_at hl 1 rfl) ?_
    refine lv_iconst (v := nI 4) hx hb d_Rec_makeStore_5 (by decide) ?_
    refine lv_icmp_ge (tgt := 20) hx hb d_Rec_makeStore_6 (by decide) (fun hc2 => ?_) (fun hc2 => ?_)
    · skip
      have hc2 := zt_geT (a := k) (b := 4) (by omega) (by omega) hc2
      exact absurd hc2 (by omega)
    · skip
      have hc2 := zt_geF (a := k) (b := 4) (by omega) (by omega) hc2
      refine lv_iload_n hx hb d_Rec_makeStore_9 rfl (lv_at hl 3 rfl) ?_
      refine lv_iconst (v := nI 3) hx hb d_Rec_makeStore_10 (by decide) ?_
      refine lv_icmp_lt (tgt := 20) hx hb d_Rec_makeStore_11 (by decide) (fun hc3 => ?_) (fun hc3 => ?_)
      · skip
        have hc3 := zt_ltT (a := n) (b := 3) (by omega) (by omega) hc3
        exact absurd hc3 (by omega)
      · skip
        have hc3 := zt_ltF (a := n) (b := 3) (by omega) (by omega) hc3
        refine lv_iload_n hx hb d_Rec_makeStore_14 rfl (lv_at hl 3 rfl) ?_
        refine lv_bipush (v := nI 40) hx hb d_Rec_makeStore_15 (by decide) ?_
        refine lv_icmp_le (tgt := 23) hx hb d_Rec_makeStore_17 (by decide) (fun hc4 => ?_) (fun hc4 => ?_)
        · skip
          have hc4 := zt_leT (a := n) (b := 40) (by omega) (by omega) hc4
          refine lv_aload_n hx hb d_Rec_makeStore_23 rfl (lv_at hl 0 rfl) ?_
          refine zr_getr (ci := 0) (C := R_Rec) (T := T_Rec) (N := 6) (ref := "ScrubbedRecorder") hx hb hts (fun w h => List.mem_cons_of_mem _ (zin_Rec w h)) hown hK hH hm.2.2.1.1 (by decide) rfl 1 (by decide) rfl (hw zw_65) (fun _ h9 => h9) d_Rec_makeStore_24 hm.2.2.1.2.2.1 ?_
          refine lv_iload_n hx hb d_Rec_makeStore_27 rfl (lv_at hl 1 rfl) ?_
          refine zr_aldr (t := 5) (j := k) hx hb (by decide) (by decide) rfl hK hH (show kd (a9 4) = 105 from zkR_k hm (zk_lv0 (by decide))) (by rw [show ln (a9 4) = 4 from zkR_n hm (zk_lv0 (by decide)) (by decide)]; exact zh_ix_n (by omega) (by omega)) d_Rec_makeStore_28 (zkR_st hm (by omega) hgk).1 ?_
          refine lv_ifnull hx hb d_Rec_makeStore_29 ?_
          refine lv_bipush (v := (-3)) hx hb d_Rec_makeStore_32 (by decide) ?_
          refine W.widen (k := 3) (n := 53) (Nat.le_of_ble_eq_true rfl) (Nat.le_of_ble_eq_true rfl) ?_
          subst hAe
          exact W.iret (v := (-3)) hx hb hr (fun t ht hW => zc_end hS hH ht (⟨rfl, rfl, rfl, hm⟩)) hS.2.2 d_Rec_makeStore_34
        · skip
          have hc4 := zt_leF (a := n) (b := 40) (by omega) (by omega) hc4
          exact absurd hc4 (by omega)

set_option maxHeartbeats 4000000 in
set_option maxRecDepth 100000 in
/-- makeStore -/
theorem c_Rec_makeStore_F {l : Launch} {D : va_G} {cA : Nat → ClassId} {te mi : Nat} {kd ln : Nat → Nat} {I : Nat → Nat → Int32} {L : Nat → Nat → Int64} {R : Nat → Nat → Option Nat} {X : Nat} {a9 e9 : Nat → Nat} {c9 : Nat → Nat → Int32} {d9 : Nat → Nat → Int64} {g9 : Nat → Nat → Nat} (hm : zkR X te a9 e9 c9 d9 g9 kd ln I L R) {k n : Nat} {b : Int32} (hk4 : k < 4) (hn3 : 3 ≤ n) (hn40 : n ≤ 40) (hgk : g9 0 k = 0) (hun : zk_un c9 g9 4 < nI n) : zc_M l y_Rec_makeStore w_Rec_makeStore { frames := 5, cells := 3, slots := 53, locals := 107 } 3 53 D cA te mi ([.ref X, .int (nI k), .int b, .int (nI n)] : List Value) kd ln I L R (zk_P (some (.int (-4))) X te a9 e9 c9 d9 g9 kd ln) := by
  intro sz
  refine Met.ofW (cc := b_Rec_makeStore) (maxL := 4) (ret := (some (.int))) (by decide +kernel) rfl ?_
  intro p e s m args below meth c s₁ B hml hv
  obtain ⟨rfl, hsz, hSc, hE, hH⟩ := hv
  have hx := B.exec
  have hb := B.bytes
  have hr := B.returns
  have hts := atoms_spec (ws := w_Rec_makeStore) B.pre
  have hw : ∀ {w : Cond}, w ∈ zw → w.before ([.ref X, .int (nI k), .int b, .int (nI n)] : List Value).toArray s = true := fun h => hts _ (List.mem_cons_of_mem _ h)
  have hown : s.vm.findClass R_Rec = some m.cls := findClass_of_methodNamed B.named
  have hlocks := B.notSynchronized
  subst hsz
  have hK := hSc.1
  have hH : zh_H D cA (zc_A kd s.heap.size) kd ln I L R s.heap := hH.weaken (fun q h _ => Or.inl h)
  generalize hAe : zc_A kd s.heap.size = A at hH hE ⊢
  have hA : ∀ q : Nat, s.heap.size ≤ q → A q := fun q h => by rw [← hAe]; exact Or.inr h
  have hS : va_S A s.heap s.heap [] := va_S.rf
  have hl := lv_entry ([.ref X, .int (nI k), .int b, .int (nI n)] : List Value) (n := 4) (Nat.le_of_ble_eq_true rfl)
  rw [lg_entry_eq]
  generalize (lg_sl ([.ref X, .int (nI k), .int b, .int (nI n)] : List Value) ++ List.replicate (4 - (lg_sl ([.ref X, .int (nI k), .int b, .int (nI n)] : List Value)).length) Slot.unset).toArray = ls at hl ⊢
  have hl : lv_has ls 4 [(0, .ref X), (1, .int (nI k)), (2, .int b), (3, .int (nI n))] := hl
  refine lv_iload_n hx hb d_Rec_makeStore_0 rfl (lv_at hl 1 rfl) ?_
  refine lv_if_lt (tgt := 20) hx hb d_Rec_makeStore_1 (by decide) (fun hc1 => ?_) (fun hc1 => ?_)
  · skip
    have hc1 := zt_ltT (a := k) (b := 0) (by omega) (by omega) hc1
    exact absurd hc1 (by omega)
  · skip
    have hc1 := zt_ltF (a := k) (b := 0) (by omega) (by omega) hc1
    refine lv_iload_n hx hb d_Rec_makeStore_4 rfl (lv_at hl 1 rfl) ?_
    refine lv_iconst (v := nI 4) hx hb d_Rec_makeStore_5 (by decide) ?_
    refine lv_icmp_ge (tgt := 20) hx hb d_Rec_makeStore_6 (by decide) (fun hc2 => ?_) (fun hc2 => ?_)
    · skip
      have hc2 := zt_geT (a := k) (b := 4) (by omega) (by omega) hc2
      exact absurd hc2 (by omega)
    · skip
      have hc2 := zt_geF (a := k) (b := 4) (by omega) (by omega) hc2
      refine lv_iload_n hx hb d_Rec_makeStore_9 rfl (lv_at hl 3 rfl) ?_
      refine lv_iconst (v := nI 3) hx hb d_Rec_makeStore_10 (by decide) ?_
      refine lv_icmp_lt (tgt := 20) hx hb d_Rec_makeStore_11 (by decide) (fun hc3 => ?_) (fun hc3 => ?_)
      · skip
        have hc3 := zt_ltT (a := n) (b := 3) (by omega) (by omega) hc3
        exact absurd hc3 (by omega)
      · skip
        have hc3 := zt_ltF (a := n) (b := 3) (by omega) (by omega) hc3
        refine lv_iload_n hx hb d_Rec_makeStore_14 rfl (lv_at hl 3 rfl) ?_
        refine lv_bipush (v := nI 40) hx hb d_Rec_makeStore_15 (by decide) ?_
        refine lv_icmp_le (tgt := 23) hx hb d_Rec_makeStore_17 (by decide) (fun hc4 => ?_) (fun hc4 => ?_)
        · skip
          have hc4 := zt_leT (a := n) (b := 40) (by omega) (by omega) hc4
          refine lv_aload_n hx hb d_Rec_makeStore_23 rfl (lv_at hl 0 rfl) ?_
          refine zr_getr (ci := 0) (C := R_Rec) (T := T_Rec) (N := 6) (ref := "ScrubbedRecorder") hx hb hts (fun w h => List.mem_cons_of_mem _ (zin_Rec w h)) hown hK hH hm.2.2.1.1 (by decide) rfl 1 (by decide) rfl (hw zw_65) (fun _ h9 => h9) d_Rec_makeStore_24 hm.2.2.1.2.2.1 ?_
          refine lv_iload_n hx hb d_Rec_makeStore_27 rfl (lv_at hl 1 rfl) ?_
          refine zr_ald0 (b := 0) (t := 5) (j := k) hx hb (by decide) (by decide) rfl hK hH (show kd (a9 4) = 105 from zkR_k hm (zk_lv0 (by decide))) (by rw [show ln (a9 4) = 4 from zkR_n hm (zk_lv0 (by decide)) (by decide)]; exact zh_ix_n (by omega) (by omega)) d_Rec_makeStore_28 (zkR_sn hm (by omega) hgk) ?_
          refine lv_ifnullN (tgt := 35) hx hb d_Rec_makeStore_29 (by decide) ?_
          refine lv_iload_n hx hb d_Rec_makeStore_35 rfl (lv_at hl 3 rfl) ?_
          refine lv_aload_n hx hb d_Rec_makeStore_36 rfl (lv_at hl 0 rfl) ?_
          refine zr_V (As := ([] : List Value)) (rest := [.int (nI n)]) (b := X) (ci := 0) (q := (R_Rec, T_Rec, 6)) ⟨hx, hb, hml, hown, hts⟩ (c_Rec_unpromisedPages hm) ⟨(callB_of 0 hts (zg_all zw_91) rfl rfl rfl (hw zw_1) (hw zw_88) k_Rec_unpromisedPages.2 ⟨Nat.le_of_ble_eq_true rfl, Nat.le_of_ble_eq_true rfl⟩), (hw zw_90), (hw zs_Rec_unpromisedPages)⟩ hSc hE hH hS hA rfl (by decide) hm.2.2.1.1 rfl hl.1 rfl (Nat.le_of_ble_eq_true rfl) d_Rec_makeStore_37 ⟨Nat.le_of_ble_eq_true rfl, Nat.le_of_ble_eq_true rfl⟩ (fun v5 kd5 ln5 I5 L5 R5 H locs hp hH hS => ?_)
          obtain ⟨rfl, rfl, rfl, rfl, rfl, rfl⟩ := hp
          refine W.eq (g2 := F0 m 40 ls [.int (zk_un c9 g9 4), .int (nI n)]) rfl ?_
          refine W.widen (k := 0) (n := 0) (by omega) (by omega) ?_
          refine lv_icmp_le (tgt := 46) hx hb d_Rec_makeStore_40 (by decide) (fun hc6 => ?_) (fun hc6 => ?_)
          · skip
            have hc6 : ¬ (zk_un c9 g9 4) < (nI n) := Int32.not_lt.mpr hc6
            exact absurd hun hc6
          · skip
            have hc6 : (zk_un c9 g9 4) < (nI n) := Int32.not_le.mp hc6
            refine lv_bipush (v := (-4)) hx hb d_Rec_makeStore_43 (by decide) ?_
            refine W.widen (k := 3) (n := 53) (Nat.le_of_ble_eq_true rfl) (Nat.le_of_ble_eq_true rfl) ?_
            subst hAe
            exact W.iret (v := (-4)) hx hb hr (fun t ht hW => zc_end hS hH ht (⟨rfl, rfl, rfl, hm⟩)) hS.2.2 d_Rec_makeStore_45
        · skip
          have hc4 := zt_leF (a := n) (b := 40) (by omega) (by omega) hc4
          exact absurd hc4 (by omega)

set_option maxHeartbeats 4000000 in
set_option maxRecDepth 100000 in
/-- makeStore -/
theorem c_Rec_makeStore_S {l : Launch} {D : va_G} {cA : Nat → ClassId} {te mi : Nat} {kd ln : Nat → Nat} {I : Nat → Nat → Int32} {L : Nat → Nat → Int64} {R : Nat → Nat → Option Nat} {X : Nat} {a9 e9 : Nat → Nat} {c9 : Nat → Nat → Int32} {d9 : Nat → Nat → Int64} {g9 : Nat → Nat → Nat} (hm : zkR X te a9 e9 c9 d9 g9 kd ln I L R) {k n : Nat} {b : Int32} (hk4 : k < 4) (hn3 : 3 ≤ n) (hn40 : n ≤ 40) (hgk : g9 0 k = 0) (hun : ¬ zk_un c9 g9 4 < nI n) (hb01 : b = nI 0 ∨ b = nI 1) (h39 : ∀ p, p < 4 → g9 3 p ≤ 4 ∧ g9 3 p ≠ k + 1) (hbo : (∀ k8 x, k8 < 4 → (zk_swg g9 k) 0 k8 ≠ 0 → (zk_swg g9 k) 1 k8 ≤ x → x < (zk_swg g9 k) 2 k8 → (zk_sw2 c9 k (zk_si (nI k) b (nI n)) (fun _ => 0)) (zk_p k8 x) 5 = nI 0 ∨ (zk_sw2 c9 k (zk_si (nI k) b (nI n)) (fun _ => 0)) (zk_p k8 x) 5 = nI 1)) (hlo : (∀ k8, k8 < 4 → (zk_swg g9 k) 0 k8 ≠ 0 → (zk_swg g9 k) 1 k8 ≤ (zk_swg g9 k) 2 k8)) : zc_M l y_Rec_makeStore w_Rec_makeStore { frames := 5, cells := 3, slots := 53, locals := 107 } 3 53 D cA te mi ([.ref X, .int (nI k), .int b, .int (nI n)] : List Value) kd ln I L R (zk_Q (some (.int (zk_un (zk_sva (zk_sw2 c9 k (zk_si (nI k) b (nI n)) (fun _ => 0)) (zk_swg g9 k) 4) (zk_swg g9 k) 4))) X te (zk_sva (zk_sw2 c9 k (zk_si (nI k) b (nI n)) (fun _ => 0)) (zk_swg g9 k) 4) (zk_sw2 d9 k (fun _ => 0) (fun _ => 0)) (zk_swg g9 k)) := by
  intro sz
  refine Met.ofW (cc := b_Rec_makeStore) (maxL := 4) (ret := (some (.int))) (by decide +kernel) rfl ?_
  intro p e s m args below meth c s₁ B hml hv
  obtain ⟨rfl, hsz, hSc, hE, hH⟩ := hv
  have hx := B.exec
  have hb := B.bytes
  have hr := B.returns
  have hts := atoms_spec (ws := w_Rec_makeStore) B.pre
  have hw : ∀ {w : Cond}, w ∈ zw → w.before ([.ref X, .int (nI k), .int b, .int (nI n)] : List Value).toArray s = true := fun h => hts _ (List.mem_cons_of_mem _ h)
  have hown : s.vm.findClass R_Rec = some m.cls := findClass_of_methodNamed B.named
  have hlocks := B.notSynchronized
  subst hsz
  have hK := hSc.1
  have hH : zh_H D cA (zc_A kd s.heap.size) kd ln I L R s.heap := hH.weaken (fun q h _ => Or.inl h)
  generalize hAe : zc_A kd s.heap.size = A at hH hE ⊢
  have hA : ∀ q : Nat, s.heap.size ≤ q → A q := fun q h => by rw [← hAe]; exact Or.inr h
  have hS : va_S A s.heap s.heap [] := va_S.rf
  have hl := lv_entry ([.ref X, .int (nI k), .int b, .int (nI n)] : List Value) (n := 4) (Nat.le_of_ble_eq_true rfl)
  rw [lg_entry_eq]
  generalize (lg_sl ([.ref X, .int (nI k), .int b, .int (nI n)] : List Value) ++ List.replicate (4 - (lg_sl ([.ref X, .int (nI k), .int b, .int (nI n)] : List Value)).length) Slot.unset).toArray = ls at hl ⊢
  have hl : lv_has ls 4 [(0, .ref X), (1, .int (nI k)), (2, .int b), (3, .int (nI n))] := hl
  refine lv_iload_n hx hb d_Rec_makeStore_0 rfl (lv_at hl 1 rfl) ?_
  refine lv_if_lt (tgt := 20) hx hb d_Rec_makeStore_1 (by decide) (fun hc1 => ?_) (fun hc1 => ?_)
  · skip
    have hc1 := zt_ltT (a := k) (b := 0) (by omega) (by omega) hc1
    exact absurd hc1 (by omega)
  · skip
    have hc1 := zt_ltF (a := k) (b := 0) (by omega) (by omega) hc1
    refine lv_iload_n hx hb d_Rec_makeStore_4 rfl (lv_at hl 1 rfl) ?_
    refine lv_iconst (v := nI 4) hx hb d_Rec_makeStore_5 (by decide) ?_
    refine lv_icmp_ge (tgt := 20) hx hb d_Rec_makeStore_6 (by decide) (fun hc2 => ?_) (fun hc2 => ?_)
    · skip
      have hc2 := zt_geT (a := k) (b := 4) (by omega) (by omega) hc2
      exact absurd hc2 (by omega)
    · skip
      have hc2 := zt_geF (a := k) (b := 4) (by omega) (by omega) hc2
      refine lv_iload_n hx hb d_Rec_makeStore_9 rfl (lv_at hl 3 rfl) ?_
      refine lv_iconst (v := nI 3) hx hb d_Rec_makeStore_10 (by decide) ?_
      refine lv_icmp_lt (tgt := 20) hx hb d_Rec_makeStore_11 (by decide) (fun hc3 => ?_) (fun hc3 => ?_)
      · skip
        have hc3 := zt_ltT (a := n) (b := 3) (by omega) (by omega) hc3
        exact absurd hc3 (by omega)
      · skip
        have hc3 := zt_ltF (a := n) (b := 3) (by omega) (by omega) hc3
        refine lv_iload_n hx hb d_Rec_makeStore_14 rfl (lv_at hl 3 rfl) ?_
        refine lv_bipush (v := nI 40) hx hb d_Rec_makeStore_15 (by decide) ?_
        refine lv_icmp_le (tgt := 23) hx hb d_Rec_makeStore_17 (by decide) (fun hc4 => ?_) (fun hc4 => ?_)
        · skip
          have hc4 := zt_leT (a := n) (b := 40) (by omega) (by omega) hc4
          refine lv_aload_n hx hb d_Rec_makeStore_23 rfl (lv_at hl 0 rfl) ?_
          refine zr_getr (ci := 0) (C := R_Rec) (T := T_Rec) (N := 6) (ref := "ScrubbedRecorder") hx hb hts (fun w h => List.mem_cons_of_mem _ (zin_Rec w h)) hown hK hH hm.2.2.1.1 (by decide) rfl 1 (by decide) rfl (hw zw_65) (fun _ h9 => h9) d_Rec_makeStore_24 hm.2.2.1.2.2.1 ?_
          refine lv_iload_n hx hb d_Rec_makeStore_27 rfl (lv_at hl 1 rfl) ?_
          refine zr_ald0 (b := 0) (t := 5) (j := k) hx hb (by decide) (by decide) rfl hK hH (show kd (a9 4) = 105 from zkR_k hm (zk_lv0 (by decide))) (by rw [show ln (a9 4) = 4 from zkR_n hm (zk_lv0 (by decide)) (by decide)]; exact zh_ix_n (by omega) (by omega)) d_Rec_makeStore_28 (zkR_sn hm (by omega) hgk) ?_
          refine lv_ifnullN (tgt := 35) hx hb d_Rec_makeStore_29 (by decide) ?_
          refine lv_iload_n hx hb d_Rec_makeStore_35 rfl (lv_at hl 3 rfl) ?_
          refine lv_aload_n hx hb d_Rec_makeStore_36 rfl (lv_at hl 0 rfl) ?_
          refine zr_V (As := ([] : List Value)) (rest := [.int (nI n)]) (b := X) (ci := 0) (q := (R_Rec, T_Rec, 6)) ⟨hx, hb, hml, hown, hts⟩ (c_Rec_unpromisedPages hm) ⟨(callB_of 0 hts (zg_all zw_91) rfl rfl rfl (hw zw_1) (hw zw_88) k_Rec_unpromisedPages.2 ⟨Nat.le_of_ble_eq_true rfl, Nat.le_of_ble_eq_true rfl⟩), (hw zw_90), (hw zs_Rec_unpromisedPages)⟩ hSc hE hH hS hA rfl (by decide) hm.2.2.1.1 rfl hl.1 rfl (Nat.le_of_ble_eq_true rfl) d_Rec_makeStore_37 ⟨Nat.le_of_ble_eq_true rfl, Nat.le_of_ble_eq_true rfl⟩ (fun v5 kd5 ln5 I5 L5 R5 H locs hp hH hS => ?_)
          obtain ⟨rfl, rfl, rfl, rfl, rfl, rfl⟩ := hp
          refine W.eq (g2 := F0 m 40 ls [.int (zk_un c9 g9 4), .int (nI n)]) rfl ?_
          refine W.widen (k := 0) (n := 0) (by omega) (by omega) ?_
          refine lv_icmp_le (tgt := 46) hx hb d_Rec_makeStore_40 (by decide) (fun hc6 => ?_) (fun hc6 => ?_)
          · skip
            have hc6 : ¬ (zk_un c9 g9 4) < (nI n) := Int32.not_lt.mpr hc6
            refine lv_aload_n hx hb d_Rec_makeStore_46 rfl (lv_at hl 0 rfl) ?_
            refine zr_getr (ci := 0) (C := R_Rec) (T := T_Rec) (N := 6) (ref := "ScrubbedRecorder") hx hb hts (fun w h => List.mem_cons_of_mem _ (zin_Rec w h)) hown hK hH hm.2.2.1.1 (by decide) rfl 1 (by decide) rfl (hw zw_65) (fun _ h9 => h9) d_Rec_makeStore_47 hm.2.2.1.2.2.1 ?_
            refine lv_iload_n hx hb d_Rec_makeStore_50 rfl (lv_at hl 1 rfl) ?_
            have hm0 := hm
            refine zr_new (ci := 2) (C := R_St) (T := T_St) (N := 10) hx hb hts (fun w h => List.mem_cons_of_mem _ (zin_St w h)) ty_St tyok_St hown (hw zw_60) (hw zw_92) (hw zw_4) hK hH hS hA (by decide) rfl zdf_St (Nat.le_of_ble_eq_true rfl) (Nat.le_of_ble_eq_true rfl) d_Rec_makeStore_51 (fun q7 H hq8 hH hS => ?_)
            refine W.widen (k := 1) (n := 10) (by omega) (by omega) ?_
            have hQl : ∀ r, zk_lv g9 r → a9 r ≠ q7 := fun r hr e => zkR_nz hm hr (by rw [e]; exact hq8)
            have hm := zkR_fm (kd1 := (va_up kd q7 3)) (ln1 := ln) (I1 := (va_up I q7 (fun _ => 0))) (L1 := (va_up L q7 (fun _ => 0))) (R1 := (va_up R q7 (fun _ => none))) hm (zh_te hE hH) (fun a8 ha8 => by have hne : a8 ≠ q7 := fun e => ha8 (by rw [e]; exact hq8); rw [va_up_ne _ _ hne, va_up_ne _ _ hne, va_up_ne _ _ hne, va_up_ne _ _ hne]; exact ⟨rfl, rfl, rfl, rfl, rfl⟩)
            have kQ : (va_up kd q7 3) q7 = 3 := va_up_self _ _ _
            have iQ : (va_up I q7 (fun _ => 0)) q7 = fun _ => 0 := va_up_self _ _ _
            have lQ : (va_up L q7 (fun _ => 0)) q7 = fun _ => 0 := va_up_self _ _ _
            refine lv_dup hx hb d_Rec_makeStore_54 rfl ?_
            refine lv_iload_n hx hb d_Rec_makeStore_55 rfl (lv_at hl 1 rfl) ?_
            refine lv_iload_n hx hb d_Rec_makeStore_56 rfl (lv_at hl 2 rfl) ?_
            refine lv_iload_n hx hb d_Rec_makeStore_57 rfl (lv_at hl 3 rfl) ?_
            refine lv_aload_n hx hb d_Rec_makeStore_58 rfl (lv_at hl 0 rfl) ?_
            refine zr_getr (ci := 0) (C := R_Rec) (T := T_Rec) (N := 6) (ref := "ScrubbedRecorder") hx hb hts (fun w h => List.mem_cons_of_mem _ (zin_Rec w h)) hown hK hH hm.2.2.1.1 (by decide) rfl 0 (by decide) rfl (hw zw_64) (fun _ h9 => h9) d_Rec_makeStore_59 hm.2.2.1.2.1 ?_
            refine zr_In (As := ([.int (nI k), .int b, .int (nI n), .ref (a9 0)] : List Value)) (rest := [.ref q7, .int (nI k), .ref (a9 4)]) (b := q7) ⟨hx, hb, hml, hown, hts⟩ (c_St_init kQ iQ lQ (show (va_up kd q7 3) (a9 0) = 2 from zkR_k hm (zk_lv0 (by decide))) hb01) ⟨(callB_of 4 hts (zg_all zw_95) rfl rfl rfl (hw zw_4) (hw zw_93) k_St_init.2 ⟨Nat.le_of_ble_eq_true rfl, Nat.le_of_ble_eq_true rfl⟩), rfl, (hw zw_94)⟩ hSc hE hH hS hA rfl hl.1 rfl (Nat.le_of_ble_eq_true rfl) d_Rec_makeStore_62 ⟨Nat.le_of_ble_eq_true rfl, Nat.le_of_ble_eq_true rfl⟩ (fun v9 kd9 ln9 I9 L9 R9 H locs hp hH hS => ?_)
            obtain ⟨rfl, C9, N9, w1, w2, w3, w4, w5, w6, w7, w8, w9, w10, w11, w12, w13, w14, w15, w16, w17⟩ := hp
            have hCq : C9 ≠ q7 := fun e => by rw [e, va_up_self] at w1; omega
            have hNq : N9 ≠ q7 := fun e => by rw [e, va_up_self] at w2; omega
            rw [va_up_ne _ _ hCq] at w1
            rw [va_up_ne _ _ hNq] at w2
            have hm := zkR_fm (kd1 := kd9) (ln1 := ln9) (I1 := I9) (L1 := L9) (R1 := R9) hm0 (zh_te hE hH) (fun a8 ha8 => by have hne : a8 ≠ q7 := fun e => ha8 (by rw [e]; exact hq8); have h9 := w17 a8 (by rw [va_up_ne _ _ hne]; exact ha8) hne; rw [va_up_ne _ _ hne, va_up_ne _ _ hne, va_up_ne _ _ hne, va_up_ne _ _ hne] at h9; exact h9)
            have hCl : ∀ r, zk_lv g9 r → a9 r ≠ C9 := fun r hr e => zkR_nz hm0 hr (by rw [e]; exact w1)
            have hNl : ∀ i, i < 4 → g9 0 i ≠ 0 → a9 (40 + i) ≠ N9 := fun i hi gi e => by have h8 := (zkR_st hm0 hi gi).2.2.2.2.1; rw [e, w2] at h8; omega
            refine W.eq (g2 := F0 m 65 ls [.ref q7, .int (nI k), .ref (a9 4)]) rfl ?_
            refine W.widen (k := 3) (n := 53) (by omega) (by omega) ?_
            refine zr_astr (t := 5) (ci := 2) (j := k) hx hb (by decide) (by decide) rfl hK hH hS (show kd9 (a9 4) = 105 from zkR_k hm (zk_lv0 (by decide))) w4 (by decide) rfl (by rw [show ln9 (a9 4) = 4 from zkR_n hm (zk_lv0 (by decide)) (by decide)]; exact zh_ix_n (by omega) (by omega)) d_Rec_makeStore_65 (fun H locs hH hS => ?_)
            have hm := zkR_sw0 hm hk4 hgk h39 (zh_te hE hH) w4 w10 w11 w14 w15 w16 w7 w8 w9 hQl hCl hNl
            rw [w5, w6, w12, w13] at hm
            generalize zu R9 (a9 4) k (some q7) = R10 at hm hH
            generalize zk_swA a9 k q7 C9 N9 = a1 at hm
            generalize va_up e9 k te = e1 at hm
            refine lv_aload_n hx hb d_Rec_makeStore_66 rfl (lv_at hl 0 rfl) ?_
            refine zr_V (As := ([] : List Value)) (rest := []) (b := X) (ci := 0) (q := (R_Rec, T_Rec, 6)) ⟨hx, hb, hml, hown, hts⟩ (c_Rec_saveAll hm hbo hlo) ⟨(callB_of 0 hts (zg_all zw_164) rfl rfl rfl (hw zw_1) (hw zw_161) k_Rec_saveAll.2 ⟨Nat.le_of_ble_eq_true rfl, Nat.le_of_ble_eq_true rfl⟩), (hw zw_163), (hw zs_Rec_saveAll)⟩ hSc hE hH hS hA rfl (by decide) hm.2.2.1.1 rfl hl.1 rfl (Nat.le_of_ble_eq_true rfl) d_Rec_makeStore_67 ⟨Nat.le_of_ble_eq_true rfl, Nat.le_of_ble_eq_true rfl⟩ (fun v11 kd11 ln11 I11 L11 R11 H locs hp hH hS => ?_)
            obtain ⟨rfl, rfl, rfl, hm⟩ := hp
            refine W.eq (g2 := F0 m 70 ls []) rfl ?_
            refine W.widen (k := 3) (n := 53) (by omega) (by omega) ?_
            refine lv_aload_n hx hb d_Rec_makeStore_70 rfl (lv_at hl 0 rfl) ?_
            refine zr_V (As := ([] : List Value)) (rest := []) (b := X) (ci := 0) (q := (R_Rec, T_Rec, 6)) ⟨hx, hb, hml, hown, hts⟩ (c_Rec_unpromisedPages hm) ⟨(callB_of 0 hts (zg_all zw_91) rfl rfl rfl (hw zw_1) (hw zw_88) k_Rec_unpromisedPages.2 ⟨Nat.le_of_ble_eq_true rfl, Nat.le_of_ble_eq_true rfl⟩), (hw zw_90), (hw zs_Rec_unpromisedPages)⟩ hSc hE hH hS hA rfl (by decide) hm.2.2.1.1 rfl hl.1 rfl (Nat.le_of_ble_eq_true rfl) d_Rec_makeStore_71 ⟨Nat.le_of_ble_eq_true rfl, Nat.le_of_ble_eq_true rfl⟩ (fun v12 kd12 ln12 I12 L12 R12 H locs hp hH hS => ?_)
            obtain ⟨rfl, rfl, rfl, rfl, rfl, rfl⟩ := hp
            refine W.eq (g2 := F0 m 74 ls [.int (zk_un (zk_sva (zk_sw2 c9 k (zk_si (nI k) b (nI n)) (fun _ => 0)) (zk_swg g9 k) 4) (zk_swg g9 k) 4)]) rfl ?_
            refine W.widen (k := 3) (n := 53) (by omega) (by omega) ?_
            refine W.widen (k := 3) (n := 53) (Nat.le_of_ble_eq_true rfl) (Nat.le_of_ble_eq_true rfl) ?_
            subst hAe
            exact W.iret (v := zk_un (zk_sva (zk_sw2 c9 k (zk_si (nI k) b (nI n)) (fun _ => 0)) (zk_swg g9 k) 4) (zk_swg g9 k) 4) hx hb hr (fun t ht hW => zc_end hS hH ht (⟨rfl, _, _, hm⟩)) hS.2.2 d_Rec_makeStore_74
          · skip
            have hc6 : (zk_un c9 g9 4) < (nI n) := Int32.not_le.mp hc6
            exact absurd hc6 hun
        · skip
          have hc4 := zt_leF (a := n) (b := 40) (by omega) (by omega) hc4
          exact absurd hc4 (by omega)
