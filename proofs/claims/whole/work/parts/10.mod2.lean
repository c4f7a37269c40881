theorem zq_lm {lm lo fr off pale blank : Int32} (h : zq_rel lm lo fr off pale blank) : lm = (-1) ↔ off < nI 0 ∧ blank = nI 0 := by
  have h1 : ∀ m, m < 6 → ¬ nI m < nI 0 := fun m hm => nI_nlt (Nat.zero_le _) (by omega)
  have h2 : ∀ r, r < 8 → ¬ nI (256 - 2 ^ r) = nI 0 := by decide +kernel
  rcases h with ⟨rfl, rfl, rfl⟩ | ⟨k, hk, rfl, rfl, rfl, rfl, rfl⟩ | ⟨k, r, hk, hr, rfl, rfl, rfl, rfl, rfl, rfl⟩
  · exact ⟨fun _ => ⟨by decide, rfl⟩, fun _ => rfl⟩
  · exact ⟨fun e => absurd e (zq_m1 k hk), fun e => absurd e.1 (h1 k hk)⟩
  · exact ⟨fun e => absurd e (zq_m1 k hk), fun e => absurd e.2 (h2 r hr)⟩
theorem zb_off_x {lm : Int32} {f : Nat → Int64} {x : Int32} (h : x < nI 0 ∨ nI 5 < x) : zb_off lm f x = nI 0 := by
  unfold zb_off
  by_cases h1 : zb_mod x = nI 0
  · rw [if_pos h1]
  · exfalso
    obtain ⟨j, hj, rfl⟩ := zb_mod_of h1
    rcases h with h | h
    · exact nI_nlt (Nat.zero_le j) (by omega) h
    · exact zt_gt2 h (by decide) (nI_lt hj (by decide))
theorem zb_off_n {lm : Int32} {f : Nat → Int64} {j : Nat} (h : j < 6) : zb_off lm f (nI j) = if lm = (-1) then (if zb_oht f j 768 = nI 0 then nI 1 else nI 0) else nI 0 := by
  unfold zb_off
  rw [if_neg (zb_mod_n h), nI_clamp (by omega)]
def zo_offI (m9 : Nat → Nat → Int32) (d x : Int32) : Nat → Nat → Int32 := if d = nI 0 then m9 else zu m9 40 1 x
theorem zq_g2 {f : Nat → Int64} {j g k : Nat} (h : (if g = 0 then nI 1 else zb_oht f j (768 - k)) = zb_oht f j 768) (hk : g = 0 ∨ 768 ≤ k) : zb_oht f j 768 = if g = 0 then nI 1 else nI 0 := by
  rw [← h]
  by_cases e : g = 0
  · rw [if_pos e, if_pos e]
  · rw [if_neg e, if_neg e, show 768 - k = 0 by omega]
    rfl

set_option maxHeartbeats 4000000 in
set_option maxRecDepth 100000 in
/-- latch -/
theorem c_Mod_latch {l : Launch} {D : va_G} {cA : Nat → ClassId} {te mi : Nat} {kd ln : Nat → Nat} {I : Nat → Nat → Int32} {L : Nat → Nat → Int64} {R : Nat → Nat → Option Nat} {X : Nat} {ad : Nat → Nat} {m9 : Nat → Nat → Int32} {q9 : Nat → Nat → Int64} (hm : zoR X ad m9 q9 kd ln I L R) {x : Int32} {lm lo fr : Int32} (hrel : zq_rel lm lo fr (m9 40 1) (m9 40 2) (m9 40 3)) (hf : ∀ j, j < 768 → zq_f2 (q9 0 j)) : zc_M l y_Mod_latch w_Mod_latch { frames := 1, cells := 0, slots := 0, locals := 23 } 0 0 D cA te mi ([.ref X, .int x] : List Value) kd ln I L R (zo_P (some (.int (zb_off lm (q9 0) x))) X ad (zo_offI m9 (zb_off lm (q9 0) x) x) (zb_offL q9 0 (zb_off lm (q9 0) x) x) kd ln R) := by
  intro sz
  refine Met.ofW (cc := b_Mod_latch) (maxL := 4) (ret := (some (.boolean))) (by decide +kernel) rfl ?_
  intro p e s m args below meth c s₁ B hml hv
  obtain ⟨rfl, hsz, hSc, hE, hH⟩ := hv
  have hx := B.exec
  have hb := B.bytes
  have hr := B.returns
  have hts := atoms_spec (ws := w_Mod_latch) B.pre
  have hw : ∀ {w : Cond}, w ∈ zw → w.before ([.ref X, .int x] : List Value).toArray s = true := fun h => hts _ (List.mem_cons_of_mem _ h)
  have hown : s.vm.findClass R_Mod = some m.cls := findClass_of_methodNamed B.named
  have hlocks := B.notSynchronized
  subst hsz
  have hK := hSc.1
  have hH : zh_H D cA (zc_A kd s.heap.size) kd ln I L R s.heap := hH.weaken (fun q h _ => Or.inl h)
  generalize hAe : zc_A kd s.heap.size = A at hH hE ⊢
  have hA : ∀ q : Nat, s.heap.size ≤ q → A q := fun q h => by rw [← hAe]; exact Or.inr h
  have hS : va_S A s.heap s.heap [] := va_S.rf
  have hl := lv_entry ([.ref X, .int x] : List Value) (n := 4) (Nat.le_of_ble_eq_true rfl)
  rw [lg_entry_eq]
  generalize (lg_sl ([.ref X, .int x] : List Value) ++ List.replicate (4 - (lg_sl ([.ref X, .int x] : List Value)).length) Slot.unset).toArray = ls at hl ⊢
  have hl : lv_has ls 4 [(0, .ref X), (1, .int x)] := hl
  have k0 : kd (ad 0) = 101 := (hm.1.2.1 0 (by decide) (by decide)).2.1
  have n0 : ln (ad 0) = 768 := (hm.1.2.1 0 (by decide) (by decide)).2.2
  have r0 : R X 0 = some (ad 0) := (hm.1.2.1 0 (by decide) (by decide)).1
  refine lv_iload_n hx hb d_Mod_latch_0 rfl (lv_at hl 1 rfl) ?_
  refine lv_if_lt (tgt := 27) hx hb d_Mod_latch_1 (by decide) (fun hc1 => ?_) (fun hc1 => ?_)
  · skip
    have hc1 : x < (nI 0) := hc1
    refine lv_iconst (v := nI 0) hx hb d_Mod_latch_27 (by decide) ?_
    refine lv_istore_n (lv' := [(2, .int (nI 0)), (0, .ref X), (1, .int x)]) hx hb d_Mod_latch_28 rfl hl (by decide) rfl (fun ls hl => ?_)
    refine lv_iconst (v := nI 0) hx hb d_Mod_latch_29 (by decide) ?_
    refine lv_istore_n (lv' := [(3, .int (nI 0)), (2, .int (nI 0)), (0, .ref X), (1, .int x)]) hx hb d_Mod_latch_30 rfl hl (by decide) rfl (fun ls hl => ?_)
    refine lv_iload_n hx hb d_Mod_latch_31 rfl (lv_at hl 0 rfl) ?_
    refine lv_sipush (v := nI 768) hx hb d_Mod_latch_32 (by decide) ?_
    refine lv_icmp_ge (tgt := 76) hx hb d_Mod_latch_35 (by decide) (fun hc2 => ?_) (fun hc2 => ?_)
    · skip
      have hc2 := zt_geT (a := 0) (b := 768) (by omega) (by omega) hc2
      exact absurd hc2 (by omega)
    · skip
      have hc2 := zt_geF (a := 0) (b := 768) (by omega) (by omega) hc2
      refine lv_iload_n hx hb d_Mod_latch_38 rfl (lv_at hl 1 rfl) ?_
      refine lv_if_eq (tgt := 76) hx hb d_Mod_latch_39 (by decide) (fun hc3 => ?_) (fun hc3 => ?_)
      · skip
        have hc3 := zt_eqT (a := 0) (b := 0) (by omega) (by omega) hc3
        refine lv_iload_n hx hb d_Mod_latch_76 rfl (lv_at hl 1 rfl) ?_
        refine lv_if_ne (tgt := 82) hx hb d_Mod_latch_77 (by decide) (fun hc4 => ?_) (fun hc4 => ?_)
        · skip
          have hc4 := zt_neT (a := 0) (b := 0) (by omega) (by omega) hc4
          exact absurd hc4 (by omega)
        · skip
          have hc4 := zt_neF (a := 0) (b := 0) (by omega) (by omega) hc4
          refine lv_iconst (v := nI 0) hx hb d_Mod_latch_80 (by decide) ?_
          have hres : (zb_off lm (q9 0) x) = nI 0 := zb_off_x (by first | exact Or.inl (by assumption) | exact Or.inr (by assumption))
          refine W.widen (k := 0) (n := 0) (Nat.le_of_ble_eq_true rfl) (Nat.le_of_ble_eq_true rfl) ?_
          subst hAe
          exact W.zret (v := nI 0) hx hb hr (by decide +kernel) (fun t ht hW => zc_end hS hH ht (⟨by rw [hres], rfl, rfl, rfl, by rw [hres]; exact hm⟩)) hS.2.2 d_Mod_latch_81
      · skip
        have hc3 := zt_eqF (a := 0) (b := 0) (by omega) (by omega) hc3
        exact absurd hc3 (by omega)
  · skip
    have hc1 : ¬ x < (nI 0) := hc1
    refine lv_iload_n hx hb d_Mod_latch_4 rfl (lv_at hl 1 rfl) ?_
    refine lv_iconst (v := nI 5) hx hb d_Mod_latch_5 (by decide) ?_
    refine lv_icmp_gt (tgt := 27) hx hb d_Mod_latch_6 (by decide) (fun hc5 => ?_) (fun hc5 => ?_)
    · skip
      have hc5 : (nI 5) < x := hc5
      refine lv_iconst (v := nI 0) hx hb d_Mod_latch_27 (by decide) ?_
      refine lv_istore_n (lv' := [(2, .int (nI 0)), (0, .ref X), (1, .int x)]) hx hb d_Mod_latch_28 rfl hl (by decide) rfl (fun ls hl => ?_)
      refine lv_iconst (v := nI 0) hx hb d_Mod_latch_29 (by decide) ?_
      refine lv_istore_n (lv' := [(3, .int (nI 0)), (2, .int (nI 0)), (0, .ref X), (1, .int x)]) hx hb d_Mod_latch_30 rfl hl (by decide) rfl (fun ls hl => ?_)
      refine lv_iload_n hx hb d_Mod_latch_31 rfl (lv_at hl 0 rfl) ?_
      refine lv_sipush (v := nI 768) hx hb d_Mod_latch_32 (by decide) ?_
      refine lv_icmp_ge (tgt := 76) hx hb d_Mod_latch_35 (by decide) (fun hc6 => ?_) (fun hc6 => ?_)
      · skip
        have hc6 := zt_geT (a := 0) (b := 768) (by omega) (by omega) hc6
        exact absurd hc6 (by omega)
      · skip
        have hc6 := zt_geF (a := 0) (b := 768) (by omega) (by omega) hc6
        refine lv_iload_n hx hb d_Mod_latch_38 rfl (lv_at hl 1 rfl) ?_
        refine lv_if_eq (tgt := 76) hx hb d_Mod_latch_39 (by decide) (fun hc7 => ?_) (fun hc7 => ?_)
        · skip
          have hc7 := zt_eqT (a := 0) (b := 0) (by omega) (by omega) hc7
          refine lv_iload_n hx hb d_Mod_latch_76 rfl (lv_at hl 1 rfl) ?_
          refine lv_if_ne (tgt := 82) hx hb d_Mod_latch_77 (by decide) (fun hc8 => ?_) (fun hc8 => ?_)
          · skip
            have hc8 := zt_neT (a := 0) (b := 0) (by omega) (by omega) hc8
            exact absurd hc8 (by omega)
          · skip
            have hc8 := zt_neF (a := 0) (b := 0) (by omega) (by omega) hc8
            refine lv_iconst (v := nI 0) hx hb d_Mod_latch_80 (by decide) ?_
            have hres : (zb_off lm (q9 0) x) = nI 0 := zb_off_x (by first | exact Or.inl (by assumption) | exact Or.inr (by assumption))
            refine W.widen (k := 0) (n := 0) (Nat.le_of_ble_eq_true rfl) (Nat.le_of_ble_eq_true rfl) ?_
            subst hAe
            exact W.zret (v := nI 0) hx hb hr (by decide +kernel) (fun t ht hW => zc_end hS hH ht (⟨by rw [hres], rfl, rfl, rfl, by rw [hres]; exact hm⟩)) hS.2.2 d_Mod_latch_81
        · skip
          have hc7 := zt_eqF (a := 0) (b := 0) (by omega) (by omega) hc7
          exact absurd hc7 (by omega)
    · skip
      have hc5 : ¬ (nI 5) < x := hc5
      obtain ⟨j1, hj1, rfl⟩ := zt_ix hc1 (zt_gt hc5 (by decide)) (by decide)
      refine lv_aload_n hx hb d_Mod_latch_9 rfl (lv_at hl 0 rfl) ?_
      refine zr_geti (ci := 6) (C := R_Mod) (T := T_Mod) (N := 37) (ref := "ScrubbedRecorderModel") hx hb hts (fun w h => List.mem_cons_of_mem _ (zin_Mod w h)) hown hK hH hm.1.1 (by decide) rfl 1 (by decide) rfl (hw zw_600) (fun _ h9 => h9) d_Mod_latch_10 ?_
      refine zt_i (y := m9 40 1) (congrFun hm.2.2.1 1) ?_
      refine lv_if_ge (tgt := 27) hx hb d_Mod_latch_13 (by decide) (fun hc9 => ?_) (fun hc9 => ?_)
      · skip
        have hc9 : ¬ (m9 40 1) < (nI 0) := Int32.not_lt.mpr hc9
        refine lv_iconst (v := nI 0) hx hb d_Mod_latch_27 (by decide) ?_
        refine lv_istore_n (lv' := [(2, .int (nI 0)), (0, .ref X), (1, .int (nI j1))]) hx hb d_Mod_latch_28 rfl hl (by decide) rfl (fun ls hl => ?_)
        refine lv_iconst (v := nI 0) hx hb d_Mod_latch_29 (by decide) ?_
        refine lv_istore_n (lv' := [(3, .int (nI 0)), (2, .int (nI 0)), (0, .ref X), (1, .int (nI j1))]) hx hb d_Mod_latch_30 rfl hl (by decide) rfl (fun ls hl => ?_)
        refine lv_iload_n hx hb d_Mod_latch_31 rfl (lv_at hl 0 rfl) ?_
        refine lv_sipush (v := nI 768) hx hb d_Mod_latch_32 (by decide) ?_
        refine lv_icmp_ge (tgt := 76) hx hb d_Mod_latch_35 (by decide) (fun hc10 => ?_) (fun hc10 => ?_)
        · skip
          have hc10 := zt_geT (a := 0) (b := 768) (by omega) (by omega) hc10
          exact absurd hc10 (by omega)
        · skip
          have hc10 := zt_geF (a := 0) (b := 768) (by omega) (by omega) hc10
          refine lv_iload_n hx hb d_Mod_latch_38 rfl (lv_at hl 1 rfl) ?_
          refine lv_if_eq (tgt := 76) hx hb d_Mod_latch_39 (by decide) (fun hc11 => ?_) (fun hc11 => ?_)
          · skip
            have hc11 := zt_eqT (a := 0) (b := 0) (by omega) (by omega) hc11
            refine lv_iload_n hx hb d_Mod_latch_76 rfl (lv_at hl 1 rfl) ?_
            refine lv_if_ne (tgt := 82) hx hb d_Mod_latch_77 (by decide) (fun hc12 => ?_) (fun hc12 => ?_)
            · skip
              have hc12 := zt_neT (a := 0) (b := 0) (by omega) (by omega) hc12
              exact absurd hc12 (by omega)
            · skip
              have hc12 := zt_neF (a := 0) (b := 0) (by omega) (by omega) hc12
              refine lv_iconst (v := nI 0) hx hb d_Mod_latch_80 (by decide) ?_
              have hres : (zb_off lm (q9 0) (nI j1)) = nI 0 := by rw [zb_off_n hj1, if_neg (fun e => absurd ((zq_lm hrel).mp e) (fun z => by first | exact absurd z.1 (by assumption) | exact absurd z.2 (by assumption)))]
              refine W.widen (k := 0) (n := 0) (Nat.le_of_ble_eq_true rfl) (Nat.le_of_ble_eq_true rfl) ?_
              subst hAe
              exact W.zret (v := nI 0) hx hb hr (by decide +kernel) (fun t ht hW => zc_end hS hH ht (⟨by rw [hres], rfl, rfl, rfl, by rw [hres]; exact hm⟩)) hS.2.2 d_Mod_latch_81
          · skip
            have hc11 := zt_eqF (a := 0) (b := 0) (by omega) (by omega) hc11
            exact absurd hc11 (by omega)
      · skip
        have hc9 : (m9 40 1) < (nI 0) := Int32.not_le.mp hc9
        refine lv_aload_n hx hb d_Mod_latch_16 rfl (lv_at hl 0 rfl) ?_
        refine zr_geti (ci := 6) (C := R_Mod) (T := T_Mod) (N := 37) (ref := "ScrubbedRecorderModel") hx hb hts (fun w h => List.mem_cons_of_mem _ (zin_Mod w h)) hown hK hH hm.1.1 (by decide) rfl 3 (by decide) rfl (hw zw_602) (fun _ h9 => h9) d_Mod_latch_17 ?_
        refine zt_i (y := m9 40 3) (congrFun hm.2.2.1 3) ?_
        refine lv_if_ne (tgt := 27) hx hb d_Mod_latch_20 (by decide) (fun hc13 => ?_) (fun hc13 => ?_)
        · skip
          have hc13 : ¬ (m9 40 3) = (nI 0) := hc13
          refine lv_iconst (v := nI 0) hx hb d_Mod_latch_27 (by decide) ?_
          refine lv_istore_n (lv' := [(2, .int (nI 0)), (0, .ref X), (1, .int (nI j1))]) hx hb d_Mod_latch_28 rfl hl (by decide) rfl (fun ls hl => ?_)
          refine lv_iconst (v := nI 0) hx hb d_Mod_latch_29 (by decide) ?_
          refine lv_istore_n (lv' := [(3, .int (nI 0)), (2, .int (nI 0)), (0, .ref X), (1, .int (nI j1))]) hx hb d_Mod_latch_30 rfl hl (by decide) rfl (fun ls hl => ?_)
          refine lv_iload_n hx hb d_Mod_latch_31 rfl (lv_at hl 0 rfl) ?_
          refine lv_sipush (v := nI 768) hx hb d_Mod_latch_32 (by decide) ?_
          refine lv_icmp_ge (tgt := 76) hx hb d_Mod_latch_35 (by decide) (fun hc14 => ?_) (fun hc14 => ?_)
          · skip
            have hc14 := zt_geT (a := 0) (b := 768) (by omega) (by omega) hc14
            exact absurd hc14 (by omega)
          · skip
            have hc14 := zt_geF (a := 0) (b := 768) (by omega) (by omega) hc14
            refine lv_iload_n hx hb d_Mod_latch_38 rfl (lv_at hl 1 rfl) ?_
            refine lv_if_eq (tgt := 76) hx hb d_Mod_latch_39 (by decide) (fun hc15 => ?_) (fun hc15 => ?_)
            · skip
              have hc15 := zt_eqT (a := 0) (b := 0) (by omega) (by omega) hc15
              refine lv_iload_n hx hb d_Mod_latch_76 rfl (lv_at hl 1 rfl) ?_
              refine lv_if_ne (tgt := 82) hx hb d_Mod_latch_77 (by decide) (fun hc16 => ?_) (fun hc16 => ?_)
              · skip
                have hc16 := zt_neT (a := 0) (b := 0) (by omega) (by omega) hc16
                exact absurd hc16 (by omega)
              · skip
                have hc16 := zt_neF (a := 0) (b := 0) (by omega) (by omega) hc16
                refine lv_iconst (v := nI 0) hx hb d_Mod_latch_80 (by decide) ?_
                have hres : (zb_off lm (q9 0) (nI j1)) = nI 0 := by rw [zb_off_n hj1, if_neg (fun e => absurd ((zq_lm hrel).mp e) (fun z => by first | exact absurd z.1 (by assumption) | exact absurd z.2 (by assumption)))]
                refine W.widen (k := 0) (n := 0) (Nat.le_of_ble_eq_true rfl) (Nat.le_of_ble_eq_true rfl) ?_
                subst hAe
                exact W.zret (v := nI 0) hx hb hr (by decide +kernel) (fun t ht hW => zc_end hS hH ht (⟨by rw [hres], rfl, rfl, rfl, by rw [hres]; exact hm⟩)) hS.2.2 d_Mod_latch_81
            · skip
              have hc15 := zt_eqF (a := 0) (b := 0) (by omega) (by omega) hc15
              exact absurd hc15 (by omega)
        · skip
          have hc13 : (m9 40 3) = (nI 0) := hc13
          refine lv_iconst (v := nI 1) hx hb d_Mod_latch_23 (by decide) ?_
          refine lv_goto (tgt := 28) hx hb d_Mod_latch_24 (by decide) ?_
          refine lv_istore_n (lv' := [(2, .int (nI 1)), (0, .ref X), (1, .int (nI j1))]) hx hb d_Mod_latch_28 rfl hl (by decide) rfl (fun ls hl => ?_)
          refine lv_iconst (v := nI 0) hx hb d_Mod_latch_29 (by decide) ?_
          refine lv_istore_n (lv' := [(3, .int (nI 0)), (2, .int (nI 1)), (0, .ref X), (1, .int (nI j1))]) hx hb d_Mod_latch_30 rfl hl (by decide) rfl (fun ls hl => ?_)
          have loop_31 : ∀ (z : Nat) (k : Nat) (g : Nat) (I_31 : Nat → Nat → Int32) (L_31 : Nat → Nat → Int64) (H : Heap) (locs : List Loc) (ls : Array Slot), 768 - k < z → (k ≤ 768) → (g ≤ 1) → ((if g = 0 then nI 1 else zb_oht (q9 0) j1 (768 - k)) = zb_oht (q9 0) j1 768) → (zoR X ad m9 q9 kd ln I_31 L_31 R) → lv_has ls 4 [(0, .ref X), (1, .int (nI j1)), (2, .int (nI g)), (3, .int (nI k))] → zh_H D cA A kd ln I_31 L_31 R H → va_S A s.heap H locs → W p l e (headSpec w_Mod_latch { frames := 1, cells := 0, slots := 0, locals := 23 }).room s m ([.ref X, .int (nI j1)] : List Value).toArray below meth c H locs 0 0 (MQ below (zc_Qc D cA A (zo_P (some (.int (zb_off lm (q9 0) (nI j1)))) X ad (zo_offI m9 (zb_off lm (q9 0) (nI j1)) (nI j1)) (zb_offL q9 0 (zb_off lm (q9 0) (nI j1)) (nI j1)) kd ln R)) ([.ref X, .int (nI j1)] : List Value).toArray s 0 0 A) (F0 m 31 ls []) := by
            intro z
            induction z with
            | zero => intro k g I_31 L_31 H locs ls hz; exact absurd hz (Nat.not_lt_zero _)
            | succ z ih_31 =>
              intro k g I_31 L_31 H locs ls hz_31 hk hg1 hin hm hl hH hS
              refine lv_iload_n hx hb d_Mod_latch_31 rfl (lv_at hl 3 rfl) ?_
              refine lv_sipush (v := nI 768) hx hb d_Mod_latch_32 (by decide) ?_
              refine lv_icmp_ge (tgt := 76) hx hb d_Mod_latch_35 (by decide) (fun hc17 => ?_) (fun hc17 => ?_)
              · skip
                have hc17 := zt_geT (a := k) (b := 768) (by omega) (by omega) hc17
                refine lv_iload_n hx hb d_Mod_latch_76 rfl (lv_at hl 2 rfl) ?_
                refine lv_if_ne (tgt := 82) hx hb d_Mod_latch_77 (by decide) (fun hc18 => ?_) (fun hc18 => ?_)
                · skip
                  have hc18 := zt_neT (a := g) (b := 0) (by omega) (by omega) hc18
                  refine lv_aload_n hx hb d_Mod_latch_82 rfl (lv_at hl 0 rfl) ?_
                  refine lv_iload_n hx hb d_Mod_latch_83 rfl (lv_at hl 1 rfl) ?_
                  refine zr_puti (ref := "ScrubbedRecorderModel") (ci := 6) (C := R_Mod) (T := T_Mod) (N := 37) (x := nI j1) (ty := .int) hx hb hts (fun w h => List.mem_cons_of_mem _ (zin_Mod w h)) ty_Mod tyok_Mod nm_Mod hown hK hH hS hm.1.1 (by decide) rfl 1 (by decide) rfl (hw zw_600) (fun _ h9 => h9) rfl (by decide +kernel) rfl rfl d_Mod_latch_84 (fun H locs hH hS => ?_)
                  have hm := zoR_X hm 1 (nI j1)
                  generalize zu I_31 X 1 (nI j1) = I19 at hm hH
                  refine lv_iconst (v := nI 0) hx hb d_Mod_latch_87 (by decide) ?_
                  refine lv_istore_n (lv' := [(3, .int (nI 0)), (0, .ref X), (1, .int (nI j1)), (2, .int (nI g))]) hx hb d_Mod_latch_88 rfl hl (by decide) rfl (fun ls hl => ?_)
                  have loop_89 : ∀ (z : Nat) (v : Nat) (I_89 : Nat → Nat → Int32) (L_89 : Nat → Nat → Int64) (H : Heap) (locs : List Loc) (ls : Array Slot), 128 - v < z → (v ≤ 128) → (zoR X ad (zu m9 40 1 (nI j1)) (va_up q9 0 (zb_clr (q9 0) j1 v)) kd ln I_89 L_89 R) → lv_has ls 4 [(0, .ref X), (1, .int (nI j1)), (3, .int (nI v))] → zh_H D cA A kd ln I_89 L_89 R H → va_S A s.heap H locs → W p l e (headSpec w_Mod_latch { frames := 1, cells := 0, slots := 0, locals := 23 }).room s m ([.ref X, .int (nI j1)] : List Value).toArray below meth c H locs 0 0 (MQ below (zc_Qc D cA A (zo_P (some (.int (zb_off lm (q9 0) (nI j1)))) X ad (zo_offI m9 (zb_off lm (q9 0) (nI j1)) (nI j1)) (zb_offL q9 0 (zb_off lm (q9 0) (nI j1)) (nI j1)) kd ln R)) ([.ref X, .int (nI j1)] : List Value).toArray s 0 0 A) (F0 m 89 ls []) := by
                    intro z
                    induction z with
                    | zero => intro v I_89 L_89 H locs ls hz; exact absurd hz (Nat.not_lt_zero _)
                    | succ z ih_89 =>
                      intro v I_89 L_89 H locs ls hz_89 hv hm hl hH hS
                      refine lv_iload_n hx hb d_Mod_latch_89 rfl (lv_at hl 2 rfl) ?_
                      refine lv_sipush (v := nI 128) hx hb d_Mod_latch_90 (by decide) ?_
                      refine lv_icmp_ge (tgt := 115) hx hb d_Mod_latch_93 (by decide) (fun hc20 => ?_) (fun hc20 => ?_)
                      · skip
                        have hc20 := zt_geT (a := v) (b := 128) (by omega) (by omega) hc20
                        refine lv_iconst (v := nI 1) hx hb d_Mod_latch_115 (by decide) ?_
                        have hlm : lm = (-1) := (zq_lm hrel).mpr ⟨by assumption, by assumption⟩
                        have hres : (zb_off lm (q9 0) (nI j1)) = nI 1 := by rw [zb_off_n hj1, if_pos hlm, zq_g2 hin (by omega), if_neg (show ¬ g = 0 by omega), if_pos rfl]
                        rw [show v = 128 by omega] at hm
                        refine W.widen (k := 0) (n := 0) (Nat.le_of_ble_eq_true rfl) (Nat.le_of_ble_eq_true rfl) ?_
                        subst hAe
                        exact W.zret (v := nI 1) hx hb hr (by decide +kernel) (fun t ht hW => zc_end hS hH ht (⟨by rw [hres], rfl, rfl, rfl, by rw [hres, zb_offL, if_neg (by decide), nI_clamp (by omega)]; exact hm⟩)) hS.2.2 d_Mod_latch_116
                      · skip
                        have hc20 := zt_geF (a := v) (b := 128) (by omega) (by omega) hc20
                        refine lv_aload_n hx hb d_Mod_latch_96 rfl (lv_at hl 0 rfl) ?_
                        refine zr_getr (ci := 6) (C := R_Mod) (T := T_Mod) (N := 37) (ref := "ScrubbedRecorderModel") hx hb hts (fun w h => List.mem_cons_of_mem _ (zin_Mod w h)) hown hK hH hm.1.1 (by decide) rfl 0 (by decide) rfl (hw zw_599) (fun _ h9 => h9) d_Mod_latch_97 (by rw [r0]) ?_
                        refine lv_sipush (v := nI 128) hx hb d_Mod_latch_100 (by decide) ?_
                        refine lv_iload_n hx hb d_Mod_latch_103 rfl (lv_at hl 1 rfl) ?_
                        refine lv_imul hx hb d_Mod_latch_104 ?_
                        refine zt_i (y := nI (128 * j1)) (pk_mul 128 j1) ?_
                        refine lv_iload_n hx hb d_Mod_latch_105 rfl (lv_at hl 2 rfl) ?_
                        refine lv_iadd hx hb d_Mod_latch_106 ?_
                        refine zt_i (y := nI (128 * j1 + v)) (nI_add (128 * j1) v) ?_
                        refine lv_lconst (v := 0) hx hb d_Mod_latch_107 (by decide) ?_
                        refine zr_astl (j := 128 * j1 + v) (y := 0) hx hb hK hH hS k0 rfl (by rw [n0]; exact zh_ix_n (by omega) (by omega)) d_Mod_latch_108 (fun H locs hH hS => ?_)
                        have hm := zoR_L hm 0 (by decide) (128 * j1 + v) 0
                        generalize zu L_89 (ad 0) (128 * j1 + v) 0 = L21 at hm hH
                        refine lv_iinc (k := 2) (v := nI (v + 1)) (lv' := [(3, .int (nI (v + 1))), (0, .ref X), (1, .int (nI j1))]) hx hb d_Mod_latch_109 hl rfl (nI_add v 1) (by decide) rfl (fun ls hl => ?_)
                        refine lv_goto (tgt := 89) hx hb d_Mod_latch_112 (by decide) ?_
                        rw [show 128 * j1 + v = j1 * 128 + v by omega, zb_clr_s] at hm
                        exact ih_89 (v + 1) _ _ _ _ _ (by omega) (by omega) hm (lv_sub hl [1, 2, 0] rfl) hH hS
                  rw [← zb_clr_0 q9 0 j1] at hm
                  exact loop_89 _ 0 _ _ _ _ _ (Nat.lt_succ_self _) (by omega) hm (lv_sub hl [1, 2, 0] rfl) hH hS
                · skip
                  have hc18 := zt_neF (a := g) (b := 0) (by omega) (by omega) hc18
                  refine lv_iconst (v := nI 0) hx hb d_Mod_latch_80 (by decide) ?_
                  have hres : (zb_off lm (q9 0) (nI j1)) = nI 0 := by rw [zb_off_n hj1, zq_g2 hin (by omega), if_pos (show g = 0 by omega), if_neg (show ¬ nI 1 = nI 0 by decide)]; split <;> rfl
                  refine W.widen (k := 0) (n := 0) (Nat.le_of_ble_eq_true rfl) (Nat.le_of_ble_eq_true rfl) ?_
                  subst hAe
                  exact W.zret (v := nI 0) hx hb hr (by decide +kernel) (fun t ht hW => zc_end hS hH ht (⟨by rw [hres], rfl, rfl, rfl, by rw [hres]; exact hm⟩)) hS.2.2 d_Mod_latch_81
              · skip
                have hc17 := zt_geF (a := k) (b := 768) (by omega) (by omega) hc17
                refine lv_iload_n hx hb d_Mod_latch_38 rfl (lv_at hl 2 rfl) ?_
                refine lv_if_eq (tgt := 76) hx hb d_Mod_latch_39 (by decide) (fun hc22 => ?_) (fun hc22 => ?_)
                · skip
                  have hc22 := zt_eqT (a := g) (b := 0) (by omega) (by omega) hc22
                  refine lv_iload_n hx hb d_Mod_latch_76 rfl (lv_at hl 2 rfl) ?_
                  refine lv_if_ne (tgt := 82) hx hb d_Mod_latch_77 (by decide) (fun hc23 => ?_) (fun hc23 => ?_)
                  · skip
                    have hc23 := zt_neT (a := g) (b := 0) (by omega) (by omega) hc23
                    refine lv_aload_n hx hb d_Mod_latch_82 rfl (lv_at hl 0 rfl) ?_
                    refine lv_iload_n hx hb d_Mod_latch_83 rfl (lv_at hl 1 rfl) ?_
                    refine zr_puti (ref := "ScrubbedRecorderModel") (ci := 6) (C := R_Mod) (T := T_Mod) (N := 37) (x := nI j1) (ty := .int) hx hb hts (fun w h => List.mem_cons_of_mem _ (zin_Mod w h)) ty_Mod tyok_Mod nm_Mod hown hK hH hS hm.1.1 (by decide) rfl 1 (by decide) rfl (hw zw_600) (fun _ h9 => h9) rfl (by decide +kernel) rfl rfl d_Mod_latch_84 (fun H locs hH hS => ?_)
                    have hm := zoR_X hm 1 (nI j1)
                    generalize zu I_31 X 1 (nI j1) = I24 at hm hH
                    refine lv_iconst (v := nI 0) hx hb d_Mod_latch_87 (by decide) ?_
                    refine lv_istore_n (lv' := [(3, .int (nI 0)), (0, .ref X), (1, .int (nI j1)), (2, .int (nI g))]) hx hb d_Mod_latch_88 rfl hl (by decide) rfl (fun ls hl => ?_)
                    have loop_89 : ∀ (z : Nat) (v : Nat) (I_89 : Nat → Nat → Int32) (L_89 : Nat → Nat → Int64) (H : Heap) (locs : List Loc) (ls : Array Slot), 128 - v < z → (v ≤ 128) → (zoR X ad (zu m9 40 1 (nI j1)) (va_up q9 0 (zb_clr (q9 0) j1 v)) kd ln I_89 L_89 R) → lv_has ls 4 [(0, .ref X), (1, .int (nI j1)), (3, .int (nI v))] → zh_H D cA A kd ln I_89 L_89 R H → va_S A s.heap H locs → W p l e (headSpec w_Mod_latch { frames := 1, cells := 0, slots := 0, locals := 23 }).room s m ([.ref X, .int (nI j1)] : List Value).toArray below meth c H locs 0 0 (MQ below (zc_Qc D cA A (zo_P (some (.int (zb_off lm (q9 0) (nI j1)))) X ad (zo_offI m9 (zb_off lm (q9 0) (nI j1)) (nI j1)) (zb_offL q9 0 (zb_off lm (q9 0) (nI j1)) (nI j1)) kd ln R)) ([.ref X, .int (nI j1)] : List Value).toArray s 0 0 A) (F0 m 89 ls []) := by
                      intro z
                      induction z with
                      | zero => intro v I_89 L_89 H locs ls hz; exact absurd hz (Nat.not_lt_zero _)
                      | succ z ih_89 =>
                        intro v I_89 L_89 H locs ls hz_89 hv hm hl hH hS
                        refine lv_iload_n hx hb d_Mod_latch_89 rfl (lv_at hl 2 rfl) ?_
                        refine lv_sipush (v := nI 128) hx hb d_Mod_latch_90 (by decide) ?_
                        refine lv_icmp_ge (tgt := 115) hx hb d_Mod_latch_93 (by decide) (fun hc25 => ?_) (fun hc25 => ?_)
                        · skip
                          have hc25 := zt_geT (a := v) (b := 128) (by omega) (by omega) hc25
                          refine lv_iconst (v := nI 1) hx hb d_Mod_latch_115 (by decide) ?_
                          have hlm : lm = (-1) := (zq_lm hrel).mpr ⟨by assumption, by assumption⟩
                          have hres : (zb_off lm (q9 0) (nI j1)) = nI 1 := by rw [zb_off_n hj1, if_pos hlm, zq_g2 hin (by omega), if_neg (show ¬ g = 0 by omega), if_pos rfl]
                          rw [show v = 128 by omega] at hm
                          refine W.widen (k := 0) (n := 0) (Nat.le_of_ble_eq_true rfl) (Nat.le_of_ble_eq_true rfl) ?_
                          subst hAe
                          exact W.zret (v := nI 1) hx hb hr (by decide +kernel) (fun t ht hW => zc_end hS hH ht (⟨by rw [hres], rfl, rfl, rfl, by rw [hres, zb_offL, if_neg (by decide), nI_clamp (by omega)]; exact hm⟩)) hS.2.2 d_Mod_latch_116
                        · skip
                          have hc25 := zt_geF (a := v) (b := 128) (by omega) (by omega) hc25
                          refine lv_aload_n hx hb d_Mod_latch_96 rfl (lv_at hl 0 rfl) ?_
                          refine zr_getr (ci := 6) (C := R_Mod) (T := T_Mod) (N := 37) (ref := "ScrubbedRecorderModel") hx hb hts (fun w h => List.mem_cons_of_mem _ (zin_Mod w h)) hown hK hH hm.1.1 (by decide) rfl 0 (by decide) rfl (hw zw_599) (fun _ h9 => h9) d_Mod_latch_97 (by rw [r0]) ?_
                          refine lv_sipush (v := nI 128) hx hb d_Mod_latch_100 (by decide) ?_
                          refine lv_iload_n hx hb d_Mod_latch_103 rfl (lv_at hl 1 rfl) ?_
                          refine lv_imul hx hb d_Mod_latch_104 ?_
                          refine zt_i (y := nI (128 * j1)) (pk_mul 128 j1) ?_
                          refine lv_iload_n hx hb d_Mod_latch_105 rfl (lv_at hl 2 rfl) ?_
                          refine lv_iadd hx hb d_Mod_latch_106 ?_
                          refine zt_i (y := nI (128 * j1 + v)) (nI_add (128 * j1) v) ?_
                          refine lv_lconst (v := 0) hx hb d_Mod_latch_107 (by decide) ?_
                          refine zr_astl (j := 128 * j1 + v) (y := 0) hx hb hK hH hS k0 rfl (by rw [n0]; exact zh_ix_n (by omega) (by omega)) d_Mod_latch_108 (fun H locs hH hS => ?_)
                          have hm := zoR_L hm 0 (by decide) (128 * j1 + v) 0
                          generalize zu L_89 (ad 0) (128 * j1 + v) 0 = L26 at hm hH
                          refine lv_iinc (k := 2) (v := nI (v + 1)) (lv' := [(3, .int (nI (v + 1))), (0, .ref X), (1, .int (nI j1))]) hx hb d_Mod_latch_109 hl rfl (nI_add v 1) (by decide) rfl (fun ls hl => ?_)
                          refine lv_goto (tgt := 89) hx hb d_Mod_latch_112 (by decide) ?_
                          rw [show 128 * j1 + v = j1 * 128 + v by omega, zb_clr_s] at hm
                          exact ih_89 (v + 1) _ _ _ _ _ (by omega) (by omega) hm (lv_sub hl [1, 2, 0] rfl) hH hS
                    rw [← zb_clr_0 q9 0 j1] at hm
                    exact loop_89 _ 0 _ _ _ _ _ (Nat.lt_succ_self _) (by omega) hm (lv_sub hl [1, 2, 0] rfl) hH hS
                  · skip
                    have hc23 := zt_neF (a := g) (b := 0) (by omega) (by omega) hc23
                    refine lv_iconst (v := nI 0) hx hb d_Mod_latch_80 (by decide) ?_
                    have hres : (zb_off lm (q9 0) (nI j1)) = nI 0 := by rw [zb_off_n hj1, zq_g2 hin (by omega), if_pos (show g = 0 by omega), if_neg (show ¬ nI 1 = nI 0 by decide)]; split <;> rfl
                    refine W.widen (k := 0) (n := 0) (Nat.le_of_ble_eq_true rfl) (Nat.le_of_ble_eq_true rfl) ?_
                    subst hAe
                    exact W.zret (v := nI 0) hx hb hr (by decide +kernel) (fun t ht hW => zc_end hS hH ht (⟨by rw [hres], rfl, rfl, rfl, by rw [hres]; exact hm⟩)) hS.2.2 d_Mod_latch_81
                · skip
                  have hc22 := zt_eqF (a := g) (b := 0) (by omega) (by omega) hc22
                  refine lv_iload_n hx hb d_Mod_latch_42 rfl (lv_at hl 3 rfl) ?_
                  refine lv_sipush (v := nI 128) hx hb d_Mod_latch_43 (by decide) ?_
                  refine lv_idiv hx hb d_Mod_latch_46 (zt_ne0 (by omega) (by omega)) ?_
                  refine zt_i (y := nI (k / 128)) (pk_div (by omega) (by omega) (by omega)) ?_
                  refine lv_iload_n hx hb d_Mod_latch_47 rfl (lv_at hl 1 rfl) ?_
                  refine lv_icmp_eq (tgt := 64) hx hb d_Mod_latch_48 (by decide) (fun hc27 => ?_) (fun hc27 => ?_)
                  · skip
                    have hc27 := zt_eqT (a := (k / 128)) (b := j1) (by omega) (by omega) hc27
                    refine lv_iconst (v := nI 1) hx hb d_Mod_latch_64 (by decide) ?_
                    refine lv_goto (tgt := 69) hx hb d_Mod_latch_65 (by decide) ?_
                    refine lv_istore_n (lv' := [(2, .int (nI 1)), (0, .ref X), (1, .int (nI j1)), (3, .int (nI k))]) hx hb d_Mod_latch_69 rfl hl (by decide) rfl (fun ls hl => ?_)
                    refine lv_iinc (k := 3) (v := nI (k + 1)) (lv' := [(3, .int (nI (k + 1))), (2, .int (nI 1)), (0, .ref X), (1, .int (nI j1))]) hx hb d_Mod_latch_70 hl rfl (nI_add k 1) (by decide) rfl (fun ls hl => ?_)
                    refine lv_goto (tgt := 31) hx hb d_Mod_latch_73 (by decide) ?_
                    exact ih_31 (k + 1) 1 _ _ _ _ _ (by omega) (by omega) (by omega) (by first | (exfalso; omega) | (show zb_oht (q9 0) j1 (768 - (k + 1)) = _; rw [← hin, if_neg (show ¬ g = 0 by omega), zq_oht (k := k) hf (by omega)]; (first | rw [if_pos (by omega)] | rw [if_neg (by omega)]))) hm (lv_sub hl [2, 3, 1, 0] rfl) hH hS
                  · skip
                    have hc27 := zt_eqF (a := (k / 128)) (b := j1) (by omega) (by omega) hc27
                    refine lv_aload_n hx hb d_Mod_latch_51 rfl (lv_at hl 0 rfl) ?_
                    refine zr_getr (ci := 6) (C := R_Mod) (T := T_Mod) (N := 37) (ref := "ScrubbedRecorderModel") hx hb hts (fun w h => List.mem_cons_of_mem _ (zin_Mod w h)) hown hK hH hm.1.1 (by decide) rfl 0 (by decide) rfl (hw zw_599) (fun _ h9 => h9) d_Mod_latch_52 (by rw [r0]) ?_
                    refine lv_iload_n hx hb d_Mod_latch_55 rfl (lv_at hl 3 rfl) ?_
                    refine zr_aldl (j := k) hx hb hK hH k0 (by rw [n0]; exact zh_ix_n (by omega) (by omega)) d_Mod_latch_56 ?_
                    refine zt_l (y := q9 0 k) (congrFun (hm.2.2.2 0 (by decide) (by decide)) k) ?_
                    refine zr_St (As := ([.long (q9 0 k)] : List Value)) (rest := []) ⟨hx, hb, hml, hown, hts⟩ c_Mod_bitsIn ⟨(callB_of 1 hts (zg_all zw_721) rfl rfl rfl (hw zw_3) (hw zw_719) k_Mod_bitsIn.2 ⟨Nat.le_of_ble_eq_true rfl, Nat.le_of_ble_eq_true rfl⟩), hw zw_720⟩ hSc hE hH hS hA rfl hl.1 rfl (Nat.le_of_ble_eq_true rfl) d_Mod_latch_57 ⟨Nat.le_of_ble_eq_true rfl, Nat.le_of_ble_eq_true rfl⟩ (fun v28 kd28 ln28 I28 L28 R28 H locs hp hH hS => ?_)
                    have hbl29 := zq_bc_le (q9 0 k) 39
                    obtain ⟨rfl, rfl, rfl, rfl, rfl, rfl⟩ := hp
                    refine W.eq (g2 := F0 m 60 ls [.int (nI (zq_bc (q9 0 k) 39))]) rfl ?_
                    refine W.widen (k := 0) (n := 0) (by omega) (by omega) ?_
                    refine lv_iconst (v := nI 2) hx hb d_Mod_latch_60 (by decide) ?_
                    refine lv_icmp_ge (tgt := 68) hx hb d_Mod_latch_61 (by decide) (fun hc30 => ?_) (fun hc30 => ?_)
                    · skip
                      have hc30 := zt_geT (a := (zq_bc (q9 0 k) 39)) (b := 2) (by omega) (by omega) hc30
                      refine lv_iconst (v := nI 0) hx hb d_Mod_latch_68 (by decide) ?_
                      refine lv_istore_n (lv' := [(2, .int (nI 0)), (0, .ref X), (1, .int (nI j1)), (3, .int (nI k))]) hx hb d_Mod_latch_69 rfl hl (by decide) rfl (fun ls hl => ?_)
                      refine lv_iinc (k := 3) (v := nI (k + 1)) (lv' := [(3, .int (nI (k + 1))), (2, .int (nI 0)), (0, .ref X), (1, .int (nI j1))]) hx hb d_Mod_latch_70 hl rfl (nI_add k 1) (by decide) rfl (fun ls hl => ?_)
                      refine lv_goto (tgt := 31) hx hb d_Mod_latch_73 (by decide) ?_
                      exact ih_31 (k + 1) 0 _ _ _ _ _ (by omega) (by omega) (by omega) (by first | (exfalso; omega) | (show nI 1 = _; rw [← hin, if_neg (show ¬ g = 0 by omega), zq_oht (k := k) hf (by omega)]; (first | rw [if_pos (by omega)] | rw [if_neg (by omega)]); (first | rw [if_pos (by omega)] | rw [if_neg (by omega)]))) hm (lv_sub hl [2, 3, 1, 0] rfl) hH hS
                    · skip
                      have hc30 := zt_geF (a := (zq_bc (q9 0 k) 39)) (b := 2) (by omega) (by omega) hc30
                      refine lv_iconst (v := nI 1) hx hb d_Mod_latch_64 (by decide) ?_
                      refine lv_goto (tgt := 69) hx hb d_Mod_latch_65 (by decide) ?_
                      refine lv_istore_n (lv' := [(2, .int (nI 1)), (0, .ref X), (1, .int (nI j1)), (3, .int (nI k))]) hx hb d_Mod_latch_69 rfl hl (by decide) rfl (fun ls hl => ?_)
                      refine lv_iinc (k := 3) (v := nI (k + 1)) (lv' := [(3, .int (nI (k + 1))), (2, .int (nI 1)), (0, .ref X), (1, .int (nI j1))]) hx hb d_Mod_latch_70 hl rfl (nI_add k 1) (by decide) rfl (fun ls hl => ?_)
                      refine lv_goto (tgt := 31) hx hb d_Mod_latch_73 (by decide) ?_
                      exact ih_31 (k + 1) 1 _ _ _ _ _ (by omega) (by omega) (by omega) (by first | (exfalso; omega) | (show zb_oht (q9 0) j1 (768 - (k + 1)) = _; rw [← hin, if_neg (show ¬ g = 0 by omega), zq_oht (k := k) hf (by omega)]; (first | rw [if_pos (by omega)] | rw [if_neg (by omega)]); (first | rw [if_pos (by omega)] | rw [if_neg (by omega)]))) hm (lv_sub hl [2, 3, 1, 0] rfl) hH hS
          exact loop_31 _ 0 1 _ _ _ _ _ (Nat.lt_succ_self _) (by omega) (by omega) rfl hm (lv_sub hl [2, 3, 1, 0] rfl) hH hS

def zo_told (m9 : Nat → Nat → Int32) (q9 : Nat → Nat → Int64) (x : Int32) : Int32 := if x = nI 0 then m9 40 4 else if x = nI 1 then m9 40 5 else if x = nI 2 then nI (zb_cf (m9 15) 40) else if x = nI 3 then (if m9 40 1 < nI 0 then nI (zq_bc (m9 40 3).toInt64 39) else nI 8) else if x = nI 4 then nI (zb_cw (q9 0) 768) else (-2)
theorem zo_told_o {m9 : Nat → Nat → Int32} {q9 : Nat → Nat → Int64} {x : Int32} (h : x.toInt < 0 ∨ (4 : Int) < x.toInt) : zo_told m9 q9 x = (-2) := by
  have hk : ∀ k, k < 5 → ¬ x = nI k := by
    intro k hk e
    rw [e, nI_toInt (by omega)] at h
    omega
  unfold zo_told
  rw [if_neg (hk 0 (by omega)), if_neg (hk 1 (by omega)), if_neg (hk 2 (by omega)), if_neg (hk 3 (by omega)), if_neg (hk 4 (by omega))]

set_option maxHeartbeats 4000000 in
set_option maxRecDepth 100000 in
/-- told -/
theorem c_Mod_told {l : Launch} {D : va_G} {cA : Nat → ClassId} {te mi : Nat} {kd ln : Nat → Nat} {I : Nat → Nat → Int32} {L : Nat → Nat → Int64} {R : Nat → Nat → Option Nat} {X : Nat} {ad : Nat → Nat} {m9 : Nat → Nat → Int32} {q9 : Nat → Nat → Int64} (hm : zoR X ad m9 q9 kd ln I L R) {x : Int32} : zc_M l y_Mod_told w_Mod_told { frames := 1, cells := 0, slots := 0, locals := 23 } 0 0 D cA te mi ([.ref X, .int x] : List Value) kd ln I L R (zo_P (some (.int (zo_told m9 q9 x))) X ad m9 q9 kd ln R) := by
  intro sz
  refine Met.ofW (cc := b_Mod_told) (maxL := 4) (ret := (some (.int))) (by decide +kernel) rfl ?_
  intro p e s m args below meth c s₁ B hml hv
  obtain ⟨rfl, hsz, hSc, hE, hH⟩ := hv
  have hx := B.exec
  have hb := B.bytes
  have hr := B.returns
  have hts := atoms_spec (ws := w_Mod_told) B.pre
  have hw : ∀ {w : Cond}, w ∈ zw → w.before ([.ref X, .int x] : List Value).toArray s = true := fun h => hts _ (List.mem_cons_of_mem _ h)
  have hown : s.vm.findClass R_Mod = some m.cls := findClass_of_methodNamed B.named
  have hlocks := B.notSynchronized
  subst hsz
  have hK := hSc.1
  have hH : zh_H D cA (zc_A kd s.heap.size) kd ln I L R s.heap := hH.weaken (fun q h _ => Or.inl h)
  generalize hAe : zc_A kd s.heap.size = A at hH hE ⊢
  have hA : ∀ q : Nat, s.heap.size ≤ q → A q := fun q h => by rw [← hAe]; exact Or.inr h
  have hS : va_S A s.heap s.heap [] := va_S.rf
  have hl := lv_entry ([.ref X, .int x] : List Value) (n := 4) (Nat.le_of_ble_eq_true rfl)
  rw [lg_entry_eq]
  generalize (lg_sl ([.ref X, .int x] : List Value) ++ List.replicate (4 - (lg_sl ([.ref X, .int x] : List Value)).length) Slot.unset).toArray = ls at hl ⊢
  have hl : lv_has ls 4 [(0, .ref X), (1, .int x)] := hl
  have k0 : kd (ad 0) = 101 := (hm.1.2.1 0 (by decide) (by decide)).2.1
  have n0 : ln (ad 0) = 768 := (hm.1.2.1 0 (by decide) (by decide)).2.2
  have r0 : R X 0 = some (ad 0) := (hm.1.2.1 0 (by decide) (by decide)).1
  have k15 : kd (ad 15) = 103 := (hm.1.2.1 15 (by decide) (by decide)).2.1
  have n15 : ln (ad 15) = 40 := (hm.1.2.1 15 (by decide) (by decide)).2.2
  have r15 : R X 15 = some (ad 15) := (hm.1.2.1 15 (by decide) (by decide)).1
  refine lv_iconst (v := nI 0) hx hb d_Mod_told_0 (by decide) ?_
  refine lv_istore_n (lv' := [(2, .int (nI 0)), (0, .ref X), (1, .int x)]) hx hb d_Mod_told_1 rfl hl (by decide) rfl (fun ls hl => ?_)
  refine lv_iload_n hx hb d_Mod_told_2 rfl (lv_at hl 2 rfl) ?_
  rcases zt_sw (x) 4 (by decide) with hc1 | ⟨j2, hc3, hc1⟩
  · skip
    refine lv_tableOut (tgt := 136) hx hb d_Mod_told_3 hc1 (by decide) ?_
    refine lv_bipush (v := (-2)) hx hb d_Mod_told_136 (by decide) ?_
    refine W.widen (k := 0) (n := 0) (Nat.le_of_ble_eq_true rfl) (Nat.le_of_ble_eq_true rfl) ?_
    subst hAe
    exact W.iret (v := (-2)) hx hb hr (fun t ht hW => zc_end hS hH ht (⟨by rw [zo_told_o (by assumption)], rfl, rfl, rfl, hm⟩)) hS.2.2 d_Mod_told_138
  · skip
    rcases (show j2 = 0 ∨ j2 = 1 ∨ j2 = 2 ∨ j2 = 3 ∨ j2 = 4 by omega) with rfl | rfl | rfl | rfl | rfl
    · skip
      refine lv_tableIn (off := 33) (tgt := 36) hx hb d_Mod_told_3 (by rw [hc1]; decide) (by rw [hc1]; decide) (by rw [hc1]; decide +kernel) (by decide) ?_
      refine lv_aload_n hx hb d_Mod_told_36 rfl (lv_at hl 1 rfl) ?_
      refine zr_geti (ci := 6) (C := R_Mod) (T := T_Mod) (N := 37) (ref := "ScrubbedRecorderModel") hx hb hts (fun w h => List.mem_cons_of_mem _ (zin_Mod w h)) hown hK hH hm.1.1 (by decide) rfl 4 (by decide) rfl (hw zw_603) (fun _ h9 => h9) d_Mod_told_37 ?_
      refine zt_i (y := m9 40 4) (congrFun hm.2.2.1 4) ?_
      refine W.widen (k := 0) (n := 0) (Nat.le_of_ble_eq_true rfl) (Nat.le_of_ble_eq_true rfl) ?_
      subst hAe
      exact W.iret (v := m9 40 4) hx hb hr (fun t ht hW => zc_end hS hH ht (⟨by rw [hc1, zo_told, if_pos rfl], rfl, rfl, rfl, hm⟩)) hS.2.2 d_Mod_told_40
    · skip
      refine lv_tableIn (off := 38) (tgt := 41) hx hb d_Mod_told_3 (by rw [hc1]; decide) (by rw [hc1]; decide) (by rw [hc1]; decide +kernel) (by decide) ?_
      refine lv_aload_n hx hb d_Mod_told_41 rfl (lv_at hl 1 rfl) ?_
      refine zr_geti (ci := 6) (C := R_Mod) (T := T_Mod) (N := 37) (ref := "ScrubbedRecorderModel") hx hb hts (fun w h => List.mem_cons_of_mem _ (zin_Mod w h)) hown hK hH hm.1.1 (by decide) rfl 5 (by decide) rfl (hw zw_604) (fun _ h9 => h9) d_Mod_told_42 ?_
      refine zt_i (y := m9 40 5) (congrFun hm.2.2.1 5) ?_
      refine W.widen (k := 0) (n := 0) (Nat.le_of_ble_eq_true rfl) (Nat.le_of_ble_eq_true rfl) ?_
      subst hAe
      exact W.iret (v := m9 40 5) hx hb hr (fun t ht hW => zc_end hS hH ht (⟨by rw [hc1, zo_told, if_neg (show ¬ nI 1 = nI 0 by decide), if_pos rfl], rfl, rfl, rfl, hm⟩)) hS.2.2 d_Mod_told_45
    · skip
      refine lv_tableIn (off := 43) (tgt := 46) hx hb d_Mod_told_3 (by rw [hc1]; decide) (by rw [hc1]; decide) (by rw [hc1]; decide +kernel) (by decide) ?_
      refine lv_iconst (v := nI 0) hx hb d_Mod_told_46 (by decide) ?_
      refine lv_istore_n (lv' := [(3, .int (nI 0)), (2, .int (nI 0)), (0, .ref X), (1, .int x)]) hx hb d_Mod_told_47 rfl hl (by decide) rfl (fun ls hl => ?_)
      have loop_48 : ∀ (z : Nat) (g : Nat) (I_48 : Nat → Nat → Int32) (L_48 : Nat → Nat → Int64) (H : Heap) (locs : List Loc) (ls : Array Slot), 40 - g < z → (g ≤ 40) → (zoR X ad m9 q9 kd ln I_48 L_48 R) → lv_has ls 4 [(0, .ref X), (2, .int (nI (zb_cf (m9 15) g))), (3, .int (nI g))] → zh_H D cA A kd ln I_48 L_48 R H → va_S A s.heap H locs → W p l e (headSpec w_Mod_told { frames := 1, cells := 0, slots := 0, locals := 23 }).room s m ([.ref X, .int x] : List Value).toArray below meth c H locs 0 0 (MQ below (zc_Qc D cA A (zo_P (some (.int (zo_told m9 q9 x))) X ad m9 q9 kd ln R)) ([.ref X, .int x] : List Value).toArray s 0 0 A) (F0 m 48 ls []) := by
        intro z
        induction z with
        | zero => intro g I_48 L_48 H locs ls hz; exact absurd hz (Nat.not_lt_zero _)
        | succ z ih_48 =>
          intro g I_48 L_48 H locs ls hz_48 hg hm hl hH hS
          have hcf := zb_cf_le (m9 15) g
          refine lv_iload_n hx hb d_Mod_told_48 rfl (lv_at hl 2 rfl) ?_
          refine lv_bipush (v := nI 40) hx hb d_Mod_told_49 (by decide) ?_
          refine lv_icmp_ge (tgt := 77) hx hb d_Mod_told_51 (by decide) (fun hc4 => ?_) (fun hc4 => ?_)
          · skip
            have hc4 := zt_geT (a := g) (b := 40) (by omega) (by omega) hc4
            refine lv_iload_n hx hb d_Mod_told_77 rfl (lv_at hl 1 rfl) ?_
            refine W.widen (k := 0) (n := 0) (Nat.le_of_ble_eq_true rfl) (Nat.le_of_ble_eq_true rfl) ?_
            subst hAe
            exact W.iret (v := nI (zb_cf (m9 15) g)) hx hb hr (fun t ht hW => zc_end hS hH ht (⟨by rw [hc1, zo_told, if_neg (show ¬ nI 2 = nI 0 by decide), if_neg (show ¬ nI 2 = nI 1 by decide), if_pos rfl, show (g : Nat) = 40 by omega], rfl, rfl, rfl, hm⟩)) hS.2.2 d_Mod_told_78
          · skip
            have hc4 := zt_geF (a := g) (b := 40) (by omega) (by omega) hc4
            refine lv_iload_n hx hb d_Mod_told_54 rfl (lv_at hl 1 rfl) ?_
            refine lv_aload_n hx hb d_Mod_told_55 rfl (lv_at hl 0 rfl) ?_
            refine zr_getr (ci := 6) (C := R_Mod) (T := T_Mod) (N := 37) (ref := "ScrubbedRecorderModel") hx hb hts (fun w h => List.mem_cons_of_mem _ (zin_Mod w h)) hown hK hH hm.1.1 (by decide) rfl 15 (by decide) rfl (hw zw_614) (fun _ h9 => h9) d_Mod_told_56 (by rw [r15]) ?_
            refine lv_iload_n hx hb d_Mod_told_59 rfl (lv_at hl 2 rfl) ?_
            refine zr_aldz (j := g) hx hb hK hH k15 (by rw [n15]; exact zh_ix_n (by omega) (by omega)) d_Mod_told_60 ?_
            refine zt_i (y := m9 15 g) (congrFun (hm.2.1 15 (by decide) (by decide) (by decide)) g) ?_
            refine lv_if_eq (tgt := 68) hx hb d_Mod_told_61 (by decide) (fun hc5 => ?_) (fun hc5 => ?_)
            · skip
              have hc5 : (m9 15 g) = (nI 0) := hc5
              refine lv_iconst (v := nI 1) hx hb d_Mod_told_68 (by decide) ?_
              refine lv_iadd hx hb d_Mod_told_69 ?_
              refine zt_i (y := nI (zb_cf (m9 15) g + 1)) (nI_add (zb_cf (m9 15) g) 1) ?_
              refine lv_istore_n (lv' := [(2, .int (nI (zb_cf (m9 15) g + 1))), (0, .ref X), (3, .int (nI g))]) hx hb d_Mod_told_70 rfl hl (by decide) rfl (fun ls hl => ?_)
              refine lv_iinc (k := 2) (v := nI (g + 1)) (lv' := [(3, .int (nI (g + 1))), (2, .int (nI (zb_cf (m9 15) g + 1))), (0, .ref X)]) hx hb d_Mod_told_71 hl rfl (nI_add g 1) (by decide) rfl (fun ls hl => ?_)
              refine lv_goto (tgt := 48) hx hb d_Mod_told_74 (by decide) ?_
              have e6 : zb_cf (m9 15) (g + 1) = zb_cf (m9 15) g + 1 := by show zb_cf (m9 15) g + _ = _; rw [if_pos hc5]
              have hl : lv_has ls 4 [(3, .int (nI (g + 1))), (2, .int (nI (zb_cf (m9 15) (g + 1)))), (0, .ref X)] := by rw [e6]; exact hl
              exact ih_48 (g + 1) _ _ _ _ _ (by omega) (by omega) hm (lv_sub hl [2, 1, 0] rfl) hH hS
            · skip
              have hc5 : ¬ (m9 15 g) = (nI 0) := hc5
              refine lv_iconst (v := nI 0) hx hb d_Mod_told_64 (by decide) ?_
              refine lv_goto (tgt := 69) hx hb d_Mod_told_65 (by decide) ?_
              refine lv_iadd hx hb d_Mod_told_69 ?_
              refine zt_i (y := nI (zb_cf (m9 15) g + 0)) (nI_add (zb_cf (m9 15) g) 0) ?_
              refine lv_istore_n (lv' := [(2, .int (nI (zb_cf (m9 15) g + 0))), (0, .ref X), (3, .int (nI g))]) hx hb d_Mod_told_70 rfl hl (by decide) rfl (fun ls hl => ?_)
              refine lv_iinc (k := 2) (v := nI (g + 1)) (lv' := [(3, .int (nI (g + 1))), (2, .int (nI (zb_cf (m9 15) g + 0))), (0, .ref X)]) hx hb d_Mod_told_71 hl rfl (nI_add g 1) (by decide) rfl (fun ls hl => ?_)
              refine lv_goto (tgt := 48) hx hb d_Mod_told_74 (by decide) ?_
              have e7 : zb_cf (m9 15) (g + 1) = zb_cf (m9 15) g + 0 := by show zb_cf (m9 15) g + _ = _; rw [if_neg hc5]
              have hl : lv_has ls 4 [(3, .int (nI (g + 1))), (2, .int (nI (zb_cf (m9 15) (g + 1)))), (0, .ref X)] := by rw [e7]; exact hl
              exact ih_48 (g + 1) _ _ _ _ _ (by omega) (by omega) hm (lv_sub hl [2, 1, 0] rfl) hH hS
      exact loop_48 _ 0 _ _ _ _ _ (Nat.lt_succ_self _) (by omega) hm (lv_sub hl [2, 1, 0] rfl) hH hS
    · skip
      refine lv_tableIn (off := 76) (tgt := 79) hx hb d_Mod_told_3 (by rw [hc1]; decide) (by rw [hc1]; decide) (by rw [hc1]; decide +kernel) (by decide) ?_
      refine lv_aload_n hx hb d_Mod_told_79 rfl (lv_at hl 1 rfl) ?_
      refine zr_geti (ci := 6) (C := R_Mod) (T := T_Mod) (N := 37) (ref := "ScrubbedRecorderModel") hx hb hts (fun w h => List.mem_cons_of_mem _ (zin_Mod w h)) hown hK hH hm.1.1 (by decide) rfl 1 (by decide) rfl (hw zw_600) (fun _ h9 => h9) d_Mod_told_80 ?_
      refine zt_i (y := m9 40 1) (congrFun hm.2.2.1 1) ?_
      refine lv_if_lt (tgt := 91) hx hb d_Mod_told_83 (by decide) (fun hc8 => ?_) (fun hc8 => ?_)
      · skip
        have hc8 : (m9 40 1) < (nI 0) := hc8
        refine lv_aload_n hx hb d_Mod_told_91 rfl (lv_at hl 1 rfl) ?_
        refine zr_geti (ci := 6) (C := R_Mod) (T := T_Mod) (N := 37) (ref := "ScrubbedRecorderModel") hx hb hts (fun w h => List.mem_cons_of_mem _ (zin_Mod w h)) hown hK hH hm.1.1 (by decide) rfl 3 (by decide) rfl (hw zw_602) (fun _ h9 => h9) d_Mod_told_92 ?_
        refine zt_i (y := m9 40 3) (congrFun hm.2.2.1 3) ?_
        refine lv_i2l (v := (m9 40 3).toInt64) hx hb d_Mod_told_95 rfl ?_
        refine zr_St (As := ([.long ((m9 40 3).toInt64)] : List Value)) (rest := []) ⟨hx, hb, hml, hown, hts⟩ c_Mod_bitsIn ⟨(callB_of 1 hts (zg_all zw_721) rfl rfl rfl (hw zw_3) (hw zw_719) k_Mod_bitsIn.2 ⟨Nat.le_of_ble_eq_true rfl, Nat.le_of_ble_eq_true rfl⟩), hw zw_720⟩ hSc hE hH hS hA rfl hl.1 rfl (Nat.le_of_ble_eq_true rfl) d_Mod_told_96 ⟨Nat.le_of_ble_eq_true rfl, Nat.le_of_ble_eq_true rfl⟩ (fun v9 kd9 ln9 I9 L9 R9 H locs hp hH hS => ?_)
        have hbl10 := zq_bc_le ((m9 40 3).toInt64) 39
        obtain ⟨rfl, rfl, rfl, rfl, rfl, rfl⟩ := hp
        refine W.eq (g2 := F0 m 99 ls [.int (nI (zq_bc ((m9 40 3).toInt64) 39))]) rfl ?_
        refine W.widen (k := 0) (n := 0) (by omega) (by omega) ?_
        refine W.widen (k := 0) (n := 0) (Nat.le_of_ble_eq_true rfl) (Nat.le_of_ble_eq_true rfl) ?_
        subst hAe
        exact W.iret (v := nI (zq_bc ((m9 40 3).toInt64) 39)) hx hb hr (fun t ht hW => zc_end hS hH ht (⟨by rw [hc1, zo_told, if_neg (show ¬ nI 3 = nI 0 by decide), if_neg (show ¬ nI 3 = nI 1 by decide), if_neg (show ¬ nI 3 = nI 2 by decide), if_pos rfl, if_pos hc8], rfl, rfl, rfl, hm⟩)) hS.2.2 d_Mod_told_99
      · skip
        have hc8 : ¬ (m9 40 1) < (nI 0) := hc8
        refine lv_bipush (v := nI 8) hx hb d_Mod_told_86 (by decide) ?_
        refine lv_goto (tgt := 99) hx hb d_Mod_told_88 (by decide) ?_
        refine W.widen (k := 0) (n := 0) (Nat.le_of_ble_eq_true rfl) (Nat.le_of_ble_eq_true rfl) ?_
        subst hAe
        exact W.iret (v := nI 8) hx hb hr (fun t ht hW => zc_end hS hH ht (⟨by rw [hc1, zo_told, if_neg (show ¬ nI 3 = nI 0 by decide), if_neg (show ¬ nI 3 = nI 1 by decide), if_neg (show ¬ nI 3 = nI 2 by decide), if_pos rfl, if_neg hc8], rfl, rfl, rfl, hm⟩)) hS.2.2 d_Mod_told_99
    · skip
      refine lv_tableIn (off := 97) (tgt := 100) hx hb d_Mod_told_3 (by rw [hc1]; decide) (by rw [hc1]; decide) (by rw [hc1]; decide +kernel) (by decide) ?_
      refine lv_iconst (v := nI 0) hx hb d_Mod_told_100 (by decide) ?_
      refine lv_istore_n (lv' := [(3, .int (nI 0)), (2, .int (nI 0)), (0, .ref X), (1, .int x)]) hx hb d_Mod_told_101 rfl hl (by decide) rfl (fun ls hl => ?_)
      have loop_102 : ∀ (z : Nat) (g : Nat) (I_102 : Nat → Nat → Int32) (L_102 : Nat → Nat → Int64) (H : Heap) (locs : List Loc) (ls : Array Slot), 768 - g < z → (g ≤ 768) → (zoR X ad m9 q9 kd ln I_102 L_102 R) → lv_has ls 4 [(0, .ref X), (2, .int (nI (zb_cw (q9 0) g))), (3, .int (nI g))] → zh_H D cA A kd ln I_102 L_102 R H → va_S A s.heap H locs → W p l e (headSpec w_Mod_told { frames := 1, cells := 0, slots := 0, locals := 23 }).room s m ([.ref X, .int x] : List Value).toArray below meth c H locs 0 0 (MQ below (zc_Qc D cA A (zo_P (some (.int (zo_told m9 q9 x))) X ad m9 q9 kd ln R)) ([.ref X, .int x] : List Value).toArray s 0 0 A) (F0 m 102 ls []) := by
        intro z
        induction z with
        | zero => intro g I_102 L_102 H locs ls hz; exact absurd hz (Nat.not_lt_zero _)
        | succ z ih_102 =>
          intro g I_102 L_102 H locs ls hz_102 hg hm hl hH hS
          have hcf := zb_cw_le (q9 0) g
          refine lv_iload_n hx hb d_Mod_told_102 rfl (lv_at hl 2 rfl) ?_
          refine lv_sipush (v := nI 768) hx hb d_Mod_told_103 (by decide) ?_
          refine lv_icmp_ge (tgt := 134) hx hb d_Mod_told_106 (by decide) (fun hc11 => ?_) (fun hc11 => ?_)
          · skip
            have hc11 := zt_geT (a := g) (b := 768) (by omega) (by omega) hc11
            refine lv_iload_n hx hb d_Mod_told_134 rfl (lv_at hl 1 rfl) ?_
            refine W.widen (k := 0) (n := 0) (Nat.le_of_ble_eq_true rfl) (Nat.le_of_ble_eq_true rfl) ?_
            subst hAe
            exact W.iret (v := nI (zb_cw (q9 0) g)) hx hb hr (fun t ht hW => zc_end hS hH ht (⟨by rw [hc1, zo_told, if_neg (show ¬ nI 4 = nI 0 by decide), if_neg (show ¬ nI 4 = nI 1 by decide), if_neg (show ¬ nI 4 = nI 2 by decide), if_neg (show ¬ nI 4 = nI 3 by decide), if_pos rfl, show (g : Nat) = 768 by omega], rfl, rfl, rfl, hm⟩)) hS.2.2 d_Mod_told_135
          · skip
            have hc11 := zt_geF (a := g) (b := 768) (by omega) (by omega) hc11
            refine lv_iload_n hx hb d_Mod_told_109 rfl (lv_at hl 1 rfl) ?_
            refine lv_aload_n hx hb d_Mod_told_110 rfl (lv_at hl 0 rfl) ?_
            refine zr_getr (ci := 6) (C := R_Mod) (T := T_Mod) (N := 37) (ref := "ScrubbedRecorderModel") hx hb hts (fun w h => List.mem_cons_of_mem _ (zin_Mod w h)) hown hK hH hm.1.1 (by decide) rfl 0 (by decide) rfl (hw zw_599) (fun _ h9 => h9) d_Mod_told_111 (by rw [r0]) ?_
            refine lv_iload_n hx hb d_Mod_told_114 rfl (lv_at hl 2 rfl) ?_
            refine zr_aldl (j := g) hx hb hK hH k0 (by rw [n0]; exact zh_ix_n (by omega) (by omega)) d_Mod_told_115 ?_
            refine zt_l (y := q9 0 g) (congrFun (hm.2.2.2 0 (by decide) (by decide)) g) ?_
            refine lv_lconst (v := 0) hx hb d_Mod_told_116 (by decide) ?_
            refine W.lcmp hx hb d_Mod_told_117 ?_
            refine lv_if_eq (tgt := 125) hx hb d_Mod_told_118 (by decide) (fun hc12 => ?_) (fun hc12 => ?_)
            · skip
              have hc12 : (lg_cmp (q9 0 g) 0) = (nI 0) := hc12
              refine lv_iconst (v := nI 0) hx hb d_Mod_told_125 (by decide) ?_
              refine lv_iadd hx hb d_Mod_told_126 ?_
              refine zt_i (y := nI (zb_cw (q9 0) g + 0)) (nI_add (zb_cw (q9 0) g) 0) ?_
              refine lv_istore_n (lv' := [(2, .int (nI (zb_cw (q9 0) g + 0))), (0, .ref X), (3, .int (nI g))]) hx hb d_Mod_told_127 rfl hl (by decide) rfl (fun ls hl => ?_)
              refine lv_iinc (k := 2) (v := nI (g + 1)) (lv' := [(3, .int (nI (g + 1))), (2, .int (nI (zb_cw (q9 0) g + 0))), (0, .ref X)]) hx hb d_Mod_told_128 hl rfl (nI_add g 1) (by decide) rfl (fun ls hl => ?_)
              refine lv_goto (tgt := 102) hx hb d_Mod_told_131 (by decide) ?_
              have e13 : zb_cw (q9 0) (g + 1) = zb_cw (q9 0) g + 0 := by show zb_cw (q9 0) g + _ = _; rw [if_pos hc12]
              have hl : lv_has ls 4 [(3, .int (nI (g + 1))), (2, .int (nI (zb_cw (q9 0) (g + 1)))), (0, .ref X)] := by rw [e13]; exact hl
              exact ih_102 (g + 1) _ _ _ _ _ (by omega) (by omega) hm (lv_sub hl [2, 1, 0] rfl) hH hS
            · skip
              have hc12 : ¬ (lg_cmp (q9 0 g) 0) = (nI 0) := hc12
              refine lv_iconst (v := nI 1) hx hb d_Mod_told_121 (by decide) ?_
              refine lv_goto (tgt := 126) hx hb d_Mod_told_122 (by decide) ?_
              refine lv_iadd hx hb d_Mod_told_126 ?_
              refine zt_i (y := nI (zb_cw (q9 0) g + 1)) (nI_add (zb_cw (q9 0) g) 1) ?_
              refine lv_istore_n (lv' := [(2, .int (nI (zb_cw (q9 0) g + 1))), (0, .ref X), (3, .int (nI g))]) hx hb d_Mod_told_127 rfl hl (by decide) rfl (fun ls hl => ?_)
              refine lv_iinc (k := 2) (v := nI (g + 1)) (lv' := [(3, .int (nI (g + 1))), (2, .int (nI (zb_cw (q9 0) g + 1))), (0, .ref X)]) hx hb d_Mod_told_128 hl rfl (nI_add g 1) (by decide) rfl (fun ls hl => ?_)
              refine lv_goto (tgt := 102) hx hb d_Mod_told_131 (by decide) ?_
              have e14 : zb_cw (q9 0) (g + 1) = zb_cw (q9 0) g + 1 := by show zb_cw (q9 0) g + _ = _; rw [if_neg hc12]
              have hl : lv_has ls 4 [(3, .int (nI (g + 1))), (2, .int (nI (zb_cw (q9 0) (g + 1)))), (0, .ref X)] := by rw [e14]; exact hl
              exact ih_102 (g + 1) _ _ _ _ _ (by omega) (by omega) hm (lv_sub hl [2, 1, 0] rfl) hH hS
      exact loop_102 _ 0 _ _ _ _ _ (Nat.lt_succ_self _) (by omega) hm (lv_sub hl [2, 1, 0] rfl) hH hS
