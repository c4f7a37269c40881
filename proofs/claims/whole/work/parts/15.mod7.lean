/-- the least page that is not used, from 40 - n on (40: none) -/
def zo_lf (f : Nat → Int32) : Nat → Nat
  | 0 => 40
  | n + 1 => if f (39 - n) = nI 0 then 39 - n else zo_lf f n
theorem zo_lf_s {f : Nat → Int32} {g : Nat} (h : g < 40) : zo_lf f (40 - g) = if f g = nI 0 then g else zo_lf f (40 - (g + 1)) := by
  obtain ⟨k, hk⟩ : ∃ k, 40 - g = k + 1 := ⟨39 - g, by omega⟩
  have e1 : 40 - (g + 1) = k := by omega
  have e2 : 39 - k = g := by omega
  rw [hk, e1, zo_lf, e2]
theorem zo_lf_le {f : Nat → Int32} : ∀ (d g : Nat), d ≤ g → g < 40 → f g = nI 0 → zo_lf f (40 - (g - d)) ≤ g
  | 0, g, _, hg, h => by
    rw [Nat.sub_zero, zo_lf_s hg, if_pos h]
    exact Nat.le_refl _
  | d + 1, g, hd, hg, h => by
    have ih := zo_lf_le (f := f) d g (by omega) hg h
    rw [zo_lf_s (g := g - (d + 1)) (by omega), show g - (d + 1) + 1 = g - d by omega]
    split
    · omega
    · exact ih
theorem zo_lf_lt {f : Nat → Int32} {g : Nat} (hg : g < 40) (h : f g = nI 0) : zo_lf f 40 < 40 := by
  have := zo_lf_le (f := f) g g (Nat.le_refl _) hg h
  rw [Nat.sub_self, Nat.sub_zero] at this
  omega
def zo_opI (m9 : Nat → Nat → Int32) (k c g : Nat) : Nat → Nat → Int32 := zu (zu (zu (zu m9 15 g (nI 1)) 14 (40 * k + c) (nI g)) 12 k (nI (c + 1))) 13 k (nI 3)
def zo_op (k c : Nat) (z : (Nat → Nat → Int32) × (Nat → Nat → Int64)) : (Nat → Nat → Int32) × (Nat → Nat → Int64) := (zo_opI z.1 k c (zo_lf (z.1 15) 40), zb_wrs 0 (zo_lf (z.1 15) 40) z.2 16)
theorem zo_frI_15 {m9 : Nat → Nat → Int32} {k c g : Nat} : zo_frI m9 k c g 15 g = nI 0 := by
  unfold zo_frI
  rw [va_up_ne _ _ (show (15 : Nat) ≠ 16 by decide), zu_self]

set_option maxHeartbeats 4000000 in
set_option maxRecDepth 100000 in
/-- open, room in the chain -/
theorem c_Mod_open_N {l : Launch} {D : va_G} {cA : Nat → ClassId} {te mi : Nat} {kd ln : Nat → Nat} {I : Nat → Nat → Int32} {L : Nat → Nat → Int64} {R : Nat → Nat → Option Nat} {X : Nat} {ad : Nat → Nat} {m9 : Nat → Nat → Int32} {q9 : Nat → Nat → Int64} (hm : zoR X ad m9 q9 kd ln I L R) {k c9 qu : Nat} (hk4 : k < 4) (hpg9 : zo_pgs m9 k c9) (hqu : m9 9 k = nI qu) (hqu1 : qu < 2 ^ 31) (hne : ¬ c9 = qu) (hc40 : c9 < 40) (hlf0 : zo_lf (m9 15) 40 < 40) : zc_M l y_Mod_open w_Mod_open { frames := 3, cells := 0, slots := 0, locals := 67 } 0 0 D cA te mi ([.ref X, .int (nI k)] : List Value) kd ln I L R (zo_P none X ad ((zo_op k c9 (m9, q9)).1) ((zo_op k c9 (m9, q9)).2) kd ln R) := by
  intro sz
  refine Met.ofW (cc := b_Mod_open) (maxL := 4) (ret := none) (by decide +kernel) rfl ?_
  intro p e s m args below meth c s₁ B hml hv
  obtain ⟨rfl, hsz, hSc, hE, hH⟩ := hv
  have hx := B.exec
  have hb := B.bytes
  have hr := B.returns
  have hts := atoms_spec (ws := w_Mod_open) B.pre
  have hw : ∀ {w : Cond}, w ∈ zw → w.before ([.ref X, .int (nI k)] : List Value).toArray s = true := fun h => hts _ (List.mem_cons_of_mem _ h)
  have hown : s.vm.findClass R_Mod = some m.cls := findClass_of_methodNamed B.named
  have hlocks := B.notSynchronized
  subst hsz
  have hK := hSc.1
  have hH : zh_H D cA (zc_A kd s.heap.size) kd ln I L R s.heap := hH.weaken (fun q h _ => Or.inl h)
  generalize hAe : zc_A kd s.heap.size = A at hH hE ⊢
  have hA : ∀ q : Nat, s.heap.size ≤ q → A q := fun q h => by rw [← hAe]; exact Or.inr h
  have hS : va_S A s.heap s.heap [] := va_S.rf
  have hl := lv_entry ([.ref X, .int (nI k)] : List Value) (n := 4) (Nat.le_of_ble_eq_true rfl)
  rw [lg_entry_eq]
  generalize (lg_sl ([.ref X, .int (nI k)] : List Value) ++ List.replicate (4 - (lg_sl ([.ref X, .int (nI k)] : List Value)).length) Slot.unset).toArray = ls at hl ⊢
  have hl : lv_has ls 4 [(0, .ref X), (1, .int (nI k))] := hl
  have k9 : kd (ad 9) = 100 := (hm.1.2.1 9 (by decide) (by decide)).2.1
  have n9 : ln (ad 9) = 4 := (hm.1.2.1 9 (by decide) (by decide)).2.2
  have r9 : R X 9 = some (ad 9) := (hm.1.2.1 9 (by decide) (by decide)).1
  have k12 : kd (ad 12) = 100 := (hm.1.2.1 12 (by decide) (by decide)).2.1
  have n12 : ln (ad 12) = 4 := (hm.1.2.1 12 (by decide) (by decide)).2.2
  have r12 : R X 12 = some (ad 12) := (hm.1.2.1 12 (by decide) (by decide)).1
  have k13 : kd (ad 13) = 100 := (hm.1.2.1 13 (by decide) (by decide)).2.1
  have n13 : ln (ad 13) = 4 := (hm.1.2.1 13 (by decide) (by decide)).2.2
  have r13 : R X 13 = some (ad 13) := (hm.1.2.1 13 (by decide) (by decide)).1
  have k14 : kd (ad 14) = 100 := (hm.1.2.1 14 (by decide) (by decide)).2.1
  have n14 : ln (ad 14) = 160 := (hm.1.2.1 14 (by decide) (by decide)).2.2
  have r14 : R X 14 = some (ad 14) := (hm.1.2.1 14 (by decide) (by decide)).1
  have k15 : kd (ad 15) = 103 := (hm.1.2.1 15 (by decide) (by decide)).2.1
  have n15 : ln (ad 15) = 40 := (hm.1.2.1 15 (by decide) (by decide)).2.2
  have r15 : R X 15 = some (ad 15) := (hm.1.2.1 15 (by decide) (by decide)).1
  have hle40 := hpg9.2.1
  obtain ⟨lv9, hlv, hlf⟩ : ∃ z, (∀ _ : Unit, zo_lf (m9 15) 40 = z) ∧ z < 40 := ⟨_, fun _ => rfl, hlf0⟩
  clear hlf0
  refine lv_aload_n hx hb d_Mod_open_0 rfl (lv_at hl 0 rfl) ?_
  refine zr_getr (ci := 6) (C := R_Mod) (T := T_Mod) (N := 37) (ref := "ScrubbedRecorderModel") hx hb hts (fun w h => List.mem_cons_of_mem _ (zin_Mod w h)) hown hK hH hm.1.1 (by decide) rfl 12 (by decide) rfl (hw zw_611) (fun _ h9 => h9) d_Mod_open_1 (by rw [r12]) ?_
  refine lv_iload_n hx hb d_Mod_open_4 rfl (lv_at hl 1 rfl) ?_
  refine zr_aldi (j := k) hx hb hK hH k12 (by rw [n12]; exact zh_ix_n (by omega) (by omega)) d_Mod_open_5 ?_
  refine zt_i (y := nI c9) ((congrFun (hm.2.1 12 (by decide) (by decide) (by decide)) k).trans (by rw [hpg9.1])) ?_
  refine lv_aload_n hx hb d_Mod_open_6 rfl (lv_at hl 0 rfl) ?_
  refine zr_getr (ci := 6) (C := R_Mod) (T := T_Mod) (N := 37) (ref := "ScrubbedRecorderModel") hx hb hts (fun w h => List.mem_cons_of_mem _ (zin_Mod w h)) hown hK hH hm.1.1 (by decide) rfl 9 (by decide) rfl (hw zw_608) (fun _ h9 => h9) d_Mod_open_7 (by rw [r9]) ?_
  refine lv_iload_n hx hb d_Mod_open_10 rfl (lv_at hl 1 rfl) ?_
  refine zr_aldi (j := k) hx hb hK hH k9 (by rw [n9]; exact zh_ix_n (by omega) (by omega)) d_Mod_open_11 ?_
  refine zt_i (y := nI qu) ((congrFun (hm.2.1 9 (by decide) (by decide) (by decide)) k).trans (by rw [hqu])) ?_
  refine lv_icmp_ne (tgt := 20) hx hb d_Mod_open_12 (by decide) (fun hc1 => ?_) (fun hc1 => ?_)
  · skip
    have hc1 := zt_neT (a := c9) (b := qu) (by omega) (by omega) hc1
    refine lv_iconst (v := nI 0) hx hb d_Mod_open_20 (by decide) ?_
    refine lv_istore_n (lv' := [(2, .int (nI 0)), (0, .ref X), (1, .int (nI k))]) hx hb d_Mod_open_21 rfl hl (by decide) rfl (fun ls hl => ?_)
    have loop_22 : ∀ (z : Nat) (g9 : Nat) (I_22 : Nat → Nat → Int32) (L_22 : Nat → Nat → Int64) (H : Heap) (locs : List Loc) (ls : Array Slot), 40 - g9 < z → (g9 ≤ 40) → (zo_lf (m9 15) (40 - g9) = lv9) → (zoR X ad m9 q9 kd ln I_22 L_22 R) → lv_has ls 4 [(0, .ref X), (1, .int (nI k)), (2, .int (nI g9))] → zh_H D cA A kd ln I_22 L_22 R H → va_S A s.heap H locs → W p l e (headSpec w_Mod_open { frames := 3, cells := 0, slots := 0, locals := 67 }).room s m ([.ref X, .int (nI k)] : List Value).toArray below meth c H locs 0 0 (MQ below (zc_Qc D cA A (zo_P none X ad ((zo_op k c9 (m9, q9)).1) ((zo_op k c9 (m9, q9)).2) kd ln R)) ([.ref X, .int (nI k)] : List Value).toArray s 0 0 A) (F0 m 22 ls []) := by
      intro z
      induction z with
      | zero => intro g9 I_22 L_22 H locs ls hz; exact absurd hz (Nat.not_lt_zero _)
      | succ z ih_22 =>
        intro g9 I_22 L_22 H locs ls hz_22 hg9 hg hm hl hH hS
        have hg40 : g9 < 40 := Nat.lt_of_not_le fun e => absurd hlf (by rw [← hg, show 40 - g9 = 0 by omega]; exact Nat.lt_irrefl 40)
        refine lv_aload_n hx hb d_Mod_open_22 rfl (lv_at hl 0 rfl) ?_
        refine zr_getr (ci := 6) (C := R_Mod) (T := T_Mod) (N := 37) (ref := "ScrubbedRecorderModel") hx hb hts (fun w h => List.mem_cons_of_mem _ (zin_Mod w h)) hown hK hH hm.1.1 (by decide) rfl 15 (by decide) rfl (hw zw_614) (fun _ h9 => h9) d_Mod_open_23 (by rw [r15]) ?_
        refine lv_iload_n hx hb d_Mod_open_26 rfl (lv_at hl 2 rfl) ?_
        refine zr_aldz (j := g9) hx hb hK hH k15 (by rw [n15]; exact zh_ix_n (by omega) (by omega)) d_Mod_open_27 ?_
        refine zt_i (y := m9 15 g9) (congrFun (hm.2.1 15 (by decide) (by decide) (by decide)) g9) ?_
        refine lv_if_eq (tgt := 37) hx hb d_Mod_open_28 (by decide) (fun hc2 => ?_) (fun hc2 => ?_)
        · skip
          have hc2 : (m9 15 g9) = (nI 0) := hc2
          refine lv_aload_n hx hb d_Mod_open_37 rfl (lv_at hl 0 rfl) ?_
          refine zr_getr (ci := 6) (C := R_Mod) (T := T_Mod) (N := 37) (ref := "ScrubbedRecorderModel") hx hb hts (fun w h => List.mem_cons_of_mem _ (zin_Mod w h)) hown hK hH hm.1.1 (by decide) rfl 15 (by decide) rfl (hw zw_614) (fun _ h9 => h9) d_Mod_open_38 (by rw [r15]) ?_
          refine lv_iload_n hx hb d_Mod_open_41 rfl (lv_at hl 2 rfl) ?_
          refine lv_iconst (v := nI 1) hx hb d_Mod_open_42 (by decide) ?_
          refine zr_astz (j := g9) (y := nI 1) hx hb hK hH hS k15 (by decide +kernel) (by rw [n15]; exact zh_ix_n (by omega) (by omega)) d_Mod_open_43 (fun H locs hH hS => ?_)
          have hm := zoR_I hm 15 (by decide) g9 (nI 1)
          generalize zu I_22 (ad 15) g9 (nI 1) = I3 at hm hH
          refine lv_aload_n hx hb d_Mod_open_44 rfl (lv_at hl 0 rfl) ?_
          refine zr_getr (ci := 6) (C := R_Mod) (T := T_Mod) (N := 37) (ref := "ScrubbedRecorderModel") hx hb hts (fun w h => List.mem_cons_of_mem _ (zin_Mod w h)) hown hK hH hm.1.1 (by decide) rfl 14 (by decide) rfl (hw zw_613) (fun _ h9 => h9) d_Mod_open_45 (by rw [r14]) ?_
          refine lv_bipush (v := nI 40) hx hb d_Mod_open_48 (by decide) ?_
          refine lv_iload_n hx hb d_Mod_open_50 rfl (lv_at hl 1 rfl) ?_
          refine lv_imul hx hb d_Mod_open_51 ?_
          refine zt_i (y := nI (40 * k)) (pk_mul 40 k) ?_
          refine lv_aload_n hx hb d_Mod_open_52 rfl (lv_at hl 0 rfl) ?_
          refine zr_getr (ci := 6) (C := R_Mod) (T := T_Mod) (N := 37) (ref := "ScrubbedRecorderModel") hx hb hts (fun w h => List.mem_cons_of_mem _ (zin_Mod w h)) hown hK hH hm.1.1 (by decide) rfl 12 (by decide) rfl (hw zw_611) (fun _ h9 => h9) d_Mod_open_53 (by rw [r12]) ?_
          refine lv_iload_n hx hb d_Mod_open_56 rfl (lv_at hl 1 rfl) ?_
          refine zr_aldi (j := k) hx hb hK hH k12 (by rw [n12]; exact zh_ix_n (by omega) (by omega)) d_Mod_open_57 ?_
          refine zt_i (y := nI c9) ((congrFun (hm.2.1 12 (by decide) (by decide) (by decide)) k).trans (by rw [zu_ne _ _ _ (show (12 : Nat) ≠ 15 by decide), hpg9.1])) ?_
          refine lv_iadd hx hb d_Mod_open_58 ?_
          refine zt_i (y := nI (40 * k + c9)) (nI_add (40 * k) c9) ?_
          refine lv_iload_n hx hb d_Mod_open_59 rfl (lv_at hl 2 rfl) ?_
          refine zr_asti (j := 40 * k + c9) (y := nI g9) hx hb hK hH hS k14 rfl (by rw [n14]; exact zh_ix_n (by omega) (by omega)) d_Mod_open_60 (fun H locs hH hS => ?_)
          have hm := zoR_I hm 14 (by decide) (40 * k + c9) (nI g9)
          generalize zu I3 (ad 14) (40 * k + c9) (nI g9) = I4 at hm hH
          refine lv_aload_n hx hb d_Mod_open_61 rfl (lv_at hl 0 rfl) ?_
          refine zr_getr (ci := 6) (C := R_Mod) (T := T_Mod) (N := 37) (ref := "ScrubbedRecorderModel") hx hb hts (fun w h => List.mem_cons_of_mem _ (zin_Mod w h)) hown hK hH hm.1.1 (by decide) rfl 12 (by decide) rfl (hw zw_611) (fun _ h9 => h9) d_Mod_open_62 (by rw [r12]) ?_
          refine lv_iload_n hx hb d_Mod_open_65 rfl (lv_at hl 1 rfl) ?_
          refine lv_dup2_11 hx hb d_Mod_open_66 rfl rfl ?_
          refine zr_aldi (j := k) hx hb hK hH k12 (by rw [n12]; exact zh_ix_n (by omega) (by omega)) d_Mod_open_67 ?_
          refine zt_i (y := nI c9) ((congrFun (hm.2.1 12 (by decide) (by decide) (by decide)) k).trans (by rw [zu_ne _ _ _ (show (12 : Nat) ≠ 14 by decide), zu_ne _ _ _ (show (12 : Nat) ≠ 15 by decide), hpg9.1])) ?_
          refine lv_iconst (v := nI 1) hx hb d_Mod_open_68 (by decide) ?_
          refine lv_iadd hx hb d_Mod_open_69 ?_
          refine zt_i (y := nI (c9 + 1)) (nI_add c9 1) ?_
          refine zr_asti (j := k) (y := nI (c9 + 1)) hx hb hK hH hS k12 rfl (by rw [n12]; exact zh_ix_n (by omega) (by omega)) d_Mod_open_70 (fun H locs hH hS => ?_)
          have hm := zoR_I hm 12 (by decide) k (nI (c9 + 1))
          generalize zu I4 (ad 12) k (nI (c9 + 1)) = I5 at hm hH
          refine lv_iconst (v := nI 0) hx hb d_Mod_open_71 (by decide) ?_
          refine lv_istore_n (lv' := [(3, .int (nI 0)), (0, .ref X), (1, .int (nI k)), (2, .int (nI g9))]) hx hb d_Mod_open_72 rfl hl (by decide) rfl (fun ls hl => ?_)
          have hpg : lv9 = g9 := by rw [← hg, zo_lf_s (g := g9) hg40, if_pos hc2]
          have loop_73 : ∀ (z : Nat) (v : Nat) (I_73 : Nat → Nat → Int32) (L_73 : Nat → Nat → Int64) (H : Heap) (locs : List Loc) (ls : Array Slot), 16 - v < z → (v ≤ 16) → (zoR X ad (zu (zu (zu m9 15 g9 (nI 1)) 14 (40 * k + c9) (nI g9)) 12 k (nI (c9 + 1))) (zb_wrs 0 g9 q9 v) kd ln I_73 L_73 R) → lv_has ls 4 [(0, .ref X), (1, .int (nI k)), (2, .int (nI g9)), (3, .int (nI v))] → zh_H D cA A kd ln I_73 L_73 R H → va_S A s.heap H locs → W p l e (headSpec w_Mod_open { frames := 3, cells := 0, slots := 0, locals := 67 }).room s m ([.ref X, .int (nI k)] : List Value).toArray below meth c H locs 0 0 (MQ below (zc_Qc D cA A (zo_P none X ad ((zo_op k c9 (m9, q9)).1) ((zo_op k c9 (m9, q9)).2) kd ln R)) ([.ref X, .int (nI k)] : List Value).toArray s 0 0 A) (F0 m 73 ls []) := by
            intro z
            induction z with
            | zero => intro v I_73 L_73 H locs ls hz; exact absurd hz (Nat.not_lt_zero _)
            | succ z ih_73 =>
              intro v I_73 L_73 H locs ls hz_73 hv hm hl hH hS
              refine lv_iload_n hx hb d_Mod_open_73 rfl (lv_at hl 3 rfl) ?_
              refine lv_bipush (v := nI 16) hx hb d_Mod_open_74 (by decide) ?_
              refine lv_icmp_ge (tgt := 91) hx hb d_Mod_open_76 (by decide) (fun hc6 => ?_) (fun hc6 => ?_)
              · skip
                have hc6 := zt_geT (a := v) (b := 16) (by omega) (by omega) hc6
                refine lv_aload_n hx hb d_Mod_open_91 rfl (lv_at hl 0 rfl) ?_
                refine zr_getr (ci := 6) (C := R_Mod) (T := T_Mod) (N := 37) (ref := "ScrubbedRecorderModel") hx hb hts (fun w h => List.mem_cons_of_mem _ (zin_Mod w h)) hown hK hH hm.1.1 (by decide) rfl 13 (by decide) rfl (hw zw_612) (fun _ h9 => h9) d_Mod_open_92 (by rw [r13]) ?_
                refine lv_iload_n hx hb d_Mod_open_95 rfl (lv_at hl 1 rfl) ?_
                refine lv_iconst (v := nI 3) hx hb d_Mod_open_96 (by decide) ?_
                refine zr_asti (j := k) (y := nI 3) hx hb hK hH hS k13 rfl (by rw [n13]; exact zh_ix_n (by omega) (by omega)) d_Mod_open_97 (fun H locs hH hS => ?_)
                have hm := zoR_I hm 13 (by decide) k (nI 3)
                generalize zu I_73 (ad 13) k (nI 3) = I7 at hm hH
                refine W.widen (k := 0) (n := 0) (Nat.le_of_ble_eq_true rfl) (Nat.le_of_ble_eq_true rfl) ?_
                subst hAe
                exact W.vret hx hb hr (fun t ht hW => zc_end hS hH ht (⟨rfl, rfl, rfl, rfl, by rw [zo_op]; show zoR X ad (zo_opI m9 k c9 (zo_lf (m9 15) 40)) (zb_wrs 0 (zo_lf (m9 15) 40) q9 16) kd ln _ _ R; rw [hlv (), hpg]; rw [show v = 16 by omega] at hm; exact hm⟩)) hS.2.2 d_Mod_open_98
              · skip
                have hc6 := zt_geF (a := v) (b := 16) (by omega) (by omega) hc6
                refine lv_aload_n hx hb d_Mod_open_79 rfl (lv_at hl 0 rfl) ?_
                refine lv_iload_n hx hb d_Mod_open_80 rfl (lv_at hl 2 rfl) ?_
                refine lv_iload_n hx hb d_Mod_open_81 rfl (lv_at hl 3 rfl) ?_
                refine zr_V (As := ([.int (nI g9), .int (nI v)] : List Value)) (rest := []) (b := X) (ci := 6) (q := (R_Mod, T_Mod, 37)) ⟨hx, hb, hml, hown, hts⟩ (c_Mod_write hm (by omega) (by omega)) ⟨(callB_of 2 hts (zg_all zw_765) rfl rfl rfl (hw zw_3) (hw zw_762) k_Mod_write.2 ⟨Nat.le_of_ble_eq_true rfl, Nat.le_of_ble_eq_true rfl⟩), (hw zw_764), (hw zs_Mod_write)⟩ hSc hE hH hS hA rfl (by decide) hm.1.1 rfl hl.1 rfl (Nat.le_of_ble_eq_true rfl) d_Mod_open_82 ⟨Nat.le_of_ble_eq_true rfl, Nat.le_of_ble_eq_true rfl⟩ (fun v8 kd8 ln8 I8 L8 R8 H locs hp hH hS => ?_)
                obtain ⟨rfl, rfl, rfl, rfl, hm⟩ := hp
                refine W.eq (g2 := F0 m 85 ls []) rfl ?_
                refine W.widen (k := 0) (n := 0) (by omega) (by omega) ?_
                refine lv_iinc (k := 3) (v := nI (v + 1)) (lv' := [(3, .int (nI (v + 1))), (0, .ref X), (1, .int (nI k)), (2, .int (nI g9))]) hx hb d_Mod_open_85 hl rfl (nI_add v 1) (by decide) rfl (fun ls hl => ?_)
                refine lv_goto (tgt := 73) hx hb d_Mod_open_88 (by decide) ?_
                exact ih_73 (v + 1) _ _ _ _ _ (by omega) (by omega) hm (lv_sub hl [1, 2, 3, 0] rfl) hH hS
          exact loop_73 _ 0 _ _ _ _ _ (Nat.lt_succ_self _) (by omega) hm (lv_sub hl [1, 2, 3, 0] rfl) hH hS
        · skip
          have hc2 : ¬ (m9 15 g9) = (nI 0) := hc2
          refine lv_iinc (k := 2) (v := nI (g9 + 1)) (lv' := [(2, .int (nI (g9 + 1))), (0, .ref X), (1, .int (nI k))]) hx hb d_Mod_open_31 hl rfl (nI_add g9 1) (by decide) rfl (fun ls hl => ?_)
          refine lv_goto (tgt := 22) hx hb d_Mod_open_34 (by decide) ?_
          exact ih_22 (g9 + 1) _ _ _ _ _ (by omega) (by omega) (by rw [← hg, zo_lf_s (g := g9) hg40, if_neg hc2]) hm (lv_sub hl [1, 2, 0] rfl) hH hS
    exact loop_22 _ 0 _ _ _ _ _ (Nat.lt_succ_self _) (by omega) (hlv ()) hm (lv_sub hl [1, 2, 0] rfl) hH hS
  · skip
    have hc1 := zt_neF (a := c9) (b := qu) (by omega) (by omega) hc1
    exact absurd hc1 (by omega)

set_option maxHeartbeats 4000000 in
set_option maxRecDepth 100000 in
/-- open, the first page goes -/
theorem c_Mod_open_F {l : Launch} {D : va_G} {cA : Nat → ClassId} {te mi : Nat} {kd ln : Nat → Nat} {I : Nat → Nat → Int32} {L : Nat → Nat → Int64} {R : Nat → Nat → Option Nat} {X : Nat} {ad : Nat → Nat} {m9 : Nat → Nat → Int32} {q9 : Nat → Nat → Int64} (hm : zoR X ad m9 q9 kd ln I L R) {k c9 qu : Nat} (hk4 : k < 4) (hpg9 : zo_pgs m9 k c9) (hqu : m9 9 k = nI qu) (hqu1 : qu < 2 ^ 31) (heq : c9 = qu) (hcp : 1 ≤ c9) : zc_M l y_Mod_open w_Mod_open { frames := 3, cells := 0, slots := 0, locals := 67 } 0 0 D cA te mi ([.ref X, .int (nI k)] : List Value) kd ln I L R (zo_P none X ad ((zo_op k (c9 - 1) (zo_fr k c9 (m9, q9))).1) ((zo_op k (c9 - 1) (zo_fr k c9 (m9, q9))).2) kd ln R) := by
  intro sz
  refine Met.ofW (cc := b_Mod_open) (maxL := 4) (ret := none) (by decide +kernel) rfl ?_
  intro p e s m args below meth c s₁ B hml hv
  obtain ⟨rfl, hsz, hSc, hE, hH⟩ := hv
  have hx := B.exec
  have hb := B.bytes
  have hr := B.returns
  have hts := atoms_spec (ws := w_Mod_open) B.pre
  have hw : ∀ {w : Cond}, w ∈ zw → w.before ([.ref X, .int (nI k)] : List Value).toArray s = true := fun h => hts _ (List.mem_cons_of_mem _ h)
  have hown : s.vm.findClass R_Mod = some m.cls := findClass_of_methodNamed B.named
  have hlocks := B.notSynchronized
  subst hsz
  have hK := hSc.1
  have hH : zh_H D cA (zc_A kd s.heap.size) kd ln I L R s.heap := hH.weaken (fun q h _ => Or.inl h)
  generalize hAe : zc_A kd s.heap.size = A at hH hE ⊢
  have hA : ∀ q : Nat, s.heap.size ≤ q → A q := fun q h => by rw [← hAe]; exact Or.inr h
  have hS : va_S A s.heap s.heap [] := va_S.rf
  have hl := lv_entry ([.ref X, .int (nI k)] : List Value) (n := 4) (Nat.le_of_ble_eq_true rfl)
  rw [lg_entry_eq]
  generalize (lg_sl ([.ref X, .int (nI k)] : List Value) ++ List.replicate (4 - (lg_sl ([.ref X, .int (nI k)] : List Value)).length) Slot.unset).toArray = ls at hl ⊢
  have hl : lv_has ls 4 [(0, .ref X), (1, .int (nI k))] := hl
  have k9 : kd (ad 9) = 100 := (hm.1.2.1 9 (by decide) (by decide)).2.1
  have n9 : ln (ad 9) = 4 := (hm.1.2.1 9 (by decide) (by decide)).2.2
  have r9 : R X 9 = some (ad 9) := (hm.1.2.1 9 (by decide) (by decide)).1
  have k12 : kd (ad 12) = 100 := (hm.1.2.1 12 (by decide) (by decide)).2.1
  have n12 : ln (ad 12) = 4 := (hm.1.2.1 12 (by decide) (by decide)).2.2
  have r12 : R X 12 = some (ad 12) := (hm.1.2.1 12 (by decide) (by decide)).1
  have k13 : kd (ad 13) = 100 := (hm.1.2.1 13 (by decide) (by decide)).2.1
  have n13 : ln (ad 13) = 4 := (hm.1.2.1 13 (by decide) (by decide)).2.2
  have r13 : R X 13 = some (ad 13) := (hm.1.2.1 13 (by decide) (by decide)).1
  have k14 : kd (ad 14) = 100 := (hm.1.2.1 14 (by decide) (by decide)).2.1
  have n14 : ln (ad 14) = 160 := (hm.1.2.1 14 (by decide) (by decide)).2.2
  have r14 : R X 14 = some (ad 14) := (hm.1.2.1 14 (by decide) (by decide)).1
  have k15 : kd (ad 15) = 103 := (hm.1.2.1 15 (by decide) (by decide)).2.1
  have n15 : ln (ad 15) = 40 := (hm.1.2.1 15 (by decide) (by decide)).2.2
  have r15 : R X 15 = some (ad 15) := (hm.1.2.1 15 (by decide) (by decide)).1
  have hle40 := hpg9.2.1
  refine lv_aload_n hx hb d_Mod_open_0 rfl (lv_at hl 0 rfl) ?_
  refine zr_getr (ci := 6) (C := R_Mod) (T := T_Mod) (N := 37) (ref := "ScrubbedRecorderModel") hx hb hts (fun w h => List.mem_cons_of_mem _ (zin_Mod w h)) hown hK hH hm.1.1 (by decide) rfl 12 (by decide) rfl (hw zw_611) (fun _ h9 => h9) d_Mod_open_1 (by rw [r12]) ?_
  refine lv_iload_n hx hb d_Mod_open_4 rfl (lv_at hl 1 rfl) ?_
  refine zr_aldi (j := k) hx hb hK hH k12 (by rw [n12]; exact zh_ix_n (by omega) (by omega)) d_Mod_open_5 ?_
  refine zt_i (y := nI c9) ((congrFun (hm.2.1 12 (by decide) (by decide) (by decide)) k).trans (by rw [hpg9.1])) ?_
  refine lv_aload_n hx hb d_Mod_open_6 rfl (lv_at hl 0 rfl) ?_
  refine zr_getr (ci := 6) (C := R_Mod) (T := T_Mod) (N := 37) (ref := "ScrubbedRecorderModel") hx hb hts (fun w h => List.mem_cons_of_mem _ (zin_Mod w h)) hown hK hH hm.1.1 (by decide) rfl 9 (by decide) rfl (hw zw_608) (fun _ h9 => h9) d_Mod_open_7 (by rw [r9]) ?_
  refine lv_iload_n hx hb d_Mod_open_10 rfl (lv_at hl 1 rfl) ?_
  refine zr_aldi (j := k) hx hb hK hH k9 (by rw [n9]; exact zh_ix_n (by omega) (by omega)) d_Mod_open_11 ?_
  refine zt_i (y := nI qu) ((congrFun (hm.2.1 9 (by decide) (by decide) (by decide)) k).trans (by rw [hqu])) ?_
  refine lv_icmp_ne (tgt := 20) hx hb d_Mod_open_12 (by decide) (fun hc1 => ?_) (fun hc1 => ?_)
  · skip
    have hc1 := zt_neT (a := c9) (b := qu) (by omega) (by omega) hc1
    exact absurd heq hc1
  · skip
    have hc1 := zt_neF (a := c9) (b := qu) (by omega) (by omega) hc1
    refine lv_aload_n hx hb d_Mod_open_15 rfl (lv_at hl 0 rfl) ?_
    refine lv_iload_n hx hb d_Mod_open_16 rfl (lv_at hl 1 rfl) ?_
    refine zr_V (As := ([.int (nI k)] : List Value)) (rest := []) (b := X) (ci := 6) (q := (R_Mod, T_Mod, 37)) ⟨hx, hb, hml, hown, hts⟩ (c_Mod_free hm hk4 hpg9.1 (by omega) hpg9.2.1 (zo_pgs_0 hpg9 (by omega)).1 (zo_pgs_0 hpg9 (by omega)).2) ⟨(callB_of 1 hts (zg_all zw_761) rfl rfl rfl (hw zw_3) (hw zw_758) k_Mod_free.2 ⟨Nat.le_of_ble_eq_true rfl, Nat.le_of_ble_eq_true rfl⟩), (hw zw_760), (hw zs_Mod_free)⟩ hSc hE hH hS hA rfl (by decide) hm.1.1 rfl hl.1 rfl (Nat.le_of_ble_eq_true rfl) d_Mod_open_17 ⟨Nat.le_of_ble_eq_true rfl, Nat.le_of_ble_eq_true rfl⟩ (fun v2 kd2 ln2 I2 L2 R2 H locs hp hH hS => ?_)
    obtain ⟨rfl, rfl, rfl, rfl, hm⟩ := hp
    refine W.eq (g2 := F0 m 20 ls []) rfl ?_
    refine W.widen (k := 0) (n := 0) (by omega) (by omega) ?_
    have hm : zoR X ad (zo_frI m9 k c9 (zo_pg m9 k)) (zb_wr 0 (zo_pg m9 k) 0 q9) kd ln I2 L2 R := hm
    have f12 : zo_frI m9 k c9 (zo_pg m9 k) 12 k = nI (c9 - 1) := zo_frI_12
    have f15 : zo_frI m9 k c9 (zo_pg m9 k) 15 (zo_pg m9 k) = nI 0 := zo_frI_15
    have hpz := (zo_pgs_0 hpg9 hcp).2
    have hzz : zo_fr k c9 (m9, q9) = (zo_frI m9 k c9 (zo_pg m9 k), zb_wr 0 (zo_pg m9 k) 0 q9) := rfl
    generalize zo_frI m9 k c9 (zo_pg m9 k) = M1 at hm f12 f15 hzz
    generalize zb_wr 0 (zo_pg m9 k) 0 q9 = Q1 at hm hzz
    obtain ⟨lv9, hlv, hlf⟩ : ∃ z, (∀ _ : Unit, zo_lf (M1 15) 40 = z) ∧ z < 40 := ⟨_, fun _ => rfl, zo_lf_lt hpz f15⟩
    clear hpz
    obtain ⟨c1, hc1e⟩ : ∃ z, z = c9 - 1 := ⟨_, rfl⟩
    rw [← hc1e] at f12
    refine lv_iconst (v := nI 0) hx hb d_Mod_open_20 (by decide) ?_
    refine lv_istore_n (lv' := [(2, .int (nI 0)), (0, .ref X), (1, .int (nI k))]) hx hb d_Mod_open_21 rfl hl (by decide) rfl (fun ls hl => ?_)
    have loop_22 : ∀ (z : Nat) (g9 : Nat) (I_22 : Nat → Nat → Int32) (L_22 : Nat → Nat → Int64) (H : Heap) (locs : List Loc) (ls : Array Slot), 40 - g9 < z → (g9 ≤ 40) → (zo_lf (M1 15) (40 - g9) = lv9) → (zoR X ad M1 Q1 kd ln I_22 L_22 R) → lv_has ls 4 [(0, .ref X), (1, .int (nI k)), (2, .int (nI g9))] → zh_H D cA A kd ln I_22 L_22 R H → va_S A s.heap H locs → W p l e (headSpec w_Mod_open { frames := 3, cells := 0, slots := 0, locals := 67 }).room s m ([.ref X, .int (nI k)] : List Value).toArray below meth c H locs 0 0 (MQ below (zc_Qc D cA A (zo_P none X ad ((zo_op k (c9 - 1) (zo_fr k c9 (m9, q9))).1) ((zo_op k (c9 - 1) (zo_fr k c9 (m9, q9))).2) kd ln R)) ([.ref X, .int (nI k)] : List Value).toArray s 0 0 A) (F0 m 22 ls []) := by
      intro z
      induction z with
      | zero => intro g9 I_22 L_22 H locs ls hz; exact absurd hz (Nat.not_lt_zero _)
      | succ z ih_22 =>
        intro g9 I_22 L_22 H locs ls hz_22 hg9 hg hm hl hH hS
        have hg40 : g9 < 40 := Nat.lt_of_not_le fun e => absurd hlf (by rw [← hg, show 40 - g9 = 0 by omega]; exact Nat.lt_irrefl 40)
        refine lv_aload_n hx hb d_Mod_open_22 rfl (lv_at hl 0 rfl) ?_
        refine zr_getr (ci := 6) (C := R_Mod) (T := T_Mod) (N := 37) (ref := "ScrubbedRecorderModel") hx hb hts (fun w h => List.mem_cons_of_mem _ (zin_Mod w h)) hown hK hH hm.1.1 (by decide) rfl 15 (by decide) rfl (hw zw_614) (fun _ h9 => h9) d_Mod_open_23 (by rw [r15]) ?_
        refine lv_iload_n hx hb d_Mod_open_26 rfl (lv_at hl 2 rfl) ?_
        refine zr_aldz (j := g9) hx hb hK hH k15 (by rw [n15]; exact zh_ix_n (by omega) (by omega)) d_Mod_open_27 ?_
        refine zt_i (y := M1 15 g9) (congrFun (hm.2.1 15 (by decide) (by decide) (by decide)) g9) ?_
        refine lv_if_eq (tgt := 37) hx hb d_Mod_open_28 (by decide) (fun hc3 => ?_) (fun hc3 => ?_)
        · skip
          have hc3 : (M1 15 g9) = (nI 0) := hc3
          refine lv_aload_n hx hb d_Mod_open_37 rfl (lv_at hl 0 rfl) ?_
          refine zr_getr (ci := 6) (C := R_Mod) (T := T_Mod) (N := 37) (ref := "ScrubbedRecorderModel") hx hb hts (fun w h => List.mem_cons_of_mem _ (zin_Mod w h)) hown hK hH hm.1.1 (by decide) rfl 15 (by decide) rfl (hw zw_614) (fun _ h9 => h9) d_Mod_open_38 (by rw [r15]) ?_
          refine lv_iload_n hx hb d_Mod_open_41 rfl (lv_at hl 2 rfl) ?_
          refine lv_iconst (v := nI 1) hx hb d_Mod_open_42 (by decide) ?_
          refine zr_astz (j := g9) (y := nI 1) hx hb hK hH hS k15 (by decide +kernel) (by rw [n15]; exact zh_ix_n (by omega) (by omega)) d_Mod_open_43 (fun H locs hH hS => ?_)
          have hm := zoR_I hm 15 (by decide) g9 (nI 1)
          generalize zu I_22 (ad 15) g9 (nI 1) = I4 at hm hH
          refine lv_aload_n hx hb d_Mod_open_44 rfl (lv_at hl 0 rfl) ?_
          refine zr_getr (ci := 6) (C := R_Mod) (T := T_Mod) (N := 37) (ref := "ScrubbedRecorderModel") hx hb hts (fun w h => List.mem_cons_of_mem _ (zin_Mod w h)) hown hK hH hm.1.1 (by decide) rfl 14 (by decide) rfl (hw zw_613) (fun _ h9 => h9) d_Mod_open_45 (by rw [r14]) ?_
          refine lv_bipush (v := nI 40) hx hb d_Mod_open_48 (by decide) ?_
          refine lv_iload_n hx hb d_Mod_open_50 rfl (lv_at hl 1 rfl) ?_
          refine lv_imul hx hb d_Mod_open_51 ?_
          refine zt_i (y := nI (40 * k)) (pk_mul 40 k) ?_
          refine lv_aload_n hx hb d_Mod_open_52 rfl (lv_at hl 0 rfl) ?_
          refine zr_getr (ci := 6) (C := R_Mod) (T := T_Mod) (N := 37) (ref := "ScrubbedRecorderModel") hx hb hts (fun w h => List.mem_cons_of_mem _ (zin_Mod w h)) hown hK hH hm.1.1 (by decide) rfl 12 (by decide) rfl (hw zw_611) (fun _ h9 => h9) d_Mod_open_53 (by rw [r12]) ?_
          refine lv_iload_n hx hb d_Mod_open_56 rfl (lv_at hl 1 rfl) ?_
          refine zr_aldi (j := k) hx hb hK hH k12 (by rw [n12]; exact zh_ix_n (by omega) (by omega)) d_Mod_open_57 ?_
          refine zt_i (y := nI c1) ((congrFun (hm.2.1 12 (by decide) (by decide) (by decide)) k).trans (by rw [zu_ne _ _ _ (show (12 : Nat) ≠ 15 by decide), f12])) ?_
          refine lv_iadd hx hb d_Mod_open_58 ?_
          refine zt_i (y := nI (40 * k + c1)) (nI_add (40 * k) c1) ?_
          refine lv_iload_n hx hb d_Mod_open_59 rfl (lv_at hl 2 rfl) ?_
          refine zr_asti (j := 40 * k + c1) (y := nI g9) hx hb hK hH hS k14 rfl (by rw [n14]; exact zh_ix_n (by omega) (by omega)) d_Mod_open_60 (fun H locs hH hS => ?_)
          have hm := zoR_I hm 14 (by decide) (40 * k + c1) (nI g9)
          generalize zu I4 (ad 14) (40 * k + c1) (nI g9) = I5 at hm hH
          refine lv_aload_n hx hb d_Mod_open_61 rfl (lv_at hl 0 rfl) ?_
          refine zr_getr (ci := 6) (C := R_Mod) (T := T_Mod) (N := 37) (ref := "ScrubbedRecorderModel") hx hb hts (fun w h => List.mem_cons_of_mem _ (zin_Mod w h)) hown hK hH hm.1.1 (by decide) rfl 12 (by decide) rfl (hw zw_611) (fun _ h9 => h9) d_Mod_open_62 (by rw [r12]) ?_
          refine lv_iload_n hx hb d_Mod_open_65 rfl (lv_at hl 1 rfl) ?_
          refine lv_dup2_11 hx hb d_Mod_open_66 rfl rfl ?_
          refine zr_aldi (j := k) hx hb hK hH k12 (by rw [n12]; exact zh_ix_n (by omega) (by omega)) d_Mod_open_67 ?_
          refine zt_i (y := nI c1) ((congrFun (hm.2.1 12 (by decide) (by decide) (by decide)) k).trans (by rw [zu_ne _ _ _ (show (12 : Nat) ≠ 14 by decide), zu_ne _ _ _ (show (12 : Nat) ≠ 15 by decide), f12])) ?_
          refine lv_iconst (v := nI 1) hx hb d_Mod_open_68 (by decide) ?_
          refine lv_iadd hx hb d_Mod_open_69 ?_
          refine zt_i (y := nI (c1 + 1)) (nI_add c1 1) ?_
          refine zr_asti (j := k) (y := nI (c1 + 1)) hx hb hK hH hS k12 rfl (by rw [n12]; exact zh_ix_n (by omega) (by omega)) d_Mod_open_70 (fun H locs hH hS => ?_)
          have hm := zoR_I hm 12 (by decide) k (nI (c1 + 1))
          generalize zu I5 (ad 12) k (nI (c1 + 1)) = I6 at hm hH
          refine lv_iconst (v := nI 0) hx hb d_Mod_open_71 (by decide) ?_
          refine lv_istore_n (lv' := [(3, .int (nI 0)), (0, .ref X), (1, .int (nI k)), (2, .int (nI g9))]) hx hb d_Mod_open_72 rfl hl (by decide) rfl (fun ls hl => ?_)
          have hpg : lv9 = g9 := by rw [← hg, zo_lf_s (g := g9) hg40, if_pos hc3]
          have loop_73 : ∀ (z : Nat) (v : Nat) (I_73 : Nat → Nat → Int32) (L_73 : Nat → Nat → Int64) (H : Heap) (locs : List Loc) (ls : Array Slot), 16 - v < z → (v ≤ 16) → (zoR X ad (zu (zu (zu M1 15 g9 (nI 1)) 14 (40 * k + c1) (nI g9)) 12 k (nI (c1 + 1))) (zb_wrs 0 g9 Q1 v) kd ln I_73 L_73 R) → lv_has ls 4 [(0, .ref X), (1, .int (nI k)), (2, .int (nI g9)), (3, .int (nI v))] → zh_H D cA A kd ln I_73 L_73 R H → va_S A s.heap H locs → W p l e (headSpec w_Mod_open { frames := 3, cells := 0, slots := 0, locals := 67 }).room s m ([.ref X, .int (nI k)] : List Value).toArray below meth c H locs 0 0 (MQ below (zc_Qc D cA A (zo_P none X ad ((zo_op k (c9 - 1) (zo_fr k c9 (m9, q9))).1) ((zo_op k (c9 - 1) (zo_fr k c9 (m9, q9))).2) kd ln R)) ([.ref X, .int (nI k)] : List Value).toArray s 0 0 A) (F0 m 73 ls []) := by
            intro z
            induction z with
            | zero => intro v I_73 L_73 H locs ls hz; exact absurd hz (Nat.not_lt_zero _)
            | succ z ih_73 =>
              intro v I_73 L_73 H locs ls hz_73 hv hm hl hH hS
              refine lv_iload_n hx hb d_Mod_open_73 rfl (lv_at hl 3 rfl) ?_
              refine lv_bipush (v := nI 16) hx hb d_Mod_open_74 (by decide) ?_
              refine lv_icmp_ge (tgt := 91) hx hb d_Mod_open_76 (by decide) (fun hc7 => ?_) (fun hc7 => ?_)
              · skip
                have hc7 := zt_geT (a := v) (b := 16) (by omega) (by omega) hc7
                refine lv_aload_n hx hb d_Mod_open_91 rfl (lv_at hl 0 rfl) ?_
                refine zr_getr (ci := 6) (C := R_Mod) (T := T_Mod) (N := 37) (ref := "ScrubbedRecorderModel") hx hb hts (fun w h => List.mem_cons_of_mem _ (zin_Mod w h)) hown hK hH hm.1.1 (by decide) rfl 13 (by decide) rfl (hw zw_612) (fun _ h9 => h9) d_Mod_open_92 (by rw [r13]) ?_
                refine lv_iload_n hx hb d_Mod_open_95 rfl (lv_at hl 1 rfl) ?_
                refine lv_iconst (v := nI 3) hx hb d_Mod_open_96 (by decide) ?_
                refine zr_asti (j := k) (y := nI 3) hx hb hK hH hS k13 rfl (by rw [n13]; exact zh_ix_n (by omega) (by omega)) d_Mod_open_97 (fun H locs hH hS => ?_)
                have hm := zoR_I hm 13 (by decide) k (nI 3)
                generalize zu I_73 (ad 13) k (nI 3) = I8 at hm hH
                refine W.widen (k := 0) (n := 0) (Nat.le_of_ble_eq_true rfl) (Nat.le_of_ble_eq_true rfl) ?_
                subst hAe
                exact W.vret hx hb hr (fun t ht hW => zc_end hS hH ht (⟨rfl, rfl, rfl, rfl, by rw [hzz, ← hc1e]; show zoR X ad (zo_opI M1 k c1 (zo_lf (M1 15) 40)) (zb_wrs 0 (zo_lf (M1 15) 40) Q1 16) kd ln _ _ R; rw [hlv (), hpg]; rw [show v = 16 by omega] at hm; exact hm⟩)) hS.2.2 d_Mod_open_98
              · skip
                have hc7 := zt_geF (a := v) (b := 16) (by omega) (by omega) hc7
                refine lv_aload_n hx hb d_Mod_open_79 rfl (lv_at hl 0 rfl) ?_
                refine lv_iload_n hx hb d_Mod_open_80 rfl (lv_at hl 2 rfl) ?_
                refine lv_iload_n hx hb d_Mod_open_81 rfl (lv_at hl 3 rfl) ?_
                refine zr_V (As := ([.int (nI g9), .int (nI v)] : List Value)) (rest := []) (b := X) (ci := 6) (q := (R_Mod, T_Mod, 37)) ⟨hx, hb, hml, hown, hts⟩ (c_Mod_write hm (by omega) (by omega)) ⟨(callB_of 2 hts (zg_all zw_765) rfl rfl rfl (hw zw_3) (hw zw_762) k_Mod_write.2 ⟨Nat.le_of_ble_eq_true rfl, Nat.le_of_ble_eq_true rfl⟩), (hw zw_764), (hw zs_Mod_write)⟩ hSc hE hH hS hA rfl (by decide) hm.1.1 rfl hl.1 rfl (Nat.le_of_ble_eq_true rfl) d_Mod_open_82 ⟨Nat.le_of_ble_eq_true rfl, Nat.le_of_ble_eq_true rfl⟩ (fun v9 kd9 ln9 I9 L9 R9 H locs hp hH hS => ?_)
                obtain ⟨rfl, rfl, rfl, rfl, hm⟩ := hp
                refine W.eq (g2 := F0 m 85 ls []) rfl ?_
                refine W.widen (k := 0) (n := 0) (by omega) (by omega) ?_
                refine lv_iinc (k := 3) (v := nI (v + 1)) (lv' := [(3, .int (nI (v + 1))), (0, .ref X), (1, .int (nI k)), (2, .int (nI g9))]) hx hb d_Mod_open_85 hl rfl (nI_add v 1) (by decide) rfl (fun ls hl => ?_)
                refine lv_goto (tgt := 73) hx hb d_Mod_open_88 (by decide) ?_
                exact ih_73 (v + 1) _ _ _ _ _ (by omega) (by omega) hm (lv_sub hl [1, 2, 3, 0] rfl) hH hS
          exact loop_73 _ 0 _ _ _ _ _ (Nat.lt_succ_self _) (by omega) hm (lv_sub hl [1, 2, 3, 0] rfl) hH hS
        · skip
          have hc3 : ¬ (M1 15 g9) = (nI 0) := hc3
          refine lv_iinc (k := 2) (v := nI (g9 + 1)) (lv' := [(2, .int (nI (g9 + 1))), (0, .ref X), (1, .int (nI k))]) hx hb d_Mod_open_31 hl rfl (nI_add g9 1) (by decide) rfl (fun ls hl => ?_)
          refine lv_goto (tgt := 22) hx hb d_Mod_open_34 (by decide) ?_
          exact ih_22 (g9 + 1) _ _ _ _ _ (by omega) (by omega) (by rw [← hg, zo_lf_s (g := g9) hg40, if_neg hc3]) hm (lv_sub hl [1, 2, 0] rfl) hH hS
    exact loop_22 _ 0 _ _ _ _ _ (Nat.lt_succ_self _) (by omega) (hlv ()) hm (lv_sub hl [1, 2, 0] rfl) hH hS
