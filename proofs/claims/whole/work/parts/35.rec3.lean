set_option maxHeartbeats 4000000 in
set_option maxRecDepth 100000 in
/-- frame -/
theorem c_Rec_frame_N {l : Launch} {D : va_G} {cA : Nat → ClassId} {te mi : Nat} {kd ln : Nat → Nat} {I : Nat → Nat → Int32} {L : Nat → Nat → Int64} {R : Nat → Nat → Option Nat} {X : Nat} {a9 e9 : Nat → Nat} {c9 : Nat → Nat → Int32} {d9 : Nat → Nat → Int64} {g9 : Nat → Nat → Nat} (hm : zkR X te a9 e9 c9 d9 g9 kd ln I L R) (hpl : zk_pl g9) (hfb : zk_fb c9 d9 g9 4 = none) : zc_M l y_Rec_frame w_Rec_frame { frames := 4, cells := 0, slots := 0, locals := 89 } 0 0 D cA te mi ([.ref X] : List Value) kd ln I L R (zk_P (some (.int (-1))) X te a9 e9 c9 d9 g9 kd ln) := by
  intro sz
  refine Met.ofW (cc := b_Rec_frame) (maxL := 6) (ret := (some (.int))) (by decide +kernel) rfl ?_
  intro p e s m args below meth c s₁ B hml hv
  obtain ⟨rfl, hsz, hSc, hE, hH⟩ := hv
  have hx := B.exec
  have hb := B.bytes
  have hr := B.returns
  have hts := atoms_spec (ws := w_Rec_frame) B.pre
  have hw : ∀ {w : Cond}, w ∈ zw → w.before ([.ref X] : List Value).toArray s = true := fun h => hts _ (List.mem_cons_of_mem _ h)
  have hown : s.vm.findClass R_Rec = some m.cls := findClass_of_methodNamed B.named
  have hlocks := B.notSynchronized
  subst hsz
  have hK := hSc.1
  have hH : zh_H D cA (zc_A kd s.heap.size) kd ln I L R s.heap := hH.weaken (fun q h _ => Or.inl h)
  generalize hAe : zc_A kd s.heap.size = A at hH hE ⊢
  have hA : ∀ q : Nat, s.heap.size ≤ q → A q := fun q h => by rw [← hAe]; exact Or.inr h
  have hS : va_S A s.heap s.heap [] := va_S.rf
  have hl := lv_entry ([.ref X] : List Value) (n := 6) (Nat.le_of_ble_eq_true rfl)
  rw [lg_entry_eq]
  generalize (lg_sl ([.ref X] : List Value) ++ List.replicate (6 - (lg_sl ([.ref X] : List Value)).length) Slot.unset).toArray = ls at hl ⊢
  have hl : lv_has ls 6 [(0, .ref X)] := hl
  refine lv_null hx hb d_Rec_frame_0 ?_
  refine lv_astore_nN (lv' := [(1, .null), (0, .ref X)]) hx hb d_Rec_frame_1 rfl hl (by decide) rfl (fun ls hl => ?_)
  refine lv_null hx hb d_Rec_frame_2 ?_
  refine lv_astore_nN (lv' := [(2, .null), (1, .null), (0, .ref X)]) hx hb d_Rec_frame_3 rfl hl (by decide) rfl (fun ls hl => ?_)
  refine lv_iconst (v := nI 0) hx hb d_Rec_frame_4 (by decide) ?_
  refine lv_istore_n (lv' := [(3, .int (nI 0)), (2, .null), (1, .null), (0, .ref X)]) hx hb d_Rec_frame_5 rfl hl (by decide) rfl (fun ls hl => ?_)
  have loop_6 : ∀ (z : Nat) (i : Nat) (I_6 : Nat → Nat → Int32) (L_6 : Nat → Nat → Int64) (R_6 : Nat → Nat → Option Nat) (H : Heap) (locs : List Loc) (ls : Array Slot), 4 - i < z → (i ≤ 4) → (zkR X te a9 e9 c9 d9 g9 kd ln I_6 L_6 R_6) → lv_has ls 6 [(0, .ref X), (1, va_rf ((zk_fb c9 d9 g9 i).map (fun z => a9 (30 + z.1)))), (2, va_rf ((zk_fb c9 d9 g9 i).map (fun z => a9 (zk_p (g9 3 z.1 - 1) z.2)))), (3, .int (nI i))] → zh_H D cA A kd ln I_6 L_6 R_6 H → va_S A s.heap H locs → W p l e (headSpec w_Rec_frame { frames := 4, cells := 0, slots := 0, locals := 89 }).room s m ([.ref X] : List Value).toArray below meth c H locs 0 0 (MQ below (zc_Qc D cA A (zk_P (some (.int (-1))) X te a9 e9 c9 d9 g9 kd ln)) ([.ref X] : List Value).toArray s 0 0 A) (F0 m 6 ls []) := by
    intro z
    induction z with
    | zero => intro i I_6 L_6 R_6 H locs ls hz; exact absurd hz (Nat.not_lt_zero _)
    | succ z ih_6 =>
      intro i I_6 L_6 R_6 H locs ls hz_6 hi hm hl hH hS
      refine lv_iload_n hx hb d_Rec_frame_6 rfl (lv_at hl 3 rfl) ?_
      refine lv_iconst (v := nI 4) hx hb d_Rec_frame_7 (by decide) ?_
      refine lv_icmp_ge (tgt := 64) hx hb d_Rec_frame_8 (by decide) (fun hc1 => ?_) (fun hc1 => ?_)
      · skip
        have hc1 := zt_geT (a := i) (b := 4) (by omega) (by omega) hc1
        have hi2 : i = 4 := by omega
        rw [hi2, hfb] at hl
        have hl : lv_has ls 6 [(0, .ref X), (1, .null), (2, .null), (3, .int (nI 4))] := hl
        refine lv_aload_nN hx hb d_Rec_frame_64 rfl (lv_at hl 1 rfl) ?_
        refine lv_ifnullN (tgt := 72) hx hb d_Rec_frame_65 (by decide) ?_
        refine lv_iconst (v := (-1)) hx hb d_Rec_frame_72 (by decide) ?_
        refine W.widen (k := 0) (n := 0) (Nat.le_of_ble_eq_true rfl) (Nat.le_of_ble_eq_true rfl) ?_
        subst hAe
        exact W.iret (v := (-1)) hx hb hr (fun t ht hW => zc_end hS hH ht (⟨rfl, rfl, rfl, hm⟩)) hS.2.2 d_Rec_frame_73
      · skip
        have hc1 := zt_geF (a := i) (b := 4) (by omega) (by omega) hc1
        rcases hq0 : zk_fb c9 d9 g9 i with _ | ⟨s1, y1⟩
        · skip
          have hl : lv_has ls 6 [(0, .ref X), (1, .null), (2, .null), (3, .int (nI i))] := by rw [hq0] at hl; exact hl
          refine lv_aload_n hx hb d_Rec_frame_11 rfl (lv_at hl 0 rfl) ?_
          refine zr_getr (ci := 0) (C := R_Rec) (T := T_Rec) (N := 6) (ref := "ScrubbedRecorder") hx hb hts (fun w h => List.mem_cons_of_mem _ (zin_Rec w h)) hown hK hH hm.2.2.1.1 (by decide) rfl 2 (by decide) rfl (hw zw_66) (fun _ h9 => h9) d_Rec_frame_12 hm.2.2.1.2.2.2.1 ?_
          refine lv_iload_n hx hb d_Rec_frame_15 rfl (lv_at hl 3 rfl) ?_
          rcases Decidable.em (g9 3 i = 0) with hg2 | hg2
          · skip
            refine zr_ald0 (b := 0) (t := 6) (j := i) hx hb (by decide) (by decide) rfl hK hH (show kd (a9 5) = 106 from zkR_k hm (zk_lv0 (by decide))) (by rw [show ln (a9 5) = 4 from zkR_n hm (zk_lv0 (by decide)) (by decide)]; exact zh_ix_n (by omega) (by omega)) d_Rec_frame_16 (zkR_pn hm (by omega) hg2) ?_
            refine lv_astoreN (lv' := [(4, .null), (0, .ref X), (1, .null), (2, .null), (3, .int (nI i))]) hx hb d_Rec_frame_17 hl (by decide) rfl (fun ls hl => ?_)
            have hnf : zk_fb c9 d9 g9 (i + 1) = none := by rw [zk_fb, if_pos hg2]; exact hq0
            refine lv_aloadN hx hb d_Rec_frame_19 (lv_at hl 0 rfl) ?_
            refine lv_ifnullN (tgt := 58) hx hb d_Rec_frame_21 (by decide) ?_
            refine lv_iinc (k := 4) (v := nI (i + 1)) (lv' := [(3, .int (nI (i + 1))), (4, .null), (0, .ref X), (1, .null), (2, .null)]) hx hb d_Rec_frame_58 hl rfl (nI_add i 1) (by decide) rfl (fun ls hl => ?_)
            refine lv_goto (tgt := 6) hx hb d_Rec_frame_61 (by decide) ?_
            have ez3 : ((zk_fb c9 d9 g9 (i + 1)).map (fun z => a9 (30 + z.1))) = none := by rw [hnf]; rfl
            have hl : lv_has ls 6 [(3, .int (nI (i + 1))), (4, .null), (0, .ref X), (1, va_rf ((zk_fb c9 d9 g9 (i + 1)).map (fun z => a9 (30 + z.1)))), (2, .null)] := by rw [ez3]; exact hl
            have ez4 : ((zk_fb c9 d9 g9 (i + 1)).map (fun z => a9 (zk_p (g9 3 z.1 - 1) z.2))) = none := by rw [hnf]; rfl
            have hl : lv_has ls 6 [(3, .int (nI (i + 1))), (4, .null), (0, .ref X), (1, va_rf ((zk_fb c9 d9 g9 (i + 1)).map (fun z => a9 (30 + z.1)))), (2, va_rf ((zk_fb c9 d9 g9 (i + 1)).map (fun z => a9 (zk_p (g9 3 z.1 - 1) z.2))))] := by rw [ez4]; exact hl
            exact ih_6 (i + 1) _ _ _ _ _ _ (by omega) (by omega) hm (lv_sub hl [2, 3, 4, 0] rfl) hH hS
          · skip
            refine zr_aldr (t := 6) (j := i) hx hb (by decide) (by decide) rfl hK hH (show kd (a9 5) = 106 from zkR_k hm (zk_lv0 (by decide))) (by rw [show ln (a9 5) = 4 from zkR_n hm (zk_lv0 (by decide)) (by decide)]; exact zh_ix_n (by omega) (by omega)) d_Rec_frame_16 (zkR_pb hm (by omega) hg2).1 ?_
            refine lv_astore (lv' := [(4, .ref (a9 (30 + i))), (0, .ref X), (1, .null), (2, .null), (3, .int (nI i))]) hx hb d_Rec_frame_17 hl (by decide) rfl (fun ls hl => ?_)
            obtain ⟨j, hj1⟩ : ∃ j, g9 3 i = j + 1 := ⟨g9 3 i - 1, by have := hg2; omega⟩
            obtain ⟨hj4, hjg⟩ := hpl i (by omega) hg2
            have hjg : g9 0 j ≠ 0 := by rw [hj1, Nat.add_sub_cancel] at hjg; exact hjg
            refine lv_aload hx hb d_Rec_frame_19 (lv_at hl 0 rfl) ?_
            refine lv_ifnull hx hb d_Rec_frame_21 ?_
            refine lv_aload_nN hx hb d_Rec_frame_24 rfl (lv_at hl 2 rfl) ?_
            refine lv_ifnullN (tgt := 40) hx hb d_Rec_frame_25 (by decide) ?_
            refine lv_aload hx hb d_Rec_frame_40 (lv_at hl 0 rfl) ?_
            refine zr_V (As := ([] : List Value)) (rest := []) (b := a9 (30 + i)) (ci := 4) (q := (R_Pb, T_Pb, 6)) ⟨hx, hb, hml, hown, hts⟩ (c_Pb_nextPacket hm (by omega) (by omega) hj1 hjg) ⟨(callB_of 0 hts (zg_all zw_412) rfl rfl rfl (hw zw_15) (hw zw_409) k_Pb_nextPacket.2 ⟨Nat.le_of_ble_eq_true rfl, Nat.le_of_ble_eq_true rfl⟩), (hw zw_410), (hw zw_411)⟩ hSc hE hH hS hA rfl (by decide) ((zkR_k hm (zk_lv3 (by omega) hg2)).trans (zk_k3 (by omega))) rfl hl.1 rfl (Nat.le_of_ble_eq_true rfl) d_Rec_frame_42 ⟨Nat.le_of_ble_eq_true rfl, Nat.le_of_ble_eq_true rfl⟩ (fun v5 kd5 ln5 I5 L5 R5 H locs hp hH hS => ?_)
            obtain ⟨rfl, rfl, rfl, rfl, rfl, rfl⟩ := hp
            have ej : g9 3 i - 1 = j := by omega
            rcases hx9 : zk_nx c9 d9 i j (g9 1 j) (g9 2 j - g9 1 j) with _ | x9
            · skip
              have hnf : zk_fb c9 d9 g9 (i + 1) = none := by rw [zk_fb, if_neg hg2, hq0]; show Option.map _ (zk_nx c9 d9 i (g9 3 i - 1) (g9 1 (g9 3 i - 1)) (g9 2 (g9 3 i - 1) - g9 1 (g9 3 i - 1))) = _; rw [ej, hx9]; rfl
              refine W.eq (g2 := F0 m 45 ls [.null]) rfl ?_
              refine W.widen (k := 0) (n := 0) (by omega) (by omega) ?_
              refine lv_astoreN (lv' := [(5, .null), (4, .ref (a9 (30 + i))), (0, .ref X), (1, .null), (2, .null), (3, .int (nI i))]) hx hb d_Rec_frame_45 hl (by decide) rfl (fun ls hl => ?_)
              refine lv_aloadN hx hb d_Rec_frame_47 (lv_at hl 0 rfl) ?_
              refine lv_ifnullN (tgt := 58) hx hb d_Rec_frame_49 (by decide) ?_
              refine lv_iinc (k := 5) (v := nI (i + 1)) (lv' := [(3, .int (nI (i + 1))), (5, .null), (4, .ref (a9 (30 + i))), (0, .ref X), (1, .null), (2, .null)]) hx hb d_Rec_frame_58 hl rfl (nI_add i 1) (by decide) rfl (fun ls hl => ?_)
              refine lv_goto (tgt := 6) hx hb d_Rec_frame_61 (by decide) ?_
              have ez6 : ((zk_fb c9 d9 g9 (i + 1)).map (fun z => a9 (30 + z.1))) = none := by rw [hnf]; rfl
              have hl : lv_has ls 6 [(3, .int (nI (i + 1))), (5, .null), (4, .ref (a9 (30 + i))), (0, .ref X), (1, va_rf ((zk_fb c9 d9 g9 (i + 1)).map (fun z => a9 (30 + z.1)))), (2, .null)] := by rw [ez6]; exact hl
              have ez7 : ((zk_fb c9 d9 g9 (i + 1)).map (fun z => a9 (zk_p (g9 3 z.1 - 1) z.2))) = none := by rw [hnf]; rfl
              have hl : lv_has ls 6 [(3, .int (nI (i + 1))), (5, .null), (4, .ref (a9 (30 + i))), (0, .ref X), (1, va_rf ((zk_fb c9 d9 g9 (i + 1)).map (fun z => a9 (30 + z.1)))), (2, va_rf ((zk_fb c9 d9 g9 (i + 1)).map (fun z => a9 (zk_p (g9 3 z.1 - 1) z.2))))] := by rw [ez7]; exact hl
              exact ih_6 (i + 1) _ _ _ _ _ _ (by omega) (by omega) hm (lv_sub hl [3, 4, 5, 0] rfl) hH hS
            · skip
              have hnf : zk_fb c9 d9 g9 (i + 1) = some (i, x9) := by rw [zk_fb, if_neg hg2, hq0]; show Option.map _ (zk_nx c9 d9 i (g9 3 i - 1) (g9 1 (g9 3 i - 1)) (g9 2 (g9 3 i - 1) - g9 1 (g9 3 i - 1))) = _; rw [ej, hx9]; rfl
              obtain ⟨lx9, ux9⟩ := zk_nx_of hx9
              refine W.eq (g2 := F0 m 45 ls [.ref (a9 (zk_p j x9))]) rfl ?_
              refine W.widen (k := 0) (n := 0) (by omega) (by omega) ?_
              refine lv_astore (lv' := [(5, .ref (a9 (zk_p j x9))), (4, .ref (a9 (30 + i))), (0, .ref X), (1, .null), (2, .null), (3, .int (nI i))]) hx hb d_Rec_frame_45 hl (by decide) rfl (fun ls hl => ?_)
              refine lv_aload hx hb d_Rec_frame_47 (lv_at hl 0 rfl) ?_
              refine lv_ifnull hx hb d_Rec_frame_49 ?_
              refine lv_aload hx hb d_Rec_frame_52 (lv_at hl 1 rfl) ?_
              refine lv_astore_n (lv' := [(1, .ref (a9 (30 + i))), (5, .ref (a9 (zk_p j x9))), (4, .ref (a9 (30 + i))), (0, .ref X), (2, .null), (3, .int (nI i))]) hx hb d_Rec_frame_54 rfl hl (by decide) rfl (fun ls hl => ?_)
              refine lv_aload hx hb d_Rec_frame_55 (lv_at hl 1 rfl) ?_
              refine lv_astore_n (lv' := [(2, .ref (a9 (zk_p j x9))), (1, .ref (a9 (30 + i))), (5, .ref (a9 (zk_p j x9))), (4, .ref (a9 (30 + i))), (0, .ref X), (3, .int (nI i))]) hx hb d_Rec_frame_57 rfl hl (by decide) rfl (fun ls hl => ?_)
              refine lv_iinc (k := 5) (v := nI (i + 1)) (lv' := [(3, .int (nI (i + 1))), (2, .ref (a9 (zk_p j x9))), (1, .ref (a9 (30 + i))), (5, .ref (a9 (zk_p j x9))), (4, .ref (a9 (30 + i))), (0, .ref X)]) hx hb d_Rec_frame_58 hl rfl (nI_add i 1) (by decide) rfl (fun ls hl => ?_)
              refine lv_goto (tgt := 6) hx hb d_Rec_frame_61 (by decide) ?_
              have ez8 : ((zk_fb c9 d9 g9 (i + 1)).map (fun z => a9 (30 + z.1))) = some (a9 (30 + i)) := by rw [hnf]; rfl
              have hl : lv_has ls 6 [(3, .int (nI (i + 1))), (2, .ref (a9 (zk_p j x9))), (1, va_rf ((zk_fb c9 d9 g9 (i + 1)).map (fun z => a9 (30 + z.1)))), (5, .ref (a9 (zk_p j x9))), (4, .ref (a9 (30 + i))), (0, .ref X)] := by rw [ez8]; exact hl
              have ez9 : ((zk_fb c9 d9 g9 (i + 1)).map (fun z => a9 (zk_p (g9 3 z.1 - 1) z.2))) = some (a9 (zk_p j x9)) := by rw [hnf]; show some (a9 (zk_p (g9 3 i - 1) x9)) = _; rw [ej]
              have hl : lv_has ls 6 [(3, .int (nI (i + 1))), (2, va_rf ((zk_fb c9 d9 g9 (i + 1)).map (fun z => a9 (zk_p (g9 3 z.1 - 1) z.2)))), (1, va_rf ((zk_fb c9 d9 g9 (i + 1)).map (fun z => a9 (30 + z.1)))), (5, .ref (a9 (zk_p j x9))), (4, .ref (a9 (30 + i))), (0, .ref X)] := by rw [ez9]; exact hl
              exact ih_6 (i + 1) _ _ _ _ _ _ (by omega) (by omega) hm (lv_sub hl [5, 2, 1, 0] rfl) hH hS
        · skip
          have hl : lv_has ls 6 [(0, .ref X), (1, .ref (a9 (30 + s1))), (2, .ref (a9 (zk_p (g9 3 s1 - 1) y1))), (3, .int (nI i))] := by rw [hq0] at hl; exact hl
          obtain ⟨h1s, h2s, -⟩ := zk_fb_of hq0
          refine lv_aload_n hx hb d_Rec_frame_11 rfl (lv_at hl 0 rfl) ?_
          refine zr_getr (ci := 0) (C := R_Rec) (T := T_Rec) (N := 6) (ref := "ScrubbedRecorder") hx hb hts (fun w h => List.mem_cons_of_mem _ (zin_Rec w h)) hown hK hH hm.2.2.1.1 (by decide) rfl 2 (by decide) rfl (hw zw_66) (fun _ h9 => h9) d_Rec_frame_12 hm.2.2.1.2.2.2.1 ?_
          refine lv_iload_n hx hb d_Rec_frame_15 rfl (lv_at hl 3 rfl) ?_
          rcases Decidable.em (g9 3 i = 0) with hg10 | hg10
          · skip
            refine zr_ald0 (b := 0) (t := 6) (j := i) hx hb (by decide) (by decide) rfl hK hH (show kd (a9 5) = 106 from zkR_k hm (zk_lv0 (by decide))) (by rw [show ln (a9 5) = 4 from zkR_n hm (zk_lv0 (by decide)) (by decide)]; exact zh_ix_n (by omega) (by omega)) d_Rec_frame_16 (zkR_pn hm (by omega) hg10) ?_
            refine lv_astoreN (lv' := [(4, .null), (0, .ref X), (1, .ref (a9 (30 + s1))), (2, .ref (a9 (zk_p (g9 3 s1 - 1) y1))), (3, .int (nI i))]) hx hb d_Rec_frame_17 hl (by decide) rfl (fun ls hl => ?_)
            have hnf : zk_fb c9 d9 g9 (i + 1) = some (s1, y1) := by rw [zk_fb, if_pos hg10]; exact hq0
            refine lv_aloadN hx hb d_Rec_frame_19 (lv_at hl 0 rfl) ?_
            refine lv_ifnullN (tgt := 58) hx hb d_Rec_frame_21 (by decide) ?_
            refine lv_iinc (k := 4) (v := nI (i + 1)) (lv' := [(3, .int (nI (i + 1))), (4, .null), (0, .ref X), (1, .ref (a9 (30 + s1))), (2, .ref (a9 (zk_p (g9 3 s1 - 1) y1)))]) hx hb d_Rec_frame_58 hl rfl (nI_add i 1) (by decide) rfl (fun ls hl => ?_)
            refine lv_goto (tgt := 6) hx hb d_Rec_frame_61 (by decide) ?_
            have ez11 : ((zk_fb c9 d9 g9 (i + 1)).map (fun z => a9 (30 + z.1))) = some (a9 (30 + s1)) := by rw [hnf]; rfl
            have hl : lv_has ls 6 [(3, .int (nI (i + 1))), (4, .null), (0, .ref X), (1, va_rf ((zk_fb c9 d9 g9 (i + 1)).map (fun z => a9 (30 + z.1)))), (2, .ref (a9 (zk_p (g9 3 s1 - 1) y1)))] := by rw [ez11]; exact hl
            have ez12 : ((zk_fb c9 d9 g9 (i + 1)).map (fun z => a9 (zk_p (g9 3 z.1 - 1) z.2))) = some (a9 (zk_p (g9 3 s1 - 1) y1)) := by rw [hnf]; rfl
            have hl : lv_has ls 6 [(3, .int (nI (i + 1))), (4, .null), (0, .ref X), (1, va_rf ((zk_fb c9 d9 g9 (i + 1)).map (fun z => a9 (30 + z.1)))), (2, va_rf ((zk_fb c9 d9 g9 (i + 1)).map (fun z => a9 (zk_p (g9 3 z.1 - 1) z.2))))] := by rw [ez12]; exact hl
            exact ih_6 (i + 1) _ _ _ _ _ _ (by omega) (by omega) hm (lv_sub hl [2, 3, 4, 0] rfl) hH hS
          · skip
            refine zr_aldr (t := 6) (j := i) hx hb (by decide) (by decide) rfl hK hH (show kd (a9 5) = 106 from zkR_k hm (zk_lv0 (by decide))) (by rw [show ln (a9 5) = 4 from zkR_n hm (zk_lv0 (by decide)) (by decide)]; exact zh_ix_n (by omega) (by omega)) d_Rec_frame_16 (zkR_pb hm (by omega) hg10).1 ?_
            refine lv_astore (lv' := [(4, .ref (a9 (30 + i))), (0, .ref X), (1, .ref (a9 (30 + s1))), (2, .ref (a9 (zk_p (g9 3 s1 - 1) y1))), (3, .int (nI i))]) hx hb d_Rec_frame_17 hl (by decide) rfl (fun ls hl => ?_)
            obtain ⟨j, hj1⟩ : ∃ j, g9 3 i = j + 1 := ⟨g9 3 i - 1, by have := hg10; omega⟩
            obtain ⟨hj4, hjg⟩ := hpl i (by omega) hg10
            have hjg : g9 0 j ≠ 0 := by rw [hj1, Nat.add_sub_cancel] at hjg; exact hjg
            refine lv_aload hx hb d_Rec_frame_19 (lv_at hl 0 rfl) ?_
            refine lv_ifnull hx hb d_Rec_frame_21 ?_
            refine lv_aload_n hx hb d_Rec_frame_24 rfl (lv_at hl 2 rfl) ?_
            refine lv_ifnull hx hb d_Rec_frame_25 ?_
            refine lv_aload hx hb d_Rec_frame_28 (lv_at hl 0 rfl) ?_
            refine lv_aload_n hx hb d_Rec_frame_30 rfl (lv_at hl 2 rfl) ?_
            refine zr_V (As := ([.ref (a9 (30 + s1))] : List Value)) (rest := []) (b := a9 (30 + i)) (ci := 4) (q := (R_Pb, T_Pb, 6)) ⟨hx, hb, hml, hown, hts⟩ (c_Pb_goesBefore ((zkR_k hm (zk_lv3 (by omega) hg10)).trans (zk_k3 (by omega))) ((zkR_k hm (zk_lv3 (by omega) h2s)).trans (zk_k3 (by omega)))) ⟨(callB_of 1 hts (zg_all zw_408) rfl rfl rfl (hw zw_15) (hw zw_405) k_Pb_goesBefore.2 ⟨Nat.le_of_ble_eq_true rfl, Nat.le_of_ble_eq_true rfl⟩), (hw zw_406), (hw zw_407)⟩ hSc hE hH hS hA rfl (by decide) ((zkR_k hm (zk_lv3 (by omega) hg10)).trans (zk_k3 (by omega))) rfl hl.1 rfl (Nat.le_of_ble_eq_true rfl) d_Rec_frame_31 ⟨Nat.le_of_ble_eq_true rfl, Nat.le_of_ble_eq_true rfl⟩ (fun v13 kd13 ln13 I13 L13 R13 H locs hp hH hS => ?_)
            obtain ⟨rfl, rfl, rfl, rfl, rfl, rfl⟩ := hp
            rw [show I_6 (a9 (30 + i)) = c9 (30 + i) from zkR_i hm (zk_lv3 (by omega) hg10)]
            rw [show I_6 (a9 (30 + s1)) = c9 (30 + s1) from zkR_i hm (zk_lv3 (by omega) h2s)]
            rw [show L_6 (a9 (30 + i)) = d9 (30 + i) from zkR_l hm (zk_lv3 (by omega) hg10)]
            rw [show L_6 (a9 (30 + s1)) = d9 (30 + s1) from zkR_l hm (zk_lv3 (by omega) h2s)]
            refine W.eq (g2 := F0 m 34 ls [.int (zk_gb (c9 (30 + i)) (c9 (30 + s1)) (d9 (30 + i) 3) (d9 (30 + s1) 3))]) rfl ?_
            refine W.widen (k := 0) (n := 0) (by omega) (by omega) ?_
            refine lv_if_ne (tgt := 40) hx hb d_Rec_frame_34 (by decide) (fun hc14 => ?_) (fun hc14 => ?_)
            · skip
              have hc14 : ¬ (zk_gb (c9 (30 + i)) (c9 (30 + s1)) (d9 (30 + i) 3) (d9 (30 + s1) 3)) = (nI 0) := hc14
              refine lv_aload hx hb d_Rec_frame_40 (lv_at hl 0 rfl) ?_
              refine zr_V (As := ([] : List Value)) (rest := []) (b := a9 (30 + i)) (ci := 4) (q := (R_Pb, T_Pb, 6)) ⟨hx, hb, hml, hown, hts⟩ (c_Pb_nextPacket hm (by omega) (by omega) hj1 hjg) ⟨(callB_of 0 hts (zg_all zw_412) rfl rfl rfl (hw zw_15) (hw zw_409) k_Pb_nextPacket.2 ⟨Nat.le_of_ble_eq_true rfl, Nat.le_of_ble_eq_true rfl⟩), (hw zw_410), (hw zw_411)⟩ hSc hE hH hS hA rfl (by decide) ((zkR_k hm (zk_lv3 (by omega) hg10)).trans (zk_k3 (by omega))) rfl hl.1 rfl (Nat.le_of_ble_eq_true rfl) d_Rec_frame_42 ⟨Nat.le_of_ble_eq_true rfl, Nat.le_of_ble_eq_true rfl⟩ (fun v15 kd15 ln15 I15 L15 R15 H locs hp hH hS => ?_)
              obtain ⟨rfl, rfl, rfl, rfl, rfl, rfl⟩ := hp
              have ej : g9 3 i - 1 = j := by omega
              rcases hx9 : zk_nx c9 d9 i j (g9 1 j) (g9 2 j - g9 1 j) with _ | x9
              · skip
                have hnf : zk_fb c9 d9 g9 (i + 1) = some (s1, y1) := by rw [zk_fb, if_neg hg10, hq0]; show (if _ then _ else (match zk_nx c9 d9 i (g9 3 i - 1) (g9 1 (g9 3 i - 1)) (g9 2 (g9 3 i - 1) - g9 1 (g9 3 i - 1)) with | none => some (s1, y1) | some x => some (i, x))) = _; rw [if_neg hc14, ej, hx9]
                refine W.eq (g2 := F0 m 45 ls [.null]) rfl ?_
                refine W.widen (k := 0) (n := 0) (by omega) (by omega) ?_
                refine lv_astoreN (lv' := [(5, .null), (4, .ref (a9 (30 + i))), (0, .ref X), (1, .ref (a9 (30 + s1))), (2, .ref (a9 (zk_p (g9 3 s1 - 1) y1))), (3, .int (nI i))]) hx hb d_Rec_frame_45 hl (by decide) rfl (fun ls hl => ?_)
                refine lv_aloadN hx hb d_Rec_frame_47 (lv_at hl 0 rfl) ?_
                refine lv_ifnullN (tgt := 58) hx hb d_Rec_frame_49 (by decide) ?_
                refine lv_iinc (k := 5) (v := nI (i + 1)) (lv' := [(3, .int (nI (i + 1))), (5, .null), (4, .ref (a9 (30 + i))), (0, .ref X), (1, .ref (a9 (30 + s1))), (2, .ref (a9 (zk_p (g9 3 s1 - 1) y1)))]) hx hb d_Rec_frame_58 hl rfl (nI_add i 1) (by decide) rfl (fun ls hl => ?_)
                refine lv_goto (tgt := 6) hx hb d_Rec_frame_61 (by decide) ?_
                have ez16 : ((zk_fb c9 d9 g9 (i + 1)).map (fun z => a9 (30 + z.1))) = some (a9 (30 + s1)) := by rw [hnf]; rfl
                have hl : lv_has ls 6 [(3, .int (nI (i + 1))), (5, .null), (4, .ref (a9 (30 + i))), (0, .ref X), (1, va_rf ((zk_fb c9 d9 g9 (i + 1)).map (fun z => a9 (30 + z.1)))), (2, .ref (a9 (zk_p (g9 3 s1 - 1) y1)))] := by rw [ez16]; exact hl
                have ez17 : ((zk_fb c9 d9 g9 (i + 1)).map (fun z => a9 (zk_p (g9 3 z.1 - 1) z.2))) = some (a9 (zk_p (g9 3 s1 - 1) y1)) := by rw [hnf]; rfl
                have hl : lv_has ls 6 [(3, .int (nI (i + 1))), (5, .null), (4, .ref (a9 (30 + i))), (0, .ref X), (1, va_rf ((zk_fb c9 d9 g9 (i + 1)).map (fun z => a9 (30 + z.1)))), (2, va_rf ((zk_fb c9 d9 g9 (i + 1)).map (fun z => a9 (zk_p (g9 3 z.1 - 1) z.2))))] := by rw [ez17]; exact hl
                exact ih_6 (i + 1) _ _ _ _ _ _ (by omega) (by omega) hm (lv_sub hl [3, 4, 5, 0] rfl) hH hS
              · skip
                have hnf : zk_fb c9 d9 g9 (i + 1) = some (i, x9) := by rw [zk_fb, if_neg hg10, hq0]; show (if _ then _ else (match zk_nx c9 d9 i (g9 3 i - 1) (g9 1 (g9 3 i - 1)) (g9 2 (g9 3 i - 1) - g9 1 (g9 3 i - 1)) with | none => some (s1, y1) | some x => some (i, x))) = _; rw [if_neg hc14, ej, hx9]
                obtain ⟨lx9, ux9⟩ := zk_nx_of hx9
                refine W.eq (g2 := F0 m 45 ls [.ref (a9 (zk_p j x9))]) rfl ?_
                refine W.widen (k := 0) (n := 0) (by omega) (by omega) ?_
                refine lv_astore (lv' := [(5, .ref (a9 (zk_p j x9))), (4, .ref (a9 (30 + i))), (0, .ref X), (1, .ref (a9 (30 + s1))), (2, .ref (a9 (zk_p (g9 3 s1 - 1) y1))), (3, .int (nI i))]) hx hb d_Rec_frame_45 hl (by decide) rfl (fun ls hl => ?_)
                refine lv_aload hx hb d_Rec_frame_47 (lv_at hl 0 rfl) ?_
                refine lv_ifnull hx hb d_Rec_frame_49 ?_
                refine lv_aload hx hb d_Rec_frame_52 (lv_at hl 1 rfl) ?_
                refine lv_astore_n (lv' := [(1, .ref (a9 (30 + i))), (5, .ref (a9 (zk_p j x9))), (4, .ref (a9 (30 + i))), (0, .ref X), (2, .ref (a9 (zk_p (g9 3 s1 - 1) y1))), (3, .int (nI i))]) hx hb d_Rec_frame_54 rfl hl (by decide) rfl (fun ls hl => ?_)
                refine lv_aload hx hb d_Rec_frame_55 (lv_at hl 1 rfl) ?_
                refine lv_astore_n (lv' := [(2, .ref (a9 (zk_p j x9))), (1, .ref (a9 (30 + i))), (5, .ref (a9 (zk_p j x9))), (4, .ref (a9 (30 + i))), (0, .ref X), (3, .int (nI i))]) hx hb d_Rec_frame_57 rfl hl (by decide) rfl (fun ls hl => ?_)
                refine lv_iinc (k := 5) (v := nI (i + 1)) (lv' := [(3, .int (nI (i + 1))), (2, .ref (a9 (zk_p j x9))), (1, .ref (a9 (30 + i))), (5, .ref (a9 (zk_p j x9))), (4, .ref (a9 (30 + i))), (0, .ref X)]) hx hb d_Rec_frame_58 hl rfl (nI_add i 1) (by decide) rfl (fun ls hl => ?_)
                refine lv_goto (tgt := 6) hx hb d_Rec_frame_61 (by decide) ?_
                have ez18 : ((zk_fb c9 d9 g9 (i + 1)).map (fun z => a9 (30 + z.1))) = some (a9 (30 + i)) := by rw [hnf]; rfl
                have hl : lv_has ls 6 [(3, .int (nI (i + 1))), (2, .ref (a9 (zk_p j x9))), (1, va_rf ((zk_fb c9 d9 g9 (i + 1)).map (fun z => a9 (30 + z.1)))), (5, .ref (a9 (zk_p j x9))), (4, .ref (a9 (30 + i))), (0, .ref X)] := by rw [ez18]; exact hl
                have ez19 : ((zk_fb c9 d9 g9 (i + 1)).map (fun z => a9 (zk_p (g9 3 z.1 - 1) z.2))) = some (a9 (zk_p j x9)) := by rw [hnf]; show some (a9 (zk_p (g9 3 i - 1) x9)) = _; rw [ej]
                have hl : lv_has ls 6 [(3, .int (nI (i + 1))), (2, va_rf ((zk_fb c9 d9 g9 (i + 1)).map (fun z => a9 (zk_p (g9 3 z.1 - 1) z.2)))), (1, va_rf ((zk_fb c9 d9 g9 (i + 1)).map (fun z => a9 (30 + z.1)))), (5, .ref (a9 (zk_p j x9))), (4, .ref (a9 (30 + i))), (0, .ref X)] := by rw [ez19]; exact hl
                exact ih_6 (i + 1) _ _ _ _ _ _ (by omega) (by omega) hm (lv_sub hl [5, 2, 1, 0] rfl) hH hS
            · skip
              have hc14 : (zk_gb (c9 (30 + i)) (c9 (30 + s1)) (d9 (30 + i) 3) (d9 (30 + s1) 3)) = (nI 0) := hc14
              have hnf : zk_fb c9 d9 g9 (i + 1) = some (s1, y1) := by rw [zk_fb, if_neg hg10, hq0]; show (if _ then _ else _) = _; rw [if_pos hc14]
              refine lv_goto (tgt := 58) hx hb d_Rec_frame_37 (by decide) ?_
              refine lv_iinc (k := 4) (v := nI (i + 1)) (lv' := [(3, .int (nI (i + 1))), (4, .ref (a9 (30 + i))), (0, .ref X), (1, .ref (a9 (30 + s1))), (2, .ref (a9 (zk_p (g9 3 s1 - 1) y1)))]) hx hb d_Rec_frame_58 hl rfl (nI_add i 1) (by decide) rfl (fun ls hl => ?_)
              refine lv_goto (tgt := 6) hx hb d_Rec_frame_61 (by decide) ?_
              have ez20 : ((zk_fb c9 d9 g9 (i + 1)).map (fun z => a9 (30 + z.1))) = some (a9 (30 + s1)) := by rw [hnf]; rfl
              have hl : lv_has ls 6 [(3, .int (nI (i + 1))), (4, .ref (a9 (30 + i))), (0, .ref X), (1, va_rf ((zk_fb c9 d9 g9 (i + 1)).map (fun z => a9 (30 + z.1)))), (2, .ref (a9 (zk_p (g9 3 s1 - 1) y1)))] := by rw [ez20]; exact hl
              have ez21 : ((zk_fb c9 d9 g9 (i + 1)).map (fun z => a9 (zk_p (g9 3 z.1 - 1) z.2))) = some (a9 (zk_p (g9 3 s1 - 1) y1)) := by rw [hnf]; rfl
              have hl : lv_has ls 6 [(3, .int (nI (i + 1))), (4, .ref (a9 (30 + i))), (0, .ref X), (1, va_rf ((zk_fb c9 d9 g9 (i + 1)).map (fun z => a9 (30 + z.1)))), (2, va_rf ((zk_fb c9 d9 g9 (i + 1)).map (fun z => a9 (zk_p (g9 3 z.1 - 1) z.2))))] := by rw [ez21]; exact hl
              exact ih_6 (i + 1) _ _ _ _ _ _ (by omega) (by omega) hm (lv_sub hl [2, 3, 4, 0] rfl) hH hS
  have ez22 : ((zk_fb c9 d9 g9 0).map (fun z => a9 (30 + z.1))) = none := rfl
  have hl : lv_has ls 6 [(3, .int (nI 0)), (2, .null), (1, va_rf ((zk_fb c9 d9 g9 0).map (fun z => a9 (30 + z.1)))), (0, .ref X)] := by rw [ez22]; exact hl
  have ez23 : ((zk_fb c9 d9 g9 0).map (fun z => a9 (zk_p (g9 3 z.1 - 1) z.2))) = none := rfl
  have hl : lv_has ls 6 [(3, .int (nI 0)), (2, va_rf ((zk_fb c9 d9 g9 0).map (fun z => a9 (zk_p (g9 3 z.1 - 1) z.2)))), (1, va_rf ((zk_fb c9 d9 g9 0).map (fun z => a9 (30 + z.1)))), (0, .ref X)] := by rw [ez23]; exact hl
  exact loop_6 _ 0 _ _ _ _ _ _ (Nat.lt_succ_self _) (by omega) hm (lv_sub hl [3, 2, 1, 0] rfl) hH hS

set_option maxHeartbeats 4000000 in
set_option maxRecDepth 100000 in
/-- frame -/
theorem c_Rec_frame_S {l : Launch} {D : va_G} {cA : Nat → ClassId} {te mi : Nat} {kd ln : Nat → Nat} {I : Nat → Nat → Int32} {L : Nat → Nat → Int64} {R : Nat → Nat → Option Nat} {X : Nat} {a9 e9 : Nat → Nat} {c9 : Nat → Nat → Int32} {d9 : Nat → Nat → Int64} {g9 : Nat → Nat → Nat} (hm : zkR X te a9 e9 c9 d9 g9 kd ln I L R) {s9 k y9 : Nat} (hpl : zk_pl g9) (hfb : zk_fb c9 d9 g9 4 = some (s9, y9)) (hs4 : s9 < 4) (hgs : g9 3 s9 = k + 1) (hk4 : k < 4) (hgk : g9 0 k ≠ 0) (hy1 : g9 1 k ≤ y9) (hy2 : y9 < g9 2 k) (hsz : g9 4 (zk_p k y9 + 1) ≤ 66) : zc_M l y_Rec_frame w_Rec_frame { frames := 4, cells := 0, slots := 0, locals := 89 } 0 0 D cA te mi ([.ref X] : List Value) kd ln I L R (zk_P (some (.int (nI (5 + g9 4 (zk_p k y9 + 1))))) X te a9 e9 (zk_fwc (zu c9 (30 + s9) 5 (c9 (zk_p k y9) 2)) k y9) (zu d9 (zk_p k y9) 7 0) (zk_fwg g9 k y9) kd ln) := by
  intro sz
  refine Met.ofW (cc := b_Rec_frame) (maxL := 6) (ret := (some (.int))) (by decide +kernel) rfl ?_
  intro p e s m args below meth c s₁ B hml hv
  obtain ⟨rfl, hsz, hSc, hE, hH⟩ := hv
  have hx := B.exec
  have hb := B.bytes
  have hr := B.returns
  have hts := atoms_spec (ws := w_Rec_frame) B.pre
  have hw : ∀ {w : Cond}, w ∈ zw → w.before ([.ref X] : List Value).toArray s = true := fun h => hts _ (List.mem_cons_of_mem _ h)
  have hown : s.vm.findClass R_Rec = some m.cls := findClass_of_methodNamed B.named
  have hlocks := B.notSynchronized
  subst hsz
  have hK := hSc.1
  have hH : zh_H D cA (zc_A kd s.heap.size) kd ln I L R s.heap := hH.weaken (fun q h _ => Or.inl h)
  generalize hAe : zc_A kd s.heap.size = A at hH hE ⊢
  have hA : ∀ q : Nat, s.heap.size ≤ q → A q := fun q h => by rw [← hAe]; exact Or.inr h
  have hS : va_S A s.heap s.heap [] := va_S.rf
  have hl := lv_entry ([.ref X] : List Value) (n := 6) (Nat.le_of_ble_eq_true rfl)
  rw [lg_entry_eq]
  generalize (lg_sl ([.ref X] : List Value) ++ List.replicate (6 - (lg_sl ([.ref X] : List Value)).length) Slot.unset).toArray = ls at hl ⊢
  have hl : lv_has ls 6 [(0, .ref X)] := hl
  refine lv_null hx hb d_Rec_frame_0 ?_
  refine lv_astore_nN (lv' := [(1, .null), (0, .ref X)]) hx hb d_Rec_frame_1 rfl hl (by decide) rfl (fun ls hl => ?_)
  refine lv_null hx hb d_Rec_frame_2 ?_
  refine lv_astore_nN (lv' := [(2, .null), (1, .null), (0, .ref X)]) hx hb d_Rec_frame_3 rfl hl (by decide) rfl (fun ls hl => ?_)
  refine lv_iconst (v := nI 0) hx hb d_Rec_frame_4 (by decide) ?_
  refine lv_istore_n (lv' := [(3, .int (nI 0)), (2, .null), (1, .null), (0, .ref X)]) hx hb d_Rec_frame_5 rfl hl (by decide) rfl (fun ls hl => ?_)
  have loop_6 : ∀ (z : Nat) (i : Nat) (I_6 : Nat → Nat → Int32) (L_6 : Nat → Nat → Int64) (R_6 : Nat → Nat → Option Nat) (H : Heap) (locs : List Loc) (ls : Array Slot), 4 - i < z → (i ≤ 4) → (zkR X te a9 e9 c9 d9 g9 kd ln I_6 L_6 R_6) → lv_has ls 6 [(0, .ref X), (1, va_rf ((zk_fb c9 d9 g9 i).map (fun z => a9 (30 + z.1)))), (2, va_rf ((zk_fb c9 d9 g9 i).map (fun z => a9 (zk_p (g9 3 z.1 - 1) z.2)))), (3, .int (nI i))] → zh_H D cA A kd ln I_6 L_6 R_6 H → va_S A s.heap H locs → W p l e (headSpec w_Rec_frame { frames := 4, cells := 0, slots := 0, locals := 89 }).room s m ([.ref X] : List Value).toArray below meth c H locs 0 0 (MQ below (zc_Qc D cA A (zk_P (some (.int (nI (5 + g9 4 (zk_p k y9 + 1))))) X te a9 e9 (zk_fwc (zu c9 (30 + s9) 5 (c9 (zk_p k y9) 2)) k y9) (zu d9 (zk_p k y9) 7 0) (zk_fwg g9 k y9) kd ln)) ([.ref X] : List Value).toArray s 0 0 A) (F0 m 6 ls []) := by
    intro z
    induction z with
    | zero => intro i I_6 L_6 R_6 H locs ls hz; exact absurd hz (Nat.not_lt_zero _)
    | succ z ih_6 =>
      intro i I_6 L_6 R_6 H locs ls hz_6 hi hm hl hH hS
      refine lv_iload_n hx hb d_Rec_frame_6 rfl (lv_at hl 3 rfl) ?_
      refine lv_iconst (v := nI 4) hx hb d_Rec_frame_7 (by decide) ?_
      refine lv_icmp_ge (tgt := 64) hx hb d_Rec_frame_8 (by decide) (fun hc1 => ?_) (fun hc1 => ?_)
      · skip
        have hc1 := zt_geT (a := i) (b := 4) (by omega) (by omega) hc1
        have hi2 : i = 4 := by omega
        rw [hi2, hfb] at hl
        have hl : lv_has ls 6 [(0, .ref X), (1, .ref (a9 (30 + s9))), (2, .ref (a9 (zk_p k y9))), (3, .int (nI 4))] := by have ek : g9 3 s9 - 1 = k := (by omega); rw [← ek]; exact hl
        refine lv_aload_n hx hb d_Rec_frame_64 rfl (lv_at hl 1 rfl) ?_
        refine lv_ifnull hx hb d_Rec_frame_65 ?_
        refine lv_aload_n hx hb d_Rec_frame_68 rfl (lv_at hl 2 rfl) ?_
        refine lv_ifnonnull (tgt := 74) hx hb d_Rec_frame_69 (by decide) ?_
        refine lv_aload_n hx hb d_Rec_frame_74 rfl (lv_at hl 1 rfl) ?_
        refine lv_aload_n hx hb d_Rec_frame_75 rfl (lv_at hl 2 rfl) ?_
        refine zr_geti (ci := 3) (C := R_Pk) (T := T_Pk) (N := 8) (ref := "ScrubbedRecorder$Packet") hx hb hts (fun w h => List.mem_cons_of_mem _ (zin_Pk w h)) hown hK hH ((zkR_k hm (zk_lvp (by omega) hgk (by omega) (by omega))).trans zk_kp) (by decide) rfl 2 (by decide) rfl (hw zw_267) (fun _ h9 => h9) d_Rec_frame_76 ?_
        refine zt_i (y := c9 (zk_p k y9) 2) (congrFun (zkR_i hm (zk_lvp (by omega) hgk (by omega) (by omega))) 2) ?_
        refine zr_puti (ref := "ScrubbedRecorder$Playback") (ci := 4) (C := R_Pb) (T := T_Pb) (N := 6) (x := c9 (zk_p k y9) 2) (ty := .int) hx hb hts (fun w h => List.mem_cons_of_mem _ (zin_Pb w h)) ty_Pb tyok_Pb nm_Pb hown hK hH hS ((zkR_k hm (zk_lv3 (by omega) (show g9 3 s9 ≠ 0 by omega))).trans (zk_k3 (by omega))) (by decide) rfl 5 (by decide) rfl (hw zw_383) (fun _ h9 => h9) rfl (by decide +kernel) rfl rfl d_Rec_frame_79 (fun H locs hH hS => ?_)
        have hm := zkR_I hm (30 + s9) 5 (c9 (zk_p k y9) 2) (zk_lv3 (by omega) (show g9 3 s9 ≠ 0 by omega)) (fun h9 => absurd ((zk_k3 (by omega)).symm.trans h9) (by decide)) (fun h9 => absurd ((zk_k3 (by omega)).symm.trans h9) (by decide))
        generalize zu I_6 (a9 (30 + s9)) 5 (c9 (zk_p k y9) 2) = I2 at hm hH
        refine lv_aload_n hx hb d_Rec_frame_82 rfl (lv_at hl 2 rfl) ?_
        refine lv_lconst (v := 0) hx hb d_Rec_frame_83 (by decide) ?_
        refine zr_putl (ref := "ScrubbedRecorder$Packet") (ci := 3) (C := R_Pk) (T := T_Pk) (N := 8) (x := 0) (ty := .long) hx hb hts (fun w h => List.mem_cons_of_mem _ (zin_Pk w h)) ty_Pk tyok_Pk nm_Pk hown hK hH hS ((zkR_k hm (zk_lvp (by omega) hgk (by omega) (by omega))).trans zk_kp) (by decide) rfl 7 (by decide) rfl (hw zw_280) (fun _ h9 => h9) rfl (by decide +kernel) rfl rfl d_Rec_frame_84 (fun H locs hH hS => ?_)
        have hm := zkR_L hm (zk_p k y9) 7 0 (zk_lvp (by omega) hgk (by omega) (by omega))
        generalize zu L_6 (a9 (zk_p k y9)) 7 0 = L3 at hm hH
        refine lv_aload_n hx hb d_Rec_frame_87 rfl (lv_at hl 0 rfl) ?_
        refine lv_aload_n hx hb d_Rec_frame_88 rfl (lv_at hl 2 rfl) ?_
        refine zr_putq (ref := "ScrubbedRecorder") (ci := 0) (C := R_Rec) (T := T_Rec) (N := 6) (x := some (a9 (zk_p k y9))) (ty := .object "ScrubbedRecorder$Packet") hx hb hts (fun w h => List.mem_cons_of_mem _ (zin_Rec w h)) ty_Rec tyok_Rec nm_Rec hown hK hH hS hm.2.2.1.1 (by decide) rfl 4 (by decide) rfl (hw zw_68) (fun _ h9 => h9) rfl (by decide +kernel) rfl rfl d_Rec_frame_89 (fun H locs hH hS => ?_)
        have hm := zkR_fw hm hk4 hgk hy1 hy2
        generalize zu R_6 X 4 (some (a9 (zk_p k y9))) = R4 at hm hH
        have g0 : zk_fwg g9 k y9 0 k ≠ 0 := by unfold zk_fwg; rw [zu_ne _ _ _ (by decide), zu_ne _ _ _ (by decide)]; exact hgk
        have g1 : zk_fwg g9 k y9 1 k ≤ y9 := by unfold zk_fwg; rw [zu_ne _ _ _ (by decide), zu_ne _ _ _ (by decide)]; exact hy1
        have g2 : y9 < zk_fwg g9 k y9 2 k := by unfold zk_fwg; rw [zu_ne _ _ _ (by decide), zu_ne _ _ _ (by decide)]; exact hy2
        have g4 : zk_fwg g9 k y9 4 (zk_p k y9 + 1) = g9 4 (zk_p k y9 + 1) := by unfold zk_fwg; rw [zu_k _ _ _ _ (by unfold zk_p; omega), zu_ne _ _ _ (by decide)]
        refine lv_aload_n hx hb d_Rec_frame_92 rfl (lv_at hl 2 rfl) ?_
        refine zr_V (As := ([] : List Value)) (rest := []) (b := a9 (zk_p k y9)) (ci := 3) (q := (R_Pk, T_Pk, 8)) ⟨hx, hb, hml, hown, hts⟩ (c_Pk_frameLength ((zkR_k hm (zk_lvp hk4 g0 g1 g2)).trans zk_kp) (zkR_tl hm hk4 g0 g1 g2) ((zkR_k hm (zk_lvt hk4 g0 g1 g2)).trans zk_kt) (((zkR_n hm (zk_lvt hk4 g0 g1 g2) (by rw [zk_kt]; decide)).trans zk_np).trans g4) hsz) ⟨(callB_of 0 hts (zg_all zw_427) rfl rfl rfl (hw zw_12) (hw zw_424) k_Pk_frameLength.2 ⟨Nat.le_of_ble_eq_true rfl, Nat.le_of_ble_eq_true rfl⟩), (hw zw_425), (hw zw_426)⟩ hSc hE hH hS hA rfl (by decide) ((zkR_k hm (zk_lvp (by omega) g0 (by omega) (by omega))).trans zk_kp) rfl hl.1 rfl (Nat.le_of_ble_eq_true rfl) d_Rec_frame_93 ⟨Nat.le_of_ble_eq_true rfl, Nat.le_of_ble_eq_true rfl⟩ (fun v5 kd5 ln5 I5 L5 R5 H locs hp hH hS => ?_)
        obtain ⟨rfl, rfl, rfl, rfl, rfl, rfl⟩ := hp
        refine W.eq (g2 := F0 m 96 ls [.int (nI (5 + g9 4 (zk_p k y9 + 1)))]) rfl ?_
        refine W.widen (k := 0) (n := 0) (by omega) (by omega) ?_
        refine W.widen (k := 0) (n := 0) (Nat.le_of_ble_eq_true rfl) (Nat.le_of_ble_eq_true rfl) ?_
        subst hAe
        exact W.iret (v := nI (5 + g9 4 (zk_p k y9 + 1))) hx hb hr (fun t ht hW => zc_end hS hH ht (⟨rfl, rfl, rfl, hm⟩)) hS.2.2 d_Rec_frame_96
      · skip
        have hc1 := zt_geF (a := i) (b := 4) (by omega) (by omega) hc1
        rcases hq0 : zk_fb c9 d9 g9 i with _ | ⟨s1, y1⟩
        · skip
          have hl : lv_has ls 6 [(0, .ref X), (1, .null), (2, .null), (3, .int (nI i))] := by rw [hq0] at hl; exact hl
          refine lv_aload_n hx hb d_Rec_frame_11 rfl (lv_at hl 0 rfl) ?_
          refine zr_getr (ci := 0) (C := R_Rec) (T := T_Rec) (N := 6) (ref := "ScrubbedRecorder") hx hb hts (fun w h => List.mem_cons_of_mem _ (zin_Rec w h)) hown hK hH hm.2.2.1.1 (by decide) rfl 2 (by decide) rfl (hw zw_66) (fun _ h9 => h9) d_Rec_frame_12 hm.2.2.1.2.2.2.1 ?_
          refine lv_iload_n hx hb d_Rec_frame_15 rfl (lv_at hl 3 rfl) ?_
          rcases Decidable.em (g9 3 i = 0) with hg6 | hg6
          · skip
            refine zr_ald0 (b := 0) (t := 6) (j := i) hx hb (by decide) (by decide) rfl hK hH (show kd (a9 5) = 106 from zkR_k hm (zk_lv0 (by decide))) (by rw [show ln (a9 5) = 4 from zkR_n hm (zk_lv0 (by decide)) (by decide)]; exact zh_ix_n (by omega) (by omega)) d_Rec_frame_16 (zkR_pn hm (by omega) hg6) ?_
            refine lv_astoreN (lv' := [(4, .null), (0, .ref X), (1, .null), (2, .null), (3, .int (nI i))]) hx hb d_Rec_frame_17 hl (by decide) rfl (fun ls hl => ?_)
            have hnf : zk_fb c9 d9 g9 (i + 1) = none := by rw [zk_fb, if_pos hg6]; exact hq0
            refine lv_aloadN hx hb d_Rec_frame_19 (lv_at hl 0 rfl) ?_
            refine lv_ifnullN (tgt := 58) hx hb d_Rec_frame_21 (by decide) ?_
            refine lv_iinc (k := 4) (v := nI (i + 1)) (lv' := [(3, .int (nI (i + 1))), (4, .null), (0, .ref X), (1, .null), (2, .null)]) hx hb d_Rec_frame_58 hl rfl (nI_add i 1) (by decide) rfl (fun ls hl => ?_)
            refine lv_goto (tgt := 6) hx hb d_Rec_frame_61 (by decide) ?_
            have ez7 : ((zk_fb c9 d9 g9 (i + 1)).map (fun z => a9 (30 + z.1))) = none := by rw [hnf]; rfl
            have hl : lv_has ls 6 [(3, .int (nI (i + 1))), (4, .null), (0, .ref X), (1, va_rf ((zk_fb c9 d9 g9 (i + 1)).map (fun z => a9 (30 + z.1)))), (2, .null)] := by rw [ez7]; exact hl
            have ez8 : ((zk_fb c9 d9 g9 (i + 1)).map (fun z => a9 (zk_p (g9 3 z.1 - 1) z.2))) = none := by rw [hnf]; rfl
            have hl : lv_has ls 6 [(3, .int (nI (i + 1))), (4, .null), (0, .ref X), (1, va_rf ((zk_fb c9 d9 g9 (i + 1)).map (fun z => a9 (30 + z.1)))), (2, va_rf ((zk_fb c9 d9 g9 (i + 1)).map (fun z => a9 (zk_p (g9 3 z.1 - 1) z.2))))] := by rw [ez8]; exact hl
            exact ih_6 (i + 1) _ _ _ _ _ _ (by omega) (by omega) hm (lv_sub hl [2, 3, 4, 0] rfl) hH hS
          · skip
            refine zr_aldr (t := 6) (j := i) hx hb (by decide) (by decide) rfl hK hH (show kd (a9 5) = 106 from zkR_k hm (zk_lv0 (by decide))) (by rw [show ln (a9 5) = 4 from zkR_n hm (zk_lv0 (by decide)) (by decide)]; exact zh_ix_n (by omega) (by omega)) d_Rec_frame_16 (zkR_pb hm (by omega) hg6).1 ?_
            refine lv_astore (lv' := [(4, .ref (a9 (30 + i))), (0, .ref X), (1, .null), (2, .null), (3, .int (nI i))]) hx hb d_Rec_frame_17 hl (by decide) rfl (fun ls hl => ?_)
            obtain ⟨j, hj1⟩ : ∃ j, g9 3 i = j + 1 := ⟨g9 3 i - 1, by have := hg6; omega⟩
            obtain ⟨hj4, hjg⟩ := hpl i (by omega) hg6
            have hjg : g9 0 j ≠ 0 := by rw [hj1, Nat.add_sub_cancel] at hjg; exact hjg
            refine lv_aload hx hb d_Rec_frame_19 (lv_at hl 0 rfl) ?_
            refine lv_ifnull hx hb d_Rec_frame_21 ?_
            refine lv_aload_nN hx hb d_Rec_frame_24 rfl (lv_at hl 2 rfl) ?_
            refine lv_ifnullN (tgt := 40) hx hb d_Rec_frame_25 (by decide) ?_
            refine lv_aload hx hb d_Rec_frame_40 (lv_at hl 0 rfl) ?_
            refine zr_V (As := ([] : List Value)) (rest := []) (b := a9 (30 + i)) (ci := 4) (q := (R_Pb, T_Pb, 6)) ⟨hx, hb, hml, hown, hts⟩ (c_Pb_nextPacket hm (by omega) (by omega) hj1 hjg) ⟨(callB_of 0 hts (zg_all zw_412) rfl rfl rfl (hw zw_15) (hw zw_409) k_Pb_nextPacket.2 ⟨Nat.le_of_ble_eq_true rfl, Nat.le_of_ble_eq_true rfl⟩), (hw zw_410), (hw zw_411)⟩ hSc hE hH hS hA rfl (by decide) ((zkR_k hm (zk_lv3 (by omega) hg6)).trans (zk_k3 (by omega))) rfl hl.1 rfl (Nat.le_of_ble_eq_true rfl) d_Rec_frame_42 ⟨Nat.le_of_ble_eq_true rfl, Nat.le_of_ble_eq_true rfl⟩ (fun v9 kd9 ln9 I9 L9 R9 H locs hp hH hS => ?_)
            obtain ⟨rfl, rfl, rfl, rfl, rfl, rfl⟩ := hp
            have ej : g9 3 i - 1 = j := by omega
            rcases hx9 : zk_nx c9 d9 i j (g9 1 j) (g9 2 j - g9 1 j) with _ | x9
            · skip
              have hnf : zk_fb c9 d9 g9 (i + 1) = none := by rw [zk_fb, if_neg hg6, hq0]; show Option.map _ (zk_nx c9 d9 i (g9 3 i - 1) (g9 1 (g9 3 i - 1)) (g9 2 (g9 3 i - 1) - g9 1 (g9 3 i - 1))) = _; rw [ej, hx9]; rfl
              refine W.eq (g2 := F0 m 45 ls [.null]) rfl ?_
              refine W.widen (k := 0) (n := 0) (by omega) (by omega) ?_
              refine lv_astoreN (lv' := [(5, .null), (4, .ref (a9 (30 + i))), (0, .ref X), (1, .null), (2, .null), (3, .int (nI i))]) hx hb d_Rec_frame_45 hl (by decide) rfl (fun ls hl => ?_)
              refine lv_aloadN hx hb d_Rec_frame_47 (lv_at hl 0 rfl) ?_
              refine lv_ifnullN (tgt := 58) hx hb d_Rec_frame_49 (by decide) ?_
              refine lv_iinc (k := 5) (v := nI (i + 1)) (lv' := [(3, .int (nI (i + 1))), (5, .null), (4, .ref (a9 (30 + i))), (0, .ref X), (1, .null), (2, .null)]) hx hb d_Rec_frame_58 hl rfl (nI_add i 1) (by decide) rfl (fun ls hl => ?_)
              refine lv_goto (tgt := 6) hx hb d_Rec_frame_61 (by decide) ?_
              have ez10 : ((zk_fb c9 d9 g9 (i + 1)).map (fun z => a9 (30 + z.1))) = none := by rw [hnf]; rfl
              have hl : lv_has ls 6 [(3, .int (nI (i + 1))), (5, .null), (4, .ref (a9 (30 + i))), (0, .ref X), (1, va_rf ((zk_fb c9 d9 g9 (i + 1)).map (fun z => a9 (30 + z.1)))), (2, .null)] := by rw [ez10]; exact hl
              have ez11 : ((zk_fb c9 d9 g9 (i + 1)).map (fun z => a9 (zk_p (g9 3 z.1 - 1) z.2))) = none := by rw [hnf]; rfl
              have hl : lv_has ls 6 [(3, .int (nI (i + 1))), (5, .null), (4, .ref (a9 (30 + i))), (0, .ref X), (1, va_rf ((zk_fb c9 d9 g9 (i + 1)).map (fun z => a9 (30 + z.1)))), (2, va_rf ((zk_fb c9 d9 g9 (i + 1)).map (fun z => a9 (zk_p (g9 3 z.1 - 1) z.2))))] := by rw [ez11]; exact hl
              exact ih_6 (i + 1) _ _ _ _ _ _ (by omega) (by omega) hm (lv_sub hl [3, 4, 5, 0] rfl) hH hS
            · skip
              have hnf : zk_fb c9 d9 g9 (i + 1) = some (i, x9) := by rw [zk_fb, if_neg hg6, hq0]; show Option.map _ (zk_nx c9 d9 i (g9 3 i - 1) (g9 1 (g9 3 i - 1)) (g9 2 (g9 3 i - 1) - g9 1 (g9 3 i - 1))) = _; rw [ej, hx9]; rfl
              obtain ⟨lx9, ux9⟩ := zk_nx_of hx9
              refine W.eq (g2 := F0 m 45 ls [.ref (a9 (zk_p j x9))]) rfl ?_
              refine W.widen (k := 0) (n := 0) (by omega) (by omega) ?_
              refine lv_astore (lv' := [(5, .ref (a9 (zk_p j x9))), (4, .ref (a9 (30 + i))), (0, .ref X), (1, .null), (2, .null), (3, .int (nI i))]) hx hb d_Rec_frame_45 hl (by decide) rfl (fun ls hl => ?_)
              refine lv_aload hx hb d_Rec_frame_47 (lv_at hl 0 rfl) ?_
              refine lv_ifnull hx hb d_Rec_frame_49 ?_
              refine lv_aload hx hb d_Rec_frame_52 (lv_at hl 1 rfl) ?_
              refine lv_astore_n (lv' := [(1, .ref (a9 (30 + i))), (5, .ref (a9 (zk_p j x9))), (4, .ref (a9 (30 + i))), (0, .ref X), (2, .null), (3, .int (nI i))]) hx hb d_Rec_frame_54 rfl hl (by decide) rfl (fun ls hl => ?_)
              refine lv_aload hx hb d_Rec_frame_55 (lv_at hl 1 rfl) ?_
              refine lv_astore_n (lv' := [(2, .ref (a9 (zk_p j x9))), (1, .ref (a9 (30 + i))), (5, .ref (a9 (zk_p j x9))), (4, .ref (a9 (30 + i))), (0, .ref X), (3, .int (nI i))]) hx hb d_Rec_frame_57 rfl hl (by decide) rfl (fun ls hl => ?_)
              refine lv_iinc (k := 5) (v := nI (i + 1)) (lv' := [(3, .int (nI (i + 1))), (2, .ref (a9 (zk_p j x9))), (1, .ref (a9 (30 + i))), (5, .ref (a9 (zk_p j x9))), (4, .ref (a9 (30 + i))), (0, .ref X)]) hx hb d_Rec_frame_58 hl rfl (nI_add i 1) (by decide) rfl (fun ls hl => ?_)
              refine lv_goto (tgt := 6) hx hb d_Rec_frame_61 (by decide) ?_
              have ez12 : ((zk_fb c9 d9 g9 (i + 1)).map (fun z => a9 (30 + z.1))) = some (a9 (30 + i)) := by rw [hnf]; rfl
              have hl : lv_has ls 6 [(3, .int (nI (i + 1))), (2, .ref (a9 (zk_p j x9))), (1, va_rf ((zk_fb c9 d9 g9 (i + 1)).map (fun z => a9 (30 + z.1)))), (5, .ref (a9 (zk_p j x9))), (4, .ref (a9 (30 + i))), (0, .ref X)] := by rw [ez12]; exact hl
              have ez13 : ((zk_fb c9 d9 g9 (i + 1)).map (fun z => a9 (zk_p (g9 3 z.1 - 1) z.2))) = some (a9 (zk_p j x9)) := by rw [hnf]; show some (a9 (zk_p (g9 3 i - 1) x9)) = _; rw [ej]
              have hl : lv_has ls 6 [(3, .int (nI (i + 1))), (2, va_rf ((zk_fb c9 d9 g9 (i + 1)).map (fun z => a9 (zk_p (g9 3 z.1 - 1) z.2)))), (1, va_rf ((zk_fb c9 d9 g9 (i + 1)).map (fun z => a9 (30 + z.1)))), (5, .ref (a9 (zk_p j x9))), (4, .ref (a9 (30 + i))), (0, .ref X)] := by rw [ez13]; exact hl
              exact ih_6 (i + 1) _ _ _ _ _ _ (by omega) (by omega) hm (lv_sub hl [5, 2, 1, 0] rfl) hH hS
        · skip
          have hl : lv_has ls 6 [(0, .ref X), (1, .ref (a9 (30 + s1))), (2, .ref (a9 (zk_p (g9 3 s1 - 1) y1))), (3, .int (nI i))] := by rw [hq0] at hl; exact hl
          obtain ⟨h1s, h2s, -⟩ := zk_fb_of hq0
          refine lv_aload_n hx hb d_Rec_frame_11 rfl (lv_at hl 0 rfl) ?_
          refine zr_getr (ci := 0) (C := R_Rec) (T := T_Rec) (N := 6) (ref := "ScrubbedRecorder") hx hb hts (fun w h => List.mem_cons_of_mem _ (zin_Rec w h)) hown hK hH hm.2.2.1.1 (by decide) rfl 2 (by decide) rfl (hw zw_66) (fun _ h9 => h9) d_Rec_frame_12 hm.2.2.1.2.2.2.1 ?_
          refine lv_iload_n hx hb d_Rec_frame_15 rfl (lv_at hl 3 rfl) ?_
          rcases Decidable.em (g9 3 i = 0) with hg14 | hg14
          · skip
            refine zr_ald0 (b := 0) (t := 6) (j := i) hx hb (by decide) (by decide) rfl hK hH (show kd (a9 5) = 106 from zkR_k hm (zk_lv0 (by decide))) (by rw [show ln (a9 5) = 4 from zkR_n hm (zk_lv0 (by decide)) (by decide)]; exact zh_ix_n (by omega) (by omega)) d_Rec_frame_16 (zkR_pn hm (by omega) hg14) ?_
            refine lv_astoreN (lv' := [(4, .null), (0, .ref X), (1, .ref (a9 (30 + s1))), (2, .ref (a9 (zk_p (g9 3 s1 - 1) y1))), (3, .int (nI i))]) hx hb d_Rec_frame_17 hl (by decide) rfl (fun ls hl => ?_)
            have hnf : zk_fb c9 d9 g9 (i + 1) = some (s1, y1) := by rw [zk_fb, if_pos hg14]; exact hq0
            refine lv_aloadN hx hb d_Rec_frame_19 (lv_at hl 0 rfl) ?_
            refine lv_ifnullN (tgt := 58) hx hb d_Rec_frame_21 (by decide) ?_
            refine lv_iinc (k := 4) (v := nI (i + 1)) (lv' := [(3, .int (nI (i + 1))), (4, .null), (0, .ref X), (1, .ref (a9 (30 + s1))), (2, .ref (a9 (zk_p (g9 3 s1 - 1) y1)))]) hx hb d_Rec_frame_58 hl rfl (nI_add i 1) (by decide) rfl (fun ls hl => ?_)
            refine lv_goto (tgt := 6) hx hb d_Rec_frame_61 (by decide) ?_
            have ez15 : ((zk_fb c9 d9 g9 (i + 1)).map (fun z => a9 (30 + z.1))) = some (a9 (30 + s1)) := by rw [hnf]; rfl
            have hl : lv_has ls 6 [(3, .int (nI (i + 1))), (4, .null), (0, .ref X), (1, va_rf ((zk_fb c9 d9 g9 (i + 1)).map (fun z => a9 (30 + z.1)))), (2, .ref (a9 (zk_p (g9 3 s1 - 1) y1)))] := by rw [ez15]; exact hl
            have ez16 : ((zk_fb c9 d9 g9 (i + 1)).map (fun z => a9 (zk_p (g9 3 z.1 - 1) z.2))) = some (a9 (zk_p (g9 3 s1 - 1) y1)) := by rw [hnf]; rfl
            have hl : lv_has ls 6 [(3, .int (nI (i + 1))), (4, .null), (0, .ref X), (1, va_rf ((zk_fb c9 d9 g9 (i + 1)).map (fun z => a9 (30 + z.1)))), (2, va_rf ((zk_fb c9 d9 g9 (i + 1)).map (fun z => a9 (zk_p (g9 3 z.1 - 1) z.2))))] := by rw [ez16]; exact hl
            exact ih_6 (i + 1) _ _ _ _ _ _ (by omega) (by omega) hm (lv_sub hl [2, 3, 4, 0] rfl) hH hS
          · skip
            refine zr_aldr (t := 6) (j := i) hx hb (by decide) (by decide) rfl hK hH (show kd (a9 5) = 106 from zkR_k hm (zk_lv0 (by decide))) (by rw [show ln (a9 5) = 4 from zkR_n hm (zk_lv0 (by decide)) (by decide)]; exact zh_ix_n (by omega) (by omega)) d_Rec_frame_16 (zkR_pb hm (by omega) hg14).1 ?_
            refine lv_astore (lv' := [(4, .ref (a9 (30 + i))), (0, .ref X), (1, .ref (a9 (30 + s1))), (2, .ref (a9 (zk_p (g9 3 s1 - 1) y1))), (3, .int (nI i))]) hx hb d_Rec_frame_17 hl (by decide) rfl (fun ls hl => ?_)
            obtain ⟨j, hj1⟩ : ∃ j, g9 3 i = j + 1 := ⟨g9 3 i - 1, by have := hg14; omega⟩
            obtain ⟨hj4, hjg⟩ := hpl i (by omega) hg14
            have hjg : g9 0 j ≠ 0 := by rw [hj1, Nat.add_sub_cancel] at hjg; exact hjg
            refine lv_aload hx hb d_Rec_frame_19 (lv_at hl 0 rfl) ?_
            refine lv_ifnull hx hb d_Rec_frame_21 ?_
            refine lv_aload_n hx hb d_Rec_frame_24 rfl (lv_at hl 2 rfl) ?_
            refine lv_ifnull hx hb d_Rec_frame_25 ?_
            refine lv_aload hx hb d_Rec_frame_28 (lv_at hl 0 rfl) ?_
            refine lv_aload_n hx hb d_Rec_frame_30 rfl (lv_at hl 2 rfl) ?_
            refine zr_V (As := ([.ref (a9 (30 + s1))] : List Value)) (rest := []) (b := a9 (30 + i)) (ci := 4) (q := (R_Pb, T_Pb, 6)) ⟨hx, hb, hml, hown, hts⟩ (c_Pb_goesBefore ((zkR_k hm (zk_lv3 (by omega) hg14)).trans (zk_k3 (by omega))) ((zkR_k hm (zk_lv3 (by omega) h2s)).trans (zk_k3 (by omega)))) ⟨(callB_of 1 hts (zg_all zw_408) rfl rfl rfl (hw zw_15) (hw zw_405) k_Pb_goesBefore.2 ⟨Nat.le_of_ble_eq_true rfl, Nat.le_of_ble_eq_true rfl⟩), (hw zw_406), (hw zw_407)⟩ hSc hE hH hS hA rfl (by decide) ((zkR_k hm (zk_lv3 (by omega) hg14)).trans (zk_k3 (by omega))) rfl hl.1 rfl (Nat.le_of_ble_eq_true rfl) d_Rec_frame_31 ⟨Nat.le_of_ble_eq_true rfl, Nat.le_of_ble_eq_true rfl⟩ (fun v17 kd17 ln17 I17 L17 R17 H locs hp hH hS => ?_)
            obtain ⟨rfl, rfl, rfl, rfl, rfl, rfl⟩ := hp
            rw [show I_6 (a9 (30 + i)) = c9 (30 + i) from zkR_i hm (zk_lv3 (by omega) hg14)]
            rw [show I_6 (a9 (30 + s1)) = c9 (30 + s1) from zkR_i hm (zk_lv3 (by omega) h2s)]
            rw [show L_6 (a9 (30 + i)) = d9 (30 + i) from zkR_l hm (zk_lv3 (by omega) hg14)]
            rw [show L_6 (a9 (30 + s1)) = d9 (30 + s1) from zkR_l hm (zk_lv3 (by omega) h2s)]
            refine W.eq (g2 := F0 m 34 ls [.int (zk_gb (c9 (30 + i)) (c9 (30 + s1)) (d9 (30 + i) 3) (d9 (30 + s1) 3))]) rfl ?_
            refine W.widen (k := 0) (n := 0) (by omega) (by omega) ?_
            refine lv_if_ne (tgt := 40) hx hb d_Rec_frame_34 (by decide) (fun hc18 => ?_) (fun hc18 => ?_)
            · skip
              have hc18 : ¬ (zk_gb (c9 (30 + i)) (c9 (30 + s1)) (d9 (30 + i) 3) (d9 (30 + s1) 3)) = (nI 0) := hc18
              refine lv_aload hx hb d_Rec_frame_40 (lv_at hl 0 rfl) ?_
              refine zr_V (As := ([] : List Value)) (rest := []) (b := a9 (30 + i)) (ci := 4) (q := (R_Pb, T_Pb, 6)) ⟨hx, hb, hml, hown, hts⟩ (c_Pb_nextPacket hm (by omega) (by omega) hj1 hjg) ⟨(callB_of 0 hts (zg_all zw_412) rfl rfl rfl (hw zw_15) (hw zw_409) k_Pb_nextPacket.2 ⟨Nat.le_of_ble_eq_true rfl, Nat.le_of_ble_eq_true rfl⟩), (hw zw_410), (hw zw_411)⟩ hSc hE hH hS hA rfl (by decide) ((zkR_k hm (zk_lv3 (by omega) hg14)).trans (zk_k3 (by omega))) rfl hl.1 rfl (Nat.le_of_ble_eq_true rfl) d_Rec_frame_42 ⟨Nat.le_of_ble_eq_true rfl, Nat.le_of_ble_eq_true rfl⟩ (fun v19 kd19 ln19 I19 L19 R19 H locs hp hH hS => ?_)
              obtain ⟨rfl, rfl, rfl, rfl, rfl, rfl⟩ := hp
              have ej : g9 3 i - 1 = j := by omega
              rcases hx9 : zk_nx c9 d9 i j (g9 1 j) (g9 2 j - g9 1 j) with _ | x9
              · skip
                have hnf : zk_fb c9 d9 g9 (i + 1) = some (s1, y1) := by rw [zk_fb, if_neg hg14, hq0]; show (if _ then _ else (match zk_nx c9 d9 i (g9 3 i - 1) (g9 1 (g9 3 i - 1)) (g9 2 (g9 3 i - 1) - g9 1 (g9 3 i - 1)) with | none => some (s1, y1) | some x => some (i, x))) = _; rw [if_neg hc18, ej, hx9]
                refine W.eq (g2 := F0 m 45 ls [.null]) rfl ?_
                refine W.widen (k := 0) (n := 0) (by omega) (by omega) ?_
                refine lv_astoreN (lv' := [(5, .null), (4, .ref (a9 (30 + i))), (0, .ref X), (1, .ref (a9 (30 + s1))), (2, .ref (a9 (zk_p (g9 3 s1 - 1) y1))), (3, .int (nI i))]) hx hb d_Rec_frame_45 hl (by decide) rfl (fun ls hl => ?_)
                refine lv_aloadN hx hb d_Rec_frame_47 (lv_at hl 0 rfl) ?_
                refine lv_ifnullN (tgt := 58) hx hb d_Rec_frame_49 (by decide) ?_
                refine lv_iinc (k := 5) (v := nI (i + 1)) (lv' := [(3, .int (nI (i + 1))), (5, .null), (4, .ref (a9 (30 + i))), (0, .ref X), (1, .ref (a9 (30 + s1))), (2, .ref (a9 (zk_p (g9 3 s1 - 1) y1)))]) hx hb d_Rec_frame_58 hl rfl (nI_add i 1) (by decide) rfl (fun ls hl => ?_)
                refine lv_goto (tgt := 6) hx hb d_Rec_frame_61 (by decide) ?_
                have ez20 : ((zk_fb c9 d9 g9 (i + 1)).map (fun z => a9 (30 + z.1))) = some (a9 (30 + s1)) := by rw [hnf]; rfl
                have hl : lv_has ls 6 [(3, .int (nI (i + 1))), (5, .null), (4, .ref (a9 (30 + i))), (0, .ref X), (1, va_rf ((zk_fb c9 d9 g9 (i + 1)).map (fun z => a9 (30 + z.1)))), (2, .ref (a9 (zk_p (g9 3 s1 - 1) y1)))] := by rw [ez20]; exact hl
                have ez21 : ((zk_fb c9 d9 g9 (i + 1)).map (fun z => a9 (zk_p (g9 3 z.1 - 1) z.2))) = some (a9 (zk_p (g9 3 s1 - 1) y1)) := by rw [hnf]; rfl
                have hl : lv_has ls 6 [(3, .int (nI (i + 1))), (5, .null), (4, .ref (a9 (30 + i))), (0, .ref X), (1, va_rf ((zk_fb c9 d9 g9 (i + 1)).map (fun z => a9 (30 + z.1)))), (2, va_rf ((zk_fb c9 d9 g9 (i + 1)).map (fun z => a9 (zk_p (g9 3 z.1 - 1) z.2))))] := by rw [ez21]; exact hl
                exact ih_6 (i + 1) _ _ _ _ _ _ (by omega) (by omega) hm (lv_sub hl [3, 4, 5, 0] rfl) hH hS
              · skip
                have hnf : zk_fb c9 d9 g9 (i + 1) = some (i, x9) := by rw [zk_fb, if_neg hg14, hq0]; show (if _ then _ else (match zk_nx c9 d9 i (g9 3 i - 1) (g9 1 (g9 3 i - 1)) (g9 2 (g9 3 i - 1) - g9 1 (g9 3 i - 1)) with | none => some (s1, y1) | some x => some (i, x))) = _; rw [if_neg hc18, ej, hx9]
                obtain ⟨lx9, ux9⟩ := zk_nx_of hx9
                refine W.eq (g2 := F0 m 45 ls [.ref (a9 (zk_p j x9))]) rfl ?_
                refine W.widen (k := 0) (n := 0) (by omega) (by omega) ?_
                refine lv_astore (lv' := [(5, .ref (a9 (zk_p j x9))), (4, .ref (a9 (30 + i))), (0, .ref X), (1, .ref (a9 (30 + s1))), (2, .ref (a9 (zk_p (g9 3 s1 - 1) y1))), (3, .int (nI i))]) hx hb d_Rec_frame_45 hl (by decide) rfl (fun ls hl => ?_)
                refine lv_aload hx hb d_Rec_frame_47 (lv_at hl 0 rfl) ?_
                refine lv_ifnull hx hb d_Rec_frame_49 ?_
                refine lv_aload hx hb d_Rec_frame_52 (lv_at hl 1 rfl) ?_
                refine lv_astore_n (lv' := [(1, .ref (a9 (30 + i))), (5, .ref (a9 (zk_p j x9))), (4, .ref (a9 (30 + i))), (0, .ref X), (2, .ref (a9 (zk_p (g9 3 s1 - 1) y1))), (3, .int (nI i))]) hx hb d_Rec_frame_54 rfl hl (by decide) rfl (fun ls hl => ?_)
                refine lv_aload hx hb d_Rec_frame_55 (lv_at hl 1 rfl) ?_
                refine lv_astore_n (lv' := [(2, .ref (a9 (zk_p j x9))), (1, .ref (a9 (30 + i))), (5, .ref (a9 (zk_p j x9))), (4, .ref (a9 (30 + i))), (0, .ref X), (3, .int (nI i))]) hx hb d_Rec_frame_57 rfl hl (by decide) rfl (fun ls hl => ?_)
                refine lv_iinc (k := 5) (v := nI (i + 1)) (lv' := [(3, .int (nI (i + 1))), (2, .ref (a9 (zk_p j x9))), (1, .ref (a9 (30 + i))), (5, .ref (a9 (zk_p j x9))), (4, .ref (a9 (30 + i))), (0, .ref X)]) hx hb d_Rec_frame_58 hl rfl (nI_add i 1) (by decide) rfl (fun ls hl => ?_)
                refine lv_goto (tgt := 6) hx hb d_Rec_frame_61 (by decide) ?_
                have ez22 : ((zk_fb c9 d9 g9 (i + 1)).map (fun z => a9 (30 + z.1))) = some (a9 (30 + i)) := by rw [hnf]; rfl
                have hl : lv_has ls 6 [(3, .int (nI (i + 1))), (2, .ref (a9 (zk_p j x9))), (1, va_rf ((zk_fb c9 d9 g9 (i + 1)).map (fun z => a9 (30 + z.1)))), (5, .ref (a9 (zk_p j x9))), (4, .ref (a9 (30 + i))), (0, .ref X)] := by rw [ez22]; exact hl
                have ez23 : ((zk_fb c9 d9 g9 (i + 1)).map (fun z => a9 (zk_p (g9 3 z.1 - 1) z.2))) = some (a9 (zk_p j x9)) := by rw [hnf]; show some (a9 (zk_p (g9 3 i - 1) x9)) = _; rw [ej]
                have hl : lv_has ls 6 [(3, .int (nI (i + 1))), (2, va_rf ((zk_fb c9 d9 g9 (i + 1)).map (fun z => a9 (zk_p (g9 3 z.1 - 1) z.2)))), (1, va_rf ((zk_fb c9 d9 g9 (i + 1)).map (fun z => a9 (30 + z.1)))), (5, .ref (a9 (zk_p j x9))), (4, .ref (a9 (30 + i))), (0, .ref X)] := by rw [ez23]; exact hl
                exact ih_6 (i + 1) _ _ _ _ _ _ (by omega) (by omega) hm (lv_sub hl [5, 2, 1, 0] rfl) hH hS
            · skip
              have hc18 : (zk_gb (c9 (30 + i)) (c9 (30 + s1)) (d9 (30 + i) 3) (d9 (30 + s1) 3)) = (nI 0) := hc18
              have hnf : zk_fb c9 d9 g9 (i + 1) = some (s1, y1) := by rw [zk_fb, if_neg hg14, hq0]; show (if _ then _ else _) = _; rw [if_pos hc18]
              refine lv_goto (tgt := 58) hx hb d_Rec_frame_37 (by decide) ?_
              refine lv_iinc (k := 4) (v := nI (i + 1)) (lv' := [(3, .int (nI (i + 1))), (4, .ref (a9 (30 + i))), (0, .ref X), (1, .ref (a9 (30 + s1))), (2, .ref (a9 (zk_p (g9 3 s1 - 1) y1)))]) hx hb d_Rec_frame_58 hl rfl (nI_add i 1) (by decide) rfl (fun ls hl => ?_)
              refine lv_goto (tgt := 6) hx hb d_Rec_frame_61 (by decide) ?_
              have ez24 : ((zk_fb c9 d9 g9 (i + 1)).map (fun z => a9 (30 + z.1))) = some (a9 (30 + s1)) := by rw [hnf]; rfl
              have hl : lv_has ls 6 [(3, .int (nI (i + 1))), (4, .ref (a9 (30 + i))), (0, .ref X), (1, va_rf ((zk_fb c9 d9 g9 (i + 1)).map (fun z => a9 (30 + z.1)))), (2, .ref (a9 (zk_p (g9 3 s1 - 1) y1)))] := by rw [ez24]; exact hl
              have ez25 : ((zk_fb c9 d9 g9 (i + 1)).map (fun z => a9 (zk_p (g9 3 z.1 - 1) z.2))) = some (a9 (zk_p (g9 3 s1 - 1) y1)) := by rw [hnf]; rfl
              have hl : lv_has ls 6 [(3, .int (nI (i + 1))), (4, .ref (a9 (30 + i))), (0, .ref X), (1, va_rf ((zk_fb c9 d9 g9 (i + 1)).map (fun z => a9 (30 + z.1)))), (2, va_rf ((zk_fb c9 d9 g9 (i + 1)).map (fun z => a9 (zk_p (g9 3 z.1 - 1) z.2))))] := by rw [ez25]; exact hl
              exact ih_6 (i + 1) _ _ _ _ _ _ (by omega) (by omega) hm (lv_sub hl [2, 3, 4, 0] rfl) hH hS
  have ez26 : ((zk_fb c9 d9 g9 0).map (fun z => a9 (30 + z.1))) = none := rfl
  have hl : lv_has ls 6 [(3, .int (nI 0)), (2, .null), (1, va_rf ((zk_fb c9 d9 g9 0).map (fun z => a9 (30 + z.1)))), (0, .ref X)] := by rw [ez26]; exact hl
  have ez27 : ((zk_fb c9 d9 g9 0).map (fun z => a9 (zk_p (g9 3 z.1 - 1) z.2))) = none := rfl
  have hl : lv_has ls 6 [(3, .int (nI 0)), (2, va_rf ((zk_fb c9 d9 g9 0).map (fun z => a9 (zk_p (g9 3 z.1 - 1) z.2)))), (1, va_rf ((zk_fb c9 d9 g9 0).map (fun z => a9 (30 + z.1)))), (0, .ref X)] := by rw [ez27]; exact hl
  exact loop_6 _ 0 _ _ _ _ _ _ (Nat.lt_succ_self _) (by omega) hm (lv_sub hl [3, 2, 1, 0] rfl) hH hS

set_option maxHeartbeats 4000000 in
set_option maxRecDepth 100000 in
/-- record, in no store -/
theorem c_Rec_record_N {l : Launch} {D : va_G} {cA : Nat → ClassId} {te mi : Nat} {kd ln : Nat → Nat} {I : Nat → Nat → Int32} {L : Nat → Nat → Int64} {R : Nat → Nat → Option Nat} {X : Nat} {a9 e9 : Nat → Nat} {c9 : Nat → Nat → Int32} {d9 : Nat → Nat → Int64} {g9 : Nat → Nat → Nat} (hm : zkR X te a9 e9 c9 d9 g9 kd ln I L R) {x a b d : Int32} (hmd : zk_md g9 x = none) : zc_M l y_Rec_record w_Rec_record { frames := 8, cells := 3, slots := 1574, locals := 199 } 3 1574 D cA te mi ([.ref X, .int x, .int a, .int b, .int d] : List Value) kd ln I L R (zk_P (some (.int (-2))) X te a9 e9 c9 d9 g9 kd ln) := by
  intro sz
  refine Met.ofW (cc := b_Rec_record) (maxL := 7) (ret := (some (.int))) (by decide +kernel) rfl ?_
  intro p e s m args below meth c s₁ B hml hv
  obtain ⟨rfl, hsz, hSc, hE, hH⟩ := hv
  have hx := B.exec
  have hb := B.bytes
  have hr := B.returns
  have hts := atoms_spec (ws := w_Rec_record) B.pre
  have hw : ∀ {w : Cond}, w ∈ zw → w.before ([.ref X, .int x, .int a, .int b, .int d] : List Value).toArray s = true := fun h => hts _ (List.mem_cons_of_mem _ h)
  have hown : s.vm.findClass R_Rec = some m.cls := findClass_of_methodNamed B.named
  have hlocks := B.notSynchronized
  subst hsz
  have hK := hSc.1
  have hH : zh_H D cA (zc_A kd s.heap.size) kd ln I L R s.heap := hH.weaken (fun q h _ => Or.inl h)
  generalize hAe : zc_A kd s.heap.size = A at hH hE ⊢
  have hA : ∀ q : Nat, s.heap.size ≤ q → A q := fun q h => by rw [← hAe]; exact Or.inr h
  have hS : va_S A s.heap s.heap [] := va_S.rf
  have hl := lv_entry ([.ref X, .int x, .int a, .int b, .int d] : List Value) (n := 7) (Nat.le_of_ble_eq_true rfl)
  rw [lg_entry_eq]
  generalize (lg_sl ([.ref X, .int x, .int a, .int b, .int d] : List Value) ++ List.replicate (7 - (lg_sl ([.ref X, .int x, .int a, .int b, .int d] : List Value)).length) Slot.unset).toArray = ls at hl ⊢
  have hl : lv_has ls 7 [(0, .ref X), (1, .int x), (2, .int a), (3, .int b), (4, .int d)] := hl
  refine lv_aload_n hx hb d_Rec_record_0 rfl (lv_at hl 0 rfl) ?_
  refine lv_iload_n hx hb d_Rec_record_1 rfl (lv_at hl 1 rfl) ?_
  refine zr_V (As := ([.int x] : List Value)) (rest := []) (b := X) (ci := 0) (q := (R_Rec, T_Rec, 6)) ⟨hx, hb, hml, hown, hts⟩ (c_Rec_madeStore_N hm hmd) ⟨(callB_of 1 hts (zg_all zw_195) rfl rfl rfl (hw zw_1) (hw zw_192) k_Rec_madeStore.2 ⟨Nat.le_of_ble_eq_true rfl, Nat.le_of_ble_eq_true rfl⟩), (hw zw_194), (hw zs_Rec_madeStore)⟩ hSc hE hH hS hA rfl (by decide) hm.2.2.1.1 rfl hl.1 rfl (Nat.le_of_ble_eq_true rfl) d_Rec_record_2 ⟨Nat.le_of_ble_eq_true rfl, Nat.le_of_ble_eq_true rfl⟩ (fun v1 kd1 ln1 I1 L1 R1 H locs hp hH hS => ?_)
  obtain ⟨rfl, rfl, rfl, rfl, rfl, rfl⟩ := hp
  refine W.eq (g2 := F0 m 5 ls [.null]) rfl ?_
  refine W.widen (k := 0) (n := 0) (by omega) (by omega) ?_
  refine lv_astoreN (lv' := [(5, .null), (0, .ref X), (1, .int x), (2, .int a), (3, .int b), (4, .int d)]) hx hb d_Rec_record_5 hl (by decide) rfl (fun ls hl => ?_)
  refine lv_aloadN hx hb d_Rec_record_7 (lv_at hl 0 rfl) ?_
  refine lv_ifnullN (tgt := 23) hx hb d_Rec_record_9 (by decide) ?_
  refine lv_bipush (v := (-2)) hx hb d_Rec_record_23 (by decide) ?_
  refine W.widen (k := 3) (n := 1574) (Nat.le_of_ble_eq_true rfl) (Nat.le_of_ble_eq_true rfl) ?_
  subst hAe
  exact W.iret (v := (-2)) hx hb hr (fun t ht hW => zc_end hS hH ht (⟨rfl, rfl, rfl, hm⟩)) hS.2.2 d_Rec_record_25

set_option maxHeartbeats 4000000 in
set_option maxRecDepth 100000 in
/-- record, refused -/
theorem c_Rec_record_B {l : Launch} {D : va_G} {cA : Nat → ClassId} {te mi : Nat} {kd ln : Nat → Nat} {I : Nat → Nat → Int32} {L : Nat → Nat → Int64} {R : Nat → Nat → Option Nat} {X : Nat} {a9 e9 : Nat → Nat} {c9 : Nat → Nat → Int32} {d9 : Nat → Nat → Int64} {g9 : Nat → Nat → Nat} (hm : zkR X te a9 e9 c9 d9 g9 kd ln I L R) {k : Nat} (hk4 : k < 4) (hgk : g9 0 k ≠ 0) {a b d : Int32} (hbad : a < nI 0 ∨ nI 255 < a ∨ d < nI 0 ∨ nI 60 < d ∨ b < c9 (10 + k) 9) : zc_M l y_Rec_record w_Rec_record { frames := 8, cells := 3, slots := 1574, locals := 199 } 3 1574 D cA te mi ([.ref X, .int (nI k), .int a, .int b, .int d] : List Value) kd ln I L R (zk_P (some (.int (-2))) X te a9 e9 c9 d9 g9 kd ln) := by
  intro sz
  refine Met.ofW (cc := b_Rec_record) (maxL := 7) (ret := (some (.int))) (by decide +kernel) rfl ?_
  intro p e s m args below meth c s₁ B hml hv
  obtain ⟨rfl, hsz, hSc, hE, hH⟩ := hv
  have hx := B.exec
  have hb := B.bytes
  have hr := B.returns
  have hts := atoms_spec (ws := w_Rec_record) B.pre
  have hw : ∀ {w : Cond}, w ∈ zw → w.before ([.ref X, .int (nI k), .int a, .int b, .int d] : List Value).toArray s = true := fun h => hts _ (List.mem_cons_of_mem _ h)
  have hown : s.vm.findClass R_Rec = some m.cls := findClass_of_methodNamed B.named
  have hlocks := B.notSynchronized
  subst hsz
  have hK := hSc.1
  have hH : zh_H D cA (zc_A kd s.heap.size) kd ln I L R s.heap := hH.weaken (fun q h _ => Or.inl h)
  generalize hAe : zc_A kd s.heap.size = A at hH hE ⊢
  have hA : ∀ q : Nat, s.heap.size ≤ q → A q := fun q h => by rw [← hAe]; exact Or.inr h
  have hS : va_S A s.heap s.heap [] := va_S.rf
  have hl := lv_entry ([.ref X, .int (nI k), .int a, .int b, .int d] : List Value) (n := 7) (Nat.le_of_ble_eq_true rfl)
  rw [lg_entry_eq]
  generalize (lg_sl ([.ref X, .int (nI k), .int a, .int b, .int d] : List Value) ++ List.replicate (7 - (lg_sl ([.ref X, .int (nI k), .int a, .int b, .int d] : List Value)).length) Slot.unset).toArray = ls at hl ⊢
  have hl : lv_has ls 7 [(0, .ref X), (1, .int (nI k)), (2, .int a), (3, .int b), (4, .int d)] := hl
  refine lv_aload_n hx hb d_Rec_record_0 rfl (lv_at hl 0 rfl) ?_
  refine lv_iload_n hx hb d_Rec_record_1 rfl (lv_at hl 1 rfl) ?_
  refine zr_V (As := ([.int (nI k)] : List Value)) (rest := []) (b := X) (ci := 0) (q := (R_Rec, T_Rec, 6)) ⟨hx, hb, hml, hown, hts⟩ (c_Rec_madeStore_S hm (by omega) hgk) ⟨(callB_of 1 hts (zg_all zw_195) rfl rfl rfl (hw zw_1) (hw zw_192) k_Rec_madeStore.2 ⟨Nat.le_of_ble_eq_true rfl, Nat.le_of_ble_eq_true rfl⟩), (hw zw_194), (hw zs_Rec_madeStore)⟩ hSc hE hH hS hA rfl (by decide) hm.2.2.1.1 rfl hl.1 rfl (Nat.le_of_ble_eq_true rfl) d_Rec_record_2 ⟨Nat.le_of_ble_eq_true rfl, Nat.le_of_ble_eq_true rfl⟩ (fun v1 kd1 ln1 I1 L1 R1 H locs hp hH hS => ?_)
  obtain ⟨rfl, rfl, rfl, rfl, rfl, rfl⟩ := hp
  refine W.eq (g2 := F0 m 5 ls [.ref (a9 (10 + k))]) rfl ?_
  refine W.widen (k := 0) (n := 0) (by omega) (by omega) ?_
  refine lv_astore (lv' := [(5, .ref (a9 (10 + k))), (0, .ref X), (1, .int (nI k)), (2, .int a), (3, .int b), (4, .int d)]) hx hb d_Rec_record_5 hl (by decide) rfl (fun ls hl => ?_)
  refine lv_aload hx hb d_Rec_record_7 (lv_at hl 0 rfl) ?_
  refine lv_ifnull hx hb d_Rec_record_9 ?_
  refine lv_iload_n hx hb d_Rec_record_12 rfl (lv_at hl 3 rfl) ?_
  refine lv_if_lt (tgt := 23) hx hb d_Rec_record_13 (by decide) (fun hc2 => ?_) (fun hc2 => ?_)
  · skip
    have hc2 : a < (nI 0) := hc2
    refine lv_bipush (v := (-2)) hx hb d_Rec_record_23 (by decide) ?_
    refine W.widen (k := 3) (n := 1574) (Nat.le_of_ble_eq_true rfl) (Nat.le_of_ble_eq_true rfl) ?_
    subst hAe
    exact W.iret (v := (-2)) hx hb hr (fun t ht hW => zc_end hS hH ht (⟨rfl, rfl, rfl, hm⟩)) hS.2.2 d_Rec_record_25
  · skip
    have hc2 : ¬ a < (nI 0) := hc2
    refine lv_iload_n hx hb d_Rec_record_16 rfl (lv_at hl 3 rfl) ?_
    refine lv_sipush (v := nI 255) hx hb d_Rec_record_17 (by decide) ?_
    refine lv_icmp_le (tgt := 26) hx hb d_Rec_record_20 (by decide) (fun hc3 => ?_) (fun hc3 => ?_)
    · skip
      have hc3 : ¬ (nI 255) < a := Int32.not_lt.mpr hc3
      refine lv_iload hx hb d_Rec_record_26 (lv_at hl 5 rfl) ?_
      refine lv_if_lt (tgt := 47) hx hb d_Rec_record_28 (by decide) (fun hc4 => ?_) (fun hc4 => ?_)
      · skip
        have hc4 : d < (nI 0) := hc4
        refine lv_bipush (v := (-2)) hx hb d_Rec_record_47 (by decide) ?_
        refine W.widen (k := 3) (n := 1574) (Nat.le_of_ble_eq_true rfl) (Nat.le_of_ble_eq_true rfl) ?_
        subst hAe
        exact W.iret (v := (-2)) hx hb hr (fun t ht hW => zc_end hS hH ht (⟨rfl, rfl, rfl, hm⟩)) hS.2.2 d_Rec_record_49
      · skip
        have hc4 : ¬ d < (nI 0) := hc4
        refine lv_iload hx hb d_Rec_record_31 (lv_at hl 5 rfl) ?_
        refine lv_bipush (v := nI 60) hx hb d_Rec_record_33 (by decide) ?_
        refine lv_icmp_gt (tgt := 47) hx hb d_Rec_record_35 (by decide) (fun hc5 => ?_) (fun hc5 => ?_)
        · skip
          have hc5 : (nI 60) < d := hc5
          refine lv_bipush (v := (-2)) hx hb d_Rec_record_47 (by decide) ?_
          refine W.widen (k := 3) (n := 1574) (Nat.le_of_ble_eq_true rfl) (Nat.le_of_ble_eq_true rfl) ?_
          subst hAe
          exact W.iret (v := (-2)) hx hb hr (fun t ht hW => zc_end hS hH ht (⟨rfl, rfl, rfl, hm⟩)) hS.2.2 d_Rec_record_49
        · skip
          have hc5 : ¬ (nI 60) < d := hc5
          refine lv_iload_n hx hb d_Rec_record_38 rfl (lv_at hl 4 rfl) ?_
          refine lv_aload hx hb d_Rec_record_39 (lv_at hl 0 rfl) ?_
          refine zr_geti (ci := 2) (C := R_St) (T := T_St) (N := 10) (ref := "ScrubbedRecorder$Store") hx hb hts (fun w h => List.mem_cons_of_mem _ (zin_St w h)) hown hK hH ((zkR_k hm (zk_lv1 (by omega) hgk)).trans (zk_k1 (by omega))) (by decide) rfl 9 (by decide) rfl (hw zw_139) (fun _ h9 => h9) d_Rec_record_41 ?_
          refine zt_i (y := c9 (10 + k) 9) (congrFun (zkR_i hm (zk_lv1 (by omega) hgk)) 9) ?_
          refine lv_icmp_ge (tgt := 50) hx hb d_Rec_record_44 (by decide) (fun hc6 => ?_) (fun hc6 => ?_)
          · skip
            have hc6 : ¬ b < (c9 (10 + k) 9) := Int32.not_lt.mpr hc6
            exact absurd hbad (fun q => q.elim (by assumption) (fun q => q.elim (by assumption) (fun q => q.elim (by assumption) (fun q => q.elim (by assumption) (by assumption)))))
          · skip
            have hc6 : b < (c9 (10 + k) 9) := Int32.not_le.mp hc6
            refine lv_bipush (v := (-2)) hx hb d_Rec_record_47 (by decide) ?_
            refine W.widen (k := 3) (n := 1574) (Nat.le_of_ble_eq_true rfl) (Nat.le_of_ble_eq_true rfl) ?_
            subst hAe
            exact W.iret (v := (-2)) hx hb hr (fun t ht hW => zc_end hS hH ht (⟨rfl, rfl, rfl, hm⟩)) hS.2.2 d_Rec_record_49
    · skip
      have hc3 : (nI 255) < a := Int32.not_le.mp hc3
      refine lv_bipush (v := (-2)) hx hb d_Rec_record_23 (by decide) ?_
      refine W.widen (k := 3) (n := 1574) (Nat.le_of_ble_eq_true rfl) (Nat.le_of_ble_eq_true rfl) ?_
      subst hAe
      exact W.iret (v := (-2)) hx hb hr (fun t ht hW => zc_end hS hH ht (⟨rfl, rfl, rfl, hm⟩)) hS.2.2 d_Rec_record_25

set_option maxHeartbeats 4000000 in
set_option maxRecDepth 100000 in
/-- record -/
theorem c_Rec_record_F {l : Launch} {D : va_G} {cA : Nat → ClassId} {te mi : Nat} {kd ln : Nat → Nat} {I : Nat → Nat → Int32} {L : Nat → Nat → Int64} {R : Nat → Nat → Option Nat} {X : Nat} {a9 e9 : Nat → Nat} {c9 : Nat → Nat → Int32} {d9 : Nat → Nat → Int64} {g9 : Nat → Nat → Nat} (hm : zkR X te a9 e9 c9 d9 g9 kd ln I L R) {k : Nat} (hk4 : k < 4) (hgk : g9 0 k ≠ 0) {n nw cl qu : Nat} {a b : Int32} (hn : n ≤ 60) (ha1 : ¬ a < nI 0) (ha2 : ¬ nI 255 < a) (htb : ¬ b < c9 (10 + k) 9) (hnw : c9 (10 + k) 4 = nI nw) (hnw1 : nw ≤ 16) (hcl : c9 (10 + k) 7 = nI cl) (hcl1 : cl ≤ 40) (hqu : c9 (10 + k) 6 = nI qu) (hqu1 : qu ≤ 40) (hroom : zk_hr (c9 (10 + k) 1) (2 + (n + 3) / 4) nw cl qu = nI 0) : zc_M l y_Rec_record w_Rec_record { frames := 8, cells := 3, slots := 1574, locals := 199 } 3 1574 D cA te mi ([.ref X, .int (nI k), .int a, .int b, .int (nI n)] : List Value) kd ln I L R (zk_P (some (.int (-4))) X te a9 e9 c9 d9 g9 kd ln) := by
  intro sz
  refine Met.ofW (cc := b_Rec_record) (maxL := 7) (ret := (some (.int))) (by decide +kernel) rfl ?_
  intro p e s m args below meth c s₁ B hml hv
  obtain ⟨rfl, hsz, hSc, hE, hH⟩ := hv
  have hx := B.exec
  have hb := B.bytes
  have hr := B.returns
  have hts := atoms_spec (ws := w_Rec_record) B.pre
  have hw : ∀ {w : Cond}, w ∈ zw → w.before ([.ref X, .int (nI k), .int a, .int b, .int (nI n)] : List Value).toArray s = true := fun h => hts _ (List.mem_cons_of_mem _ h)
  have hown : s.vm.findClass R_Rec = some m.cls := findClass_of_methodNamed B.named
  have hlocks := B.notSynchronized
  subst hsz
  have hK := hSc.1
  have hH : zh_H D cA (zc_A kd s.heap.size) kd ln I L R s.heap := hH.weaken (fun q h _ => Or.inl h)
  generalize hAe : zc_A kd s.heap.size = A at hH hE ⊢
  have hA : ∀ q : Nat, s.heap.size ≤ q → A q := fun q h => by rw [← hAe]; exact Or.inr h
  have hS : va_S A s.heap s.heap [] := va_S.rf
  have hl := lv_entry ([.ref X, .int (nI k), .int a, .int b, .int (nI n)] : List Value) (n := 7) (Nat.le_of_ble_eq_true rfl)
  rw [lg_entry_eq]
  generalize (lg_sl ([.ref X, .int (nI k), .int a, .int b, .int (nI n)] : List Value) ++ List.replicate (7 - (lg_sl ([.ref X, .int (nI k), .int a, .int b, .int (nI n)] : List Value)).length) Slot.unset).toArray = ls at hl ⊢
  have hl : lv_has ls 7 [(0, .ref X), (1, .int (nI k)), (2, .int a), (3, .int b), (4, .int (nI n))] := hl
  refine lv_aload_n hx hb d_Rec_record_0 rfl (lv_at hl 0 rfl) ?_
  refine lv_iload_n hx hb d_Rec_record_1 rfl (lv_at hl 1 rfl) ?_
  refine zr_V (As := ([.int (nI k)] : List Value)) (rest := []) (b := X) (ci := 0) (q := (R_Rec, T_Rec, 6)) ⟨hx, hb, hml, hown, hts⟩ (c_Rec_madeStore_S hm (by omega) hgk) ⟨(callB_of 1 hts (zg_all zw_195) rfl rfl rfl (hw zw_1) (hw zw_192) k_Rec_madeStore.2 ⟨Nat.le_of_ble_eq_true rfl, Nat.le_of_ble_eq_true rfl⟩), (hw zw_194), (hw zs_Rec_madeStore)⟩ hSc hE hH hS hA rfl (by decide) hm.2.2.1.1 rfl hl.1 rfl (Nat.le_of_ble_eq_true rfl) d_Rec_record_2 ⟨Nat.le_of_ble_eq_true rfl, Nat.le_of_ble_eq_true rfl⟩ (fun v1 kd1 ln1 I1 L1 R1 H locs hp hH hS => ?_)
  obtain ⟨rfl, rfl, rfl, rfl, rfl, rfl⟩ := hp
  refine W.eq (g2 := F0 m 5 ls [.ref (a9 (10 + k))]) rfl ?_
  refine W.widen (k := 0) (n := 0) (by omega) (by omega) ?_
  refine lv_astore (lv' := [(5, .ref (a9 (10 + k))), (0, .ref X), (1, .int (nI k)), (2, .int a), (3, .int b), (4, .int (nI n))]) hx hb d_Rec_record_5 hl (by decide) rfl (fun ls hl => ?_)
  refine lv_aload hx hb d_Rec_record_7 (lv_at hl 0 rfl) ?_
  refine lv_ifnull hx hb d_Rec_record_9 ?_
  refine lv_iload_n hx hb d_Rec_record_12 rfl (lv_at hl 3 rfl) ?_
  refine lv_if_lt (tgt := 23) hx hb d_Rec_record_13 (by decide) (fun hc2 => ?_) (fun hc2 => ?_)
  · skip
    have hc2 : a < (nI 0) := hc2
    (first | exact absurd hc2 ha1 | exact absurd hc2 ha2 | exact absurd hc2 htb | exact absurd hc2 (by omega))
  · skip
    have hc2 : ¬ a < (nI 0) := hc2
    refine lv_iload_n hx hb d_Rec_record_16 rfl (lv_at hl 3 rfl) ?_
    refine lv_sipush (v := nI 255) hx hb d_Rec_record_17 (by decide) ?_
    refine lv_icmp_le (tgt := 26) hx hb d_Rec_record_20 (by decide) (fun hc3 => ?_) (fun hc3 => ?_)
    · skip
      have hc3 : ¬ (nI 255) < a := Int32.not_lt.mpr hc3
      refine lv_iload hx hb d_Rec_record_26 (lv_at hl 5 rfl) ?_
      refine lv_if_lt (tgt := 47) hx hb d_Rec_record_28 (by decide) (fun hc4 => ?_) (fun hc4 => ?_)
      · skip
        have hc4 := zt_ltT (a := n) (b := 0) (by omega) (by omega) hc4
        (first | exact absurd hc4 ha1 | exact absurd hc4 ha2 | exact absurd hc4 htb | exact absurd hc4 (by omega))
      · skip
        have hc4 := zt_ltF (a := n) (b := 0) (by omega) (by omega) hc4
        refine lv_iload hx hb d_Rec_record_31 (lv_at hl 5 rfl) ?_
        refine lv_bipush (v := nI 60) hx hb d_Rec_record_33 (by decide) ?_
        refine lv_icmp_gt (tgt := 47) hx hb d_Rec_record_35 (by decide) (fun hc5 => ?_) (fun hc5 => ?_)
        · skip
          have hc5 := zt_gtT (a := n) (b := 60) (by omega) (by omega) hc5
          (first | exact absurd hc5 ha1 | exact absurd hc5 ha2 | exact absurd hc5 htb | exact absurd hc5 (by omega))
        · skip
          have hc5 := zt_gtF (a := n) (b := 60) (by omega) (by omega) hc5
          refine lv_iload_n hx hb d_Rec_record_38 rfl (lv_at hl 4 rfl) ?_
          refine lv_aload hx hb d_Rec_record_39 (lv_at hl 0 rfl) ?_
          refine zr_geti (ci := 2) (C := R_St) (T := T_St) (N := 10) (ref := "ScrubbedRecorder$Store") hx hb hts (fun w h => List.mem_cons_of_mem _ (zin_St w h)) hown hK hH ((zkR_k hm (zk_lv1 (by omega) hgk)).trans (zk_k1 (by omega))) (by decide) rfl 9 (by decide) rfl (hw zw_139) (fun _ h9 => h9) d_Rec_record_41 ?_
          refine zt_i (y := c9 (10 + k) 9) (congrFun (zkR_i hm (zk_lv1 (by omega) hgk)) 9) ?_
          refine lv_icmp_ge (tgt := 50) hx hb d_Rec_record_44 (by decide) (fun hc6 => ?_) (fun hc6 => ?_)
          · skip
            have hc6 : ¬ b < (c9 (10 + k) 9) := Int32.not_lt.mpr hc6
            refine lv_aload hx hb d_Rec_record_50 (lv_at hl 0 rfl) ?_
            refine lv_iload hx hb d_Rec_record_52 (lv_at hl 5 rfl) ?_
            refine zr_V (As := ([.int (nI n)] : List Value)) (rest := []) (b := a9 (10 + k)) (ci := 2) (q := (R_St, T_St, 10)) ⟨hx, hb, hml, hown, hts⟩ (c_St_hasRoomFor hm hk4 hgk hn hnw hnw1 hcl hcl1 hqu hqu1) ⟨(callB_of 1 hts (zg_all zw_242) rfl rfl rfl (hw zw_4) (hw zw_239) k_St_hasRoomFor.2 ⟨Nat.le_of_ble_eq_true rfl, Nat.le_of_ble_eq_true rfl⟩), (hw zw_240), (hw zw_241)⟩ hSc hE hH hS hA rfl (by decide) ((zkR_k hm (zk_lv1 (by omega) hgk)).trans (zk_k1 (by omega))) rfl hl.1 rfl (Nat.le_of_ble_eq_true rfl) d_Rec_record_54 ⟨Nat.le_of_ble_eq_true rfl, Nat.le_of_ble_eq_true rfl⟩ (fun v7 kd7 ln7 I7 L7 R7 H locs hp hH hS => ?_)
            obtain ⟨rfl, rfl, rfl, rfl, rfl, rfl⟩ := hp
            refine W.eq (g2 := F0 m 57 ls [.int (zk_hr (c9 (10 + k) 1) (2 + (n + 3) / 4) nw cl qu)]) rfl ?_
            refine W.widen (k := 0) (n := 0) (by omega) (by omega) ?_
            refine zt_i (y := nI 0) (hroom) ?_
            refine lv_if_ne (tgt := 63) hx hb d_Rec_record_57 (by decide) (fun hc8 => ?_) (fun hc8 => ?_)
            · skip
              have hc8 := zt_neT (a := 0) (b := 0) (by omega) (by omega) hc8
              exact absurd hc8 (by omega)
            · skip
              have hc8 := zt_neF (a := 0) (b := 0) (by omega) (by omega) hc8
              refine lv_bipush (v := (-4)) hx hb d_Rec_record_60 (by decide) ?_
              refine W.widen (k := 3) (n := 1574) (Nat.le_of_ble_eq_true rfl) (Nat.le_of_ble_eq_true rfl) ?_
              subst hAe
              exact W.iret (v := (-4)) hx hb hr (fun t ht hW => zc_end hS hH ht (⟨rfl, rfl, rfl, hm⟩)) hS.2.2 d_Rec_record_62
          · skip
            have hc6 : b < (c9 (10 + k) 9) := Int32.not_le.mp hc6
            (first | exact absurd hc6 ha1 | exact absurd hc6 ha2 | exact absurd hc6 htb | exact absurd hc6 (by omega))
    · skip
      have hc3 : (nI 255) < a := Int32.not_le.mp hc3
      (first | exact absurd hc3 ha1 | exact absurd hc3 ha2 | exact absurd hc3 htb | exact absurd hc3 (by omega))

set_option maxHeartbeats 4000000 in
set_option maxRecDepth 100000 in
/-- record -/
theorem c_Rec_record_S {l : Launch} {D : va_G} {cA : Nat → ClassId} {te mi : Nat} {kd ln : Nat → Nat} {I : Nat → Nat → Int32} {L : Nat → Nat → Int64} {R : Nat → Nat → Option Nat} {X : Nat} {a9 e9 : Nat → Nat} {c9 : Nat → Nat → Int32} {d9 : Nat → Nat → Int64} {g9 : Nat → Nat → Nat} (hm : zkR X te a9 e9 c9 d9 g9 kd ln I L R) {k : Nat} (hk4 : k < 4) (hgk : g9 0 k ≠ 0) {n nw cl qu : Nat} {a b : Int32} (hn : n ≤ 60) (ha1 : ¬ a < nI 0) (ha2 : ¬ nI 255 < a) (htb : ¬ b < c9 (10 + k) 9) (hnw : c9 (10 + k) 4 = nI nw) (hnw1 : nw ≤ 16) (hcl : c9 (10 + k) 7 = nI cl) (hcl1 : cl ≤ 40) (hqu : c9 (10 + k) 6 = nI qu) (hqu1 : qu ≤ 40) (hroom : zk_hr (c9 (10 + k) 1) (2 + (n + 3) / 4) nw cl qu = nI 1) (h6 : g9 6 0 = 0) (h39 : ∀ p, p < 4 → g9 3 p ≤ 4) (hby : ∀ i, fits .byte (.int (c9 2 i)) = true) (hok : ∀ w, w < (2 + (n + 3) / 4) → zk_ok k (zk_wn k w (zk_ap0 c9 d9 g9 k a b n))) (hend : zk_fin k (zk_wn k (2 + (n + 3) / 4) (zk_ap0 c9 d9 g9 k a b n))) {c1 : Nat} {C1 : Nat → Nat → Int32} {D1 : Nat → Nat → Int64} {G1 : Nat → Nat → Nat} (hz : zk_ap1 k b (zk_wn k (2 + (n + 3) / 4) (zk_ap0 c9 d9 g9 k a b n)) = (C1, D1, G1)) (hg1 : G1 0 k ≠ 0) (hlo1 : G1 1 k ≤ G1 2 k) (hpgs1 : zk_pgs C1 k c1) : zc_M l y_Rec_record w_Rec_record { frames := 8, cells := 3, slots := 1574, locals := 199 } 3 1574 D cA te mi ([.ref X, .int (nI k), .int a, .int b, .int (nI n)] : List Value) kd ln I L R (zk_A (some (.int ((zk_wn k (2 + (n + 3) / 4) (zk_ap0 c9 d9 g9 k a b n)).1 96 2))) X te a9 (zk_prn k c1 (C1, D1, G1)).1 (zk_prn k c1 (C1, D1, G1)).2.1 (zk_prn k c1 (C1, D1, G1)).2.2) := by
  intro sz
  refine Met.ofW (cc := b_Rec_record) (maxL := 7) (ret := (some (.int))) (by decide +kernel) rfl ?_
  intro p e s m args below meth c s₁ B hml hv
  obtain ⟨rfl, hsz, hSc, hE, hH⟩ := hv
  have hx := B.exec
  have hb := B.bytes
  have hr := B.returns
  have hts := atoms_spec (ws := w_Rec_record) B.pre
  have hw : ∀ {w : Cond}, w ∈ zw → w.before ([.ref X, .int (nI k), .int a, .int b, .int (nI n)] : List Value).toArray s = true := fun h => hts _ (List.mem_cons_of_mem _ h)
  have hown : s.vm.findClass R_Rec = some m.cls := findClass_of_methodNamed B.named
  have hlocks := B.notSynchronized
  subst hsz
  have hK := hSc.1
  have hH : zh_H D cA (zc_A kd s.heap.size) kd ln I L R s.heap := hH.weaken (fun q h _ => Or.inl h)
  generalize hAe : zc_A kd s.heap.size = A at hH hE ⊢
  have hA : ∀ q : Nat, s.heap.size ≤ q → A q := fun q h => by rw [← hAe]; exact Or.inr h
  have hS : va_S A s.heap s.heap [] := va_S.rf
  have hl := lv_entry ([.ref X, .int (nI k), .int a, .int b, .int (nI n)] : List Value) (n := 7) (Nat.le_of_ble_eq_true rfl)
  rw [lg_entry_eq]
  generalize (lg_sl ([.ref X, .int (nI k), .int a, .int b, .int (nI n)] : List Value) ++ List.replicate (7 - (lg_sl ([.ref X, .int (nI k), .int a, .int b, .int (nI n)] : List Value)).length) Slot.unset).toArray = ls at hl ⊢
  have hl : lv_has ls 7 [(0, .ref X), (1, .int (nI k)), (2, .int a), (3, .int b), (4, .int (nI n))] := hl
  refine lv_aload_n hx hb d_Rec_record_0 rfl (lv_at hl 0 rfl) ?_
  refine lv_iload_n hx hb d_Rec_record_1 rfl (lv_at hl 1 rfl) ?_
  refine zr_V (As := ([.int (nI k)] : List Value)) (rest := []) (b := X) (ci := 0) (q := (R_Rec, T_Rec, 6)) ⟨hx, hb, hml, hown, hts⟩ (c_Rec_madeStore_S hm (by omega) hgk) ⟨(callB_of 1 hts (zg_all zw_195) rfl rfl rfl (hw zw_1) (hw zw_192) k_Rec_madeStore.2 ⟨Nat.le_of_ble_eq_true rfl, Nat.le_of_ble_eq_true rfl⟩), (hw zw_194), (hw zs_Rec_madeStore)⟩ hSc hE hH hS hA rfl (by decide) hm.2.2.1.1 rfl hl.1 rfl (Nat.le_of_ble_eq_true rfl) d_Rec_record_2 ⟨Nat.le_of_ble_eq_true rfl, Nat.le_of_ble_eq_true rfl⟩ (fun v1 kd1 ln1 I1 L1 R1 H locs hp hH hS => ?_)
  obtain ⟨rfl, rfl, rfl, rfl, rfl, rfl⟩ := hp
  refine W.eq (g2 := F0 m 5 ls [.ref (a9 (10 + k))]) rfl ?_
  refine W.widen (k := 0) (n := 0) (by omega) (by omega) ?_
  refine lv_astore (lv' := [(5, .ref (a9 (10 + k))), (0, .ref X), (1, .int (nI k)), (2, .int a), (3, .int b), (4, .int (nI n))]) hx hb d_Rec_record_5 hl (by decide) rfl (fun ls hl => ?_)
  refine lv_aload hx hb d_Rec_record_7 (lv_at hl 0 rfl) ?_
  refine lv_ifnull hx hb d_Rec_record_9 ?_
  refine lv_iload_n hx hb d_Rec_record_12 rfl (lv_at hl 3 rfl) ?_
  refine lv_if_lt (tgt := 23) hx hb d_Rec_record_13 (by decide) (fun hc2 => ?_) (fun hc2 => ?_)
  · skip
    have hc2 : a < (nI 0) := hc2
    (first | exact absurd hc2 ha1 | exact absurd hc2 ha2 | exact absurd hc2 htb | exact absurd hc2 (by omega))
  · skip
    have hc2 : ¬ a < (nI 0) := hc2
    refine lv_iload_n hx hb d_Rec_record_16 rfl (lv_at hl 3 rfl) ?_
    refine lv_sipush (v := nI 255) hx hb d_Rec_record_17 (by decide) ?_
    refine lv_icmp_le (tgt := 26) hx hb d_Rec_record_20 (by decide) (fun hc3 => ?_) (fun hc3 => ?_)
    · skip
      have hc3 : ¬ (nI 255) < a := Int32.not_lt.mpr hc3
      refine lv_iload hx hb d_Rec_record_26 (lv_at hl 5 rfl) ?_
      refine lv_if_lt (tgt := 47) hx hb d_Rec_record_28 (by decide) (fun hc4 => ?_) (fun hc4 => ?_)
      · skip
        have hc4 := zt_ltT (a := n) (b := 0) (by omega) (by omega) hc4
        (first | exact absurd hc4 ha1 | exact absurd hc4 ha2 | exact absurd hc4 htb | exact absurd hc4 (by omega))
      · skip
        have hc4 := zt_ltF (a := n) (b := 0) (by omega) (by omega) hc4
        refine lv_iload hx hb d_Rec_record_31 (lv_at hl 5 rfl) ?_
        refine lv_bipush (v := nI 60) hx hb d_Rec_record_33 (by decide) ?_
        refine lv_icmp_gt (tgt := 47) hx hb d_Rec_record_35 (by decide) (fun hc5 => ?_) (fun hc5 => ?_)
        · skip
          have hc5 := zt_gtT (a := n) (b := 60) (by omega) (by omega) hc5
          (first | exact absurd hc5 ha1 | exact absurd hc5 ha2 | exact absurd hc5 htb | exact absurd hc5 (by omega))
        · skip
          have hc5 := zt_gtF (a := n) (b := 60) (by omega) (by omega) hc5
          refine lv_iload_n hx hb d_Rec_record_38 rfl (lv_at hl 4 rfl) ?_
          refine lv_aload hx hb d_Rec_record_39 (lv_at hl 0 rfl) ?_
          refine zr_geti (ci := 2) (C := R_St) (T := T_St) (N := 10) (ref := "ScrubbedRecorder$Store") hx hb hts (fun w h => List.mem_cons_of_mem _ (zin_St w h)) hown hK hH ((zkR_k hm (zk_lv1 (by omega) hgk)).trans (zk_k1 (by omega))) (by decide) rfl 9 (by decide) rfl (hw zw_139) (fun _ h9 => h9) d_Rec_record_41 ?_
          refine zt_i (y := c9 (10 + k) 9) (congrFun (zkR_i hm (zk_lv1 (by omega) hgk)) 9) ?_
          refine lv_icmp_ge (tgt := 50) hx hb d_Rec_record_44 (by decide) (fun hc6 => ?_) (fun hc6 => ?_)
          · skip
            have hc6 : ¬ b < (c9 (10 + k) 9) := Int32.not_lt.mpr hc6
            refine lv_aload hx hb d_Rec_record_50 (lv_at hl 0 rfl) ?_
            refine lv_iload hx hb d_Rec_record_52 (lv_at hl 5 rfl) ?_
            refine zr_V (As := ([.int (nI n)] : List Value)) (rest := []) (b := a9 (10 + k)) (ci := 2) (q := (R_St, T_St, 10)) ⟨hx, hb, hml, hown, hts⟩ (c_St_hasRoomFor hm hk4 hgk hn hnw hnw1 hcl hcl1 hqu hqu1) ⟨(callB_of 1 hts (zg_all zw_242) rfl rfl rfl (hw zw_4) (hw zw_239) k_St_hasRoomFor.2 ⟨Nat.le_of_ble_eq_true rfl, Nat.le_of_ble_eq_true rfl⟩), (hw zw_240), (hw zw_241)⟩ hSc hE hH hS hA rfl (by decide) ((zkR_k hm (zk_lv1 (by omega) hgk)).trans (zk_k1 (by omega))) rfl hl.1 rfl (Nat.le_of_ble_eq_true rfl) d_Rec_record_54 ⟨Nat.le_of_ble_eq_true rfl, Nat.le_of_ble_eq_true rfl⟩ (fun v7 kd7 ln7 I7 L7 R7 H locs hp hH hS => ?_)
            obtain ⟨rfl, rfl, rfl, rfl, rfl, rfl⟩ := hp
            refine W.eq (g2 := F0 m 57 ls [.int (zk_hr (c9 (10 + k) 1) (2 + (n + 3) / 4) nw cl qu)]) rfl ?_
            refine W.widen (k := 0) (n := 0) (by omega) (by omega) ?_
            refine zt_i (y := nI 1) (hroom) ?_
            refine lv_if_ne (tgt := 63) hx hb d_Rec_record_57 (by decide) (fun hc8 => ?_) (fun hc8 => ?_)
            · skip
              have hc8 := zt_neT (a := 1) (b := 0) (by omega) (by omega) hc8
              refine lv_aload hx hb d_Rec_record_63 (lv_at hl 0 rfl) ?_
              refine lv_iload_n hx hb d_Rec_record_65 rfl (lv_at hl 3 rfl) ?_
              refine lv_iload_n hx hb d_Rec_record_66 rfl (lv_at hl 4 rfl) ?_
              refine lv_aload_n hx hb d_Rec_record_67 rfl (lv_at hl 1 rfl) ?_
              refine zr_getr (ci := 0) (C := R_Rec) (T := T_Rec) (N := 6) (ref := "ScrubbedRecorder") hx hb hts (fun w h => List.mem_cons_of_mem _ (zin_Rec w h)) hown hK hH hm.2.2.1.1 (by decide) rfl 3 (by decide) rfl (hw zw_67) (fun _ h9 => h9) d_Rec_record_68 hm.2.2.1.2.2.2.2.1 ?_
              refine lv_iload hx hb d_Rec_record_71 (lv_at hl 5 rfl) ?_
              refine zr_V (As := ([.int a, .int b, .ref (a9 2), .int (nI n)] : List Value)) (rest := []) (b := a9 (10 + k)) (ci := 2) (q := (R_St, T_St, 10)) ⟨hx, hb, hml, hown, hts⟩ (c_St_append hm hk4 hgk hn h6 h39 hby hok hend) ⟨(callB_of 4 hts (zg_all zw_252) rfl rfl rfl (hw zw_4) (hw zw_249) k_St_append.2 ⟨Nat.le_of_ble_eq_true rfl, Nat.le_of_ble_eq_true rfl⟩), (hw zw_250), (hw zw_251)⟩ hSc hE hH hS hA rfl (by decide) ((zkR_k hm (zk_lv1 (by omega) hgk)).trans (zk_k1 (by omega))) rfl hl.1 rfl (Nat.le_of_ble_eq_true rfl) d_Rec_record_73 ⟨Nat.le_of_ble_eq_true rfl, Nat.le_of_ble_eq_true rfl⟩ (fun v9 kd9 ln9 I9 L9 R9 H locs hp hH hS => ?_)
              obtain ⟨rfl, a1, e1, ha8, hm⟩ := hp
              rw [hz] at hm
              rw [← ha8 (10 + k) (by omega)] at hl
              refine W.eq (g2 := F0 m 76 ls [.int ((zk_wn k (2 + (n + 3) / 4) (zk_ap0 c9 d9 g9 k a b n)).1 96 2)]) rfl ?_
              refine W.widen (k := 3) (n := 1574) (by omega) (by omega) ?_
              refine lv_istore (lv' := [(6, .int ((zk_wn k (2 + (n + 3) / 4) (zk_ap0 c9 d9 g9 k a b n)).1 96 2)), (5, .ref (a1 (10 + k))), (0, .ref X), (1, .int (nI k)), (2, .int a), (3, .int b), (4, .int (nI n))]) hx hb d_Rec_record_76 hl (by decide) rfl (fun ls hl => ?_)
              refine lv_aload hx hb d_Rec_record_78 (lv_at hl 1 rfl) ?_
              refine zr_V (As := ([] : List Value)) (rest := []) (b := a1 (10 + k)) (ci := 2) (q := (R_St, T_St, 10)) ⟨hx, hb, hml, hown, hts⟩ (c_St_prune hm hk4 hg1 hlo1 hpgs1) ⟨(callB_of 0 hts (zg_all zw_358) rfl rfl rfl (hw zw_4) (hw zw_355) k_St_prune.2 ⟨Nat.le_of_ble_eq_true rfl, Nat.le_of_ble_eq_true rfl⟩), (hw zw_356), (hw zw_357)⟩ hSc hE hH hS hA rfl (by decide) ((zkR_k hm (zk_lv1 (by omega) hg1)).trans (zk_k1 (by omega))) rfl hl.1 rfl (Nat.le_of_ble_eq_true rfl) d_Rec_record_80 ⟨Nat.le_of_ble_eq_true rfl, Nat.le_of_ble_eq_true rfl⟩ (fun v10 kd10 ln10 I10 L10 R10 H locs hp hH hS => ?_)
              obtain ⟨rfl, rfl, rfl, hm⟩ := hp
              refine W.eq (g2 := F0 m 83 ls []) rfl ?_
              refine W.widen (k := 3) (n := 1574) (by omega) (by omega) ?_
              refine lv_iload hx hb d_Rec_record_83 (lv_at hl 0 rfl) ?_
              refine W.widen (k := 3) (n := 1574) (Nat.le_of_ble_eq_true rfl) (Nat.le_of_ble_eq_true rfl) ?_
              subst hAe
              exact W.iret (v := (zk_wn k (2 + (n + 3) / 4) (zk_ap0 c9 d9 g9 k a b n)).1 96 2) hx hb hr (fun t ht hW => zc_end hS hH ht (⟨rfl, a1, e1, ha8, hm⟩)) hS.2.2 d_Rec_record_85
            · skip
              have hc8 := zt_neF (a := 1) (b := 0) (by omega) (by omega) hc8
              exact absurd hc8 (by omega)
          · skip
            have hc6 : b < (c9 (10 + k) 9) := Int32.not_le.mp hc6
            (first | exact absurd hc6 ha1 | exact absurd hc6 ha2 | exact absurd hc6 htb | exact absurd hc6 (by omega))
    · skip
      have hc3 : (nI 255) < a := Int32.not_le.mp hc3
      (first | exact absurd hc3 ha1 | exact absurd hc3 ha2 | exact absurd hc3 htb | exact absurd hc3 (by omega))

set_option maxHeartbeats 4000000 in
set_option maxRecDepth 100000 in
/-- dropStore -/
theorem c_Rec_dropStore {l : Launch} {D : va_G} {cA : Nat → ClassId} {te mi : Nat} {kd ln : Nat → Nat} {I : Nat → Nat → Int32} {L : Nat → Nat → Int64} {R : Nat → Nat → Option Nat} {X : Nat} {a9 e9 : Nat → Nat} {c9 : Nat → Nat → Int32} {d9 : Nat → Nat → Int64} {g9 : Nat → Nat → Nat} (hm : zkR X te a9 e9 c9 d9 g9 kd ln I L R) {k : Nat} (hk4 : k < 4) (hgk : g9 0 k ≠ 0) {cl : Nat} {C1 : Nat → Nat → Int32} {D1 : Nat → Nat → Int64} {G1 : Nat → Nat → Nat} (hlo : g9 1 k ≤ g9 2 k) (hpgs : zk_pgs c9 k cl) (hz : zk_da k cl (c9, d9, g9) = (C1, D1, G1)) (hg1 : G1 0 k ≠ 0) (hpl1 : zk_pl G1) (hbo : (∀ k8 x, k8 < 4 → (zu (zk_cl G1 k 4) 0 k 0) 0 k8 ≠ 0 → (zu (zk_cl G1 k 4) 0 k 0) 1 k8 ≤ x → x < (zu (zk_cl G1 k 4) 0 k 0) 2 k8 → C1 (zk_p k8 x) 5 = nI 0 ∨ C1 (zk_p k8 x) 5 = nI 1)) (hlo2 : (∀ k8, k8 < 4 → (zu (zk_cl G1 k 4) 0 k 0) 0 k8 ≠ 0 → (zu (zk_cl G1 k 4) 0 k 0) 1 k8 ≤ (zu (zk_cl G1 k 4) 0 k 0) 2 k8)) : zc_M l y_Rec_dropStore w_Rec_dropStore { frames := 5, cells := 0, slots := 0, locals := 129 } 0 0 D cA te mi ([.ref X, .int (nI k)] : List Value) kd ln I L R (zk_P (some (.int (nI 1))) X te a9 e9 (zk_sva C1 (zu (zk_cl G1 k 4) 0 k 0) 4) D1 (zu (zk_cl G1 k 4) 0 k 0) kd ln) := by
  intro sz
  refine Met.ofW (cc := b_Rec_dropStore) (maxL := 3) (ret := (some (.boolean))) (by decide +kernel) rfl ?_
  intro p e s m args below meth c s₁ B hml hv
  obtain ⟨rfl, hsz, hSc, hE, hH⟩ := hv
  have hx := B.exec
  have hb := B.bytes
  have hr := B.returns
  have hts := atoms_spec (ws := w_Rec_dropStore) B.pre
  have hw : ∀ {w : Cond}, w ∈ zw → w.before ([.ref X, .int (nI k)] : List Value).toArray s = true := fun h => hts _ (List.mem_cons_of_mem _ h)
  have hown : s.vm.findClass R_Rec = some m.cls := findClass_of_methodNamed B.named
  have hlocks := B.notSynchronized
  subst hsz
  have hK := hSc.1
  have hH : zh_H D cA (zc_A kd s.heap.size) kd ln I L R s.heap := hH.weaken (fun q h _ => Or.inl h)
  generalize hAe : zc_A kd s.heap.size = A at hH hE ⊢
  have hA : ∀ q : Nat, s.heap.size ≤ q → A q := fun q h => by rw [← hAe]; exact Or.inr h
  have hS : va_S A s.heap s.heap [] := va_S.rf
  have hl := lv_entry ([.ref X, .int (nI k)] : List Value) (n := 3) (Nat.le_of_ble_eq_true rfl)
  rw [lg_entry_eq]
  generalize (lg_sl ([.ref X, .int (nI k)] : List Value) ++ List.replicate (3 - (lg_sl ([.ref X, .int (nI k)] : List Value)).length) Slot.unset).toArray = ls at hl ⊢
  have hl : lv_has ls 3 [(0, .ref X), (1, .int (nI k))] := hl
  refine lv_aload_n hx hb d_Rec_dropStore_0 rfl (lv_at hl 0 rfl) ?_
  refine lv_iload_n hx hb d_Rec_dropStore_1 rfl (lv_at hl 1 rfl) ?_
  refine zr_V (As := ([.int (nI k)] : List Value)) (rest := []) (b := X) (ci := 0) (q := (R_Rec, T_Rec, 6)) ⟨hx, hb, hml, hown, hts⟩ (c_Rec_madeStore_S hm (by omega) hgk) ⟨(callB_of 1 hts (zg_all zw_195) rfl rfl rfl (hw zw_1) (hw zw_192) k_Rec_madeStore.2 ⟨Nat.le_of_ble_eq_true rfl, Nat.le_of_ble_eq_true rfl⟩), (hw zw_194), (hw zs_Rec_madeStore)⟩ hSc hE hH hS hA rfl (by decide) hm.2.2.1.1 rfl hl.1 rfl (Nat.le_of_ble_eq_true rfl) d_Rec_dropStore_2 ⟨Nat.le_of_ble_eq_true rfl, Nat.le_of_ble_eq_true rfl⟩ (fun v1 kd1 ln1 I1 L1 R1 H locs hp hH hS => ?_)
  obtain ⟨rfl, rfl, rfl, rfl, rfl, rfl⟩ := hp
  refine W.eq (g2 := F0 m 5 ls [.ref (a9 (10 + k))]) rfl ?_
  refine W.widen (k := 0) (n := 0) (by omega) (by omega) ?_
  refine lv_astore_n (lv' := [(2, .ref (a9 (10 + k))), (0, .ref X), (1, .int (nI k))]) hx hb d_Rec_dropStore_5 rfl hl (by decide) rfl (fun ls hl => ?_)
  refine lv_aload_n hx hb d_Rec_dropStore_6 rfl (lv_at hl 0 rfl) ?_
  refine lv_ifnonnull (tgt := 12) hx hb d_Rec_dropStore_7 (by decide) ?_
  refine lv_aload_n hx hb d_Rec_dropStore_12 rfl (lv_at hl 0 rfl) ?_
  refine zr_V (As := ([] : List Value)) (rest := []) (b := a9 (10 + k)) (ci := 2) (q := (R_St, T_St, 10)) ⟨hx, hb, hml, hown, hts⟩ (c_St_freeAllPages hm hk4 hgk hlo hpgs) ⟨(callB_of 0 hts (zg_all zw_199) rfl rfl rfl (hw zw_4) (hw zw_196) k_St_freeAllPages.2 ⟨Nat.le_of_ble_eq_true rfl, Nat.le_of_ble_eq_true rfl⟩), (hw zw_197), (hw zw_198)⟩ hSc hE hH hS hA rfl (by decide) ((zkR_k hm (zk_lv1 (by omega) hgk)).trans (zk_k1 (by omega))) rfl hl.1 rfl (Nat.le_of_ble_eq_true rfl) d_Rec_dropStore_13 ⟨Nat.le_of_ble_eq_true rfl, Nat.le_of_ble_eq_true rfl⟩ (fun v2 kd2 ln2 I2 L2 R2 H locs hp hH hS => ?_)
  obtain ⟨rfl, rfl, rfl, hm⟩ := hp
  refine W.eq (g2 := F0 m 16 ls []) rfl ?_
  refine W.widen (k := 0) (n := 0) (by omega) (by omega) ?_
  rw [hz] at hm
  refine lv_aload_n hx hb d_Rec_dropStore_16 rfl (lv_at hl 1 rfl) ?_
  refine lv_aload_n hx hb d_Rec_dropStore_17 rfl (lv_at hl 0 rfl) ?_
  refine zr_V (As := ([.ref (a9 (10 + k))] : List Value)) (rest := []) (b := X) (ci := 0) (q := (R_Rec, T_Rec, 6)) ⟨hx, hb, hml, hown, hts⟩ (c_Rec_closePlaybacksOf hm hk4 hg1 hpl1) ⟨(callB_of 1 hts (zg_all zw_227) rfl rfl rfl (hw zw_1) (hw zw_224) k_Rec_closePlaybacksOf.2 ⟨Nat.le_of_ble_eq_true rfl, Nat.le_of_ble_eq_true rfl⟩), (hw zw_226), (hw zs_Rec_closePlaybacksOf)⟩ hSc hE hH hS hA rfl (by decide) hm.2.2.1.1 rfl hl.1 rfl (Nat.le_of_ble_eq_true rfl) d_Rec_dropStore_18 ⟨Nat.le_of_ble_eq_true rfl, Nat.le_of_ble_eq_true rfl⟩ (fun v3 kd3 ln3 I3 L3 R3 H locs hp hH hS => ?_)
  obtain ⟨rfl, rfl, rfl, hm⟩ := hp
  refine W.eq (g2 := F0 m 21 ls []) rfl ?_
  refine W.widen (k := 0) (n := 0) (by omega) (by omega) ?_
  refine lv_aload_n hx hb d_Rec_dropStore_21 rfl (lv_at hl 1 rfl) ?_
  refine zr_getr (ci := 0) (C := R_Rec) (T := T_Rec) (N := 6) (ref := "ScrubbedRecorder") hx hb hts (fun w h => List.mem_cons_of_mem _ (zin_Rec w h)) hown hK hH hm.2.2.1.1 (by decide) rfl 1 (by decide) rfl (hw zw_65) (fun _ h9 => h9) d_Rec_dropStore_22 hm.2.2.1.2.2.1 ?_
  refine lv_iload_n hx hb d_Rec_dropStore_25 rfl (lv_at hl 2 rfl) ?_
  refine lv_null hx hb d_Rec_dropStore_26 ?_
  refine zr_astN (t := 5) (j := k) hx hb (by decide) (by decide) rfl hK hH hS (show kd (a9 4) = 105 from zkR_k hm (zk_lv0 (by decide))) (by rw [show ln (a9 4) = 4 from zkR_n hm (zk_lv0 (by decide)) (by decide)]; exact zh_ix_n (by omega) (by omega)) d_Rec_dropStore_27 (fun H locs hH hS => ?_)
  have hm := zkR_sz hm (show k < 4 by omega)
  generalize zu R3 (a9 4) k none = R4 at hm hH
  refine lv_aload_n hx hb d_Rec_dropStore_28 rfl (lv_at hl 1 rfl) ?_
  refine zr_V (As := ([] : List Value)) (rest := []) (b := X) (ci := 0) (q := (R_Rec, T_Rec, 6)) ⟨hx, hb, hml, hown, hts⟩ (c_Rec_saveAll hm hbo hlo2) ⟨(callB_of 0 hts (zg_all zw_164) rfl rfl rfl (hw zw_1) (hw zw_161) k_Rec_saveAll.2 ⟨Nat.le_of_ble_eq_true rfl, Nat.le_of_ble_eq_true rfl⟩), (hw zw_163), (hw zs_Rec_saveAll)⟩ hSc hE hH hS hA rfl (by decide) hm.2.2.1.1 rfl hl.1 rfl (Nat.le_of_ble_eq_true rfl) d_Rec_dropStore_29 ⟨Nat.le_of_ble_eq_true rfl, Nat.le_of_ble_eq_true rfl⟩ (fun v5 kd5 ln5 I5 L5 R5 H locs hp hH hS => ?_)
  obtain ⟨rfl, rfl, rfl, hm⟩ := hp
  refine W.eq (g2 := F0 m 32 ls []) rfl ?_
  refine W.widen (k := 0) (n := 0) (by omega) (by omega) ?_
  refine lv_iconst (v := nI 1) hx hb d_Rec_dropStore_32 (by decide) ?_
  refine W.widen (k := 0) (n := 0) (Nat.le_of_ble_eq_true rfl) (Nat.le_of_ble_eq_true rfl) ?_
  subst hAe
  exact W.zret (v := nI 1) hx hb hr (by decide +kernel) (fun t ht hW => zc_end hS hH ht (⟨rfl, rfl, rfl, hm⟩)) hS.2.2 d_Rec_dropStore_33

set_option maxHeartbeats 4000000 in
set_option maxRecDepth 100000 in
/-- dropStore, of none -/
theorem c_Rec_dropStore_N {l : Launch} {D : va_G} {cA : Nat → ClassId} {te mi : Nat} {kd ln : Nat → Nat} {I : Nat → Nat → Int32} {L : Nat → Nat → Int64} {R : Nat → Nat → Option Nat} {X : Nat} {a9 e9 : Nat → Nat} {c9 : Nat → Nat → Int32} {d9 : Nat → Nat → Int64} {g9 : Nat → Nat → Nat} (hm : zkR X te a9 e9 c9 d9 g9 kd ln I L R) {x : Int32} (hmd : zk_md g9 x = none) : zc_M l y_Rec_dropStore w_Rec_dropStore { frames := 5, cells := 0, slots := 0, locals := 129 } 0 0 D cA te mi ([.ref X, .int x] : List Value) kd ln I L R (zk_P (some (.int (nI 0))) X te a9 e9 c9 d9 g9 kd ln) := by
  intro sz
  refine Met.ofW (cc := b_Rec_dropStore) (maxL := 3) (ret := (some (.boolean))) (by decide +kernel) rfl ?_
  intro p e s m args below meth c s₁ B hml hv
  obtain ⟨rfl, hsz, hSc, hE, hH⟩ := hv
  have hx := B.exec
  have hb := B.bytes
  have hr := B.returns
  have hts := atoms_spec (ws := w_Rec_dropStore) B.pre
  have hw : ∀ {w : Cond}, w ∈ zw → w.before ([.ref X, .int x] : List Value).toArray s = true := fun h => hts _ (List.mem_cons_of_mem _ h)
  have hown : s.vm.findClass R_Rec = some m.cls := findClass_of_methodNamed B.named
  have hlocks := B.notSynchronized
  subst hsz
  have hK := hSc.1
  have hH : zh_H D cA (zc_A kd s.heap.size) kd ln I L R s.heap := hH.weaken (fun q h _ => Or.inl h)
  generalize hAe : zc_A kd s.heap.size = A at hH hE ⊢
  have hA : ∀ q : Nat, s.heap.size ≤ q → A q := fun q h => by rw [← hAe]; exact Or.inr h
  have hS : va_S A s.heap s.heap [] := va_S.rf
  have hl := lv_entry ([.ref X, .int x] : List Value) (n := 3) (Nat.le_of_ble_eq_true rfl)
  rw [lg_entry_eq]
  generalize (lg_sl ([.ref X, .int x] : List Value) ++ List.replicate (3 - (lg_sl ([.ref X, .int x] : List Value)).length) Slot.unset).toArray = ls at hl ⊢
  have hl : lv_has ls 3 [(0, .ref X), (1, .int x)] := hl
  refine lv_aload_n hx hb d_Rec_dropStore_0 rfl (lv_at hl 0 rfl) ?_
  refine lv_iload_n hx hb d_Rec_dropStore_1 rfl (lv_at hl 1 rfl) ?_
  refine zr_V (As := ([.int x] : List Value)) (rest := []) (b := X) (ci := 0) (q := (R_Rec, T_Rec, 6)) ⟨hx, hb, hml, hown, hts⟩ (c_Rec_madeStore_N hm hmd) ⟨(callB_of 1 hts (zg_all zw_195) rfl rfl rfl (hw zw_1) (hw zw_192) k_Rec_madeStore.2 ⟨Nat.le_of_ble_eq_true rfl, Nat.le_of_ble_eq_true rfl⟩), (hw zw_194), (hw zs_Rec_madeStore)⟩ hSc hE hH hS hA rfl (by decide) hm.2.2.1.1 rfl hl.1 rfl (Nat.le_of_ble_eq_true rfl) d_Rec_dropStore_2 ⟨Nat.le_of_ble_eq_true rfl, Nat.le_of_ble_eq_true rfl⟩ (fun v1 kd1 ln1 I1 L1 R1 H locs hp hH hS => ?_)
  obtain ⟨rfl, rfl, rfl, rfl, rfl, rfl⟩ := hp
  refine W.eq (g2 := F0 m 5 ls [.null]) rfl ?_
  refine W.widen (k := 0) (n := 0) (by omega) (by omega) ?_
  refine lv_astore_nN (lv' := [(2, .null), (0, .ref X), (1, .int x)]) hx hb d_Rec_dropStore_5 rfl hl (by decide) rfl (fun ls hl => ?_)
  refine lv_aload_nN hx hb d_Rec_dropStore_6 rfl (lv_at hl 0 rfl) ?_
  refine lv_ifnonnullN hx hb d_Rec_dropStore_7 ?_
  refine lv_iconst (v := nI 0) hx hb d_Rec_dropStore_10 (by decide) ?_
  refine W.widen (k := 0) (n := 0) (Nat.le_of_ble_eq_true rfl) (Nat.le_of_ble_eq_true rfl) ?_
  subst hAe
  exact W.zret (v := nI 0) hx hb hr (by decide +kernel) (fun t ht hW => zc_end hS hH ht (⟨rfl, rfl, rfl, hm⟩)) hS.2.2 d_Rec_dropStore_11
