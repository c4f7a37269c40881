theorem zo_fd_c {m9 n9 : Nat → Nat → Int32} (h1 : m9 16 = n9 16) (h2 : m9 17 = n9 17) (x y : Int32) : ∀ n, zo_fd m9 x y n = zo_fd n9 x y n
  | 0 => rfl
  | n + 1 => by rw [zo_fd, zo_fd, h1, h2, zo_fd_c h1 h2 x y n]
theorem zo_lt_c {m9 n9 : Nat → Nat → Int32} (h1 : m9 16 = n9 16) (h2 : m9 17 = n9 17) (x : Int32) : ∀ n, zo_lt m9 x n = zo_lt n9 x n
  | 0 => rfl
  | n + 1 => by rw [zo_lt, zo_lt, h1, h2, zo_lt_c h1 h2 x n]
/-- two rows made anew below n -/
def zo_two (m9 : Nat → Nat → Int32) (r1 r2 : Nat) (g1 g2 : Nat → Int32) (n : Nat) : Nat → Nat → Int32 := va_up (va_up m9 r1 (zo_map (m9 r1) g1 n)) r2 (zo_map (m9 r2) g2 n)
theorem zo_two_0 (m9 : Nat → Nat → Int32) (r1 r2 : Nat) (g1 g2 : Nat → Int32) : zo_two m9 r1 r2 g1 g2 0 = m9 := by
  unfold zo_two
  rw [zo_map_0]
  exact zo_map_0 m9 r2 _
theorem zo_two_s {m9 : Nat → Nat → Int32} {r1 r2 : Nat} {g1 g2 : Nat → Int32} {n : Nat} {u v : Int32} (hr : r1 ≠ r2) (h1 : g1 n = u) (h2 : g2 n = v) : zu (zu (zo_two m9 r1 r2 g1 g2 n) r1 n u) r2 n v = zo_two m9 r1 r2 g1 g2 (n + 1) := by
  unfold zo_two
  rw [zu_upc _ _ _ _ hr, ← h1, zo_map_s, ← h2, zo_map_s]
theorem zo_two_r {m9 : Nat → Nat → Int32} {r1 r2 : Nat} {g1 g2 : Nat → Int32} {n r : Nat} (h1 : r ≠ r1) (h2 : r ≠ r2) : zo_two m9 r1 r2 g1 g2 n r = m9 r := by
  unfold zo_two
  rw [va_up_ne _ _ h2, va_up_ne _ _ h1]
def zo_ck (m9 : Nat → Nat → Int32) (k : Nat) : Int32 := if zo_fd m9 (nI k) (zo_lt m9 (nI k) 280) 280 < nI 0 then nI 0 else m9 19 (zo_fd m9 (nI k) (zo_lt m9 (nI k) 280) 280).toNatClampNeg
def zo_rs1 (m9 : Nat → Nat → Int32) (n : Nat) : Nat → Nat → Int32 := zo_two m9 22 24 (m9 23) (fun _ => nI 0) n
def zo_rs2 (m9 : Nat → Nat → Int32) (n : Nat) : Nat → Nat → Int32 := zo_two m9 11 27 (zo_ck m9) (fun _ => (-1)) n
def zo_rs (m9 : Nat → Nat → Int32) : Nat → Nat → Int32 := zu (zu (zo_rs2 (zo_rs1 m9 280) 4) 40 35 (-1)) 40 6 (nI 0)

set_option maxHeartbeats 4000000 in
set_option maxRecDepth 100000 in
/-- reset -/
theorem c_Mod_reset {l : Launch} {D : va_G} {cA : Nat → ClassId} {te mi : Nat} {kd ln : Nat → Nat} {I : Nat → Nat → Int32} {L : Nat → Nat → Int64} {R : Nat → Nat → Option Nat} {X : Nat} {ad : Nat → Nat} {m9 : Nat → Nat → Int32} {q9 : Nat → Nat → Int64} (hm : zoR X ad m9 q9 kd ln I L R) (hsv : ∀ t, t < 280 → m9 23 t = nI 0 ∨ m9 23 t = nI 1) : zc_M l y_Mod_reset w_Mod_reset { frames := 1, cells := 0, slots := 0, locals := 24 } 0 0 D cA te mi ([.ref X] : List Value) kd ln I L R (zo_P none X ad (zo_rs m9) q9 kd ln R) := by
  intro sz
  refine Met.ofW (cc := b_Mod_reset) (maxL := 3) (ret := none) (by decide +kernel) rfl ?_
  intro p e s m args below meth c s₁ B hml hv
  obtain ⟨rfl, hsz, hSc, hE, hH⟩ := hv
  have hx := B.exec
  have hb := B.bytes
  have hr := B.returns
  have hts := atoms_spec (ws := w_Mod_reset) B.pre
  have hw : ∀ {w : Cond}, w ∈ zw → w.before ([.ref X] : List Value).toArray s = true := fun h => hts _ (List.mem_cons_of_mem _ h)
  have hown : s.vm.findClass R_Mod = some m.cls := findClass_of_methodNamed B.named
  have hlocks := B.notSynchronized
  subst hsz
  have hK := hSc.1
  have hH : zh_H D cA (zc_A kd s.heap.size) kd ln I L R s.heap := hH.weaken (fun q h _ => Or.inl h)
  generalize hAe : zc_A kd s.heap.size = A at hH hE ⊢
  have hA : ∀ q : Nat, s.heap.size ≤ q → A q := fun q h => by rw [← hAe]; exact Or.inr h
  have hS : va_S A s.heap s.heap [] := va_S.rf
  have hl := lv_entry ([.ref X] : List Value) (n := 3) (Nat.le_of_ble_eq_true rfl)
  rw [lg_entry_eq]
  generalize (lg_sl ([.ref X] : List Value) ++ List.replicate (3 - (lg_sl ([.ref X] : List Value)).length) Slot.unset).toArray = ls at hl ⊢
  have hl : lv_has ls 3 [(0, .ref X)] := hl
  have k11 : kd (ad 11) = 100 := (hm.1.2.1 11 (by decide) (by decide)).2.1
  have n11 : ln (ad 11) = 4 := (hm.1.2.1 11 (by decide) (by decide)).2.2
  have r11 : R X 11 = some (ad 11) := (hm.1.2.1 11 (by decide) (by decide)).1
  have k19 : kd (ad 19) = 100 := (hm.1.2.1 19 (by decide) (by decide)).2.1
  have n19 : ln (ad 19) = 280 := (hm.1.2.1 19 (by decide) (by decide)).2.2
  have r19 : R X 19 = some (ad 19) := (hm.1.2.1 19 (by decide) (by decide)).1
  have k22 : kd (ad 22) = 103 := (hm.1.2.1 22 (by decide) (by decide)).2.1
  have n22 : ln (ad 22) = 280 := (hm.1.2.1 22 (by decide) (by decide)).2.2
  have r22 : R X 22 = some (ad 22) := (hm.1.2.1 22 (by decide) (by decide)).1
  have k23 : kd (ad 23) = 103 := (hm.1.2.1 23 (by decide) (by decide)).2.1
  have n23 : ln (ad 23) = 280 := (hm.1.2.1 23 (by decide) (by decide)).2.2
  have r23 : R X 23 = some (ad 23) := (hm.1.2.1 23 (by decide) (by decide)).1
  have k24 : kd (ad 24) = 100 := (hm.1.2.1 24 (by decide) (by decide)).2.1
  have n24 : ln (ad 24) = 280 := (hm.1.2.1 24 (by decide) (by decide)).2.2
  have r24 : R X 24 = some (ad 24) := (hm.1.2.1 24 (by decide) (by decide)).1
  have k27 : kd (ad 27) = 100 := (hm.1.2.1 27 (by decide) (by decide)).2.1
  have n27 : ln (ad 27) = 4 := (hm.1.2.1 27 (by decide) (by decide)).2.2
  have r27 : R X 27 = some (ad 27) := (hm.1.2.1 27 (by decide) (by decide)).1
  refine lv_iconst (v := nI 0) hx hb d_Mod_reset_0 (by decide) ?_
  refine lv_istore_n (lv' := [(1, .int (nI 0)), (0, .ref X)]) hx hb d_Mod_reset_1 rfl hl (by decide) rfl (fun ls hl => ?_)
  have loop_2 : ∀ (z : Nat) (i : Nat) (I_2 : Nat → Nat → Int32) (L_2 : Nat → Nat → Int64) (H : Heap) (locs : List Loc) (ls : Array Slot), 280 - i < z → (i ≤ 280) → (zoR X ad (zo_rs1 m9 i) q9 kd ln I_2 L_2 R) → lv_has ls 3 [(0, .ref X), (1, .int (nI i))] → zh_H D cA A kd ln I_2 L_2 R H → va_S A s.heap H locs → W p l e (headSpec w_Mod_reset { frames := 1, cells := 0, slots := 0, locals := 24 }).room s m ([.ref X] : List Value).toArray below meth c H locs 0 0 (MQ below (zc_Qc D cA A (zo_P none X ad (zo_rs m9) q9 kd ln R)) ([.ref X] : List Value).toArray s 0 0 A) (F0 m 2 ls []) := by
    intro z
    induction z with
    | zero => intro i I_2 L_2 H locs ls hz; exact absurd hz (Nat.not_lt_zero _)
    | succ z ih_2 =>
      intro i I_2 L_2 H locs ls hz_2 hi hm hl hH hS
      refine lv_iload_n hx hb d_Mod_reset_2 rfl (lv_at hl 1 rfl) ?_
      refine lv_sipush (v := nI 280) hx hb d_Mod_reset_3 (by decide) ?_
      refine lv_icmp_ge (tgt := 34) hx hb d_Mod_reset_6 (by decide) (fun hc1 => ?_) (fun hc1 => ?_)
      · skip
        have hc1 := zt_geT (a := i) (b := 280) (by omega) (by omega) hc1
        rw [show i = 280 by omega] at hm
        generalize hM1 : zo_rs1 m9 280 = M1 at hm
        refine lv_iconst (v := nI 0) hx hb d_Mod_reset_34 (by decide) ?_
        refine lv_istore_n (lv' := [(1, .int (nI 0)), (0, .ref X)]) hx hb d_Mod_reset_35 rfl hl (by decide) rfl (fun ls hl => ?_)
        have loop_36 : ∀ (z : Nat) (k9 : Nat) (I_36 : Nat → Nat → Int32) (L_36 : Nat → Nat → Int64) (H : Heap) (locs : List Loc) (ls : Array Slot), 4 - k9 < z → (k9 ≤ 4) → (zoR X ad (zo_rs2 M1 k9) q9 kd ln I_36 L_36 R) → lv_has ls 3 [(0, .ref X), (1, .int (nI k9))] → zh_H D cA A kd ln I_36 L_36 R H → va_S A s.heap H locs → W p l e (headSpec w_Mod_reset { frames := 1, cells := 0, slots := 0, locals := 24 }).room s m ([.ref X] : List Value).toArray below meth c H locs 0 0 (MQ below (zc_Qc D cA A (zo_P none X ad (zo_rs m9) q9 kd ln R)) ([.ref X] : List Value).toArray s 0 0 A) (F0 m 36 ls []) := by
          intro z
          induction z with
          | zero => intro k9 I_36 L_36 H locs ls hz; exact absurd hz (Nat.not_lt_zero _)
          | succ z ih_36 =>
            intro k9 I_36 L_36 H locs ls hz_36 hk9 hm hl hH hS
            refine lv_iload_n hx hb d_Mod_reset_36 rfl (lv_at hl 1 rfl) ?_
            refine lv_iconst (v := nI 4) hx hb d_Mod_reset_37 (by decide) ?_
            refine lv_icmp_ge (tgt := 85) hx hb d_Mod_reset_38 (by decide) (fun hc2 => ?_) (fun hc2 => ?_)
            · skip
              have hc2 := zt_geT (a := k9) (b := 4) (by omega) (by omega) hc2
              refine lv_aload_n hx hb d_Mod_reset_85 rfl (lv_at hl 0 rfl) ?_
              refine lv_iconst (v := (-1)) hx hb d_Mod_reset_86 (by decide) ?_
              refine zr_puti (ref := "ScrubbedRecorderModel") (ci := 6) (C := R_Mod) (T := T_Mod) (N := 37) (x := (-1)) (ty := .int) hx hb hts (fun w h => List.mem_cons_of_mem _ (zin_Mod w h)) ty_Mod tyok_Mod nm_Mod hown hK hH hS hm.1.1 (by decide) rfl 35 (by decide) rfl (hw zw_634) (fun _ h9 => h9) rfl (by decide +kernel) rfl rfl d_Mod_reset_87 (fun H locs hH hS => ?_)
              have hm := zoR_X hm 35 (-1)
              generalize zu I_36 X 35 (-1) = I3 at hm hH
              refine lv_aload_n hx hb d_Mod_reset_90 rfl (lv_at hl 0 rfl) ?_
              refine lv_iconst (v := nI 0) hx hb d_Mod_reset_91 (by decide) ?_
              refine zr_puti (ref := "ScrubbedRecorderModel") (ci := 6) (C := R_Mod) (T := T_Mod) (N := 37) (x := nI 0) (ty := .int) hx hb hts (fun w h => List.mem_cons_of_mem _ (zin_Mod w h)) ty_Mod tyok_Mod nm_Mod hown hK hH hS hm.1.1 (by decide) rfl 6 (by decide) rfl (hw zw_605) (fun _ h9 => h9) rfl (by decide +kernel) rfl rfl d_Mod_reset_92 (fun H locs hH hS => ?_)
              have hm := zoR_X hm 6 (nI 0)
              generalize zu I3 X 6 (nI 0) = I4 at hm hH
              refine W.widen (k := 0) (n := 0) (Nat.le_of_ble_eq_true rfl) (Nat.le_of_ble_eq_true rfl) ?_
              subst hAe
              exact W.vret hx hb hr (fun t ht hW => zc_end hS hH ht (⟨rfl, rfl, rfl, rfl, by rw [zo_rs, hM1, ← show k9 = 4 by omega]; exact hm⟩)) hS.2.2 d_Mod_reset_95
            · skip
              have hc2 := zt_geF (a := k9) (b := 4) (by omega) (by omega) hc2
              refine lv_aload_n hx hb d_Mod_reset_41 rfl (lv_at hl 0 rfl) ?_
              refine lv_iload_n hx hb d_Mod_reset_42 rfl (lv_at hl 1 rfl) ?_
              refine lv_aload_n hx hb d_Mod_reset_43 rfl (lv_at hl 0 rfl) ?_
              refine lv_iload_n hx hb d_Mod_reset_44 rfl (lv_at hl 1 rfl) ?_
              refine zr_V (As := ([.int (nI k9)] : List Value)) (rest := [.int (nI k9), .ref X]) (b := X) (ci := 6) (q := (R_Mod, T_Mod, 37)) ⟨hx, hb, hml, hown, hts⟩ (c_Mod_latest hm) ⟨(callB_of 1 hts (zg_all zw_853) rfl rfl rfl (hw zw_3) (hw zw_850) k_Mod_latest.2 ⟨Nat.le_of_ble_eq_true rfl, Nat.le_of_ble_eq_true rfl⟩), (hw zw_852), (hw zs_Mod_latest)⟩ hSc hE hH hS hA rfl (by decide) hm.1.1 rfl hl.1 rfl (Nat.le_of_ble_eq_true rfl) d_Mod_reset_45 ⟨Nat.le_of_ble_eq_true rfl, Nat.le_of_ble_eq_true rfl⟩ (fun v5 kd5 ln5 I5 L5 R5 H locs hp hH hS => ?_)
              obtain ⟨rfl, rfl, rfl, rfl, hm⟩ := hp
              refine W.eq (g2 := F0 m 48 ls [.int (zo_lt (zo_rs2 M1 k9) (nI k9) 280), .int (nI k9), .ref X]) rfl ?_
              refine W.widen (k := 0) (n := 0) (by omega) (by omega) ?_
              refine zt_i (y := zo_lt M1 (nI k9) 280) (zo_lt_c (zo_two_r (by decide) (by decide)) (zo_two_r (by decide) (by decide)) _ _) ?_
              refine zr_V (As := ([.int (nI k9), .int (zo_lt M1 (nI k9) 280)] : List Value)) (rest := []) (b := X) (ci := 6) (q := (R_Mod, T_Mod, 37)) ⟨hx, hb, hml, hown, hts⟩ (c_Mod_find hm) ⟨(callB_of 2 hts (zg_all zw_793) rfl rfl rfl (hw zw_3) (hw zw_790) k_Mod_find.2 ⟨Nat.le_of_ble_eq_true rfl, Nat.le_of_ble_eq_true rfl⟩), (hw zw_792), (hw zs_Mod_find)⟩ hSc hE hH hS hA rfl (by decide) hm.1.1 rfl hl.1 rfl (Nat.le_of_ble_eq_true rfl) d_Mod_reset_48 ⟨Nat.le_of_ble_eq_true rfl, Nat.le_of_ble_eq_true rfl⟩ (fun v6 kd6 ln6 I6 L6 R6 H locs hp hH hS => ?_)
              obtain ⟨rfl, rfl, rfl, rfl, hm⟩ := hp
              refine W.eq (g2 := F0 m 51 ls [.int (zo_fd (zo_rs2 M1 k9) (nI k9) (zo_lt M1 (nI k9) 280) 280)]) rfl ?_
              refine W.widen (k := 0) (n := 0) (by omega) (by omega) ?_
              refine zt_i (y := zo_fd M1 (nI k9) (zo_lt M1 (nI k9) 280) 280) (zo_fd_c (zo_two_r (by decide) (by decide)) (zo_two_r (by decide) (by decide)) _ _ _) ?_
              refine lv_istore_n (lv' := [(2, .int (zo_fd M1 (nI k9) (zo_lt M1 (nI k9) 280) 280)), (0, .ref X), (1, .int (nI k9))]) hx hb d_Mod_reset_51 rfl hl (by decide) rfl (fun ls hl => ?_)
              refine lv_aload_n hx hb d_Mod_reset_52 rfl (lv_at hl 1 rfl) ?_
              refine zr_getr (ci := 6) (C := R_Mod) (T := T_Mod) (N := 37) (ref := "ScrubbedRecorderModel") hx hb hts (fun w h => List.mem_cons_of_mem _ (zin_Mod w h)) hown hK hH hm.1.1 (by decide) rfl 11 (by decide) rfl (hw zw_610) (fun _ h9 => h9) d_Mod_reset_53 (by rw [r11]) ?_
              refine lv_iload_n hx hb d_Mod_reset_56 rfl (lv_at hl 2 rfl) ?_
              refine lv_iload_n hx hb d_Mod_reset_57 rfl (lv_at hl 0 rfl) ?_
              refine lv_if_ge (tgt := 65) hx hb d_Mod_reset_58 (by decide) (fun hc7 => ?_) (fun hc7 => ?_)
              · skip
                have hc7 : ¬ (zo_fd M1 (nI k9) (zo_lt M1 (nI k9) 280) 280) < (nI 0) := Int32.not_lt.mpr hc7
                obtain ⟨s9, hs9, es9, -⟩ := zo_fd_of 280 (by omega) hc7
                have cs9 : (zo_fd M1 (nI k9) (zo_lt M1 (nI k9) 280) 280).toNatClampNeg = s9 := by rw [es9]; exact nI_clamp (by omega)
                have hl : lv_has ls 3 [(2, .int (nI s9)), (0, .ref X), (1, .int (nI k9))] := by rw [← es9]; exact hl
                refine lv_aload_n hx hb d_Mod_reset_65 rfl (lv_at hl 1 rfl) ?_
                refine zr_getr (ci := 6) (C := R_Mod) (T := T_Mod) (N := 37) (ref := "ScrubbedRecorderModel") hx hb hts (fun w h => List.mem_cons_of_mem _ (zin_Mod w h)) hown hK hH hm.1.1 (by decide) rfl 19 (by decide) rfl (hw zw_618) (fun _ h9 => h9) d_Mod_reset_66 (by rw [r19]) ?_
                refine lv_iload_n hx hb d_Mod_reset_69 rfl (lv_at hl 0 rfl) ?_
                refine zr_aldi (j := s9) hx hb hK hH k19 (by rw [n19]; exact zh_ix_n (by omega) (by omega)) d_Mod_reset_70 ?_
                refine zt_i (y := M1 19 s9) ((congrFun (hm.2.1 19 (by decide) (by decide) (by decide)) s9).trans (by rw [show (zo_rs2 M1 k9) 19 s9 = M1 19 s9 from congrFun (zo_two_r (by decide) (by decide)) s9])) ?_
                refine zr_asti (j := k9) (y := M1 19 s9) hx hb hK hH hS k11 rfl (by rw [n11]; exact zh_ix_n (by omega) (by omega)) d_Mod_reset_71 (fun H locs hH hS => ?_)
                have hm := zoR_I hm 11 (by decide) k9 (M1 19 s9)
                generalize zu I6 (ad 11) k9 (M1 19 s9) = I8 at hm hH
                refine lv_aload_n hx hb d_Mod_reset_72 rfl (lv_at hl 1 rfl) ?_
                refine zr_getr (ci := 6) (C := R_Mod) (T := T_Mod) (N := 37) (ref := "ScrubbedRecorderModel") hx hb hts (fun w h => List.mem_cons_of_mem _ (zin_Mod w h)) hown hK hH hm.1.1 (by decide) rfl 27 (by decide) rfl (hw zw_626) (fun _ h9 => h9) d_Mod_reset_73 (by rw [r27]) ?_
                refine lv_iload_n hx hb d_Mod_reset_76 rfl (lv_at hl 2 rfl) ?_
                refine lv_iconst (v := (-1)) hx hb d_Mod_reset_77 (by decide) ?_
                refine zr_asti (j := k9) (y := (-1)) hx hb hK hH hS k27 rfl (by rw [n27]; exact zh_ix_n (by omega) (by omega)) d_Mod_reset_78 (fun H locs hH hS => ?_)
                have hm := zoR_I hm 27 (by decide) k9 (-1)
                generalize zu I8 (ad 27) k9 (-1) = I9 at hm hH
                refine lv_iinc (k := 2) (v := nI (k9 + 1)) (lv' := [(1, .int (nI (k9 + 1))), (2, .int (nI s9)), (0, .ref X)]) hx hb d_Mod_reset_79 hl rfl (nI_add k9 1) (by decide) rfl (fun ls hl => ?_)
                refine lv_goto (tgt := 36) hx hb d_Mod_reset_82 (by decide) ?_
                have hm : zoR X ad (zo_rs2 M1 (k9 + 1)) q9 kd ln I9 L6 R := by have e9 := zo_two_s (m9 := M1) (r1 := 11) (r2 := 27) (g1 := zo_ck M1) (g2 := fun _ => (-1)) (n := k9) (u := M1 19 s9) (by decide) (by rw [zo_ck, if_neg hc7, cs9]) rfl; show zoR X ad (zo_two M1 11 27 (zo_ck M1) (fun _ => (-1)) (k9 + 1)) _ _ _ _ _ _; rw [← e9]; exact hm
                exact ih_36 (k9 + 1) _ _ _ _ _ (by omega) (by omega) hm (lv_sub hl [2, 0] rfl) hH hS
              · skip
                have hc7 : (zo_fd M1 (nI k9) (zo_lt M1 (nI k9) 280) 280) < (nI 0) := Int32.not_le.mp hc7
                refine lv_iconst (v := nI 0) hx hb d_Mod_reset_61 (by decide) ?_
                refine lv_goto (tgt := 71) hx hb d_Mod_reset_62 (by decide) ?_
                refine zr_asti (j := k9) (y := nI 0) hx hb hK hH hS k11 rfl (by rw [n11]; exact zh_ix_n (by omega) (by omega)) d_Mod_reset_71 (fun H locs hH hS => ?_)
                have hm := zoR_I hm 11 (by decide) k9 (nI 0)
                generalize zu I6 (ad 11) k9 (nI 0) = I10 at hm hH
                refine lv_aload_n hx hb d_Mod_reset_72 rfl (lv_at hl 1 rfl) ?_
                refine zr_getr (ci := 6) (C := R_Mod) (T := T_Mod) (N := 37) (ref := "ScrubbedRecorderModel") hx hb hts (fun w h => List.mem_cons_of_mem _ (zin_Mod w h)) hown hK hH hm.1.1 (by decide) rfl 27 (by decide) rfl (hw zw_626) (fun _ h9 => h9) d_Mod_reset_73 (by rw [r27]) ?_
                refine lv_iload_n hx hb d_Mod_reset_76 rfl (lv_at hl 2 rfl) ?_
                refine lv_iconst (v := (-1)) hx hb d_Mod_reset_77 (by decide) ?_
                refine zr_asti (j := k9) (y := (-1)) hx hb hK hH hS k27 rfl (by rw [n27]; exact zh_ix_n (by omega) (by omega)) d_Mod_reset_78 (fun H locs hH hS => ?_)
                have hm := zoR_I hm 27 (by decide) k9 (-1)
                generalize zu I10 (ad 27) k9 (-1) = I11 at hm hH
                refine lv_iinc (k := 2) (v := nI (k9 + 1)) (lv' := [(1, .int (nI (k9 + 1))), (2, .int (zo_fd M1 (nI k9) (zo_lt M1 (nI k9) 280) 280)), (0, .ref X)]) hx hb d_Mod_reset_79 hl rfl (nI_add k9 1) (by decide) rfl (fun ls hl => ?_)
                refine lv_goto (tgt := 36) hx hb d_Mod_reset_82 (by decide) ?_
                have hm : zoR X ad (zo_rs2 M1 (k9 + 1)) q9 kd ln I11 L6 R := by have e9 := zo_two_s (m9 := M1) (r1 := 11) (r2 := 27) (g1 := zo_ck M1) (g2 := fun _ => (-1)) (n := k9) (u := nI 0) (by decide) (by rw [zo_ck, if_pos hc7]) rfl; show zoR X ad (zo_two M1 11 27 (zo_ck M1) (fun _ => (-1)) (k9 + 1)) _ _ _ _ _ _; rw [← e9]; exact hm
                exact ih_36 (k9 + 1) _ _ _ _ _ (by omega) (by omega) hm (lv_sub hl [2, 0] rfl) hH hS
        rw [← zo_two_0 M1 11 27 (zo_ck M1) (fun _ => (-1))] at hm
        exact loop_36 _ 0 _ _ _ _ _ (Nat.lt_succ_self _) (by omega) hm (lv_sub hl [1, 0] rfl) hH hS
      · skip
        have hc1 := zt_geF (a := i) (b := 280) (by omega) (by omega) hc1
        refine lv_aload_n hx hb d_Mod_reset_9 rfl (lv_at hl 0 rfl) ?_
        refine zr_getr (ci := 6) (C := R_Mod) (T := T_Mod) (N := 37) (ref := "ScrubbedRecorderModel") hx hb hts (fun w h => List.mem_cons_of_mem _ (zin_Mod w h)) hown hK hH hm.1.1 (by decide) rfl 22 (by decide) rfl (hw zw_621) (fun _ h9 => h9) d_Mod_reset_10 (by rw [r22]) ?_
        refine lv_iload_n hx hb d_Mod_reset_13 rfl (lv_at hl 1 rfl) ?_
        refine lv_aload_n hx hb d_Mod_reset_14 rfl (lv_at hl 0 rfl) ?_
        refine zr_getr (ci := 6) (C := R_Mod) (T := T_Mod) (N := 37) (ref := "ScrubbedRecorderModel") hx hb hts (fun w h => List.mem_cons_of_mem _ (zin_Mod w h)) hown hK hH hm.1.1 (by decide) rfl 23 (by decide) rfl (hw zw_622) (fun _ h9 => h9) d_Mod_reset_15 (by rw [r23]) ?_
        refine lv_iload_n hx hb d_Mod_reset_18 rfl (lv_at hl 1 rfl) ?_
        refine zr_aldz (j := i) hx hb hK hH k23 (by rw [n23]; exact zh_ix_n (by omega) (by omega)) d_Mod_reset_19 ?_
        refine zt_i (y := m9 23 i) ((congrFun (hm.2.1 23 (by decide) (by decide) (by decide)) i).trans (by rw [show (zo_rs1 m9 i) 23 i = m9 23 i from congrFun (zo_two_r (by decide) (by decide)) i])) ?_
        refine zr_astz (j := i) (y := m9 23 i) hx hb hK hH hS k22 (zt_bo (hsv i (by omega))) (by rw [n22]; exact zh_ix_n (by omega) (by omega)) d_Mod_reset_20 (fun H locs hH hS => ?_)
        have hm := zoR_I hm 22 (by decide) i (m9 23 i)
        generalize zu I_2 (ad 22) i (m9 23 i) = I12 at hm hH
        refine lv_aload_n hx hb d_Mod_reset_21 rfl (lv_at hl 0 rfl) ?_
        refine zr_getr (ci := 6) (C := R_Mod) (T := T_Mod) (N := 37) (ref := "ScrubbedRecorderModel") hx hb hts (fun w h => List.mem_cons_of_mem _ (zin_Mod w h)) hown hK hH hm.1.1 (by decide) rfl 24 (by decide) rfl (hw zw_623) (fun _ h9 => h9) d_Mod_reset_22 (by rw [r24]) ?_
        refine lv_iload_n hx hb d_Mod_reset_25 rfl (lv_at hl 1 rfl) ?_
        refine lv_iconst (v := nI 0) hx hb d_Mod_reset_26 (by decide) ?_
        refine zr_asti (j := i) (y := nI 0) hx hb hK hH hS k24 rfl (by rw [n24]; exact zh_ix_n (by omega) (by omega)) d_Mod_reset_27 (fun H locs hH hS => ?_)
        have hm := zoR_I hm 24 (by decide) i (nI 0)
        generalize zu I12 (ad 24) i (nI 0) = I13 at hm hH
        refine lv_iinc (k := 1) (v := nI (i + 1)) (lv' := [(1, .int (nI (i + 1))), (0, .ref X)]) hx hb d_Mod_reset_28 hl rfl (nI_add i 1) (by decide) rfl (fun ls hl => ?_)
        refine lv_goto (tgt := 2) hx hb d_Mod_reset_31 (by decide) ?_
        have hm : zoR X ad (zo_rs1 m9 (i + 1)) q9 kd ln I13 L_2 R := by have e9 := zo_two_s (m9 := m9) (r1 := 22) (r2 := 24) (g1 := m9 23) (g2 := fun _ => nI 0) (n := i) (by decide) rfl rfl; show zoR X ad (zo_two m9 22 24 (m9 23) (fun _ => nI 0) (i + 1)) _ _ _ _ _ _; rw [← e9]; exact hm
        exact ih_2 (i + 1) _ _ _ _ _ (by omega) (by omega) hm (lv_sub hl [1, 0] rfl) hH hS
  rw [← zo_two_0 m9 22 24 (m9 23) (fun _ => nI 0)] at hm
  exact loop_2 _ 0 _ _ _ _ _ (Nat.lt_succ_self _) (by omega) hm (lv_sub hl [1, 0] rfl) hH hS
