def zo_seg (f : Nat → Int32) (a n : Nat) (g : Nat → Int32) : Nat → Int32 := fun t => if a ≤ t ∧ t < a + n then g (t - a) else f t
theorem zo_seg_z (f : Nat → Int32) (a : Nat) (g : Nat → Int32) : zo_seg f a 0 g = f := by
  funext t
  unfold zo_seg
  rw [if_neg (by omega)]
theorem zo_seg_s (m9 : Nat → Nat → Int32) (r : Nat) (f : Nat → Int32) (a n : Nat) (g : Nat → Int32) : zu (va_up m9 r (zo_seg f a n g)) r (a + n) (g n) = va_up m9 r (zo_seg f a (n + 1) g) := by
  rw [zu_up]
  congr 1
  funext t
  by_cases e : t = a + n
  · subst e
    rw [va_up_self]
    unfold zo_seg
    rw [if_pos (by omega), show a + n - a = n by omega]
  · rw [va_up_ne _ _ e]
    unfold zo_seg
    by_cases h2 : a ≤ t ∧ t < a + n
    · rw [if_pos h2, if_pos (by omega)]
    · rw [if_neg h2, if_neg (by omega)]
def zo_f4 (x : Int32) (i : Nat) : Int32 := (x >>> ((nI (8 * (3 - i))) &&& 31)) &&& (nI 255)
def zo_fm0 (m9 : Nat → Nat → Int32) (b s : Nat) : Nat → Nat → Int32 := zu (zu (zu m9 24 s (nI 0)) 31 b (m9 17 s)) 36 0 (m9 16 s)
def zo_fmI (m9 : Nat → Nat → Int32) (q9 : Nat → Nat → Int64) (b s n : Nat) : Nat → Nat → Int32 := zu (va_up (zo_fm0 m9 b s) 36 (zo_seg (zo_seg (zo_fm0 m9 b s 36) 1 4 (zo_f4 (m9 17 s))) 5 (6 + n) (zo_tl m9 q9 s))) 40 35 (nI (11 + n))
theorem zo_tl_c {m9 n9 : Nat → Nat → Int32} {q9 : Nat → Nat → Int64} (h1 : m9 18 = n9 18) (h2 : m9 19 = n9 19) (h3 : m9 20 = n9 20) (s i : Nat) : zo_tl m9 q9 s i = zo_tl n9 q9 s i := by
  unfold zo_tl
  rw [h1, h2, h3]

set_option maxHeartbeats 4000000 in
set_option maxRecDepth 100000 in
/-- frame, nothing to send -/
theorem c_Mod_frame_N {l : Launch} {D : va_G} {cA : Nat → ClassId} {te mi : Nat} {kd ln : Nat → Nat} {I : Nat → Nat → Int32} {L : Nat → Nat → Int64} {R : Nat → Nat → Option Nat} {X : Nat} {ad : Nat → Nat} {m9 : Nat → Nat → Int32} {q9 : Nat → Nat → Int64} (hm : zoR X ad m9 q9 kd ln I L R) (hbs : zo_bs m9 4 < nI 0) : zc_M l y_Mod_frame w_Mod_frame { frames := 2, cells := 0, slots := 0, locals := 48 } 0 0 D cA te mi ([.ref X] : List Value) kd ln I L R (zo_P (some (.int (-1))) X ad m9 q9 kd ln R) := by
  intro sz
  refine Met.ofW (cc := b_Mod_frame) (maxL := 5) (ret := (some (.int))) (by decide +kernel) rfl ?_
  intro p e s m args below meth c s₁ B hml hv
  obtain ⟨rfl, hsz, hSc, hE, hH⟩ := hv
  have hx := B.exec
  have hb := B.bytes
  have hr := B.returns
  have hts := atoms_spec (ws := w_Mod_frame) B.pre
  have hw : ∀ {w : Cond}, w ∈ zw → w.before ([.ref X] : List Value).toArray s = true := fun h => hts _ (List.mem_cons_of_mem _ h)
  have hown : s.vm.findClass R_Mod = some m.cls := findClass_of_methodNamed B.named
  have hlocks := B.notSynchronized
  subst hsz
  have hK := hSc.1
  have hH : zh_H D cA (zc_A kd s.heap.size) kd ln I L R s.heap := hH.weaken (fun q h _ => Or.inl h)
  generalize hAe : zc_A kd s.heap.size = A at hH hE ⊢
  have hA : ∀ q : Nat, s.heap.size ≤ q → A q := fun q h => by rw [← hAe]; exact Or.inr h
  have hS : va_S A s.heap s.heap [] := va_S.rf
  have hl := lv_entry ([.ref X] : List Value) (n := 5) (Nat.le_of_ble_eq_true rfl)
  rw [lg_entry_eq]
  generalize (lg_sl ([.ref X] : List Value) ++ List.replicate (5 - (lg_sl ([.ref X] : List Value)).length) Slot.unset).toArray = ls at hl ⊢
  have hl : lv_has ls 5 [(0, .ref X)] := hl
  have k16 : kd (ad 16) = 100 := (hm.1.2.1 16 (by decide) (by decide)).2.1
  have n16 : ln (ad 16) = 280 := (hm.1.2.1 16 (by decide) (by decide)).2.2
  have r16 : R X 16 = some (ad 16) := (hm.1.2.1 16 (by decide) (by decide)).1
  have k17 : kd (ad 17) = 100 := (hm.1.2.1 17 (by decide) (by decide)).2.1
  have n17 : ln (ad 17) = 280 := (hm.1.2.1 17 (by decide) (by decide)).2.2
  have r17 : R X 17 = some (ad 17) := (hm.1.2.1 17 (by decide) (by decide)).1
  have k20 : kd (ad 20) = 100 := (hm.1.2.1 20 (by decide) (by decide)).2.1
  have n20 : ln (ad 20) = 280 := (hm.1.2.1 20 (by decide) (by decide)).2.2
  have r20 : R X 20 = some (ad 20) := (hm.1.2.1 20 (by decide) (by decide)).1
  have k24 : kd (ad 24) = 100 := (hm.1.2.1 24 (by decide) (by decide)).2.1
  have n24 : ln (ad 24) = 280 := (hm.1.2.1 24 (by decide) (by decide)).2.2
  have r24 : R X 24 = some (ad 24) := (hm.1.2.1 24 (by decide) (by decide)).1
  have k27 : kd (ad 27) = 100 := (hm.1.2.1 27 (by decide) (by decide)).2.1
  have n27 : ln (ad 27) = 4 := (hm.1.2.1 27 (by decide) (by decide)).2.2
  have r27 : R X 27 = some (ad 27) := (hm.1.2.1 27 (by decide) (by decide)).1
  have k30 : kd (ad 30) = 100 := (hm.1.2.1 30 (by decide) (by decide)).2.1
  have n30 : ln (ad 30) = 4 := (hm.1.2.1 30 (by decide) (by decide)).2.2
  have r30 : R X 30 = some (ad 30) := (hm.1.2.1 30 (by decide) (by decide)).1
  have k31 : kd (ad 31) = 100 := (hm.1.2.1 31 (by decide) (by decide)).2.1
  have n31 : ln (ad 31) = 4 := (hm.1.2.1 31 (by decide) (by decide)).2.2
  have r31 : R X 31 = some (ad 31) := (hm.1.2.1 31 (by decide) (by decide)).1
  have k32 : kd (ad 32) = 100 := (hm.1.2.1 32 (by decide) (by decide)).2.1
  have n32 : ln (ad 32) = 4 := (hm.1.2.1 32 (by decide) (by decide)).2.2
  have r32 : R X 32 = some (ad 32) := (hm.1.2.1 32 (by decide) (by decide)).1
  have k36 : kd (ad 36) = 100 := (hm.1.2.1 36 (by decide) (by decide)).2.1
  have n36 : ln (ad 36) = 80 := (hm.1.2.1 36 (by decide) (by decide)).2.2
  have r36 : R X 36 = some (ad 36) := (hm.1.2.1 36 (by decide) (by decide)).1
  refine lv_iconst (v := (-1)) hx hb d_Mod_frame_0 (by decide) ?_
  refine lv_istore_n (lv' := [(1, .int (-1)), (0, .ref X)]) hx hb d_Mod_frame_1 rfl hl (by decide) rfl (fun ls hl => ?_)
  refine lv_iconst (v := nI 0) hx hb d_Mod_frame_2 (by decide) ?_
  refine lv_istore_n (lv' := [(2, .int (nI 0)), (1, .int (-1)), (0, .ref X)]) hx hb d_Mod_frame_3 rfl hl (by decide) rfl (fun ls hl => ?_)
  have loop_4 : ∀ (z : Nat) (i : Nat) (I_4 : Nat → Nat → Int32) (L_4 : Nat → Nat → Int64) (H : Heap) (locs : List Loc) (ls : Array Slot), 4 - i < z → (i ≤ 4) → (zoR X ad m9 q9 kd ln I_4 L_4 R) → lv_has ls 5 [(0, .ref X), (1, .int (zo_bs m9 i)), (2, .int (nI i))] → zh_H D cA A kd ln I_4 L_4 R H → va_S A s.heap H locs → W p l e (headSpec w_Mod_frame { frames := 2, cells := 0, slots := 0, locals := 48 }).room s m ([.ref X] : List Value).toArray below meth c H locs 0 0 (MQ below (zc_Qc D cA A (zo_P (some (.int (-1))) X ad m9 q9 kd ln R)) ([.ref X] : List Value).toArray s 0 0 A) (F0 m 4 ls []) := by
    intro z
    induction z with
    | zero => intro i I_4 L_4 H locs ls hz; exact absurd hz (Nat.not_lt_zero _)
    | succ z ih_4 =>
      intro i I_4 L_4 H locs ls hz_4 hi hm hl hH hS
      refine lv_iload_n hx hb d_Mod_frame_4 rfl (lv_at hl 2 rfl) ?_
      refine lv_iconst (v := nI 4) hx hb d_Mod_frame_5 (by decide) ?_
      refine lv_icmp_ge (tgt := 117) hx hb d_Mod_frame_6 (by decide) (fun hc1 => ?_) (fun hc1 => ?_)
      · skip
        have hc1 := zt_geT (a := i) (b := 4) (by omega) (by omega) hc1
        have hi2 : i = 4 := by omega
        rw [hi2] at hl
        refine lv_iload_n hx hb d_Mod_frame_117 rfl (lv_at hl 1 rfl) ?_
        refine lv_if_ge (tgt := 123) hx hb d_Mod_frame_118 (by decide) (fun hc2 => ?_) (fun hc2 => ?_)
        · skip
          have hc2 : ¬ (zo_bs m9 4) < (nI 0) := Int32.not_lt.mpr hc2
          exact absurd hbs hc2
        · skip
          have hc2 : (zo_bs m9 4) < (nI 0) := Int32.not_le.mp hc2
          refine lv_iconst (v := (-1)) hx hb d_Mod_frame_121 (by decide) ?_
          refine W.widen (k := 0) (n := 0) (Nat.le_of_ble_eq_true rfl) (Nat.le_of_ble_eq_true rfl) ?_
          subst hAe
          exact W.iret (v := (-1)) hx hb hr (fun t ht hW => zc_end hS hH ht (⟨rfl, rfl, rfl, rfl, hm⟩)) hS.2.2 d_Mod_frame_122
      · skip
        have hc1 := zt_geF (a := i) (b := 4) (by omega) (by omega) hc1
        refine lv_aload_n hx hb d_Mod_frame_9 rfl (lv_at hl 0 rfl) ?_
        refine zr_getr (ci := 6) (C := R_Mod) (T := T_Mod) (N := 37) (ref := "ScrubbedRecorderModel") hx hb hts (fun w h => List.mem_cons_of_mem _ (zin_Mod w h)) hown hK hH hm.1.1 (by decide) rfl 27 (by decide) rfl (hw zw_626) (fun _ h9 => h9) d_Mod_frame_10 (by rw [r27]) ?_
        refine lv_iload_n hx hb d_Mod_frame_13 rfl (lv_at hl 2 rfl) ?_
        refine zr_aldi (j := i) hx hb hK hH k27 (by rw [n27]; exact zh_ix_n (by omega) (by omega)) d_Mod_frame_14 ?_
        refine zt_i (y := m9 27 i) (congrFun (hm.2.1 27 (by decide) (by decide) (by decide)) i) ?_
        refine lv_if_lt (tgt := 30) hx hb d_Mod_frame_15 (by decide) (fun hc3 => ?_) (fun hc3 => ?_)
        · skip
          have hc3 : (m9 27 i) < (nI 0) := hc3
          refine lv_iconst (v := nI 0) hx hb d_Mod_frame_30 (by decide) ?_
          refine lv_istore_n (lv' := [(3, .int (nI 0)), (0, .ref X), (1, .int (zo_bs m9 i)), (2, .int (nI i))]) hx hb d_Mod_frame_31 rfl hl (by decide) rfl (fun ls hl => ?_)
          refine lv_iload_n hx hb d_Mod_frame_32 rfl (lv_at hl 2 rfl) ?_
          refine lv_if_lt (tgt := 89) hx hb d_Mod_frame_33 (by decide) (fun hc4 => ?_) (fun hc4 => ?_)
          · skip
            have hc4 : (zo_bs m9 i) < (nI 0) := hc4
            refine lv_iconst (v := nI 0) hx hb d_Mod_frame_89 (by decide) ?_
            refine lv_istore (lv' := [(4, .int (nI 0)), (3, .int (nI 0)), (0, .ref X), (1, .int (zo_bs m9 i)), (2, .int (nI i))]) hx hb d_Mod_frame_90 hl (by decide) rfl (fun ls hl => ?_)
            refine lv_iload_n hx hb d_Mod_frame_92 rfl (lv_at hl 1 rfl) ?_
            refine lv_if_eq (tgt := 109) hx hb d_Mod_frame_93 (by decide) (fun hc5 => ?_) (fun hc5 => ?_)
            · skip
              have hc5 := zt_eqT (a := 0) (b := 0) (by omega) (by omega) hc5
              refine lv_iload_n hx hb d_Mod_frame_109 rfl (lv_at hl 3 rfl) ?_
              refine lv_istore_n (lv' := [(1, .int (zo_bs m9 i)), (4, .int (nI 0)), (3, .int (nI 0)), (0, .ref X), (2, .int (nI i))]) hx hb d_Mod_frame_110 rfl hl (by decide) rfl (fun ls hl => ?_)
              refine lv_iinc (k := 4) (v := nI (i + 1)) (lv' := [(2, .int (nI (i + 1))), (1, .int (zo_bs m9 i)), (4, .int (nI 0)), (3, .int (nI 0)), (0, .ref X)]) hx hb d_Mod_frame_111 hl rfl (nI_add i 1) (by decide) rfl (fun ls hl => ?_)
              refine lv_goto (tgt := 4) hx hb d_Mod_frame_114 (by decide) ?_
              have e6 : zo_bs m9 (i + 1) = zo_bs m9 i := by rw [zo_bs, if_pos hc3]
              have hl : lv_has ls 5 [(2, .int (nI (i + 1))), (1, .int (zo_bs m9 (i + 1))), (4, .int (nI 0)), (3, .int (nI 0)), (0, .ref X)] := by rw [e6]; exact hl
              exact ih_4 (i + 1) _ _ _ _ _ (by omega) (by omega) hm (lv_sub hl [4, 1, 0] rfl) hH hS
            · skip
              have hc5 := zt_eqF (a := 0) (b := 0) (by omega) (by omega) hc5
              exact absurd hc5 (by omega)
          · skip
            have hc4 : ¬ (zo_bs m9 i) < (nI 0) := hc4
            obtain ⟨jb, hjb, ejb, -, -⟩ := zo_bs_of i (by omega) hc4
            have sjb : (zo_bs m9 i).toNatClampNeg = jb := by rw [ejb]; exact nI_clamp (by omega)
            have hl : lv_has ls 5 [(3, .int (nI 0)), (0, .ref X), (1, .int (nI jb)), (2, .int (nI i))] := by rw [← ejb]; exact hl
            refine lv_iload_n hx hb d_Mod_frame_36 rfl (lv_at hl 0 rfl) ?_
            refine lv_if_eq (tgt := 89) hx hb d_Mod_frame_37 (by decide) (fun hc7 => ?_) (fun hc7 => ?_)
            · skip
              have hc7 := zt_eqT (a := 0) (b := 0) (by omega) (by omega) hc7
              refine lv_iconst (v := nI 0) hx hb d_Mod_frame_89 (by decide) ?_
              refine lv_istore (lv' := [(4, .int (nI 0)), (3, .int (nI 0)), (0, .ref X), (1, .int (nI jb)), (2, .int (nI i))]) hx hb d_Mod_frame_90 hl (by decide) rfl (fun ls hl => ?_)
              refine lv_iload_n hx hb d_Mod_frame_92 rfl (lv_at hl 1 rfl) ?_
              refine lv_if_eq (tgt := 109) hx hb d_Mod_frame_93 (by decide) (fun hc8 => ?_) (fun hc8 => ?_)
              · skip
                have hc8 := zt_eqT (a := 0) (b := 0) (by omega) (by omega) hc8
                refine lv_iload_n hx hb d_Mod_frame_109 rfl (lv_at hl 3 rfl) ?_
                refine lv_istore_n (lv' := [(1, .int (nI jb)), (4, .int (nI 0)), (3, .int (nI 0)), (0, .ref X), (2, .int (nI i))]) hx hb d_Mod_frame_110 rfl hl (by decide) rfl (fun ls hl => ?_)
                refine lv_iinc (k := 4) (v := nI (i + 1)) (lv' := [(2, .int (nI (i + 1))), (1, .int (nI jb)), (4, .int (nI 0)), (3, .int (nI 0)), (0, .ref X)]) hx hb d_Mod_frame_111 hl rfl (nI_add i 1) (by decide) rfl (fun ls hl => ?_)
                refine lv_goto (tgt := 4) hx hb d_Mod_frame_114 (by decide) ?_
                have e9 : zo_bs m9 (i + 1) = nI jb := by rw [zo_bs, if_pos hc3]; exact ejb
                have hl : lv_has ls 5 [(2, .int (nI (i + 1))), (1, .int (zo_bs m9 (i + 1))), (4, .int (nI 0)), (3, .int (nI 0)), (0, .ref X)] := by rw [e9]; exact hl
                exact ih_4 (i + 1) _ _ _ _ _ (by omega) (by omega) hm (lv_sub hl [4, 1, 0] rfl) hH hS
              · skip
                have hc8 := zt_eqF (a := 0) (b := 0) (by omega) (by omega) hc8
                exact absurd hc8 (by omega)
            · skip
              have hc7 := zt_eqF (a := 0) (b := 0) (by omega) (by omega) hc7
              exact absurd hc7 (by omega)
        · skip
          have hc3 : ¬ (m9 27 i) < (nI 0) := hc3
          refine lv_aload_n hx hb d_Mod_frame_18 rfl (lv_at hl 0 rfl) ?_
          refine lv_iload_n hx hb d_Mod_frame_19 rfl (lv_at hl 2 rfl) ?_
          refine zr_V (As := ([.int (nI i)] : List Value)) (rest := []) (b := X) (ci := 6) (q := (R_Mod, T_Mod, 37)) ⟨hx, hb, hml, hown, hts⟩ (c_Mod_chosen hm (by omega)) ⟨(callB_of 1 hts (zg_all zw_829) rfl rfl rfl (hw zw_3) (hw zw_826) k_Mod_chosen.2 ⟨Nat.le_of_ble_eq_true rfl, Nat.le_of_ble_eq_true rfl⟩), (hw zw_828), (hw zs_Mod_chosen)⟩ hSc hE hH hS hA rfl (by decide) hm.1.1 rfl hl.1 rfl (Nat.le_of_ble_eq_true rfl) d_Mod_frame_20 ⟨Nat.le_of_ble_eq_true rfl, Nat.le_of_ble_eq_true rfl⟩ (fun v10 kd10 ln10 I10 L10 R10 H locs hp hH hS => ?_)
          obtain ⟨rfl, rfl, rfl, rfl, hm⟩ := hp
          refine W.eq (g2 := F0 m 23 ls [.int (zo_cho m9 i)]) rfl ?_
          refine W.widen (k := 0) (n := 0) (by omega) (by omega) ?_
          refine lv_if_lt (tgt := 30) hx hb d_Mod_frame_23 (by decide) (fun hc11 => ?_) (fun hc11 => ?_)
          · skip
            have hc11 : (zo_cho m9 i) < (nI 0) := hc11
            refine lv_iconst (v := nI 0) hx hb d_Mod_frame_30 (by decide) ?_
            refine lv_istore_n (lv' := [(3, .int (nI 0)), (0, .ref X), (1, .int (zo_bs m9 i)), (2, .int (nI i))]) hx hb d_Mod_frame_31 rfl hl (by decide) rfl (fun ls hl => ?_)
            refine lv_iload_n hx hb d_Mod_frame_32 rfl (lv_at hl 2 rfl) ?_
            refine lv_if_lt (tgt := 89) hx hb d_Mod_frame_33 (by decide) (fun hc12 => ?_) (fun hc12 => ?_)
            · skip
              have hc12 : (zo_bs m9 i) < (nI 0) := hc12
              refine lv_iconst (v := nI 0) hx hb d_Mod_frame_89 (by decide) ?_
              refine lv_istore (lv' := [(4, .int (nI 0)), (3, .int (nI 0)), (0, .ref X), (1, .int (zo_bs m9 i)), (2, .int (nI i))]) hx hb d_Mod_frame_90 hl (by decide) rfl (fun ls hl => ?_)
              refine lv_iload_n hx hb d_Mod_frame_92 rfl (lv_at hl 1 rfl) ?_
              refine lv_if_eq (tgt := 109) hx hb d_Mod_frame_93 (by decide) (fun hc13 => ?_) (fun hc13 => ?_)
              · skip
                have hc13 := zt_eqT (a := 0) (b := 0) (by omega) (by omega) hc13
                refine lv_iload_n hx hb d_Mod_frame_109 rfl (lv_at hl 3 rfl) ?_
                refine lv_istore_n (lv' := [(1, .int (zo_bs m9 i)), (4, .int (nI 0)), (3, .int (nI 0)), (0, .ref X), (2, .int (nI i))]) hx hb d_Mod_frame_110 rfl hl (by decide) rfl (fun ls hl => ?_)
                refine lv_iinc (k := 4) (v := nI (i + 1)) (lv' := [(2, .int (nI (i + 1))), (1, .int (zo_bs m9 i)), (4, .int (nI 0)), (3, .int (nI 0)), (0, .ref X)]) hx hb d_Mod_frame_111 hl rfl (nI_add i 1) (by decide) rfl (fun ls hl => ?_)
                refine lv_goto (tgt := 4) hx hb d_Mod_frame_114 (by decide) ?_
                have e14 : zo_bs m9 (i + 1) = zo_bs m9 i := by rw [zo_bs, if_neg hc3, if_pos hc11]
                have hl : lv_has ls 5 [(2, .int (nI (i + 1))), (1, .int (zo_bs m9 (i + 1))), (4, .int (nI 0)), (3, .int (nI 0)), (0, .ref X)] := by rw [e14]; exact hl
                exact ih_4 (i + 1) _ _ _ _ _ (by omega) (by omega) hm (lv_sub hl [4, 1, 0] rfl) hH hS
              · skip
                have hc13 := zt_eqF (a := 0) (b := 0) (by omega) (by omega) hc13
                exact absurd hc13 (by omega)
            · skip
              have hc12 : ¬ (zo_bs m9 i) < (nI 0) := hc12
              obtain ⟨jb, hjb, ejb, -, -⟩ := zo_bs_of i (by omega) hc12
              have sjb : (zo_bs m9 i).toNatClampNeg = jb := by rw [ejb]; exact nI_clamp (by omega)
              have hl : lv_has ls 5 [(3, .int (nI 0)), (0, .ref X), (1, .int (nI jb)), (2, .int (nI i))] := by rw [← ejb]; exact hl
              refine lv_iload_n hx hb d_Mod_frame_36 rfl (lv_at hl 0 rfl) ?_
              refine lv_if_eq (tgt := 89) hx hb d_Mod_frame_37 (by decide) (fun hc15 => ?_) (fun hc15 => ?_)
              · skip
                have hc15 := zt_eqT (a := 0) (b := 0) (by omega) (by omega) hc15
                refine lv_iconst (v := nI 0) hx hb d_Mod_frame_89 (by decide) ?_
                refine lv_istore (lv' := [(4, .int (nI 0)), (3, .int (nI 0)), (0, .ref X), (1, .int (nI jb)), (2, .int (nI i))]) hx hb d_Mod_frame_90 hl (by decide) rfl (fun ls hl => ?_)
                refine lv_iload_n hx hb d_Mod_frame_92 rfl (lv_at hl 1 rfl) ?_
                refine lv_if_eq (tgt := 109) hx hb d_Mod_frame_93 (by decide) (fun hc16 => ?_) (fun hc16 => ?_)
                · skip
                  have hc16 := zt_eqT (a := 0) (b := 0) (by omega) (by omega) hc16
                  refine lv_iload_n hx hb d_Mod_frame_109 rfl (lv_at hl 3 rfl) ?_
                  refine lv_istore_n (lv' := [(1, .int (nI jb)), (4, .int (nI 0)), (3, .int (nI 0)), (0, .ref X), (2, .int (nI i))]) hx hb d_Mod_frame_110 rfl hl (by decide) rfl (fun ls hl => ?_)
                  refine lv_iinc (k := 4) (v := nI (i + 1)) (lv' := [(2, .int (nI (i + 1))), (1, .int (nI jb)), (4, .int (nI 0)), (3, .int (nI 0)), (0, .ref X)]) hx hb d_Mod_frame_111 hl rfl (nI_add i 1) (by decide) rfl (fun ls hl => ?_)
                  refine lv_goto (tgt := 4) hx hb d_Mod_frame_114 (by decide) ?_
                  have e17 : zo_bs m9 (i + 1) = nI jb := by rw [zo_bs, if_neg hc3, if_pos hc11]; exact ejb
                  have hl : lv_has ls 5 [(2, .int (nI (i + 1))), (1, .int (zo_bs m9 (i + 1))), (4, .int (nI 0)), (3, .int (nI 0)), (0, .ref X)] := by rw [e17]; exact hl
                  exact ih_4 (i + 1) _ _ _ _ _ (by omega) (by omega) hm (lv_sub hl [4, 1, 0] rfl) hH hS
                · skip
                  have hc16 := zt_eqF (a := 0) (b := 0) (by omega) (by omega) hc16
                  exact absurd hc16 (by omega)
              · skip
                have hc15 := zt_eqF (a := 0) (b := 0) (by omega) (by omega) hc15
                exact absurd hc15 (by omega)
          · skip
            have hc11 : ¬ (zo_cho m9 i) < (nI 0) := hc11
            refine lv_iconst (v := nI 1) hx hb d_Mod_frame_26 (by decide) ?_
            refine lv_goto (tgt := 31) hx hb d_Mod_frame_27 (by decide) ?_
            refine lv_istore_n (lv' := [(3, .int (nI 1)), (0, .ref X), (1, .int (zo_bs m9 i)), (2, .int (nI i))]) hx hb d_Mod_frame_31 rfl hl (by decide) rfl (fun ls hl => ?_)
            refine lv_iload_n hx hb d_Mod_frame_32 rfl (lv_at hl 2 rfl) ?_
            refine lv_if_lt (tgt := 89) hx hb d_Mod_frame_33 (by decide) (fun hc18 => ?_) (fun hc18 => ?_)
            · skip
              have hc18 : (zo_bs m9 i) < (nI 0) := hc18
              refine lv_iconst (v := nI 0) hx hb d_Mod_frame_89 (by decide) ?_
              refine lv_istore (lv' := [(4, .int (nI 0)), (3, .int (nI 1)), (0, .ref X), (1, .int (zo_bs m9 i)), (2, .int (nI i))]) hx hb d_Mod_frame_90 hl (by decide) rfl (fun ls hl => ?_)
              refine lv_iload_n hx hb d_Mod_frame_92 rfl (lv_at hl 1 rfl) ?_
              refine lv_if_eq (tgt := 109) hx hb d_Mod_frame_93 (by decide) (fun hc19 => ?_) (fun hc19 => ?_)
              · skip
                have hc19 := zt_eqT (a := 1) (b := 0) (by omega) (by omega) hc19
                exact absurd hc19 (by omega)
              · skip
                have hc19 := zt_eqF (a := 1) (b := 0) (by omega) (by omega) hc19
                refine lv_iload_n hx hb d_Mod_frame_96 rfl (lv_at hl 3 rfl) ?_
                refine lv_if_lt (tgt := 105) hx hb d_Mod_frame_97 (by decide) (fun hc20 => ?_) (fun hc20 => ?_)
                · skip
                  have hc20 : (zo_bs m9 i) < (nI 0) := hc20
                  refine lv_iload_n hx hb d_Mod_frame_105 rfl (lv_at hl 4 rfl) ?_
                  refine lv_goto (tgt := 110) hx hb d_Mod_frame_106 (by decide) ?_
                  refine lv_istore_n (lv' := [(1, .int (nI i)), (4, .int (nI 0)), (3, .int (nI 1)), (0, .ref X), (2, .int (nI i))]) hx hb d_Mod_frame_110 rfl hl (by decide) rfl (fun ls hl => ?_)
                  refine lv_iinc (k := 4) (v := nI (i + 1)) (lv' := [(2, .int (nI (i + 1))), (1, .int (nI i)), (4, .int (nI 0)), (3, .int (nI 1)), (0, .ref X)]) hx hb d_Mod_frame_111 hl rfl (nI_add i 1) (by decide) rfl (fun ls hl => ?_)
                  refine lv_goto (tgt := 4) hx hb d_Mod_frame_114 (by decide) ?_
                  have e21 : zo_bs m9 (i + 1) = nI i := by rw [zo_bs, if_neg hc3, if_neg hc11, if_pos hc18]
                  have hl : lv_has ls 5 [(2, .int (nI (i + 1))), (1, .int (zo_bs m9 (i + 1))), (4, .int (nI 0)), (3, .int (nI 1)), (0, .ref X)] := by rw [e21]; exact hl
                  exact ih_4 (i + 1) _ _ _ _ _ (by omega) (by omega) hm (lv_sub hl [4, 1, 0] rfl) hH hS
                · skip
                  have hc20 : ¬ (zo_bs m9 i) < (nI 0) := hc20
                  exact absurd hc18 hc20
            · skip
              have hc18 : ¬ (zo_bs m9 i) < (nI 0) := hc18
              obtain ⟨jb, hjb, ejb, -, -⟩ := zo_bs_of i (by omega) hc18
              have sjb : (zo_bs m9 i).toNatClampNeg = jb := by rw [ejb]; exact nI_clamp (by omega)
              have hl : lv_has ls 5 [(3, .int (nI 1)), (0, .ref X), (1, .int (nI jb)), (2, .int (nI i))] := by rw [← ejb]; exact hl
              refine lv_iload_n hx hb d_Mod_frame_36 rfl (lv_at hl 0 rfl) ?_
              refine lv_if_eq (tgt := 89) hx hb d_Mod_frame_37 (by decide) (fun hc22 => ?_) (fun hc22 => ?_)
              · skip
                have hc22 := zt_eqT (a := 1) (b := 0) (by omega) (by omega) hc22
                exact absurd hc22 (by omega)
              · skip
                have hc22 := zt_eqF (a := 1) (b := 0) (by omega) (by omega) hc22
                refine lv_aload_n hx hb d_Mod_frame_40 rfl (lv_at hl 1 rfl) ?_
                refine zr_getr (ci := 6) (C := R_Mod) (T := T_Mod) (N := 37) (ref := "ScrubbedRecorderModel") hx hb hts (fun w h => List.mem_cons_of_mem _ (zin_Mod w h)) hown hK hH hm.1.1 (by decide) rfl 30 (by decide) rfl (hw zw_629) (fun _ h9 => h9) d_Mod_frame_41 (by rw [r30]) ?_
                refine lv_iload_n hx hb d_Mod_frame_44 rfl (lv_at hl 3 rfl) ?_
                refine zr_aldi (j := i) hx hb hK hH k30 (by rw [n30]; exact zh_ix_n (by omega) (by omega)) d_Mod_frame_45 ?_
                refine zt_i (y := m9 30 i) (congrFun (hm.2.1 30 (by decide) (by decide) (by decide)) i) ?_
                refine lv_aload_n hx hb d_Mod_frame_46 rfl (lv_at hl 1 rfl) ?_
                refine zr_getr (ci := 6) (C := R_Mod) (T := T_Mod) (N := 37) (ref := "ScrubbedRecorderModel") hx hb hts (fun w h => List.mem_cons_of_mem _ (zin_Mod w h)) hown hK hH hm.1.1 (by decide) rfl 30 (by decide) rfl (hw zw_629) (fun _ h9 => h9) d_Mod_frame_47 (by rw [r30]) ?_
                refine lv_iload_n hx hb d_Mod_frame_50 rfl (lv_at hl 2 rfl) ?_
                refine zr_aldi (j := jb) hx hb hK hH k30 (by rw [n30]; exact zh_ix_n (by omega) (by omega)) d_Mod_frame_51 ?_
                refine zt_i (y := m9 30 jb) (congrFun (hm.2.1 30 (by decide) (by decide) (by decide)) jb) ?_
                refine lv_icmp_lt (tgt := 85) hx hb d_Mod_frame_52 (by decide) (fun hc23 => ?_) (fun hc23 => ?_)
                · skip
                  have hc23 : (m9 30 i) < (m9 30 jb) := hc23
                  refine lv_iconst (v := nI 1) hx hb d_Mod_frame_85 (by decide) ?_
                  refine lv_goto (tgt := 90) hx hb d_Mod_frame_86 (by decide) ?_
                  refine lv_istore (lv' := [(4, .int (nI 1)), (3, .int (nI 1)), (0, .ref X), (1, .int (nI jb)), (2, .int (nI i))]) hx hb d_Mod_frame_90 hl (by decide) rfl (fun ls hl => ?_)
                  refine lv_iload_n hx hb d_Mod_frame_92 rfl (lv_at hl 1 rfl) ?_
                  refine lv_if_eq (tgt := 109) hx hb d_Mod_frame_93 (by decide) (fun hc24 => ?_) (fun hc24 => ?_)
                  · skip
                    have hc24 := zt_eqT (a := 1) (b := 0) (by omega) (by omega) hc24
                    exact absurd hc24 (by omega)
                  · skip
                    have hc24 := zt_eqF (a := 1) (b := 0) (by omega) (by omega) hc24
                    refine lv_iload_n hx hb d_Mod_frame_96 rfl (lv_at hl 3 rfl) ?_
                    refine lv_if_lt (tgt := 105) hx hb d_Mod_frame_97 (by decide) (fun hc25 => ?_) (fun hc25 => ?_)
                    · skip
                      have hc25 := zt_ltT (a := jb) (b := 0) (by omega) (by omega) hc25
                      exact absurd hc25 (by omega)
                    · skip
                      have hc25 := zt_ltF (a := jb) (b := 0) (by omega) (by omega) hc25
                      refine lv_iload hx hb d_Mod_frame_100 (lv_at hl 0 rfl) ?_
                      refine lv_if_eq (tgt := 109) hx hb d_Mod_frame_102 (by decide) (fun hc26 => ?_) (fun hc26 => ?_)
                      · skip
                        have hc26 := zt_eqT (a := 1) (b := 0) (by omega) (by omega) hc26
                        exact absurd hc26 (by omega)
                      · skip
                        have hc26 := zt_eqF (a := 1) (b := 0) (by omega) (by omega) hc26
                        refine lv_iload_n hx hb d_Mod_frame_105 rfl (lv_at hl 4 rfl) ?_
                        refine lv_goto (tgt := 110) hx hb d_Mod_frame_106 (by decide) ?_
                        refine lv_istore_n (lv' := [(1, .int (nI i)), (4, .int (nI 1)), (3, .int (nI 1)), (0, .ref X), (2, .int (nI i))]) hx hb d_Mod_frame_110 rfl hl (by decide) rfl (fun ls hl => ?_)
                        refine lv_iinc (k := 4) (v := nI (i + 1)) (lv' := [(2, .int (nI (i + 1))), (1, .int (nI i)), (4, .int (nI 1)), (3, .int (nI 1)), (0, .ref X)]) hx hb d_Mod_frame_111 hl rfl (nI_add i 1) (by decide) rfl (fun ls hl => ?_)
                        refine lv_goto (tgt := 4) hx hb d_Mod_frame_114 (by decide) ?_
                        have e27 : zo_bs m9 (i + 1) = nI i := by rw [zo_bs, if_neg hc3, if_neg hc11, if_neg hc18, sjb, if_pos hc23]
                        have hl : lv_has ls 5 [(2, .int (nI (i + 1))), (1, .int (zo_bs m9 (i + 1))), (4, .int (nI 1)), (3, .int (nI 1)), (0, .ref X)] := by rw [e27]; exact hl
                        exact ih_4 (i + 1) _ _ _ _ _ (by omega) (by omega) hm (lv_sub hl [4, 1, 0] rfl) hH hS
                · skip
                  have hc23 : ¬ (m9 30 i) < (m9 30 jb) := hc23
                  refine lv_aload_n hx hb d_Mod_frame_55 rfl (lv_at hl 1 rfl) ?_
                  refine zr_getr (ci := 6) (C := R_Mod) (T := T_Mod) (N := 37) (ref := "ScrubbedRecorderModel") hx hb hts (fun w h => List.mem_cons_of_mem _ (zin_Mod w h)) hown hK hH hm.1.1 (by decide) rfl 30 (by decide) rfl (hw zw_629) (fun _ h9 => h9) d_Mod_frame_56 (by rw [r30]) ?_
                  refine lv_iload_n hx hb d_Mod_frame_59 rfl (lv_at hl 3 rfl) ?_
                  refine zr_aldi (j := i) hx hb hK hH k30 (by rw [n30]; exact zh_ix_n (by omega) (by omega)) d_Mod_frame_60 ?_
                  refine zt_i (y := m9 30 i) (congrFun (hm.2.1 30 (by decide) (by decide) (by decide)) i) ?_
                  refine lv_aload_n hx hb d_Mod_frame_61 rfl (lv_at hl 1 rfl) ?_
                  refine zr_getr (ci := 6) (C := R_Mod) (T := T_Mod) (N := 37) (ref := "ScrubbedRecorderModel") hx hb hts (fun w h => List.mem_cons_of_mem _ (zin_Mod w h)) hown hK hH hm.1.1 (by decide) rfl 30 (by decide) rfl (hw zw_629) (fun _ h9 => h9) d_Mod_frame_62 (by rw [r30]) ?_
                  refine lv_iload_n hx hb d_Mod_frame_65 rfl (lv_at hl 2 rfl) ?_
                  refine zr_aldi (j := jb) hx hb hK hH k30 (by rw [n30]; exact zh_ix_n (by omega) (by omega)) d_Mod_frame_66 ?_
                  refine zt_i (y := m9 30 jb) (congrFun (hm.2.1 30 (by decide) (by decide) (by decide)) jb) ?_
                  refine lv_icmp_ne (tgt := 89) hx hb d_Mod_frame_67 (by decide) (fun hc28 => ?_) (fun hc28 => ?_)
                  · skip
                    have hc28 : ¬ (m9 30 i) = (m9 30 jb) := hc28
                    refine lv_iconst (v := nI 0) hx hb d_Mod_frame_89 (by decide) ?_
                    refine lv_istore (lv' := [(4, .int (nI 0)), (3, .int (nI 1)), (0, .ref X), (1, .int (nI jb)), (2, .int (nI i))]) hx hb d_Mod_frame_90 hl (by decide) rfl (fun ls hl => ?_)
                    refine lv_iload_n hx hb d_Mod_frame_92 rfl (lv_at hl 1 rfl) ?_
                    refine lv_if_eq (tgt := 109) hx hb d_Mod_frame_93 (by decide) (fun hc29 => ?_) (fun hc29 => ?_)
                    · skip
                      have hc29 := zt_eqT (a := 1) (b := 0) (by omega) (by omega) hc29
                      exact absurd hc29 (by omega)
                    · skip
                      have hc29 := zt_eqF (a := 1) (b := 0) (by omega) (by omega) hc29
                      refine lv_iload_n hx hb d_Mod_frame_96 rfl (lv_at hl 3 rfl) ?_
                      refine lv_if_lt (tgt := 105) hx hb d_Mod_frame_97 (by decide) (fun hc30 => ?_) (fun hc30 => ?_)
                      · skip
                        have hc30 := zt_ltT (a := jb) (b := 0) (by omega) (by omega) hc30
                        exact absurd hc30 (by omega)
                      · skip
                        have hc30 := zt_ltF (a := jb) (b := 0) (by omega) (by omega) hc30
                        refine lv_iload hx hb d_Mod_frame_100 (lv_at hl 0 rfl) ?_
                        refine lv_if_eq (tgt := 109) hx hb d_Mod_frame_102 (by decide) (fun hc31 => ?_) (fun hc31 => ?_)
                        · skip
                          have hc31 := zt_eqT (a := 0) (b := 0) (by omega) (by omega) hc31
                          refine lv_iload_n hx hb d_Mod_frame_109 rfl (lv_at hl 3 rfl) ?_
                          refine lv_istore_n (lv' := [(1, .int (nI jb)), (4, .int (nI 0)), (3, .int (nI 1)), (0, .ref X), (2, .int (nI i))]) hx hb d_Mod_frame_110 rfl hl (by decide) rfl (fun ls hl => ?_)
                          refine lv_iinc (k := 4) (v := nI (i + 1)) (lv' := [(2, .int (nI (i + 1))), (1, .int (nI jb)), (4, .int (nI 0)), (3, .int (nI 1)), (0, .ref X)]) hx hb d_Mod_frame_111 hl rfl (nI_add i 1) (by decide) rfl (fun ls hl => ?_)
                          refine lv_goto (tgt := 4) hx hb d_Mod_frame_114 (by decide) ?_
                          have e32 : zo_bs m9 (i + 1) = nI jb := by rw [zo_bs, if_neg hc3, if_neg hc11, if_neg hc18, sjb, if_neg hc23, if_neg hc28]; exact ejb
                          have hl : lv_has ls 5 [(2, .int (nI (i + 1))), (1, .int (zo_bs m9 (i + 1))), (4, .int (nI 0)), (3, .int (nI 1)), (0, .ref X)] := by rw [e32]; exact hl
                          exact ih_4 (i + 1) _ _ _ _ _ (by omega) (by omega) hm (lv_sub hl [4, 1, 0] rfl) hH hS
                        · skip
                          have hc31 := zt_eqF (a := 0) (b := 0) (by omega) (by omega) hc31
                          exact absurd hc31 (by omega)
                  · skip
                    have hc28 : (m9 30 i) = (m9 30 jb) := hc28
                    refine lv_aload_n hx hb d_Mod_frame_70 rfl (lv_at hl 1 rfl) ?_
                    refine zr_getr (ci := 6) (C := R_Mod) (T := T_Mod) (N := 37) (ref := "ScrubbedRecorderModel") hx hb hts (fun w h => List.mem_cons_of_mem _ (zin_Mod w h)) hown hK hH hm.1.1 (by decide) rfl 32 (by decide) rfl (hw zw_631) (fun _ h9 => h9) d_Mod_frame_71 (by rw [r32]) ?_
                    refine lv_iload_n hx hb d_Mod_frame_74 rfl (lv_at hl 3 rfl) ?_
                    refine zr_aldi (j := i) hx hb hK hH k32 (by rw [n32]; exact zh_ix_n (by omega) (by omega)) d_Mod_frame_75 ?_
                    refine zt_i (y := m9 32 i) (congrFun (hm.2.1 32 (by decide) (by decide) (by decide)) i) ?_
                    refine lv_aload_n hx hb d_Mod_frame_76 rfl (lv_at hl 1 rfl) ?_
                    refine zr_getr (ci := 6) (C := R_Mod) (T := T_Mod) (N := 37) (ref := "ScrubbedRecorderModel") hx hb hts (fun w h => List.mem_cons_of_mem _ (zin_Mod w h)) hown hK hH hm.1.1 (by decide) rfl 32 (by decide) rfl (hw zw_631) (fun _ h9 => h9) d_Mod_frame_77 (by rw [r32]) ?_
                    refine lv_iload_n hx hb d_Mod_frame_80 rfl (lv_at hl 2 rfl) ?_
                    refine zr_aldi (j := jb) hx hb hK hH k32 (by rw [n32]; exact zh_ix_n (by omega) (by omega)) d_Mod_frame_81 ?_
                    refine zt_i (y := m9 32 jb) (congrFun (hm.2.1 32 (by decide) (by decide) (by decide)) jb) ?_
                    refine lv_icmp_ge (tgt := 89) hx hb d_Mod_frame_82 (by decide) (fun hc33 => ?_) (fun hc33 => ?_)
                    · skip
                      have hc33 : ¬ (m9 32 i) < (m9 32 jb) := Int32.not_lt.mpr hc33
                      refine lv_iconst (v := nI 0) hx hb d_Mod_frame_89 (by decide) ?_
                      refine lv_istore (lv' := [(4, .int (nI 0)), (3, .int (nI 1)), (0, .ref X), (1, .int (nI jb)), (2, .int (nI i))]) hx hb d_Mod_frame_90 hl (by decide) rfl (fun ls hl => ?_)
                      refine lv_iload_n hx hb d_Mod_frame_92 rfl (lv_at hl 1 rfl) ?_
                      refine lv_if_eq (tgt := 109) hx hb d_Mod_frame_93 (by decide) (fun hc34 => ?_) (fun hc34 => ?_)
                      · skip
                        have hc34 := zt_eqT (a := 1) (b := 0) (by omega) (by omega) hc34
                        exact absurd hc34 (by omega)
                      · skip
                        have hc34 := zt_eqF (a := 1) (b := 0) (by omega) (by omega) hc34
                        refine lv_iload_n hx hb d_Mod_frame_96 rfl (lv_at hl 3 rfl) ?_
                        refine lv_if_lt (tgt := 105) hx hb d_Mod_frame_97 (by decide) (fun hc35 => ?_) (fun hc35 => ?_)
                        · skip
                          have hc35 := zt_ltT (a := jb) (b := 0) (by omega) (by omega) hc35
                          exact absurd hc35 (by omega)
                        · skip
                          have hc35 := zt_ltF (a := jb) (b := 0) (by omega) (by omega) hc35
                          refine lv_iload hx hb d_Mod_frame_100 (lv_at hl 0 rfl) ?_
                          refine lv_if_eq (tgt := 109) hx hb d_Mod_frame_102 (by decide) (fun hc36 => ?_) (fun hc36 => ?_)
                          · skip
                            have hc36 := zt_eqT (a := 0) (b := 0) (by omega) (by omega) hc36
                            refine lv_iload_n hx hb d_Mod_frame_109 rfl (lv_at hl 3 rfl) ?_
                            refine lv_istore_n (lv' := [(1, .int (nI jb)), (4, .int (nI 0)), (3, .int (nI 1)), (0, .ref X), (2, .int (nI i))]) hx hb d_Mod_frame_110 rfl hl (by decide) rfl (fun ls hl => ?_)
                            refine lv_iinc (k := 4) (v := nI (i + 1)) (lv' := [(2, .int (nI (i + 1))), (1, .int (nI jb)), (4, .int (nI 0)), (3, .int (nI 1)), (0, .ref X)]) hx hb d_Mod_frame_111 hl rfl (nI_add i 1) (by decide) rfl (fun ls hl => ?_)
                            refine lv_goto (tgt := 4) hx hb d_Mod_frame_114 (by decide) ?_
                            have e37 : zo_bs m9 (i + 1) = nI jb := by rw [zo_bs, if_neg hc3, if_neg hc11, if_neg hc18, sjb, if_neg hc23, if_pos hc28, if_neg hc33]; exact ejb
                            have hl : lv_has ls 5 [(2, .int (nI (i + 1))), (1, .int (zo_bs m9 (i + 1))), (4, .int (nI 0)), (3, .int (nI 1)), (0, .ref X)] := by rw [e37]; exact hl
                            exact ih_4 (i + 1) _ _ _ _ _ (by omega) (by omega) hm (lv_sub hl [4, 1, 0] rfl) hH hS
                          · skip
                            have hc36 := zt_eqF (a := 0) (b := 0) (by omega) (by omega) hc36
                            exact absurd hc36 (by omega)
                    · skip
                      have hc33 : (m9 32 i) < (m9 32 jb) := Int32.not_le.mp hc33
                      refine lv_iconst (v := nI 1) hx hb d_Mod_frame_85 (by decide) ?_
                      refine lv_goto (tgt := 90) hx hb d_Mod_frame_86 (by decide) ?_
                      refine lv_istore (lv' := [(4, .int (nI 1)), (3, .int (nI 1)), (0, .ref X), (1, .int (nI jb)), (2, .int (nI i))]) hx hb d_Mod_frame_90 hl (by decide) rfl (fun ls hl => ?_)
                      refine lv_iload_n hx hb d_Mod_frame_92 rfl (lv_at hl 1 rfl) ?_
                      refine lv_if_eq (tgt := 109) hx hb d_Mod_frame_93 (by decide) (fun hc38 => ?_) (fun hc38 => ?_)
                      · skip
                        have hc38 := zt_eqT (a := 1) (b := 0) (by omega) (by omega) hc38
                        exact absurd hc38 (by omega)
                      · skip
                        have hc38 := zt_eqF (a := 1) (b := 0) (by omega) (by omega) hc38
                        refine lv_iload_n hx hb d_Mod_frame_96 rfl (lv_at hl 3 rfl) ?_
                        refine lv_if_lt (tgt := 105) hx hb d_Mod_frame_97 (by decide) (fun hc39 => ?_) (fun hc39 => ?_)
                        · skip
                          have hc39 := zt_ltT (a := jb) (b := 0) (by omega) (by omega) hc39
                          exact absurd hc39 (by omega)
                        · skip
                          have hc39 := zt_ltF (a := jb) (b := 0) (by omega) (by omega) hc39
                          refine lv_iload hx hb d_Mod_frame_100 (lv_at hl 0 rfl) ?_
                          refine lv_if_eq (tgt := 109) hx hb d_Mod_frame_102 (by decide) (fun hc40 => ?_) (fun hc40 => ?_)
                          · skip
                            have hc40 := zt_eqT (a := 1) (b := 0) (by omega) (by omega) hc40
                            exact absurd hc40 (by omega)
                          · skip
                            have hc40 := zt_eqF (a := 1) (b := 0) (by omega) (by omega) hc40
                            refine lv_iload_n hx hb d_Mod_frame_105 rfl (lv_at hl 4 rfl) ?_
                            refine lv_goto (tgt := 110) hx hb d_Mod_frame_106 (by decide) ?_
                            refine lv_istore_n (lv' := [(1, .int (nI i)), (4, .int (nI 1)), (3, .int (nI 1)), (0, .ref X), (2, .int (nI i))]) hx hb d_Mod_frame_110 rfl hl (by decide) rfl (fun ls hl => ?_)
                            refine lv_iinc (k := 4) (v := nI (i + 1)) (lv' := [(2, .int (nI (i + 1))), (1, .int (nI i)), (4, .int (nI 1)), (3, .int (nI 1)), (0, .ref X)]) hx hb d_Mod_frame_111 hl rfl (nI_add i 1) (by decide) rfl (fun ls hl => ?_)
                            refine lv_goto (tgt := 4) hx hb d_Mod_frame_114 (by decide) ?_
                            have e41 : zo_bs m9 (i + 1) = nI i := by rw [zo_bs, if_neg hc3, if_neg hc11, if_neg hc18, sjb, if_neg hc23, if_pos hc28, if_pos hc33]
                            have hl : lv_has ls 5 [(2, .int (nI (i + 1))), (1, .int (zo_bs m9 (i + 1))), (4, .int (nI 1)), (3, .int (nI 1)), (0, .ref X)] := by rw [e41]; exact hl
                            exact ih_4 (i + 1) _ _ _ _ _ (by omega) (by omega) hm (lv_sub hl [4, 1, 0] rfl) hH hS
  exact loop_4 _ 0 _ _ _ _ _ (Nat.lt_succ_self _) (by omega) hm (lv_sub hl [2, 1, 0] rfl) hH hS

set_option maxHeartbeats 4000000 in
set_option maxRecDepth 100000 in
/-- frame, a packet -/
theorem c_Mod_frame_F {l : Launch} {D : va_G} {cA : Nat → ClassId} {te mi : Nat} {kd ln : Nat → Nat} {I : Nat → Nat → Int32} {L : Nat → Nat → Int64} {R : Nat → Nat → Option Nat} {X : Nat} {ad : Nat → Nat} {m9 : Nat → Nat → Int32} {q9 : Nat → Nat → Int64} (hm : zoR X ad m9 q9 kd ln I L R) {b9 s9 n : Nat} (hb9 : zo_bs m9 4 = nI b9) (hb4 : b9 < 4) (hs9 : zo_cho m9 b9 = nI s9) (hs280 : s9 < 280) (hn : m9 20 s9 = nI n) (hn60 : n ≤ 60) : zc_M l y_Mod_frame w_Mod_frame { frames := 2, cells := 0, slots := 0, locals := 48 } 0 0 D cA te mi ([.ref X] : List Value) kd ln I L R (zo_P (some (.int (nI (11 + n)))) X ad (zo_fmI m9 q9 b9 s9 n) q9 kd ln R) := by
  intro sz
  refine Met.ofW (cc := b_Mod_frame) (maxL := 5) (ret := (some (.int))) (by decide +kernel) rfl ?_
  intro p e s m args below meth c s₁ B hml hv
  obtain ⟨rfl, hsz, hSc, hE, hH⟩ := hv
  have hx := B.exec
  have hb := B.bytes
  have hr := B.returns
  have hts := atoms_spec (ws := w_Mod_frame) B.pre
  have hw : ∀ {w : Cond}, w ∈ zw → w.before ([.ref X] : List Value).toArray s = true := fun h => hts _ (List.mem_cons_of_mem _ h)
  have hown : s.vm.findClass R_Mod = some m.cls := findClass_of_methodNamed B.named
  have hlocks := B.notSynchronized
  subst hsz
  have hK := hSc.1
  have hH : zh_H D cA (zc_A kd s.heap.size) kd ln I L R s.heap := hH.weaken (fun q h _ => Or.inl h)
  generalize hAe : zc_A kd s.heap.size = A at hH hE ⊢
  have hA : ∀ q : Nat, s.heap.size ≤ q → A q := fun q h => by rw [← hAe]; exact Or.inr h
  have hS : va_S A s.heap s.heap [] := va_S.rf
  have hl := lv_entry ([.ref X] : List Value) (n := 5) (Nat.le_of_ble_eq_true rfl)
  rw [lg_entry_eq]
  generalize (lg_sl ([.ref X] : List Value) ++ List.replicate (5 - (lg_sl ([.ref X] : List Value)).length) Slot.unset).toArray = ls at hl ⊢
  have hl : lv_has ls 5 [(0, .ref X)] := hl
  have k16 : kd (ad 16) = 100 := (hm.1.2.1 16 (by decide) (by decide)).2.1
  have n16 : ln (ad 16) = 280 := (hm.1.2.1 16 (by decide) (by decide)).2.2
  have r16 : R X 16 = some (ad 16) := (hm.1.2.1 16 (by decide) (by decide)).1
  have k17 : kd (ad 17) = 100 := (hm.1.2.1 17 (by decide) (by decide)).2.1
  have n17 : ln (ad 17) = 280 := (hm.1.2.1 17 (by decide) (by decide)).2.2
  have r17 : R X 17 = some (ad 17) := (hm.1.2.1 17 (by decide) (by decide)).1
  have k20 : kd (ad 20) = 100 := (hm.1.2.1 20 (by decide) (by decide)).2.1
  have n20 : ln (ad 20) = 280 := (hm.1.2.1 20 (by decide) (by decide)).2.2
  have r20 : R X 20 = some (ad 20) := (hm.1.2.1 20 (by decide) (by decide)).1
  have k24 : kd (ad 24) = 100 := (hm.1.2.1 24 (by decide) (by decide)).2.1
  have n24 : ln (ad 24) = 280 := (hm.1.2.1 24 (by decide) (by decide)).2.2
  have r24 : R X 24 = some (ad 24) := (hm.1.2.1 24 (by decide) (by decide)).1
  have k27 : kd (ad 27) = 100 := (hm.1.2.1 27 (by decide) (by decide)).2.1
  have n27 : ln (ad 27) = 4 := (hm.1.2.1 27 (by decide) (by decide)).2.2
  have r27 : R X 27 = some (ad 27) := (hm.1.2.1 27 (by decide) (by decide)).1
  have k30 : kd (ad 30) = 100 := (hm.1.2.1 30 (by decide) (by decide)).2.1
  have n30 : ln (ad 30) = 4 := (hm.1.2.1 30 (by decide) (by decide)).2.2
  have r30 : R X 30 = some (ad 30) := (hm.1.2.1 30 (by decide) (by decide)).1
  have k31 : kd (ad 31) = 100 := (hm.1.2.1 31 (by decide) (by decide)).2.1
  have n31 : ln (ad 31) = 4 := (hm.1.2.1 31 (by decide) (by decide)).2.2
  have r31 : R X 31 = some (ad 31) := (hm.1.2.1 31 (by decide) (by decide)).1
  have k32 : kd (ad 32) = 100 := (hm.1.2.1 32 (by decide) (by decide)).2.1
  have n32 : ln (ad 32) = 4 := (hm.1.2.1 32 (by decide) (by decide)).2.2
  have r32 : R X 32 = some (ad 32) := (hm.1.2.1 32 (by decide) (by decide)).1
  have k36 : kd (ad 36) = 100 := (hm.1.2.1 36 (by decide) (by decide)).2.1
  have n36 : ln (ad 36) = 80 := (hm.1.2.1 36 (by decide) (by decide)).2.2
  have r36 : R X 36 = some (ad 36) := (hm.1.2.1 36 (by decide) (by decide)).1
  refine lv_iconst (v := (-1)) hx hb d_Mod_frame_0 (by decide) ?_
  refine lv_istore_n (lv' := [(1, .int (-1)), (0, .ref X)]) hx hb d_Mod_frame_1 rfl hl (by decide) rfl (fun ls hl => ?_)
  refine lv_iconst (v := nI 0) hx hb d_Mod_frame_2 (by decide) ?_
  refine lv_istore_n (lv' := [(2, .int (nI 0)), (1, .int (-1)), (0, .ref X)]) hx hb d_Mod_frame_3 rfl hl (by decide) rfl (fun ls hl => ?_)
  have loop_4 : ∀ (z : Nat) (i : Nat) (I_4 : Nat → Nat → Int32) (L_4 : Nat → Nat → Int64) (H : Heap) (locs : List Loc) (ls : Array Slot), 4 - i < z → (i ≤ 4) → (zoR X ad m9 q9 kd ln I_4 L_4 R) → lv_has ls 5 [(0, .ref X), (1, .int (zo_bs m9 i)), (2, .int (nI i))] → zh_H D cA A kd ln I_4 L_4 R H → va_S A s.heap H locs → W p l e (headSpec w_Mod_frame { frames := 2, cells := 0, slots := 0, locals := 48 }).room s m ([.ref X] : List Value).toArray below meth c H locs 0 0 (MQ below (zc_Qc D cA A (zo_P (some (.int (nI (11 + n)))) X ad (zo_fmI m9 q9 b9 s9 n) q9 kd ln R)) ([.ref X] : List Value).toArray s 0 0 A) (F0 m 4 ls []) := by
    intro z
    induction z with
    | zero => intro i I_4 L_4 H locs ls hz; exact absurd hz (Nat.not_lt_zero _)
    | succ z ih_4 =>
      intro i I_4 L_4 H locs ls hz_4 hi hm hl hH hS
      refine lv_iload_n hx hb d_Mod_frame_4 rfl (lv_at hl 2 rfl) ?_
      refine lv_iconst (v := nI 4) hx hb d_Mod_frame_5 (by decide) ?_
      refine lv_icmp_ge (tgt := 117) hx hb d_Mod_frame_6 (by decide) (fun hc1 => ?_) (fun hc1 => ?_)
      · skip
        have hc1 := zt_geT (a := i) (b := 4) (by omega) (by omega) hc1
        have hi2 : i = 4 := by omega
        rw [hi2] at hl
        rw [hb9] at hl
        refine lv_iload_n hx hb d_Mod_frame_117 rfl (lv_at hl 1 rfl) ?_
        refine lv_if_ge (tgt := 123) hx hb d_Mod_frame_118 (by decide) (fun hc2 => ?_) (fun hc2 => ?_)
        · skip
          have hc2 := zt_geT (a := b9) (b := 0) (by omega) (by omega) hc2
          refine lv_aload_n hx hb d_Mod_frame_123 rfl (lv_at hl 0 rfl) ?_
          refine lv_iload_n hx hb d_Mod_frame_124 rfl (lv_at hl 1 rfl) ?_
          refine zr_V (As := ([.int (nI b9)] : List Value)) (rest := []) (b := X) (ci := 6) (q := (R_Mod, T_Mod, 37)) ⟨hx, hb, hml, hown, hts⟩ (c_Mod_chosen hm (by omega)) ⟨(callB_of 1 hts (zg_all zw_829) rfl rfl rfl (hw zw_3) (hw zw_826) k_Mod_chosen.2 ⟨Nat.le_of_ble_eq_true rfl, Nat.le_of_ble_eq_true rfl⟩), (hw zw_828), (hw zs_Mod_chosen)⟩ hSc hE hH hS hA rfl (by decide) hm.1.1 rfl hl.1 rfl (Nat.le_of_ble_eq_true rfl) d_Mod_frame_125 ⟨Nat.le_of_ble_eq_true rfl, Nat.le_of_ble_eq_true rfl⟩ (fun v3 kd3 ln3 I3 L3 R3 H locs hp hH hS => ?_)
          obtain ⟨rfl, rfl, rfl, rfl, hm⟩ := hp
          refine W.eq (g2 := F0 m 128 ls [.int (zo_cho m9 b9)]) rfl ?_
          refine W.widen (k := 0) (n := 0) (by omega) (by omega) ?_
          refine zt_i (y := nI s9) (hs9) ?_
          refine lv_istore_n (lv' := [(2, .int (nI s9)), (0, .ref X), (1, .int (nI b9))]) hx hb d_Mod_frame_128 rfl hl (by decide) rfl (fun ls hl => ?_)
          refine lv_aload_n hx hb d_Mod_frame_129 rfl (lv_at hl 1 rfl) ?_
          refine zr_getr (ci := 6) (C := R_Mod) (T := T_Mod) (N := 37) (ref := "ScrubbedRecorderModel") hx hb hts (fun w h => List.mem_cons_of_mem _ (zin_Mod w h)) hown hK hH hm.1.1 (by decide) rfl 24 (by decide) rfl (hw zw_623) (fun _ h9 => h9) d_Mod_frame_130 (by rw [r24]) ?_
          refine lv_iload_n hx hb d_Mod_frame_133 rfl (lv_at hl 0 rfl) ?_
          refine lv_iconst (v := nI 0) hx hb d_Mod_frame_134 (by decide) ?_
          refine zr_asti (j := s9) (y := nI 0) hx hb hK hH hS k24 rfl (by rw [n24]; exact zh_ix_n (by omega) (by omega)) d_Mod_frame_135 (fun H locs hH hS => ?_)
          have hm := zoR_I hm 24 (by decide) s9 (nI 0)
          generalize zu I3 (ad 24) s9 (nI 0) = I4 at hm hH
          refine lv_aload_n hx hb d_Mod_frame_136 rfl (lv_at hl 1 rfl) ?_
          refine zr_getr (ci := 6) (C := R_Mod) (T := T_Mod) (N := 37) (ref := "ScrubbedRecorderModel") hx hb hts (fun w h => List.mem_cons_of_mem _ (zin_Mod w h)) hown hK hH hm.1.1 (by decide) rfl 31 (by decide) rfl (hw zw_630) (fun _ h9 => h9) d_Mod_frame_137 (by rw [r31]) ?_
          refine lv_iload_n hx hb d_Mod_frame_140 rfl (lv_at hl 2 rfl) ?_
          refine lv_aload_n hx hb d_Mod_frame_141 rfl (lv_at hl 1 rfl) ?_
          refine zr_getr (ci := 6) (C := R_Mod) (T := T_Mod) (N := 37) (ref := "ScrubbedRecorderModel") hx hb hts (fun w h => List.mem_cons_of_mem _ (zin_Mod w h)) hown hK hH hm.1.1 (by decide) rfl 17 (by decide) rfl (hw zw_616) (fun _ h9 => h9) d_Mod_frame_142 (by rw [r17]) ?_
          refine lv_iload_n hx hb d_Mod_frame_145 rfl (lv_at hl 0 rfl) ?_
          refine zr_aldi (j := s9) hx hb hK hH k17 (by rw [n17]; exact zh_ix_n (by omega) (by omega)) d_Mod_frame_146 ?_
          refine zt_i (y := m9 17 s9) ((congrFun (hm.2.1 17 (by decide) (by decide) (by decide)) s9).trans (by rw [zu_ne _ _ _ (show (17 : Nat) ≠ 24 by decide)])) ?_
          refine zr_asti (j := b9) (y := m9 17 s9) hx hb hK hH hS k31 rfl (by rw [n31]; exact zh_ix_n (by omega) (by omega)) d_Mod_frame_147 (fun H locs hH hS => ?_)
          have hm := zoR_I hm 31 (by decide) b9 (m9 17 s9)
          generalize zu I4 (ad 31) b9 (m9 17 s9) = I5 at hm hH
          refine lv_aload_n hx hb d_Mod_frame_148 rfl (lv_at hl 1 rfl) ?_
          refine zr_getr (ci := 6) (C := R_Mod) (T := T_Mod) (N := 37) (ref := "ScrubbedRecorderModel") hx hb hts (fun w h => List.mem_cons_of_mem _ (zin_Mod w h)) hown hK hH hm.1.1 (by decide) rfl 36 (by decide) rfl (hw zw_635) (fun _ h9 => h9) d_Mod_frame_149 (by rw [r36]) ?_
          refine lv_iconst (v := nI 0) hx hb d_Mod_frame_152 (by decide) ?_
          refine lv_aload_n hx hb d_Mod_frame_153 rfl (lv_at hl 1 rfl) ?_
          refine zr_getr (ci := 6) (C := R_Mod) (T := T_Mod) (N := 37) (ref := "ScrubbedRecorderModel") hx hb hts (fun w h => List.mem_cons_of_mem _ (zin_Mod w h)) hown hK hH hm.1.1 (by decide) rfl 16 (by decide) rfl (hw zw_615) (fun _ h9 => h9) d_Mod_frame_154 (by rw [r16]) ?_
          refine lv_iload_n hx hb d_Mod_frame_157 rfl (lv_at hl 0 rfl) ?_
          refine zr_aldi (j := s9) hx hb hK hH k16 (by rw [n16]; exact zh_ix_n (by omega) (by omega)) d_Mod_frame_158 ?_
          refine zt_i (y := m9 16 s9) ((congrFun (hm.2.1 16 (by decide) (by decide) (by decide)) s9).trans (by rw [zu_ne _ _ _ (show (16 : Nat) ≠ 31 by decide), zu_ne _ _ _ (show (16 : Nat) ≠ 24 by decide)])) ?_
          refine zr_asti (j := 0) (y := m9 16 s9) hx hb hK hH hS k36 rfl (by rw [n36]; exact zh_ix_n (by omega) (by omega)) d_Mod_frame_159 (fun H locs hH hS => ?_)
          have hm := zoR_I hm 36 (by decide) 0 (m9 16 s9)
          generalize zu I5 (ad 36) 0 (m9 16 s9) = I6 at hm hH
          have f16 : zo_fm0 m9 b9 s9 16 = m9 16 := by unfold zo_fm0; rw [zu_ne _ _ _ (show (16 : Nat) ≠ 36 by decide), zu_ne _ _ _ (show (16 : Nat) ≠ 31 by decide), zu_ne _ _ _ (show (16 : Nat) ≠ 24 by decide)]
          have f17 : zo_fm0 m9 b9 s9 17 = m9 17 := by unfold zo_fm0; rw [zu_ne _ _ _ (show (17 : Nat) ≠ 36 by decide), zu_ne _ _ _ (show (17 : Nat) ≠ 31 by decide), zu_ne _ _ _ (show (17 : Nat) ≠ 24 by decide)]
          have f18 : zo_fm0 m9 b9 s9 18 = m9 18 := by unfold zo_fm0; rw [zu_ne _ _ _ (show (18 : Nat) ≠ 36 by decide), zu_ne _ _ _ (show (18 : Nat) ≠ 31 by decide), zu_ne _ _ _ (show (18 : Nat) ≠ 24 by decide)]
          have f19 : zo_fm0 m9 b9 s9 19 = m9 19 := by unfold zo_fm0; rw [zu_ne _ _ _ (show (19 : Nat) ≠ 36 by decide), zu_ne _ _ _ (show (19 : Nat) ≠ 31 by decide), zu_ne _ _ _ (show (19 : Nat) ≠ 24 by decide)]
          have f20 : zo_fm0 m9 b9 s9 20 = m9 20 := by unfold zo_fm0; rw [zu_ne _ _ _ (show (20 : Nat) ≠ 36 by decide), zu_ne _ _ _ (show (20 : Nat) ≠ 31 by decide), zu_ne _ _ _ (show (20 : Nat) ≠ 24 by decide)]
          have hm : zoR X ad (zo_fm0 m9 b9 s9) q9 kd ln I6 L3 R := hm
          have hfin : zo_fmI m9 q9 b9 s9 n = zu (va_up (zo_fm0 m9 b9 s9) 36 (zo_seg (zo_seg (zo_fm0 m9 b9 s9 36) 1 4 (zo_f4 (m9 17 s9))) 5 (6 + n) (zo_tl m9 q9 s9))) 40 35 (nI (11 + n)) := rfl
          rw [hfin]
          clear hfin
          generalize zo_fm0 m9 b9 s9 = M0 at hm f16 f17 f18 f19 f20 ⊢
          refine lv_iconst (v := nI 0) hx hb d_Mod_frame_160 (by decide) ?_
          refine lv_istore_n (lv' := [(3, .int (nI 0)), (2, .int (nI s9)), (0, .ref X), (1, .int (nI b9))]) hx hb d_Mod_frame_161 rfl hl (by decide) rfl (fun ls hl => ?_)
          have loop_162 : ∀ (z : Nat) (i : Nat) (I_162 : Nat → Nat → Int32) (L_162 : Nat → Nat → Int64) (H : Heap) (locs : List Loc) (ls : Array Slot), 4 - i < z → (i ≤ 4) → (zoR X ad (va_up M0 36 (zo_seg (M0 36) 1 i (zo_f4 (m9 17 s9)))) q9 kd ln I_162 L_162 R) → lv_has ls 5 [(0, .ref X), (2, .int (nI s9)), (3, .int (nI i))] → zh_H D cA A kd ln I_162 L_162 R H → va_S A s.heap H locs → W p l e (headSpec w_Mod_frame { frames := 2, cells := 0, slots := 0, locals := 48 }).room s m ([.ref X] : List Value).toArray below meth c H locs 0 0 (MQ below (zc_Qc D cA A (zo_P (some (.int (nI (11 + n)))) X ad (zu (va_up M0 36 (zo_seg (zo_seg (M0 36) 1 4 (zo_f4 (m9 17 s9))) 5 (6 + n) (zo_tl m9 q9 s9))) 40 35 (nI (11 + n))) q9 kd ln R)) ([.ref X] : List Value).toArray s 0 0 A) (F0 m 162 ls []) := by
            intro z
            induction z with
            | zero => intro i I_162 L_162 H locs ls hz; exact absurd hz (Nat.not_lt_zero _)
            | succ z ih_162 =>
              intro i I_162 L_162 H locs ls hz_162 hi hm hl hH hS
              refine lv_iload_n hx hb d_Mod_frame_162 rfl (lv_at hl 2 rfl) ?_
              refine lv_iconst (v := nI 4) hx hb d_Mod_frame_163 (by decide) ?_
              refine lv_icmp_ge (tgt := 198) hx hb d_Mod_frame_164 (by decide) (fun hc7 => ?_) (fun hc7 => ?_)
              · skip
                have hc7 := zt_geT (a := i) (b := 4) (by omega) (by omega) hc7
                refine lv_iconst (v := nI 0) hx hb d_Mod_frame_198 (by decide) ?_
                refine lv_istore_n (lv' := [(3, .int (nI 0)), (0, .ref X), (2, .int (nI s9))]) hx hb d_Mod_frame_199 rfl hl (by decide) rfl (fun ls hl => ?_)
                have loop_200 : ∀ (z : Nat) (j : Nat) (I_200 : Nat → Nat → Int32) (L_200 : Nat → Nat → Int64) (H : Heap) (locs : List Loc) (ls : Array Slot), 6 + n - j < z → (j ≤ 6 + n) → (zoR X ad (va_up M0 36 (zo_seg (zo_seg (M0 36) 1 4 (zo_f4 (m9 17 s9))) 5 j (zo_tl m9 q9 s9))) q9 kd ln I_200 L_200 R) → lv_has ls 5 [(0, .ref X), (2, .int (nI s9)), (3, .int (nI j))] → zh_H D cA A kd ln I_200 L_200 R H → va_S A s.heap H locs → W p l e (headSpec w_Mod_frame { frames := 2, cells := 0, slots := 0, locals := 48 }).room s m ([.ref X] : List Value).toArray below meth c H locs 0 0 (MQ below (zc_Qc D cA A (zo_P (some (.int (nI (11 + n)))) X ad (zu (va_up M0 36 (zo_seg (zo_seg (M0 36) 1 4 (zo_f4 (m9 17 s9))) 5 (6 + n) (zo_tl m9 q9 s9))) 40 35 (nI (11 + n))) q9 kd ln R)) ([.ref X] : List Value).toArray s 0 0 A) (F0 m 200 ls []) := by
                  intro z
                  induction z with
                  | zero => intro j I_200 L_200 H locs ls hz; exact absurd hz (Nat.not_lt_zero _)
                  | succ z ih_200 =>
                    intro j I_200 L_200 H locs ls hz_200 hj hm hl hH hS
                    refine lv_iload_n hx hb d_Mod_frame_200 rfl (lv_at hl 2 rfl) ?_
                    refine lv_bipush (v := nI 6) hx hb d_Mod_frame_201 (by decide) ?_
                    refine lv_aload_n hx hb d_Mod_frame_203 rfl (lv_at hl 0 rfl) ?_
                    refine zr_getr (ci := 6) (C := R_Mod) (T := T_Mod) (N := 37) (ref := "ScrubbedRecorderModel") hx hb hts (fun w h => List.mem_cons_of_mem _ (zin_Mod w h)) hown hK hH hm.1.1 (by decide) rfl 20 (by decide) rfl (hw zw_619) (fun _ h9 => h9) d_Mod_frame_204 (by rw [r20]) ?_
                    refine lv_iload_n hx hb d_Mod_frame_207 rfl (lv_at hl 1 rfl) ?_
                    refine zr_aldi (j := s9) hx hb hK hH k20 (by rw [n20]; exact zh_ix_n (by omega) (by omega)) d_Mod_frame_208 ?_
                    refine zt_i (y := nI n) ((congrFun (hm.2.1 20 (by decide) (by decide) (by decide)) s9).trans (by rw [va_up_ne _ _ (show (20 : Nat) ≠ 36 by decide), show M0 20 s9 = nI n from (congrFun f20 s9).trans hn])) ?_
                    refine lv_iadd hx hb d_Mod_frame_209 ?_
                    refine zt_i (y := nI (6 + n)) (nI_add 6 n) ?_
                    refine lv_icmp_ge (tgt := 233) hx hb d_Mod_frame_210 (by decide) (fun hc8 => ?_) (fun hc8 => ?_)
                    · skip
                      have hc8 := zt_geT (a := j) (b := (6 + n)) (by omega) (by omega) hc8
                      refine lv_aload_n hx hb d_Mod_frame_233 rfl (lv_at hl 0 rfl) ?_
                      refine lv_bipush (v := nI 11) hx hb d_Mod_frame_234 (by decide) ?_
                      refine lv_aload_n hx hb d_Mod_frame_236 rfl (lv_at hl 0 rfl) ?_
                      refine zr_getr (ci := 6) (C := R_Mod) (T := T_Mod) (N := 37) (ref := "ScrubbedRecorderModel") hx hb hts (fun w h => List.mem_cons_of_mem _ (zin_Mod w h)) hown hK hH hm.1.1 (by decide) rfl 20 (by decide) rfl (hw zw_619) (fun _ h9 => h9) d_Mod_frame_237 (by rw [r20]) ?_
                      refine lv_iload_n hx hb d_Mod_frame_240 rfl (lv_at hl 1 rfl) ?_
                      refine zr_aldi (j := s9) hx hb hK hH k20 (by rw [n20]; exact zh_ix_n (by omega) (by omega)) d_Mod_frame_241 ?_
                      refine zt_i (y := nI n) ((congrFun (hm.2.1 20 (by decide) (by decide) (by decide)) s9).trans (by rw [va_up_ne _ _ (show (20 : Nat) ≠ 36 by decide), show M0 20 s9 = nI n from (congrFun f20 s9).trans hn])) ?_
                      refine lv_iadd hx hb d_Mod_frame_242 ?_
                      refine zt_i (y := nI (11 + n)) (nI_add 11 n) ?_
                      refine zr_puti (ref := "ScrubbedRecorderModel") (ci := 6) (C := R_Mod) (T := T_Mod) (N := 37) (x := nI (11 + n)) (ty := .int) hx hb hts (fun w h => List.mem_cons_of_mem _ (zin_Mod w h)) ty_Mod tyok_Mod nm_Mod hown hK hH hS hm.1.1 (by decide) rfl 35 (by decide) rfl (hw zw_634) (fun _ h9 => h9) rfl (by decide +kernel) rfl rfl d_Mod_frame_243 (fun H locs hH hS => ?_)
                      have hm := zoR_X hm 35 (nI (11 + n))
                      generalize zu I_200 X 35 (nI (11 + n)) = I9 at hm hH
                      refine lv_aload_n hx hb d_Mod_frame_246 rfl (lv_at hl 0 rfl) ?_
                      refine zr_geti (ci := 6) (C := R_Mod) (T := T_Mod) (N := 37) (ref := "ScrubbedRecorderModel") hx hb hts (fun w h => List.mem_cons_of_mem _ (zin_Mod w h)) hown hK hH hm.1.1 (by decide) rfl 35 (by decide) rfl (hw zw_634) (fun _ h9 => h9) d_Mod_frame_247 ?_
                      refine zt_i (y := nI (11 + n)) ((congrFun hm.2.2.1 35).trans (by rw [zu_self])) ?_
                      refine W.widen (k := 0) (n := 0) (Nat.le_of_ble_eq_true rfl) (Nat.le_of_ble_eq_true rfl) ?_
                      subst hAe
                      exact W.iret (v := nI (11 + n)) hx hb hr (fun t ht hW => zc_end hS hH ht (⟨rfl, rfl, rfl, rfl, by rw [show j = 6 + n by omega] at hm; exact hm⟩)) hS.2.2 d_Mod_frame_250
                    · skip
                      have hc8 := zt_geF (a := j) (b := (6 + n)) (by omega) (by omega) hc8
                      refine lv_aload_n hx hb d_Mod_frame_213 rfl (lv_at hl 0 rfl) ?_
                      refine zr_getr (ci := 6) (C := R_Mod) (T := T_Mod) (N := 37) (ref := "ScrubbedRecorderModel") hx hb hts (fun w h => List.mem_cons_of_mem _ (zin_Mod w h)) hown hK hH hm.1.1 (by decide) rfl 36 (by decide) rfl (hw zw_635) (fun _ h9 => h9) d_Mod_frame_214 (by rw [r36]) ?_
                      refine lv_iconst (v := nI 5) hx hb d_Mod_frame_217 (by decide) ?_
                      refine lv_iload_n hx hb d_Mod_frame_218 rfl (lv_at hl 2 rfl) ?_
                      refine lv_iadd hx hb d_Mod_frame_219 ?_
                      refine zt_i (y := nI (5 + j)) (nI_add 5 j) ?_
                      refine lv_aload_n hx hb d_Mod_frame_220 rfl (lv_at hl 0 rfl) ?_
                      refine lv_iload_n hx hb d_Mod_frame_221 rfl (lv_at hl 1 rfl) ?_
                      refine lv_iload_n hx hb d_Mod_frame_222 rfl (lv_at hl 2 rfl) ?_
                      refine zr_V (As := ([.int (nI s9), .int (nI j)] : List Value)) (rest := [.int (nI (5 + j)), .ref (ad 36)]) (b := X) (ci := 6) (q := (R_Mod, T_Mod, 37)) ⟨hx, hb, hml, hown, hts⟩ (c_Mod_tells hm (by omega) (by omega)) ⟨(callB_of 2 hts (zg_all zw_797) rfl rfl rfl (hw zw_3) (hw zw_794) k_Mod_tells.2 ⟨Nat.le_of_ble_eq_true rfl, Nat.le_of_ble_eq_true rfl⟩), (hw zw_796), (hw zs_Mod_tells)⟩ hSc hE hH hS hA rfl (by decide) hm.1.1 rfl hl.1 rfl (Nat.le_of_ble_eq_true rfl) d_Mod_frame_223 ⟨Nat.le_of_ble_eq_true rfl, Nat.le_of_ble_eq_true rfl⟩ (fun v10 kd10 ln10 I10 L10 R10 H locs hp hH hS => ?_)
                      obtain ⟨rfl, rfl, rfl, rfl, hm⟩ := hp
                      refine W.eq (g2 := F0 m 226 ls [.int (zo_tl (va_up M0 36 (zo_seg (zo_seg (M0 36) 1 4 (zo_f4 (m9 17 s9))) 5 j (zo_tl m9 q9 s9))) q9 s9 j), .int (nI (5 + j)), .ref (ad 36)]) rfl ?_
                      refine W.widen (k := 0) (n := 0) (by omega) (by omega) ?_
                      refine zt_i (y := zo_tl m9 q9 s9 j) (zo_tl_c (by rw [va_up_ne _ _ (show (18 : Nat) ≠ 36 by decide)]; exact f18) (by rw [va_up_ne _ _ (show (19 : Nat) ≠ 36 by decide)]; exact f19) (by rw [va_up_ne _ _ (show (20 : Nat) ≠ 36 by decide)]; exact f20) _ _) ?_
                      refine zr_asti (j := 5 + j) (y := zo_tl m9 q9 s9 j) hx hb hK hH hS k36 rfl (by rw [n36]; exact zh_ix_n (by omega) (by omega)) d_Mod_frame_226 (fun H locs hH hS => ?_)
                      have hm := zoR_I hm 36 (by decide) (5 + j) (zo_tl m9 q9 s9 j)
                      generalize zu I10 (ad 36) (5 + j) (zo_tl m9 q9 s9 j) = I11 at hm hH
                      refine lv_iinc (k := 2) (v := nI (j + 1)) (lv' := [(3, .int (nI (j + 1))), (0, .ref X), (2, .int (nI s9))]) hx hb d_Mod_frame_227 hl rfl (nI_add j 1) (by decide) rfl (fun ls hl => ?_)
                      refine lv_goto (tgt := 200) hx hb d_Mod_frame_230 (by decide) ?_
                      have hm : zoR X ad (va_up M0 36 (zo_seg (zo_seg (M0 36) 1 4 (zo_f4 (m9 17 s9))) 5 (j + 1) (zo_tl m9 q9 s9))) q9 kd ln I11 L10 R := by rw [← zo_seg_s]; exact hm
                      exact ih_200 (j + 1) _ _ _ _ _ (by omega) (by omega) hm (lv_sub hl [1, 2, 0] rfl) hH hS
                have hm : zoR X ad (va_up M0 36 (zo_seg (zo_seg (M0 36) 1 4 (zo_f4 (m9 17 s9))) 5 0 (zo_tl m9 q9 s9))) q9 kd ln I_162 L_162 R := by rw [zo_seg_z, ← show i = 4 by omega]; exact hm
                exact loop_200 _ 0 _ _ _ _ _ (Nat.lt_succ_self _) (by omega) hm (lv_sub hl [1, 2, 0] rfl) hH hS
              · skip
                have hc7 := zt_geF (a := i) (b := 4) (by omega) (by omega) hc7
                refine lv_aload_n hx hb d_Mod_frame_167 rfl (lv_at hl 0 rfl) ?_
                refine zr_getr (ci := 6) (C := R_Mod) (T := T_Mod) (N := 37) (ref := "ScrubbedRecorderModel") hx hb hts (fun w h => List.mem_cons_of_mem _ (zin_Mod w h)) hown hK hH hm.1.1 (by decide) rfl 36 (by decide) rfl (hw zw_635) (fun _ h9 => h9) d_Mod_frame_168 (by rw [r36]) ?_
                refine lv_iconst (v := nI 1) hx hb d_Mod_frame_171 (by decide) ?_
                refine lv_iload_n hx hb d_Mod_frame_172 rfl (lv_at hl 2 rfl) ?_
                refine lv_iadd hx hb d_Mod_frame_173 ?_
                refine zt_i (y := nI (1 + i)) (nI_add 1 i) ?_
                refine lv_aload_n hx hb d_Mod_frame_174 rfl (lv_at hl 0 rfl) ?_
                refine zr_getr (ci := 6) (C := R_Mod) (T := T_Mod) (N := 37) (ref := "ScrubbedRecorderModel") hx hb hts (fun w h => List.mem_cons_of_mem _ (zin_Mod w h)) hown hK hH hm.1.1 (by decide) rfl 17 (by decide) rfl (hw zw_616) (fun _ h9 => h9) d_Mod_frame_175 (by rw [r17]) ?_
                refine lv_iload_n hx hb d_Mod_frame_178 rfl (lv_at hl 1 rfl) ?_
                refine zr_aldi (j := s9) hx hb hK hH k17 (by rw [n17]; exact zh_ix_n (by omega) (by omega)) d_Mod_frame_179 ?_
                refine zt_i (y := m9 17 s9) ((congrFun (hm.2.1 17 (by decide) (by decide) (by decide)) s9).trans (by rw [va_up_ne _ _ (show (17 : Nat) ≠ 36 by decide), show M0 17 s9 = m9 17 s9 from congrFun f17 s9])) ?_
                refine lv_bipush (v := nI 8) hx hb d_Mod_frame_180 (by decide) ?_
                refine lv_iconst (v := nI 3) hx hb d_Mod_frame_182 (by decide) ?_
                refine lv_iload_n hx hb d_Mod_frame_183 rfl (lv_at hl 2 rfl) ?_
                refine lv_isub hx hb d_Mod_frame_184 ?_
                refine zt_i (y := nI (3 - i)) (pk_sub (by omega)) ?_
                refine lv_imul hx hb d_Mod_frame_185 ?_
                refine zt_i (y := nI (8 * (3 - i))) (pk_mul 8 (3 - i)) ?_
                refine lv_ishr hx hb d_Mod_frame_186 ?_
                refine lv_sipush (v := nI 255) hx hb d_Mod_frame_187 (by decide) ?_
                refine lv_iand hx hb d_Mod_frame_190 ?_
                refine zr_asti (j := 1 + i) (y := ((m9 17 s9) >>> ((nI (8 * (3 - i))) &&& 31)) &&& (nI 255)) hx hb hK hH hS k36 rfl (by rw [n36]; exact zh_ix_n (by omega) (by omega)) d_Mod_frame_191 (fun H locs hH hS => ?_)
                have hm := zoR_I hm 36 (by decide) (1 + i) (((m9 17 s9) >>> ((nI (8 * (3 - i))) &&& 31)) &&& (nI 255))
                generalize zu I_162 (ad 36) (1 + i) (((m9 17 s9) >>> ((nI (8 * (3 - i))) &&& 31)) &&& (nI 255)) = I12 at hm hH
                refine lv_iinc (k := 2) (v := nI (i + 1)) (lv' := [(3, .int (nI (i + 1))), (0, .ref X), (2, .int (nI s9))]) hx hb d_Mod_frame_192 hl rfl (nI_add i 1) (by decide) rfl (fun ls hl => ?_)
                refine lv_goto (tgt := 162) hx hb d_Mod_frame_195 (by decide) ?_
                have hm : zoR X ad (va_up M0 36 (zo_seg (M0 36) 1 (i + 1) (zo_f4 (m9 17 s9)))) q9 kd ln I12 L_162 R := by rw [← zo_seg_s]; exact hm
                exact ih_162 (i + 1) _ _ _ _ _ (by omega) (by omega) hm (lv_sub hl [1, 2, 0] rfl) hH hS
          have hm : zoR X ad (va_up M0 36 (zo_seg (M0 36) 1 0 (zo_f4 (m9 17 s9)))) q9 kd ln I6 L3 R := by rw [zo_seg_z, up_id]; exact hm
          exact loop_162 _ 0 _ _ _ _ _ (Nat.lt_succ_self _) (by omega) hm (lv_sub hl [2, 1, 0] rfl) hH hS
        · skip
          have hc2 := zt_geF (a := b9) (b := 0) (by omega) (by omega) hc2
          exact absurd hc2 (by omega)
      · skip
        have hc1 := zt_geF (a := i) (b := 4) (by omega) (by omega) hc1
        refine lv_aload_n hx hb d_Mod_frame_9 rfl (lv_at hl 0 rfl) ?_
        refine zr_getr (ci := 6) (C := R_Mod) (T := T_Mod) (N := 37) (ref := "ScrubbedRecorderModel") hx hb hts (fun w h => List.mem_cons_of_mem _ (zin_Mod w h)) hown hK hH hm.1.1 (by decide) rfl 27 (by decide) rfl (hw zw_626) (fun _ h9 => h9) d_Mod_frame_10 (by rw [r27]) ?_
        refine lv_iload_n hx hb d_Mod_frame_13 rfl (lv_at hl 2 rfl) ?_
        refine zr_aldi (j := i) hx hb hK hH k27 (by rw [n27]; exact zh_ix_n (by omega) (by omega)) d_Mod_frame_14 ?_
        refine zt_i (y := m9 27 i) (congrFun (hm.2.1 27 (by decide) (by decide) (by decide)) i) ?_
        refine lv_if_lt (tgt := 30) hx hb d_Mod_frame_15 (by decide) (fun hc13 => ?_) (fun hc13 => ?_)
        · skip
          have hc13 : (m9 27 i) < (nI 0) := hc13
          refine lv_iconst (v := nI 0) hx hb d_Mod_frame_30 (by decide) ?_
          refine lv_istore_n (lv' := [(3, .int (nI 0)), (0, .ref X), (1, .int (zo_bs m9 i)), (2, .int (nI i))]) hx hb d_Mod_frame_31 rfl hl (by decide) rfl (fun ls hl => ?_)
          refine lv_iload_n hx hb d_Mod_frame_32 rfl (lv_at hl 2 rfl) ?_
          refine lv_if_lt (tgt := 89) hx hb d_Mod_frame_33 (by decide) (fun hc14 => ?_) (fun hc14 => ?_)
          · skip
            have hc14 : (zo_bs m9 i) < (nI 0) := hc14
            refine lv_iconst (v := nI 0) hx hb d_Mod_frame_89 (by decide) ?_
            refine lv_istore (lv' := [(4, .int (nI 0)), (3, .int (nI 0)), (0, .ref X), (1, .int (zo_bs m9 i)), (2, .int (nI i))]) hx hb d_Mod_frame_90 hl (by decide) rfl (fun ls hl => ?_)
            refine lv_iload_n hx hb d_Mod_frame_92 rfl (lv_at hl 1 rfl) ?_
            refine lv_if_eq (tgt := 109) hx hb d_Mod_frame_93 (by decide) (fun hc15 => ?_) (fun hc15 => ?_)
            · skip
              have hc15 := zt_eqT (a := 0) (b := 0) (by omega) (by omega) hc15
              refine lv_iload_n hx hb d_Mod_frame_109 rfl (lv_at hl 3 rfl) ?_
              refine lv_istore_n (lv' := [(1, .int (zo_bs m9 i)), (4, .int (nI 0)), (3, .int (nI 0)), (0, .ref X), (2, .int (nI i))]) hx hb d_Mod_frame_110 rfl hl (by decide) rfl (fun ls hl => ?_)
              refine lv_iinc (k := 4) (v := nI (i + 1)) (lv' := [(2, .int (nI (i + 1))), (1, .int (zo_bs m9 i)), (4, .int (nI 0)), (3, .int (nI 0)), (0, .ref X)]) hx hb d_Mod_frame_111 hl rfl (nI_add i 1) (by decide) rfl (fun ls hl => ?_)
              refine lv_goto (tgt := 4) hx hb d_Mod_frame_114 (by decide) ?_
              have e16 : zo_bs m9 (i + 1) = zo_bs m9 i := by rw [zo_bs, if_pos hc13]
              have hl : lv_has ls 5 [(2, .int (nI (i + 1))), (1, .int (zo_bs m9 (i + 1))), (4, .int (nI 0)), (3, .int (nI 0)), (0, .ref X)] := by rw [e16]; exact hl
              exact ih_4 (i + 1) _ _ _ _ _ (by omega) (by omega) hm (lv_sub hl [4, 1, 0] rfl) hH hS
            · skip
              have hc15 := zt_eqF (a := 0) (b := 0) (by omega) (by omega) hc15
              exact absurd hc15 (by omega)
          · skip
            have hc14 : ¬ (zo_bs m9 i) < (nI 0) := hc14
            obtain ⟨jb, hjb, ejb, -, -⟩ := zo_bs_of i (by omega) hc14
            have sjb : (zo_bs m9 i).toNatClampNeg = jb := by rw [ejb]; exact nI_clamp (by omega)
            have hl : lv_has ls 5 [(3, .int (nI 0)), (0, .ref X), (1, .int (nI jb)), (2, .int (nI i))] := by rw [← ejb]; exact hl
            refine lv_iload_n hx hb d_Mod_frame_36 rfl (lv_at hl 0 rfl) ?_
            refine lv_if_eq (tgt := 89) hx hb d_Mod_frame_37 (by decide) (fun hc17 => ?_) (fun hc17 => ?_)
            · skip
              have hc17 := zt_eqT (a := 0) (b := 0) (by omega) (by omega) hc17
              refine lv_iconst (v := nI 0) hx hb d_Mod_frame_89 (by decide) ?_
              refine lv_istore (lv' := [(4, .int (nI 0)), (3, .int (nI 0)), (0, .ref X), (1, .int (nI jb)), (2, .int (nI i))]) hx hb d_Mod_frame_90 hl (by decide) rfl (fun ls hl => ?_)
              refine lv_iload_n hx hb d_Mod_frame_92 rfl (lv_at hl 1 rfl) ?_
              refine lv_if_eq (tgt := 109) hx hb d_Mod_frame_93 (by decide) (fun hc18 => ?_) (fun hc18 => ?_)
              · skip
                have hc18 := zt_eqT (a := 0) (b := 0) (by omega) (by omega) hc18
                refine lv_iload_n hx hb d_Mod_frame_109 rfl (lv_at hl 3 rfl) ?_
                refine lv_istore_n (lv' := [(1, .int (nI jb)), (4, .int (nI 0)), (3, .int (nI 0)), (0, .ref X), (2, .int (nI i))]) hx hb d_Mod_frame_110 rfl hl (by decide) rfl (fun ls hl => ?_)
                refine lv_iinc (k := 4) (v := nI (i + 1)) (lv' := [(2, .int (nI (i + 1))), (1, .int (nI jb)), (4, .int (nI 0)), (3, .int (nI 0)), (0, .ref X)]) hx hb d_Mod_frame_111 hl rfl (nI_add i 1) (by decide) rfl (fun ls hl => ?_)
                refine lv_goto (tgt := 4) hx hb d_Mod_frame_114 (by decide) ?_
                have e19 : zo_bs m9 (i + 1) = nI jb := by rw [zo_bs, if_pos hc13]; exact ejb
                have hl : lv_has ls 5 [(2, .int (nI (i + 1))), (1, .int (zo_bs m9 (i + 1))), (4, .int (nI 0)), (3, .int (nI 0)), (0, .ref X)] := by rw [e19]; exact hl
                exact ih_4 (i + 1) _ _ _ _ _ (by omega) (by omega) hm (lv_sub hl [4, 1, 0] rfl) hH hS
              · skip
                have hc18 := zt_eqF (a := 0) (b := 0) (by omega) (by omega) hc18
                exact absurd hc18 (by omega)
            · skip
              have hc17 := zt_eqF (a := 0) (b := 0) (by omega) (by omega) hc17
              exact absurd hc17 (by omega)
        · skip
          have hc13 : ¬ (m9 27 i) < (nI 0) := hc13
          refine lv_aload_n hx hb d_Mod_frame_18 rfl (lv_at hl 0 rfl) ?_
          refine lv_iload_n hx hb d_Mod_frame_19 rfl (lv_at hl 2 rfl) ?_
          refine zr_V (As := ([.int (nI i)] : List Value)) (rest := []) (b := X) (ci := 6) (q := (R_Mod, T_Mod, 37)) ⟨hx, hb, hml, hown, hts⟩ (c_Mod_chosen hm (by omega)) ⟨(callB_of 1 hts (zg_all zw_829) rfl rfl rfl (hw zw_3) (hw zw_826) k_Mod_chosen.2 ⟨Nat.le_of_ble_eq_true rfl, Nat.le_of_ble_eq_true rfl⟩), (hw zw_828), (hw zs_Mod_chosen)⟩ hSc hE hH hS hA rfl (by decide) hm.1.1 rfl hl.1 rfl (Nat.le_of_ble_eq_true rfl) d_Mod_frame_20 ⟨Nat.le_of_ble_eq_true rfl, Nat.le_of_ble_eq_true rfl⟩ (fun v20 kd20 ln20 I20 L20 R20 H locs hp hH hS => ?_)
          obtain ⟨rfl, rfl, rfl, rfl, hm⟩ := hp
          refine W.eq (g2 := F0 m 23 ls [.int (zo_cho m9 i)]) rfl ?_
          refine W.widen (k := 0) (n := 0) (by omega) (by omega) ?_
          refine lv_if_lt (tgt := 30) hx hb d_Mod_frame_23 (by decide) (fun hc21 => ?_) (fun hc21 => ?_)
          · skip
            have hc21 : (zo_cho m9 i) < (nI 0) := hc21
            refine lv_iconst (v := nI 0) hx hb d_Mod_frame_30 (by decide) ?_
            refine lv_istore_n (lv' := [(3, .int (nI 0)), (0, .ref X), (1, .int (zo_bs m9 i)), (2, .int (nI i))]) hx hb d_Mod_frame_31 rfl hl (by decide) rfl (fun ls hl => ?_)
            refine lv_iload_n hx hb d_Mod_frame_32 rfl (lv_at hl 2 rfl) ?_
            refine lv_if_lt (tgt := 89) hx hb d_Mod_frame_33 (by decide) (fun hc22 => ?_) (fun hc22 => ?_)
            · skip
              have hc22 : (zo_bs m9 i) < (nI 0) := hc22
              refine lv_iconst (v := nI 0) hx hb d_Mod_frame_89 (by decide) ?_
              refine lv_istore (lv' := [(4, .int (nI 0)), (3, .int (nI 0)), (0, .ref X), (1, .int (zo_bs m9 i)), (2, .int (nI i))]) hx hb d_Mod_frame_90 hl (by decide) rfl (fun ls hl => ?_)
              refine lv_iload_n hx hb d_Mod_frame_92 rfl (lv_at hl 1 rfl) ?_
              refine lv_if_eq (tgt := 109) hx hb d_Mod_frame_93 (by decide) (fun hc23 => ?_) (fun hc23 => ?_)
              · skip
                have hc23 := zt_eqT (a := 0) (b := 0) (by omega) (by omega) hc23
                refine lv_iload_n hx hb d_Mod_frame_109 rfl (lv_at hl 3 rfl) ?_
                refine lv_istore_n (lv' := [(1, .int (zo_bs m9 i)), (4, .int (nI 0)), (3, .int (nI 0)), (0, .ref X), (2, .int (nI i))]) hx hb d_Mod_frame_110 rfl hl (by decide) rfl (fun ls hl => ?_)
                refine lv_iinc (k := 4) (v := nI (i + 1)) (lv' := [(2, .int (nI (i + 1))), (1, .int (zo_bs m9 i)), (4, .int (nI 0)), (3, .int (nI 0)), (0, .ref X)]) hx hb d_Mod_frame_111 hl rfl (nI_add i 1) (by decide) rfl (fun ls hl => ?_)
                refine lv_goto (tgt := 4) hx hb d_Mod_frame_114 (by decide) ?_
                have e24 : zo_bs m9 (i + 1) = zo_bs m9 i := by rw [zo_bs, if_neg hc13, if_pos hc21]
                have hl : lv_has ls 5 [(2, .int (nI (i + 1))), (1, .int (zo_bs m9 (i + 1))), (4, .int (nI 0)), (3, .int (nI 0)), (0, .ref X)] := by rw [e24]; exact hl
                exact ih_4 (i + 1) _ _ _ _ _ (by omega) (by omega) hm (lv_sub hl [4, 1, 0] rfl) hH hS
              · skip
                have hc23 := zt_eqF (a := 0) (b := 0) (by omega) (by omega) hc23
                exact absurd hc23 (by omega)
            · skip
              have hc22 : ¬ (zo_bs m9 i) < (nI 0) := hc22
              obtain ⟨jb, hjb, ejb, -, -⟩ := zo_bs_of i (by omega) hc22
              have sjb : (zo_bs m9 i).toNatClampNeg = jb := by rw [ejb]; exact nI_clamp (by omega)
              have hl : lv_has ls 5 [(3, .int (nI 0)), (0, .ref X), (1, .int (nI jb)), (2, .int (nI i))] := by rw [← ejb]; exact hl
              refine lv_iload_n hx hb d_Mod_frame_36 rfl (lv_at hl 0 rfl) ?_
              refine lv_if_eq (tgt := 89) hx hb d_Mod_frame_37 (by decide) (fun hc25 => ?_) (fun hc25 => ?_)
              · skip
                have hc25 := zt_eqT (a := 0) (b := 0) (by omega) (by omega) hc25
                refine lv_iconst (v := nI 0) hx hb d_Mod_frame_89 (by decide) ?_
                refine lv_istore (lv' := [(4, .int (nI 0)), (3, .int (nI 0)), (0, .ref X), (1, .int (nI jb)), (2, .int (nI i))]) hx hb d_Mod_frame_90 hl (by decide) rfl (fun ls hl => ?_)
                refine lv_iload_n hx hb d_Mod_frame_92 rfl (lv_at hl 1 rfl) ?_
                refine lv_if_eq (tgt := 109) hx hb d_Mod_frame_93 (by decide) (fun hc26 => ?_) (fun hc26 => ?_)
                · skip
                  have hc26 := zt_eqT (a := 0) (b := 0) (by omega) (by omega) hc26
                  refine lv_iload_n hx hb d_Mod_frame_109 rfl (lv_at hl 3 rfl) ?_
                  refine lv_istore_n (lv' := [(1, .int (nI jb)), (4, .int (nI 0)), (3, .int (nI 0)), (0, .ref X), (2, .int (nI i))]) hx hb d_Mod_frame_110 rfl hl (by decide) rfl (fun ls hl => ?_)
                  refine lv_iinc (k := 4) (v := nI (i + 1)) (lv' := [(2, .int (nI (i + 1))), (1, .int (nI jb)), (4, .int (nI 0)), (3, .int (nI 0)), (0, .ref X)]) hx hb d_Mod_frame_111 hl rfl (nI_add i 1) (by decide) rfl (fun ls hl => ?_)
                  refine lv_goto (tgt := 4) hx hb d_Mod_frame_114 (by decide) ?_
                  have e27 : zo_bs m9 (i + 1) = nI jb := by rw [zo_bs, if_neg hc13, if_pos hc21]; exact ejb
                  have hl : lv_has ls 5 [(2, .int (nI (i + 1))), (1, .int (zo_bs m9 (i + 1))), (4, .int (nI 0)), (3, .int (nI 0)), (0, .ref X)] := by rw [e27]; exact hl
                  exact ih_4 (i + 1) _ _ _ _ _ (by omega) (by omega) hm (lv_sub hl [4, 1, 0] rfl) hH hS
                · skip
                  have hc26 := zt_eqF (a := 0) (b := 0) (by omega) (by omega) hc26
                  exact absurd hc26 (by omega)
              · skip
                have hc25 := zt_eqF (a := 0) (b := 0) (by omega) (by omega) hc25
                exact absurd hc25 (by omega)
          · skip
            have hc21 : ¬ (zo_cho m9 i) < (nI 0) := hc21
            refine lv_iconst (v := nI 1) hx hb d_Mod_frame_26 (by decide) ?_
            refine lv_goto (tgt := 31) hx hb d_Mod_frame_27 (by decide) ?_
            refine lv_istore_n (lv' := [(3, .int (nI 1)), (0, .ref X), (1, .int (zo_bs m9 i)), (2, .int (nI i))]) hx hb d_Mod_frame_31 rfl hl (by decide) rfl (fun ls hl => ?_)
            refine lv_iload_n hx hb d_Mod_frame_32 rfl (lv_at hl 2 rfl) ?_
            refine lv_if_lt (tgt := 89) hx hb d_Mod_frame_33 (by decide) (fun hc28 => ?_) (fun hc28 => ?_)
            · skip
              have hc28 : (zo_bs m9 i) < (nI 0) := hc28
              refine lv_iconst (v := nI 0) hx hb d_Mod_frame_89 (by decide) ?_
              refine lv_istore (lv' := [(4, .int (nI 0)), (3, .int (nI 1)), (0, .ref X), (1, .int (zo_bs m9 i)), (2, .int (nI i))]) hx hb d_Mod_frame_90 hl (by decide) rfl (fun ls hl => ?_)
              refine lv_iload_n hx hb d_Mod_frame_92 rfl (lv_at hl 1 rfl) ?_
              refine lv_if_eq (tgt := 109) hx hb d_Mod_frame_93 (by decide) (fun hc29 => ?_) (fun hc29 => ?_)
              · skip
                have hc29 := zt_eqT (a := 1) (b := 0) (by omega) (by omega) hc29
                exact absurd hc29 (by omega)
              · skip
                have hc29 := zt_eqF (a := 1) (b := 0) (by omega) (by omega) hc29
                refine lv_iload_n hx hb d_Mod_frame_96 rfl (lv_at hl 3 rfl) ?_
                refine lv_if_lt (tgt := 105) hx hb d_Mod_frame_97 (by decide) (fun hc30 => ?_) (fun hc30 => ?_)
                · skip
                  have hc30 : (zo_bs m9 i) < (nI 0) := hc30
                  refine lv_iload_n hx hb d_Mod_frame_105 rfl (lv_at hl 4 rfl) ?_
                  refine lv_goto (tgt := 110) hx hb d_Mod_frame_106 (by decide) ?_
                  refine lv_istore_n (lv' := [(1, .int (nI i)), (4, .int (nI 0)), (3, .int (nI 1)), (0, .ref X), (2, .int (nI i))]) hx hb d_Mod_frame_110 rfl hl (by decide) rfl (fun ls hl => ?_)
                  refine lv_iinc (k := 4) (v := nI (i + 1)) (lv' := [(2, .int (nI (i + 1))), (1, .int (nI i)), (4, .int (nI 0)), (3, .int (nI 1)), (0, .ref X)]) hx hb d_Mod_frame_111 hl rfl (nI_add i 1) (by decide) rfl (fun ls hl => ?_)
                  refine lv_goto (tgt := 4) hx hb d_Mod_frame_114 (by decide) ?_
                  have e31 : zo_bs m9 (i + 1) = nI i := by rw [zo_bs, if_neg hc13, if_neg hc21, if_pos hc28]
                  have hl : lv_has ls 5 [(2, .int (nI (i + 1))), (1, .int (zo_bs m9 (i + 1))), (4, .int (nI 0)), (3, .int (nI 1)), (0, .ref X)] := by rw [e31]; exact hl
                  exact ih_4 (i + 1) _ _ _ _ _ (by omega) (by omega) hm (lv_sub hl [4, 1, 0] rfl) hH hS
                · skip
                  have hc30 : ¬ (zo_bs m9 i) < (nI 0) := hc30
                  exact absurd hc28 hc30
            · skip
              have hc28 : ¬ (zo_bs m9 i) < (nI 0) := hc28
              obtain ⟨jb, hjb, ejb, -, -⟩ := zo_bs_of i (by omega) hc28
              have sjb : (zo_bs m9 i).toNatClampNeg = jb := by rw [ejb]; exact nI_clamp (by omega)
              have hl : lv_has ls 5 [(3, .int (nI 1)), (0, .ref X), (1, .int (nI jb)), (2, .int (nI i))] := by rw [← ejb]; exact hl
              refine lv_iload_n hx hb d_Mod_frame_36 rfl (lv_at hl 0 rfl) ?_
              refine lv_if_eq (tgt := 89) hx hb d_Mod_frame_37 (by decide) (fun hc32 => ?_) (fun hc32 => ?_)
              · skip
                have hc32 := zt_eqT (a := 1) (b := 0) (by omega) (by omega) hc32
                exact absurd hc32 (by omega)
              · skip
                have hc32 := zt_eqF (a := 1) (b := 0) (by omega) (by omega) hc32
                refine lv_aload_n hx hb d_Mod_frame_40 rfl (lv_at hl 1 rfl) ?_
                refine zr_getr (ci := 6) (C := R_Mod) (T := T_Mod) (N := 37) (ref := "ScrubbedRecorderModel") hx hb hts (fun w h => List.mem_cons_of_mem _ (zin_Mod w h)) hown hK hH hm.1.1 (by decide) rfl 30 (by decide) rfl (hw zw_629) (fun _ h9 => h9) d_Mod_frame_41 (by rw [r30]) ?_
                refine lv_iload_n hx hb d_Mod_frame_44 rfl (lv_at hl 3 rfl) ?_
                refine zr_aldi (j := i) hx hb hK hH k30 (by rw [n30]; exact zh_ix_n (by omega) (by omega)) d_Mod_frame_45 ?_
                refine zt_i (y := m9 30 i) (congrFun (hm.2.1 30 (by decide) (by decide) (by decide)) i) ?_
                refine lv_aload_n hx hb d_Mod_frame_46 rfl (lv_at hl 1 rfl) ?_
                refine zr_getr (ci := 6) (C := R_Mod) (T := T_Mod) (N := 37) (ref := "ScrubbedRecorderModel") hx hb hts (fun w h => List.mem_cons_of_mem _ (zin_Mod w h)) hown hK hH hm.1.1 (by decide) rfl 30 (by decide) rfl (hw zw_629) (fun _ h9 => h9) d_Mod_frame_47 (by rw [r30]) ?_
                refine lv_iload_n hx hb d_Mod_frame_50 rfl (lv_at hl 2 rfl) ?_
                refine zr_aldi (j := jb) hx hb hK hH k30 (by rw [n30]; exact zh_ix_n (by omega) (by omega)) d_Mod_frame_51 ?_
                refine zt_i (y := m9 30 jb) (congrFun (hm.2.1 30 (by decide) (by decide) (by decide)) jb) ?_
                refine lv_icmp_lt (tgt := 85) hx hb d_Mod_frame_52 (by decide) (fun hc33 => ?_) (fun hc33 => ?_)
                · skip
                  have hc33 : (m9 30 i) < (m9 30 jb) := hc33
                  refine lv_iconst (v := nI 1) hx hb d_Mod_frame_85 (by decide) ?_
                  refine lv_goto (tgt := 90) hx hb d_Mod_frame_86 (by decide) ?_
                  refine lv_istore (lv' := [(4, .int (nI 1)), (3, .int (nI 1)), (0, .ref X), (1, .int (nI jb)), (2, .int (nI i))]) hx hb d_Mod_frame_90 hl (by decide) rfl (fun ls hl => ?_)
                  refine lv_iload_n hx hb d_Mod_frame_92 rfl (lv_at hl 1 rfl) ?_
                  refine lv_if_eq (tgt := 109) hx hb d_Mod_frame_93 (by decide) (fun hc34 => ?_) (fun hc34 => ?_)
                  · skip
                    have hc34 := zt_eqT (a := 1) (b := 0) (by omega) (by omega) hc34
                    exact absurd hc34 (by omega)
                  · skip
                    have hc34 := zt_eqF (a := 1) (b := 0) (by omega) (by omega) hc34
                    refine lv_iload_n hx hb d_Mod_frame_96 rfl (lv_at hl 3 rfl) ?_
                    refine lv_if_lt (tgt := 105) hx hb d_Mod_frame_97 (by decide) (fun hc35 => ?_) (fun hc35 => ?_)
                    · skip
                      have hc35 := zt_ltT (a := jb) (b := 0) (by omega) (by omega) hc35
                      exact absurd hc35 (by omega)
                    · skip
                      have hc35 := zt_ltF (a := jb) (b := 0) (by omega) (by omega) hc35
                      refine lv_iload hx hb d_Mod_frame_100 (lv_at hl 0 rfl) ?_
                      refine lv_if_eq (tgt := 109) hx hb d_Mod_frame_102 (by decide) (fun hc36 => ?_) (fun hc36 => ?_)
                      · skip
                        have hc36 := zt_eqT (a := 1) (b := 0) (by omega) (by omega) hc36
                        exact absurd hc36 (by omega)
                      · skip
                        have hc36 := zt_eqF (a := 1) (b := 0) (by omega) (by omega) hc36
                        refine lv_iload_n hx hb d_Mod_frame_105 rfl (lv_at hl 4 rfl) ?_
                        refine lv_goto (tgt := 110) hx hb d_Mod_frame_106 (by decide) ?_
                        refine lv_istore_n (lv' := [(1, .int (nI i)), (4, .int (nI 1)), (3, .int (nI 1)), (0, .ref X), (2, .int (nI i))]) hx hb d_Mod_frame_110 rfl hl (by decide) rfl (fun ls hl => ?_)
                        refine lv_iinc (k := 4) (v := nI (i + 1)) (lv' := [(2, .int (nI (i + 1))), (1, .int (nI i)), (4, .int (nI 1)), (3, .int (nI 1)), (0, .ref X)]) hx hb d_Mod_frame_111 hl rfl (nI_add i 1) (by decide) rfl (fun ls hl => ?_)
                        refine lv_goto (tgt := 4) hx hb d_Mod_frame_114 (by decide) ?_
                        have e37 : zo_bs m9 (i + 1) = nI i := by rw [zo_bs, if_neg hc13, if_neg hc21, if_neg hc28, sjb, if_pos hc33]
                        have hl : lv_has ls 5 [(2, .int (nI (i + 1))), (1, .int (zo_bs m9 (i + 1))), (4, .int (nI 1)), (3, .int (nI 1)), (0, .ref X)] := by rw [e37]; exact hl
                        exact ih_4 (i + 1) _ _ _ _ _ (by omega) (by omega) hm (lv_sub hl [4, 1, 0] rfl) hH hS
                · skip
                  have hc33 : ¬ (m9 30 i) < (m9 30 jb) := hc33
                  refine lv_aload_n hx hb d_Mod_frame_55 rfl (lv_at hl 1 rfl) ?_
                  refine zr_getr (ci := 6) (C := R_Mod) (T := T_Mod) (N := 37) (ref := "ScrubbedRecorderModel") hx hb hts (fun w h => List.mem_cons_of_mem _ (zin_Mod w h)) hown hK hH hm.1.1 (by decide) rfl 30 (by decide) rfl (hw zw_629) (fun _ h9 => h9) d_Mod_frame_56 (by rw [r30]) ?_
                  refine lv_iload_n hx hb d_Mod_frame_59 rfl (lv_at hl 3 rfl) ?_
                  refine zr_aldi (j := i) hx hb hK hH k30 (by rw [n30]; exact zh_ix_n (by omega) (by omega)) d_Mod_frame_60 ?_
                  refine zt_i (y := m9 30 i) (congrFun (hm.2.1 30 (by decide) (by decide) (by decide)) i) ?_
                  refine lv_aload_n hx hb d_Mod_frame_61 rfl (lv_at hl 1 rfl) ?_
                  refine zr_getr (ci := 6) (C := R_Mod) (T := T_Mod) (N := 37) (ref := "ScrubbedRecorderModel") hx hb hts (fun w h => List.mem_cons_of_mem _ (zin_Mod w h)) hown hK hH hm.1.1 (by decide) rfl 30 (by decide) rfl (hw zw_629) (fun _ h9 => h9) d_Mod_frame_62 (by rw [r30]) ?_
                  refine lv_iload_n hx hb d_Mod_frame_65 rfl (lv_at hl 2 rfl) ?_
                  refine zr_aldi (j := jb) hx hb hK hH k30 (by rw [n30]; exact zh_ix_n (by omega) (by omega)) d_Mod_frame_66 ?_
                  refine zt_i (y := m9 30 jb) (congrFun (hm.2.1 30 (by decide) (by decide) (by decide)) jb) ?_
                  refine lv_icmp_ne (tgt := 89) hx hb d_Mod_frame_67 (by decide) (fun hc38 => ?_) (fun hc38 => ?_)
                  · skip
                    have hc38 : ¬ (m9 30 i) = (m9 30 jb) := hc38
                    refine lv_iconst (v := nI 0) hx hb d_Mod_frame_89 (by decide) ?_
                    refine lv_istore (lv' := [(4, .int (nI 0)), (3, .int (nI 1)), (0, .ref X), (1, .int (nI jb)), (2, .int (nI i))]) hx hb d_Mod_frame_90 hl (by decide) rfl (fun ls hl => ?_)
                    refine lv_iload_n hx hb d_Mod_frame_92 rfl (lv_at hl 1 rfl) ?_
                    refine lv_if_eq (tgt := 109) hx hb d_Mod_frame_93 (by decide) (fun hc39 => ?_) (fun hc39 => ?_)
                    · skip
                      have hc39 := zt_eqT (a := 1) (b := 0) (by omega) (by omega) hc39
                      exact absurd hc39 (by omega)
                    · skip
                      have hc39 := zt_eqF (a := 1) (b := 0) (by omega) (by omega) hc39
                      refine lv_iload_n hx hb d_Mod_frame_96 rfl (lv_at hl 3 rfl) ?_
                      refine lv_if_lt (tgt := 105) hx hb d_Mod_frame_97 (by decide) (fun hc40 => ?_) (fun hc40 => ?_)
                      · skip
                        have hc40 := zt_ltT (a := jb) (b := 0) (by omega) (by omega) hc40
                        exact absurd hc40 (by omega)
                      · skip
                        have hc40 := zt_ltF (a := jb) (b := 0) (by omega) (by omega) hc40
                        refine lv_iload hx hb d_Mod_frame_100 (lv_at hl 0 rfl) ?_
                        refine lv_if_eq (tgt := 109) hx hb d_Mod_frame_102 (by decide) (fun hc41 => ?_) (fun hc41 => ?_)
                        · skip
                          have hc41 := zt_eqT (a := 0) (b := 0) (by omega) (by omega) hc41
                          refine lv_iload_n hx hb d_Mod_frame_109 rfl (lv_at hl 3 rfl) ?_
                          refine lv_istore_n (lv' := [(1, .int (nI jb)), (4, .int (nI 0)), (3, .int (nI 1)), (0, .ref X), (2, .int (nI i))]) hx hb d_Mod_frame_110 rfl hl (by decide) rfl (fun ls hl => ?_)
                          refine lv_iinc (k := 4) (v := nI (i + 1)) (lv' := [(2, .int (nI (i + 1))), (1, .int (nI jb)), (4, .int (nI 0)), (3, .int (nI 1)), (0, .ref X)]) hx hb d_Mod_frame_111 hl rfl (nI_add i 1) (by decide) rfl (fun ls hl => ?_)
                          refine lv_goto (tgt := 4) hx hb d_Mod_frame_114 (by decide) ?_
                          have e42 : zo_bs m9 (i + 1) = nI jb := by rw [zo_bs, if_neg hc13, if_neg hc21, if_neg hc28, sjb, if_neg hc33, if_neg hc38]; exact ejb
                          have hl : lv_has ls 5 [(2, .int (nI (i + 1))), (1, .int (zo_bs m9 (i + 1))), (4, .int (nI 0)), (3, .int (nI 1)), (0, .ref X)] := by rw [e42]; exact hl
                          exact ih_4 (i + 1) _ _ _ _ _ (by omega) (by omega) hm (lv_sub hl [4, 1, 0] rfl) hH hS
                        · skip
                          have hc41 := zt_eqF (a := 0) (b := 0) (by omega) (by omega) hc41
                          exact absurd hc41 (by omega)
                  · skip
                    have hc38 : (m9 30 i) = (m9 30 jb) := hc38
                    refine lv_aload_n hx hb d_Mod_frame_70 rfl (lv_at hl 1 rfl) ?_
                    refine zr_getr (ci := 6) (C := R_Mod) (T := T_Mod) (N := 37) (ref := "ScrubbedRecorderModel") hx hb hts (fun w h => List.mem_cons_of_mem _ (zin_Mod w h)) hown hK hH hm.1.1 (by decide) rfl 32 (by decide) rfl (hw zw_631) (fun _ h9 => h9) d_Mod_frame_71 (by rw [r32]) ?_
                    refine lv_iload_n hx hb d_Mod_frame_74 rfl (lv_at hl 3 rfl) ?_
                    refine zr_aldi (j := i) hx hb hK hH k32 (by rw [n32]; exact zh_ix_n (by omega) (by omega)) d_Mod_frame_75 ?_
                    refine zt_i (y := m9 32 i) (congrFun (hm.2.1 32 (by decide) (by decide) (by decide)) i) ?_
                    refine lv_aload_n hx hb d_Mod_frame_76 rfl (lv_at hl 1 rfl) ?_
                    refine zr_getr (ci := 6) (C := R_Mod) (T := T_Mod) (N := 37) (ref := "ScrubbedRecorderModel") hx hb hts (fun w h => List.mem_cons_of_mem _ (zin_Mod w h)) hown hK hH hm.1.1 (by decide) rfl 32 (by decide) rfl (hw zw_631) (fun _ h9 => h9) d_Mod_frame_77 (by rw [r32]) ?_
                    refine lv_iload_n hx hb d_Mod_frame_80 rfl (lv_at hl 2 rfl) ?_
                    refine zr_aldi (j := jb) hx hb hK hH k32 (by rw [n32]; exact zh_ix_n (by omega) (by omega)) d_Mod_frame_81 ?_
                    refine zt_i (y := m9 32 jb) (congrFun (hm.2.1 32 (by decide) (by decide) (by decide)) jb) ?_
                    refine lv_icmp_ge (tgt := 89) hx hb d_Mod_frame_82 (by decide) (fun hc43 => ?_) (fun hc43 => ?_)
                    · skip
                      have hc43 : ¬ (m9 32 i) < (m9 32 jb) := Int32.not_lt.mpr hc43
                      refine lv_iconst (v := nI 0) hx hb d_Mod_frame_89 (by decide) ?_
                      refine lv_istore (lv' := [(4, .int (nI 0)), (3, .int (nI 1)), (0, .ref X), (1, .int (nI jb)), (2, .int (nI i))]) hx hb d_Mod_frame_90 hl (by decide) rfl (fun ls hl => ?_)
                      refine lv_iload_n hx hb d_Mod_frame_92 rfl (lv_at hl 1 rfl) ?_
                      refine lv_if_eq (tgt := 109) hx hb d_Mod_frame_93 (by decide) (fun hc44 => ?_) (fun hc44 => ?_)
                      · skip
                        have hc44 := zt_eqT (a := 1) (b := 0) (by omega) (by omega) hc44
                        exact absurd hc44 (by omega)
                      · skip
                        have hc44 := zt_eqF (a := 1) (b := 0) (by omega) (by omega) hc44
                        refine lv_iload_n hx hb d_Mod_frame_96 rfl (lv_at hl 3 rfl) ?_
                        refine lv_if_lt (tgt := 105) hx hb d_Mod_frame_97 (by decide) (fun hc45 => ?_) (fun hc45 => ?_)
                        · skip
                          have hc45 := zt_ltT (a := jb) (b := 0) (by omega) (by omega) hc45
                          exact absurd hc45 (by omega)
                        · skip
                          have hc45 := zt_ltF (a := jb) (b := 0) (by omega) (by omega) hc45
                          refine lv_iload hx hb d_Mod_frame_100 (lv_at hl 0 rfl) ?_
                          refine lv_if_eq (tgt := 109) hx hb d_Mod_frame_102 (by decide) (fun hc46 => ?_) (fun hc46 => ?_)
                          · skip
                            have hc46 := zt_eqT (a := 0) (b := 0) (by omega) (by omega) hc46
                            refine lv_iload_n hx hb d_Mod_frame_109 rfl (lv_at hl 3 rfl) ?_
                            refine lv_istore_n (lv' := [(1, .int (nI jb)), (4, .int (nI 0)), (3, .int (nI 1)), (0, .ref X), (2, .int (nI i))]) hx hb d_Mod_frame_110 rfl hl (by decide) rfl (fun ls hl => ?_)
                            refine lv_iinc (k := 4) (v := nI (i + 1)) (lv' := [(2, .int (nI (i + 1))), (1, .int (nI jb)), (4, .int (nI 0)), (3, .int (nI 1)), (0, .ref X)]) hx hb d_Mod_frame_111 hl rfl (nI_add i 1) (by decide) rfl (fun ls hl => ?_)
                            refine lv_goto (tgt := 4) hx hb d_Mod_frame_114 (by decide) ?_
                            have e47 : zo_bs m9 (i + 1) = nI jb := by rw [zo_bs, if_neg hc13, if_neg hc21, if_neg hc28, sjb, if_neg hc33, if_pos hc38, if_neg hc43]; exact ejb
                            have hl : lv_has ls 5 [(2, .int (nI (i + 1))), (1, .int (zo_bs m9 (i + 1))), (4, .int (nI 0)), (3, .int (nI 1)), (0, .ref X)] := by rw [e47]; exact hl
                            exact ih_4 (i + 1) _ _ _ _ _ (by omega) (by omega) hm (lv_sub hl [4, 1, 0] rfl) hH hS
                          · skip
                            have hc46 := zt_eqF (a := 0) (b := 0) (by omega) (by omega) hc46
                            exact absurd hc46 (by omega)
                    · skip
                      have hc43 : (m9 32 i) < (m9 32 jb) := Int32.not_le.mp hc43
                      refine lv_iconst (v := nI 1) hx hb d_Mod_frame_85 (by decide) ?_
                      refine lv_goto (tgt := 90) hx hb d_Mod_frame_86 (by decide) ?_
                      refine lv_istore (lv' := [(4, .int (nI 1)), (3, .int (nI 1)), (0, .ref X), (1, .int (nI jb)), (2, .int (nI i))]) hx hb d_Mod_frame_90 hl (by decide) rfl (fun ls hl => ?_)
                      refine lv_iload_n hx hb d_Mod_frame_92 rfl (lv_at hl 1 rfl) ?_
                      refine lv_if_eq (tgt := 109) hx hb d_Mod_frame_93 (by decide) (fun hc48 => ?_) (fun hc48 => ?_)
                      · skip
                        have hc48 := zt_eqT (a := 1) (b := 0) (by omega) (by omega) hc48
                        exact absurd hc48 (by omega)
                      · skip
                        have hc48 := zt_eqF (a := 1) (b := 0) (by omega) (by omega) hc48
                        refine lv_iload_n hx hb d_Mod_frame_96 rfl (lv_at hl 3 rfl) ?_
                        refine lv_if_lt (tgt := 105) hx hb d_Mod_frame_97 (by decide) (fun hc49 => ?_) (fun hc49 => ?_)
                        · skip
                          have hc49 := zt_ltT (a := jb) (b := 0) (by omega) (by omega) hc49
                          exact absurd hc49 (by omega)
                        · skip
                          have hc49 := zt_ltF (a := jb) (b := 0) (by omega) (by omega) hc49
                          refine lv_iload hx hb d_Mod_frame_100 (lv_at hl 0 rfl) ?_
                          refine lv_if_eq (tgt := 109) hx hb d_Mod_frame_102 (by decide) (fun hc50 => ?_) (fun hc50 => ?_)
                          · skip
                            have hc50 := zt_eqT (a := 1) (b := 0) (by omega) (by omega) hc50
                            exact absurd hc50 (by omega)
                          · skip
                            have hc50 := zt_eqF (a := 1) (b := 0) (by omega) (by omega) hc50
                            refine lv_iload_n hx hb d_Mod_frame_105 rfl (lv_at hl 4 rfl) ?_
                            refine lv_goto (tgt := 110) hx hb d_Mod_frame_106 (by decide) ?_
                            refine lv_istore_n (lv' := [(1, .int (nI i)), (4, .int (nI 1)), (3, .int (nI 1)), (0, .ref X), (2, .int (nI i))]) hx hb d_Mod_frame_110 rfl hl (by decide) rfl (fun ls hl => ?_)
                            refine lv_iinc (k := 4) (v := nI (i + 1)) (lv' := [(2, .int (nI (i + 1))), (1, .int (nI i)), (4, .int (nI 1)), (3, .int (nI 1)), (0, .ref X)]) hx hb d_Mod_frame_111 hl rfl (nI_add i 1) (by decide) rfl (fun ls hl => ?_)
                            refine lv_goto (tgt := 4) hx hb d_Mod_frame_114 (by decide) ?_
                            have e51 : zo_bs m9 (i + 1) = nI i := by rw [zo_bs, if_neg hc13, if_neg hc21, if_neg hc28, sjb, if_neg hc33, if_pos hc38, if_pos hc43]
                            have hl : lv_has ls 5 [(2, .int (nI (i + 1))), (1, .int (zo_bs m9 (i + 1))), (4, .int (nI 1)), (3, .int (nI 1)), (0, .ref X)] := by rw [e51]; exact hl
                            exact ih_4 (i + 1) _ _ _ _ _ (by omega) (by omega) hm (lv_sub hl [4, 1, 0] rfl) hH hS
  exact loop_4 _ 0 _ _ _ _ _ (Nat.lt_succ_self _) (by omega) hm (lv_sub hl [2, 1, 0] rfl) hH hS
