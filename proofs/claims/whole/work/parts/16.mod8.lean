theorem zu_upc {α : Type} (f : Nat → Nat → α) {a b : Nat} (k : Nat) (g : Nat → α) (x : α) (h : a ≠ b) : zu (va_up f b g) a k x = va_up (zu f a k x) b g := by
  funext c j
  by_cases hb : c = b
  · subst hb
    rw [zu_ne _ _ _ (Ne.symm h), va_up_self, va_up_self]
  · rw [va_up_ne _ _ hb]
    by_cases ha : c = a
    · subst ha
      rw [zu_at, zu_at, va_up_ne _ _ hb]
    · rw [zu_ne _ _ _ ha, zu_ne _ _ _ ha, va_up_ne _ _ hb]
theorem zo_map_k {α : Type} {f g : Nat → α} {i : Nat} (h : g i = f i) : zo_map f g i = zo_map f g (i + 1) := by
  funext s
  unfold zo_map
  by_cases e : s = i
  · subst e
    rw [if_neg (by omega), if_pos (by omega), h]
  · by_cases h2 : s < i
    · rw [if_pos h2, if_pos (by omega)]
    · rw [if_neg h2, if_neg (by omega)]
theorem zo_pgs_up {m9 : Nat → Nat → Int32} {k c r : Nat} {f : Nat → Int32} (h : zo_pgs m9 k c) (h1 : 12 ≠ r) (h2 : 14 ≠ r) : zo_pgs (va_up m9 r f) k c := by
  unfold zo_pgs
  rw [va_up_ne _ _ h1, va_up_ne _ _ h2]
  exact h
def zo_cf (m9 : Nat → Nat → Int32) (k : Nat) (a b : Int32) (s : Nat) : Int32 := if m9 16 s = nI k then (if m9 17 s < a then m9 22 s else if b < m9 17 s then m9 22 s else nI 1) else m9 22 s
def zo_ca (m9 : Nat → Nat → Int32) (k : Nat) (a b : Int32) (s : Nat) : Int32 := if m9 16 s = nI k then (if m9 17 s < a then m9 24 s else if b < m9 17 s then m9 24 s else nI 0) else m9 24 s
def zo_cm (m9 : Nat → Nat → Int32) (k : Nat) (a b : Int32) : Nat → Nat
  | 0 => 0
  | n + 1 => zo_cm m9 k a b n + (if m9 16 n = nI k then (if m9 17 n < a then 0 else if b < m9 17 n then 0 else if m9 22 n = nI 0 then 1 else 0) else 0)
theorem zo_cm_le (m9 : Nat → Nat → Int32) (k : Nat) (a b : Int32) : ∀ n, zo_cm m9 k a b n ≤ n
  | 0 => Nat.le_refl _
  | n + 1 => by
    have := zo_cm_le m9 k a b n
    rw [zo_cm]
    split
    · split
      · omega
      · split
        · omega
        · split <;> omega
    · omega
def zo_cfI (m9 : Nat → Nat → Int32) (k : Nat) (a b : Int32) (n : Nat) : Nat → Nat → Int32 := va_up (va_up m9 22 (zo_map (m9 22) (zo_cf m9 k a b) n)) 24 (zo_map (m9 24) (zo_ca m9 k a b) n)
theorem zo_cfI_0 (m9 : Nat → Nat → Int32) (k : Nat) (a b : Int32) : zo_cfI m9 k a b 0 = m9 := by
  unfold zo_cfI
  rw [zo_map_0]
  exact zo_map_0 m9 24 _
theorem zo_cfI_k {m9 : Nat → Nat → Int32} {k : Nat} {a b : Int32} {n : Nat} (h1 : zo_cf m9 k a b n = m9 22 n) (h2 : zo_ca m9 k a b n = m9 24 n) : zo_cfI m9 k a b n = zo_cfI m9 k a b (n + 1) := by
  unfold zo_cfI
  rw [zo_map_k h1, zo_map_k h2]
theorem zo_cfI_s {m9 : Nat → Nat → Int32} {k : Nat} {a b : Int32} {n : Nat} {u v : Int32} (h1 : zo_cf m9 k a b n = u) (h2 : zo_ca m9 k a b n = v) : zu (zu (zo_cfI m9 k a b n) 22 n u) 24 n v = zo_cfI m9 k a b (n + 1) := by
  unfold zo_cfI
  rw [zu_upc _ _ _ _ (show (22 : Nat) ≠ 24 by decide), ← h1, zo_map_s, ← h2, zo_map_s]
theorem zo_cfI_r {m9 : Nat → Nat → Int32} {k : Nat} {a b : Int32} {n r : Nat} (h1 : r ≠ 22) (h2 : r ≠ 24) : zo_cfI m9 k a b n r = m9 r := by
  unfold zo_cfI
  rw [va_up_ne _ _ h2, va_up_ne _ _ h1]
theorem zo_cfI_22 {m9 : Nat → Nat → Int32} {k : Nat} {a b : Int32} {n : Nat} : zo_cfI m9 k a b n 22 n = m9 22 n := by
  unfold zo_cfI
  rw [va_up_ne _ _ (show (22 : Nat) ≠ 24 by decide), va_up_self, zo_map_at]
theorem zo_cfI_pgs {m9 : Nat → Nat → Int32} {k c : Nat} {a b : Int32} {n : Nat} (h : zo_pgs m9 k c) : zo_pgs (zo_cfI m9 k a b n) k c := zo_pgs_up (zo_pgs_up h (by decide) (by decide)) (by decide) (by decide)

set_option maxHeartbeats 4000000 in
set_option maxRecDepth 100000 in
/-- confirm, of a store that is made -/
theorem c_Mod_confirm {l : Launch} {D : va_G} {cA : Nat → ClassId} {te mi : Nat} {kd ln : Nat → Nat} {I : Nat → Nat → Int32} {L : Nat → Nat → Int64} {R : Nat → Nat → Option Nat} {X : Nat} {ad : Nat → Nat} {m9 : Nat → Nat → Int32} {q9 : Nat → Nat → Int64} (hm : zoR X ad m9 q9 kd ln I L R) {k cl : Nat} {a b : Int32} (hk4 : k < 4) (hmd : ¬ m9 7 k = nI 0) (hab : ¬ b < a) (hpgs : zo_pgs m9 k cl) : zc_M l y_Mod_confirm w_Mod_confirm { frames := 4, cells := 0, slots := 0, locals := 90 } 0 0 D cA te mi ([.ref X, .int (nI k), .int a, .int b] : List Value) kd ln I L R (zo_P (some (.int (nI (zo_cm m9 k a b 280)))) X ad ((if (zo_cfI m9 k a b 280) 8 k = nI 0 then zo_pr k cl ((zo_cfI m9 k a b 280), q9) else ((zo_cfI m9 k a b 280), q9)).1) ((if (zo_cfI m9 k a b 280) 8 k = nI 0 then zo_pr k cl ((zo_cfI m9 k a b 280), q9) else ((zo_cfI m9 k a b 280), q9)).2) kd ln R) := by
  intro sz
  refine Met.ofW (cc := b_Mod_confirm) (maxL := 6) (ret := (some (.int))) (by decide +kernel) rfl ?_
  intro p e s m args below meth c s₁ B hml hv
  obtain ⟨rfl, hsz, hSc, hE, hH⟩ := hv
  have hx := B.exec
  have hb := B.bytes
  have hr := B.returns
  have hts := atoms_spec (ws := w_Mod_confirm) B.pre
  have hw : ∀ {w : Cond}, w ∈ zw → w.before ([.ref X, .int (nI k), .int a, .int b] : List Value).toArray s = true := fun h => hts _ (List.mem_cons_of_mem _ h)
  have hown : s.vm.findClass R_Mod = some m.cls := findClass_of_methodNamed B.named
  have hlocks := B.notSynchronized
  subst hsz
  have hK := hSc.1
  have hH : zh_H D cA (zc_A kd s.heap.size) kd ln I L R s.heap := hH.weaken (fun q h _ => Or.inl h)
  generalize hAe : zc_A kd s.heap.size = A at hH hE ⊢
  have hA : ∀ q : Nat, s.heap.size ≤ q → A q := fun q h => by rw [← hAe]; exact Or.inr h
  have hS : va_S A s.heap s.heap [] := va_S.rf
  have hl := lv_entry ([.ref X, .int (nI k), .int a, .int b] : List Value) (n := 6) (Nat.le_of_ble_eq_true rfl)
  rw [lg_entry_eq]
  generalize (lg_sl ([.ref X, .int (nI k), .int a, .int b] : List Value) ++ List.replicate (6 - (lg_sl ([.ref X, .int (nI k), .int a, .int b] : List Value)).length) Slot.unset).toArray = ls at hl ⊢
  have hl : lv_has ls 6 [(0, .ref X), (1, .int (nI k)), (2, .int a), (3, .int b)] := hl
  have k16 : kd (ad 16) = 100 := (hm.1.2.1 16 (by decide) (by decide)).2.1
  have n16 : ln (ad 16) = 280 := (hm.1.2.1 16 (by decide) (by decide)).2.2
  have r16 : R X 16 = some (ad 16) := (hm.1.2.1 16 (by decide) (by decide)).1
  have k17 : kd (ad 17) = 100 := (hm.1.2.1 17 (by decide) (by decide)).2.1
  have n17 : ln (ad 17) = 280 := (hm.1.2.1 17 (by decide) (by decide)).2.2
  have r17 : R X 17 = some (ad 17) := (hm.1.2.1 17 (by decide) (by decide)).1
  have k22 : kd (ad 22) = 103 := (hm.1.2.1 22 (by decide) (by decide)).2.1
  have n22 : ln (ad 22) = 280 := (hm.1.2.1 22 (by decide) (by decide)).2.2
  have r22 : R X 22 = some (ad 22) := (hm.1.2.1 22 (by decide) (by decide)).1
  have k24 : kd (ad 24) = 100 := (hm.1.2.1 24 (by decide) (by decide)).2.1
  have n24 : ln (ad 24) = 280 := (hm.1.2.1 24 (by decide) (by decide)).2.2
  have r24 : R X 24 = some (ad 24) := (hm.1.2.1 24 (by decide) (by decide)).1
  refine lv_aload_n hx hb d_Mod_confirm_0 rfl (lv_at hl 0 rfl) ?_
  refine lv_iload_n hx hb d_Mod_confirm_1 rfl (lv_at hl 1 rfl) ?_
  refine zr_V (As := ([.int (nI k)] : List Value)) (rest := []) (b := X) (ci := 6) (q := (R_Mod, T_Mod, 37)) ⟨hx, hb, hml, hown, hts⟩ (c_Mod_isMade hm ) ⟨(callB_of 1 hts (zg_all zw_757) rfl rfl rfl (hw zw_3) (hw zw_754) k_Mod_isMade.2 ⟨Nat.le_of_ble_eq_true rfl, Nat.le_of_ble_eq_true rfl⟩), (hw zw_756), (hw zs_Mod_isMade)⟩ hSc hE hH hS hA rfl (by decide) hm.1.1 rfl hl.1 rfl (Nat.le_of_ble_eq_true rfl) d_Mod_confirm_2 ⟨Nat.le_of_ble_eq_true rfl, Nat.le_of_ble_eq_true rfl⟩ (fun v1 kd1 ln1 I1 L1 R1 H locs hp hH hS => ?_)
  obtain ⟨rfl, rfl, rfl, rfl, hm⟩ := hp
  refine W.eq (g2 := F0 m 5 ls [.int (zo_made (m9 7) (nI k))]) rfl ?_
  refine W.widen (k := 0) (n := 0) (by omega) (by omega) ?_
  refine lv_if_eq (tgt := 13) hx hb d_Mod_confirm_5 (by decide) (fun hc2 => ?_) (fun hc2 => ?_)
  · skip
    have hc2 : (zo_made (m9 7) (nI k)) = (nI 0) := hc2
    first | exact absurd hc2 hab | exact absurd hc2 (by rw [zo_made_n hk4, if_neg hmd]; decide)
  · skip
    have hc2 : ¬ (zo_made (m9 7) (nI k)) = (nI 0) := hc2
    refine lv_iload_n hx hb d_Mod_confirm_8 rfl (lv_at hl 2 rfl) ?_
    refine lv_iload_n hx hb d_Mod_confirm_9 rfl (lv_at hl 3 rfl) ?_
    refine lv_icmp_le (tgt := 16) hx hb d_Mod_confirm_10 (by decide) (fun hc3 => ?_) (fun hc3 => ?_)
    · skip
      have hc3 : ¬ b < a := Int32.not_lt.mpr hc3
      refine lv_iconst (v := nI 0) hx hb d_Mod_confirm_16 (by decide) ?_
      refine lv_istore (lv' := [(4, .int (nI 0)), (0, .ref X), (1, .int (nI k)), (2, .int a), (3, .int b)]) hx hb d_Mod_confirm_17 hl (by decide) rfl (fun ls hl => ?_)
      refine lv_iconst (v := nI 0) hx hb d_Mod_confirm_19 (by decide) ?_
      refine lv_istore (lv' := [(5, .int (nI 0)), (4, .int (nI 0)), (0, .ref X), (1, .int (nI k)), (2, .int a), (3, .int b)]) hx hb d_Mod_confirm_20 hl (by decide) rfl (fun ls hl => ?_)
      have loop_22 : ∀ (z : Nat) (i : Nat) (I_22 : Nat → Nat → Int32) (L_22 : Nat → Nat → Int64) (H : Heap) (locs : List Loc) (ls : Array Slot), 280 - i < z → (i ≤ 280) → (zoR X ad (zo_cfI m9 k a b i) q9 kd ln I_22 L_22 R) → lv_has ls 6 [(0, .ref X), (1, .int (nI k)), (2, .int a), (3, .int b), (4, .int (nI (zo_cm m9 k a b i))), (5, .int (nI i))] → zh_H D cA A kd ln I_22 L_22 R H → va_S A s.heap H locs → W p l e (headSpec w_Mod_confirm { frames := 4, cells := 0, slots := 0, locals := 90 }).room s m ([.ref X, .int (nI k), .int a, .int b] : List Value).toArray below meth c H locs 0 0 (MQ below (zc_Qc D cA A (zo_P (some (.int (nI (zo_cm m9 k a b 280)))) X ad ((if (zo_cfI m9 k a b 280) 8 k = nI 0 then zo_pr k cl ((zo_cfI m9 k a b 280), q9) else ((zo_cfI m9 k a b 280), q9)).1) ((if (zo_cfI m9 k a b 280) 8 k = nI 0 then zo_pr k cl ((zo_cfI m9 k a b 280), q9) else ((zo_cfI m9 k a b 280), q9)).2) kd ln R)) ([.ref X, .int (nI k), .int a, .int b] : List Value).toArray s 0 0 A) (F0 m 22 ls []) := by
        intro z
        induction z with
        | zero => intro i I_22 L_22 H locs ls hz; exact absurd hz (Nat.not_lt_zero _)
        | succ z ih_22 =>
          intro i I_22 L_22 H locs ls hz_22 hi hm hl hH hS
          have hcm := zo_cm_le m9 k a b i
          refine lv_iload hx hb d_Mod_confirm_22 (lv_at hl 5 rfl) ?_
          refine lv_sipush (v := nI 280) hx hb d_Mod_confirm_24 (by decide) ?_
          refine lv_icmp_ge (tgt := 105) hx hb d_Mod_confirm_27 (by decide) (fun hc4 => ?_) (fun hc4 => ?_)
          · skip
            have hc4 := zt_geT (a := i) (b := 280) (by omega) (by omega) hc4
            have hi2 : i = 280 := by omega
            rw [hi2] at hl hm
            clear hcm
            refine lv_aload_n hx hb d_Mod_confirm_105 rfl (lv_at hl 0 rfl) ?_
            refine lv_iload_n hx hb d_Mod_confirm_106 rfl (lv_at hl 1 rfl) ?_
            refine zr_V (As := ([.int (nI k)] : List Value)) (rest := []) (b := X) (ci := 6) (q := (R_Mod, T_Mod, 37)) ⟨hx, hb, hml, hown, hts⟩ (c_Mod_prune hm hk4 (zo_cfI_pgs hpgs)) ⟨(callB_of 1 hts (zg_all zw_785) rfl rfl rfl (hw zw_3) (hw zw_782) k_Mod_prune.2 ⟨Nat.le_of_ble_eq_true rfl, Nat.le_of_ble_eq_true rfl⟩), (hw zw_784), (hw zs_Mod_prune)⟩ hSc hE hH hS hA rfl (by decide) hm.1.1 rfl hl.1 rfl (Nat.le_of_ble_eq_true rfl) d_Mod_confirm_107 ⟨Nat.le_of_ble_eq_true rfl, Nat.le_of_ble_eq_true rfl⟩ (fun v5 kd5 ln5 I5 L5 R5 H locs hp hH hS => ?_)
            obtain ⟨rfl, rfl, rfl, rfl, hm⟩ := hp
            refine W.eq (g2 := F0 m 110 ls []) rfl ?_
            refine W.widen (k := 0) (n := 0) (by omega) (by omega) ?_
            refine lv_iload hx hb d_Mod_confirm_110 (lv_at hl 4 rfl) ?_
            refine W.widen (k := 0) (n := 0) (Nat.le_of_ble_eq_true rfl) (Nat.le_of_ble_eq_true rfl) ?_
            subst hAe
            exact W.iret (v := nI (zo_cm m9 k a b 280)) hx hb hr (fun t ht hW => zc_end hS hH ht (⟨rfl, rfl, rfl, rfl, hm⟩)) hS.2.2 d_Mod_confirm_112
          · skip
            have hc4 := zt_geF (a := i) (b := 280) (by omega) (by omega) hc4
            refine lv_aload_n hx hb d_Mod_confirm_30 rfl (lv_at hl 0 rfl) ?_
            refine zr_getr (ci := 6) (C := R_Mod) (T := T_Mod) (N := 37) (ref := "ScrubbedRecorderModel") hx hb hts (fun w h => List.mem_cons_of_mem _ (zin_Mod w h)) hown hK hH hm.1.1 (by decide) rfl 16 (by decide) rfl (hw zw_615) (fun _ h9 => h9) d_Mod_confirm_31 (by rw [r16]) ?_
            refine lv_iload hx hb d_Mod_confirm_34 (lv_at hl 5 rfl) ?_
            refine zr_aldi (j := i) hx hb hK hH k16 (by rw [n16]; exact zh_ix_n (by omega) (by omega)) d_Mod_confirm_36 ?_
            refine zt_i (y := m9 16 i) ((congrFun (hm.2.1 16 (by decide) (by decide) (by decide)) i).trans (by rw [show (zo_cfI m9 k a b i) 16 i = m9 16 i from by rw [zo_cfI_r (by decide) (by decide)]])) ?_
            refine lv_iload_n hx hb d_Mod_confirm_37 rfl (lv_at hl 1 rfl) ?_
            refine lv_icmp_ne (tgt := 99) hx hb d_Mod_confirm_38 (by decide) (fun hc6 => ?_) (fun hc6 => ?_)
            · skip
              have hc6 : ¬ (m9 16 i) = (nI k) := hc6
              refine lv_iinc (k := 5) (v := nI (i + 1)) (lv' := [(5, .int (nI (i + 1))), (0, .ref X), (1, .int (nI k)), (2, .int a), (3, .int b), (4, .int (nI (zo_cm m9 k a b i)))]) hx hb d_Mod_confirm_99 hl rfl (nI_add i 1) (by decide) rfl (fun ls hl => ?_)
              refine lv_goto (tgt := 22) hx hb d_Mod_confirm_102 (by decide) ?_
              have e7 : zo_cm m9 k a b (i + 1) = zo_cm m9 k a b i := by rw [zo_cm, if_neg hc6]; rfl
              have hl : lv_has ls 6 [(5, .int (nI (i + 1))), (0, .ref X), (1, .int (nI k)), (2, .int a), (3, .int b), (4, .int (nI (zo_cm m9 k a b (i + 1))))] := by rw [e7]; exact hl
              rw [zo_cfI_k (by rw [zo_cf, if_neg hc6]) (by rw [zo_ca, if_neg hc6])] at hm
              exact ih_22 (i + 1) _ _ _ _ _ (by omega) (by omega) hm (lv_sub hl [1, 2, 3, 4, 5, 0] rfl) hH hS
            · skip
              have hc6 : (m9 16 i) = (nI k) := hc6
              refine lv_aload_n hx hb d_Mod_confirm_41 rfl (lv_at hl 0 rfl) ?_
              refine zr_getr (ci := 6) (C := R_Mod) (T := T_Mod) (N := 37) (ref := "ScrubbedRecorderModel") hx hb hts (fun w h => List.mem_cons_of_mem _ (zin_Mod w h)) hown hK hH hm.1.1 (by decide) rfl 17 (by decide) rfl (hw zw_616) (fun _ h9 => h9) d_Mod_confirm_42 (by rw [r17]) ?_
              refine lv_iload hx hb d_Mod_confirm_45 (lv_at hl 5 rfl) ?_
              refine zr_aldi (j := i) hx hb hK hH k17 (by rw [n17]; exact zh_ix_n (by omega) (by omega)) d_Mod_confirm_47 ?_
              refine zt_i (y := m9 17 i) ((congrFun (hm.2.1 17 (by decide) (by decide) (by decide)) i).trans (by rw [show (zo_cfI m9 k a b i) 17 i = m9 17 i from by rw [zo_cfI_r (by decide) (by decide)]])) ?_
              refine lv_iload_n hx hb d_Mod_confirm_48 rfl (lv_at hl 2 rfl) ?_
              refine lv_icmp_lt (tgt := 99) hx hb d_Mod_confirm_49 (by decide) (fun hc8 => ?_) (fun hc8 => ?_)
              · skip
                have hc8 : (m9 17 i) < a := hc8
                refine lv_iinc (k := 5) (v := nI (i + 1)) (lv' := [(5, .int (nI (i + 1))), (0, .ref X), (1, .int (nI k)), (2, .int a), (3, .int b), (4, .int (nI (zo_cm m9 k a b i)))]) hx hb d_Mod_confirm_99 hl rfl (nI_add i 1) (by decide) rfl (fun ls hl => ?_)
                refine lv_goto (tgt := 22) hx hb d_Mod_confirm_102 (by decide) ?_
                have e9 : zo_cm m9 k a b (i + 1) = zo_cm m9 k a b i := by rw [zo_cm, if_pos hc6, if_pos hc8]; rfl
                have hl : lv_has ls 6 [(5, .int (nI (i + 1))), (0, .ref X), (1, .int (nI k)), (2, .int a), (3, .int b), (4, .int (nI (zo_cm m9 k a b (i + 1))))] := by rw [e9]; exact hl
                rw [zo_cfI_k (by rw [zo_cf, if_pos hc6, if_pos hc8]) (by rw [zo_ca, if_pos hc6, if_pos hc8])] at hm
                exact ih_22 (i + 1) _ _ _ _ _ (by omega) (by omega) hm (lv_sub hl [1, 2, 3, 4, 5, 0] rfl) hH hS
              · skip
                have hc8 : ¬ (m9 17 i) < a := hc8
                refine lv_aload_n hx hb d_Mod_confirm_52 rfl (lv_at hl 0 rfl) ?_
                refine zr_getr (ci := 6) (C := R_Mod) (T := T_Mod) (N := 37) (ref := "ScrubbedRecorderModel") hx hb hts (fun w h => List.mem_cons_of_mem _ (zin_Mod w h)) hown hK hH hm.1.1 (by decide) rfl 17 (by decide) rfl (hw zw_616) (fun _ h9 => h9) d_Mod_confirm_53 (by rw [r17]) ?_
                refine lv_iload hx hb d_Mod_confirm_56 (lv_at hl 5 rfl) ?_
                refine zr_aldi (j := i) hx hb hK hH k17 (by rw [n17]; exact zh_ix_n (by omega) (by omega)) d_Mod_confirm_58 ?_
                refine zt_i (y := m9 17 i) ((congrFun (hm.2.1 17 (by decide) (by decide) (by decide)) i).trans (by rw [show (zo_cfI m9 k a b i) 17 i = m9 17 i from by rw [zo_cfI_r (by decide) (by decide)]])) ?_
                refine lv_iload_n hx hb d_Mod_confirm_59 rfl (lv_at hl 3 rfl) ?_
                refine lv_icmp_gt (tgt := 99) hx hb d_Mod_confirm_60 (by decide) (fun hc10 => ?_) (fun hc10 => ?_)
                · skip
                  have hc10 : b < (m9 17 i) := hc10
                  refine lv_iinc (k := 5) (v := nI (i + 1)) (lv' := [(5, .int (nI (i + 1))), (0, .ref X), (1, .int (nI k)), (2, .int a), (3, .int b), (4, .int (nI (zo_cm m9 k a b i)))]) hx hb d_Mod_confirm_99 hl rfl (nI_add i 1) (by decide) rfl (fun ls hl => ?_)
                  refine lv_goto (tgt := 22) hx hb d_Mod_confirm_102 (by decide) ?_
                  have e11 : zo_cm m9 k a b (i + 1) = zo_cm m9 k a b i := by rw [zo_cm, if_pos hc6, if_neg hc8, if_pos hc10]; rfl
                  have hl : lv_has ls 6 [(5, .int (nI (i + 1))), (0, .ref X), (1, .int (nI k)), (2, .int a), (3, .int b), (4, .int (nI (zo_cm m9 k a b (i + 1))))] := by rw [e11]; exact hl
                  rw [zo_cfI_k (by rw [zo_cf, if_pos hc6, if_neg hc8, if_pos hc10]) (by rw [zo_ca, if_pos hc6, if_neg hc8, if_pos hc10])] at hm
                  exact ih_22 (i + 1) _ _ _ _ _ (by omega) (by omega) hm (lv_sub hl [1, 2, 3, 4, 5, 0] rfl) hH hS
                · skip
                  have hc10 : ¬ b < (m9 17 i) := hc10
                  refine lv_iload hx hb d_Mod_confirm_63 (lv_at hl 4 rfl) ?_
                  refine lv_aload_n hx hb d_Mod_confirm_65 rfl (lv_at hl 0 rfl) ?_
                  refine zr_getr (ci := 6) (C := R_Mod) (T := T_Mod) (N := 37) (ref := "ScrubbedRecorderModel") hx hb hts (fun w h => List.mem_cons_of_mem _ (zin_Mod w h)) hown hK hH hm.1.1 (by decide) rfl 22 (by decide) rfl (hw zw_621) (fun _ h9 => h9) d_Mod_confirm_66 (by rw [r22]) ?_
                  refine lv_iload hx hb d_Mod_confirm_69 (lv_at hl 5 rfl) ?_
                  refine zr_aldz (j := i) hx hb hK hH k22 (by rw [n22]; exact zh_ix_n (by omega) (by omega)) d_Mod_confirm_71 ?_
                  refine zt_i (y := m9 22 i) ((congrFun (hm.2.1 22 (by decide) (by decide) (by decide)) i).trans (by rw [show (zo_cfI m9 k a b i) 22 i = m9 22 i from zo_cfI_22])) ?_
                  refine lv_if_eq (tgt := 79) hx hb d_Mod_confirm_72 (by decide) (fun hc12 => ?_) (fun hc12 => ?_)
                  · skip
                    have hc12 : (m9 22 i) = (nI 0) := hc12
                    refine lv_iconst (v := nI 1) hx hb d_Mod_confirm_79 (by decide) ?_
                    refine lv_iadd hx hb d_Mod_confirm_80 ?_
                    refine zt_i (y := nI (zo_cm m9 k a b i + 1)) (nI_add (zo_cm m9 k a b i) 1) ?_
                    refine lv_istore (lv' := [(4, .int (nI (zo_cm m9 k a b i + 1))), (0, .ref X), (1, .int (nI k)), (2, .int a), (3, .int b), (5, .int (nI i))]) hx hb d_Mod_confirm_81 hl (by decide) rfl (fun ls hl => ?_)
                    refine lv_aload_n hx hb d_Mod_confirm_83 rfl (lv_at hl 1 rfl) ?_
                    refine zr_getr (ci := 6) (C := R_Mod) (T := T_Mod) (N := 37) (ref := "ScrubbedRecorderModel") hx hb hts (fun w h => List.mem_cons_of_mem _ (zin_Mod w h)) hown hK hH hm.1.1 (by decide) rfl 22 (by decide) rfl (hw zw_621) (fun _ h9 => h9) d_Mod_confirm_84 (by rw [r22]) ?_
                    refine lv_iload hx hb d_Mod_confirm_87 (lv_at hl 5 rfl) ?_
                    refine lv_iconst (v := nI 1) hx hb d_Mod_confirm_89 (by decide) ?_
                    refine zr_astz (j := i) (y := nI 1) hx hb hK hH hS k22 (by decide +kernel) (by rw [n22]; exact zh_ix_n (by omega) (by omega)) d_Mod_confirm_90 (fun H locs hH hS => ?_)
                    have hm := zoR_I hm 22 (by decide) i (nI 1)
                    generalize zu I_22 (ad 22) i (nI 1) = I13 at hm hH
                    refine lv_aload_n hx hb d_Mod_confirm_91 rfl (lv_at hl 1 rfl) ?_
                    refine zr_getr (ci := 6) (C := R_Mod) (T := T_Mod) (N := 37) (ref := "ScrubbedRecorderModel") hx hb hts (fun w h => List.mem_cons_of_mem _ (zin_Mod w h)) hown hK hH hm.1.1 (by decide) rfl 24 (by decide) rfl (hw zw_623) (fun _ h9 => h9) d_Mod_confirm_92 (by rw [r24]) ?_
                    refine lv_iload hx hb d_Mod_confirm_95 (lv_at hl 5 rfl) ?_
                    refine lv_iconst (v := nI 0) hx hb d_Mod_confirm_97 (by decide) ?_
                    refine zr_asti (j := i) (y := nI 0) hx hb hK hH hS k24 rfl (by rw [n24]; exact zh_ix_n (by omega) (by omega)) d_Mod_confirm_98 (fun H locs hH hS => ?_)
                    have hm := zoR_I hm 24 (by decide) i (nI 0)
                    generalize zu I13 (ad 24) i (nI 0) = I14 at hm hH
                    refine lv_iinc (k := 5) (v := nI (i + 1)) (lv' := [(5, .int (nI (i + 1))), (4, .int (nI (zo_cm m9 k a b i + 1))), (0, .ref X), (1, .int (nI k)), (2, .int a), (3, .int b)]) hx hb d_Mod_confirm_99 hl rfl (nI_add i 1) (by decide) rfl (fun ls hl => ?_)
                    refine lv_goto (tgt := 22) hx hb d_Mod_confirm_102 (by decide) ?_
                    have e15 : zo_cm m9 k a b (i + 1) = zo_cm m9 k a b i + 1 := by rw [zo_cm, if_pos hc6, if_neg hc8, if_neg hc10, if_pos hc12]
                    have hl : lv_has ls 6 [(5, .int (nI (i + 1))), (4, .int (nI (zo_cm m9 k a b (i + 1)))), (0, .ref X), (1, .int (nI k)), (2, .int a), (3, .int b)] := by rw [e15]; exact hl
                    rw [zo_cfI_s (by rw [zo_cf, if_pos hc6, if_neg hc8, if_neg hc10]) (by rw [zo_ca, if_pos hc6, if_neg hc8, if_neg hc10])] at hm
                    exact ih_22 (i + 1) _ _ _ _ _ (by omega) (by omega) hm (lv_sub hl [2, 3, 4, 5, 1, 0] rfl) hH hS
                  · skip
                    have hc12 : ¬ (m9 22 i) = (nI 0) := hc12
                    refine lv_iconst (v := nI 0) hx hb d_Mod_confirm_75 (by decide) ?_
                    refine lv_goto (tgt := 80) hx hb d_Mod_confirm_76 (by decide) ?_
                    refine lv_iadd hx hb d_Mod_confirm_80 ?_
                    refine zt_i (y := nI (zo_cm m9 k a b i + 0)) (nI_add (zo_cm m9 k a b i) 0) ?_
                    refine lv_istore (lv' := [(4, .int (nI (zo_cm m9 k a b i + 0))), (0, .ref X), (1, .int (nI k)), (2, .int a), (3, .int b), (5, .int (nI i))]) hx hb d_Mod_confirm_81 hl (by decide) rfl (fun ls hl => ?_)
                    refine lv_aload_n hx hb d_Mod_confirm_83 rfl (lv_at hl 1 rfl) ?_
                    refine zr_getr (ci := 6) (C := R_Mod) (T := T_Mod) (N := 37) (ref := "ScrubbedRecorderModel") hx hb hts (fun w h => List.mem_cons_of_mem _ (zin_Mod w h)) hown hK hH hm.1.1 (by decide) rfl 22 (by decide) rfl (hw zw_621) (fun _ h9 => h9) d_Mod_confirm_84 (by rw [r22]) ?_
                    refine lv_iload hx hb d_Mod_confirm_87 (lv_at hl 5 rfl) ?_
                    refine lv_iconst (v := nI 1) hx hb d_Mod_confirm_89 (by decide) ?_
                    refine zr_astz (j := i) (y := nI 1) hx hb hK hH hS k22 (by decide +kernel) (by rw [n22]; exact zh_ix_n (by omega) (by omega)) d_Mod_confirm_90 (fun H locs hH hS => ?_)
                    have hm := zoR_I hm 22 (by decide) i (nI 1)
                    generalize zu I_22 (ad 22) i (nI 1) = I16 at hm hH
                    refine lv_aload_n hx hb d_Mod_confirm_91 rfl (lv_at hl 1 rfl) ?_
                    refine zr_getr (ci := 6) (C := R_Mod) (T := T_Mod) (N := 37) (ref := "ScrubbedRecorderModel") hx hb hts (fun w h => List.mem_cons_of_mem _ (zin_Mod w h)) hown hK hH hm.1.1 (by decide) rfl 24 (by decide) rfl (hw zw_623) (fun _ h9 => h9) d_Mod_confirm_92 (by rw [r24]) ?_
                    refine lv_iload hx hb d_Mod_confirm_95 (lv_at hl 5 rfl) ?_
                    refine lv_iconst (v := nI 0) hx hb d_Mod_confirm_97 (by decide) ?_
                    refine zr_asti (j := i) (y := nI 0) hx hb hK hH hS k24 rfl (by rw [n24]; exact zh_ix_n (by omega) (by omega)) d_Mod_confirm_98 (fun H locs hH hS => ?_)
                    have hm := zoR_I hm 24 (by decide) i (nI 0)
                    generalize zu I16 (ad 24) i (nI 0) = I17 at hm hH
                    refine lv_iinc (k := 5) (v := nI (i + 1)) (lv' := [(5, .int (nI (i + 1))), (4, .int (nI (zo_cm m9 k a b i + 0))), (0, .ref X), (1, .int (nI k)), (2, .int a), (3, .int b)]) hx hb d_Mod_confirm_99 hl rfl (nI_add i 1) (by decide) rfl (fun ls hl => ?_)
                    refine lv_goto (tgt := 22) hx hb d_Mod_confirm_102 (by decide) ?_
                    have e18 : zo_cm m9 k a b (i + 1) = zo_cm m9 k a b i + 0 := by rw [zo_cm, if_pos hc6, if_neg hc8, if_neg hc10, if_neg hc12]
                    have hl : lv_has ls 6 [(5, .int (nI (i + 1))), (4, .int (nI (zo_cm m9 k a b (i + 1)))), (0, .ref X), (1, .int (nI k)), (2, .int a), (3, .int b)] := by rw [e18]; exact hl
                    rw [zo_cfI_s (by rw [zo_cf, if_pos hc6, if_neg hc8, if_neg hc10]) (by rw [zo_ca, if_pos hc6, if_neg hc8, if_neg hc10])] at hm
                    exact ih_22 (i + 1) _ _ _ _ _ (by omega) (by omega) hm (lv_sub hl [2, 3, 4, 5, 1, 0] rfl) hH hS
      rw [← zo_cfI_0 m9 k a b] at hm
      exact loop_22 _ 0 _ _ _ _ _ (Nat.lt_succ_self _) (by omega) hm (lv_sub hl [2, 3, 4, 5, 1, 0] rfl) hH hS
    · skip
      have hc3 : b < a := Int32.not_le.mp hc3
      first | exact absurd hc3 hab | exact absurd hc3 (by rw [zo_made_n hk4, if_neg hmd]; decide)
