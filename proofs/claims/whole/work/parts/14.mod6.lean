/-- behind free: k's first page g is gone, c the number of pages ahead of it -/
def zo_frI (m9 : Nat → Nat → Int32) (k c g : Nat) : Nat → Nat → Int32 := va_up (zu (va_up (zu m9 12 k (nI (c - 1))) 14 (zo_sh (m9 14) (40 * k) (c - 1))) 15 g (nI 0)) 16 (zo_map (m9 16) (zo_rm m9 k g) 280)
def zo_pg (m9 : Nat → Nat → Int32) (k : Nat) : Nat := (m9 14 (40 * k)).toNatClampNeg
def zo_fr (k c : Nat) (z : (Nat → Nat → Int32) × (Nat → Nat → Int64)) : (Nat → Nat → Int32) × (Nat → Nat → Int64) := (zo_frI z.1 k c (zo_pg z.1 k), zb_wr 0 (zo_pg z.1 k) 0 z.2)
def zo_dr (k : Nat) : Nat → (Nat → Nat → Int32) × (Nat → Nat → Int64) → (Nat → Nat → Int32) × (Nat → Nat → Int64)
  | 0, z => z
  | c + 1, z => zo_dr k c (zo_fr k (c + 1) z)
theorem zo_dr_s {k c : Nat} {z : (Nat → Nat → Int32) × (Nat → Nat → Int64)} (h : 1 ≤ c) : zo_dr k c z = zo_dr k (c - 1) (zo_fr k c z) := by
  obtain ⟨n, rfl⟩ : ∃ n, c = n + 1 := ⟨c - 1, by omega⟩
  rfl
/-- the pages of store k's chain are pages -/
def zo_pgs (m9 : Nat → Nat → Int32) (k c : Nat) : Prop := m9 12 k = nI c ∧ c ≤ 40 ∧ ∀ i, i < c → ∃ g, g < 40 ∧ m9 14 (40 * k + i) = nI g
theorem zo_pgs_0 {m9 : Nat → Nat → Int32} {k c : Nat} (h : zo_pgs m9 k c) (hc : 1 ≤ c) : m9 14 (40 * k) = nI (zo_pg m9 k) ∧ zo_pg m9 k < 40 := by
  obtain ⟨g, hg, e⟩ := h.2.2 0 (by omega)
  rw [Nat.add_zero] at e
  unfold zo_pg
  rw [e, nI_clamp (by omega)]
  exact ⟨rfl, hg⟩
theorem zo_frI_14 {m9 : Nat → Nat → Int32} {k c g : Nat} : zo_frI m9 k c g 14 = zo_sh (m9 14) (40 * k) (c - 1) := by
  unfold zo_frI
  rw [va_up_ne _ _ (show (14 : Nat) ≠ 16 by decide), zu_ne _ _ _ (show (14 : Nat) ≠ 15 by decide), va_up_self]
theorem zo_frI_12 {m9 : Nat → Nat → Int32} {k c g : Nat} : zo_frI m9 k c g 12 k = nI (c - 1) := by
  unfold zo_frI
  rw [va_up_ne _ _ (show (12 : Nat) ≠ 16 by decide), zu_ne _ _ _ (show (12 : Nat) ≠ 15 by decide), va_up_ne _ _ (show (12 : Nat) ≠ 14 by decide), zu_self]
theorem zo_pgs_fr {m9 : Nat → Nat → Int32} {k c g : Nat} (h : zo_pgs m9 k c) : zo_pgs (zo_frI m9 k c g) k (c - 1) := by
  refine ⟨zo_frI_12, by have := h.2.1; omega, fun i hi => ?_⟩
  obtain ⟨g1, h1, e1⟩ := h.2.2 (i + 1) (by omega)
  refine ⟨g1, h1, ?_⟩
  rw [zo_frI_14]
  unfold zo_sh
  rw [if_pos (by omega)]
  exact e1
def zo_cl (m9 : Nat → Nat → Int32) (k : Nat) (s : Nat) : Int32 := if m9 27 s = nI k then (-1) else m9 27 s
def zo_dsI (m9 : Nat → Nat → Int32) (k : Nat) : Nat → Nat → Int32 := zo_svI (va_up (zu m9 7 k (nI 0)) 27 (zo_map (m9 27) (zo_cl m9 k) 4))
/-- may store k's first page go: of the packets below n -/
def zo_mr (m9 : Nat → Nat → Int32) (k : Nat) : Nat → Nat
  | 0 => 1
  | n + 1 => if zo_mr m9 k n = 0 then 0 else if m9 16 n = nI k then (if m9 21 n = m9 14 (40 * k) then (if m9 22 n = nI 0 then 0 else 1) else 1) else 1
theorem zo_mr_le (m9 : Nat → Nat → Int32) (k : Nat) : ∀ n, zo_mr m9 k n ≤ 1
  | 0 => Nat.le_refl _
  | n + 1 => by
    rw [zo_mr]
    split
    · omega
    · split
      · split
        · split <;> omega
        · omega
      · omega
def zo_pr (k : Nat) : Nat → (Nat → Nat → Int32) × (Nat → Nat → Int64) → (Nat → Nat → Int32) × (Nat → Nat → Int64)
  | 0, z => z
  | c + 1, z => if c = 0 then z else if zo_mr z.1 k 280 = 0 then z else zo_pr k c (zo_fr k (c + 1) z)
theorem zo_pr_s {k c : Nat} {z : (Nat → Nat → Int32) × (Nat → Nat → Int64)} : zo_pr k c z = if c ≤ 1 then z else if zo_mr z.1 k 280 = 0 then z else zo_pr k (c - 1) (zo_fr k c z) := by
  rcases c with _ | n
  · rfl
  · rw [zo_pr]
    by_cases h : n = 0
    · rw [if_pos h, if_pos (by omega)]
    · rw [if_neg h, if_neg (show ¬ n + 1 ≤ 1 by omega)]
      rfl

set_option maxHeartbeats 4000000 in
set_option maxRecDepth 100000 in
/-- dropStore, of a store that is made -/
theorem c_Mod_dropStore {l : Launch} {D : va_G} {cA : Nat → ClassId} {te mi : Nat} {kd ln : Nat → Nat} {I : Nat → Nat → Int32} {L : Nat → Nat → Int64} {R : Nat → Nat → Option Nat} {X : Nat} {ad : Nat → Nat} {m9 : Nat → Nat → Int32} {q9 : Nat → Nat → Int64} (hm : zoR X ad m9 q9 kd ln I L R) {k cl : Nat} (hk4 : k < 4) (hmd : ¬ m9 7 k = nI 0) (hpgs : zo_pgs m9 k cl) : zc_M l y_Mod_dropStore w_Mod_dropStore { frames := 3, cells := 0, slots := 0, locals := 67 } 0 0 D cA te mi ([.ref X, .int (nI k)] : List Value) kd ln I L R (zo_P (some (.int (nI 1))) X ad (zo_dsI (zo_dr k cl (m9, q9)).1 k) ((zo_dr k cl (m9, q9)).2) kd ln R) := by
  intro sz
  refine Met.ofW (cc := b_Mod_dropStore) (maxL := 3) (ret := (some (.boolean))) (by decide +kernel) rfl ?_
  intro p e s m args below meth c s₁ B hml hv
  obtain ⟨rfl, hsz, hSc, hE, hH⟩ := hv
  have hx := B.exec
  have hb := B.bytes
  have hr := B.returns
  have hts := atoms_spec (ws := w_Mod_dropStore) B.pre
  have hw : ∀ {w : Cond}, w ∈ zw → w.before ([.ref X, .int (nI k)] : List Value).toArray s = true := fun h => hts _ (List.mem_cons_of_mem _ h)
  have hown : s.vm.findClass R_Mod = some m.cls := findClass_of_methodNamed B.named
  have hlocks := B.notSynchronized
  subst hsz
  have hK := hSc.1
  have hH : zh_H D cA (zc_A kd s.heap.size) kd ln I L R s.heap := hH.weaken (fun q h _ => Or.inl h)
  generalize hAe : zc_A kd s.heap.size = A at hH hE ⊢
  have hA : ∀ q : Nat, s.heap.size ≤ q → A q := fun q h => by rw [← hAe]; exact Or.inr h
  have hS : va_S A s.heap s.heap [] := va_S.rf
  have hl := lv_entry ([.ref X, .int (nI k)] : List Value) (n := 3) (Nat.le_of_ble_eq_true rfl)
  rw [lg_entry_eq]
  generalize (lg_sl ([.ref X, .int (nI k)] : List Value) ++ List.replicate (3 - (lg_sl ([.ref X, .int (nI k)] : List Value)).length) Slot.unset).toArray = ls at hl ⊢
  have hl : lv_has ls 3 [(0, .ref X), (1, .int (nI k))] := hl
  have k7 : kd (ad 7) = 103 := (hm.1.2.1 7 (by decide) (by decide)).2.1
  have n7 : ln (ad 7) = 4 := (hm.1.2.1 7 (by decide) (by decide)).2.2
  have r7 : R X 7 = some (ad 7) := (hm.1.2.1 7 (by decide) (by decide)).1
  have k12 : kd (ad 12) = 100 := (hm.1.2.1 12 (by decide) (by decide)).2.1
  have n12 : ln (ad 12) = 4 := (hm.1.2.1 12 (by decide) (by decide)).2.2
  have r12 : R X 12 = some (ad 12) := (hm.1.2.1 12 (by decide) (by decide)).1
  have k27 : kd (ad 27) = 100 := (hm.1.2.1 27 (by decide) (by decide)).2.1
  have n27 : ln (ad 27) = 4 := (hm.1.2.1 27 (by decide) (by decide)).2.2
  have r27 : R X 27 = some (ad 27) := (hm.1.2.1 27 (by decide) (by decide)).1
  refine lv_aload_n hx hb d_Mod_dropStore_0 rfl (lv_at hl 0 rfl) ?_
  refine lv_iload_n hx hb d_Mod_dropStore_1 rfl (lv_at hl 1 rfl) ?_
  refine zr_V (As := ([.int (nI k)] : List Value)) (rest := []) (b := X) (ci := 6) (q := (R_Mod, T_Mod, 37)) ⟨hx, hb, hml, hown, hts⟩ (c_Mod_isMade hm ) ⟨(callB_of 1 hts (zg_all zw_757) rfl rfl rfl (hw zw_3) (hw zw_754) k_Mod_isMade.2 ⟨Nat.le_of_ble_eq_true rfl, Nat.le_of_ble_eq_true rfl⟩), (hw zw_756), (hw zs_Mod_isMade)⟩ hSc hE hH hS hA rfl (by decide) hm.1.1 rfl hl.1 rfl (Nat.le_of_ble_eq_true rfl) d_Mod_dropStore_2 ⟨Nat.le_of_ble_eq_true rfl, Nat.le_of_ble_eq_true rfl⟩ (fun v1 kd1 ln1 I1 L1 R1 H locs hp hH hS => ?_)
  obtain ⟨rfl, rfl, rfl, rfl, hm⟩ := hp
  refine W.eq (g2 := F0 m 5 ls [.int (zo_made (m9 7) (nI k))]) rfl ?_
  refine W.widen (k := 0) (n := 0) (by omega) (by omega) ?_
  refine lv_if_ne (tgt := 10) hx hb d_Mod_dropStore_5 (by decide) (fun hc2 => ?_) (fun hc2 => ?_)
  · skip
    have hc2 : ¬ (zo_made (m9 7) (nI k)) = (nI 0) := hc2
    have loop_10 : ∀ (z : Nat) (c9 : Nat) (M1 : Nat → Nat → Int32) (Q1 : Nat → Nat → Int64) (I_10 : Nat → Nat → Int32) (L_10 : Nat → Nat → Int64) (H : Heap) (locs : List Loc) (ls : Array Slot), c9 < z → (zo_pgs M1 k c9) → (zo_dr k c9 (M1, Q1) = (zo_dr k cl (m9, q9))) → (zoR X ad M1 Q1 kd ln I_10 L_10 R) → lv_has ls 3 [(0, .ref X), (1, .int (nI k))] → zh_H D cA A kd ln I_10 L_10 R H → va_S A s.heap H locs → W p l e (headSpec w_Mod_dropStore { frames := 3, cells := 0, slots := 0, locals := 67 }).room s m ([.ref X, .int (nI k)] : List Value).toArray below meth c H locs 0 0 (MQ below (zc_Qc D cA A (zo_P (some (.int (nI 1))) X ad (zo_dsI (zo_dr k cl (m9, q9)).1 k) ((zo_dr k cl (m9, q9)).2) kd ln R)) ([.ref X, .int (nI k)] : List Value).toArray s 0 0 A) (F0 m 10 ls []) := by
      intro z
      induction z with
      | zero => intro c9 M1 Q1 I_10 L_10 H locs ls hz; exact absurd hz (Nat.not_lt_zero _)
      | succ z ih_10 =>
        intro c9 M1 Q1 I_10 L_10 H locs ls hz_10 hpg9 hdr hm hl hH hS
        have hc40 := hpg9.2.1
        refine lv_aload_n hx hb d_Mod_dropStore_10 rfl (lv_at hl 0 rfl) ?_
        refine zr_getr (ci := 6) (C := R_Mod) (T := T_Mod) (N := 37) (ref := "ScrubbedRecorderModel") hx hb hts (fun w h => List.mem_cons_of_mem _ (zin_Mod w h)) hown hK hH hm.1.1 (by decide) rfl 12 (by decide) rfl (hw zw_611) (fun _ h9 => h9) d_Mod_dropStore_11 (by rw [r12]) ?_
        refine lv_iload_n hx hb d_Mod_dropStore_14 rfl (lv_at hl 1 rfl) ?_
        refine zr_aldi (j := k) hx hb hK hH k12 (by rw [n12]; exact zh_ix_n (by omega) (by omega)) d_Mod_dropStore_15 ?_
        refine zt_i (y := nI c9) ((congrFun (hm.2.1 12 (by decide) (by decide) (by decide)) k).trans (by rw [hpg9.1])) ?_
        refine lv_if_le (tgt := 27) hx hb d_Mod_dropStore_16 (by decide) (fun hc3 => ?_) (fun hc3 => ?_)
        · skip
          have hc3 := zt_leT (a := c9) (b := 0) (by omega) (by omega) hc3
          refine lv_aload_n hx hb d_Mod_dropStore_27 rfl (lv_at hl 0 rfl) ?_
          refine zr_getr (ci := 6) (C := R_Mod) (T := T_Mod) (N := 37) (ref := "ScrubbedRecorderModel") hx hb hts (fun w h => List.mem_cons_of_mem _ (zin_Mod w h)) hown hK hH hm.1.1 (by decide) rfl 7 (by decide) rfl (hw zw_606) (fun _ h9 => h9) d_Mod_dropStore_28 (by rw [r7]) ?_
          refine lv_iload_n hx hb d_Mod_dropStore_31 rfl (lv_at hl 1 rfl) ?_
          refine lv_iconst (v := nI 0) hx hb d_Mod_dropStore_32 (by decide) ?_
          refine zr_astz (j := k) (y := nI 0) hx hb hK hH hS k7 (by decide +kernel) (by rw [n7]; exact zh_ix_n (by omega) (by omega)) d_Mod_dropStore_33 (fun H locs hH hS => ?_)
          have hm := zoR_I hm 7 (by decide) k (nI 0)
          generalize zu I_10 (ad 7) k (nI 0) = I4 at hm hH
          refine lv_iconst (v := nI 0) hx hb d_Mod_dropStore_34 (by decide) ?_
          refine lv_istore_n (lv' := [(2, .int (nI 0)), (0, .ref X), (1, .int (nI k))]) hx hb d_Mod_dropStore_35 rfl hl (by decide) rfl (fun ls hl => ?_)
          have hz9 : (zo_dr k cl (m9, q9)) = (M1, Q1) := by rw [← hdr, show c9 = 0 by omega]; rfl
          have loop_36 : ∀ (z : Nat) (s9 : Nat) (I_36 : Nat → Nat → Int32) (L_36 : Nat → Nat → Int64) (H : Heap) (locs : List Loc) (ls : Array Slot), 4 - s9 < z → (s9 ≤ 4) → (zoR X ad (va_up (zu M1 7 k (nI 0)) 27 (zo_map (M1 27) (zo_cl M1 k) s9)) Q1 kd ln I_36 L_36 R) → lv_has ls 3 [(0, .ref X), (1, .int (nI k)), (2, .int (nI s9))] → zh_H D cA A kd ln I_36 L_36 R H → va_S A s.heap H locs → W p l e (headSpec w_Mod_dropStore { frames := 3, cells := 0, slots := 0, locals := 67 }).room s m ([.ref X, .int (nI k)] : List Value).toArray below meth c H locs 0 0 (MQ below (zc_Qc D cA A (zo_P (some (.int (nI 1))) X ad (zo_dsI (zo_dr k cl (m9, q9)).1 k) ((zo_dr k cl (m9, q9)).2) kd ln R)) ([.ref X, .int (nI k)] : List Value).toArray s 0 0 A) (F0 m 36 ls []) := by
            intro z
            induction z with
            | zero => intro s9 I_36 L_36 H locs ls hz; exact absurd hz (Nat.not_lt_zero _)
            | succ z ih_36 =>
              intro s9 I_36 L_36 H locs ls hz_36 hs9 hm hl hH hS
              refine lv_iload_n hx hb d_Mod_dropStore_36 rfl (lv_at hl 2 rfl) ?_
              refine lv_iconst (v := nI 4) hx hb d_Mod_dropStore_37 (by decide) ?_
              refine lv_icmp_ge (tgt := 73) hx hb d_Mod_dropStore_38 (by decide) (fun hc5 => ?_) (fun hc5 => ?_)
              · skip
                have hc5 := zt_geT (a := s9) (b := 4) (by omega) (by omega) hc5
                refine lv_aload_n hx hb d_Mod_dropStore_73 rfl (lv_at hl 0 rfl) ?_
                refine zr_V (As := ([] : List Value)) (rest := []) (b := X) (ci := 6) (q := (R_Mod, T_Mod, 37)) ⟨hx, hb, hml, hown, hts⟩ (c_Mod_save hm ) ⟨(callB_of 0 hts (zg_all zw_749) rfl rfl rfl (hw zw_3) (hw zw_746) k_Mod_save.2 ⟨Nat.le_of_ble_eq_true rfl, Nat.le_of_ble_eq_true rfl⟩), (hw zw_748), (hw zs_Mod_save)⟩ hSc hE hH hS hA rfl (by decide) hm.1.1 rfl hl.1 rfl (Nat.le_of_ble_eq_true rfl) d_Mod_dropStore_74 ⟨Nat.le_of_ble_eq_true rfl, Nat.le_of_ble_eq_true rfl⟩ (fun v6 kd6 ln6 I6 L6 R6 H locs hp hH hS => ?_)
                obtain ⟨rfl, rfl, rfl, rfl, hm⟩ := hp
                refine W.eq (g2 := F0 m 77 ls []) rfl ?_
                refine W.widen (k := 0) (n := 0) (by omega) (by omega) ?_
                refine lv_iconst (v := nI 1) hx hb d_Mod_dropStore_77 (by decide) ?_
                refine W.widen (k := 0) (n := 0) (Nat.le_of_ble_eq_true rfl) (Nat.le_of_ble_eq_true rfl) ?_
                subst hAe
                exact W.zret (v := nI 1) hx hb hr (by decide +kernel) (fun t ht hW => zc_end hS hH ht (⟨rfl, rfl, rfl, rfl, by rw [hz9]; rw [show s9 = 4 by omega] at hm; exact hm⟩)) hS.2.2 d_Mod_dropStore_78
              · skip
                have hc5 := zt_geF (a := s9) (b := 4) (by omega) (by omega) hc5
                refine lv_aload_n hx hb d_Mod_dropStore_41 rfl (lv_at hl 0 rfl) ?_
                refine zr_getr (ci := 6) (C := R_Mod) (T := T_Mod) (N := 37) (ref := "ScrubbedRecorderModel") hx hb hts (fun w h => List.mem_cons_of_mem _ (zin_Mod w h)) hown hK hH hm.1.1 (by decide) rfl 27 (by decide) rfl (hw zw_626) (fun _ h9 => h9) d_Mod_dropStore_42 (by rw [r27]) ?_
                refine lv_iload_n hx hb d_Mod_dropStore_45 rfl (lv_at hl 2 rfl) ?_
                refine lv_aload_n hx hb d_Mod_dropStore_46 rfl (lv_at hl 0 rfl) ?_
                refine zr_getr (ci := 6) (C := R_Mod) (T := T_Mod) (N := 37) (ref := "ScrubbedRecorderModel") hx hb hts (fun w h => List.mem_cons_of_mem _ (zin_Mod w h)) hown hK hH hm.1.1 (by decide) rfl 27 (by decide) rfl (hw zw_626) (fun _ h9 => h9) d_Mod_dropStore_47 (by rw [r27]) ?_
                refine lv_iload_n hx hb d_Mod_dropStore_50 rfl (lv_at hl 2 rfl) ?_
                refine zr_aldi (j := s9) hx hb hK hH k27 (by rw [n27]; exact zh_ix_n (by omega) (by omega)) d_Mod_dropStore_51 ?_
                refine zt_i (y := M1 27 s9) ((congrFun (hm.2.1 27 (by decide) (by decide) (by decide)) s9).trans (by rw [va_up_self, zo_map_at _ _ _])) ?_
                refine lv_iload_n hx hb d_Mod_dropStore_52 rfl (lv_at hl 1 rfl) ?_
                refine lv_icmp_ne (tgt := 60) hx hb d_Mod_dropStore_53 (by decide) (fun hc7 => ?_) (fun hc7 => ?_)
                · skip
                  have hc7 : ¬ (M1 27 s9) = (nI k) := hc7
                  refine lv_aload_n hx hb d_Mod_dropStore_60 rfl (lv_at hl 0 rfl) ?_
                  refine zr_getr (ci := 6) (C := R_Mod) (T := T_Mod) (N := 37) (ref := "ScrubbedRecorderModel") hx hb hts (fun w h => List.mem_cons_of_mem _ (zin_Mod w h)) hown hK hH hm.1.1 (by decide) rfl 27 (by decide) rfl (hw zw_626) (fun _ h9 => h9) d_Mod_dropStore_61 (by rw [r27]) ?_
                  refine lv_iload_n hx hb d_Mod_dropStore_64 rfl (lv_at hl 2 rfl) ?_
                  refine zr_aldi (j := s9) hx hb hK hH k27 (by rw [n27]; exact zh_ix_n (by omega) (by omega)) d_Mod_dropStore_65 ?_
                  refine zt_i (y := M1 27 s9) ((congrFun (hm.2.1 27 (by decide) (by decide) (by decide)) s9).trans (by rw [va_up_self, zo_map_at _ _ _])) ?_
                  refine zr_asti (j := s9) (y := M1 27 s9) hx hb hK hH hS k27 rfl (by rw [n27]; exact zh_ix_n (by omega) (by omega)) d_Mod_dropStore_66 (fun H locs hH hS => ?_)
                  have hm := zoR_I hm 27 (by decide) s9 (M1 27 s9)
                  generalize zu I_36 (ad 27) s9 (M1 27 s9) = I8 at hm hH
                  refine lv_iinc (k := 2) (v := nI (s9 + 1)) (lv' := [(2, .int (nI (s9 + 1))), (0, .ref X), (1, .int (nI k))]) hx hb d_Mod_dropStore_67 hl rfl (nI_add s9 1) (by decide) rfl (fun ls hl => ?_)
                  refine lv_goto (tgt := 36) hx hb d_Mod_dropStore_70 (by decide) ?_
                  have hm : zoR X ad (zu (va_up (zu M1 7 k (nI 0)) 27 (zo_map (M1 27) (zo_cl M1 k) s9)) 27 s9 (zo_cl M1 k s9)) Q1 kd ln I8 L_36 R := by rw [zo_cl, if_neg hc7]; exact hm
                  rw [zo_map_s] at hm
                  exact ih_36 (s9 + 1) _ _ _ _ _ (by omega) (by omega) hm (lv_sub hl [1, 2, 0] rfl) hH hS
                · skip
                  have hc7 : (M1 27 s9) = (nI k) := hc7
                  refine lv_iconst (v := (-1)) hx hb d_Mod_dropStore_56 (by decide) ?_
                  refine lv_goto (tgt := 66) hx hb d_Mod_dropStore_57 (by decide) ?_
                  refine zr_asti (j := s9) (y := (-1)) hx hb hK hH hS k27 rfl (by rw [n27]; exact zh_ix_n (by omega) (by omega)) d_Mod_dropStore_66 (fun H locs hH hS => ?_)
                  have hm := zoR_I hm 27 (by decide) s9 (-1)
                  generalize zu I_36 (ad 27) s9 (-1) = I9 at hm hH
                  refine lv_iinc (k := 2) (v := nI (s9 + 1)) (lv' := [(2, .int (nI (s9 + 1))), (0, .ref X), (1, .int (nI k))]) hx hb d_Mod_dropStore_67 hl rfl (nI_add s9 1) (by decide) rfl (fun ls hl => ?_)
                  refine lv_goto (tgt := 36) hx hb d_Mod_dropStore_70 (by decide) ?_
                  have hm : zoR X ad (zu (va_up (zu M1 7 k (nI 0)) 27 (zo_map (M1 27) (zo_cl M1 k) s9)) 27 s9 (zo_cl M1 k s9)) Q1 kd ln I9 L_36 R := by rw [zo_cl, if_pos hc7]; exact hm
                  rw [zo_map_s] at hm
                  exact ih_36 (s9 + 1) _ _ _ _ _ (by omega) (by omega) hm (lv_sub hl [1, 2, 0] rfl) hH hS
          have emp := zo_map_0 (zu M1 7 k (nI 0)) 27 (zo_cl M1 k)
          rw [zu_ne _ _ _ (show (27 : Nat) ≠ 7 by decide)] at emp
          rw [← emp] at hm
          exact loop_36 _ 0 _ _ _ _ _ (Nat.lt_succ_self _) (by omega) hm (lv_sub hl [1, 2, 0] rfl) hH hS
        · skip
          have hc3 := zt_leF (a := c9) (b := 0) (by omega) (by omega) hc3
          refine lv_aload_n hx hb d_Mod_dropStore_19 rfl (lv_at hl 0 rfl) ?_
          refine lv_iload_n hx hb d_Mod_dropStore_20 rfl (lv_at hl 1 rfl) ?_
          refine zr_V (As := ([.int (nI k)] : List Value)) (rest := []) (b := X) (ci := 6) (q := (R_Mod, T_Mod, 37)) ⟨hx, hb, hml, hown, hts⟩ (c_Mod_free hm (by omega) hpg9.1 (by omega) hpg9.2.1 (zo_pgs_0 hpg9 (by omega)).1 (zo_pgs_0 hpg9 (by omega)).2) ⟨(callB_of 1 hts (zg_all zw_761) rfl rfl rfl (hw zw_3) (hw zw_758) k_Mod_free.2 ⟨Nat.le_of_ble_eq_true rfl, Nat.le_of_ble_eq_true rfl⟩), (hw zw_760), (hw zs_Mod_free)⟩ hSc hE hH hS hA rfl (by decide) hm.1.1 rfl hl.1 rfl (Nat.le_of_ble_eq_true rfl) d_Mod_dropStore_21 ⟨Nat.le_of_ble_eq_true rfl, Nat.le_of_ble_eq_true rfl⟩ (fun v10 kd10 ln10 I10 L10 R10 H locs hp hH hS => ?_)
          obtain ⟨rfl, rfl, rfl, rfl, hm⟩ := hp
          refine W.eq (g2 := F0 m 24 ls []) rfl ?_
          refine W.widen (k := 0) (n := 0) (by omega) (by omega) ?_
          have hm : zoR X ad (zo_frI M1 k c9 (zo_pg M1 k)) (zb_wr 0 (zo_pg M1 k) 0 Q1) kd ln I10 L10 R := hm
          refine lv_goto (tgt := 10) hx hb d_Mod_dropStore_24 (by decide) ?_
          exact ih_10 (c9 - 1) (zo_frI M1 k c9 (zo_pg M1 k)) (zb_wr 0 (zo_pg M1 k) 0 Q1) _ _ _ _ _ (by omega) (zo_pgs_fr hpg9) (by rw [← hdr, zo_dr_s (c := c9) (by omega)]; rfl) hm (lv_sub hl [0, 1] rfl) hH hS
    exact loop_10 _ cl m9 q9 _ _ _ _ _ (Nat.lt_succ_self _) hpgs rfl hm (lv_sub hl [0, 1] rfl) hH hS
  · skip
    have hc2 : (zo_made (m9 7) (nI k)) = (nI 0) := hc2
    exact absurd hc2 (by rw [zo_made_n hk4, if_neg hmd]; decide)

set_option maxHeartbeats 4000000 in
set_option maxRecDepth 100000 in
/-- dropStore, of another -/
theorem c_Mod_dropStore_B {l : Launch} {D : va_G} {cA : Nat → ClassId} {te mi : Nat} {kd ln : Nat → Nat} {I : Nat → Nat → Int32} {L : Nat → Nat → Int64} {R : Nat → Nat → Option Nat} {X : Nat} {ad : Nat → Nat} {m9 : Nat → Nat → Int32} {q9 : Nat → Nat → Int64} (hm : zoR X ad m9 q9 kd ln I L R) {x : Int32} (hmd : zo_made (m9 7) x = nI 0) : zc_M l y_Mod_dropStore w_Mod_dropStore { frames := 3, cells := 0, slots := 0, locals := 67 } 0 0 D cA te mi ([.ref X, .int x] : List Value) kd ln I L R (zo_P (some (.int (nI 0))) X ad m9 q9 kd ln R) := by
  intro sz
  refine Met.ofW (cc := b_Mod_dropStore) (maxL := 3) (ret := (some (.boolean))) (by decide +kernel) rfl ?_
  intro p e s m args below meth c s₁ B hml hv
  obtain ⟨rfl, hsz, hSc, hE, hH⟩ := hv
  have hx := B.exec
  have hb := B.bytes
  have hr := B.returns
  have hts := atoms_spec (ws := w_Mod_dropStore) B.pre
  have hw : ∀ {w : Cond}, w ∈ zw → w.before ([.ref X, .int x] : List Value).toArray s = true := fun h => hts _ (List.mem_cons_of_mem _ h)
  have hown : s.vm.findClass R_Mod = some m.cls := findClass_of_methodNamed B.named
  have hlocks := B.notSynchronized
  subst hsz
  have hK := hSc.1
  have hH : zh_H D cA (zc_A kd s.heap.size) kd ln I L R s.heap := hH.weaken (fun q h _ => Or.inl h)
  generalize hAe : zc_A kd s.heap.size = A at hH hE ⊢
  have hA : ∀ q : Nat, s.heap.size ≤ q → A q := fun q h => by rw [← hAe]; exact Or.inr h
  have hS : va_S A s.heap s.heap [] := va_S.rf
  have hl := lv_entry ([.ref X, .int x] : List Value) (n := 3) (Nat.le_of_ble_eq_true rfl)
  rw [lg_entry_eq]
  generalize (lg_sl ([.ref X, .int x] : List Value) ++ List.replicate (3 - (lg_sl ([.ref X, .int x] : List Value)).length) Slot.unset).toArray = ls at hl ⊢
  have hl : lv_has ls 3 [(0, .ref X), (1, .int x)] := hl
  have k7 : kd (ad 7) = 103 := (hm.1.2.1 7 (by decide) (by decide)).2.1
  have n7 : ln (ad 7) = 4 := (hm.1.2.1 7 (by decide) (by decide)).2.2
  have r7 : R X 7 = some (ad 7) := (hm.1.2.1 7 (by decide) (by decide)).1
  have k12 : kd (ad 12) = 100 := (hm.1.2.1 12 (by decide) (by decide)).2.1
  have n12 : ln (ad 12) = 4 := (hm.1.2.1 12 (by decide) (by decide)).2.2
  have r12 : R X 12 = some (ad 12) := (hm.1.2.1 12 (by decide) (by decide)).1
  have k27 : kd (ad 27) = 100 := (hm.1.2.1 27 (by decide) (by decide)).2.1
  have n27 : ln (ad 27) = 4 := (hm.1.2.1 27 (by decide) (by decide)).2.2
  have r27 : R X 27 = some (ad 27) := (hm.1.2.1 27 (by decide) (by decide)).1
  refine lv_aload_n hx hb d_Mod_dropStore_0 rfl (lv_at hl 0 rfl) ?_
  refine lv_iload_n hx hb d_Mod_dropStore_1 rfl (lv_at hl 1 rfl) ?_
  refine zr_V (As := ([.int x] : List Value)) (rest := []) (b := X) (ci := 6) (q := (R_Mod, T_Mod, 37)) ⟨hx, hb, hml, hown, hts⟩ (c_Mod_isMade hm ) ⟨(callB_of 1 hts (zg_all zw_757) rfl rfl rfl (hw zw_3) (hw zw_754) k_Mod_isMade.2 ⟨Nat.le_of_ble_eq_true rfl, Nat.le_of_ble_eq_true rfl⟩), (hw zw_756), (hw zs_Mod_isMade)⟩ hSc hE hH hS hA rfl (by decide) hm.1.1 rfl hl.1 rfl (Nat.le_of_ble_eq_true rfl) d_Mod_dropStore_2 ⟨Nat.le_of_ble_eq_true rfl, Nat.le_of_ble_eq_true rfl⟩ (fun v1 kd1 ln1 I1 L1 R1 H locs hp hH hS => ?_)
  obtain ⟨rfl, rfl, rfl, rfl, hm⟩ := hp
  refine W.eq (g2 := F0 m 5 ls [.int (zo_made (m9 7) x)]) rfl ?_
  refine W.widen (k := 0) (n := 0) (by omega) (by omega) ?_
  refine lv_if_ne (tgt := 10) hx hb d_Mod_dropStore_5 (by decide) (fun hc2 => ?_) (fun hc2 => ?_)
  · skip
    have hc2 : ¬ (zo_made (m9 7) x) = (nI 0) := hc2
    exact absurd hmd hc2
  · skip
    have hc2 : (zo_made (m9 7) x) = (nI 0) := hc2
    refine lv_iconst (v := nI 0) hx hb d_Mod_dropStore_8 (by decide) ?_
    refine W.widen (k := 0) (n := 0) (Nat.le_of_ble_eq_true rfl) (Nat.le_of_ble_eq_true rfl) ?_
    subst hAe
    exact W.zret (v := nI 0) hx hb hr (by decide +kernel) (fun t ht hW => zc_end hS hH ht (⟨rfl, rfl, rfl, rfl, hm⟩)) hS.2.2 d_Mod_dropStore_9

set_option maxHeartbeats 4000000 in
set_option maxRecDepth 100000 in
/-- prune -/
theorem c_Mod_prune {l : Launch} {D : va_G} {cA : Nat → ClassId} {te mi : Nat} {kd ln : Nat → Nat} {I : Nat → Nat → Int32} {L : Nat → Nat → Int64} {R : Nat → Nat → Option Nat} {X : Nat} {ad : Nat → Nat} {m9 : Nat → Nat → Int32} {q9 : Nat → Nat → Int64} (hm : zoR X ad m9 q9 kd ln I L R) {k cl : Nat} (hk4 : k < 4) (hpgs : zo_pgs m9 k cl) : zc_M l y_Mod_prune w_Mod_prune { frames := 3, cells := 0, slots := 0, locals := 67 } 0 0 D cA te mi ([.ref X, .int (nI k)] : List Value) kd ln I L R (zo_P none X ad ((if m9 8 k = nI 0 then zo_pr k cl (m9, q9) else (m9, q9)).1) ((if m9 8 k = nI 0 then zo_pr k cl (m9, q9) else (m9, q9)).2) kd ln R) := by
  intro sz
  refine Met.ofW (cc := b_Mod_prune) (maxL := 4) (ret := none) (by decide +kernel) rfl ?_
  intro p e s m args below meth c s₁ B hml hv
  obtain ⟨rfl, hsz, hSc, hE, hH⟩ := hv
  have hx := B.exec
  have hb := B.bytes
  have hr := B.returns
  have hts := atoms_spec (ws := w_Mod_prune) B.pre
  have hw : ∀ {w : Cond}, w ∈ zw → w.before ([.ref X, .int (nI k)] : List Value).toArray s = true := fun h => hts _ (List.mem_cons_of_mem _ h)
  have hown : s.vm.findClass R_Mod = some m.cls := findClass_of_methodNamed B.named
  have hlocks := B.notSynchronized
  subst hsz
  have hK := hSc.1
  have hH : zh_H D cA (zc_A kd s.heap.size) kd ln I L R s.heap := hH.weaken (fun q h _ => Or.inl h)
  generalize hAe : zc_A kd s.heap.size = A at hH hE ⊢
  have hA : ∀ q : Nat, s.heap.size ≤ q → A q := fun q h => by rw [← hAe]; exact Or.inr h
  have hS : va_S A s.heap s.heap [] := va_S.rf
  have hl := lv_entry ([.ref X, .int (nI k)] : List Value) (n := 4) (Nat.le_of_ble_eq_true rfl)
  rw [lg_entry_eq]
  generalize (lg_sl ([.ref X, .int (nI k)] : List Value) ++ List.replicate (4 - (lg_sl ([.ref X, .int (nI k)] : List Value)).length) Slot.unset).toArray = ls at hl ⊢
  have hl : lv_has ls 4 [(0, .ref X), (1, .int (nI k))] := hl
  have k8 : kd (ad 8) = 103 := (hm.1.2.1 8 (by decide) (by decide)).2.1
  have n8 : ln (ad 8) = 4 := (hm.1.2.1 8 (by decide) (by decide)).2.2
  have r8 : R X 8 = some (ad 8) := (hm.1.2.1 8 (by decide) (by decide)).1
  have k12 : kd (ad 12) = 100 := (hm.1.2.1 12 (by decide) (by decide)).2.1
  have n12 : ln (ad 12) = 4 := (hm.1.2.1 12 (by decide) (by decide)).2.2
  have r12 : R X 12 = some (ad 12) := (hm.1.2.1 12 (by decide) (by decide)).1
  have k14 : kd (ad 14) = 100 := (hm.1.2.1 14 (by decide) (by decide)).2.1
  have n14 : ln (ad 14) = 160 := (hm.1.2.1 14 (by decide) (by decide)).2.2
  have r14 : R X 14 = some (ad 14) := (hm.1.2.1 14 (by decide) (by decide)).1
  have k16 : kd (ad 16) = 100 := (hm.1.2.1 16 (by decide) (by decide)).2.1
  have n16 : ln (ad 16) = 280 := (hm.1.2.1 16 (by decide) (by decide)).2.2
  have r16 : R X 16 = some (ad 16) := (hm.1.2.1 16 (by decide) (by decide)).1
  have k21 : kd (ad 21) = 100 := (hm.1.2.1 21 (by decide) (by decide)).2.1
  have n21 : ln (ad 21) = 280 := (hm.1.2.1 21 (by decide) (by decide)).2.2
  have r21 : R X 21 = some (ad 21) := (hm.1.2.1 21 (by decide) (by decide)).1
  have k22 : kd (ad 22) = 103 := (hm.1.2.1 22 (by decide) (by decide)).2.1
  have n22 : ln (ad 22) = 280 := (hm.1.2.1 22 (by decide) (by decide)).2.2
  have r22 : R X 22 = some (ad 22) := (hm.1.2.1 22 (by decide) (by decide)).1
  refine lv_aload_n hx hb d_Mod_prune_0 rfl (lv_at hl 0 rfl) ?_
  refine zr_getr (ci := 6) (C := R_Mod) (T := T_Mod) (N := 37) (ref := "ScrubbedRecorderModel") hx hb hts (fun w h => List.mem_cons_of_mem _ (zin_Mod w h)) hown hK hH hm.1.1 (by decide) rfl 8 (by decide) rfl (hw zw_607) (fun _ h9 => h9) d_Mod_prune_1 (by rw [r8]) ?_
  refine lv_iload_n hx hb d_Mod_prune_4 rfl (lv_at hl 1 rfl) ?_
  refine zr_aldz (j := k) hx hb hK hH k8 (by rw [n8]; exact zh_ix_n (by omega) (by omega)) d_Mod_prune_5 ?_
  refine zt_i (y := m9 8 k) (congrFun (hm.2.1 8 (by decide) (by decide) (by decide)) k) ?_
  refine lv_if_ne (tgt := 13) hx hb d_Mod_prune_6 (by decide) (fun hc1 => ?_) (fun hc1 => ?_)
  · skip
    have hc1 : ¬ (m9 8 k) = (nI 0) := hc1
    refine lv_iconst (v := nI 0) hx hb d_Mod_prune_13 (by decide) ?_
    refine lv_istore_n (lv' := [(2, .int (nI 0)), (0, .ref X), (1, .int (nI k))]) hx hb d_Mod_prune_14 rfl hl (by decide) rfl (fun ls hl => ?_)
    refine lv_iload_n hx hb d_Mod_prune_15 rfl (lv_at hl 0 rfl) ?_
    refine lv_if_eq (tgt := 103) hx hb d_Mod_prune_16 (by decide) (fun hc2 => ?_) (fun hc2 => ?_)
    · skip
      have hc2 := zt_eqT (a := 0) (b := 0) (by omega) (by omega) hc2
      refine W.widen (k := 0) (n := 0) (Nat.le_of_ble_eq_true rfl) (Nat.le_of_ble_eq_true rfl) ?_
      subst hAe
      exact W.vret hx hb hr (fun t ht hW => zc_end hS hH ht (⟨rfl, rfl, rfl, rfl, by rw [if_neg hc1]; exact hm⟩)) hS.2.2 d_Mod_prune_103
    · skip
      have hc2 := zt_eqF (a := 0) (b := 0) (by omega) (by omega) hc2
      exact absurd hc2 (by omega)
  · skip
    have hc1 : (m9 8 k) = (nI 0) := hc1
    refine lv_iconst (v := nI 1) hx hb d_Mod_prune_9 (by decide) ?_
    refine lv_goto (tgt := 14) hx hb d_Mod_prune_10 (by decide) ?_
    refine lv_istore_n (lv' := [(2, .int (nI 1)), (0, .ref X), (1, .int (nI k))]) hx hb d_Mod_prune_14 rfl hl (by decide) rfl (fun ls hl => ?_)
    have loop_15 : ∀ (z : Nat) (c9 : Nat) (g9 : Nat) (M1 : Nat → Nat → Int32) (Q1 : Nat → Nat → Int64) (I_15 : Nat → Nat → Int32) (L_15 : Nat → Nat → Int64) (H : Heap) (locs : List Loc) (ls : Array Slot), 2 * c9 + g9 < z → (g9 ≤ 1) → (zo_pgs M1 k c9) → ((if g9 = 0 then (M1, Q1) else zo_pr k c9 (M1, Q1)) = zo_pr k cl (m9, q9)) → (zoR X ad M1 Q1 kd ln I_15 L_15 R) → lv_has ls 4 [(0, .ref X), (1, .int (nI k)), (2, .int (nI g9))] → zh_H D cA A kd ln I_15 L_15 R H → va_S A s.heap H locs → W p l e (headSpec w_Mod_prune { frames := 3, cells := 0, slots := 0, locals := 67 }).room s m ([.ref X, .int (nI k)] : List Value).toArray below meth c H locs 0 0 (MQ below (zc_Qc D cA A (zo_P none X ad ((if m9 8 k = nI 0 then zo_pr k cl (m9, q9) else (m9, q9)).1) ((if m9 8 k = nI 0 then zo_pr k cl (m9, q9) else (m9, q9)).2) kd ln R)) ([.ref X, .int (nI k)] : List Value).toArray s 0 0 A) (F0 m 15 ls []) := by
      intro z
      induction z with
      | zero => intro c9 g9 M1 Q1 I_15 L_15 H locs ls hz; exact absurd hz (Nat.not_lt_zero _)
      | succ z ih_15 =>
        intro c9 g9 M1 Q1 I_15 L_15 H locs ls hz_15 hg9 hpg9 hpr hm hl hH hS
        have hc40 := hpg9.2.1
        refine lv_iload_n hx hb d_Mod_prune_15 rfl (lv_at hl 2 rfl) ?_
        refine lv_if_eq (tgt := 103) hx hb d_Mod_prune_16 (by decide) (fun hc3 => ?_) (fun hc3 => ?_)
        · skip
          have hc3 := zt_eqT (a := g9) (b := 0) (by omega) (by omega) hc3
          have hz9 : zo_pr k cl (m9, q9) = (M1, Q1) := by rw [← hpr]; by_cases e : g9 = 0; rw [if_pos e]; rw [if_neg e, zo_pr_s, if_pos (by omega)]
          refine W.widen (k := 0) (n := 0) (Nat.le_of_ble_eq_true rfl) (Nat.le_of_ble_eq_true rfl) ?_
          subst hAe
          exact W.vret hx hb hr (fun t ht hW => zc_end hS hH ht (⟨rfl, rfl, rfl, rfl, by rw [if_pos hc1, hz9]; exact hm⟩)) hS.2.2 d_Mod_prune_103
        · skip
          have hc3 := zt_eqF (a := g9) (b := 0) (by omega) (by omega) hc3
          refine lv_aload_n hx hb d_Mod_prune_19 rfl (lv_at hl 0 rfl) ?_
          refine zr_getr (ci := 6) (C := R_Mod) (T := T_Mod) (N := 37) (ref := "ScrubbedRecorderModel") hx hb hts (fun w h => List.mem_cons_of_mem _ (zin_Mod w h)) hown hK hH hm.1.1 (by decide) rfl 12 (by decide) rfl (hw zw_611) (fun _ h9 => h9) d_Mod_prune_20 (by rw [r12]) ?_
          refine lv_iload_n hx hb d_Mod_prune_23 rfl (lv_at hl 1 rfl) ?_
          refine zr_aldi (j := k) hx hb hK hH k12 (by rw [n12]; exact zh_ix_n (by omega) (by omega)) d_Mod_prune_24 ?_
          refine zt_i (y := nI c9) ((congrFun (hm.2.1 12 (by decide) (by decide) (by decide)) k).trans (by rw [hpg9.1])) ?_
          refine lv_iconst (v := nI 1) hx hb d_Mod_prune_25 (by decide) ?_
          refine lv_icmp_le (tgt := 103) hx hb d_Mod_prune_26 (by decide) (fun hc4 => ?_) (fun hc4 => ?_)
          · skip
            have hc4 := zt_leT (a := c9) (b := 1) (by omega) (by omega) hc4
            have hz9 : zo_pr k cl (m9, q9) = (M1, Q1) := by rw [← hpr]; by_cases e : g9 = 0; rw [if_pos e]; rw [if_neg e, zo_pr_s, if_pos (by omega)]
            refine W.widen (k := 0) (n := 0) (Nat.le_of_ble_eq_true rfl) (Nat.le_of_ble_eq_true rfl) ?_
            subst hAe
            exact W.vret hx hb hr (fun t ht hW => zc_end hS hH ht (⟨rfl, rfl, rfl, rfl, by rw [if_pos hc1, hz9]; exact hm⟩)) hS.2.2 d_Mod_prune_103
          · skip
            have hc4 := zt_leF (a := c9) (b := 1) (by omega) (by omega) hc4
            refine lv_iconst (v := nI 0) hx hb d_Mod_prune_29 (by decide) ?_
            refine lv_istore_n (lv' := [(3, .int (nI 0)), (0, .ref X), (1, .int (nI k)), (2, .int (nI g9))]) hx hb d_Mod_prune_30 rfl hl (by decide) rfl (fun ls hl => ?_)
            have loop_31 : ∀ (z : Nat) (s9 : Nat) (I_31 : Nat → Nat → Int32) (L_31 : Nat → Nat → Int64) (H : Heap) (locs : List Loc) (ls : Array Slot), 280 - s9 < z → (s9 ≤ 280) → (zoR X ad M1 Q1 kd ln I_31 L_31 R) → lv_has ls 4 [(0, .ref X), (1, .int (nI k)), (2, .int (nI (zo_mr M1 k s9))), (3, .int (nI s9))] → zh_H D cA A kd ln I_31 L_31 R H → va_S A s.heap H locs → W p l e (headSpec w_Mod_prune { frames := 3, cells := 0, slots := 0, locals := 67 }).room s m ([.ref X, .int (nI k)] : List Value).toArray below meth c H locs 0 0 (MQ below (zc_Qc D cA A (zo_P none X ad ((if m9 8 k = nI 0 then zo_pr k cl (m9, q9) else (m9, q9)).1) ((if m9 8 k = nI 0 then zo_pr k cl (m9, q9) else (m9, q9)).2) kd ln R)) ([.ref X, .int (nI k)] : List Value).toArray s 0 0 A) (F0 m 31 ls []) := by
              intro z
              induction z with
              | zero => intro s9 I_31 L_31 H locs ls hz; exact absurd hz (Nat.not_lt_zero _)
              | succ z ih_31 =>
                intro s9 I_31 L_31 H locs ls hz_31 hs9 hm hl hH hS
                have hmr := zo_mr_le M1 k s9
                refine lv_iload_n hx hb d_Mod_prune_31 rfl (lv_at hl 3 rfl) ?_
                refine lv_sipush (v := nI 280) hx hb d_Mod_prune_32 (by decide) ?_
                refine lv_icmp_ge (tgt := 91) hx hb d_Mod_prune_35 (by decide) (fun hc5 => ?_) (fun hc5 => ?_)
                · skip
                  have hc5 := zt_geT (a := s9) (b := 280) (by omega) (by omega) hc5
                  have hi2 : s9 = 280 := by omega
                  rw [hi2] at hl
                  rw [hi2] at hmr
                  generalize hmr9 : zo_mr M1 k 280 = mr9 at hl hmr
                  refine lv_iload_n hx hb d_Mod_prune_91 rfl (lv_at hl 2 rfl) ?_
                  refine lv_if_eq (tgt := 15) hx hb d_Mod_prune_92 (by decide) (fun hc6 => ?_) (fun hc6 => ?_)
                  · skip
                    have hc6 := zt_eqT (a := mr9) (b := 0) (by omega) (by omega) hc6
                    rw [show mr9 = 0 by omega] at hl
                    exact ih_15 c9 0 M1 Q1 _ _ _ _ _ (by omega) (by omega) hpg9 (by rw [← hpr, if_pos rfl, if_neg (show ¬ g9 = 0 by omega), zo_pr_s, if_neg (show ¬ c9 ≤ 1 by omega), if_pos (show zo_mr (M1, Q1).1 k 280 = 0 from hmr9.trans (by omega))]) hm (lv_sub hl [0, 1, 2] rfl) hH hS
                  · skip
                    have hc6 := zt_eqF (a := mr9) (b := 0) (by omega) (by omega) hc6
                    refine lv_aload_n hx hb d_Mod_prune_95 rfl (lv_at hl 0 rfl) ?_
                    refine lv_iload_n hx hb d_Mod_prune_96 rfl (lv_at hl 1 rfl) ?_
                    refine zr_V (As := ([.int (nI k)] : List Value)) (rest := []) (b := X) (ci := 6) (q := (R_Mod, T_Mod, 37)) ⟨hx, hb, hml, hown, hts⟩ (c_Mod_free hm (by omega) hpg9.1 (by omega) hpg9.2.1 (zo_pgs_0 hpg9 (by omega)).1 (zo_pgs_0 hpg9 (by omega)).2) ⟨(callB_of 1 hts (zg_all zw_761) rfl rfl rfl (hw zw_3) (hw zw_758) k_Mod_free.2 ⟨Nat.le_of_ble_eq_true rfl, Nat.le_of_ble_eq_true rfl⟩), (hw zw_760), (hw zs_Mod_free)⟩ hSc hE hH hS hA rfl (by decide) hm.1.1 rfl hl.1 rfl (Nat.le_of_ble_eq_true rfl) d_Mod_prune_97 ⟨Nat.le_of_ble_eq_true rfl, Nat.le_of_ble_eq_true rfl⟩ (fun v7 kd7 ln7 I7 L7 R7 H locs hp hH hS => ?_)
                    obtain ⟨rfl, rfl, rfl, rfl, hm⟩ := hp
                    refine W.eq (g2 := F0 m 100 ls []) rfl ?_
                    refine W.widen (k := 0) (n := 0) (by omega) (by omega) ?_
                    have hm : zoR X ad (zo_frI M1 k c9 (zo_pg M1 k)) (zb_wr 0 (zo_pg M1 k) 0 Q1) kd ln I7 L7 R := hm
                    refine lv_goto (tgt := 15) hx hb d_Mod_prune_100 (by decide) ?_
                    rw [show mr9 = 1 by omega] at hl
                    exact ih_15 (c9 - 1) 1 (zo_frI M1 k c9 (zo_pg M1 k)) (zb_wr 0 (zo_pg M1 k) 0 Q1) _ _ _ _ _ (by omega) (by omega) (zo_pgs_fr hpg9) (by rw [← hpr, if_neg (show ¬ 1 = 0 by decide), if_neg (show ¬ g9 = 0 by omega), zo_pr_s (c := c9), if_neg (show ¬ c9 ≤ 1 by omega), if_neg (show ¬ zo_mr (M1, Q1).1 k 280 = 0 from fun e => absurd (hmr9.symm.trans e) (by omega))]; rfl) hm (lv_sub hl [0, 1, 2] rfl) hH hS
                · skip
                  have hc5 := zt_geF (a := s9) (b := 280) (by omega) (by omega) hc5
                  refine lv_iload_n hx hb d_Mod_prune_38 rfl (lv_at hl 2 rfl) ?_
                  refine lv_if_eq (tgt := 83) hx hb d_Mod_prune_39 (by decide) (fun hc8 => ?_) (fun hc8 => ?_)
                  · skip
                    have hc8 := zt_eqT (a := (zo_mr M1 k s9)) (b := 0) (by omega) (by omega) hc8
                    refine lv_iconst (v := nI 0) hx hb d_Mod_prune_83 (by decide) ?_
                    refine lv_istore_n (lv' := [(2, .int (nI 0)), (0, .ref X), (1, .int (nI k)), (3, .int (nI s9))]) hx hb d_Mod_prune_84 rfl hl (by decide) rfl (fun ls hl => ?_)
                    refine lv_iinc (k := 3) (v := nI (s9 + 1)) (lv' := [(3, .int (nI (s9 + 1))), (2, .int (nI 0)), (0, .ref X), (1, .int (nI k))]) hx hb d_Mod_prune_85 hl rfl (nI_add s9 1) (by decide) rfl (fun ls hl => ?_)
                    refine lv_goto (tgt := 31) hx hb d_Mod_prune_88 (by decide) ?_
                    have e9 : zo_mr M1 k (s9 + 1) = 0 := by rw [zo_mr, if_pos (by omega)]
                    have hl : lv_has ls 4 [(3, .int (nI (s9 + 1))), (2, .int (nI (zo_mr M1 k (s9 + 1)))), (0, .ref X), (1, .int (nI k))] := by rw [e9]; exact hl
                    exact ih_31 (s9 + 1) _ _ _ _ _ (by omega) (by omega) hm (lv_sub hl [2, 3, 1, 0] rfl) hH hS
                  · skip
                    have hc8 := zt_eqF (a := (zo_mr M1 k s9)) (b := 0) (by omega) (by omega) hc8
                    refine lv_aload_n hx hb d_Mod_prune_42 rfl (lv_at hl 0 rfl) ?_
                    refine zr_getr (ci := 6) (C := R_Mod) (T := T_Mod) (N := 37) (ref := "ScrubbedRecorderModel") hx hb hts (fun w h => List.mem_cons_of_mem _ (zin_Mod w h)) hown hK hH hm.1.1 (by decide) rfl 16 (by decide) rfl (hw zw_615) (fun _ h9 => h9) d_Mod_prune_43 (by rw [r16]) ?_
                    refine lv_iload_n hx hb d_Mod_prune_46 rfl (lv_at hl 3 rfl) ?_
                    refine zr_aldi (j := s9) hx hb hK hH k16 (by rw [n16]; exact zh_ix_n (by omega) (by omega)) d_Mod_prune_47 ?_
                    refine zt_i (y := M1 16 s9) (congrFun (hm.2.1 16 (by decide) (by decide) (by decide)) s9) ?_
                    refine lv_iload_n hx hb d_Mod_prune_48 rfl (lv_at hl 1 rfl) ?_
                    refine lv_icmp_ne (tgt := 79) hx hb d_Mod_prune_49 (by decide) (fun hc10 => ?_) (fun hc10 => ?_)
                    · skip
                      have hc10 : ¬ (M1 16 s9) = (nI k) := hc10
                      refine lv_iconst (v := nI 1) hx hb d_Mod_prune_79 (by decide) ?_
                      refine lv_goto (tgt := 84) hx hb d_Mod_prune_80 (by decide) ?_
                      refine lv_istore_n (lv' := [(2, .int (nI 1)), (0, .ref X), (1, .int (nI k)), (3, .int (nI s9))]) hx hb d_Mod_prune_84 rfl hl (by decide) rfl (fun ls hl => ?_)
                      refine lv_iinc (k := 3) (v := nI (s9 + 1)) (lv' := [(3, .int (nI (s9 + 1))), (2, .int (nI 1)), (0, .ref X), (1, .int (nI k))]) hx hb d_Mod_prune_85 hl rfl (nI_add s9 1) (by decide) rfl (fun ls hl => ?_)
                      refine lv_goto (tgt := 31) hx hb d_Mod_prune_88 (by decide) ?_
                      have e11 : zo_mr M1 k (s9 + 1) = 1 := by rw [zo_mr, if_neg (by omega), if_neg hc10]
                      have hl : lv_has ls 4 [(3, .int (nI (s9 + 1))), (2, .int (nI (zo_mr M1 k (s9 + 1)))), (0, .ref X), (1, .int (nI k))] := by rw [e11]; exact hl
                      exact ih_31 (s9 + 1) _ _ _ _ _ (by omega) (by omega) hm (lv_sub hl [2, 3, 1, 0] rfl) hH hS
                    · skip
                      have hc10 : (M1 16 s9) = (nI k) := hc10
                      refine lv_aload_n hx hb d_Mod_prune_52 rfl (lv_at hl 0 rfl) ?_
                      refine zr_getr (ci := 6) (C := R_Mod) (T := T_Mod) (N := 37) (ref := "ScrubbedRecorderModel") hx hb hts (fun w h => List.mem_cons_of_mem _ (zin_Mod w h)) hown hK hH hm.1.1 (by decide) rfl 21 (by decide) rfl (hw zw_620) (fun _ h9 => h9) d_Mod_prune_53 (by rw [r21]) ?_
                      refine lv_iload_n hx hb d_Mod_prune_56 rfl (lv_at hl 3 rfl) ?_
                      refine zr_aldi (j := s9) hx hb hK hH k21 (by rw [n21]; exact zh_ix_n (by omega) (by omega)) d_Mod_prune_57 ?_
                      refine zt_i (y := M1 21 s9) (congrFun (hm.2.1 21 (by decide) (by decide) (by decide)) s9) ?_
                      refine lv_aload_n hx hb d_Mod_prune_58 rfl (lv_at hl 0 rfl) ?_
                      refine zr_getr (ci := 6) (C := R_Mod) (T := T_Mod) (N := 37) (ref := "ScrubbedRecorderModel") hx hb hts (fun w h => List.mem_cons_of_mem _ (zin_Mod w h)) hown hK hH hm.1.1 (by decide) rfl 14 (by decide) rfl (hw zw_613) (fun _ h9 => h9) d_Mod_prune_59 (by rw [r14]) ?_
                      refine lv_bipush (v := nI 40) hx hb d_Mod_prune_62 (by decide) ?_
                      refine lv_iload_n hx hb d_Mod_prune_64 rfl (lv_at hl 1 rfl) ?_
                      refine lv_imul hx hb d_Mod_prune_65 ?_
                      refine zt_i (y := nI (40 * k)) (pk_mul 40 k) ?_
                      refine zr_aldi (j := 40 * k) hx hb hK hH k14 (by rw [n14]; exact zh_ix_n (by omega) (by omega)) d_Mod_prune_66 ?_
                      refine zt_i (y := M1 14 (40 * k)) (congrFun (hm.2.1 14 (by decide) (by decide) (by decide)) (40 * k)) ?_
                      refine lv_icmp_ne (tgt := 79) hx hb d_Mod_prune_67 (by decide) (fun hc12 => ?_) (fun hc12 => ?_)
                      · skip
                        have hc12 : ¬ (M1 21 s9) = (M1 14 (40 * k)) := hc12
                        refine lv_iconst (v := nI 1) hx hb d_Mod_prune_79 (by decide) ?_
                        refine lv_goto (tgt := 84) hx hb d_Mod_prune_80 (by decide) ?_
                        refine lv_istore_n (lv' := [(2, .int (nI 1)), (0, .ref X), (1, .int (nI k)), (3, .int (nI s9))]) hx hb d_Mod_prune_84 rfl hl (by decide) rfl (fun ls hl => ?_)
                        refine lv_iinc (k := 3) (v := nI (s9 + 1)) (lv' := [(3, .int (nI (s9 + 1))), (2, .int (nI 1)), (0, .ref X), (1, .int (nI k))]) hx hb d_Mod_prune_85 hl rfl (nI_add s9 1) (by decide) rfl (fun ls hl => ?_)
                        refine lv_goto (tgt := 31) hx hb d_Mod_prune_88 (by decide) ?_
                        have e13 : zo_mr M1 k (s9 + 1) = 1 := by rw [zo_mr, if_neg (by omega), if_pos hc10, if_neg hc12]
                        have hl : lv_has ls 4 [(3, .int (nI (s9 + 1))), (2, .int (nI (zo_mr M1 k (s9 + 1)))), (0, .ref X), (1, .int (nI k))] := by rw [e13]; exact hl
                        exact ih_31 (s9 + 1) _ _ _ _ _ (by omega) (by omega) hm (lv_sub hl [2, 3, 1, 0] rfl) hH hS
                      · skip
                        have hc12 : (M1 21 s9) = (M1 14 (40 * k)) := hc12
                        refine lv_aload_n hx hb d_Mod_prune_70 rfl (lv_at hl 0 rfl) ?_
                        refine zr_getr (ci := 6) (C := R_Mod) (T := T_Mod) (N := 37) (ref := "ScrubbedRecorderModel") hx hb hts (fun w h => List.mem_cons_of_mem _ (zin_Mod w h)) hown hK hH hm.1.1 (by decide) rfl 22 (by decide) rfl (hw zw_621) (fun _ h9 => h9) d_Mod_prune_71 (by rw [r22]) ?_
                        refine lv_iload_n hx hb d_Mod_prune_74 rfl (lv_at hl 3 rfl) ?_
                        refine zr_aldz (j := s9) hx hb hK hH k22 (by rw [n22]; exact zh_ix_n (by omega) (by omega)) d_Mod_prune_75 ?_
                        refine zt_i (y := M1 22 s9) (congrFun (hm.2.1 22 (by decide) (by decide) (by decide)) s9) ?_
                        refine lv_if_eq (tgt := 83) hx hb d_Mod_prune_76 (by decide) (fun hc14 => ?_) (fun hc14 => ?_)
                        · skip
                          have hc14 : (M1 22 s9) = (nI 0) := hc14
                          refine lv_iconst (v := nI 0) hx hb d_Mod_prune_83 (by decide) ?_
                          refine lv_istore_n (lv' := [(2, .int (nI 0)), (0, .ref X), (1, .int (nI k)), (3, .int (nI s9))]) hx hb d_Mod_prune_84 rfl hl (by decide) rfl (fun ls hl => ?_)
                          refine lv_iinc (k := 3) (v := nI (s9 + 1)) (lv' := [(3, .int (nI (s9 + 1))), (2, .int (nI 0)), (0, .ref X), (1, .int (nI k))]) hx hb d_Mod_prune_85 hl rfl (nI_add s9 1) (by decide) rfl (fun ls hl => ?_)
                          refine lv_goto (tgt := 31) hx hb d_Mod_prune_88 (by decide) ?_
                          have e15 : zo_mr M1 k (s9 + 1) = 0 := by rw [zo_mr, if_neg (by omega), if_pos hc10, if_pos hc12, if_pos hc14]
                          have hl : lv_has ls 4 [(3, .int (nI (s9 + 1))), (2, .int (nI (zo_mr M1 k (s9 + 1)))), (0, .ref X), (1, .int (nI k))] := by rw [e15]; exact hl
                          exact ih_31 (s9 + 1) _ _ _ _ _ (by omega) (by omega) hm (lv_sub hl [2, 3, 1, 0] rfl) hH hS
                        · skip
                          have hc14 : ¬ (M1 22 s9) = (nI 0) := hc14
                          refine lv_iconst (v := nI 1) hx hb d_Mod_prune_79 (by decide) ?_
                          refine lv_goto (tgt := 84) hx hb d_Mod_prune_80 (by decide) ?_
                          refine lv_istore_n (lv' := [(2, .int (nI 1)), (0, .ref X), (1, .int (nI k)), (3, .int (nI s9))]) hx hb d_Mod_prune_84 rfl hl (by decide) rfl (fun ls hl => ?_)
                          refine lv_iinc (k := 3) (v := nI (s9 + 1)) (lv' := [(3, .int (nI (s9 + 1))), (2, .int (nI 1)), (0, .ref X), (1, .int (nI k))]) hx hb d_Mod_prune_85 hl rfl (nI_add s9 1) (by decide) rfl (fun ls hl => ?_)
                          refine lv_goto (tgt := 31) hx hb d_Mod_prune_88 (by decide) ?_
                          have e16 : zo_mr M1 k (s9 + 1) = 1 := by rw [zo_mr, if_neg (by omega), if_pos hc10, if_pos hc12, if_neg hc14]
                          have hl : lv_has ls 4 [(3, .int (nI (s9 + 1))), (2, .int (nI (zo_mr M1 k (s9 + 1)))), (0, .ref X), (1, .int (nI k))] := by rw [e16]; exact hl
                          exact ih_31 (s9 + 1) _ _ _ _ _ (by omega) (by omega) hm (lv_sub hl [2, 3, 1, 0] rfl) hH hS
            have hg1 : g9 = 1 := by omega
            rw [hg1] at hl
            exact loop_31 _ 0 _ _ _ _ _ (Nat.lt_succ_self _) (by omega) hm (lv_sub hl [1, 2, 3, 0] rfl) hH hS
    exact loop_15 _ cl 1 m9 q9 _ _ _ _ _ (Nat.lt_succ_self _) (by omega) hpgs rfl hm (lv_sub hl [1, 2, 0] rfl) hH hS
