def zk_pg (c : Nat → Nat → Int32) (k : Nat) : Nat := (c (20 + k) 0).toNatClampNeg
def zk_ff (k cl : Nat) (z : (Nat → Nat → Int32) × (Nat → Nat → Int64) × (Nat → Nat → Nat)) : (Nat → Nat → Int32) × (Nat → Nat → Int64) × (Nat → Nat → Nat) := (zk_ffc z.1 k cl (zk_pg z.1 k), zb_wr 3 (zk_pg z.1 k) 0 z.2.1, zk_ffg z.1 z.2.2 k (zk_pg z.1 k))
def zk_opc (c : Nat → Nat → Int32) (k cl pg : Nat) : Nat → Nat → Int32 := zu (zu (zu (zu c 1 pg (nI 1)) (20 + k) cl (nI pg)) (10 + k) 7 (nI (cl + 1))) (10 + k) 4 (nI 3)
def zk_op (k cl : Nat) (z : (Nat → Nat → Int32) × (Nat → Nat → Int64) × (Nat → Nat → Nat)) : (Nat → Nat → Int32) × (Nat → Nat → Int64) × (Nat → Nat → Nat) := (zk_opc z.1 k cl (zb_lp (z.1 1) 39), zb_wrs 3 (zb_lp (z.1 1) 39) z.2.1 16, z.2.2)
def zk_da (k : Nat) : Nat → (Nat → Nat → Int32) × (Nat → Nat → Int64) × (Nat → Nat → Nat) → (Nat → Nat → Int32) × (Nat → Nat → Int64) × (Nat → Nat → Nat)
  | 0, z => z
  | n + 1, z => zk_da k n (zk_ff k (n + 1) z)
theorem zk_da_s {k n : Nat} {z : (Nat → Nat → Int32) × (Nat → Nat → Int64) × (Nat → Nat → Nat)} (h : 1 ≤ n) : zk_da k n z = zk_da k (n - 1) (zk_ff k n z) := by
  obtain ⟨i, rfl⟩ : ∃ i, n = i + 1 := ⟨n - 1, by omega⟩
  rfl
def zk_pr (k : Nat) : Nat → (Nat → Nat → Int32) × (Nat → Nat → Int64) × (Nat → Nat → Nat) → (Nat → Nat → Int32) × (Nat → Nat → Int64) × (Nat → Nat → Nat)
  | 0, z => z
  | n + 1, z => if n = 0 then z else if zk_fd z.1 k (z.2.2 2 k) (z.2.2 2 k - z.2.2 1 k) = nI 0 then z else zk_pr k n (zk_ff k (n + 1) z)
theorem zk_pr_s {k n : Nat} {z : (Nat → Nat → Int32) × (Nat → Nat → Int64) × (Nat → Nat → Nat)} : zk_pr k n z = if n ≤ 1 then z else if zk_fd z.1 k (z.2.2 2 k) (z.2.2 2 k - z.2.2 1 k) = nI 0 then z else zk_pr k (n - 1) (zk_ff k n z) := by
  rcases n with _ | n
  · rfl
  · rw [zk_pr]
    by_cases h : n = 0
    · rw [if_pos h, if_pos (by omega)]
    · rw [if_neg h, if_neg (show ¬ n + 1 ≤ 1 by omega)]
      rfl
def zk_prn (k cl : Nat) (z : (Nat → Nat → Int32) × (Nat → Nat → Int64) × (Nat → Nat → Nat)) : (Nat → Nat → Int32) × (Nat → Nat → Int64) × (Nat → Nat → Nat) := if z.1 (10 + k) 1 = nI 0 then zk_pr k cl z else z
def zk_pgs (c : Nat → Nat → Int32) (k n : Nat) : Prop := c (10 + k) 7 = nI n ∧ n ≤ 40 ∧ ∀ i, i < n → ∃ pg, pg < 40 ∧ c (20 + k) i = nI pg
theorem zk_pgs_0 {c : Nat → Nat → Int32} {k n : Nat} (h : zk_pgs c k n) (hn : 1 ≤ n) : c (20 + k) 0 = nI (zk_pg c k) ∧ zk_pg c k < 40 := by
  obtain ⟨g, hg, e⟩ := h.2.2 0 (by omega)
  unfold zk_pg
  rw [e, nI_clamp (by omega)]
  exact ⟨rfl, hg⟩
theorem zk_ffc_7 {c : Nat → Nat → Int32} {k cl pg : Nat} : zk_ffc c k cl pg (10 + k) 7 = nI (cl - 1) := by
  unfold zk_ffc
  rw [va_up_ne _ _ (show 10 + k ≠ 20 + k by omega), zu_self]
theorem zk_ffc_10 {c : Nat → Nat → Int32} {k cl pg s : Nat} (h : s ≠ 7) : zk_ffc c k cl pg (10 + k) s = c (10 + k) s := by
  unfold zk_ffc
  rw [va_up_ne _ _ (show 10 + k ≠ 20 + k by omega), zu_k _ _ _ _ h, zu_ne _ _ _ (show 10 + k ≠ 1 by omega)]
theorem zk_ffc_20 {c : Nat → Nat → Int32} {k cl pg : Nat} : zk_ffc c k cl pg (20 + k) = va_cpy (c (20 + k)) (c (20 + k)) 1 0 (cl - 1) := by
  unfold zk_ffc
  rw [va_up_self]
theorem zk_ffc_p {c : Nat → Nat → Int32} {k cl pg r : Nat} (h : 90 ≤ r) (hk : k < 4) : zk_ffc c k cl pg r = c r := by
  unfold zk_ffc
  rw [va_up_ne _ _ (show r ≠ 20 + k by omega), zu_ne _ _ _ (show r ≠ 10 + k by omega), zu_ne _ _ _ (show r ≠ 1 by omega)]
theorem zk_pgs_ff {c : Nat → Nat → Int32} {k n pg : Nat} (h : zk_pgs c k n) : zk_pgs (zk_ffc c k n pg) k (n - 1) := by
  refine ⟨zk_ffc_7, by have := h.2.1; omega, fun i hi => ?_⟩
  obtain ⟨g1, h1, e1⟩ := h.2.2 (i + 1) (by omega)
  refine ⟨g1, h1, ?_⟩
  rw [zk_ffc_20, pk_cpy_in (by omega) (by omega), show 1 + (i - 0) = i + 1 by omega]
  exact e1
theorem zk_ffg_0 {c : Nat → Nat → Int32} {g : Nat → Nat → Nat} {k pg r : Nat} (h : r ≠ 1) : zk_ffg c g k pg r = g r := zu_ne _ _ _ h
theorem zk_ffg_lo {c : Nat → Nat → Int32} {g : Nat → Nat → Nat} {k pg : Nat} (h : g 1 k ≤ g 2 k) : zk_ffg c g k pg 1 k ≤ zk_ffg c g k pg 2 k := by
  rw [zk_ffg_0 (show (2 : Nat) ≠ 1 by decide)]
  unfold zk_ffg
  rw [zu_self]
  have := zk_pf_le c k (g 2 k) pg (g 2 k - g 1 k)
  omega

set_option maxHeartbeats 4000000 in
set_option maxRecDepth 100000 in
/-- Store.openPage -/
theorem c_St_openPage_N {l : Launch} {D : va_G} {cA : Nat → ClassId} {te mi : Nat} {kd ln : Nat → Nat} {I : Nat → Nat → Int32} {L : Nat → Nat → Int64} {R : Nat → Nat → Option Nat} {X : Nat} {a9 e9 : Nat → Nat} {c9 : Nat → Nat → Int32} {d9 : Nat → Nat → Int64} {g9 : Nat → Nat → Nat} (hm : zkR X te a9 e9 c9 d9 g9 kd ln I L R) {k : Nat} (hk4 : k < 4) (hgk : g9 0 k ≠ 0) {cl qu : Nat} (hlo : g9 1 k ≤ g9 2 k) (hpgs : zk_pgs c9 k cl) (hqu : c9 (10 + k) 6 = nI qu) (hqu1 : qu ≤ 40) (hne : c9 (10 + k) 1 = nI 0 ∨ ¬ cl = qu) (hc40 : cl < 40) : zc_M l y_St_openPage w_St_openPage { frames := 4, cells := 0, slots := 0, locals := 108 } 0 0 D cA te mi ([.ref (a9 (10 + k))] : List Value) kd ln I L R (zk_P none X te a9 e9 ((zk_op k cl (c9, d9, g9)).1) ((zk_op k cl (c9, d9, g9)).2.1) ((zk_op k cl (c9, d9, g9)).2.2) kd ln) := by
  intro sz
  refine Met.ofW (cc := b_St_openPage) (maxL := 1) (ret := none) (by decide +kernel) rfl ?_
  intro p e s m args below meth c s₁ B hml hv
  obtain ⟨rfl, hsz, hSc, hE, hH⟩ := hv
  have hx := B.exec
  have hb := B.bytes
  have hr := B.returns
  have hts := atoms_spec (ws := w_St_openPage) B.pre
  have hw : ∀ {w : Cond}, w ∈ zw → w.before ([.ref (a9 (10 + k))] : List Value).toArray s = true := fun h => hts _ (List.mem_cons_of_mem _ h)
  have hown : s.vm.findClass R_St = some m.cls := findClass_of_methodNamed B.named
  have hlocks := B.notSynchronized
  subst hsz
  have hK := hSc.1
  have hH : zh_H D cA (zc_A kd s.heap.size) kd ln I L R s.heap := hH.weaken (fun q h _ => Or.inl h)
  generalize hAe : zc_A kd s.heap.size = A at hH hE ⊢
  have hA : ∀ q : Nat, s.heap.size ≤ q → A q := fun q h => by rw [← hAe]; exact Or.inr h
  have hS : va_S A s.heap s.heap [] := va_S.rf
  have hl := lv_entry ([.ref (a9 (10 + k))] : List Value) (n := 1) (Nat.le_of_ble_eq_true rfl)
  rw [lg_entry_eq]
  generalize (lg_sl ([.ref (a9 (10 + k))] : List Value) ++ List.replicate (1 - (lg_sl ([.ref (a9 (10 + k))] : List Value)).length) Slot.unset).toArray = ls at hl ⊢
  have hl : lv_has ls 1 [(0, .ref (a9 (10 + k)))] := hl
  have hle40 := hpgs.2.1
  refine lv_aload_n hx hb d_St_openPage_0 rfl (lv_at hl 0 rfl) ?_
  refine zr_geti (ci := 2) (C := R_St) (T := T_St) (N := 10) (ref := "ScrubbedRecorder$Store") hx hb hts (fun w h => List.mem_cons_of_mem _ (zin_St w h)) hown hK hH ((zkR_k hm (zk_lv1 (by omega) hgk)).trans (zk_k1 (by omega))) (by decide) rfl 1 (by decide) rfl (hw zw_125) (fun _ h9 => h9) d_St_openPage_1 ?_
  refine zt_i (y := c9 (10 + k) 1) (congrFun (zkR_i hm (zk_lv1 (by omega) hgk)) 1) ?_
  refine lv_if_eq (tgt := 22) hx hb d_St_openPage_4 (by decide) (fun hc1 => ?_) (fun hc1 => ?_)
  · skip
    have hc1 : (c9 (10 + k) 1) = (nI 0) := hc1
    refine lv_aload_n hx hb d_St_openPage_22 rfl (lv_at hl 0 rfl) ?_
    refine zr_getr (ci := 2) (C := R_St) (T := T_St) (N := 10) (ref := "ScrubbedRecorder$Store") hx hb hts (fun w h => List.mem_cons_of_mem _ (zin_St w h)) hown hK hH ((zkR_k hm (zk_lv1 (by omega) hgk)).trans (zk_k1 (by omega))) (by decide) rfl 3 (by decide) rfl (hw zw_127) (fun _ h9 => h9) d_St_openPage_23 (zkR_st hm (by omega) hgk).2.2.1 ?_
    refine lv_aload_n hx hb d_St_openPage_26 rfl (lv_at hl 0 rfl) ?_
    refine zr_geti (ci := 2) (C := R_St) (T := T_St) (N := 10) (ref := "ScrubbedRecorder$Store") hx hb hts (fun w h => List.mem_cons_of_mem _ (zin_St w h)) hown hK hH ((zkR_k hm (zk_lv1 (by omega) hgk)).trans (zk_k1 (by omega))) (by decide) rfl 7 (by decide) rfl (hw zw_134) (fun _ h9 => h9) d_St_openPage_27 ?_
    refine zt_i (y := nI cl) ((congrFun (zkR_i hm (zk_lv1 (by omega) hgk)) 7).trans (by rw [hpgs.1])) ?_
    refine lv_aload_n hx hb d_St_openPage_30 rfl (lv_at hl 0 rfl) ?_
    refine zr_getr (ci := 2) (C := R_St) (T := T_St) (N := 10) (ref := "ScrubbedRecorder$Store") hx hb hts (fun w h => List.mem_cons_of_mem _ (zin_St w h)) hown hK hH ((zkR_k hm (zk_lv1 (by omega) hgk)).trans (zk_k1 (by omega))) (by decide) rfl 2 (by decide) rfl (hw zw_126) (fun _ h9 => h9) d_St_openPage_31 (zkR_st hm (by omega) hgk).2.1 ?_
    have hM := zkR_mem hm
    refine zr_V (As := ([] : List Value)) (rest := [.int (nI cl), .ref (a9 (20 + k))]) (b := a9 0) (ci := 1) (q := (R_Mem, T_Mem, 8)) ⟨hx, hb, hml, hown, hts⟩ (c_Mem_openLeastPage hM.1 hM.2.1 hM.2.2.1 hM.2.2.2.1 hM.2.2.2.2.1 hM.2.2.2.2.2.1 hM.2.2.2.2.2.2) ⟨(callB_of 0 hts (zg_all zw_305) rfl rfl rfl (hw zw_2) (hw zw_302) k_Mem_openLeastPage.2 ⟨Nat.le_of_ble_eq_true rfl, Nat.le_of_ble_eq_true rfl⟩), (hw zw_303), (hw zw_304)⟩ hSc hE hH hS hA rfl (by decide) (show kd (a9 0) = 2 from zkR_k hm (zk_lv0 (by decide))) rfl hl.1 rfl (Nat.le_of_ble_eq_true rfl) d_St_openPage_34 ⟨Nat.le_of_ble_eq_true rfl, Nat.le_of_ble_eq_true rfl⟩ (fun v2 kd2 ln2 I2 L2 R2 H locs hp hH hS => ?_)
    obtain ⟨rfl, rfl, rfl, rfl, rfl, rfl⟩ := hp
    rw [show I (a9 1) = c9 1 from zkR_i hm (zk_lv0 (by decide))] at hH ⊢
    have hm := zkR_wrs (zkR_I hm 1 (zb_lp (c9 1) 39) (nI 1) (zk_lv0 (by decide)) (fun h9 => absurd h9 (by decide)) (fun h9 => absurd h9 (by decide))) (zb_lp (c9 1) 39) 16
    generalize zu I (a9 1) (zb_lp (c9 1) 39) (nI 1) = I3 at hm hH
    generalize zb_wrs (a9 3) (zb_lp (c9 1) 39) L 16 = L4 at hm hH
    refine W.eq (g2 := F0 m 37 ls [.int (nI (zb_lp (c9 1) 39)), .int (nI cl), .ref (a9 (20 + k))]) rfl ?_
    refine W.widen (k := 0) (n := 0) (by omega) (by omega) ?_
    refine zr_asti (j := cl) (y := nI (zb_lp (c9 1) 39)) hx hb hK hH hS ((zkR_k hm (zk_lv2 (by omega) hgk)).trans (zk_k2 (by omega))) rfl (by rw [show ln (a9 (20 + k)) = 40 from (zkR_n hm (zk_lv2 (by omega) hgk) (by rw [zk_k2 (by omega)]; decide)).trans (zk_n2 (by omega))]; exact zh_ix_n (by omega) (by omega)) d_St_openPage_37 (fun H locs hH hS => ?_)
    have hm := zkR_I hm (20 + k) cl (nI (zb_lp (c9 1) 39)) (zk_lv2 (by omega) hgk) (fun h9 => absurd ((zk_k2 (by omega)).symm.trans h9) (by decide)) (fun h9 => absurd ((zk_k2 (by omega)).symm.trans h9) (by decide))
    generalize zu I3 (a9 (20 + k)) cl (nI (zb_lp (c9 1) 39)) = I5 at hm hH
    refine lv_aload_n hx hb d_St_openPage_38 rfl (lv_at hl 0 rfl) ?_
    refine lv_dup hx hb d_St_openPage_39 rfl ?_
    refine zr_geti (ci := 2) (C := R_St) (T := T_St) (N := 10) (ref := "ScrubbedRecorder$Store") hx hb hts (fun w h => List.mem_cons_of_mem _ (zin_St w h)) hown hK hH ((zkR_k hm (zk_lv1 (by omega) hgk)).trans (zk_k1 (by omega))) (by decide) rfl 7 (by decide) rfl (hw zw_134) (fun _ h9 => h9) d_St_openPage_40 ?_
    refine zt_i (y := nI cl) ((congrFun (zkR_i hm (zk_lv1 (by omega) hgk)) 7).trans (by rw [zu_ne _ _ _ (show (10 + k : Nat) ≠ 20 + k by omega), zu_ne _ _ _ (show (10 + k : Nat) ≠ 1 by omega), hpgs.1])) ?_
    refine lv_iconst (v := nI 1) hx hb d_St_openPage_43 (by decide) ?_
    refine lv_iadd hx hb d_St_openPage_44 ?_
    refine zt_i (y := nI (cl + 1)) (nI_add cl 1) ?_
    refine zr_puti (ref := "ScrubbedRecorder$Store") (ci := 2) (C := R_St) (T := T_St) (N := 10) (x := nI (cl + 1)) (ty := .int) hx hb hts (fun w h => List.mem_cons_of_mem _ (zin_St w h)) ty_St tyok_St nm_St hown hK hH hS ((zkR_k hm (zk_lv1 (by omega) hgk)).trans (zk_k1 (by omega))) (by decide) rfl 7 (by decide) rfl (hw zw_134) (fun _ h9 => h9) rfl (by decide +kernel) rfl rfl d_St_openPage_45 (fun H locs hH hS => ?_)
    have hm := zkR_I hm (10 + k) 7 (nI (cl + 1)) (zk_lv1 (by omega) hgk) (fun h9 => absurd ((zk_k1 (by omega)).symm.trans h9) (by decide)) (fun h9 => absurd ((zk_k1 (by omega)).symm.trans h9) (by decide))
    generalize zu I5 (a9 (10 + k)) 7 (nI (cl + 1)) = I6 at hm hH
    refine lv_aload_n hx hb d_St_openPage_48 rfl (lv_at hl 0 rfl) ?_
    refine lv_iconst (v := nI 3) hx hb d_St_openPage_49 (by decide) ?_
    refine zr_puti (ref := "ScrubbedRecorder$Store") (ci := 2) (C := R_St) (T := T_St) (N := 10) (x := nI 3) (ty := .int) hx hb hts (fun w h => List.mem_cons_of_mem _ (zin_St w h)) ty_St tyok_St nm_St hown hK hH hS ((zkR_k hm (zk_lv1 (by omega) hgk)).trans (zk_k1 (by omega))) (by decide) rfl 4 (by decide) rfl (hw zw_128) (fun _ h9 => h9) rfl (by decide +kernel) rfl rfl d_St_openPage_50 (fun H locs hH hS => ?_)
    have hm := zkR_I hm (10 + k) 4 (nI 3) (zk_lv1 (by omega) hgk) (fun h9 => absurd ((zk_k1 (by omega)).symm.trans h9) (by decide)) (fun h9 => absurd ((zk_k1 (by omega)).symm.trans h9) (by decide))
    generalize zu I6 (a9 (10 + k)) 4 (nI 3) = I7 at hm hH
    refine W.widen (k := 0) (n := 0) (Nat.le_of_ble_eq_true rfl) (Nat.le_of_ble_eq_true rfl) ?_
    subst hAe
    exact W.vret hx hb hr (fun t ht hW => zc_end hS hH ht (⟨rfl, rfl, rfl, hm⟩)) hS.2.2 d_St_openPage_53
  · skip
    have hc1 : ¬ (c9 (10 + k) 1) = (nI 0) := hc1
    refine lv_aload_n hx hb d_St_openPage_7 rfl (lv_at hl 0 rfl) ?_
    refine zr_geti (ci := 2) (C := R_St) (T := T_St) (N := 10) (ref := "ScrubbedRecorder$Store") hx hb hts (fun w h => List.mem_cons_of_mem _ (zin_St w h)) hown hK hH ((zkR_k hm (zk_lv1 (by omega) hgk)).trans (zk_k1 (by omega))) (by decide) rfl 7 (by decide) rfl (hw zw_134) (fun _ h9 => h9) d_St_openPage_8 ?_
    refine zt_i (y := nI cl) ((congrFun (zkR_i hm (zk_lv1 (by omega) hgk)) 7).trans (by rw [hpgs.1])) ?_
    refine lv_aload_n hx hb d_St_openPage_11 rfl (lv_at hl 0 rfl) ?_
    refine zr_geti (ci := 2) (C := R_St) (T := T_St) (N := 10) (ref := "ScrubbedRecorder$Store") hx hb hts (fun w h => List.mem_cons_of_mem _ (zin_St w h)) hown hK hH ((zkR_k hm (zk_lv1 (by omega) hgk)).trans (zk_k1 (by omega))) (by decide) rfl 6 (by decide) rfl (hw zw_132) (fun _ h9 => h9) d_St_openPage_12 ?_
    refine zt_i (y := nI qu) ((congrFun (zkR_i hm (zk_lv1 (by omega) hgk)) 6).trans (by rw [hqu])) ?_
    refine lv_icmp_ne (tgt := 22) hx hb d_St_openPage_15 (by decide) (fun hc8 => ?_) (fun hc8 => ?_)
    · skip
      have hc8 := zt_neT (a := cl) (b := qu) (by omega) (by omega) hc8
      refine lv_aload_n hx hb d_St_openPage_22 rfl (lv_at hl 0 rfl) ?_
      refine zr_getr (ci := 2) (C := R_St) (T := T_St) (N := 10) (ref := "ScrubbedRecorder$Store") hx hb hts (fun w h => List.mem_cons_of_mem _ (zin_St w h)) hown hK hH ((zkR_k hm (zk_lv1 (by omega) hgk)).trans (zk_k1 (by omega))) (by decide) rfl 3 (by decide) rfl (hw zw_127) (fun _ h9 => h9) d_St_openPage_23 (zkR_st hm (by omega) hgk).2.2.1 ?_
      refine lv_aload_n hx hb d_St_openPage_26 rfl (lv_at hl 0 rfl) ?_
      refine zr_geti (ci := 2) (C := R_St) (T := T_St) (N := 10) (ref := "ScrubbedRecorder$Store") hx hb hts (fun w h => List.mem_cons_of_mem _ (zin_St w h)) hown hK hH ((zkR_k hm (zk_lv1 (by omega) hgk)).trans (zk_k1 (by omega))) (by decide) rfl 7 (by decide) rfl (hw zw_134) (fun _ h9 => h9) d_St_openPage_27 ?_
      refine zt_i (y := nI cl) ((congrFun (zkR_i hm (zk_lv1 (by omega) hgk)) 7).trans (by rw [hpgs.1])) ?_
      refine lv_aload_n hx hb d_St_openPage_30 rfl (lv_at hl 0 rfl) ?_
      refine zr_getr (ci := 2) (C := R_St) (T := T_St) (N := 10) (ref := "ScrubbedRecorder$Store") hx hb hts (fun w h => List.mem_cons_of_mem _ (zin_St w h)) hown hK hH ((zkR_k hm (zk_lv1 (by omega) hgk)).trans (zk_k1 (by omega))) (by decide) rfl 2 (by decide) rfl (hw zw_126) (fun _ h9 => h9) d_St_openPage_31 (zkR_st hm (by omega) hgk).2.1 ?_
      have hM := zkR_mem hm
      refine zr_V (As := ([] : List Value)) (rest := [.int (nI cl), .ref (a9 (20 + k))]) (b := a9 0) (ci := 1) (q := (R_Mem, T_Mem, 8)) ⟨hx, hb, hml, hown, hts⟩ (c_Mem_openLeastPage hM.1 hM.2.1 hM.2.2.1 hM.2.2.2.1 hM.2.2.2.2.1 hM.2.2.2.2.2.1 hM.2.2.2.2.2.2) ⟨(callB_of 0 hts (zg_all zw_305) rfl rfl rfl (hw zw_2) (hw zw_302) k_Mem_openLeastPage.2 ⟨Nat.le_of_ble_eq_true rfl, Nat.le_of_ble_eq_true rfl⟩), (hw zw_303), (hw zw_304)⟩ hSc hE hH hS hA rfl (by decide) (show kd (a9 0) = 2 from zkR_k hm (zk_lv0 (by decide))) rfl hl.1 rfl (Nat.le_of_ble_eq_true rfl) d_St_openPage_34 ⟨Nat.le_of_ble_eq_true rfl, Nat.le_of_ble_eq_true rfl⟩ (fun v9 kd9 ln9 I9 L9 R9 H locs hp hH hS => ?_)
      obtain ⟨rfl, rfl, rfl, rfl, rfl, rfl⟩ := hp
      rw [show I (a9 1) = c9 1 from zkR_i hm (zk_lv0 (by decide))] at hH ⊢
      have hm := zkR_wrs (zkR_I hm 1 (zb_lp (c9 1) 39) (nI 1) (zk_lv0 (by decide)) (fun h9 => absurd h9 (by decide)) (fun h9 => absurd h9 (by decide))) (zb_lp (c9 1) 39) 16
      generalize zu I (a9 1) (zb_lp (c9 1) 39) (nI 1) = I10 at hm hH
      generalize zb_wrs (a9 3) (zb_lp (c9 1) 39) L 16 = L11 at hm hH
      refine W.eq (g2 := F0 m 37 ls [.int (nI (zb_lp (c9 1) 39)), .int (nI cl), .ref (a9 (20 + k))]) rfl ?_
      refine W.widen (k := 0) (n := 0) (by omega) (by omega) ?_
      refine zr_asti (j := cl) (y := nI (zb_lp (c9 1) 39)) hx hb hK hH hS ((zkR_k hm (zk_lv2 (by omega) hgk)).trans (zk_k2 (by omega))) rfl (by rw [show ln (a9 (20 + k)) = 40 from (zkR_n hm (zk_lv2 (by omega) hgk) (by rw [zk_k2 (by omega)]; decide)).trans (zk_n2 (by omega))]; exact zh_ix_n (by omega) (by omega)) d_St_openPage_37 (fun H locs hH hS => ?_)
      have hm := zkR_I hm (20 + k) cl (nI (zb_lp (c9 1) 39)) (zk_lv2 (by omega) hgk) (fun h9 => absurd ((zk_k2 (by omega)).symm.trans h9) (by decide)) (fun h9 => absurd ((zk_k2 (by omega)).symm.trans h9) (by decide))
      generalize zu I10 (a9 (20 + k)) cl (nI (zb_lp (c9 1) 39)) = I12 at hm hH
      refine lv_aload_n hx hb d_St_openPage_38 rfl (lv_at hl 0 rfl) ?_
      refine lv_dup hx hb d_St_openPage_39 rfl ?_
      refine zr_geti (ci := 2) (C := R_St) (T := T_St) (N := 10) (ref := "ScrubbedRecorder$Store") hx hb hts (fun w h => List.mem_cons_of_mem _ (zin_St w h)) hown hK hH ((zkR_k hm (zk_lv1 (by omega) hgk)).trans (zk_k1 (by omega))) (by decide) rfl 7 (by decide) rfl (hw zw_134) (fun _ h9 => h9) d_St_openPage_40 ?_
      refine zt_i (y := nI cl) ((congrFun (zkR_i hm (zk_lv1 (by omega) hgk)) 7).trans (by rw [zu_ne _ _ _ (show (10 + k : Nat) ≠ 20 + k by omega), zu_ne _ _ _ (show (10 + k : Nat) ≠ 1 by omega), hpgs.1])) ?_
      refine lv_iconst (v := nI 1) hx hb d_St_openPage_43 (by decide) ?_
      refine lv_iadd hx hb d_St_openPage_44 ?_
      refine zt_i (y := nI (cl + 1)) (nI_add cl 1) ?_
      refine zr_puti (ref := "ScrubbedRecorder$Store") (ci := 2) (C := R_St) (T := T_St) (N := 10) (x := nI (cl + 1)) (ty := .int) hx hb hts (fun w h => List.mem_cons_of_mem _ (zin_St w h)) ty_St tyok_St nm_St hown hK hH hS ((zkR_k hm (zk_lv1 (by omega) hgk)).trans (zk_k1 (by omega))) (by decide) rfl 7 (by decide) rfl (hw zw_134) (fun _ h9 => h9) rfl (by decide +kernel) rfl rfl d_St_openPage_45 (fun H locs hH hS => ?_)
      have hm := zkR_I hm (10 + k) 7 (nI (cl + 1)) (zk_lv1 (by omega) hgk) (fun h9 => absurd ((zk_k1 (by omega)).symm.trans h9) (by decide)) (fun h9 => absurd ((zk_k1 (by omega)).symm.trans h9) (by decide))
      generalize zu I12 (a9 (10 + k)) 7 (nI (cl + 1)) = I13 at hm hH
      refine lv_aload_n hx hb d_St_openPage_48 rfl (lv_at hl 0 rfl) ?_
      refine lv_iconst (v := nI 3) hx hb d_St_openPage_49 (by decide) ?_
      refine zr_puti (ref := "ScrubbedRecorder$Store") (ci := 2) (C := R_St) (T := T_St) (N := 10) (x := nI 3) (ty := .int) hx hb hts (fun w h => List.mem_cons_of_mem _ (zin_St w h)) ty_St tyok_St nm_St hown hK hH hS ((zkR_k hm (zk_lv1 (by omega) hgk)).trans (zk_k1 (by omega))) (by decide) rfl 4 (by decide) rfl (hw zw_128) (fun _ h9 => h9) rfl (by decide +kernel) rfl rfl d_St_openPage_50 (fun H locs hH hS => ?_)
      have hm := zkR_I hm (10 + k) 4 (nI 3) (zk_lv1 (by omega) hgk) (fun h9 => absurd ((zk_k1 (by omega)).symm.trans h9) (by decide)) (fun h9 => absurd ((zk_k1 (by omega)).symm.trans h9) (by decide))
      generalize zu I13 (a9 (10 + k)) 4 (nI 3) = I14 at hm hH
      refine W.widen (k := 0) (n := 0) (Nat.le_of_ble_eq_true rfl) (Nat.le_of_ble_eq_true rfl) ?_
      subst hAe
      exact W.vret hx hb hr (fun t ht hW => zc_end hS hH ht (⟨rfl, rfl, rfl, hm⟩)) hS.2.2 d_St_openPage_53
    · skip
      have hc8 := zt_neF (a := cl) (b := qu) (by omega) (by omega) hc8
      exact absurd hne (fun q => q.elim (by assumption) (fun z => z hc8))

set_option maxHeartbeats 4000000 in
set_option maxRecDepth 100000 in
/-- Store.openPage -/
theorem c_St_openPage_F {l : Launch} {D : va_G} {cA : Nat → ClassId} {te mi : Nat} {kd ln : Nat → Nat} {I : Nat → Nat → Int32} {L : Nat → Nat → Int64} {R : Nat → Nat → Option Nat} {X : Nat} {a9 e9 : Nat → Nat} {c9 : Nat → Nat → Int32} {d9 : Nat → Nat → Int64} {g9 : Nat → Nat → Nat} (hm : zkR X te a9 e9 c9 d9 g9 kd ln I L R) {k : Nat} (hk4 : k < 4) (hgk : g9 0 k ≠ 0) {cl qu : Nat} (hlo : g9 1 k ≤ g9 2 k) (hpgs : zk_pgs c9 k cl) (hqu : c9 (10 + k) 6 = nI qu) (hqu1 : qu ≤ 40) (hci : ¬ c9 (10 + k) 1 = nI 0) (heq : cl = qu) (hcp : 1 ≤ cl) : zc_M l y_St_openPage w_St_openPage { frames := 4, cells := 0, slots := 0, locals := 108 } 0 0 D cA te mi ([.ref (a9 (10 + k))] : List Value) kd ln I L R (zk_P none X te a9 e9 ((zk_op k (cl - 1) (zk_ff k cl (c9, d9, g9))).1) ((zk_op k (cl - 1) (zk_ff k cl (c9, d9, g9))).2.1) ((zk_op k (cl - 1) (zk_ff k cl (c9, d9, g9))).2.2) kd ln) := by
  intro sz
  refine Met.ofW (cc := b_St_openPage) (maxL := 1) (ret := none) (by decide +kernel) rfl ?_
  intro p e s m args below meth c s₁ B hml hv
  obtain ⟨rfl, hsz, hSc, hE, hH⟩ := hv
  have hx := B.exec
  have hb := B.bytes
  have hr := B.returns
  have hts := atoms_spec (ws := w_St_openPage) B.pre
  have hw : ∀ {w : Cond}, w ∈ zw → w.before ([.ref (a9 (10 + k))] : List Value).toArray s = true := fun h => hts _ (List.mem_cons_of_mem _ h)
  have hown : s.vm.findClass R_St = some m.cls := findClass_of_methodNamed B.named
  have hlocks := B.notSynchronized
  subst hsz
  have hK := hSc.1
  have hH : zh_H D cA (zc_A kd s.heap.size) kd ln I L R s.heap := hH.weaken (fun q h _ => Or.inl h)
  generalize hAe : zc_A kd s.heap.size = A at hH hE ⊢
  have hA : ∀ q : Nat, s.heap.size ≤ q → A q := fun q h => by rw [← hAe]; exact Or.inr h
  have hS : va_S A s.heap s.heap [] := va_S.rf
  have hl := lv_entry ([.ref (a9 (10 + k))] : List Value) (n := 1) (Nat.le_of_ble_eq_true rfl)
  rw [lg_entry_eq]
  generalize (lg_sl ([.ref (a9 (10 + k))] : List Value) ++ List.replicate (1 - (lg_sl ([.ref (a9 (10 + k))] : List Value)).length) Slot.unset).toArray = ls at hl ⊢
  have hl : lv_has ls 1 [(0, .ref (a9 (10 + k)))] := hl
  have hle40 := hpgs.2.1
  refine lv_aload_n hx hb d_St_openPage_0 rfl (lv_at hl 0 rfl) ?_
  refine zr_geti (ci := 2) (C := R_St) (T := T_St) (N := 10) (ref := "ScrubbedRecorder$Store") hx hb hts (fun w h => List.mem_cons_of_mem _ (zin_St w h)) hown hK hH ((zkR_k hm (zk_lv1 (by omega) hgk)).trans (zk_k1 (by omega))) (by decide) rfl 1 (by decide) rfl (hw zw_125) (fun _ h9 => h9) d_St_openPage_1 ?_
  refine zt_i (y := c9 (10 + k) 1) (congrFun (zkR_i hm (zk_lv1 (by omega) hgk)) 1) ?_
  refine lv_if_eq (tgt := 22) hx hb d_St_openPage_4 (by decide) (fun hc1 => ?_) (fun hc1 => ?_)
  · skip
    have hc1 : (c9 (10 + k) 1) = (nI 0) := hc1
    exact absurd hc1 hci
  · skip
    have hc1 : ¬ (c9 (10 + k) 1) = (nI 0) := hc1
    refine lv_aload_n hx hb d_St_openPage_7 rfl (lv_at hl 0 rfl) ?_
    refine zr_geti (ci := 2) (C := R_St) (T := T_St) (N := 10) (ref := "ScrubbedRecorder$Store") hx hb hts (fun w h => List.mem_cons_of_mem _ (zin_St w h)) hown hK hH ((zkR_k hm (zk_lv1 (by omega) hgk)).trans (zk_k1 (by omega))) (by decide) rfl 7 (by decide) rfl (hw zw_134) (fun _ h9 => h9) d_St_openPage_8 ?_
    refine zt_i (y := nI cl) ((congrFun (zkR_i hm (zk_lv1 (by omega) hgk)) 7).trans (by rw [hpgs.1])) ?_
    refine lv_aload_n hx hb d_St_openPage_11 rfl (lv_at hl 0 rfl) ?_
    refine zr_geti (ci := 2) (C := R_St) (T := T_St) (N := 10) (ref := "ScrubbedRecorder$Store") hx hb hts (fun w h => List.mem_cons_of_mem _ (zin_St w h)) hown hK hH ((zkR_k hm (zk_lv1 (by omega) hgk)).trans (zk_k1 (by omega))) (by decide) rfl 6 (by decide) rfl (hw zw_132) (fun _ h9 => h9) d_St_openPage_12 ?_
    refine zt_i (y := nI qu) ((congrFun (zkR_i hm (zk_lv1 (by omega) hgk)) 6).trans (by rw [hqu])) ?_
    refine lv_icmp_ne (tgt := 22) hx hb d_St_openPage_15 (by decide) (fun hc2 => ?_) (fun hc2 => ?_)
    · skip
      have hc2 := zt_neT (a := cl) (b := qu) (by omega) (by omega) hc2
      exact absurd heq hc2
    · skip
      have hc2 := zt_neF (a := cl) (b := qu) (by omega) (by omega) hc2
      refine lv_aload_n hx hb d_St_openPage_18 rfl (lv_at hl 0 rfl) ?_
      refine zr_V (As := ([] : List Value)) (rest := []) (b := a9 (10 + k)) (ci := 2) (q := (R_St, T_St, 10)) ⟨hx, hb, hml, hown, hts⟩ (c_St_freeFirstPage hm hk4 hgk hlo hpgs.1 (by omega) hpgs.2.1 (zk_pgs_0 hpgs (by omega)).1 (zk_pgs_0 hpgs (by omega)).2) ⟨(callB_of 0 hts (zg_all zw_203) rfl rfl rfl (hw zw_4) (hw zw_200) k_St_freeFirstPage.2 ⟨Nat.le_of_ble_eq_true rfl, Nat.le_of_ble_eq_true rfl⟩), (hw zw_202), (hw zs_St_freeFirstPage)⟩ hSc hE hH hS hA rfl (by decide) ((zkR_k hm (zk_lv1 (by omega) hgk)).trans (zk_k1 (by omega))) rfl hl.1 rfl (Nat.le_of_ble_eq_true rfl) d_St_openPage_19 ⟨Nat.le_of_ble_eq_true rfl, Nat.le_of_ble_eq_true rfl⟩ (fun v3 kd3 ln3 I3 L3 R3 H locs hp hH hS => ?_)
      obtain ⟨rfl, rfl, rfl, hm⟩ := hp
      refine W.eq (g2 := F0 m 22 ls []) rfl ?_
      refine W.widen (k := 0) (n := 0) (by omega) (by omega) ?_
      have f7 : (zk_ffc c9 k cl (zk_pg c9 k)) (10 + k) 7 = nI (cl - 1) := zk_ffc_7
      have hg2 : zk_ffg c9 g9 k (zk_pg c9 k) 0 k ≠ 0 := by rw [zk_ffg_0 (by decide)]; exact hgk
      have hzz : zk_ff k cl (c9, d9, g9) = ((zk_ffc c9 k cl (zk_pg c9 k)), zb_wr 3 (zk_pg c9 k) 0 d9, zk_ffg c9 g9 k (zk_pg c9 k)) := rfl
      generalize (zk_ffc c9 k cl (zk_pg c9 k)) = C2 at hm f7 hzz
      generalize zb_wr 3 (zk_pg c9 k) 0 d9 = D2 at hm hzz
      generalize zk_ffg c9 g9 k (zk_pg c9 k) = G2 at hm hg2 hzz
      refine lv_aload_n hx hb d_St_openPage_22 rfl (lv_at hl 0 rfl) ?_
      refine zr_getr (ci := 2) (C := R_St) (T := T_St) (N := 10) (ref := "ScrubbedRecorder$Store") hx hb hts (fun w h => List.mem_cons_of_mem _ (zin_St w h)) hown hK hH ((zkR_k hm (zk_lv1 (by omega) hg2)).trans (zk_k1 (by omega))) (by decide) rfl 3 (by decide) rfl (hw zw_127) (fun _ h9 => h9) d_St_openPage_23 (zkR_st hm (by omega) hg2).2.2.1 ?_
      refine lv_aload_n hx hb d_St_openPage_26 rfl (lv_at hl 0 rfl) ?_
      refine zr_geti (ci := 2) (C := R_St) (T := T_St) (N := 10) (ref := "ScrubbedRecorder$Store") hx hb hts (fun w h => List.mem_cons_of_mem _ (zin_St w h)) hown hK hH ((zkR_k hm (zk_lv1 (by omega) hg2)).trans (zk_k1 (by omega))) (by decide) rfl 7 (by decide) rfl (hw zw_134) (fun _ h9 => h9) d_St_openPage_27 ?_
      refine zt_i (y := nI (cl - 1)) ((congrFun (zkR_i hm (zk_lv1 (by omega) hg2)) 7).trans (by rw [f7])) ?_
      refine lv_aload_n hx hb d_St_openPage_30 rfl (lv_at hl 0 rfl) ?_
      refine zr_getr (ci := 2) (C := R_St) (T := T_St) (N := 10) (ref := "ScrubbedRecorder$Store") hx hb hts (fun w h => List.mem_cons_of_mem _ (zin_St w h)) hown hK hH ((zkR_k hm (zk_lv1 (by omega) hg2)).trans (zk_k1 (by omega))) (by decide) rfl 2 (by decide) rfl (hw zw_126) (fun _ h9 => h9) d_St_openPage_31 (zkR_st hm (by omega) hg2).2.1 ?_
      have hM := zkR_mem hm
      refine zr_V (As := ([] : List Value)) (rest := [.int (nI (cl - 1)), .ref (a9 (20 + k))]) (b := a9 0) (ci := 1) (q := (R_Mem, T_Mem, 8)) ⟨hx, hb, hml, hown, hts⟩ (c_Mem_openLeastPage hM.1 hM.2.1 hM.2.2.1 hM.2.2.2.1 hM.2.2.2.2.1 hM.2.2.2.2.2.1 hM.2.2.2.2.2.2) ⟨(callB_of 0 hts (zg_all zw_305) rfl rfl rfl (hw zw_2) (hw zw_302) k_Mem_openLeastPage.2 ⟨Nat.le_of_ble_eq_true rfl, Nat.le_of_ble_eq_true rfl⟩), (hw zw_303), (hw zw_304)⟩ hSc hE hH hS hA rfl (by decide) (show kd (a9 0) = 2 from zkR_k hm (zk_lv0 (by decide))) rfl hl.1 rfl (Nat.le_of_ble_eq_true rfl) d_St_openPage_34 ⟨Nat.le_of_ble_eq_true rfl, Nat.le_of_ble_eq_true rfl⟩ (fun v4 kd4 ln4 I4 L4 R4 H locs hp hH hS => ?_)
      obtain ⟨rfl, rfl, rfl, rfl, rfl, rfl⟩ := hp
      rw [show I3 (a9 1) = C2 1 from zkR_i hm (zk_lv0 (by decide))] at hH ⊢
      have hm := zkR_wrs (zkR_I hm 1 (zb_lp (C2 1) 39) (nI 1) (zk_lv0 (by decide)) (fun h9 => absurd h9 (by decide)) (fun h9 => absurd h9 (by decide))) (zb_lp (C2 1) 39) 16
      generalize zu I3 (a9 1) (zb_lp (C2 1) 39) (nI 1) = I5 at hm hH
      generalize zb_wrs (a9 3) (zb_lp (C2 1) 39) L3 16 = L6 at hm hH
      refine W.eq (g2 := F0 m 37 ls [.int (nI (zb_lp (C2 1) 39)), .int (nI (cl - 1)), .ref (a9 (20 + k))]) rfl ?_
      refine W.widen (k := 0) (n := 0) (by omega) (by omega) ?_
      refine zr_asti (j := cl - 1) (y := nI (zb_lp (C2 1) 39)) hx hb hK hH hS ((zkR_k hm (zk_lv2 (by omega) hg2)).trans (zk_k2 (by omega))) rfl (by rw [show ln (a9 (20 + k)) = 40 from (zkR_n hm (zk_lv2 (by omega) hg2) (by rw [zk_k2 (by omega)]; decide)).trans (zk_n2 (by omega))]; exact zh_ix_n (by omega) (by omega)) d_St_openPage_37 (fun H locs hH hS => ?_)
      have hm := zkR_I hm (20 + k) (cl - 1) (nI (zb_lp (C2 1) 39)) (zk_lv2 (by omega) hg2) (fun h9 => absurd ((zk_k2 (by omega)).symm.trans h9) (by decide)) (fun h9 => absurd ((zk_k2 (by omega)).symm.trans h9) (by decide))
      generalize zu I5 (a9 (20 + k)) (cl - 1) (nI (zb_lp (C2 1) 39)) = I7 at hm hH
      refine lv_aload_n hx hb d_St_openPage_38 rfl (lv_at hl 0 rfl) ?_
      refine lv_dup hx hb d_St_openPage_39 rfl ?_
      refine zr_geti (ci := 2) (C := R_St) (T := T_St) (N := 10) (ref := "ScrubbedRecorder$Store") hx hb hts (fun w h => List.mem_cons_of_mem _ (zin_St w h)) hown hK hH ((zkR_k hm (zk_lv1 (by omega) hg2)).trans (zk_k1 (by omega))) (by decide) rfl 7 (by decide) rfl (hw zw_134) (fun _ h9 => h9) d_St_openPage_40 ?_
      refine zt_i (y := nI (cl - 1)) ((congrFun (zkR_i hm (zk_lv1 (by omega) hg2)) 7).trans (by rw [zu_ne _ _ _ (show (10 + k : Nat) ≠ 20 + k by omega), zu_ne _ _ _ (show (10 + k : Nat) ≠ 1 by omega), f7])) ?_
      refine lv_iconst (v := nI 1) hx hb d_St_openPage_43 (by decide) ?_
      refine lv_iadd hx hb d_St_openPage_44 ?_
      refine zt_i (y := nI (cl - 1 + 1)) (nI_add (cl - 1) 1) ?_
      refine zr_puti (ref := "ScrubbedRecorder$Store") (ci := 2) (C := R_St) (T := T_St) (N := 10) (x := nI (cl - 1 + 1)) (ty := .int) hx hb hts (fun w h => List.mem_cons_of_mem _ (zin_St w h)) ty_St tyok_St nm_St hown hK hH hS ((zkR_k hm (zk_lv1 (by omega) hg2)).trans (zk_k1 (by omega))) (by decide) rfl 7 (by decide) rfl (hw zw_134) (fun _ h9 => h9) rfl (by decide +kernel) rfl rfl d_St_openPage_45 (fun H locs hH hS => ?_)
      have hm := zkR_I hm (10 + k) 7 (nI (cl - 1 + 1)) (zk_lv1 (by omega) hg2) (fun h9 => absurd ((zk_k1 (by omega)).symm.trans h9) (by decide)) (fun h9 => absurd ((zk_k1 (by omega)).symm.trans h9) (by decide))
      generalize zu I7 (a9 (10 + k)) 7 (nI (cl - 1 + 1)) = I8 at hm hH
      refine lv_aload_n hx hb d_St_openPage_48 rfl (lv_at hl 0 rfl) ?_
      refine lv_iconst (v := nI 3) hx hb d_St_openPage_49 (by decide) ?_
      refine zr_puti (ref := "ScrubbedRecorder$Store") (ci := 2) (C := R_St) (T := T_St) (N := 10) (x := nI 3) (ty := .int) hx hb hts (fun w h => List.mem_cons_of_mem _ (zin_St w h)) ty_St tyok_St nm_St hown hK hH hS ((zkR_k hm (zk_lv1 (by omega) hg2)).trans (zk_k1 (by omega))) (by decide) rfl 4 (by decide) rfl (hw zw_128) (fun _ h9 => h9) rfl (by decide +kernel) rfl rfl d_St_openPage_50 (fun H locs hH hS => ?_)
      have hm := zkR_I hm (10 + k) 4 (nI 3) (zk_lv1 (by omega) hg2) (fun h9 => absurd ((zk_k1 (by omega)).symm.trans h9) (by decide)) (fun h9 => absurd ((zk_k1 (by omega)).symm.trans h9) (by decide))
      generalize zu I8 (a9 (10 + k)) 4 (nI 3) = I9 at hm hH
      refine W.widen (k := 0) (n := 0) (Nat.le_of_ble_eq_true rfl) (Nat.le_of_ble_eq_true rfl) ?_
      subst hAe
      exact W.vret hx hb hr (fun t ht hW => zc_end hS hH ht (⟨rfl, rfl, rfl, by rw [hzz]; exact hm⟩)) hS.2.2 d_St_openPage_53

set_option maxHeartbeats 4000000 in
set_option maxRecDepth 100000 in
/-- Store.freeAllPages -/
theorem c_St_freeAllPages {l : Launch} {D : va_G} {cA : Nat → ClassId} {te mi : Nat} {kd ln : Nat → Nat} {I : Nat → Nat → Int32} {L : Nat → Nat → Int64} {R : Nat → Nat → Option Nat} {X : Nat} {a9 e9 : Nat → Nat} {c9 : Nat → Nat → Int32} {d9 : Nat → Nat → Int64} {g9 : Nat → Nat → Nat} (hm : zkR X te a9 e9 c9 d9 g9 kd ln I L R) {k : Nat} (hk4 : k < 4) (hgk : g9 0 k ≠ 0) {cl : Nat} (hlo : g9 1 k ≤ g9 2 k) (hpgs : zk_pgs c9 k cl) : zc_M l y_St_freeAllPages w_St_freeAllPages { frames := 4, cells := 0, slots := 0, locals := 108 } 0 0 D cA te mi ([.ref (a9 (10 + k))] : List Value) kd ln I L R (zk_P none X te a9 e9 ((zk_da k cl (c9, d9, g9)).1) ((zk_da k cl (c9, d9, g9)).2.1) ((zk_da k cl (c9, d9, g9)).2.2) kd ln) := by
  intro sz
  refine Met.ofW (cc := b_St_freeAllPages) (maxL := 2) (ret := none) (by decide +kernel) rfl ?_
  intro p e s m args below meth c s₁ B hml hv
  obtain ⟨rfl, hsz, hSc, hE, hH⟩ := hv
  have hx := B.exec
  have hb := B.bytes
  have hr := B.returns
  have hts := atoms_spec (ws := w_St_freeAllPages) B.pre
  have hw : ∀ {w : Cond}, w ∈ zw → w.before ([.ref (a9 (10 + k))] : List Value).toArray s = true := fun h => hts _ (List.mem_cons_of_mem _ h)
  have hown : s.vm.findClass R_St = some m.cls := findClass_of_methodNamed B.named
  have hlocks := B.notSynchronized
  subst hsz
  have hK := hSc.1
  have hH : zh_H D cA (zc_A kd s.heap.size) kd ln I L R s.heap := hH.weaken (fun q h _ => Or.inl h)
  generalize hAe : zc_A kd s.heap.size = A at hH hE ⊢
  have hA : ∀ q : Nat, s.heap.size ≤ q → A q := fun q h => by rw [← hAe]; exact Or.inr h
  have hS : va_S A s.heap s.heap [] := va_S.rf
  have hl := lv_entry ([.ref (a9 (10 + k))] : List Value) (n := 2) (Nat.le_of_ble_eq_true rfl)
  rw [lg_entry_eq]
  generalize (lg_sl ([.ref (a9 (10 + k))] : List Value) ++ List.replicate (2 - (lg_sl ([.ref (a9 (10 + k))] : List Value)).length) Slot.unset).toArray = ls at hl ⊢
  have hl : lv_has ls 2 [(0, .ref (a9 (10 + k)))] := hl
  refine lv_aload_n hx hb d_St_freeAllPages_0 rfl (lv_at hl 0 rfl) ?_
  refine zr_geti (ci := 2) (C := R_St) (T := T_St) (N := 10) (ref := "ScrubbedRecorder$Store") hx hb hts (fun w h => List.mem_cons_of_mem _ (zin_St w h)) hown hK hH ((zkR_k hm (zk_lv1 (by omega) hgk)).trans (zk_k1 (by omega))) (by decide) rfl 7 (by decide) rfl (hw zw_134) (fun _ h9 => h9) d_St_freeAllPages_1 ?_
  refine zt_i (y := nI cl) ((congrFun (zkR_i hm (zk_lv1 (by omega) hgk)) 7).trans (by rw [hpgs.1])) ?_
  refine lv_istore_n (lv' := [(1, .int (nI cl)), (0, .ref (a9 (10 + k)))]) hx hb d_St_freeAllPages_4 rfl hl (by decide) rfl (fun ls hl => ?_)
  have loop_5 : ∀ (z : Nat) (n9 : Nat) (C1 : Nat → Nat → Int32) (D1 : Nat → Nat → Int64) (G1 : Nat → Nat → Nat) (I_5 : Nat → Nat → Int32) (L_5 : Nat → Nat → Int64) (R_5 : Nat → Nat → Option Nat) (H : Heap) (locs : List Loc) (ls : Array Slot), n9 < z → (zk_pgs C1 k n9) → (G1 0 k ≠ 0) → (G1 1 k ≤ G1 2 k) → (zk_da k n9 (C1, D1, G1) = zk_da k cl (c9, d9, g9)) → (zkR X te a9 e9 C1 D1 G1 kd ln I_5 L_5 R_5) → lv_has ls 2 [(0, .ref (a9 (10 + k))), (1, .int (nI n9))] → zh_H D cA A kd ln I_5 L_5 R_5 H → va_S A s.heap H locs → W p l e (headSpec w_St_freeAllPages { frames := 4, cells := 0, slots := 0, locals := 108 }).room s m ([.ref (a9 (10 + k))] : List Value).toArray below meth c H locs 0 0 (MQ below (zc_Qc D cA A (zk_P none X te a9 e9 ((zk_da k cl (c9, d9, g9)).1) ((zk_da k cl (c9, d9, g9)).2.1) ((zk_da k cl (c9, d9, g9)).2.2) kd ln)) ([.ref (a9 (10 + k))] : List Value).toArray s 0 0 A) (F0 m 5 ls []) := by
    intro z
    induction z with
    | zero => intro n9 C1 D1 G1 I_5 L_5 R_5 H locs ls hz; exact absurd hz (Nat.not_lt_zero _)
    | succ z ih_5 =>
      intro n9 C1 D1 G1 I_5 L_5 R_5 H locs ls hz_5 hpg9 hg9k hlo9 hda hm hl hH hS
      have hle40 := hpg9.2.1
      refine lv_iload_n hx hb d_St_freeAllPages_5 rfl (lv_at hl 1 rfl) ?_
      refine lv_if_le (tgt := 19) hx hb d_St_freeAllPages_6 (by decide) (fun hc1 => ?_) (fun hc1 => ?_)
      · skip
        have hc1 := zt_leT (a := n9) (b := 0) (by omega) (by omega) hc1
        have hz9 : zk_da k cl (c9, d9, g9) = (C1, D1, G1) := by rw [← hda, show n9 = 0 by omega]; rfl
        refine W.widen (k := 0) (n := 0) (Nat.le_of_ble_eq_true rfl) (Nat.le_of_ble_eq_true rfl) ?_
        subst hAe
        exact W.vret hx hb hr (fun t ht hW => zc_end hS hH ht (⟨rfl, rfl, rfl, by rw [hz9]; exact hm⟩)) hS.2.2 d_St_freeAllPages_19
      · skip
        have hc1 := zt_leF (a := n9) (b := 0) (by omega) (by omega) hc1
        refine lv_aload_n hx hb d_St_freeAllPages_9 rfl (lv_at hl 0 rfl) ?_
        refine zr_V (As := ([] : List Value)) (rest := []) (b := a9 (10 + k)) (ci := 2) (q := (R_St, T_St, 10)) ⟨hx, hb, hml, hown, hts⟩ (c_St_freeFirstPage hm hk4 hg9k hlo9 hpg9.1 (by omega) hpg9.2.1 (zk_pgs_0 hpg9 (by omega)).1 (zk_pgs_0 hpg9 (by omega)).2) ⟨(callB_of 0 hts (zg_all zw_203) rfl rfl rfl (hw zw_4) (hw zw_200) k_St_freeFirstPage.2 ⟨Nat.le_of_ble_eq_true rfl, Nat.le_of_ble_eq_true rfl⟩), (hw zw_202), (hw zs_St_freeFirstPage)⟩ hSc hE hH hS hA rfl (by decide) ((zkR_k hm (zk_lv1 (by omega) hg9k)).trans (zk_k1 (by omega))) rfl hl.1 rfl (Nat.le_of_ble_eq_true rfl) d_St_freeAllPages_10 ⟨Nat.le_of_ble_eq_true rfl, Nat.le_of_ble_eq_true rfl⟩ (fun v2 kd2 ln2 I2 L2 R2 H locs hp hH hS => ?_)
        obtain ⟨rfl, rfl, rfl, hm⟩ := hp
        refine W.eq (g2 := F0 m 13 ls []) rfl ?_
        refine W.widen (k := 0) (n := 0) (by omega) (by omega) ?_
        refine lv_iinc (k := 1) (v := nI (n9 - 1)) (lv' := [(1, .int (nI (n9 - 1))), (0, .ref (a9 (10 + k)))]) hx hb d_St_freeAllPages_13 hl rfl (zt_dec (by omega)) (by decide) rfl (fun ls hl => ?_)
        refine lv_goto (tgt := 5) hx hb d_St_freeAllPages_16 (by decide) ?_
        exact ih_5 (n9 - 1) (zk_ffc C1 k n9 (zk_pg C1 k)) (zb_wr 3 (zk_pg C1 k) 0 D1) (zk_ffg C1 G1 k (zk_pg C1 k)) _ _ _ _ _ _ (by omega) (zk_pgs_ff hpg9) (by rw [zk_ffg_0 (by decide)]; exact hg9k) (zk_ffg_lo hlo9) (by rw [← hda, zk_da_s (n := n9) (by omega)]; rfl) hm (lv_sub hl [1, 0] rfl) hH hS
  exact loop_5 _ cl c9 d9 g9 _ _ _ _ _ _ (Nat.lt_succ_self _) hpgs hgk hlo rfl hm (lv_sub hl [1, 0] rfl) hH hS

set_option maxHeartbeats 4000000 in
set_option maxRecDepth 100000 in
/-- Store.prune -/
theorem c_St_prune {l : Launch} {D : va_G} {cA : Nat → ClassId} {te mi : Nat} {kd ln : Nat → Nat} {I : Nat → Nat → Int32} {L : Nat → Nat → Int64} {R : Nat → Nat → Option Nat} {X : Nat} {a9 e9 : Nat → Nat} {c9 : Nat → Nat → Int32} {d9 : Nat → Nat → Int64} {g9 : Nat → Nat → Nat} (hm : zkR X te a9 e9 c9 d9 g9 kd ln I L R) {k : Nat} (hk4 : k < 4) (hgk : g9 0 k ≠ 0) {cl : Nat} (hlo : g9 1 k ≤ g9 2 k) (hpgs : zk_pgs c9 k cl) : zc_M l y_St_prune w_St_prune { frames := 4, cells := 0, slots := 0, locals := 108 } 0 0 D cA te mi ([.ref (a9 (10 + k))] : List Value) kd ln I L R (zk_P none X te a9 e9 ((zk_prn k cl (c9, d9, g9)).1) ((zk_prn k cl (c9, d9, g9)).2.1) ((zk_prn k cl (c9, d9, g9)).2.2) kd ln) := by
  intro sz
  refine Met.ofW (cc := b_St_prune) (maxL := 2) (ret := none) (by decide +kernel) rfl ?_
  intro p e s m args below meth c s₁ B hml hv
  obtain ⟨rfl, hsz, hSc, hE, hH⟩ := hv
  have hx := B.exec
  have hb := B.bytes
  have hr := B.returns
  have hts := atoms_spec (ws := w_St_prune) B.pre
  have hw : ∀ {w : Cond}, w ∈ zw → w.before ([.ref (a9 (10 + k))] : List Value).toArray s = true := fun h => hts _ (List.mem_cons_of_mem _ h)
  have hown : s.vm.findClass R_St = some m.cls := findClass_of_methodNamed B.named
  have hlocks := B.notSynchronized
  subst hsz
  have hK := hSc.1
  have hH : zh_H D cA (zc_A kd s.heap.size) kd ln I L R s.heap := hH.weaken (fun q h _ => Or.inl h)
  generalize hAe : zc_A kd s.heap.size = A at hH hE ⊢
  have hA : ∀ q : Nat, s.heap.size ≤ q → A q := fun q h => by rw [← hAe]; exact Or.inr h
  have hS : va_S A s.heap s.heap [] := va_S.rf
  have hl := lv_entry ([.ref (a9 (10 + k))] : List Value) (n := 2) (Nat.le_of_ble_eq_true rfl)
  rw [lg_entry_eq]
  generalize (lg_sl ([.ref (a9 (10 + k))] : List Value) ++ List.replicate (2 - (lg_sl ([.ref (a9 (10 + k))] : List Value)).length) Slot.unset).toArray = ls at hl ⊢
  have hl : lv_has ls 2 [(0, .ref (a9 (10 + k)))] := hl
  have hle41 := hpgs.2.1
  refine lv_aload_n hx hb d_St_prune_0 rfl (lv_at hl 0 rfl) ?_
  refine zr_geti (ci := 2) (C := R_St) (T := T_St) (N := 10) (ref := "ScrubbedRecorder$Store") hx hb hts (fun w h => List.mem_cons_of_mem _ (zin_St w h)) hown hK hH ((zkR_k hm (zk_lv1 (by omega) hgk)).trans (zk_k1 (by omega))) (by decide) rfl 1 (by decide) rfl (hw zw_125) (fun _ h9 => h9) d_St_prune_1 ?_
  refine zt_i (y := c9 (10 + k) 1) (congrFun (zkR_i hm (zk_lv1 (by omega) hgk)) 1) ?_
  refine lv_if_eq (tgt := 8) hx hb d_St_prune_4 (by decide) (fun hc1 => ?_) (fun hc1 => ?_)
  · skip
    have hc1 : (c9 (10 + k) 1) = (nI 0) := hc1
    refine lv_aload_n hx hb d_St_prune_8 rfl (lv_at hl 0 rfl) ?_
    refine zr_geti (ci := 2) (C := R_St) (T := T_St) (N := 10) (ref := "ScrubbedRecorder$Store") hx hb hts (fun w h => List.mem_cons_of_mem _ (zin_St w h)) hown hK hH ((zkR_k hm (zk_lv1 (by omega) hgk)).trans (zk_k1 (by omega))) (by decide) rfl 7 (by decide) rfl (hw zw_134) (fun _ h9 => h9) d_St_prune_9 ?_
    refine zt_i (y := nI cl) ((congrFun (zkR_i hm (zk_lv1 (by omega) hgk)) 7).trans (by rw [hpgs.1])) ?_
    refine lv_istore_n (lv' := [(1, .int (nI cl)), (0, .ref (a9 (10 + k)))]) hx hb d_St_prune_12 rfl hl (by decide) rfl (fun ls hl => ?_)
    have loop_13 : ∀ (z : Nat) (n9 : Nat) (C1 : Nat → Nat → Int32) (D1 : Nat → Nat → Int64) (G1 : Nat → Nat → Nat) (I_13 : Nat → Nat → Int32) (L_13 : Nat → Nat → Int64) (R_13 : Nat → Nat → Option Nat) (H : Heap) (locs : List Loc) (ls : Array Slot), n9 < z → (zk_pgs C1 k n9) → (G1 0 k ≠ 0) → (G1 1 k ≤ G1 2 k) → (zk_pr k n9 (C1, D1, G1) = zk_pr k cl (c9, d9, g9)) → (zkR X te a9 e9 C1 D1 G1 kd ln I_13 L_13 R_13) → lv_has ls 2 [(0, .ref (a9 (10 + k))), (1, .int (nI n9))] → zh_H D cA A kd ln I_13 L_13 R_13 H → va_S A s.heap H locs → W p l e (headSpec w_St_prune { frames := 4, cells := 0, slots := 0, locals := 108 }).room s m ([.ref (a9 (10 + k))] : List Value).toArray below meth c H locs 0 0 (MQ below (zc_Qc D cA A (zk_P none X te a9 e9 ((zk_prn k cl (c9, d9, g9)).1) ((zk_prn k cl (c9, d9, g9)).2.1) ((zk_prn k cl (c9, d9, g9)).2.2) kd ln)) ([.ref (a9 (10 + k))] : List Value).toArray s 0 0 A) (F0 m 13 ls []) := by
      intro z
      induction z with
      | zero => intro n9 C1 D1 G1 I_13 L_13 R_13 H locs ls hz; exact absurd hz (Nat.not_lt_zero _)
      | succ z ih_13 =>
        intro n9 C1 D1 G1 I_13 L_13 R_13 H locs ls hz_13 hpg9 hg9k hlo9 hda hm hl hH hS
        have hle40 := hpg9.2.1
        refine lv_iload_n hx hb d_St_prune_13 rfl (lv_at hl 1 rfl) ?_
        refine lv_iconst (v := nI 1) hx hb d_St_prune_14 (by decide) ?_
        refine lv_icmp_le (tgt := 35) hx hb d_St_prune_15 (by decide) (fun hc2 => ?_) (fun hc2 => ?_)
        · skip
          have hc2 := zt_leT (a := n9) (b := 1) (by omega) (by omega) hc2
          have hz9 : zk_pr k cl (c9, d9, g9) = (C1, D1, G1) := by rw [← hda, zk_pr_s (n := n9), if_pos (by omega)]
          refine W.widen (k := 0) (n := 0) (Nat.le_of_ble_eq_true rfl) (Nat.le_of_ble_eq_true rfl) ?_
          subst hAe
          exact W.vret hx hb hr (fun t ht hW => zc_end hS hH ht (⟨rfl, rfl, rfl, by rw [zk_prn, if_pos (show (c9, d9, g9).1 (10 + k) 1 = nI 0 from hc1), hz9]; exact hm⟩)) hS.2.2 d_St_prune_35
        · skip
          have hc2 := zt_leF (a := n9) (b := 1) (by omega) (by omega) hc2
          refine lv_aload_n hx hb d_St_prune_18 rfl (lv_at hl 0 rfl) ?_
          refine zr_V (As := ([] : List Value)) (rest := []) (b := a9 (10 + k)) (ci := 2) (q := (R_St, T_St, 10)) ⟨hx, hb, hml, hown, hts⟩ (c_St_isFirstPageDone hm hk4 hg9k) ⟨(callB_of 0 hts (zg_all zw_362) rfl rfl rfl (hw zw_4) (hw zw_359) k_St_isFirstPageDone.2 ⟨Nat.le_of_ble_eq_true rfl, Nat.le_of_ble_eq_true rfl⟩), (hw zw_361), (hw zs_St_isFirstPageDone)⟩ hSc hE hH hS hA rfl (by decide) ((zkR_k hm (zk_lv1 (by omega) hg9k)).trans (zk_k1 (by omega))) rfl hl.1 rfl (Nat.le_of_ble_eq_true rfl) d_St_prune_19 ⟨Nat.le_of_ble_eq_true rfl, Nat.le_of_ble_eq_true rfl⟩ (fun v3 kd3 ln3 I3 L3 R3 H locs hp hH hS => ?_)
          obtain ⟨rfl, rfl, rfl, rfl, rfl, rfl⟩ := hp
          refine W.eq (g2 := F0 m 22 ls [.int (zk_fd C1 k (G1 2 k) (G1 2 k - G1 1 k))]) rfl ?_
          refine W.widen (k := 0) (n := 0) (by omega) (by omega) ?_
          refine lv_if_eq (tgt := 35) hx hb d_St_prune_22 (by decide) (fun hc4 => ?_) (fun hc4 => ?_)
          · skip
            have hc4 : (zk_fd C1 k (G1 2 k) (G1 2 k - G1 1 k)) = (nI 0) := hc4
            have hz9 : zk_pr k cl (c9, d9, g9) = (C1, D1, G1) := by rw [← hda, zk_pr_s (n := n9), if_neg (show ¬ n9 ≤ 1 by omega), if_pos (show zk_fd (C1, D1, G1).1 k ((C1, D1, G1).2.2 2 k) ((C1, D1, G1).2.2 2 k - (C1, D1, G1).2.2 1 k) = nI 0 from hc4)]
            refine W.widen (k := 0) (n := 0) (Nat.le_of_ble_eq_true rfl) (Nat.le_of_ble_eq_true rfl) ?_
            subst hAe
            exact W.vret hx hb hr (fun t ht hW => zc_end hS hH ht (⟨rfl, rfl, rfl, by rw [zk_prn, if_pos (show (c9, d9, g9).1 (10 + k) 1 = nI 0 from hc1), hz9]; exact hm⟩)) hS.2.2 d_St_prune_35
          · skip
            have hc4 : ¬ (zk_fd C1 k (G1 2 k) (G1 2 k - G1 1 k)) = (nI 0) := hc4
            refine lv_aload_n hx hb d_St_prune_25 rfl (lv_at hl 0 rfl) ?_
            refine zr_V (As := ([] : List Value)) (rest := []) (b := a9 (10 + k)) (ci := 2) (q := (R_St, T_St, 10)) ⟨hx, hb, hml, hown, hts⟩ (c_St_freeFirstPage hm hk4 hg9k hlo9 hpg9.1 (by omega) hpg9.2.1 (zk_pgs_0 hpg9 (by omega)).1 (zk_pgs_0 hpg9 (by omega)).2) ⟨(callB_of 0 hts (zg_all zw_203) rfl rfl rfl (hw zw_4) (hw zw_200) k_St_freeFirstPage.2 ⟨Nat.le_of_ble_eq_true rfl, Nat.le_of_ble_eq_true rfl⟩), (hw zw_202), (hw zs_St_freeFirstPage)⟩ hSc hE hH hS hA rfl (by decide) ((zkR_k hm (zk_lv1 (by omega) hg9k)).trans (zk_k1 (by omega))) rfl hl.1 rfl (Nat.le_of_ble_eq_true rfl) d_St_prune_26 ⟨Nat.le_of_ble_eq_true rfl, Nat.le_of_ble_eq_true rfl⟩ (fun v5 kd5 ln5 I5 L5 R5 H locs hp hH hS => ?_)
            obtain ⟨rfl, rfl, rfl, hm⟩ := hp
            refine W.eq (g2 := F0 m 29 ls []) rfl ?_
            refine W.widen (k := 0) (n := 0) (by omega) (by omega) ?_
            refine lv_iinc (k := 1) (v := nI (n9 - 1)) (lv' := [(1, .int (nI (n9 - 1))), (0, .ref (a9 (10 + k)))]) hx hb d_St_prune_29 hl rfl (zt_dec (by omega)) (by decide) rfl (fun ls hl => ?_)
            refine lv_goto (tgt := 13) hx hb d_St_prune_32 (by decide) ?_
            exact ih_13 (n9 - 1) (zk_ffc C1 k n9 (zk_pg C1 k)) (zb_wr 3 (zk_pg C1 k) 0 D1) (zk_ffg C1 G1 k (zk_pg C1 k)) _ _ _ _ _ _ (by omega) (zk_pgs_ff hpg9) (by rw [zk_ffg_0 (by decide)]; exact hg9k) (zk_ffg_lo hlo9) (by rw [← hda, zk_pr_s (n := n9), if_neg (show ¬ n9 ≤ 1 by omega), if_neg (show ¬ zk_fd (C1, D1, G1).1 k ((C1, D1, G1).2.2 2 k) ((C1, D1, G1).2.2 2 k - (C1, D1, G1).2.2 1 k) = nI 0 from hc4)]; rfl) hm (lv_sub hl [1, 0] rfl) hH hS
    exact loop_13 _ cl c9 d9 g9 _ _ _ _ _ _ (Nat.lt_succ_self _) hpgs hgk hlo rfl hm (lv_sub hl [1, 0] rfl) hH hS
  · skip
    have hc1 : ¬ (c9 (10 + k) 1) = (nI 0) := hc1
    refine W.widen (k := 0) (n := 0) (Nat.le_of_ble_eq_true rfl) (Nat.le_of_ble_eq_true rfl) ?_
    subst hAe
    exact W.vret hx hb hr (fun t ht hW => zc_end hS hH ht (⟨rfl, rfl, rfl, by rw [zk_prn, if_neg (show ¬ (c9, d9, g9).1 (10 + k) 1 = nI 0 from hc1)]; exact hm⟩)) hS.2.2 d_St_prune_7
