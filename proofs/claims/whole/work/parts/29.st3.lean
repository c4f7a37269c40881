theorem zh_te {D : va_G} {cA : Nat → ClassId} {A : Nat → Prop} {kd ln : Nat → Nat} {I : Nat → Nat → Int32} {L : Nat → Nat → Int64} {R : Nat → Nat → Option Nat} {te : Nat} {U : State} {H H0 : Heap} (hE : zh_E te A U H0) (hH : zh_H D cA A kd ln I L R H) : kd te = 0 := Decidable.byContradiction fun e => hE.2.out (hH.inA e).1
def zk_opn (k : Nat) (z : (Nat → Nat → Int32) × (Nat → Nat → Int64) × (Nat → Nat → Nat)) : (Nat → Nat → Int32) × (Nat → Nat → Int64) × (Nat → Nat → Nat) := if z.1 (10 + k) 1 = nI 0 then zk_op k (z.1 (10 + k) 7).toNatClampNeg z else if z.1 (10 + k) 7 = z.1 (10 + k) 6 then zk_op k ((z.1 (10 + k) 7).toNatClampNeg - 1) (zk_ff k (z.1 (10 + k) 7).toNatClampNeg z) else zk_op k (z.1 (10 + k) 7).toNatClampNeg z
def zk_wa (k : Nat) (z : (Nat → Nat → Int32) × (Nat → Nat → Int64) × (Nat → Nat → Nat)) : (Nat → Nat → Int32) × (Nat → Nat → Int64) × (Nat → Nat → Nat) := if z.1 (10 + k) 4 = nI 16 then zk_opn k z else z
def zk_lpg (c : Nat → Nat → Int32) (k : Nat) : Nat := (c (20 + k) ((c (10 + k) 7).toNatClampNeg - 1)).toNatClampNeg
def zk_nw (c : Nat → Nat → Int32) (k : Nat) : Nat := (c (10 + k) 4).toNatClampNeg
def zk_wb (k w : Nat) (z : (Nat → Nat → Int32) × (Nat → Nat → Int64) × (Nat → Nat → Nat)) : (Nat → Nat → Int32) × (Nat → Nat → Int64) × (Nat → Nat → Nat) := (zu (if w = 0 then zu z.1 96 4 (nI (zk_lpg z.1 k)) else z.1) (10 + k) 4 (nI (zk_nw z.1 k + 1)), zb_wr 3 (zk_lpg z.1 k) (zk_nw z.1 k) z.2.1, z.2.2)
def zk_wn (k : Nat) : Nat → (Nat → Nat → Int32) × (Nat → Nat → Int64) × (Nat → Nat → Nat) → (Nat → Nat → Int32) × (Nat → Nat → Int64) × (Nat → Nat → Nat)
  | 0, z => z
  | n + 1, z => zk_wb k n (zk_wa k (zk_wn k n z))
def zk_ok (k : Nat) (z : (Nat → Nat → Int32) × (Nat → Nat → Int64) × (Nat → Nat → Nat)) : Prop := ∃ cl nw qu, zk_pgs z.1 k cl ∧ z.1 (10 + k) 4 = nI nw ∧ 3 ≤ nw ∧ nw ≤ 16 ∧ z.1 (10 + k) 6 = nI qu ∧ 1 ≤ qu ∧ qu ≤ 40 ∧ cl ≤ qu ∧ (nw = 16 ∨ 1 ≤ cl) ∧ (nw = 16 → z.1 (10 + k) 1 = nI 0 → cl < qu) ∧ z.2.2 0 k ≠ 0 ∧ z.2.2 1 k ≤ z.2.2 2 k ∧ z.2.2 6 0 ≠ 0
def zk_okb (k : Nat) (z : (Nat → Nat → Int32) × (Nat → Nat → Int64) × (Nat → Nat → Nat)) : Prop := ∃ cl nw, zk_pgs z.1 k cl ∧ z.1 (10 + k) 4 = nI nw ∧ 3 ≤ nw ∧ nw < 16 ∧ 1 ≤ cl ∧ z.2.2 0 k ≠ 0 ∧ z.2.2 1 k ≤ z.2.2 2 k ∧ z.2.2 6 0 ≠ 0
theorem zb_lp_le (c : Nat → Int32) : ∀ n, zb_lp c n ≤ 39
  | 0 => Nat.le_refl _
  | n + 1 => by
    have := zb_lp_le c n
    rw [zb_lp]
    split <;> omega
theorem zk_pgs_op {c : Nat → Nat → Int32} {k cl pg : Nat} (h : zk_pgs c k cl) (hc : cl < 40) (hg : pg < 40) : zk_pgs (zk_opc c k cl pg) k (cl + 1) := by
  refine ⟨?_, by omega, fun i hi => ?_⟩
  · unfold zk_opc
    rw [zu_k _ _ _ _ (by decide), zu_self]
  · unfold zk_opc
    rw [zu_ne _ _ _ (show 20 + k ≠ 10 + k by omega), zu_ne _ _ _ (show 20 + k ≠ 10 + k by omega)]
    by_cases e : i = cl
    · rw [e, zu_self]
      exact ⟨pg, hg, rfl⟩
    · rw [zu_k _ _ _ _ e, zu_ne _ _ _ (show 20 + k ≠ 1 by omega)]
      exact h.2.2 i (by omega)
theorem zk_opn_N {k cl qu : Nat} {z : (Nat → Nat → Int32) × (Nat → Nat → Int64) × (Nat → Nat → Nat)} (h1 : z.1 (10 + k) 7 = nI cl) (h2 : z.1 (10 + k) 6 = nI qu) (hc : cl < 2 ^ 31) (hq : qu < 2 ^ 31) (h : z.1 (10 + k) 1 = nI 0 ∨ ¬ cl = qu) : zk_opn k z = zk_op k cl z := by
  unfold zk_opn
  rw [h1, h2, nI_clamp hc]
  by_cases e : z.1 (10 + k) 1 = nI 0
  · rw [if_pos e]
  · rw [if_neg e, if_neg (fun e2 => (h.resolve_left e) ((nI_eq hc hq).mp e2))]
theorem zk_opn_F {k cl qu : Nat} {z : (Nat → Nat → Int32) × (Nat → Nat → Int64) × (Nat → Nat → Nat)} (h1 : z.1 (10 + k) 7 = nI cl) (h2 : z.1 (10 + k) 6 = nI qu) (hc : cl < 2 ^ 31) (h : ¬ z.1 (10 + k) 1 = nI 0) (h3 : cl = qu) : zk_opn k z = zk_op k (cl - 1) (zk_ff k cl z) := by
  unfold zk_opn
  rw [h1, h2, nI_clamp hc, if_neg h, if_pos (by rw [h3])]
theorem zk_opc_4 {c : Nat → Nat → Int32} {k cl pg : Nat} : zk_opc c k cl pg (10 + k) 4 = nI 3 := zu_self _ _ _ _
theorem zk_okb_opn {k : Nat} {z : (Nat → Nat → Int32) × (Nat → Nat → Int64) × (Nat → Nat → Nat)} (h : zk_ok k z) (h16 : z.1 (10 + k) 4 = nI 16) : zk_okb k (zk_opn k z) := by
  obtain ⟨cl, nw, qu, h1, h2, h3, h4, h5, h6, h7, h8, h9, h10, h11, h12, h13⟩ := h
  have h40 := h1.2.1
  have hnw : nw = 16 := (nI_eq (by omega) (by omega)).mp (h2.symm.trans h16)
  by_cases e0 : z.1 (10 + k) 1 = nI 0
  · rw [zk_opn_N h1.1 h5 (by omega) (by omega) (Or.inl e0)]
    have := h10 hnw e0
    exact ⟨cl + 1, 3, zk_pgs_op h1 (by omega) (Nat.lt_succ_of_le (zb_lp_le _ _)), zk_opc_4, by decide, by decide, by omega, h11, h12, h13⟩
  · by_cases e : cl = qu
    · rw [zk_opn_F h1.1 h5 (by omega) e0 e]
      refine ⟨cl - 1 + 1, 3, zk_pgs_op (zk_pgs_ff h1) (by omega) (Nat.lt_succ_of_le (zb_lp_le _ _)), zk_opc_4, by decide, by decide, by omega, ?_, zk_ffg_lo h12, ?_⟩
      · show zk_ffg z.1 z.2.2 k (zk_pg z.1 k) 0 k ≠ 0
        rw [zk_ffg_0 (by decide)]
        exact h11
      · show zk_ffg z.1 z.2.2 k (zk_pg z.1 k) 6 0 ≠ 0
        rw [zk_ffg_0 (by decide)]
        exact h13
    · rw [zk_opn_N h1.1 h5 (by omega) (by omega) (Or.inr e)]
      exact ⟨cl + 1, 3, zk_pgs_op h1 (by omega) (Nat.lt_succ_of_le (zb_lp_le _ _)), zk_opc_4, by decide, by decide, by omega, h11, h12, h13⟩
/-- the state as a packet is made -/
def zk_ap0 (c : Nat → Nat → Int32) (d : Nat → Nat → Int64) (g : Nat → Nat → Nat) (k : Nat) (a t : Int32) (n : Nat) : (Nat → Nat → Int32) × (Nat → Nat → Int64) × (Nat → Nat → Nat) := (va_up (va_up c 96 (zk_pi (c (10 + k) 0) (c (10 + k) 8) t)) 97 (zk_te (c 2) a t n), va_up (va_up d 96 (fun _ => 0)) 97 (fun _ => 0), zu (zu g 6 0 1) 4 97 (6 + n))
def zk_ap1 (k : Nat) (t : Int32) (z : (Nat → Nat → Int32) × (Nat → Nat → Int64) × (Nat → Nat → Nat)) : (Nat → Nat → Int32) × (Nat → Nat → Int64) × (Nat → Nat → Nat) := (zu (zu (zk_ad2 z.1 k (z.2.2 2 k)) (10 + k) 8 (nI (z.2.2 2 k + 1))) (10 + k) 9 t, zk_ad2 z.2.1 k (z.2.2 2 k), zk_adg z.2.2 k)
/-- what the end of an addition wants of the state -/
def zk_fin (k : Nat) (z : (Nat → Nat → Int32) × (Nat → Nat → Int64) × (Nat → Nat → Nat)) : Prop := z.2.2 0 k ≠ 0 ∧ z.2.2 1 k ≤ z.2.2 2 k ∧ z.2.2 6 0 ≠ 0 ∧ (∀ p, p < 4 → z.2.2 3 p ≤ 4) ∧ z.1 (10 + k) 8 = nI (z.2.2 2 k) ∧ z.2.2 2 k - z.2.2 1 k ≤ 900
abbrev zk_A (V : Option Value) (X te : Nat) (a9 : Nat → Nat) (c : Nat → Nat → Int32) (d : Nat → Nat → Int64) (g : Nat → Nat → Nat) : zc_T := fun v1 kd1 ln1 I1 L1 R1 => V = v1 ∧ ∃ a1 e1, (∀ r, r < 90 → a1 r = a9 r) ∧ zkR X te a1 e1 c d g kd1 ln1 I1 L1 R1

set_option maxHeartbeats 4000000 in
set_option maxRecDepth 100000 in
/-- Store.append -/
theorem c_St_append {l : Launch} {D : va_G} {cA : Nat → ClassId} {te mi : Nat} {kd ln : Nat → Nat} {I : Nat → Nat → Int32} {L : Nat → Nat → Int64} {R : Nat → Nat → Option Nat} {X : Nat} {a9 e9 : Nat → Nat} {c9 : Nat → Nat → Int32} {d9 : Nat → Nat → Int64} {g9 : Nat → Nat → Nat} (hm : zkR X te a9 e9 c9 d9 g9 kd ln I L R) {k : Nat} (hk4 : k < 4) (hgk : g9 0 k ≠ 0) {n : Nat} {a t : Int32} (hn : n ≤ 60) (h6 : g9 6 0 = 0) (h39 : ∀ p, p < 4 → g9 3 p ≤ 4) (hby : ∀ i, fits .byte (.int (c9 2 i)) = true) (hok : ∀ w, w < (2 + (n + 3) / 4) → zk_ok k (zk_wn k w (zk_ap0 c9 d9 g9 k a t n))) (hend : zk_fin k (zk_wn k (2 + (n + 3) / 4) (zk_ap0 c9 d9 g9 k a t n))) : zc_M l y_St_append w_St_append { frames := 7, cells := 3, slots := 1574, locals := 171 } 3 1574 D cA te mi ([.ref (a9 (10 + k)), .int a, .int t, .ref (a9 2), .int (nI n)] : List Value) kd ln I L R (zk_A (some (.int ((zk_wn k (2 + (n + 3) / 4) (zk_ap0 c9 d9 g9 k a t n)).1 96 2))) X te a9 (zk_ap1 k t (zk_wn k (2 + (n + 3) / 4) (zk_ap0 c9 d9 g9 k a t n))).1 (zk_ap1 k t (zk_wn k (2 + (n + 3) / 4) (zk_ap0 c9 d9 g9 k a t n))).2.1 (zk_ap1 k t (zk_wn k (2 + (n + 3) / 4) (zk_ap0 c9 d9 g9 k a t n))).2.2) := by
  intro sz
  refine Met.ofW (cc := b_St_append) (maxL := 9) (ret := (some (.int))) (by decide +kernel) rfl ?_
  intro p e s m args below meth c s₁ B hml hv
  obtain ⟨rfl, hsz, hSc, hE, hH⟩ := hv
  have hx := B.exec
  have hb := B.bytes
  have hr := B.returns
  have hts := atoms_spec (ws := w_St_append) B.pre
  have hw : ∀ {w : Cond}, w ∈ zw → w.before ([.ref (a9 (10 + k)), .int a, .int t, .ref (a9 2), .int (nI n)] : List Value).toArray s = true := fun h => hts _ (List.mem_cons_of_mem _ h)
  have hown : s.vm.findClass R_St = some m.cls := findClass_of_methodNamed B.named
  have hlocks := B.notSynchronized
  subst hsz
  have hK := hSc.1
  have hH : zh_H D cA (zc_A kd s.heap.size) kd ln I L R s.heap := hH.weaken (fun q h _ => Or.inl h)
  generalize hAe : zc_A kd s.heap.size = A at hH hE ⊢
  have hA : ∀ q : Nat, s.heap.size ≤ q → A q := fun q h => by rw [← hAe]; exact Or.inr h
  have hS : va_S A s.heap s.heap [] := va_S.rf
  have hl := lv_entry ([.ref (a9 (10 + k)), .int a, .int t, .ref (a9 2), .int (nI n)] : List Value) (n := 9) (Nat.le_of_ble_eq_true rfl)
  rw [lg_entry_eq]
  generalize (lg_sl ([.ref (a9 (10 + k)), .int a, .int t, .ref (a9 2), .int (nI n)] : List Value) ++ List.replicate (9 - (lg_sl ([.ref (a9 (10 + k)), .int a, .int t, .ref (a9 2), .int (nI n)] : List Value)).length) Slot.unset).toArray = ls at hl ⊢
  have hl : lv_has ls 9 [(0, .ref (a9 (10 + k))), (1, .int a), (2, .int t), (3, .ref (a9 2)), (4, .int (nI n))] := hl
  have hm0 := hm
  refine zr_new (ci := 3) (C := R_Pk) (T := T_Pk) (N := 8) hx hb hts (fun w h => List.mem_cons_of_mem _ (zin_Pk w h)) ty_Pk tyok_Pk hown (hw zw_187) (hw zw_253) (hw zw_12) hK hH hS hA (by decide) rfl zdf_Pk (Nat.le_of_ble_eq_true rfl) (Nat.le_of_ble_eq_true rfl) d_St_append_0 (fun q1 H hq2 hH hS => ?_)
  refine W.widen (k := 1) (n := 8) (by omega) (by omega) ?_
  have hPl : ∀ r, zk_lv g9 r → a9 r ≠ q1 := fun r hr e => zkR_nz hm hr (by rw [e]; exact hq2)
  have hm := zkR_fm (kd1 := (va_up kd q1 4)) (ln1 := ln) (I1 := (va_up I q1 (fun _ => 0))) (L1 := (va_up L q1 (fun _ => 0))) (R1 := (va_up R q1 (fun _ => none))) hm (zh_te hE hH) (fun a8 ha8 => by have hne : a8 ≠ q1 := fun e => ha8 (by rw [e]; exact hq2); rw [va_up_ne _ _ hne, va_up_ne _ _ hne, va_up_ne _ _ hne, va_up_ne _ _ hne]; exact ⟨rfl, rfl, rfl, rfl, rfl⟩)
  have kP : (va_up kd q1 4) q1 = 4 := va_up_self _ _ _
  have iP : (va_up I q1 (fun _ => 0)) q1 = fun _ => 0 := va_up_self _ _ _
  have lP : (va_up L q1 (fun _ => 0)) q1 = fun _ => 0 := va_up_self _ _ _
  refine lv_dup hx hb d_St_append_3 rfl ?_
  refine lv_aload_n hx hb d_St_append_4 rfl (lv_at hl 0 rfl) ?_
  refine zr_geti (ci := 2) (C := R_St) (T := T_St) (N := 10) (ref := "ScrubbedRecorder$Store") hx hb hts (fun w h => List.mem_cons_of_mem _ (zin_St w h)) hown hK hH ((zkR_k hm (zk_lv1 (by omega) hgk)).trans (zk_k1 (by omega))) (by decide) rfl 0 (by decide) rfl (hw zw_124) (fun _ h9 => h9) d_St_append_5 ?_
  refine zt_i (y := c9 (10 + k) 0) (congrFun (zkR_i hm (zk_lv1 (by omega) hgk)) 0) ?_
  refine lv_aload_n hx hb d_St_append_8 rfl (lv_at hl 0 rfl) ?_
  refine zr_geti (ci := 2) (C := R_St) (T := T_St) (N := 10) (ref := "ScrubbedRecorder$Store") hx hb hts (fun w h => List.mem_cons_of_mem _ (zin_St w h)) hown hK hH ((zkR_k hm (zk_lv1 (by omega) hgk)).trans (zk_k1 (by omega))) (by decide) rfl 8 (by decide) rfl (hw zw_136) (fun _ h9 => h9) d_St_append_9 ?_
  refine zt_i (y := c9 (10 + k) 8) (congrFun (zkR_i hm (zk_lv1 (by omega) hgk)) 8) ?_
  refine lv_iload_n hx hb d_St_append_12 rfl (lv_at hl 1 rfl) ?_
  refine lv_iload_n hx hb d_St_append_13 rfl (lv_at hl 2 rfl) ?_
  refine lv_aload_n hx hb d_St_append_14 rfl (lv_at hl 3 rfl) ?_
  refine lv_iload hx hb d_St_append_15 (lv_at hl 4 rfl) ?_
  have h2I : (va_up I q1 (fun _ => 0)) (a9 2) = c9 2 := zkR_i hm (zk_lv0 (by decide))
  refine zr_In (As := ([.int (c9 (10 + k) 0), .int (c9 (10 + k) 8), .int a, .int t, .ref (a9 2), .int (nI n)] : List Value)) (rest := [.ref q1]) (b := q1) ⟨hx, hb, hml, hown, hts⟩ (c_Pk_init kP iP lP (show (va_up kd q1 4) (a9 2) = 102 from zkR_k hm (zk_lv0 (by decide))) (show ln (a9 2) = 60 from zkR_n hm (zk_lv0 (by decide)) (by decide)) hn (fun i => by rw [h2I]; exact hby i)) ⟨(callB_of 6 hts (zg_all zw_256) rfl rfl rfl (hw zw_12) (hw zw_254) k_Pk_init.2 ⟨Nat.le_of_ble_eq_true rfl, Nat.le_of_ble_eq_true rfl⟩), rfl, (hw zw_255)⟩ hSc hE hH hS hA rfl hl.1 rfl (Nat.le_of_ble_eq_true rfl) d_St_append_17 ⟨Nat.le_of_ble_eq_true rfl, Nat.le_of_ble_eq_true rfl⟩ (fun v3 kd3 ln3 I3 L3 R3 H locs hp hH hS => ?_)
  obtain ⟨rfl, T9, hT0, rfl, rfl, rfl, rfl, rfl⟩ := hp
  rw [h2I] at hH
  have hTq : T9 ≠ q1 := fun e => by rw [e, kP] at hT0; omega
  have hT1 : kd T9 = 0 := by rw [va_up_ne _ _ hTq] at hT0; exact hT0
  have hTl : ∀ r, zk_lv g9 r → a9 r ≠ T9 := fun r hr e => zkR_nz hm0 hr (by rw [e]; exact hT1)
  have hm := zkR_fm (kd1 := va_up (va_up kd q1 4) T9 102) (ln1 := va_up ln T9 (6 + n)) (I1 := va_up (va_up (va_up I q1 (fun _ => 0)) q1 (zk_pi (c9 (10 + k) 0) (c9 (10 + k) 8) t)) T9 (zk_te (c9 2) a t n)) (L1 := va_up (va_up L q1 (fun _ => 0)) T9 (fun _ => 0)) (R1 := zu (va_up (va_up R q1 (fun _ => none)) T9 (fun _ => none)) q1 1 (some T9)) hm0 (zh_te hE hH) (fun a8 ha8 => by have hne : a8 ≠ q1 := fun e => ha8 (by rw [e]; exact hq2); have hnt : a8 ≠ T9 := fun e => ha8 (by rw [e]; exact hT1); rw [va_up_ne _ _ hnt, va_up_ne _ _ hne, va_up_ne _ _ hnt, va_up_ne _ _ hnt, va_up_ne _ _ hne, va_up_ne _ _ hne, va_up_ne _ _ hnt, va_up_ne _ _ hne, zu_ne _ _ _ hne, va_up_ne _ _ hnt, va_up_ne _ _ hne]; exact ⟨rfl, rfl, rfl, rfl, rfl⟩)
  have kP5 : (va_up (va_up kd q1 4) T9 102) q1 = 4 := by rw [va_up_ne _ _ (Ne.symm hTq)]; exact kP
  have kT5 : (va_up (va_up kd q1 4) T9 102) T9 = 102 := va_up_self _ _ _
  have nT5 : (va_up ln T9 (6 + n)) T9 = 6 + n := va_up_self _ _ _
  have iP5 : (va_up (va_up (va_up I q1 (fun _ => 0)) q1 (zk_pi (c9 (10 + k) 0) (c9 (10 + k) 8) t)) T9 (zk_te (c9 2) a t n)) q1 = (zk_pi (c9 (10 + k) 0) (c9 (10 + k) 8) t) := by rw [va_up_ne _ _ (Ne.symm hTq), va_up_self]
  have iT5 : (va_up (va_up (va_up I q1 (fun _ => 0)) q1 (zk_pi (c9 (10 + k) 0) (c9 (10 + k) 8) t)) T9 (zk_te (c9 2) a t n)) T9 = (zk_te (c9 2) a t n) := va_up_self _ _ _
  have lP5 : (va_up (va_up L q1 (fun _ => 0)) T9 (fun _ => 0)) q1 = fun _ => 0 := by rw [va_up_ne _ _ (Ne.symm hTq)]; exact lP
  have lT5 : (va_up (va_up L q1 (fun _ => 0)) T9 (fun _ => 0)) T9 = fun _ => 0 := va_up_self _ _ _
  have rP5 : (zu (va_up (va_up R q1 (fun _ => none)) T9 (fun _ => none)) q1 1 (some T9)) q1 1 = some T9 := zu_self _ _ _ _
  clear h2I iP lP
  generalize va_up (va_up kd q1 4) T9 102 = kd5 at hm hH kP5 kT5
  generalize va_up ln T9 (6 + n) = ln5 at hm hH nT5
  generalize va_up (va_up (va_up I q1 (fun _ => 0)) q1 (zk_pi (c9 (10 + k) 0) (c9 (10 + k) 8) t)) T9 (zk_te (c9 2) a t n) = I5 at hm hH iP5 iT5
  generalize va_up (va_up L q1 (fun _ => 0)) T9 (fun _ => 0) = L5 at hm hH lP5 lT5
  generalize zu (va_up (va_up R q1 (fun _ => none)) T9 (fun _ => none)) q1 1 (some T9) = R5 at hm hH rP5
  have hm := zkR_pd hm h6 h39 kP5 kT5 nT5 rP5 hPl hTl
  rw [iP5, iT5, lP5, lT5] at hm
  have ha8 : ∀ r, r < 90 → va_up (va_up a9 96 q1) 97 T9 r = a9 r := fun r hr => by rw [va_up_ne _ _ (by omega), va_up_ne _ _ (by omega)]
  have e96 : va_up (va_up a9 96 q1) 97 T9 96 = q1 := by rw [va_up_ne _ _ (by decide), va_up_self]
  generalize va_up (va_up a9 96 q1) 97 T9 = a8 at hm ha8 e96
  have hm : zkR X te a8 e9 (zk_ap0 c9 d9 g9 k a t n).1 (zk_ap0 c9 d9 g9 k a t n).2.1 (zk_ap0 c9 d9 g9 k a t n).2.2 kd5 ln5 I5 L5 R5 := hm
  rw [← ha8 (10 + k) (by omega), ← ha8 2 (by omega)] at hl
  refine W.eq (g2 := F0 m 20 ls [.ref q1]) rfl ?_
  refine W.widen (k := 2) (n := 74) (by omega) (by omega) ?_
  refine W.eq (g2 := F0 m 20 ls [.ref (a8 96)]) (by rw [e96]) ?_
  refine lv_astore (lv' := [(5, .ref (a8 96)), (0, .ref (a8 (10 + k))), (1, .int a), (2, .int t), (3, .ref (a8 2)), (4, .int (nI n))]) hx hb d_St_append_20 hl (by decide) rfl (fun ls hl => ?_)
  refine lv_iload hx hb d_St_append_22 (lv_at hl 5 rfl) ?_
  refine zr_St (As := ([.int (nI n)] : List Value)) (rest := []) ⟨hx, hb, hml, hown, hts⟩ (c_Pk_wordsFor hn) ⟨(callB_of 1 hts (zg_all zw_245) rfl rfl rfl (hw zw_12) (hw zw_243) k_Pk_wordsFor.2 ⟨Nat.le_of_ble_eq_true rfl, Nat.le_of_ble_eq_true rfl⟩), hw zw_244⟩ hSc hE hH hS hA rfl hl.1 rfl (Nat.le_of_ble_eq_true rfl) d_St_append_24 ⟨Nat.le_of_ble_eq_true rfl, Nat.le_of_ble_eq_true rfl⟩ (fun v4 kd4 ln4 I4 L4 R4 H locs hp hH hS => ?_)
  obtain ⟨rfl, rfl, rfl, rfl, rfl, rfl⟩ := hp
  refine W.eq (g2 := F0 m 27 ls [.int (nI (2 + (n + 3) / 4))]) rfl ?_
  refine W.widen (k := 2) (n := 74) (by omega) (by omega) ?_
  refine lv_istore (lv' := [(6, .int (nI (2 + (n + 3) / 4))), (5, .ref (a8 96)), (0, .ref (a8 (10 + k))), (1, .int a), (2, .int t), (3, .ref (a8 2)), (4, .int (nI n))]) hx hb d_St_append_27 hl (by decide) rfl (fun ls hl => ?_)
  refine lv_iconst (v := nI 0) hx hb d_St_append_29 (by decide) ?_
  refine lv_istore (lv' := [(7, .int (nI 0)), (6, .int (nI (2 + (n + 3) / 4))), (5, .ref (a8 96)), (0, .ref (a8 (10 + k))), (1, .int a), (2, .int t), (3, .ref (a8 2)), (4, .int (nI n))]) hx hb d_St_append_30 hl (by decide) rfl (fun ls hl => ?_)
  have loop_32 : ∀ (z : Nat) (i : Nat) (C1 : Nat → Nat → Int32) (D1 : Nat → Nat → Int64) (G1 : Nat → Nat → Nat) (I_32 : Nat → Nat → Int32) (L_32 : Nat → Nat → Int64) (R_32 : Nat → Nat → Option Nat) (H : Heap) (locs : List Loc) (ls : Array Slot), (2 + (n + 3) / 4) - i < z → (i ≤ (2 + (n + 3) / 4)) → (zk_wn k i (zk_ap0 c9 d9 g9 k a t n) = (C1, D1, G1)) → (zkR X te a8 e9 C1 D1 G1 kd5 ln5 I_32 L_32 R_32) → lv_has ls 9 [(0, .ref (a8 (10 + k))), (1, .int a), (2, .int t), (5, .ref (a8 96)), (6, .int (nI (2 + (n + 3) / 4))), (7, .int (nI i))] → zh_H D cA A kd5 ln5 I_32 L_32 R_32 H → va_S A s.heap H locs → W p l e (headSpec w_St_append { frames := 7, cells := 3, slots := 1574, locals := 171 }).room s m ([.ref (a9 (10 + k)), .int a, .int t, .ref (a9 2), .int (nI n)] : List Value).toArray below meth c H locs 2 74 (MQ below (zc_Qc D cA A (zk_A (some (.int ((zk_wn k (2 + (n + 3) / 4) (zk_ap0 c9 d9 g9 k a t n)).1 96 2))) X te a9 (zk_ap1 k t (zk_wn k (2 + (n + 3) / 4) (zk_ap0 c9 d9 g9 k a t n))).1 (zk_ap1 k t (zk_wn k (2 + (n + 3) / 4) (zk_ap0 c9 d9 g9 k a t n))).2.1 (zk_ap1 k t (zk_wn k (2 + (n + 3) / 4) (zk_ap0 c9 d9 g9 k a t n))).2.2)) ([.ref (a9 (10 + k)), .int a, .int t, .ref (a9 2), .int (nI n)] : List Value).toArray s 3 1574 A) (F0 m 32 ls []) := by
    intro z
    induction z with
    | zero => intro i C1 D1 G1 I_32 L_32 R_32 H locs ls hz; exact absurd hz (Nat.not_lt_zero _)
    | succ z ih_32 =>
      intro i C1 D1 G1 I_32 L_32 R_32 H locs ls hz_32 hi hz1 hm hl hH hS
      refine lv_iload hx hb d_St_append_32 (lv_at hl 5 rfl) ?_
      refine lv_iload hx hb d_St_append_34 (lv_at hl 4 rfl) ?_
      refine lv_icmp_ge (tgt := 106) hx hb d_St_append_36 (by decide) (fun hc5 => ?_) (fun hc5 => ?_)
      · skip
        have hc5 := zt_geT (a := i) (b := (2 + (n + 3) / 4)) (by omega) (by omega) hc5
        have hi2 : i = (2 + (n + 3) / 4) := by omega
        rw [hi2] at hz1
        rw [hz1] at hend
        obtain ⟨n1, n2, n3, n4, n5, n6⟩ := hend
        have n1 : G1 0 k ≠ 0 := n1
        have n2 : G1 1 k ≤ G1 2 k := n2
        have n3 : G1 6 0 ≠ 0 := n3
        have n5 : C1 (10 + k) 8 = nI (G1 2 k) := n5
        have n6 : G1 2 k - G1 1 k ≤ 900 := n6
        refine lv_aload_n hx hb d_St_append_106 rfl (lv_at hl 0 rfl) ?_
        refine zr_getr (ci := 2) (C := R_St) (T := T_St) (N := 10) (ref := "ScrubbedRecorder$Store") hx hb hts (fun w h => List.mem_cons_of_mem _ (zin_St w h)) hown hK hH ((zkR_k hm (zk_lv1 (by omega) n1)).trans (zk_k1 (by omega))) (by decide) rfl 5 (by decide) rfl (hw zw_129) (fun _ h9 => h9) d_St_append_107 (zkR_st hm (by omega) n1).2.2.2.1 ?_
        refine lv_aload hx hb d_St_append_110 (lv_at hl 3 rfl) ?_
        have hls := (zkR_st hm hk4 n1).2.2.2.2
        have hel : ∀ j1, j1 < G1 2 k - G1 1 k → ∀ y, R_32 (e9 k) j1 = some y → kd5 y = 4 := fun j1 h1 y hy => by have h2 := (zkR_get hm hk4 n1 h1).2.2.2; rw [hy] at h2; rw [Option.some.inj h2]; exact (zkR_k hm (zk_lvp hk4 n1 (by omega) (by omega))).trans zk_kp
        refine zr_V (As := ([.ref (a8 96)] : List Value)) (rest := []) (b := a8 (40 + k)) (ci := 5) (q := (R_AL, T_AL, 3)) ⟨hx, hb, hml, hown, hts⟩ (c_AL_add hls.1 hls.2.1 hls.2.2.1 hls.2.2.2.1 n6 hel (show kd5 (a8 96) = 4 from zkR_k hm (zk_lv6 (by decide) n3))) ⟨(callB_of 1 hts (zg_all zw_310) rfl rfl rfl (hw zw_7) (hw zw_307) k_AL_add.2 ⟨Nat.le_of_ble_eq_true rfl, Nat.le_of_ble_eq_true rfl⟩), (hw zw_308), (hw zw_309)⟩ hSc hE hH hS hA rfl (by decide) (zkR_st hm (by omega) n1).2.2.2.2.1 rfl hl.1 rfl (Nat.le_of_ble_eq_true rfl) d_St_append_112 ⟨Nat.le_of_ble_eq_true rfl, Nat.le_of_ble_eq_true rfl⟩ (fun v6 kd6 ln6 I6 L6 R6 H locs hp hH hS => ?_)
        obtain ⟨rfl, q9, p1, p2, p3, p4, p5, p6, p7, p8, p9, p10, p11, p12⟩ := hp
        have hm := zkR_ad hm n3 n4 hk4 n1 n2 (zh_te hE hH) p1 p2 p3 p4 p5 p6 p7 p9 p11 p12
        have ha7 : ∀ r, r < 100 → zk_adA a8 k (G1 2 k) r = a8 r := fun r hr => by unfold zk_adA; rw [va_up_ne _ _ (by unfold zk_p; omega), va_up_ne _ _ (by unfold zk_p; omega)]
        have e97 : zk_adA a8 k (G1 2 k) (zk_p k (G1 2 k)) = a8 96 := by unfold zk_adA; rw [va_up_ne _ _ (by omega), va_up_self]
        generalize zk_adA a8 k (G1 2 k) = a7 at hm ha7 e97
        generalize va_up e9 k q9 = e7 at hm
        have hl : lv_has ls 9 [(0, .ref (a8 (10 + k))), (1, .int a), (2, .int t), (5, .ref (a8 96))] := lv_sub hl [0, 1, 2, 3] rfl
        rw [← ha7 (10 + k) (by omega), ← e97] at hl
        refine W.eq (g2 := F0 m 115 ls [.int (nI 1)]) rfl ?_
        refine W.widen (k := 3) (n := 1574) (by omega) (by omega) ?_
        have e0 : zk_adg G1 k 0 k ≠ 0 := by unfold zk_adg; rw [zu_ne _ _ _ (by decide), zu_ne _ _ _ (by decide), zu_ne _ _ _ (by decide)]; exact n1
        have e1 : zk_adg G1 k 1 k = G1 1 k := by unfold zk_adg; rw [zu_ne _ _ _ (by decide), zu_ne _ _ _ (by decide), zu_ne _ _ _ (by decide)]
        have e2 : zk_adg G1 k 2 k = G1 2 k + 1 := by unfold zk_adg; rw [zu_ne _ _ _ (by decide), zu_ne _ _ _ (by decide), zu_self]
        have f8 : zk_ad2 C1 k (G1 2 k) (10 + k) 8 = nI (G1 2 k) := by rw [zk_ad2_lo (by omega)]; exact n5
        have f2 : zk_ad2 C1 k (G1 2 k) (zk_p k (G1 2 k)) 2 = C1 96 2 := by rw [zk_ad2_0]
        refine lv_pop hx hb d_St_append_115 rfl ?_
        refine lv_aload_n hx hb d_St_append_116 rfl (lv_at hl 0 rfl) ?_
        refine lv_dup hx hb d_St_append_117 rfl ?_
        refine zr_geti (ci := 2) (C := R_St) (T := T_St) (N := 10) (ref := "ScrubbedRecorder$Store") hx hb hts (fun w h => List.mem_cons_of_mem _ (zin_St w h)) hown hK hH ((zkR_k hm (zk_lv1 (by omega) e0)).trans (zk_k1 (by omega))) (by decide) rfl 8 (by decide) rfl (hw zw_136) (fun _ h9 => h9) d_St_append_118 ?_
        refine zt_i (y := nI (G1 2 k)) ((congrFun (zkR_i hm (zk_lv1 (by omega) e0)) 8).trans (by rw [f8])) ?_
        refine lv_iconst (v := nI 1) hx hb d_St_append_121 (by decide) ?_
        refine lv_iadd hx hb d_St_append_122 ?_
        refine zt_i (y := nI (G1 2 k + 1)) (nI_add (G1 2 k) 1) ?_
        refine zr_puti (ref := "ScrubbedRecorder$Store") (ci := 2) (C := R_St) (T := T_St) (N := 10) (x := nI (G1 2 k + 1)) (ty := .int) hx hb hts (fun w h => List.mem_cons_of_mem _ (zin_St w h)) ty_St tyok_St nm_St hown hK hH hS ((zkR_k hm (zk_lv1 (by omega) e0)).trans (zk_k1 (by omega))) (by decide) rfl 8 (by decide) rfl (hw zw_136) (fun _ h9 => h9) rfl (by decide +kernel) rfl rfl d_St_append_123 (fun H locs hH hS => ?_)
        have hm := zkR_I hm (10 + k) 8 (nI (G1 2 k + 1)) (zk_lv1 (by omega) e0) (fun h9 => absurd ((zk_k1 (by omega)).symm.trans h9) (by decide)) (fun h9 => absurd ((zk_k1 (by omega)).symm.trans h9) (by decide))
        generalize zu I6 (a7 (10 + k)) 8 (nI (G1 2 k + 1)) = I7 at hm hH
        refine lv_aload_n hx hb d_St_append_126 rfl (lv_at hl 0 rfl) ?_
        refine lv_iload_n hx hb d_St_append_127 rfl (lv_at hl 2 rfl) ?_
        refine zr_puti (ref := "ScrubbedRecorder$Store") (ci := 2) (C := R_St) (T := T_St) (N := 10) (x := t) (ty := .int) hx hb hts (fun w h => List.mem_cons_of_mem _ (zin_St w h)) ty_St tyok_St nm_St hown hK hH hS ((zkR_k hm (zk_lv1 (by omega) e0)).trans (zk_k1 (by omega))) (by decide) rfl 9 (by decide) rfl (hw zw_138) (fun _ h9 => h9) rfl (by decide +kernel) rfl rfl d_St_append_128 (fun H locs hH hS => ?_)
        have hm := zkR_I hm (10 + k) 9 t (zk_lv1 (by omega) e0) (fun h9 => absurd ((zk_k1 (by omega)).symm.trans h9) (by decide)) (fun h9 => absurd ((zk_k1 (by omega)).symm.trans h9) (by decide))
        generalize zu I7 (a7 (10 + k)) 9 t = I8 at hm hH
        refine lv_aload hx hb d_St_append_131 (lv_at hl 3 rfl) ?_
        refine zr_geti (ci := 3) (C := R_Pk) (T := T_Pk) (N := 8) (ref := "ScrubbedRecorder$Packet") hx hb hts (fun w h => List.mem_cons_of_mem _ (zin_Pk w h)) hown hK hH ((zkR_k hm (zk_lvp (by omega) e0 (by first | omega | (rw [e1]; omega) | (rw [e2]; omega)) (by first | omega | (rw [e1]; omega) | (rw [e2]; omega)))).trans zk_kp) (by decide) rfl 2 (by decide) rfl (hw zw_266) (fun _ h9 => h9) d_St_append_133 ?_
        refine zt_i (y := C1 96 2) ((congrFun (zkR_i hm (zk_lvp (by omega) e0 (by first | omega | (rw [e1]; omega) | (rw [e2]; omega)) (by first | omega | (rw [e1]; omega) | (rw [e2]; omega)))) 2).trans (by rw [zu_ne _ _ _ (show (zk_p k (G1 2 k) : Nat) ≠ 10 + k by unfold zk_p; omega), zu_ne _ _ _ (show (zk_p k (G1 2 k) : Nat) ≠ 10 + k by unfold zk_p; omega), f2])) ?_
        refine W.widen (k := 3) (n := 1574) (Nat.le_of_ble_eq_true rfl) (Nat.le_of_ble_eq_true rfl) ?_
        subst hAe
        exact W.iret (v := C1 96 2) hx hb hr (fun t ht hW => zc_end hS hH ht (⟨by rw [hz1], a7, e7, fun r hr => (ha7 r (by omega)).trans (ha8 r hr), by rw [hz1]; exact hm⟩)) hS.2.2 d_St_append_136
      · skip
        have hc5 := zt_geF (a := i) (b := (2 + (n + 3) / 4)) (by omega) (by omega) hc5
        have hokw := hok i (by omega)
        rw [hz1] at hokw
        have hokc := hokw
        obtain ⟨c2, f2, qu2, o1, o2, o3, o4, o5, o6, o7, o8, o9, o10, o11, o12, o13⟩ := hokw
        have o1 : zk_pgs C1 k c2 := o1
        have o2 : C1 (10 + k) 4 = nI f2 := o2
        have o5 : C1 (10 + k) 6 = nI qu2 := o5
        have o11 : G1 0 k ≠ 0 := o11
        have o12 : G1 1 k ≤ G1 2 k := o12
        have o13 : G1 6 0 ≠ 0 := o13
        have o40 := o1.2.1
        have hz2 : zk_wn k (i + 1) (zk_ap0 c9 d9 g9 k a t n) = zk_wb k i (zk_wa k (C1, D1, G1)) := by rw [← hz1]; rfl
        have join_52 : ∀ (c3 : Nat) (f3 : Nat) (C2 : Nat → Nat → Int32) (D2 : Nat → Nat → Int64) (G2 : Nat → Nat → Nat) (I_52 : Nat → Nat → Int32) (L_52 : Nat → Nat → Int64) (R_52 : Nat → Nat → Option Nat) (H : Heap) (locs : List Loc) (ls : Array Slot), (zk_wa k (C1, D1, G1) = (C2, D2, G2)) → (zk_pgs C2 k c3) → (C2 (10 + k) 4 = nI f3) → (3 ≤ f3) → (f3 < 16) → (1 ≤ c3) → (G2 0 k ≠ 0) → (G2 1 k ≤ G2 2 k) → (G2 6 0 ≠ 0) → (zkR X te a8 e9 C2 D2 G2 kd5 ln5 I_52 L_52 R_52) → lv_has ls 9 [(0, .ref (a8 (10 + k))), (1, .int a), (2, .int t), (5, .ref (a8 96)), (6, .int (nI (2 + (n + 3) / 4))), (7, .int (nI i))] → zh_H D cA A kd5 ln5 I_52 L_52 R_52 H → va_S A s.heap H locs → W p l e (headSpec w_St_append { frames := 7, cells := 3, slots := 1574, locals := 171 }).room s m ([.ref (a9 (10 + k)), .int a, .int t, .ref (a9 2), .int (nI n)] : List Value).toArray below meth c H locs 2 74 (MQ below (zc_Qc D cA A (zk_A (some (.int ((zk_wn k (2 + (n + 3) / 4) (zk_ap0 c9 d9 g9 k a t n)).1 96 2))) X te a9 (zk_ap1 k t (zk_wn k (2 + (n + 3) / 4) (zk_ap0 c9 d9 g9 k a t n))).1 (zk_ap1 k t (zk_wn k (2 + (n + 3) / 4) (zk_ap0 c9 d9 g9 k a t n))).2.1 (zk_ap1 k t (zk_wn k (2 + (n + 3) / 4) (zk_ap0 c9 d9 g9 k a t n))).2.2)) ([.ref (a9 (10 + k)), .int a, .int t, .ref (a9 2), .int (nI n)] : List Value).toArray s 3 1574 A) (F0 m 52 ls []) := by
          intro c3 f3 C2 D2 G2 I_52 L_52 R_52 H locs ls hz3 b1 b2 b3 b4 b5 b6 b7 b8 hm hl hH hS
          have b40 := b1.2.1
          obtain ⟨g3, hg3, b9⟩ := b1.2.2 (c3 - 1) (by omega)
          refine lv_aload_n hx hb d_St_append_52 rfl (lv_at hl 0 rfl) ?_
          refine zr_getr (ci := 2) (C := R_St) (T := T_St) (N := 10) (ref := "ScrubbedRecorder$Store") hx hb hts (fun w h => List.mem_cons_of_mem _ (zin_St w h)) hown hK hH ((zkR_k hm (zk_lv1 (by omega) b6)).trans (zk_k1 (by omega))) (by decide) rfl 3 (by decide) rfl (hw zw_127) (fun _ h9 => h9) d_St_append_53 (zkR_st hm (by omega) b6).2.2.1 ?_
          refine lv_aload_n hx hb d_St_append_56 rfl (lv_at hl 0 rfl) ?_
          refine zr_geti (ci := 2) (C := R_St) (T := T_St) (N := 10) (ref := "ScrubbedRecorder$Store") hx hb hts (fun w h => List.mem_cons_of_mem _ (zin_St w h)) hown hK hH ((zkR_k hm (zk_lv1 (by omega) b6)).trans (zk_k1 (by omega))) (by decide) rfl 7 (by decide) rfl (hw zw_134) (fun _ h9 => h9) d_St_append_57 ?_
          refine zt_i (y := nI c3) ((congrFun (zkR_i hm (zk_lv1 (by omega) b6)) 7).trans (by rw [b1.1])) ?_
          refine lv_iconst (v := nI 1) hx hb d_St_append_60 (by decide) ?_
          refine lv_isub hx hb d_St_append_61 ?_
          refine zt_i (y := nI (c3 - 1)) (pk_sub (by omega)) ?_
          refine zr_aldi (j := c3 - 1) hx hb hK hH ((zkR_k hm (zk_lv2 (by omega) b6)).trans (zk_k2 (by omega))) (by rw [show ln5 (a8 (20 + k)) = 40 from (zkR_n hm (zk_lv2 (by omega) b6) (by rw [zk_k2 (by omega)]; decide)).trans (zk_n2 (by omega))]; exact zh_ix_n (by omega) (by omega)) d_St_append_62 ?_
          refine zt_i (y := nI g3) ((congrFun (zkR_i hm (zk_lv2 (by omega) b6)) (c3 - 1)).trans (by rw [b9])) ?_
          refine lv_istore (lv' := [(8, .int (nI g3)), (0, .ref (a8 (10 + k))), (1, .int a), (2, .int t), (5, .ref (a8 96)), (6, .int (nI (2 + (n + 3) / 4))), (7, .int (nI i))]) hx hb d_St_append_63 hl (by decide) rfl (fun ls hl => ?_)
          refine lv_iload hx hb d_St_append_65 (lv_at hl 6 rfl) ?_
          refine lv_if_ne (tgt := 77) hx hb d_St_append_67 (by decide) (fun hc9 => ?_) (fun hc9 => ?_)
          · skip
            have hc9 := zt_neT (a := i) (b := 0) (by omega) (by omega) hc9
            refine lv_aload_n hx hb d_St_append_77 rfl (lv_at hl 1 rfl) ?_
            refine zr_getr (ci := 2) (C := R_St) (T := T_St) (N := 10) (ref := "ScrubbedRecorder$Store") hx hb hts (fun w h => List.mem_cons_of_mem _ (zin_St w h)) hown hK hH ((zkR_k hm (zk_lv1 (by omega) b6)).trans (zk_k1 (by omega))) (by decide) rfl 2 (by decide) rfl (hw zw_126) (fun _ h9 => h9) d_St_append_78 (zkR_st hm (by omega) b6).2.1 ?_
            refine lv_iload hx hb d_St_append_81 (lv_at hl 0 rfl) ?_
            refine lv_aload_n hx hb d_St_append_83 rfl (lv_at hl 1 rfl) ?_
            refine zr_geti (ci := 2) (C := R_St) (T := T_St) (N := 10) (ref := "ScrubbedRecorder$Store") hx hb hts (fun w h => List.mem_cons_of_mem _ (zin_St w h)) hown hK hH ((zkR_k hm (zk_lv1 (by omega) b6)).trans (zk_k1 (by omega))) (by decide) rfl 4 (by decide) rfl (hw zw_128) (fun _ h9 => h9) d_St_append_84 ?_
            refine zt_i (y := nI f3) ((congrFun (zkR_i hm (zk_lv1 (by omega) b6)) 4).trans (by rw [b2])) ?_
            have hM := zkR_mem hm
            refine zr_V (As := ([.int (nI g3), .int (nI f3)] : List Value)) (rest := []) (b := a8 0) (ci := 1) (q := (R_Mem, T_Mem, 8)) ⟨hx, hb, hml, hown, hts⟩ (c_Mem_writeWord hM.1 hM.2.1 hM.2.2.1 hM.2.2.2.1 hM.2.2.2.2.1 hM.2.2.2.2.2.1 hM.2.2.2.2.2.2 (by omega) (by omega)) ⟨(callB_of 2 hts (zg_all zw_211) rfl rfl rfl (hw zw_2) (hw zw_306) k_Mem_writeWord.2 ⟨Nat.le_of_ble_eq_true rfl, Nat.le_of_ble_eq_true rfl⟩), (hw zw_209), (hw zw_210)⟩ hSc hE hH hS hA rfl (by decide) (show kd5 (a8 0) = 2 from zkR_k hm (zk_lv0 (by decide))) rfl hl.1 rfl (Nat.le_of_ble_eq_true rfl) d_St_append_87 ⟨Nat.le_of_ble_eq_true rfl, Nat.le_of_ble_eq_true rfl⟩ (fun v10 kd10 ln10 I10 L10 R10 H locs hp hH hS => ?_)
            obtain ⟨rfl, rfl, rfl, rfl, rfl, rfl⟩ := hp
            have hm := zkR_wr hm g3 f3
            generalize zb_wr (a8 3) g3 f3 L_52 = L11 at hm hH
            refine W.eq (g2 := F0 m 90 ls []) rfl ?_
            refine W.widen (k := 2) (n := 74) (by omega) (by omega) ?_
            refine lv_aload_n hx hb d_St_append_90 rfl (lv_at hl 1 rfl) ?_
            refine lv_dup hx hb d_St_append_91 rfl ?_
            refine zr_geti (ci := 2) (C := R_St) (T := T_St) (N := 10) (ref := "ScrubbedRecorder$Store") hx hb hts (fun w h => List.mem_cons_of_mem _ (zin_St w h)) hown hK hH ((zkR_k hm (zk_lv1 (by omega) b6)).trans (zk_k1 (by omega))) (by decide) rfl 4 (by decide) rfl (hw zw_128) (fun _ h9 => h9) d_St_append_92 ?_
            refine zt_i (y := nI f3) ((congrFun (zkR_i hm (zk_lv1 (by omega) b6)) 4).trans (by rw [b2])) ?_
            refine lv_iconst (v := nI 1) hx hb d_St_append_95 (by decide) ?_
            refine lv_iadd hx hb d_St_append_96 ?_
            refine zt_i (y := nI (f3 + 1)) (nI_add f3 1) ?_
            refine zr_puti (ref := "ScrubbedRecorder$Store") (ci := 2) (C := R_St) (T := T_St) (N := 10) (x := nI (f3 + 1)) (ty := .int) hx hb hts (fun w h => List.mem_cons_of_mem _ (zin_St w h)) ty_St tyok_St nm_St hown hK hH hS ((zkR_k hm (zk_lv1 (by omega) b6)).trans (zk_k1 (by omega))) (by decide) rfl 4 (by decide) rfl (hw zw_128) (fun _ h9 => h9) rfl (by decide +kernel) rfl rfl d_St_append_97 (fun H locs hH hS => ?_)
            have hm := zkR_I hm (10 + k) 4 (nI (f3 + 1)) (zk_lv1 (by omega) b6) (fun h9 => absurd ((zk_k1 (by omega)).symm.trans h9) (by decide)) (fun h9 => absurd ((zk_k1 (by omega)).symm.trans h9) (by decide))
            generalize zu I_52 (a8 (10 + k)) 4 (nI (f3 + 1)) = I12 at hm hH
            have elp : zk_lpg C2 k = g3 := by unfold zk_lpg; rw [b1.1, nI_clamp (by omega), b9, nI_clamp (by omega)]
            have efl : zk_nw C2 k = f3 := by unfold zk_nw; rw [b2, nI_clamp (by omega)]
            have hz2 : zk_wn k (i + 1) (zk_ap0 c9 d9 g9 k a t n) = ((zu C2 (10 + k) 4 (nI (f3 + 1))), (zb_wr 3 g3 f3 D2), G2) := by rw [hz2, hz3]; show (zu (if i = 0 then zu C2 96 4 (nI (zk_lpg C2 k)) else C2) (10 + k) 4 (nI (zk_nw C2 k + 1)), zb_wr 3 (zk_lpg C2 k) (zk_nw C2 k) D2, G2) = _; rw [elp, efl]; first | rw [if_pos (by omega)] | rw [if_neg (by omega)]
            refine lv_iinc (k := 6) (v := nI (i + 1)) (lv' := [(7, .int (nI (i + 1))), (8, .int (nI g3)), (0, .ref (a8 (10 + k))), (1, .int a), (2, .int t), (5, .ref (a8 96)), (6, .int (nI (2 + (n + 3) / 4)))]) hx hb d_St_append_100 hl rfl (nI_add i 1) (by decide) rfl (fun ls hl => ?_)
            refine lv_goto (tgt := 32) hx hb d_St_append_103 (by decide) ?_
            exact ih_32 (i + 1) (zu C2 (10 + k) 4 (nI (f3 + 1))) (zb_wr 3 g3 f3 D2) G2 _ _ _ _ _ _ (by omega) (by omega) hz2 hm (lv_sub hl [2, 3, 4, 5, 6, 0] rfl) hH hS
          · skip
            have hc9 := zt_neF (a := i) (b := 0) (by omega) (by omega) hc9
            refine lv_aload hx hb d_St_append_70 (lv_at hl 4 rfl) ?_
            refine lv_iload hx hb d_St_append_72 (lv_at hl 0 rfl) ?_
            refine zr_puti (ref := "ScrubbedRecorder$Packet") (ci := 3) (C := R_Pk) (T := T_Pk) (N := 8) (x := nI g3) (ty := .int) hx hb hts (fun w h => List.mem_cons_of_mem _ (zin_Pk w h)) ty_Pk tyok_Pk nm_Pk hown hK hH hS (show kd5 (a8 96) = 4 from zkR_k hm (zk_lv6 (by decide) b8)) (by decide) rfl 4 (by decide) rfl (hw zw_272) (fun _ h9 => h9) rfl (by decide +kernel) rfl rfl d_St_append_74 (fun H locs hH hS => ?_)
            have hm := zkR_I hm 96 4 (nI g3) (zk_lv6 (by decide) b8) (fun _ => ⟨by decide, by decide⟩) (fun h9 => absurd h9 (by decide))
            generalize zu I_52 (a8 96) 4 (nI g3) = I13 at hm hH
            refine lv_aload_n hx hb d_St_append_77 rfl (lv_at hl 1 rfl) ?_
            refine zr_getr (ci := 2) (C := R_St) (T := T_St) (N := 10) (ref := "ScrubbedRecorder$Store") hx hb hts (fun w h => List.mem_cons_of_mem _ (zin_St w h)) hown hK hH ((zkR_k hm (zk_lv1 (by omega) b6)).trans (zk_k1 (by omega))) (by decide) rfl 2 (by decide) rfl (hw zw_126) (fun _ h9 => h9) d_St_append_78 (zkR_st hm (by omega) b6).2.1 ?_
            refine lv_iload hx hb d_St_append_81 (lv_at hl 0 rfl) ?_
            refine lv_aload_n hx hb d_St_append_83 rfl (lv_at hl 1 rfl) ?_
            refine zr_geti (ci := 2) (C := R_St) (T := T_St) (N := 10) (ref := "ScrubbedRecorder$Store") hx hb hts (fun w h => List.mem_cons_of_mem _ (zin_St w h)) hown hK hH ((zkR_k hm (zk_lv1 (by omega) b6)).trans (zk_k1 (by omega))) (by decide) rfl 4 (by decide) rfl (hw zw_128) (fun _ h9 => h9) d_St_append_84 ?_
            refine zt_i (y := nI f3) ((congrFun (zkR_i hm (zk_lv1 (by omega) b6)) 4).trans (by rw [zu_ne _ _ _ (show (10 + k : Nat) ≠ 96 by omega), b2])) ?_
            have hM := zkR_mem hm
            refine zr_V (As := ([.int (nI g3), .int (nI f3)] : List Value)) (rest := []) (b := a8 0) (ci := 1) (q := (R_Mem, T_Mem, 8)) ⟨hx, hb, hml, hown, hts⟩ (c_Mem_writeWord hM.1 hM.2.1 hM.2.2.1 hM.2.2.2.1 hM.2.2.2.2.1 hM.2.2.2.2.2.1 hM.2.2.2.2.2.2 (by omega) (by omega)) ⟨(callB_of 2 hts (zg_all zw_211) rfl rfl rfl (hw zw_2) (hw zw_306) k_Mem_writeWord.2 ⟨Nat.le_of_ble_eq_true rfl, Nat.le_of_ble_eq_true rfl⟩), (hw zw_209), (hw zw_210)⟩ hSc hE hH hS hA rfl (by decide) (show kd5 (a8 0) = 2 from zkR_k hm (zk_lv0 (by decide))) rfl hl.1 rfl (Nat.le_of_ble_eq_true rfl) d_St_append_87 ⟨Nat.le_of_ble_eq_true rfl, Nat.le_of_ble_eq_true rfl⟩ (fun v14 kd14 ln14 I14 L14 R14 H locs hp hH hS => ?_)
            obtain ⟨rfl, rfl, rfl, rfl, rfl, rfl⟩ := hp
            have hm := zkR_wr hm g3 f3
            generalize zb_wr (a8 3) g3 f3 L_52 = L15 at hm hH
            refine W.eq (g2 := F0 m 90 ls []) rfl ?_
            refine W.widen (k := 2) (n := 74) (by omega) (by omega) ?_
            refine lv_aload_n hx hb d_St_append_90 rfl (lv_at hl 1 rfl) ?_
            refine lv_dup hx hb d_St_append_91 rfl ?_
            refine zr_geti (ci := 2) (C := R_St) (T := T_St) (N := 10) (ref := "ScrubbedRecorder$Store") hx hb hts (fun w h => List.mem_cons_of_mem _ (zin_St w h)) hown hK hH ((zkR_k hm (zk_lv1 (by omega) b6)).trans (zk_k1 (by omega))) (by decide) rfl 4 (by decide) rfl (hw zw_128) (fun _ h9 => h9) d_St_append_92 ?_
            refine zt_i (y := nI f3) ((congrFun (zkR_i hm (zk_lv1 (by omega) b6)) 4).trans (by rw [zu_ne _ _ _ (show (10 + k : Nat) ≠ 96 by omega), b2])) ?_
            refine lv_iconst (v := nI 1) hx hb d_St_append_95 (by decide) ?_
            refine lv_iadd hx hb d_St_append_96 ?_
            refine zt_i (y := nI (f3 + 1)) (nI_add f3 1) ?_
            refine zr_puti (ref := "ScrubbedRecorder$Store") (ci := 2) (C := R_St) (T := T_St) (N := 10) (x := nI (f3 + 1)) (ty := .int) hx hb hts (fun w h => List.mem_cons_of_mem _ (zin_St w h)) ty_St tyok_St nm_St hown hK hH hS ((zkR_k hm (zk_lv1 (by omega) b6)).trans (zk_k1 (by omega))) (by decide) rfl 4 (by decide) rfl (hw zw_128) (fun _ h9 => h9) rfl (by decide +kernel) rfl rfl d_St_append_97 (fun H locs hH hS => ?_)
            have hm := zkR_I hm (10 + k) 4 (nI (f3 + 1)) (zk_lv1 (by omega) b6) (fun h9 => absurd ((zk_k1 (by omega)).symm.trans h9) (by decide)) (fun h9 => absurd ((zk_k1 (by omega)).symm.trans h9) (by decide))
            generalize zu I13 (a8 (10 + k)) 4 (nI (f3 + 1)) = I16 at hm hH
            have elp : zk_lpg C2 k = g3 := by unfold zk_lpg; rw [b1.1, nI_clamp (by omega), b9, nI_clamp (by omega)]
            have efl : zk_nw C2 k = f3 := by unfold zk_nw; rw [b2, nI_clamp (by omega)]
            have hz2 : zk_wn k (i + 1) (zk_ap0 c9 d9 g9 k a t n) = ((zu (zu C2 96 4 (nI g3)) (10 + k) 4 (nI (f3 + 1))), (zb_wr 3 g3 f3 D2), G2) := by rw [hz2, hz3]; show (zu (if i = 0 then zu C2 96 4 (nI (zk_lpg C2 k)) else C2) (10 + k) 4 (nI (zk_nw C2 k + 1)), zb_wr 3 (zk_lpg C2 k) (zk_nw C2 k) D2, G2) = _; rw [elp, efl]; first | rw [if_pos (by omega)] | rw [if_neg (by omega)]
            refine lv_iinc (k := 6) (v := nI (i + 1)) (lv' := [(7, .int (nI (i + 1))), (8, .int (nI g3)), (0, .ref (a8 (10 + k))), (1, .int a), (2, .int t), (5, .ref (a8 96)), (6, .int (nI (2 + (n + 3) / 4)))]) hx hb d_St_append_100 hl rfl (nI_add i 1) (by decide) rfl (fun ls hl => ?_)
            refine lv_goto (tgt := 32) hx hb d_St_append_103 (by decide) ?_
            exact ih_32 (i + 1) (zu (zu C2 96 4 (nI g3)) (10 + k) 4 (nI (f3 + 1))) (zb_wr 3 g3 f3 D2) G2 _ _ _ _ _ _ (by omega) (by omega) hz2 hm (lv_sub hl [2, 3, 4, 5, 6, 0] rfl) hH hS
        refine lv_aload_n hx hb d_St_append_39 rfl (lv_at hl 0 rfl) ?_
        refine zr_geti (ci := 2) (C := R_St) (T := T_St) (N := 10) (ref := "ScrubbedRecorder$Store") hx hb hts (fun w h => List.mem_cons_of_mem _ (zin_St w h)) hown hK hH ((zkR_k hm (zk_lv1 (by omega) o11)).trans (zk_k1 (by omega))) (by decide) rfl 4 (by decide) rfl (hw zw_128) (fun _ h9 => h9) d_St_append_40 ?_
        refine zt_i (y := nI f2) ((congrFun (zkR_i hm (zk_lv1 (by omega) o11)) 4).trans (by rw [o2])) ?_
        refine lv_bipush (v := nI 16) hx hb d_St_append_43 (by decide) ?_
        refine lv_icmp_ne (tgt := 52) hx hb d_St_append_45 (by decide) (fun hc17 => ?_) (fun hc17 => ?_)
        · skip
          have hc17 := zt_neT (a := f2) (b := 16) (by omega) (by omega) hc17
          have hz3 : zk_wa k (C1, D1, G1) = (C1, D1, G1) := by unfold zk_wa; rw [if_neg (show ¬ (C1, D1, G1).1 (10 + k) 4 = nI 16 from fun e => absurd ((nI_eq (a := f2) (b := 16) (by omega) (by omega)).mp (Eq.trans (Eq.symm o2) e)) (by omega))]
          exact join_52 c2 f2 C1 D1 G1 _ _ _ _ _ _ hz3 o1 o2 o3 (by omega) (by omega) o11 o12 o13 hm (lv_sub hl [0, 1, 2, 3, 4, 5] rfl) hH hS
        · skip
          have hc17 := zt_neF (a := f2) (b := 16) (by omega) (by omega) hc17
          refine lv_aload_n hx hb d_St_append_48 rfl (lv_at hl 0 rfl) ?_
          have ef : f2 = 16 := by omega
          have h16 : (C1, D1, G1).1 (10 + k) 4 = nI 16 := by rw [← ef]; exact o2
          have hz4 : zk_wa k (C1, D1, G1) = zk_opn k (C1, D1, G1) := by unfold zk_wa; rw [if_pos h16]
          have hokb := zk_okb_opn hokc h16
          rw [← hz4] at hokb
          obtain ⟨c3, f3, b1, b2, b3, b4, b5, b6, b7, b8⟩ := hokb
          rcases Decidable.em (¬ C1 (10 + k) 1 = nI 0 ∧ c2 = qu2) with hqc | hqc
          · skip
            refine zr_V (As := ([] : List Value)) (rest := []) (b := a8 (10 + k)) (ci := 2) (q := (R_St, T_St, 10)) ⟨hx, hb, hml, hown, hts⟩ (c_St_openPage_F hm hk4 o11 o12 o1 o5 (by omega) hqc.1 hqc.2 (by omega)) ⟨(callB_of 0 hts (zg_all zw_301) rfl rfl rfl (hw zw_4) (hw zw_298) k_St_openPage.2 ⟨Nat.le_of_ble_eq_true rfl, Nat.le_of_ble_eq_true rfl⟩), (hw zw_300), (hw zs_St_openPage)⟩ hSc hE hH hS hA rfl (by decide) ((zkR_k hm (zk_lv1 (by omega) o11)).trans (zk_k1 (by omega))) rfl hl.1 rfl (Nat.le_of_ble_eq_true rfl) d_St_append_49 ⟨Nat.le_of_ble_eq_true rfl, Nat.le_of_ble_eq_true rfl⟩ (fun v18 kd18 ln18 I18 L18 R18 H locs hp hH hS => ?_)
            obtain ⟨rfl, rfl, rfl, hm⟩ := hp
            refine W.eq (g2 := F0 m 52 ls []) rfl ?_
            refine W.widen (k := 2) (n := 74) (by omega) (by omega) ?_
            have hz3 : zk_opn k (C1, D1, G1) = zk_op k (c2 - 1) (zk_ff k c2 (C1, D1, G1)) := zk_opn_F (z := (C1, D1, G1)) o1.1 o5 (by omega) hqc.1 hqc.2
            rw [← hz3, ← hz4] at hm
            exact join_52 _ _ ((zk_wa k (C1, D1, G1)).1) ((zk_wa k (C1, D1, G1)).2.1) ((zk_wa k (C1, D1, G1)).2.2) _ _ _ _ _ _ rfl b1 b2 b3 b4 b5 b6 b7 b8 hm (lv_sub hl [0, 1, 2, 3, 4, 5] rfl) hH hS
          · skip
            have hq2 : C1 (10 + k) 1 = nI 0 ∨ ¬ c2 = qu2 := by by_cases e : C1 (10 + k) 1 = nI 0; exact Or.inl e; exact Or.inr (fun z => hqc ⟨e, z⟩)
            have hc2 : c2 < 40 := by rcases hq2 with z | z; have := o10 ef z; omega; omega
            refine zr_V (As := ([] : List Value)) (rest := []) (b := a8 (10 + k)) (ci := 2) (q := (R_St, T_St, 10)) ⟨hx, hb, hml, hown, hts⟩ (c_St_openPage_N hm hk4 o11 o12 o1 o5 (by omega) hq2 hc2) ⟨(callB_of 0 hts (zg_all zw_301) rfl rfl rfl (hw zw_4) (hw zw_298) k_St_openPage.2 ⟨Nat.le_of_ble_eq_true rfl, Nat.le_of_ble_eq_true rfl⟩), (hw zw_300), (hw zs_St_openPage)⟩ hSc hE hH hS hA rfl (by decide) ((zkR_k hm (zk_lv1 (by omega) o11)).trans (zk_k1 (by omega))) rfl hl.1 rfl (Nat.le_of_ble_eq_true rfl) d_St_append_49 ⟨Nat.le_of_ble_eq_true rfl, Nat.le_of_ble_eq_true rfl⟩ (fun v19 kd19 ln19 I19 L19 R19 H locs hp hH hS => ?_)
            obtain ⟨rfl, rfl, rfl, hm⟩ := hp
            refine W.eq (g2 := F0 m 52 ls []) rfl ?_
            refine W.widen (k := 2) (n := 74) (by omega) (by omega) ?_
            have hz3 : zk_opn k (C1, D1, G1) = zk_op k c2 (C1, D1, G1) := zk_opn_N (z := (C1, D1, G1)) o1.1 o5 (by omega) (by omega) hq2
            rw [← hz3, ← hz4] at hm
            exact join_52 _ _ ((zk_wa k (C1, D1, G1)).1) ((zk_wa k (C1, D1, G1)).2.1) ((zk_wa k (C1, D1, G1)).2.2) _ _ _ _ _ _ rfl b1 b2 b3 b4 b5 b6 b7 b8 hm (lv_sub hl [0, 1, 2, 3, 4, 5] rfl) hH hS
  exact loop_32 _ 0 ((zk_ap0 c9 d9 g9 k a t n).1) ((zk_ap0 c9 d9 g9 k a t n).2.1) ((zk_ap0 c9 d9 g9 k a t n).2.2) _ _ _ _ _ _ (Nat.lt_succ_self _) (by omega) rfl hm (lv_sub hl [3, 4, 5, 2, 1, 0] rfl) hH hS
