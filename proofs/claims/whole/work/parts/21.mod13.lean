/-- the reference under construction: the arrays of the slots below n stand -/
def zoC (n X : Nat) (ad : Nat → Nat) (own : Nat → Int32) (kd0 ln0 : Nat → Nat) (I0 : Nat → Nat → Int32) (L0 : Nat → Nat → Int64) (R0 : Nat → Nat → Option Nat) (kd ln : Nat → Nat) (I : Nat → Nat → Int32) (L : Nat → Nat → Int64) (R : Nat → Nat → Option Nat) : Prop := kd X = 7 ∧ (∀ j, j < n → zo_k j ≠ 0 → R X j = some (ad j) ∧ kd (ad j) = zo_k j ∧ ln (ad j) = zo_n j ∧ kd0 (ad j) = 0 ∧ (I (ad j) = fun _ => 0) ∧ L (ad j) = fun _ => 0) ∧ (∀ i j, i < n → j < n → zo_k i ≠ 0 → zo_k j ≠ 0 → ad i = ad j → i = j) ∧ I X = own ∧ ∀ a, kd0 a ≠ 0 → a ≠ X → kd a = kd0 a ∧ ln a = ln0 a ∧ I a = I0 a ∧ L a = L0 a ∧ R a = R0 a
theorem zoC_new {n X : Nat} {ad : Nat → Nat} {own : Nat → Int32} {kd0 ln0 : Nat → Nat} {I0 : Nat → Nat → Int32} {L0 : Nat → Nat → Int64} {R0 : Nat → Nat → Option Nat} {kd ln : Nat → Nat} {I : Nat → Nat → Int32} {L : Nat → Nat → Int64} {R : Nat → Nat → Option Nat} (h : zoC n X ad own kd0 ln0 I0 L0 R0 kd ln I L R) (h0 : kd0 X = 7) {q : Nat} (hq : kd q = 0) (j : Nat) (hj : n ≤ j ∧ zo_k j ≠ 0) (hs : ∀ i, i < j → n ≤ i → zo_k i = 0) : zoC (j + 1) X (va_up ad j q) own kd0 ln0 I0 L0 R0 (va_up kd q (zo_k j)) (va_up ln q (zo_n j)) (va_up I q (fun _ => 0)) (va_up L q (fun _ => 0)) (zu (va_up R q (fun _ => none)) X j (some q)) := by
  obtain ⟨h1, h2, h3, h4, h5⟩ := h
  have hX : X ≠ q := fun e => by rw [← e, h1] at hq; omega
  have hq0 : kd0 q = 0 := Decidable.byContradiction fun e => e ((h5 q e (Ne.symm hX)).1.symm.trans hq)
  have low : ∀ i, i < j + 1 → zo_k i ≠ 0 → i ≠ j → i < n := fun i hi hk hne => Decidable.byContradiction fun e => hk (hs i (by omega) (by omega))
  have hne : ∀ i, i < n → zo_k i ≠ 0 → ad i ≠ q := fun i hi hk e => hk (by rw [← (h2 i hi hk).2.1, e]; exact hq)
  refine ⟨by rw [va_up_ne _ _ hX]; exact h1, fun i hi hk => ?_, fun a b ha hb ka kb e => ?_, by rw [va_up_ne _ _ hX]; exact h4, fun a ha hX2 => ?_⟩
  · by_cases e : i = j
    · subst e
      rw [zu_self, va_up_self, va_up_self, va_up_self, va_up_self, va_up_self]
      exact ⟨rfl, rfl, rfl, hq0, rfl, rfl⟩
    · have hin := low i hi hk e
      obtain ⟨g1, g2, g3, g4, g5, g6⟩ := h2 i hin hk
      have hn := hne i hin hk
      rw [va_up_ne _ _ e, zu_k _ _ _ _ e, va_up_ne _ _ hX, va_up_ne _ _ hn, va_up_ne _ _ hn, va_up_ne _ _ hn, va_up_ne _ _ hn]
      exact ⟨g1, g2, g3, g4, g5, g6⟩
  · by_cases ea : a = j
    · by_cases eb : b = j
      · rw [ea, eb]
      · rw [ea, va_up_self, va_up_ne _ _ eb] at e
        exact absurd e.symm (hne b (low b hb kb eb) kb)
    · by_cases eb : b = j
      · rw [eb, va_up_self, va_up_ne _ _ ea] at e
        exact absurd e (hne a (low a ha ka ea) ka)
      · rw [va_up_ne _ _ ea, va_up_ne _ _ eb] at e
        exact h3 a b (low a ha ka ea) (low b hb kb eb) ka kb e
  · have haq : a ≠ q := fun e => ha (by rw [e]; exact hq0)
    rw [va_up_ne _ _ haq, va_up_ne _ _ haq, va_up_ne _ _ haq, va_up_ne _ _ haq, zu_ne _ _ _ hX2, va_up_ne _ _ haq]
    exact h5 a ha hX2
theorem zoC_X {n X : Nat} {ad : Nat → Nat} {own : Nat → Int32} {kd0 ln0 : Nat → Nat} {I0 : Nat → Nat → Int32} {L0 : Nat → Nat → Int64} {R0 : Nat → Nat → Option Nat} {kd ln : Nat → Nat} {I : Nat → Nat → Int32} {L : Nat → Nat → Int64} {R : Nat → Nat → Option Nat} (h : zoC n X ad own kd0 ln0 I0 L0 R0 kd ln I L R) (h0 : kd0 X = 7) (k : Nat) (x : Int32) : zoC n X ad (va_up own k x) kd0 ln0 I0 L0 R0 kd ln (zu I X k x) L R := by
  obtain ⟨h1, h2, h3, h4, h5⟩ := h
  refine ⟨h1, fun i hi hk => ?_, h3, by rw [zu_at, h4], fun a ha hX2 => ?_⟩
  · obtain ⟨g1, g2, g3, g4, g5, g6⟩ := h2 i hi hk
    have hn : ad i ≠ X := fun e => by rw [e, h0] at g4; omega
    rw [zu_ne _ _ _ hn]
    exact ⟨g1, g2, g3, g4, g5, g6⟩
  · rw [zu_ne _ _ _ hX2]
    exact h5 a ha hX2
def zo_own : Nat → Int32 := va_up (va_up (va_up (fun _ => 0) 1 (-1)) 2 (-1)) 35 (-1)
def zo_ma : Nat → Nat → Int32 := va_up (fun _ _ => 0) 40 zo_own
def zo_mb (n : Nat) : Nat → Nat → Int32 := va_up zo_ma 16 (zo_map (fun _ => 0) (fun _ => (-1)) n)
def zo_mc (n : Nat) : Nat → Nat → Int32 := va_up (zo_mb 280) 27 (zo_map (fun _ => 0) (fun _ => (-1)) n)
theorem zo_mb_s (n : Nat) : zu (zo_mb n) 16 n (-1) = zo_mb (n + 1) := zo_map_s zo_ma 16 (fun _ => 0) (fun _ => (-1)) n
theorem zo_mc_s (n : Nat) : zu (zo_mc n) 27 n (-1) = zo_mc (n + 1) := zo_map_s (zo_mb 280) 27 (fun _ => 0) (fun _ => (-1)) n
theorem zo_mb_0 : zo_mb 0 = zo_ma := by
  have := zo_map_0 zo_ma 16 (fun _ => (-1))
  rw [show zo_ma 16 = fun _ => 0 from va_up_ne _ _ (by decide)] at this
  exact this
theorem zo_mc_0 : zo_mc 0 = zo_mb 280 := by
  have := zo_map_0 (zo_mb 280) 27 (fun _ => (-1))
  rw [show zo_mb 280 27 = fun _ => 0 from (va_up_ne _ _ (by decide)).trans (va_up_ne _ _ (by decide))] at this
  exact this
theorem zoC_R {X : Nat} {ad : Nat → Nat} {kd0 ln0 : Nat → Nat} {I0 : Nat → Nat → Int32} {L0 : Nat → Nat → Int64} {R0 : Nat → Nat → Option Nat} {kd ln : Nat → Nat} {I : Nat → Nat → Int32} {L : Nat → Nat → Int64} {R : Nat → Nat → Option Nat} (h : zoC 37 X ad zo_own kd0 ln0 I0 L0 R0 kd ln I L R) : zoR X ad zo_ma (fun _ _ => 0) kd ln I L R := by
  obtain ⟨h1, h2, h3, h4, h5⟩ := h
  refine ⟨⟨h1, fun j hj hk => ⟨(h2 j hj hk).1, (h2 j hj hk).2.1, (h2 j hj hk).2.2.1⟩, h3⟩, fun j hj hk h9 => ?_, ?_, fun j hj hk => ?_⟩
  · rw [(h2 j hj hk).2.2.2.2.1]
    exact (va_up_ne (fun _ _ => 0) zo_own (show j ≠ 40 by omega)).symm
  · rw [h4]
    exact (va_up_self _ _ _).symm
  · exact (h2 j hj (by omega)).2.2.2.2.2
/-- what stood ahead of the construction, but the object itself, stands as it was -/
def zo_keep (X : Nat) (kd0 ln0 : Nat → Nat) (I0 : Nat → Nat → Int32) (L0 : Nat → Nat → Int64) (R0 : Nat → Nat → Option Nat) (kd ln : Nat → Nat) (I : Nat → Nat → Int32) (L : Nat → Nat → Int64) (R : Nat → Nat → Option Nat) : Prop := ∀ a, kd0 a ≠ 0 → a ≠ X → kd a = kd0 a ∧ ln a = ln0 a ∧ I a = I0 a ∧ L a = L0 a ∧ R a = R0 a

set_option maxHeartbeats 4000000 in
set_option maxRecDepth 100000 in
/-- the constructor -/
theorem c_Mod_init {l : Launch} {D : va_G} {cA : Nat → ClassId} {te mi : Nat} {kd ln : Nat → Nat} {I : Nat → Nat → Int32} {L : Nat → Nat → Int64} {R : Nat → Nat → Option Nat} {X : Nat} (h0 : kd X = 7) (h1 : I X = fun _ => 0) : zc_M l y_Mod_init w_Mod_init { frames := 1, cells := 28, slots := 5924, locals := 12 } 28 5924 D cA te mi ([.ref X] : List Value) kd ln I L R (fun v9 kd9 ln9 I9 L9 R9 => none = v9 ∧ ∃ ad, zoR X ad (zo_mc 4) (fun _ _ => 0) kd9 ln9 I9 L9 R9 ∧ zo_keep X kd ln I L R kd9 ln9 I9 L9 R9) := by
  intro sz
  refine Met.ofW (cc := b_Mod_init) (maxL := 2) (ret := none) (by decide +kernel) rfl ?_
  intro p e s m args below meth c s₁ B hml hv
  obtain ⟨rfl, hsz, hSc, hE, hH⟩ := hv
  have hx := B.exec
  have hb := B.bytes
  have hr := B.returns
  have hts := atoms_spec (ws := w_Mod_init) B.pre
  have hw : ∀ {w : Cond}, w ∈ zw → w.before ([.ref X] : List Value).toArray s = true := fun h => hts _ (List.mem_cons_of_mem _ h)
  have hown : s.vm.findClass R_Mod = some m.cls := findClass_of_methodNamed B.named
  have hlocks := B.notSynchronized
  subst hsz
  have hK := hSc.1
  have hH : zh_H D cA (zc_A kd s.heap.size) kd ln I L R s.heap := hH.weaken (fun q h _ => Or.inl h)
  generalize hAe : zc_A kd s.heap.size = A at hH hE ⊢
  have hA : ∀ q : Nat, s.heap.size ≤ q → A q := fun q h => by rw [← hAe]; exact Or.inr h
  have hS : va_S A s.heap s.heap [] := va_S.rf
  have hl := lv_entry ([.ref X] : List Value) (n := 2) (Nat.le_of_ble_eq_true rfl)
  rw [lg_entry_eq]
  generalize (lg_sl ([.ref X] : List Value) ++ List.replicate (2 - (lg_sl ([.ref X] : List Value)).length) Slot.unset).toArray = ls at hl ⊢
  have hl : lv_has ls 2 [(0, .ref X)] := hl
  have hin : meth.name = "<init>" := (name_of_methodNamed B.named B.method).1
  refine lv_aload_n hx hb d_Mod_init_0 rfl (lv_at hl 0 rfl) ?_
  refine W.objInit hx hb hown (hw zw_598) (hw zw_23) (hw zw_24) rfl (by rw [hml]; exact hl.1) rfl d_Mod_init_1 (Nat.le_of_ble_eq_true rfl) (Nat.le_of_ble_eq_true rfl) ?_
  refine W.eq (g2 := F0 m 4 ls []) rfl ?_
  have hC : zoC 0 X (fun _ => 0) (fun _ => 0) kd ln I L R kd ln I L R := ⟨h0, fun j hj => absurd hj (Nat.not_lt_zero j), fun i j hi => absurd hi (Nat.not_lt_zero i), h1, fun a _ _ => ⟨rfl, rfl, rfl, rfl, rfl⟩⟩
  refine lv_aload_n hx hb d_Mod_init_4 rfl (lv_at hl 0 rfl) ?_
  refine lv_sipush (v := nI 768) hx hb d_Mod_init_5 (by decide) ?_
  refine zr_newal (atype := .long) (N' := 768) hx hb (hw zw_58) rfl hK hH hS hA (nI_pos (by omega)) (nI_clamp (by omega)) (by omega) (Nat.le_of_ble_eq_true rfl) (by show 0 + (768) ≤ 5924; omega) d_Mod_init_8 (fun q1 H hq2 hH hS => ?_)
  refine W.widen (k := 1) (n := 768) (by omega) (by omega) ?_
  refine zr_putFq (ref := "ScrubbedRecorderModel") (ci := 6) (C := R_Mod) (T := T_Mod) (N := 37) (x := some q1) (ty := .array .long) hx hb hts (fun w h => List.mem_cons_of_mem _ (zin_Mod w h)) ty_Mod tyok_Mod nm_Mod hown hK hH hS (by rw [va_up_ne _ _ (zt_kd h0 hq2 (by decide))]; exact h0) (by decide) rfl 0 (by decide) rfl (hw zw_599) (fun _ h9 => h9) rfl hin rfl (by decide +kernel) rfl rfl d_Mod_init_10 (fun H locs hH hS => ?_)
  have hC := zoC_new hC h0 hq2 0 (by decide) (by decide)
  have hH : zh_H D cA A (va_up kd q1 (zo_k 0)) (va_up ln q1 (zo_n 0)) (va_up I q1 (fun _ => 0)) (va_up L q1 (fun _ => 0)) (zu (va_up R q1 (fun _ => none)) X 0 (some q1)) H := hH
  generalize va_up kd q1 (zo_k 0) = kd_0 at hC hH
  generalize va_up ln q1 (zo_n 0) = ln_0 at hC hH
  generalize va_up I q1 (fun _ => 0) = I_0 at hC hH
  generalize va_up L q1 (fun _ => 0) = L_0 at hC hH
  generalize zu (va_up R q1 (fun _ => none)) X 0 (some q1) = R_0 at hC hH
  generalize va_up (fun _ => 0) 0 q1 = ad_0 at hC
  refine lv_aload_n hx hb d_Mod_init_13 rfl (lv_at hl 0 rfl) ?_
  refine lv_iconst (v := (-1)) hx hb d_Mod_init_14 (by decide) ?_
  refine zr_puti (ref := "ScrubbedRecorderModel") (ci := 6) (C := R_Mod) (T := T_Mod) (N := 37) (x := (-1)) (ty := .int) hx hb hts (fun w h => List.mem_cons_of_mem _ (zin_Mod w h)) ty_Mod tyok_Mod nm_Mod hown hK hH hS hC.1 (by decide) rfl 1 (by decide) rfl (hw zw_600) (fun _ h9 => h9) rfl (by decide +kernel) rfl rfl d_Mod_init_15 (fun H locs hH hS => ?_)
  have hC := zoC_X hC h0 1 (-1)
  generalize zu I_0 X 1 (-1) = I_1 at hC hH
  refine lv_aload_n hx hb d_Mod_init_18 rfl (lv_at hl 0 rfl) ?_
  refine lv_iconst (v := (-1)) hx hb d_Mod_init_19 (by decide) ?_
  refine zr_puti (ref := "ScrubbedRecorderModel") (ci := 6) (C := R_Mod) (T := T_Mod) (N := 37) (x := (-1)) (ty := .int) hx hb hts (fun w h => List.mem_cons_of_mem _ (zin_Mod w h)) ty_Mod tyok_Mod nm_Mod hown hK hH hS hC.1 (by decide) rfl 2 (by decide) rfl (hw zw_601) (fun _ h9 => h9) rfl (by decide +kernel) rfl rfl d_Mod_init_20 (fun H locs hH hS => ?_)
  have hC := zoC_X hC h0 2 (-1)
  generalize zu I_1 X 2 (-1) = I_2 at hC hH
  refine lv_aload_n hx hb d_Mod_init_23 rfl (lv_at hl 0 rfl) ?_
  refine lv_iconst (v := nI 4) hx hb d_Mod_init_24 (by decide) ?_
  refine zr_newaz (atype := .boolean) (N' := 4) hx hb (hw zw_59) rfl hK hH hS hA (nI_pos (by omega)) (nI_clamp (by omega)) (by omega) (Nat.le_of_ble_eq_true rfl) (by show 768 + (4) ≤ 5924; omega) d_Mod_init_25 (fun q3 H hq4 hH hS => ?_)
  refine W.widen (k := 2) (n := 772) (by omega) (by omega) ?_
  refine zr_putFq (ref := "ScrubbedRecorderModel") (ci := 6) (C := R_Mod) (T := T_Mod) (N := 37) (x := some q3) (ty := .array .boolean) hx hb hts (fun w h => List.mem_cons_of_mem _ (zin_Mod w h)) ty_Mod tyok_Mod nm_Mod hown hK hH hS (by rw [va_up_ne _ _ (zt_kd hC.1 hq4 (by decide))]; exact hC.1) (by decide) rfl 7 (by decide) rfl (hw zw_606) (fun _ h9 => h9) rfl hin rfl (by decide +kernel) rfl rfl d_Mod_init_27 (fun H locs hH hS => ?_)
  have hC := zoC_new hC h0 hq4 7 (by decide) (by decide)
  have hH : zh_H D cA A (va_up kd_0 q3 (zo_k 7)) (va_up ln_0 q3 (zo_n 7)) (va_up I_2 q3 (fun _ => 0)) (va_up L_0 q3 (fun _ => 0)) (zu (va_up R_0 q3 (fun _ => none)) X 7 (some q3)) H := hH
  generalize va_up kd_0 q3 (zo_k 7) = kd_7 at hC hH
  generalize va_up ln_0 q3 (zo_n 7) = ln_7 at hC hH
  generalize va_up I_2 q3 (fun _ => 0) = I_7 at hC hH
  generalize va_up L_0 q3 (fun _ => 0) = L_7 at hC hH
  generalize zu (va_up R_0 q3 (fun _ => none)) X 7 (some q3) = R_7 at hC hH
  generalize va_up ad_0 7 q3 = ad_7 at hC
  refine lv_aload_n hx hb d_Mod_init_30 rfl (lv_at hl 0 rfl) ?_
  refine lv_iconst (v := nI 4) hx hb d_Mod_init_31 (by decide) ?_
  refine zr_newaz (atype := .boolean) (N' := 4) hx hb (hw zw_59) rfl hK hH hS hA (nI_pos (by omega)) (nI_clamp (by omega)) (by omega) (Nat.le_of_ble_eq_true rfl) (by show 772 + (4) ≤ 5924; omega) d_Mod_init_32 (fun q5 H hq6 hH hS => ?_)
  refine W.widen (k := 3) (n := 776) (by omega) (by omega) ?_
  refine zr_putFq (ref := "ScrubbedRecorderModel") (ci := 6) (C := R_Mod) (T := T_Mod) (N := 37) (x := some q5) (ty := .array .boolean) hx hb hts (fun w h => List.mem_cons_of_mem _ (zin_Mod w h)) ty_Mod tyok_Mod nm_Mod hown hK hH hS (by rw [va_up_ne _ _ (zt_kd hC.1 hq6 (by decide))]; exact hC.1) (by decide) rfl 8 (by decide) rfl (hw zw_607) (fun _ h9 => h9) rfl hin rfl (by decide +kernel) rfl rfl d_Mod_init_34 (fun H locs hH hS => ?_)
  have hC := zoC_new hC h0 hq6 8 (by decide) (by decide)
  have hH : zh_H D cA A (va_up kd_7 q5 (zo_k 8)) (va_up ln_7 q5 (zo_n 8)) (va_up I_7 q5 (fun _ => 0)) (va_up L_7 q5 (fun _ => 0)) (zu (va_up R_7 q5 (fun _ => none)) X 8 (some q5)) H := hH
  generalize va_up kd_7 q5 (zo_k 8) = kd_8 at hC hH
  generalize va_up ln_7 q5 (zo_n 8) = ln_8 at hC hH
  generalize va_up I_7 q5 (fun _ => 0) = I_8 at hC hH
  generalize va_up L_7 q5 (fun _ => 0) = L_8 at hC hH
  generalize zu (va_up R_7 q5 (fun _ => none)) X 8 (some q5) = R_8 at hC hH
  generalize va_up ad_7 8 q5 = ad_8 at hC
  refine lv_aload_n hx hb d_Mod_init_37 rfl (lv_at hl 0 rfl) ?_
  refine lv_iconst (v := nI 4) hx hb d_Mod_init_38 (by decide) ?_
  refine zr_newai (atype := .int) (N' := 4) hx hb (hw zw_123) rfl hK hH hS hA (nI_pos (by omega)) (nI_clamp (by omega)) (by omega) (Nat.le_of_ble_eq_true rfl) (by show 776 + (4) ≤ 5924; omega) d_Mod_init_39 (fun q7 H hq8 hH hS => ?_)
  refine W.widen (k := 4) (n := 780) (by omega) (by omega) ?_
  refine zr_putFq (ref := "ScrubbedRecorderModel") (ci := 6) (C := R_Mod) (T := T_Mod) (N := 37) (x := some q7) (ty := .array .int) hx hb hts (fun w h => List.mem_cons_of_mem _ (zin_Mod w h)) ty_Mod tyok_Mod nm_Mod hown hK hH hS (by rw [va_up_ne _ _ (zt_kd hC.1 hq8 (by decide))]; exact hC.1) (by decide) rfl 9 (by decide) rfl (hw zw_608) (fun _ h9 => h9) rfl hin rfl (by decide +kernel) rfl rfl d_Mod_init_41 (fun H locs hH hS => ?_)
  have hC := zoC_new hC h0 hq8 9 (by decide) (by decide)
  have hH : zh_H D cA A (va_up kd_8 q7 (zo_k 9)) (va_up ln_8 q7 (zo_n 9)) (va_up I_8 q7 (fun _ => 0)) (va_up L_8 q7 (fun _ => 0)) (zu (va_up R_8 q7 (fun _ => none)) X 9 (some q7)) H := hH
  generalize va_up kd_8 q7 (zo_k 9) = kd_9 at hC hH
  generalize va_up ln_8 q7 (zo_n 9) = ln_9 at hC hH
  generalize va_up I_8 q7 (fun _ => 0) = I_9 at hC hH
  generalize va_up L_8 q7 (fun _ => 0) = L_9 at hC hH
  generalize zu (va_up R_8 q7 (fun _ => none)) X 9 (some q7) = R_9 at hC hH
  generalize va_up ad_8 9 q7 = ad_9 at hC
  refine lv_aload_n hx hb d_Mod_init_44 rfl (lv_at hl 0 rfl) ?_
  refine lv_iconst (v := nI 4) hx hb d_Mod_init_45 (by decide) ?_
  refine zr_newai (atype := .int) (N' := 4) hx hb (hw zw_123) rfl hK hH hS hA (nI_pos (by omega)) (nI_clamp (by omega)) (by omega) (Nat.le_of_ble_eq_true rfl) (by show 780 + (4) ≤ 5924; omega) d_Mod_init_46 (fun q9 H hq10 hH hS => ?_)
  refine W.widen (k := 5) (n := 784) (by omega) (by omega) ?_
  refine zr_putFq (ref := "ScrubbedRecorderModel") (ci := 6) (C := R_Mod) (T := T_Mod) (N := 37) (x := some q9) (ty := .array .int) hx hb hts (fun w h => List.mem_cons_of_mem _ (zin_Mod w h)) ty_Mod tyok_Mod nm_Mod hown hK hH hS (by rw [va_up_ne _ _ (zt_kd hC.1 hq10 (by decide))]; exact hC.1) (by decide) rfl 10 (by decide) rfl (hw zw_609) (fun _ h9 => h9) rfl hin rfl (by decide +kernel) rfl rfl d_Mod_init_48 (fun H locs hH hS => ?_)
  have hC := zoC_new hC h0 hq10 10 (by decide) (by decide)
  have hH : zh_H D cA A (va_up kd_9 q9 (zo_k 10)) (va_up ln_9 q9 (zo_n 10)) (va_up I_9 q9 (fun _ => 0)) (va_up L_9 q9 (fun _ => 0)) (zu (va_up R_9 q9 (fun _ => none)) X 10 (some q9)) H := hH
  generalize va_up kd_9 q9 (zo_k 10) = kd_10 at hC hH
  generalize va_up ln_9 q9 (zo_n 10) = ln_10 at hC hH
  generalize va_up I_9 q9 (fun _ => 0) = I_10 at hC hH
  generalize va_up L_9 q9 (fun _ => 0) = L_10 at hC hH
  generalize zu (va_up R_9 q9 (fun _ => none)) X 10 (some q9) = R_10 at hC hH
  generalize va_up ad_9 10 q9 = ad_10 at hC
  refine lv_aload_n hx hb d_Mod_init_51 rfl (lv_at hl 0 rfl) ?_
  refine lv_iconst (v := nI 4) hx hb d_Mod_init_52 (by decide) ?_
  refine zr_newai (atype := .int) (N' := 4) hx hb (hw zw_123) rfl hK hH hS hA (nI_pos (by omega)) (nI_clamp (by omega)) (by omega) (Nat.le_of_ble_eq_true rfl) (by show 784 + (4) ≤ 5924; omega) d_Mod_init_53 (fun q11 H hq12 hH hS => ?_)
  refine W.widen (k := 6) (n := 788) (by omega) (by omega) ?_
  refine zr_putFq (ref := "ScrubbedRecorderModel") (ci := 6) (C := R_Mod) (T := T_Mod) (N := 37) (x := some q11) (ty := .array .int) hx hb hts (fun w h => List.mem_cons_of_mem _ (zin_Mod w h)) ty_Mod tyok_Mod nm_Mod hown hK hH hS (by rw [va_up_ne _ _ (zt_kd hC.1 hq12 (by decide))]; exact hC.1) (by decide) rfl 11 (by decide) rfl (hw zw_610) (fun _ h9 => h9) rfl hin rfl (by decide +kernel) rfl rfl d_Mod_init_55 (fun H locs hH hS => ?_)
  have hC := zoC_new hC h0 hq12 11 (by decide) (by decide)
  have hH : zh_H D cA A (va_up kd_10 q11 (zo_k 11)) (va_up ln_10 q11 (zo_n 11)) (va_up I_10 q11 (fun _ => 0)) (va_up L_10 q11 (fun _ => 0)) (zu (va_up R_10 q11 (fun _ => none)) X 11 (some q11)) H := hH
  generalize va_up kd_10 q11 (zo_k 11) = kd_11 at hC hH
  generalize va_up ln_10 q11 (zo_n 11) = ln_11 at hC hH
  generalize va_up I_10 q11 (fun _ => 0) = I_11 at hC hH
  generalize va_up L_10 q11 (fun _ => 0) = L_11 at hC hH
  generalize zu (va_up R_10 q11 (fun _ => none)) X 11 (some q11) = R_11 at hC hH
  generalize va_up ad_10 11 q11 = ad_11 at hC
  refine lv_aload_n hx hb d_Mod_init_58 rfl (lv_at hl 0 rfl) ?_
  refine lv_iconst (v := nI 4) hx hb d_Mod_init_59 (by decide) ?_
  refine zr_newai (atype := .int) (N' := 4) hx hb (hw zw_123) rfl hK hH hS hA (nI_pos (by omega)) (nI_clamp (by omega)) (by omega) (Nat.le_of_ble_eq_true rfl) (by show 788 + (4) ≤ 5924; omega) d_Mod_init_60 (fun q13 H hq14 hH hS => ?_)
  refine W.widen (k := 7) (n := 792) (by omega) (by omega) ?_
  refine zr_putFq (ref := "ScrubbedRecorderModel") (ci := 6) (C := R_Mod) (T := T_Mod) (N := 37) (x := some q13) (ty := .array .int) hx hb hts (fun w h => List.mem_cons_of_mem _ (zin_Mod w h)) ty_Mod tyok_Mod nm_Mod hown hK hH hS (by rw [va_up_ne _ _ (zt_kd hC.1 hq14 (by decide))]; exact hC.1) (by decide) rfl 12 (by decide) rfl (hw zw_611) (fun _ h9 => h9) rfl hin rfl (by decide +kernel) rfl rfl d_Mod_init_62 (fun H locs hH hS => ?_)
  have hC := zoC_new hC h0 hq14 12 (by decide) (by decide)
  have hH : zh_H D cA A (va_up kd_11 q13 (zo_k 12)) (va_up ln_11 q13 (zo_n 12)) (va_up I_11 q13 (fun _ => 0)) (va_up L_11 q13 (fun _ => 0)) (zu (va_up R_11 q13 (fun _ => none)) X 12 (some q13)) H := hH
  generalize va_up kd_11 q13 (zo_k 12) = kd_12 at hC hH
  generalize va_up ln_11 q13 (zo_n 12) = ln_12 at hC hH
  generalize va_up I_11 q13 (fun _ => 0) = I_12 at hC hH
  generalize va_up L_11 q13 (fun _ => 0) = L_12 at hC hH
  generalize zu (va_up R_11 q13 (fun _ => none)) X 12 (some q13) = R_12 at hC hH
  generalize va_up ad_11 12 q13 = ad_12 at hC
  refine lv_aload_n hx hb d_Mod_init_65 rfl (lv_at hl 0 rfl) ?_
  refine lv_iconst (v := nI 4) hx hb d_Mod_init_66 (by decide) ?_
  refine zr_newai (atype := .int) (N' := 4) hx hb (hw zw_123) rfl hK hH hS hA (nI_pos (by omega)) (nI_clamp (by omega)) (by omega) (Nat.le_of_ble_eq_true rfl) (by show 792 + (4) ≤ 5924; omega) d_Mod_init_67 (fun q15 H hq16 hH hS => ?_)
  refine W.widen (k := 8) (n := 796) (by omega) (by omega) ?_
  refine zr_putFq (ref := "ScrubbedRecorderModel") (ci := 6) (C := R_Mod) (T := T_Mod) (N := 37) (x := some q15) (ty := .array .int) hx hb hts (fun w h => List.mem_cons_of_mem _ (zin_Mod w h)) ty_Mod tyok_Mod nm_Mod hown hK hH hS (by rw [va_up_ne _ _ (zt_kd hC.1 hq16 (by decide))]; exact hC.1) (by decide) rfl 13 (by decide) rfl (hw zw_612) (fun _ h9 => h9) rfl hin rfl (by decide +kernel) rfl rfl d_Mod_init_69 (fun H locs hH hS => ?_)
  have hC := zoC_new hC h0 hq16 13 (by decide) (by decide)
  have hH : zh_H D cA A (va_up kd_12 q15 (zo_k 13)) (va_up ln_12 q15 (zo_n 13)) (va_up I_12 q15 (fun _ => 0)) (va_up L_12 q15 (fun _ => 0)) (zu (va_up R_12 q15 (fun _ => none)) X 13 (some q15)) H := hH
  generalize va_up kd_12 q15 (zo_k 13) = kd_13 at hC hH
  generalize va_up ln_12 q15 (zo_n 13) = ln_13 at hC hH
  generalize va_up I_12 q15 (fun _ => 0) = I_13 at hC hH
  generalize va_up L_12 q15 (fun _ => 0) = L_13 at hC hH
  generalize zu (va_up R_12 q15 (fun _ => none)) X 13 (some q15) = R_13 at hC hH
  generalize va_up ad_12 13 q15 = ad_13 at hC
  refine lv_aload_n hx hb d_Mod_init_72 rfl (lv_at hl 0 rfl) ?_
  refine lv_sipush (v := nI 160) hx hb d_Mod_init_73 (by decide) ?_
  refine zr_newai (atype := .int) (N' := 160) hx hb (hw zw_123) rfl hK hH hS hA (nI_pos (by omega)) (nI_clamp (by omega)) (by omega) (Nat.le_of_ble_eq_true rfl) (by show 796 + (160) ≤ 5924; omega) d_Mod_init_76 (fun q17 H hq18 hH hS => ?_)
  refine W.widen (k := 9) (n := 956) (by omega) (by omega) ?_
  refine zr_putFq (ref := "ScrubbedRecorderModel") (ci := 6) (C := R_Mod) (T := T_Mod) (N := 37) (x := some q17) (ty := .array .int) hx hb hts (fun w h => List.mem_cons_of_mem _ (zin_Mod w h)) ty_Mod tyok_Mod nm_Mod hown hK hH hS (by rw [va_up_ne _ _ (zt_kd hC.1 hq18 (by decide))]; exact hC.1) (by decide) rfl 14 (by decide) rfl (hw zw_613) (fun _ h9 => h9) rfl hin rfl (by decide +kernel) rfl rfl d_Mod_init_78 (fun H locs hH hS => ?_)
  have hC := zoC_new hC h0 hq18 14 (by decide) (by decide)
  have hH : zh_H D cA A (va_up kd_13 q17 (zo_k 14)) (va_up ln_13 q17 (zo_n 14)) (va_up I_13 q17 (fun _ => 0)) (va_up L_13 q17 (fun _ => 0)) (zu (va_up R_13 q17 (fun _ => none)) X 14 (some q17)) H := hH
  generalize va_up kd_13 q17 (zo_k 14) = kd_14 at hC hH
  generalize va_up ln_13 q17 (zo_n 14) = ln_14 at hC hH
  generalize va_up I_13 q17 (fun _ => 0) = I_14 at hC hH
  generalize va_up L_13 q17 (fun _ => 0) = L_14 at hC hH
  generalize zu (va_up R_13 q17 (fun _ => none)) X 14 (some q17) = R_14 at hC hH
  generalize va_up ad_13 14 q17 = ad_14 at hC
  refine lv_aload_n hx hb d_Mod_init_81 rfl (lv_at hl 0 rfl) ?_
  refine lv_bipush (v := nI 40) hx hb d_Mod_init_82 (by decide) ?_
  refine zr_newaz (atype := .boolean) (N' := 40) hx hb (hw zw_59) rfl hK hH hS hA (nI_pos (by omega)) (nI_clamp (by omega)) (by omega) (Nat.le_of_ble_eq_true rfl) (by show 956 + (40) ≤ 5924; omega) d_Mod_init_84 (fun q19 H hq20 hH hS => ?_)
  refine W.widen (k := 10) (n := 996) (by omega) (by omega) ?_
  refine zr_putFq (ref := "ScrubbedRecorderModel") (ci := 6) (C := R_Mod) (T := T_Mod) (N := 37) (x := some q19) (ty := .array .boolean) hx hb hts (fun w h => List.mem_cons_of_mem _ (zin_Mod w h)) ty_Mod tyok_Mod nm_Mod hown hK hH hS (by rw [va_up_ne _ _ (zt_kd hC.1 hq20 (by decide))]; exact hC.1) (by decide) rfl 15 (by decide) rfl (hw zw_614) (fun _ h9 => h9) rfl hin rfl (by decide +kernel) rfl rfl d_Mod_init_86 (fun H locs hH hS => ?_)
  have hC := zoC_new hC h0 hq20 15 (by decide) (by decide)
  have hH : zh_H D cA A (va_up kd_14 q19 (zo_k 15)) (va_up ln_14 q19 (zo_n 15)) (va_up I_14 q19 (fun _ => 0)) (va_up L_14 q19 (fun _ => 0)) (zu (va_up R_14 q19 (fun _ => none)) X 15 (some q19)) H := hH
  generalize va_up kd_14 q19 (zo_k 15) = kd_15 at hC hH
  generalize va_up ln_14 q19 (zo_n 15) = ln_15 at hC hH
  generalize va_up I_14 q19 (fun _ => 0) = I_15 at hC hH
  generalize va_up L_14 q19 (fun _ => 0) = L_15 at hC hH
  generalize zu (va_up R_14 q19 (fun _ => none)) X 15 (some q19) = R_15 at hC hH
  generalize va_up ad_14 15 q19 = ad_15 at hC
  refine lv_aload_n hx hb d_Mod_init_89 rfl (lv_at hl 0 rfl) ?_
  refine lv_sipush (v := nI 280) hx hb d_Mod_init_90 (by decide) ?_
  refine zr_newai (atype := .int) (N' := 280) hx hb (hw zw_123) rfl hK hH hS hA (nI_pos (by omega)) (nI_clamp (by omega)) (by omega) (Nat.le_of_ble_eq_true rfl) (by show 996 + (280) ≤ 5924; omega) d_Mod_init_93 (fun q21 H hq22 hH hS => ?_)
  refine W.widen (k := 11) (n := 1276) (by omega) (by omega) ?_
  refine zr_putFq (ref := "ScrubbedRecorderModel") (ci := 6) (C := R_Mod) (T := T_Mod) (N := 37) (x := some q21) (ty := .array .int) hx hb hts (fun w h => List.mem_cons_of_mem _ (zin_Mod w h)) ty_Mod tyok_Mod nm_Mod hown hK hH hS (by rw [va_up_ne _ _ (zt_kd hC.1 hq22 (by decide))]; exact hC.1) (by decide) rfl 16 (by decide) rfl (hw zw_615) (fun _ h9 => h9) rfl hin rfl (by decide +kernel) rfl rfl d_Mod_init_95 (fun H locs hH hS => ?_)
  have hC := zoC_new hC h0 hq22 16 (by decide) (by decide)
  have hH : zh_H D cA A (va_up kd_15 q21 (zo_k 16)) (va_up ln_15 q21 (zo_n 16)) (va_up I_15 q21 (fun _ => 0)) (va_up L_15 q21 (fun _ => 0)) (zu (va_up R_15 q21 (fun _ => none)) X 16 (some q21)) H := hH
  generalize va_up kd_15 q21 (zo_k 16) = kd_16 at hC hH
  generalize va_up ln_15 q21 (zo_n 16) = ln_16 at hC hH
  generalize va_up I_15 q21 (fun _ => 0) = I_16 at hC hH
  generalize va_up L_15 q21 (fun _ => 0) = L_16 at hC hH
  generalize zu (va_up R_15 q21 (fun _ => none)) X 16 (some q21) = R_16 at hC hH
  generalize va_up ad_15 16 q21 = ad_16 at hC
  refine lv_aload_n hx hb d_Mod_init_98 rfl (lv_at hl 0 rfl) ?_
  refine lv_sipush (v := nI 280) hx hb d_Mod_init_99 (by decide) ?_
  refine zr_newai (atype := .int) (N' := 280) hx hb (hw zw_123) rfl hK hH hS hA (nI_pos (by omega)) (nI_clamp (by omega)) (by omega) (Nat.le_of_ble_eq_true rfl) (by show 1276 + (280) ≤ 5924; omega) d_Mod_init_102 (fun q23 H hq24 hH hS => ?_)
  refine W.widen (k := 12) (n := 1556) (by omega) (by omega) ?_
  refine zr_putFq (ref := "ScrubbedRecorderModel") (ci := 6) (C := R_Mod) (T := T_Mod) (N := 37) (x := some q23) (ty := .array .int) hx hb hts (fun w h => List.mem_cons_of_mem _ (zin_Mod w h)) ty_Mod tyok_Mod nm_Mod hown hK hH hS (by rw [va_up_ne _ _ (zt_kd hC.1 hq24 (by decide))]; exact hC.1) (by decide) rfl 17 (by decide) rfl (hw zw_616) (fun _ h9 => h9) rfl hin rfl (by decide +kernel) rfl rfl d_Mod_init_104 (fun H locs hH hS => ?_)
  have hC := zoC_new hC h0 hq24 17 (by decide) (by decide)
  have hH : zh_H D cA A (va_up kd_16 q23 (zo_k 17)) (va_up ln_16 q23 (zo_n 17)) (va_up I_16 q23 (fun _ => 0)) (va_up L_16 q23 (fun _ => 0)) (zu (va_up R_16 q23 (fun _ => none)) X 17 (some q23)) H := hH
  generalize va_up kd_16 q23 (zo_k 17) = kd_17 at hC hH
  generalize va_up ln_16 q23 (zo_n 17) = ln_17 at hC hH
  generalize va_up I_16 q23 (fun _ => 0) = I_17 at hC hH
  generalize va_up L_16 q23 (fun _ => 0) = L_17 at hC hH
  generalize zu (va_up R_16 q23 (fun _ => none)) X 17 (some q23) = R_17 at hC hH
  generalize va_up ad_16 17 q23 = ad_17 at hC
  refine lv_aload_n hx hb d_Mod_init_107 rfl (lv_at hl 0 rfl) ?_
  refine lv_sipush (v := nI 280) hx hb d_Mod_init_108 (by decide) ?_
  refine zr_newai (atype := .int) (N' := 280) hx hb (hw zw_123) rfl hK hH hS hA (nI_pos (by omega)) (nI_clamp (by omega)) (by omega) (Nat.le_of_ble_eq_true rfl) (by show 1556 + (280) ≤ 5924; omega) d_Mod_init_111 (fun q25 H hq26 hH hS => ?_)
  refine W.widen (k := 13) (n := 1836) (by omega) (by omega) ?_
  refine zr_putFq (ref := "ScrubbedRecorderModel") (ci := 6) (C := R_Mod) (T := T_Mod) (N := 37) (x := some q25) (ty := .array .int) hx hb hts (fun w h => List.mem_cons_of_mem _ (zin_Mod w h)) ty_Mod tyok_Mod nm_Mod hown hK hH hS (by rw [va_up_ne _ _ (zt_kd hC.1 hq26 (by decide))]; exact hC.1) (by decide) rfl 18 (by decide) rfl (hw zw_617) (fun _ h9 => h9) rfl hin rfl (by decide +kernel) rfl rfl d_Mod_init_113 (fun H locs hH hS => ?_)
  have hC := zoC_new hC h0 hq26 18 (by decide) (by decide)
  have hH : zh_H D cA A (va_up kd_17 q25 (zo_k 18)) (va_up ln_17 q25 (zo_n 18)) (va_up I_17 q25 (fun _ => 0)) (va_up L_17 q25 (fun _ => 0)) (zu (va_up R_17 q25 (fun _ => none)) X 18 (some q25)) H := hH
  generalize va_up kd_17 q25 (zo_k 18) = kd_18 at hC hH
  generalize va_up ln_17 q25 (zo_n 18) = ln_18 at hC hH
  generalize va_up I_17 q25 (fun _ => 0) = I_18 at hC hH
  generalize va_up L_17 q25 (fun _ => 0) = L_18 at hC hH
  generalize zu (va_up R_17 q25 (fun _ => none)) X 18 (some q25) = R_18 at hC hH
  generalize va_up ad_17 18 q25 = ad_18 at hC
  refine lv_aload_n hx hb d_Mod_init_116 rfl (lv_at hl 0 rfl) ?_
  refine lv_sipush (v := nI 280) hx hb d_Mod_init_117 (by decide) ?_
  refine zr_newai (atype := .int) (N' := 280) hx hb (hw zw_123) rfl hK hH hS hA (nI_pos (by omega)) (nI_clamp (by omega)) (by omega) (Nat.le_of_ble_eq_true rfl) (by show 1836 + (280) ≤ 5924; omega) d_Mod_init_120 (fun q27 H hq28 hH hS => ?_)
  refine W.widen (k := 14) (n := 2116) (by omega) (by omega) ?_
  refine zr_putFq (ref := "ScrubbedRecorderModel") (ci := 6) (C := R_Mod) (T := T_Mod) (N := 37) (x := some q27) (ty := .array .int) hx hb hts (fun w h => List.mem_cons_of_mem _ (zin_Mod w h)) ty_Mod tyok_Mod nm_Mod hown hK hH hS (by rw [va_up_ne _ _ (zt_kd hC.1 hq28 (by decide))]; exact hC.1) (by decide) rfl 19 (by decide) rfl (hw zw_618) (fun _ h9 => h9) rfl hin rfl (by decide +kernel) rfl rfl d_Mod_init_122 (fun H locs hH hS => ?_)
  have hC := zoC_new hC h0 hq28 19 (by decide) (by decide)
  have hH : zh_H D cA A (va_up kd_18 q27 (zo_k 19)) (va_up ln_18 q27 (zo_n 19)) (va_up I_18 q27 (fun _ => 0)) (va_up L_18 q27 (fun _ => 0)) (zu (va_up R_18 q27 (fun _ => none)) X 19 (some q27)) H := hH
  generalize va_up kd_18 q27 (zo_k 19) = kd_19 at hC hH
  generalize va_up ln_18 q27 (zo_n 19) = ln_19 at hC hH
  generalize va_up I_18 q27 (fun _ => 0) = I_19 at hC hH
  generalize va_up L_18 q27 (fun _ => 0) = L_19 at hC hH
  generalize zu (va_up R_18 q27 (fun _ => none)) X 19 (some q27) = R_19 at hC hH
  generalize va_up ad_18 19 q27 = ad_19 at hC
  refine lv_aload_n hx hb d_Mod_init_125 rfl (lv_at hl 0 rfl) ?_
  refine lv_sipush (v := nI 280) hx hb d_Mod_init_126 (by decide) ?_
  refine zr_newai (atype := .int) (N' := 280) hx hb (hw zw_123) rfl hK hH hS hA (nI_pos (by omega)) (nI_clamp (by omega)) (by omega) (Nat.le_of_ble_eq_true rfl) (by show 2116 + (280) ≤ 5924; omega) d_Mod_init_129 (fun q29 H hq30 hH hS => ?_)
  refine W.widen (k := 15) (n := 2396) (by omega) (by omega) ?_
  refine zr_putFq (ref := "ScrubbedRecorderModel") (ci := 6) (C := R_Mod) (T := T_Mod) (N := 37) (x := some q29) (ty := .array .int) hx hb hts (fun w h => List.mem_cons_of_mem _ (zin_Mod w h)) ty_Mod tyok_Mod nm_Mod hown hK hH hS (by rw [va_up_ne _ _ (zt_kd hC.1 hq30 (by decide))]; exact hC.1) (by decide) rfl 20 (by decide) rfl (hw zw_619) (fun _ h9 => h9) rfl hin rfl (by decide +kernel) rfl rfl d_Mod_init_131 (fun H locs hH hS => ?_)
  have hC := zoC_new hC h0 hq30 20 (by decide) (by decide)
  have hH : zh_H D cA A (va_up kd_19 q29 (zo_k 20)) (va_up ln_19 q29 (zo_n 20)) (va_up I_19 q29 (fun _ => 0)) (va_up L_19 q29 (fun _ => 0)) (zu (va_up R_19 q29 (fun _ => none)) X 20 (some q29)) H := hH
  generalize va_up kd_19 q29 (zo_k 20) = kd_20 at hC hH
  generalize va_up ln_19 q29 (zo_n 20) = ln_20 at hC hH
  generalize va_up I_19 q29 (fun _ => 0) = I_20 at hC hH
  generalize va_up L_19 q29 (fun _ => 0) = L_20 at hC hH
  generalize zu (va_up R_19 q29 (fun _ => none)) X 20 (some q29) = R_20 at hC hH
  generalize va_up ad_19 20 q29 = ad_20 at hC
  refine lv_aload_n hx hb d_Mod_init_134 rfl (lv_at hl 0 rfl) ?_
  refine lv_sipush (v := nI 280) hx hb d_Mod_init_135 (by decide) ?_
  refine zr_newai (atype := .int) (N' := 280) hx hb (hw zw_123) rfl hK hH hS hA (nI_pos (by omega)) (nI_clamp (by omega)) (by omega) (Nat.le_of_ble_eq_true rfl) (by show 2396 + (280) ≤ 5924; omega) d_Mod_init_138 (fun q31 H hq32 hH hS => ?_)
  refine W.widen (k := 16) (n := 2676) (by omega) (by omega) ?_
  refine zr_putFq (ref := "ScrubbedRecorderModel") (ci := 6) (C := R_Mod) (T := T_Mod) (N := 37) (x := some q31) (ty := .array .int) hx hb hts (fun w h => List.mem_cons_of_mem _ (zin_Mod w h)) ty_Mod tyok_Mod nm_Mod hown hK hH hS (by rw [va_up_ne _ _ (zt_kd hC.1 hq32 (by decide))]; exact hC.1) (by decide) rfl 21 (by decide) rfl (hw zw_620) (fun _ h9 => h9) rfl hin rfl (by decide +kernel) rfl rfl d_Mod_init_140 (fun H locs hH hS => ?_)
  have hC := zoC_new hC h0 hq32 21 (by decide) (by decide)
  have hH : zh_H D cA A (va_up kd_20 q31 (zo_k 21)) (va_up ln_20 q31 (zo_n 21)) (va_up I_20 q31 (fun _ => 0)) (va_up L_20 q31 (fun _ => 0)) (zu (va_up R_20 q31 (fun _ => none)) X 21 (some q31)) H := hH
  generalize va_up kd_20 q31 (zo_k 21) = kd_21 at hC hH
  generalize va_up ln_20 q31 (zo_n 21) = ln_21 at hC hH
  generalize va_up I_20 q31 (fun _ => 0) = I_21 at hC hH
  generalize va_up L_20 q31 (fun _ => 0) = L_21 at hC hH
  generalize zu (va_up R_20 q31 (fun _ => none)) X 21 (some q31) = R_21 at hC hH
  generalize va_up ad_20 21 q31 = ad_21 at hC
  refine lv_aload_n hx hb d_Mod_init_143 rfl (lv_at hl 0 rfl) ?_
  refine lv_sipush (v := nI 280) hx hb d_Mod_init_144 (by decide) ?_
  refine zr_newaz (atype := .boolean) (N' := 280) hx hb (hw zw_59) rfl hK hH hS hA (nI_pos (by omega)) (nI_clamp (by omega)) (by omega) (Nat.le_of_ble_eq_true rfl) (by show 2676 + (280) ≤ 5924; omega) d_Mod_init_147 (fun q33 H hq34 hH hS => ?_)
  refine W.widen (k := 17) (n := 2956) (by omega) (by omega) ?_
  refine zr_putFq (ref := "ScrubbedRecorderModel") (ci := 6) (C := R_Mod) (T := T_Mod) (N := 37) (x := some q33) (ty := .array .boolean) hx hb hts (fun w h => List.mem_cons_of_mem _ (zin_Mod w h)) ty_Mod tyok_Mod nm_Mod hown hK hH hS (by rw [va_up_ne _ _ (zt_kd hC.1 hq34 (by decide))]; exact hC.1) (by decide) rfl 22 (by decide) rfl (hw zw_621) (fun _ h9 => h9) rfl hin rfl (by decide +kernel) rfl rfl d_Mod_init_149 (fun H locs hH hS => ?_)
  have hC := zoC_new hC h0 hq34 22 (by decide) (by decide)
  have hH : zh_H D cA A (va_up kd_21 q33 (zo_k 22)) (va_up ln_21 q33 (zo_n 22)) (va_up I_21 q33 (fun _ => 0)) (va_up L_21 q33 (fun _ => 0)) (zu (va_up R_21 q33 (fun _ => none)) X 22 (some q33)) H := hH
  generalize va_up kd_21 q33 (zo_k 22) = kd_22 at hC hH
  generalize va_up ln_21 q33 (zo_n 22) = ln_22 at hC hH
  generalize va_up I_21 q33 (fun _ => 0) = I_22 at hC hH
  generalize va_up L_21 q33 (fun _ => 0) = L_22 at hC hH
  generalize zu (va_up R_21 q33 (fun _ => none)) X 22 (some q33) = R_22 at hC hH
  generalize va_up ad_21 22 q33 = ad_22 at hC
  refine lv_aload_n hx hb d_Mod_init_152 rfl (lv_at hl 0 rfl) ?_
  refine lv_sipush (v := nI 280) hx hb d_Mod_init_153 (by decide) ?_
  refine zr_newaz (atype := .boolean) (N' := 280) hx hb (hw zw_59) rfl hK hH hS hA (nI_pos (by omega)) (nI_clamp (by omega)) (by omega) (Nat.le_of_ble_eq_true rfl) (by show 2956 + (280) ≤ 5924; omega) d_Mod_init_156 (fun q35 H hq36 hH hS => ?_)
  refine W.widen (k := 18) (n := 3236) (by omega) (by omega) ?_
  refine zr_putFq (ref := "ScrubbedRecorderModel") (ci := 6) (C := R_Mod) (T := T_Mod) (N := 37) (x := some q35) (ty := .array .boolean) hx hb hts (fun w h => List.mem_cons_of_mem _ (zin_Mod w h)) ty_Mod tyok_Mod nm_Mod hown hK hH hS (by rw [va_up_ne _ _ (zt_kd hC.1 hq36 (by decide))]; exact hC.1) (by decide) rfl 23 (by decide) rfl (hw zw_622) (fun _ h9 => h9) rfl hin rfl (by decide +kernel) rfl rfl d_Mod_init_158 (fun H locs hH hS => ?_)
  have hC := zoC_new hC h0 hq36 23 (by decide) (by decide)
  have hH : zh_H D cA A (va_up kd_22 q35 (zo_k 23)) (va_up ln_22 q35 (zo_n 23)) (va_up I_22 q35 (fun _ => 0)) (va_up L_22 q35 (fun _ => 0)) (zu (va_up R_22 q35 (fun _ => none)) X 23 (some q35)) H := hH
  generalize va_up kd_22 q35 (zo_k 23) = kd_23 at hC hH
  generalize va_up ln_22 q35 (zo_n 23) = ln_23 at hC hH
  generalize va_up I_22 q35 (fun _ => 0) = I_23 at hC hH
  generalize va_up L_22 q35 (fun _ => 0) = L_23 at hC hH
  generalize zu (va_up R_22 q35 (fun _ => none)) X 23 (some q35) = R_23 at hC hH
  generalize va_up ad_22 23 q35 = ad_23 at hC
  refine lv_aload_n hx hb d_Mod_init_161 rfl (lv_at hl 0 rfl) ?_
  refine lv_sipush (v := nI 280) hx hb d_Mod_init_162 (by decide) ?_
  refine zr_newai (atype := .int) (N' := 280) hx hb (hw zw_123) rfl hK hH hS hA (nI_pos (by omega)) (nI_clamp (by omega)) (by omega) (Nat.le_of_ble_eq_true rfl) (by show 3236 + (280) ≤ 5924; omega) d_Mod_init_165 (fun q37 H hq38 hH hS => ?_)
  refine W.widen (k := 19) (n := 3516) (by omega) (by omega) ?_
  refine zr_putFq (ref := "ScrubbedRecorderModel") (ci := 6) (C := R_Mod) (T := T_Mod) (N := 37) (x := some q37) (ty := .array .int) hx hb hts (fun w h => List.mem_cons_of_mem _ (zin_Mod w h)) ty_Mod tyok_Mod nm_Mod hown hK hH hS (by rw [va_up_ne _ _ (zt_kd hC.1 hq38 (by decide))]; exact hC.1) (by decide) rfl 24 (by decide) rfl (hw zw_623) (fun _ h9 => h9) rfl hin rfl (by decide +kernel) rfl rfl d_Mod_init_167 (fun H locs hH hS => ?_)
  have hC := zoC_new hC h0 hq38 24 (by decide) (by decide)
  have hH : zh_H D cA A (va_up kd_23 q37 (zo_k 24)) (va_up ln_23 q37 (zo_n 24)) (va_up I_23 q37 (fun _ => 0)) (va_up L_23 q37 (fun _ => 0)) (zu (va_up R_23 q37 (fun _ => none)) X 24 (some q37)) H := hH
  generalize va_up kd_23 q37 (zo_k 24) = kd_24 at hC hH
  generalize va_up ln_23 q37 (zo_n 24) = ln_24 at hC hH
  generalize va_up I_23 q37 (fun _ => 0) = I_24 at hC hH
  generalize va_up L_23 q37 (fun _ => 0) = L_24 at hC hH
  generalize zu (va_up R_23 q37 (fun _ => none)) X 24 (some q37) = R_24 at hC hH
  generalize va_up ad_23 24 q37 = ad_24 at hC
  refine lv_aload_n hx hb d_Mod_init_170 rfl (lv_at hl 0 rfl) ?_
  refine lv_sipush (v := nI 2240) hx hb d_Mod_init_171 (by decide) ?_
  refine zr_newal (atype := .long) (N' := 2240) hx hb (hw zw_58) rfl hK hH hS hA (nI_pos (by omega)) (nI_clamp (by omega)) (by omega) (Nat.le_of_ble_eq_true rfl) (by show 3516 + (2240) ≤ 5924; omega) d_Mod_init_174 (fun q39 H hq40 hH hS => ?_)
  refine W.widen (k := 20) (n := 5756) (by omega) (by omega) ?_
  refine zr_putFq (ref := "ScrubbedRecorderModel") (ci := 6) (C := R_Mod) (T := T_Mod) (N := 37) (x := some q39) (ty := .array .long) hx hb hts (fun w h => List.mem_cons_of_mem _ (zin_Mod w h)) ty_Mod tyok_Mod nm_Mod hown hK hH hS (by rw [va_up_ne _ _ (zt_kd hC.1 hq40 (by decide))]; exact hC.1) (by decide) rfl 25 (by decide) rfl (hw zw_624) (fun _ h9 => h9) rfl hin rfl (by decide +kernel) rfl rfl d_Mod_init_176 (fun H locs hH hS => ?_)
  have hC := zoC_new hC h0 hq40 25 (by decide) (by decide)
  have hH : zh_H D cA A (va_up kd_24 q39 (zo_k 25)) (va_up ln_24 q39 (zo_n 25)) (va_up I_24 q39 (fun _ => 0)) (va_up L_24 q39 (fun _ => 0)) (zu (va_up R_24 q39 (fun _ => none)) X 25 (some q39)) H := hH
  generalize va_up kd_24 q39 (zo_k 25) = kd_25 at hC hH
  generalize va_up ln_24 q39 (zo_n 25) = ln_25 at hC hH
  generalize va_up I_24 q39 (fun _ => 0) = I_25 at hC hH
  generalize va_up L_24 q39 (fun _ => 0) = L_25 at hC hH
  generalize zu (va_up R_24 q39 (fun _ => none)) X 25 (some q39) = R_25 at hC hH
  generalize va_up ad_24 25 q39 = ad_25 at hC
  refine lv_aload_n hx hb d_Mod_init_179 rfl (lv_at hl 0 rfl) ?_
  refine lv_iconst (v := nI 4) hx hb d_Mod_init_180 (by decide) ?_
  refine zr_newai (atype := .int) (N' := 4) hx hb (hw zw_123) rfl hK hH hS hA (nI_pos (by omega)) (nI_clamp (by omega)) (by omega) (Nat.le_of_ble_eq_true rfl) (by show 5756 + (4) ≤ 5924; omega) d_Mod_init_181 (fun q41 H hq42 hH hS => ?_)
  refine W.widen (k := 21) (n := 5760) (by omega) (by omega) ?_
  refine zr_putFq (ref := "ScrubbedRecorderModel") (ci := 6) (C := R_Mod) (T := T_Mod) (N := 37) (x := some q41) (ty := .array .int) hx hb hts (fun w h => List.mem_cons_of_mem _ (zin_Mod w h)) ty_Mod tyok_Mod nm_Mod hown hK hH hS (by rw [va_up_ne _ _ (zt_kd hC.1 hq42 (by decide))]; exact hC.1) (by decide) rfl 27 (by decide) rfl (hw zw_626) (fun _ h9 => h9) rfl hin rfl (by decide +kernel) rfl rfl d_Mod_init_183 (fun H locs hH hS => ?_)
  have hC := zoC_new hC h0 hq42 27 (by decide) (by decide)
  have hH : zh_H D cA A (va_up kd_25 q41 (zo_k 27)) (va_up ln_25 q41 (zo_n 27)) (va_up I_25 q41 (fun _ => 0)) (va_up L_25 q41 (fun _ => 0)) (zu (va_up R_25 q41 (fun _ => none)) X 27 (some q41)) H := hH
  generalize va_up kd_25 q41 (zo_k 27) = kd_27 at hC hH
  generalize va_up ln_25 q41 (zo_n 27) = ln_27 at hC hH
  generalize va_up I_25 q41 (fun _ => 0) = I_27 at hC hH
  generalize va_up L_25 q41 (fun _ => 0) = L_27 at hC hH
  generalize zu (va_up R_25 q41 (fun _ => none)) X 27 (some q41) = R_27 at hC hH
  generalize va_up ad_25 27 q41 = ad_27 at hC
  refine lv_aload_n hx hb d_Mod_init_186 rfl (lv_at hl 0 rfl) ?_
  refine lv_iconst (v := nI 4) hx hb d_Mod_init_187 (by decide) ?_
  refine zr_newai (atype := .int) (N' := 4) hx hb (hw zw_123) rfl hK hH hS hA (nI_pos (by omega)) (nI_clamp (by omega)) (by omega) (Nat.le_of_ble_eq_true rfl) (by show 5760 + (4) ≤ 5924; omega) d_Mod_init_188 (fun q43 H hq44 hH hS => ?_)
  refine W.widen (k := 22) (n := 5764) (by omega) (by omega) ?_
  refine zr_putFq (ref := "ScrubbedRecorderModel") (ci := 6) (C := R_Mod) (T := T_Mod) (N := 37) (x := some q43) (ty := .array .int) hx hb hts (fun w h => List.mem_cons_of_mem _ (zin_Mod w h)) ty_Mod tyok_Mod nm_Mod hown hK hH hS (by rw [va_up_ne _ _ (zt_kd hC.1 hq44 (by decide))]; exact hC.1) (by decide) rfl 28 (by decide) rfl (hw zw_627) (fun _ h9 => h9) rfl hin rfl (by decide +kernel) rfl rfl d_Mod_init_190 (fun H locs hH hS => ?_)
  have hC := zoC_new hC h0 hq44 28 (by decide) (by decide)
  have hH : zh_H D cA A (va_up kd_27 q43 (zo_k 28)) (va_up ln_27 q43 (zo_n 28)) (va_up I_27 q43 (fun _ => 0)) (va_up L_27 q43 (fun _ => 0)) (zu (va_up R_27 q43 (fun _ => none)) X 28 (some q43)) H := hH
  generalize va_up kd_27 q43 (zo_k 28) = kd_28 at hC hH
  generalize va_up ln_27 q43 (zo_n 28) = ln_28 at hC hH
  generalize va_up I_27 q43 (fun _ => 0) = I_28 at hC hH
  generalize va_up L_27 q43 (fun _ => 0) = L_28 at hC hH
  generalize zu (va_up R_27 q43 (fun _ => none)) X 28 (some q43) = R_28 at hC hH
  generalize va_up ad_27 28 q43 = ad_28 at hC
  refine lv_aload_n hx hb d_Mod_init_193 rfl (lv_at hl 0 rfl) ?_
  refine lv_iconst (v := nI 4) hx hb d_Mod_init_194 (by decide) ?_
  refine zr_newai (atype := .int) (N' := 4) hx hb (hw zw_123) rfl hK hH hS hA (nI_pos (by omega)) (nI_clamp (by omega)) (by omega) (Nat.le_of_ble_eq_true rfl) (by show 5764 + (4) ≤ 5924; omega) d_Mod_init_195 (fun q45 H hq46 hH hS => ?_)
  refine W.widen (k := 23) (n := 5768) (by omega) (by omega) ?_
  refine zr_putFq (ref := "ScrubbedRecorderModel") (ci := 6) (C := R_Mod) (T := T_Mod) (N := 37) (x := some q45) (ty := .array .int) hx hb hts (fun w h => List.mem_cons_of_mem _ (zin_Mod w h)) ty_Mod tyok_Mod nm_Mod hown hK hH hS (by rw [va_up_ne _ _ (zt_kd hC.1 hq46 (by decide))]; exact hC.1) (by decide) rfl 29 (by decide) rfl (hw zw_628) (fun _ h9 => h9) rfl hin rfl (by decide +kernel) rfl rfl d_Mod_init_197 (fun H locs hH hS => ?_)
  have hC := zoC_new hC h0 hq46 29 (by decide) (by decide)
  have hH : zh_H D cA A (va_up kd_28 q45 (zo_k 29)) (va_up ln_28 q45 (zo_n 29)) (va_up I_28 q45 (fun _ => 0)) (va_up L_28 q45 (fun _ => 0)) (zu (va_up R_28 q45 (fun _ => none)) X 29 (some q45)) H := hH
  generalize va_up kd_28 q45 (zo_k 29) = kd_29 at hC hH
  generalize va_up ln_28 q45 (zo_n 29) = ln_29 at hC hH
  generalize va_up I_28 q45 (fun _ => 0) = I_29 at hC hH
  generalize va_up L_28 q45 (fun _ => 0) = L_29 at hC hH
  generalize zu (va_up R_28 q45 (fun _ => none)) X 29 (some q45) = R_29 at hC hH
  generalize va_up ad_28 29 q45 = ad_29 at hC
  refine lv_aload_n hx hb d_Mod_init_200 rfl (lv_at hl 0 rfl) ?_
  refine lv_iconst (v := nI 4) hx hb d_Mod_init_201 (by decide) ?_
  refine zr_newai (atype := .int) (N' := 4) hx hb (hw zw_123) rfl hK hH hS hA (nI_pos (by omega)) (nI_clamp (by omega)) (by omega) (Nat.le_of_ble_eq_true rfl) (by show 5768 + (4) ≤ 5924; omega) d_Mod_init_202 (fun q47 H hq48 hH hS => ?_)
  refine W.widen (k := 24) (n := 5772) (by omega) (by omega) ?_
  refine zr_putFq (ref := "ScrubbedRecorderModel") (ci := 6) (C := R_Mod) (T := T_Mod) (N := 37) (x := some q47) (ty := .array .int) hx hb hts (fun w h => List.mem_cons_of_mem _ (zin_Mod w h)) ty_Mod tyok_Mod nm_Mod hown hK hH hS (by rw [va_up_ne _ _ (zt_kd hC.1 hq48 (by decide))]; exact hC.1) (by decide) rfl 30 (by decide) rfl (hw zw_629) (fun _ h9 => h9) rfl hin rfl (by decide +kernel) rfl rfl d_Mod_init_204 (fun H locs hH hS => ?_)
  have hC := zoC_new hC h0 hq48 30 (by decide) (by decide)
  have hH : zh_H D cA A (va_up kd_29 q47 (zo_k 30)) (va_up ln_29 q47 (zo_n 30)) (va_up I_29 q47 (fun _ => 0)) (va_up L_29 q47 (fun _ => 0)) (zu (va_up R_29 q47 (fun _ => none)) X 30 (some q47)) H := hH
  generalize va_up kd_29 q47 (zo_k 30) = kd_30 at hC hH
  generalize va_up ln_29 q47 (zo_n 30) = ln_30 at hC hH
  generalize va_up I_29 q47 (fun _ => 0) = I_30 at hC hH
  generalize va_up L_29 q47 (fun _ => 0) = L_30 at hC hH
  generalize zu (va_up R_29 q47 (fun _ => none)) X 30 (some q47) = R_30 at hC hH
  generalize va_up ad_29 30 q47 = ad_30 at hC
  refine lv_aload_n hx hb d_Mod_init_207 rfl (lv_at hl 0 rfl) ?_
  refine lv_iconst (v := nI 4) hx hb d_Mod_init_208 (by decide) ?_
  refine zr_newai (atype := .int) (N' := 4) hx hb (hw zw_123) rfl hK hH hS hA (nI_pos (by omega)) (nI_clamp (by omega)) (by omega) (Nat.le_of_ble_eq_true rfl) (by show 5772 + (4) ≤ 5924; omega) d_Mod_init_209 (fun q49 H hq50 hH hS => ?_)
  refine W.widen (k := 25) (n := 5776) (by omega) (by omega) ?_
  refine zr_putFq (ref := "ScrubbedRecorderModel") (ci := 6) (C := R_Mod) (T := T_Mod) (N := 37) (x := some q49) (ty := .array .int) hx hb hts (fun w h => List.mem_cons_of_mem _ (zin_Mod w h)) ty_Mod tyok_Mod nm_Mod hown hK hH hS (by rw [va_up_ne _ _ (zt_kd hC.1 hq50 (by decide))]; exact hC.1) (by decide) rfl 31 (by decide) rfl (hw zw_630) (fun _ h9 => h9) rfl hin rfl (by decide +kernel) rfl rfl d_Mod_init_211 (fun H locs hH hS => ?_)
  have hC := zoC_new hC h0 hq50 31 (by decide) (by decide)
  have hH : zh_H D cA A (va_up kd_30 q49 (zo_k 31)) (va_up ln_30 q49 (zo_n 31)) (va_up I_30 q49 (fun _ => 0)) (va_up L_30 q49 (fun _ => 0)) (zu (va_up R_30 q49 (fun _ => none)) X 31 (some q49)) H := hH
  generalize va_up kd_30 q49 (zo_k 31) = kd_31 at hC hH
  generalize va_up ln_30 q49 (zo_n 31) = ln_31 at hC hH
  generalize va_up I_30 q49 (fun _ => 0) = I_31 at hC hH
  generalize va_up L_30 q49 (fun _ => 0) = L_31 at hC hH
  generalize zu (va_up R_30 q49 (fun _ => none)) X 31 (some q49) = R_31 at hC hH
  generalize va_up ad_30 31 q49 = ad_31 at hC
  refine lv_aload_n hx hb d_Mod_init_214 rfl (lv_at hl 0 rfl) ?_
  refine lv_iconst (v := nI 4) hx hb d_Mod_init_215 (by decide) ?_
  refine zr_newai (atype := .int) (N' := 4) hx hb (hw zw_123) rfl hK hH hS hA (nI_pos (by omega)) (nI_clamp (by omega)) (by omega) (Nat.le_of_ble_eq_true rfl) (by show 5776 + (4) ≤ 5924; omega) d_Mod_init_216 (fun q51 H hq52 hH hS => ?_)
  refine W.widen (k := 26) (n := 5780) (by omega) (by omega) ?_
  refine zr_putFq (ref := "ScrubbedRecorderModel") (ci := 6) (C := R_Mod) (T := T_Mod) (N := 37) (x := some q51) (ty := .array .int) hx hb hts (fun w h => List.mem_cons_of_mem _ (zin_Mod w h)) ty_Mod tyok_Mod nm_Mod hown hK hH hS (by rw [va_up_ne _ _ (zt_kd hC.1 hq52 (by decide))]; exact hC.1) (by decide) rfl 32 (by decide) rfl (hw zw_631) (fun _ h9 => h9) rfl hin rfl (by decide +kernel) rfl rfl d_Mod_init_218 (fun H locs hH hS => ?_)
  have hC := zoC_new hC h0 hq52 32 (by decide) (by decide)
  have hH : zh_H D cA A (va_up kd_31 q51 (zo_k 32)) (va_up ln_31 q51 (zo_n 32)) (va_up I_31 q51 (fun _ => 0)) (va_up L_31 q51 (fun _ => 0)) (zu (va_up R_31 q51 (fun _ => none)) X 32 (some q51)) H := hH
  generalize va_up kd_31 q51 (zo_k 32) = kd_32 at hC hH
  generalize va_up ln_31 q51 (zo_n 32) = ln_32 at hC hH
  generalize va_up I_31 q51 (fun _ => 0) = I_32 at hC hH
  generalize va_up L_31 q51 (fun _ => 0) = L_32 at hC hH
  generalize zu (va_up R_31 q51 (fun _ => none)) X 32 (some q51) = R_32 at hC hH
  generalize va_up ad_31 32 q51 = ad_32 at hC
  refine lv_aload_n hx hb d_Mod_init_221 rfl (lv_at hl 0 rfl) ?_
  refine lv_bipush (v := nI 64) hx hb d_Mod_init_222 (by decide) ?_
  refine zr_newai (atype := .int) (N' := 64) hx hb (hw zw_123) rfl hK hH hS hA (nI_pos (by omega)) (nI_clamp (by omega)) (by omega) (Nat.le_of_ble_eq_true rfl) (by show 5780 + (64) ≤ 5924; omega) d_Mod_init_224 (fun q53 H hq54 hH hS => ?_)
  refine W.widen (k := 27) (n := 5844) (by omega) (by omega) ?_
  refine zr_putFq (ref := "ScrubbedRecorderModel") (ci := 6) (C := R_Mod) (T := T_Mod) (N := 37) (x := some q53) (ty := .array .int) hx hb hts (fun w h => List.mem_cons_of_mem _ (zin_Mod w h)) ty_Mod tyok_Mod nm_Mod hown hK hH hS (by rw [va_up_ne _ _ (zt_kd hC.1 hq54 (by decide))]; exact hC.1) (by decide) rfl 34 (by decide) rfl (hw zw_633) (fun _ h9 => h9) rfl hin rfl (by decide +kernel) rfl rfl d_Mod_init_226 (fun H locs hH hS => ?_)
  have hC := zoC_new hC h0 hq54 34 (by decide) (by decide)
  have hH : zh_H D cA A (va_up kd_32 q53 (zo_k 34)) (va_up ln_32 q53 (zo_n 34)) (va_up I_32 q53 (fun _ => 0)) (va_up L_32 q53 (fun _ => 0)) (zu (va_up R_32 q53 (fun _ => none)) X 34 (some q53)) H := hH
  generalize va_up kd_32 q53 (zo_k 34) = kd_34 at hC hH
  generalize va_up ln_32 q53 (zo_n 34) = ln_34 at hC hH
  generalize va_up I_32 q53 (fun _ => 0) = I_34 at hC hH
  generalize va_up L_32 q53 (fun _ => 0) = L_34 at hC hH
  generalize zu (va_up R_32 q53 (fun _ => none)) X 34 (some q53) = R_34 at hC hH
  generalize va_up ad_32 34 q53 = ad_34 at hC
  refine lv_aload_n hx hb d_Mod_init_229 rfl (lv_at hl 0 rfl) ?_
  refine lv_iconst (v := (-1)) hx hb d_Mod_init_230 (by decide) ?_
  refine zr_puti (ref := "ScrubbedRecorderModel") (ci := 6) (C := R_Mod) (T := T_Mod) (N := 37) (x := (-1)) (ty := .int) hx hb hts (fun w h => List.mem_cons_of_mem _ (zin_Mod w h)) ty_Mod tyok_Mod nm_Mod hown hK hH hS hC.1 (by decide) rfl 35 (by decide) rfl (hw zw_634) (fun _ h9 => h9) rfl (by decide +kernel) rfl rfl d_Mod_init_231 (fun H locs hH hS => ?_)
  have hC := zoC_X hC h0 35 (-1)
  generalize zu I_34 X 35 (-1) = I_35 at hC hH
  refine lv_aload_n hx hb d_Mod_init_234 rfl (lv_at hl 0 rfl) ?_
  refine lv_bipush (v := nI 80) hx hb d_Mod_init_235 (by decide) ?_
  refine zr_newai (atype := .int) (N' := 80) hx hb (hw zw_123) rfl hK hH hS hA (nI_pos (by omega)) (nI_clamp (by omega)) (by omega) (Nat.le_of_ble_eq_true rfl) (by show 5844 + (80) ≤ 5924; omega) d_Mod_init_237 (fun q55 H hq56 hH hS => ?_)
  refine W.widen (k := 28) (n := 5924) (by omega) (by omega) ?_
  refine zr_putFq (ref := "ScrubbedRecorderModel") (ci := 6) (C := R_Mod) (T := T_Mod) (N := 37) (x := some q55) (ty := .array .int) hx hb hts (fun w h => List.mem_cons_of_mem _ (zin_Mod w h)) ty_Mod tyok_Mod nm_Mod hown hK hH hS (by rw [va_up_ne _ _ (zt_kd hC.1 hq56 (by decide))]; exact hC.1) (by decide) rfl 36 (by decide) rfl (hw zw_635) (fun _ h9 => h9) rfl hin rfl (by decide +kernel) rfl rfl d_Mod_init_239 (fun H locs hH hS => ?_)
  have hC := zoC_new hC h0 hq56 36 (by decide) (by decide)
  have hH : zh_H D cA A (va_up kd_34 q55 (zo_k 36)) (va_up ln_34 q55 (zo_n 36)) (va_up I_35 q55 (fun _ => 0)) (va_up L_34 q55 (fun _ => 0)) (zu (va_up R_34 q55 (fun _ => none)) X 36 (some q55)) H := hH
  generalize va_up kd_34 q55 (zo_k 36) = kd_36 at hC hH
  generalize va_up ln_34 q55 (zo_n 36) = ln_36 at hC hH
  generalize va_up I_35 q55 (fun _ => 0) = I_36 at hC hH
  generalize va_up L_34 q55 (fun _ => 0) = L_36 at hC hH
  generalize zu (va_up R_34 q55 (fun _ => none)) X 36 (some q55) = R_36 at hC hH
  generalize va_up ad_34 36 q55 = ad_36 at hC
  have hm := zoC_R hC
  have hz : ∀ j, j < 37 → zo_k j ≠ 0 → kd (ad_36 j) = 0 := fun j hj hk => (hC.2.1 j hj hk).2.2.2.1
  have hkp := hC.2.2.2.2
  rw [← zo_mb_0] at hm
  clear hC
  have k16 : kd_36 (ad_36 16) = 100 := (hm.1.2.1 16 (by decide) (by decide)).2.1
  have n16 : ln_36 (ad_36 16) = 280 := (hm.1.2.1 16 (by decide) (by decide)).2.2
  have r16 : R_36 X 16 = some (ad_36 16) := (hm.1.2.1 16 (by decide) (by decide)).1
  have k27 : kd_36 (ad_36 27) = 100 := (hm.1.2.1 27 (by decide) (by decide)).2.1
  have n27 : ln_36 (ad_36 27) = 4 := (hm.1.2.1 27 (by decide) (by decide)).2.2
  have r27 : R_36 X 27 = some (ad_36 27) := (hm.1.2.1 27 (by decide) (by decide)).1
  have h7 := hm.1.1
  refine lv_iconst (v := nI 0) hx hb d_Mod_init_242 (by decide) ?_
  refine lv_istore_n (lv' := [(1, .int (nI 0)), (0, .ref X)]) hx hb d_Mod_init_243 rfl hl (by decide) rfl (fun ls hl => ?_)
  have loop_244 : ∀ (z : Nat) (i : Nat) (I5_16 : Nat → Nat → Int32) (H : Heap) (locs : List Loc) (ls : Array Slot), 280 - i < z → (i ≤ 280) → (zoR X ad_36 (zo_mb i) (fun _ _ => 0) kd_36 ln_36 I5_16 L_36 R_36) → (∀ a, kd a ≠ 0 → a ≠ X → kd_36 a = kd a ∧ ln_36 a = ln a ∧ I5_16 a = I a ∧ L_36 a = L a ∧ R_36 a = R a) → lv_has ls 2 [(0, .ref X), (1, .int (nI i))] → zh_H D cA A kd_36 ln_36 I5_16 L_36 R_36 H → va_S A s.heap H locs → W p l e (headSpec w_Mod_init { frames := 1, cells := 28, slots := 5924, locals := 12 }).room s m ([.ref X] : List Value).toArray below meth c H locs 28 5924 (MQ below (zc_Qc D cA A (fun v9 kd9 ln9 I9 L9 R9 => none = v9 ∧ ∃ ad, zoR X ad (zo_mc 4) (fun _ _ => 0) kd9 ln9 I9 L9 R9 ∧ zo_keep X kd ln I L R kd9 ln9 I9 L9 R9)) ([.ref X] : List Value).toArray s 28 5924 A) (F0 m 244 ls []) := by
    intro z
    induction z with
    | zero => intro i I5_16 H locs ls hz; exact absurd hz (Nat.not_lt_zero _)
    | succ z ih_244 =>
      intro i I5_16 H locs ls hz_244 hi hm hkp hl hH hS
      refine lv_iload_n hx hb d_Mod_init_244 rfl (lv_at hl 1 rfl) ?_
      refine lv_sipush (v := nI 280) hx hb d_Mod_init_245 (by decide) ?_
      refine lv_icmp_ge (tgt := 264) hx hb d_Mod_init_248 (by decide) (fun hc57 => ?_) (fun hc57 => ?_)
      · skip
        have hc57 := zt_geT (a := i) (b := 280) (by omega) (by omega) hc57
        refine lv_iconst (v := nI 0) hx hb d_Mod_init_264 (by decide) ?_
        refine lv_istore_n (lv' := [(1, .int (nI 0)), (0, .ref X)]) hx hb d_Mod_init_265 rfl hl (by decide) rfl (fun ls hl => ?_)
        have loop_266 : ∀ (z : Nat) (i : Nat) (I5_27 : Nat → Nat → Int32) (H : Heap) (locs : List Loc) (ls : Array Slot), 4 - i < z → (i ≤ 4) → (zoR X ad_36 (zo_mc i) (fun _ _ => 0) kd_36 ln_36 I5_27 L_36 R_36) → (∀ a, kd a ≠ 0 → a ≠ X → kd_36 a = kd a ∧ ln_36 a = ln a ∧ I5_27 a = I a ∧ L_36 a = L a ∧ R_36 a = R a) → lv_has ls 2 [(0, .ref X), (1, .int (nI i))] → zh_H D cA A kd_36 ln_36 I5_27 L_36 R_36 H → va_S A s.heap H locs → W p l e (headSpec w_Mod_init { frames := 1, cells := 28, slots := 5924, locals := 12 }).room s m ([.ref X] : List Value).toArray below meth c H locs 28 5924 (MQ below (zc_Qc D cA A (fun v9 kd9 ln9 I9 L9 R9 => none = v9 ∧ ∃ ad, zoR X ad (zo_mc 4) (fun _ _ => 0) kd9 ln9 I9 L9 R9 ∧ zo_keep X kd ln I L R kd9 ln9 I9 L9 R9)) ([.ref X] : List Value).toArray s 28 5924 A) (F0 m 266 ls []) := by
          intro z
          induction z with
          | zero => intro i I5_27 H locs ls hz; exact absurd hz (Nat.not_lt_zero _)
          | succ z ih_266 =>
            intro i I5_27 H locs ls hz_266 hi hm hkp hl hH hS
            refine lv_iload_n hx hb d_Mod_init_266 rfl (lv_at hl 1 rfl) ?_
            refine lv_iconst (v := nI 4) hx hb d_Mod_init_267 (by decide) ?_
            refine lv_icmp_ge (tgt := 284) hx hb d_Mod_init_268 (by decide) (fun hc58 => ?_) (fun hc58 => ?_)
            · skip
              have hc58 := zt_geT (a := i) (b := 4) (by omega) (by omega) hc58
              refine W.widen (k := 28) (n := 5924) (Nat.le_of_ble_eq_true rfl) (Nat.le_of_ble_eq_true rfl) ?_
              subst hAe
              exact W.vret hx hb hr (fun t ht hW => zc_end hS hH ht (⟨rfl, ad_36, by rw [show i = 4 by omega] at hm; exact hm, hkp⟩)) hS.2.2 d_Mod_init_284
            · skip
              have hc58 := zt_geF (a := i) (b := 4) (by omega) (by omega) hc58
              refine lv_aload_n hx hb d_Mod_init_271 rfl (lv_at hl 0 rfl) ?_
              refine zr_getr (ci := 6) (C := R_Mod) (T := T_Mod) (N := 37) (ref := "ScrubbedRecorderModel") hx hb hts (fun w h => List.mem_cons_of_mem _ (zin_Mod w h)) hown hK hH h7 (by decide) rfl 27 (by decide) rfl (hw zw_626) (fun _ h9 => h9) d_Mod_init_272 (by rw [r27]) ?_
              refine lv_iload_n hx hb d_Mod_init_275 rfl (lv_at hl 1 rfl) ?_
              refine lv_iconst (v := (-1)) hx hb d_Mod_init_276 (by decide) ?_
              refine zr_asti (j := i) (y := (-1)) hx hb hK hH hS k27 rfl (by rw [n27]; exact zh_ix_n (by omega) (by omega)) d_Mod_init_277 (fun H locs hH hS => ?_)
              refine lv_iinc (k := 1) (v := nI (i + 1)) (lv' := [(1, .int (nI (i + 1))), (0, .ref X)]) hx hb d_Mod_init_278 hl rfl (nI_add i 1) (by decide) rfl (fun ls hl => ?_)
              refine lv_goto (tgt := 266) hx hb d_Mod_init_281 (by decide) ?_
              exact ih_266 (i + 1) (zu I5_27 (ad_36 27) i (-1)) _ _ _ (by omega) (by omega) (by rw [← zo_mc_s]; exact zoR_I hm 27 (by decide) i (-1)) (fun a ha hX => by rw [zu_ne _ _ _ (fun e => ha (by rw [e]; exact hz 27 (by decide) (by decide)))]; exact hkp a ha hX) (lv_sub hl [1, 0] rfl) hH hS
        exact loop_266 _ 0 I5_16 _ _ _ (Nat.lt_succ_self _) (by omega) (by rw [zo_mc_0, ← show i = 280 by omega]; exact hm) hkp (lv_sub hl [1, 0] rfl) hH hS
      · skip
        have hc57 := zt_geF (a := i) (b := 280) (by omega) (by omega) hc57
        refine lv_aload_n hx hb d_Mod_init_251 rfl (lv_at hl 0 rfl) ?_
        refine zr_getr (ci := 6) (C := R_Mod) (T := T_Mod) (N := 37) (ref := "ScrubbedRecorderModel") hx hb hts (fun w h => List.mem_cons_of_mem _ (zin_Mod w h)) hown hK hH h7 (by decide) rfl 16 (by decide) rfl (hw zw_615) (fun _ h9 => h9) d_Mod_init_252 (by rw [r16]) ?_
        refine lv_iload_n hx hb d_Mod_init_255 rfl (lv_at hl 1 rfl) ?_
        refine lv_iconst (v := (-1)) hx hb d_Mod_init_256 (by decide) ?_
        refine zr_asti (j := i) (y := (-1)) hx hb hK hH hS k16 rfl (by rw [n16]; exact zh_ix_n (by omega) (by omega)) d_Mod_init_257 (fun H locs hH hS => ?_)
        refine lv_iinc (k := 1) (v := nI (i + 1)) (lv' := [(1, .int (nI (i + 1))), (0, .ref X)]) hx hb d_Mod_init_258 hl rfl (nI_add i 1) (by decide) rfl (fun ls hl => ?_)
        refine lv_goto (tgt := 244) hx hb d_Mod_init_261 (by decide) ?_
        exact ih_244 (i + 1) (zu I5_16 (ad_36 16) i (-1)) _ _ _ (by omega) (by omega) (by rw [← zo_mb_s]; exact zoR_I hm 16 (by decide) i (-1)) (fun a ha hX => by rw [zu_ne _ _ _ (fun e => ha (by rw [e]; exact hz 16 (by decide) (by decide)))]; exact hkp a ha hX) (lv_sub hl [1, 0] rfl) hH hS
  exact loop_244 _ 0 I_36 _ _ _ (Nat.lt_succ_self _) (by omega) hm hkp (lv_sub hl [1, 0] rfl) hH hS
