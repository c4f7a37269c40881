def zo_made (f : Nat → Int32) (x : Int32) : Int32 := if x < nI 0 then nI 0 else if nI 3 < x then nI 0 else if f x.toNatClampNeg = nI 0 then nI 0 else nI 1
theorem zo_made_n {f : Nat → Int32} {k : Nat} (h : k < 4) : zo_made f (nI k) = if f k = nI 0 then nI 0 else nI 1 := by
  unfold zo_made
  rw [if_neg (nI_nlt (Nat.zero_le _) (by omega)), if_neg (nI_nlt (by omega) (by decide)), nI_clamp (by omega)]
theorem zo_made_of {f : Nat → Int32} {x : Int32} (h : ¬ zo_made f x = nI 0) : ∃ k, k < 4 ∧ x = nI k ∧ ¬ f k = nI 0 := by
  unfold zo_made at h
  by_cases h1 : x < nI 0
  · rw [if_pos h1] at h; exact absurd rfl h
  · rw [if_neg h1] at h
    by_cases h2 : nI 3 < x
    · rw [if_pos h2] at h; exact absurd rfl h
    · rw [if_neg h2] at h
      obtain ⟨k, hk, rfl⟩ := zt_ix h1 (zt_gt h2 (by decide)) (by decide)
      rw [nI_clamp (by omega)] at h
      refine ⟨k, hk, rfl, fun e => ?_⟩
      rw [if_pos e] at h
      exact h rfl
def zo_un (f g : Nat → Int32) : Nat → Int32
  | 0 => nI 40
  | k + 1 => zo_un f g k - (if f k = nI 0 then nI 0 else g k)
def zo_sv (m9 : Nat → Nat → Int32) (s : Nat) : Int32 := if m9 16 s < nI 0 then nI 0 else if m9 22 s = nI 0 then nI 0 else nI 1
def zo_fd (m9 : Nat → Nat → Int32) (x y : Int32) : Nat → Int32
  | 0 => (-1)
  | n + 1 => if m9 16 n = x then (if x < nI 0 then zo_fd m9 x y n else if m9 17 n = y then nI n else zo_fd m9 x y n) else zo_fd m9 x y n
def zo_lt (m9 : Nat → Nat → Int32) (x : Int32) : Nat → Int32
  | 0 => (-1)
  | n + 1 => if m9 16 n = x then (if zo_lt m9 x n < m9 17 n then m9 17 n else zo_lt m9 x n) else zo_lt m9 x n
def zo_by (v : Int64) (b : Nat) : Int32 := ((v >>> ((nI (8 * b)).toInt64 &&& 63)) &&& 255).toInt32
def zo_bf (f : Nat → Int32) (j : Nat) (v : Int64) (b : Nat) : Nat → Int32 := fun s => if j ≤ s ∧ s < j + b ∧ s < 60 then zo_by v (s - j) else f s
theorem zo_bf_0 (m9 : Nat → Nat → Int32) (j : Nat) (v : Int64) : va_up m9 34 (zo_bf (m9 34) j v 0) = m9 := by
  have e : zo_bf (m9 34) j v 0 = m9 34 := by
    funext s
    unfold zo_bf
    rw [if_neg (by omega)]
  rw [e, up_id]
theorem zo_bf_s (m9 : Nat → Nat → Int32) {j b : Nat} (v : Int64) (h : j + b < 60) : zu (va_up m9 34 (zo_bf (m9 34) j v b)) 34 (j + b) (zo_by v b) = va_up m9 34 (zo_bf (m9 34) j v (b + 1)) := by
  rw [zu_up]
  congr 1
  funext s
  by_cases e : s = j + b
  · subst e
    rw [va_up_self]
    unfold zo_bf
    rw [if_pos (by omega), show j + b - j = b by omega]
  · rw [va_up_ne _ _ e]
    unfold zo_bf
    by_cases h2 : j ≤ s ∧ s < j + b ∧ s < 60
    · rw [if_pos h2, if_pos (by omega)]
    · rw [if_neg h2, if_neg (by omega)]
theorem zo_bf_e (f : Nat → Int32) {j b : Nat} (v : Int64) (h : b = 8 ∨ (60 ≤ j + b ∧ b ≤ 8)) : zo_bf f j v b = zo_bf f j v 8 := by
  funext s
  unfold zo_bf
  by_cases h2 : j ≤ s ∧ s < j + b ∧ s < 60
  · rw [if_pos h2, if_pos (by omega)]
  · rw [if_neg h2, if_neg (by omega)]
def zo_sh (f : Nat → Int32) (a n : Nat) : Nat → Int32 := fun s => if a ≤ s ∧ s < a + n then f (s + 1) else f s
theorem zo_sh_0 (m9 : Nat → Nat → Int32) (r a : Nat) : va_up m9 r (zo_sh (m9 r) a 0) = m9 := by
  have e : zo_sh (m9 r) a 0 = m9 r := by
    funext s
    unfold zo_sh
    rw [if_neg (by omega)]
  rw [e, up_id]
theorem zo_sh_s (m9 : Nat → Nat → Int32) (f : Nat → Int32) (r a i : Nat) : zu (va_up m9 r (zo_sh f a i)) r (a + i) (f (a + i + 1)) = va_up m9 r (zo_sh f a (i + 1)) := by
  rw [zu_up]
  congr 1
  funext s
  by_cases e : s = a + i
  · subst e
    rw [va_up_self]
    unfold zo_sh
    rw [if_pos (by omega)]
  · rw [va_up_ne _ _ e]
    unfold zo_sh
    by_cases h2 : a ≤ s ∧ s < a + i
    · rw [if_pos h2, if_pos (by omega)]
    · rw [if_neg h2, if_neg (by omega)]
theorem zo_sh_at (f : Nat → Int32) (a i : Nat) : zo_sh f a i (a + i + 1) = f (a + i + 1) := by
  unfold zo_sh
  rw [if_neg (by omega)]
def zo_rm (m9 : Nat → Nat → Int32) (k pg : Nat) (s : Nat) : Int32 := if m9 16 s = nI k then (if m9 21 s = nI pg then (-1) else m9 16 s) else m9 16 s
theorem zt_bo {b : Int32} (h : b = nI 0 ∨ b = nI 1) : vp_nar .boolean b = b := by
  rcases h with rfl | rfl <;> decide +kernel

set_option maxHeartbeats 4000000 in
set_option maxRecDepth 100000 in
/-- isMade -/
theorem c_Mod_isMade {l : Launch} {D : va_G} {cA : Nat → ClassId} {te mi : Nat} {kd ln : Nat → Nat} {I : Nat → Nat → Int32} {L : Nat → Nat → Int64} {R : Nat → Nat → Option Nat} {X : Nat} {ad : Nat → Nat} {m9 : Nat → Nat → Int32} {q9 : Nat → Nat → Int64} (hm : zoR X ad m9 q9 kd ln I L R) {x : Int32} : zc_M l y_Mod_isMade w_Mod_isMade { frames := 0, cells := 0, slots := 0, locals := 0 } 0 0 D cA te mi ([.ref X, .int x] : List Value) kd ln I L R (zo_P (some (.int (zo_made (m9 7) x))) X ad m9 q9 kd ln R) := by
  intro sz
  refine Met.ofW (cc := b_Mod_isMade) (maxL := 2) (ret := (some (.boolean))) (by decide +kernel) rfl ?_
  intro p e s m args below meth c s₁ B hml hv
  obtain ⟨rfl, hsz, hSc, hE, hH⟩ := hv
  have hx := B.exec
  have hb := B.bytes
  have hr := B.returns
  have hts := atoms_spec (ws := w_Mod_isMade) B.pre
  have hw : ∀ {w : Cond}, w ∈ zw → w.before ([.ref X, .int x] : List Value).toArray s = true := fun h => hts _ (List.mem_cons_of_mem _ h)
  have hown : s.vm.findClass R_Mod = some m.cls := findClass_of_methodNamed B.named
  have hlocks := B.notSynchronized
  subst hsz
  have hK := hSc.1
  have hH : zh_H D cA (zc_A kd s.heap.size) kd ln I L R s.heap := hH.weaken (fun q h _ => Or.inl h)
  generalize hAe : zc_A kd s.heap.size = A at hH hE ⊢
  have hA : ∀ q : Nat, s.heap.size ≤ q → A q := fun q h => by rw [← hAe]; exact Or.inr h
  have hS : va_S A s.heap s.heap [] := va_S.rf
  have hl := lv_entry ([.ref X, .int x] : List Value) (n := 2) (Nat.le_of_ble_eq_true rfl)
  rw [lg_entry_eq]
  generalize (lg_sl ([.ref X, .int x] : List Value) ++ List.replicate (2 - (lg_sl ([.ref X, .int x] : List Value)).length) Slot.unset).toArray = ls at hl ⊢
  have hl : lv_has ls 2 [(0, .ref X), (1, .int x)] := hl
  have k7 : kd (ad 7) = 103 := (hm.1.2.1 7 (by decide) (by decide)).2.1
  have n7 : ln (ad 7) = 4 := (hm.1.2.1 7 (by decide) (by decide)).2.2
  have r7 : R X 7 = some (ad 7) := (hm.1.2.1 7 (by decide) (by decide)).1
  refine lv_iload_n hx hb d_Mod_isMade_0 rfl (lv_at hl 1 rfl) ?_
  refine lv_if_lt (tgt := 22) hx hb d_Mod_isMade_1 (by decide) (fun hc1 => ?_) (fun hc1 => ?_)
  · skip
    have hc1 : x < (nI 0) := hc1
    refine lv_iconst (v := nI 0) hx hb d_Mod_isMade_22 (by decide) ?_
    refine W.widen (k := 0) (n := 0) (Nat.le_of_ble_eq_true rfl) (Nat.le_of_ble_eq_true rfl) ?_
    subst hAe
    exact W.zret (v := nI 0) hx hb hr (by decide +kernel) (fun t ht hW => zc_end hS hH ht (⟨by rw [zo_made, if_pos hc1], rfl, rfl, rfl, hm⟩)) hS.2.2 d_Mod_isMade_23
  · skip
    have hc1 : ¬ x < (nI 0) := hc1
    refine lv_iload_n hx hb d_Mod_isMade_4 rfl (lv_at hl 1 rfl) ?_
    refine lv_iconst (v := nI 3) hx hb d_Mod_isMade_5 (by decide) ?_
    refine lv_icmp_gt (tgt := 22) hx hb d_Mod_isMade_6 (by decide) (fun hc2 => ?_) (fun hc2 => ?_)
    · skip
      have hc2 : (nI 3) < x := hc2
      refine lv_iconst (v := nI 0) hx hb d_Mod_isMade_22 (by decide) ?_
      refine W.widen (k := 0) (n := 0) (Nat.le_of_ble_eq_true rfl) (Nat.le_of_ble_eq_true rfl) ?_
      subst hAe
      exact W.zret (v := nI 0) hx hb hr (by decide +kernel) (fun t ht hW => zc_end hS hH ht (⟨by rw [zo_made, if_neg hc1, if_pos hc2], rfl, rfl, rfl, hm⟩)) hS.2.2 d_Mod_isMade_23
    · skip
      have hc2 : ¬ (nI 3) < x := hc2
      obtain ⟨j1, hj1, rfl⟩ := zt_ix hc1 (zt_gt hc2 (by decide)) (by decide)
      refine lv_aload_n hx hb d_Mod_isMade_9 rfl (lv_at hl 0 rfl) ?_
      refine zr_getr (ci := 6) (C := R_Mod) (T := T_Mod) (N := 37) (ref := "ScrubbedRecorderModel") hx hb hts (fun w h => List.mem_cons_of_mem _ (zin_Mod w h)) hown hK hH hm.1.1 (by decide) rfl 7 (by decide) rfl (hw zw_606) (fun _ h9 => h9) d_Mod_isMade_10 (by rw [r7]) ?_
      refine lv_iload_n hx hb d_Mod_isMade_13 rfl (lv_at hl 1 rfl) ?_
      refine zr_aldz (j := j1) hx hb hK hH k7 (by rw [n7]; exact zh_ix_n (by omega) (by omega)) d_Mod_isMade_14 ?_
      refine zt_i (y := m9 7 j1) (congrFun (hm.2.1 7 (by decide) (by decide) (by decide)) j1) ?_
      refine lv_if_eq (tgt := 22) hx hb d_Mod_isMade_15 (by decide) (fun hc3 => ?_) (fun hc3 => ?_)
      · skip
        have hc3 : (m9 7 j1) = (nI 0) := hc3
        refine lv_iconst (v := nI 0) hx hb d_Mod_isMade_22 (by decide) ?_
        refine W.widen (k := 0) (n := 0) (Nat.le_of_ble_eq_true rfl) (Nat.le_of_ble_eq_true rfl) ?_
        subst hAe
        exact W.zret (v := nI 0) hx hb hr (by decide +kernel) (fun t ht hW => zc_end hS hH ht (⟨by rw [zo_made, if_neg hc1, if_neg hc2, nI_clamp (by omega), if_pos hc3], rfl, rfl, rfl, hm⟩)) hS.2.2 d_Mod_isMade_23
      · skip
        have hc3 : ¬ (m9 7 j1) = (nI 0) := hc3
        refine lv_iconst (v := nI 1) hx hb d_Mod_isMade_18 (by decide) ?_
        refine lv_goto (tgt := 23) hx hb d_Mod_isMade_19 (by decide) ?_
        refine W.widen (k := 0) (n := 0) (Nat.le_of_ble_eq_true rfl) (Nat.le_of_ble_eq_true rfl) ?_
        subst hAe
        exact W.zret (v := nI 1) hx hb hr (by decide +kernel) (fun t ht hW => zc_end hS hH ht (⟨by rw [zo_made, if_neg hc1, if_neg hc2, nI_clamp (by omega), if_neg hc3], rfl, rfl, rfl, hm⟩)) hS.2.2 d_Mod_isMade_23

set_option maxHeartbeats 4000000 in
set_option maxRecDepth 100000 in
/-- unpromised -/
theorem c_Mod_unpromised {l : Launch} {D : va_G} {cA : Nat → ClassId} {te mi : Nat} {kd ln : Nat → Nat} {I : Nat → Nat → Int32} {L : Nat → Nat → Int64} {R : Nat → Nat → Option Nat} {X : Nat} {ad : Nat → Nat} {m9 : Nat → Nat → Int32} {q9 : Nat → Nat → Int64} (hm : zoR X ad m9 q9 kd ln I L R)  : zc_M l y_Mod_unpromised w_Mod_unpromised { frames := 0, cells := 0, slots := 0, locals := 0 } 0 0 D cA te mi ([.ref X] : List Value) kd ln I L R (zo_P (some (.int (zo_un (m9 7) (m9 9) 4))) X ad m9 q9 kd ln R) := by
  intro sz
  refine Met.ofW (cc := b_Mod_unpromised) (maxL := 3) (ret := (some (.int))) (by decide +kernel) rfl ?_
  intro p e s m args below meth c s₁ B hml hv
  obtain ⟨rfl, hsz, hSc, hE, hH⟩ := hv
  have hx := B.exec
  have hb := B.bytes
  have hr := B.returns
  have hts := atoms_spec (ws := w_Mod_unpromised) B.pre
  have hw : ∀ {w : Cond}, w ∈ zw → w.before ([.ref X] : List Value).toArray s = true := fun h => hts _ (List.mem_cons_of_mem _ h)
  have hown : s.vm.findClass R_Mod = some m.cls := findClass_of_methodNamed B.named
  have hlocks := B.notSynchronized
  subst hsz
  have hK := hSc.1
  have hH : zh_H D cA (zc_A kd s.heap.size) kd ln I L R s.heap := hH.weaken (fun q h _ => Or.inl h)
  generalize hAe : zc_A kd s.heap.size = A at hH hE ⊢
  have hA : ∀ q : Nat, s.heap.size ≤ q → A q := fun q h => by rw [← hAe]; exact Or.inr h
  have hS : va_S A s.heap s.heap [] := va_S.rf
  have hl := lv_entry ([.ref X] : List Value) (n := 3) (Nat.le_of_ble_eq_true rfl)
  rw [lg_entry_eq]
  generalize (lg_sl ([.ref X] : List Value) ++ List.replicate (3 - (lg_sl ([.ref X] : List Value)).length) Slot.unset).toArray = ls at hl ⊢
  have hl : lv_has ls 3 [(0, .ref X)] := hl
  have k7 : kd (ad 7) = 103 := (hm.1.2.1 7 (by decide) (by decide)).2.1
  have n7 : ln (ad 7) = 4 := (hm.1.2.1 7 (by decide) (by decide)).2.2
  have r7 : R X 7 = some (ad 7) := (hm.1.2.1 7 (by decide) (by decide)).1
  have k9 : kd (ad 9) = 100 := (hm.1.2.1 9 (by decide) (by decide)).2.1
  have n9 : ln (ad 9) = 4 := (hm.1.2.1 9 (by decide) (by decide)).2.2
  have r9 : R X 9 = some (ad 9) := (hm.1.2.1 9 (by decide) (by decide)).1
  refine lv_bipush (v := nI 40) hx hb d_Mod_unpromised_0 (by decide) ?_
  refine lv_istore_n (lv' := [(1, .int (nI 40)), (0, .ref X)]) hx hb d_Mod_unpromised_2 rfl hl (by decide) rfl (fun ls hl => ?_)
  refine lv_iconst (v := nI 0) hx hb d_Mod_unpromised_3 (by decide) ?_
  refine lv_istore_n (lv' := [(2, .int (nI 0)), (1, .int (nI 40)), (0, .ref X)]) hx hb d_Mod_unpromised_4 rfl hl (by decide) rfl (fun ls hl => ?_)
  have loop_5 : ∀ (z : Nat) (i : Nat) (I_5 : Nat → Nat → Int32) (L_5 : Nat → Nat → Int64) (H : Heap) (locs : List Loc) (ls : Array Slot), 4 - i < z → (i ≤ 4) → (zoR X ad m9 q9 kd ln I_5 L_5 R) → lv_has ls 3 [(0, .ref X), (1, .int (zo_un (m9 7) (m9 9) i)), (2, .int (nI i))] → zh_H D cA A kd ln I_5 L_5 R H → va_S A s.heap H locs → W p l e (headSpec w_Mod_unpromised { frames := 0, cells := 0, slots := 0, locals := 0 }).room s m ([.ref X] : List Value).toArray below meth c H locs 0 0 (MQ below (zc_Qc D cA A (zo_P (some (.int (zo_un (m9 7) (m9 9) 4))) X ad m9 q9 kd ln R)) ([.ref X] : List Value).toArray s 0 0 A) (F0 m 5 ls []) := by
    intro z
    induction z with
    | zero => intro i I_5 L_5 H locs ls hz; exact absurd hz (Nat.not_lt_zero _)
    | succ z ih_5 =>
      intro i I_5 L_5 H locs ls hz_5 hi hm hl hH hS
      refine lv_iload_n hx hb d_Mod_unpromised_5 rfl (lv_at hl 2 rfl) ?_
      refine lv_iconst (v := nI 4) hx hb d_Mod_unpromised_6 (by decide) ?_
      refine lv_icmp_ge (tgt := 38) hx hb d_Mod_unpromised_7 (by decide) (fun hc1 => ?_) (fun hc1 => ?_)
      · skip
        have hc1 := zt_geT (a := i) (b := 4) (by omega) (by omega) hc1
        refine lv_iload_n hx hb d_Mod_unpromised_38 rfl (lv_at hl 1 rfl) ?_
        refine W.widen (k := 0) (n := 0) (Nat.le_of_ble_eq_true rfl) (Nat.le_of_ble_eq_true rfl) ?_
        subst hAe
        exact W.iret (v := zo_un (m9 7) (m9 9) i) hx hb hr (fun t ht hW => zc_end hS hH ht (⟨by rw [show i = 4 by omega], rfl, rfl, rfl, hm⟩)) hS.2.2 d_Mod_unpromised_39
      · skip
        have hc1 := zt_geF (a := i) (b := 4) (by omega) (by omega) hc1
        refine lv_iload_n hx hb d_Mod_unpromised_10 rfl (lv_at hl 1 rfl) ?_
        refine lv_aload_n hx hb d_Mod_unpromised_11 rfl (lv_at hl 0 rfl) ?_
        refine zr_getr (ci := 6) (C := R_Mod) (T := T_Mod) (N := 37) (ref := "ScrubbedRecorderModel") hx hb hts (fun w h => List.mem_cons_of_mem _ (zin_Mod w h)) hown hK hH hm.1.1 (by decide) rfl 7 (by decide) rfl (hw zw_606) (fun _ h9 => h9) d_Mod_unpromised_12 (by rw [r7]) ?_
        refine lv_iload_n hx hb d_Mod_unpromised_15 rfl (lv_at hl 2 rfl) ?_
        refine zr_aldz (j := i) hx hb hK hH k7 (by rw [n7]; exact zh_ix_n (by omega) (by omega)) d_Mod_unpromised_16 ?_
        refine zt_i (y := m9 7 i) (congrFun (hm.2.1 7 (by decide) (by decide) (by decide)) i) ?_
        refine lv_if_eq (tgt := 29) hx hb d_Mod_unpromised_17 (by decide) (fun hc2 => ?_) (fun hc2 => ?_)
        · skip
          have hc2 : (m9 7 i) = (nI 0) := hc2
          refine lv_iconst (v := nI 0) hx hb d_Mod_unpromised_29 (by decide) ?_
          refine lv_isub hx hb d_Mod_unpromised_30 ?_
          refine lv_istore_n (lv' := [(1, .int ((zo_un (m9 7) (m9 9) i) - (nI 0))), (0, .ref X), (2, .int (nI i))]) hx hb d_Mod_unpromised_31 rfl hl (by decide) rfl (fun ls hl => ?_)
          refine lv_iinc (k := 2) (v := nI (i + 1)) (lv' := [(2, .int (nI (i + 1))), (1, .int ((zo_un (m9 7) (m9 9) i) - (nI 0))), (0, .ref X)]) hx hb d_Mod_unpromised_32 hl rfl (nI_add i 1) (by decide) rfl (fun ls hl => ?_)
          refine lv_goto (tgt := 5) hx hb d_Mod_unpromised_35 (by decide) ?_
          have e3 : zo_un (m9 7) (m9 9) (i + 1) = (zo_un (m9 7) (m9 9) i) - (nI 0) := by rw [zo_un, if_pos hc2]
          have hl : lv_has ls 3 [(2, .int (nI (i + 1))), (1, .int (zo_un (m9 7) (m9 9) (i + 1))), (0, .ref X)] := by rw [e3]; exact hl
          exact ih_5 (i + 1) _ _ _ _ _ (by omega) (by omega) hm (lv_sub hl [2, 1, 0] rfl) hH hS
        · skip
          have hc2 : ¬ (m9 7 i) = (nI 0) := hc2
          refine lv_aload_n hx hb d_Mod_unpromised_20 rfl (lv_at hl 0 rfl) ?_
          refine zr_getr (ci := 6) (C := R_Mod) (T := T_Mod) (N := 37) (ref := "ScrubbedRecorderModel") hx hb hts (fun w h => List.mem_cons_of_mem _ (zin_Mod w h)) hown hK hH hm.1.1 (by decide) rfl 9 (by decide) rfl (hw zw_608) (fun _ h9 => h9) d_Mod_unpromised_21 (by rw [r9]) ?_
          refine lv_iload_n hx hb d_Mod_unpromised_24 rfl (lv_at hl 2 rfl) ?_
          refine zr_aldi (j := i) hx hb hK hH k9 (by rw [n9]; exact zh_ix_n (by omega) (by omega)) d_Mod_unpromised_25 ?_
          refine zt_i (y := m9 9 i) (congrFun (hm.2.1 9 (by decide) (by decide) (by decide)) i) ?_
          refine lv_goto (tgt := 30) hx hb d_Mod_unpromised_26 (by decide) ?_
          refine lv_isub hx hb d_Mod_unpromised_30 ?_
          refine lv_istore_n (lv' := [(1, .int ((zo_un (m9 7) (m9 9) i) - (m9 9 i))), (0, .ref X), (2, .int (nI i))]) hx hb d_Mod_unpromised_31 rfl hl (by decide) rfl (fun ls hl => ?_)
          refine lv_iinc (k := 2) (v := nI (i + 1)) (lv' := [(2, .int (nI (i + 1))), (1, .int ((zo_un (m9 7) (m9 9) i) - (m9 9 i))), (0, .ref X)]) hx hb d_Mod_unpromised_32 hl rfl (nI_add i 1) (by decide) rfl (fun ls hl => ?_)
          refine lv_goto (tgt := 5) hx hb d_Mod_unpromised_35 (by decide) ?_
          have e4 : zo_un (m9 7) (m9 9) (i + 1) = (zo_un (m9 7) (m9 9) i) - (m9 9 i) := by rw [zo_un, if_neg hc2]
          have hl : lv_has ls 3 [(2, .int (nI (i + 1))), (1, .int (zo_un (m9 7) (m9 9) (i + 1))), (0, .ref X)] := by rw [e4]; exact hl
          exact ih_5 (i + 1) _ _ _ _ _ (by omega) (by omega) hm (lv_sub hl [2, 1, 0] rfl) hH hS
  exact loop_5 _ 0 _ _ _ _ _ (Nat.lt_succ_self _) (by omega) hm (lv_sub hl [2, 1, 0] rfl) hH hS

set_option maxHeartbeats 4000000 in
set_option maxRecDepth 100000 in
/-- save -/
theorem c_Mod_save {l : Launch} {D : va_G} {cA : Nat → ClassId} {te mi : Nat} {kd ln : Nat → Nat} {I : Nat → Nat → Int32} {L : Nat → Nat → Int64} {R : Nat → Nat → Option Nat} {X : Nat} {ad : Nat → Nat} {m9 : Nat → Nat → Int32} {q9 : Nat → Nat → Int64} (hm : zoR X ad m9 q9 kd ln I L R)  : zc_M l y_Mod_save w_Mod_save { frames := 0, cells := 0, slots := 0, locals := 0 } 0 0 D cA te mi ([.ref X] : List Value) kd ln I L R (zo_P none X ad (va_up m9 23 (zo_map (m9 23) (zo_sv m9) 280)) q9 kd ln R) := by
  intro sz
  refine Met.ofW (cc := b_Mod_save) (maxL := 2) (ret := none) (by decide +kernel) rfl ?_
  intro p e s m args below meth c s₁ B hml hv
  obtain ⟨rfl, hsz, hSc, hE, hH⟩ := hv
  have hx := B.exec
  have hb := B.bytes
  have hr := B.returns
  have hts := atoms_spec (ws := w_Mod_save) B.pre
  have hw : ∀ {w : Cond}, w ∈ zw → w.before ([.ref X] : List Value).toArray s = true := fun h => hts _ (List.mem_cons_of_mem _ h)
  have hown : s.vm.findClass R_Mod = some m.cls := findClass_of_methodNamed B.named
  have hlocks := B.notSynchronized
  subst hsz
  have hK := hSc.1
  have hH : zh_H D cA (zc_A kd s.heap.size) kd ln I L R s.heap := hH.weaken (fun q h _ => Or.inl h)
  generalize hAe : zc_A kd s.heap.size = A at hH hE ⊢
  have hA : ∀ q : Nat, s.heap.size ≤ q → A q := fun q h => by rw [← hAe]; exact Or.inr h
  have hS : va_S A s.heap s.heap [] := va_S.rf
  have hl := lv_entry ([.ref X] : List Value) (n := 2) (Nat.le_of_ble_eq_true rfl)
  rw [lg_entry_eq]
  generalize (lg_sl ([.ref X] : List Value) ++ List.replicate (2 - (lg_sl ([.ref X] : List Value)).length) Slot.unset).toArray = ls at hl ⊢
  have hl : lv_has ls 2 [(0, .ref X)] := hl
  have k16 : kd (ad 16) = 100 := (hm.1.2.1 16 (by decide) (by decide)).2.1
  have n16 : ln (ad 16) = 280 := (hm.1.2.1 16 (by decide) (by decide)).2.2
  have r16 : R X 16 = some (ad 16) := (hm.1.2.1 16 (by decide) (by decide)).1
  have k22 : kd (ad 22) = 103 := (hm.1.2.1 22 (by decide) (by decide)).2.1
  have n22 : ln (ad 22) = 280 := (hm.1.2.1 22 (by decide) (by decide)).2.2
  have r22 : R X 22 = some (ad 22) := (hm.1.2.1 22 (by decide) (by decide)).1
  have k23 : kd (ad 23) = 103 := (hm.1.2.1 23 (by decide) (by decide)).2.1
  have n23 : ln (ad 23) = 280 := (hm.1.2.1 23 (by decide) (by decide)).2.2
  have r23 : R X 23 = some (ad 23) := (hm.1.2.1 23 (by decide) (by decide)).1
  refine lv_iconst (v := nI 0) hx hb d_Mod_save_0 (by decide) ?_
  refine lv_istore_n (lv' := [(1, .int (nI 0)), (0, .ref X)]) hx hb d_Mod_save_1 rfl hl (by decide) rfl (fun ls hl => ?_)
  have loop_2 : ∀ (z : Nat) (i : Nat) (I_2 : Nat → Nat → Int32) (L_2 : Nat → Nat → Int64) (H : Heap) (locs : List Loc) (ls : Array Slot), 280 - i < z → (i ≤ 280) → (zoR X ad (va_up m9 23 (zo_map (m9 23) (zo_sv m9) i)) q9 kd ln I_2 L_2 R) → lv_has ls 2 [(0, .ref X), (1, .int (nI i))] → zh_H D cA A kd ln I_2 L_2 R H → va_S A s.heap H locs → W p l e (headSpec w_Mod_save { frames := 0, cells := 0, slots := 0, locals := 0 }).room s m ([.ref X] : List Value).toArray below meth c H locs 0 0 (MQ below (zc_Qc D cA A (zo_P none X ad (va_up m9 23 (zo_map (m9 23) (zo_sv m9) 280)) q9 kd ln R)) ([.ref X] : List Value).toArray s 0 0 A) (F0 m 2 ls []) := by
    intro z
    induction z with
    | zero => intro i I_2 L_2 H locs ls hz; exact absurd hz (Nat.not_lt_zero _)
    | succ z ih_2 =>
      intro i I_2 L_2 H locs ls hz_2 hi hm hl hH hS
      refine lv_iload_n hx hb d_Mod_save_2 rfl (lv_at hl 1 rfl) ?_
      refine lv_sipush (v := nI 280) hx hb d_Mod_save_3 (by decide) ?_
      refine lv_icmp_ge (tgt := 44) hx hb d_Mod_save_6 (by decide) (fun hc1 => ?_) (fun hc1 => ?_)
      · skip
        have hc1 := zt_geT (a := i) (b := 280) (by omega) (by omega) hc1
        refine W.widen (k := 0) (n := 0) (Nat.le_of_ble_eq_true rfl) (Nat.le_of_ble_eq_true rfl) ?_
        subst hAe
        exact W.vret hx hb hr (fun t ht hW => zc_end hS hH ht (⟨rfl, rfl, rfl, rfl, by rw [show i = 280 by omega] at hm; exact hm⟩)) hS.2.2 d_Mod_save_44
      · skip
        have hc1 := zt_geF (a := i) (b := 280) (by omega) (by omega) hc1
        refine lv_aload_n hx hb d_Mod_save_9 rfl (lv_at hl 0 rfl) ?_
        refine zr_getr (ci := 6) (C := R_Mod) (T := T_Mod) (N := 37) (ref := "ScrubbedRecorderModel") hx hb hts (fun w h => List.mem_cons_of_mem _ (zin_Mod w h)) hown hK hH hm.1.1 (by decide) rfl 23 (by decide) rfl (hw zw_622) (fun _ h9 => h9) d_Mod_save_10 (by rw [r23]) ?_
        refine lv_iload_n hx hb d_Mod_save_13 rfl (lv_at hl 1 rfl) ?_
        refine lv_aload_n hx hb d_Mod_save_14 rfl (lv_at hl 0 rfl) ?_
        refine zr_getr (ci := 6) (C := R_Mod) (T := T_Mod) (N := 37) (ref := "ScrubbedRecorderModel") hx hb hts (fun w h => List.mem_cons_of_mem _ (zin_Mod w h)) hown hK hH hm.1.1 (by decide) rfl 16 (by decide) rfl (hw zw_615) (fun _ h9 => h9) d_Mod_save_15 (by rw [r16]) ?_
        refine lv_iload_n hx hb d_Mod_save_18 rfl (lv_at hl 1 rfl) ?_
        refine zr_aldi (j := i) hx hb hK hH k16 (by rw [n16]; exact zh_ix_n (by omega) (by omega)) d_Mod_save_19 ?_
        refine zt_i (y := m9 16 i) ((congrFun (hm.2.1 16 (by decide) (by decide) (by decide)) i).trans (by rw [va_up_ne _ _ (show (16 : Nat) ≠ 23 by decide)])) ?_
        refine lv_if_lt (tgt := 36) hx hb d_Mod_save_20 (by decide) (fun hc2 => ?_) (fun hc2 => ?_)
        · skip
          have hc2 : (m9 16 i) < (nI 0) := hc2
          refine lv_iconst (v := nI 0) hx hb d_Mod_save_36 (by decide) ?_
          refine zr_astz (j := i) (y := nI 0) hx hb hK hH hS k23 (by decide +kernel) (by rw [n23]; exact zh_ix_n (by omega) (by omega)) d_Mod_save_37 (fun H locs hH hS => ?_)
          have hm := zoR_I hm 23 (by decide) i (nI 0)
          generalize zu I_2 (ad 23) i (nI 0) = I3 at hm hH
          refine lv_iinc (k := 1) (v := nI (i + 1)) (lv' := [(1, .int (nI (i + 1))), (0, .ref X)]) hx hb d_Mod_save_38 hl rfl (nI_add i 1) (by decide) rfl (fun ls hl => ?_)
          refine lv_goto (tgt := 2) hx hb d_Mod_save_41 (by decide) ?_
          have hm : zoR X ad (zu (va_up m9 23 (zo_map (m9 23) (zo_sv m9) i)) 23 i (zo_sv m9 i)) q9 kd ln I3 L_2 R := by rw [zo_sv, if_pos hc2]; exact hm
          rw [zo_map_s] at hm
          exact ih_2 (i + 1) _ _ _ _ _ (by omega) (by omega) hm (lv_sub hl [1, 0] rfl) hH hS
        · skip
          have hc2 : ¬ (m9 16 i) < (nI 0) := hc2
          refine lv_aload_n hx hb d_Mod_save_23 rfl (lv_at hl 0 rfl) ?_
          refine zr_getr (ci := 6) (C := R_Mod) (T := T_Mod) (N := 37) (ref := "ScrubbedRecorderModel") hx hb hts (fun w h => List.mem_cons_of_mem _ (zin_Mod w h)) hown hK hH hm.1.1 (by decide) rfl 22 (by decide) rfl (hw zw_621) (fun _ h9 => h9) d_Mod_save_24 (by rw [r22]) ?_
          refine lv_iload_n hx hb d_Mod_save_27 rfl (lv_at hl 1 rfl) ?_
          refine zr_aldz (j := i) hx hb hK hH k22 (by rw [n22]; exact zh_ix_n (by omega) (by omega)) d_Mod_save_28 ?_
          refine zt_i (y := m9 22 i) ((congrFun (hm.2.1 22 (by decide) (by decide) (by decide)) i).trans (by rw [va_up_ne _ _ (show (22 : Nat) ≠ 23 by decide)])) ?_
          refine lv_if_eq (tgt := 36) hx hb d_Mod_save_29 (by decide) (fun hc4 => ?_) (fun hc4 => ?_)
          · skip
            have hc4 : (m9 22 i) = (nI 0) := hc4
            refine lv_iconst (v := nI 0) hx hb d_Mod_save_36 (by decide) ?_
            refine zr_astz (j := i) (y := nI 0) hx hb hK hH hS k23 (by decide +kernel) (by rw [n23]; exact zh_ix_n (by omega) (by omega)) d_Mod_save_37 (fun H locs hH hS => ?_)
            have hm := zoR_I hm 23 (by decide) i (nI 0)
            generalize zu I_2 (ad 23) i (nI 0) = I5 at hm hH
            refine lv_iinc (k := 1) (v := nI (i + 1)) (lv' := [(1, .int (nI (i + 1))), (0, .ref X)]) hx hb d_Mod_save_38 hl rfl (nI_add i 1) (by decide) rfl (fun ls hl => ?_)
            refine lv_goto (tgt := 2) hx hb d_Mod_save_41 (by decide) ?_
            have hm : zoR X ad (zu (va_up m9 23 (zo_map (m9 23) (zo_sv m9) i)) 23 i (zo_sv m9 i)) q9 kd ln I5 L_2 R := by rw [zo_sv, if_neg hc2, if_pos hc4]; exact hm
            rw [zo_map_s] at hm
            exact ih_2 (i + 1) _ _ _ _ _ (by omega) (by omega) hm (lv_sub hl [1, 0] rfl) hH hS
          · skip
            have hc4 : ¬ (m9 22 i) = (nI 0) := hc4
            refine lv_iconst (v := nI 1) hx hb d_Mod_save_32 (by decide) ?_
            refine lv_goto (tgt := 37) hx hb d_Mod_save_33 (by decide) ?_
            refine zr_astz (j := i) (y := nI 1) hx hb hK hH hS k23 (by decide +kernel) (by rw [n23]; exact zh_ix_n (by omega) (by omega)) d_Mod_save_37 (fun H locs hH hS => ?_)
            have hm := zoR_I hm 23 (by decide) i (nI 1)
            generalize zu I_2 (ad 23) i (nI 1) = I6 at hm hH
            refine lv_iinc (k := 1) (v := nI (i + 1)) (lv' := [(1, .int (nI (i + 1))), (0, .ref X)]) hx hb d_Mod_save_38 hl rfl (nI_add i 1) (by decide) rfl (fun ls hl => ?_)
            refine lv_goto (tgt := 2) hx hb d_Mod_save_41 (by decide) ?_
            have hm : zoR X ad (zu (va_up m9 23 (zo_map (m9 23) (zo_sv m9) i)) 23 i (zo_sv m9 i)) q9 kd ln I6 L_2 R := by rw [zo_sv, if_neg hc2, if_neg hc4]; exact hm
            rw [zo_map_s] at hm
            exact ih_2 (i + 1) _ _ _ _ _ (by omega) (by omega) hm (lv_sub hl [1, 0] rfl) hH hS
  rw [← zo_map_0 m9 23 (zo_sv m9)] at hm
  exact loop_2 _ 0 _ _ _ _ _ (Nat.lt_succ_self _) (by omega) hm (lv_sub hl [1, 0] rfl) hH hS

set_option maxHeartbeats 4000000 in
set_option maxRecDepth 100000 in
/-- find -/
theorem c_Mod_find {l : Launch} {D : va_G} {cA : Nat → ClassId} {te mi : Nat} {kd ln : Nat → Nat} {I : Nat → Nat → Int32} {L : Nat → Nat → Int64} {R : Nat → Nat → Option Nat} {X : Nat} {ad : Nat → Nat} {m9 : Nat → Nat → Int32} {q9 : Nat → Nat → Int64} (hm : zoR X ad m9 q9 kd ln I L R) {x y : Int32} : zc_M l y_Mod_find w_Mod_find { frames := 0, cells := 0, slots := 0, locals := 0 } 0 0 D cA te mi ([.ref X, .int x, .int y] : List Value) kd ln I L R (zo_P (some (.int (zo_fd m9 x y 280))) X ad m9 q9 kd ln R) := by
  intro sz
  refine Met.ofW (cc := b_Mod_find) (maxL := 5) (ret := (some (.int))) (by decide +kernel) rfl ?_
  intro p e s m args below meth c s₁ B hml hv
  obtain ⟨rfl, hsz, hSc, hE, hH⟩ := hv
  have hx := B.exec
  have hb := B.bytes
  have hr := B.returns
  have hts := atoms_spec (ws := w_Mod_find) B.pre
  have hw : ∀ {w : Cond}, w ∈ zw → w.before ([.ref X, .int x, .int y] : List Value).toArray s = true := fun h => hts _ (List.mem_cons_of_mem _ h)
  have hown : s.vm.findClass R_Mod = some m.cls := findClass_of_methodNamed B.named
  have hlocks := B.notSynchronized
  subst hsz
  have hK := hSc.1
  have hH : zh_H D cA (zc_A kd s.heap.size) kd ln I L R s.heap := hH.weaken (fun q h _ => Or.inl h)
  generalize hAe : zc_A kd s.heap.size = A at hH hE ⊢
  have hA : ∀ q : Nat, s.heap.size ≤ q → A q := fun q h => by rw [← hAe]; exact Or.inr h
  have hS : va_S A s.heap s.heap [] := va_S.rf
  have hl := lv_entry ([.ref X, .int x, .int y] : List Value) (n := 5) (Nat.le_of_ble_eq_true rfl)
  rw [lg_entry_eq]
  generalize (lg_sl ([.ref X, .int x, .int y] : List Value) ++ List.replicate (5 - (lg_sl ([.ref X, .int x, .int y] : List Value)).length) Slot.unset).toArray = ls at hl ⊢
  have hl : lv_has ls 5 [(0, .ref X), (1, .int x), (2, .int y)] := hl
  have k16 : kd (ad 16) = 100 := (hm.1.2.1 16 (by decide) (by decide)).2.1
  have n16 : ln (ad 16) = 280 := (hm.1.2.1 16 (by decide) (by decide)).2.2
  have r16 : R X 16 = some (ad 16) := (hm.1.2.1 16 (by decide) (by decide)).1
  have k17 : kd (ad 17) = 100 := (hm.1.2.1 17 (by decide) (by decide)).2.1
  have n17 : ln (ad 17) = 280 := (hm.1.2.1 17 (by decide) (by decide)).2.2
  have r17 : R X 17 = some (ad 17) := (hm.1.2.1 17 (by decide) (by decide)).1
  refine lv_iconst (v := (-1)) hx hb d_Mod_find_0 (by decide) ?_
  refine lv_istore_n (lv' := [(3, .int (-1)), (0, .ref X), (1, .int x), (2, .int y)]) hx hb d_Mod_find_1 rfl hl (by decide) rfl (fun ls hl => ?_)
  refine lv_iconst (v := nI 0) hx hb d_Mod_find_2 (by decide) ?_
  refine lv_istore (lv' := [(4, .int (nI 0)), (3, .int (-1)), (0, .ref X), (1, .int x), (2, .int y)]) hx hb d_Mod_find_3 hl (by decide) rfl (fun ls hl => ?_)
  have loop_5 : ∀ (z : Nat) (i : Nat) (I_5 : Nat → Nat → Int32) (L_5 : Nat → Nat → Int64) (H : Heap) (locs : List Loc) (ls : Array Slot), 280 - i < z → (i ≤ 280) → (zoR X ad m9 q9 kd ln I_5 L_5 R) → lv_has ls 5 [(0, .ref X), (1, .int x), (2, .int y), (3, .int (zo_fd m9 x y i)), (4, .int (nI i))] → zh_H D cA A kd ln I_5 L_5 R H → va_S A s.heap H locs → W p l e (headSpec w_Mod_find { frames := 0, cells := 0, slots := 0, locals := 0 }).room s m ([.ref X, .int x, .int y] : List Value).toArray below meth c H locs 0 0 (MQ below (zc_Qc D cA A (zo_P (some (.int (zo_fd m9 x y 280))) X ad m9 q9 kd ln R)) ([.ref X, .int x, .int y] : List Value).toArray s 0 0 A) (F0 m 5 ls []) := by
    intro z
    induction z with
    | zero => intro i I_5 L_5 H locs ls hz; exact absurd hz (Nat.not_lt_zero _)
    | succ z ih_5 =>
      intro i I_5 L_5 H locs ls hz_5 hi hm hl hH hS
      refine lv_iload hx hb d_Mod_find_5 (lv_at hl 4 rfl) ?_
      refine lv_sipush (v := nI 280) hx hb d_Mod_find_7 (by decide) ?_
      refine lv_icmp_ge (tgt := 52) hx hb d_Mod_find_10 (by decide) (fun hc1 => ?_) (fun hc1 => ?_)
      · skip
        have hc1 := zt_geT (a := i) (b := 280) (by omega) (by omega) hc1
        refine lv_iload_n hx hb d_Mod_find_52 rfl (lv_at hl 3 rfl) ?_
        refine W.widen (k := 0) (n := 0) (Nat.le_of_ble_eq_true rfl) (Nat.le_of_ble_eq_true rfl) ?_
        subst hAe
        exact W.iret (v := zo_fd m9 x y i) hx hb hr (fun t ht hW => zc_end hS hH ht (⟨by rw [show i = 280 by omega], rfl, rfl, rfl, hm⟩)) hS.2.2 d_Mod_find_53
      · skip
        have hc1 := zt_geF (a := i) (b := 280) (by omega) (by omega) hc1
        refine lv_aload_n hx hb d_Mod_find_13 rfl (lv_at hl 0 rfl) ?_
        refine zr_getr (ci := 6) (C := R_Mod) (T := T_Mod) (N := 37) (ref := "ScrubbedRecorderModel") hx hb hts (fun w h => List.mem_cons_of_mem _ (zin_Mod w h)) hown hK hH hm.1.1 (by decide) rfl 16 (by decide) rfl (hw zw_615) (fun _ h9 => h9) d_Mod_find_14 (by rw [r16]) ?_
        refine lv_iload hx hb d_Mod_find_17 (lv_at hl 4 rfl) ?_
        refine zr_aldi (j := i) hx hb hK hH k16 (by rw [n16]; exact zh_ix_n (by omega) (by omega)) d_Mod_find_19 ?_
        refine zt_i (y := m9 16 i) (congrFun (hm.2.1 16 (by decide) (by decide) (by decide)) i) ?_
        refine lv_iload_n hx hb d_Mod_find_20 rfl (lv_at hl 1 rfl) ?_
        refine lv_icmp_ne (tgt := 44) hx hb d_Mod_find_21 (by decide) (fun hc2 => ?_) (fun hc2 => ?_)
        · skip
          have hc2 : ¬ (m9 16 i) = x := hc2
          refine lv_iload_n hx hb d_Mod_find_44 rfl (lv_at hl 3 rfl) ?_
          refine lv_istore_n (lv' := [(3, .int (zo_fd m9 x y i)), (0, .ref X), (1, .int x), (2, .int y), (4, .int (nI i))]) hx hb d_Mod_find_45 rfl hl (by decide) rfl (fun ls hl => ?_)
          refine lv_iinc (k := 4) (v := nI (i + 1)) (lv' := [(4, .int (nI (i + 1))), (3, .int (zo_fd m9 x y i)), (0, .ref X), (1, .int x), (2, .int y)]) hx hb d_Mod_find_46 hl rfl (nI_add i 1) (by decide) rfl (fun ls hl => ?_)
          refine lv_goto (tgt := 5) hx hb d_Mod_find_49 (by decide) ?_
          have e3 : zo_fd m9 x y (i + 1) = zo_fd m9 x y i := by rw [zo_fd, if_neg hc2]
          have hl : lv_has ls 5 [(4, .int (nI (i + 1))), (3, .int (zo_fd m9 x y (i + 1))), (0, .ref X), (1, .int x), (2, .int y)] := by rw [e3]; exact hl
          exact ih_5 (i + 1) _ _ _ _ _ (by omega) (by omega) hm (lv_sub hl [2, 3, 4, 1, 0] rfl) hH hS
        · skip
          have hc2 : (m9 16 i) = x := hc2
          refine lv_iload_n hx hb d_Mod_find_24 rfl (lv_at hl 1 rfl) ?_
          refine lv_if_lt (tgt := 44) hx hb d_Mod_find_25 (by decide) (fun hc4 => ?_) (fun hc4 => ?_)
          · skip
            have hc4 : x < (nI 0) := hc4
            refine lv_iload_n hx hb d_Mod_find_44 rfl (lv_at hl 3 rfl) ?_
            refine lv_istore_n (lv' := [(3, .int (zo_fd m9 x y i)), (0, .ref X), (1, .int x), (2, .int y), (4, .int (nI i))]) hx hb d_Mod_find_45 rfl hl (by decide) rfl (fun ls hl => ?_)
            refine lv_iinc (k := 4) (v := nI (i + 1)) (lv' := [(4, .int (nI (i + 1))), (3, .int (zo_fd m9 x y i)), (0, .ref X), (1, .int x), (2, .int y)]) hx hb d_Mod_find_46 hl rfl (nI_add i 1) (by decide) rfl (fun ls hl => ?_)
            refine lv_goto (tgt := 5) hx hb d_Mod_find_49 (by decide) ?_
            have e5 : zo_fd m9 x y (i + 1) = zo_fd m9 x y i := by rw [zo_fd, if_pos hc2, if_pos hc4]
            have hl : lv_has ls 5 [(4, .int (nI (i + 1))), (3, .int (zo_fd m9 x y (i + 1))), (0, .ref X), (1, .int x), (2, .int y)] := by rw [e5]; exact hl
            exact ih_5 (i + 1) _ _ _ _ _ (by omega) (by omega) hm (lv_sub hl [2, 3, 4, 1, 0] rfl) hH hS
          · skip
            have hc4 : ¬ x < (nI 0) := hc4
            refine lv_aload_n hx hb d_Mod_find_28 rfl (lv_at hl 0 rfl) ?_
            refine zr_getr (ci := 6) (C := R_Mod) (T := T_Mod) (N := 37) (ref := "ScrubbedRecorderModel") hx hb hts (fun w h => List.mem_cons_of_mem _ (zin_Mod w h)) hown hK hH hm.1.1 (by decide) rfl 17 (by decide) rfl (hw zw_616) (fun _ h9 => h9) d_Mod_find_29 (by rw [r17]) ?_
            refine lv_iload hx hb d_Mod_find_32 (lv_at hl 4 rfl) ?_
            refine zr_aldi (j := i) hx hb hK hH k17 (by rw [n17]; exact zh_ix_n (by omega) (by omega)) d_Mod_find_34 ?_
            refine zt_i (y := m9 17 i) (congrFun (hm.2.1 17 (by decide) (by decide) (by decide)) i) ?_
            refine lv_iload_n hx hb d_Mod_find_35 rfl (lv_at hl 2 rfl) ?_
            refine lv_icmp_ne (tgt := 44) hx hb d_Mod_find_36 (by decide) (fun hc6 => ?_) (fun hc6 => ?_)
            · skip
              have hc6 : ¬ (m9 17 i) = y := hc6
              refine lv_iload_n hx hb d_Mod_find_44 rfl (lv_at hl 3 rfl) ?_
              refine lv_istore_n (lv' := [(3, .int (zo_fd m9 x y i)), (0, .ref X), (1, .int x), (2, .int y), (4, .int (nI i))]) hx hb d_Mod_find_45 rfl hl (by decide) rfl (fun ls hl => ?_)
              refine lv_iinc (k := 4) (v := nI (i + 1)) (lv' := [(4, .int (nI (i + 1))), (3, .int (zo_fd m9 x y i)), (0, .ref X), (1, .int x), (2, .int y)]) hx hb d_Mod_find_46 hl rfl (nI_add i 1) (by decide) rfl (fun ls hl => ?_)
              refine lv_goto (tgt := 5) hx hb d_Mod_find_49 (by decide) ?_
              have e7 : zo_fd m9 x y (i + 1) = zo_fd m9 x y i := by rw [zo_fd, if_pos hc2, if_neg hc4, if_neg hc6]
              have hl : lv_has ls 5 [(4, .int (nI (i + 1))), (3, .int (zo_fd m9 x y (i + 1))), (0, .ref X), (1, .int x), (2, .int y)] := by rw [e7]; exact hl
              exact ih_5 (i + 1) _ _ _ _ _ (by omega) (by omega) hm (lv_sub hl [2, 3, 4, 1, 0] rfl) hH hS
            · skip
              have hc6 : (m9 17 i) = y := hc6
              refine lv_iload hx hb d_Mod_find_39 (lv_at hl 4 rfl) ?_
              refine lv_goto (tgt := 45) hx hb d_Mod_find_41 (by decide) ?_
              refine lv_istore_n (lv' := [(3, .int (nI i)), (0, .ref X), (1, .int x), (2, .int y), (4, .int (nI i))]) hx hb d_Mod_find_45 rfl hl (by decide) rfl (fun ls hl => ?_)
              refine lv_iinc (k := 4) (v := nI (i + 1)) (lv' := [(4, .int (nI (i + 1))), (3, .int (nI i)), (0, .ref X), (1, .int x), (2, .int y)]) hx hb d_Mod_find_46 hl rfl (nI_add i 1) (by decide) rfl (fun ls hl => ?_)
              refine lv_goto (tgt := 5) hx hb d_Mod_find_49 (by decide) ?_
              have e8 : zo_fd m9 x y (i + 1) = nI i := by rw [zo_fd, if_pos hc2, if_neg hc4, if_pos hc6]
              have hl : lv_has ls 5 [(4, .int (nI (i + 1))), (3, .int (zo_fd m9 x y (i + 1))), (0, .ref X), (1, .int x), (2, .int y)] := by rw [e8]; exact hl
              exact ih_5 (i + 1) _ _ _ _ _ (by omega) (by omega) hm (lv_sub hl [2, 3, 4, 1, 0] rfl) hH hS
  exact loop_5 _ 0 _ _ _ _ _ (Nat.lt_succ_self _) (by omega) hm (lv_sub hl [2, 3, 4, 1, 0] rfl) hH hS

set_option maxHeartbeats 4000000 in
set_option maxRecDepth 100000 in
/-- latest -/
theorem c_Mod_latest {l : Launch} {D : va_G} {cA : Nat → ClassId} {te mi : Nat} {kd ln : Nat → Nat} {I : Nat → Nat → Int32} {L : Nat → Nat → Int64} {R : Nat → Nat → Option Nat} {X : Nat} {ad : Nat → Nat} {m9 : Nat → Nat → Int32} {q9 : Nat → Nat → Int64} (hm : zoR X ad m9 q9 kd ln I L R) {x : Int32} : zc_M l y_Mod_latest w_Mod_latest { frames := 0, cells := 0, slots := 0, locals := 0 } 0 0 D cA te mi ([.ref X, .int x] : List Value) kd ln I L R (zo_P (some (.int (zo_lt m9 x 280))) X ad m9 q9 kd ln R) := by
  intro sz
  refine Met.ofW (cc := b_Mod_latest) (maxL := 4) (ret := (some (.int))) (by decide +kernel) rfl ?_
  intro p e s m args below meth c s₁ B hml hv
  obtain ⟨rfl, hsz, hSc, hE, hH⟩ := hv
  have hx := B.exec
  have hb := B.bytes
  have hr := B.returns
  have hts := atoms_spec (ws := w_Mod_latest) B.pre
  have hw : ∀ {w : Cond}, w ∈ zw → w.before ([.ref X, .int x] : List Value).toArray s = true := fun h => hts _ (List.mem_cons_of_mem _ h)
  have hown : s.vm.findClass R_Mod = some m.cls := findClass_of_methodNamed B.named
  have hlocks := B.notSynchronized
  subst hsz
  have hK := hSc.1
  have hH : zh_H D cA (zc_A kd s.heap.size) kd ln I L R s.heap := hH.weaken (fun q h _ => Or.inl h)
  generalize hAe : zc_A kd s.heap.size = A at hH hE ⊢
  have hA : ∀ q : Nat, s.heap.size ≤ q → A q := fun q h => by rw [← hAe]; exact Or.inr h
  have hS : va_S A s.heap s.heap [] := va_S.rf
  have hl := lv_entry ([.ref X, .int x] : List Value) (n := 4) (Nat.le_of_ble_eq_true rfl)
  rw [lg_entry_eq]
  generalize (lg_sl ([.ref X, .int x] : List Value) ++ List.replicate (4 - (lg_sl ([.ref X, .int x] : List Value)).length) Slot.unset).toArray = ls at hl ⊢
  have hl : lv_has ls 4 [(0, .ref X), (1, .int x)] := hl
  have k16 : kd (ad 16) = 100 := (hm.1.2.1 16 (by decide) (by decide)).2.1
  have n16 : ln (ad 16) = 280 := (hm.1.2.1 16 (by decide) (by decide)).2.2
  have r16 : R X 16 = some (ad 16) := (hm.1.2.1 16 (by decide) (by decide)).1
  have k17 : kd (ad 17) = 100 := (hm.1.2.1 17 (by decide) (by decide)).2.1
  have n17 : ln (ad 17) = 280 := (hm.1.2.1 17 (by decide) (by decide)).2.2
  have r17 : R X 17 = some (ad 17) := (hm.1.2.1 17 (by decide) (by decide)).1
  refine lv_iconst (v := (-1)) hx hb d_Mod_latest_0 (by decide) ?_
  refine lv_istore_n (lv' := [(2, .int (-1)), (0, .ref X), (1, .int x)]) hx hb d_Mod_latest_1 rfl hl (by decide) rfl (fun ls hl => ?_)
  refine lv_iconst (v := nI 0) hx hb d_Mod_latest_2 (by decide) ?_
  refine lv_istore_n (lv' := [(3, .int (nI 0)), (2, .int (-1)), (0, .ref X), (1, .int x)]) hx hb d_Mod_latest_3 rfl hl (by decide) rfl (fun ls hl => ?_)
  have loop_4 : ∀ (z : Nat) (i : Nat) (I_4 : Nat → Nat → Int32) (L_4 : Nat → Nat → Int64) (H : Heap) (locs : List Loc) (ls : Array Slot), 280 - i < z → (i ≤ 280) → (zoR X ad m9 q9 kd ln I_4 L_4 R) → lv_has ls 4 [(0, .ref X), (1, .int x), (2, .int (zo_lt m9 x i)), (3, .int (nI i))] → zh_H D cA A kd ln I_4 L_4 R H → va_S A s.heap H locs → W p l e (headSpec w_Mod_latest { frames := 0, cells := 0, slots := 0, locals := 0 }).room s m ([.ref X, .int x] : List Value).toArray below meth c H locs 0 0 (MQ below (zc_Qc D cA A (zo_P (some (.int (zo_lt m9 x 280))) X ad m9 q9 kd ln R)) ([.ref X, .int x] : List Value).toArray s 0 0 A) (F0 m 4 ls []) := by
    intro z
    induction z with
    | zero => intro i I_4 L_4 H locs ls hz; exact absurd hz (Nat.not_lt_zero _)
    | succ z ih_4 =>
      intro i I_4 L_4 H locs ls hz_4 hi hm hl hH hS
      refine lv_iload_n hx hb d_Mod_latest_4 rfl (lv_at hl 3 rfl) ?_
      refine lv_sipush (v := nI 280) hx hb d_Mod_latest_5 (by decide) ?_
      refine lv_icmp_ge (tgt := 48) hx hb d_Mod_latest_8 (by decide) (fun hc1 => ?_) (fun hc1 => ?_)
      · skip
        have hc1 := zt_geT (a := i) (b := 280) (by omega) (by omega) hc1
        refine lv_iload_n hx hb d_Mod_latest_48 rfl (lv_at hl 2 rfl) ?_
        refine W.widen (k := 0) (n := 0) (Nat.le_of_ble_eq_true rfl) (Nat.le_of_ble_eq_true rfl) ?_
        subst hAe
        exact W.iret (v := zo_lt m9 x i) hx hb hr (fun t ht hW => zc_end hS hH ht (⟨by rw [show i = 280 by omega], rfl, rfl, rfl, hm⟩)) hS.2.2 d_Mod_latest_49
      · skip
        have hc1 := zt_geF (a := i) (b := 280) (by omega) (by omega) hc1
        refine lv_aload_n hx hb d_Mod_latest_11 rfl (lv_at hl 0 rfl) ?_
        refine zr_getr (ci := 6) (C := R_Mod) (T := T_Mod) (N := 37) (ref := "ScrubbedRecorderModel") hx hb hts (fun w h => List.mem_cons_of_mem _ (zin_Mod w h)) hown hK hH hm.1.1 (by decide) rfl 16 (by decide) rfl (hw zw_615) (fun _ h9 => h9) d_Mod_latest_12 (by rw [r16]) ?_
        refine lv_iload_n hx hb d_Mod_latest_15 rfl (lv_at hl 3 rfl) ?_
        refine zr_aldi (j := i) hx hb hK hH k16 (by rw [n16]; exact zh_ix_n (by omega) (by omega)) d_Mod_latest_16 ?_
        refine zt_i (y := m9 16 i) (congrFun (hm.2.1 16 (by decide) (by decide) (by decide)) i) ?_
        refine lv_iload_n hx hb d_Mod_latest_17 rfl (lv_at hl 1 rfl) ?_
        refine lv_icmp_ne (tgt := 40) hx hb d_Mod_latest_18 (by decide) (fun hc2 => ?_) (fun hc2 => ?_)
        · skip
          have hc2 : ¬ (m9 16 i) = x := hc2
          refine lv_iload_n hx hb d_Mod_latest_40 rfl (lv_at hl 2 rfl) ?_
          refine lv_istore_n (lv' := [(2, .int (zo_lt m9 x i)), (0, .ref X), (1, .int x), (3, .int (nI i))]) hx hb d_Mod_latest_41 rfl hl (by decide) rfl (fun ls hl => ?_)
          refine lv_iinc (k := 3) (v := nI (i + 1)) (lv' := [(3, .int (nI (i + 1))), (2, .int (zo_lt m9 x i)), (0, .ref X), (1, .int x)]) hx hb d_Mod_latest_42 hl rfl (nI_add i 1) (by decide) rfl (fun ls hl => ?_)
          refine lv_goto (tgt := 4) hx hb d_Mod_latest_45 (by decide) ?_
          have e3 : zo_lt m9 x (i + 1) = zo_lt m9 x i := by rw [zo_lt, if_neg hc2]
          have hl : lv_has ls 4 [(3, .int (nI (i + 1))), (2, .int (zo_lt m9 x (i + 1))), (0, .ref X), (1, .int x)] := by rw [e3]; exact hl
          exact ih_4 (i + 1) _ _ _ _ _ (by omega) (by omega) hm (lv_sub hl [2, 3, 1, 0] rfl) hH hS
        · skip
          have hc2 : (m9 16 i) = x := hc2
          refine lv_aload_n hx hb d_Mod_latest_21 rfl (lv_at hl 0 rfl) ?_
          refine zr_getr (ci := 6) (C := R_Mod) (T := T_Mod) (N := 37) (ref := "ScrubbedRecorderModel") hx hb hts (fun w h => List.mem_cons_of_mem _ (zin_Mod w h)) hown hK hH hm.1.1 (by decide) rfl 17 (by decide) rfl (hw zw_616) (fun _ h9 => h9) d_Mod_latest_22 (by rw [r17]) ?_
          refine lv_iload_n hx hb d_Mod_latest_25 rfl (lv_at hl 3 rfl) ?_
          refine zr_aldi (j := i) hx hb hK hH k17 (by rw [n17]; exact zh_ix_n (by omega) (by omega)) d_Mod_latest_26 ?_
          refine zt_i (y := m9 17 i) (congrFun (hm.2.1 17 (by decide) (by decide) (by decide)) i) ?_
          refine lv_iload_n hx hb d_Mod_latest_27 rfl (lv_at hl 2 rfl) ?_
          refine lv_icmp_le (tgt := 40) hx hb d_Mod_latest_28 (by decide) (fun hc4 => ?_) (fun hc4 => ?_)
          · skip
            have hc4 : ¬ (zo_lt m9 x i) < (m9 17 i) := Int32.not_lt.mpr hc4
            refine lv_iload_n hx hb d_Mod_latest_40 rfl (lv_at hl 2 rfl) ?_
            refine lv_istore_n (lv' := [(2, .int (zo_lt m9 x i)), (0, .ref X), (1, .int x), (3, .int (nI i))]) hx hb d_Mod_latest_41 rfl hl (by decide) rfl (fun ls hl => ?_)
            refine lv_iinc (k := 3) (v := nI (i + 1)) (lv' := [(3, .int (nI (i + 1))), (2, .int (zo_lt m9 x i)), (0, .ref X), (1, .int x)]) hx hb d_Mod_latest_42 hl rfl (nI_add i 1) (by decide) rfl (fun ls hl => ?_)
            refine lv_goto (tgt := 4) hx hb d_Mod_latest_45 (by decide) ?_
            have e5 : zo_lt m9 x (i + 1) = zo_lt m9 x i := by rw [zo_lt, if_pos hc2, if_neg hc4]
            have hl : lv_has ls 4 [(3, .int (nI (i + 1))), (2, .int (zo_lt m9 x (i + 1))), (0, .ref X), (1, .int x)] := by rw [e5]; exact hl
            exact ih_4 (i + 1) _ _ _ _ _ (by omega) (by omega) hm (lv_sub hl [2, 3, 1, 0] rfl) hH hS
          · skip
            have hc4 : (zo_lt m9 x i) < (m9 17 i) := Int32.not_le.mp hc4
            refine lv_aload_n hx hb d_Mod_latest_31 rfl (lv_at hl 0 rfl) ?_
            refine zr_getr (ci := 6) (C := R_Mod) (T := T_Mod) (N := 37) (ref := "ScrubbedRecorderModel") hx hb hts (fun w h => List.mem_cons_of_mem _ (zin_Mod w h)) hown hK hH hm.1.1 (by decide) rfl 17 (by decide) rfl (hw zw_616) (fun _ h9 => h9) d_Mod_latest_32 (by rw [r17]) ?_
            refine lv_iload_n hx hb d_Mod_latest_35 rfl (lv_at hl 3 rfl) ?_
            refine zr_aldi (j := i) hx hb hK hH k17 (by rw [n17]; exact zh_ix_n (by omega) (by omega)) d_Mod_latest_36 ?_
            refine zt_i (y := m9 17 i) (congrFun (hm.2.1 17 (by decide) (by decide) (by decide)) i) ?_
            refine lv_goto (tgt := 41) hx hb d_Mod_latest_37 (by decide) ?_
            refine lv_istore_n (lv' := [(2, .int (m9 17 i)), (0, .ref X), (1, .int x), (3, .int (nI i))]) hx hb d_Mod_latest_41 rfl hl (by decide) rfl (fun ls hl => ?_)
            refine lv_iinc (k := 3) (v := nI (i + 1)) (lv' := [(3, .int (nI (i + 1))), (2, .int (m9 17 i)), (0, .ref X), (1, .int x)]) hx hb d_Mod_latest_42 hl rfl (nI_add i 1) (by decide) rfl (fun ls hl => ?_)
            refine lv_goto (tgt := 4) hx hb d_Mod_latest_45 (by decide) ?_
            have e6 : zo_lt m9 x (i + 1) = m9 17 i := by rw [zo_lt, if_pos hc2, if_pos hc4]
            have hl : lv_has ls 4 [(3, .int (nI (i + 1))), (2, .int (zo_lt m9 x (i + 1))), (0, .ref X), (1, .int x)] := by rw [e6]; exact hl
            exact ih_4 (i + 1) _ _ _ _ _ (by omega) (by omega) hm (lv_sub hl [2, 3, 1, 0] rfl) hH hS
  exact loop_4 _ 0 _ _ _ _ _ (Nat.lt_succ_self _) (by omega) hm (lv_sub hl [2, 3, 1, 0] rfl) hH hS

set_option maxHeartbeats 4000000 in
set_option maxRecDepth 100000 in
/-- put -/
theorem c_Mod_put {l : Launch} {D : va_G} {cA : Nat → ClassId} {te mi : Nat} {kd ln : Nat → Nat} {I : Nat → Nat → Int32} {L : Nat → Nat → Int64} {R : Nat → Nat → Option Nat} {X : Nat} {ad : Nat → Nat} {m9 : Nat → Nat → Int32} {q9 : Nat → Nat → Int64} (hm : zoR X ad m9 q9 kd ln I L R) {j : Nat} {v : Int64} (hj : j < 60) : zc_M l y_Mod_put w_Mod_put { frames := 0, cells := 0, slots := 0, locals := 0 } 0 0 D cA te mi ([.ref X, .int (nI j), .long v] : List Value) kd ln I L R (zo_P (some (.int (nI 1))) X ad (va_up m9 34 (zo_bf (m9 34) j v 8)) q9 kd ln R) := by
  intro sz
  refine Met.ofW (cc := b_Mod_put) (maxL := 5) (ret := (some (.boolean))) (by decide +kernel) rfl ?_
  intro p e s m args below meth c s₁ B hml hv
  obtain ⟨rfl, hsz, hSc, hE, hH⟩ := hv
  have hx := B.exec
  have hb := B.bytes
  have hr := B.returns
  have hts := atoms_spec (ws := w_Mod_put) B.pre
  have hw : ∀ {w : Cond}, w ∈ zw → w.before ([.ref X, .int (nI j), .long v] : List Value).toArray s = true := fun h => hts _ (List.mem_cons_of_mem _ h)
  have hown : s.vm.findClass R_Mod = some m.cls := findClass_of_methodNamed B.named
  have hlocks := B.notSynchronized
  subst hsz
  have hK := hSc.1
  have hH : zh_H D cA (zc_A kd s.heap.size) kd ln I L R s.heap := hH.weaken (fun q h _ => Or.inl h)
  generalize hAe : zc_A kd s.heap.size = A at hH hE ⊢
  have hA : ∀ q : Nat, s.heap.size ≤ q → A q := fun q h => by rw [← hAe]; exact Or.inr h
  have hS : va_S A s.heap s.heap [] := va_S.rf
  have hl := lv_entry ([.ref X, .int (nI j), .long v] : List Value) (n := 5) (Nat.le_of_ble_eq_true rfl)
  rw [lg_entry_eq]
  generalize (lg_sl ([.ref X, .int (nI j), .long v] : List Value) ++ List.replicate (5 - (lg_sl ([.ref X, .int (nI j), .long v] : List Value)).length) Slot.unset).toArray = ls at hl ⊢
  have hl : lv_has ls 5 [(0, .ref X), (1, .int (nI j)), (2, .long v)] := hl
  have k34 : kd (ad 34) = 100 := (hm.1.2.1 34 (by decide) (by decide)).2.1
  have n34 : ln (ad 34) = 64 := (hm.1.2.1 34 (by decide) (by decide)).2.2
  have r34 : R X 34 = some (ad 34) := (hm.1.2.1 34 (by decide) (by decide)).1
  refine lv_iload_n hx hb d_Mod_put_0 rfl (lv_at hl 1 rfl) ?_
  refine lv_if_lt (tgt := 10) hx hb d_Mod_put_1 (by decide) (fun hc1 => ?_) (fun hc1 => ?_)
  · skip
    have hc1 := zt_ltT (a := j) (b := 0) (by omega) (by omega) hc1
    exact absurd hc1 (by omega)
  · skip
    have hc1 := zt_ltF (a := j) (b := 0) (by omega) (by omega) hc1
    refine lv_iload_n hx hb d_Mod_put_4 rfl (lv_at hl 1 rfl) ?_
    refine lv_bipush (v := nI 59) hx hb d_Mod_put_5 (by decide) ?_
    refine lv_icmp_le (tgt := 12) hx hb d_Mod_put_7 (by decide) (fun hc2 => ?_) (fun hc2 => ?_)
    · skip
      have hc2 := zt_leT (a := j) (b := 59) (by omega) (by omega) hc2
      refine lv_iconst (v := nI 0) hx hb d_Mod_put_12 (by decide) ?_
      refine lv_istore (lv' := [(4, .int (nI 0)), (0, .ref X), (1, .int (nI j)), (2, .long v)]) hx hb d_Mod_put_13 hl (by decide) rfl (fun ls hl => ?_)
      have loop_15 : ∀ (z : Nat) (b : Nat) (I_15 : Nat → Nat → Int32) (L_15 : Nat → Nat → Int64) (H : Heap) (locs : List Loc) (ls : Array Slot), 8 - b < z → (b ≤ 8) → (zoR X ad (va_up m9 34 (zo_bf (m9 34) j v b)) q9 kd ln I_15 L_15 R) → lv_has ls 5 [(0, .ref X), (1, .int (nI j)), (2, .long v), (4, .int (nI b))] → zh_H D cA A kd ln I_15 L_15 R H → va_S A s.heap H locs → W p l e (headSpec w_Mod_put { frames := 0, cells := 0, slots := 0, locals := 0 }).room s m ([.ref X, .int (nI j), .long v] : List Value).toArray below meth c H locs 0 0 (MQ below (zc_Qc D cA A (zo_P (some (.int (nI 1))) X ad (va_up m9 34 (zo_bf (m9 34) j v 8)) q9 kd ln R)) ([.ref X, .int (nI j), .long v] : List Value).toArray s 0 0 A) (F0 m 15 ls []) := by
        intro z
        induction z with
        | zero => intro b I_15 L_15 H locs ls hz; exact absurd hz (Nat.not_lt_zero _)
        | succ z ih_15 =>
          intro b I_15 L_15 H locs ls hz_15 hb8 hm hl hH hS
          refine lv_iload hx hb d_Mod_put_15 (lv_at hl 3 rfl) ?_
          refine lv_bipush (v := nI 8) hx hb d_Mod_put_17 (by decide) ?_
          refine lv_icmp_ge (tgt := 58) hx hb d_Mod_put_19 (by decide) (fun hc3 => ?_) (fun hc3 => ?_)
          · skip
            have hc3 := zt_geT (a := b) (b := 8) (by omega) (by omega) hc3
            refine lv_iconst (v := nI 1) hx hb d_Mod_put_58 (by decide) ?_
            refine W.widen (k := 0) (n := 0) (Nat.le_of_ble_eq_true rfl) (Nat.le_of_ble_eq_true rfl) ?_
            subst hAe
            exact W.zret (v := nI 1) hx hb hr (by decide +kernel) (fun t ht hW => zc_end hS hH ht (⟨rfl, rfl, rfl, rfl, by rw [zo_bf_e (b := b) (m9 34) v (by omega)] at hm; exact hm⟩)) hS.2.2 d_Mod_put_59
          · skip
            have hc3 := zt_geF (a := b) (b := 8) (by omega) (by omega) hc3
            refine lv_iload_n hx hb d_Mod_put_22 rfl (lv_at hl 1 rfl) ?_
            refine lv_iload hx hb d_Mod_put_23 (lv_at hl 3 rfl) ?_
            refine lv_iadd hx hb d_Mod_put_25 ?_
            refine zt_i (y := nI (j + b)) (nI_add j b) ?_
            refine lv_bipush (v := nI 60) hx hb d_Mod_put_26 (by decide) ?_
            refine lv_icmp_ge (tgt := 58) hx hb d_Mod_put_28 (by decide) (fun hc4 => ?_) (fun hc4 => ?_)
            · skip
              have hc4 := zt_geT (a := (j + b)) (b := 60) (by omega) (by omega) hc4
              refine lv_iconst (v := nI 1) hx hb d_Mod_put_58 (by decide) ?_
              refine W.widen (k := 0) (n := 0) (Nat.le_of_ble_eq_true rfl) (Nat.le_of_ble_eq_true rfl) ?_
              subst hAe
              exact W.zret (v := nI 1) hx hb hr (by decide +kernel) (fun t ht hW => zc_end hS hH ht (⟨rfl, rfl, rfl, rfl, by rw [zo_bf_e (b := b) (m9 34) v (by omega)] at hm; exact hm⟩)) hS.2.2 d_Mod_put_59
            · skip
              have hc4 := zt_geF (a := (j + b)) (b := 60) (by omega) (by omega) hc4
              refine lv_aload_n hx hb d_Mod_put_31 rfl (lv_at hl 0 rfl) ?_
              refine zr_getr (ci := 6) (C := R_Mod) (T := T_Mod) (N := 37) (ref := "ScrubbedRecorderModel") hx hb hts (fun w h => List.mem_cons_of_mem _ (zin_Mod w h)) hown hK hH hm.1.1 (by decide) rfl 34 (by decide) rfl (hw zw_633) (fun _ h9 => h9) d_Mod_put_32 (by rw [r34]) ?_
              refine lv_iload_n hx hb d_Mod_put_35 rfl (lv_at hl 1 rfl) ?_
              refine lv_iload hx hb d_Mod_put_36 (lv_at hl 3 rfl) ?_
              refine lv_iadd hx hb d_Mod_put_38 ?_
              refine zt_i (y := nI (j + b)) (nI_add j b) ?_
              refine lv_lload_n hx hb d_Mod_put_39 rfl (lv_at hl 2 rfl) ?_
              refine lv_bipush (v := nI 8) hx hb d_Mod_put_40 (by decide) ?_
              refine lv_iload hx hb d_Mod_put_42 (lv_at hl 3 rfl) ?_
              refine lv_imul hx hb d_Mod_put_44 ?_
              refine zt_i (y := nI (8 * b)) (pk_mul 8 b) ?_
              refine lv_lshr (v := v >>> ((nI (8 * b)).toInt64 &&& 63)) hx hb d_Mod_put_45 rfl ?_
              refine lv_ldc2 (v := 255) hx hb hown (hw zw_773) d_Mod_put_46 ?_
              refine lv_land hx hb d_Mod_put_49 ?_
              refine lv_l2i (v := ((v >>> ((nI (8 * b)).toInt64 &&& 63)) &&& 255).toInt32) hx hb d_Mod_put_50 rfl ?_
              refine zr_asti (j := j + b) (y := ((v >>> ((nI (8 * b)).toInt64 &&& 63)) &&& 255).toInt32) hx hb hK hH hS k34 rfl (by rw [n34]; exact zh_ix_n (by omega) (by omega)) d_Mod_put_51 (fun H locs hH hS => ?_)
              have hm := zoR_I hm 34 (by decide) (j + b) (((v >>> ((nI (8 * b)).toInt64 &&& 63)) &&& 255).toInt32)
              generalize zu I_15 (ad 34) (j + b) (((v >>> ((nI (8 * b)).toInt64 &&& 63)) &&& 255).toInt32) = I5 at hm hH
              refine lv_iinc (k := 3) (v := nI (b + 1)) (lv' := [(4, .int (nI (b + 1))), (0, .ref X), (1, .int (nI j)), (2, .long v)]) hx hb d_Mod_put_52 hl rfl (nI_add b 1) (by decide) rfl (fun ls hl => ?_)
              refine lv_goto (tgt := 15) hx hb d_Mod_put_55 (by decide) ?_
              have hm : zoR X ad (zu (va_up m9 34 (zo_bf (m9 34) j v b)) 34 (j + b) (zo_by v b)) q9 kd ln I5 L_15 R := hm
              rw [zo_bf_s m9 v (by omega)] at hm
              exact ih_15 (b + 1) _ _ _ _ _ (by omega) (by omega) hm (lv_sub hl [1, 2, 3, 0] rfl) hH hS
      rw [← zo_bf_0 m9 j v] at hm
      exact loop_15 _ 0 _ _ _ _ _ (Nat.lt_succ_self _) (by omega) hm (lv_sub hl [1, 2, 3, 0] rfl) hH hS
    · skip
      have hc2 := zt_leF (a := j) (b := 59) (by omega) (by omega) hc2
      exact absurd hc2 (by omega)

set_option maxHeartbeats 4000000 in
set_option maxRecDepth 100000 in
/-- put, elsewhere -/
theorem c_Mod_put_B {l : Launch} {D : va_G} {cA : Nat → ClassId} {te mi : Nat} {kd ln : Nat → Nat} {I : Nat → Nat → Int32} {L : Nat → Nat → Int64} {R : Nat → Nat → Option Nat} {X : Nat} {ad : Nat → Nat} {m9 : Nat → Nat → Int32} {q9 : Nat → Nat → Int64} (hm : zoR X ad m9 q9 kd ln I L R) {x : Int32} {v : Int64} (hbad : x < nI 0 ∨ nI 59 < x) : zc_M l y_Mod_put w_Mod_put { frames := 0, cells := 0, slots := 0, locals := 0 } 0 0 D cA te mi ([.ref X, .int x, .long v] : List Value) kd ln I L R (zo_P (some (.int (nI 0))) X ad m9 q9 kd ln R) := by
  intro sz
  refine Met.ofW (cc := b_Mod_put) (maxL := 5) (ret := (some (.boolean))) (by decide +kernel) rfl ?_
  intro p e s m args below meth c s₁ B hml hv
  obtain ⟨rfl, hsz, hSc, hE, hH⟩ := hv
  have hx := B.exec
  have hb := B.bytes
  have hr := B.returns
  have hts := atoms_spec (ws := w_Mod_put) B.pre
  have hw : ∀ {w : Cond}, w ∈ zw → w.before ([.ref X, .int x, .long v] : List Value).toArray s = true := fun h => hts _ (List.mem_cons_of_mem _ h)
  have hown : s.vm.findClass R_Mod = some m.cls := findClass_of_methodNamed B.named
  have hlocks := B.notSynchronized
  subst hsz
  have hK := hSc.1
  have hH : zh_H D cA (zc_A kd s.heap.size) kd ln I L R s.heap := hH.weaken (fun q h _ => Or.inl h)
  generalize hAe : zc_A kd s.heap.size = A at hH hE ⊢
  have hA : ∀ q : Nat, s.heap.size ≤ q → A q := fun q h => by rw [← hAe]; exact Or.inr h
  have hS : va_S A s.heap s.heap [] := va_S.rf
  have hl := lv_entry ([.ref X, .int x, .long v] : List Value) (n := 5) (Nat.le_of_ble_eq_true rfl)
  rw [lg_entry_eq]
  generalize (lg_sl ([.ref X, .int x, .long v] : List Value) ++ List.replicate (5 - (lg_sl ([.ref X, .int x, .long v] : List Value)).length) Slot.unset).toArray = ls at hl ⊢
  have hl : lv_has ls 5 [(0, .ref X), (1, .int x), (2, .long v)] := hl
  have k34 : kd (ad 34) = 100 := (hm.1.2.1 34 (by decide) (by decide)).2.1
  have n34 : ln (ad 34) = 64 := (hm.1.2.1 34 (by decide) (by decide)).2.2
  have r34 : R X 34 = some (ad 34) := (hm.1.2.1 34 (by decide) (by decide)).1
  refine lv_iload_n hx hb d_Mod_put_0 rfl (lv_at hl 1 rfl) ?_
  refine lv_if_lt (tgt := 10) hx hb d_Mod_put_1 (by decide) (fun hc1 => ?_) (fun hc1 => ?_)
  · skip
    have hc1 : x < (nI 0) := hc1
    refine lv_iconst (v := nI 0) hx hb d_Mod_put_10 (by decide) ?_
    refine W.widen (k := 0) (n := 0) (Nat.le_of_ble_eq_true rfl) (Nat.le_of_ble_eq_true rfl) ?_
    subst hAe
    exact W.zret (v := nI 0) hx hb hr (by decide +kernel) (fun t ht hW => zc_end hS hH ht (⟨rfl, rfl, rfl, rfl, hm⟩)) hS.2.2 d_Mod_put_11
  · skip
    have hc1 : ¬ x < (nI 0) := hc1
    refine lv_iload_n hx hb d_Mod_put_4 rfl (lv_at hl 1 rfl) ?_
    refine lv_bipush (v := nI 59) hx hb d_Mod_put_5 (by decide) ?_
    refine lv_icmp_le (tgt := 12) hx hb d_Mod_put_7 (by decide) (fun hc2 => ?_) (fun hc2 => ?_)
    · skip
      have hc2 : ¬ (nI 59) < x := Int32.not_lt.mpr hc2
      exact absurd hbad (fun q => q.elim (by assumption) (by assumption))
    · skip
      have hc2 : (nI 59) < x := Int32.not_le.mp hc2
      refine lv_iconst (v := nI 0) hx hb d_Mod_put_10 (by decide) ?_
      refine W.widen (k := 0) (n := 0) (Nat.le_of_ble_eq_true rfl) (Nat.le_of_ble_eq_true rfl) ?_
      subst hAe
      exact W.zret (v := nI 0) hx hb hr (by decide +kernel) (fun t ht hW => zc_end hS hH ht (⟨rfl, rfl, rfl, rfl, hm⟩)) hS.2.2 d_Mod_put_11

set_option maxHeartbeats 4000000 in
set_option maxRecDepth 100000 in
/-- free -/
theorem c_Mod_free {l : Launch} {D : va_G} {cA : Nat → ClassId} {te mi : Nat} {kd ln : Nat → Nat} {I : Nat → Nat → Int32} {L : Nat → Nat → Int64} {R : Nat → Nat → Option Nat} {X : Nat} {ad : Nat → Nat} {m9 : Nat → Nat → Int32} {q9 : Nat → Nat → Int64} (hm : zoR X ad m9 q9 kd ln I L R) {k cl pg : Nat} (hk4 : k < 4) (hcl : m9 12 k = nI cl) (hcl1 : 1 ≤ cl) (hcl2 : cl ≤ 40) (hpg : m9 14 (40 * k) = nI pg) (hpg1 : pg < 40) : zc_M l y_Mod_free w_Mod_free { frames := 2, cells := 0, slots := 0, locals := 44 } 0 0 D cA te mi ([.ref X, .int (nI k)] : List Value) kd ln I L R (zo_P none X ad (va_up (zu (va_up (zu m9 12 k (nI (cl - 1))) 14 (zo_sh (m9 14) (40 * k) (cl - 1))) 15 pg (nI 0)) 16 (zo_map (m9 16) (zo_rm m9 k pg) 280)) (zb_wr 0 pg 0 q9) kd ln R) := by
  intro sz
  refine Met.ofW (cc := b_Mod_free) (maxL := 4) (ret := none) (by decide +kernel) rfl ?_
  intro p e s m args below meth c s₁ B hml hv
  obtain ⟨rfl, hsz, hSc, hE, hH⟩ := hv
  have hx := B.exec
  have hb := B.bytes
  have hr := B.returns
  have hts := atoms_spec (ws := w_Mod_free) B.pre
  have hw : ∀ {w : Cond}, w ∈ zw → w.before ([.ref X, .int (nI k)] : List Value).toArray s = true := fun h => hts _ (List.mem_cons_of_mem _ h)
  have hown : s.vm.findClass R_Mod = some m.cls := findClass_of_methodNamed B.named
  have hlocks := B.notSynchronized
  subst hsz
  have hK := hSc.1
  have hH : zh_H D cA (zc_A kd s.heap.size) kd ln I L R s.heap := hH.weaken (fun q h _ => Or.inl h)
  generalize hAe : zc_A kd s.heap.size = A at hH hE ⊢
  have hA : ∀ q : Nat, s.heap.size ≤ q → A q := fun q h => by rw [← hAe]; exact Or.inr h
  have hS : va_S A s.heap s.heap [] := va_S.rf
  have hl := lv_entry ([.ref X, .int (nI k)] : List Value) (n := 4) (Nat.le_of_ble_eq_true rfl)
  rw [lg_entry_eq]
  generalize (lg_sl ([.ref X, .int (nI k)] : List Value) ++ List.replicate (4 - (lg_sl ([.ref X, .int (nI k)] : List Value)).length) Slot.unset).toArray = ls at hl ⊢
  have hl : lv_has ls 4 [(0, .ref X), (1, .int (nI k))] := hl
  have k12 : kd (ad 12) = 100 := (hm.1.2.1 12 (by decide) (by decide)).2.1
  have n12 : ln (ad 12) = 4 := (hm.1.2.1 12 (by decide) (by decide)).2.2
  have r12 : R X 12 = some (ad 12) := (hm.1.2.1 12 (by decide) (by decide)).1
  have k14 : kd (ad 14) = 100 := (hm.1.2.1 14 (by decide) (by decide)).2.1
  have n14 : ln (ad 14) = 160 := (hm.1.2.1 14 (by decide) (by decide)).2.2
  have r14 : R X 14 = some (ad 14) := (hm.1.2.1 14 (by decide) (by decide)).1
  have k15 : kd (ad 15) = 103 := (hm.1.2.1 15 (by decide) (by decide)).2.1
  have n15 : ln (ad 15) = 40 := (hm.1.2.1 15 (by decide) (by decide)).2.2
  have r15 : R X 15 = some (ad 15) := (hm.1.2.1 15 (by decide) (by decide)).1
  have k16 : kd (ad 16) = 100 := (hm.1.2.1 16 (by decide) (by decide)).2.1
  have n16 : ln (ad 16) = 280 := (hm.1.2.1 16 (by decide) (by decide)).2.2
  have r16 : R X 16 = some (ad 16) := (hm.1.2.1 16 (by decide) (by decide)).1
  have k21 : kd (ad 21) = 100 := (hm.1.2.1 21 (by decide) (by decide)).2.1
  have n21 : ln (ad 21) = 280 := (hm.1.2.1 21 (by decide) (by decide)).2.2
  have r21 : R X 21 = some (ad 21) := (hm.1.2.1 21 (by decide) (by decide)).1
  refine lv_aload_n hx hb d_Mod_free_0 rfl (lv_at hl 0 rfl) ?_
  refine zr_getr (ci := 6) (C := R_Mod) (T := T_Mod) (N := 37) (ref := "ScrubbedRecorderModel") hx hb hts (fun w h => List.mem_cons_of_mem _ (zin_Mod w h)) hown hK hH hm.1.1 (by decide) rfl 14 (by decide) rfl (hw zw_613) (fun _ h9 => h9) d_Mod_free_1 (by rw [r14]) ?_
  refine lv_bipush (v := nI 40) hx hb d_Mod_free_4 (by decide) ?_
  refine lv_iload_n hx hb d_Mod_free_6 rfl (lv_at hl 1 rfl) ?_
  refine lv_imul hx hb d_Mod_free_7 ?_
  refine zt_i (y := nI (40 * k)) (pk_mul 40 k) ?_
  refine zr_aldi (j := 40 * k) hx hb hK hH k14 (by rw [n14]; exact zh_ix_n (by omega) (by omega)) d_Mod_free_8 ?_
  refine zt_i (y := nI pg) ((congrFun (hm.2.1 14 (by decide) (by decide) (by decide)) (40 * k)).trans (by rw [hpg])) ?_
  refine lv_istore_n (lv' := [(2, .int (nI pg)), (0, .ref X), (1, .int (nI k))]) hx hb d_Mod_free_9 rfl hl (by decide) rfl (fun ls hl => ?_)
  refine lv_aload_n hx hb d_Mod_free_10 rfl (lv_at hl 1 rfl) ?_
  refine zr_getr (ci := 6) (C := R_Mod) (T := T_Mod) (N := 37) (ref := "ScrubbedRecorderModel") hx hb hts (fun w h => List.mem_cons_of_mem _ (zin_Mod w h)) hown hK hH hm.1.1 (by decide) rfl 12 (by decide) rfl (hw zw_611) (fun _ h9 => h9) d_Mod_free_11 (by rw [r12]) ?_
  refine lv_iload_n hx hb d_Mod_free_14 rfl (lv_at hl 2 rfl) ?_
  refine lv_dup2_11 hx hb d_Mod_free_15 rfl rfl ?_
  refine zr_aldi (j := k) hx hb hK hH k12 (by rw [n12]; exact zh_ix_n (by omega) (by omega)) d_Mod_free_16 ?_
  refine zt_i (y := nI cl) ((congrFun (hm.2.1 12 (by decide) (by decide) (by decide)) k).trans (by rw [hcl])) ?_
  refine lv_iconst (v := nI 1) hx hb d_Mod_free_17 (by decide) ?_
  refine lv_isub hx hb d_Mod_free_18 ?_
  refine zt_i (y := nI (cl - 1)) (pk_sub (by omega)) ?_
  refine zr_asti (j := k) (y := nI (cl - 1)) hx hb hK hH hS k12 rfl (by rw [n12]; exact zh_ix_n (by omega) (by omega)) d_Mod_free_19 (fun H locs hH hS => ?_)
  have hm := zoR_I hm 12 (by decide) k (nI (cl - 1))
  generalize zu I (ad 12) k (nI (cl - 1)) = I1 at hm hH
  refine lv_iconst (v := nI 0) hx hb d_Mod_free_20 (by decide) ?_
  refine lv_istore_n (lv' := [(3, .int (nI 0)), (2, .int (nI pg)), (0, .ref X), (1, .int (nI k))]) hx hb d_Mod_free_21 rfl hl (by decide) rfl (fun ls hl => ?_)
  have loop_22 : ∀ (z : Nat) (i : Nat) (I_22 : Nat → Nat → Int32) (L_22 : Nat → Nat → Int64) (H : Heap) (locs : List Loc) (ls : Array Slot), cl - 1 - i < z → (i ≤ cl - 1) → (zoR X ad (va_up (zu m9 12 k (nI (cl - 1))) 14 (zo_sh (m9 14) (40 * k) i)) q9 kd ln I_22 L_22 R) → lv_has ls 4 [(0, .ref X), (1, .int (nI k)), (2, .int (nI pg)), (3, .int (nI i))] → zh_H D cA A kd ln I_22 L_22 R H → va_S A s.heap H locs → W p l e (headSpec w_Mod_free { frames := 2, cells := 0, slots := 0, locals := 44 }).room s m ([.ref X, .int (nI k)] : List Value).toArray below meth c H locs 0 0 (MQ below (zc_Qc D cA A (zo_P none X ad (va_up (zu (va_up (zu m9 12 k (nI (cl - 1))) 14 (zo_sh (m9 14) (40 * k) (cl - 1))) 15 pg (nI 0)) 16 (zo_map (m9 16) (zo_rm m9 k pg) 280)) (zb_wr 0 pg 0 q9) kd ln R)) ([.ref X, .int (nI k)] : List Value).toArray s 0 0 A) (F0 m 22 ls []) := by
    intro z
    induction z with
    | zero => intro i I_22 L_22 H locs ls hz; exact absurd hz (Nat.not_lt_zero _)
    | succ z ih_22 =>
      intro i I_22 L_22 H locs ls hz_22 hi hm hl hH hS
      refine lv_iload_n hx hb d_Mod_free_22 rfl (lv_at hl 3 rfl) ?_
      refine lv_aload_n hx hb d_Mod_free_23 rfl (lv_at hl 0 rfl) ?_
      refine zr_getr (ci := 6) (C := R_Mod) (T := T_Mod) (N := 37) (ref := "ScrubbedRecorderModel") hx hb hts (fun w h => List.mem_cons_of_mem _ (zin_Mod w h)) hown hK hH hm.1.1 (by decide) rfl 12 (by decide) rfl (hw zw_611) (fun _ h9 => h9) d_Mod_free_24 (by rw [r12]) ?_
      refine lv_iload_n hx hb d_Mod_free_27 rfl (lv_at hl 1 rfl) ?_
      refine zr_aldi (j := k) hx hb hK hH k12 (by rw [n12]; exact zh_ix_n (by omega) (by omega)) d_Mod_free_28 ?_
      refine zt_i (y := nI (cl - 1)) ((congrFun (hm.2.1 12 (by decide) (by decide) (by decide)) k).trans (by rw [va_up_ne _ _ (show (12 : Nat) ≠ 14 by decide), zu_self])) ?_
      refine lv_icmp_ge (tgt := 62) hx hb d_Mod_free_29 (by decide) (fun hc2 => ?_) (fun hc2 => ?_)
      · skip
        have hc2 := zt_geT (a := i) (b := (cl - 1)) (by omega) (by omega) hc2
        refine lv_aload_n hx hb d_Mod_free_62 rfl (lv_at hl 0 rfl) ?_
        refine zr_getr (ci := 6) (C := R_Mod) (T := T_Mod) (N := 37) (ref := "ScrubbedRecorderModel") hx hb hts (fun w h => List.mem_cons_of_mem _ (zin_Mod w h)) hown hK hH hm.1.1 (by decide) rfl 15 (by decide) rfl (hw zw_614) (fun _ h9 => h9) d_Mod_free_63 (by rw [r15]) ?_
        refine lv_iload_n hx hb d_Mod_free_66 rfl (lv_at hl 2 rfl) ?_
        refine lv_iconst (v := nI 0) hx hb d_Mod_free_67 (by decide) ?_
        refine zr_astz (j := pg) (y := nI 0) hx hb hK hH hS k15 (by decide +kernel) (by rw [n15]; exact zh_ix_n (by omega) (by omega)) d_Mod_free_68 (fun H locs hH hS => ?_)
        have hm := zoR_I hm 15 (by decide) pg (nI 0)
        generalize zu I_22 (ad 15) pg (nI 0) = I3 at hm hH
        refine lv_aload_n hx hb d_Mod_free_69 rfl (lv_at hl 0 rfl) ?_
        refine lv_iload_n hx hb d_Mod_free_70 rfl (lv_at hl 2 rfl) ?_
        refine lv_iconst (v := nI 0) hx hb d_Mod_free_71 (by decide) ?_
        refine zr_V (As := ([.int (nI pg), .int (nI 0)] : List Value)) (rest := []) (b := X) (ci := 6) (q := (R_Mod, T_Mod, 37)) ⟨hx, hb, hml, hown, hts⟩ (c_Mod_write hm (by omega) (by omega)) ⟨(callB_of 2 hts (zg_all zw_765) rfl rfl rfl (hw zw_3) (hw zw_762) k_Mod_write.2 ⟨Nat.le_of_ble_eq_true rfl, Nat.le_of_ble_eq_true rfl⟩), (hw zw_764), (hw zs_Mod_write)⟩ hSc hE hH hS hA rfl (by decide) hm.1.1 rfl hl.1 rfl (Nat.le_of_ble_eq_true rfl) d_Mod_free_72 ⟨Nat.le_of_ble_eq_true rfl, Nat.le_of_ble_eq_true rfl⟩ (fun v4 kd4 ln4 I4 L4 R4 H locs hp hH hS => ?_)
        obtain ⟨rfl, rfl, rfl, rfl, hm⟩ := hp
        refine W.eq (g2 := F0 m 75 ls []) rfl ?_
        refine W.widen (k := 0) (n := 0) (by omega) (by omega) ?_
        refine lv_iconst (v := nI 0) hx hb d_Mod_free_75 (by decide) ?_
        refine lv_istore_n (lv' := [(3, .int (nI 0)), (0, .ref X), (1, .int (nI k)), (2, .int (nI pg))]) hx hb d_Mod_free_76 rfl hl (by decide) rfl (fun ls hl => ?_)
        rw [show i = cl - 1 by omega] at hm
        have loop_77 : ∀ (z : Nat) (s9 : Nat) (I_77 : Nat → Nat → Int32) (L_77 : Nat → Nat → Int64) (H : Heap) (locs : List Loc) (ls : Array Slot), 280 - s9 < z → (s9 ≤ 280) → (zoR X ad (va_up (zu (va_up (zu m9 12 k (nI (cl - 1))) 14 (zo_sh (m9 14) (40 * k) (cl - 1))) 15 pg (nI 0)) 16 (zo_map (m9 16) (zo_rm m9 k pg) s9)) (zb_wr 0 pg 0 q9) kd ln I_77 L_77 R) → lv_has ls 4 [(0, .ref X), (1, .int (nI k)), (2, .int (nI pg)), (3, .int (nI s9))] → zh_H D cA A kd ln I_77 L_77 R H → va_S A s.heap H locs → W p l e (headSpec w_Mod_free { frames := 2, cells := 0, slots := 0, locals := 44 }).room s m ([.ref X, .int (nI k)] : List Value).toArray below meth c H locs 0 0 (MQ below (zc_Qc D cA A (zo_P none X ad (va_up (zu (va_up (zu m9 12 k (nI (cl - 1))) 14 (zo_sh (m9 14) (40 * k) (cl - 1))) 15 pg (nI 0)) 16 (zo_map (m9 16) (zo_rm m9 k pg) 280)) (zb_wr 0 pg 0 q9) kd ln R)) ([.ref X, .int (nI k)] : List Value).toArray s 0 0 A) (F0 m 77 ls []) := by
          intro z
          induction z with
          | zero => intro s9 I_77 L_77 H locs ls hz; exact absurd hz (Nat.not_lt_zero _)
          | succ z ih_77 =>
            intro s9 I_77 L_77 H locs ls hz_77 hs9 hm hl hH hS
            refine lv_iload_n hx hb d_Mod_free_77 rfl (lv_at hl 3 rfl) ?_
            refine lv_sipush (v := nI 280) hx hb d_Mod_free_78 (by decide) ?_
            refine lv_icmp_ge (tgt := 126) hx hb d_Mod_free_81 (by decide) (fun hc5 => ?_) (fun hc5 => ?_)
            · skip
              have hc5 := zt_geT (a := s9) (b := 280) (by omega) (by omega) hc5
              refine W.widen (k := 0) (n := 0) (Nat.le_of_ble_eq_true rfl) (Nat.le_of_ble_eq_true rfl) ?_
              subst hAe
              exact W.vret hx hb hr (fun t ht hW => zc_end hS hH ht (⟨rfl, rfl, rfl, rfl, by rw [show s9 = 280 by omega] at hm; exact hm⟩)) hS.2.2 d_Mod_free_126
            · skip
              have hc5 := zt_geF (a := s9) (b := 280) (by omega) (by omega) hc5
              refine lv_aload_n hx hb d_Mod_free_84 rfl (lv_at hl 0 rfl) ?_
              refine zr_getr (ci := 6) (C := R_Mod) (T := T_Mod) (N := 37) (ref := "ScrubbedRecorderModel") hx hb hts (fun w h => List.mem_cons_of_mem _ (zin_Mod w h)) hown hK hH hm.1.1 (by decide) rfl 16 (by decide) rfl (hw zw_615) (fun _ h9 => h9) d_Mod_free_85 (by rw [r16]) ?_
              refine lv_iload_n hx hb d_Mod_free_88 rfl (lv_at hl 3 rfl) ?_
              refine lv_aload_n hx hb d_Mod_free_89 rfl (lv_at hl 0 rfl) ?_
              refine zr_getr (ci := 6) (C := R_Mod) (T := T_Mod) (N := 37) (ref := "ScrubbedRecorderModel") hx hb hts (fun w h => List.mem_cons_of_mem _ (zin_Mod w h)) hown hK hH hm.1.1 (by decide) rfl 16 (by decide) rfl (hw zw_615) (fun _ h9 => h9) d_Mod_free_90 (by rw [r16]) ?_
              refine lv_iload_n hx hb d_Mod_free_93 rfl (lv_at hl 3 rfl) ?_
              refine zr_aldi (j := s9) hx hb hK hH k16 (by rw [n16]; exact zh_ix_n (by omega) (by omega)) d_Mod_free_94 ?_
              refine zt_i (y := m9 16 s9) ((congrFun (hm.2.1 16 (by decide) (by decide) (by decide)) s9).trans (by rw [va_up_self, zo_map_at _ _ _])) ?_
              refine lv_iload_n hx hb d_Mod_free_95 rfl (lv_at hl 1 rfl) ?_
              refine lv_icmp_ne (tgt := 113) hx hb d_Mod_free_96 (by decide) (fun hc6 => ?_) (fun hc6 => ?_)
              · skip
                have hc6 : ¬ (m9 16 s9) = (nI k) := hc6
                refine lv_aload_n hx hb d_Mod_free_113 rfl (lv_at hl 0 rfl) ?_
                refine zr_getr (ci := 6) (C := R_Mod) (T := T_Mod) (N := 37) (ref := "ScrubbedRecorderModel") hx hb hts (fun w h => List.mem_cons_of_mem _ (zin_Mod w h)) hown hK hH hm.1.1 (by decide) rfl 16 (by decide) rfl (hw zw_615) (fun _ h9 => h9) d_Mod_free_114 (by rw [r16]) ?_
                refine lv_iload_n hx hb d_Mod_free_117 rfl (lv_at hl 3 rfl) ?_
                refine zr_aldi (j := s9) hx hb hK hH k16 (by rw [n16]; exact zh_ix_n (by omega) (by omega)) d_Mod_free_118 ?_
                refine zt_i (y := m9 16 s9) ((congrFun (hm.2.1 16 (by decide) (by decide) (by decide)) s9).trans (by rw [va_up_self, zo_map_at _ _ _])) ?_
                refine zr_asti (j := s9) (y := m9 16 s9) hx hb hK hH hS k16 rfl (by rw [n16]; exact zh_ix_n (by omega) (by omega)) d_Mod_free_119 (fun H locs hH hS => ?_)
                have hm := zoR_I hm 16 (by decide) s9 (m9 16 s9)
                generalize zu I_77 (ad 16) s9 (m9 16 s9) = I7 at hm hH
                refine lv_iinc (k := 3) (v := nI (s9 + 1)) (lv' := [(3, .int (nI (s9 + 1))), (0, .ref X), (1, .int (nI k)), (2, .int (nI pg))]) hx hb d_Mod_free_120 hl rfl (nI_add s9 1) (by decide) rfl (fun ls hl => ?_)
                refine lv_goto (tgt := 77) hx hb d_Mod_free_123 (by decide) ?_
                have hm : zoR X ad (zu (va_up (zu (va_up (zu m9 12 k (nI (cl - 1))) 14 (zo_sh (m9 14) (40 * k) (cl - 1))) 15 pg (nI 0)) 16 (zo_map (m9 16) (zo_rm m9 k pg) s9)) 16 s9 (zo_rm m9 k pg s9)) (zb_wr 0 pg 0 q9) kd ln I7 L_77 R := by rw [zo_rm, if_neg hc6]; exact hm
                rw [zo_map_s] at hm
                exact ih_77 (s9 + 1) _ _ _ _ _ (by omega) (by omega) hm (lv_sub hl [1, 2, 3, 0] rfl) hH hS
              · skip
                have hc6 : (m9 16 s9) = (nI k) := hc6
                refine lv_aload_n hx hb d_Mod_free_99 rfl (lv_at hl 0 rfl) ?_
                refine zr_getr (ci := 6) (C := R_Mod) (T := T_Mod) (N := 37) (ref := "ScrubbedRecorderModel") hx hb hts (fun w h => List.mem_cons_of_mem _ (zin_Mod w h)) hown hK hH hm.1.1 (by decide) rfl 21 (by decide) rfl (hw zw_620) (fun _ h9 => h9) d_Mod_free_100 (by rw [r21]) ?_
                refine lv_iload_n hx hb d_Mod_free_103 rfl (lv_at hl 3 rfl) ?_
                refine zr_aldi (j := s9) hx hb hK hH k21 (by rw [n21]; exact zh_ix_n (by omega) (by omega)) d_Mod_free_104 ?_
                refine zt_i (y := m9 21 s9) ((congrFun (hm.2.1 21 (by decide) (by decide) (by decide)) s9).trans (by rw [va_up_ne _ _ (show (21 : Nat) ≠ 16 by decide), show (zu (va_up (zu m9 12 k (nI (cl - 1))) 14 (zo_sh (m9 14) (40 * k) (cl - 1))) 15 pg (nI 0)) 21 s9 = m9 21 s9 from by rw [zu_ne _ _ _ (show (21 : Nat) ≠ 15 by decide), va_up_ne _ _ (show (21 : Nat) ≠ 14 by decide), zu_ne _ _ _ (show (21 : Nat) ≠ 12 by decide)]])) ?_
                refine lv_iload_n hx hb d_Mod_free_105 rfl (lv_at hl 2 rfl) ?_
                refine lv_icmp_ne (tgt := 113) hx hb d_Mod_free_106 (by decide) (fun hc8 => ?_) (fun hc8 => ?_)
                · skip
                  have hc8 : ¬ (m9 21 s9) = (nI pg) := hc8
                  refine lv_aload_n hx hb d_Mod_free_113 rfl (lv_at hl 0 rfl) ?_
                  refine zr_getr (ci := 6) (C := R_Mod) (T := T_Mod) (N := 37) (ref := "ScrubbedRecorderModel") hx hb hts (fun w h => List.mem_cons_of_mem _ (zin_Mod w h)) hown hK hH hm.1.1 (by decide) rfl 16 (by decide) rfl (hw zw_615) (fun _ h9 => h9) d_Mod_free_114 (by rw [r16]) ?_
                  refine lv_iload_n hx hb d_Mod_free_117 rfl (lv_at hl 3 rfl) ?_
                  refine zr_aldi (j := s9) hx hb hK hH k16 (by rw [n16]; exact zh_ix_n (by omega) (by omega)) d_Mod_free_118 ?_
                  refine zt_i (y := m9 16 s9) ((congrFun (hm.2.1 16 (by decide) (by decide) (by decide)) s9).trans (by rw [va_up_self, zo_map_at _ _ _])) ?_
                  refine zr_asti (j := s9) (y := m9 16 s9) hx hb hK hH hS k16 rfl (by rw [n16]; exact zh_ix_n (by omega) (by omega)) d_Mod_free_119 (fun H locs hH hS => ?_)
                  have hm := zoR_I hm 16 (by decide) s9 (m9 16 s9)
                  generalize zu I_77 (ad 16) s9 (m9 16 s9) = I9 at hm hH
                  refine lv_iinc (k := 3) (v := nI (s9 + 1)) (lv' := [(3, .int (nI (s9 + 1))), (0, .ref X), (1, .int (nI k)), (2, .int (nI pg))]) hx hb d_Mod_free_120 hl rfl (nI_add s9 1) (by decide) rfl (fun ls hl => ?_)
                  refine lv_goto (tgt := 77) hx hb d_Mod_free_123 (by decide) ?_
                  have hm : zoR X ad (zu (va_up (zu (va_up (zu m9 12 k (nI (cl - 1))) 14 (zo_sh (m9 14) (40 * k) (cl - 1))) 15 pg (nI 0)) 16 (zo_map (m9 16) (zo_rm m9 k pg) s9)) 16 s9 (zo_rm m9 k pg s9)) (zb_wr 0 pg 0 q9) kd ln I9 L_77 R := by rw [zo_rm, if_pos hc6, if_neg hc8]; exact hm
                  rw [zo_map_s] at hm
                  exact ih_77 (s9 + 1) _ _ _ _ _ (by omega) (by omega) hm (lv_sub hl [1, 2, 3, 0] rfl) hH hS
                · skip
                  have hc8 : (m9 21 s9) = (nI pg) := hc8
                  refine lv_iconst (v := (-1)) hx hb d_Mod_free_109 (by decide) ?_
                  refine lv_goto (tgt := 119) hx hb d_Mod_free_110 (by decide) ?_
                  refine zr_asti (j := s9) (y := (-1)) hx hb hK hH hS k16 rfl (by rw [n16]; exact zh_ix_n (by omega) (by omega)) d_Mod_free_119 (fun H locs hH hS => ?_)
                  have hm := zoR_I hm 16 (by decide) s9 (-1)
                  generalize zu I_77 (ad 16) s9 (-1) = I10 at hm hH
                  refine lv_iinc (k := 3) (v := nI (s9 + 1)) (lv' := [(3, .int (nI (s9 + 1))), (0, .ref X), (1, .int (nI k)), (2, .int (nI pg))]) hx hb d_Mod_free_120 hl rfl (nI_add s9 1) (by decide) rfl (fun ls hl => ?_)
                  refine lv_goto (tgt := 77) hx hb d_Mod_free_123 (by decide) ?_
                  have hm : zoR X ad (zu (va_up (zu (va_up (zu m9 12 k (nI (cl - 1))) 14 (zo_sh (m9 14) (40 * k) (cl - 1))) 15 pg (nI 0)) 16 (zo_map (m9 16) (zo_rm m9 k pg) s9)) 16 s9 (zo_rm m9 k pg s9)) (zb_wr 0 pg 0 q9) kd ln I10 L_77 R := by rw [zo_rm, if_pos hc6, if_pos hc8]; exact hm
                  rw [zo_map_s] at hm
                  exact ih_77 (s9 + 1) _ _ _ _ _ (by omega) (by omega) hm (lv_sub hl [1, 2, 3, 0] rfl) hH hS
        have emp := zo_map_0 (zu (va_up (zu m9 12 k (nI (cl - 1))) 14 (zo_sh (m9 14) (40 * k) (cl - 1))) 15 pg (nI 0)) 16 (zo_rm m9 k pg)
        rw [show (zu (va_up (zu m9 12 k (nI (cl - 1))) 14 (zo_sh (m9 14) (40 * k) (cl - 1))) 15 pg (nI 0)) 16 = m9 16 by rw [zu_ne _ _ _ (show (16 : Nat) ≠ 15 by decide), va_up_ne _ _ (show (16 : Nat) ≠ 14 by decide), zu_ne _ _ _ (show (16 : Nat) ≠ 12 by decide)]] at emp
        rw [← emp] at hm
        exact loop_77 _ 0 _ _ _ _ _ (Nat.lt_succ_self _) (by omega) hm (lv_sub hl [1, 2, 3, 0] rfl) hH hS
      · skip
        have hc2 := zt_geF (a := i) (b := (cl - 1)) (by omega) (by omega) hc2
        refine lv_aload_n hx hb d_Mod_free_32 rfl (lv_at hl 0 rfl) ?_
        refine zr_getr (ci := 6) (C := R_Mod) (T := T_Mod) (N := 37) (ref := "ScrubbedRecorderModel") hx hb hts (fun w h => List.mem_cons_of_mem _ (zin_Mod w h)) hown hK hH hm.1.1 (by decide) rfl 14 (by decide) rfl (hw zw_613) (fun _ h9 => h9) d_Mod_free_33 (by rw [r14]) ?_
        refine lv_bipush (v := nI 40) hx hb d_Mod_free_36 (by decide) ?_
        refine lv_iload_n hx hb d_Mod_free_38 rfl (lv_at hl 1 rfl) ?_
        refine lv_imul hx hb d_Mod_free_39 ?_
        refine zt_i (y := nI (40 * k)) (pk_mul 40 k) ?_
        refine lv_iload_n hx hb d_Mod_free_40 rfl (lv_at hl 3 rfl) ?_
        refine lv_iadd hx hb d_Mod_free_41 ?_
        refine zt_i (y := nI (40 * k + i)) (nI_add (40 * k) i) ?_
        refine lv_aload_n hx hb d_Mod_free_42 rfl (lv_at hl 0 rfl) ?_
        refine zr_getr (ci := 6) (C := R_Mod) (T := T_Mod) (N := 37) (ref := "ScrubbedRecorderModel") hx hb hts (fun w h => List.mem_cons_of_mem _ (zin_Mod w h)) hown hK hH hm.1.1 (by decide) rfl 14 (by decide) rfl (hw zw_613) (fun _ h9 => h9) d_Mod_free_43 (by rw [r14]) ?_
        refine lv_bipush (v := nI 40) hx hb d_Mod_free_46 (by decide) ?_
        refine lv_iload_n hx hb d_Mod_free_48 rfl (lv_at hl 1 rfl) ?_
        refine lv_imul hx hb d_Mod_free_49 ?_
        refine zt_i (y := nI (40 * k)) (pk_mul 40 k) ?_
        refine lv_iload_n hx hb d_Mod_free_50 rfl (lv_at hl 3 rfl) ?_
        refine lv_iadd hx hb d_Mod_free_51 ?_
        refine zt_i (y := nI (40 * k + i)) (nI_add (40 * k) i) ?_
        refine lv_iconst (v := nI 1) hx hb d_Mod_free_52 (by decide) ?_
        refine lv_iadd hx hb d_Mod_free_53 ?_
        refine zt_i (y := nI (40 * k + i + 1)) (nI_add (40 * k + i) 1) ?_
        refine zr_aldi (j := 40 * k + i + 1) hx hb hK hH k14 (by rw [n14]; exact zh_ix_n (by omega) (by omega)) d_Mod_free_54 ?_
        refine zt_i (y := m9 14 (40 * k + i + 1)) ((congrFun (hm.2.1 14 (by decide) (by decide) (by decide)) (40 * k + i + 1)).trans (by rw [va_up_self, zo_sh_at _ _ _])) ?_
        refine zr_asti (j := 40 * k + i) (y := m9 14 (40 * k + i + 1)) hx hb hK hH hS k14 rfl (by rw [n14]; exact zh_ix_n (by omega) (by omega)) d_Mod_free_55 (fun H locs hH hS => ?_)
        have hm := zoR_I hm 14 (by decide) (40 * k + i) (m9 14 (40 * k + i + 1))
        generalize zu I_22 (ad 14) (40 * k + i) (m9 14 (40 * k + i + 1)) = I11 at hm hH
        refine lv_iinc (k := 3) (v := nI (i + 1)) (lv' := [(3, .int (nI (i + 1))), (0, .ref X), (1, .int (nI k)), (2, .int (nI pg))]) hx hb d_Mod_free_56 hl rfl (nI_add i 1) (by decide) rfl (fun ls hl => ?_)
        refine lv_goto (tgt := 22) hx hb d_Mod_free_59 (by decide) ?_
        rw [show 40 * k + i + 1 = 40 * k + i + 1 from rfl, zo_sh_s] at hm
        exact ih_22 (i + 1) _ _ _ _ _ (by omega) (by omega) hm (lv_sub hl [1, 2, 3, 0] rfl) hH hS
  have esh := zo_sh_0 (zu m9 12 k (nI (cl - 1))) 14 (40 * k)
  rw [zu_ne _ _ _ (show (14 : Nat) ≠ 12 by decide)] at esh
  rw [← esh] at hm
  exact loop_22 _ 0 _ _ _ _ _ (Nat.lt_succ_self _) (by omega) hm (lv_sub hl [2, 3, 1, 0] rfl) hH hS
