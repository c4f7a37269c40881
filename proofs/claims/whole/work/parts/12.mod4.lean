theorem zo_fd_of {m9 : Nat → Nat → Int32} {x y : Int32} : ∀ n, n ≤ 280 → ¬ zo_fd m9 x y n < nI 0 → ∃ s, s < n ∧ zo_fd m9 x y n = nI s ∧ m9 16 s = x ∧ m9 17 s = y
  | 0, _, h => absurd (show (-1 : Int32) < nI 0 by decide) h
  | n + 1, hn, h => by
    have ih := zo_fd_of (m9 := m9) (x := x) (y := y) n (by omega)
    rw [zo_fd] at h ⊢
    by_cases h1 : m9 16 n = x
    · rw [if_pos h1] at h ⊢
      by_cases h2 : x < nI 0
      · rw [if_pos h2] at h ⊢
        obtain ⟨s, a, b⟩ := ih h
        exact ⟨s, by omega, b⟩
      · rw [if_neg h2] at h ⊢
        by_cases h3 : m9 17 n = y
        · rw [if_pos h3]
          exact ⟨n, by omega, rfl, h1, h3⟩
        · rw [if_neg h3] at h ⊢
          obtain ⟨s, a, b⟩ := ih h
          exact ⟨s, by omega, b⟩
    · rw [if_neg h1] at h ⊢
      obtain ⟨s, a, b⟩ := ih h
      exact ⟨s, by omega, b⟩
def zo_in (m9 : Nat → Nat → Int32) (s p : Nat) : Int32 := if m9 16 s < nI 0 then nI 0 else if m9 16 s = m9 27 p then (if m9 22 s = nI 0 then (if m9 19 s < m9 28 p then nI 0 else if m9 29 p < m9 19 s then nI 0 else nI 1) else nI 0) else nI 0
def zo_st (f : Nat → Int32) (x : Int32) : Int32 := if x < nI 0 then nI 0 else if nI 3 < x then nI 0 else if f x.toNatClampNeg < nI 0 then nI 0 else nI 1
def zo_stI (m9 : Nat → Nat → Int32) (x : Int32) : Nat → Nat → Int32 := if zo_st (m9 27) x = nI 0 then m9 else zu m9 27 x.toNatClampNeg (-1)
def zo_fp (f : Nat → Int32) : Nat → Nat
  | 0 => 4
  | k + 1 => if f (3 - k) < nI 0 then 3 - k else zo_fp f k
theorem zo_fp_s {f : Nat → Int32} {i : Nat} (h : i < 4) : zo_fp f (4 - i) = if f i < nI 0 then i else zo_fp f (4 - (i + 1)) := by
  obtain ⟨k, hk⟩ : ∃ k, 4 - i = k + 1 := ⟨3 - i, by omega⟩
  have e1 : 4 - (i + 1) = k := by omega
  have e2 : 3 - k = i := by omega
  rw [hk, e1, zo_fp, e2]
def zo_plI (m9 : Nat → Nat → Int32) (p : Nat) (x a b d : Int32) : Nat → Nat → Int32 := zu (zu (zu (zu (zu (zu (zu m9 40 33 (m9 40 33 + nI 1)) 27 p x) 28 p a) 29 p b) 30 p d) 31 p (-1)) 32 p (m9 40 33 + nI 1)
def zo_pl (m9 : Nat → Nat → Int32) (x a b d : Int32) : Int32 × (Nat → Nat → Int32) := if zo_made (m9 7) x = nI 0 then ((-2), m9) else if d < nI 0 then ((-2), m9) else if nI 9 < d then ((-2), m9) else if zo_fp (m9 27) 4 < 4 then (nI (zo_fp (m9 27) 4), zo_plI m9 (zo_fp (m9 27) 4) x a b d) else ((-4), m9)
def zo_gp (m9 : Nat → Nat → Int32) (x y : Int32) : Int32 × (Nat → Nat → Int32) := if x < nI 0 then (nI 0, m9) else if zo_fd m9 x y 280 < nI 0 then (nI 0, m9) else if m9 22 (zo_fd m9 x y 280).toNatClampNeg = nI 0 then (if nI 0 < m9 24 (zo_fd m9 x y 280).toNatClampNeg then (nI 0, m9) else (nI 1, zu (zu m9 40 26 (m9 40 26 + nI 1)) 24 (zo_fd m9 x y 280).toNatClampNeg (m9 40 26 + nI 1))) else (nI 0, m9)
def zo_br (m9 : Nat → Nat → Int32) (s : Nat) : Int32 := if m9 16 s < nI 0 then nI 0 else if m9 22 s = nI 0 then nI 0 else if zo_fd m9 (m9 16 s) (m9 17 s - nI 1) 280 < nI 0 then nI 1 else if m9 22 (zo_fd m9 (m9 16 s) (m9 17 s - nI 1) 280).toNatClampNeg = nI 0 then nI 1 else nI 0
def zo_cp (m9 : Nat → Nat → Int32) : Nat → Int32
  | 0 => nI 6
  | n + 1 => zo_cp m9 n + (if zo_br m9 n = nI 0 then nI 0 else nI 2)
def zo_c5 (m9 : Nat → Nat → Int32) (y : Int32) (s : Nat) : Int32 := if y = nI 5 then (if nI 0 < m9 24 s then nI 1 else nI 0) else nI 0
def zo_ci (m9 : Nat → Nat → Int32) (x y : Int32) (s : Nat) : Int32 := if m9 16 s = x then (if y = nI 0 then nI 1 else if y = nI 1 then (if m9 22 s = nI 0 then zo_c5 m9 y s else nI 1) else zo_c5 m9 y s) else nI 0
def zo_cc (m9 : Nat → Nat → Int32) (x y : Int32) : Nat → Int32
  | 0 => nI 0
  | n + 1 => zo_cc m9 x y n + zo_ci m9 x y n
def zo_cn (m9 : Nat → Nat → Int32) (x y : Int32) : Int32 := if zo_made (m9 7) x = nI 0 then (-2) else if y < nI 0 then (-2) else if nI 5 < y then (-2) else if y = nI 2 then m9 10 x.toNatClampNeg else if y = nI 3 then m9 12 x.toNatClampNeg else if y = nI 4 then m9 11 x.toNatClampNeg else zo_cc m9 x y 280

set_option maxHeartbeats 4000000 in
set_option maxRecDepth 100000 in
/-- isIn -/
theorem c_Mod_isIn {l : Launch} {D : va_G} {cA : Nat → ClassId} {te mi : Nat} {kd ln : Nat → Nat} {I : Nat → Nat → Int32} {L : Nat → Nat → Int64} {R : Nat → Nat → Option Nat} {X : Nat} {ad : Nat → Nat} {m9 : Nat → Nat → Int32} {q9 : Nat → Nat → Int64} (hm : zoR X ad m9 q9 kd ln I L R) {s9 p9 : Nat} (hs9 : s9 < 280) (hp9 : p9 < 4) : zc_M l y_Mod_isIn w_Mod_isIn { frames := 0, cells := 0, slots := 0, locals := 0 } 0 0 D cA te mi ([.ref X, .int (nI s9), .int (nI p9)] : List Value) kd ln I L R (zo_P (some (.int (zo_in m9 s9 p9))) X ad m9 q9 kd ln R) := by
  intro sz
  refine Met.ofW (cc := b_Mod_isIn) (maxL := 3) (ret := (some (.boolean))) (by decide +kernel) rfl ?_
  intro p e s m args below meth c s₁ B hml hv
  obtain ⟨rfl, hsz, hSc, hE, hH⟩ := hv
  have hx := B.exec
  have hb := B.bytes
  have hr := B.returns
  have hts := atoms_spec (ws := w_Mod_isIn) B.pre
  have hw : ∀ {w : Cond}, w ∈ zw → w.before ([.ref X, .int (nI s9), .int (nI p9)] : List Value).toArray s = true := fun h => hts _ (List.mem_cons_of_mem _ h)
  have hown : s.vm.findClass R_Mod = some m.cls := findClass_of_methodNamed B.named
  have hlocks := B.notSynchronized
  subst hsz
  have hK := hSc.1
  have hH : zh_H D cA (zc_A kd s.heap.size) kd ln I L R s.heap := hH.weaken (fun q h _ => Or.inl h)
  generalize hAe : zc_A kd s.heap.size = A at hH hE ⊢
  have hA : ∀ q : Nat, s.heap.size ≤ q → A q := fun q h => by rw [← hAe]; exact Or.inr h
  have hS : va_S A s.heap s.heap [] := va_S.rf
  have hl := lv_entry ([.ref X, .int (nI s9), .int (nI p9)] : List Value) (n := 3) (Nat.le_of_ble_eq_true rfl)
  rw [lg_entry_eq]
  generalize (lg_sl ([.ref X, .int (nI s9), .int (nI p9)] : List Value) ++ List.replicate (3 - (lg_sl ([.ref X, .int (nI s9), .int (nI p9)] : List Value)).length) Slot.unset).toArray = ls at hl ⊢
  have hl : lv_has ls 3 [(0, .ref X), (1, .int (nI s9)), (2, .int (nI p9))] := hl
  have k16 : kd (ad 16) = 100 := (hm.1.2.1 16 (by decide) (by decide)).2.1
  have n16 : ln (ad 16) = 280 := (hm.1.2.1 16 (by decide) (by decide)).2.2
  have r16 : R X 16 = some (ad 16) := (hm.1.2.1 16 (by decide) (by decide)).1
  have k19 : kd (ad 19) = 100 := (hm.1.2.1 19 (by decide) (by decide)).2.1
  have n19 : ln (ad 19) = 280 := (hm.1.2.1 19 (by decide) (by decide)).2.2
  have r19 : R X 19 = some (ad 19) := (hm.1.2.1 19 (by decide) (by decide)).1
  have k22 : kd (ad 22) = 103 := (hm.1.2.1 22 (by decide) (by decide)).2.1
  have n22 : ln (ad 22) = 280 := (hm.1.2.1 22 (by decide) (by decide)).2.2
  have r22 : R X 22 = some (ad 22) := (hm.1.2.1 22 (by decide) (by decide)).1
  have k27 : kd (ad 27) = 100 := (hm.1.2.1 27 (by decide) (by decide)).2.1
  have n27 : ln (ad 27) = 4 := (hm.1.2.1 27 (by decide) (by decide)).2.2
  have r27 : R X 27 = some (ad 27) := (hm.1.2.1 27 (by decide) (by decide)).1
  have k28 : kd (ad 28) = 100 := (hm.1.2.1 28 (by decide) (by decide)).2.1
  have n28 : ln (ad 28) = 4 := (hm.1.2.1 28 (by decide) (by decide)).2.2
  have r28 : R X 28 = some (ad 28) := (hm.1.2.1 28 (by decide) (by decide)).1
  have k29 : kd (ad 29) = 100 := (hm.1.2.1 29 (by decide) (by decide)).2.1
  have n29 : ln (ad 29) = 4 := (hm.1.2.1 29 (by decide) (by decide)).2.2
  have r29 : R X 29 = some (ad 29) := (hm.1.2.1 29 (by decide) (by decide)).1
  refine lv_aload_n hx hb d_Mod_isIn_0 rfl (lv_at hl 0 rfl) ?_
  refine zr_getr (ci := 6) (C := R_Mod) (T := T_Mod) (N := 37) (ref := "ScrubbedRecorderModel") hx hb hts (fun w h => List.mem_cons_of_mem _ (zin_Mod w h)) hown hK hH hm.1.1 (by decide) rfl 16 (by decide) rfl (hw zw_615) (fun _ h9 => h9) d_Mod_isIn_1 (by rw [r16]) ?_
  refine lv_iload_n hx hb d_Mod_isIn_4 rfl (lv_at hl 1 rfl) ?_
  refine zr_aldi (j := s9) hx hb hK hH k16 (by rw [n16]; exact zh_ix_n (by omega) (by omega)) d_Mod_isIn_5 ?_
  refine zt_i (y := m9 16 s9) (congrFun (hm.2.1 16 (by decide) (by decide) (by decide)) s9) ?_
  refine lv_if_lt (tgt := 67) hx hb d_Mod_isIn_6 (by decide) (fun hc1 => ?_) (fun hc1 => ?_)
  · skip
    have hc1 : (m9 16 s9) < (nI 0) := hc1
    refine lv_iconst (v := nI 0) hx hb d_Mod_isIn_67 (by decide) ?_
    refine W.widen (k := 0) (n := 0) (Nat.le_of_ble_eq_true rfl) (Nat.le_of_ble_eq_true rfl) ?_
    subst hAe
    exact W.zret (v := nI 0) hx hb hr (by decide +kernel) (fun t ht hW => zc_end hS hH ht (⟨by rw [zo_in, if_pos hc1], rfl, rfl, rfl, hm⟩)) hS.2.2 d_Mod_isIn_68
  · skip
    have hc1 : ¬ (m9 16 s9) < (nI 0) := hc1
    refine lv_aload_n hx hb d_Mod_isIn_9 rfl (lv_at hl 0 rfl) ?_
    refine zr_getr (ci := 6) (C := R_Mod) (T := T_Mod) (N := 37) (ref := "ScrubbedRecorderModel") hx hb hts (fun w h => List.mem_cons_of_mem _ (zin_Mod w h)) hown hK hH hm.1.1 (by decide) rfl 16 (by decide) rfl (hw zw_615) (fun _ h9 => h9) d_Mod_isIn_10 (by rw [r16]) ?_
    refine lv_iload_n hx hb d_Mod_isIn_13 rfl (lv_at hl 1 rfl) ?_
    refine zr_aldi (j := s9) hx hb hK hH k16 (by rw [n16]; exact zh_ix_n (by omega) (by omega)) d_Mod_isIn_14 ?_
    refine zt_i (y := m9 16 s9) (congrFun (hm.2.1 16 (by decide) (by decide) (by decide)) s9) ?_
    refine lv_aload_n hx hb d_Mod_isIn_15 rfl (lv_at hl 0 rfl) ?_
    refine zr_getr (ci := 6) (C := R_Mod) (T := T_Mod) (N := 37) (ref := "ScrubbedRecorderModel") hx hb hts (fun w h => List.mem_cons_of_mem _ (zin_Mod w h)) hown hK hH hm.1.1 (by decide) rfl 27 (by decide) rfl (hw zw_626) (fun _ h9 => h9) d_Mod_isIn_16 (by rw [r27]) ?_
    refine lv_iload_n hx hb d_Mod_isIn_19 rfl (lv_at hl 2 rfl) ?_
    refine zr_aldi (j := p9) hx hb hK hH k27 (by rw [n27]; exact zh_ix_n (by omega) (by omega)) d_Mod_isIn_20 ?_
    refine zt_i (y := m9 27 p9) (congrFun (hm.2.1 27 (by decide) (by decide) (by decide)) p9) ?_
    refine lv_icmp_ne (tgt := 67) hx hb d_Mod_isIn_21 (by decide) (fun hc2 => ?_) (fun hc2 => ?_)
    · skip
      have hc2 : ¬ (m9 16 s9) = (m9 27 p9) := hc2
      refine lv_iconst (v := nI 0) hx hb d_Mod_isIn_67 (by decide) ?_
      refine W.widen (k := 0) (n := 0) (Nat.le_of_ble_eq_true rfl) (Nat.le_of_ble_eq_true rfl) ?_
      subst hAe
      exact W.zret (v := nI 0) hx hb hr (by decide +kernel) (fun t ht hW => zc_end hS hH ht (⟨by rw [zo_in, if_neg hc1, if_neg hc2], rfl, rfl, rfl, hm⟩)) hS.2.2 d_Mod_isIn_68
    · skip
      have hc2 : (m9 16 s9) = (m9 27 p9) := hc2
      refine lv_aload_n hx hb d_Mod_isIn_24 rfl (lv_at hl 0 rfl) ?_
      refine zr_getr (ci := 6) (C := R_Mod) (T := T_Mod) (N := 37) (ref := "ScrubbedRecorderModel") hx hb hts (fun w h => List.mem_cons_of_mem _ (zin_Mod w h)) hown hK hH hm.1.1 (by decide) rfl 22 (by decide) rfl (hw zw_621) (fun _ h9 => h9) d_Mod_isIn_25 (by rw [r22]) ?_
      refine lv_iload_n hx hb d_Mod_isIn_28 rfl (lv_at hl 1 rfl) ?_
      refine zr_aldz (j := s9) hx hb hK hH k22 (by rw [n22]; exact zh_ix_n (by omega) (by omega)) d_Mod_isIn_29 ?_
      refine zt_i (y := m9 22 s9) (congrFun (hm.2.1 22 (by decide) (by decide) (by decide)) s9) ?_
      refine lv_if_ne (tgt := 67) hx hb d_Mod_isIn_30 (by decide) (fun hc3 => ?_) (fun hc3 => ?_)
      · skip
        have hc3 : ¬ (m9 22 s9) = (nI 0) := hc3
        refine lv_iconst (v := nI 0) hx hb d_Mod_isIn_67 (by decide) ?_
        refine W.widen (k := 0) (n := 0) (Nat.le_of_ble_eq_true rfl) (Nat.le_of_ble_eq_true rfl) ?_
        subst hAe
        exact W.zret (v := nI 0) hx hb hr (by decide +kernel) (fun t ht hW => zc_end hS hH ht (⟨by rw [zo_in, if_neg hc1, if_pos hc2, if_neg hc3], rfl, rfl, rfl, hm⟩)) hS.2.2 d_Mod_isIn_68
      · skip
        have hc3 : (m9 22 s9) = (nI 0) := hc3
        refine lv_aload_n hx hb d_Mod_isIn_33 rfl (lv_at hl 0 rfl) ?_
        refine zr_getr (ci := 6) (C := R_Mod) (T := T_Mod) (N := 37) (ref := "ScrubbedRecorderModel") hx hb hts (fun w h => List.mem_cons_of_mem _ (zin_Mod w h)) hown hK hH hm.1.1 (by decide) rfl 19 (by decide) rfl (hw zw_618) (fun _ h9 => h9) d_Mod_isIn_34 (by rw [r19]) ?_
        refine lv_iload_n hx hb d_Mod_isIn_37 rfl (lv_at hl 1 rfl) ?_
        refine zr_aldi (j := s9) hx hb hK hH k19 (by rw [n19]; exact zh_ix_n (by omega) (by omega)) d_Mod_isIn_38 ?_
        refine zt_i (y := m9 19 s9) (congrFun (hm.2.1 19 (by decide) (by decide) (by decide)) s9) ?_
        refine lv_aload_n hx hb d_Mod_isIn_39 rfl (lv_at hl 0 rfl) ?_
        refine zr_getr (ci := 6) (C := R_Mod) (T := T_Mod) (N := 37) (ref := "ScrubbedRecorderModel") hx hb hts (fun w h => List.mem_cons_of_mem _ (zin_Mod w h)) hown hK hH hm.1.1 (by decide) rfl 28 (by decide) rfl (hw zw_627) (fun _ h9 => h9) d_Mod_isIn_40 (by rw [r28]) ?_
        refine lv_iload_n hx hb d_Mod_isIn_43 rfl (lv_at hl 2 rfl) ?_
        refine zr_aldi (j := p9) hx hb hK hH k28 (by rw [n28]; exact zh_ix_n (by omega) (by omega)) d_Mod_isIn_44 ?_
        refine zt_i (y := m9 28 p9) (congrFun (hm.2.1 28 (by decide) (by decide) (by decide)) p9) ?_
        refine lv_icmp_lt (tgt := 67) hx hb d_Mod_isIn_45 (by decide) (fun hc4 => ?_) (fun hc4 => ?_)
        · skip
          have hc4 : (m9 19 s9) < (m9 28 p9) := hc4
          refine lv_iconst (v := nI 0) hx hb d_Mod_isIn_67 (by decide) ?_
          refine W.widen (k := 0) (n := 0) (Nat.le_of_ble_eq_true rfl) (Nat.le_of_ble_eq_true rfl) ?_
          subst hAe
          exact W.zret (v := nI 0) hx hb hr (by decide +kernel) (fun t ht hW => zc_end hS hH ht (⟨by rw [zo_in, if_neg hc1, if_pos hc2, if_pos hc3, if_pos hc4], rfl, rfl, rfl, hm⟩)) hS.2.2 d_Mod_isIn_68
        · skip
          have hc4 : ¬ (m9 19 s9) < (m9 28 p9) := hc4
          refine lv_aload_n hx hb d_Mod_isIn_48 rfl (lv_at hl 0 rfl) ?_
          refine zr_getr (ci := 6) (C := R_Mod) (T := T_Mod) (N := 37) (ref := "ScrubbedRecorderModel") hx hb hts (fun w h => List.mem_cons_of_mem _ (zin_Mod w h)) hown hK hH hm.1.1 (by decide) rfl 19 (by decide) rfl (hw zw_618) (fun _ h9 => h9) d_Mod_isIn_49 (by rw [r19]) ?_
          refine lv_iload_n hx hb d_Mod_isIn_52 rfl (lv_at hl 1 rfl) ?_
          refine zr_aldi (j := s9) hx hb hK hH k19 (by rw [n19]; exact zh_ix_n (by omega) (by omega)) d_Mod_isIn_53 ?_
          refine zt_i (y := m9 19 s9) (congrFun (hm.2.1 19 (by decide) (by decide) (by decide)) s9) ?_
          refine lv_aload_n hx hb d_Mod_isIn_54 rfl (lv_at hl 0 rfl) ?_
          refine zr_getr (ci := 6) (C := R_Mod) (T := T_Mod) (N := 37) (ref := "ScrubbedRecorderModel") hx hb hts (fun w h => List.mem_cons_of_mem _ (zin_Mod w h)) hown hK hH hm.1.1 (by decide) rfl 29 (by decide) rfl (hw zw_628) (fun _ h9 => h9) d_Mod_isIn_55 (by rw [r29]) ?_
          refine lv_iload_n hx hb d_Mod_isIn_58 rfl (lv_at hl 2 rfl) ?_
          refine zr_aldi (j := p9) hx hb hK hH k29 (by rw [n29]; exact zh_ix_n (by omega) (by omega)) d_Mod_isIn_59 ?_
          refine zt_i (y := m9 29 p9) (congrFun (hm.2.1 29 (by decide) (by decide) (by decide)) p9) ?_
          refine lv_icmp_gt (tgt := 67) hx hb d_Mod_isIn_60 (by decide) (fun hc5 => ?_) (fun hc5 => ?_)
          · skip
            have hc5 : (m9 29 p9) < (m9 19 s9) := hc5
            refine lv_iconst (v := nI 0) hx hb d_Mod_isIn_67 (by decide) ?_
            refine W.widen (k := 0) (n := 0) (Nat.le_of_ble_eq_true rfl) (Nat.le_of_ble_eq_true rfl) ?_
            subst hAe
            exact W.zret (v := nI 0) hx hb hr (by decide +kernel) (fun t ht hW => zc_end hS hH ht (⟨by rw [zo_in, if_neg hc1, if_pos hc2, if_pos hc3, if_neg hc4, if_pos hc5], rfl, rfl, rfl, hm⟩)) hS.2.2 d_Mod_isIn_68
          · skip
            have hc5 : ¬ (m9 29 p9) < (m9 19 s9) := hc5
            refine lv_iconst (v := nI 1) hx hb d_Mod_isIn_63 (by decide) ?_
            refine lv_goto (tgt := 68) hx hb d_Mod_isIn_64 (by decide) ?_
            refine W.widen (k := 0) (n := 0) (Nat.le_of_ble_eq_true rfl) (Nat.le_of_ble_eq_true rfl) ?_
            subst hAe
            exact W.zret (v := nI 1) hx hb hr (by decide +kernel) (fun t ht hW => zc_end hS hH ht (⟨by rw [zo_in, if_neg hc1, if_pos hc2, if_pos hc3, if_neg hc4, if_neg hc5], rfl, rfl, rfl, hm⟩)) hS.2.2 d_Mod_isIn_68

set_option maxHeartbeats 4000000 in
set_option maxRecDepth 100000 in
/-- stop -/
theorem c_Mod_stop {l : Launch} {D : va_G} {cA : Nat → ClassId} {te mi : Nat} {kd ln : Nat → Nat} {I : Nat → Nat → Int32} {L : Nat → Nat → Int64} {R : Nat → Nat → Option Nat} {X : Nat} {ad : Nat → Nat} {m9 : Nat → Nat → Int32} {q9 : Nat → Nat → Int64} (hm : zoR X ad m9 q9 kd ln I L R) {x : Int32} : zc_M l y_Mod_stop w_Mod_stop { frames := 0, cells := 0, slots := 0, locals := 0 } 0 0 D cA te mi ([.ref X, .int x] : List Value) kd ln I L R (zo_P (some (.int (zo_st (m9 27) x))) X ad (zo_stI m9 x) q9 kd ln R) := by
  intro sz
  refine Met.ofW (cc := b_Mod_stop) (maxL := 2) (ret := (some (.boolean))) (by decide +kernel) rfl ?_
  intro p e s m args below meth c s₁ B hml hv
  obtain ⟨rfl, hsz, hSc, hE, hH⟩ := hv
  have hx := B.exec
  have hb := B.bytes
  have hr := B.returns
  have hts := atoms_spec (ws := w_Mod_stop) B.pre
  have hw : ∀ {w : Cond}, w ∈ zw → w.before ([.ref X, .int x] : List Value).toArray s = true := fun h => hts _ (List.mem_cons_of_mem _ h)
  have hown : s.vm.findClass R_Mod = some m.cls := findClass_of_methodNamed B.named
  have hlocks := B.notSynchronized
  subst hsz
  have hK := hSc.1
  have hH : zh_H D cA (zc_A kd s.heap.size) kd ln I L R s.heap := hH.weaken (fun q h _ => Or.inl h)
  generalize hAe : zc_A kd s.heap.size = A at hH hE ⊢
  have hA : ∀ q : Nat, s.heap.size ≤ q → A q := fun q h => by rw [← hAe]; exact Or.inr h
  have hS : va_S A s.heap s.heap [] := va_S.rf
  have hl := lv_entry ([.ref X, .int x] : List Value) (n := 2) (Nat.le_of_ble_eq_true rfl)
  rw [lg_entry_eq]
  generalize (lg_sl ([.ref X, .int x] : List Value) ++ List.replicate (2 - (lg_sl ([.ref X, .int x] : List Value)).length) Slot.unset).toArray = ls at hl ⊢
  have hl : lv_has ls 2 [(0, .ref X), (1, .int x)] := hl
  have k27 : kd (ad 27) = 100 := (hm.1.2.1 27 (by decide) (by decide)).2.1
  have n27 : ln (ad 27) = 4 := (hm.1.2.1 27 (by decide) (by decide)).2.2
  have r27 : R X 27 = some (ad 27) := (hm.1.2.1 27 (by decide) (by decide)).1
  refine lv_iload_n hx hb d_Mod_stop_0 rfl (lv_at hl 1 rfl) ?_
  refine lv_if_lt (tgt := 18) hx hb d_Mod_stop_1 (by decide) (fun hc1 => ?_) (fun hc1 => ?_)
  · skip
    have hc1 : x < (nI 0) := hc1
    refine lv_iconst (v := nI 0) hx hb d_Mod_stop_18 (by decide) ?_
    have hres : zo_st (m9 27) x = nI 0 := by rw [zo_st, if_pos hc1]
    refine W.widen (k := 0) (n := 0) (Nat.le_of_ble_eq_true rfl) (Nat.le_of_ble_eq_true rfl) ?_
    subst hAe
    exact W.zret (v := nI 0) hx hb hr (by decide +kernel) (fun t ht hW => zc_end hS hH ht (⟨by rw [hres], rfl, rfl, rfl, by rw [zo_stI, if_pos hres]; exact hm⟩)) hS.2.2 d_Mod_stop_19
  · skip
    have hc1 : ¬ x < (nI 0) := hc1
    refine lv_iload_n hx hb d_Mod_stop_4 rfl (lv_at hl 1 rfl) ?_
    refine lv_iconst (v := nI 3) hx hb d_Mod_stop_5 (by decide) ?_
    refine lv_icmp_gt (tgt := 18) hx hb d_Mod_stop_6 (by decide) (fun hc2 => ?_) (fun hc2 => ?_)
    · skip
      have hc2 : (nI 3) < x := hc2
      refine lv_iconst (v := nI 0) hx hb d_Mod_stop_18 (by decide) ?_
      have hres : zo_st (m9 27) x = nI 0 := by rw [zo_st, if_neg hc1, if_pos hc2]
      refine W.widen (k := 0) (n := 0) (Nat.le_of_ble_eq_true rfl) (Nat.le_of_ble_eq_true rfl) ?_
      subst hAe
      exact W.zret (v := nI 0) hx hb hr (by decide +kernel) (fun t ht hW => zc_end hS hH ht (⟨by rw [hres], rfl, rfl, rfl, by rw [zo_stI, if_pos hres]; exact hm⟩)) hS.2.2 d_Mod_stop_19
    · skip
      have hc2 : ¬ (nI 3) < x := hc2
      obtain ⟨j1, hj1, rfl⟩ := zt_ix hc1 (zt_gt hc2 (by decide)) (by decide)
      refine lv_aload_n hx hb d_Mod_stop_9 rfl (lv_at hl 0 rfl) ?_
      refine zr_getr (ci := 6) (C := R_Mod) (T := T_Mod) (N := 37) (ref := "ScrubbedRecorderModel") hx hb hts (fun w h => List.mem_cons_of_mem _ (zin_Mod w h)) hown hK hH hm.1.1 (by decide) rfl 27 (by decide) rfl (hw zw_626) (fun _ h9 => h9) d_Mod_stop_10 (by rw [r27]) ?_
      refine lv_iload_n hx hb d_Mod_stop_13 rfl (lv_at hl 1 rfl) ?_
      refine zr_aldi (j := j1) hx hb hK hH k27 (by rw [n27]; exact zh_ix_n (by omega) (by omega)) d_Mod_stop_14 ?_
      refine zt_i (y := m9 27 j1) (congrFun (hm.2.1 27 (by decide) (by decide) (by decide)) j1) ?_
      refine lv_if_ge (tgt := 20) hx hb d_Mod_stop_15 (by decide) (fun hc3 => ?_) (fun hc3 => ?_)
      · skip
        have hc3 : ¬ (m9 27 j1) < (nI 0) := Int32.not_lt.mpr hc3
        refine lv_aload_n hx hb d_Mod_stop_20 rfl (lv_at hl 0 rfl) ?_
        refine zr_getr (ci := 6) (C := R_Mod) (T := T_Mod) (N := 37) (ref := "ScrubbedRecorderModel") hx hb hts (fun w h => List.mem_cons_of_mem _ (zin_Mod w h)) hown hK hH hm.1.1 (by decide) rfl 27 (by decide) rfl (hw zw_626) (fun _ h9 => h9) d_Mod_stop_21 (by rw [r27]) ?_
        refine lv_iload_n hx hb d_Mod_stop_24 rfl (lv_at hl 1 rfl) ?_
        refine lv_iconst (v := (-1)) hx hb d_Mod_stop_25 (by decide) ?_
        refine zr_asti (j := j1) (y := (-1)) hx hb hK hH hS k27 rfl (by rw [n27]; exact zh_ix_n (by omega) (by omega)) d_Mod_stop_26 (fun H locs hH hS => ?_)
        have hm := zoR_I hm 27 (by decide) j1 (-1)
        generalize zu I (ad 27) j1 (-1) = I4 at hm hH
        refine lv_iconst (v := nI 1) hx hb d_Mod_stop_27 (by decide) ?_
        have hres : zo_st (m9 27) (nI j1) = nI 1 := by rw [zo_st, if_neg hc1, if_neg hc2, nI_clamp (by omega), if_neg hc3]
        refine W.widen (k := 0) (n := 0) (Nat.le_of_ble_eq_true rfl) (Nat.le_of_ble_eq_true rfl) ?_
        subst hAe
        exact W.zret (v := nI 1) hx hb hr (by decide +kernel) (fun t ht hW => zc_end hS hH ht (⟨by rw [hres], rfl, rfl, rfl, by rw [zo_stI, if_neg (by rw [hres]; decide), nI_clamp (by omega)]; exact hm⟩)) hS.2.2 d_Mod_stop_28
      · skip
        have hc3 : (m9 27 j1) < (nI 0) := Int32.not_le.mp hc3
        refine lv_iconst (v := nI 0) hx hb d_Mod_stop_18 (by decide) ?_
        have hres : zo_st (m9 27) (nI j1) = nI 0 := by rw [zo_st, if_neg hc1, if_neg hc2, nI_clamp (by omega), if_pos hc3]
        refine W.widen (k := 0) (n := 0) (Nat.le_of_ble_eq_true rfl) (Nat.le_of_ble_eq_true rfl) ?_
        subst hAe
        exact W.zret (v := nI 0) hx hb hr (by decide +kernel) (fun t ht hW => zc_end hS hH ht (⟨by rw [hres], rfl, rfl, rfl, by rw [zo_stI, if_pos hres]; exact hm⟩)) hS.2.2 d_Mod_stop_19

set_option maxHeartbeats 4000000 in
set_option maxRecDepth 100000 in
/-- play -/
theorem c_Mod_play {l : Launch} {D : va_G} {cA : Nat → ClassId} {te mi : Nat} {kd ln : Nat → Nat} {I : Nat → Nat → Int32} {L : Nat → Nat → Int64} {R : Nat → Nat → Option Nat} {X : Nat} {ad : Nat → Nat} {m9 : Nat → Nat → Int32} {q9 : Nat → Nat → Int64} (hm : zoR X ad m9 q9 kd ln I L R) {x a b d : Int32} : zc_M l y_Mod_play w_Mod_play { frames := 1, cells := 0, slots := 0, locals := 21 } 0 0 D cA te mi ([.ref X, .int x, .int a, .int b, .int d] : List Value) kd ln I L R (zo_P (some (.int ((zo_pl m9 x a b d).1))) X ad ((zo_pl m9 x a b d).2) q9 kd ln R) := by
  intro sz
  refine Met.ofW (cc := b_Mod_play) (maxL := 6) (ret := (some (.int))) (by decide +kernel) rfl ?_
  intro p e s m args below meth c s₁ B hml hv
  obtain ⟨rfl, hsz, hSc, hE, hH⟩ := hv
  have hx := B.exec
  have hb := B.bytes
  have hr := B.returns
  have hts := atoms_spec (ws := w_Mod_play) B.pre
  have hw : ∀ {w : Cond}, w ∈ zw → w.before ([.ref X, .int x, .int a, .int b, .int d] : List Value).toArray s = true := fun h => hts _ (List.mem_cons_of_mem _ h)
  have hown : s.vm.findClass R_Mod = some m.cls := findClass_of_methodNamed B.named
  have hlocks := B.notSynchronized
  subst hsz
  have hK := hSc.1
  have hH : zh_H D cA (zc_A kd s.heap.size) kd ln I L R s.heap := hH.weaken (fun q h _ => Or.inl h)
  generalize hAe : zc_A kd s.heap.size = A at hH hE ⊢
  have hA : ∀ q : Nat, s.heap.size ≤ q → A q := fun q h => by rw [← hAe]; exact Or.inr h
  have hS : va_S A s.heap s.heap [] := va_S.rf
  have hl := lv_entry ([.ref X, .int x, .int a, .int b, .int d] : List Value) (n := 6) (Nat.le_of_ble_eq_true rfl)
  rw [lg_entry_eq]
  generalize (lg_sl ([.ref X, .int x, .int a, .int b, .int d] : List Value) ++ List.replicate (6 - (lg_sl ([.ref X, .int x, .int a, .int b, .int d] : List Value)).length) Slot.unset).toArray = ls at hl ⊢
  have hl : lv_has ls 6 [(0, .ref X), (1, .int x), (2, .int a), (3, .int b), (4, .int d)] := hl
  have k27 : kd (ad 27) = 100 := (hm.1.2.1 27 (by decide) (by decide)).2.1
  have n27 : ln (ad 27) = 4 := (hm.1.2.1 27 (by decide) (by decide)).2.2
  have r27 : R X 27 = some (ad 27) := (hm.1.2.1 27 (by decide) (by decide)).1
  have k28 : kd (ad 28) = 100 := (hm.1.2.1 28 (by decide) (by decide)).2.1
  have n28 : ln (ad 28) = 4 := (hm.1.2.1 28 (by decide) (by decide)).2.2
  have r28 : R X 28 = some (ad 28) := (hm.1.2.1 28 (by decide) (by decide)).1
  have k29 : kd (ad 29) = 100 := (hm.1.2.1 29 (by decide) (by decide)).2.1
  have n29 : ln (ad 29) = 4 := (hm.1.2.1 29 (by decide) (by decide)).2.2
  have r29 : R X 29 = some (ad 29) := (hm.1.2.1 29 (by decide) (by decide)).1
  have k30 : kd (ad 30) = 100 := (hm.1.2.1 30 (by decide) (by decide)).2.1
  have n30 : ln (ad 30) = 4 := (hm.1.2.1 30 (by decide) (by decide)).2.2
  have r30 : R X 30 = some (ad 30) := (hm.1.2.1 30 (by decide) (by decide)).1
  have k31 : kd (ad 31) = 100 := (hm.1.2.1 31 (by decide) (by decide)).2.1
  have n31 : ln (ad 31) = 4 := (hm.1.2.1 31 (by decide) (by decide)).2.2
  have r31 : R X 31 = some (ad 31) := (hm.1.2.1 31 (by decide) (by decide)).1
  have k32 : kd (ad 32) = 100 := (hm.1.2.1 32 (by decide) (by decide)).2.1
  have n32 : ln (ad 32) = 4 := (hm.1.2.1 32 (by decide) (by decide)).2.2
  have r32 : R X 32 = some (ad 32) := (hm.1.2.1 32 (by decide) (by decide)).1
  refine lv_aload_n hx hb d_Mod_play_0 rfl (lv_at hl 0 rfl) ?_
  refine lv_iload_n hx hb d_Mod_play_1 rfl (lv_at hl 1 rfl) ?_
  refine zr_V (As := ([.int x] : List Value)) (rest := []) (b := X) (ci := 6) (q := (R_Mod, T_Mod, 37)) ⟨hx, hb, hml, hown, hts⟩ (c_Mod_isMade hm ) ⟨(callB_of 1 hts (zg_all zw_757) rfl rfl rfl (hw zw_3) (hw zw_754) k_Mod_isMade.2 ⟨Nat.le_of_ble_eq_true rfl, Nat.le_of_ble_eq_true rfl⟩), (hw zw_756), (hw zs_Mod_isMade)⟩ hSc hE hH hS hA rfl (by decide) hm.1.1 rfl hl.1 rfl (Nat.le_of_ble_eq_true rfl) d_Mod_play_2 ⟨Nat.le_of_ble_eq_true rfl, Nat.le_of_ble_eq_true rfl⟩ (fun v1 kd1 ln1 I1 L1 R1 H locs hp hH hS => ?_)
  obtain ⟨rfl, rfl, rfl, rfl, hm⟩ := hp
  refine W.eq (g2 := F0 m 5 ls [.int (zo_made (m9 7) x)]) rfl ?_
  refine W.widen (k := 0) (n := 0) (by omega) (by omega) ?_
  refine lv_if_eq (tgt := 20) hx hb d_Mod_play_5 (by decide) (fun hc2 => ?_) (fun hc2 => ?_)
  · skip
    have hc2 : (zo_made (m9 7) x) = (nI 0) := hc2
    refine lv_bipush (v := (-2)) hx hb d_Mod_play_20 (by decide) ?_
    have hres : zo_pl m9 x a b d = ((-2), m9) := by rw [zo_pl, if_pos hc2]
    refine W.widen (k := 0) (n := 0) (Nat.le_of_ble_eq_true rfl) (Nat.le_of_ble_eq_true rfl) ?_
    subst hAe
    exact W.iret (v := (-2)) hx hb hr (fun t ht hW => zc_end hS hH ht (⟨by rw [hres], rfl, rfl, rfl, by rw [hres]; exact hm⟩)) hS.2.2 d_Mod_play_22
  · skip
    have hc2 : ¬ (zo_made (m9 7) x) = (nI 0) := hc2
    refine lv_iload hx hb d_Mod_play_8 (lv_at hl 4 rfl) ?_
    refine lv_if_lt (tgt := 20) hx hb d_Mod_play_10 (by decide) (fun hc3 => ?_) (fun hc3 => ?_)
    · skip
      have hc3 : d < (nI 0) := hc3
      refine lv_bipush (v := (-2)) hx hb d_Mod_play_20 (by decide) ?_
      have hres : zo_pl m9 x a b d = ((-2), m9) := by rw [zo_pl, if_neg hc2, if_pos hc3]
      refine W.widen (k := 0) (n := 0) (Nat.le_of_ble_eq_true rfl) (Nat.le_of_ble_eq_true rfl) ?_
      subst hAe
      exact W.iret (v := (-2)) hx hb hr (fun t ht hW => zc_end hS hH ht (⟨by rw [hres], rfl, rfl, rfl, by rw [hres]; exact hm⟩)) hS.2.2 d_Mod_play_22
    · skip
      have hc3 : ¬ d < (nI 0) := hc3
      refine lv_iload hx hb d_Mod_play_13 (lv_at hl 4 rfl) ?_
      refine lv_bipush (v := nI 9) hx hb d_Mod_play_15 (by decide) ?_
      refine lv_icmp_le (tgt := 23) hx hb d_Mod_play_17 (by decide) (fun hc4 => ?_) (fun hc4 => ?_)
      · skip
        have hc4 : ¬ (nI 9) < d := Int32.not_lt.mpr hc4
        refine lv_iconst (v := nI 0) hx hb d_Mod_play_23 (by decide) ?_
        refine lv_istore (lv' := [(5, .int (nI 0)), (0, .ref X), (1, .int x), (2, .int a), (3, .int b), (4, .int d)]) hx hb d_Mod_play_24 hl (by decide) rfl (fun ls hl => ?_)
        have loop_26 : ∀ (z : Nat) (i : Nat) (I_26 : Nat → Nat → Int32) (L_26 : Nat → Nat → Int64) (H : Heap) (locs : List Loc) (ls : Array Slot), 4 - i < z → (i ≤ 4) → (zo_fp (m9 27) (4 - i) = zo_fp (m9 27) 4) → (zoR X ad m9 q9 kd ln I_26 L_26 R) → lv_has ls 6 [(0, .ref X), (1, .int x), (2, .int a), (3, .int b), (4, .int d), (5, .int (nI i))] → zh_H D cA A kd ln I_26 L_26 R H → va_S A s.heap H locs → W p l e (headSpec w_Mod_play { frames := 1, cells := 0, slots := 0, locals := 21 }).room s m ([.ref X, .int x, .int a, .int b, .int d] : List Value).toArray below meth c H locs 0 0 (MQ below (zc_Qc D cA A (zo_P (some (.int ((zo_pl m9 x a b d).1))) X ad ((zo_pl m9 x a b d).2) q9 kd ln R)) ([.ref X, .int x, .int a, .int b, .int d] : List Value).toArray s 0 0 A) (F0 m 26 ls []) := by
          intro z
          induction z with
          | zero => intro i I_26 L_26 H locs ls hz; exact absurd hz (Nat.not_lt_zero _)
          | succ z ih_26 =>
            intro i I_26 L_26 H locs ls hz_26 hi hg hm hl hH hS
            refine lv_iload hx hb d_Mod_play_26 (lv_at hl 5 rfl) ?_
            refine lv_iconst (v := nI 4) hx hb d_Mod_play_28 (by decide) ?_
            refine lv_icmp_ge (tgt := 113) hx hb d_Mod_play_29 (by decide) (fun hc5 => ?_) (fun hc5 => ?_)
            · skip
              have hc5 := zt_geT (a := i) (b := 4) (by omega) (by omega) hc5
              refine lv_bipush (v := (-4)) hx hb d_Mod_play_113 (by decide) ?_
              have hfp : zo_fp (m9 27) 4 = 4 := by rw [← hg, show 4 - i = 0 by omega]; rfl
              have hres : zo_pl m9 x a b d = ((-4), m9) := by rw [zo_pl, if_neg hc2, if_neg hc3, if_neg hc4, hfp, if_neg (by omega)]
              refine W.widen (k := 0) (n := 0) (Nat.le_of_ble_eq_true rfl) (Nat.le_of_ble_eq_true rfl) ?_
              subst hAe
              exact W.iret (v := (-4)) hx hb hr (fun t ht hW => zc_end hS hH ht (⟨by rw [hres], rfl, rfl, rfl, by rw [hres]; exact hm⟩)) hS.2.2 d_Mod_play_115
            · skip
              have hc5 := zt_geF (a := i) (b := 4) (by omega) (by omega) hc5
              refine lv_aload_n hx hb d_Mod_play_32 rfl (lv_at hl 0 rfl) ?_
              refine zr_getr (ci := 6) (C := R_Mod) (T := T_Mod) (N := 37) (ref := "ScrubbedRecorderModel") hx hb hts (fun w h => List.mem_cons_of_mem _ (zin_Mod w h)) hown hK hH hm.1.1 (by decide) rfl 27 (by decide) rfl (hw zw_626) (fun _ h9 => h9) d_Mod_play_33 (by rw [r27]) ?_
              refine lv_iload hx hb d_Mod_play_36 (lv_at hl 5 rfl) ?_
              refine zr_aldi (j := i) hx hb hK hH k27 (by rw [n27]; exact zh_ix_n (by omega) (by omega)) d_Mod_play_38 ?_
              refine zt_i (y := m9 27 i) (congrFun (hm.2.1 27 (by decide) (by decide) (by decide)) i) ?_
              refine lv_if_ge (tgt := 107) hx hb d_Mod_play_39 (by decide) (fun hc6 => ?_) (fun hc6 => ?_)
              · skip
                have hc6 : ¬ (m9 27 i) < (nI 0) := Int32.not_lt.mpr hc6
                refine lv_iinc (k := 5) (v := nI (i + 1)) (lv' := [(5, .int (nI (i + 1))), (0, .ref X), (1, .int x), (2, .int a), (3, .int b), (4, .int d)]) hx hb d_Mod_play_107 hl rfl (nI_add i 1) (by decide) rfl (fun ls hl => ?_)
                refine lv_goto (tgt := 26) hx hb d_Mod_play_110 (by decide) ?_
                exact ih_26 (i + 1) _ _ _ _ _ (by omega) (by omega) (by rw [← hg, zo_fp_s (i := i) (by omega), if_neg hc6]) hm (lv_sub hl [1, 2, 3, 4, 5, 0] rfl) hH hS
              · skip
                have hc6 : (m9 27 i) < (nI 0) := Int32.not_le.mp hc6
                refine lv_aload_n hx hb d_Mod_play_42 rfl (lv_at hl 0 rfl) ?_
                refine lv_dup hx hb d_Mod_play_43 rfl ?_
                refine zr_geti (ci := 6) (C := R_Mod) (T := T_Mod) (N := 37) (ref := "ScrubbedRecorderModel") hx hb hts (fun w h => List.mem_cons_of_mem _ (zin_Mod w h)) hown hK hH hm.1.1 (by decide) rfl 33 (by decide) rfl (hw zw_632) (fun _ h9 => h9) d_Mod_play_44 ?_
                refine zt_i (y := m9 40 33) (congrFun hm.2.2.1 33) ?_
                refine lv_iconst (v := nI 1) hx hb d_Mod_play_47 (by decide) ?_
                refine lv_iadd hx hb d_Mod_play_48 ?_
                refine zr_puti (ref := "ScrubbedRecorderModel") (ci := 6) (C := R_Mod) (T := T_Mod) (N := 37) (x := (m9 40 33) + (nI 1)) (ty := .int) hx hb hts (fun w h => List.mem_cons_of_mem _ (zin_Mod w h)) ty_Mod tyok_Mod nm_Mod hown hK hH hS hm.1.1 (by decide) rfl 33 (by decide) rfl (hw zw_632) (fun _ h9 => h9) rfl (by decide +kernel) rfl rfl d_Mod_play_49 (fun H locs hH hS => ?_)
                have hm := zoR_X hm 33 ((m9 40 33) + (nI 1))
                generalize zu I_26 X 33 ((m9 40 33) + (nI 1)) = I7 at hm hH
                refine lv_aload_n hx hb d_Mod_play_52 rfl (lv_at hl 0 rfl) ?_
                refine zr_getr (ci := 6) (C := R_Mod) (T := T_Mod) (N := 37) (ref := "ScrubbedRecorderModel") hx hb hts (fun w h => List.mem_cons_of_mem _ (zin_Mod w h)) hown hK hH hm.1.1 (by decide) rfl 27 (by decide) rfl (hw zw_626) (fun _ h9 => h9) d_Mod_play_53 (by rw [r27]) ?_
                refine lv_iload hx hb d_Mod_play_56 (lv_at hl 5 rfl) ?_
                refine lv_iload_n hx hb d_Mod_play_58 rfl (lv_at hl 1 rfl) ?_
                refine zr_asti (j := i) (y := x) hx hb hK hH hS k27 rfl (by rw [n27]; exact zh_ix_n (by omega) (by omega)) d_Mod_play_59 (fun H locs hH hS => ?_)
                have hm := zoR_I hm 27 (by decide) i x
                generalize zu I7 (ad 27) i x = I8 at hm hH
                refine lv_aload_n hx hb d_Mod_play_60 rfl (lv_at hl 0 rfl) ?_
                refine zr_getr (ci := 6) (C := R_Mod) (T := T_Mod) (N := 37) (ref := "ScrubbedRecorderModel") hx hb hts (fun w h => List.mem_cons_of_mem _ (zin_Mod w h)) hown hK hH hm.1.1 (by decide) rfl 28 (by decide) rfl (hw zw_627) (fun _ h9 => h9) d_Mod_play_61 (by rw [r28]) ?_
                refine lv_iload hx hb d_Mod_play_64 (lv_at hl 5 rfl) ?_
                refine lv_iload_n hx hb d_Mod_play_66 rfl (lv_at hl 2 rfl) ?_
                refine zr_asti (j := i) (y := a) hx hb hK hH hS k28 rfl (by rw [n28]; exact zh_ix_n (by omega) (by omega)) d_Mod_play_67 (fun H locs hH hS => ?_)
                have hm := zoR_I hm 28 (by decide) i a
                generalize zu I8 (ad 28) i a = I9 at hm hH
                refine lv_aload_n hx hb d_Mod_play_68 rfl (lv_at hl 0 rfl) ?_
                refine zr_getr (ci := 6) (C := R_Mod) (T := T_Mod) (N := 37) (ref := "ScrubbedRecorderModel") hx hb hts (fun w h => List.mem_cons_of_mem _ (zin_Mod w h)) hown hK hH hm.1.1 (by decide) rfl 29 (by decide) rfl (hw zw_628) (fun _ h9 => h9) d_Mod_play_69 (by rw [r29]) ?_
                refine lv_iload hx hb d_Mod_play_72 (lv_at hl 5 rfl) ?_
                refine lv_iload_n hx hb d_Mod_play_74 rfl (lv_at hl 3 rfl) ?_
                refine zr_asti (j := i) (y := b) hx hb hK hH hS k29 rfl (by rw [n29]; exact zh_ix_n (by omega) (by omega)) d_Mod_play_75 (fun H locs hH hS => ?_)
                have hm := zoR_I hm 29 (by decide) i b
                generalize zu I9 (ad 29) i b = I10 at hm hH
                refine lv_aload_n hx hb d_Mod_play_76 rfl (lv_at hl 0 rfl) ?_
                refine zr_getr (ci := 6) (C := R_Mod) (T := T_Mod) (N := 37) (ref := "ScrubbedRecorderModel") hx hb hts (fun w h => List.mem_cons_of_mem _ (zin_Mod w h)) hown hK hH hm.1.1 (by decide) rfl 30 (by decide) rfl (hw zw_629) (fun _ h9 => h9) d_Mod_play_77 (by rw [r30]) ?_
                refine lv_iload hx hb d_Mod_play_80 (lv_at hl 5 rfl) ?_
                refine lv_iload hx hb d_Mod_play_82 (lv_at hl 4 rfl) ?_
                refine zr_asti (j := i) (y := d) hx hb hK hH hS k30 rfl (by rw [n30]; exact zh_ix_n (by omega) (by omega)) d_Mod_play_84 (fun H locs hH hS => ?_)
                have hm := zoR_I hm 30 (by decide) i d
                generalize zu I10 (ad 30) i d = I11 at hm hH
                refine lv_aload_n hx hb d_Mod_play_85 rfl (lv_at hl 0 rfl) ?_
                refine zr_getr (ci := 6) (C := R_Mod) (T := T_Mod) (N := 37) (ref := "ScrubbedRecorderModel") hx hb hts (fun w h => List.mem_cons_of_mem _ (zin_Mod w h)) hown hK hH hm.1.1 (by decide) rfl 31 (by decide) rfl (hw zw_630) (fun _ h9 => h9) d_Mod_play_86 (by rw [r31]) ?_
                refine lv_iload hx hb d_Mod_play_89 (lv_at hl 5 rfl) ?_
                refine lv_iconst (v := (-1)) hx hb d_Mod_play_91 (by decide) ?_
                refine zr_asti (j := i) (y := (-1)) hx hb hK hH hS k31 rfl (by rw [n31]; exact zh_ix_n (by omega) (by omega)) d_Mod_play_92 (fun H locs hH hS => ?_)
                have hm := zoR_I hm 31 (by decide) i (-1)
                generalize zu I11 (ad 31) i (-1) = I12 at hm hH
                refine lv_aload_n hx hb d_Mod_play_93 rfl (lv_at hl 0 rfl) ?_
                refine zr_getr (ci := 6) (C := R_Mod) (T := T_Mod) (N := 37) (ref := "ScrubbedRecorderModel") hx hb hts (fun w h => List.mem_cons_of_mem _ (zin_Mod w h)) hown hK hH hm.1.1 (by decide) rfl 32 (by decide) rfl (hw zw_631) (fun _ h9 => h9) d_Mod_play_94 (by rw [r32]) ?_
                refine lv_iload hx hb d_Mod_play_97 (lv_at hl 5 rfl) ?_
                refine lv_aload_n hx hb d_Mod_play_99 rfl (lv_at hl 0 rfl) ?_
                refine zr_geti (ci := 6) (C := R_Mod) (T := T_Mod) (N := 37) (ref := "ScrubbedRecorderModel") hx hb hts (fun w h => List.mem_cons_of_mem _ (zin_Mod w h)) hown hK hH hm.1.1 (by decide) rfl 33 (by decide) rfl (hw zw_632) (fun _ h9 => h9) d_Mod_play_100 ?_
                refine zt_i (y := (m9 40 33) + (nI 1)) ((congrFun hm.2.2.1 33).trans (by rw [zu_ne _ _ _ (show (40 : Nat) ≠ 31 by decide), zu_ne _ _ _ (show (40 : Nat) ≠ 30 by decide), zu_ne _ _ _ (show (40 : Nat) ≠ 29 by decide), zu_ne _ _ _ (show (40 : Nat) ≠ 28 by decide), zu_ne _ _ _ (show (40 : Nat) ≠ 27 by decide), zu_self])) ?_
                refine zr_asti (j := i) (y := (m9 40 33) + (nI 1)) hx hb hK hH hS k32 rfl (by rw [n32]; exact zh_ix_n (by omega) (by omega)) d_Mod_play_103 (fun H locs hH hS => ?_)
                have hm := zoR_I hm 32 (by decide) i ((m9 40 33) + (nI 1))
                generalize zu I12 (ad 32) i ((m9 40 33) + (nI 1)) = I13 at hm hH
                refine lv_iload hx hb d_Mod_play_104 (lv_at hl 5 rfl) ?_
                have hfp : zo_fp (m9 27) 4 = i := by rw [← hg, zo_fp_s (i := i) (by omega), if_pos hc6]
                have hres : zo_pl m9 x a b d = (nI i, zo_plI m9 i x a b d) := by rw [zo_pl, if_neg hc2, if_neg hc3, if_neg hc4, hfp, if_pos (by omega)]
                refine W.widen (k := 0) (n := 0) (Nat.le_of_ble_eq_true rfl) (Nat.le_of_ble_eq_true rfl) ?_
                subst hAe
                exact W.iret (v := nI i) hx hb hr (fun t ht hW => zc_end hS hH ht (⟨by rw [hres], rfl, rfl, rfl, by rw [hres]; exact hm⟩)) hS.2.2 d_Mod_play_106
        exact loop_26 _ 0 _ _ _ _ _ (Nat.lt_succ_self _) (by omega) rfl hm (lv_sub hl [1, 2, 3, 4, 5, 0] rfl) hH hS
      · skip
        have hc4 : (nI 9) < d := Int32.not_le.mp hc4
        refine lv_bipush (v := (-2)) hx hb d_Mod_play_20 (by decide) ?_
        have hres : zo_pl m9 x a b d = ((-2), m9) := by rw [zo_pl, if_neg hc2, if_neg hc3, if_pos hc4]
        refine W.widen (k := 0) (n := 0) (Nat.le_of_ble_eq_true rfl) (Nat.le_of_ble_eq_true rfl) ?_
        subst hAe
        exact W.iret (v := (-2)) hx hb hr (fun t ht hW => zc_end hS hH ht (⟨by rw [hres], rfl, rfl, rfl, by rw [hres]; exact hm⟩)) hS.2.2 d_Mod_play_22

set_option maxHeartbeats 4000000 in
set_option maxRecDepth 100000 in
/-- gap -/
theorem c_Mod_gap {l : Launch} {D : va_G} {cA : Nat → ClassId} {te mi : Nat} {kd ln : Nat → Nat} {I : Nat → Nat → Int32} {L : Nat → Nat → Int64} {R : Nat → Nat → Option Nat} {X : Nat} {ad : Nat → Nat} {m9 : Nat → Nat → Int32} {q9 : Nat → Nat → Int64} (hm : zoR X ad m9 q9 kd ln I L R) {x y : Int32} : zc_M l y_Mod_gap w_Mod_gap { frames := 1, cells := 0, slots := 0, locals := 24 } 0 0 D cA te mi ([.ref X, .int x, .int y] : List Value) kd ln I L R (zo_P (some (.int ((zo_gp m9 x y).1))) X ad ((zo_gp m9 x y).2) q9 kd ln R) := by
  intro sz
  refine Met.ofW (cc := b_Mod_gap) (maxL := 4) (ret := (some (.boolean))) (by decide +kernel) rfl ?_
  intro p e s m args below meth c s₁ B hml hv
  obtain ⟨rfl, hsz, hSc, hE, hH⟩ := hv
  have hx := B.exec
  have hb := B.bytes
  have hr := B.returns
  have hts := atoms_spec (ws := w_Mod_gap) B.pre
  have hw : ∀ {w : Cond}, w ∈ zw → w.before ([.ref X, .int x, .int y] : List Value).toArray s = true := fun h => hts _ (List.mem_cons_of_mem _ h)
  have hown : s.vm.findClass R_Mod = some m.cls := findClass_of_methodNamed B.named
  have hlocks := B.notSynchronized
  subst hsz
  have hK := hSc.1
  have hH : zh_H D cA (zc_A kd s.heap.size) kd ln I L R s.heap := hH.weaken (fun q h _ => Or.inl h)
  generalize hAe : zc_A kd s.heap.size = A at hH hE ⊢
  have hA : ∀ q : Nat, s.heap.size ≤ q → A q := fun q h => by rw [← hAe]; exact Or.inr h
  have hS : va_S A s.heap s.heap [] := va_S.rf
  have hl := lv_entry ([.ref X, .int x, .int y] : List Value) (n := 4) (Nat.le_of_ble_eq_true rfl)
  rw [lg_entry_eq]
  generalize (lg_sl ([.ref X, .int x, .int y] : List Value) ++ List.replicate (4 - (lg_sl ([.ref X, .int x, .int y] : List Value)).length) Slot.unset).toArray = ls at hl ⊢
  have hl : lv_has ls 4 [(0, .ref X), (1, .int x), (2, .int y)] := hl
  have k22 : kd (ad 22) = 103 := (hm.1.2.1 22 (by decide) (by decide)).2.1
  have n22 : ln (ad 22) = 280 := (hm.1.2.1 22 (by decide) (by decide)).2.2
  have r22 : R X 22 = some (ad 22) := (hm.1.2.1 22 (by decide) (by decide)).1
  have k24 : kd (ad 24) = 100 := (hm.1.2.1 24 (by decide) (by decide)).2.1
  have n24 : ln (ad 24) = 280 := (hm.1.2.1 24 (by decide) (by decide)).2.2
  have r24 : R X 24 = some (ad 24) := (hm.1.2.1 24 (by decide) (by decide)).1
  refine lv_iload_n hx hb d_Mod_gap_0 rfl (lv_at hl 1 rfl) ?_
  refine lv_if_ge (tgt := 8) hx hb d_Mod_gap_1 (by decide) (fun hc1 => ?_) (fun hc1 => ?_)
  · skip
    have hc1 : ¬ x < (nI 0) := Int32.not_lt.mpr hc1
    refine lv_aload_n hx hb d_Mod_gap_8 rfl (lv_at hl 0 rfl) ?_
    refine lv_iload_n hx hb d_Mod_gap_9 rfl (lv_at hl 1 rfl) ?_
    refine lv_iload_n hx hb d_Mod_gap_10 rfl (lv_at hl 2 rfl) ?_
    refine zr_V (As := ([.int x, .int y] : List Value)) (rest := []) (b := X) (ci := 6) (q := (R_Mod, T_Mod, 37)) ⟨hx, hb, hml, hown, hts⟩ (c_Mod_find hm ) ⟨(callB_of 2 hts (zg_all zw_793) rfl rfl rfl (hw zw_3) (hw zw_790) k_Mod_find.2 ⟨Nat.le_of_ble_eq_true rfl, Nat.le_of_ble_eq_true rfl⟩), (hw zw_792), (hw zs_Mod_find)⟩ hSc hE hH hS hA rfl (by decide) hm.1.1 rfl hl.1 rfl (Nat.le_of_ble_eq_true rfl) d_Mod_gap_11 ⟨Nat.le_of_ble_eq_true rfl, Nat.le_of_ble_eq_true rfl⟩ (fun v2 kd2 ln2 I2 L2 R2 H locs hp hH hS => ?_)
    obtain ⟨rfl, rfl, rfl, rfl, hm⟩ := hp
    refine W.eq (g2 := F0 m 14 ls [.int (zo_fd m9 x y 280)]) rfl ?_
    refine W.widen (k := 0) (n := 0) (by omega) (by omega) ?_
    refine lv_istore_n (lv' := [(3, .int (zo_fd m9 x y 280)), (0, .ref X), (1, .int x), (2, .int y)]) hx hb d_Mod_gap_14 rfl hl (by decide) rfl (fun ls hl => ?_)
    refine lv_iload_n hx hb d_Mod_gap_15 rfl (lv_at hl 0 rfl) ?_
    refine lv_if_lt (tgt := 37) hx hb d_Mod_gap_16 (by decide) (fun hc3 => ?_) (fun hc3 => ?_)
    · skip
      have hc3 : (zo_fd m9 x y 280) < (nI 0) := hc3
      refine lv_iconst (v := nI 0) hx hb d_Mod_gap_37 (by decide) ?_
      have hres : zo_gp m9 x y = (nI 0, m9) := by rw [zo_gp, if_neg hc1, if_pos hc3]
      refine W.widen (k := 0) (n := 0) (Nat.le_of_ble_eq_true rfl) (Nat.le_of_ble_eq_true rfl) ?_
      subst hAe
      exact W.zret (v := nI 0) hx hb hr (by decide +kernel) (fun t ht hW => zc_end hS hH ht (⟨by rw [hres], rfl, rfl, rfl, by rw [hres]; exact hm⟩)) hS.2.2 d_Mod_gap_38
    · skip
      have hc3 : ¬ (zo_fd m9 x y 280) < (nI 0) := hc3
      obtain ⟨s9, hs9, es9, -⟩ := zo_fd_of 280 (by omega) hc3
      have cs9 : (zo_fd m9 x y 280).toNatClampNeg = s9 := by rw [es9]; exact nI_clamp (by omega)
      have hl : lv_has ls 4 [(3, .int (nI s9)), (0, .ref X), (1, .int x), (2, .int y)] := by rw [← es9]; exact hl
      refine lv_aload_n hx hb d_Mod_gap_19 rfl (lv_at hl 1 rfl) ?_
      refine zr_getr (ci := 6) (C := R_Mod) (T := T_Mod) (N := 37) (ref := "ScrubbedRecorderModel") hx hb hts (fun w h => List.mem_cons_of_mem _ (zin_Mod w h)) hown hK hH hm.1.1 (by decide) rfl 22 (by decide) rfl (hw zw_621) (fun _ h9 => h9) d_Mod_gap_20 (by rw [r22]) ?_
      refine lv_iload_n hx hb d_Mod_gap_23 rfl (lv_at hl 0 rfl) ?_
      refine zr_aldz (j := s9) hx hb hK hH k22 (by rw [n22]; exact zh_ix_n (by omega) (by omega)) d_Mod_gap_24 ?_
      refine zt_i (y := m9 22 s9) (congrFun (hm.2.1 22 (by decide) (by decide) (by decide)) s9) ?_
      refine lv_if_ne (tgt := 37) hx hb d_Mod_gap_25 (by decide) (fun hc4 => ?_) (fun hc4 => ?_)
      · skip
        have hc4 : ¬ (m9 22 s9) = (nI 0) := hc4
        refine lv_iconst (v := nI 0) hx hb d_Mod_gap_37 (by decide) ?_
        have hres : zo_gp m9 x y = (nI 0, m9) := by rw [zo_gp, if_neg hc1, if_neg hc3, cs9, if_neg hc4]
        refine W.widen (k := 0) (n := 0) (Nat.le_of_ble_eq_true rfl) (Nat.le_of_ble_eq_true rfl) ?_
        subst hAe
        exact W.zret (v := nI 0) hx hb hr (by decide +kernel) (fun t ht hW => zc_end hS hH ht (⟨by rw [hres], rfl, rfl, rfl, by rw [hres]; exact hm⟩)) hS.2.2 d_Mod_gap_38
      · skip
        have hc4 : (m9 22 s9) = (nI 0) := hc4
        refine lv_aload_n hx hb d_Mod_gap_28 rfl (lv_at hl 1 rfl) ?_
        refine zr_getr (ci := 6) (C := R_Mod) (T := T_Mod) (N := 37) (ref := "ScrubbedRecorderModel") hx hb hts (fun w h => List.mem_cons_of_mem _ (zin_Mod w h)) hown hK hH hm.1.1 (by decide) rfl 24 (by decide) rfl (hw zw_623) (fun _ h9 => h9) d_Mod_gap_29 (by rw [r24]) ?_
        refine lv_iload_n hx hb d_Mod_gap_32 rfl (lv_at hl 0 rfl) ?_
        refine zr_aldi (j := s9) hx hb hK hH k24 (by rw [n24]; exact zh_ix_n (by omega) (by omega)) d_Mod_gap_33 ?_
        refine zt_i (y := m9 24 s9) (congrFun (hm.2.1 24 (by decide) (by decide) (by decide)) s9) ?_
        refine lv_if_le (tgt := 39) hx hb d_Mod_gap_34 (by decide) (fun hc5 => ?_) (fun hc5 => ?_)
        · skip
          have hc5 : ¬ (nI 0) < (m9 24 s9) := Int32.not_lt.mpr hc5
          refine lv_aload_n hx hb d_Mod_gap_39 rfl (lv_at hl 1 rfl) ?_
          refine lv_dup hx hb d_Mod_gap_40 rfl ?_
          refine zr_geti (ci := 6) (C := R_Mod) (T := T_Mod) (N := 37) (ref := "ScrubbedRecorderModel") hx hb hts (fun w h => List.mem_cons_of_mem _ (zin_Mod w h)) hown hK hH hm.1.1 (by decide) rfl 26 (by decide) rfl (hw zw_625) (fun _ h9 => h9) d_Mod_gap_41 ?_
          refine zt_i (y := m9 40 26) (congrFun hm.2.2.1 26) ?_
          refine lv_iconst (v := nI 1) hx hb d_Mod_gap_44 (by decide) ?_
          refine lv_iadd hx hb d_Mod_gap_45 ?_
          refine zr_puti (ref := "ScrubbedRecorderModel") (ci := 6) (C := R_Mod) (T := T_Mod) (N := 37) (x := (m9 40 26) + (nI 1)) (ty := .int) hx hb hts (fun w h => List.mem_cons_of_mem _ (zin_Mod w h)) ty_Mod tyok_Mod nm_Mod hown hK hH hS hm.1.1 (by decide) rfl 26 (by decide) rfl (hw zw_625) (fun _ h9 => h9) rfl (by decide +kernel) rfl rfl d_Mod_gap_46 (fun H locs hH hS => ?_)
          have hm := zoR_X hm 26 ((m9 40 26) + (nI 1))
          generalize zu I2 X 26 ((m9 40 26) + (nI 1)) = I6 at hm hH
          refine lv_aload_n hx hb d_Mod_gap_49 rfl (lv_at hl 1 rfl) ?_
          refine zr_getr (ci := 6) (C := R_Mod) (T := T_Mod) (N := 37) (ref := "ScrubbedRecorderModel") hx hb hts (fun w h => List.mem_cons_of_mem _ (zin_Mod w h)) hown hK hH hm.1.1 (by decide) rfl 24 (by decide) rfl (hw zw_623) (fun _ h9 => h9) d_Mod_gap_50 (by rw [r24]) ?_
          refine lv_iload_n hx hb d_Mod_gap_53 rfl (lv_at hl 0 rfl) ?_
          refine lv_aload_n hx hb d_Mod_gap_54 rfl (lv_at hl 1 rfl) ?_
          refine zr_geti (ci := 6) (C := R_Mod) (T := T_Mod) (N := 37) (ref := "ScrubbedRecorderModel") hx hb hts (fun w h => List.mem_cons_of_mem _ (zin_Mod w h)) hown hK hH hm.1.1 (by decide) rfl 26 (by decide) rfl (hw zw_625) (fun _ h9 => h9) d_Mod_gap_55 ?_
          refine zt_i (y := (m9 40 26) + (nI 1)) ((congrFun hm.2.2.1 26).trans (by rw [zu_self])) ?_
          refine zr_asti (j := s9) (y := (m9 40 26) + (nI 1)) hx hb hK hH hS k24 rfl (by rw [n24]; exact zh_ix_n (by omega) (by omega)) d_Mod_gap_58 (fun H locs hH hS => ?_)
          have hm := zoR_I hm 24 (by decide) s9 ((m9 40 26) + (nI 1))
          generalize zu I6 (ad 24) s9 ((m9 40 26) + (nI 1)) = I7 at hm hH
          refine lv_iconst (v := nI 1) hx hb d_Mod_gap_59 (by decide) ?_
          have hres : zo_gp m9 x y = (nI 1, (zu (zu m9 40 26 ((m9 40 26) + (nI 1))) 24 s9 ((m9 40 26) + (nI 1)))) := by rw [zo_gp, if_neg hc1, if_neg hc3, cs9, if_pos hc4, if_neg hc5]
          refine W.widen (k := 0) (n := 0) (Nat.le_of_ble_eq_true rfl) (Nat.le_of_ble_eq_true rfl) ?_
          subst hAe
          exact W.zret (v := nI 1) hx hb hr (by decide +kernel) (fun t ht hW => zc_end hS hH ht (⟨by rw [hres], rfl, rfl, rfl, by rw [hres]; exact hm⟩)) hS.2.2 d_Mod_gap_60
        · skip
          have hc5 : (nI 0) < (m9 24 s9) := Int32.not_le.mp hc5
          refine lv_iconst (v := nI 0) hx hb d_Mod_gap_37 (by decide) ?_
          have hres : zo_gp m9 x y = (nI 0, m9) := by rw [zo_gp, if_neg hc1, if_neg hc3, cs9, if_pos hc4, if_pos hc5]
          refine W.widen (k := 0) (n := 0) (Nat.le_of_ble_eq_true rfl) (Nat.le_of_ble_eq_true rfl) ?_
          subst hAe
          exact W.zret (v := nI 0) hx hb hr (by decide +kernel) (fun t ht hW => zc_end hS hH ht (⟨by rw [hres], rfl, rfl, rfl, by rw [hres]; exact hm⟩)) hS.2.2 d_Mod_gap_38
  · skip
    have hc1 : x < (nI 0) := Int32.not_le.mp hc1
    refine lv_iconst (v := (-1)) hx hb d_Mod_gap_4 (by decide) ?_
    refine lv_goto (tgt := 14) hx hb d_Mod_gap_5 (by decide) ?_
    refine lv_istore_n (lv' := [(3, .int (-1)), (0, .ref X), (1, .int x), (2, .int y)]) hx hb d_Mod_gap_14 rfl hl (by decide) rfl (fun ls hl => ?_)
    refine lv_iload_n hx hb d_Mod_gap_15 rfl (lv_at hl 0 rfl) ?_
    refine lv_if_lt (tgt := 37) hx hb d_Mod_gap_16 (by decide) (fun hc8 => ?_) (fun hc8 => ?_)
    · skip
      have hc8 : (-1) < (nI 0) := hc8
      refine lv_iconst (v := nI 0) hx hb d_Mod_gap_37 (by decide) ?_
      have hres : zo_gp m9 x y = (nI 0, m9) := by rw [zo_gp, if_pos hc1]
      refine W.widen (k := 0) (n := 0) (Nat.le_of_ble_eq_true rfl) (Nat.le_of_ble_eq_true rfl) ?_
      subst hAe
      exact W.zret (v := nI 0) hx hb hr (by decide +kernel) (fun t ht hW => zc_end hS hH ht (⟨by rw [hres], rfl, rfl, rfl, by rw [hres]; exact hm⟩)) hS.2.2 d_Mod_gap_38
    · skip
      have hc8 : ¬ (-1) < (nI 0) := hc8
      exact absurd hc8 (by decide)

set_option maxHeartbeats 4000000 in
set_option maxRecDepth 100000 in
/-- beginsRun -/
theorem c_Mod_beginsRun {l : Launch} {D : va_G} {cA : Nat → ClassId} {te mi : Nat} {kd ln : Nat → Nat} {I : Nat → Nat → Int32} {L : Nat → Nat → Int64} {R : Nat → Nat → Option Nat} {X : Nat} {ad : Nat → Nat} {m9 : Nat → Nat → Int32} {q9 : Nat → Nat → Int64} (hm : zoR X ad m9 q9 kd ln I L R) {r9 : Nat} (hr9 : r9 < 280) : zc_M l y_Mod_beginsRun w_Mod_beginsRun { frames := 1, cells := 0, slots := 0, locals := 24 } 0 0 D cA te mi ([.ref X, .int (nI r9)] : List Value) kd ln I L R (zo_P (some (.int (zo_br m9 r9))) X ad m9 q9 kd ln R) := by
  intro sz
  refine Met.ofW (cc := b_Mod_beginsRun) (maxL := 3) (ret := (some (.boolean))) (by decide +kernel) rfl ?_
  intro p e s m args below meth c s₁ B hml hv
  obtain ⟨rfl, hsz, hSc, hE, hH⟩ := hv
  have hx := B.exec
  have hb := B.bytes
  have hr := B.returns
  have hts := atoms_spec (ws := w_Mod_beginsRun) B.pre
  have hw : ∀ {w : Cond}, w ∈ zw → w.before ([.ref X, .int (nI r9)] : List Value).toArray s = true := fun h => hts _ (List.mem_cons_of_mem _ h)
  have hown : s.vm.findClass R_Mod = some m.cls := findClass_of_methodNamed B.named
  have hlocks := B.notSynchronized
  subst hsz
  have hK := hSc.1
  have hH : zh_H D cA (zc_A kd s.heap.size) kd ln I L R s.heap := hH.weaken (fun q h _ => Or.inl h)
  generalize hAe : zc_A kd s.heap.size = A at hH hE ⊢
  have hA : ∀ q : Nat, s.heap.size ≤ q → A q := fun q h => by rw [← hAe]; exact Or.inr h
  have hS : va_S A s.heap s.heap [] := va_S.rf
  have hl := lv_entry ([.ref X, .int (nI r9)] : List Value) (n := 3) (Nat.le_of_ble_eq_true rfl)
  rw [lg_entry_eq]
  generalize (lg_sl ([.ref X, .int (nI r9)] : List Value) ++ List.replicate (3 - (lg_sl ([.ref X, .int (nI r9)] : List Value)).length) Slot.unset).toArray = ls at hl ⊢
  have hl : lv_has ls 3 [(0, .ref X), (1, .int (nI r9))] := hl
  have k16 : kd (ad 16) = 100 := (hm.1.2.1 16 (by decide) (by decide)).2.1
  have n16 : ln (ad 16) = 280 := (hm.1.2.1 16 (by decide) (by decide)).2.2
  have r16 : R X 16 = some (ad 16) := (hm.1.2.1 16 (by decide) (by decide)).1
  have k17 : kd (ad 17) = 100 := (hm.1.2.1 17 (by decide) (by decide)).2.1
  have n17 : ln (ad 17) = 280 := (hm.1.2.1 17 (by decide) (by decide)).2.2
  have r17 : R X 17 = some (ad 17) := (hm.1.2.1 17 (by decide) (by decide)).1
  have k22 : kd (ad 22) = 103 := (hm.1.2.1 22 (by decide) (by decide)).2.1
  have n22 : ln (ad 22) = 280 := (hm.1.2.1 22 (by decide) (by decide)).2.2
  have r22 : R X 22 = some (ad 22) := (hm.1.2.1 22 (by decide) (by decide)).1
  refine lv_aload_n hx hb d_Mod_beginsRun_0 rfl (lv_at hl 0 rfl) ?_
  refine zr_getr (ci := 6) (C := R_Mod) (T := T_Mod) (N := 37) (ref := "ScrubbedRecorderModel") hx hb hts (fun w h => List.mem_cons_of_mem _ (zin_Mod w h)) hown hK hH hm.1.1 (by decide) rfl 16 (by decide) rfl (hw zw_615) (fun _ h9 => h9) d_Mod_beginsRun_1 (by rw [r16]) ?_
  refine lv_iload_n hx hb d_Mod_beginsRun_4 rfl (lv_at hl 1 rfl) ?_
  refine zr_aldi (j := r9) hx hb hK hH k16 (by rw [n16]; exact zh_ix_n (by omega) (by omega)) d_Mod_beginsRun_5 ?_
  refine zt_i (y := m9 16 r9) (congrFun (hm.2.1 16 (by decide) (by decide) (by decide)) r9) ?_
  refine lv_if_lt (tgt := 18) hx hb d_Mod_beginsRun_6 (by decide) (fun hc1 => ?_) (fun hc1 => ?_)
  · skip
    have hc1 : (m9 16 r9) < (nI 0) := hc1
    refine lv_iconst (v := nI 0) hx hb d_Mod_beginsRun_18 (by decide) ?_
    refine W.widen (k := 0) (n := 0) (Nat.le_of_ble_eq_true rfl) (Nat.le_of_ble_eq_true rfl) ?_
    subst hAe
    exact W.zret (v := nI 0) hx hb hr (by decide +kernel) (fun t ht hW => zc_end hS hH ht (⟨by rw [zo_br, if_pos hc1], rfl, rfl, rfl, hm⟩)) hS.2.2 d_Mod_beginsRun_19
  · skip
    have hc1 : ¬ (m9 16 r9) < (nI 0) := hc1
    refine lv_aload_n hx hb d_Mod_beginsRun_9 rfl (lv_at hl 0 rfl) ?_
    refine zr_getr (ci := 6) (C := R_Mod) (T := T_Mod) (N := 37) (ref := "ScrubbedRecorderModel") hx hb hts (fun w h => List.mem_cons_of_mem _ (zin_Mod w h)) hown hK hH hm.1.1 (by decide) rfl 22 (by decide) rfl (hw zw_621) (fun _ h9 => h9) d_Mod_beginsRun_10 (by rw [r22]) ?_
    refine lv_iload_n hx hb d_Mod_beginsRun_13 rfl (lv_at hl 1 rfl) ?_
    refine zr_aldz (j := r9) hx hb hK hH k22 (by rw [n22]; exact zh_ix_n (by omega) (by omega)) d_Mod_beginsRun_14 ?_
    refine zt_i (y := m9 22 r9) (congrFun (hm.2.1 22 (by decide) (by decide) (by decide)) r9) ?_
    refine lv_if_ne (tgt := 20) hx hb d_Mod_beginsRun_15 (by decide) (fun hc2 => ?_) (fun hc2 => ?_)
    · skip
      have hc2 : ¬ (m9 22 r9) = (nI 0) := hc2
      refine lv_aload_n hx hb d_Mod_beginsRun_20 rfl (lv_at hl 0 rfl) ?_
      refine lv_aload_n hx hb d_Mod_beginsRun_21 rfl (lv_at hl 0 rfl) ?_
      refine zr_getr (ci := 6) (C := R_Mod) (T := T_Mod) (N := 37) (ref := "ScrubbedRecorderModel") hx hb hts (fun w h => List.mem_cons_of_mem _ (zin_Mod w h)) hown hK hH hm.1.1 (by decide) rfl 16 (by decide) rfl (hw zw_615) (fun _ h9 => h9) d_Mod_beginsRun_22 (by rw [r16]) ?_
      refine lv_iload_n hx hb d_Mod_beginsRun_25 rfl (lv_at hl 1 rfl) ?_
      refine zr_aldi (j := r9) hx hb hK hH k16 (by rw [n16]; exact zh_ix_n (by omega) (by omega)) d_Mod_beginsRun_26 ?_
      refine zt_i (y := m9 16 r9) (congrFun (hm.2.1 16 (by decide) (by decide) (by decide)) r9) ?_
      refine lv_aload_n hx hb d_Mod_beginsRun_27 rfl (lv_at hl 0 rfl) ?_
      refine zr_getr (ci := 6) (C := R_Mod) (T := T_Mod) (N := 37) (ref := "ScrubbedRecorderModel") hx hb hts (fun w h => List.mem_cons_of_mem _ (zin_Mod w h)) hown hK hH hm.1.1 (by decide) rfl 17 (by decide) rfl (hw zw_616) (fun _ h9 => h9) d_Mod_beginsRun_28 (by rw [r17]) ?_
      refine lv_iload_n hx hb d_Mod_beginsRun_31 rfl (lv_at hl 1 rfl) ?_
      refine zr_aldi (j := r9) hx hb hK hH k17 (by rw [n17]; exact zh_ix_n (by omega) (by omega)) d_Mod_beginsRun_32 ?_
      refine zt_i (y := m9 17 r9) (congrFun (hm.2.1 17 (by decide) (by decide) (by decide)) r9) ?_
      refine lv_iconst (v := nI 1) hx hb d_Mod_beginsRun_33 (by decide) ?_
      refine lv_isub hx hb d_Mod_beginsRun_34 ?_
      refine zr_V (As := ([.int (m9 16 r9), .int ((m9 17 r9) - (nI 1))] : List Value)) (rest := []) (b := X) (ci := 6) (q := (R_Mod, T_Mod, 37)) ⟨hx, hb, hml, hown, hts⟩ (c_Mod_find hm ) ⟨(callB_of 2 hts (zg_all zw_793) rfl rfl rfl (hw zw_3) (hw zw_790) k_Mod_find.2 ⟨Nat.le_of_ble_eq_true rfl, Nat.le_of_ble_eq_true rfl⟩), (hw zw_792), (hw zs_Mod_find)⟩ hSc hE hH hS hA rfl (by decide) hm.1.1 rfl hl.1 rfl (Nat.le_of_ble_eq_true rfl) d_Mod_beginsRun_35 ⟨Nat.le_of_ble_eq_true rfl, Nat.le_of_ble_eq_true rfl⟩ (fun v3 kd3 ln3 I3 L3 R3 H locs hp hH hS => ?_)
      obtain ⟨rfl, rfl, rfl, rfl, hm⟩ := hp
      refine W.eq (g2 := F0 m 38 ls [.int (zo_fd m9 (m9 16 r9) ((m9 17 r9) - (nI 1)) 280)]) rfl ?_
      refine W.widen (k := 0) (n := 0) (by omega) (by omega) ?_
      refine lv_istore_n (lv' := [(2, .int (zo_fd m9 (m9 16 r9) ((m9 17 r9) - (nI 1)) 280)), (0, .ref X), (1, .int (nI r9))]) hx hb d_Mod_beginsRun_38 rfl hl (by decide) rfl (fun ls hl => ?_)
      refine lv_iload_n hx hb d_Mod_beginsRun_39 rfl (lv_at hl 0 rfl) ?_
      refine lv_if_lt (tgt := 52) hx hb d_Mod_beginsRun_40 (by decide) (fun hc4 => ?_) (fun hc4 => ?_)
      · skip
        have hc4 : (zo_fd m9 (m9 16 r9) ((m9 17 r9) - (nI 1)) 280) < (nI 0) := hc4
        refine lv_iconst (v := nI 1) hx hb d_Mod_beginsRun_52 (by decide) ?_
        refine lv_goto (tgt := 57) hx hb d_Mod_beginsRun_53 (by decide) ?_
        refine W.widen (k := 0) (n := 0) (Nat.le_of_ble_eq_true rfl) (Nat.le_of_ble_eq_true rfl) ?_
        subst hAe
        exact W.zret (v := nI 1) hx hb hr (by decide +kernel) (fun t ht hW => zc_end hS hH ht (⟨by rw [zo_br, if_neg hc1, if_neg hc2, if_pos hc4], rfl, rfl, rfl, hm⟩)) hS.2.2 d_Mod_beginsRun_57
      · skip
        have hc4 : ¬ (zo_fd m9 (m9 16 r9) ((m9 17 r9) - (nI 1)) 280) < (nI 0) := hc4
        obtain ⟨s9, hs9, es9, -⟩ := zo_fd_of 280 (by omega) hc4
        have cs9 : (zo_fd m9 (m9 16 r9) ((m9 17 r9) - (nI 1)) 280).toNatClampNeg = s9 := by rw [es9]; exact nI_clamp (by omega)
        have hl : lv_has ls 3 [(2, .int (nI s9)), (0, .ref X), (1, .int (nI r9))] := by rw [← es9]; exact hl
        refine lv_aload_n hx hb d_Mod_beginsRun_43 rfl (lv_at hl 1 rfl) ?_
        refine zr_getr (ci := 6) (C := R_Mod) (T := T_Mod) (N := 37) (ref := "ScrubbedRecorderModel") hx hb hts (fun w h => List.mem_cons_of_mem _ (zin_Mod w h)) hown hK hH hm.1.1 (by decide) rfl 22 (by decide) rfl (hw zw_621) (fun _ h9 => h9) d_Mod_beginsRun_44 (by rw [r22]) ?_
        refine lv_iload_n hx hb d_Mod_beginsRun_47 rfl (lv_at hl 0 rfl) ?_
        refine zr_aldz (j := s9) hx hb hK hH k22 (by rw [n22]; exact zh_ix_n (by omega) (by omega)) d_Mod_beginsRun_48 ?_
        refine zt_i (y := m9 22 s9) (congrFun (hm.2.1 22 (by decide) (by decide) (by decide)) s9) ?_
        refine lv_if_ne (tgt := 56) hx hb d_Mod_beginsRun_49 (by decide) (fun hc5 => ?_) (fun hc5 => ?_)
        · skip
          have hc5 : ¬ (m9 22 s9) = (nI 0) := hc5
          refine lv_iconst (v := nI 0) hx hb d_Mod_beginsRun_56 (by decide) ?_
          refine W.widen (k := 0) (n := 0) (Nat.le_of_ble_eq_true rfl) (Nat.le_of_ble_eq_true rfl) ?_
          subst hAe
          exact W.zret (v := nI 0) hx hb hr (by decide +kernel) (fun t ht hW => zc_end hS hH ht (⟨by rw [zo_br, if_neg hc1, if_neg hc2, if_neg hc4, cs9, if_neg hc5], rfl, rfl, rfl, hm⟩)) hS.2.2 d_Mod_beginsRun_57
        · skip
          have hc5 : (m9 22 s9) = (nI 0) := hc5
          refine lv_iconst (v := nI 1) hx hb d_Mod_beginsRun_52 (by decide) ?_
          refine lv_goto (tgt := 57) hx hb d_Mod_beginsRun_53 (by decide) ?_
          refine W.widen (k := 0) (n := 0) (Nat.le_of_ble_eq_true rfl) (Nat.le_of_ble_eq_true rfl) ?_
          subst hAe
          exact W.zret (v := nI 1) hx hb hr (by decide +kernel) (fun t ht hW => zc_end hS hH ht (⟨by rw [zo_br, if_neg hc1, if_neg hc2, if_neg hc4, cs9, if_pos hc5], rfl, rfl, rfl, hm⟩)) hS.2.2 d_Mod_beginsRun_57
    · skip
      have hc2 : (m9 22 r9) = (nI 0) := hc2
      refine lv_iconst (v := nI 0) hx hb d_Mod_beginsRun_18 (by decide) ?_
      refine W.widen (k := 0) (n := 0) (Nat.le_of_ble_eq_true rfl) (Nat.le_of_ble_eq_true rfl) ?_
      subst hAe
      exact W.zret (v := nI 0) hx hb hr (by decide +kernel) (fun t ht hW => zc_end hS hH ht (⟨by rw [zo_br, if_neg hc1, if_pos hc2], rfl, rfl, rfl, hm⟩)) hS.2.2 d_Mod_beginsRun_19

set_option maxHeartbeats 4000000 in
set_option maxRecDepth 100000 in
/-- checkpoint -/
theorem c_Mod_checkpoint {l : Launch} {D : va_G} {cA : Nat → ClassId} {te mi : Nat} {kd ln : Nat → Nat} {I : Nat → Nat → Int32} {L : Nat → Nat → Int64} {R : Nat → Nat → Option Nat} {X : Nat} {ad : Nat → Nat} {m9 : Nat → Nat → Int32} {q9 : Nat → Nat → Int64} (hm : zoR X ad m9 q9 kd ln I L R) {x : Int32} : zc_M l y_Mod_checkpoint w_Mod_checkpoint { frames := 2, cells := 0, slots := 0, locals := 46 } 0 0 D cA te mi ([.ref X, .int x] : List Value) kd ln I L R (zo_P (some (.int (if x < nI 0 then (-2) else zo_cp m9 280))) X ad (if x < nI 0 then m9 else if x < zo_cp m9 280 then m9 else (va_up m9 23 (zo_map (m9 23) (zo_sv m9) 280))) q9 kd ln R) := by
  intro sz
  refine Met.ofW (cc := b_Mod_checkpoint) (maxL := 4) (ret := (some (.int))) (by decide +kernel) rfl ?_
  intro p e s m args below meth c s₁ B hml hv
  obtain ⟨rfl, hsz, hSc, hE, hH⟩ := hv
  have hx := B.exec
  have hb := B.bytes
  have hr := B.returns
  have hts := atoms_spec (ws := w_Mod_checkpoint) B.pre
  have hw : ∀ {w : Cond}, w ∈ zw → w.before ([.ref X, .int x] : List Value).toArray s = true := fun h => hts _ (List.mem_cons_of_mem _ h)
  have hown : s.vm.findClass R_Mod = some m.cls := findClass_of_methodNamed B.named
  have hlocks := B.notSynchronized
  subst hsz
  have hK := hSc.1
  have hH : zh_H D cA (zc_A kd s.heap.size) kd ln I L R s.heap := hH.weaken (fun q h _ => Or.inl h)
  generalize hAe : zc_A kd s.heap.size = A at hH hE ⊢
  have hA : ∀ q : Nat, s.heap.size ≤ q → A q := fun q h => by rw [← hAe]; exact Or.inr h
  have hS : va_S A s.heap s.heap [] := va_S.rf
  have hl := lv_entry ([.ref X, .int x] : List Value) (n := 4) (Nat.le_of_ble_eq_true rfl)
  rw [lg_entry_eq]
  generalize (lg_sl ([.ref X, .int x] : List Value) ++ List.replicate (4 - (lg_sl ([.ref X, .int x] : List Value)).length) Slot.unset).toArray = ls at hl ⊢
  have hl : lv_has ls 4 [(0, .ref X), (1, .int x)] := hl
  refine lv_iload_n hx hb d_Mod_checkpoint_0 rfl (lv_at hl 1 rfl) ?_
  refine lv_if_ge (tgt := 7) hx hb d_Mod_checkpoint_1 (by decide) (fun hc1 => ?_) (fun hc1 => ?_)
  · skip
    have hc1 : ¬ x < (nI 0) := Int32.not_lt.mpr hc1
    refine lv_bipush (v := nI 6) hx hb d_Mod_checkpoint_7 (by decide) ?_
    refine lv_istore_n (lv' := [(2, .int (nI 6)), (0, .ref X), (1, .int x)]) hx hb d_Mod_checkpoint_9 rfl hl (by decide) rfl (fun ls hl => ?_)
    refine lv_iconst (v := nI 0) hx hb d_Mod_checkpoint_10 (by decide) ?_
    refine lv_istore_n (lv' := [(3, .int (nI 0)), (2, .int (nI 6)), (0, .ref X), (1, .int x)]) hx hb d_Mod_checkpoint_11 rfl hl (by decide) rfl (fun ls hl => ?_)
    have loop_12 : ∀ (z : Nat) (i : Nat) (I_12 : Nat → Nat → Int32) (L_12 : Nat → Nat → Int64) (H : Heap) (locs : List Loc) (ls : Array Slot), 280 - i < z → (i ≤ 280) → (zoR X ad m9 q9 kd ln I_12 L_12 R) → lv_has ls 4 [(0, .ref X), (1, .int x), (2, .int (zo_cp m9 i)), (3, .int (nI i))] → zh_H D cA A kd ln I_12 L_12 R H → va_S A s.heap H locs → W p l e (headSpec w_Mod_checkpoint { frames := 2, cells := 0, slots := 0, locals := 46 }).room s m ([.ref X, .int x] : List Value).toArray below meth c H locs 0 0 (MQ below (zc_Qc D cA A (zo_P (some (.int (if x < nI 0 then (-2) else zo_cp m9 280))) X ad (if x < nI 0 then m9 else if x < zo_cp m9 280 then m9 else (va_up m9 23 (zo_map (m9 23) (zo_sv m9) 280))) q9 kd ln R)) ([.ref X, .int x] : List Value).toArray s 0 0 A) (F0 m 12 ls []) := by
      intro z
      induction z with
      | zero => intro i I_12 L_12 H locs ls hz; exact absurd hz (Nat.not_lt_zero _)
      | succ z ih_12 =>
        intro i I_12 L_12 H locs ls hz_12 hi hm hl hH hS
        refine lv_iload_n hx hb d_Mod_checkpoint_12 rfl (lv_at hl 3 rfl) ?_
        refine lv_sipush (v := nI 280) hx hb d_Mod_checkpoint_13 (by decide) ?_
        refine lv_icmp_ge (tgt := 41) hx hb d_Mod_checkpoint_16 (by decide) (fun hc2 => ?_) (fun hc2 => ?_)
        · skip
          have hc2 := zt_geT (a := i) (b := 280) (by omega) (by omega) hc2
          have hi2 : i = 280 := by omega
          rw [hi2] at hl
          refine lv_iload_n hx hb d_Mod_checkpoint_41 rfl (lv_at hl 1 rfl) ?_
          refine lv_iload_n hx hb d_Mod_checkpoint_42 rfl (lv_at hl 2 rfl) ?_
          refine lv_icmp_lt (tgt := 50) hx hb d_Mod_checkpoint_43 (by decide) (fun hc3 => ?_) (fun hc3 => ?_)
          · skip
            have hc3 : x < (zo_cp m9 280) := hc3
            refine lv_iload_n hx hb d_Mod_checkpoint_50 rfl (lv_at hl 2 rfl) ?_
            refine W.widen (k := 0) (n := 0) (Nat.le_of_ble_eq_true rfl) (Nat.le_of_ble_eq_true rfl) ?_
            subst hAe
            exact W.iret (v := zo_cp m9 280) hx hb hr (fun t ht hW => zc_end hS hH ht (⟨by rw [if_neg hc1], rfl, rfl, rfl, by rw [if_neg hc1, if_pos hc3]; exact hm⟩)) hS.2.2 d_Mod_checkpoint_51
          · skip
            have hc3 : ¬ x < (zo_cp m9 280) := hc3
            refine lv_aload_n hx hb d_Mod_checkpoint_46 rfl (lv_at hl 0 rfl) ?_
            refine zr_V (As := ([] : List Value)) (rest := []) (b := X) (ci := 6) (q := (R_Mod, T_Mod, 37)) ⟨hx, hb, hml, hown, hts⟩ (c_Mod_save hm ) ⟨(callB_of 0 hts (zg_all zw_749) rfl rfl rfl (hw zw_3) (hw zw_746) k_Mod_save.2 ⟨Nat.le_of_ble_eq_true rfl, Nat.le_of_ble_eq_true rfl⟩), (hw zw_748), (hw zs_Mod_save)⟩ hSc hE hH hS hA rfl (by decide) hm.1.1 rfl hl.1 rfl (Nat.le_of_ble_eq_true rfl) d_Mod_checkpoint_47 ⟨Nat.le_of_ble_eq_true rfl, Nat.le_of_ble_eq_true rfl⟩ (fun v4 kd4 ln4 I4 L4 R4 H locs hp hH hS => ?_)
            obtain ⟨rfl, rfl, rfl, rfl, hm⟩ := hp
            refine W.eq (g2 := F0 m 50 ls []) rfl ?_
            refine W.widen (k := 0) (n := 0) (by omega) (by omega) ?_
            refine lv_iload_n hx hb d_Mod_checkpoint_50 rfl (lv_at hl 2 rfl) ?_
            refine W.widen (k := 0) (n := 0) (Nat.le_of_ble_eq_true rfl) (Nat.le_of_ble_eq_true rfl) ?_
            subst hAe
            exact W.iret (v := zo_cp m9 280) hx hb hr (fun t ht hW => zc_end hS hH ht (⟨by rw [if_neg hc1], rfl, rfl, rfl, by rw [if_neg hc1, if_neg hc3]; exact hm⟩)) hS.2.2 d_Mod_checkpoint_51
        · skip
          have hc2 := zt_geF (a := i) (b := 280) (by omega) (by omega) hc2
          refine lv_iload_n hx hb d_Mod_checkpoint_19 rfl (lv_at hl 2 rfl) ?_
          refine lv_aload_n hx hb d_Mod_checkpoint_20 rfl (lv_at hl 0 rfl) ?_
          refine lv_iload_n hx hb d_Mod_checkpoint_21 rfl (lv_at hl 3 rfl) ?_
          refine zr_V (As := ([.int (nI i)] : List Value)) (rest := [.int (zo_cp m9 i)]) (b := X) (ci := 6) (q := (R_Mod, T_Mod, 37)) ⟨hx, hb, hml, hown, hts⟩ (c_Mod_beginsRun hm (by omega)) ⟨(callB_of 1 hts (zg_all zw_845) rfl rfl rfl (hw zw_3) (hw zw_842) k_Mod_beginsRun.2 ⟨Nat.le_of_ble_eq_true rfl, Nat.le_of_ble_eq_true rfl⟩), (hw zw_844), (hw zs_Mod_beginsRun)⟩ hSc hE hH hS hA rfl (by decide) hm.1.1 rfl hl.1 rfl (Nat.le_of_ble_eq_true rfl) d_Mod_checkpoint_22 ⟨Nat.le_of_ble_eq_true rfl, Nat.le_of_ble_eq_true rfl⟩ (fun v5 kd5 ln5 I5 L5 R5 H locs hp hH hS => ?_)
          obtain ⟨rfl, rfl, rfl, rfl, hm⟩ := hp
          refine W.eq (g2 := F0 m 25 ls [.int (zo_br m9 i), .int (zo_cp m9 i)]) rfl ?_
          refine W.widen (k := 0) (n := 0) (by omega) (by omega) ?_
          refine lv_if_eq (tgt := 32) hx hb d_Mod_checkpoint_25 (by decide) (fun hc6 => ?_) (fun hc6 => ?_)
          · skip
            have hc6 : (zo_br m9 i) = (nI 0) := hc6
            refine lv_iconst (v := nI 0) hx hb d_Mod_checkpoint_32 (by decide) ?_
            refine lv_iadd hx hb d_Mod_checkpoint_33 ?_
            refine lv_istore_n (lv' := [(2, .int ((zo_cp m9 i) + (nI 0))), (0, .ref X), (1, .int x), (3, .int (nI i))]) hx hb d_Mod_checkpoint_34 rfl hl (by decide) rfl (fun ls hl => ?_)
            refine lv_iinc (k := 3) (v := nI (i + 1)) (lv' := [(3, .int (nI (i + 1))), (2, .int ((zo_cp m9 i) + (nI 0))), (0, .ref X), (1, .int x)]) hx hb d_Mod_checkpoint_35 hl rfl (nI_add i 1) (by decide) rfl (fun ls hl => ?_)
            refine lv_goto (tgt := 12) hx hb d_Mod_checkpoint_38 (by decide) ?_
            have e7 : zo_cp m9 (i + 1) = (zo_cp m9 i) + (nI 0) := by rw [zo_cp, if_pos hc6]
            have hl : lv_has ls 4 [(3, .int (nI (i + 1))), (2, .int (zo_cp m9 (i + 1))), (0, .ref X), (1, .int x)] := by rw [e7]; exact hl
            exact ih_12 (i + 1) _ _ _ _ _ (by omega) (by omega) hm (lv_sub hl [2, 3, 1, 0] rfl) hH hS
          · skip
            have hc6 : ¬ (zo_br m9 i) = (nI 0) := hc6
            refine lv_iconst (v := nI 2) hx hb d_Mod_checkpoint_28 (by decide) ?_
            refine lv_goto (tgt := 33) hx hb d_Mod_checkpoint_29 (by decide) ?_
            refine lv_iadd hx hb d_Mod_checkpoint_33 ?_
            refine lv_istore_n (lv' := [(2, .int ((zo_cp m9 i) + (nI 2))), (0, .ref X), (1, .int x), (3, .int (nI i))]) hx hb d_Mod_checkpoint_34 rfl hl (by decide) rfl (fun ls hl => ?_)
            refine lv_iinc (k := 3) (v := nI (i + 1)) (lv' := [(3, .int (nI (i + 1))), (2, .int ((zo_cp m9 i) + (nI 2))), (0, .ref X), (1, .int x)]) hx hb d_Mod_checkpoint_35 hl rfl (nI_add i 1) (by decide) rfl (fun ls hl => ?_)
            refine lv_goto (tgt := 12) hx hb d_Mod_checkpoint_38 (by decide) ?_
            have e8 : zo_cp m9 (i + 1) = (zo_cp m9 i) + (nI 2) := by rw [zo_cp, if_neg hc6]
            have hl : lv_has ls 4 [(3, .int (nI (i + 1))), (2, .int (zo_cp m9 (i + 1))), (0, .ref X), (1, .int x)] := by rw [e8]; exact hl
            exact ih_12 (i + 1) _ _ _ _ _ (by omega) (by omega) hm (lv_sub hl [2, 3, 1, 0] rfl) hH hS
    exact loop_12 _ 0 _ _ _ _ _ (Nat.lt_succ_self _) (by omega) hm (lv_sub hl [2, 3, 1, 0] rfl) hH hS
  · skip
    have hc1 : x < (nI 0) := Int32.not_le.mp hc1
    refine lv_bipush (v := (-2)) hx hb d_Mod_checkpoint_4 (by decide) ?_
    refine W.widen (k := 0) (n := 0) (Nat.le_of_ble_eq_true rfl) (Nat.le_of_ble_eq_true rfl) ?_
    subst hAe
    exact W.iret (v := (-2)) hx hb hr (fun t ht hW => zc_end hS hH ht (⟨by rw [if_pos hc1], rfl, rfl, rfl, by rw [if_pos hc1]; exact hm⟩)) hS.2.2 d_Mod_checkpoint_6

set_option maxHeartbeats 4000000 in
set_option maxRecDepth 100000 in
/-- count -/
theorem c_Mod_count {l : Launch} {D : va_G} {cA : Nat → ClassId} {te mi : Nat} {kd ln : Nat → Nat} {I : Nat → Nat → Int32} {L : Nat → Nat → Int64} {R : Nat → Nat → Option Nat} {X : Nat} {ad : Nat → Nat} {m9 : Nat → Nat → Int32} {q9 : Nat → Nat → Int64} (hm : zoR X ad m9 q9 kd ln I L R) {x y : Int32} : zc_M l y_Mod_count w_Mod_count { frames := 1, cells := 0, slots := 0, locals := 21 } 0 0 D cA te mi ([.ref X, .int x, .int y] : List Value) kd ln I L R (zo_P (some (.int (zo_cn m9 x y))) X ad m9 q9 kd ln R) := by
  intro sz
  refine Met.ofW (cc := b_Mod_count) (maxL := 6) (ret := (some (.int))) (by decide +kernel) rfl ?_
  intro p e s m args below meth c s₁ B hml hv
  obtain ⟨rfl, hsz, hSc, hE, hH⟩ := hv
  have hx := B.exec
  have hb := B.bytes
  have hr := B.returns
  have hts := atoms_spec (ws := w_Mod_count) B.pre
  have hw : ∀ {w : Cond}, w ∈ zw → w.before ([.ref X, .int x, .int y] : List Value).toArray s = true := fun h => hts _ (List.mem_cons_of_mem _ h)
  have hown : s.vm.findClass R_Mod = some m.cls := findClass_of_methodNamed B.named
  have hlocks := B.notSynchronized
  subst hsz
  have hK := hSc.1
  have hH : zh_H D cA (zc_A kd s.heap.size) kd ln I L R s.heap := hH.weaken (fun q h _ => Or.inl h)
  generalize hAe : zc_A kd s.heap.size = A at hH hE ⊢
  have hA : ∀ q : Nat, s.heap.size ≤ q → A q := fun q h => by rw [← hAe]; exact Or.inr h
  have hS : va_S A s.heap s.heap [] := va_S.rf
  have hl := lv_entry ([.ref X, .int x, .int y] : List Value) (n := 6) (Nat.le_of_ble_eq_true rfl)
  rw [lg_entry_eq]
  generalize (lg_sl ([.ref X, .int x, .int y] : List Value) ++ List.replicate (6 - (lg_sl ([.ref X, .int x, .int y] : List Value)).length) Slot.unset).toArray = ls at hl ⊢
  have hl : lv_has ls 6 [(0, .ref X), (1, .int x), (2, .int y)] := hl
  have k10 : kd (ad 10) = 100 := (hm.1.2.1 10 (by decide) (by decide)).2.1
  have n10 : ln (ad 10) = 4 := (hm.1.2.1 10 (by decide) (by decide)).2.2
  have r10 : R X 10 = some (ad 10) := (hm.1.2.1 10 (by decide) (by decide)).1
  have k11 : kd (ad 11) = 100 := (hm.1.2.1 11 (by decide) (by decide)).2.1
  have n11 : ln (ad 11) = 4 := (hm.1.2.1 11 (by decide) (by decide)).2.2
  have r11 : R X 11 = some (ad 11) := (hm.1.2.1 11 (by decide) (by decide)).1
  have k12 : kd (ad 12) = 100 := (hm.1.2.1 12 (by decide) (by decide)).2.1
  have n12 : ln (ad 12) = 4 := (hm.1.2.1 12 (by decide) (by decide)).2.2
  have r12 : R X 12 = some (ad 12) := (hm.1.2.1 12 (by decide) (by decide)).1
  have k16 : kd (ad 16) = 100 := (hm.1.2.1 16 (by decide) (by decide)).2.1
  have n16 : ln (ad 16) = 280 := (hm.1.2.1 16 (by decide) (by decide)).2.2
  have r16 : R X 16 = some (ad 16) := (hm.1.2.1 16 (by decide) (by decide)).1
  have k22 : kd (ad 22) = 103 := (hm.1.2.1 22 (by decide) (by decide)).2.1
  have n22 : ln (ad 22) = 280 := (hm.1.2.1 22 (by decide) (by decide)).2.2
  have r22 : R X 22 = some (ad 22) := (hm.1.2.1 22 (by decide) (by decide)).1
  have k24 : kd (ad 24) = 100 := (hm.1.2.1 24 (by decide) (by decide)).2.1
  have n24 : ln (ad 24) = 280 := (hm.1.2.1 24 (by decide) (by decide)).2.2
  have r24 : R X 24 = some (ad 24) := (hm.1.2.1 24 (by decide) (by decide)).1
  refine lv_aload_n hx hb d_Mod_count_0 rfl (lv_at hl 0 rfl) ?_
  refine lv_iload_n hx hb d_Mod_count_1 rfl (lv_at hl 1 rfl) ?_
  refine zr_V (As := ([.int x] : List Value)) (rest := []) (b := X) (ci := 6) (q := (R_Mod, T_Mod, 37)) ⟨hx, hb, hml, hown, hts⟩ (c_Mod_isMade hm ) ⟨(callB_of 1 hts (zg_all zw_757) rfl rfl rfl (hw zw_3) (hw zw_754) k_Mod_isMade.2 ⟨Nat.le_of_ble_eq_true rfl, Nat.le_of_ble_eq_true rfl⟩), (hw zw_756), (hw zs_Mod_isMade)⟩ hSc hE hH hS hA rfl (by decide) hm.1.1 rfl hl.1 rfl (Nat.le_of_ble_eq_true rfl) d_Mod_count_2 ⟨Nat.le_of_ble_eq_true rfl, Nat.le_of_ble_eq_true rfl⟩ (fun v1 kd1 ln1 I1 L1 R1 H locs hp hH hS => ?_)
  obtain ⟨rfl, rfl, rfl, rfl, hm⟩ := hp
  refine W.eq (g2 := F0 m 5 ls [.int (zo_made (m9 7) x)]) rfl ?_
  refine W.widen (k := 0) (n := 0) (by omega) (by omega) ?_
  refine lv_if_eq (tgt := 17) hx hb d_Mod_count_5 (by decide) (fun hc2 => ?_) (fun hc2 => ?_)
  · skip
    have hc2 : (zo_made (m9 7) x) = (nI 0) := hc2
    refine lv_bipush (v := (-2)) hx hb d_Mod_count_17 (by decide) ?_
    refine W.widen (k := 0) (n := 0) (Nat.le_of_ble_eq_true rfl) (Nat.le_of_ble_eq_true rfl) ?_
    subst hAe
    exact W.iret (v := (-2)) hx hb hr (fun t ht hW => zc_end hS hH ht (⟨by rw [zo_cn, if_pos hc2], rfl, rfl, rfl, hm⟩)) hS.2.2 d_Mod_count_19
  · skip
    have hc2 : ¬ (zo_made (m9 7) x) = (nI 0) := hc2
    obtain ⟨j1, hj1, rfl, hj2⟩ := zo_made_of hc2
    refine lv_iload_n hx hb d_Mod_count_8 rfl (lv_at hl 2 rfl) ?_
    refine lv_if_lt (tgt := 17) hx hb d_Mod_count_9 (by decide) (fun hc3 => ?_) (fun hc3 => ?_)
    · skip
      have hc3 : y < (nI 0) := hc3
      refine lv_bipush (v := (-2)) hx hb d_Mod_count_17 (by decide) ?_
      refine W.widen (k := 0) (n := 0) (Nat.le_of_ble_eq_true rfl) (Nat.le_of_ble_eq_true rfl) ?_
      subst hAe
      exact W.iret (v := (-2)) hx hb hr (fun t ht hW => zc_end hS hH ht (⟨by rw [zo_cn, if_neg hc2, if_pos hc3], rfl, rfl, rfl, hm⟩)) hS.2.2 d_Mod_count_19
    · skip
      have hc3 : ¬ y < (nI 0) := hc3
      refine lv_iload_n hx hb d_Mod_count_12 rfl (lv_at hl 2 rfl) ?_
      refine lv_iconst (v := nI 5) hx hb d_Mod_count_13 (by decide) ?_
      refine lv_icmp_le (tgt := 20) hx hb d_Mod_count_14 (by decide) (fun hc4 => ?_) (fun hc4 => ?_)
      · skip
        have hc4 : ¬ (nI 5) < y := Int32.not_lt.mpr hc4
        refine lv_iconst (v := nI 0) hx hb d_Mod_count_20 (by decide) ?_
        refine lv_istore_n (lv' := [(3, .int (nI 0)), (0, .ref X), (1, .int (nI j1)), (2, .int y)]) hx hb d_Mod_count_21 rfl hl (by decide) rfl (fun ls hl => ?_)
        refine lv_iconst (v := nI 0) hx hb d_Mod_count_22 (by decide) ?_
        refine lv_istore (lv' := [(4, .int (nI 0)), (3, .int (nI 0)), (0, .ref X), (1, .int (nI j1)), (2, .int y)]) hx hb d_Mod_count_23 hl (by decide) rfl (fun ls hl => ?_)
        have loop_25 : ∀ (z : Nat) (i : Nat) (I_25 : Nat → Nat → Int32) (L_25 : Nat → Nat → Int64) (H : Heap) (locs : List Loc) (ls : Array Slot), 280 - i < z → (i ≤ 280) → (zoR X ad m9 q9 kd ln I_25 L_25 R) → lv_has ls 6 [(0, .ref X), (1, .int (nI j1)), (2, .int y), (3, .int (zo_cc m9 (nI j1) y i)), (4, .int (nI i))] → zh_H D cA A kd ln I_25 L_25 R H → va_S A s.heap H locs → W p l e (headSpec w_Mod_count { frames := 1, cells := 0, slots := 0, locals := 21 }).room s m ([.ref X, .int (nI j1), .int y] : List Value).toArray below meth c H locs 0 0 (MQ below (zc_Qc D cA A (zo_P (some (.int (zo_cn m9 (nI j1) y))) X ad m9 q9 kd ln R)) ([.ref X, .int (nI j1), .int y] : List Value).toArray s 0 0 A) (F0 m 25 ls []) := by
          intro z
          induction z with
          | zero => intro i I_25 L_25 H locs ls hz; exact absurd hz (Nat.not_lt_zero _)
          | succ z ih_25 =>
            intro i I_25 L_25 H locs ls hz_25 hi hm hl hH hS
            refine lv_iload hx hb d_Mod_count_25 (lv_at hl 4 rfl) ?_
            refine lv_sipush (v := nI 280) hx hb d_Mod_count_27 (by decide) ?_
            refine lv_icmp_ge (tgt := 104) hx hb d_Mod_count_30 (by decide) (fun hc5 => ?_) (fun hc5 => ?_)
            · skip
              have hc5 := zt_geT (a := i) (b := 280) (by omega) (by omega) hc5
              refine lv_iload_n hx hb d_Mod_count_104 rfl (lv_at hl 2 rfl) ?_
              refine lv_iconst (v := nI 2) hx hb d_Mod_count_105 (by decide) ?_
              refine lv_icmp_ne (tgt := 118) hx hb d_Mod_count_106 (by decide) (fun hc6 => ?_) (fun hc6 => ?_)
              · skip
                have hc6 : ¬ y = (nI 2) := hc6
                refine lv_iload_n hx hb d_Mod_count_118 rfl (lv_at hl 2 rfl) ?_
                refine lv_iconst (v := nI 3) hx hb d_Mod_count_119 (by decide) ?_
                refine lv_icmp_ne (tgt := 132) hx hb d_Mod_count_120 (by decide) (fun hc7 => ?_) (fun hc7 => ?_)
                · skip
                  have hc7 : ¬ y = (nI 3) := hc7
                  refine lv_iload_n hx hb d_Mod_count_132 rfl (lv_at hl 2 rfl) ?_
                  refine lv_iconst (v := nI 4) hx hb d_Mod_count_133 (by decide) ?_
                  refine lv_icmp_ne (tgt := 146) hx hb d_Mod_count_134 (by decide) (fun hc8 => ?_) (fun hc8 => ?_)
                  · skip
                    have hc8 : ¬ y = (nI 4) := hc8
                    refine lv_iload_n hx hb d_Mod_count_146 rfl (lv_at hl 3 rfl) ?_
                    have ck1 : (nI j1).toNatClampNeg = j1 := nI_clamp (by omega)
                    have hi2 : i = 280 := by omega
                    refine W.widen (k := 0) (n := 0) (Nat.le_of_ble_eq_true rfl) (Nat.le_of_ble_eq_true rfl) ?_
                    subst hAe
                    exact W.iret (v := zo_cc m9 (nI j1) y i) hx hb hr (fun t ht hW => zc_end hS hH ht (⟨by rw [zo_cn, if_neg hc2, if_neg hc3, if_neg hc4, if_neg hc6, if_neg hc7, if_neg hc8, hi2], rfl, rfl, rfl, hm⟩)) hS.2.2 d_Mod_count_147
                  · skip
                    have hc8 : y = (nI 4) := hc8
                    refine lv_aload_n hx hb d_Mod_count_137 rfl (lv_at hl 0 rfl) ?_
                    refine zr_getr (ci := 6) (C := R_Mod) (T := T_Mod) (N := 37) (ref := "ScrubbedRecorderModel") hx hb hts (fun w h => List.mem_cons_of_mem _ (zin_Mod w h)) hown hK hH hm.1.1 (by decide) rfl 11 (by decide) rfl (hw zw_610) (fun _ h9 => h9) d_Mod_count_138 (by rw [r11]) ?_
                    refine lv_iload_n hx hb d_Mod_count_141 rfl (lv_at hl 1 rfl) ?_
                    refine zr_aldi (j := j1) hx hb hK hH k11 (by rw [n11]; exact zh_ix_n (by omega) (by omega)) d_Mod_count_142 ?_
                    refine zt_i (y := m9 11 j1) (congrFun (hm.2.1 11 (by decide) (by decide) (by decide)) j1) ?_
                    refine lv_goto (tgt := 147) hx hb d_Mod_count_143 (by decide) ?_
                    have ck1 : (nI j1).toNatClampNeg = j1 := nI_clamp (by omega)
                    refine W.widen (k := 0) (n := 0) (Nat.le_of_ble_eq_true rfl) (Nat.le_of_ble_eq_true rfl) ?_
                    subst hAe
                    exact W.iret (v := m9 11 j1) hx hb hr (fun t ht hW => zc_end hS hH ht (⟨by rw [zo_cn, if_neg hc2, if_neg hc3, if_neg hc4, if_neg hc6, if_neg hc7, if_pos hc8, ck1], rfl, rfl, rfl, hm⟩)) hS.2.2 d_Mod_count_147
                · skip
                  have hc7 : y = (nI 3) := hc7
                  refine lv_aload_n hx hb d_Mod_count_123 rfl (lv_at hl 0 rfl) ?_
                  refine zr_getr (ci := 6) (C := R_Mod) (T := T_Mod) (N := 37) (ref := "ScrubbedRecorderModel") hx hb hts (fun w h => List.mem_cons_of_mem _ (zin_Mod w h)) hown hK hH hm.1.1 (by decide) rfl 12 (by decide) rfl (hw zw_611) (fun _ h9 => h9) d_Mod_count_124 (by rw [r12]) ?_
                  refine lv_iload_n hx hb d_Mod_count_127 rfl (lv_at hl 1 rfl) ?_
                  refine zr_aldi (j := j1) hx hb hK hH k12 (by rw [n12]; exact zh_ix_n (by omega) (by omega)) d_Mod_count_128 ?_
                  refine zt_i (y := m9 12 j1) (congrFun (hm.2.1 12 (by decide) (by decide) (by decide)) j1) ?_
                  refine lv_goto (tgt := 147) hx hb d_Mod_count_129 (by decide) ?_
                  have ck1 : (nI j1).toNatClampNeg = j1 := nI_clamp (by omega)
                  refine W.widen (k := 0) (n := 0) (Nat.le_of_ble_eq_true rfl) (Nat.le_of_ble_eq_true rfl) ?_
                  subst hAe
                  exact W.iret (v := m9 12 j1) hx hb hr (fun t ht hW => zc_end hS hH ht (⟨by rw [zo_cn, if_neg hc2, if_neg hc3, if_neg hc4, if_neg hc6, if_pos hc7, ck1], rfl, rfl, rfl, hm⟩)) hS.2.2 d_Mod_count_147
              · skip
                have hc6 : y = (nI 2) := hc6
                refine lv_aload_n hx hb d_Mod_count_109 rfl (lv_at hl 0 rfl) ?_
                refine zr_getr (ci := 6) (C := R_Mod) (T := T_Mod) (N := 37) (ref := "ScrubbedRecorderModel") hx hb hts (fun w h => List.mem_cons_of_mem _ (zin_Mod w h)) hown hK hH hm.1.1 (by decide) rfl 10 (by decide) rfl (hw zw_609) (fun _ h9 => h9) d_Mod_count_110 (by rw [r10]) ?_
                refine lv_iload_n hx hb d_Mod_count_113 rfl (lv_at hl 1 rfl) ?_
                refine zr_aldi (j := j1) hx hb hK hH k10 (by rw [n10]; exact zh_ix_n (by omega) (by omega)) d_Mod_count_114 ?_
                refine zt_i (y := m9 10 j1) (congrFun (hm.2.1 10 (by decide) (by decide) (by decide)) j1) ?_
                refine lv_goto (tgt := 147) hx hb d_Mod_count_115 (by decide) ?_
                have ck1 : (nI j1).toNatClampNeg = j1 := nI_clamp (by omega)
                refine W.widen (k := 0) (n := 0) (Nat.le_of_ble_eq_true rfl) (Nat.le_of_ble_eq_true rfl) ?_
                subst hAe
                exact W.iret (v := m9 10 j1) hx hb hr (fun t ht hW => zc_end hS hH ht (⟨by rw [zo_cn, if_neg hc2, if_neg hc3, if_neg hc4, if_pos hc6, ck1], rfl, rfl, rfl, hm⟩)) hS.2.2 d_Mod_count_147
            · skip
              have hc5 := zt_geF (a := i) (b := 280) (by omega) (by omega) hc5
              refine lv_aload_n hx hb d_Mod_count_33 rfl (lv_at hl 0 rfl) ?_
              refine zr_getr (ci := 6) (C := R_Mod) (T := T_Mod) (N := 37) (ref := "ScrubbedRecorderModel") hx hb hts (fun w h => List.mem_cons_of_mem _ (zin_Mod w h)) hown hK hH hm.1.1 (by decide) rfl 16 (by decide) rfl (hw zw_615) (fun _ h9 => h9) d_Mod_count_34 (by rw [r16]) ?_
              refine lv_iload hx hb d_Mod_count_37 (lv_at hl 4 rfl) ?_
              refine zr_aldi (j := i) hx hb hK hH k16 (by rw [n16]; exact zh_ix_n (by omega) (by omega)) d_Mod_count_39 ?_
              refine zt_i (y := m9 16 i) (congrFun (hm.2.1 16 (by decide) (by decide) (by decide)) i) ?_
              refine lv_iload_n hx hb d_Mod_count_40 rfl (lv_at hl 1 rfl) ?_
              refine lv_icmp_ne (tgt := 82) hx hb d_Mod_count_41 (by decide) (fun hc9 => ?_) (fun hc9 => ?_)
              · skip
                have hc9 : ¬ (m9 16 i) = (nI j1) := hc9
                refine lv_iconst (v := nI 0) hx hb d_Mod_count_82 (by decide) ?_
                refine lv_istore (lv' := [(5, .int (nI 0)), (0, .ref X), (1, .int (nI j1)), (2, .int y), (3, .int (zo_cc m9 (nI j1) y i)), (4, .int (nI i))]) hx hb d_Mod_count_83 hl (by decide) rfl (fun ls hl => ?_)
                refine lv_iload_n hx hb d_Mod_count_85 rfl (lv_at hl 4 rfl) ?_
                refine lv_iload hx hb d_Mod_count_86 (lv_at hl 0 rfl) ?_
                refine lv_if_eq (tgt := 95) hx hb d_Mod_count_88 (by decide) (fun hc10 => ?_) (fun hc10 => ?_)
                · skip
                  have hc10 := zt_eqT (a := 0) (b := 0) (by omega) (by omega) hc10
                  refine lv_iconst (v := nI 0) hx hb d_Mod_count_95 (by decide) ?_
                  refine lv_iadd hx hb d_Mod_count_96 ?_
                  refine lv_istore_n (lv' := [(3, .int ((zo_cc m9 (nI j1) y i) + (nI 0))), (5, .int (nI 0)), (0, .ref X), (1, .int (nI j1)), (2, .int y), (4, .int (nI i))]) hx hb d_Mod_count_97 rfl hl (by decide) rfl (fun ls hl => ?_)
                  refine lv_iinc (k := 5) (v := nI (i + 1)) (lv' := [(4, .int (nI (i + 1))), (3, .int ((zo_cc m9 (nI j1) y i) + (nI 0))), (5, .int (nI 0)), (0, .ref X), (1, .int (nI j1)), (2, .int y)]) hx hb d_Mod_count_98 hl rfl (nI_add i 1) (by decide) rfl (fun ls hl => ?_)
                  refine lv_goto (tgt := 25) hx hb d_Mod_count_101 (by decide) ?_
                  have e11 : zo_cc m9 (nI j1) y (i + 1) = (zo_cc m9 (nI j1) y i) + (nI 0) := by rw [zo_cc, zo_ci, if_neg hc9]
                  have hl : lv_has ls 6 [(4, .int (nI (i + 1))), (3, .int (zo_cc m9 (nI j1) y (i + 1))), (5, .int (nI 0)), (0, .ref X), (1, .int (nI j1)), (2, .int y)] := by rw [e11]; exact hl
                  exact ih_25 (i + 1) _ _ _ _ _ (by omega) (by omega) hm (lv_sub hl [3, 4, 5, 1, 0] rfl) hH hS
                · skip
                  have hc10 := zt_eqF (a := 0) (b := 0) (by omega) (by omega) hc10
                  exact absurd hc10 (by omega)
              · skip
                have hc9 : (m9 16 i) = (nI j1) := hc9
                refine lv_iload_n hx hb d_Mod_count_44 rfl (lv_at hl 2 rfl) ?_
                refine lv_if_eq (tgt := 78) hx hb d_Mod_count_45 (by decide) (fun hc12 => ?_) (fun hc12 => ?_)
                · skip
                  have hc12 : y = (nI 0) := hc12
                  refine lv_iconst (v := nI 1) hx hb d_Mod_count_78 (by decide) ?_
                  refine lv_goto (tgt := 83) hx hb d_Mod_count_79 (by decide) ?_
                  refine lv_istore (lv' := [(5, .int (nI 1)), (0, .ref X), (1, .int (nI j1)), (2, .int y), (3, .int (zo_cc m9 (nI j1) y i)), (4, .int (nI i))]) hx hb d_Mod_count_83 hl (by decide) rfl (fun ls hl => ?_)
                  refine lv_iload_n hx hb d_Mod_count_85 rfl (lv_at hl 4 rfl) ?_
                  refine lv_iload hx hb d_Mod_count_86 (lv_at hl 0 rfl) ?_
                  refine lv_if_eq (tgt := 95) hx hb d_Mod_count_88 (by decide) (fun hc13 => ?_) (fun hc13 => ?_)
                  · skip
                    have hc13 := zt_eqT (a := 1) (b := 0) (by omega) (by omega) hc13
                    exact absurd hc13 (by omega)
                  · skip
                    have hc13 := zt_eqF (a := 1) (b := 0) (by omega) (by omega) hc13
                    refine lv_iconst (v := nI 1) hx hb d_Mod_count_91 (by decide) ?_
                    refine lv_goto (tgt := 96) hx hb d_Mod_count_92 (by decide) ?_
                    refine lv_iadd hx hb d_Mod_count_96 ?_
                    refine lv_istore_n (lv' := [(3, .int ((zo_cc m9 (nI j1) y i) + (nI 1))), (5, .int (nI 1)), (0, .ref X), (1, .int (nI j1)), (2, .int y), (4, .int (nI i))]) hx hb d_Mod_count_97 rfl hl (by decide) rfl (fun ls hl => ?_)
                    refine lv_iinc (k := 5) (v := nI (i + 1)) (lv' := [(4, .int (nI (i + 1))), (3, .int ((zo_cc m9 (nI j1) y i) + (nI 1))), (5, .int (nI 1)), (0, .ref X), (1, .int (nI j1)), (2, .int y)]) hx hb d_Mod_count_98 hl rfl (nI_add i 1) (by decide) rfl (fun ls hl => ?_)
                    refine lv_goto (tgt := 25) hx hb d_Mod_count_101 (by decide) ?_
                    have e14 : zo_cc m9 (nI j1) y (i + 1) = (zo_cc m9 (nI j1) y i) + (nI 1) := by rw [zo_cc, zo_ci, if_pos hc9, if_pos hc12]
                    have hl : lv_has ls 6 [(4, .int (nI (i + 1))), (3, .int (zo_cc m9 (nI j1) y (i + 1))), (5, .int (nI 1)), (0, .ref X), (1, .int (nI j1)), (2, .int y)] := by rw [e14]; exact hl
                    exact ih_25 (i + 1) _ _ _ _ _ (by omega) (by omega) hm (lv_sub hl [3, 4, 5, 1, 0] rfl) hH hS
                · skip
                  have hc12 : ¬ y = (nI 0) := hc12
                  refine lv_iload_n hx hb d_Mod_count_48 rfl (lv_at hl 2 rfl) ?_
                  refine lv_iconst (v := nI 1) hx hb d_Mod_count_49 (by decide) ?_
                  refine lv_icmp_ne (tgt := 63) hx hb d_Mod_count_50 (by decide) (fun hc15 => ?_) (fun hc15 => ?_)
                  · skip
                    have hc15 : ¬ y = (nI 1) := hc15
                    refine lv_iload_n hx hb d_Mod_count_63 rfl (lv_at hl 2 rfl) ?_
                    refine lv_iconst (v := nI 5) hx hb d_Mod_count_64 (by decide) ?_
                    refine lv_icmp_ne (tgt := 82) hx hb d_Mod_count_65 (by decide) (fun hc16 => ?_) (fun hc16 => ?_)
                    · skip
                      have hc16 : ¬ y = (nI 5) := hc16
                      refine lv_iconst (v := nI 0) hx hb d_Mod_count_82 (by decide) ?_
                      refine lv_istore (lv' := [(5, .int (nI 0)), (0, .ref X), (1, .int (nI j1)), (2, .int y), (3, .int (zo_cc m9 (nI j1) y i)), (4, .int (nI i))]) hx hb d_Mod_count_83 hl (by decide) rfl (fun ls hl => ?_)
                      refine lv_iload_n hx hb d_Mod_count_85 rfl (lv_at hl 4 rfl) ?_
                      refine lv_iload hx hb d_Mod_count_86 (lv_at hl 0 rfl) ?_
                      refine lv_if_eq (tgt := 95) hx hb d_Mod_count_88 (by decide) (fun hc17 => ?_) (fun hc17 => ?_)
                      · skip
                        have hc17 := zt_eqT (a := 0) (b := 0) (by omega) (by omega) hc17
                        refine lv_iconst (v := nI 0) hx hb d_Mod_count_95 (by decide) ?_
                        refine lv_iadd hx hb d_Mod_count_96 ?_
                        refine lv_istore_n (lv' := [(3, .int ((zo_cc m9 (nI j1) y i) + (nI 0))), (5, .int (nI 0)), (0, .ref X), (1, .int (nI j1)), (2, .int y), (4, .int (nI i))]) hx hb d_Mod_count_97 rfl hl (by decide) rfl (fun ls hl => ?_)
                        refine lv_iinc (k := 5) (v := nI (i + 1)) (lv' := [(4, .int (nI (i + 1))), (3, .int ((zo_cc m9 (nI j1) y i) + (nI 0))), (5, .int (nI 0)), (0, .ref X), (1, .int (nI j1)), (2, .int y)]) hx hb d_Mod_count_98 hl rfl (nI_add i 1) (by decide) rfl (fun ls hl => ?_)
                        refine lv_goto (tgt := 25) hx hb d_Mod_count_101 (by decide) ?_
                        have e18 : zo_cc m9 (nI j1) y (i + 1) = (zo_cc m9 (nI j1) y i) + (nI 0) := by rw [zo_cc, zo_ci, if_pos hc9, if_neg hc12, if_neg hc15, zo_c5, if_neg hc16]
                        have hl : lv_has ls 6 [(4, .int (nI (i + 1))), (3, .int (zo_cc m9 (nI j1) y (i + 1))), (5, .int (nI 0)), (0, .ref X), (1, .int (nI j1)), (2, .int y)] := by rw [e18]; exact hl
                        exact ih_25 (i + 1) _ _ _ _ _ (by omega) (by omega) hm (lv_sub hl [3, 4, 5, 1, 0] rfl) hH hS
                      · skip
                        have hc17 := zt_eqF (a := 0) (b := 0) (by omega) (by omega) hc17
                        exact absurd hc17 (by omega)
                    · skip
                      have hc16 : y = (nI 5) := hc16
                      refine lv_aload_n hx hb d_Mod_count_68 rfl (lv_at hl 0 rfl) ?_
                      refine zr_getr (ci := 6) (C := R_Mod) (T := T_Mod) (N := 37) (ref := "ScrubbedRecorderModel") hx hb hts (fun w h => List.mem_cons_of_mem _ (zin_Mod w h)) hown hK hH hm.1.1 (by decide) rfl 24 (by decide) rfl (hw zw_623) (fun _ h9 => h9) d_Mod_count_69 (by rw [r24]) ?_
                      refine lv_iload hx hb d_Mod_count_72 (lv_at hl 4 rfl) ?_
                      refine zr_aldi (j := i) hx hb hK hH k24 (by rw [n24]; exact zh_ix_n (by omega) (by omega)) d_Mod_count_74 ?_
                      refine zt_i (y := m9 24 i) (congrFun (hm.2.1 24 (by decide) (by decide) (by decide)) i) ?_
                      refine lv_if_le (tgt := 82) hx hb d_Mod_count_75 (by decide) (fun hc19 => ?_) (fun hc19 => ?_)
                      · skip
                        have hc19 : ¬ (nI 0) < (m9 24 i) := Int32.not_lt.mpr hc19
                        refine lv_iconst (v := nI 0) hx hb d_Mod_count_82 (by decide) ?_
                        refine lv_istore (lv' := [(5, .int (nI 0)), (0, .ref X), (1, .int (nI j1)), (2, .int y), (3, .int (zo_cc m9 (nI j1) y i)), (4, .int (nI i))]) hx hb d_Mod_count_83 hl (by decide) rfl (fun ls hl => ?_)
                        refine lv_iload_n hx hb d_Mod_count_85 rfl (lv_at hl 4 rfl) ?_
                        refine lv_iload hx hb d_Mod_count_86 (lv_at hl 0 rfl) ?_
                        refine lv_if_eq (tgt := 95) hx hb d_Mod_count_88 (by decide) (fun hc20 => ?_) (fun hc20 => ?_)
                        · skip
                          have hc20 := zt_eqT (a := 0) (b := 0) (by omega) (by omega) hc20
                          refine lv_iconst (v := nI 0) hx hb d_Mod_count_95 (by decide) ?_
                          refine lv_iadd hx hb d_Mod_count_96 ?_
                          refine lv_istore_n (lv' := [(3, .int ((zo_cc m9 (nI j1) y i) + (nI 0))), (5, .int (nI 0)), (0, .ref X), (1, .int (nI j1)), (2, .int y), (4, .int (nI i))]) hx hb d_Mod_count_97 rfl hl (by decide) rfl (fun ls hl => ?_)
                          refine lv_iinc (k := 5) (v := nI (i + 1)) (lv' := [(4, .int (nI (i + 1))), (3, .int ((zo_cc m9 (nI j1) y i) + (nI 0))), (5, .int (nI 0)), (0, .ref X), (1, .int (nI j1)), (2, .int y)]) hx hb d_Mod_count_98 hl rfl (nI_add i 1) (by decide) rfl (fun ls hl => ?_)
                          refine lv_goto (tgt := 25) hx hb d_Mod_count_101 (by decide) ?_
                          have e21 : zo_cc m9 (nI j1) y (i + 1) = (zo_cc m9 (nI j1) y i) + (nI 0) := by rw [zo_cc, zo_ci, if_pos hc9, if_neg hc12, if_neg hc15, zo_c5, if_pos hc16, if_neg hc19]
                          have hl : lv_has ls 6 [(4, .int (nI (i + 1))), (3, .int (zo_cc m9 (nI j1) y (i + 1))), (5, .int (nI 0)), (0, .ref X), (1, .int (nI j1)), (2, .int y)] := by rw [e21]; exact hl
                          exact ih_25 (i + 1) _ _ _ _ _ (by omega) (by omega) hm (lv_sub hl [3, 4, 5, 1, 0] rfl) hH hS
                        · skip
                          have hc20 := zt_eqF (a := 0) (b := 0) (by omega) (by omega) hc20
                          exact absurd hc20 (by omega)
                      · skip
                        have hc19 : (nI 0) < (m9 24 i) := Int32.not_le.mp hc19
                        refine lv_iconst (v := nI 1) hx hb d_Mod_count_78 (by decide) ?_
                        refine lv_goto (tgt := 83) hx hb d_Mod_count_79 (by decide) ?_
                        refine lv_istore (lv' := [(5, .int (nI 1)), (0, .ref X), (1, .int (nI j1)), (2, .int y), (3, .int (zo_cc m9 (nI j1) y i)), (4, .int (nI i))]) hx hb d_Mod_count_83 hl (by decide) rfl (fun ls hl => ?_)
                        refine lv_iload_n hx hb d_Mod_count_85 rfl (lv_at hl 4 rfl) ?_
                        refine lv_iload hx hb d_Mod_count_86 (lv_at hl 0 rfl) ?_
                        refine lv_if_eq (tgt := 95) hx hb d_Mod_count_88 (by decide) (fun hc22 => ?_) (fun hc22 => ?_)
                        · skip
                          have hc22 := zt_eqT (a := 1) (b := 0) (by omega) (by omega) hc22
                          exact absurd hc22 (by omega)
                        · skip
                          have hc22 := zt_eqF (a := 1) (b := 0) (by omega) (by omega) hc22
                          refine lv_iconst (v := nI 1) hx hb d_Mod_count_91 (by decide) ?_
                          refine lv_goto (tgt := 96) hx hb d_Mod_count_92 (by decide) ?_
                          refine lv_iadd hx hb d_Mod_count_96 ?_
                          refine lv_istore_n (lv' := [(3, .int ((zo_cc m9 (nI j1) y i) + (nI 1))), (5, .int (nI 1)), (0, .ref X), (1, .int (nI j1)), (2, .int y), (4, .int (nI i))]) hx hb d_Mod_count_97 rfl hl (by decide) rfl (fun ls hl => ?_)
                          refine lv_iinc (k := 5) (v := nI (i + 1)) (lv' := [(4, .int (nI (i + 1))), (3, .int ((zo_cc m9 (nI j1) y i) + (nI 1))), (5, .int (nI 1)), (0, .ref X), (1, .int (nI j1)), (2, .int y)]) hx hb d_Mod_count_98 hl rfl (nI_add i 1) (by decide) rfl (fun ls hl => ?_)
                          refine lv_goto (tgt := 25) hx hb d_Mod_count_101 (by decide) ?_
                          have e23 : zo_cc m9 (nI j1) y (i + 1) = (zo_cc m9 (nI j1) y i) + (nI 1) := by rw [zo_cc, zo_ci, if_pos hc9, if_neg hc12, if_neg hc15, zo_c5, if_pos hc16, if_pos hc19]
                          have hl : lv_has ls 6 [(4, .int (nI (i + 1))), (3, .int (zo_cc m9 (nI j1) y (i + 1))), (5, .int (nI 1)), (0, .ref X), (1, .int (nI j1)), (2, .int y)] := by rw [e23]; exact hl
                          exact ih_25 (i + 1) _ _ _ _ _ (by omega) (by omega) hm (lv_sub hl [3, 4, 5, 1, 0] rfl) hH hS
                  · skip
                    have hc15 : y = (nI 1) := hc15
                    refine lv_aload_n hx hb d_Mod_count_53 rfl (lv_at hl 0 rfl) ?_
                    refine zr_getr (ci := 6) (C := R_Mod) (T := T_Mod) (N := 37) (ref := "ScrubbedRecorderModel") hx hb hts (fun w h => List.mem_cons_of_mem _ (zin_Mod w h)) hown hK hH hm.1.1 (by decide) rfl 22 (by decide) rfl (hw zw_621) (fun _ h9 => h9) d_Mod_count_54 (by rw [r22]) ?_
                    refine lv_iload hx hb d_Mod_count_57 (lv_at hl 4 rfl) ?_
                    refine zr_aldz (j := i) hx hb hK hH k22 (by rw [n22]; exact zh_ix_n (by omega) (by omega)) d_Mod_count_59 ?_
                    refine zt_i (y := m9 22 i) (congrFun (hm.2.1 22 (by decide) (by decide) (by decide)) i) ?_
                    refine lv_if_ne (tgt := 78) hx hb d_Mod_count_60 (by decide) (fun hc24 => ?_) (fun hc24 => ?_)
                    · skip
                      have hc24 : ¬ (m9 22 i) = (nI 0) := hc24
                      refine lv_iconst (v := nI 1) hx hb d_Mod_count_78 (by decide) ?_
                      refine lv_goto (tgt := 83) hx hb d_Mod_count_79 (by decide) ?_
                      refine lv_istore (lv' := [(5, .int (nI 1)), (0, .ref X), (1, .int (nI j1)), (2, .int y), (3, .int (zo_cc m9 (nI j1) y i)), (4, .int (nI i))]) hx hb d_Mod_count_83 hl (by decide) rfl (fun ls hl => ?_)
                      refine lv_iload_n hx hb d_Mod_count_85 rfl (lv_at hl 4 rfl) ?_
                      refine lv_iload hx hb d_Mod_count_86 (lv_at hl 0 rfl) ?_
                      refine lv_if_eq (tgt := 95) hx hb d_Mod_count_88 (by decide) (fun hc25 => ?_) (fun hc25 => ?_)
                      · skip
                        have hc25 := zt_eqT (a := 1) (b := 0) (by omega) (by omega) hc25
                        exact absurd hc25 (by omega)
                      · skip
                        have hc25 := zt_eqF (a := 1) (b := 0) (by omega) (by omega) hc25
                        refine lv_iconst (v := nI 1) hx hb d_Mod_count_91 (by decide) ?_
                        refine lv_goto (tgt := 96) hx hb d_Mod_count_92 (by decide) ?_
                        refine lv_iadd hx hb d_Mod_count_96 ?_
                        refine lv_istore_n (lv' := [(3, .int ((zo_cc m9 (nI j1) y i) + (nI 1))), (5, .int (nI 1)), (0, .ref X), (1, .int (nI j1)), (2, .int y), (4, .int (nI i))]) hx hb d_Mod_count_97 rfl hl (by decide) rfl (fun ls hl => ?_)
                        refine lv_iinc (k := 5) (v := nI (i + 1)) (lv' := [(4, .int (nI (i + 1))), (3, .int ((zo_cc m9 (nI j1) y i) + (nI 1))), (5, .int (nI 1)), (0, .ref X), (1, .int (nI j1)), (2, .int y)]) hx hb d_Mod_count_98 hl rfl (nI_add i 1) (by decide) rfl (fun ls hl => ?_)
                        refine lv_goto (tgt := 25) hx hb d_Mod_count_101 (by decide) ?_
                        have e26 : zo_cc m9 (nI j1) y (i + 1) = (zo_cc m9 (nI j1) y i) + (nI 1) := by rw [zo_cc, zo_ci, if_pos hc9, if_neg hc12, if_pos hc15, if_neg hc24]
                        have hl : lv_has ls 6 [(4, .int (nI (i + 1))), (3, .int (zo_cc m9 (nI j1) y (i + 1))), (5, .int (nI 1)), (0, .ref X), (1, .int (nI j1)), (2, .int y)] := by rw [e26]; exact hl
                        exact ih_25 (i + 1) _ _ _ _ _ (by omega) (by omega) hm (lv_sub hl [3, 4, 5, 1, 0] rfl) hH hS
                    · skip
                      have hc24 : (m9 22 i) = (nI 0) := hc24
                      refine lv_iload_n hx hb d_Mod_count_63 rfl (lv_at hl 2 rfl) ?_
                      refine lv_iconst (v := nI 5) hx hb d_Mod_count_64 (by decide) ?_
                      refine lv_icmp_ne (tgt := 82) hx hb d_Mod_count_65 (by decide) (fun hc27 => ?_) (fun hc27 => ?_)
                      · skip
                        have hc27 : ¬ y = (nI 5) := hc27
                        refine lv_iconst (v := nI 0) hx hb d_Mod_count_82 (by decide) ?_
                        refine lv_istore (lv' := [(5, .int (nI 0)), (0, .ref X), (1, .int (nI j1)), (2, .int y), (3, .int (zo_cc m9 (nI j1) y i)), (4, .int (nI i))]) hx hb d_Mod_count_83 hl (by decide) rfl (fun ls hl => ?_)
                        refine lv_iload_n hx hb d_Mod_count_85 rfl (lv_at hl 4 rfl) ?_
                        refine lv_iload hx hb d_Mod_count_86 (lv_at hl 0 rfl) ?_
                        refine lv_if_eq (tgt := 95) hx hb d_Mod_count_88 (by decide) (fun hc28 => ?_) (fun hc28 => ?_)
                        · skip
                          have hc28 := zt_eqT (a := 0) (b := 0) (by omega) (by omega) hc28
                          refine lv_iconst (v := nI 0) hx hb d_Mod_count_95 (by decide) ?_
                          refine lv_iadd hx hb d_Mod_count_96 ?_
                          refine lv_istore_n (lv' := [(3, .int ((zo_cc m9 (nI j1) y i) + (nI 0))), (5, .int (nI 0)), (0, .ref X), (1, .int (nI j1)), (2, .int y), (4, .int (nI i))]) hx hb d_Mod_count_97 rfl hl (by decide) rfl (fun ls hl => ?_)
                          refine lv_iinc (k := 5) (v := nI (i + 1)) (lv' := [(4, .int (nI (i + 1))), (3, .int ((zo_cc m9 (nI j1) y i) + (nI 0))), (5, .int (nI 0)), (0, .ref X), (1, .int (nI j1)), (2, .int y)]) hx hb d_Mod_count_98 hl rfl (nI_add i 1) (by decide) rfl (fun ls hl => ?_)
                          refine lv_goto (tgt := 25) hx hb d_Mod_count_101 (by decide) ?_
                          have e29 : zo_cc m9 (nI j1) y (i + 1) = (zo_cc m9 (nI j1) y i) + (nI 0) := by rw [zo_cc, zo_ci, if_pos hc9, if_neg hc12, if_pos hc15, if_pos hc24, zo_c5, if_neg hc27]
                          have hl : lv_has ls 6 [(4, .int (nI (i + 1))), (3, .int (zo_cc m9 (nI j1) y (i + 1))), (5, .int (nI 0)), (0, .ref X), (1, .int (nI j1)), (2, .int y)] := by rw [e29]; exact hl
                          exact ih_25 (i + 1) _ _ _ _ _ (by omega) (by omega) hm (lv_sub hl [3, 4, 5, 1, 0] rfl) hH hS
                        · skip
                          have hc28 := zt_eqF (a := 0) (b := 0) (by omega) (by omega) hc28
                          exact absurd hc28 (by omega)
                      · skip
                        have hc27 : y = (nI 5) := hc27
                        refine lv_aload_n hx hb d_Mod_count_68 rfl (lv_at hl 0 rfl) ?_
                        refine zr_getr (ci := 6) (C := R_Mod) (T := T_Mod) (N := 37) (ref := "ScrubbedRecorderModel") hx hb hts (fun w h => List.mem_cons_of_mem _ (zin_Mod w h)) hown hK hH hm.1.1 (by decide) rfl 24 (by decide) rfl (hw zw_623) (fun _ h9 => h9) d_Mod_count_69 (by rw [r24]) ?_
                        refine lv_iload hx hb d_Mod_count_72 (lv_at hl 4 rfl) ?_
                        refine zr_aldi (j := i) hx hb hK hH k24 (by rw [n24]; exact zh_ix_n (by omega) (by omega)) d_Mod_count_74 ?_
                        refine zt_i (y := m9 24 i) (congrFun (hm.2.1 24 (by decide) (by decide) (by decide)) i) ?_
                        refine lv_if_le (tgt := 82) hx hb d_Mod_count_75 (by decide) (fun hc30 => ?_) (fun hc30 => ?_)
                        · skip
                          have hc30 : ¬ (nI 0) < (m9 24 i) := Int32.not_lt.mpr hc30
                          refine lv_iconst (v := nI 0) hx hb d_Mod_count_82 (by decide) ?_
                          refine lv_istore (lv' := [(5, .int (nI 0)), (0, .ref X), (1, .int (nI j1)), (2, .int y), (3, .int (zo_cc m9 (nI j1) y i)), (4, .int (nI i))]) hx hb d_Mod_count_83 hl (by decide) rfl (fun ls hl => ?_)
                          refine lv_iload_n hx hb d_Mod_count_85 rfl (lv_at hl 4 rfl) ?_
                          refine lv_iload hx hb d_Mod_count_86 (lv_at hl 0 rfl) ?_
                          refine lv_if_eq (tgt := 95) hx hb d_Mod_count_88 (by decide) (fun hc31 => ?_) (fun hc31 => ?_)
                          · skip
                            have hc31 := zt_eqT (a := 0) (b := 0) (by omega) (by omega) hc31
                            refine lv_iconst (v := nI 0) hx hb d_Mod_count_95 (by decide) ?_
                            refine lv_iadd hx hb d_Mod_count_96 ?_
                            refine lv_istore_n (lv' := [(3, .int ((zo_cc m9 (nI j1) y i) + (nI 0))), (5, .int (nI 0)), (0, .ref X), (1, .int (nI j1)), (2, .int y), (4, .int (nI i))]) hx hb d_Mod_count_97 rfl hl (by decide) rfl (fun ls hl => ?_)
                            refine lv_iinc (k := 5) (v := nI (i + 1)) (lv' := [(4, .int (nI (i + 1))), (3, .int ((zo_cc m9 (nI j1) y i) + (nI 0))), (5, .int (nI 0)), (0, .ref X), (1, .int (nI j1)), (2, .int y)]) hx hb d_Mod_count_98 hl rfl (nI_add i 1) (by decide) rfl (fun ls hl => ?_)
                            refine lv_goto (tgt := 25) hx hb d_Mod_count_101 (by decide) ?_
                            have e32 : zo_cc m9 (nI j1) y (i + 1) = (zo_cc m9 (nI j1) y i) + (nI 0) := by rw [zo_cc, zo_ci, if_pos hc9, if_neg hc12, if_pos hc15, if_pos hc24, zo_c5, if_pos hc27, if_neg hc30]
                            have hl : lv_has ls 6 [(4, .int (nI (i + 1))), (3, .int (zo_cc m9 (nI j1) y (i + 1))), (5, .int (nI 0)), (0, .ref X), (1, .int (nI j1)), (2, .int y)] := by rw [e32]; exact hl
                            exact ih_25 (i + 1) _ _ _ _ _ (by omega) (by omega) hm (lv_sub hl [3, 4, 5, 1, 0] rfl) hH hS
                          · skip
                            have hc31 := zt_eqF (a := 0) (b := 0) (by omega) (by omega) hc31
                            exact absurd hc31 (by omega)
                        · skip
                          have hc30 : (nI 0) < (m9 24 i) := Int32.not_le.mp hc30
                          refine lv_iconst (v := nI 1) hx hb d_Mod_count_78 (by decide) ?_
                          refine lv_goto (tgt := 83) hx hb d_Mod_count_79 (by decide) ?_
                          refine lv_istore (lv' := [(5, .int (nI 1)), (0, .ref X), (1, .int (nI j1)), (2, .int y), (3, .int (zo_cc m9 (nI j1) y i)), (4, .int (nI i))]) hx hb d_Mod_count_83 hl (by decide) rfl (fun ls hl => ?_)
                          refine lv_iload_n hx hb d_Mod_count_85 rfl (lv_at hl 4 rfl) ?_
                          refine lv_iload hx hb d_Mod_count_86 (lv_at hl 0 rfl) ?_
                          refine lv_if_eq (tgt := 95) hx hb d_Mod_count_88 (by decide) (fun hc33 => ?_) (fun hc33 => ?_)
                          · skip
                            have hc33 := zt_eqT (a := 1) (b := 0) (by omega) (by omega) hc33
                            exact absurd hc33 (by omega)
                          · skip
                            have hc33 := zt_eqF (a := 1) (b := 0) (by omega) (by omega) hc33
                            refine lv_iconst (v := nI 1) hx hb d_Mod_count_91 (by decide) ?_
                            refine lv_goto (tgt := 96) hx hb d_Mod_count_92 (by decide) ?_
                            refine lv_iadd hx hb d_Mod_count_96 ?_
                            refine lv_istore_n (lv' := [(3, .int ((zo_cc m9 (nI j1) y i) + (nI 1))), (5, .int (nI 1)), (0, .ref X), (1, .int (nI j1)), (2, .int y), (4, .int (nI i))]) hx hb d_Mod_count_97 rfl hl (by decide) rfl (fun ls hl => ?_)
                            refine lv_iinc (k := 5) (v := nI (i + 1)) (lv' := [(4, .int (nI (i + 1))), (3, .int ((zo_cc m9 (nI j1) y i) + (nI 1))), (5, .int (nI 1)), (0, .ref X), (1, .int (nI j1)), (2, .int y)]) hx hb d_Mod_count_98 hl rfl (nI_add i 1) (by decide) rfl (fun ls hl => ?_)
                            refine lv_goto (tgt := 25) hx hb d_Mod_count_101 (by decide) ?_
                            have e34 : zo_cc m9 (nI j1) y (i + 1) = (zo_cc m9 (nI j1) y i) + (nI 1) := by rw [zo_cc, zo_ci, if_pos hc9, if_neg hc12, if_pos hc15, if_pos hc24, zo_c5, if_pos hc27, if_pos hc30]
                            have hl : lv_has ls 6 [(4, .int (nI (i + 1))), (3, .int (zo_cc m9 (nI j1) y (i + 1))), (5, .int (nI 1)), (0, .ref X), (1, .int (nI j1)), (2, .int y)] := by rw [e34]; exact hl
                            exact ih_25 (i + 1) _ _ _ _ _ (by omega) (by omega) hm (lv_sub hl [3, 4, 5, 1, 0] rfl) hH hS
        exact loop_25 _ 0 _ _ _ _ _ (Nat.lt_succ_self _) (by omega) hm (lv_sub hl [2, 3, 4, 1, 0] rfl) hH hS
      · skip
        have hc4 : (nI 5) < y := Int32.not_le.mp hc4
        refine lv_bipush (v := (-2)) hx hb d_Mod_count_17 (by decide) ?_
        refine W.widen (k := 0) (n := 0) (Nat.le_of_ble_eq_true rfl) (Nat.le_of_ble_eq_true rfl) ?_
        subst hAe
        exact W.iret (v := (-2)) hx hb hr (fun t ht hW => zc_end hS hH ht (⟨by rw [zo_cn, if_neg hc2, if_neg hc3, if_pos hc4], rfl, rfl, rfl, hm⟩)) hS.2.2 d_Mod_count_19
