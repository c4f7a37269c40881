def zo_c1 (m9 : Nat → Nat → Int32) (p : Nat) : Nat → Int32
  | 0 => (-1)
  | n + 1 => if zo_in m9 n p = nI 0 then zo_c1 m9 p n else if nI 0 < m9 24 n then (if zo_c1 m9 p n < nI 0 then nI n else if m9 24 n < m9 24 (zo_c1 m9 p n).toNatClampNeg then nI n else zo_c1 m9 p n) else zo_c1 m9 p n
theorem zo_c1_of {m9 : Nat → Nat → Int32} {p : Nat} : ∀ n, n ≤ 280 → ¬ zo_c1 m9 p n < nI 0 → ∃ j, j < n ∧ zo_c1 m9 p n = nI j
  | 0, _, h => absurd (show (-1 : Int32) < nI 0 by decide) h
  | n + 1, hn, h => by
    have ih := zo_c1_of (m9 := m9) (p := p) n (by omega)
    have up : (∃ j, j < n ∧ zo_c1 m9 p n = nI j) → ∃ j, j < n + 1 ∧ zo_c1 m9 p n = nI j := fun ⟨j, a, b⟩ => ⟨j, by omega, b⟩
    have me : ∃ j, j < n + 1 ∧ nI n = nI j := ⟨n, by omega, rfl⟩
    rw [zo_c1] at h ⊢
    by_cases h1 : zo_in m9 n p = nI 0
    · rw [if_pos h1] at h ⊢
      exact up (ih h)
    · rw [if_neg h1] at h ⊢
      by_cases h2 : nI 0 < m9 24 n
      · rw [if_pos h2] at h ⊢
        by_cases h3 : zo_c1 m9 p n < nI 0
        · rw [if_pos h3]
          exact me
        · rw [if_neg h3] at h ⊢
          by_cases h4 : m9 24 n < m9 24 (zo_c1 m9 p n).toNatClampNeg
          · rw [if_pos h4]
            exact me
          · rw [if_neg h4] at h ⊢
            exact up (ih h)
      · rw [if_neg h2] at h ⊢
        exact up (ih h)
def zo_c2 (m9 : Nat → Nat → Int32) (p : Nat) : Nat → Int32
  | 0 => (-1)
  | n + 1 => if zo_in m9 n p = nI 0 then zo_c2 m9 p n else if m9 31 p < m9 17 n then (if zo_c2 m9 p n < nI 0 then nI n else if m9 17 n < m9 17 (zo_c2 m9 p n).toNatClampNeg then nI n else zo_c2 m9 p n) else zo_c2 m9 p n
theorem zo_c2_of {m9 : Nat → Nat → Int32} {p : Nat} : ∀ n, n ≤ 280 → ¬ zo_c2 m9 p n < nI 0 → ∃ j, j < n ∧ zo_c2 m9 p n = nI j
  | 0, _, h => absurd (show (-1 : Int32) < nI 0 by decide) h
  | n + 1, hn, h => by
    have ih := zo_c2_of (m9 := m9) (p := p) n (by omega)
    have up : (∃ j, j < n ∧ zo_c2 m9 p n = nI j) → ∃ j, j < n + 1 ∧ zo_c2 m9 p n = nI j := fun ⟨j, a, b⟩ => ⟨j, by omega, b⟩
    have me : ∃ j, j < n + 1 ∧ nI n = nI j := ⟨n, by omega, rfl⟩
    rw [zo_c2] at h ⊢
    by_cases h1 : zo_in m9 n p = nI 0
    · rw [if_pos h1] at h ⊢
      exact up (ih h)
    · rw [if_neg h1] at h ⊢
      by_cases h2 : m9 31 p < m9 17 n
      · rw [if_pos h2] at h ⊢
        by_cases h3 : zo_c2 m9 p n < nI 0
        · rw [if_pos h3]
          exact me
        · rw [if_neg h3] at h ⊢
          by_cases h4 : m9 17 n < m9 17 (zo_c2 m9 p n).toNatClampNeg
          · rw [if_pos h4]
            exact me
          · rw [if_neg h4] at h ⊢
            exact up (ih h)
      · rw [if_neg h2] at h ⊢
        exact up (ih h)
def zo_c3 (m9 : Nat → Nat → Int32) (p : Nat) : Nat → Int32
  | 0 => (-1)
  | n + 1 => if zo_in m9 n p = nI 0 then zo_c3 m9 p n else if zo_c3 m9 p n < nI 0 then nI n else if m9 17 n < m9 17 (zo_c3 m9 p n).toNatClampNeg then nI n else zo_c3 m9 p n
theorem zo_c3_of {m9 : Nat → Nat → Int32} {p : Nat} : ∀ n, n ≤ 280 → ¬ zo_c3 m9 p n < nI 0 → ∃ j, j < n ∧ zo_c3 m9 p n = nI j
  | 0, _, h => absurd (show (-1 : Int32) < nI 0 by decide) h
  | n + 1, hn, h => by
    have ih := zo_c3_of (m9 := m9) (p := p) n (by omega)
    have up : (∃ j, j < n ∧ zo_c3 m9 p n = nI j) → ∃ j, j < n + 1 ∧ zo_c3 m9 p n = nI j := fun ⟨j, a, b⟩ => ⟨j, by omega, b⟩
    have me : ∃ j, j < n + 1 ∧ nI n = nI j := ⟨n, by omega, rfl⟩
    rw [zo_c3] at h ⊢
    by_cases h1 : zo_in m9 n p = nI 0
    · rw [if_pos h1] at h ⊢
      exact up (ih h)
    · rw [if_neg h1] at h ⊢
      by_cases h3 : zo_c3 m9 p n < nI 0
      · rw [if_pos h3]
        exact me
      · rw [if_neg h3] at h ⊢
        by_cases h4 : m9 17 n < m9 17 (zo_c3 m9 p n).toNatClampNeg
        · rw [if_pos h4]
          exact me
        · rw [if_neg h4] at h ⊢
          exact up (ih h)
def zo_cho (m9 : Nat → Nat → Int32) (p : Nat) : Int32 := if zo_c1 m9 p 280 < nI 0 then (if zo_c2 m9 p 280 < nI 0 then zo_c3 m9 p 280 else zo_c2 m9 p 280) else zo_c1 m9 p 280
theorem zo_cho_of {m9 : Nat → Nat → Int32} {p : Nat} (h : ¬ zo_cho m9 p < nI 0) : ∃ s, s < 280 ∧ zo_cho m9 p = nI s := by
  unfold zo_cho at h ⊢
  by_cases h1 : zo_c1 m9 p 280 < nI 0
  · rw [if_pos h1] at h ⊢
    by_cases h2 : zo_c2 m9 p 280 < nI 0
    · rw [if_pos h2] at h ⊢
      exact zo_c3_of 280 (Nat.le_refl _) h
    · rw [if_neg h2] at h ⊢
      exact zo_c2_of 280 (Nat.le_refl _) h
  · rw [if_neg h1] at h ⊢
    exact zo_c1_of 280 (Nat.le_refl _) h
def zo_bs (m9 : Nat → Nat → Int32) : Nat → Int32
  | 0 => (-1)
  | n + 1 => if m9 27 n < nI 0 then zo_bs m9 n else if zo_cho m9 n < nI 0 then zo_bs m9 n else if zo_bs m9 n < nI 0 then nI n else if m9 30 n < m9 30 (zo_bs m9 n).toNatClampNeg then nI n else if m9 30 n = m9 30 (zo_bs m9 n).toNatClampNeg then (if m9 32 n < m9 32 (zo_bs m9 n).toNatClampNeg then nI n else zo_bs m9 n) else zo_bs m9 n
theorem zo_bs_of {m9 : Nat → Nat → Int32} : ∀ n, n ≤ 4 → ¬ zo_bs m9 n < nI 0 → ∃ j, j < n ∧ zo_bs m9 n = nI j ∧ ¬ m9 27 j < nI 0 ∧ ¬ zo_cho m9 j < nI 0
  | 0, _, h => absurd (show (-1 : Int32) < nI 0 by decide) h
  | n + 1, hn, h => by
    have ih := zo_bs_of (m9 := m9) n (by omega)
    have up : (∃ j, j < n ∧ zo_bs m9 n = nI j ∧ ¬ m9 27 j < nI 0 ∧ ¬ zo_cho m9 j < nI 0) → ∃ j, j < n + 1 ∧ zo_bs m9 n = nI j ∧ ¬ m9 27 j < nI 0 ∧ ¬ zo_cho m9 j < nI 0 := fun ⟨j, a, b⟩ => ⟨j, Nat.lt_succ_of_lt a, b⟩
    rw [zo_bs] at h ⊢
    by_cases h1 : m9 27 n < nI 0
    · rw [if_pos h1] at h ⊢
      exact up (ih h)
    · rw [if_neg h1] at h ⊢
      by_cases h2 : zo_cho m9 n < nI 0
      · rw [if_pos h2] at h ⊢
        exact up (ih h)
      · rw [if_neg h2] at h ⊢
        have me : ∃ j, j < n + 1 ∧ nI n = nI j ∧ ¬ m9 27 j < nI 0 ∧ ¬ zo_cho m9 j < nI 0 := ⟨n, Nat.lt_succ_self n, rfl, h1, h2⟩
        by_cases h3 : zo_bs m9 n < nI 0
        · rw [if_pos h3]
          exact me
        · rw [if_neg h3] at h ⊢
          by_cases h4 : m9 30 n < m9 30 (zo_bs m9 n).toNatClampNeg
          · rw [if_pos h4]
            exact me
          · rw [if_neg h4] at h ⊢
            by_cases h5 : m9 30 n = m9 30 (zo_bs m9 n).toNatClampNeg
            · rw [if_pos h5] at h ⊢
              by_cases h6 : m9 32 n < m9 32 (zo_bs m9 n).toNatClampNeg
              · rw [if_pos h6]
                exact me
              · rw [if_neg h6] at h ⊢
                exact up (ih h)
            · rw [if_neg h5] at h ⊢
              exact up (ih h)

set_option maxHeartbeats 4000000 in
set_option maxRecDepth 100000 in
/-- chosen -/
theorem c_Mod_chosen {l : Launch} {D : va_G} {cA : Nat → ClassId} {te mi : Nat} {kd ln : Nat → Nat} {I : Nat → Nat → Int32} {L : Nat → Nat → Int64} {R : Nat → Nat → Option Nat} {X : Nat} {ad : Nat → Nat} {m9 : Nat → Nat → Int32} {q9 : Nat → Nat → Int64} (hm : zoR X ad m9 q9 kd ln I L R) {p9 : Nat} (hp9 : p9 < 4) : zc_M l y_Mod_chosen w_Mod_chosen { frames := 1, cells := 0, slots := 0, locals := 22 } 0 0 D cA te mi ([.ref X, .int (nI p9)] : List Value) kd ln I L R (zo_P (some (.int (zo_cho m9 p9))) X ad m9 q9 kd ln R) := by
  intro sz
  refine Met.ofW (cc := b_Mod_chosen) (maxL := 7) (ret := (some (.int))) (by decide +kernel) rfl ?_
  intro p e s m args below meth c s₁ B hml hv
  obtain ⟨rfl, hsz, hSc, hE, hH⟩ := hv
  have hx := B.exec
  have hb := B.bytes
  have hr := B.returns
  have hts := atoms_spec (ws := w_Mod_chosen) B.pre
  have hw : ∀ {w : Cond}, w ∈ zw → w.before ([.ref X, .int (nI p9)] : List Value).toArray s = true := fun h => hts _ (List.mem_cons_of_mem _ h)
  have hown : s.vm.findClass R_Mod = some m.cls := findClass_of_methodNamed B.named
  have hlocks := B.notSynchronized
  subst hsz
  have hK := hSc.1
  have hH : zh_H D cA (zc_A kd s.heap.size) kd ln I L R s.heap := hH.weaken (fun q h _ => Or.inl h)
  generalize hAe : zc_A kd s.heap.size = A at hH hE ⊢
  have hA : ∀ q : Nat, s.heap.size ≤ q → A q := fun q h => by rw [← hAe]; exact Or.inr h
  have hS : va_S A s.heap s.heap [] := va_S.rf
  have hl := lv_entry ([.ref X, .int (nI p9)] : List Value) (n := 7) (Nat.le_of_ble_eq_true rfl)
  rw [lg_entry_eq]
  generalize (lg_sl ([.ref X, .int (nI p9)] : List Value) ++ List.replicate (7 - (lg_sl ([.ref X, .int (nI p9)] : List Value)).length) Slot.unset).toArray = ls at hl ⊢
  have hl : lv_has ls 7 [(0, .ref X), (1, .int (nI p9))] := hl
  have k17 : kd (ad 17) = 100 := (hm.1.2.1 17 (by decide) (by decide)).2.1
  have n17 : ln (ad 17) = 280 := (hm.1.2.1 17 (by decide) (by decide)).2.2
  have r17 : R X 17 = some (ad 17) := (hm.1.2.1 17 (by decide) (by decide)).1
  have k24 : kd (ad 24) = 100 := (hm.1.2.1 24 (by decide) (by decide)).2.1
  have n24 : ln (ad 24) = 280 := (hm.1.2.1 24 (by decide) (by decide)).2.2
  have r24 : R X 24 = some (ad 24) := (hm.1.2.1 24 (by decide) (by decide)).1
  have k31 : kd (ad 31) = 100 := (hm.1.2.1 31 (by decide) (by decide)).2.1
  have n31 : ln (ad 31) = 4 := (hm.1.2.1 31 (by decide) (by decide)).2.2
  have r31 : R X 31 = some (ad 31) := (hm.1.2.1 31 (by decide) (by decide)).1
  refine lv_iconst (v := (-1)) hx hb d_Mod_chosen_0 (by decide) ?_
  refine lv_istore_n (lv' := [(2, .int (-1)), (0, .ref X), (1, .int (nI p9))]) hx hb d_Mod_chosen_1 rfl hl (by decide) rfl (fun ls hl => ?_)
  refine lv_iconst (v := (-1)) hx hb d_Mod_chosen_2 (by decide) ?_
  refine lv_istore_n (lv' := [(3, .int (-1)), (2, .int (-1)), (0, .ref X), (1, .int (nI p9))]) hx hb d_Mod_chosen_3 rfl hl (by decide) rfl (fun ls hl => ?_)
  refine lv_iconst (v := (-1)) hx hb d_Mod_chosen_4 (by decide) ?_
  refine lv_istore (lv' := [(4, .int (-1)), (3, .int (-1)), (2, .int (-1)), (0, .ref X), (1, .int (nI p9))]) hx hb d_Mod_chosen_5 hl (by decide) rfl (fun ls hl => ?_)
  refine lv_iconst (v := nI 0) hx hb d_Mod_chosen_7 (by decide) ?_
  refine lv_istore (lv' := [(5, .int (nI 0)), (4, .int (-1)), (3, .int (-1)), (2, .int (-1)), (0, .ref X), (1, .int (nI p9))]) hx hb d_Mod_chosen_8 hl (by decide) rfl (fun ls hl => ?_)
  have loop_10 : ∀ (z : Nat) (i : Nat) (I_10 : Nat → Nat → Int32) (L_10 : Nat → Nat → Int64) (H : Heap) (locs : List Loc) (ls : Array Slot), 280 - i < z → (i ≤ 280) → (zoR X ad m9 q9 kd ln I_10 L_10 R) → lv_has ls 7 [(0, .ref X), (1, .int (nI p9)), (2, .int (zo_c1 m9 p9 i)), (3, .int (zo_c2 m9 p9 i)), (4, .int (zo_c3 m9 p9 i)), (5, .int (nI i))] → zh_H D cA A kd ln I_10 L_10 R H → va_S A s.heap H locs → W p l e (headSpec w_Mod_chosen { frames := 1, cells := 0, slots := 0, locals := 22 }).room s m ([.ref X, .int (nI p9)] : List Value).toArray below meth c H locs 0 0 (MQ below (zc_Qc D cA A (zo_P (some (.int (zo_cho m9 p9))) X ad m9 q9 kd ln R)) ([.ref X, .int (nI p9)] : List Value).toArray s 0 0 A) (F0 m 10 ls []) := by
    intro z
    induction z with
    | zero => intro i I_10 L_10 H locs ls hz; exact absurd hz (Nat.not_lt_zero _)
    | succ z ih_10 =>
      intro i I_10 L_10 H locs ls hz_10 hi hm hl hH hS
      refine lv_iload hx hb d_Mod_chosen_10 (lv_at hl 5 rfl) ?_
      refine lv_sipush (v := nI 280) hx hb d_Mod_chosen_12 (by decide) ?_
      refine lv_icmp_ge (tgt := 159) hx hb d_Mod_chosen_15 (by decide) (fun hc1 => ?_) (fun hc1 => ?_)
      · skip
        have hc1 := zt_geT (a := i) (b := 280) (by omega) (by omega) hc1
        have hi2 : i = 280 := by omega
        rw [hi2] at hl
        refine lv_iload_n hx hb d_Mod_chosen_159 rfl (lv_at hl 2 rfl) ?_
        refine lv_if_lt (tgt := 167) hx hb d_Mod_chosen_160 (by decide) (fun hc2 => ?_) (fun hc2 => ?_)
        · skip
          have hc2 : (zo_c1 m9 p9 280) < (nI 0) := hc2
          refine lv_iload_n hx hb d_Mod_chosen_167 rfl (lv_at hl 3 rfl) ?_
          refine lv_if_lt (tgt := 175) hx hb d_Mod_chosen_168 (by decide) (fun hc3 => ?_) (fun hc3 => ?_)
          · skip
            have hc3 : (zo_c2 m9 p9 280) < (nI 0) := hc3
            refine lv_iload hx hb d_Mod_chosen_175 (lv_at hl 4 rfl) ?_
            refine W.widen (k := 0) (n := 0) (Nat.le_of_ble_eq_true rfl) (Nat.le_of_ble_eq_true rfl) ?_
            subst hAe
            exact W.iret (v := zo_c3 m9 p9 280) hx hb hr (fun t ht hW => zc_end hS hH ht (⟨by rw [zo_cho, if_pos hc2, if_pos hc3], rfl, rfl, rfl, hm⟩)) hS.2.2 d_Mod_chosen_177
          · skip
            have hc3 : ¬ (zo_c2 m9 p9 280) < (nI 0) := hc3
            refine lv_iload_n hx hb d_Mod_chosen_171 rfl (lv_at hl 3 rfl) ?_
            refine lv_goto (tgt := 177) hx hb d_Mod_chosen_172 (by decide) ?_
            refine W.widen (k := 0) (n := 0) (Nat.le_of_ble_eq_true rfl) (Nat.le_of_ble_eq_true rfl) ?_
            subst hAe
            exact W.iret (v := zo_c2 m9 p9 280) hx hb hr (fun t ht hW => zc_end hS hH ht (⟨by rw [zo_cho, if_pos hc2, if_neg hc3], rfl, rfl, rfl, hm⟩)) hS.2.2 d_Mod_chosen_177
        · skip
          have hc2 : ¬ (zo_c1 m9 p9 280) < (nI 0) := hc2
          refine lv_iload_n hx hb d_Mod_chosen_163 rfl (lv_at hl 2 rfl) ?_
          refine lv_goto (tgt := 177) hx hb d_Mod_chosen_164 (by decide) ?_
          refine W.widen (k := 0) (n := 0) (Nat.le_of_ble_eq_true rfl) (Nat.le_of_ble_eq_true rfl) ?_
          subst hAe
          exact W.iret (v := zo_c1 m9 p9 280) hx hb hr (fun t ht hW => zc_end hS hH ht (⟨by rw [zo_cho, if_neg hc2], rfl, rfl, rfl, hm⟩)) hS.2.2 d_Mod_chosen_177
      · skip
        have hc1 := zt_geF (a := i) (b := 280) (by omega) (by omega) hc1
        refine lv_aload_n hx hb d_Mod_chosen_18 rfl (lv_at hl 0 rfl) ?_
        refine lv_iload hx hb d_Mod_chosen_19 (lv_at hl 5 rfl) ?_
        refine lv_iload_n hx hb d_Mod_chosen_21 rfl (lv_at hl 1 rfl) ?_
        refine zr_V (As := ([.int (nI i), .int (nI p9)] : List Value)) (rest := []) (b := X) (ci := 6) (q := (R_Mod, T_Mod, 37)) ⟨hx, hb, hml, hown, hts⟩ (c_Mod_isIn hm (by omega) (by omega)) ⟨(callB_of 2 hts (zg_all zw_833) rfl rfl rfl (hw zw_3) (hw zw_830) k_Mod_isIn.2 ⟨Nat.le_of_ble_eq_true rfl, Nat.le_of_ble_eq_true rfl⟩), (hw zw_832), (hw zs_Mod_isIn)⟩ hSc hE hH hS hA rfl (by decide) hm.1.1 rfl hl.1 rfl (Nat.le_of_ble_eq_true rfl) d_Mod_chosen_22 ⟨Nat.le_of_ble_eq_true rfl, Nat.le_of_ble_eq_true rfl⟩ (fun v4 kd4 ln4 I4 L4 R4 H locs hp hH hS => ?_)
        obtain ⟨rfl, rfl, rfl, rfl, hm⟩ := hp
        refine W.eq (g2 := F0 m 25 ls [.int (zo_in m9 i p9)]) rfl ?_
        refine W.widen (k := 0) (n := 0) (by omega) (by omega) ?_
        refine lv_istore (lv' := [(6, .int (zo_in m9 i p9)), (0, .ref X), (1, .int (nI p9)), (2, .int (zo_c1 m9 p9 i)), (3, .int (zo_c2 m9 p9 i)), (4, .int (zo_c3 m9 p9 i)), (5, .int (nI i))]) hx hb d_Mod_chosen_25 hl (by decide) rfl (fun ls hl => ?_)
        have join_69 : ∀ (I_69 : Nat → Nat → Int32) (L_69 : Nat → Nat → Int64) (H : Heap) (locs : List Loc) (ls : Array Slot), (zoR X ad m9 q9 kd ln I_69 L_69 R) → lv_has ls 7 [(0, .ref X), (1, .int (nI p9)), (2, .int (zo_c1 m9 p9 (i + 1))), (3, .int (zo_c2 m9 p9 i)), (4, .int (zo_c3 m9 p9 i)), (5, .int (nI i)), (6, .int (zo_in m9 i p9))] → zh_H D cA A kd ln I_69 L_69 R H → va_S A s.heap H locs → W p l e (headSpec w_Mod_chosen { frames := 1, cells := 0, slots := 0, locals := 22 }).room s m ([.ref X, .int (nI p9)] : List Value).toArray below meth c H locs 0 0 (MQ below (zc_Qc D cA A (zo_P (some (.int (zo_cho m9 p9))) X ad m9 q9 kd ln R)) ([.ref X, .int (nI p9)] : List Value).toArray s 0 0 A) (F0 m 69 ls []) := by
          intro I_69 L_69 H locs ls hm hl hH hS
          have join_105 : ∀ (I_105 : Nat → Nat → Int32) (L_105 : Nat → Nat → Int64) (H : Heap) (locs : List Loc) (ls : Array Slot), (zoR X ad m9 q9 kd ln I_105 L_105 R) → lv_has ls 7 [(0, .ref X), (1, .int (nI p9)), (2, .int (zo_c1 m9 p9 (i + 1))), (3, .int (zo_c2 m9 p9 i)), (4, .int (zo_c3 m9 p9 (i + 1))), (5, .int (nI i)), (6, .int (zo_in m9 i p9))] → zh_H D cA A kd ln I_105 L_105 R H → va_S A s.heap H locs → W p l e (headSpec w_Mod_chosen { frames := 1, cells := 0, slots := 0, locals := 22 }).room s m ([.ref X, .int (nI p9)] : List Value).toArray below meth c H locs 0 0 (MQ below (zc_Qc D cA A (zo_P (some (.int (zo_cho m9 p9))) X ad m9 q9 kd ln R)) ([.ref X, .int (nI p9)] : List Value).toArray s 0 0 A) (F0 m 105 ls []) := by
            intro I_105 L_105 H locs ls hm hl hH hS
            refine lv_iload hx hb d_Mod_chosen_105 (lv_at hl 6 rfl) ?_
            refine lv_if_eq (tgt := 151) hx hb d_Mod_chosen_107 (by decide) (fun hc5 => ?_) (fun hc5 => ?_)
            · skip
              have hc5 : (zo_in m9 i p9) = (nI 0) := hc5
              refine lv_iload_n hx hb d_Mod_chosen_151 rfl (lv_at hl 3 rfl) ?_
              refine lv_istore_n (lv' := [(3, .int (zo_c2 m9 p9 i)), (0, .ref X), (1, .int (nI p9)), (2, .int (zo_c1 m9 p9 (i + 1))), (4, .int (zo_c3 m9 p9 (i + 1))), (5, .int (nI i)), (6, .int (zo_in m9 i p9))]) hx hb d_Mod_chosen_152 rfl hl (by decide) rfl (fun ls hl => ?_)
              refine lv_iinc (k := 5) (v := nI (i + 1)) (lv' := [(5, .int (nI (i + 1))), (3, .int (zo_c2 m9 p9 i)), (0, .ref X), (1, .int (nI p9)), (2, .int (zo_c1 m9 p9 (i + 1))), (4, .int (zo_c3 m9 p9 (i + 1))), (6, .int (zo_in m9 i p9))]) hx hb d_Mod_chosen_153 hl rfl (nI_add i 1) (by decide) rfl (fun ls hl => ?_)
              refine lv_goto (tgt := 10) hx hb d_Mod_chosen_156 (by decide) ?_
              have e6 : zo_c2 m9 p9 (i + 1) = zo_c2 m9 p9 i := by rw [zo_c2, if_pos hc5]
              have hl : lv_has ls 7 [(5, .int (nI (i + 1))), (3, .int (zo_c2 m9 p9 (i + 1))), (0, .ref X), (1, .int (nI p9)), (2, .int (zo_c1 m9 p9 (i + 1))), (4, .int (zo_c3 m9 p9 (i + 1))), (6, .int (zo_in m9 i p9))] := by rw [e6]; exact hl
              exact ih_10 (i + 1) _ _ _ _ _ (by omega) (by omega) hm (lv_sub hl [2, 3, 4, 1, 5, 0] rfl) hH hS
            · skip
              have hc5 : ¬ (zo_in m9 i p9) = (nI 0) := hc5
              refine lv_aload_n hx hb d_Mod_chosen_110 rfl (lv_at hl 0 rfl) ?_
              refine zr_getr (ci := 6) (C := R_Mod) (T := T_Mod) (N := 37) (ref := "ScrubbedRecorderModel") hx hb hts (fun w h => List.mem_cons_of_mem _ (zin_Mod w h)) hown hK hH hm.1.1 (by decide) rfl 17 (by decide) rfl (hw zw_616) (fun _ h9 => h9) d_Mod_chosen_111 (by rw [r17]) ?_
              refine lv_iload hx hb d_Mod_chosen_114 (lv_at hl 5 rfl) ?_
              refine zr_aldi (j := i) hx hb hK hH k17 (by rw [n17]; exact zh_ix_n (by omega) (by omega)) d_Mod_chosen_116 ?_
              refine zt_i (y := m9 17 i) (congrFun (hm.2.1 17 (by decide) (by decide) (by decide)) i) ?_
              refine lv_aload_n hx hb d_Mod_chosen_117 rfl (lv_at hl 0 rfl) ?_
              refine zr_getr (ci := 6) (C := R_Mod) (T := T_Mod) (N := 37) (ref := "ScrubbedRecorderModel") hx hb hts (fun w h => List.mem_cons_of_mem _ (zin_Mod w h)) hown hK hH hm.1.1 (by decide) rfl 31 (by decide) rfl (hw zw_630) (fun _ h9 => h9) d_Mod_chosen_118 (by rw [r31]) ?_
              refine lv_iload_n hx hb d_Mod_chosen_121 rfl (lv_at hl 1 rfl) ?_
              refine zr_aldi (j := p9) hx hb hK hH k31 (by rw [n31]; exact zh_ix_n (by omega) (by omega)) d_Mod_chosen_122 ?_
              refine zt_i (y := m9 31 p9) (congrFun (hm.2.1 31 (by decide) (by decide) (by decide)) p9) ?_
              refine lv_icmp_le (tgt := 151) hx hb d_Mod_chosen_123 (by decide) (fun hc7 => ?_) (fun hc7 => ?_)
              · skip
                have hc7 : ¬ (m9 31 p9) < (m9 17 i) := Int32.not_lt.mpr hc7
                refine lv_iload_n hx hb d_Mod_chosen_151 rfl (lv_at hl 3 rfl) ?_
                refine lv_istore_n (lv' := [(3, .int (zo_c2 m9 p9 i)), (0, .ref X), (1, .int (nI p9)), (2, .int (zo_c1 m9 p9 (i + 1))), (4, .int (zo_c3 m9 p9 (i + 1))), (5, .int (nI i)), (6, .int (zo_in m9 i p9))]) hx hb d_Mod_chosen_152 rfl hl (by decide) rfl (fun ls hl => ?_)
                refine lv_iinc (k := 5) (v := nI (i + 1)) (lv' := [(5, .int (nI (i + 1))), (3, .int (zo_c2 m9 p9 i)), (0, .ref X), (1, .int (nI p9)), (2, .int (zo_c1 m9 p9 (i + 1))), (4, .int (zo_c3 m9 p9 (i + 1))), (6, .int (zo_in m9 i p9))]) hx hb d_Mod_chosen_153 hl rfl (nI_add i 1) (by decide) rfl (fun ls hl => ?_)
                refine lv_goto (tgt := 10) hx hb d_Mod_chosen_156 (by decide) ?_
                have e8 : zo_c2 m9 p9 (i + 1) = zo_c2 m9 p9 i := by rw [zo_c2, if_neg hc5, if_neg hc7]
                have hl : lv_has ls 7 [(5, .int (nI (i + 1))), (3, .int (zo_c2 m9 p9 (i + 1))), (0, .ref X), (1, .int (nI p9)), (2, .int (zo_c1 m9 p9 (i + 1))), (4, .int (zo_c3 m9 p9 (i + 1))), (6, .int (zo_in m9 i p9))] := by rw [e8]; exact hl
                exact ih_10 (i + 1) _ _ _ _ _ (by omega) (by omega) hm (lv_sub hl [2, 3, 4, 1, 5, 0] rfl) hH hS
              · skip
                have hc7 : (m9 31 p9) < (m9 17 i) := Int32.not_le.mp hc7
                refine lv_iload_n hx hb d_Mod_chosen_126 rfl (lv_at hl 3 rfl) ?_
                refine lv_if_lt (tgt := 146) hx hb d_Mod_chosen_127 (by decide) (fun hc9 => ?_) (fun hc9 => ?_)
                · skip
                  have hc9 : (zo_c2 m9 p9 i) < (nI 0) := hc9
                  refine lv_iload hx hb d_Mod_chosen_146 (lv_at hl 5 rfl) ?_
                  refine lv_goto (tgt := 152) hx hb d_Mod_chosen_148 (by decide) ?_
                  refine lv_istore_n (lv' := [(3, .int (nI i)), (0, .ref X), (1, .int (nI p9)), (2, .int (zo_c1 m9 p9 (i + 1))), (4, .int (zo_c3 m9 p9 (i + 1))), (5, .int (nI i)), (6, .int (zo_in m9 i p9))]) hx hb d_Mod_chosen_152 rfl hl (by decide) rfl (fun ls hl => ?_)
                  refine lv_iinc (k := 5) (v := nI (i + 1)) (lv' := [(5, .int (nI (i + 1))), (3, .int (nI i)), (0, .ref X), (1, .int (nI p9)), (2, .int (zo_c1 m9 p9 (i + 1))), (4, .int (zo_c3 m9 p9 (i + 1))), (6, .int (zo_in m9 i p9))]) hx hb d_Mod_chosen_153 hl rfl (nI_add i 1) (by decide) rfl (fun ls hl => ?_)
                  refine lv_goto (tgt := 10) hx hb d_Mod_chosen_156 (by decide) ?_
                  have e10 : zo_c2 m9 p9 (i + 1) = nI i := by rw [zo_c2, if_neg hc5, if_pos hc7, if_pos hc9]
                  have hl : lv_has ls 7 [(5, .int (nI (i + 1))), (3, .int (zo_c2 m9 p9 (i + 1))), (0, .ref X), (1, .int (nI p9)), (2, .int (zo_c1 m9 p9 (i + 1))), (4, .int (zo_c3 m9 p9 (i + 1))), (6, .int (zo_in m9 i p9))] := by rw [e10]; exact hl
                  exact ih_10 (i + 1) _ _ _ _ _ (by omega) (by omega) hm (lv_sub hl [2, 3, 4, 1, 5, 0] rfl) hH hS
                · skip
                  have hc9 : ¬ (zo_c2 m9 p9 i) < (nI 0) := hc9
                  obtain ⟨jc, hjc, ejc⟩ := zo_c2_of i (by omega) hc9
                  have sjc : (zo_c2 m9 p9 i).toNatClampNeg = jc := by rw [ejc]; exact nI_clamp (by omega)
                  have hl : lv_has ls 7 [(0, .ref X), (1, .int (nI p9)), (2, .int (zo_c1 m9 p9 (i + 1))), (3, .int (nI jc)), (4, .int (zo_c3 m9 p9 (i + 1))), (5, .int (nI i)), (6, .int (zo_in m9 i p9))] := by rw [← ejc]; exact hl
                  refine lv_aload_n hx hb d_Mod_chosen_130 rfl (lv_at hl 0 rfl) ?_
                  refine zr_getr (ci := 6) (C := R_Mod) (T := T_Mod) (N := 37) (ref := "ScrubbedRecorderModel") hx hb hts (fun w h => List.mem_cons_of_mem _ (zin_Mod w h)) hown hK hH hm.1.1 (by decide) rfl 17 (by decide) rfl (hw zw_616) (fun _ h9 => h9) d_Mod_chosen_131 (by rw [r17]) ?_
                  refine lv_iload hx hb d_Mod_chosen_134 (lv_at hl 5 rfl) ?_
                  refine zr_aldi (j := i) hx hb hK hH k17 (by rw [n17]; exact zh_ix_n (by omega) (by omega)) d_Mod_chosen_136 ?_
                  refine zt_i (y := m9 17 i) (congrFun (hm.2.1 17 (by decide) (by decide) (by decide)) i) ?_
                  refine lv_aload_n hx hb d_Mod_chosen_137 rfl (lv_at hl 0 rfl) ?_
                  refine zr_getr (ci := 6) (C := R_Mod) (T := T_Mod) (N := 37) (ref := "ScrubbedRecorderModel") hx hb hts (fun w h => List.mem_cons_of_mem _ (zin_Mod w h)) hown hK hH hm.1.1 (by decide) rfl 17 (by decide) rfl (hw zw_616) (fun _ h9 => h9) d_Mod_chosen_138 (by rw [r17]) ?_
                  refine lv_iload_n hx hb d_Mod_chosen_141 rfl (lv_at hl 3 rfl) ?_
                  refine zr_aldi (j := jc) hx hb hK hH k17 (by rw [n17]; exact zh_ix_n (by omega) (by omega)) d_Mod_chosen_142 ?_
                  refine zt_i (y := m9 17 jc) (congrFun (hm.2.1 17 (by decide) (by decide) (by decide)) jc) ?_
                  refine lv_icmp_ge (tgt := 151) hx hb d_Mod_chosen_143 (by decide) (fun hc11 => ?_) (fun hc11 => ?_)
                  · skip
                    have hc11 : ¬ (m9 17 i) < (m9 17 jc) := Int32.not_lt.mpr hc11
                    refine lv_iload_n hx hb d_Mod_chosen_151 rfl (lv_at hl 3 rfl) ?_
                    refine lv_istore_n (lv' := [(3, .int (nI jc)), (0, .ref X), (1, .int (nI p9)), (2, .int (zo_c1 m9 p9 (i + 1))), (4, .int (zo_c3 m9 p9 (i + 1))), (5, .int (nI i)), (6, .int (zo_in m9 i p9))]) hx hb d_Mod_chosen_152 rfl hl (by decide) rfl (fun ls hl => ?_)
                    refine lv_iinc (k := 5) (v := nI (i + 1)) (lv' := [(5, .int (nI (i + 1))), (3, .int (nI jc)), (0, .ref X), (1, .int (nI p9)), (2, .int (zo_c1 m9 p9 (i + 1))), (4, .int (zo_c3 m9 p9 (i + 1))), (6, .int (zo_in m9 i p9))]) hx hb d_Mod_chosen_153 hl rfl (nI_add i 1) (by decide) rfl (fun ls hl => ?_)
                    refine lv_goto (tgt := 10) hx hb d_Mod_chosen_156 (by decide) ?_
                    have e12 : zo_c2 m9 p9 (i + 1) = nI jc := by rw [zo_c2, if_neg hc5, if_pos hc7, if_neg hc9, sjc, if_neg hc11]; exact ejc
                    have hl : lv_has ls 7 [(5, .int (nI (i + 1))), (3, .int (zo_c2 m9 p9 (i + 1))), (0, .ref X), (1, .int (nI p9)), (2, .int (zo_c1 m9 p9 (i + 1))), (4, .int (zo_c3 m9 p9 (i + 1))), (6, .int (zo_in m9 i p9))] := by rw [e12]; exact hl
                    exact ih_10 (i + 1) _ _ _ _ _ (by omega) (by omega) hm (lv_sub hl [2, 3, 4, 1, 5, 0] rfl) hH hS
                  · skip
                    have hc11 : (m9 17 i) < (m9 17 jc) := Int32.not_le.mp hc11
                    refine lv_iload hx hb d_Mod_chosen_146 (lv_at hl 5 rfl) ?_
                    refine lv_goto (tgt := 152) hx hb d_Mod_chosen_148 (by decide) ?_
                    refine lv_istore_n (lv' := [(3, .int (nI i)), (0, .ref X), (1, .int (nI p9)), (2, .int (zo_c1 m9 p9 (i + 1))), (4, .int (zo_c3 m9 p9 (i + 1))), (5, .int (nI i)), (6, .int (zo_in m9 i p9))]) hx hb d_Mod_chosen_152 rfl hl (by decide) rfl (fun ls hl => ?_)
                    refine lv_iinc (k := 5) (v := nI (i + 1)) (lv' := [(5, .int (nI (i + 1))), (3, .int (nI i)), (0, .ref X), (1, .int (nI p9)), (2, .int (zo_c1 m9 p9 (i + 1))), (4, .int (zo_c3 m9 p9 (i + 1))), (6, .int (zo_in m9 i p9))]) hx hb d_Mod_chosen_153 hl rfl (nI_add i 1) (by decide) rfl (fun ls hl => ?_)
                    refine lv_goto (tgt := 10) hx hb d_Mod_chosen_156 (by decide) ?_
                    have e13 : zo_c2 m9 p9 (i + 1) = nI i := by rw [zo_c2, if_neg hc5, if_pos hc7, if_neg hc9, sjc, if_pos hc11]
                    have hl : lv_has ls 7 [(5, .int (nI (i + 1))), (3, .int (zo_c2 m9 p9 (i + 1))), (0, .ref X), (1, .int (nI p9)), (2, .int (zo_c1 m9 p9 (i + 1))), (4, .int (zo_c3 m9 p9 (i + 1))), (6, .int (zo_in m9 i p9))] := by rw [e13]; exact hl
                    exact ih_10 (i + 1) _ _ _ _ _ (by omega) (by omega) hm (lv_sub hl [2, 3, 4, 1, 5, 0] rfl) hH hS
          refine lv_iload hx hb d_Mod_chosen_69 (lv_at hl 6 rfl) ?_
          refine lv_if_eq (tgt := 101) hx hb d_Mod_chosen_71 (by decide) (fun hc14 => ?_) (fun hc14 => ?_)
          · skip
            have hc14 : (zo_in m9 i p9) = (nI 0) := hc14
            refine lv_iload hx hb d_Mod_chosen_101 (lv_at hl 4 rfl) ?_
            refine lv_istore (lv' := [(4, .int (zo_c3 m9 p9 i)), (0, .ref X), (1, .int (nI p9)), (2, .int (zo_c1 m9 p9 (i + 1))), (3, .int (zo_c2 m9 p9 i)), (5, .int (nI i)), (6, .int (zo_in m9 i p9))]) hx hb d_Mod_chosen_103 hl (by decide) rfl (fun ls hl => ?_)
            have e15 : zo_c3 m9 p9 (i + 1) = zo_c3 m9 p9 i := by rw [zo_c3, if_pos hc14]
            have hl : lv_has ls 7 [(4, .int (zo_c3 m9 p9 (i + 1))), (0, .ref X), (1, .int (nI p9)), (2, .int (zo_c1 m9 p9 (i + 1))), (3, .int (zo_c2 m9 p9 i)), (5, .int (nI i)), (6, .int (zo_in m9 i p9))] := by rw [e15]; exact hl
            exact join_105 _ _ _ _ _ hm (lv_sub hl [1, 2, 3, 4, 0, 5, 6] rfl) hH hS
          · skip
            have hc14 : ¬ (zo_in m9 i p9) = (nI 0) := hc14
            refine lv_iload hx hb d_Mod_chosen_74 (lv_at hl 4 rfl) ?_
            refine lv_if_lt (tgt := 96) hx hb d_Mod_chosen_76 (by decide) (fun hc16 => ?_) (fun hc16 => ?_)
            · skip
              have hc16 : (zo_c3 m9 p9 i) < (nI 0) := hc16
              refine lv_iload hx hb d_Mod_chosen_96 (lv_at hl 5 rfl) ?_
              refine lv_goto (tgt := 103) hx hb d_Mod_chosen_98 (by decide) ?_
              refine lv_istore (lv' := [(4, .int (nI i)), (0, .ref X), (1, .int (nI p9)), (2, .int (zo_c1 m9 p9 (i + 1))), (3, .int (zo_c2 m9 p9 i)), (5, .int (nI i)), (6, .int (zo_in m9 i p9))]) hx hb d_Mod_chosen_103 hl (by decide) rfl (fun ls hl => ?_)
              have e17 : zo_c3 m9 p9 (i + 1) = nI i := by rw [zo_c3, if_neg hc14, if_pos hc16]
              have hl : lv_has ls 7 [(4, .int (zo_c3 m9 p9 (i + 1))), (0, .ref X), (1, .int (nI p9)), (2, .int (zo_c1 m9 p9 (i + 1))), (3, .int (zo_c2 m9 p9 i)), (5, .int (nI i)), (6, .int (zo_in m9 i p9))] := by rw [e17]; exact hl
              exact join_105 _ _ _ _ _ hm (lv_sub hl [1, 2, 3, 4, 0, 5, 6] rfl) hH hS
            · skip
              have hc16 : ¬ (zo_c3 m9 p9 i) < (nI 0) := hc16
              obtain ⟨jb, hjb, ejb⟩ := zo_c3_of i (by omega) hc16
              have sjb : (zo_c3 m9 p9 i).toNatClampNeg = jb := by rw [ejb]; exact nI_clamp (by omega)
              have hl : lv_has ls 7 [(0, .ref X), (1, .int (nI p9)), (2, .int (zo_c1 m9 p9 (i + 1))), (3, .int (zo_c2 m9 p9 i)), (4, .int (nI jb)), (5, .int (nI i)), (6, .int (zo_in m9 i p9))] := by rw [← ejb]; exact hl
              refine lv_aload_n hx hb d_Mod_chosen_79 rfl (lv_at hl 0 rfl) ?_
              refine zr_getr (ci := 6) (C := R_Mod) (T := T_Mod) (N := 37) (ref := "ScrubbedRecorderModel") hx hb hts (fun w h => List.mem_cons_of_mem _ (zin_Mod w h)) hown hK hH hm.1.1 (by decide) rfl 17 (by decide) rfl (hw zw_616) (fun _ h9 => h9) d_Mod_chosen_80 (by rw [r17]) ?_
              refine lv_iload hx hb d_Mod_chosen_83 (lv_at hl 5 rfl) ?_
              refine zr_aldi (j := i) hx hb hK hH k17 (by rw [n17]; exact zh_ix_n (by omega) (by omega)) d_Mod_chosen_85 ?_
              refine zt_i (y := m9 17 i) (congrFun (hm.2.1 17 (by decide) (by decide) (by decide)) i) ?_
              refine lv_aload_n hx hb d_Mod_chosen_86 rfl (lv_at hl 0 rfl) ?_
              refine zr_getr (ci := 6) (C := R_Mod) (T := T_Mod) (N := 37) (ref := "ScrubbedRecorderModel") hx hb hts (fun w h => List.mem_cons_of_mem _ (zin_Mod w h)) hown hK hH hm.1.1 (by decide) rfl 17 (by decide) rfl (hw zw_616) (fun _ h9 => h9) d_Mod_chosen_87 (by rw [r17]) ?_
              refine lv_iload hx hb d_Mod_chosen_90 (lv_at hl 4 rfl) ?_
              refine zr_aldi (j := jb) hx hb hK hH k17 (by rw [n17]; exact zh_ix_n (by omega) (by omega)) d_Mod_chosen_92 ?_
              refine zt_i (y := m9 17 jb) (congrFun (hm.2.1 17 (by decide) (by decide) (by decide)) jb) ?_
              refine lv_icmp_ge (tgt := 101) hx hb d_Mod_chosen_93 (by decide) (fun hc18 => ?_) (fun hc18 => ?_)
              · skip
                have hc18 : ¬ (m9 17 i) < (m9 17 jb) := Int32.not_lt.mpr hc18
                refine lv_iload hx hb d_Mod_chosen_101 (lv_at hl 4 rfl) ?_
                refine lv_istore (lv' := [(4, .int (nI jb)), (0, .ref X), (1, .int (nI p9)), (2, .int (zo_c1 m9 p9 (i + 1))), (3, .int (zo_c2 m9 p9 i)), (5, .int (nI i)), (6, .int (zo_in m9 i p9))]) hx hb d_Mod_chosen_103 hl (by decide) rfl (fun ls hl => ?_)
                have e19 : zo_c3 m9 p9 (i + 1) = nI jb := by rw [zo_c3, if_neg hc14, if_neg hc16, sjb, if_neg hc18]; exact ejb
                have hl : lv_has ls 7 [(4, .int (zo_c3 m9 p9 (i + 1))), (0, .ref X), (1, .int (nI p9)), (2, .int (zo_c1 m9 p9 (i + 1))), (3, .int (zo_c2 m9 p9 i)), (5, .int (nI i)), (6, .int (zo_in m9 i p9))] := by rw [e19]; exact hl
                exact join_105 _ _ _ _ _ hm (lv_sub hl [1, 2, 3, 4, 0, 5, 6] rfl) hH hS
              · skip
                have hc18 : (m9 17 i) < (m9 17 jb) := Int32.not_le.mp hc18
                refine lv_iload hx hb d_Mod_chosen_96 (lv_at hl 5 rfl) ?_
                refine lv_goto (tgt := 103) hx hb d_Mod_chosen_98 (by decide) ?_
                refine lv_istore (lv' := [(4, .int (nI i)), (0, .ref X), (1, .int (nI p9)), (2, .int (zo_c1 m9 p9 (i + 1))), (3, .int (zo_c2 m9 p9 i)), (5, .int (nI i)), (6, .int (zo_in m9 i p9))]) hx hb d_Mod_chosen_103 hl (by decide) rfl (fun ls hl => ?_)
                have e20 : zo_c3 m9 p9 (i + 1) = nI i := by rw [zo_c3, if_neg hc14, if_neg hc16, sjb, if_pos hc18]
                have hl : lv_has ls 7 [(4, .int (zo_c3 m9 p9 (i + 1))), (0, .ref X), (1, .int (nI p9)), (2, .int (zo_c1 m9 p9 (i + 1))), (3, .int (zo_c2 m9 p9 i)), (5, .int (nI i)), (6, .int (zo_in m9 i p9))] := by rw [e20]; exact hl
                exact join_105 _ _ _ _ _ hm (lv_sub hl [1, 2, 3, 4, 0, 5, 6] rfl) hH hS
        refine lv_iload hx hb d_Mod_chosen_27 (lv_at hl 0 rfl) ?_
        refine lv_if_eq (tgt := 67) hx hb d_Mod_chosen_29 (by decide) (fun hc21 => ?_) (fun hc21 => ?_)
        · skip
          have hc21 : (zo_in m9 i p9) = (nI 0) := hc21
          refine lv_iload_n hx hb d_Mod_chosen_67 rfl (lv_at hl 3 rfl) ?_
          refine lv_istore_n (lv' := [(2, .int (zo_c1 m9 p9 i)), (6, .int (zo_in m9 i p9)), (0, .ref X), (1, .int (nI p9)), (3, .int (zo_c2 m9 p9 i)), (4, .int (zo_c3 m9 p9 i)), (5, .int (nI i))]) hx hb d_Mod_chosen_68 rfl hl (by decide) rfl (fun ls hl => ?_)
          have e22 : zo_c1 m9 p9 (i + 1) = zo_c1 m9 p9 i := by rw [zo_c1, if_pos hc21]
          have hl : lv_has ls 7 [(2, .int (zo_c1 m9 p9 (i + 1))), (6, .int (zo_in m9 i p9)), (0, .ref X), (1, .int (nI p9)), (3, .int (zo_c2 m9 p9 i)), (4, .int (zo_c3 m9 p9 i)), (5, .int (nI i))] := by rw [e22]; exact hl
          exact join_69 _ _ _ _ _ hm (lv_sub hl [2, 3, 0, 4, 5, 6, 1] rfl) hH hS
        · skip
          have hc21 : ¬ (zo_in m9 i p9) = (nI 0) := hc21
          refine lv_aload_n hx hb d_Mod_chosen_32 rfl (lv_at hl 1 rfl) ?_
          refine zr_getr (ci := 6) (C := R_Mod) (T := T_Mod) (N := 37) (ref := "ScrubbedRecorderModel") hx hb hts (fun w h => List.mem_cons_of_mem _ (zin_Mod w h)) hown hK hH hm.1.1 (by decide) rfl 24 (by decide) rfl (hw zw_623) (fun _ h9 => h9) d_Mod_chosen_33 (by rw [r24]) ?_
          refine lv_iload hx hb d_Mod_chosen_36 (lv_at hl 6 rfl) ?_
          refine zr_aldi (j := i) hx hb hK hH k24 (by rw [n24]; exact zh_ix_n (by omega) (by omega)) d_Mod_chosen_38 ?_
          refine zt_i (y := m9 24 i) (congrFun (hm.2.1 24 (by decide) (by decide) (by decide)) i) ?_
          refine lv_if_le (tgt := 67) hx hb d_Mod_chosen_39 (by decide) (fun hc23 => ?_) (fun hc23 => ?_)
          · skip
            have hc23 : ¬ (nI 0) < (m9 24 i) := Int32.not_lt.mpr hc23
            refine lv_iload_n hx hb d_Mod_chosen_67 rfl (lv_at hl 3 rfl) ?_
            refine lv_istore_n (lv' := [(2, .int (zo_c1 m9 p9 i)), (6, .int (zo_in m9 i p9)), (0, .ref X), (1, .int (nI p9)), (3, .int (zo_c2 m9 p9 i)), (4, .int (zo_c3 m9 p9 i)), (5, .int (nI i))]) hx hb d_Mod_chosen_68 rfl hl (by decide) rfl (fun ls hl => ?_)
            have e24 : zo_c1 m9 p9 (i + 1) = zo_c1 m9 p9 i := by rw [zo_c1, if_neg hc21, if_neg hc23]
            have hl : lv_has ls 7 [(2, .int (zo_c1 m9 p9 (i + 1))), (6, .int (zo_in m9 i p9)), (0, .ref X), (1, .int (nI p9)), (3, .int (zo_c2 m9 p9 i)), (4, .int (zo_c3 m9 p9 i)), (5, .int (nI i))] := by rw [e24]; exact hl
            exact join_69 _ _ _ _ _ hm (lv_sub hl [2, 3, 0, 4, 5, 6, 1] rfl) hH hS
          · skip
            have hc23 : (nI 0) < (m9 24 i) := Int32.not_le.mp hc23
            refine lv_iload_n hx hb d_Mod_chosen_42 rfl (lv_at hl 3 rfl) ?_
            refine lv_if_lt (tgt := 62) hx hb d_Mod_chosen_43 (by decide) (fun hc25 => ?_) (fun hc25 => ?_)
            · skip
              have hc25 : (zo_c1 m9 p9 i) < (nI 0) := hc25
              refine lv_iload hx hb d_Mod_chosen_62 (lv_at hl 6 rfl) ?_
              refine lv_goto (tgt := 68) hx hb d_Mod_chosen_64 (by decide) ?_
              refine lv_istore_n (lv' := [(2, .int (nI i)), (6, .int (zo_in m9 i p9)), (0, .ref X), (1, .int (nI p9)), (3, .int (zo_c2 m9 p9 i)), (4, .int (zo_c3 m9 p9 i)), (5, .int (nI i))]) hx hb d_Mod_chosen_68 rfl hl (by decide) rfl (fun ls hl => ?_)
              have e26 : zo_c1 m9 p9 (i + 1) = nI i := by rw [zo_c1, if_neg hc21, if_pos hc23, if_pos hc25]
              have hl : lv_has ls 7 [(2, .int (zo_c1 m9 p9 (i + 1))), (6, .int (zo_in m9 i p9)), (0, .ref X), (1, .int (nI p9)), (3, .int (zo_c2 m9 p9 i)), (4, .int (zo_c3 m9 p9 i)), (5, .int (nI i))] := by rw [e26]; exact hl
              exact join_69 _ _ _ _ _ hm (lv_sub hl [2, 3, 0, 4, 5, 6, 1] rfl) hH hS
            · skip
              have hc25 : ¬ (zo_c1 m9 p9 i) < (nI 0) := hc25
              obtain ⟨ja, hja, eja⟩ := zo_c1_of i (by omega) hc25
              have sja : (zo_c1 m9 p9 i).toNatClampNeg = ja := by rw [eja]; exact nI_clamp (by omega)
              have hl : lv_has ls 7 [(6, .int (zo_in m9 i p9)), (0, .ref X), (1, .int (nI p9)), (2, .int (nI ja)), (3, .int (zo_c2 m9 p9 i)), (4, .int (zo_c3 m9 p9 i)), (5, .int (nI i))] := by rw [← eja]; exact hl
              refine lv_aload_n hx hb d_Mod_chosen_46 rfl (lv_at hl 1 rfl) ?_
              refine zr_getr (ci := 6) (C := R_Mod) (T := T_Mod) (N := 37) (ref := "ScrubbedRecorderModel") hx hb hts (fun w h => List.mem_cons_of_mem _ (zin_Mod w h)) hown hK hH hm.1.1 (by decide) rfl 24 (by decide) rfl (hw zw_623) (fun _ h9 => h9) d_Mod_chosen_47 (by rw [r24]) ?_
              refine lv_iload hx hb d_Mod_chosen_50 (lv_at hl 6 rfl) ?_
              refine zr_aldi (j := i) hx hb hK hH k24 (by rw [n24]; exact zh_ix_n (by omega) (by omega)) d_Mod_chosen_52 ?_
              refine zt_i (y := m9 24 i) (congrFun (hm.2.1 24 (by decide) (by decide) (by decide)) i) ?_
              refine lv_aload_n hx hb d_Mod_chosen_53 rfl (lv_at hl 1 rfl) ?_
              refine zr_getr (ci := 6) (C := R_Mod) (T := T_Mod) (N := 37) (ref := "ScrubbedRecorderModel") hx hb hts (fun w h => List.mem_cons_of_mem _ (zin_Mod w h)) hown hK hH hm.1.1 (by decide) rfl 24 (by decide) rfl (hw zw_623) (fun _ h9 => h9) d_Mod_chosen_54 (by rw [r24]) ?_
              refine lv_iload_n hx hb d_Mod_chosen_57 rfl (lv_at hl 3 rfl) ?_
              refine zr_aldi (j := ja) hx hb hK hH k24 (by rw [n24]; exact zh_ix_n (by omega) (by omega)) d_Mod_chosen_58 ?_
              refine zt_i (y := m9 24 ja) (congrFun (hm.2.1 24 (by decide) (by decide) (by decide)) ja) ?_
              refine lv_icmp_ge (tgt := 67) hx hb d_Mod_chosen_59 (by decide) (fun hc27 => ?_) (fun hc27 => ?_)
              · skip
                have hc27 : ¬ (m9 24 i) < (m9 24 ja) := Int32.not_lt.mpr hc27
                refine lv_iload_n hx hb d_Mod_chosen_67 rfl (lv_at hl 3 rfl) ?_
                refine lv_istore_n (lv' := [(2, .int (nI ja)), (6, .int (zo_in m9 i p9)), (0, .ref X), (1, .int (nI p9)), (3, .int (zo_c2 m9 p9 i)), (4, .int (zo_c3 m9 p9 i)), (5, .int (nI i))]) hx hb d_Mod_chosen_68 rfl hl (by decide) rfl (fun ls hl => ?_)
                have e28 : zo_c1 m9 p9 (i + 1) = nI ja := by rw [zo_c1, if_neg hc21, if_pos hc23, if_neg hc25, sja, if_neg hc27]; exact eja
                have hl : lv_has ls 7 [(2, .int (zo_c1 m9 p9 (i + 1))), (6, .int (zo_in m9 i p9)), (0, .ref X), (1, .int (nI p9)), (3, .int (zo_c2 m9 p9 i)), (4, .int (zo_c3 m9 p9 i)), (5, .int (nI i))] := by rw [e28]; exact hl
                exact join_69 _ _ _ _ _ hm (lv_sub hl [2, 3, 0, 4, 5, 6, 1] rfl) hH hS
              · skip
                have hc27 : (m9 24 i) < (m9 24 ja) := Int32.not_le.mp hc27
                refine lv_iload hx hb d_Mod_chosen_62 (lv_at hl 6 rfl) ?_
                refine lv_goto (tgt := 68) hx hb d_Mod_chosen_64 (by decide) ?_
                refine lv_istore_n (lv' := [(2, .int (nI i)), (6, .int (zo_in m9 i p9)), (0, .ref X), (1, .int (nI p9)), (3, .int (zo_c2 m9 p9 i)), (4, .int (zo_c3 m9 p9 i)), (5, .int (nI i))]) hx hb d_Mod_chosen_68 rfl hl (by decide) rfl (fun ls hl => ?_)
                have e29 : zo_c1 m9 p9 (i + 1) = nI i := by rw [zo_c1, if_neg hc21, if_pos hc23, if_neg hc25, sja, if_pos hc27]
                have hl : lv_has ls 7 [(2, .int (zo_c1 m9 p9 (i + 1))), (6, .int (zo_in m9 i p9)), (0, .ref X), (1, .int (nI p9)), (3, .int (zo_c2 m9 p9 i)), (4, .int (zo_c3 m9 p9 i)), (5, .int (nI i))] := by rw [e29]; exact hl
                exact join_69 _ _ _ _ _ hm (lv_sub hl [2, 3, 0, 4, 5, 6, 1] rfl) hH hS
  exact loop_10 _ 0 _ _ _ _ _ (Nat.lt_succ_self _) (by omega) hm (lv_sub hl [4, 5, 3, 2, 1, 0] rfl) hH hS

set_option maxHeartbeats 4000000 in
set_option maxRecDepth 100000 in
/-- confirm, refused -/
theorem c_Mod_confirm_B {l : Launch} {D : va_G} {cA : Nat → ClassId} {te mi : Nat} {kd ln : Nat → Nat} {I : Nat → Nat → Int32} {L : Nat → Nat → Int64} {R : Nat → Nat → Option Nat} {X : Nat} {ad : Nat → Nat} {m9 : Nat → Nat → Int32} {q9 : Nat → Nat → Int64} (hm : zoR X ad m9 q9 kd ln I L R) {x a b : Int32} (hbad : zo_made (m9 7) x = nI 0 ∨ b < a) : zc_M l y_Mod_confirm w_Mod_confirm { frames := 4, cells := 0, slots := 0, locals := 90 } 0 0 D cA te mi ([.ref X, .int x, .int a, .int b] : List Value) kd ln I L R (zo_P (some (.int (-2))) X ad m9 q9 kd ln R) := by
  intro sz
  refine Met.ofW (cc := b_Mod_confirm) (maxL := 6) (ret := (some (.int))) (by decide +kernel) rfl ?_
  intro p e s m args below meth c s₁ B hml hv
  obtain ⟨rfl, hsz, hSc, hE, hH⟩ := hv
  have hx := B.exec
  have hb := B.bytes
  have hr := B.returns
  have hts := atoms_spec (ws := w_Mod_confirm) B.pre
  have hw : ∀ {w : Cond}, w ∈ zw → w.before ([.ref X, .int x, .int a, .int b] : List Value).toArray s = true := fun h => hts _ (List.mem_cons_of_mem _ h)
  have hown : s.vm.findClass R_Mod = some m.cls := findClass_of_methodNamed B.named
  have hlocks := B.notSynchronized
  subst hsz
  have hK := hSc.1
  have hH : zh_H D cA (zc_A kd s.heap.size) kd ln I L R s.heap := hH.weaken (fun q h _ => Or.inl h)
  generalize hAe : zc_A kd s.heap.size = A at hH hE ⊢
  have hA : ∀ q : Nat, s.heap.size ≤ q → A q := fun q h => by rw [← hAe]; exact Or.inr h
  have hS : va_S A s.heap s.heap [] := va_S.rf
  have hl := lv_entry ([.ref X, .int x, .int a, .int b] : List Value) (n := 6) (Nat.le_of_ble_eq_true rfl)
  rw [lg_entry_eq]
  generalize (lg_sl ([.ref X, .int x, .int a, .int b] : List Value) ++ List.replicate (6 - (lg_sl ([.ref X, .int x, .int a, .int b] : List Value)).length) Slot.unset).toArray = ls at hl ⊢
  have hl : lv_has ls 6 [(0, .ref X), (1, .int x), (2, .int a), (3, .int b)] := hl
  have k16 : kd (ad 16) = 100 := (hm.1.2.1 16 (by decide) (by decide)).2.1
  have n16 : ln (ad 16) = 280 := (hm.1.2.1 16 (by decide) (by decide)).2.2
  have r16 : R X 16 = some (ad 16) := (hm.1.2.1 16 (by decide) (by decide)).1
  have k17 : kd (ad 17) = 100 := (hm.1.2.1 17 (by decide) (by decide)).2.1
  have n17 : ln (ad 17) = 280 := (hm.1.2.1 17 (by decide) (by decide)).2.2
  have r17 : R X 17 = some (ad 17) := (hm.1.2.1 17 (by decide) (by decide)).1
  have k22 : kd (ad 22) = 103 := (hm.1.2.1 22 (by decide) (by decide)).2.1
  have n22 : ln (ad 22) = 280 := (hm.1.2.1 22 (by decide) (by decide)).2.2
  have r22 : R X 22 = some (ad 22) := (hm.1.2.1 22 (by decide) (by decide)).1
  have k24 : kd (ad 24) = 100 := (hm.1.2.1 24 (by decide) (by decide)).2.1
  have n24 : ln (ad 24) = 280 := (hm.1.2.1 24 (by decide) (by decide)).2.2
  have r24 : R X 24 = some (ad 24) := (hm.1.2.1 24 (by decide) (by decide)).1
  refine lv_aload_n hx hb d_Mod_confirm_0 rfl (lv_at hl 0 rfl) ?_
  refine lv_iload_n hx hb d_Mod_confirm_1 rfl (lv_at hl 1 rfl) ?_
  refine zr_V (As := ([.int x] : List Value)) (rest := []) (b := X) (ci := 6) (q := (R_Mod, T_Mod, 37)) ⟨hx, hb, hml, hown, hts⟩ (c_Mod_isMade hm ) ⟨(callB_of 1 hts (zg_all zw_757) rfl rfl rfl (hw zw_3) (hw zw_754) k_Mod_isMade.2 ⟨Nat.le_of_ble_eq_true rfl, Nat.le_of_ble_eq_true rfl⟩), (hw zw_756), (hw zs_Mod_isMade)⟩ hSc hE hH hS hA rfl (by decide) hm.1.1 rfl hl.1 rfl (Nat.le_of_ble_eq_true rfl) d_Mod_confirm_2 ⟨Nat.le_of_ble_eq_true rfl, Nat.le_of_ble_eq_true rfl⟩ (fun v1 kd1 ln1 I1 L1 R1 H locs hp hH hS => ?_)
  obtain ⟨rfl, rfl, rfl, rfl, hm⟩ := hp
  refine W.eq (g2 := F0 m 5 ls [.int (zo_made (m9 7) x)]) rfl ?_
  refine W.widen (k := 0) (n := 0) (by omega) (by omega) ?_
  refine lv_if_eq (tgt := 13) hx hb d_Mod_confirm_5 (by decide) (fun hc2 => ?_) (fun hc2 => ?_)
  · skip
    have hc2 : (zo_made (m9 7) x) = (nI 0) := hc2
    refine lv_bipush (v := (-2)) hx hb d_Mod_confirm_13 (by decide) ?_
    refine W.widen (k := 0) (n := 0) (Nat.le_of_ble_eq_true rfl) (Nat.le_of_ble_eq_true rfl) ?_
    subst hAe
    exact W.iret (v := (-2)) hx hb hr (fun t ht hW => zc_end hS hH ht (⟨rfl, rfl, rfl, rfl, hm⟩)) hS.2.2 d_Mod_confirm_15
  · skip
    have hc2 : ¬ (zo_made (m9 7) x) = (nI 0) := hc2
    refine lv_iload_n hx hb d_Mod_confirm_8 rfl (lv_at hl 2 rfl) ?_
    refine lv_iload_n hx hb d_Mod_confirm_9 rfl (lv_at hl 3 rfl) ?_
    refine lv_icmp_le (tgt := 16) hx hb d_Mod_confirm_10 (by decide) (fun hc3 => ?_) (fun hc3 => ?_)
    · skip
      have hc3 : ¬ b < a := Int32.not_lt.mpr hc3
      exact absurd hbad (fun q => q.elim (by assumption) (by assumption))
    · skip
      have hc3 : b < a := Int32.not_le.mp hc3
      refine lv_bipush (v := (-2)) hx hb d_Mod_confirm_13 (by decide) ?_
      refine W.widen (k := 0) (n := 0) (Nat.le_of_ble_eq_true rfl) (Nat.le_of_ble_eq_true rfl) ?_
      subst hAe
      exact W.iret (v := (-2)) hx hb hr (fun t ht hW => zc_end hS hH ht (⟨rfl, rfl, rfl, rfl, hm⟩)) hS.2.2 d_Mod_confirm_15
