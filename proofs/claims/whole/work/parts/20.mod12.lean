theorem zt_sa {a b d : Nat} (h : b ≤ a + d) : nI a - nI b + nI d = nI (a + d - b) := by
  have e : nI (a + d) = nI (a + d - b) + nI b := by rw [nI_add, Nat.sub_add_cancel h]
  have e2 : nI a + nI d = nI (a + d - b) + nI b := by rw [nI_add]; exact e
  have e3 : nI a = nI (a + d - b) + nI b - nI d := by rw [← e2, Int32.add_sub_cancel]
  rw [e3]
  simp only [Int32.sub_eq_add_neg]
  rw [Int32.add_assoc, Int32.add_assoc, Int32.add_assoc]
  rw [Int32.add_comm (nI b) (-nI d + (-nI b + nI d)), Int32.add_comm (-nI b) (nI d), ← Int32.add_assoc (-nI d), Int32.add_left_neg, Int32.zero_add, Int32.add_left_neg, Int32.add_zero]
/-- a page is opened for store k, the first one freed where the chain has its quota -/
def zo_opn (k : Nat) (z : (Nat → Nat → Int32) × (Nat → Nat → Int64)) : (Nat → Nat → Int32) × (Nat → Nat → Int64) := if z.1 12 k = z.1 9 k then zo_op k ((z.1 12 k).toNatClampNeg - 1) (zo_fr k (z.1 12 k).toNatClampNeg z) else zo_op k (z.1 12 k).toNatClampNeg z
def zo_rwa (k : Nat) (z : (Nat → Nat → Int32) × (Nat → Nat → Int64)) : (Nat → Nat → Int32) × (Nat → Nat → Int64) := if z.1 13 k = nI 16 then zo_opn k z else z
/-- the last page of store k's chain -/
def zo_lp (m9 : Nat → Nat → Int32) (k : Nat) : Nat := (m9 14 (40 * k + (m9 12 k).toNatClampNeg - 1)).toNatClampNeg
def zo_fl (m9 : Nat → Nat → Int32) (k : Nat) : Nat := (m9 13 k).toNatClampNeg
/-- word w of the packet at place s is written, behind a page opened -/
def zo_rwb (k s w : Nat) (z : (Nat → Nat → Int32) × (Nat → Nat → Int64)) : (Nat → Nat → Int32) × (Nat → Nat → Int64) := (zu (zu z.1 21 s (if w = 0 then nI (zo_lp z.1 k) else z.1 21 s)) 13 k (nI (zo_fl z.1 k + 1)), zb_wr 0 (zo_lp z.1 k) (zo_fl z.1 k) z.2)
def zo_rwn (k s : Nat) : Nat → (Nat → Nat → Int32) × (Nat → Nat → Int64) → (Nat → Nat → Int32) × (Nat → Nat → Int64)
  | 0, z => z
  | n + 1, z => zo_rwb k s n (zo_rwa k (zo_rwn k s n z))
/-- what the writing of a word wants of the state -/
def zo_ok (k : Nat) (z : (Nat → Nat → Int32) × (Nat → Nat → Int64)) : Prop := ∃ c fl qu, zo_pgs z.1 k c ∧ z.1 13 k = nI fl ∧ 3 ≤ fl ∧ fl ≤ 16 ∧ z.1 9 k = nI qu ∧ 1 ≤ qu ∧ qu ≤ 40 ∧ c ≤ qu ∧ (fl = 16 ∨ 1 ≤ c) ∧ (c < qu → zo_lf (z.1 15) 40 < 40)
def zo_okb (k : Nat) (z : (Nat → Nat → Int32) × (Nat → Nat → Int64)) : Prop := ∃ c fl, zo_pgs z.1 k c ∧ z.1 13 k = nI fl ∧ 3 ≤ fl ∧ fl < 16 ∧ 1 ≤ c
theorem zo_pgs_op {m9 : Nat → Nat → Int32} {k c g : Nat} (h : zo_pgs m9 k c) (hc : c < 40) (hg : g < 40) : zo_pgs (zo_opI m9 k c g) k (c + 1) := by
  refine ⟨?_, by omega, fun i hi => ?_⟩
  · unfold zo_opI
    rw [zu_ne _ _ _ (show (12 : Nat) ≠ 13 by decide), zu_self]
  · unfold zo_opI
    rw [zu_ne _ _ _ (show (14 : Nat) ≠ 13 by decide), zu_ne _ _ _ (show (14 : Nat) ≠ 12 by decide)]
    by_cases e : i = c
    · rw [e, zu_self]
      exact ⟨g, hg, rfl⟩
    · rw [zu_k _ _ _ _ (show 40 * k + i ≠ 40 * k + c by omega), zu_ne _ _ _ (show (14 : Nat) ≠ 15 by decide)]
      exact h.2.2 i (by omega)
theorem zo_op_13 {k c : Nat} {z : (Nat → Nat → Int32) × (Nat → Nat → Int64)} : (zo_op k c z).1 13 k = nI 3 := by
  show zo_opI z.1 k c (zo_lf (z.1 15) 40) 13 k = nI 3
  unfold zo_opI
  rw [zu_self]
theorem zo_opn_N {k c qu : Nat} {z : (Nat → Nat → Int32) × (Nat → Nat → Int64)} (h1 : z.1 12 k = nI c) (h2 : z.1 9 k = nI qu) (hc : c < 2 ^ 31) (hq : qu < 2 ^ 31) (h : ¬ c = qu) : zo_opn k z = zo_op k c z := by
  unfold zo_opn
  rw [h1, h2, if_neg (fun e => h ((nI_eq hc hq).mp e)), nI_clamp hc]
theorem zo_opn_F {k c qu : Nat} {z : (Nat → Nat → Int32) × (Nat → Nat → Int64)} (h1 : z.1 12 k = nI c) (h2 : z.1 9 k = nI qu) (hc : c < 2 ^ 31) (h : c = qu) : zo_opn k z = zo_op k (c - 1) (zo_fr k c z) := by
  unfold zo_opn
  rw [h1, h2, if_pos (by rw [h]), nI_clamp hc]
theorem zo_okb_opn {k : Nat} {z : (Nat → Nat → Int32) × (Nat → Nat → Int64)} (h : zo_ok k z) : zo_okb k (zo_opn k z) := by
  obtain ⟨c, fl, qu, h1, h2, h3, h4, h5, h6, h7, h8, h9, h10⟩ := h
  have h40 := h1.2.1
  by_cases e : c = qu
  · rw [zo_opn_F h1.1 h5 (by omega) e]
    have hp := zo_pgs_0 h1 (by omega)
    have f15 : zo_frI z.1 k c (zo_pg z.1 k) 15 (zo_pg z.1 k) = nI 0 := zo_frI_15
    refine ⟨c - 1 + 1, 3, zo_pgs_op (zo_pgs_fr h1) (by omega) (zo_lf_lt hp.2 f15), zo_op_13, by decide, by decide, by omega⟩
  · rw [zo_opn_N h1.1 h5 (by omega) (by omega) e]
    exact ⟨c + 1, 3, zo_pgs_op h1 (by omega) (h10 (by omega)), zo_op_13, by decide, by decide, by omega⟩
theorem zo_okb_rwa {k : Nat} {z : (Nat → Nat → Int32) × (Nat → Nat → Int64)} (h : zo_ok k z) : zo_okb k (zo_rwa k z) := by
  unfold zo_rwa
  by_cases e : z.1 13 k = nI 16
  · rw [if_pos e]
    exact zo_okb_opn h
  · rw [if_neg e]
    obtain ⟨c, fl, qu, h1, h2, h3, h4, h5, h6, h7, h8, h9, h10⟩ := h
    have hne : ¬ fl = 16 := fun q => e (by rw [h2, q])
    exact ⟨c, fl, h1, h2, h3, by omega, by omega⟩
/-- the packet's own rows, behind its words -/
def zo_rcI (m9 : Nat → Nat → Int32) (k s : Nat) (x a t n : Int32) : Nat → Nat → Int32 := zu (zu (zu (zu (zu (zu (zu (zu m9 16 s x) 17 s (m9 10 k)) 18 s a) 19 s t) 20 s n) 22 s (nI 0)) 23 s (nI 0)) 24 s (nI 0)
def zo_rcJ (m9 : Nat → Nat → Int32) (k s : Nat) (x a t n : Int32) : Nat → Nat → Int32 := zu (zu (zo_rcI m9 k s x a t n) 10 k (m9 10 k + nI 1)) 11 k t
def zo_z8 (f : Nat → Int64) (s n : Nat) : Nat → Int64 := fun t => if 8 * s ≤ t ∧ t < 8 * s + n then 0 else f t
theorem zo_z8_z (f : Nat → Int64) (s : Nat) : zo_z8 f s 0 = f := by
  funext t
  unfold zo_z8
  rw [if_neg (by omega)]
theorem zo_z8_s (q9 : Nat → Nat → Int64) (f : Nat → Int64) (s n : Nat) : zu (va_up q9 25 (zo_z8 f s n)) 25 (8 * s + n) 0 = va_up q9 25 (zo_z8 f s (n + 1)) := by
  rw [zu_up]
  congr 1
  funext t
  by_cases e : t = 8 * s + n
  · subst e
    rw [va_up_self]
    unfold zo_z8
    rw [if_pos (by omega)]
  · rw [va_up_ne _ _ e]
    unfold zo_z8
    by_cases h2 : 8 * s ≤ t ∧ t < 8 * s + n
    · rw [if_pos h2, if_pos (by omega)]
    · rw [if_neg h2, if_neg (by omega)]
/-- bytes below n of b are put into the words of place s -/
def zo_dt (f : Nat → Int64) (b : Nat → Int32) (s : Nat) : Nat → Nat → Int64
  | 0 => f
  | n + 1 => va_up (zo_dt f b s n) (8 * s + n / 8) (zo_dt f b s n (8 * s + n / 8) ||| ((b n).toInt64 <<< ((nI (8 * (n % 8))).toInt64 &&& 63)))
def zo_dtQ (q9 : Nat → Nat → Int64) (b : Nat → Int32) (s n : Nat) : Nat → Nat → Int64 := va_up q9 25 (zo_dt (zo_z8 (q9 25) s 8) b s n)
/-- a packet that is recorded: the state ahead of the pruning -/
def zo_rec (m9 : Nat → Nat → Int32) (q9 : Nat → Nat → Int64) (k s : Nat) (a t : Int32) (n : Nat) : (Nat → Nat → Int32) × (Nat → Nat → Int64) := (zo_rcJ (zo_rwn k s (2 + (n + 3) / 4) (m9, q9)).1 k s (nI k) a t (nI n), zo_dtQ (zo_rwn k s (2 + (n + 3) / 4) (m9, q9)).2 ((zo_rwn k s (2 + (n + 3) / 4) (m9, q9)).1 34) s n)
def zo_prn (k c : Nat) (z : (Nat → Nat → Int32) × (Nat → Nat → Int64)) : (Nat → Nat → Int32) × (Nat → Nat → Int64) := if z.1 8 k = nI 0 then zo_pr k c z else z
/-- is a call of record refused -/
def zo_rb (m9 : Nat → Nat → Int32) (x a t n : Int32) : Prop := zo_made (m9 7) x = nI 0 ∨ a < nI 0 ∨ nI 255 < a ∨ n < nI 0 ∨ nI 60 < n ∨ t < m9 11 x.toNatClampNeg

set_option maxHeartbeats 4000000 in
set_option maxRecDepth 100000 in
/-- record, refused -/
theorem c_Mod_record_B {l : Launch} {D : va_G} {cA : Nat → ClassId} {te mi : Nat} {kd ln : Nat → Nat} {I : Nat → Nat → Int32} {L : Nat → Nat → Int64} {R : Nat → Nat → Option Nat} {X : Nat} {ad : Nat → Nat} {m9 : Nat → Nat → Int32} {q9 : Nat → Nat → Int64} (hm : zoR X ad m9 q9 kd ln I L R) {x a b d : Int32} (hbad : zo_rb m9 x a b d) : zc_M l y_Mod_record w_Mod_record { frames := 4, cells := 0, slots := 0, locals := 90 } 0 0 D cA te mi ([.ref X, .int x, .int a, .int b, .int d] : List Value) kd ln I L R (zo_P (some (.int (-2))) X ad m9 q9 kd ln R) := by
  intro sz
  refine Met.ofW (cc := b_Mod_record) (maxL := 10) (ret := (some (.int))) (by decide +kernel) rfl ?_
  intro p e s m args below meth c s₁ B hml hv
  obtain ⟨rfl, hsz, hSc, hE, hH⟩ := hv
  have hx := B.exec
  have hb := B.bytes
  have hr := B.returns
  have hts := atoms_spec (ws := w_Mod_record) B.pre
  have hw : ∀ {w : Cond}, w ∈ zw → w.before ([.ref X, .int x, .int a, .int b, .int d] : List Value).toArray s = true := fun h => hts _ (List.mem_cons_of_mem _ h)
  have hown : s.vm.findClass R_Mod = some m.cls := findClass_of_methodNamed B.named
  have hlocks := B.notSynchronized
  subst hsz
  have hK := hSc.1
  have hH : zh_H D cA (zc_A kd s.heap.size) kd ln I L R s.heap := hH.weaken (fun q h _ => Or.inl h)
  generalize hAe : zc_A kd s.heap.size = A at hH hE ⊢
  have hA : ∀ q : Nat, s.heap.size ≤ q → A q := fun q h => by rw [← hAe]; exact Or.inr h
  have hS : va_S A s.heap s.heap [] := va_S.rf
  have hl := lv_entry ([.ref X, .int x, .int a, .int b, .int d] : List Value) (n := 10) (Nat.le_of_ble_eq_true rfl)
  rw [lg_entry_eq]
  generalize (lg_sl ([.ref X, .int x, .int a, .int b, .int d] : List Value) ++ List.replicate (10 - (lg_sl ([.ref X, .int x, .int a, .int b, .int d] : List Value)).length) Slot.unset).toArray = ls at hl ⊢
  have hl : lv_has ls 10 [(0, .ref X), (1, .int x), (2, .int a), (3, .int b), (4, .int d)] := hl
  have k8 : kd (ad 8) = 103 := (hm.1.2.1 8 (by decide) (by decide)).2.1
  have n8 : ln (ad 8) = 4 := (hm.1.2.1 8 (by decide) (by decide)).2.2
  have r8 : R X 8 = some (ad 8) := (hm.1.2.1 8 (by decide) (by decide)).1
  have k9 : kd (ad 9) = 100 := (hm.1.2.1 9 (by decide) (by decide)).2.1
  have n9 : ln (ad 9) = 4 := (hm.1.2.1 9 (by decide) (by decide)).2.2
  have r9 : R X 9 = some (ad 9) := (hm.1.2.1 9 (by decide) (by decide)).1
  have k10 : kd (ad 10) = 100 := (hm.1.2.1 10 (by decide) (by decide)).2.1
  have n10 : ln (ad 10) = 4 := (hm.1.2.1 10 (by decide) (by decide)).2.2
  have r10 : R X 10 = some (ad 10) := (hm.1.2.1 10 (by decide) (by decide)).1
  have k11 : kd (ad 11) = 100 := (hm.1.2.1 11 (by decide) (by decide)).2.1
  have n11 : ln (ad 11) = 4 := (hm.1.2.1 11 (by decide) (by decide)).2.2
  have r11 : R X 11 = some (ad 11) := (hm.1.2.1 11 (by decide) (by decide)).1
  have k12 : kd (ad 12) = 100 := (hm.1.2.1 12 (by decide) (by decide)).2.1
  have n12 : ln (ad 12) = 4 := (hm.1.2.1 12 (by decide) (by decide)).2.2
  have r12 : R X 12 = some (ad 12) := (hm.1.2.1 12 (by decide) (by decide)).1
  have k13 : kd (ad 13) = 100 := (hm.1.2.1 13 (by decide) (by decide)).2.1
  have n13 : ln (ad 13) = 4 := (hm.1.2.1 13 (by decide) (by decide)).2.2
  have r13 : R X 13 = some (ad 13) := (hm.1.2.1 13 (by decide) (by decide)).1
  have k14 : kd (ad 14) = 100 := (hm.1.2.1 14 (by decide) (by decide)).2.1
  have n14 : ln (ad 14) = 160 := (hm.1.2.1 14 (by decide) (by decide)).2.2
  have r14 : R X 14 = some (ad 14) := (hm.1.2.1 14 (by decide) (by decide)).1
  have k16 : kd (ad 16) = 100 := (hm.1.2.1 16 (by decide) (by decide)).2.1
  have n16 : ln (ad 16) = 280 := (hm.1.2.1 16 (by decide) (by decide)).2.2
  have r16 : R X 16 = some (ad 16) := (hm.1.2.1 16 (by decide) (by decide)).1
  have k17 : kd (ad 17) = 100 := (hm.1.2.1 17 (by decide) (by decide)).2.1
  have n17 : ln (ad 17) = 280 := (hm.1.2.1 17 (by decide) (by decide)).2.2
  have r17 : R X 17 = some (ad 17) := (hm.1.2.1 17 (by decide) (by decide)).1
  have k18 : kd (ad 18) = 100 := (hm.1.2.1 18 (by decide) (by decide)).2.1
  have n18 : ln (ad 18) = 280 := (hm.1.2.1 18 (by decide) (by decide)).2.2
  have r18 : R X 18 = some (ad 18) := (hm.1.2.1 18 (by decide) (by decide)).1
  have k19 : kd (ad 19) = 100 := (hm.1.2.1 19 (by decide) (by decide)).2.1
  have n19 : ln (ad 19) = 280 := (hm.1.2.1 19 (by decide) (by decide)).2.2
  have r19 : R X 19 = some (ad 19) := (hm.1.2.1 19 (by decide) (by decide)).1
  have k20 : kd (ad 20) = 100 := (hm.1.2.1 20 (by decide) (by decide)).2.1
  have n20 : ln (ad 20) = 280 := (hm.1.2.1 20 (by decide) (by decide)).2.2
  have r20 : R X 20 = some (ad 20) := (hm.1.2.1 20 (by decide) (by decide)).1
  have k21 : kd (ad 21) = 100 := (hm.1.2.1 21 (by decide) (by decide)).2.1
  have n21 : ln (ad 21) = 280 := (hm.1.2.1 21 (by decide) (by decide)).2.2
  have r21 : R X 21 = some (ad 21) := (hm.1.2.1 21 (by decide) (by decide)).1
  have k22 : kd (ad 22) = 103 := (hm.1.2.1 22 (by decide) (by decide)).2.1
  have n22 : ln (ad 22) = 280 := (hm.1.2.1 22 (by decide) (by decide)).2.2
  have r22 : R X 22 = some (ad 22) := (hm.1.2.1 22 (by decide) (by decide)).1
  have k23 : kd (ad 23) = 103 := (hm.1.2.1 23 (by decide) (by decide)).2.1
  have n23 : ln (ad 23) = 280 := (hm.1.2.1 23 (by decide) (by decide)).2.2
  have r23 : R X 23 = some (ad 23) := (hm.1.2.1 23 (by decide) (by decide)).1
  have k24 : kd (ad 24) = 100 := (hm.1.2.1 24 (by decide) (by decide)).2.1
  have n24 : ln (ad 24) = 280 := (hm.1.2.1 24 (by decide) (by decide)).2.2
  have r24 : R X 24 = some (ad 24) := (hm.1.2.1 24 (by decide) (by decide)).1
  have k25 : kd (ad 25) = 101 := (hm.1.2.1 25 (by decide) (by decide)).2.1
  have n25 : ln (ad 25) = 2240 := (hm.1.2.1 25 (by decide) (by decide)).2.2
  have r25 : R X 25 = some (ad 25) := (hm.1.2.1 25 (by decide) (by decide)).1
  have k34 : kd (ad 34) = 100 := (hm.1.2.1 34 (by decide) (by decide)).2.1
  have n34 : ln (ad 34) = 64 := (hm.1.2.1 34 (by decide) (by decide)).2.2
  have r34 : R X 34 = some (ad 34) := (hm.1.2.1 34 (by decide) (by decide)).1
  refine lv_aload_n hx hb d_Mod_record_0 rfl (lv_at hl 0 rfl) ?_
  refine lv_iload_n hx hb d_Mod_record_1 rfl (lv_at hl 1 rfl) ?_
  refine zr_V (As := ([.int x] : List Value)) (rest := []) (b := X) (ci := 6) (q := (R_Mod, T_Mod, 37)) ⟨hx, hb, hml, hown, hts⟩ (c_Mod_isMade hm ) ⟨(callB_of 1 hts (zg_all zw_757) rfl rfl rfl (hw zw_3) (hw zw_754) k_Mod_isMade.2 ⟨Nat.le_of_ble_eq_true rfl, Nat.le_of_ble_eq_true rfl⟩), (hw zw_756), (hw zs_Mod_isMade)⟩ hSc hE hH hS hA rfl (by decide) hm.1.1 rfl hl.1 rfl (Nat.le_of_ble_eq_true rfl) d_Mod_record_2 ⟨Nat.le_of_ble_eq_true rfl, Nat.le_of_ble_eq_true rfl⟩ (fun v1 kd1 ln1 I1 L1 R1 H locs hp hH hS => ?_)
  obtain ⟨rfl, rfl, rfl, rfl, hm⟩ := hp
  refine W.eq (g2 := F0 m 5 ls [.int (zo_made (m9 7) x)]) rfl ?_
  refine W.widen (k := 0) (n := 0) (by omega) (by omega) ?_
  refine lv_if_eq (tgt := 41) hx hb d_Mod_record_5 (by decide) (fun hc2 => ?_) (fun hc2 => ?_)
  · skip
    have hc2 : (zo_made (m9 7) x) = (nI 0) := hc2
    refine lv_bipush (v := (-2)) hx hb d_Mod_record_41 (by decide) ?_
    refine W.widen (k := 0) (n := 0) (Nat.le_of_ble_eq_true rfl) (Nat.le_of_ble_eq_true rfl) ?_
    subst hAe
    exact W.iret (v := (-2)) hx hb hr (fun t ht hW => zc_end hS hH ht (⟨rfl, rfl, rfl, rfl, hm⟩)) hS.2.2 d_Mod_record_43
  · skip
    have hc2 : ¬ (zo_made (m9 7) x) = (nI 0) := hc2
    obtain ⟨j1, hj1, rfl, hj2⟩ := zo_made_of hc2
    refine lv_iload_n hx hb d_Mod_record_8 rfl (lv_at hl 2 rfl) ?_
    refine lv_if_lt (tgt := 41) hx hb d_Mod_record_9 (by decide) (fun hc3 => ?_) (fun hc3 => ?_)
    · skip
      have hc3 : a < (nI 0) := hc3
      refine lv_bipush (v := (-2)) hx hb d_Mod_record_41 (by decide) ?_
      refine W.widen (k := 0) (n := 0) (Nat.le_of_ble_eq_true rfl) (Nat.le_of_ble_eq_true rfl) ?_
      subst hAe
      exact W.iret (v := (-2)) hx hb hr (fun t ht hW => zc_end hS hH ht (⟨rfl, rfl, rfl, rfl, hm⟩)) hS.2.2 d_Mod_record_43
    · skip
      have hc3 : ¬ a < (nI 0) := hc3
      refine lv_iload_n hx hb d_Mod_record_12 rfl (lv_at hl 2 rfl) ?_
      refine lv_sipush (v := nI 255) hx hb d_Mod_record_13 (by decide) ?_
      refine lv_icmp_gt (tgt := 41) hx hb d_Mod_record_16 (by decide) (fun hc4 => ?_) (fun hc4 => ?_)
      · skip
        have hc4 : (nI 255) < a := hc4
        refine lv_bipush (v := (-2)) hx hb d_Mod_record_41 (by decide) ?_
        refine W.widen (k := 0) (n := 0) (Nat.le_of_ble_eq_true rfl) (Nat.le_of_ble_eq_true rfl) ?_
        subst hAe
        exact W.iret (v := (-2)) hx hb hr (fun t ht hW => zc_end hS hH ht (⟨rfl, rfl, rfl, rfl, hm⟩)) hS.2.2 d_Mod_record_43
      · skip
        have hc4 : ¬ (nI 255) < a := hc4
        refine lv_iload hx hb d_Mod_record_19 (lv_at hl 4 rfl) ?_
        refine lv_if_lt (tgt := 41) hx hb d_Mod_record_21 (by decide) (fun hc5 => ?_) (fun hc5 => ?_)
        · skip
          have hc5 : d < (nI 0) := hc5
          refine lv_bipush (v := (-2)) hx hb d_Mod_record_41 (by decide) ?_
          refine W.widen (k := 0) (n := 0) (Nat.le_of_ble_eq_true rfl) (Nat.le_of_ble_eq_true rfl) ?_
          subst hAe
          exact W.iret (v := (-2)) hx hb hr (fun t ht hW => zc_end hS hH ht (⟨rfl, rfl, rfl, rfl, hm⟩)) hS.2.2 d_Mod_record_43
        · skip
          have hc5 : ¬ d < (nI 0) := hc5
          refine lv_iload hx hb d_Mod_record_24 (lv_at hl 4 rfl) ?_
          refine lv_bipush (v := nI 60) hx hb d_Mod_record_26 (by decide) ?_
          refine lv_icmp_gt (tgt := 41) hx hb d_Mod_record_28 (by decide) (fun hc6 => ?_) (fun hc6 => ?_)
          · skip
            have hc6 : (nI 60) < d := hc6
            refine lv_bipush (v := (-2)) hx hb d_Mod_record_41 (by decide) ?_
            refine W.widen (k := 0) (n := 0) (Nat.le_of_ble_eq_true rfl) (Nat.le_of_ble_eq_true rfl) ?_
            subst hAe
            exact W.iret (v := (-2)) hx hb hr (fun t ht hW => zc_end hS hH ht (⟨rfl, rfl, rfl, rfl, hm⟩)) hS.2.2 d_Mod_record_43
          · skip
            have hc6 : ¬ (nI 60) < d := hc6
            refine lv_iload_n hx hb d_Mod_record_31 rfl (lv_at hl 3 rfl) ?_
            refine lv_aload_n hx hb d_Mod_record_32 rfl (lv_at hl 0 rfl) ?_
            refine zr_getr (ci := 6) (C := R_Mod) (T := T_Mod) (N := 37) (ref := "ScrubbedRecorderModel") hx hb hts (fun w h => List.mem_cons_of_mem _ (zin_Mod w h)) hown hK hH hm.1.1 (by decide) rfl 11 (by decide) rfl (hw zw_610) (fun _ h9 => h9) d_Mod_record_33 (by rw [r11]) ?_
            refine lv_iload_n hx hb d_Mod_record_36 rfl (lv_at hl 1 rfl) ?_
            refine zr_aldi (j := j1) hx hb hK hH k11 (by rw [n11]; exact zh_ix_n (by omega) (by omega)) d_Mod_record_37 ?_
            refine zt_i (y := m9 11 j1) (congrFun (hm.2.1 11 (by decide) (by decide) (by decide)) j1) ?_
            refine lv_icmp_ge (tgt := 44) hx hb d_Mod_record_38 (by decide) (fun hc7 => ?_) (fun hc7 => ?_)
            · skip
              have hc7 : ¬ b < (m9 11 j1) := Int32.not_lt.mpr hc7
              refine absurd hbad (fun q => q.elim (by assumption) (fun q => q.elim (by assumption) (fun q => q.elim (by assumption) (fun q => q.elim (by assumption) (fun q => q.elim (by assumption) (fun q => absurd q ?_)))))); rw [nI_clamp (by omega)]; exact hc7
            · skip
              have hc7 : b < (m9 11 j1) := Int32.not_le.mp hc7
              refine lv_bipush (v := (-2)) hx hb d_Mod_record_41 (by decide) ?_
              refine W.widen (k := 0) (n := 0) (Nat.le_of_ble_eq_true rfl) (Nat.le_of_ble_eq_true rfl) ?_
              subst hAe
              exact W.iret (v := (-2)) hx hb hr (fun t ht hW => zc_end hS hH ht (⟨rfl, rfl, rfl, rfl, hm⟩)) hS.2.2 d_Mod_record_43

set_option maxHeartbeats 4000000 in
set_option maxRecDepth 100000 in
/-- record, no room -/
theorem c_Mod_record_F {l : Launch} {D : va_G} {cA : Nat → ClassId} {te mi : Nat} {kd ln : Nat → Nat} {I : Nat → Nat → Int32} {L : Nat → Nat → Int64} {R : Nat → Nat → Option Nat} {X : Nat} {ad : Nat → Nat} {m9 : Nat → Nat → Int32} {q9 : Nat → Nat → Int64} (hm : zoR X ad m9 q9 kd ln I L R) {k n c9 fl qu : Nat} {a b : Int32} (hk4 : k < 4) (hmd : ¬ m9 7 k = nI 0) (ha1 : ¬ a < nI 0) (ha2 : ¬ nI 255 < a) (hn60 : n ≤ 60) (htb : ¬ b < m9 11 k) (hfl : m9 13 k = nI fl) (hf3 : 3 ≤ fl) (hf16 : fl ≤ 16) (hcl : m9 12 k = nI c9) (hc40 : c9 ≤ 40) (hqu : m9 9 k = nI qu) (hq40 : qu ≤ 40) (hci : m9 8 k = nI 0) (hro : qu < c9 + (2 + (n + 3) / 4 + 12 - (16 - fl)) / 13) : zc_M l y_Mod_record w_Mod_record { frames := 4, cells := 0, slots := 0, locals := 90 } 0 0 D cA te mi ([.ref X, .int (nI k), .int a, .int b, .int (nI n)] : List Value) kd ln I L R (zo_P (some (.int (-4))) X ad m9 q9 kd ln R) := by
  intro sz
  refine Met.ofW (cc := b_Mod_record) (maxL := 10) (ret := (some (.int))) (by decide +kernel) rfl ?_
  intro p e s m args below meth c s₁ B hml hv
  obtain ⟨rfl, hsz, hSc, hE, hH⟩ := hv
  have hx := B.exec
  have hb := B.bytes
  have hr := B.returns
  have hts := atoms_spec (ws := w_Mod_record) B.pre
  have hw : ∀ {w : Cond}, w ∈ zw → w.before ([.ref X, .int (nI k), .int a, .int b, .int (nI n)] : List Value).toArray s = true := fun h => hts _ (List.mem_cons_of_mem _ h)
  have hown : s.vm.findClass R_Mod = some m.cls := findClass_of_methodNamed B.named
  have hlocks := B.notSynchronized
  subst hsz
  have hK := hSc.1
  have hH : zh_H D cA (zc_A kd s.heap.size) kd ln I L R s.heap := hH.weaken (fun q h _ => Or.inl h)
  generalize hAe : zc_A kd s.heap.size = A at hH hE ⊢
  have hA : ∀ q : Nat, s.heap.size ≤ q → A q := fun q h => by rw [← hAe]; exact Or.inr h
  have hS : va_S A s.heap s.heap [] := va_S.rf
  have hl := lv_entry ([.ref X, .int (nI k), .int a, .int b, .int (nI n)] : List Value) (n := 10) (Nat.le_of_ble_eq_true rfl)
  rw [lg_entry_eq]
  generalize (lg_sl ([.ref X, .int (nI k), .int a, .int b, .int (nI n)] : List Value) ++ List.replicate (10 - (lg_sl ([.ref X, .int (nI k), .int a, .int b, .int (nI n)] : List Value)).length) Slot.unset).toArray = ls at hl ⊢
  have hl : lv_has ls 10 [(0, .ref X), (1, .int (nI k)), (2, .int a), (3, .int b), (4, .int (nI n))] := hl
  have k8 : kd (ad 8) = 103 := (hm.1.2.1 8 (by decide) (by decide)).2.1
  have n8 : ln (ad 8) = 4 := (hm.1.2.1 8 (by decide) (by decide)).2.2
  have r8 : R X 8 = some (ad 8) := (hm.1.2.1 8 (by decide) (by decide)).1
  have k9 : kd (ad 9) = 100 := (hm.1.2.1 9 (by decide) (by decide)).2.1
  have n9 : ln (ad 9) = 4 := (hm.1.2.1 9 (by decide) (by decide)).2.2
  have r9 : R X 9 = some (ad 9) := (hm.1.2.1 9 (by decide) (by decide)).1
  have k10 : kd (ad 10) = 100 := (hm.1.2.1 10 (by decide) (by decide)).2.1
  have n10 : ln (ad 10) = 4 := (hm.1.2.1 10 (by decide) (by decide)).2.2
  have r10 : R X 10 = some (ad 10) := (hm.1.2.1 10 (by decide) (by decide)).1
  have k11 : kd (ad 11) = 100 := (hm.1.2.1 11 (by decide) (by decide)).2.1
  have n11 : ln (ad 11) = 4 := (hm.1.2.1 11 (by decide) (by decide)).2.2
  have r11 : R X 11 = some (ad 11) := (hm.1.2.1 11 (by decide) (by decide)).1
  have k12 : kd (ad 12) = 100 := (hm.1.2.1 12 (by decide) (by decide)).2.1
  have n12 : ln (ad 12) = 4 := (hm.1.2.1 12 (by decide) (by decide)).2.2
  have r12 : R X 12 = some (ad 12) := (hm.1.2.1 12 (by decide) (by decide)).1
  have k13 : kd (ad 13) = 100 := (hm.1.2.1 13 (by decide) (by decide)).2.1
  have n13 : ln (ad 13) = 4 := (hm.1.2.1 13 (by decide) (by decide)).2.2
  have r13 : R X 13 = some (ad 13) := (hm.1.2.1 13 (by decide) (by decide)).1
  have k14 : kd (ad 14) = 100 := (hm.1.2.1 14 (by decide) (by decide)).2.1
  have n14 : ln (ad 14) = 160 := (hm.1.2.1 14 (by decide) (by decide)).2.2
  have r14 : R X 14 = some (ad 14) := (hm.1.2.1 14 (by decide) (by decide)).1
  have k16 : kd (ad 16) = 100 := (hm.1.2.1 16 (by decide) (by decide)).2.1
  have n16 : ln (ad 16) = 280 := (hm.1.2.1 16 (by decide) (by decide)).2.2
  have r16 : R X 16 = some (ad 16) := (hm.1.2.1 16 (by decide) (by decide)).1
  have k17 : kd (ad 17) = 100 := (hm.1.2.1 17 (by decide) (by decide)).2.1
  have n17 : ln (ad 17) = 280 := (hm.1.2.1 17 (by decide) (by decide)).2.2
  have r17 : R X 17 = some (ad 17) := (hm.1.2.1 17 (by decide) (by decide)).1
  have k18 : kd (ad 18) = 100 := (hm.1.2.1 18 (by decide) (by decide)).2.1
  have n18 : ln (ad 18) = 280 := (hm.1.2.1 18 (by decide) (by decide)).2.2
  have r18 : R X 18 = some (ad 18) := (hm.1.2.1 18 (by decide) (by decide)).1
  have k19 : kd (ad 19) = 100 := (hm.1.2.1 19 (by decide) (by decide)).2.1
  have n19 : ln (ad 19) = 280 := (hm.1.2.1 19 (by decide) (by decide)).2.2
  have r19 : R X 19 = some (ad 19) := (hm.1.2.1 19 (by decide) (by decide)).1
  have k20 : kd (ad 20) = 100 := (hm.1.2.1 20 (by decide) (by decide)).2.1
  have n20 : ln (ad 20) = 280 := (hm.1.2.1 20 (by decide) (by decide)).2.2
  have r20 : R X 20 = some (ad 20) := (hm.1.2.1 20 (by decide) (by decide)).1
  have k21 : kd (ad 21) = 100 := (hm.1.2.1 21 (by decide) (by decide)).2.1
  have n21 : ln (ad 21) = 280 := (hm.1.2.1 21 (by decide) (by decide)).2.2
  have r21 : R X 21 = some (ad 21) := (hm.1.2.1 21 (by decide) (by decide)).1
  have k22 : kd (ad 22) = 103 := (hm.1.2.1 22 (by decide) (by decide)).2.1
  have n22 : ln (ad 22) = 280 := (hm.1.2.1 22 (by decide) (by decide)).2.2
  have r22 : R X 22 = some (ad 22) := (hm.1.2.1 22 (by decide) (by decide)).1
  have k23 : kd (ad 23) = 103 := (hm.1.2.1 23 (by decide) (by decide)).2.1
  have n23 : ln (ad 23) = 280 := (hm.1.2.1 23 (by decide) (by decide)).2.2
  have r23 : R X 23 = some (ad 23) := (hm.1.2.1 23 (by decide) (by decide)).1
  have k24 : kd (ad 24) = 100 := (hm.1.2.1 24 (by decide) (by decide)).2.1
  have n24 : ln (ad 24) = 280 := (hm.1.2.1 24 (by decide) (by decide)).2.2
  have r24 : R X 24 = some (ad 24) := (hm.1.2.1 24 (by decide) (by decide)).1
  have k25 : kd (ad 25) = 101 := (hm.1.2.1 25 (by decide) (by decide)).2.1
  have n25 : ln (ad 25) = 2240 := (hm.1.2.1 25 (by decide) (by decide)).2.2
  have r25 : R X 25 = some (ad 25) := (hm.1.2.1 25 (by decide) (by decide)).1
  have k34 : kd (ad 34) = 100 := (hm.1.2.1 34 (by decide) (by decide)).2.1
  have n34 : ln (ad 34) = 64 := (hm.1.2.1 34 (by decide) (by decide)).2.2
  have r34 : R X 34 = some (ad 34) := (hm.1.2.1 34 (by decide) (by decide)).1
  refine lv_aload_n hx hb d_Mod_record_0 rfl (lv_at hl 0 rfl) ?_
  refine lv_iload_n hx hb d_Mod_record_1 rfl (lv_at hl 1 rfl) ?_
  refine zr_V (As := ([.int (nI k)] : List Value)) (rest := []) (b := X) (ci := 6) (q := (R_Mod, T_Mod, 37)) ⟨hx, hb, hml, hown, hts⟩ (c_Mod_isMade hm ) ⟨(callB_of 1 hts (zg_all zw_757) rfl rfl rfl (hw zw_3) (hw zw_754) k_Mod_isMade.2 ⟨Nat.le_of_ble_eq_true rfl, Nat.le_of_ble_eq_true rfl⟩), (hw zw_756), (hw zs_Mod_isMade)⟩ hSc hE hH hS hA rfl (by decide) hm.1.1 rfl hl.1 rfl (Nat.le_of_ble_eq_true rfl) d_Mod_record_2 ⟨Nat.le_of_ble_eq_true rfl, Nat.le_of_ble_eq_true rfl⟩ (fun v1 kd1 ln1 I1 L1 R1 H locs hp hH hS => ?_)
  obtain ⟨rfl, rfl, rfl, rfl, hm⟩ := hp
  refine W.eq (g2 := F0 m 5 ls [.int (zo_made (m9 7) (nI k))]) rfl ?_
  refine W.widen (k := 0) (n := 0) (by omega) (by omega) ?_
  refine lv_if_eq (tgt := 41) hx hb d_Mod_record_5 (by decide) (fun hc2 => ?_) (fun hc2 => ?_)
  · skip
    have hc2 : (zo_made (m9 7) (nI k)) = (nI 0) := hc2
    (first | exact absurd hc2 htb | exact absurd hc2 ha1 | exact absurd hc2 ha2 | exact absurd hc2 (by omega) | exact absurd hc2 (by rw [zo_made_n hk4, if_neg hmd]; decide))
  · skip
    have hc2 : ¬ (zo_made (m9 7) (nI k)) = (nI 0) := hc2
    refine lv_iload_n hx hb d_Mod_record_8 rfl (lv_at hl 2 rfl) ?_
    refine lv_if_lt (tgt := 41) hx hb d_Mod_record_9 (by decide) (fun hc3 => ?_) (fun hc3 => ?_)
    · skip
      have hc3 : a < (nI 0) := hc3
      (first | exact absurd hc3 htb | exact absurd hc3 ha1 | exact absurd hc3 ha2 | exact absurd hc3 (by omega) | exact absurd hc3 (by rw [zo_made_n hk4, if_neg hmd]; decide))
    · skip
      have hc3 : ¬ a < (nI 0) := hc3
      refine lv_iload_n hx hb d_Mod_record_12 rfl (lv_at hl 2 rfl) ?_
      refine lv_sipush (v := nI 255) hx hb d_Mod_record_13 (by decide) ?_
      refine lv_icmp_gt (tgt := 41) hx hb d_Mod_record_16 (by decide) (fun hc4 => ?_) (fun hc4 => ?_)
      · skip
        have hc4 : (nI 255) < a := hc4
        (first | exact absurd hc4 htb | exact absurd hc4 ha1 | exact absurd hc4 ha2 | exact absurd hc4 (by omega) | exact absurd hc4 (by rw [zo_made_n hk4, if_neg hmd]; decide))
      · skip
        have hc4 : ¬ (nI 255) < a := hc4
        refine lv_iload hx hb d_Mod_record_19 (lv_at hl 4 rfl) ?_
        refine lv_if_lt (tgt := 41) hx hb d_Mod_record_21 (by decide) (fun hc5 => ?_) (fun hc5 => ?_)
        · skip
          have hc5 := zt_ltT (a := n) (b := 0) (by omega) (by omega) hc5
          (first | exact absurd hc5 htb | exact absurd hc5 ha1 | exact absurd hc5 ha2 | exact absurd hc5 (by omega) | exact absurd hc5 (by rw [zo_made_n hk4, if_neg hmd]; decide))
        · skip
          have hc5 := zt_ltF (a := n) (b := 0) (by omega) (by omega) hc5
          refine lv_iload hx hb d_Mod_record_24 (lv_at hl 4 rfl) ?_
          refine lv_bipush (v := nI 60) hx hb d_Mod_record_26 (by decide) ?_
          refine lv_icmp_gt (tgt := 41) hx hb d_Mod_record_28 (by decide) (fun hc6 => ?_) (fun hc6 => ?_)
          · skip
            have hc6 := zt_gtT (a := n) (b := 60) (by omega) (by omega) hc6
            (first | exact absurd hc6 htb | exact absurd hc6 ha1 | exact absurd hc6 ha2 | exact absurd hc6 (by omega) | exact absurd hc6 (by rw [zo_made_n hk4, if_neg hmd]; decide))
          · skip
            have hc6 := zt_gtF (a := n) (b := 60) (by omega) (by omega) hc6
            refine lv_iload_n hx hb d_Mod_record_31 rfl (lv_at hl 3 rfl) ?_
            refine lv_aload_n hx hb d_Mod_record_32 rfl (lv_at hl 0 rfl) ?_
            refine zr_getr (ci := 6) (C := R_Mod) (T := T_Mod) (N := 37) (ref := "ScrubbedRecorderModel") hx hb hts (fun w h => List.mem_cons_of_mem _ (zin_Mod w h)) hown hK hH hm.1.1 (by decide) rfl 11 (by decide) rfl (hw zw_610) (fun _ h9 => h9) d_Mod_record_33 (by rw [r11]) ?_
            refine lv_iload_n hx hb d_Mod_record_36 rfl (lv_at hl 1 rfl) ?_
            refine zr_aldi (j := k) hx hb hK hH k11 (by rw [n11]; exact zh_ix_n (by omega) (by omega)) d_Mod_record_37 ?_
            refine zt_i (y := m9 11 k) (congrFun (hm.2.1 11 (by decide) (by decide) (by decide)) k) ?_
            refine lv_icmp_ge (tgt := 44) hx hb d_Mod_record_38 (by decide) (fun hc7 => ?_) (fun hc7 => ?_)
            · skip
              have hc7 : ¬ b < (m9 11 k) := Int32.not_lt.mpr hc7
              refine lv_iconst (v := nI 2) hx hb d_Mod_record_44 (by decide) ?_
              refine lv_iload hx hb d_Mod_record_45 (lv_at hl 4 rfl) ?_
              refine lv_iconst (v := nI 3) hx hb d_Mod_record_47 (by decide) ?_
              refine lv_iadd hx hb d_Mod_record_48 ?_
              refine zt_i (y := nI (n + 3)) (nI_add n 3) ?_
              refine lv_iconst (v := nI 4) hx hb d_Mod_record_49 (by decide) ?_
              refine lv_idiv hx hb d_Mod_record_50 (zt_ne0 (by omega) (by omega)) ?_
              refine zt_i (y := nI ((n + 3) / 4)) (pk_div (by omega) (by omega) (by omega)) ?_
              refine lv_iadd hx hb d_Mod_record_51 ?_
              refine zt_i (y := nI (2 + ((n + 3) / 4))) (nI_add 2 ((n + 3) / 4)) ?_
              refine lv_istore (lv' := [(5, .int (nI (2 + ((n + 3) / 4)))), (0, .ref X), (1, .int (nI k)), (2, .int a), (3, .int b), (4, .int (nI n))]) hx hb d_Mod_record_52 hl (by decide) rfl (fun ls hl => ?_)
              refine lv_iload hx hb d_Mod_record_54 (lv_at hl 0 rfl) ?_
              refine lv_bipush (v := nI 16) hx hb d_Mod_record_56 (by decide) ?_
              refine lv_aload_n hx hb d_Mod_record_58 rfl (lv_at hl 1 rfl) ?_
              refine zr_getr (ci := 6) (C := R_Mod) (T := T_Mod) (N := 37) (ref := "ScrubbedRecorderModel") hx hb hts (fun w h => List.mem_cons_of_mem _ (zin_Mod w h)) hown hK hH hm.1.1 (by decide) rfl 13 (by decide) rfl (hw zw_612) (fun _ h9 => h9) d_Mod_record_59 (by rw [r13]) ?_
              refine lv_iload_n hx hb d_Mod_record_62 rfl (lv_at hl 2 rfl) ?_
              refine zr_aldi (j := k) hx hb hK hH k13 (by rw [n13]; exact zh_ix_n (by omega) (by omega)) d_Mod_record_63 ?_
              refine zt_i (y := nI fl) ((congrFun (hm.2.1 13 (by decide) (by decide) (by decide)) k).trans (by rw [hfl])) ?_
              refine lv_isub hx hb d_Mod_record_64 ?_
              refine zt_i (y := nI (16 - fl)) (pk_sub (by omega)) ?_
              refine lv_isub hx hb d_Mod_record_65 ?_
              refine lv_bipush (v := nI 12) hx hb d_Mod_record_66 (by decide) ?_
              refine lv_iadd hx hb d_Mod_record_68 ?_
              refine zt_i (y := nI (2 + (n + 3) / 4 + 12 - (16 - fl))) (zt_sa (by omega)) ?_
              refine lv_bipush (v := nI 13) hx hb d_Mod_record_69 (by decide) ?_
              refine lv_idiv hx hb d_Mod_record_71 (zt_ne0 (by omega) (by omega)) ?_
              refine zt_i (y := nI ((2 + (n + 3) / 4 + 12 - (16 - fl)) / 13)) (pk_div (by omega) (by omega) (by omega)) ?_
              refine lv_istore (lv' := [(6, .int (nI ((2 + (n + 3) / 4 + 12 - (16 - fl)) / 13))), (5, .int (nI (2 + ((n + 3) / 4)))), (0, .ref X), (1, .int (nI k)), (2, .int a), (3, .int b), (4, .int (nI n))]) hx hb d_Mod_record_72 hl (by decide) rfl (fun ls hl => ?_)
              refine lv_aload_n hx hb d_Mod_record_74 rfl (lv_at hl 2 rfl) ?_
              refine zr_getr (ci := 6) (C := R_Mod) (T := T_Mod) (N := 37) (ref := "ScrubbedRecorderModel") hx hb hts (fun w h => List.mem_cons_of_mem _ (zin_Mod w h)) hown hK hH hm.1.1 (by decide) rfl 8 (by decide) rfl (hw zw_607) (fun _ h9 => h9) d_Mod_record_75 (by rw [r8]) ?_
              refine lv_iload_n hx hb d_Mod_record_78 rfl (lv_at hl 3 rfl) ?_
              refine zr_aldz (j := k) hx hb hK hH k8 (by rw [n8]; exact zh_ix_n (by omega) (by omega)) d_Mod_record_79 ?_
              refine zt_i (y := m9 8 k) (congrFun (hm.2.1 8 (by decide) (by decide) (by decide)) k) ?_
              refine lv_if_ne (tgt := 113) hx hb d_Mod_record_80 (by decide) (fun hc8 => ?_) (fun hc8 => ?_)
              · skip
                have hc8 : ¬ (m9 8 k) = (nI 0) := hc8
                first | exact absurd hci hc8 | exact absurd hc8 (by omega)
              · skip
                have hc8 : (m9 8 k) = (nI 0) := hc8
                refine lv_aload_n hx hb d_Mod_record_83 rfl (lv_at hl 2 rfl) ?_
                refine zr_getr (ci := 6) (C := R_Mod) (T := T_Mod) (N := 37) (ref := "ScrubbedRecorderModel") hx hb hts (fun w h => List.mem_cons_of_mem _ (zin_Mod w h)) hown hK hH hm.1.1 (by decide) rfl 12 (by decide) rfl (hw zw_611) (fun _ h9 => h9) d_Mod_record_84 (by rw [r12]) ?_
                refine lv_iload_n hx hb d_Mod_record_87 rfl (lv_at hl 3 rfl) ?_
                refine zr_aldi (j := k) hx hb hK hH k12 (by rw [n12]; exact zh_ix_n (by omega) (by omega)) d_Mod_record_88 ?_
                refine zt_i (y := nI c9) ((congrFun (hm.2.1 12 (by decide) (by decide) (by decide)) k).trans (by rw [hcl])) ?_
                refine lv_iload hx hb d_Mod_record_89 (lv_at hl 0 rfl) ?_
                refine lv_if_le (tgt := 99) hx hb d_Mod_record_91 (by decide) (fun hc9 => ?_) (fun hc9 => ?_)
                · skip
                  have hc9 := zt_leT (a := ((2 + (n + 3) / 4 + 12 - (16 - fl)) / 13)) (b := 0) (by omega) (by omega) hc9
                  refine lv_iconst (v := nI 0) hx hb d_Mod_record_99 (by decide) ?_
                  refine lv_iadd hx hb d_Mod_record_100 ?_
                  refine zt_i (y := nI (c9 + 0)) (nI_add c9 0) ?_
                  refine lv_aload_n hx hb d_Mod_record_101 rfl (lv_at hl 2 rfl) ?_
                  refine zr_getr (ci := 6) (C := R_Mod) (T := T_Mod) (N := 37) (ref := "ScrubbedRecorderModel") hx hb hts (fun w h => List.mem_cons_of_mem _ (zin_Mod w h)) hown hK hH hm.1.1 (by decide) rfl 9 (by decide) rfl (hw zw_608) (fun _ h9 => h9) d_Mod_record_102 (by rw [r9]) ?_
                  refine lv_iload_n hx hb d_Mod_record_105 rfl (lv_at hl 3 rfl) ?_
                  refine zr_aldi (j := k) hx hb hK hH k9 (by rw [n9]; exact zh_ix_n (by omega) (by omega)) d_Mod_record_106 ?_
                  refine zt_i (y := nI qu) ((congrFun (hm.2.1 9 (by decide) (by decide) (by decide)) k).trans (by rw [hqu])) ?_
                  refine lv_icmp_le (tgt := 113) hx hb d_Mod_record_107 (by decide) (fun hc10 => ?_) (fun hc10 => ?_)
                  · skip
                    have hc10 := zt_leT (a := (c9 + 0)) (b := qu) (by omega) (by omega) hc10
                    first | exact absurd hci hc10 | exact absurd hc10 (by omega)
                  · skip
                    have hc10 := zt_leF (a := (c9 + 0)) (b := qu) (by omega) (by omega) hc10
                    refine lv_bipush (v := (-4)) hx hb d_Mod_record_110 (by decide) ?_
                    refine W.widen (k := 0) (n := 0) (Nat.le_of_ble_eq_true rfl) (Nat.le_of_ble_eq_true rfl) ?_
                    subst hAe
                    exact W.iret (v := (-4)) hx hb hr (fun t ht hW => zc_end hS hH ht (⟨rfl, rfl, rfl, rfl, hm⟩)) hS.2.2 d_Mod_record_112
                · skip
                  have hc9 := zt_leF (a := ((2 + (n + 3) / 4 + 12 - (16 - fl)) / 13)) (b := 0) (by omega) (by omega) hc9
                  refine lv_iload hx hb d_Mod_record_94 (lv_at hl 0 rfl) ?_
                  refine lv_goto (tgt := 100) hx hb d_Mod_record_96 (by decide) ?_
                  refine lv_iadd hx hb d_Mod_record_100 ?_
                  refine zt_i (y := nI (c9 + ((2 + (n + 3) / 4 + 12 - (16 - fl)) / 13))) (nI_add c9 ((2 + (n + 3) / 4 + 12 - (16 - fl)) / 13)) ?_
                  refine lv_aload_n hx hb d_Mod_record_101 rfl (lv_at hl 2 rfl) ?_
                  refine zr_getr (ci := 6) (C := R_Mod) (T := T_Mod) (N := 37) (ref := "ScrubbedRecorderModel") hx hb hts (fun w h => List.mem_cons_of_mem _ (zin_Mod w h)) hown hK hH hm.1.1 (by decide) rfl 9 (by decide) rfl (hw zw_608) (fun _ h9 => h9) d_Mod_record_102 (by rw [r9]) ?_
                  refine lv_iload_n hx hb d_Mod_record_105 rfl (lv_at hl 3 rfl) ?_
                  refine zr_aldi (j := k) hx hb hK hH k9 (by rw [n9]; exact zh_ix_n (by omega) (by omega)) d_Mod_record_106 ?_
                  refine zt_i (y := nI qu) ((congrFun (hm.2.1 9 (by decide) (by decide) (by decide)) k).trans (by rw [hqu])) ?_
                  refine lv_icmp_le (tgt := 113) hx hb d_Mod_record_107 (by decide) (fun hc11 => ?_) (fun hc11 => ?_)
                  · skip
                    have hc11 := zt_leT (a := (c9 + ((2 + (n + 3) / 4 + 12 - (16 - fl)) / 13))) (b := qu) (by omega) (by omega) hc11
                    first | exact absurd hci hc11 | exact absurd hc11 (by omega)
                  · skip
                    have hc11 := zt_leF (a := (c9 + ((2 + (n + 3) / 4 + 12 - (16 - fl)) / 13))) (b := qu) (by omega) (by omega) hc11
                    refine lv_bipush (v := (-4)) hx hb d_Mod_record_110 (by decide) ?_
                    refine W.widen (k := 0) (n := 0) (Nat.le_of_ble_eq_true rfl) (Nat.le_of_ble_eq_true rfl) ?_
                    subst hAe
                    exact W.iret (v := (-4)) hx hb hr (fun t ht hW => zc_end hS hH ht (⟨rfl, rfl, rfl, rfl, hm⟩)) hS.2.2 d_Mod_record_112
            · skip
              have hc7 : b < (m9 11 k) := Int32.not_le.mp hc7
              (first | exact absurd hc7 htb | exact absurd hc7 ha1 | exact absurd hc7 ha2 | exact absurd hc7 (by omega) | exact absurd hc7 (by rw [zo_made_n hk4, if_neg hmd]; decide))

set_option maxHeartbeats 4000000 in
set_option maxRecDepth 100000 in
/-- record, of a packet -/
theorem c_Mod_record {l : Launch} {D : va_G} {cA : Nat → ClassId} {te mi : Nat} {kd ln : Nat → Nat} {I : Nat → Nat → Int32} {L : Nat → Nat → Int64} {R : Nat → Nat → Option Nat} {X : Nat} {ad : Nat → Nat} {m9 : Nat → Nat → Int32} {q9 : Nat → Nat → Int64} (hm : zoR X ad m9 q9 kd ln I L R) {k n c9 fl qu : Nat} {a b : Int32} (hk4 : k < 4) (hmd : ¬ m9 7 k = nI 0) (ha1 : ¬ a < nI 0) (ha2 : ¬ nI 255 < a) (hn60 : n ≤ 60) (htb : ¬ b < m9 11 k) (hfl : m9 13 k = nI fl) (hf3 : 3 ≤ fl) (hf16 : fl ≤ 16) (hcl : m9 12 k = nI c9) (hc40 : c9 ≤ 40) (hqu : m9 9 k = nI qu) (hq40 : qu ≤ 40) {s9 c1 : Nat} (hro : m9 8 k = nI 0 → c9 + (2 + (n + 3) / 4 + 12 - (16 - fl)) / 13 ≤ qu) (hs1 : s9 < 280) (hs2 : m9 16 s9 < nI 0) (hs3 : ∀ t, t < s9 → ¬ m9 16 t < nI 0) (hok : ∀ w, w < 2 + (n + 3) / 4 → zo_ok k (zo_rwn k s9 w (m9, q9))) (hpgc : zo_pgs (zo_rwn k s9 (2 + (n + 3) / 4) (m9, q9)).1 k c1) : zc_M l y_Mod_record w_Mod_record { frames := 4, cells := 0, slots := 0, locals := 90 } 0 0 D cA te mi ([.ref X, .int (nI k), .int a, .int b, .int (nI n)] : List Value) kd ln I L R (zo_P (some (.int ((zo_prn k c1 (zo_rec m9 q9 k s9 a b n)).1 10 k - nI 1))) X ad ((zo_prn k c1 (zo_rec m9 q9 k s9 a b n)).1) ((zo_prn k c1 (zo_rec m9 q9 k s9 a b n)).2) kd ln R) := by
  intro sz
  refine Met.ofW (cc := b_Mod_record) (maxL := 10) (ret := (some (.int))) (by decide +kernel) rfl ?_
  intro p e s m args below meth c s₁ B hml hv
  obtain ⟨rfl, hsz, hSc, hE, hH⟩ := hv
  have hx := B.exec
  have hb := B.bytes
  have hr := B.returns
  have hts := atoms_spec (ws := w_Mod_record) B.pre
  have hw : ∀ {w : Cond}, w ∈ zw → w.before ([.ref X, .int (nI k), .int a, .int b, .int (nI n)] : List Value).toArray s = true := fun h => hts _ (List.mem_cons_of_mem _ h)
  have hown : s.vm.findClass R_Mod = some m.cls := findClass_of_methodNamed B.named
  have hlocks := B.notSynchronized
  subst hsz
  have hK := hSc.1
  have hH : zh_H D cA (zc_A kd s.heap.size) kd ln I L R s.heap := hH.weaken (fun q h _ => Or.inl h)
  generalize hAe : zc_A kd s.heap.size = A at hH hE ⊢
  have hA : ∀ q : Nat, s.heap.size ≤ q → A q := fun q h => by rw [← hAe]; exact Or.inr h
  have hS : va_S A s.heap s.heap [] := va_S.rf
  have hl := lv_entry ([.ref X, .int (nI k), .int a, .int b, .int (nI n)] : List Value) (n := 10) (Nat.le_of_ble_eq_true rfl)
  rw [lg_entry_eq]
  generalize (lg_sl ([.ref X, .int (nI k), .int a, .int b, .int (nI n)] : List Value) ++ List.replicate (10 - (lg_sl ([.ref X, .int (nI k), .int a, .int b, .int (nI n)] : List Value)).length) Slot.unset).toArray = ls at hl ⊢
  have hl : lv_has ls 10 [(0, .ref X), (1, .int (nI k)), (2, .int a), (3, .int b), (4, .int (nI n))] := hl
  have k8 : kd (ad 8) = 103 := (hm.1.2.1 8 (by decide) (by decide)).2.1
  have n8 : ln (ad 8) = 4 := (hm.1.2.1 8 (by decide) (by decide)).2.2
  have r8 : R X 8 = some (ad 8) := (hm.1.2.1 8 (by decide) (by decide)).1
  have k9 : kd (ad 9) = 100 := (hm.1.2.1 9 (by decide) (by decide)).2.1
  have n9 : ln (ad 9) = 4 := (hm.1.2.1 9 (by decide) (by decide)).2.2
  have r9 : R X 9 = some (ad 9) := (hm.1.2.1 9 (by decide) (by decide)).1
  have k10 : kd (ad 10) = 100 := (hm.1.2.1 10 (by decide) (by decide)).2.1
  have n10 : ln (ad 10) = 4 := (hm.1.2.1 10 (by decide) (by decide)).2.2
  have r10 : R X 10 = some (ad 10) := (hm.1.2.1 10 (by decide) (by decide)).1
  have k11 : kd (ad 11) = 100 := (hm.1.2.1 11 (by decide) (by decide)).2.1
  have n11 : ln (ad 11) = 4 := (hm.1.2.1 11 (by decide) (by decide)).2.2
  have r11 : R X 11 = some (ad 11) := (hm.1.2.1 11 (by decide) (by decide)).1
  have k12 : kd (ad 12) = 100 := (hm.1.2.1 12 (by decide) (by decide)).2.1
  have n12 : ln (ad 12) = 4 := (hm.1.2.1 12 (by decide) (by decide)).2.2
  have r12 : R X 12 = some (ad 12) := (hm.1.2.1 12 (by decide) (by decide)).1
  have k13 : kd (ad 13) = 100 := (hm.1.2.1 13 (by decide) (by decide)).2.1
  have n13 : ln (ad 13) = 4 := (hm.1.2.1 13 (by decide) (by decide)).2.2
  have r13 : R X 13 = some (ad 13) := (hm.1.2.1 13 (by decide) (by decide)).1
  have k14 : kd (ad 14) = 100 := (hm.1.2.1 14 (by decide) (by decide)).2.1
  have n14 : ln (ad 14) = 160 := (hm.1.2.1 14 (by decide) (by decide)).2.2
  have r14 : R X 14 = some (ad 14) := (hm.1.2.1 14 (by decide) (by decide)).1
  have k16 : kd (ad 16) = 100 := (hm.1.2.1 16 (by decide) (by decide)).2.1
  have n16 : ln (ad 16) = 280 := (hm.1.2.1 16 (by decide) (by decide)).2.2
  have r16 : R X 16 = some (ad 16) := (hm.1.2.1 16 (by decide) (by decide)).1
  have k17 : kd (ad 17) = 100 := (hm.1.2.1 17 (by decide) (by decide)).2.1
  have n17 : ln (ad 17) = 280 := (hm.1.2.1 17 (by decide) (by decide)).2.2
  have r17 : R X 17 = some (ad 17) := (hm.1.2.1 17 (by decide) (by decide)).1
  have k18 : kd (ad 18) = 100 := (hm.1.2.1 18 (by decide) (by decide)).2.1
  have n18 : ln (ad 18) = 280 := (hm.1.2.1 18 (by decide) (by decide)).2.2
  have r18 : R X 18 = some (ad 18) := (hm.1.2.1 18 (by decide) (by decide)).1
  have k19 : kd (ad 19) = 100 := (hm.1.2.1 19 (by decide) (by decide)).2.1
  have n19 : ln (ad 19) = 280 := (hm.1.2.1 19 (by decide) (by decide)).2.2
  have r19 : R X 19 = some (ad 19) := (hm.1.2.1 19 (by decide) (by decide)).1
  have k20 : kd (ad 20) = 100 := (hm.1.2.1 20 (by decide) (by decide)).2.1
  have n20 : ln (ad 20) = 280 := (hm.1.2.1 20 (by decide) (by decide)).2.2
  have r20 : R X 20 = some (ad 20) := (hm.1.2.1 20 (by decide) (by decide)).1
  have k21 : kd (ad 21) = 100 := (hm.1.2.1 21 (by decide) (by decide)).2.1
  have n21 : ln (ad 21) = 280 := (hm.1.2.1 21 (by decide) (by decide)).2.2
  have r21 : R X 21 = some (ad 21) := (hm.1.2.1 21 (by decide) (by decide)).1
  have k22 : kd (ad 22) = 103 := (hm.1.2.1 22 (by decide) (by decide)).2.1
  have n22 : ln (ad 22) = 280 := (hm.1.2.1 22 (by decide) (by decide)).2.2
  have r22 : R X 22 = some (ad 22) := (hm.1.2.1 22 (by decide) (by decide)).1
  have k23 : kd (ad 23) = 103 := (hm.1.2.1 23 (by decide) (by decide)).2.1
  have n23 : ln (ad 23) = 280 := (hm.1.2.1 23 (by decide) (by decide)).2.2
  have r23 : R X 23 = some (ad 23) := (hm.1.2.1 23 (by decide) (by decide)).1
  have k24 : kd (ad 24) = 100 := (hm.1.2.1 24 (by decide) (by decide)).2.1
  have n24 : ln (ad 24) = 280 := (hm.1.2.1 24 (by decide) (by decide)).2.2
  have r24 : R X 24 = some (ad 24) := (hm.1.2.1 24 (by decide) (by decide)).1
  have k25 : kd (ad 25) = 101 := (hm.1.2.1 25 (by decide) (by decide)).2.1
  have n25 : ln (ad 25) = 2240 := (hm.1.2.1 25 (by decide) (by decide)).2.2
  have r25 : R X 25 = some (ad 25) := (hm.1.2.1 25 (by decide) (by decide)).1
  have k34 : kd (ad 34) = 100 := (hm.1.2.1 34 (by decide) (by decide)).2.1
  have n34 : ln (ad 34) = 64 := (hm.1.2.1 34 (by decide) (by decide)).2.2
  have r34 : R X 34 = some (ad 34) := (hm.1.2.1 34 (by decide) (by decide)).1
  refine lv_aload_n hx hb d_Mod_record_0 rfl (lv_at hl 0 rfl) ?_
  refine lv_iload_n hx hb d_Mod_record_1 rfl (lv_at hl 1 rfl) ?_
  refine zr_V (As := ([.int (nI k)] : List Value)) (rest := []) (b := X) (ci := 6) (q := (R_Mod, T_Mod, 37)) ⟨hx, hb, hml, hown, hts⟩ (c_Mod_isMade hm ) ⟨(callB_of 1 hts (zg_all zw_757) rfl rfl rfl (hw zw_3) (hw zw_754) k_Mod_isMade.2 ⟨Nat.le_of_ble_eq_true rfl, Nat.le_of_ble_eq_true rfl⟩), (hw zw_756), (hw zs_Mod_isMade)⟩ hSc hE hH hS hA rfl (by decide) hm.1.1 rfl hl.1 rfl (Nat.le_of_ble_eq_true rfl) d_Mod_record_2 ⟨Nat.le_of_ble_eq_true rfl, Nat.le_of_ble_eq_true rfl⟩ (fun v1 kd1 ln1 I1 L1 R1 H locs hp hH hS => ?_)
  obtain ⟨rfl, rfl, rfl, rfl, hm⟩ := hp
  refine W.eq (g2 := F0 m 5 ls [.int (zo_made (m9 7) (nI k))]) rfl ?_
  refine W.widen (k := 0) (n := 0) (by omega) (by omega) ?_
  refine lv_if_eq (tgt := 41) hx hb d_Mod_record_5 (by decide) (fun hc2 => ?_) (fun hc2 => ?_)
  · skip
    have hc2 : (zo_made (m9 7) (nI k)) = (nI 0) := hc2
    (first | exact absurd hc2 htb | exact absurd hc2 ha1 | exact absurd hc2 ha2 | exact absurd hc2 (by omega) | exact absurd hc2 (by rw [zo_made_n hk4, if_neg hmd]; decide))
  · skip
    have hc2 : ¬ (zo_made (m9 7) (nI k)) = (nI 0) := hc2
    refine lv_iload_n hx hb d_Mod_record_8 rfl (lv_at hl 2 rfl) ?_
    refine lv_if_lt (tgt := 41) hx hb d_Mod_record_9 (by decide) (fun hc3 => ?_) (fun hc3 => ?_)
    · skip
      have hc3 : a < (nI 0) := hc3
      (first | exact absurd hc3 htb | exact absurd hc3 ha1 | exact absurd hc3 ha2 | exact absurd hc3 (by omega) | exact absurd hc3 (by rw [zo_made_n hk4, if_neg hmd]; decide))
    · skip
      have hc3 : ¬ a < (nI 0) := hc3
      refine lv_iload_n hx hb d_Mod_record_12 rfl (lv_at hl 2 rfl) ?_
      refine lv_sipush (v := nI 255) hx hb d_Mod_record_13 (by decide) ?_
      refine lv_icmp_gt (tgt := 41) hx hb d_Mod_record_16 (by decide) (fun hc4 => ?_) (fun hc4 => ?_)
      · skip
        have hc4 : (nI 255) < a := hc4
        (first | exact absurd hc4 htb | exact absurd hc4 ha1 | exact absurd hc4 ha2 | exact absurd hc4 (by omega) | exact absurd hc4 (by rw [zo_made_n hk4, if_neg hmd]; decide))
      · skip
        have hc4 : ¬ (nI 255) < a := hc4
        refine lv_iload hx hb d_Mod_record_19 (lv_at hl 4 rfl) ?_
        refine lv_if_lt (tgt := 41) hx hb d_Mod_record_21 (by decide) (fun hc5 => ?_) (fun hc5 => ?_)
        · skip
          have hc5 := zt_ltT (a := n) (b := 0) (by omega) (by omega) hc5
          (first | exact absurd hc5 htb | exact absurd hc5 ha1 | exact absurd hc5 ha2 | exact absurd hc5 (by omega) | exact absurd hc5 (by rw [zo_made_n hk4, if_neg hmd]; decide))
        · skip
          have hc5 := zt_ltF (a := n) (b := 0) (by omega) (by omega) hc5
          refine lv_iload hx hb d_Mod_record_24 (lv_at hl 4 rfl) ?_
          refine lv_bipush (v := nI 60) hx hb d_Mod_record_26 (by decide) ?_
          refine lv_icmp_gt (tgt := 41) hx hb d_Mod_record_28 (by decide) (fun hc6 => ?_) (fun hc6 => ?_)
          · skip
            have hc6 := zt_gtT (a := n) (b := 60) (by omega) (by omega) hc6
            (first | exact absurd hc6 htb | exact absurd hc6 ha1 | exact absurd hc6 ha2 | exact absurd hc6 (by omega) | exact absurd hc6 (by rw [zo_made_n hk4, if_neg hmd]; decide))
          · skip
            have hc6 := zt_gtF (a := n) (b := 60) (by omega) (by omega) hc6
            refine lv_iload_n hx hb d_Mod_record_31 rfl (lv_at hl 3 rfl) ?_
            refine lv_aload_n hx hb d_Mod_record_32 rfl (lv_at hl 0 rfl) ?_
            refine zr_getr (ci := 6) (C := R_Mod) (T := T_Mod) (N := 37) (ref := "ScrubbedRecorderModel") hx hb hts (fun w h => List.mem_cons_of_mem _ (zin_Mod w h)) hown hK hH hm.1.1 (by decide) rfl 11 (by decide) rfl (hw zw_610) (fun _ h9 => h9) d_Mod_record_33 (by rw [r11]) ?_
            refine lv_iload_n hx hb d_Mod_record_36 rfl (lv_at hl 1 rfl) ?_
            refine zr_aldi (j := k) hx hb hK hH k11 (by rw [n11]; exact zh_ix_n (by omega) (by omega)) d_Mod_record_37 ?_
            refine zt_i (y := m9 11 k) (congrFun (hm.2.1 11 (by decide) (by decide) (by decide)) k) ?_
            refine lv_icmp_ge (tgt := 44) hx hb d_Mod_record_38 (by decide) (fun hc7 => ?_) (fun hc7 => ?_)
            · skip
              have hc7 : ¬ b < (m9 11 k) := Int32.not_lt.mpr hc7
              refine lv_iconst (v := nI 2) hx hb d_Mod_record_44 (by decide) ?_
              refine lv_iload hx hb d_Mod_record_45 (lv_at hl 4 rfl) ?_
              refine lv_iconst (v := nI 3) hx hb d_Mod_record_47 (by decide) ?_
              refine lv_iadd hx hb d_Mod_record_48 ?_
              refine zt_i (y := nI (n + 3)) (nI_add n 3) ?_
              refine lv_iconst (v := nI 4) hx hb d_Mod_record_49 (by decide) ?_
              refine lv_idiv hx hb d_Mod_record_50 (zt_ne0 (by omega) (by omega)) ?_
              refine zt_i (y := nI ((n + 3) / 4)) (pk_div (by omega) (by omega) (by omega)) ?_
              refine lv_iadd hx hb d_Mod_record_51 ?_
              refine zt_i (y := nI (2 + ((n + 3) / 4))) (nI_add 2 ((n + 3) / 4)) ?_
              refine lv_istore (lv' := [(5, .int (nI (2 + ((n + 3) / 4)))), (0, .ref X), (1, .int (nI k)), (2, .int a), (3, .int b), (4, .int (nI n))]) hx hb d_Mod_record_52 hl (by decide) rfl (fun ls hl => ?_)
              refine lv_iload hx hb d_Mod_record_54 (lv_at hl 0 rfl) ?_
              refine lv_bipush (v := nI 16) hx hb d_Mod_record_56 (by decide) ?_
              refine lv_aload_n hx hb d_Mod_record_58 rfl (lv_at hl 1 rfl) ?_
              refine zr_getr (ci := 6) (C := R_Mod) (T := T_Mod) (N := 37) (ref := "ScrubbedRecorderModel") hx hb hts (fun w h => List.mem_cons_of_mem _ (zin_Mod w h)) hown hK hH hm.1.1 (by decide) rfl 13 (by decide) rfl (hw zw_612) (fun _ h9 => h9) d_Mod_record_59 (by rw [r13]) ?_
              refine lv_iload_n hx hb d_Mod_record_62 rfl (lv_at hl 2 rfl) ?_
              refine zr_aldi (j := k) hx hb hK hH k13 (by rw [n13]; exact zh_ix_n (by omega) (by omega)) d_Mod_record_63 ?_
              refine zt_i (y := nI fl) ((congrFun (hm.2.1 13 (by decide) (by decide) (by decide)) k).trans (by rw [hfl])) ?_
              refine lv_isub hx hb d_Mod_record_64 ?_
              refine zt_i (y := nI (16 - fl)) (pk_sub (by omega)) ?_
              refine lv_isub hx hb d_Mod_record_65 ?_
              refine lv_bipush (v := nI 12) hx hb d_Mod_record_66 (by decide) ?_
              refine lv_iadd hx hb d_Mod_record_68 ?_
              refine zt_i (y := nI (2 + (n + 3) / 4 + 12 - (16 - fl))) (zt_sa (by omega)) ?_
              refine lv_bipush (v := nI 13) hx hb d_Mod_record_69 (by decide) ?_
              refine lv_idiv hx hb d_Mod_record_71 (zt_ne0 (by omega) (by omega)) ?_
              refine zt_i (y := nI ((2 + (n + 3) / 4 + 12 - (16 - fl)) / 13)) (pk_div (by omega) (by omega) (by omega)) ?_
              refine lv_istore (lv' := [(6, .int (nI ((2 + (n + 3) / 4 + 12 - (16 - fl)) / 13))), (5, .int (nI (2 + ((n + 3) / 4)))), (0, .ref X), (1, .int (nI k)), (2, .int a), (3, .int b), (4, .int (nI n))]) hx hb d_Mod_record_72 hl (by decide) rfl (fun ls hl => ?_)
              have join_113 : ∀ (I_113 : Nat → Nat → Int32) (L_113 : Nat → Nat → Int64) (H : Heap) (locs : List Loc) (ls : Array Slot), (zoR X ad m9 q9 kd ln I_113 L_113 R) → lv_has ls 10 [(0, .ref X), (1, .int (nI k)), (2, .int a), (3, .int b), (4, .int (nI n)), (5, .int (nI (2 + (n + 3) / 4)))] → zh_H D cA A kd ln I_113 L_113 R H → va_S A s.heap H locs → W p l e (headSpec w_Mod_record { frames := 4, cells := 0, slots := 0, locals := 90 }).room s m ([.ref X, .int (nI k), .int a, .int b, .int (nI n)] : List Value).toArray below meth c H locs 0 0 (MQ below (zc_Qc D cA A (zo_P (some (.int ((zo_prn k c1 (zo_rec m9 q9 k s9 a b n)).1 10 k - nI 1))) X ad ((zo_prn k c1 (zo_rec m9 q9 k s9 a b n)).1) ((zo_prn k c1 (zo_rec m9 q9 k s9 a b n)).2) kd ln R)) ([.ref X, .int (nI k), .int a, .int b, .int (nI n)] : List Value).toArray s 0 0 A) (F0 m 113 ls []) := by
                intro I_113 L_113 H locs ls hm hl hH hS
                refine lv_iconst (v := nI 0) hx hb d_Mod_record_113 (by decide) ?_
                refine lv_istore (lv' := [(7, .int (nI 0)), (0, .ref X), (1, .int (nI k)), (2, .int a), (3, .int b), (4, .int (nI n)), (5, .int (nI (2 + (n + 3) / 4)))]) hx hb d_Mod_record_114 hl (by decide) rfl (fun ls hl => ?_)
                have loop_116 : ∀ (z : Nat) (t9 : Nat) (I_116 : Nat → Nat → Int32) (L_116 : Nat → Nat → Int64) (H : Heap) (locs : List Loc) (ls : Array Slot), s9 - t9 < z → (t9 ≤ s9) → (zoR X ad m9 q9 kd ln I_116 L_116 R) → lv_has ls 10 [(0, .ref X), (1, .int (nI k)), (2, .int a), (3, .int b), (4, .int (nI n)), (5, .int (nI (2 + (n + 3) / 4))), (7, .int (nI t9))] → zh_H D cA A kd ln I_116 L_116 R H → va_S A s.heap H locs → W p l e (headSpec w_Mod_record { frames := 4, cells := 0, slots := 0, locals := 90 }).room s m ([.ref X, .int (nI k), .int a, .int b, .int (nI n)] : List Value).toArray below meth c H locs 0 0 (MQ below (zc_Qc D cA A (zo_P (some (.int ((zo_prn k c1 (zo_rec m9 q9 k s9 a b n)).1 10 k - nI 1))) X ad ((zo_prn k c1 (zo_rec m9 q9 k s9 a b n)).1) ((zo_prn k c1 (zo_rec m9 q9 k s9 a b n)).2) kd ln R)) ([.ref X, .int (nI k), .int a, .int b, .int (nI n)] : List Value).toArray s 0 0 A) (F0 m 116 ls []) := by
                  intro z
                  induction z with
                  | zero => intro t9 I_116 L_116 H locs ls hz; exact absurd hz (Nat.not_lt_zero _)
                  | succ z ih_116 =>
                    intro t9 I_116 L_116 H locs ls hz_116 ht9 hm hl hH hS
                    refine lv_aload_n hx hb d_Mod_record_116 rfl (lv_at hl 0 rfl) ?_
                    refine zr_getr (ci := 6) (C := R_Mod) (T := T_Mod) (N := 37) (ref := "ScrubbedRecorderModel") hx hb hts (fun w h => List.mem_cons_of_mem _ (zin_Mod w h)) hown hK hH hm.1.1 (by decide) rfl 16 (by decide) rfl (hw zw_615) (fun _ h9 => h9) d_Mod_record_117 (by rw [r16]) ?_
                    refine lv_iload hx hb d_Mod_record_120 (lv_at hl 6 rfl) ?_
                    refine zr_aldi (j := t9) hx hb hK hH k16 (by rw [n16]; exact zh_ix_n (by omega) (by omega)) d_Mod_record_122 ?_
                    refine zt_i (y := m9 16 t9) (congrFun (hm.2.1 16 (by decide) (by decide) (by decide)) t9) ?_
                    refine lv_if_lt (tgt := 132) hx hb d_Mod_record_123 (by decide) (fun hc8 => ?_) (fun hc8 => ?_)
                    · skip
                      have hc8 : (m9 16 t9) < (nI 0) := hc8
                      have hts9 : t9 = s9 := by rcases Nat.lt_or_ge t9 s9 with q | q; exact absurd hc8 (hs3 _ q); omega
                      rw [hts9] at hl
                      refine lv_iconst (v := nI 0) hx hb d_Mod_record_132 (by decide) ?_
                      refine lv_istore (lv' := [(8, .int (nI 0)), (0, .ref X), (1, .int (nI k)), (2, .int a), (3, .int b), (4, .int (nI n)), (5, .int (nI (2 + (n + 3) / 4))), (7, .int (nI s9))]) hx hb d_Mod_record_133 hl (by decide) rfl (fun ls hl => ?_)
                      have loop_135 : ∀ (z : Nat) (i : Nat) (M1 : Nat → Nat → Int32) (Q1 : Nat → Nat → Int64) (I_135 : Nat → Nat → Int32) (L_135 : Nat → Nat → Int64) (H : Heap) (locs : List Loc) (ls : Array Slot), 2 + (n + 3) / 4 - i < z → (i ≤ 2 + (n + 3) / 4) → (zo_rwn k s9 i (m9, q9) = (M1, Q1)) → (zoR X ad M1 Q1 kd ln I_135 L_135 R) → lv_has ls 10 [(0, .ref X), (1, .int (nI k)), (2, .int a), (3, .int b), (4, .int (nI n)), (5, .int (nI (2 + (n + 3) / 4))), (7, .int (nI s9)), (8, .int (nI i))] → zh_H D cA A kd ln I_135 L_135 R H → va_S A s.heap H locs → W p l e (headSpec w_Mod_record { frames := 4, cells := 0, slots := 0, locals := 90 }).room s m ([.ref X, .int (nI k), .int a, .int b, .int (nI n)] : List Value).toArray below meth c H locs 0 0 (MQ below (zc_Qc D cA A (zo_P (some (.int ((zo_prn k c1 (zo_rec m9 q9 k s9 a b n)).1 10 k - nI 1))) X ad ((zo_prn k c1 (zo_rec m9 q9 k s9 a b n)).1) ((zo_prn k c1 (zo_rec m9 q9 k s9 a b n)).2) kd ln R)) ([.ref X, .int (nI k), .int a, .int b, .int (nI n)] : List Value).toArray s 0 0 A) (F0 m 135 ls []) := by
                        intro z
                        induction z with
                        | zero => intro i M1 Q1 I_135 L_135 H locs ls hz; exact absurd hz (Nat.not_lt_zero _)
                        | succ z ih_135 =>
                          intro i M1 Q1 I_135 L_135 H locs ls hz_135 hi hz1 hm hl hH hS
                          refine lv_iload hx hb d_Mod_record_135 (lv_at hl 7 rfl) ?_
                          refine lv_iload hx hb d_Mod_record_137 (lv_at hl 5 rfl) ?_
                          refine lv_icmp_ge (tgt := 230) hx hb d_Mod_record_139 (by decide) (fun hc9 => ?_) (fun hc9 => ?_)
                          · skip
                            have hc9 := zt_geT (a := i) (b := (2 + (n + 3) / 4)) (by omega) (by omega) hc9
                            have hi2 : i = 2 + (n + 3) / 4 := by omega
                            rw [hi2] at hz1
                            clear hi2
                            rw [hz1] at hpgc
                            have hrec : zo_rec m9 q9 k s9 a b n = (zo_rcJ M1 k s9 (nI k) a b (nI n), zo_dtQ Q1 (M1 34) s9 n) := by unfold zo_rec; rw [hz1]
                            rw [hrec]
                            clear hok hz1 hrec
                            have hl : lv_has ls 10 [(0, .ref X), (1, .int (nI k)), (2, .int a), (3, .int b), (4, .int (nI n)), (5, .int (nI (2 + (n + 3) / 4))), (7, .int (nI s9))] := lv_sub hl [0, 1, 2, 3, 4, 5, 6] rfl
                            refine lv_aload_n hx hb d_Mod_record_230 rfl (lv_at hl 0 rfl) ?_
                            refine zr_getr (ci := 6) (C := R_Mod) (T := T_Mod) (N := 37) (ref := "ScrubbedRecorderModel") hx hb hts (fun w h => List.mem_cons_of_mem _ (zin_Mod w h)) hown hK hH hm.1.1 (by decide) rfl 16 (by decide) rfl (hw zw_615) (fun _ h9 => h9) d_Mod_record_231 (by rw [r16]) ?_
                            refine lv_iload hx hb d_Mod_record_234 (lv_at hl 6 rfl) ?_
                            refine lv_iload_n hx hb d_Mod_record_236 rfl (lv_at hl 1 rfl) ?_
                            refine zr_asti (j := s9) (y := nI k) hx hb hK hH hS k16 rfl (by rw [n16]; exact zh_ix_n (by omega) (by omega)) d_Mod_record_237 (fun H locs hH hS => ?_)
                            have hm := zoR_I hm 16 (by decide) s9 (nI k)
                            generalize zu I_135 (ad 16) s9 (nI k) = I10 at hm hH
                            refine lv_aload_n hx hb d_Mod_record_238 rfl (lv_at hl 0 rfl) ?_
                            refine zr_getr (ci := 6) (C := R_Mod) (T := T_Mod) (N := 37) (ref := "ScrubbedRecorderModel") hx hb hts (fun w h => List.mem_cons_of_mem _ (zin_Mod w h)) hown hK hH hm.1.1 (by decide) rfl 17 (by decide) rfl (hw zw_616) (fun _ h9 => h9) d_Mod_record_239 (by rw [r17]) ?_
                            refine lv_iload hx hb d_Mod_record_242 (lv_at hl 6 rfl) ?_
                            refine lv_aload_n hx hb d_Mod_record_244 rfl (lv_at hl 0 rfl) ?_
                            refine zr_getr (ci := 6) (C := R_Mod) (T := T_Mod) (N := 37) (ref := "ScrubbedRecorderModel") hx hb hts (fun w h => List.mem_cons_of_mem _ (zin_Mod w h)) hown hK hH hm.1.1 (by decide) rfl 10 (by decide) rfl (hw zw_609) (fun _ h9 => h9) d_Mod_record_245 (by rw [r10]) ?_
                            refine lv_iload_n hx hb d_Mod_record_248 rfl (lv_at hl 1 rfl) ?_
                            refine zr_aldi (j := k) hx hb hK hH k10 (by rw [n10]; exact zh_ix_n (by omega) (by omega)) d_Mod_record_249 ?_
                            refine zt_i (y := M1 10 k) ((congrFun (hm.2.1 10 (by decide) (by decide) (by decide)) k).trans (by rw [zu_ne _ _ _ (show (10 : Nat) ≠ 16 by decide)])) ?_
                            refine zr_asti (j := s9) (y := M1 10 k) hx hb hK hH hS k17 rfl (by rw [n17]; exact zh_ix_n (by omega) (by omega)) d_Mod_record_250 (fun H locs hH hS => ?_)
                            have hm := zoR_I hm 17 (by decide) s9 (M1 10 k)
                            generalize zu I10 (ad 17) s9 (M1 10 k) = I11 at hm hH
                            refine lv_aload_n hx hb d_Mod_record_251 rfl (lv_at hl 0 rfl) ?_
                            refine zr_getr (ci := 6) (C := R_Mod) (T := T_Mod) (N := 37) (ref := "ScrubbedRecorderModel") hx hb hts (fun w h => List.mem_cons_of_mem _ (zin_Mod w h)) hown hK hH hm.1.1 (by decide) rfl 18 (by decide) rfl (hw zw_617) (fun _ h9 => h9) d_Mod_record_252 (by rw [r18]) ?_
                            refine lv_iload hx hb d_Mod_record_255 (lv_at hl 6 rfl) ?_
                            refine lv_iload_n hx hb d_Mod_record_257 rfl (lv_at hl 2 rfl) ?_
                            refine zr_asti (j := s9) (y := a) hx hb hK hH hS k18 rfl (by rw [n18]; exact zh_ix_n (by omega) (by omega)) d_Mod_record_258 (fun H locs hH hS => ?_)
                            have hm := zoR_I hm 18 (by decide) s9 a
                            generalize zu I11 (ad 18) s9 a = I12 at hm hH
                            refine lv_aload_n hx hb d_Mod_record_259 rfl (lv_at hl 0 rfl) ?_
                            refine zr_getr (ci := 6) (C := R_Mod) (T := T_Mod) (N := 37) (ref := "ScrubbedRecorderModel") hx hb hts (fun w h => List.mem_cons_of_mem _ (zin_Mod w h)) hown hK hH hm.1.1 (by decide) rfl 19 (by decide) rfl (hw zw_618) (fun _ h9 => h9) d_Mod_record_260 (by rw [r19]) ?_
                            refine lv_iload hx hb d_Mod_record_263 (lv_at hl 6 rfl) ?_
                            refine lv_iload_n hx hb d_Mod_record_265 rfl (lv_at hl 3 rfl) ?_
                            refine zr_asti (j := s9) (y := b) hx hb hK hH hS k19 rfl (by rw [n19]; exact zh_ix_n (by omega) (by omega)) d_Mod_record_266 (fun H locs hH hS => ?_)
                            have hm := zoR_I hm 19 (by decide) s9 b
                            generalize zu I12 (ad 19) s9 b = I13 at hm hH
                            refine lv_aload_n hx hb d_Mod_record_267 rfl (lv_at hl 0 rfl) ?_
                            refine zr_getr (ci := 6) (C := R_Mod) (T := T_Mod) (N := 37) (ref := "ScrubbedRecorderModel") hx hb hts (fun w h => List.mem_cons_of_mem _ (zin_Mod w h)) hown hK hH hm.1.1 (by decide) rfl 20 (by decide) rfl (hw zw_619) (fun _ h9 => h9) d_Mod_record_268 (by rw [r20]) ?_
                            refine lv_iload hx hb d_Mod_record_271 (lv_at hl 6 rfl) ?_
                            refine lv_iload hx hb d_Mod_record_273 (lv_at hl 4 rfl) ?_
                            refine zr_asti (j := s9) (y := nI n) hx hb hK hH hS k20 rfl (by rw [n20]; exact zh_ix_n (by omega) (by omega)) d_Mod_record_275 (fun H locs hH hS => ?_)
                            have hm := zoR_I hm 20 (by decide) s9 (nI n)
                            generalize zu I13 (ad 20) s9 (nI n) = I14 at hm hH
                            refine lv_aload_n hx hb d_Mod_record_276 rfl (lv_at hl 0 rfl) ?_
                            refine zr_getr (ci := 6) (C := R_Mod) (T := T_Mod) (N := 37) (ref := "ScrubbedRecorderModel") hx hb hts (fun w h => List.mem_cons_of_mem _ (zin_Mod w h)) hown hK hH hm.1.1 (by decide) rfl 22 (by decide) rfl (hw zw_621) (fun _ h9 => h9) d_Mod_record_277 (by rw [r22]) ?_
                            refine lv_iload hx hb d_Mod_record_280 (lv_at hl 6 rfl) ?_
                            refine lv_iconst (v := nI 0) hx hb d_Mod_record_282 (by decide) ?_
                            refine zr_astz (j := s9) (y := nI 0) hx hb hK hH hS k22 (by decide +kernel) (by rw [n22]; exact zh_ix_n (by omega) (by omega)) d_Mod_record_283 (fun H locs hH hS => ?_)
                            have hm := zoR_I hm 22 (by decide) s9 (nI 0)
                            generalize zu I14 (ad 22) s9 (nI 0) = I15 at hm hH
                            refine lv_aload_n hx hb d_Mod_record_284 rfl (lv_at hl 0 rfl) ?_
                            refine zr_getr (ci := 6) (C := R_Mod) (T := T_Mod) (N := 37) (ref := "ScrubbedRecorderModel") hx hb hts (fun w h => List.mem_cons_of_mem _ (zin_Mod w h)) hown hK hH hm.1.1 (by decide) rfl 23 (by decide) rfl (hw zw_622) (fun _ h9 => h9) d_Mod_record_285 (by rw [r23]) ?_
                            refine lv_iload hx hb d_Mod_record_288 (lv_at hl 6 rfl) ?_
                            refine lv_iconst (v := nI 0) hx hb d_Mod_record_290 (by decide) ?_
                            refine zr_astz (j := s9) (y := nI 0) hx hb hK hH hS k23 (by decide +kernel) (by rw [n23]; exact zh_ix_n (by omega) (by omega)) d_Mod_record_291 (fun H locs hH hS => ?_)
                            have hm := zoR_I hm 23 (by decide) s9 (nI 0)
                            generalize zu I15 (ad 23) s9 (nI 0) = I16 at hm hH
                            refine lv_aload_n hx hb d_Mod_record_292 rfl (lv_at hl 0 rfl) ?_
                            refine zr_getr (ci := 6) (C := R_Mod) (T := T_Mod) (N := 37) (ref := "ScrubbedRecorderModel") hx hb hts (fun w h => List.mem_cons_of_mem _ (zin_Mod w h)) hown hK hH hm.1.1 (by decide) rfl 24 (by decide) rfl (hw zw_623) (fun _ h9 => h9) d_Mod_record_293 (by rw [r24]) ?_
                            refine lv_iload hx hb d_Mod_record_296 (lv_at hl 6 rfl) ?_
                            refine lv_iconst (v := nI 0) hx hb d_Mod_record_298 (by decide) ?_
                            refine zr_asti (j := s9) (y := nI 0) hx hb hK hH hS k24 rfl (by rw [n24]; exact zh_ix_n (by omega) (by omega)) d_Mod_record_299 (fun H locs hH hS => ?_)
                            have hm := zoR_I hm 24 (by decide) s9 (nI 0)
                            generalize zu I16 (ad 24) s9 (nI 0) = I17 at hm hH
                            have hm : zoR X ad (zo_rcI M1 k s9 (nI k) a b (nI n)) Q1 kd ln I17 L_135 R := hm
                            have f10 : zo_rcI M1 k s9 (nI k) a b (nI n) 10 k = M1 10 k := by unfold zo_rcI; simp only [zu_ne _ _ _ (show (10 : Nat) ≠ 24 by decide), zu_ne _ _ _ (show (10 : Nat) ≠ 23 by decide), zu_ne _ _ _ (show (10 : Nat) ≠ 22 by decide), zu_ne _ _ _ (show (10 : Nat) ≠ 20 by decide), zu_ne _ _ _ (show (10 : Nat) ≠ 19 by decide), zu_ne _ _ _ (show (10 : Nat) ≠ 18 by decide), zu_ne _ _ _ (show (10 : Nat) ≠ 17 by decide), zu_ne _ _ _ (show (10 : Nat) ≠ 16 by decide)]
                            have f34 : zo_rcI M1 k s9 (nI k) a b (nI n) 34 = M1 34 := by unfold zo_rcI; simp only [zu_ne _ _ _ (show (34 : Nat) ≠ 24 by decide), zu_ne _ _ _ (show (34 : Nat) ≠ 23 by decide), zu_ne _ _ _ (show (34 : Nat) ≠ 22 by decide), zu_ne _ _ _ (show (34 : Nat) ≠ 20 by decide), zu_ne _ _ _ (show (34 : Nat) ≠ 19 by decide), zu_ne _ _ _ (show (34 : Nat) ≠ 18 by decide), zu_ne _ _ _ (show (34 : Nat) ≠ 17 by decide), zu_ne _ _ _ (show (34 : Nat) ≠ 16 by decide)]
                            refine lv_iconst (v := nI 0) hx hb d_Mod_record_300 (by decide) ?_
                            refine lv_istore (lv' := [(8, .int (nI 0)), (0, .ref X), (1, .int (nI k)), (2, .int a), (3, .int b), (4, .int (nI n)), (5, .int (nI (2 + (n + 3) / 4))), (7, .int (nI s9))]) hx hb d_Mod_record_301 hl (by decide) rfl (fun ls hl => ?_)
                            have loop_303 : ∀ (z : Nat) (z8 : Nat) (I_303 : Nat → Nat → Int32) (L_303 : Nat → Nat → Int64) (H : Heap) (locs : List Loc) (ls : Array Slot), 8 - z8 < z → (z8 ≤ 8) → (zoR X ad (zo_rcI M1 k s9 (nI k) a b (nI n)) (va_up Q1 25 (zo_z8 (Q1 25) s9 z8)) kd ln I_303 L_303 R) → lv_has ls 10 [(0, .ref X), (1, .int (nI k)), (2, .int a), (3, .int b), (4, .int (nI n)), (5, .int (nI (2 + (n + 3) / 4))), (7, .int (nI s9)), (8, .int (nI z8))] → zh_H D cA A kd ln I_303 L_303 R H → va_S A s.heap H locs → W p l e (headSpec w_Mod_record { frames := 4, cells := 0, slots := 0, locals := 90 }).room s m ([.ref X, .int (nI k), .int a, .int b, .int (nI n)] : List Value).toArray below meth c H locs 0 0 (MQ below (zc_Qc D cA A (zo_P (some (.int ((zo_prn k c1 (zo_rcJ M1 k s9 (nI k) a b (nI n), zo_dtQ Q1 (M1 34) s9 n)).1 10 k - nI 1))) X ad ((zo_prn k c1 (zo_rcJ M1 k s9 (nI k) a b (nI n), zo_dtQ Q1 (M1 34) s9 n)).1) ((zo_prn k c1 (zo_rcJ M1 k s9 (nI k) a b (nI n), zo_dtQ Q1 (M1 34) s9 n)).2) kd ln R)) ([.ref X, .int (nI k), .int a, .int b, .int (nI n)] : List Value).toArray s 0 0 A) (F0 m 303 ls []) := by
                              intro z
                              induction z with
                              | zero => intro z8 I_303 L_303 H locs ls hz; exact absurd hz (Nat.not_lt_zero _)
                              | succ z ih_303 =>
                                intro z8 I_303 L_303 H locs ls hz_303 hz8 hm hl hH hS
                                refine lv_iload hx hb d_Mod_record_303 (lv_at hl 7 rfl) ?_
                                refine lv_bipush (v := nI 8) hx hb d_Mod_record_305 (by decide) ?_
                                refine lv_icmp_ge (tgt := 330) hx hb d_Mod_record_307 (by decide) (fun hc18 => ?_) (fun hc18 => ?_)
                                · skip
                                  have hc18 := zt_geT (a := z8) (b := 8) (by omega) (by omega) hc18
                                  refine lv_iconst (v := nI 0) hx hb d_Mod_record_330 (by decide) ?_
                                  refine lv_istore (lv' := [(8, .int (nI 0)), (0, .ref X), (1, .int (nI k)), (2, .int a), (3, .int b), (4, .int (nI n)), (5, .int (nI (2 + (n + 3) / 4))), (7, .int (nI s9))]) hx hb d_Mod_record_331 hl (by decide) rfl (fun ls hl => ?_)
                                  rw [show z8 = 8 by omega] at hm
                                  have loop_333 : ∀ (z : Nat) (i8 : Nat) (I_333 : Nat → Nat → Int32) (L_333 : Nat → Nat → Int64) (H : Heap) (locs : List Loc) (ls : Array Slot), n - i8 < z → (i8 ≤ n) → (zoR X ad (zo_rcI M1 k s9 (nI k) a b (nI n)) (va_up Q1 25 (zo_dt (zo_z8 (Q1 25) s9 8) (M1 34) s9 i8)) kd ln I_333 L_333 R) → lv_has ls 10 [(0, .ref X), (1, .int (nI k)), (2, .int a), (3, .int b), (4, .int (nI n)), (5, .int (nI (2 + (n + 3) / 4))), (7, .int (nI s9)), (8, .int (nI i8))] → zh_H D cA A kd ln I_333 L_333 R H → va_S A s.heap H locs → W p l e (headSpec w_Mod_record { frames := 4, cells := 0, slots := 0, locals := 90 }).room s m ([.ref X, .int (nI k), .int a, .int b, .int (nI n)] : List Value).toArray below meth c H locs 0 0 (MQ below (zc_Qc D cA A (zo_P (some (.int ((zo_prn k c1 (zo_rcJ M1 k s9 (nI k) a b (nI n), zo_dtQ Q1 (M1 34) s9 n)).1 10 k - nI 1))) X ad ((zo_prn k c1 (zo_rcJ M1 k s9 (nI k) a b (nI n), zo_dtQ Q1 (M1 34) s9 n)).1) ((zo_prn k c1 (zo_rcJ M1 k s9 (nI k) a b (nI n), zo_dtQ Q1 (M1 34) s9 n)).2) kd ln R)) ([.ref X, .int (nI k), .int a, .int b, .int (nI n)] : List Value).toArray s 0 0 A) (F0 m 333 ls []) := by
                                    intro z
                                    induction z with
                                    | zero => intro i8 I_333 L_333 H locs ls hz; exact absurd hz (Nat.not_lt_zero _)
                                    | succ z ih_333 =>
                                      intro i8 I_333 L_333 H locs ls hz_333 hi8 hm hl hH hS
                                      refine lv_iload hx hb d_Mod_record_333 (lv_at hl 7 rfl) ?_
                                      refine lv_iload hx hb d_Mod_record_335 (lv_at hl 4 rfl) ?_
                                      refine lv_icmp_ge (tgt := 382) hx hb d_Mod_record_337 (by decide) (fun hc19 => ?_) (fun hc19 => ?_)
                                      · skip
                                        have hc19 := zt_geT (a := i8) (b := n) (by omega) (by omega) hc19
                                        rw [show i8 = n by omega] at hm
                                        have hm : zoR X ad (zo_rcI M1 k s9 (nI k) a b (nI n)) (zo_dtQ Q1 (M1 34) s9 n) kd ln I_333 L_333 R := hm
                                        refine lv_aload_n hx hb d_Mod_record_382 rfl (lv_at hl 0 rfl) ?_
                                        refine zr_getr (ci := 6) (C := R_Mod) (T := T_Mod) (N := 37) (ref := "ScrubbedRecorderModel") hx hb hts (fun w h => List.mem_cons_of_mem _ (zin_Mod w h)) hown hK hH hm.1.1 (by decide) rfl 10 (by decide) rfl (hw zw_609) (fun _ h9 => h9) d_Mod_record_383 (by rw [r10]) ?_
                                        refine lv_iload_n hx hb d_Mod_record_386 rfl (lv_at hl 1 rfl) ?_
                                        refine lv_dup2_11 hx hb d_Mod_record_387 rfl rfl ?_
                                        refine zr_aldi (j := k) hx hb hK hH k10 (by rw [n10]; exact zh_ix_n (by omega) (by omega)) d_Mod_record_388 ?_
                                        refine zt_i (y := M1 10 k) ((congrFun (hm.2.1 10 (by decide) (by decide) (by decide)) k).trans (by rw [f10])) ?_
                                        refine lv_iconst (v := nI 1) hx hb d_Mod_record_389 (by decide) ?_
                                        refine lv_iadd hx hb d_Mod_record_390 ?_
                                        refine zr_asti (j := k) (y := (M1 10 k) + (nI 1)) hx hb hK hH hS k10 rfl (by rw [n10]; exact zh_ix_n (by omega) (by omega)) d_Mod_record_391 (fun H locs hH hS => ?_)
                                        have hm := zoR_I hm 10 (by decide) k ((M1 10 k) + (nI 1))
                                        generalize zu I_333 (ad 10) k ((M1 10 k) + (nI 1)) = I20 at hm hH
                                        refine lv_aload_n hx hb d_Mod_record_392 rfl (lv_at hl 0 rfl) ?_
                                        refine zr_getr (ci := 6) (C := R_Mod) (T := T_Mod) (N := 37) (ref := "ScrubbedRecorderModel") hx hb hts (fun w h => List.mem_cons_of_mem _ (zin_Mod w h)) hown hK hH hm.1.1 (by decide) rfl 11 (by decide) rfl (hw zw_610) (fun _ h9 => h9) d_Mod_record_393 (by rw [r11]) ?_
                                        refine lv_iload_n hx hb d_Mod_record_396 rfl (lv_at hl 1 rfl) ?_
                                        refine lv_iload_n hx hb d_Mod_record_397 rfl (lv_at hl 3 rfl) ?_
                                        refine zr_asti (j := k) (y := b) hx hb hK hH hS k11 rfl (by rw [n11]; exact zh_ix_n (by omega) (by omega)) d_Mod_record_398 (fun H locs hH hS => ?_)
                                        have hm := zoR_I hm 11 (by decide) k b
                                        generalize zu I20 (ad 11) k b = I21 at hm hH
                                        refine lv_aload_n hx hb d_Mod_record_399 rfl (lv_at hl 0 rfl) ?_
                                        refine lv_iload_n hx hb d_Mod_record_400 rfl (lv_at hl 1 rfl) ?_
                                        have hm : zoR X ad (zo_rcJ M1 k s9 (nI k) a b (nI n)) (zo_dtQ Q1 (M1 34) s9 n) kd ln I21 L_333 R := hm
                                        have hpgJ : zo_pgs (zo_rcJ M1 k s9 (nI k) a b (nI n)) k c1 := by unfold zo_pgs zo_rcJ zo_rcI; simp only [zu_ne _ _ _ (show (12 : Nat) ≠ 11 by decide), zu_ne _ _ _ (show (12 : Nat) ≠ 10 by decide), zu_ne _ _ _ (show (12 : Nat) ≠ 24 by decide), zu_ne _ _ _ (show (12 : Nat) ≠ 23 by decide), zu_ne _ _ _ (show (12 : Nat) ≠ 22 by decide), zu_ne _ _ _ (show (12 : Nat) ≠ 20 by decide), zu_ne _ _ _ (show (12 : Nat) ≠ 19 by decide), zu_ne _ _ _ (show (12 : Nat) ≠ 18 by decide), zu_ne _ _ _ (show (12 : Nat) ≠ 17 by decide), zu_ne _ _ _ (show (12 : Nat) ≠ 16 by decide), zu_ne _ _ _ (show (14 : Nat) ≠ 11 by decide), zu_ne _ _ _ (show (14 : Nat) ≠ 10 by decide), zu_ne _ _ _ (show (14 : Nat) ≠ 24 by decide), zu_ne _ _ _ (show (14 : Nat) ≠ 23 by decide), zu_ne _ _ _ (show (14 : Nat) ≠ 22 by decide), zu_ne _ _ _ (show (14 : Nat) ≠ 20 by decide), zu_ne _ _ _ (show (14 : Nat) ≠ 19 by decide), zu_ne _ _ _ (show (14 : Nat) ≠ 18 by decide), zu_ne _ _ _ (show (14 : Nat) ≠ 17 by decide), zu_ne _ _ _ (show (14 : Nat) ≠ 16 by decide)]; exact hpgc
                                        refine zr_V (As := ([.int (nI k)] : List Value)) (rest := []) (b := X) (ci := 6) (q := (R_Mod, T_Mod, 37)) ⟨hx, hb, hml, hown, hts⟩ (c_Mod_prune hm hk4 hpgJ) ⟨(callB_of 1 hts (zg_all zw_785) rfl rfl rfl (hw zw_3) (hw zw_782) k_Mod_prune.2 ⟨Nat.le_of_ble_eq_true rfl, Nat.le_of_ble_eq_true rfl⟩), (hw zw_784), (hw zs_Mod_prune)⟩ hSc hE hH hS hA rfl (by decide) hm.1.1 rfl hl.1 rfl (Nat.le_of_ble_eq_true rfl) d_Mod_record_401 ⟨Nat.le_of_ble_eq_true rfl, Nat.le_of_ble_eq_true rfl⟩ (fun v22 kd22 ln22 I22 L22 R22 H locs hp hH hS => ?_)
                                        obtain ⟨rfl, rfl, rfl, rfl, hm⟩ := hp
                                        refine W.eq (g2 := F0 m 404 ls []) rfl ?_
                                        refine W.widen (k := 0) (n := 0) (by omega) (by omega) ?_
                                        refine lv_aload_n hx hb d_Mod_record_404 rfl (lv_at hl 0 rfl) ?_
                                        refine zr_getr (ci := 6) (C := R_Mod) (T := T_Mod) (N := 37) (ref := "ScrubbedRecorderModel") hx hb hts (fun w h => List.mem_cons_of_mem _ (zin_Mod w h)) hown hK hH hm.1.1 (by decide) rfl 10 (by decide) rfl (hw zw_609) (fun _ h9 => h9) d_Mod_record_405 (by rw [r10]) ?_
                                        refine lv_iload_n hx hb d_Mod_record_408 rfl (lv_at hl 1 rfl) ?_
                                        refine zr_aldi (j := k) hx hb hK hH k10 (by rw [n10]; exact zh_ix_n (by omega) (by omega)) d_Mod_record_409 ?_
                                        refine zt_i (y := (zo_prn k c1 ((zo_rcJ M1 k s9 (nI k) a b (nI n)), (zo_dtQ Q1 (M1 34) s9 n))).1 10 k) (congrFun (hm.2.1 10 (by decide) (by decide) (by decide)) k) ?_
                                        refine lv_iconst (v := nI 1) hx hb d_Mod_record_410 (by decide) ?_
                                        refine lv_isub hx hb d_Mod_record_411 ?_
                                        refine W.widen (k := 0) (n := 0) (Nat.le_of_ble_eq_true rfl) (Nat.le_of_ble_eq_true rfl) ?_
                                        subst hAe
                                        exact W.iret (v := ((zo_prn k c1 ((zo_rcJ M1 k s9 (nI k) a b (nI n)), (zo_dtQ Q1 (M1 34) s9 n))).1 10 k) - (nI 1)) hx hb hr (fun t ht hW => zc_end hS hH ht (⟨rfl, rfl, rfl, rfl, hm⟩)) hS.2.2 d_Mod_record_412
                                      · skip
                                        have hc19 := zt_geF (a := i8) (b := n) (by omega) (by omega) hc19
                                        refine lv_aload_n hx hb d_Mod_record_340 rfl (lv_at hl 0 rfl) ?_
                                        refine zr_getr (ci := 6) (C := R_Mod) (T := T_Mod) (N := 37) (ref := "ScrubbedRecorderModel") hx hb hts (fun w h => List.mem_cons_of_mem _ (zin_Mod w h)) hown hK hH hm.1.1 (by decide) rfl 25 (by decide) rfl (hw zw_624) (fun _ h9 => h9) d_Mod_record_341 (by rw [r25]) ?_
                                        refine lv_bipush (v := nI 8) hx hb d_Mod_record_344 (by decide) ?_
                                        refine lv_iload hx hb d_Mod_record_346 (lv_at hl 6 rfl) ?_
                                        refine lv_imul hx hb d_Mod_record_348 ?_
                                        refine zt_i (y := nI (8 * s9)) (pk_mul 8 s9) ?_
                                        refine lv_iload hx hb d_Mod_record_349 (lv_at hl 7 rfl) ?_
                                        refine lv_bipush (v := nI 8) hx hb d_Mod_record_351 (by decide) ?_
                                        refine lv_idiv hx hb d_Mod_record_353 (zt_ne0 (by omega) (by omega)) ?_
                                        refine zt_i (y := nI (i8 / 8)) (pk_div (by omega) (by omega) (by omega)) ?_
                                        refine lv_iadd hx hb d_Mod_record_354 ?_
                                        refine zt_i (y := nI (8 * s9 + (i8 / 8))) (nI_add (8 * s9) (i8 / 8)) ?_
                                        refine lv_dup2_11 hx hb d_Mod_record_355 rfl rfl ?_
                                        refine zr_aldl (j := 8 * s9 + (i8 / 8)) hx hb hK hH k25 (by rw [n25]; exact zh_ix_n (by omega) (by omega)) d_Mod_record_356 ?_
                                        refine zt_l (y := (va_up Q1 25 (zo_dt (zo_z8 (Q1 25) s9 8) (M1 34) s9 i8)) 25 (8 * s9 + (i8 / 8))) (congrFun (hm.2.2.2 25 (by decide) (by decide)) (8 * s9 + (i8 / 8))) ?_
                                        refine lv_aload_n hx hb d_Mod_record_357 rfl (lv_at hl 0 rfl) ?_
                                        refine zr_getr (ci := 6) (C := R_Mod) (T := T_Mod) (N := 37) (ref := "ScrubbedRecorderModel") hx hb hts (fun w h => List.mem_cons_of_mem _ (zin_Mod w h)) hown hK hH hm.1.1 (by decide) rfl 34 (by decide) rfl (hw zw_633) (fun _ h9 => h9) d_Mod_record_358 (by rw [r34]) ?_
                                        refine lv_iload hx hb d_Mod_record_361 (lv_at hl 7 rfl) ?_
                                        refine zr_aldi (j := i8) hx hb hK hH k34 (by rw [n34]; exact zh_ix_n (by omega) (by omega)) d_Mod_record_363 ?_
                                        refine zt_i (y := M1 34 i8) ((congrFun (hm.2.1 34 (by decide) (by decide) (by decide)) i8).trans (by rw [show zo_rcI M1 k s9 (nI k) a b (nI n) 34 i8 = M1 34 i8 from congrFun f34 i8])) ?_
                                        refine lv_i2l (v := (M1 34 i8).toInt64) hx hb d_Mod_record_364 rfl ?_
                                        refine lv_bipush (v := nI 8) hx hb d_Mod_record_365 (by decide) ?_
                                        refine lv_iload hx hb d_Mod_record_367 (lv_at hl 7 rfl) ?_
                                        refine lv_bipush (v := nI 8) hx hb d_Mod_record_369 (by decide) ?_
                                        refine lv_irem hx hb d_Mod_record_371 (zt_ne0 (by omega) (by omega)) ?_
                                        refine zt_i (y := nI (i8 % 8)) (pk_rem (by omega) (by omega) (by omega)) ?_
                                        refine lv_imul hx hb d_Mod_record_372 ?_
                                        refine zt_i (y := nI (8 * (i8 % 8))) (pk_mul 8 (i8 % 8)) ?_
                                        refine lv_lshl (v := ((M1 34 i8).toInt64) <<< ((nI (8 * (i8 % 8))).toInt64 &&& 63)) hx hb d_Mod_record_373 rfl ?_
                                        refine lv_lor hx hb d_Mod_record_374 ?_
                                        refine zr_astl (j := 8 * s9 + (i8 / 8)) (y := ((va_up Q1 25 (zo_dt (zo_z8 (Q1 25) s9 8) (M1 34) s9 i8)) 25 (8 * s9 + (i8 / 8))) ||| (((M1 34 i8).toInt64) <<< ((nI (8 * (i8 % 8))).toInt64 &&& 63))) hx hb hK hH hS k25 rfl (by rw [n25]; exact zh_ix_n (by omega) (by omega)) d_Mod_record_375 (fun H locs hH hS => ?_)
                                        have hm := zoR_L hm 25 (by decide) (8 * s9 + (i8 / 8)) (((va_up Q1 25 (zo_dt (zo_z8 (Q1 25) s9 8) (M1 34) s9 i8)) 25 (8 * s9 + (i8 / 8))) ||| (((M1 34 i8).toInt64) <<< ((nI (8 * (i8 % 8))).toInt64 &&& 63)))
                                        generalize zu L_333 (ad 25) (8 * s9 + (i8 / 8)) (((va_up Q1 25 (zo_dt (zo_z8 (Q1 25) s9 8) (M1 34) s9 i8)) 25 (8 * s9 + (i8 / 8))) ||| (((M1 34 i8).toInt64) <<< ((nI (8 * (i8 % 8))).toInt64 &&& 63))) = L23 at hm hH
                                        refine lv_iinc (k := 7) (v := nI (i8 + 1)) (lv' := [(8, .int (nI (i8 + 1))), (0, .ref X), (1, .int (nI k)), (2, .int a), (3, .int b), (4, .int (nI n)), (5, .int (nI (2 + (n + 3) / 4))), (7, .int (nI s9))]) hx hb d_Mod_record_376 hl rfl (nI_add i8 1) (by decide) rfl (fun ls hl => ?_)
                                        refine lv_goto (tgt := 333) hx hb d_Mod_record_379 (by decide) ?_
                                        rw [zu_up] at hm
                                        exact ih_333 (i8 + 1) _ _ _ _ _ (by omega) (by omega) hm (lv_sub hl [1, 2, 3, 4, 5, 6, 7, 0] rfl) hH hS
                                  exact loop_333 _ 0 _ _ _ _ _ (Nat.lt_succ_self _) (by omega) hm (lv_sub hl [1, 2, 3, 4, 5, 6, 7, 0] rfl) hH hS
                                · skip
                                  have hc18 := zt_geF (a := z8) (b := 8) (by omega) (by omega) hc18
                                  refine lv_aload_n hx hb d_Mod_record_310 rfl (lv_at hl 0 rfl) ?_
                                  refine zr_getr (ci := 6) (C := R_Mod) (T := T_Mod) (N := 37) (ref := "ScrubbedRecorderModel") hx hb hts (fun w h => List.mem_cons_of_mem _ (zin_Mod w h)) hown hK hH hm.1.1 (by decide) rfl 25 (by decide) rfl (hw zw_624) (fun _ h9 => h9) d_Mod_record_311 (by rw [r25]) ?_
                                  refine lv_bipush (v := nI 8) hx hb d_Mod_record_314 (by decide) ?_
                                  refine lv_iload hx hb d_Mod_record_316 (lv_at hl 6 rfl) ?_
                                  refine lv_imul hx hb d_Mod_record_318 ?_
                                  refine zt_i (y := nI (8 * s9)) (pk_mul 8 s9) ?_
                                  refine lv_iload hx hb d_Mod_record_319 (lv_at hl 7 rfl) ?_
                                  refine lv_iadd hx hb d_Mod_record_321 ?_
                                  refine zt_i (y := nI (8 * s9 + z8)) (nI_add (8 * s9) z8) ?_
                                  refine lv_lconst (v := 0) hx hb d_Mod_record_322 (by decide) ?_
                                  refine zr_astl (j := 8 * s9 + z8) (y := 0) hx hb hK hH hS k25 rfl (by rw [n25]; exact zh_ix_n (by omega) (by omega)) d_Mod_record_323 (fun H locs hH hS => ?_)
                                  have hm := zoR_L hm 25 (by decide) (8 * s9 + z8) 0
                                  generalize zu L_303 (ad 25) (8 * s9 + z8) 0 = L24 at hm hH
                                  refine lv_iinc (k := 7) (v := nI (z8 + 1)) (lv' := [(8, .int (nI (z8 + 1))), (0, .ref X), (1, .int (nI k)), (2, .int a), (3, .int b), (4, .int (nI n)), (5, .int (nI (2 + (n + 3) / 4))), (7, .int (nI s9))]) hx hb d_Mod_record_324 hl rfl (nI_add z8 1) (by decide) rfl (fun ls hl => ?_)
                                  refine lv_goto (tgt := 303) hx hb d_Mod_record_327 (by decide) ?_
                                  rw [zo_z8_s] at hm
                                  exact ih_303 (z8 + 1) _ _ _ _ _ (by omega) (by omega) hm (lv_sub hl [1, 2, 3, 4, 5, 6, 7, 0] rfl) hH hS
                            have hm : zoR X ad (zo_rcI M1 k s9 (nI k) a b (nI n)) (va_up Q1 25 (zo_z8 (Q1 25) s9 0)) kd ln I17 L_135 R := by rw [zo_z8_z, up_id]; exact hm
                            exact loop_303 _ 0 _ _ _ _ _ (Nat.lt_succ_self _) (by omega) hm (lv_sub hl [1, 2, 3, 4, 5, 6, 7, 0] rfl) hH hS
                          · skip
                            have hc9 := zt_geF (a := i) (b := (2 + (n + 3) / 4)) (by omega) (by omega) hc9
                            have hokw := hok i (by omega)
                            rw [hz1] at hokw
                            have hokb := zo_okb_rwa hokw
                            obtain ⟨c2, f2, qu2, o1, o2, o3, o4, o5, o6, o7, o8, o9, o10⟩ := hokw
                            have o1 : zo_pgs M1 k c2 := o1
                            have o2 : M1 13 k = nI f2 := o2
                            have o5 : M1 9 k = nI qu2 := o5
                            have o40 := o1.2.1
                            have hz2 : zo_rwn k s9 (i + 1) (m9, q9) = zo_rwb k s9 i (zo_rwa k (M1, Q1)) := by rw [← hz1]; rfl
                            have join_158 : ∀ (c3 : Nat) (f3 : Nat) (M2 : Nat → Nat → Int32) (Q2 : Nat → Nat → Int64) (I_158 : Nat → Nat → Int32) (L_158 : Nat → Nat → Int64) (H : Heap) (locs : List Loc) (ls : Array Slot), (zo_rwa k (M1, Q1) = (M2, Q2)) → (zo_pgs M2 k c3) → (M2 13 k = nI f3) → (3 ≤ f3) → (f3 < 16) → (1 ≤ c3) → (zoR X ad M2 Q2 kd ln I_158 L_158 R) → lv_has ls 10 [(0, .ref X), (1, .int (nI k)), (2, .int a), (3, .int b), (4, .int (nI n)), (5, .int (nI (2 + (n + 3) / 4))), (7, .int (nI s9)), (8, .int (nI i))] → zh_H D cA A kd ln I_158 L_158 R H → va_S A s.heap H locs → W p l e (headSpec w_Mod_record { frames := 4, cells := 0, slots := 0, locals := 90 }).room s m ([.ref X, .int (nI k), .int a, .int b, .int (nI n)] : List Value).toArray below meth c H locs 0 0 (MQ below (zc_Qc D cA A (zo_P (some (.int ((zo_prn k c1 (zo_rec m9 q9 k s9 a b n)).1 10 k - nI 1))) X ad ((zo_prn k c1 (zo_rec m9 q9 k s9 a b n)).1) ((zo_prn k c1 (zo_rec m9 q9 k s9 a b n)).2) kd ln R)) ([.ref X, .int (nI k), .int a, .int b, .int (nI n)] : List Value).toArray s 0 0 A) (F0 m 158 ls []) := by
                              intro c3 f3 M2 Q2 I_158 L_158 H locs ls hz3 b1 b2 b3 b4 b5 hm hl hH hS
                              have b40 := b1.2.1
                              obtain ⟨g3, hg3, b9⟩ := b1.2.2 (c3 - 1) (by omega)
                              rw [show 40 * k + (c3 - 1) = 40 * k + c3 - 1 by omega] at b9
                              refine lv_aload_n hx hb d_Mod_record_158 rfl (lv_at hl 0 rfl) ?_
                              refine zr_getr (ci := 6) (C := R_Mod) (T := T_Mod) (N := 37) (ref := "ScrubbedRecorderModel") hx hb hts (fun w h => List.mem_cons_of_mem _ (zin_Mod w h)) hown hK hH hm.1.1 (by decide) rfl 14 (by decide) rfl (hw zw_613) (fun _ h9 => h9) d_Mod_record_159 (by rw [r14]) ?_
                              refine lv_bipush (v := nI 40) hx hb d_Mod_record_162 (by decide) ?_
                              refine lv_iload_n hx hb d_Mod_record_164 rfl (lv_at hl 1 rfl) ?_
                              refine lv_imul hx hb d_Mod_record_165 ?_
                              refine zt_i (y := nI (40 * k)) (pk_mul 40 k) ?_
                              refine lv_aload_n hx hb d_Mod_record_166 rfl (lv_at hl 0 rfl) ?_
                              refine zr_getr (ci := 6) (C := R_Mod) (T := T_Mod) (N := 37) (ref := "ScrubbedRecorderModel") hx hb hts (fun w h => List.mem_cons_of_mem _ (zin_Mod w h)) hown hK hH hm.1.1 (by decide) rfl 12 (by decide) rfl (hw zw_611) (fun _ h9 => h9) d_Mod_record_167 (by rw [r12]) ?_
                              refine lv_iload_n hx hb d_Mod_record_170 rfl (lv_at hl 1 rfl) ?_
                              refine zr_aldi (j := k) hx hb hK hH k12 (by rw [n12]; exact zh_ix_n (by omega) (by omega)) d_Mod_record_171 ?_
                              refine zt_i (y := nI c3) ((congrFun (hm.2.1 12 (by decide) (by decide) (by decide)) k).trans (by rw [b1.1])) ?_
                              refine lv_iadd hx hb d_Mod_record_172 ?_
                              refine zt_i (y := nI (40 * k + c3)) (nI_add (40 * k) c3) ?_
                              refine lv_iconst (v := nI 1) hx hb d_Mod_record_173 (by decide) ?_
                              refine lv_isub hx hb d_Mod_record_174 ?_
                              refine zt_i (y := nI (40 * k + c3 - 1)) (pk_sub (by omega)) ?_
                              refine zr_aldi (j := 40 * k + c3 - 1) hx hb hK hH k14 (by rw [n14]; exact zh_ix_n (by omega) (by omega)) d_Mod_record_175 ?_
                              refine zt_i (y := nI g3) ((congrFun (hm.2.1 14 (by decide) (by decide) (by decide)) (40 * k + c3 - 1)).trans (by rw [b9])) ?_
                              refine lv_istore (lv' := [(9, .int (nI g3)), (0, .ref X), (1, .int (nI k)), (2, .int a), (3, .int b), (4, .int (nI n)), (5, .int (nI (2 + (n + 3) / 4))), (7, .int (nI s9)), (8, .int (nI i))]) hx hb d_Mod_record_176 hl (by decide) rfl (fun ls hl => ?_)
                              refine lv_aload_n hx hb d_Mod_record_178 rfl (lv_at hl 1 rfl) ?_
                              refine zr_getr (ci := 6) (C := R_Mod) (T := T_Mod) (N := 37) (ref := "ScrubbedRecorderModel") hx hb hts (fun w h => List.mem_cons_of_mem _ (zin_Mod w h)) hown hK hH hm.1.1 (by decide) rfl 21 (by decide) rfl (hw zw_620) (fun _ h9 => h9) d_Mod_record_179 (by rw [r21]) ?_
                              refine lv_iload hx hb d_Mod_record_182 (lv_at hl 7 rfl) ?_
                              refine lv_iload hx hb d_Mod_record_184 (lv_at hl 8 rfl) ?_
                              refine lv_if_ne (tgt := 194) hx hb d_Mod_record_186 (by decide) (fun hc25 => ?_) (fun hc25 => ?_)
                              · skip
                                have hc25 := zt_neT (a := i) (b := 0) (by omega) (by omega) hc25
                                refine lv_aload_n hx hb d_Mod_record_194 rfl (lv_at hl 1 rfl) ?_
                                refine zr_getr (ci := 6) (C := R_Mod) (T := T_Mod) (N := 37) (ref := "ScrubbedRecorderModel") hx hb hts (fun w h => List.mem_cons_of_mem _ (zin_Mod w h)) hown hK hH hm.1.1 (by decide) rfl 21 (by decide) rfl (hw zw_620) (fun _ h9 => h9) d_Mod_record_195 (by rw [r21]) ?_
                                refine lv_iload hx hb d_Mod_record_198 (lv_at hl 7 rfl) ?_
                                refine zr_aldi (j := s9) hx hb hK hH k21 (by rw [n21]; exact zh_ix_n (by omega) (by omega)) d_Mod_record_200 ?_
                                refine zt_i (y := M2 21 s9) (congrFun (hm.2.1 21 (by decide) (by decide) (by decide)) s9) ?_
                                refine zr_asti (j := s9) (y := M2 21 s9) hx hb hK hH hS k21 rfl (by rw [n21]; exact zh_ix_n (by omega) (by omega)) d_Mod_record_201 (fun H locs hH hS => ?_)
                                have hm := zoR_I hm 21 (by decide) s9 (M2 21 s9)
                                generalize zu I_158 (ad 21) s9 (M2 21 s9) = I26 at hm hH
                                refine lv_aload_n hx hb d_Mod_record_202 rfl (lv_at hl 1 rfl) ?_
                                refine lv_iload hx hb d_Mod_record_203 (lv_at hl 0 rfl) ?_
                                refine lv_aload_n hx hb d_Mod_record_205 rfl (lv_at hl 1 rfl) ?_
                                refine zr_getr (ci := 6) (C := R_Mod) (T := T_Mod) (N := 37) (ref := "ScrubbedRecorderModel") hx hb hts (fun w h => List.mem_cons_of_mem _ (zin_Mod w h)) hown hK hH hm.1.1 (by decide) rfl 13 (by decide) rfl (hw zw_612) (fun _ h9 => h9) d_Mod_record_206 (by rw [r13]) ?_
                                refine lv_iload_n hx hb d_Mod_record_209 rfl (lv_at hl 2 rfl) ?_
                                refine zr_aldi (j := k) hx hb hK hH k13 (by rw [n13]; exact zh_ix_n (by omega) (by omega)) d_Mod_record_210 ?_
                                refine zt_i (y := nI f3) ((congrFun (hm.2.1 13 (by decide) (by decide) (by decide)) k).trans (by rw [zu_ne _ _ _ (show (13 : Nat) ≠ 21 by decide), b2])) ?_
                                refine zr_V (As := ([.int (nI g3), .int (nI f3)] : List Value)) (rest := []) (b := X) (ci := 6) (q := (R_Mod, T_Mod, 37)) ⟨hx, hb, hml, hown, hts⟩ (c_Mod_write hm (by omega) (by omega)) ⟨(callB_of 2 hts (zg_all zw_765) rfl rfl rfl (hw zw_3) (hw zw_762) k_Mod_write.2 ⟨Nat.le_of_ble_eq_true rfl, Nat.le_of_ble_eq_true rfl⟩), (hw zw_764), (hw zs_Mod_write)⟩ hSc hE hH hS hA rfl (by decide) hm.1.1 rfl hl.1 rfl (Nat.le_of_ble_eq_true rfl) d_Mod_record_211 ⟨Nat.le_of_ble_eq_true rfl, Nat.le_of_ble_eq_true rfl⟩ (fun v27 kd27 ln27 I27 L27 R27 H locs hp hH hS => ?_)
                                obtain ⟨rfl, rfl, rfl, rfl, hm⟩ := hp
                                refine W.eq (g2 := F0 m 214 ls []) rfl ?_
                                refine W.widen (k := 0) (n := 0) (by omega) (by omega) ?_
                                refine lv_aload_n hx hb d_Mod_record_214 rfl (lv_at hl 1 rfl) ?_
                                refine zr_getr (ci := 6) (C := R_Mod) (T := T_Mod) (N := 37) (ref := "ScrubbedRecorderModel") hx hb hts (fun w h => List.mem_cons_of_mem _ (zin_Mod w h)) hown hK hH hm.1.1 (by decide) rfl 13 (by decide) rfl (hw zw_612) (fun _ h9 => h9) d_Mod_record_215 (by rw [r13]) ?_
                                refine lv_iload_n hx hb d_Mod_record_218 rfl (lv_at hl 2 rfl) ?_
                                refine lv_dup2_11 hx hb d_Mod_record_219 rfl rfl ?_
                                refine zr_aldi (j := k) hx hb hK hH k13 (by rw [n13]; exact zh_ix_n (by omega) (by omega)) d_Mod_record_220 ?_
                                refine zt_i (y := nI f3) ((congrFun (hm.2.1 13 (by decide) (by decide) (by decide)) k).trans (by rw [zu_ne _ _ _ (show (13 : Nat) ≠ 21 by decide), b2])) ?_
                                refine lv_iconst (v := nI 1) hx hb d_Mod_record_221 (by decide) ?_
                                refine lv_iadd hx hb d_Mod_record_222 ?_
                                refine zt_i (y := nI (f3 + 1)) (nI_add f3 1) ?_
                                refine zr_asti (j := k) (y := nI (f3 + 1)) hx hb hK hH hS k13 rfl (by rw [n13]; exact zh_ix_n (by omega) (by omega)) d_Mod_record_223 (fun H locs hH hS => ?_)
                                have hm := zoR_I hm 13 (by decide) k (nI (f3 + 1))
                                generalize zu I27 (ad 13) k (nI (f3 + 1)) = I28 at hm hH
                                have elp : zo_lp M2 k = g3 := by unfold zo_lp; rw [b1.1, nI_clamp (by omega), b9, nI_clamp (by omega)]
                                have efl : zo_fl M2 k = f3 := by unfold zo_fl; rw [b2, nI_clamp (by omega)]
                                have hz2 : zo_rwn k s9 (i + 1) (m9, q9) = ((zu (zu M2 21 s9 (M2 21 s9)) 13 k (nI (f3 + 1))), (zb_wr 0 g3 f3 Q2)) := by rw [hz2, hz3]; show (zu (zu M2 21 s9 (if i = 0 then nI (zo_lp M2 k) else M2 21 s9)) 13 k (nI (zo_fl M2 k + 1)), zb_wr 0 (zo_lp M2 k) (zo_fl M2 k) Q2) = _; rw [elp, efl]; first | rw [if_pos (by omega)] | rw [if_neg (by omega)]
                                refine lv_iinc (k := 8) (v := nI (i + 1)) (lv' := [(8, .int (nI (i + 1))), (9, .int (nI g3)), (0, .ref X), (1, .int (nI k)), (2, .int a), (3, .int b), (4, .int (nI n)), (5, .int (nI (2 + (n + 3) / 4))), (7, .int (nI s9))]) hx hb d_Mod_record_224 hl rfl (nI_add i 1) (by decide) rfl (fun ls hl => ?_)
                                refine lv_goto (tgt := 135) hx hb d_Mod_record_227 (by decide) ?_
                                exact ih_135 (i + 1) (zu (zu M2 21 s9 (M2 21 s9)) 13 k (nI (f3 + 1))) (zb_wr 0 g3 f3 Q2) _ _ _ _ _ (by omega) (by omega) hz2 hm (lv_sub hl [2, 3, 4, 5, 6, 7, 8, 0] rfl) hH hS
                              · skip
                                have hc25 := zt_neF (a := i) (b := 0) (by omega) (by omega) hc25
                                refine lv_iload hx hb d_Mod_record_189 (lv_at hl 0 rfl) ?_
                                refine lv_goto (tgt := 201) hx hb d_Mod_record_191 (by decide) ?_
                                refine zr_asti (j := s9) (y := nI g3) hx hb hK hH hS k21 rfl (by rw [n21]; exact zh_ix_n (by omega) (by omega)) d_Mod_record_201 (fun H locs hH hS => ?_)
                                have hm := zoR_I hm 21 (by decide) s9 (nI g3)
                                generalize zu I_158 (ad 21) s9 (nI g3) = I29 at hm hH
                                refine lv_aload_n hx hb d_Mod_record_202 rfl (lv_at hl 1 rfl) ?_
                                refine lv_iload hx hb d_Mod_record_203 (lv_at hl 0 rfl) ?_
                                refine lv_aload_n hx hb d_Mod_record_205 rfl (lv_at hl 1 rfl) ?_
                                refine zr_getr (ci := 6) (C := R_Mod) (T := T_Mod) (N := 37) (ref := "ScrubbedRecorderModel") hx hb hts (fun w h => List.mem_cons_of_mem _ (zin_Mod w h)) hown hK hH hm.1.1 (by decide) rfl 13 (by decide) rfl (hw zw_612) (fun _ h9 => h9) d_Mod_record_206 (by rw [r13]) ?_
                                refine lv_iload_n hx hb d_Mod_record_209 rfl (lv_at hl 2 rfl) ?_
                                refine zr_aldi (j := k) hx hb hK hH k13 (by rw [n13]; exact zh_ix_n (by omega) (by omega)) d_Mod_record_210 ?_
                                refine zt_i (y := nI f3) ((congrFun (hm.2.1 13 (by decide) (by decide) (by decide)) k).trans (by rw [zu_ne _ _ _ (show (13 : Nat) ≠ 21 by decide), b2])) ?_
                                refine zr_V (As := ([.int (nI g3), .int (nI f3)] : List Value)) (rest := []) (b := X) (ci := 6) (q := (R_Mod, T_Mod, 37)) ⟨hx, hb, hml, hown, hts⟩ (c_Mod_write hm (by omega) (by omega)) ⟨(callB_of 2 hts (zg_all zw_765) rfl rfl rfl (hw zw_3) (hw zw_762) k_Mod_write.2 ⟨Nat.le_of_ble_eq_true rfl, Nat.le_of_ble_eq_true rfl⟩), (hw zw_764), (hw zs_Mod_write)⟩ hSc hE hH hS hA rfl (by decide) hm.1.1 rfl hl.1 rfl (Nat.le_of_ble_eq_true rfl) d_Mod_record_211 ⟨Nat.le_of_ble_eq_true rfl, Nat.le_of_ble_eq_true rfl⟩ (fun v30 kd30 ln30 I30 L30 R30 H locs hp hH hS => ?_)
                                obtain ⟨rfl, rfl, rfl, rfl, hm⟩ := hp
                                refine W.eq (g2 := F0 m 214 ls []) rfl ?_
                                refine W.widen (k := 0) (n := 0) (by omega) (by omega) ?_
                                refine lv_aload_n hx hb d_Mod_record_214 rfl (lv_at hl 1 rfl) ?_
                                refine zr_getr (ci := 6) (C := R_Mod) (T := T_Mod) (N := 37) (ref := "ScrubbedRecorderModel") hx hb hts (fun w h => List.mem_cons_of_mem _ (zin_Mod w h)) hown hK hH hm.1.1 (by decide) rfl 13 (by decide) rfl (hw zw_612) (fun _ h9 => h9) d_Mod_record_215 (by rw [r13]) ?_
                                refine lv_iload_n hx hb d_Mod_record_218 rfl (lv_at hl 2 rfl) ?_
                                refine lv_dup2_11 hx hb d_Mod_record_219 rfl rfl ?_
                                refine zr_aldi (j := k) hx hb hK hH k13 (by rw [n13]; exact zh_ix_n (by omega) (by omega)) d_Mod_record_220 ?_
                                refine zt_i (y := nI f3) ((congrFun (hm.2.1 13 (by decide) (by decide) (by decide)) k).trans (by rw [zu_ne _ _ _ (show (13 : Nat) ≠ 21 by decide), b2])) ?_
                                refine lv_iconst (v := nI 1) hx hb d_Mod_record_221 (by decide) ?_
                                refine lv_iadd hx hb d_Mod_record_222 ?_
                                refine zt_i (y := nI (f3 + 1)) (nI_add f3 1) ?_
                                refine zr_asti (j := k) (y := nI (f3 + 1)) hx hb hK hH hS k13 rfl (by rw [n13]; exact zh_ix_n (by omega) (by omega)) d_Mod_record_223 (fun H locs hH hS => ?_)
                                have hm := zoR_I hm 13 (by decide) k (nI (f3 + 1))
                                generalize zu I30 (ad 13) k (nI (f3 + 1)) = I31 at hm hH
                                have elp : zo_lp M2 k = g3 := by unfold zo_lp; rw [b1.1, nI_clamp (by omega), b9, nI_clamp (by omega)]
                                have efl : zo_fl M2 k = f3 := by unfold zo_fl; rw [b2, nI_clamp (by omega)]
                                have hz2 : zo_rwn k s9 (i + 1) (m9, q9) = ((zu (zu M2 21 s9 (nI g3)) 13 k (nI (f3 + 1))), (zb_wr 0 g3 f3 Q2)) := by rw [hz2, hz3]; show (zu (zu M2 21 s9 (if i = 0 then nI (zo_lp M2 k) else M2 21 s9)) 13 k (nI (zo_fl M2 k + 1)), zb_wr 0 (zo_lp M2 k) (zo_fl M2 k) Q2) = _; rw [elp, efl]; first | rw [if_pos (by omega)] | rw [if_neg (by omega)]
                                refine lv_iinc (k := 8) (v := nI (i + 1)) (lv' := [(8, .int (nI (i + 1))), (9, .int (nI g3)), (0, .ref X), (1, .int (nI k)), (2, .int a), (3, .int b), (4, .int (nI n)), (5, .int (nI (2 + (n + 3) / 4))), (7, .int (nI s9))]) hx hb d_Mod_record_224 hl rfl (nI_add i 1) (by decide) rfl (fun ls hl => ?_)
                                refine lv_goto (tgt := 135) hx hb d_Mod_record_227 (by decide) ?_
                                exact ih_135 (i + 1) (zu (zu M2 21 s9 (nI g3)) 13 k (nI (f3 + 1))) (zb_wr 0 g3 f3 Q2) _ _ _ _ _ (by omega) (by omega) hz2 hm (lv_sub hl [2, 3, 4, 5, 6, 7, 8, 0] rfl) hH hS
                            refine lv_aload_n hx hb d_Mod_record_142 rfl (lv_at hl 0 rfl) ?_
                            refine zr_getr (ci := 6) (C := R_Mod) (T := T_Mod) (N := 37) (ref := "ScrubbedRecorderModel") hx hb hts (fun w h => List.mem_cons_of_mem _ (zin_Mod w h)) hown hK hH hm.1.1 (by decide) rfl 13 (by decide) rfl (hw zw_612) (fun _ h9 => h9) d_Mod_record_143 (by rw [r13]) ?_
                            refine lv_iload_n hx hb d_Mod_record_146 rfl (lv_at hl 1 rfl) ?_
                            refine zr_aldi (j := k) hx hb hK hH k13 (by rw [n13]; exact zh_ix_n (by omega) (by omega)) d_Mod_record_147 ?_
                            refine zt_i (y := nI f2) ((congrFun (hm.2.1 13 (by decide) (by decide) (by decide)) k).trans (by rw [o2])) ?_
                            refine lv_bipush (v := nI 16) hx hb d_Mod_record_148 (by decide) ?_
                            refine lv_icmp_ne (tgt := 158) hx hb d_Mod_record_150 (by decide) (fun hc32 => ?_) (fun hc32 => ?_)
                            · skip
                              have hc32 := zt_neT (a := f2) (b := 16) (by omega) (by omega) hc32
                              have hz3 : zo_rwa k (M1, Q1) = (M1, Q1) := by unfold zo_rwa; rw [if_neg (show ¬ (M1, Q1).1 13 k = nI 16 from fun e => absurd ((nI_eq (a := f2) (b := 16) (by omega) (by omega)).mp (Eq.trans (Eq.symm o2) e)) (by omega))]
                              exact join_158 c2 f2 M1 Q1 _ _ _ _ _ hz3 o1 o2 o3 (by omega) (by omega) hm (lv_sub hl [0, 1, 2, 3, 4, 5, 6, 7] rfl) hH hS
                            · skip
                              have hc32 := zt_neF (a := f2) (b := 16) (by omega) (by omega) hc32
                              refine lv_aload_n hx hb d_Mod_record_153 rfl (lv_at hl 0 rfl) ?_
                              refine lv_iload_n hx hb d_Mod_record_154 rfl (lv_at hl 1 rfl) ?_
                              have ef : f2 = 16 := by omega
                              have hz4 : zo_rwa k (M1, Q1) = zo_opn k (M1, Q1) := by unfold zo_rwa; rw [if_pos (show (M1, Q1).1 13 k = nI 16 by rw [← ef]; exact o2)]
                              rw [hz4] at hokb
                              obtain ⟨c3, f3, b1, b2, b3, b4, b5⟩ := hokb
                              rcases Decidable.em (c2 = qu2) with hqc | hqc
                              · skip
                                refine zr_V (As := ([.int (nI k)] : List Value)) (rest := []) (b := X) (ci := 6) (q := (R_Mod, T_Mod, 37)) ⟨hx, hb, hml, hown, hts⟩ (c_Mod_open_F hm hk4 o1 o5 (by omega) hqc (by omega)) ⟨(callB_of 1 hts (zg_all zw_781) rfl rfl rfl (hw zw_3) (hw zw_778) k_Mod_open.2 ⟨Nat.le_of_ble_eq_true rfl, Nat.le_of_ble_eq_true rfl⟩), (hw zw_780), (hw zs_Mod_open)⟩ hSc hE hH hS hA rfl (by decide) hm.1.1 rfl hl.1 rfl (Nat.le_of_ble_eq_true rfl) d_Mod_record_155 ⟨Nat.le_of_ble_eq_true rfl, Nat.le_of_ble_eq_true rfl⟩ (fun v33 kd33 ln33 I33 L33 R33 H locs hp hH hS => ?_)
                                obtain ⟨rfl, rfl, rfl, rfl, hm⟩ := hp
                                refine W.eq (g2 := F0 m 158 ls []) rfl ?_
                                refine W.widen (k := 0) (n := 0) (by omega) (by omega) ?_
                                have hz3 : zo_opn k (M1, Q1) = zo_op k (c2 - 1) (zo_fr k c2 (M1, Q1)) := zo_opn_F (z := (M1, Q1)) o1.1 o5 (by omega) hqc
                                rw [← hz3, ← hz4] at hm
                                rw [← hz4] at b1 b2
                                have hzx := hz3
                                exact join_158 _ _ ((zo_rwa k (M1, Q1)).1) ((zo_rwa k (M1, Q1)).2) _ _ _ _ _ rfl b1 b2 b3 b4 b5 hm (lv_sub hl [0, 1, 2, 3, 4, 5, 6, 7] rfl) hH hS
                              · skip
                                refine zr_V (As := ([.int (nI k)] : List Value)) (rest := []) (b := X) (ci := 6) (q := (R_Mod, T_Mod, 37)) ⟨hx, hb, hml, hown, hts⟩ (c_Mod_open_N hm hk4 o1 o5 (by omega) hqc (by omega) (o10 (by omega))) ⟨(callB_of 1 hts (zg_all zw_781) rfl rfl rfl (hw zw_3) (hw zw_778) k_Mod_open.2 ⟨Nat.le_of_ble_eq_true rfl, Nat.le_of_ble_eq_true rfl⟩), (hw zw_780), (hw zs_Mod_open)⟩ hSc hE hH hS hA rfl (by decide) hm.1.1 rfl hl.1 rfl (Nat.le_of_ble_eq_true rfl) d_Mod_record_155 ⟨Nat.le_of_ble_eq_true rfl, Nat.le_of_ble_eq_true rfl⟩ (fun v34 kd34 ln34 I34 L34 R34 H locs hp hH hS => ?_)
                                obtain ⟨rfl, rfl, rfl, rfl, hm⟩ := hp
                                refine W.eq (g2 := F0 m 158 ls []) rfl ?_
                                refine W.widen (k := 0) (n := 0) (by omega) (by omega) ?_
                                have hz3 : zo_opn k (M1, Q1) = zo_op k c2 (M1, Q1) := zo_opn_N (z := (M1, Q1)) o1.1 o5 (by omega) (by omega) hqc
                                rw [← hz3, ← hz4] at hm
                                rw [← hz4] at b1 b2
                                have hzx := hz3
                                exact join_158 _ _ ((zo_rwa k (M1, Q1)).1) ((zo_rwa k (M1, Q1)).2) _ _ _ _ _ rfl b1 b2 b3 b4 b5 hm (lv_sub hl [0, 1, 2, 3, 4, 5, 6, 7] rfl) hH hS
                      exact loop_135 _ 0 m9 q9 _ _ _ _ _ (Nat.lt_succ_self _) (by omega) rfl hm (lv_sub hl [1, 2, 3, 4, 5, 6, 7, 0] rfl) hH hS
                    · skip
                      have hc8 : ¬ (m9 16 t9) < (nI 0) := hc8
                      have hts9 : t9 < s9 := by rcases Nat.lt_or_ge t9 s9 with q | q; exact q; exact absurd hs2 (by rw [← show t9 = s9 by omega]; exact hc8)
                      refine lv_iinc (k := 6) (v := nI (t9 + 1)) (lv' := [(7, .int (nI (t9 + 1))), (0, .ref X), (1, .int (nI k)), (2, .int a), (3, .int b), (4, .int (nI n)), (5, .int (nI (2 + (n + 3) / 4)))]) hx hb d_Mod_record_126 hl rfl (nI_add t9 1) (by decide) rfl (fun ls hl => ?_)
                      refine lv_goto (tgt := 116) hx hb d_Mod_record_129 (by decide) ?_
                      exact ih_116 (t9 + 1) _ _ _ _ _ (by omega) (by omega) hm (lv_sub hl [1, 2, 3, 4, 5, 6, 0] rfl) hH hS
                exact loop_116 _ 0 _ _ _ _ _ (Nat.lt_succ_self _) (by omega) hm (lv_sub hl [1, 2, 3, 4, 5, 6, 0] rfl) hH hS
              refine lv_aload_n hx hb d_Mod_record_74 rfl (lv_at hl 2 rfl) ?_
              refine zr_getr (ci := 6) (C := R_Mod) (T := T_Mod) (N := 37) (ref := "ScrubbedRecorderModel") hx hb hts (fun w h => List.mem_cons_of_mem _ (zin_Mod w h)) hown hK hH hm.1.1 (by decide) rfl 8 (by decide) rfl (hw zw_607) (fun _ h9 => h9) d_Mod_record_75 (by rw [r8]) ?_
              refine lv_iload_n hx hb d_Mod_record_78 rfl (lv_at hl 3 rfl) ?_
              refine zr_aldz (j := k) hx hb hK hH k8 (by rw [n8]; exact zh_ix_n (by omega) (by omega)) d_Mod_record_79 ?_
              refine zt_i (y := m9 8 k) (congrFun (hm.2.1 8 (by decide) (by decide) (by decide)) k) ?_
              refine lv_if_ne (tgt := 113) hx hb d_Mod_record_80 (by decide) (fun hc35 => ?_) (fun hc35 => ?_)
              · skip
                have hc35 : ¬ (m9 8 k) = (nI 0) := hc35
                exact join_113 _ _ _ _ _ hm (lv_sub hl [2, 3, 4, 5, 6, 1] rfl) hH hS
              · skip
                have hc35 : (m9 8 k) = (nI 0) := hc35
                refine lv_aload_n hx hb d_Mod_record_83 rfl (lv_at hl 2 rfl) ?_
                refine zr_getr (ci := 6) (C := R_Mod) (T := T_Mod) (N := 37) (ref := "ScrubbedRecorderModel") hx hb hts (fun w h => List.mem_cons_of_mem _ (zin_Mod w h)) hown hK hH hm.1.1 (by decide) rfl 12 (by decide) rfl (hw zw_611) (fun _ h9 => h9) d_Mod_record_84 (by rw [r12]) ?_
                refine lv_iload_n hx hb d_Mod_record_87 rfl (lv_at hl 3 rfl) ?_
                refine zr_aldi (j := k) hx hb hK hH k12 (by rw [n12]; exact zh_ix_n (by omega) (by omega)) d_Mod_record_88 ?_
                refine zt_i (y := nI c9) ((congrFun (hm.2.1 12 (by decide) (by decide) (by decide)) k).trans (by rw [hcl])) ?_
                refine lv_iload hx hb d_Mod_record_89 (lv_at hl 0 rfl) ?_
                refine lv_if_le (tgt := 99) hx hb d_Mod_record_91 (by decide) (fun hc36 => ?_) (fun hc36 => ?_)
                · skip
                  have hc36 := zt_leT (a := ((2 + (n + 3) / 4 + 12 - (16 - fl)) / 13)) (b := 0) (by omega) (by omega) hc36
                  refine lv_iconst (v := nI 0) hx hb d_Mod_record_99 (by decide) ?_
                  refine lv_iadd hx hb d_Mod_record_100 ?_
                  refine zt_i (y := nI (c9 + 0)) (nI_add c9 0) ?_
                  refine lv_aload_n hx hb d_Mod_record_101 rfl (lv_at hl 2 rfl) ?_
                  refine zr_getr (ci := 6) (C := R_Mod) (T := T_Mod) (N := 37) (ref := "ScrubbedRecorderModel") hx hb hts (fun w h => List.mem_cons_of_mem _ (zin_Mod w h)) hown hK hH hm.1.1 (by decide) rfl 9 (by decide) rfl (hw zw_608) (fun _ h9 => h9) d_Mod_record_102 (by rw [r9]) ?_
                  refine lv_iload_n hx hb d_Mod_record_105 rfl (lv_at hl 3 rfl) ?_
                  refine zr_aldi (j := k) hx hb hK hH k9 (by rw [n9]; exact zh_ix_n (by omega) (by omega)) d_Mod_record_106 ?_
                  refine zt_i (y := nI qu) ((congrFun (hm.2.1 9 (by decide) (by decide) (by decide)) k).trans (by rw [hqu])) ?_
                  refine lv_icmp_le (tgt := 113) hx hb d_Mod_record_107 (by decide) (fun hc37 => ?_) (fun hc37 => ?_)
                  · skip
                    have hc37 := zt_leT (a := (c9 + 0)) (b := qu) (by omega) (by omega) hc37
                    exact join_113 _ _ _ _ _ hm (lv_sub hl [2, 3, 4, 5, 6, 1] rfl) hH hS
                  · skip
                    have hc37 := zt_leF (a := (c9 + 0)) (b := qu) (by omega) (by omega) hc37
                    exact absurd (hro (by assumption)) (by omega)
                · skip
                  have hc36 := zt_leF (a := ((2 + (n + 3) / 4 + 12 - (16 - fl)) / 13)) (b := 0) (by omega) (by omega) hc36
                  refine lv_iload hx hb d_Mod_record_94 (lv_at hl 0 rfl) ?_
                  refine lv_goto (tgt := 100) hx hb d_Mod_record_96 (by decide) ?_
                  refine lv_iadd hx hb d_Mod_record_100 ?_
                  refine zt_i (y := nI (c9 + ((2 + (n + 3) / 4 + 12 - (16 - fl)) / 13))) (nI_add c9 ((2 + (n + 3) / 4 + 12 - (16 - fl)) / 13)) ?_
                  refine lv_aload_n hx hb d_Mod_record_101 rfl (lv_at hl 2 rfl) ?_
                  refine zr_getr (ci := 6) (C := R_Mod) (T := T_Mod) (N := 37) (ref := "ScrubbedRecorderModel") hx hb hts (fun w h => List.mem_cons_of_mem _ (zin_Mod w h)) hown hK hH hm.1.1 (by decide) rfl 9 (by decide) rfl (hw zw_608) (fun _ h9 => h9) d_Mod_record_102 (by rw [r9]) ?_
                  refine lv_iload_n hx hb d_Mod_record_105 rfl (lv_at hl 3 rfl) ?_
                  refine zr_aldi (j := k) hx hb hK hH k9 (by rw [n9]; exact zh_ix_n (by omega) (by omega)) d_Mod_record_106 ?_
                  refine zt_i (y := nI qu) ((congrFun (hm.2.1 9 (by decide) (by decide) (by decide)) k).trans (by rw [hqu])) ?_
                  refine lv_icmp_le (tgt := 113) hx hb d_Mod_record_107 (by decide) (fun hc38 => ?_) (fun hc38 => ?_)
                  · skip
                    have hc38 := zt_leT (a := (c9 + ((2 + (n + 3) / 4 + 12 - (16 - fl)) / 13))) (b := qu) (by omega) (by omega) hc38
                    exact join_113 _ _ _ _ _ hm (lv_sub hl [2, 3, 4, 5, 6, 1] rfl) hH hS
                  · skip
                    have hc38 := zt_leF (a := (c9 + ((2 + (n + 3) / 4 + 12 - (16 - fl)) / 13))) (b := qu) (by omega) (by omega) hc38
                    exact absurd (hro (by assumption)) (by omega)
            · skip
              have hc7 : b < (m9 11 k) := Int32.not_le.mp hc7
              (first | exact absurd hc7 htb | exact absurd hc7 ha1 | exact absurd hc7 ha2 | exact absurd hc7 (by omega) | exact absurd hc7 (by rw [zo_made_n hk4, if_neg hmd]; decide))
