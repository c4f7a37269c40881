theorem zt_gt {x : Int32} {n : Nat} (h : ¬ nI n < x) (hn : n < 2 ^ 30) : x < nI (n + 1) := by
  refine Int32.lt_iff_toInt_lt.mpr ?_
  have := Int32.le_iff_toInt_le.mp (Int32.not_lt.mp h)
  rw [nI_toInt (by omega)] at this ⊢
  omega
theorem zt_gt2 {x : Int32} {n : Nat} (h : nI n < x) (hn : n < 2 ^ 30) : ¬ x < nI (n + 1) := by
  refine Int32.not_lt.mpr (Int32.le_iff_toInt_le.mpr ?_)
  have := Int32.lt_iff_toInt_lt.mp h
  rw [nI_toInt (by omega)] at this ⊢
  omega
theorem zq_s1_f2 {q : Int32 × Int32 × Nat × (Nat → Int64)} (h : ∀ j, j < 768 → zq_f2 (q.2.2.2 j)) : ∀ j, j < 768 → zq_f2 ((zq_s1 q).2.2.2 j) := by
  intro j hj
  show zq_f2 (va_up q.2.2.2 q.2.2.1 0 j)
  by_cases e : j = q.2.2.1
  · rw [e, va_up_self]
    exact Or.inl rfl
  · rw [va_up_ne _ _ e]
    exact h j hj
theorem zq_dn_le : ∀ (n : Nat) (q : Int32 × Int32 × Nat × (Nat → Int64)), zq_dn n q ≤ n
  | 0, _ => Nat.le_refl _
  | n + 1, q => by
    have := zq_dn_le n (zq_s1 q)
    show (if _ then 0 else 1) + zq_dn n (zq_s1 q) ≤ n + 1
    split <;> omega
theorem zb_flip_o {lm fr : Int32} {f : Nat → Int64} {x y z : Int32} (h : x < nI 0 ∨ nI 5 < x ∨ y < nI 0 ∨ nI 127 < y ∨ z < nI 0 ∨ nI 38 < z) : zb_flip lm fr f x y z = none := by
  unfold zb_flip
  by_cases h1 : zb_mod x = nI 0
  · rw [if_pos h1]
  rw [if_neg h1]
  by_cases h2 : y < nI 0
  · rw [if_pos h2]
  rw [if_neg h2]
  by_cases h3 : y < nI 128
  · rw [if_pos h3]
    by_cases h4 : z < nI 0
    · rw [if_pos h4]
    rw [if_neg h4]
    by_cases h5 : z < nI 39
    · exfalso
      obtain ⟨j, hj, rfl⟩ := zb_mod_of h1
      rcases h with h | h | h | h | h | h
      · exact nI_nlt (Nat.zero_le j) (by omega) h
      · exact zt_gt2 h (by decide) (nI_lt hj (by decide))
      · exact h2 h
      · exact zt_gt2 h (by decide) h3
      · exact h4 h
      · exact zt_gt2 h (by decide) h5
    · rw [if_neg h5]
  · rw [if_neg h3]
theorem zb_flip_n {lm fr : Int32} {f : Nat → Int64} {j1 j2 j3 : Nat} (h1 : j1 < 6) (h2 : j2 < 128) (h3 : j3 < 39) : zb_flip lm fr f (nI j1) (nI j2) (nI j3) = if zb_mis lm fr j1 j2 = nI 0 then (if nI 2 < zb_cnt (f (j1 * 128 + j2) ^^^ zq_b j3) then none else if zb_cnt (f (j1 * 128 + j2) ^^^ zq_b j3) = nI 2 then (if zb_ocm lm fr f j1 j2 6 = nI 0 then none else some (j1 * 128 + j2, f (j1 * 128 + j2) ^^^ zq_b j3)) else some (j1 * 128 + j2, f (j1 * 128 + j2) ^^^ zq_b j3)) else none := by
  unfold zb_flip
  rw [if_neg (zb_mod_n h1), if_neg (nI_nlt (Nat.zero_le _) (by omega)), if_pos (nI_lt h2 (by decide)), if_neg (nI_nlt (Nat.zero_le _) (by omega)), if_pos (nI_lt h3 (by decide)), nI_clamp (by omega), nI_clamp (by omega)]
  rfl
theorem zb_two_n {f : Nat → Int64} {o v : Nat} (h : zq_f2 (f (o * 128 + v))) : zb_two f o v = if zq_bc (f (128 * o + v)) 39 < 2 then nI 0 else nI 1 := by
  have hle := zq_le2 h
  unfold zb_two
  rw [zq_cnt (Or.inl h), show 128 * o + v = o * 128 + v by omega]
  by_cases e : zq_bc (f (o * 128 + v)) 39 = 2
  · rw [e, if_pos rfl, if_neg (by omega)]
  · rw [if_neg (fun q => e ((nI_eq (by omega) (by omega)).mp q)), if_pos (by omega)]
theorem zq_fl {lm lo fr off pale blank : Int32} {f : Nat → Int64} {j1 j2 o : Nat} (hr : zq_rel lm lo fr off pale blank) (hf : ∀ j, j < 768 → zq_f2 (f j)) (ho : o < 6) (h2 : j2 < 128) : zb_ocm lm fr f j1 j2 (6 - o) = if o = j1 then zb_ocm lm fr f j1 j2 (6 - (o + 1)) else if zo_mis off pale blank o j2 = nI 0 then (if zq_bc (f (128 * o + j2)) 39 < 2 then zb_ocm lm fr f j1 j2 (6 - (o + 1)) else nI 0) else nI 0 := by
  rw [zb_ocm_s ho, zq_mis hr ho h2, zb_two_n (hf _ (by omega))]
  by_cases e : zq_bc (f (128 * o + j2)) 39 < 2
  · rw [if_pos e, if_pos e, if_pos rfl]
  · rw [if_neg e, if_neg e, if_neg (show ¬ nI 1 = nI 0 by decide)]
theorem zq_fl_end {lm fr : Int32} {f : Nat → Int64} {j1 j2 j3 g : Nat} (h1 : j1 < 6) (h2 : j2 < 128) (h3 : j3 < 39) (hm : zb_mis lm fr j1 j2 = nI 0) (hf : zq_f2 (f (j1 * 128 + j2))) (ha : zq_bc (f (j1 * 128 + j2) ^^^ zq_b j3) 39 = 2 → (if g = 0 then nI 0 else nI 1) = zb_ocm lm fr f j1 j2 6) (hb : ¬ zq_bc (f (j1 * 128 + j2) ^^^ zq_b j3) 39 = 2 → g = if zq_bc (f (j1 * 128 + j2) ^^^ zq_b j3) 39 ≤ 2 then 1 else 0) : zb_flip lm fr f (nI j1) (nI j2) (nI j3) = if g = 0 then none else some (j1 * 128 + j2, f (j1 * 128 + j2) ^^^ zq_b j3) := by
  have hle := zq_bc_le (f (j1 * 128 + j2) ^^^ zq_b j3) 39
  rw [zb_flip_n h1 h2 h3, if_pos hm, zq_cnt (zq_xor hf h3)]
  by_cases e : zq_bc (f (j1 * 128 + j2) ^^^ zq_b j3) 39 = 2
  · rw [e, if_neg (by decide), if_pos rfl, ← ha e]
    by_cases g0 : g = 0
    · rw [if_pos g0, if_pos rfl, if_pos g0]
    · rw [if_neg g0, if_neg (by decide), if_neg g0]
  · have hg := hb e
    by_cases q : zq_bc (f (j1 * 128 + j2) ^^^ zq_b j3) 39 ≤ 2
    · rw [if_pos q] at hg
      rw [if_neg (nI_nlt q (by omega)), if_neg (fun z => e ((nI_eq (by omega) (by omega)).mp z)), if_neg (by omega)]
    · rw [if_neg q] at hg
      rw [if_pos (nI_lt (by omega) (by omega)), if_pos hg]
theorem zq_g1 {lm fr : Int32} {f : Nat → Int64} {j1 j2 g o : Nat} {Z : Int32} (h : (if g = 0 then nI 0 else zb_ocm lm fr f j1 j2 (6 - o)) = Z) (ho : 6 ≤ o) : (if g = 0 then nI 0 else nI 1) = Z := by
  rw [show 6 - o = 0 by omega] at h
  exact h
theorem zq_oht {f : Nat → Int64} {m k : Nat} (hf : ∀ j, j < 768 → zq_f2 (f j)) (h : k < 768) : zb_oht f m (768 - k) = if k / 128 = m then zb_oht f m (768 - (k + 1)) else if zq_bc (f k) 39 < 2 then zb_oht f m (768 - (k + 1)) else nI 1 := by
  have e1 : k / 128 * 128 + k % 128 = k := by omega
  have := zb_oht_s (f := f) (m := m) (o := k / 128) (v := k % 128) (by omega) (by omega)
  rw [e1, show k / 128 * 128 + (k % 128 + 1) = k + 1 by omega, zb_two_n (by rw [e1]; exact hf k h), show 128 * (k / 128) + k % 128 = k by omega] at this
  rw [this]
  by_cases e : zq_bc (f k) 39 < 2
  · rw [if_pos e, if_pos e, if_pos rfl]
  · rw [if_neg e, if_neg e, if_neg (show ¬ nI 1 = nI 0 by decide)]
def zo_pw (off x : Int32) : Int32 := if x < nI 0 then nI 0 else if nI 5 < x then nI 0 else if off = x then nI 1 else nI 0
def zo_pwI (m9 : Nat → Nat → Int32) (d x : Int32) : Nat → Nat → Int32 := if d = nI 0 then m9 else zu (zu (zu m9 40 1 (-1)) 40 2 x) 40 3 (nI 255)

set_option maxHeartbeats 4000000 in
set_option maxRecDepth 100000 in
/-- tick, of a number of words -/
theorem c_Mod_tick {l : Launch} {D : va_G} {cA : Nat → ClassId} {te mi : Nat} {kd ln : Nat → Nat} {I : Nat → Nat → Int32} {L : Nat → Nat → Int64} {R : Nat → Nat → Option Nat} {X : Nat} {ad : Nat → Nat} {m9 : Nat → Nat → Int32} {q9 : Nat → Nat → Int64} (hm : zoR X ad m9 q9 kd ln I L R) {n sn : Nat} (hn9 : n ≤ 1000) (hs0 : m9 40 6 = nI sn) (hs1 : sn < 768) : zc_M l y_Mod_tick w_Mod_tick { frames := 2, cells := 0, slots := 0, locals := 44 } 0 0 D cA te mi ([.ref X, .int (nI n)] : List Value) kd ln I L R (zo_P (some (.int (nI (zq_dn n (m9 40 4, m9 40 5, sn, q9 0))))) X ad (zu (zu (zu (zu m9 40 3 ((m9 40 3) &&& ((m9 40 3) - (nI 1)))) 40 4 (zq_sn n (m9 40 4, m9 40 5, sn, q9 0)).1) 40 5 (zq_sn n (m9 40 4, m9 40 5, sn, q9 0)).2.1) 40 6 (nI (zq_sn n (m9 40 4, m9 40 5, sn, q9 0)).2.2.1)) (va_up q9 0 (zq_sn n (m9 40 4, m9 40 5, sn, q9 0)).2.2.2) kd ln R) := by
  intro sz
  refine Met.ofW (cc := b_Mod_tick) (maxL := 4) (ret := (some (.int))) (by decide +kernel) rfl ?_
  intro p e s m args below meth c s₁ B hml hv
  obtain ⟨rfl, hsz, hSc, hE, hH⟩ := hv
  have hx := B.exec
  have hb := B.bytes
  have hr := B.returns
  have hts := atoms_spec (ws := w_Mod_tick) B.pre
  have hw : ∀ {w : Cond}, w ∈ zw → w.before ([.ref X, .int (nI n)] : List Value).toArray s = true := fun h => hts _ (List.mem_cons_of_mem _ h)
  have hown : s.vm.findClass R_Mod = some m.cls := findClass_of_methodNamed B.named
  have hlocks := B.notSynchronized
  subst hsz
  have hK := hSc.1
  have hH : zh_H D cA (zc_A kd s.heap.size) kd ln I L R s.heap := hH.weaken (fun q h _ => Or.inl h)
  generalize hAe : zc_A kd s.heap.size = A at hH hE ⊢
  have hA : ∀ q : Nat, s.heap.size ≤ q → A q := fun q h => by rw [← hAe]; exact Or.inr h
  have hS : va_S A s.heap s.heap [] := va_S.rf
  have hl := lv_entry ([.ref X, .int (nI n)] : List Value) (n := 4) (Nat.le_of_ble_eq_true rfl)
  rw [lg_entry_eq]
  generalize (lg_sl ([.ref X, .int (nI n)] : List Value) ++ List.replicate (4 - (lg_sl ([.ref X, .int (nI n)] : List Value)).length) Slot.unset).toArray = ls at hl ⊢
  have hl : lv_has ls 4 [(0, .ref X), (1, .int (nI n))] := hl
  refine lv_iload_n hx hb d_Mod_tick_0 rfl (lv_at hl 1 rfl) ?_
  refine lv_if_lt (tgt := 11) hx hb d_Mod_tick_1 (by decide) (fun hc1 => ?_) (fun hc1 => ?_)
  · skip
    have hc1 := zt_ltT (a := n) (b := 0) (by omega) (by omega) hc1
    exact absurd hc1 (by omega)
  · skip
    have hc1 := zt_ltF (a := n) (b := 0) (by omega) (by omega) hc1
    refine lv_iload_n hx hb d_Mod_tick_4 rfl (lv_at hl 1 rfl) ?_
    refine lv_sipush (v := nI 1000) hx hb d_Mod_tick_5 (by decide) ?_
    refine lv_icmp_le (tgt := 14) hx hb d_Mod_tick_8 (by decide) (fun hc2 => ?_) (fun hc2 => ?_)
    · skip
      have hc2 := zt_leT (a := n) (b := 1000) (by omega) (by omega) hc2
      refine lv_aload_n hx hb d_Mod_tick_14 rfl (lv_at hl 0 rfl) ?_
      refine lv_aload_n hx hb d_Mod_tick_15 rfl (lv_at hl 0 rfl) ?_
      refine zr_geti (ci := 6) (C := R_Mod) (T := T_Mod) (N := 37) (ref := "ScrubbedRecorderModel") hx hb hts (fun w h => List.mem_cons_of_mem _ (zin_Mod w h)) hown hK hH hm.1.1 (by decide) rfl 3 (by decide) rfl (hw zw_602) (fun _ h9 => h9) d_Mod_tick_16 ?_
      refine zt_i (y := m9 40 3) (congrFun hm.2.2.1 3) ?_
      refine lv_aload_n hx hb d_Mod_tick_19 rfl (lv_at hl 0 rfl) ?_
      refine zr_geti (ci := 6) (C := R_Mod) (T := T_Mod) (N := 37) (ref := "ScrubbedRecorderModel") hx hb hts (fun w h => List.mem_cons_of_mem _ (zin_Mod w h)) hown hK hH hm.1.1 (by decide) rfl 3 (by decide) rfl (hw zw_602) (fun _ h9 => h9) d_Mod_tick_20 ?_
      refine zt_i (y := m9 40 3) (congrFun hm.2.2.1 3) ?_
      refine lv_iconst (v := nI 1) hx hb d_Mod_tick_23 (by decide) ?_
      refine lv_isub hx hb d_Mod_tick_24 ?_
      refine lv_iand hx hb d_Mod_tick_25 ?_
      refine zr_puti (ref := "ScrubbedRecorderModel") (ci := 6) (C := R_Mod) (T := T_Mod) (N := 37) (x := (m9 40 3) &&& ((m9 40 3) - (nI 1))) (ty := .int) hx hb hts (fun w h => List.mem_cons_of_mem _ (zin_Mod w h)) ty_Mod tyok_Mod nm_Mod hown hK hH hS hm.1.1 (by decide) rfl 3 (by decide) rfl (hw zw_602) (fun _ h9 => h9) rfl (by decide +kernel) rfl rfl d_Mod_tick_26 (fun H locs hH hS => ?_)
      have hm := zoR_X hm 3 ((m9 40 3) &&& ((m9 40 3) - (nI 1)))
      generalize zu I X 3 ((m9 40 3) &&& ((m9 40 3) - (nI 1))) = I3 at hm hH
      refine lv_iconst (v := nI 0) hx hb d_Mod_tick_29 (by decide) ?_
      refine lv_istore_n (lv' := [(2, .int (nI 0)), (0, .ref X), (1, .int (nI n))]) hx hb d_Mod_tick_30 rfl hl (by decide) rfl (fun ls hl => ?_)
      refine lv_iconst (v := nI 0) hx hb d_Mod_tick_31 (by decide) ?_
      refine lv_istore_n (lv' := [(3, .int (nI 0)), (2, .int (nI 0)), (0, .ref X), (1, .int (nI n))]) hx hb d_Mod_tick_32 rfl hl (by decide) rfl (fun ls hl => ?_)
      have loop_33 : ∀ (z : Nat) (i : Nat) (a9 : Int32) (b9 : Int32) (d9 : Nat) (f9 : Nat → Int64) (dn : Nat) (I_33 : Nat → Nat → Int32) (L_33 : Nat → Nat → Int64) (H : Heap) (locs : List Loc) (ls : Array Slot), n - i < z → (i ≤ n) → (d9 < 768) → (zq_sn (n - i) (a9, b9, d9, f9) = zq_sn n (m9 40 4, m9 40 5, sn, q9 0)) → (dn + zq_dn (n - i) (a9, b9, d9, f9) = zq_dn n (m9 40 4, m9 40 5, sn, q9 0)) → (dn ≤ i) → (zoR X ad (zu (zu (zu (zu m9 40 3 ((m9 40 3) &&& ((m9 40 3) - (nI 1)))) 40 4 a9) 40 5 b9) 40 6 (nI d9)) (va_up q9 0 f9) kd ln I_33 L_33 R) → lv_has ls 4 [(0, .ref X), (1, .int (nI n)), (2, .int (nI dn)), (3, .int (nI i))] → zh_H D cA A kd ln I_33 L_33 R H → va_S A s.heap H locs → W p l e (headSpec w_Mod_tick { frames := 2, cells := 0, slots := 0, locals := 44 }).room s m ([.ref X, .int (nI n)] : List Value).toArray below meth c H locs 0 0 (MQ below (zc_Qc D cA A (zo_P (some (.int (nI (zq_dn n (m9 40 4, m9 40 5, sn, q9 0))))) X ad (zu (zu (zu (zu m9 40 3 ((m9 40 3) &&& ((m9 40 3) - (nI 1)))) 40 4 (zq_sn n (m9 40 4, m9 40 5, sn, q9 0)).1) 40 5 (zq_sn n (m9 40 4, m9 40 5, sn, q9 0)).2.1) 40 6 (nI (zq_sn n (m9 40 4, m9 40 5, sn, q9 0)).2.2.1)) (va_up q9 0 (zq_sn n (m9 40 4, m9 40 5, sn, q9 0)).2.2.2) kd ln R)) ([.ref X, .int (nI n)] : List Value).toArray s 0 0 A) (F0 m 33 ls []) := by
        intro z
        induction z with
        | zero => intro i a9 b9 d9 f9 dn I_33 L_33 H locs ls hz; exact absurd hz (Nat.not_lt_zero _)
        | succ z ih_33 =>
          intro i a9 b9 d9 f9 dn I_33 L_33 H locs ls hz_33 hi hd9 hg hd hdn hm hl hH hS
          refine lv_iload_n hx hb d_Mod_tick_33 rfl (lv_at hl 3 rfl) ?_
          refine lv_iload_n hx hb d_Mod_tick_34 rfl (lv_at hl 1 rfl) ?_
          refine lv_icmp_ge (tgt := 51) hx hb d_Mod_tick_35 (by decide) (fun hc4 => ?_) (fun hc4 => ?_)
          · skip
            have hc4 := zt_geT (a := i) (b := n) (by omega) (by omega) hc4
            refine lv_iload_n hx hb d_Mod_tick_51 rfl (lv_at hl 2 rfl) ?_
            refine W.widen (k := 0) (n := 0) (Nat.le_of_ble_eq_true rfl) (Nat.le_of_ble_eq_true rfl) ?_
            subst hAe
            exact W.iret (v := nI dn) hx hb hr (fun t ht hW => zc_end hS hH ht (⟨by rw [← hd, show n - i = 0 by omega]; rfl, rfl, rfl, rfl, by rw [← hg, show n - i = 0 by omega]; exact hm⟩)) hS.2.2 d_Mod_tick_52
          · skip
            have hc4 := zt_geF (a := i) (b := n) (by omega) (by omega) hc4
            refine lv_iload_n hx hb d_Mod_tick_38 rfl (lv_at hl 2 rfl) ?_
            refine lv_aload_n hx hb d_Mod_tick_39 rfl (lv_at hl 0 rfl) ?_
            refine zr_V (As := ([] : List Value)) (rest := [.int (nI dn)]) (b := X) (ci := 6) (q := (R_Mod, T_Mod, 37)) ⟨hx, hb, hml, hown, hts⟩ (c_Mod_scrub (sn := d9) hm (by rw [zu_self]) hd9) ⟨(callB_of 0 hts (zg_all zw_737) rfl rfl rfl (hw zw_3) (hw zw_734) k_Mod_scrub.2 ⟨Nat.le_of_ble_eq_true rfl, Nat.le_of_ble_eq_true rfl⟩), (hw zw_736), (hw zs_Mod_scrub)⟩ hSc hE hH hS hA rfl (by decide) hm.1.1 rfl hl.1 rfl (Nat.le_of_ble_eq_true rfl) d_Mod_tick_40 ⟨Nat.le_of_ble_eq_true rfl, Nat.le_of_ble_eq_true rfl⟩ (fun v5 kd5 ln5 I5 L5 R5 H locs hp hH hS => ?_)
            obtain ⟨rfl, rfl, rfl, rfl, hm⟩ := hp
            refine W.eq (g2 := F0 m 43 ls [.int (nI (if zq_bc (f9 d9) 39 = 0 then 0 else 1)), .int (nI dn)]) rfl ?_
            refine W.widen (k := 0) (n := 0) (by omega) (by omega) ?_
            have e9 : va_up q9 0 f9 0 = f9 := va_up_self _ _ _
            have e4 : (zu (zu (zu (zu m9 40 3 ((m9 40 3) &&& ((m9 40 3) - (nI 1)))) 40 4 a9) 40 5 b9) 40 6 (nI d9)) 40 4 = a9 := by rw [zu_k _ _ _ _ (show (4 : Nat) ≠ 6 by decide), zu_k _ _ _ _ (show (4 : Nat) ≠ 5 by decide), zu_self]
            have e5 : (zu (zu (zu (zu m9 40 3 ((m9 40 3) &&& ((m9 40 3) - (nI 1)))) 40 4 a9) 40 5 b9) 40 6 (nI d9)) 40 5 = b9 := by rw [zu_k _ _ _ _ (show (5 : Nat) ≠ 6 by decide), zu_self]
            rw [e9, e4, e5, zu3, zu_up] at hm
            have hm : zoR X ad (zu (zu (zu (zu m9 40 3 ((m9 40 3) &&& ((m9 40 3) - (nI 1)))) 40 4 (zq_s1 (a9, b9, d9, f9)).1) 40 5 (zq_s1 (a9, b9, d9, f9)).2.1) 40 6 (nI (zq_s1 (a9, b9, d9, f9)).2.2.1)) (va_up q9 0 (zq_s1 (a9, b9, d9, f9)).2.2.2) kd ln I5 L5 R := hm
            refine lv_iadd hx hb d_Mod_tick_43 ?_
            refine zt_i (y := nI (dn + (if zq_bc (f9 d9) 39 = 0 then 0 else 1))) (nI_add dn (if zq_bc (f9 d9) 39 = 0 then 0 else 1)) ?_
            refine lv_istore_n (lv' := [(2, .int (nI (dn + (if zq_bc (f9 d9) 39 = 0 then 0 else 1)))), (0, .ref X), (1, .int (nI n)), (3, .int (nI i))]) hx hb d_Mod_tick_44 rfl hl (by decide) rfl (fun ls hl => ?_)
            refine lv_iinc (k := 3) (v := nI (i + 1)) (lv' := [(3, .int (nI (i + 1))), (2, .int (nI (dn + (if zq_bc (f9 d9) 39 = 0 then 0 else 1)))), (0, .ref X), (1, .int (nI n))]) hx hb d_Mod_tick_45 hl rfl (nI_add i 1) (by decide) rfl (fun ls hl => ?_)
            refine lv_goto (tgt := 33) hx hb d_Mod_tick_48 (by decide) ?_
            exact ih_33 (i + 1) ((zq_s1 (a9, b9, d9, f9)).1) ((zq_s1 (a9, b9, d9, f9)).2.1) ((zq_s1 (a9, b9, d9, f9)).2.2.1) ((zq_s1 (a9, b9, d9, f9)).2.2.2) (dn + (if zq_bc (f9 d9) 39 = 0 then 0 else 1)) _ _ _ _ _ (by omega) (by omega) (Nat.mod_lt _ (by decide)) (by rw [← hg, show n - i = n - (i + 1) + 1 by omega]; rfl) (by rw [← hd, show n - i = n - (i + 1) + 1 by omega]; show _ = dn + ((if zq_bc (f9 d9) 39 = 0 then 0 else 1) + zq_dn (n - (i + 1)) (zq_s1 (a9, b9, d9, f9))); rw [Nat.add_assoc]) (by split <;> omega) hm (lv_sub hl [2, 3, 1, 0] rfl) hH hS
      have h4 : (zu m9 40 3 ((m9 40 3) &&& ((m9 40 3) - (nI 1)))) 40 4 = m9 40 4 := by rw [zu_k _ _ _ _ (show (4 : Nat) ≠ 3 by decide)]
      have h5 : (zu m9 40 3 ((m9 40 3) &&& ((m9 40 3) - (nI 1)))) 40 5 = m9 40 5 := by rw [zu_k _ _ _ _ (show (5 : Nat) ≠ 3 by decide)]
      have h6 : (zu m9 40 3 ((m9 40 3) &&& ((m9 40 3) - (nI 1)))) 40 6 = nI sn := by rw [zu_k _ _ _ _ (show (6 : Nat) ≠ 3 by decide)]; exact hs0
      have e0 := zu3_id (zu m9 40 3 ((m9 40 3) &&& ((m9 40 3) - (nI 1)))) 40
      rw [h4, h5, h6] at e0
      rw [← e0, ← up_id q9 0] at hm
      exact loop_33 _ 0 (m9 40 4) (m9 40 5) sn (q9 0) 0 _ _ _ _ _ (Nat.lt_succ_self _) (by omega) hs1 rfl (by rw [Nat.zero_add]; rfl) (by omega) hm (lv_sub hl [2, 3, 1, 0] rfl) hH hS
    · skip
      have hc2 := zt_leF (a := n) (b := 1000) (by omega) (by omega) hc2
      exact absurd hc2 (by omega)

set_option maxHeartbeats 4000000 in
set_option maxRecDepth 100000 in
/-- tick, of another number -/
theorem c_Mod_tick_B {l : Launch} {D : va_G} {cA : Nat → ClassId} {te mi : Nat} {kd ln : Nat → Nat} {I : Nat → Nat → Int32} {L : Nat → Nat → Int64} {R : Nat → Nat → Option Nat} {X : Nat} {ad : Nat → Nat} {m9 : Nat → Nat → Int32} {q9 : Nat → Nat → Int64} (hm : zoR X ad m9 q9 kd ln I L R) {x : Int32} (hbad : x < nI 0 ∨ nI 1000 < x) : zc_M l y_Mod_tick w_Mod_tick { frames := 2, cells := 0, slots := 0, locals := 44 } 0 0 D cA te mi ([.ref X, .int x] : List Value) kd ln I L R (zo_P (some (.int (-2))) X ad m9 q9 kd ln R) := by
  intro sz
  refine Met.ofW (cc := b_Mod_tick) (maxL := 4) (ret := (some (.int))) (by decide +kernel) rfl ?_
  intro p e s m args below meth c s₁ B hml hv
  obtain ⟨rfl, hsz, hSc, hE, hH⟩ := hv
  have hx := B.exec
  have hb := B.bytes
  have hr := B.returns
  have hts := atoms_spec (ws := w_Mod_tick) B.pre
  have hw : ∀ {w : Cond}, w ∈ zw → w.before ([.ref X, .int x] : List Value).toArray s = true := fun h => hts _ (List.mem_cons_of_mem _ h)
  have hown : s.vm.findClass R_Mod = some m.cls := findClass_of_methodNamed B.named
  have hlocks := B.notSynchronized
  subst hsz
  have hK := hSc.1
  have hH : zh_H D cA (zc_A kd s.heap.size) kd ln I L R s.heap := hH.weaken (fun q h _ => Or.inl h)
  generalize hAe : zc_A kd s.heap.size = A at hH hE ⊢
  have hA : ∀ q : Nat, s.heap.size ≤ q → A q := fun q h => by rw [← hAe]; exact Or.inr h
  have hS : va_S A s.heap s.heap [] := va_S.rf
  have hl := lv_entry ([.ref X, .int x] : List Value) (n := 4) (Nat.le_of_ble_eq_true rfl)
  rw [lg_entry_eq]
  generalize (lg_sl ([.ref X, .int x] : List Value) ++ List.replicate (4 - (lg_sl ([.ref X, .int x] : List Value)).length) Slot.unset).toArray = ls at hl ⊢
  have hl : lv_has ls 4 [(0, .ref X), (1, .int x)] := hl
  refine lv_iload_n hx hb d_Mod_tick_0 rfl (lv_at hl 1 rfl) ?_
  refine lv_if_lt (tgt := 11) hx hb d_Mod_tick_1 (by decide) (fun hc1 => ?_) (fun hc1 => ?_)
  · skip
    have hc1 : x < (nI 0) := hc1
    refine lv_bipush (v := (-2)) hx hb d_Mod_tick_11 (by decide) ?_
    refine W.widen (k := 0) (n := 0) (Nat.le_of_ble_eq_true rfl) (Nat.le_of_ble_eq_true rfl) ?_
    subst hAe
    exact W.iret (v := (-2)) hx hb hr (fun t ht hW => zc_end hS hH ht (⟨rfl, rfl, rfl, rfl, hm⟩)) hS.2.2 d_Mod_tick_13
  · skip
    have hc1 : ¬ x < (nI 0) := hc1
    refine lv_iload_n hx hb d_Mod_tick_4 rfl (lv_at hl 1 rfl) ?_
    refine lv_sipush (v := nI 1000) hx hb d_Mod_tick_5 (by decide) ?_
    refine lv_icmp_le (tgt := 14) hx hb d_Mod_tick_8 (by decide) (fun hc2 => ?_) (fun hc2 => ?_)
    · skip
      have hc2 : ¬ (nI 1000) < x := Int32.not_lt.mpr hc2
      exact absurd hbad (fun q => q.elim (by assumption) (by assumption))
    · skip
      have hc2 : (nI 1000) < x := Int32.not_le.mp hc2
      refine lv_bipush (v := (-2)) hx hb d_Mod_tick_11 (by decide) ?_
      refine W.widen (k := 0) (n := 0) (Nat.le_of_ble_eq_true rfl) (Nat.le_of_ble_eq_true rfl) ?_
      subst hAe
      exact W.iret (v := (-2)) hx hb hr (fun t ht hW => zc_end hS hH ht (⟨rfl, rfl, rfl, rfl, hm⟩)) hS.2.2 d_Mod_tick_13

set_option maxHeartbeats 4000000 in
set_option maxRecDepth 100000 in
/-- power -/
theorem c_Mod_power {l : Launch} {D : va_G} {cA : Nat → ClassId} {te mi : Nat} {kd ln : Nat → Nat} {I : Nat → Nat → Int32} {L : Nat → Nat → Int64} {R : Nat → Nat → Option Nat} {X : Nat} {ad : Nat → Nat} {m9 : Nat → Nat → Int32} {q9 : Nat → Nat → Int64} (hm : zoR X ad m9 q9 kd ln I L R) {x : Int32} : zc_M l y_Mod_power w_Mod_power { frames := 0, cells := 0, slots := 0, locals := 0 } 0 0 D cA te mi ([.ref X, .int x] : List Value) kd ln I L R (zo_P (some (.int (zo_pw (m9 40 1) x))) X ad (zo_pwI m9 (zo_pw (m9 40 1) x) x) q9 kd ln R) := by
  intro sz
  refine Met.ofW (cc := b_Mod_power) (maxL := 2) (ret := (some (.boolean))) (by decide +kernel) rfl ?_
  intro p e s m args below meth c s₁ B hml hv
  obtain ⟨rfl, hsz, hSc, hE, hH⟩ := hv
  have hx := B.exec
  have hb := B.bytes
  have hr := B.returns
  have hts := atoms_spec (ws := w_Mod_power) B.pre
  have hw : ∀ {w : Cond}, w ∈ zw → w.before ([.ref X, .int x] : List Value).toArray s = true := fun h => hts _ (List.mem_cons_of_mem _ h)
  have hown : s.vm.findClass R_Mod = some m.cls := findClass_of_methodNamed B.named
  have hlocks := B.notSynchronized
  subst hsz
  have hK := hSc.1
  have hH : zh_H D cA (zc_A kd s.heap.size) kd ln I L R s.heap := hH.weaken (fun q h _ => Or.inl h)
  generalize hAe : zc_A kd s.heap.size = A at hH hE ⊢
  have hA : ∀ q : Nat, s.heap.size ≤ q → A q := fun q h => by rw [← hAe]; exact Or.inr h
  have hS : va_S A s.heap s.heap [] := va_S.rf
  have hl := lv_entry ([.ref X, .int x] : List Value) (n := 2) (Nat.le_of_ble_eq_true rfl)
  rw [lg_entry_eq]
  generalize (lg_sl ([.ref X, .int x] : List Value) ++ List.replicate (2 - (lg_sl ([.ref X, .int x] : List Value)).length) Slot.unset).toArray = ls at hl ⊢
  have hl : lv_has ls 2 [(0, .ref X), (1, .int x)] := hl
  refine lv_iload_n hx hb d_Mod_power_0 rfl (lv_at hl 1 rfl) ?_
  refine lv_if_lt (tgt := 17) hx hb d_Mod_power_1 (by decide) (fun hc1 => ?_) (fun hc1 => ?_)
  · skip
    have hc1 : x < (nI 0) := hc1
    refine lv_iconst (v := nI 0) hx hb d_Mod_power_17 (by decide) ?_
    have hres : zo_pw (m9 40 1) x = nI 0 := by rw [zo_pw, if_pos hc1]
    refine W.widen (k := 0) (n := 0) (Nat.le_of_ble_eq_true rfl) (Nat.le_of_ble_eq_true rfl) ?_
    subst hAe
    exact W.zret (v := nI 0) hx hb hr (by decide +kernel) (fun t ht hW => zc_end hS hH ht (⟨by rw [hres], rfl, rfl, rfl, by rw [hres]; exact hm⟩)) hS.2.2 d_Mod_power_18
  · skip
    have hc1 : ¬ x < (nI 0) := hc1
    refine lv_iload_n hx hb d_Mod_power_4 rfl (lv_at hl 1 rfl) ?_
    refine lv_iconst (v := nI 5) hx hb d_Mod_power_5 (by decide) ?_
    refine lv_icmp_gt (tgt := 17) hx hb d_Mod_power_6 (by decide) (fun hc2 => ?_) (fun hc2 => ?_)
    · skip
      have hc2 : (nI 5) < x := hc2
      refine lv_iconst (v := nI 0) hx hb d_Mod_power_17 (by decide) ?_
      have hres : zo_pw (m9 40 1) x = nI 0 := by rw [zo_pw, if_neg hc1, if_pos hc2]
      refine W.widen (k := 0) (n := 0) (Nat.le_of_ble_eq_true rfl) (Nat.le_of_ble_eq_true rfl) ?_
      subst hAe
      exact W.zret (v := nI 0) hx hb hr (by decide +kernel) (fun t ht hW => zc_end hS hH ht (⟨by rw [hres], rfl, rfl, rfl, by rw [hres]; exact hm⟩)) hS.2.2 d_Mod_power_18
    · skip
      have hc2 : ¬ (nI 5) < x := hc2
      refine lv_aload_n hx hb d_Mod_power_9 rfl (lv_at hl 0 rfl) ?_
      refine zr_geti (ci := 6) (C := R_Mod) (T := T_Mod) (N := 37) (ref := "ScrubbedRecorderModel") hx hb hts (fun w h => List.mem_cons_of_mem _ (zin_Mod w h)) hown hK hH hm.1.1 (by decide) rfl 1 (by decide) rfl (hw zw_600) (fun _ h9 => h9) d_Mod_power_10 ?_
      refine zt_i (y := m9 40 1) (congrFun hm.2.2.1 1) ?_
      refine lv_iload_n hx hb d_Mod_power_13 rfl (lv_at hl 1 rfl) ?_
      refine lv_icmp_eq (tgt := 19) hx hb d_Mod_power_14 (by decide) (fun hc3 => ?_) (fun hc3 => ?_)
      · skip
        have hc3 : (m9 40 1) = x := hc3
        refine lv_aload_n hx hb d_Mod_power_19 rfl (lv_at hl 0 rfl) ?_
        refine lv_iconst (v := (-1)) hx hb d_Mod_power_20 (by decide) ?_
        refine zr_puti (ref := "ScrubbedRecorderModel") (ci := 6) (C := R_Mod) (T := T_Mod) (N := 37) (x := (-1)) (ty := .int) hx hb hts (fun w h => List.mem_cons_of_mem _ (zin_Mod w h)) ty_Mod tyok_Mod nm_Mod hown hK hH hS hm.1.1 (by decide) rfl 1 (by decide) rfl (hw zw_600) (fun _ h9 => h9) rfl (by decide +kernel) rfl rfl d_Mod_power_21 (fun H locs hH hS => ?_)
        have hm := zoR_X hm 1 (-1)
        generalize zu I X 1 (-1) = I4 at hm hH
        refine lv_aload_n hx hb d_Mod_power_24 rfl (lv_at hl 0 rfl) ?_
        refine lv_iload_n hx hb d_Mod_power_25 rfl (lv_at hl 1 rfl) ?_
        refine zr_puti (ref := "ScrubbedRecorderModel") (ci := 6) (C := R_Mod) (T := T_Mod) (N := 37) (x := x) (ty := .int) hx hb hts (fun w h => List.mem_cons_of_mem _ (zin_Mod w h)) ty_Mod tyok_Mod nm_Mod hown hK hH hS hm.1.1 (by decide) rfl 2 (by decide) rfl (hw zw_601) (fun _ h9 => h9) rfl (by decide +kernel) rfl rfl d_Mod_power_26 (fun H locs hH hS => ?_)
        have hm := zoR_X hm 2 x
        generalize zu I4 X 2 x = I5 at hm hH
        refine lv_aload_n hx hb d_Mod_power_29 rfl (lv_at hl 0 rfl) ?_
        refine lv_sipush (v := nI 255) hx hb d_Mod_power_30 (by decide) ?_
        refine zr_puti (ref := "ScrubbedRecorderModel") (ci := 6) (C := R_Mod) (T := T_Mod) (N := 37) (x := nI 255) (ty := .int) hx hb hts (fun w h => List.mem_cons_of_mem _ (zin_Mod w h)) ty_Mod tyok_Mod nm_Mod hown hK hH hS hm.1.1 (by decide) rfl 3 (by decide) rfl (hw zw_602) (fun _ h9 => h9) rfl (by decide +kernel) rfl rfl d_Mod_power_33 (fun H locs hH hS => ?_)
        have hm := zoR_X hm 3 (nI 255)
        generalize zu I5 X 3 (nI 255) = I6 at hm hH
        refine lv_iconst (v := nI 1) hx hb d_Mod_power_36 (by decide) ?_
        have hres : zo_pw (m9 40 1) x = nI 1 := by rw [zo_pw, if_neg hc1, if_neg hc2, if_pos hc3]
        refine W.widen (k := 0) (n := 0) (Nat.le_of_ble_eq_true rfl) (Nat.le_of_ble_eq_true rfl) ?_
        subst hAe
        exact W.zret (v := nI 1) hx hb hr (by decide +kernel) (fun t ht hW => zc_end hS hH ht (⟨by rw [hres], rfl, rfl, rfl, by rw [hres]; exact hm⟩)) hS.2.2 d_Mod_power_37
      · skip
        have hc3 : ¬ (m9 40 1) = x := hc3
        refine lv_iconst (v := nI 0) hx hb d_Mod_power_17 (by decide) ?_
        have hres : zo_pw (m9 40 1) x = nI 0 := by rw [zo_pw, if_neg hc1, if_neg hc2, if_neg hc3]
        refine W.widen (k := 0) (n := 0) (Nat.le_of_ble_eq_true rfl) (Nat.le_of_ble_eq_true rfl) ?_
        subst hAe
        exact W.zret (v := nI 0) hx hb hr (by decide +kernel) (fun t ht hW => zc_end hS hH ht (⟨by rw [hres], rfl, rfl, rfl, by rw [hres]; exact hm⟩)) hS.2.2 d_Mod_power_18

set_option maxHeartbeats 4000000 in
set_option maxRecDepth 100000 in
/-- flip -/
theorem c_Mod_flip {l : Launch} {D : va_G} {cA : Nat → ClassId} {te mi : Nat} {kd ln : Nat → Nat} {I : Nat → Nat → Int32} {L : Nat → Nat → Int64} {R : Nat → Nat → Option Nat} {X : Nat} {ad : Nat → Nat} {m9 : Nat → Nat → Int32} {q9 : Nat → Nat → Int64} (hm : zoR X ad m9 q9 kd ln I L R) {x y z : Int32} {lm lo fr : Int32} (hrel : zq_rel lm lo fr (m9 40 1) (m9 40 2) (m9 40 3)) (hf : ∀ j, j < 768 → zq_f2 (q9 0 j)) : zc_M l y_Mod_flip w_Mod_flip { frames := 1, cells := 0, slots := 0, locals := 23 } 0 0 D cA te mi ([.ref X, .int x, .int y, .int z] : List Value) kd ln I L R (zo_P (some (.int (zb_is (zb_flip lm fr (q9 0) x y z)))) X ad m9 (zb_upd q9 0 (zb_flip lm fr (q9 0) x y z)) kd ln R) := by
  intro sz
  refine Met.ofW (cc := b_Mod_flip) (maxL := 9) (ret := (some (.boolean))) (by decide +kernel) rfl ?_
  intro p e s m args below meth c s₁ B hml hv
  obtain ⟨rfl, hsz, hSc, hE, hH⟩ := hv
  have hx := B.exec
  have hb := B.bytes
  have hr := B.returns
  have hts := atoms_spec (ws := w_Mod_flip) B.pre
  have hw : ∀ {w : Cond}, w ∈ zw → w.before ([.ref X, .int x, .int y, .int z] : List Value).toArray s = true := fun h => hts _ (List.mem_cons_of_mem _ h)
  have hown : s.vm.findClass R_Mod = some m.cls := findClass_of_methodNamed B.named
  have hlocks := B.notSynchronized
  subst hsz
  have hK := hSc.1
  have hH : zh_H D cA (zc_A kd s.heap.size) kd ln I L R s.heap := hH.weaken (fun q h _ => Or.inl h)
  generalize hAe : zc_A kd s.heap.size = A at hH hE ⊢
  have hA : ∀ q : Nat, s.heap.size ≤ q → A q := fun q h => by rw [← hAe]; exact Or.inr h
  have hS : va_S A s.heap s.heap [] := va_S.rf
  have hl := lv_entry ([.ref X, .int x, .int y, .int z] : List Value) (n := 9) (Nat.le_of_ble_eq_true rfl)
  rw [lg_entry_eq]
  generalize (lg_sl ([.ref X, .int x, .int y, .int z] : List Value) ++ List.replicate (9 - (lg_sl ([.ref X, .int x, .int y, .int z] : List Value)).length) Slot.unset).toArray = ls at hl ⊢
  have hl : lv_has ls 9 [(0, .ref X), (1, .int x), (2, .int y), (3, .int z)] := hl
  have k0 : kd (ad 0) = 101 := (hm.1.2.1 0 (by decide) (by decide)).2.1
  have n0 : ln (ad 0) = 768 := (hm.1.2.1 0 (by decide) (by decide)).2.2
  have r0 : R X 0 = some (ad 0) := (hm.1.2.1 0 (by decide) (by decide)).1
  refine lv_iload_n hx hb d_Mod_flip_0 rfl (lv_at hl 1 rfl) ?_
  refine lv_if_lt (tgt := 38) hx hb d_Mod_flip_1 (by decide) (fun hc1 => ?_) (fun hc1 => ?_)
  · skip
    have hc1 : x < (nI 0) := hc1
    refine lv_iconst (v := nI 0) hx hb d_Mod_flip_38 (by decide) ?_
    have hres : (zb_flip lm fr (q9 0) x y z) = none := zb_flip_o (Or.inl hc1)
    refine W.widen (k := 0) (n := 0) (Nat.le_of_ble_eq_true rfl) (Nat.le_of_ble_eq_true rfl) ?_
    subst hAe
    exact W.zret (v := nI 0) hx hb hr (by decide +kernel) (fun t ht hW => zc_end hS hH ht (⟨by rw [hres]; rfl, rfl, rfl, rfl, by rw [hres]; exact hm⟩)) hS.2.2 d_Mod_flip_39
  · skip
    have hc1 : ¬ x < (nI 0) := hc1
    refine lv_iload_n hx hb d_Mod_flip_4 rfl (lv_at hl 1 rfl) ?_
    refine lv_iconst (v := nI 5) hx hb d_Mod_flip_5 (by decide) ?_
    refine lv_icmp_gt (tgt := 38) hx hb d_Mod_flip_6 (by decide) (fun hc2 => ?_) (fun hc2 => ?_)
    · skip
      have hc2 : (nI 5) < x := hc2
      refine lv_iconst (v := nI 0) hx hb d_Mod_flip_38 (by decide) ?_
      have hres : (zb_flip lm fr (q9 0) x y z) = none := zb_flip_o (Or.inr (Or.inl hc2))
      refine W.widen (k := 0) (n := 0) (Nat.le_of_ble_eq_true rfl) (Nat.le_of_ble_eq_true rfl) ?_
      subst hAe
      exact W.zret (v := nI 0) hx hb hr (by decide +kernel) (fun t ht hW => zc_end hS hH ht (⟨by rw [hres]; rfl, rfl, rfl, rfl, by rw [hres]; exact hm⟩)) hS.2.2 d_Mod_flip_39
    · skip
      have hc2 : ¬ (nI 5) < x := hc2
      obtain ⟨j1, hj1, rfl⟩ := zt_ix hc1 (zt_gt hc2 (by decide)) (by decide)
      refine lv_iload_n hx hb d_Mod_flip_9 rfl (lv_at hl 2 rfl) ?_
      refine lv_if_lt (tgt := 38) hx hb d_Mod_flip_10 (by decide) (fun hc3 => ?_) (fun hc3 => ?_)
      · skip
        have hc3 : y < (nI 0) := hc3
        refine lv_iconst (v := nI 0) hx hb d_Mod_flip_38 (by decide) ?_
        have hres : (zb_flip lm fr (q9 0) (nI j1) y z) = none := zb_flip_o (Or.inr (Or.inr (Or.inl hc3)))
        refine W.widen (k := 0) (n := 0) (Nat.le_of_ble_eq_true rfl) (Nat.le_of_ble_eq_true rfl) ?_
        subst hAe
        exact W.zret (v := nI 0) hx hb hr (by decide +kernel) (fun t ht hW => zc_end hS hH ht (⟨by rw [hres]; rfl, rfl, rfl, rfl, by rw [hres]; exact hm⟩)) hS.2.2 d_Mod_flip_39
      · skip
        have hc3 : ¬ y < (nI 0) := hc3
        refine lv_iload_n hx hb d_Mod_flip_13 rfl (lv_at hl 2 rfl) ?_
        refine lv_bipush (v := nI 127) hx hb d_Mod_flip_14 (by decide) ?_
        refine lv_icmp_gt (tgt := 38) hx hb d_Mod_flip_16 (by decide) (fun hc4 => ?_) (fun hc4 => ?_)
        · skip
          have hc4 : (nI 127) < y := hc4
          refine lv_iconst (v := nI 0) hx hb d_Mod_flip_38 (by decide) ?_
          have hres : (zb_flip lm fr (q9 0) (nI j1) y z) = none := zb_flip_o (Or.inr (Or.inr (Or.inr (Or.inl hc4))))
          refine W.widen (k := 0) (n := 0) (Nat.le_of_ble_eq_true rfl) (Nat.le_of_ble_eq_true rfl) ?_
          subst hAe
          exact W.zret (v := nI 0) hx hb hr (by decide +kernel) (fun t ht hW => zc_end hS hH ht (⟨by rw [hres]; rfl, rfl, rfl, rfl, by rw [hres]; exact hm⟩)) hS.2.2 d_Mod_flip_39
        · skip
          have hc4 : ¬ (nI 127) < y := hc4
          obtain ⟨j2, hj2, rfl⟩ := zt_ix hc3 (zt_gt hc4 (by decide)) (by decide)
          refine lv_iload_n hx hb d_Mod_flip_19 rfl (lv_at hl 3 rfl) ?_
          refine lv_if_lt (tgt := 38) hx hb d_Mod_flip_20 (by decide) (fun hc5 => ?_) (fun hc5 => ?_)
          · skip
            have hc5 : z < (nI 0) := hc5
            refine lv_iconst (v := nI 0) hx hb d_Mod_flip_38 (by decide) ?_
            have hres : (zb_flip lm fr (q9 0) (nI j1) (nI j2) z) = none := zb_flip_o (Or.inr (Or.inr (Or.inr (Or.inr (Or.inl hc5)))))
            refine W.widen (k := 0) (n := 0) (Nat.le_of_ble_eq_true rfl) (Nat.le_of_ble_eq_true rfl) ?_
            subst hAe
            exact W.zret (v := nI 0) hx hb hr (by decide +kernel) (fun t ht hW => zc_end hS hH ht (⟨by rw [hres]; rfl, rfl, rfl, rfl, by rw [hres]; exact hm⟩)) hS.2.2 d_Mod_flip_39
          · skip
            have hc5 : ¬ z < (nI 0) := hc5
            refine lv_iload_n hx hb d_Mod_flip_23 rfl (lv_at hl 3 rfl) ?_
            refine lv_bipush (v := nI 38) hx hb d_Mod_flip_24 (by decide) ?_
            refine lv_icmp_gt (tgt := 38) hx hb d_Mod_flip_26 (by decide) (fun hc6 => ?_) (fun hc6 => ?_)
            · skip
              have hc6 : (nI 38) < z := hc6
              refine lv_iconst (v := nI 0) hx hb d_Mod_flip_38 (by decide) ?_
              have hres : (zb_flip lm fr (q9 0) (nI j1) (nI j2) z) = none := zb_flip_o (Or.inr (Or.inr (Or.inr (Or.inr (Or.inr hc6)))))
              refine W.widen (k := 0) (n := 0) (Nat.le_of_ble_eq_true rfl) (Nat.le_of_ble_eq_true rfl) ?_
              subst hAe
              exact W.zret (v := nI 0) hx hb hr (by decide +kernel) (fun t ht hW => zc_end hS hH ht (⟨by rw [hres]; rfl, rfl, rfl, rfl, by rw [hres]; exact hm⟩)) hS.2.2 d_Mod_flip_39
            · skip
              have hc6 : ¬ (nI 38) < z := hc6
              obtain ⟨j3, hj3, rfl⟩ := zt_ix hc5 (zt_gt hc6 (by decide)) (by decide)
              refine lv_aload_n hx hb d_Mod_flip_29 rfl (lv_at hl 0 rfl) ?_
              refine lv_iload_n hx hb d_Mod_flip_30 rfl (lv_at hl 1 rfl) ?_
              refine lv_iload_n hx hb d_Mod_flip_31 rfl (lv_at hl 2 rfl) ?_
              refine zr_V (As := ([.int (nI j1), .int (nI j2)] : List Value)) (rest := []) (b := X) (ci := 6) (q := (R_Mod, T_Mod, 37)) ⟨hx, hb, hml, hown, hts⟩ (c_Mod_isMissing hm (by omega)) ⟨(callB_of 2 hts (zg_all zw_718) rfl rfl rfl (hw zw_3) (hw zw_715) k_Mod_isMissing.2 ⟨Nat.le_of_ble_eq_true rfl, Nat.le_of_ble_eq_true rfl⟩), (hw zw_717), (hw zs_Mod_isMissing)⟩ hSc hE hH hS hA rfl (by decide) hm.1.1 rfl hl.1 rfl (Nat.le_of_ble_eq_true rfl) d_Mod_flip_32 ⟨Nat.le_of_ble_eq_true rfl, Nat.le_of_ble_eq_true rfl⟩ (fun v7 kd7 ln7 I7 L7 R7 H locs hp hH hS => ?_)
              obtain ⟨rfl, rfl, rfl, rfl, hm⟩ := hp
              refine W.eq (g2 := F0 m 35 ls [.int (zo_mis (m9 40 1) (m9 40 2) (m9 40 3) j1 j2)]) rfl ?_
              refine W.widen (k := 0) (n := 0) (by omega) (by omega) ?_
              refine lv_if_eq (tgt := 40) hx hb d_Mod_flip_35 (by decide) (fun hc8 => ?_) (fun hc8 => ?_)
              · skip
                have hc8 : (zo_mis (m9 40 1) (m9 40 2) (m9 40 3) j1 j2) = (nI 0) := hc8
                refine lv_aload_n hx hb d_Mod_flip_40 rfl (lv_at hl 0 rfl) ?_
                refine zr_getr (ci := 6) (C := R_Mod) (T := T_Mod) (N := 37) (ref := "ScrubbedRecorderModel") hx hb hts (fun w h => List.mem_cons_of_mem _ (zin_Mod w h)) hown hK hH hm.1.1 (by decide) rfl 0 (by decide) rfl (hw zw_599) (fun _ h9 => h9) d_Mod_flip_41 (by rw [r0]) ?_
                refine lv_sipush (v := nI 128) hx hb d_Mod_flip_44 (by decide) ?_
                refine lv_iload_n hx hb d_Mod_flip_47 rfl (lv_at hl 1 rfl) ?_
                refine lv_imul hx hb d_Mod_flip_48 ?_
                refine zt_i (y := nI (128 * j1)) (pk_mul 128 j1) ?_
                refine lv_iload_n hx hb d_Mod_flip_49 rfl (lv_at hl 2 rfl) ?_
                refine lv_iadd hx hb d_Mod_flip_50 ?_
                refine zt_i (y := nI (128 * j1 + j2)) (nI_add (128 * j1) j2) ?_
                refine zr_aldl (j := 128 * j1 + j2) hx hb hK hH k0 (by rw [n0]; exact zh_ix_n (by omega) (by omega)) d_Mod_flip_51 ?_
                refine zt_l (y := q9 0 (128 * j1 + j2)) (congrFun (hm.2.2.2 0 (by decide) (by decide)) (128 * j1 + j2)) ?_
                refine lv_lconst (v := 1) hx hb d_Mod_flip_52 (by decide) ?_
                refine lv_iload_n hx hb d_Mod_flip_53 rfl (lv_at hl 3 rfl) ?_
                refine lv_lshl (v := (1 : Int64) <<< ((nI j3).toInt64 &&& 63)) hx hb d_Mod_flip_54 rfl ?_
                refine lv_lxor hx hb d_Mod_flip_55 ?_
                refine zt_l (y := (q9 0 (j1 * 128 + j2) ^^^ zq_b j3)) (by rw [show 128 * j1 + j2 = j1 * 128 + j2 by omega]; rfl) ?_
                refine lv_lstore (lv' := [(4, .long (q9 0 (j1 * 128 + j2) ^^^ zq_b j3)), (0, .ref X), (1, .int (nI j1)), (2, .int (nI j2)), (3, .int (nI j3))]) hx hb d_Mod_flip_56 hl (by decide) rfl (fun ls hl => ?_)
                refine lv_lload hx hb d_Mod_flip_58 (lv_at hl 0 rfl) ?_
                refine zr_St (As := ([.long (q9 0 (j1 * 128 + j2) ^^^ zq_b j3)] : List Value)) (rest := []) ⟨hx, hb, hml, hown, hts⟩ c_Mod_bitsIn ⟨(callB_of 1 hts (zg_all zw_721) rfl rfl rfl (hw zw_3) (hw zw_719) k_Mod_bitsIn.2 ⟨Nat.le_of_ble_eq_true rfl, Nat.le_of_ble_eq_true rfl⟩), hw zw_720⟩ hSc hE hH hS hA rfl hl.1 rfl (Nat.le_of_ble_eq_true rfl) d_Mod_flip_60 ⟨Nat.le_of_ble_eq_true rfl, Nat.le_of_ble_eq_true rfl⟩ (fun v9 kd9 ln9 I9 L9 R9 H locs hp hH hS => ?_)
                have hbl10 := zq_bc_le ((q9 0 (j1 * 128 + j2) ^^^ zq_b j3)) 39
                obtain ⟨rfl, rfl, rfl, rfl, rfl, rfl⟩ := hp
                refine W.eq (g2 := F0 m 63 ls [.int (nI (zq_bc ((q9 0 (j1 * 128 + j2) ^^^ zq_b j3)) 39))]) rfl ?_
                refine W.widen (k := 0) (n := 0) (by omega) (by omega) ?_
                refine lv_istore (lv' := [(6, .int (nI (zq_bc ((q9 0 (j1 * 128 + j2) ^^^ zq_b j3)) 39))), (4, .long (q9 0 (j1 * 128 + j2) ^^^ zq_b j3)), (0, .ref X), (1, .int (nI j1)), (2, .int (nI j2)), (3, .int (nI j3))]) hx hb d_Mod_flip_63 hl (by decide) rfl (fun ls hl => ?_)
                refine lv_iload hx hb d_Mod_flip_65 (lv_at hl 0 rfl) ?_
                refine lv_iconst (v := nI 2) hx hb d_Mod_flip_67 (by decide) ?_
                refine lv_icmp_gt (tgt := 75) hx hb d_Mod_flip_68 (by decide) (fun hc11 => ?_) (fun hc11 => ?_)
                · skip
                  have hc11 := zt_gtT (a := (zq_bc ((q9 0 (j1 * 128 + j2) ^^^ zq_b j3)) 39)) (b := 2) (by omega) (by omega) hc11
                  refine lv_iconst (v := nI 0) hx hb d_Mod_flip_75 (by decide) ?_
                  refine lv_istore (lv' := [(7, .int (nI 0)), (6, .int (nI (zq_bc ((q9 0 (j1 * 128 + j2) ^^^ zq_b j3)) 39))), (4, .long (q9 0 (j1 * 128 + j2) ^^^ zq_b j3)), (0, .ref X), (1, .int (nI j1)), (2, .int (nI j2)), (3, .int (nI j3))]) hx hb d_Mod_flip_76 hl (by decide) rfl (fun ls hl => ?_)
                  refine lv_iconst (v := nI 0) hx hb d_Mod_flip_78 (by decide) ?_
                  refine lv_istore (lv' := [(8, .int (nI 0)), (7, .int (nI 0)), (6, .int (nI (zq_bc ((q9 0 (j1 * 128 + j2) ^^^ zq_b j3)) 39))), (4, .long (q9 0 (j1 * 128 + j2) ^^^ zq_b j3)), (0, .ref X), (1, .int (nI j1)), (2, .int (nI j2)), (3, .int (nI j3))]) hx hb d_Mod_flip_79 hl (by decide) rfl (fun ls hl => ?_)
                  have loop_81 : ∀ (z : Nat) (o : Nat) (g : Nat) (I_81 : Nat → Nat → Int32) (L_81 : Nat → Nat → Int64) (H : Heap) (locs : List Loc) (ls : Array Slot), 6 - o < z → (o ≤ 6) → (g ≤ 1) → (zq_bc (q9 0 (j1 * 128 + j2) ^^^ zq_b j3) 39 = 2 → (if g = 0 then nI 0 else zb_ocm lm fr (q9 0) j1 j2 (6 - o)) = zb_ocm lm fr (q9 0) j1 j2 6) → (¬ zq_bc (q9 0 (j1 * 128 + j2) ^^^ zq_b j3) 39 = 2 → g = if zq_bc (q9 0 (j1 * 128 + j2) ^^^ zq_b j3) 39 ≤ 2 then 1 else 0) → (zoR X ad m9 q9 kd ln I_81 L_81 R) → lv_has ls 9 [(0, .ref X), (1, .int (nI j1)), (2, .int (nI j2)), (4, .long (q9 0 (j1 * 128 + j2) ^^^ zq_b j3)), (6, .int (nI (zq_bc (q9 0 (j1 * 128 + j2) ^^^ zq_b j3) 39))), (7, .int (nI g)), (8, .int (nI o))] → zh_H D cA A kd ln I_81 L_81 R H → va_S A s.heap H locs → W p l e (headSpec w_Mod_flip { frames := 1, cells := 0, slots := 0, locals := 23 }).room s m ([.ref X, .int (nI j1), .int (nI j2), .int (nI j3)] : List Value).toArray below meth c H locs 0 0 (MQ below (zc_Qc D cA A (zo_P (some (.int (zb_is (zb_flip lm fr (q9 0) (nI j1) (nI j2) (nI j3))))) X ad m9 (zb_upd q9 0 (zb_flip lm fr (q9 0) (nI j1) (nI j2) (nI j3))) kd ln R)) ([.ref X, .int (nI j1), .int (nI j2), .int (nI j3)] : List Value).toArray s 0 0 A) (F0 m 81 ls []) := by
                    intro z
                    induction z with
                    | zero => intro o g I_81 L_81 H locs ls hz; exact absurd hz (Nat.not_lt_zero _)
                    | succ z ih_81 =>
                      intro o g I_81 L_81 H locs ls hz_81 ho hg1 hin1 hin2 hm hl hH hS
                      refine lv_iload hx hb d_Mod_flip_81 (lv_at hl 6 rfl) ?_
                      refine lv_bipush (v := nI 6) hx hb d_Mod_flip_83 (by decide) ?_
                      refine lv_icmp_ge (tgt := 148) hx hb d_Mod_flip_85 (by decide) (fun hc12 => ?_) (fun hc12 => ?_)
                      · skip
                        have hc12 := zt_geT (a := o) (b := 6) (by omega) (by omega) hc12
                        have hmz : zb_mis lm fr j1 j2 = nI 0 := by rw [← zq_mis hrel hj1 hj2]; assumption
                        have hfin := zq_fl_end (g := g) hj1 hj2 hj3 hmz (hf _ (by omega)) (fun e => by first | (exfalso; omega) | exact zq_g1 (hin1 e) (by omega)) hin2
                        refine lv_iload hx hb d_Mod_flip_148 (lv_at hl 5 rfl) ?_
                        refine lv_if_ne (tgt := 155) hx hb d_Mod_flip_150 (by decide) (fun hc13 => ?_) (fun hc13 => ?_)
                        · skip
                          have hc13 := zt_neT (a := g) (b := 0) (by omega) (by omega) hc13
                          refine lv_aload_n hx hb d_Mod_flip_155 rfl (lv_at hl 0 rfl) ?_
                          refine zr_getr (ci := 6) (C := R_Mod) (T := T_Mod) (N := 37) (ref := "ScrubbedRecorderModel") hx hb hts (fun w h => List.mem_cons_of_mem _ (zin_Mod w h)) hown hK hH hm.1.1 (by decide) rfl 0 (by decide) rfl (hw zw_599) (fun _ h9 => h9) d_Mod_flip_156 (by rw [r0]) ?_
                          refine lv_sipush (v := nI 128) hx hb d_Mod_flip_159 (by decide) ?_
                          refine lv_iload_n hx hb d_Mod_flip_162 rfl (lv_at hl 1 rfl) ?_
                          refine lv_imul hx hb d_Mod_flip_163 ?_
                          refine zt_i (y := nI (128 * j1)) (pk_mul 128 j1) ?_
                          refine lv_iload_n hx hb d_Mod_flip_164 rfl (lv_at hl 2 rfl) ?_
                          refine lv_iadd hx hb d_Mod_flip_165 ?_
                          refine zt_i (y := nI (128 * j1 + j2)) (nI_add (128 * j1) j2) ?_
                          refine lv_lload hx hb d_Mod_flip_166 (lv_at hl 3 rfl) ?_
                          refine zr_astl (j := 128 * j1 + j2) (y := (q9 0 (j1 * 128 + j2) ^^^ zq_b j3)) hx hb hK hH hS k0 rfl (by rw [n0]; exact zh_ix_n (by omega) (by omega)) d_Mod_flip_168 (fun H locs hH hS => ?_)
                          have hm := zoR_L hm 0 (by decide) (128 * j1 + j2) (q9 0 (j1 * 128 + j2) ^^^ zq_b j3)
                          generalize zu L_81 (ad 0) (128 * j1 + j2) (q9 0 (j1 * 128 + j2) ^^^ zq_b j3) = L14 at hm hH
                          refine lv_iconst (v := nI 1) hx hb d_Mod_flip_169 (by decide) ?_
                          have hres : (zb_flip lm fr (q9 0) (nI j1) (nI j2) (nI j3)) = some (j1 * 128 + j2, q9 0 (j1 * 128 + j2) ^^^ zq_b j3) := by rw [hfin, if_neg (by omega)]
                          rw [show 128 * j1 + j2 = j1 * 128 + j2 by omega] at hm
                          refine W.widen (k := 0) (n := 0) (Nat.le_of_ble_eq_true rfl) (Nat.le_of_ble_eq_true rfl) ?_
                          subst hAe
                          exact W.zret (v := nI 1) hx hb hr (by decide +kernel) (fun t ht hW => zc_end hS hH ht (⟨by rw [hres]; rfl, rfl, rfl, rfl, by rw [hres]; exact hm⟩)) hS.2.2 d_Mod_flip_170
                        · skip
                          have hc13 := zt_neF (a := g) (b := 0) (by omega) (by omega) hc13
                          refine lv_iconst (v := nI 0) hx hb d_Mod_flip_153 (by decide) ?_
                          have hres : (zb_flip lm fr (q9 0) (nI j1) (nI j2) (nI j3)) = none := by rw [hfin, if_pos (by omega)]
                          refine W.widen (k := 0) (n := 0) (Nat.le_of_ble_eq_true rfl) (Nat.le_of_ble_eq_true rfl) ?_
                          subst hAe
                          exact W.zret (v := nI 0) hx hb hr (by decide +kernel) (fun t ht hW => zc_end hS hH ht (⟨by rw [hres]; rfl, rfl, rfl, rfl, by rw [hres]; exact hm⟩)) hS.2.2 d_Mod_flip_154
                      · skip
                        have hc12 := zt_geF (a := o) (b := 6) (by omega) (by omega) hc12
                        refine lv_iload hx hb d_Mod_flip_88 (lv_at hl 4 rfl) ?_
                        refine lv_iconst (v := nI 2) hx hb d_Mod_flip_90 (by decide) ?_
                        refine lv_icmp_ne (tgt := 148) hx hb d_Mod_flip_91 (by decide) (fun hc15 => ?_) (fun hc15 => ?_)
                        · skip
                          have hc15 := zt_neT (a := (zq_bc (q9 0 (j1 * 128 + j2) ^^^ zq_b j3) 39)) (b := 2) (by omega) (by omega) hc15
                          have hmz : zb_mis lm fr j1 j2 = nI 0 := by rw [← zq_mis hrel hj1 hj2]; assumption
                          have hfin := zq_fl_end (g := g) hj1 hj2 hj3 hmz (hf _ (by omega)) (fun e => by first | (exfalso; omega) | exact zq_g1 (hin1 e) (by omega)) hin2
                          refine lv_iload hx hb d_Mod_flip_148 (lv_at hl 5 rfl) ?_
                          refine lv_if_ne (tgt := 155) hx hb d_Mod_flip_150 (by decide) (fun hc16 => ?_) (fun hc16 => ?_)
                          · skip
                            have hc16 := zt_neT (a := g) (b := 0) (by omega) (by omega) hc16
                            refine lv_aload_n hx hb d_Mod_flip_155 rfl (lv_at hl 0 rfl) ?_
                            refine zr_getr (ci := 6) (C := R_Mod) (T := T_Mod) (N := 37) (ref := "ScrubbedRecorderModel") hx hb hts (fun w h => List.mem_cons_of_mem _ (zin_Mod w h)) hown hK hH hm.1.1 (by decide) rfl 0 (by decide) rfl (hw zw_599) (fun _ h9 => h9) d_Mod_flip_156 (by rw [r0]) ?_
                            refine lv_sipush (v := nI 128) hx hb d_Mod_flip_159 (by decide) ?_
                            refine lv_iload_n hx hb d_Mod_flip_162 rfl (lv_at hl 1 rfl) ?_
                            refine lv_imul hx hb d_Mod_flip_163 ?_
                            refine zt_i (y := nI (128 * j1)) (pk_mul 128 j1) ?_
                            refine lv_iload_n hx hb d_Mod_flip_164 rfl (lv_at hl 2 rfl) ?_
                            refine lv_iadd hx hb d_Mod_flip_165 ?_
                            refine zt_i (y := nI (128 * j1 + j2)) (nI_add (128 * j1) j2) ?_
                            refine lv_lload hx hb d_Mod_flip_166 (lv_at hl 3 rfl) ?_
                            refine zr_astl (j := 128 * j1 + j2) (y := (q9 0 (j1 * 128 + j2) ^^^ zq_b j3)) hx hb hK hH hS k0 rfl (by rw [n0]; exact zh_ix_n (by omega) (by omega)) d_Mod_flip_168 (fun H locs hH hS => ?_)
                            have hm := zoR_L hm 0 (by decide) (128 * j1 + j2) (q9 0 (j1 * 128 + j2) ^^^ zq_b j3)
                            generalize zu L_81 (ad 0) (128 * j1 + j2) (q9 0 (j1 * 128 + j2) ^^^ zq_b j3) = L17 at hm hH
                            refine lv_iconst (v := nI 1) hx hb d_Mod_flip_169 (by decide) ?_
                            have hres : (zb_flip lm fr (q9 0) (nI j1) (nI j2) (nI j3)) = some (j1 * 128 + j2, q9 0 (j1 * 128 + j2) ^^^ zq_b j3) := by rw [hfin, if_neg (by omega)]
                            rw [show 128 * j1 + j2 = j1 * 128 + j2 by omega] at hm
                            refine W.widen (k := 0) (n := 0) (Nat.le_of_ble_eq_true rfl) (Nat.le_of_ble_eq_true rfl) ?_
                            subst hAe
                            exact W.zret (v := nI 1) hx hb hr (by decide +kernel) (fun t ht hW => zc_end hS hH ht (⟨by rw [hres]; rfl, rfl, rfl, rfl, by rw [hres]; exact hm⟩)) hS.2.2 d_Mod_flip_170
                          · skip
                            have hc16 := zt_neF (a := g) (b := 0) (by omega) (by omega) hc16
                            refine lv_iconst (v := nI 0) hx hb d_Mod_flip_153 (by decide) ?_
                            have hres : (zb_flip lm fr (q9 0) (nI j1) (nI j2) (nI j3)) = none := by rw [hfin, if_pos (by omega)]
                            refine W.widen (k := 0) (n := 0) (Nat.le_of_ble_eq_true rfl) (Nat.le_of_ble_eq_true rfl) ?_
                            subst hAe
                            exact W.zret (v := nI 0) hx hb hr (by decide +kernel) (fun t ht hW => zc_end hS hH ht (⟨by rw [hres]; rfl, rfl, rfl, rfl, by rw [hres]; exact hm⟩)) hS.2.2 d_Mod_flip_154
                        · skip
                          have hc15 := zt_neF (a := (zq_bc (q9 0 (j1 * 128 + j2) ^^^ zq_b j3) 39)) (b := 2) (by omega) (by omega) hc15
                          refine lv_iload hx hb d_Mod_flip_94 (lv_at hl 5 rfl) ?_
                          refine lv_if_eq (tgt := 139) hx hb d_Mod_flip_96 (by decide) (fun hc18 => ?_) (fun hc18 => ?_)
                          · skip
                            have hc18 := zt_eqT (a := g) (b := 0) (by omega) (by omega) hc18
                            refine lv_iconst (v := nI 0) hx hb d_Mod_flip_139 (by decide) ?_
                            refine lv_istore (lv' := [(7, .int (nI 0)), (0, .ref X), (1, .int (nI j1)), (2, .int (nI j2)), (4, .long (q9 0 (j1 * 128 + j2) ^^^ zq_b j3)), (6, .int (nI (zq_bc (q9 0 (j1 * 128 + j2) ^^^ zq_b j3) 39))), (8, .int (nI o))]) hx hb d_Mod_flip_140 hl (by decide) rfl (fun ls hl => ?_)
                            refine lv_iinc (k := 6) (v := nI (o + 1)) (lv' := [(8, .int (nI (o + 1))), (7, .int (nI 0)), (0, .ref X), (1, .int (nI j1)), (2, .int (nI j2)), (4, .long (q9 0 (j1 * 128 + j2) ^^^ zq_b j3)), (6, .int (nI (zq_bc (q9 0 (j1 * 128 + j2) ^^^ zq_b j3) 39)))]) hx hb d_Mod_flip_142 hl rfl (nI_add o 1) (by decide) rfl (fun ls hl => ?_)
                            refine lv_goto (tgt := 81) hx hb d_Mod_flip_145 (by decide) ?_
                            exact ih_81 (o + 1) 0 _ _ _ _ _ (by omega) (by omega) (by omega) (fun e => by first | (exfalso; omega) | (rw [if_pos rfl, ← hin1 e, if_pos (by omega)])) (fun e => absurd (by omega) e) hm (lv_sub hl [2, 3, 4, 5, 6, 1, 0] rfl) hH hS
                          · skip
                            have hc18 := zt_eqF (a := g) (b := 0) (by omega) (by omega) hc18
                            refine lv_iload hx hb d_Mod_flip_99 (lv_at hl 6 rfl) ?_
                            refine lv_iload_n hx hb d_Mod_flip_101 rfl (lv_at hl 1 rfl) ?_
                            refine lv_icmp_eq (tgt := 135) hx hb d_Mod_flip_102 (by decide) (fun hc19 => ?_) (fun hc19 => ?_)
                            · skip
                              have hc19 := zt_eqT (a := o) (b := j1) (by omega) (by omega) hc19
                              refine lv_iconst (v := nI 1) hx hb d_Mod_flip_135 (by decide) ?_
                              refine lv_goto (tgt := 140) hx hb d_Mod_flip_136 (by decide) ?_
                              refine lv_istore (lv' := [(7, .int (nI 1)), (0, .ref X), (1, .int (nI j1)), (2, .int (nI j2)), (4, .long (q9 0 (j1 * 128 + j2) ^^^ zq_b j3)), (6, .int (nI (zq_bc (q9 0 (j1 * 128 + j2) ^^^ zq_b j3) 39))), (8, .int (nI o))]) hx hb d_Mod_flip_140 hl (by decide) rfl (fun ls hl => ?_)
                              refine lv_iinc (k := 6) (v := nI (o + 1)) (lv' := [(8, .int (nI (o + 1))), (7, .int (nI 1)), (0, .ref X), (1, .int (nI j1)), (2, .int (nI j2)), (4, .long (q9 0 (j1 * 128 + j2) ^^^ zq_b j3)), (6, .int (nI (zq_bc (q9 0 (j1 * 128 + j2) ^^^ zq_b j3) 39)))]) hx hb d_Mod_flip_142 hl rfl (nI_add o 1) (by decide) rfl (fun ls hl => ?_)
                              refine lv_goto (tgt := 81) hx hb d_Mod_flip_145 (by decide) ?_
                              exact ih_81 (o + 1) 1 _ _ _ _ _ (by omega) (by omega) (by omega) (fun e => by first | (exfalso; omega) | (show zb_ocm lm fr (q9 0) j1 j2 (6 - (o + 1)) = _; rw [← hin1 e, if_neg (show ¬ g = 0 by omega), zq_fl (o := o) hrel hf (by omega) hj2]; (first | rw [if_pos hc19] | rw [if_neg hc19] | rw [if_pos (by omega)] | rw [if_neg (by omega)]))) (fun e => absurd (by omega) e) hm (lv_sub hl [2, 3, 4, 5, 6, 1, 0] rfl) hH hS
                            · skip
                              have hc19 := zt_eqF (a := o) (b := j1) (by omega) (by omega) hc19
                              refine lv_aload_n hx hb d_Mod_flip_105 rfl (lv_at hl 0 rfl) ?_
                              refine lv_iload hx hb d_Mod_flip_106 (lv_at hl 6 rfl) ?_
                              refine lv_iload_n hx hb d_Mod_flip_108 rfl (lv_at hl 2 rfl) ?_
                              refine zr_V (As := ([.int (nI o), .int (nI j2)] : List Value)) (rest := []) (b := X) (ci := 6) (q := (R_Mod, T_Mod, 37)) ⟨hx, hb, hml, hown, hts⟩ (c_Mod_isMissing hm (by omega)) ⟨(callB_of 2 hts (zg_all zw_718) rfl rfl rfl (hw zw_3) (hw zw_715) k_Mod_isMissing.2 ⟨Nat.le_of_ble_eq_true rfl, Nat.le_of_ble_eq_true rfl⟩), (hw zw_717), (hw zs_Mod_isMissing)⟩ hSc hE hH hS hA rfl (by decide) hm.1.1 rfl hl.1 rfl (Nat.le_of_ble_eq_true rfl) d_Mod_flip_109 ⟨Nat.le_of_ble_eq_true rfl, Nat.le_of_ble_eq_true rfl⟩ (fun v20 kd20 ln20 I20 L20 R20 H locs hp hH hS => ?_)
                              obtain ⟨rfl, rfl, rfl, rfl, hm⟩ := hp
                              refine W.eq (g2 := F0 m 112 ls [.int (zo_mis (m9 40 1) (m9 40 2) (m9 40 3) o j2)]) rfl ?_
                              refine W.widen (k := 0) (n := 0) (by omega) (by omega) ?_
                              refine lv_if_ne (tgt := 139) hx hb d_Mod_flip_112 (by decide) (fun hc21 => ?_) (fun hc21 => ?_)
                              · skip
                                have hc21 : ¬ (zo_mis (m9 40 1) (m9 40 2) (m9 40 3) o j2) = (nI 0) := hc21
                                refine lv_iconst (v := nI 0) hx hb d_Mod_flip_139 (by decide) ?_
                                refine lv_istore (lv' := [(7, .int (nI 0)), (0, .ref X), (1, .int (nI j1)), (2, .int (nI j2)), (4, .long (q9 0 (j1 * 128 + j2) ^^^ zq_b j3)), (6, .int (nI (zq_bc (q9 0 (j1 * 128 + j2) ^^^ zq_b j3) 39))), (8, .int (nI o))]) hx hb d_Mod_flip_140 hl (by decide) rfl (fun ls hl => ?_)
                                refine lv_iinc (k := 6) (v := nI (o + 1)) (lv' := [(8, .int (nI (o + 1))), (7, .int (nI 0)), (0, .ref X), (1, .int (nI j1)), (2, .int (nI j2)), (4, .long (q9 0 (j1 * 128 + j2) ^^^ zq_b j3)), (6, .int (nI (zq_bc (q9 0 (j1 * 128 + j2) ^^^ zq_b j3) 39)))]) hx hb d_Mod_flip_142 hl rfl (nI_add o 1) (by decide) rfl (fun ls hl => ?_)
                                refine lv_goto (tgt := 81) hx hb d_Mod_flip_145 (by decide) ?_
                                exact ih_81 (o + 1) 0 _ _ _ _ _ (by omega) (by omega) (by omega) (fun e => by first | (exfalso; omega) | (show nI 0 = _; rw [← hin1 e, if_neg (show ¬ g = 0 by omega), zq_fl (o := o) hrel hf (by omega) hj2]; (first | rw [if_pos hc19] | rw [if_neg hc19] | rw [if_pos (by omega)] | rw [if_neg (by omega)]); rw [if_neg hc21])) (fun e => absurd (by omega) e) hm (lv_sub hl [2, 3, 4, 5, 6, 1, 0] rfl) hH hS
                              · skip
                                have hc21 : (zo_mis (m9 40 1) (m9 40 2) (m9 40 3) o j2) = (nI 0) := hc21
                                refine lv_aload_n hx hb d_Mod_flip_115 rfl (lv_at hl 0 rfl) ?_
                                refine zr_getr (ci := 6) (C := R_Mod) (T := T_Mod) (N := 37) (ref := "ScrubbedRecorderModel") hx hb hts (fun w h => List.mem_cons_of_mem _ (zin_Mod w h)) hown hK hH hm.1.1 (by decide) rfl 0 (by decide) rfl (hw zw_599) (fun _ h9 => h9) d_Mod_flip_116 (by rw [r0]) ?_
                                refine lv_sipush (v := nI 128) hx hb d_Mod_flip_119 (by decide) ?_
                                refine lv_iload hx hb d_Mod_flip_122 (lv_at hl 6 rfl) ?_
                                refine lv_imul hx hb d_Mod_flip_124 ?_
                                refine zt_i (y := nI (128 * o)) (pk_mul 128 o) ?_
                                refine lv_iload_n hx hb d_Mod_flip_125 rfl (lv_at hl 2 rfl) ?_
                                refine lv_iadd hx hb d_Mod_flip_126 ?_
                                refine zt_i (y := nI (128 * o + j2)) (nI_add (128 * o) j2) ?_
                                refine zr_aldl (j := 128 * o + j2) hx hb hK hH k0 (by rw [n0]; exact zh_ix_n (by omega) (by omega)) d_Mod_flip_127 ?_
                                refine zt_l (y := q9 0 (128 * o + j2)) (congrFun (hm.2.2.2 0 (by decide) (by decide)) (128 * o + j2)) ?_
                                refine zr_St (As := ([.long (q9 0 (128 * o + j2))] : List Value)) (rest := []) ⟨hx, hb, hml, hown, hts⟩ c_Mod_bitsIn ⟨(callB_of 1 hts (zg_all zw_721) rfl rfl rfl (hw zw_3) (hw zw_719) k_Mod_bitsIn.2 ⟨Nat.le_of_ble_eq_true rfl, Nat.le_of_ble_eq_true rfl⟩), hw zw_720⟩ hSc hE hH hS hA rfl hl.1 rfl (Nat.le_of_ble_eq_true rfl) d_Mod_flip_128 ⟨Nat.le_of_ble_eq_true rfl, Nat.le_of_ble_eq_true rfl⟩ (fun v22 kd22 ln22 I22 L22 R22 H locs hp hH hS => ?_)
                                have hbl23 := zq_bc_le (q9 0 (128 * o + j2)) 39
                                obtain ⟨rfl, rfl, rfl, rfl, rfl, rfl⟩ := hp
                                refine W.eq (g2 := F0 m 131 ls [.int (nI (zq_bc (q9 0 (128 * o + j2)) 39))]) rfl ?_
                                refine W.widen (k := 0) (n := 0) (by omega) (by omega) ?_
                                refine lv_iconst (v := nI 2) hx hb d_Mod_flip_131 (by decide) ?_
                                refine lv_icmp_ge (tgt := 139) hx hb d_Mod_flip_132 (by decide) (fun hc24 => ?_) (fun hc24 => ?_)
                                · skip
                                  have hc24 := zt_geT (a := (zq_bc (q9 0 (128 * o + j2)) 39)) (b := 2) (by omega) (by omega) hc24
                                  refine lv_iconst (v := nI 0) hx hb d_Mod_flip_139 (by decide) ?_
                                  refine lv_istore (lv' := [(7, .int (nI 0)), (0, .ref X), (1, .int (nI j1)), (2, .int (nI j2)), (4, .long (q9 0 (j1 * 128 + j2) ^^^ zq_b j3)), (6, .int (nI (zq_bc (q9 0 (j1 * 128 + j2) ^^^ zq_b j3) 39))), (8, .int (nI o))]) hx hb d_Mod_flip_140 hl (by decide) rfl (fun ls hl => ?_)
                                  refine lv_iinc (k := 6) (v := nI (o + 1)) (lv' := [(8, .int (nI (o + 1))), (7, .int (nI 0)), (0, .ref X), (1, .int (nI j1)), (2, .int (nI j2)), (4, .long (q9 0 (j1 * 128 + j2) ^^^ zq_b j3)), (6, .int (nI (zq_bc (q9 0 (j1 * 128 + j2) ^^^ zq_b j3) 39)))]) hx hb d_Mod_flip_142 hl rfl (nI_add o 1) (by decide) rfl (fun ls hl => ?_)
                                  refine lv_goto (tgt := 81) hx hb d_Mod_flip_145 (by decide) ?_
                                  exact ih_81 (o + 1) 0 _ _ _ _ _ (by omega) (by omega) (by omega) (fun e => by first | (exfalso; omega) | (show nI 0 = _; rw [← hin1 e, if_neg (show ¬ g = 0 by omega), zq_fl (o := o) hrel hf (by omega) hj2]; (first | rw [if_pos hc19] | rw [if_neg hc19] | rw [if_pos (by omega)] | rw [if_neg (by omega)]); rw [if_pos hc21]; (first | rw [if_pos hc24] | rw [if_neg hc24] | rw [if_pos (by omega)] | rw [if_neg (by omega)]))) (fun e => absurd (by omega) e) hm (lv_sub hl [2, 3, 4, 5, 6, 1, 0] rfl) hH hS
                                · skip
                                  have hc24 := zt_geF (a := (zq_bc (q9 0 (128 * o + j2)) 39)) (b := 2) (by omega) (by omega) hc24
                                  refine lv_iconst (v := nI 1) hx hb d_Mod_flip_135 (by decide) ?_
                                  refine lv_goto (tgt := 140) hx hb d_Mod_flip_136 (by decide) ?_
                                  refine lv_istore (lv' := [(7, .int (nI 1)), (0, .ref X), (1, .int (nI j1)), (2, .int (nI j2)), (4, .long (q9 0 (j1 * 128 + j2) ^^^ zq_b j3)), (6, .int (nI (zq_bc (q9 0 (j1 * 128 + j2) ^^^ zq_b j3) 39))), (8, .int (nI o))]) hx hb d_Mod_flip_140 hl (by decide) rfl (fun ls hl => ?_)
                                  refine lv_iinc (k := 6) (v := nI (o + 1)) (lv' := [(8, .int (nI (o + 1))), (7, .int (nI 1)), (0, .ref X), (1, .int (nI j1)), (2, .int (nI j2)), (4, .long (q9 0 (j1 * 128 + j2) ^^^ zq_b j3)), (6, .int (nI (zq_bc (q9 0 (j1 * 128 + j2) ^^^ zq_b j3) 39)))]) hx hb d_Mod_flip_142 hl rfl (nI_add o 1) (by decide) rfl (fun ls hl => ?_)
                                  refine lv_goto (tgt := 81) hx hb d_Mod_flip_145 (by decide) ?_
                                  exact ih_81 (o + 1) 1 _ _ _ _ _ (by omega) (by omega) (by omega) (fun e => by first | (exfalso; omega) | (show zb_ocm lm fr (q9 0) j1 j2 (6 - (o + 1)) = _; rw [← hin1 e, if_neg (show ¬ g = 0 by omega), zq_fl (o := o) hrel hf (by omega) hj2]; (first | rw [if_pos hc19] | rw [if_neg hc19] | rw [if_pos (by omega)] | rw [if_neg (by omega)]); rw [if_pos hc21]; (first | rw [if_pos hc24] | rw [if_neg hc24] | rw [if_pos (by omega)] | rw [if_neg (by omega)]))) (fun e => absurd (by omega) e) hm (lv_sub hl [2, 3, 4, 5, 6, 1, 0] rfl) hH hS
                  exact loop_81 _ 0 0 _ _ _ _ _ (Nat.lt_succ_self _) (by omega) (by omega) (fun e => by first | (exfalso; omega) | rw [if_neg (by omega)]) (fun e => by first | (exfalso; omega) | rw [if_pos (by omega)] | rw [if_neg (by omega)]) hm (lv_sub hl [4, 5, 6, 3, 2, 1, 0] rfl) hH hS
                · skip
                  have hc11 := zt_gtF (a := (zq_bc ((q9 0 (j1 * 128 + j2) ^^^ zq_b j3)) 39)) (b := 2) (by omega) (by omega) hc11
                  refine lv_iconst (v := nI 1) hx hb d_Mod_flip_71 (by decide) ?_
                  refine lv_goto (tgt := 76) hx hb d_Mod_flip_72 (by decide) ?_
                  refine lv_istore (lv' := [(7, .int (nI 1)), (6, .int (nI (zq_bc ((q9 0 (j1 * 128 + j2) ^^^ zq_b j3)) 39))), (4, .long (q9 0 (j1 * 128 + j2) ^^^ zq_b j3)), (0, .ref X), (1, .int (nI j1)), (2, .int (nI j2)), (3, .int (nI j3))]) hx hb d_Mod_flip_76 hl (by decide) rfl (fun ls hl => ?_)
                  refine lv_iconst (v := nI 0) hx hb d_Mod_flip_78 (by decide) ?_
                  refine lv_istore (lv' := [(8, .int (nI 0)), (7, .int (nI 1)), (6, .int (nI (zq_bc ((q9 0 (j1 * 128 + j2) ^^^ zq_b j3)) 39))), (4, .long (q9 0 (j1 * 128 + j2) ^^^ zq_b j3)), (0, .ref X), (1, .int (nI j1)), (2, .int (nI j2)), (3, .int (nI j3))]) hx hb d_Mod_flip_79 hl (by decide) rfl (fun ls hl => ?_)
                  have loop_81 : ∀ (z : Nat) (o : Nat) (g : Nat) (I_81 : Nat → Nat → Int32) (L_81 : Nat → Nat → Int64) (H : Heap) (locs : List Loc) (ls : Array Slot), 6 - o < z → (o ≤ 6) → (g ≤ 1) → (zq_bc (q9 0 (j1 * 128 + j2) ^^^ zq_b j3) 39 = 2 → (if g = 0 then nI 0 else zb_ocm lm fr (q9 0) j1 j2 (6 - o)) = zb_ocm lm fr (q9 0) j1 j2 6) → (¬ zq_bc (q9 0 (j1 * 128 + j2) ^^^ zq_b j3) 39 = 2 → g = if zq_bc (q9 0 (j1 * 128 + j2) ^^^ zq_b j3) 39 ≤ 2 then 1 else 0) → (zoR X ad m9 q9 kd ln I_81 L_81 R) → lv_has ls 9 [(0, .ref X), (1, .int (nI j1)), (2, .int (nI j2)), (4, .long (q9 0 (j1 * 128 + j2) ^^^ zq_b j3)), (6, .int (nI (zq_bc (q9 0 (j1 * 128 + j2) ^^^ zq_b j3) 39))), (7, .int (nI g)), (8, .int (nI o))] → zh_H D cA A kd ln I_81 L_81 R H → va_S A s.heap H locs → W p l e (headSpec w_Mod_flip { frames := 1, cells := 0, slots := 0, locals := 23 }).room s m ([.ref X, .int (nI j1), .int (nI j2), .int (nI j3)] : List Value).toArray below meth c H locs 0 0 (MQ below (zc_Qc D cA A (zo_P (some (.int (zb_is (zb_flip lm fr (q9 0) (nI j1) (nI j2) (nI j3))))) X ad m9 (zb_upd q9 0 (zb_flip lm fr (q9 0) (nI j1) (nI j2) (nI j3))) kd ln R)) ([.ref X, .int (nI j1), .int (nI j2), .int (nI j3)] : List Value).toArray s 0 0 A) (F0 m 81 ls []) := by
                    intro z
                    induction z with
                    | zero => intro o g I_81 L_81 H locs ls hz; exact absurd hz (Nat.not_lt_zero _)
                    | succ z ih_81 =>
                      intro o g I_81 L_81 H locs ls hz_81 ho hg1 hin1 hin2 hm hl hH hS
                      refine lv_iload hx hb d_Mod_flip_81 (lv_at hl 6 rfl) ?_
                      refine lv_bipush (v := nI 6) hx hb d_Mod_flip_83 (by decide) ?_
                      refine lv_icmp_ge (tgt := 148) hx hb d_Mod_flip_85 (by decide) (fun hc25 => ?_) (fun hc25 => ?_)
                      · skip
                        have hc25 := zt_geT (a := o) (b := 6) (by omega) (by omega) hc25
                        have hmz : zb_mis lm fr j1 j2 = nI 0 := by rw [← zq_mis hrel hj1 hj2]; assumption
                        have hfin := zq_fl_end (g := g) hj1 hj2 hj3 hmz (hf _ (by omega)) (fun e => by first | (exfalso; omega) | exact zq_g1 (hin1 e) (by omega)) hin2
                        refine lv_iload hx hb d_Mod_flip_148 (lv_at hl 5 rfl) ?_
                        refine lv_if_ne (tgt := 155) hx hb d_Mod_flip_150 (by decide) (fun hc26 => ?_) (fun hc26 => ?_)
                        · skip
                          have hc26 := zt_neT (a := g) (b := 0) (by omega) (by omega) hc26
                          refine lv_aload_n hx hb d_Mod_flip_155 rfl (lv_at hl 0 rfl) ?_
                          refine zr_getr (ci := 6) (C := R_Mod) (T := T_Mod) (N := 37) (ref := "ScrubbedRecorderModel") hx hb hts (fun w h => List.mem_cons_of_mem _ (zin_Mod w h)) hown hK hH hm.1.1 (by decide) rfl 0 (by decide) rfl (hw zw_599) (fun _ h9 => h9) d_Mod_flip_156 (by rw [r0]) ?_
                          refine lv_sipush (v := nI 128) hx hb d_Mod_flip_159 (by decide) ?_
                          refine lv_iload_n hx hb d_Mod_flip_162 rfl (lv_at hl 1 rfl) ?_
                          refine lv_imul hx hb d_Mod_flip_163 ?_
                          refine zt_i (y := nI (128 * j1)) (pk_mul 128 j1) ?_
                          refine lv_iload_n hx hb d_Mod_flip_164 rfl (lv_at hl 2 rfl) ?_
                          refine lv_iadd hx hb d_Mod_flip_165 ?_
                          refine zt_i (y := nI (128 * j1 + j2)) (nI_add (128 * j1) j2) ?_
                          refine lv_lload hx hb d_Mod_flip_166 (lv_at hl 3 rfl) ?_
                          refine zr_astl (j := 128 * j1 + j2) (y := (q9 0 (j1 * 128 + j2) ^^^ zq_b j3)) hx hb hK hH hS k0 rfl (by rw [n0]; exact zh_ix_n (by omega) (by omega)) d_Mod_flip_168 (fun H locs hH hS => ?_)
                          have hm := zoR_L hm 0 (by decide) (128 * j1 + j2) (q9 0 (j1 * 128 + j2) ^^^ zq_b j3)
                          generalize zu L_81 (ad 0) (128 * j1 + j2) (q9 0 (j1 * 128 + j2) ^^^ zq_b j3) = L27 at hm hH
                          refine lv_iconst (v := nI 1) hx hb d_Mod_flip_169 (by decide) ?_
                          have hres : (zb_flip lm fr (q9 0) (nI j1) (nI j2) (nI j3)) = some (j1 * 128 + j2, q9 0 (j1 * 128 + j2) ^^^ zq_b j3) := by rw [hfin, if_neg (by omega)]
                          rw [show 128 * j1 + j2 = j1 * 128 + j2 by omega] at hm
                          refine W.widen (k := 0) (n := 0) (Nat.le_of_ble_eq_true rfl) (Nat.le_of_ble_eq_true rfl) ?_
                          subst hAe
                          exact W.zret (v := nI 1) hx hb hr (by decide +kernel) (fun t ht hW => zc_end hS hH ht (⟨by rw [hres]; rfl, rfl, rfl, rfl, by rw [hres]; exact hm⟩)) hS.2.2 d_Mod_flip_170
                        · skip
                          have hc26 := zt_neF (a := g) (b := 0) (by omega) (by omega) hc26
                          refine lv_iconst (v := nI 0) hx hb d_Mod_flip_153 (by decide) ?_
                          have hres : (zb_flip lm fr (q9 0) (nI j1) (nI j2) (nI j3)) = none := by rw [hfin, if_pos (by omega)]
                          refine W.widen (k := 0) (n := 0) (Nat.le_of_ble_eq_true rfl) (Nat.le_of_ble_eq_true rfl) ?_
                          subst hAe
                          exact W.zret (v := nI 0) hx hb hr (by decide +kernel) (fun t ht hW => zc_end hS hH ht (⟨by rw [hres]; rfl, rfl, rfl, rfl, by rw [hres]; exact hm⟩)) hS.2.2 d_Mod_flip_154
                      · skip
                        have hc25 := zt_geF (a := o) (b := 6) (by omega) (by omega) hc25
                        refine lv_iload hx hb d_Mod_flip_88 (lv_at hl 4 rfl) ?_
                        refine lv_iconst (v := nI 2) hx hb d_Mod_flip_90 (by decide) ?_
                        refine lv_icmp_ne (tgt := 148) hx hb d_Mod_flip_91 (by decide) (fun hc28 => ?_) (fun hc28 => ?_)
                        · skip
                          have hc28 := zt_neT (a := (zq_bc (q9 0 (j1 * 128 + j2) ^^^ zq_b j3) 39)) (b := 2) (by omega) (by omega) hc28
                          have hmz : zb_mis lm fr j1 j2 = nI 0 := by rw [← zq_mis hrel hj1 hj2]; assumption
                          have hfin := zq_fl_end (g := g) hj1 hj2 hj3 hmz (hf _ (by omega)) (fun e => by first | (exfalso; omega) | exact zq_g1 (hin1 e) (by omega)) hin2
                          refine lv_iload hx hb d_Mod_flip_148 (lv_at hl 5 rfl) ?_
                          refine lv_if_ne (tgt := 155) hx hb d_Mod_flip_150 (by decide) (fun hc29 => ?_) (fun hc29 => ?_)
                          · skip
                            have hc29 := zt_neT (a := g) (b := 0) (by omega) (by omega) hc29
                            refine lv_aload_n hx hb d_Mod_flip_155 rfl (lv_at hl 0 rfl) ?_
                            refine zr_getr (ci := 6) (C := R_Mod) (T := T_Mod) (N := 37) (ref := "ScrubbedRecorderModel") hx hb hts (fun w h => List.mem_cons_of_mem _ (zin_Mod w h)) hown hK hH hm.1.1 (by decide) rfl 0 (by decide) rfl (hw zw_599) (fun _ h9 => h9) d_Mod_flip_156 (by rw [r0]) ?_
                            refine lv_sipush (v := nI 128) hx hb d_Mod_flip_159 (by decide) ?_
                            refine lv_iload_n hx hb d_Mod_flip_162 rfl (lv_at hl 1 rfl) ?_
                            refine lv_imul hx hb d_Mod_flip_163 ?_
                            refine zt_i (y := nI (128 * j1)) (pk_mul 128 j1) ?_
                            refine lv_iload_n hx hb d_Mod_flip_164 rfl (lv_at hl 2 rfl) ?_
                            refine lv_iadd hx hb d_Mod_flip_165 ?_
                            refine zt_i (y := nI (128 * j1 + j2)) (nI_add (128 * j1) j2) ?_
                            refine lv_lload hx hb d_Mod_flip_166 (lv_at hl 3 rfl) ?_
                            refine zr_astl (j := 128 * j1 + j2) (y := (q9 0 (j1 * 128 + j2) ^^^ zq_b j3)) hx hb hK hH hS k0 rfl (by rw [n0]; exact zh_ix_n (by omega) (by omega)) d_Mod_flip_168 (fun H locs hH hS => ?_)
                            have hm := zoR_L hm 0 (by decide) (128 * j1 + j2) (q9 0 (j1 * 128 + j2) ^^^ zq_b j3)
                            generalize zu L_81 (ad 0) (128 * j1 + j2) (q9 0 (j1 * 128 + j2) ^^^ zq_b j3) = L30 at hm hH
                            refine lv_iconst (v := nI 1) hx hb d_Mod_flip_169 (by decide) ?_
                            have hres : (zb_flip lm fr (q9 0) (nI j1) (nI j2) (nI j3)) = some (j1 * 128 + j2, q9 0 (j1 * 128 + j2) ^^^ zq_b j3) := by rw [hfin, if_neg (by omega)]
                            rw [show 128 * j1 + j2 = j1 * 128 + j2 by omega] at hm
                            refine W.widen (k := 0) (n := 0) (Nat.le_of_ble_eq_true rfl) (Nat.le_of_ble_eq_true rfl) ?_
                            subst hAe
                            exact W.zret (v := nI 1) hx hb hr (by decide +kernel) (fun t ht hW => zc_end hS hH ht (⟨by rw [hres]; rfl, rfl, rfl, rfl, by rw [hres]; exact hm⟩)) hS.2.2 d_Mod_flip_170
                          · skip
                            have hc29 := zt_neF (a := g) (b := 0) (by omega) (by omega) hc29
                            refine lv_iconst (v := nI 0) hx hb d_Mod_flip_153 (by decide) ?_
                            have hres : (zb_flip lm fr (q9 0) (nI j1) (nI j2) (nI j3)) = none := by rw [hfin, if_pos (by omega)]
                            refine W.widen (k := 0) (n := 0) (Nat.le_of_ble_eq_true rfl) (Nat.le_of_ble_eq_true rfl) ?_
                            subst hAe
                            exact W.zret (v := nI 0) hx hb hr (by decide +kernel) (fun t ht hW => zc_end hS hH ht (⟨by rw [hres]; rfl, rfl, rfl, rfl, by rw [hres]; exact hm⟩)) hS.2.2 d_Mod_flip_154
                        · skip
                          have hc28 := zt_neF (a := (zq_bc (q9 0 (j1 * 128 + j2) ^^^ zq_b j3) 39)) (b := 2) (by omega) (by omega) hc28
                          refine lv_iload hx hb d_Mod_flip_94 (lv_at hl 5 rfl) ?_
                          refine lv_if_eq (tgt := 139) hx hb d_Mod_flip_96 (by decide) (fun hc31 => ?_) (fun hc31 => ?_)
                          · skip
                            have hc31 := zt_eqT (a := g) (b := 0) (by omega) (by omega) hc31
                            refine lv_iconst (v := nI 0) hx hb d_Mod_flip_139 (by decide) ?_
                            refine lv_istore (lv' := [(7, .int (nI 0)), (0, .ref X), (1, .int (nI j1)), (2, .int (nI j2)), (4, .long (q9 0 (j1 * 128 + j2) ^^^ zq_b j3)), (6, .int (nI (zq_bc (q9 0 (j1 * 128 + j2) ^^^ zq_b j3) 39))), (8, .int (nI o))]) hx hb d_Mod_flip_140 hl (by decide) rfl (fun ls hl => ?_)
                            refine lv_iinc (k := 6) (v := nI (o + 1)) (lv' := [(8, .int (nI (o + 1))), (7, .int (nI 0)), (0, .ref X), (1, .int (nI j1)), (2, .int (nI j2)), (4, .long (q9 0 (j1 * 128 + j2) ^^^ zq_b j3)), (6, .int (nI (zq_bc (q9 0 (j1 * 128 + j2) ^^^ zq_b j3) 39)))]) hx hb d_Mod_flip_142 hl rfl (nI_add o 1) (by decide) rfl (fun ls hl => ?_)
                            refine lv_goto (tgt := 81) hx hb d_Mod_flip_145 (by decide) ?_
                            exact ih_81 (o + 1) 0 _ _ _ _ _ (by omega) (by omega) (by omega) (fun e => by first | (exfalso; omega) | (rw [if_pos rfl, ← hin1 e, if_pos (by omega)])) (fun e => absurd (by omega) e) hm (lv_sub hl [2, 3, 4, 5, 6, 1, 0] rfl) hH hS
                          · skip
                            have hc31 := zt_eqF (a := g) (b := 0) (by omega) (by omega) hc31
                            refine lv_iload hx hb d_Mod_flip_99 (lv_at hl 6 rfl) ?_
                            refine lv_iload_n hx hb d_Mod_flip_101 rfl (lv_at hl 1 rfl) ?_
                            refine lv_icmp_eq (tgt := 135) hx hb d_Mod_flip_102 (by decide) (fun hc32 => ?_) (fun hc32 => ?_)
                            · skip
                              have hc32 := zt_eqT (a := o) (b := j1) (by omega) (by omega) hc32
                              refine lv_iconst (v := nI 1) hx hb d_Mod_flip_135 (by decide) ?_
                              refine lv_goto (tgt := 140) hx hb d_Mod_flip_136 (by decide) ?_
                              refine lv_istore (lv' := [(7, .int (nI 1)), (0, .ref X), (1, .int (nI j1)), (2, .int (nI j2)), (4, .long (q9 0 (j1 * 128 + j2) ^^^ zq_b j3)), (6, .int (nI (zq_bc (q9 0 (j1 * 128 + j2) ^^^ zq_b j3) 39))), (8, .int (nI o))]) hx hb d_Mod_flip_140 hl (by decide) rfl (fun ls hl => ?_)
                              refine lv_iinc (k := 6) (v := nI (o + 1)) (lv' := [(8, .int (nI (o + 1))), (7, .int (nI 1)), (0, .ref X), (1, .int (nI j1)), (2, .int (nI j2)), (4, .long (q9 0 (j1 * 128 + j2) ^^^ zq_b j3)), (6, .int (nI (zq_bc (q9 0 (j1 * 128 + j2) ^^^ zq_b j3) 39)))]) hx hb d_Mod_flip_142 hl rfl (nI_add o 1) (by decide) rfl (fun ls hl => ?_)
                              refine lv_goto (tgt := 81) hx hb d_Mod_flip_145 (by decide) ?_
                              exact ih_81 (o + 1) 1 _ _ _ _ _ (by omega) (by omega) (by omega) (fun e => by first | (exfalso; omega) | (show zb_ocm lm fr (q9 0) j1 j2 (6 - (o + 1)) = _; rw [← hin1 e, if_neg (show ¬ g = 0 by omega), zq_fl (o := o) hrel hf (by omega) hj2]; (first | rw [if_pos hc32] | rw [if_neg hc32] | rw [if_pos (by omega)] | rw [if_neg (by omega)]))) (fun e => absurd (by omega) e) hm (lv_sub hl [2, 3, 4, 5, 6, 1, 0] rfl) hH hS
                            · skip
                              have hc32 := zt_eqF (a := o) (b := j1) (by omega) (by omega) hc32
                              refine lv_aload_n hx hb d_Mod_flip_105 rfl (lv_at hl 0 rfl) ?_
                              refine lv_iload hx hb d_Mod_flip_106 (lv_at hl 6 rfl) ?_
                              refine lv_iload_n hx hb d_Mod_flip_108 rfl (lv_at hl 2 rfl) ?_
                              refine zr_V (As := ([.int (nI o), .int (nI j2)] : List Value)) (rest := []) (b := X) (ci := 6) (q := (R_Mod, T_Mod, 37)) ⟨hx, hb, hml, hown, hts⟩ (c_Mod_isMissing hm (by omega)) ⟨(callB_of 2 hts (zg_all zw_718) rfl rfl rfl (hw zw_3) (hw zw_715) k_Mod_isMissing.2 ⟨Nat.le_of_ble_eq_true rfl, Nat.le_of_ble_eq_true rfl⟩), (hw zw_717), (hw zs_Mod_isMissing)⟩ hSc hE hH hS hA rfl (by decide) hm.1.1 rfl hl.1 rfl (Nat.le_of_ble_eq_true rfl) d_Mod_flip_109 ⟨Nat.le_of_ble_eq_true rfl, Nat.le_of_ble_eq_true rfl⟩ (fun v33 kd33 ln33 I33 L33 R33 H locs hp hH hS => ?_)
                              obtain ⟨rfl, rfl, rfl, rfl, hm⟩ := hp
                              refine W.eq (g2 := F0 m 112 ls [.int (zo_mis (m9 40 1) (m9 40 2) (m9 40 3) o j2)]) rfl ?_
                              refine W.widen (k := 0) (n := 0) (by omega) (by omega) ?_
                              refine lv_if_ne (tgt := 139) hx hb d_Mod_flip_112 (by decide) (fun hc34 => ?_) (fun hc34 => ?_)
                              · skip
                                have hc34 : ¬ (zo_mis (m9 40 1) (m9 40 2) (m9 40 3) o j2) = (nI 0) := hc34
                                refine lv_iconst (v := nI 0) hx hb d_Mod_flip_139 (by decide) ?_
                                refine lv_istore (lv' := [(7, .int (nI 0)), (0, .ref X), (1, .int (nI j1)), (2, .int (nI j2)), (4, .long (q9 0 (j1 * 128 + j2) ^^^ zq_b j3)), (6, .int (nI (zq_bc (q9 0 (j1 * 128 + j2) ^^^ zq_b j3) 39))), (8, .int (nI o))]) hx hb d_Mod_flip_140 hl (by decide) rfl (fun ls hl => ?_)
                                refine lv_iinc (k := 6) (v := nI (o + 1)) (lv' := [(8, .int (nI (o + 1))), (7, .int (nI 0)), (0, .ref X), (1, .int (nI j1)), (2, .int (nI j2)), (4, .long (q9 0 (j1 * 128 + j2) ^^^ zq_b j3)), (6, .int (nI (zq_bc (q9 0 (j1 * 128 + j2) ^^^ zq_b j3) 39)))]) hx hb d_Mod_flip_142 hl rfl (nI_add o 1) (by decide) rfl (fun ls hl => ?_)
                                refine lv_goto (tgt := 81) hx hb d_Mod_flip_145 (by decide) ?_
                                exact ih_81 (o + 1) 0 _ _ _ _ _ (by omega) (by omega) (by omega) (fun e => by first | (exfalso; omega) | (show nI 0 = _; rw [← hin1 e, if_neg (show ¬ g = 0 by omega), zq_fl (o := o) hrel hf (by omega) hj2]; (first | rw [if_pos hc32] | rw [if_neg hc32] | rw [if_pos (by omega)] | rw [if_neg (by omega)]); rw [if_neg hc34])) (fun e => absurd (by omega) e) hm (lv_sub hl [2, 3, 4, 5, 6, 1, 0] rfl) hH hS
                              · skip
                                have hc34 : (zo_mis (m9 40 1) (m9 40 2) (m9 40 3) o j2) = (nI 0) := hc34
                                refine lv_aload_n hx hb d_Mod_flip_115 rfl (lv_at hl 0 rfl) ?_
                                refine zr_getr (ci := 6) (C := R_Mod) (T := T_Mod) (N := 37) (ref := "ScrubbedRecorderModel") hx hb hts (fun w h => List.mem_cons_of_mem _ (zin_Mod w h)) hown hK hH hm.1.1 (by decide) rfl 0 (by decide) rfl (hw zw_599) (fun _ h9 => h9) d_Mod_flip_116 (by rw [r0]) ?_
                                refine lv_sipush (v := nI 128) hx hb d_Mod_flip_119 (by decide) ?_
                                refine lv_iload hx hb d_Mod_flip_122 (lv_at hl 6 rfl) ?_
                                refine lv_imul hx hb d_Mod_flip_124 ?_
                                refine zt_i (y := nI (128 * o)) (pk_mul 128 o) ?_
                                refine lv_iload_n hx hb d_Mod_flip_125 rfl (lv_at hl 2 rfl) ?_
                                refine lv_iadd hx hb d_Mod_flip_126 ?_
                                refine zt_i (y := nI (128 * o + j2)) (nI_add (128 * o) j2) ?_
                                refine zr_aldl (j := 128 * o + j2) hx hb hK hH k0 (by rw [n0]; exact zh_ix_n (by omega) (by omega)) d_Mod_flip_127 ?_
                                refine zt_l (y := q9 0 (128 * o + j2)) (congrFun (hm.2.2.2 0 (by decide) (by decide)) (128 * o + j2)) ?_
                                refine zr_St (As := ([.long (q9 0 (128 * o + j2))] : List Value)) (rest := []) ⟨hx, hb, hml, hown, hts⟩ c_Mod_bitsIn ⟨(callB_of 1 hts (zg_all zw_721) rfl rfl rfl (hw zw_3) (hw zw_719) k_Mod_bitsIn.2 ⟨Nat.le_of_ble_eq_true rfl, Nat.le_of_ble_eq_true rfl⟩), hw zw_720⟩ hSc hE hH hS hA rfl hl.1 rfl (Nat.le_of_ble_eq_true rfl) d_Mod_flip_128 ⟨Nat.le_of_ble_eq_true rfl, Nat.le_of_ble_eq_true rfl⟩ (fun v35 kd35 ln35 I35 L35 R35 H locs hp hH hS => ?_)
                                have hbl36 := zq_bc_le (q9 0 (128 * o + j2)) 39
                                obtain ⟨rfl, rfl, rfl, rfl, rfl, rfl⟩ := hp
                                refine W.eq (g2 := F0 m 131 ls [.int (nI (zq_bc (q9 0 (128 * o + j2)) 39))]) rfl ?_
                                refine W.widen (k := 0) (n := 0) (by omega) (by omega) ?_
                                refine lv_iconst (v := nI 2) hx hb d_Mod_flip_131 (by decide) ?_
                                refine lv_icmp_ge (tgt := 139) hx hb d_Mod_flip_132 (by decide) (fun hc37 => ?_) (fun hc37 => ?_)
                                · skip
                                  have hc37 := zt_geT (a := (zq_bc (q9 0 (128 * o + j2)) 39)) (b := 2) (by omega) (by omega) hc37
                                  refine lv_iconst (v := nI 0) hx hb d_Mod_flip_139 (by decide) ?_
                                  refine lv_istore (lv' := [(7, .int (nI 0)), (0, .ref X), (1, .int (nI j1)), (2, .int (nI j2)), (4, .long (q9 0 (j1 * 128 + j2) ^^^ zq_b j3)), (6, .int (nI (zq_bc (q9 0 (j1 * 128 + j2) ^^^ zq_b j3) 39))), (8, .int (nI o))]) hx hb d_Mod_flip_140 hl (by decide) rfl (fun ls hl => ?_)
                                  refine lv_iinc (k := 6) (v := nI (o + 1)) (lv' := [(8, .int (nI (o + 1))), (7, .int (nI 0)), (0, .ref X), (1, .int (nI j1)), (2, .int (nI j2)), (4, .long (q9 0 (j1 * 128 + j2) ^^^ zq_b j3)), (6, .int (nI (zq_bc (q9 0 (j1 * 128 + j2) ^^^ zq_b j3) 39)))]) hx hb d_Mod_flip_142 hl rfl (nI_add o 1) (by decide) rfl (fun ls hl => ?_)
                                  refine lv_goto (tgt := 81) hx hb d_Mod_flip_145 (by decide) ?_
                                  exact ih_81 (o + 1) 0 _ _ _ _ _ (by omega) (by omega) (by omega) (fun e => by first | (exfalso; omega) | (show nI 0 = _; rw [← hin1 e, if_neg (show ¬ g = 0 by omega), zq_fl (o := o) hrel hf (by omega) hj2]; (first | rw [if_pos hc32] | rw [if_neg hc32] | rw [if_pos (by omega)] | rw [if_neg (by omega)]); rw [if_pos hc34]; (first | rw [if_pos hc37] | rw [if_neg hc37] | rw [if_pos (by omega)] | rw [if_neg (by omega)]))) (fun e => absurd (by omega) e) hm (lv_sub hl [2, 3, 4, 5, 6, 1, 0] rfl) hH hS
                                · skip
                                  have hc37 := zt_geF (a := (zq_bc (q9 0 (128 * o + j2)) 39)) (b := 2) (by omega) (by omega) hc37
                                  refine lv_iconst (v := nI 1) hx hb d_Mod_flip_135 (by decide) ?_
                                  refine lv_goto (tgt := 140) hx hb d_Mod_flip_136 (by decide) ?_
                                  refine lv_istore (lv' := [(7, .int (nI 1)), (0, .ref X), (1, .int (nI j1)), (2, .int (nI j2)), (4, .long (q9 0 (j1 * 128 + j2) ^^^ zq_b j3)), (6, .int (nI (zq_bc (q9 0 (j1 * 128 + j2) ^^^ zq_b j3) 39))), (8, .int (nI o))]) hx hb d_Mod_flip_140 hl (by decide) rfl (fun ls hl => ?_)
                                  refine lv_iinc (k := 6) (v := nI (o + 1)) (lv' := [(8, .int (nI (o + 1))), (7, .int (nI 1)), (0, .ref X), (1, .int (nI j1)), (2, .int (nI j2)), (4, .long (q9 0 (j1 * 128 + j2) ^^^ zq_b j3)), (6, .int (nI (zq_bc (q9 0 (j1 * 128 + j2) ^^^ zq_b j3) 39)))]) hx hb d_Mod_flip_142 hl rfl (nI_add o 1) (by decide) rfl (fun ls hl => ?_)
                                  refine lv_goto (tgt := 81) hx hb d_Mod_flip_145 (by decide) ?_
                                  exact ih_81 (o + 1) 1 _ _ _ _ _ (by omega) (by omega) (by omega) (fun e => by first | (exfalso; omega) | (show zb_ocm lm fr (q9 0) j1 j2 (6 - (o + 1)) = _; rw [← hin1 e, if_neg (show ¬ g = 0 by omega), zq_fl (o := o) hrel hf (by omega) hj2]; (first | rw [if_pos hc32] | rw [if_neg hc32] | rw [if_pos (by omega)] | rw [if_neg (by omega)]); rw [if_pos hc34]; (first | rw [if_pos hc37] | rw [if_neg hc37] | rw [if_pos (by omega)] | rw [if_neg (by omega)]))) (fun e => absurd (by omega) e) hm (lv_sub hl [2, 3, 4, 5, 6, 1, 0] rfl) hH hS
                  exact loop_81 _ 0 1 _ _ _ _ _ (Nat.lt_succ_self _) (by omega) (by omega) (fun e => by first | (exfalso; omega) | rw [if_neg (by omega)]) (fun e => by first | (exfalso; omega) | rw [if_pos (by omega)] | rw [if_neg (by omega)]) hm (lv_sub hl [4, 5, 6, 3, 2, 1, 0] rfl) hH hS
              · skip
                have hc8 : ¬ (zo_mis (m9 40 1) (m9 40 2) (m9 40 3) j1 j2) = (nI 0) := hc8
                refine lv_iconst (v := nI 0) hx hb d_Mod_flip_38 (by decide) ?_
                have hres : (zb_flip lm fr (q9 0) (nI j1) (nI j2) (nI j3)) = none := by rw [zb_flip_n hj1 hj2 hj3, if_neg (by rw [← zq_mis hrel hj1 hj2]; exact hc8)]
                refine W.widen (k := 0) (n := 0) (Nat.le_of_ble_eq_true rfl) (Nat.le_of_ble_eq_true rfl) ?_
                subst hAe
                exact W.zret (v := nI 0) hx hb hr (by decide +kernel) (fun t ht hW => zc_end hS hH ht (⟨by rw [hres]; rfl, rfl, rfl, rfl, by rw [hres]; exact hm⟩)) hS.2.2 d_Mod_flip_39
