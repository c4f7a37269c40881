section ZKV
variable {X te : Nat} {A ea : Nat → Nat} {c : Nat → Nat → Int32} {d : Nat → Nat → Int64} {g : Nat → Nat → Nat} {kd ln : Nat → Nat} {I : Nat → Nat → Int32} {L : Nat → Nat → Int64} {R : Nat → Nat → Option Nat}
theorem zkR_UL (h : zkR X te A ea c d g kd ln I L R) (r : Nat) (f : Nat → Int64) (hr : zk_lv g r) : zkR X te A ea c (va_up d r f) g kd ln I (va_up L (A r) f) R := by
  have h0 := h
  obtain ⟨t1, t2, hx, hm, hs, hj, hp, hq, hf⟩ := h
  obtain ⟨n9, n90, n91⟩ := zk_lv_ne hr
  refine ⟨fun s hsl => ?_, t2, ?_, hm, hs, hj, hp, hq, hf⟩
  · by_cases e : s = r
    · subst e
      rw [va_up_self, va_up_self]
      have ht1 := t1 s hsl
      exact ⟨ht1.1, ht1.2.1, rfl, ht1.2.2.2⟩
    · rw [va_up_ne _ _ (fun q => e (t2 s r hsl hr q)), va_up_ne _ _ e]
      exact t1 s hsl
  · rw [va_up_ne _ _ (zkR_xne h0 hr), va_up_ne _ _ (Ne.symm n9)]
    exact hx
theorem zkR_0 (h : zkR X te A ea c d g kd ln I L R) (k : Nat) (x : Int32) : zkR X te A ea (zu c 0 k x) d g kd ln (zu I (A 0) k x) L R := zkR_I h 0 k x (zk_lv0 (by decide)) (fun h9 => absurd h9 (by decide)) (fun h9 => absurd h9 (by decide))
theorem zkR_upd (h : zkR X te A ea c d g kd ln I L R) (o : Option (Nat × Int64)) : zkR X te A ea c (zb_upd d 3 o) g kd ln I (zb_upd L (A 3) o) R := by
  rcases o with _ | ⟨a, b⟩
  · exact h
  · exact zkR_L h 3 a b (zk_lv0 (by decide))
theorem zkR_lat (h : zkR X te A ea c d g kd ln I L R) (v x : Int32) : zkR X te A ea (zb_offI c 0 v x) (zb_offL d 3 v x) g kd ln (zb_offI I (A 0) v x) (zb_offL L (A 3) v x) R := by
  unfold zb_offI zb_offL
  by_cases e : v = nI 0
  · rw [if_pos e, if_pos e, if_pos e, if_pos e]
    exact h
  · rw [if_neg e, if_neg e, if_neg e, if_neg e, zkR_l h (zk_lv0 (by decide))]
    exact zkR_UL (zkR_0 (zkR_0 (zkR_0 h 2 x) 3 (nI 1)) 4 (nI 0)) 3 _ (zk_lv0 (by decide))
theorem zkR_pow (h : zkR X te A ea c d g kd ln I L R) (v : Int32) : zkR X te A ea (zb_onI c 0 v) d g kd ln (zb_onI I (A 0) v) L R := by
  unfold zb_onI
  by_cases e : v = nI 0
  · rw [if_pos e, if_pos e]
    exact h
  · rw [if_neg e, if_neg e]
    exact zkR_0 h 3 (nI 0)
theorem zkR_rb (h : zkR X te A ea c d g kd ln I L R) : zkR X te A ea (zb_rbI c 0) d g kd ln (zb_rbI I (A 0)) L R := by
  unfold zb_rbI
  rw [zkR_i h (zk_lv0 (by decide))]
  split
  · exact h
  · split
    · split
      · exact zkR_0 (zkR_0 h 4 _) 2 _
      · exact zkR_0 h 4 _
    · exact h
theorem zkR_sw (h : zkR X te A ea c d g kd ln I L R) (v : Int32) : zkR X te A ea (zb_swI c 0 v) d g kd ln (zb_swI I (A 0) v) L R := by
  unfold zb_swI
  rw [zkR_i h (zk_lv0 (by decide))]
  split
  · exact zkR_0 h 6 _
  · split
    · exact zkR_0 h 7 _
    · exact h
theorem zkR_s1 (h : zkR X te A ea c d g kd ln I L R) : zkR X te A ea (zb_s1 0 3 (c, d)).1 (zb_s1 0 3 (c, d)).2 g kd ln (zb_s1 (A 0) (A 3) (I, L)).1 (zb_s1 (A 0) (A 3) (I, L)).2 R := by
  unfold zb_s1
  show zkR X te A ea (zu (zb_swI c 0 (zb_cnt (d 3 (c 0 5).toNatClampNeg))) 0 5 (nI (((c 0 5).toNatClampNeg + 1) % 768))) (zu d 3 (c 0 5).toNatClampNeg 0) g kd ln (zu (zb_swI I (A 0) (zb_cnt (L (A 3) (I (A 0) 5).toNatClampNeg))) (A 0) 5 (nI (((I (A 0) 5).toNatClampNeg + 1) % 768))) (zu L (A 3) (I (A 0) 5).toNatClampNeg 0) R
  rw [zkR_i h (zk_lv0 (show 0 ≤ 5 by decide)), zkR_l h (zk_lv0 (show 3 ≤ 5 by decide))]
  exact zkR_0 (zkR_sw (zkR_L h 3 _ 0 (zk_lv0 (by decide))) _) 5 _
theorem zkR_snn : ∀ (n : Nat) {c : Nat → Nat → Int32} {d : Nat → Nat → Int64} {I : Nat → Nat → Int32} {L : Nat → Nat → Int64}, zkR X te A ea c d g kd ln I L R → zkR X te A ea (zb_sn 0 3 n (c, d)).1 (zb_sn 0 3 n (c, d)).2 g kd ln (zb_sn (A 0) (A 3) n (I, L)).1 (zb_sn (A 0) (A 3) n (I, L)).2 R
  | 0, _, _, _, _, h => h
  | n + 1, _, _, _, _, h => zkR_snn n (zkR_s1 h)
end ZKV
def zk_md (g : Nat → Nat → Nat) (x : Int32) : Option Nat := if x < nI 0 then none else if x < nI 4 then (if g 0 x.toNatClampNeg = 0 then none else some x.toNatClampNeg) else none
theorem zk_md_n {g : Nat → Nat → Nat} {k : Nat} (h : k < 4) : zk_md g (nI k) = if g 0 k = 0 then none else some k := by
  unfold zk_md
  rw [if_neg (nI_nlt (Nat.zero_le _) (by omega)), if_pos (nI_lt h (by decide)), nI_clamp (by omega)]
theorem zk_md_of {g : Nat → Nat → Nat} {x : Int32} {k : Nat} (h : zk_md g x = some k) : k < 4 ∧ x = nI k ∧ g 0 k ≠ 0 := by
  unfold zk_md at h
  by_cases h1 : x < nI 0
  · rw [if_pos h1] at h
    cases h
  · rw [if_neg h1] at h
    by_cases h2 : x < nI 4
    · rw [if_pos h2] at h
      obtain ⟨j, hj, rfl⟩ := zt_ix h1 h2 (by decide)
      rw [nI_clamp (by omega)] at h
      by_cases h3 : g 0 j = 0
      · rw [if_pos h3] at h
        cases h
      · rw [if_neg h3] at h
        cases h
        exact ⟨hj, rfl, h3⟩
    · rw [if_neg h2] at h
      cases h
theorem zb_is_01 {α : Type} (o : Option α) : zb_is o = nI 0 ∨ zb_is o = nI 1 := by
  cases o
  · exact Or.inl rfl
  · exact Or.inr rfl
theorem zb_off_01 (a : Int32) (f : Nat → Int64) (x : Int32) : zb_off a f x = nI 0 ∨ zb_off a f x = nI 1 := by
  unfold zb_off
  split
  · exact Or.inl rfl
  · split
    · split
      · exact Or.inr rfl
      · exact Or.inl rfl
    · exact Or.inl rfl
theorem zb_on_01 (a b x : Int32) : zb_on a b x = nI 0 ∨ zb_on a b x = nI 1 := by
  unfold zb_on
  split
  · exact Or.inl rfl
  · split
    · split
      · exact Or.inl rfl
      · exact Or.inr rfl
    · exact Or.inl rfl
def zk_un (c : Nat → Nat → Int32) (g : Nat → Nat → Nat) : Nat → Int32
  | 0 => nI 40
  | k + 1 => if g 0 k = 0 then zk_un c g k else zk_un c g k - c (10 + k) 6
def zk_rn (c : Nat → Nat → Int32) (g : Nat → Nat → Nat) : Nat → Nat
  | 0 => 0
  | k + 1 => if g 0 k = 0 then zk_rn c g k else zk_rn c g k + zk_cr c k (g 1 k) (g 2 k - g 1 k)
def zk_bu (f : Nat → Int32) (j : Nat) (v : Int64) (n : Nat) : Nat → Int32 := fun s => if j ≤ s ∧ s < n then ((v >>> ((nI (8 * (s - j))).toInt64 &&& 63)).toInt32).toInt8.toInt32 else f s
theorem zk_bu_0 (c : Nat → Nat → Int32) (j : Nat) (v : Int64) : va_up c 2 (zk_bu (c 2) j v j) = c := by
  have e : zk_bu (c 2) j v j = c 2 := by
    funext s
    unfold zk_bu
    rw [if_neg (by omega)]
  rw [e, up_id]
theorem zk_bu_s (c : Nat → Nat → Int32) (f : Nat → Int32) {j n : Nat} (v : Int64) (h : j ≤ n) : zu (va_up c 2 (zk_bu f j v n)) 2 n ((v >>> ((nI (8 * (n - j))).toInt64 &&& 63)).toInt32).toInt8.toInt32 = va_up c 2 (zk_bu f j v (n + 1)) := by
  rw [zu_up]
  congr 1
  funext s
  by_cases e : s = n
  · subst e
    rw [va_up_self]
    unfold zk_bu
    rw [if_pos (by omega)]
  · rw [va_up_ne _ _ e]
    unfold zk_bu
    by_cases h2 : j ≤ s ∧ s < n
    · rw [if_pos h2, if_pos (by omega)]
    · rw [if_neg h2, if_neg (by omega)]
/-- what told answers, of the class -/
def zk_tld (c : Nat → Nat → Int32) (d : Nat → Nat → Int64) (x : Int32) : Int32 := if x = nI 0 then c 0 6 else if x = nI 1 then c 0 7 else if x = nI 2 then nI (zb_cf (c 1) 40) else if x = nI 3 then (if c 0 2 = (-1) then nI 0 else nI 8 - c 0 4) else if x = nI 4 then nI (zb_cw (d 3) 768) else (-2)
theorem zk_tld_o {c : Nat → Nat → Int32} {d : Nat → Nat → Int64} {x : Int32} (h : x.toInt < 0 ∨ (4 : Int) < x.toInt) : zk_tld c d x = (-2) := by
  have hk : ∀ k, k < 5 → ¬ x = nI k := by
    intro k hk e
    rw [e, nI_toInt (by omega)] at h
    omega
  unfold zk_tld
  rw [if_neg (hk 0 (by omega)), if_neg (hk 1 (by omega)), if_neg (hk 2 (by omega)), if_neg (hk 3 (by omega)), if_neg (hk 4 (by omega))]
def zk_cnt (c : Nat → Nat → Int32) (d : Nat → Nat → Int64) (g : Nat → Nat → Nat) (k : Nat) (y : Int32) : Int32 := if y = nI 0 then nI (g 2 k - g 1 k) else if y = nI 1 then nI (zk_cc c k (g 1 k) (g 2 k - g 1 k)) else if y = nI 2 then c (10 + k) 8 else if y = nI 3 then c (10 + k) 7 else if y = nI 4 then c (10 + k) 9 else if y = nI 5 then nI (zk_ca d k (g 1 k) (g 2 k - g 1 k)) else (-2)
theorem zk_cnt_o {c : Nat → Nat → Int32} {d : Nat → Nat → Int64} {g : Nat → Nat → Nat} {k : Nat} {x : Int32} (h : x.toInt < 0 ∨ (5 : Int) < x.toInt) : zk_cnt c d g k x = (-2) := by
  have hk : ∀ k, k < 6 → ¬ x = nI k := by
    intro k hk e
    rw [e, nI_toInt (by omega)] at h
    omega
  unfold zk_cnt
  rw [if_neg (hk 0 (by omega)), if_neg (hk 1 (by omega)), if_neg (hk 2 (by omega)), if_neg (hk 3 (by omega)), if_neg (hk 4 (by omega)), if_neg (hk 5 (by omega))]

set_option maxHeartbeats 4000000 in
set_option maxRecDepth 100000 in
/-- madeStore, of a store that is made -/
theorem c_Rec_madeStore_S {l : Launch} {D : va_G} {cA : Nat → ClassId} {te mi : Nat} {kd ln : Nat → Nat} {I : Nat → Nat → Int32} {L : Nat → Nat → Int64} {R : Nat → Nat → Option Nat} {X : Nat} {a9 e9 : Nat → Nat} {c9 : Nat → Nat → Int32} {d9 : Nat → Nat → Int64} {g9 : Nat → Nat → Nat} (hm : zkR X te a9 e9 c9 d9 g9 kd ln I L R) {k : Nat} (hk4 : k < 4) (hgk : g9 0 k ≠ 0)  : zc_M l y_Rec_madeStore w_Rec_madeStore { frames := 0, cells := 0, slots := 0, locals := 0 } 0 0 D cA te mi ([.ref X, .int (nI k)] : List Value) kd ln I L R (zc_eq (some (.ref (a9 (10 + k)))) kd ln I L R) := by
  intro sz
  refine Met.ofW (cc := b_Rec_madeStore) (maxL := 2) (ret := (some ((.object "ScrubbedRecorder$Store")))) (by decide +kernel) rfl ?_
  intro p e s m args below meth c s₁ B hml hv
  obtain ⟨rfl, hsz, hSc, hE, hH⟩ := hv
  have hx := B.exec
  have hb := B.bytes
  have hr := B.returns
  have hts := atoms_spec (ws := w_Rec_madeStore) B.pre
  have hw : ∀ {w : Cond}, w ∈ zw → w.before ([.ref X, .int (nI k)] : List Value).toArray s = true := fun h => hts _ (List.mem_cons_of_mem _ h)
  have hown : s.vm.findClass R_Rec = some m.cls := findClass_of_methodNamed B.named
  have hlocks := B.notSynchronized
  subst hsz
  have hK := hSc.1
  have hH : zh_H D cA (zc_A kd s.heap.size) kd ln I L R s.heap := hH.weaken (fun q h _ => Or.inl h)
  generalize hAe : zc_A kd s.heap.size = A at hH hE ⊢
  have hA : ∀ q : Nat, s.heap.size ≤ q → A q := fun q h => by rw [← hAe]; exact Or.inr h
  have hS : va_S A s.heap s.heap [] := va_S.rf
  have hl := lv_entry ([.ref X, .int (nI k)] : List Value) (n := 2) (Nat.le_of_ble_eq_true rfl)
  rw [lg_entry_eq]
  generalize (lg_sl ([.ref X, .int (nI k)] : List Value) ++ List.replicate (2 - (lg_sl ([.ref X, .int (nI k)] : List Value)).length) Slot.unset).toArray = ls at hl ⊢
  have hl : lv_has ls 2 [(0, .ref X), (1, .int (nI k))] := hl
  refine lv_iload_n hx hb d_Rec_madeStore_0 rfl (lv_at hl 1 rfl) ?_
  refine lv_if_lt (tgt := 9) hx hb d_Rec_madeStore_1 (by decide) (fun hc1 => ?_) (fun hc1 => ?_)
  · skip
    have hc1 := zt_ltT (a := k) (b := 0) (by omega) (by omega) hc1
    exact absurd hc1 (by omega)
  · skip
    have hc1 := zt_ltF (a := k) (b := 0) (by omega) (by omega) hc1
    refine lv_iload_n hx hb d_Rec_madeStore_4 rfl (lv_at hl 1 rfl) ?_
    refine lv_iconst (v := nI 4) hx hb d_Rec_madeStore_5 (by decide) ?_
    refine lv_icmp_lt (tgt := 13) hx hb d_Rec_madeStore_6 (by decide) (fun hc2 => ?_) (fun hc2 => ?_)
    · skip
      have hc2 := zt_ltT (a := k) (b := 4) (by omega) (by omega) hc2
      refine lv_aload_n hx hb d_Rec_madeStore_13 rfl (lv_at hl 0 rfl) ?_
      refine zr_getr (ci := 0) (C := R_Rec) (T := T_Rec) (N := 6) (ref := "ScrubbedRecorder") hx hb hts (fun w h => List.mem_cons_of_mem _ (zin_Rec w h)) hown hK hH hm.2.2.1.1 (by decide) rfl 1 (by decide) rfl (hw zw_65) (fun _ h9 => h9) d_Rec_madeStore_14 hm.2.2.1.2.2.1 ?_
      refine lv_iload_n hx hb d_Rec_madeStore_17 rfl (lv_at hl 1 rfl) ?_
      refine zr_aldr (t := 5) (j := k) hx hb (by decide) (by decide) rfl hK hH (show kd (a9 4) = 105 from zkR_k hm (zk_lv0 (by decide))) (by rw [show ln (a9 4) = 4 from zkR_n hm (zk_lv0 (by decide)) (by decide)]; exact zh_ix_n (by omega) (by omega)) d_Rec_madeStore_18 (zkR_st hm (by omega) hgk).1 ?_
      refine W.widen (k := 0) (n := 0) (Nat.le_of_ble_eq_true rfl) (Nat.le_of_ble_eq_true rfl) ?_
      subst hAe
      exact W.aret hx hb hr (Or.inl ⟨_, rfl⟩) (Or.inr ⟨_, rfl⟩) (fun t ht hW => zc_end hS hH ht (⟨rfl, rfl, rfl, rfl, rfl, rfl⟩)) hS.2.2 d_Rec_madeStore_19
    · skip
      have hc2 := zt_ltF (a := k) (b := 4) (by omega) (by omega) hc2
      exact absurd hc2 (by omega)

set_option maxHeartbeats 4000000 in
set_option maxRecDepth 100000 in
/-- madeStore, of another -/
theorem c_Rec_madeStore_N {l : Launch} {D : va_G} {cA : Nat → ClassId} {te mi : Nat} {kd ln : Nat → Nat} {I : Nat → Nat → Int32} {L : Nat → Nat → Int64} {R : Nat → Nat → Option Nat} {X : Nat} {a9 e9 : Nat → Nat} {c9 : Nat → Nat → Int32} {d9 : Nat → Nat → Int64} {g9 : Nat → Nat → Nat} (hm : zkR X te a9 e9 c9 d9 g9 kd ln I L R) {x : Int32} (hmd : zk_md g9 x = none) : zc_M l y_Rec_madeStore w_Rec_madeStore { frames := 0, cells := 0, slots := 0, locals := 0 } 0 0 D cA te mi ([.ref X, .int x] : List Value) kd ln I L R (zc_eq (some .null) kd ln I L R) := by
  intro sz
  refine Met.ofW (cc := b_Rec_madeStore) (maxL := 2) (ret := (some ((.object "ScrubbedRecorder$Store")))) (by decide +kernel) rfl ?_
  intro p e s m args below meth c s₁ B hml hv
  obtain ⟨rfl, hsz, hSc, hE, hH⟩ := hv
  have hx := B.exec
  have hb := B.bytes
  have hr := B.returns
  have hts := atoms_spec (ws := w_Rec_madeStore) B.pre
  have hw : ∀ {w : Cond}, w ∈ zw → w.before ([.ref X, .int x] : List Value).toArray s = true := fun h => hts _ (List.mem_cons_of_mem _ h)
  have hown : s.vm.findClass R_Rec = some m.cls := findClass_of_methodNamed B.named
  have hlocks := B.notSynchronized
  subst hsz
  have hK := hSc.1
  have hH : zh_H D cA (zc_A kd s.heap.size) kd ln I L R s.heap := hH.weaken (fun q h _ => Or.inl h)
  generalize hAe : zc_A kd s.heap.size = A at hH hE ⊢
  have hA : ∀ q : Nat, s.heap.size ≤ q → A q := fun q h => by rw [← hAe]; exact Or.inr h
  have hS : va_S A s.heap s.heap [] := va_S.rf
  have hl := lv_entry ([.ref X, .int x] : List Value) (n := 2) (Nat.le_of_ble_eq_true rfl)
  rw [lg_entry_eq]
  generalize (lg_sl ([.ref X, .int x] : List Value) ++ List.replicate (2 - (lg_sl ([.ref X, .int x] : List Value)).length) Slot.unset).toArray = ls at hl ⊢
  have hl : lv_has ls 2 [(0, .ref X), (1, .int x)] := hl
  refine lv_iload_n hx hb d_Rec_madeStore_0 rfl (lv_at hl 1 rfl) ?_
  refine lv_if_lt (tgt := 9) hx hb d_Rec_madeStore_1 (by decide) (fun hc1 => ?_) (fun hc1 => ?_)
  · skip
    have hc1 : x < (nI 0) := hc1
    refine lv_null hx hb d_Rec_madeStore_9 ?_
    refine lv_goto (tgt := 19) hx hb d_Rec_madeStore_10 (by decide) ?_
    refine W.widen (k := 0) (n := 0) (Nat.le_of_ble_eq_true rfl) (Nat.le_of_ble_eq_true rfl) ?_
    subst hAe
    exact W.aret hx hb hr (Or.inl ⟨_, rfl⟩) (Or.inl rfl) (fun t ht hW => zc_end hS hH ht (⟨rfl, rfl, rfl, rfl, rfl, rfl⟩)) hS.2.2 d_Rec_madeStore_19
  · skip
    have hc1 : ¬ x < (nI 0) := hc1
    refine lv_iload_n hx hb d_Rec_madeStore_4 rfl (lv_at hl 1 rfl) ?_
    refine lv_iconst (v := nI 4) hx hb d_Rec_madeStore_5 (by decide) ?_
    refine lv_icmp_lt (tgt := 13) hx hb d_Rec_madeStore_6 (by decide) (fun hc2 => ?_) (fun hc2 => ?_)
    · skip
      have hc2 : x < (nI 4) := hc2
      obtain ⟨j1, hj1, rfl⟩ := zt_ix hc1 hc2 (by decide)
      refine lv_aload_n hx hb d_Rec_madeStore_13 rfl (lv_at hl 0 rfl) ?_
      refine zr_getr (ci := 0) (C := R_Rec) (T := T_Rec) (N := 6) (ref := "ScrubbedRecorder") hx hb hts (fun w h => List.mem_cons_of_mem _ (zin_Rec w h)) hown hK hH hm.2.2.1.1 (by decide) rfl 1 (by decide) rfl (hw zw_65) (fun _ h9 => h9) d_Rec_madeStore_14 hm.2.2.1.2.2.1 ?_
      refine lv_iload_n hx hb d_Rec_madeStore_17 rfl (lv_at hl 1 rfl) ?_
      rcases Decidable.em (g9 0 j1 = 0) with hg3 | hg3
      · skip
        refine zr_ald0 (b := 0) (t := 5) (j := j1) hx hb (by decide) (by decide) rfl hK hH (show kd (a9 4) = 105 from zkR_k hm (zk_lv0 (by decide))) (by rw [show ln (a9 4) = 4 from zkR_n hm (zk_lv0 (by decide)) (by decide)]; exact zh_ix_n (by omega) (by omega)) d_Rec_madeStore_18 (zkR_sn hm (by omega) hg3) ?_
        refine W.widen (k := 0) (n := 0) (Nat.le_of_ble_eq_true rfl) (Nat.le_of_ble_eq_true rfl) ?_
        subst hAe
        exact W.aret hx hb hr (Or.inl ⟨_, rfl⟩) (Or.inl rfl) (fun t ht hW => zc_end hS hH ht (⟨rfl, rfl, rfl, rfl, rfl, rfl⟩)) hS.2.2 d_Rec_madeStore_19
      · skip
        refine zr_aldr (t := 5) (j := j1) hx hb (by decide) (by decide) rfl hK hH (show kd (a9 4) = 105 from zkR_k hm (zk_lv0 (by decide))) (by rw [show ln (a9 4) = 4 from zkR_n hm (zk_lv0 (by decide)) (by decide)]; exact zh_ix_n (by omega) (by omega)) d_Rec_madeStore_18 (zkR_st hm (by omega) hg3).1 ?_
        refine W.widen (k := 0) (n := 0) (Nat.le_of_ble_eq_true rfl) (Nat.le_of_ble_eq_true rfl) ?_
        subst hAe
        exact W.aret hx hb hr (Or.inl ⟨_, rfl⟩) (Or.inr ⟨_, rfl⟩) (fun t ht hW => zc_end hS hH ht (absurd hmd (by rw [zk_md_n hj1, if_neg hg3]; exact fun e => nomatch e))) hS.2.2 d_Rec_madeStore_19
    · skip
      have hc2 : ¬ x < (nI 4) := hc2
      refine lv_null hx hb d_Rec_madeStore_9 ?_
      refine lv_goto (tgt := 19) hx hb d_Rec_madeStore_10 (by decide) ?_
      refine W.widen (k := 0) (n := 0) (Nat.le_of_ble_eq_true rfl) (Nat.le_of_ble_eq_true rfl) ?_
      subst hAe
      exact W.aret hx hb hr (Or.inl ⟨_, rfl⟩) (Or.inl rfl) (fun t ht hW => zc_end hS hH ht (⟨rfl, rfl, rfl, rfl, rfl, rfl⟩)) hS.2.2 d_Rec_madeStore_19

set_option maxHeartbeats 4000000 in
set_option maxRecDepth 100000 in
/-- keptPacket, of a kept one -/
theorem c_Rec_keptPacket_S {l : Launch} {D : va_G} {cA : Nat → ClassId} {te mi : Nat} {kd ln : Nat → Nat} {I : Nat → Nat → Int32} {L : Nat → Nat → Int64} {R : Nat → Nat → Option Nat} {X : Nat} {a9 e9 : Nat → Nat} {c9 : Nat → Nat → Int32} {d9 : Nat → Nat → Int64} {g9 : Nat → Nat → Nat} (hm : zkR X te a9 e9 c9 d9 g9 kd ln I L R) {k : Nat} (hk4 : k < 4) (hgk : g9 0 k ≠ 0) (hnx : c9 (10 + k) 8 = nI (g9 2 k)) (hnx1 : g9 2 k < 2 ^ 30) (hlo : g9 1 k ≤ g9 2 k) {x : Nat} (hx1 : g9 1 k ≤ x) (hx2 : x < g9 2 k) : zc_M l y_Rec_keptPacket w_Rec_keptPacket { frames := 4, cells := 0, slots := 0, locals := 86 } 0 0 D cA te mi ([.ref X, .int (nI k), .int (nI x)] : List Value) kd ln I L R (zc_eq (some (.ref (a9 (zk_p k x)))) kd ln I L R) := by
  intro sz
  refine Met.ofW (cc := b_Rec_keptPacket) (maxL := 4) (ret := (some ((.object "ScrubbedRecorder$Packet")))) (by decide +kernel) rfl ?_
  intro p e s m args below meth c s₁ B hml hv
  obtain ⟨rfl, hsz, hSc, hE, hH⟩ := hv
  have hx := B.exec
  have hb := B.bytes
  have hr := B.returns
  have hts := atoms_spec (ws := w_Rec_keptPacket) B.pre
  have hw : ∀ {w : Cond}, w ∈ zw → w.before ([.ref X, .int (nI k), .int (nI x)] : List Value).toArray s = true := fun h => hts _ (List.mem_cons_of_mem _ h)
  have hown : s.vm.findClass R_Rec = some m.cls := findClass_of_methodNamed B.named
  have hlocks := B.notSynchronized
  subst hsz
  have hK := hSc.1
  have hH : zh_H D cA (zc_A kd s.heap.size) kd ln I L R s.heap := hH.weaken (fun q h _ => Or.inl h)
  generalize hAe : zc_A kd s.heap.size = A at hH hE ⊢
  have hA : ∀ q : Nat, s.heap.size ≤ q → A q := fun q h => by rw [← hAe]; exact Or.inr h
  have hS : va_S A s.heap s.heap [] := va_S.rf
  have hl := lv_entry ([.ref X, .int (nI k), .int (nI x)] : List Value) (n := 4) (Nat.le_of_ble_eq_true rfl)
  rw [lg_entry_eq]
  generalize (lg_sl ([.ref X, .int (nI k), .int (nI x)] : List Value) ++ List.replicate (4 - (lg_sl ([.ref X, .int (nI k), .int (nI x)] : List Value)).length) Slot.unset).toArray = ls at hl ⊢
  have hl : lv_has ls 4 [(0, .ref X), (1, .int (nI k)), (2, .int (nI x))] := hl
  refine lv_aload_n hx hb d_Rec_keptPacket_0 rfl (lv_at hl 0 rfl) ?_
  refine lv_iload_n hx hb d_Rec_keptPacket_1 rfl (lv_at hl 1 rfl) ?_
  refine zr_V (As := ([.int (nI k)] : List Value)) (rest := []) (b := X) (ci := 0) (q := (R_Rec, T_Rec, 6)) ⟨hx, hb, hml, hown, hts⟩ (c_Rec_madeStore_S hm (by omega) hgk) ⟨(callB_of 1 hts (zg_all zw_195) rfl rfl rfl (hw zw_1) (hw zw_192) k_Rec_madeStore.2 ⟨Nat.le_of_ble_eq_true rfl, Nat.le_of_ble_eq_true rfl⟩), (hw zw_194), (hw zs_Rec_madeStore)⟩ hSc hE hH hS hA rfl (by decide) hm.2.2.1.1 rfl hl.1 rfl (Nat.le_of_ble_eq_true rfl) d_Rec_keptPacket_2 ⟨Nat.le_of_ble_eq_true rfl, Nat.le_of_ble_eq_true rfl⟩ (fun v1 kd1 ln1 I1 L1 R1 H locs hp hH hS => ?_)
  obtain ⟨rfl, rfl, rfl, rfl, rfl, rfl⟩ := hp
  refine W.eq (g2 := F0 m 5 ls [.ref (a9 (10 + k))]) rfl ?_
  refine W.widen (k := 0) (n := 0) (by omega) (by omega) ?_
  refine lv_astore_n (lv' := [(3, .ref (a9 (10 + k))), (0, .ref X), (1, .int (nI k)), (2, .int (nI x))]) hx hb d_Rec_keptPacket_5 rfl hl (by decide) rfl (fun ls hl => ?_)
  refine lv_aload_n hx hb d_Rec_keptPacket_6 rfl (lv_at hl 0 rfl) ?_
  refine lv_ifnonnull (tgt := 14) hx hb d_Rec_keptPacket_7 (by decide) ?_
  refine lv_aload_n hx hb d_Rec_keptPacket_14 rfl (lv_at hl 0 rfl) ?_
  refine lv_iload_n hx hb d_Rec_keptPacket_15 rfl (lv_at hl 3 rfl) ?_
  refine zr_V (As := ([.int (nI x)] : List Value)) (rest := []) (b := a9 (10 + k)) (ci := 2) (q := (R_St, T_St, 10)) ⟨hx, hb, hml, hown, hts⟩ (c_St_keptAt_S hm hk4 hgk hnx hnx1 hlo hx1 hx2) ⟨(callB_of 1 hts (zg_all zw_459) rfl rfl rfl (hw zw_4) (hw zw_456) k_St_keptAt.2 ⟨Nat.le_of_ble_eq_true rfl, Nat.le_of_ble_eq_true rfl⟩), (hw zw_457), (hw zw_458)⟩ hSc hE hH hS hA rfl (by decide) ((zkR_k hm (zk_lv1 (by omega) hgk)).trans (zk_k1 (by omega))) rfl hl.1 rfl (Nat.le_of_ble_eq_true rfl) d_Rec_keptPacket_16 ⟨Nat.le_of_ble_eq_true rfl, Nat.le_of_ble_eq_true rfl⟩ (fun v2 kd2 ln2 I2 L2 R2 H locs hp hH hS => ?_)
  obtain ⟨rfl, rfl, rfl, rfl, rfl, rfl⟩ := hp
  refine W.eq (g2 := F0 m 19 ls [.ref (a9 (zk_p k x))]) rfl ?_
  refine W.widen (k := 0) (n := 0) (by omega) (by omega) ?_
  refine W.widen (k := 0) (n := 0) (Nat.le_of_ble_eq_true rfl) (Nat.le_of_ble_eq_true rfl) ?_
  subst hAe
  exact W.aret hx hb hr (Or.inl ⟨_, rfl⟩) (Or.inr ⟨_, rfl⟩) (fun t ht hW => zc_end hS hH ht (⟨rfl, rfl, rfl, rfl, rfl, rfl⟩)) hS.2.2 d_Rec_keptPacket_19

set_option maxHeartbeats 4000000 in
set_option maxRecDepth 100000 in
/-- keptPacket, of one that is not kept -/
theorem c_Rec_keptPacket_O {l : Launch} {D : va_G} {cA : Nat → ClassId} {te mi : Nat} {kd ln : Nat → Nat} {I : Nat → Nat → Int32} {L : Nat → Nat → Int64} {R : Nat → Nat → Option Nat} {X : Nat} {a9 e9 : Nat → Nat} {c9 : Nat → Nat → Int32} {d9 : Nat → Nat → Int64} {g9 : Nat → Nat → Nat} (hm : zkR X te a9 e9 c9 d9 g9 kd ln I L R) {k : Nat} (hk4 : k < 4) (hgk : g9 0 k ≠ 0) (hnx : c9 (10 + k) 8 = nI (g9 2 k)) (hnx1 : g9 2 k < 2 ^ 30) (hlo : g9 1 k ≤ g9 2 k) {x : Int32} (hxb : x < nI (g9 1 k) ∨ ¬ x < nI (g9 2 k)) : zc_M l y_Rec_keptPacket w_Rec_keptPacket { frames := 4, cells := 0, slots := 0, locals := 86 } 0 0 D cA te mi ([.ref X, .int (nI k), .int x] : List Value) kd ln I L R (zc_eq (some .null) kd ln I L R) := by
  intro sz
  refine Met.ofW (cc := b_Rec_keptPacket) (maxL := 4) (ret := (some ((.object "ScrubbedRecorder$Packet")))) (by decide +kernel) rfl ?_
  intro p e s m args below meth c s₁ B hml hv
  obtain ⟨rfl, hsz, hSc, hE, hH⟩ := hv
  have hx := B.exec
  have hb := B.bytes
  have hr := B.returns
  have hts := atoms_spec (ws := w_Rec_keptPacket) B.pre
  have hw : ∀ {w : Cond}, w ∈ zw → w.before ([.ref X, .int (nI k), .int x] : List Value).toArray s = true := fun h => hts _ (List.mem_cons_of_mem _ h)
  have hown : s.vm.findClass R_Rec = some m.cls := findClass_of_methodNamed B.named
  have hlocks := B.notSynchronized
  subst hsz
  have hK := hSc.1
  have hH : zh_H D cA (zc_A kd s.heap.size) kd ln I L R s.heap := hH.weaken (fun q h _ => Or.inl h)
  generalize hAe : zc_A kd s.heap.size = A at hH hE ⊢
  have hA : ∀ q : Nat, s.heap.size ≤ q → A q := fun q h => by rw [← hAe]; exact Or.inr h
  have hS : va_S A s.heap s.heap [] := va_S.rf
  have hl := lv_entry ([.ref X, .int (nI k), .int x] : List Value) (n := 4) (Nat.le_of_ble_eq_true rfl)
  rw [lg_entry_eq]
  generalize (lg_sl ([.ref X, .int (nI k), .int x] : List Value) ++ List.replicate (4 - (lg_sl ([.ref X, .int (nI k), .int x] : List Value)).length) Slot.unset).toArray = ls at hl ⊢
  have hl : lv_has ls 4 [(0, .ref X), (1, .int (nI k)), (2, .int x)] := hl
  refine lv_aload_n hx hb d_Rec_keptPacket_0 rfl (lv_at hl 0 rfl) ?_
  refine lv_iload_n hx hb d_Rec_keptPacket_1 rfl (lv_at hl 1 rfl) ?_
  refine zr_V (As := ([.int (nI k)] : List Value)) (rest := []) (b := X) (ci := 0) (q := (R_Rec, T_Rec, 6)) ⟨hx, hb, hml, hown, hts⟩ (c_Rec_madeStore_S hm (by omega) hgk) ⟨(callB_of 1 hts (zg_all zw_195) rfl rfl rfl (hw zw_1) (hw zw_192) k_Rec_madeStore.2 ⟨Nat.le_of_ble_eq_true rfl, Nat.le_of_ble_eq_true rfl⟩), (hw zw_194), (hw zs_Rec_madeStore)⟩ hSc hE hH hS hA rfl (by decide) hm.2.2.1.1 rfl hl.1 rfl (Nat.le_of_ble_eq_true rfl) d_Rec_keptPacket_2 ⟨Nat.le_of_ble_eq_true rfl, Nat.le_of_ble_eq_true rfl⟩ (fun v1 kd1 ln1 I1 L1 R1 H locs hp hH hS => ?_)
  obtain ⟨rfl, rfl, rfl, rfl, rfl, rfl⟩ := hp
  refine W.eq (g2 := F0 m 5 ls [.ref (a9 (10 + k))]) rfl ?_
  refine W.widen (k := 0) (n := 0) (by omega) (by omega) ?_
  refine lv_astore_n (lv' := [(3, .ref (a9 (10 + k))), (0, .ref X), (1, .int (nI k)), (2, .int x)]) hx hb d_Rec_keptPacket_5 rfl hl (by decide) rfl (fun ls hl => ?_)
  refine lv_aload_n hx hb d_Rec_keptPacket_6 rfl (lv_at hl 0 rfl) ?_
  refine lv_ifnonnull (tgt := 14) hx hb d_Rec_keptPacket_7 (by decide) ?_
  refine lv_aload_n hx hb d_Rec_keptPacket_14 rfl (lv_at hl 0 rfl) ?_
  refine lv_iload_n hx hb d_Rec_keptPacket_15 rfl (lv_at hl 3 rfl) ?_
  refine zr_V (As := ([.int x] : List Value)) (rest := []) (b := a9 (10 + k)) (ci := 2) (q := (R_St, T_St, 10)) ⟨hx, hb, hml, hown, hts⟩ (c_St_keptAt_N hm hk4 hgk hnx hnx1 hlo hxb) ⟨(callB_of 1 hts (zg_all zw_459) rfl rfl rfl (hw zw_4) (hw zw_456) k_St_keptAt.2 ⟨Nat.le_of_ble_eq_true rfl, Nat.le_of_ble_eq_true rfl⟩), (hw zw_457), (hw zw_458)⟩ hSc hE hH hS hA rfl (by decide) ((zkR_k hm (zk_lv1 (by omega) hgk)).trans (zk_k1 (by omega))) rfl hl.1 rfl (Nat.le_of_ble_eq_true rfl) d_Rec_keptPacket_16 ⟨Nat.le_of_ble_eq_true rfl, Nat.le_of_ble_eq_true rfl⟩ (fun v2 kd2 ln2 I2 L2 R2 H locs hp hH hS => ?_)
  obtain ⟨rfl, rfl, rfl, rfl, rfl, rfl⟩ := hp
  refine W.eq (g2 := F0 m 19 ls [.null]) rfl ?_
  refine W.widen (k := 0) (n := 0) (by omega) (by omega) ?_
  refine W.widen (k := 0) (n := 0) (Nat.le_of_ble_eq_true rfl) (Nat.le_of_ble_eq_true rfl) ?_
  subst hAe
  exact W.aret hx hb hr (Or.inl ⟨_, rfl⟩) (Or.inl rfl) (fun t ht hW => zc_end hS hH ht (⟨rfl, rfl, rfl, rfl, rfl, rfl⟩)) hS.2.2 d_Rec_keptPacket_19

set_option maxHeartbeats 4000000 in
set_option maxRecDepth 100000 in
/-- keptPacket, of a store that is not made -/
theorem c_Rec_keptPacket_N {l : Launch} {D : va_G} {cA : Nat → ClassId} {te mi : Nat} {kd ln : Nat → Nat} {I : Nat → Nat → Int32} {L : Nat → Nat → Int64} {R : Nat → Nat → Option Nat} {X : Nat} {a9 e9 : Nat → Nat} {c9 : Nat → Nat → Int32} {d9 : Nat → Nat → Int64} {g9 : Nat → Nat → Nat} (hm : zkR X te a9 e9 c9 d9 g9 kd ln I L R) {x y : Int32} (hmd : zk_md g9 x = none) : zc_M l y_Rec_keptPacket w_Rec_keptPacket { frames := 4, cells := 0, slots := 0, locals := 86 } 0 0 D cA te mi ([.ref X, .int x, .int y] : List Value) kd ln I L R (zc_eq (some .null) kd ln I L R) := by
  intro sz
  refine Met.ofW (cc := b_Rec_keptPacket) (maxL := 4) (ret := (some ((.object "ScrubbedRecorder$Packet")))) (by decide +kernel) rfl ?_
  intro p e s m args below meth c s₁ B hml hv
  obtain ⟨rfl, hsz, hSc, hE, hH⟩ := hv
  have hx := B.exec
  have hb := B.bytes
  have hr := B.returns
  have hts := atoms_spec (ws := w_Rec_keptPacket) B.pre
  have hw : ∀ {w : Cond}, w ∈ zw → w.before ([.ref X, .int x, .int y] : List Value).toArray s = true := fun h => hts _ (List.mem_cons_of_mem _ h)
  have hown : s.vm.findClass R_Rec = some m.cls := findClass_of_methodNamed B.named
  have hlocks := B.notSynchronized
  subst hsz
  have hK := hSc.1
  have hH : zh_H D cA (zc_A kd s.heap.size) kd ln I L R s.heap := hH.weaken (fun q h _ => Or.inl h)
  generalize hAe : zc_A kd s.heap.size = A at hH hE ⊢
  have hA : ∀ q : Nat, s.heap.size ≤ q → A q := fun q h => by rw [← hAe]; exact Or.inr h
  have hS : va_S A s.heap s.heap [] := va_S.rf
  have hl := lv_entry ([.ref X, .int x, .int y] : List Value) (n := 4) (Nat.le_of_ble_eq_true rfl)
  rw [lg_entry_eq]
  generalize (lg_sl ([.ref X, .int x, .int y] : List Value) ++ List.replicate (4 - (lg_sl ([.ref X, .int x, .int y] : List Value)).length) Slot.unset).toArray = ls at hl ⊢
  have hl : lv_has ls 4 [(0, .ref X), (1, .int x), (2, .int y)] := hl
  refine lv_aload_n hx hb d_Rec_keptPacket_0 rfl (lv_at hl 0 rfl) ?_
  refine lv_iload_n hx hb d_Rec_keptPacket_1 rfl (lv_at hl 1 rfl) ?_
  refine zr_V (As := ([.int x] : List Value)) (rest := []) (b := X) (ci := 0) (q := (R_Rec, T_Rec, 6)) ⟨hx, hb, hml, hown, hts⟩ (c_Rec_madeStore_N hm hmd) ⟨(callB_of 1 hts (zg_all zw_195) rfl rfl rfl (hw zw_1) (hw zw_192) k_Rec_madeStore.2 ⟨Nat.le_of_ble_eq_true rfl, Nat.le_of_ble_eq_true rfl⟩), (hw zw_194), (hw zs_Rec_madeStore)⟩ hSc hE hH hS hA rfl (by decide) hm.2.2.1.1 rfl hl.1 rfl (Nat.le_of_ble_eq_true rfl) d_Rec_keptPacket_2 ⟨Nat.le_of_ble_eq_true rfl, Nat.le_of_ble_eq_true rfl⟩ (fun v1 kd1 ln1 I1 L1 R1 H locs hp hH hS => ?_)
  obtain ⟨rfl, rfl, rfl, rfl, rfl, rfl⟩ := hp
  refine W.eq (g2 := F0 m 5 ls [.null]) rfl ?_
  refine W.widen (k := 0) (n := 0) (by omega) (by omega) ?_
  refine lv_astore_nN (lv' := [(3, .null), (0, .ref X), (1, .int x), (2, .int y)]) hx hb d_Rec_keptPacket_5 rfl hl (by decide) rfl (fun ls hl => ?_)
  refine lv_aload_nN hx hb d_Rec_keptPacket_6 rfl (lv_at hl 0 rfl) ?_
  refine lv_ifnonnullN hx hb d_Rec_keptPacket_7 ?_
  refine lv_null hx hb d_Rec_keptPacket_10 ?_
  refine lv_goto (tgt := 19) hx hb d_Rec_keptPacket_11 (by decide) ?_
  refine W.widen (k := 0) (n := 0) (Nat.le_of_ble_eq_true rfl) (Nat.le_of_ble_eq_true rfl) ?_
  subst hAe
  exact W.aret hx hb hr (Or.inl ⟨_, rfl⟩) (Or.inl rfl) (fun t ht hW => zc_end hS hH ht (⟨rfl, rfl, rfl, rfl, rfl, rfl⟩)) hS.2.2 d_Rec_keptPacket_19

set_option maxHeartbeats 4000000 in
set_option maxRecDepth 100000 in
/-- unpromisedPages -/
theorem c_Rec_unpromisedPages {l : Launch} {D : va_G} {cA : Nat → ClassId} {te mi : Nat} {kd ln : Nat → Nat} {I : Nat → Nat → Int32} {L : Nat → Nat → Int64} {R : Nat → Nat → Option Nat} {X : Nat} {a9 e9 : Nat → Nat} {c9 : Nat → Nat → Int32} {d9 : Nat → Nat → Int64} {g9 : Nat → Nat → Nat} (hm : zkR X te a9 e9 c9 d9 g9 kd ln I L R)  : zc_M l y_Rec_unpromisedPages w_Rec_unpromisedPages { frames := 0, cells := 0, slots := 0, locals := 0 } 0 0 D cA te mi ([.ref X] : List Value) kd ln I L R (zc_eq (some (.int (zk_un c9 g9 4))) kd ln I L R) := by
  intro sz
  refine Met.ofW (cc := b_Rec_unpromisedPages) (maxL := 3) (ret := (some (.int))) (by decide +kernel) rfl ?_
  intro p e s m args below meth c s₁ B hml hv
  obtain ⟨rfl, hsz, hSc, hE, hH⟩ := hv
  have hx := B.exec
  have hb := B.bytes
  have hr := B.returns
  have hts := atoms_spec (ws := w_Rec_unpromisedPages) B.pre
  have hw : ∀ {w : Cond}, w ∈ zw → w.before ([.ref X] : List Value).toArray s = true := fun h => hts _ (List.mem_cons_of_mem _ h)
  have hown : s.vm.findClass R_Rec = some m.cls := findClass_of_methodNamed B.named
  have hlocks := B.notSynchronized
  subst hsz
  have hK := hSc.1
  have hH : zh_H D cA (zc_A kd s.heap.size) kd ln I L R s.heap := hH.weaken (fun q h _ => Or.inl h)
  generalize hAe : zc_A kd s.heap.size = A at hH hE ⊢
  have hA : ∀ q : Nat, s.heap.size ≤ q → A q := fun q h => by rw [← hAe]; exact Or.inr h
  have hS : va_S A s.heap s.heap [] := va_S.rf
  have hl := lv_entry ([.ref X] : List Value) (n := 3) (Nat.le_of_ble_eq_true rfl)
  rw [lg_entry_eq]
  generalize (lg_sl ([.ref X] : List Value) ++ List.replicate (3 - (lg_sl ([.ref X] : List Value)).length) Slot.unset).toArray = ls at hl ⊢
  have hl : lv_has ls 3 [(0, .ref X)] := hl
  refine lv_bipush (v := nI 40) hx hb d_Rec_unpromisedPages_0 (by decide) ?_
  refine lv_istore_n (lv' := [(1, .int (nI 40)), (0, .ref X)]) hx hb d_Rec_unpromisedPages_2 rfl hl (by decide) rfl (fun ls hl => ?_)
  refine lv_iconst (v := nI 0) hx hb d_Rec_unpromisedPages_3 (by decide) ?_
  refine lv_istore_n (lv' := [(2, .int (nI 0)), (1, .int (nI 40)), (0, .ref X)]) hx hb d_Rec_unpromisedPages_4 rfl hl (by decide) rfl (fun ls hl => ?_)
  have loop_5 : ∀ (z : Nat) (i : Nat) (H : Heap) (locs : List Loc) (ls : Array Slot), 4 - i < z → (i ≤ 4) → lv_has ls 3 [(0, .ref X), (1, .int (zk_un c9 g9 i)), (2, .int (nI i))] → zh_H D cA A kd ln I L R H → va_S A s.heap H locs → W p l e (headSpec w_Rec_unpromisedPages { frames := 0, cells := 0, slots := 0, locals := 0 }).room s m ([.ref X] : List Value).toArray below meth c H locs 0 0 (MQ below (zc_Qc D cA A (zc_eq (some (.int (zk_un c9 g9 4))) kd ln I L R)) ([.ref X] : List Value).toArray s 0 0 A) (F0 m 5 ls []) := by
    intro z
    induction z with
    | zero => intro i H locs ls hz; exact absurd hz (Nat.not_lt_zero _)
    | succ z ih_5 =>
      intro i H locs ls hz_5 hi hl hH hS
      refine lv_iload_n hx hb d_Rec_unpromisedPages_5 rfl (lv_at hl 2 rfl) ?_
      refine lv_iconst (v := nI 4) hx hb d_Rec_unpromisedPages_6 (by decide) ?_
      refine lv_icmp_ge (tgt := 37) hx hb d_Rec_unpromisedPages_7 (by decide) (fun hc1 => ?_) (fun hc1 => ?_)
      · skip
        have hc1 := zt_geT (a := i) (b := 4) (by omega) (by omega) hc1
        refine lv_iload_n hx hb d_Rec_unpromisedPages_37 rfl (lv_at hl 1 rfl) ?_
        refine W.widen (k := 0) (n := 0) (Nat.le_of_ble_eq_true rfl) (Nat.le_of_ble_eq_true rfl) ?_
        subst hAe
        exact W.iret (v := zk_un c9 g9 i) hx hb hr (fun t ht hW => zc_end hS hH ht (⟨by rw [show i = 4 by omega], rfl, rfl, rfl, rfl, rfl⟩)) hS.2.2 d_Rec_unpromisedPages_38
      · skip
        have hc1 := zt_geF (a := i) (b := 4) (by omega) (by omega) hc1
        refine lv_aload_n hx hb d_Rec_unpromisedPages_10 rfl (lv_at hl 0 rfl) ?_
        refine zr_getr (ci := 0) (C := R_Rec) (T := T_Rec) (N := 6) (ref := "ScrubbedRecorder") hx hb hts (fun w h => List.mem_cons_of_mem _ (zin_Rec w h)) hown hK hH hm.2.2.1.1 (by decide) rfl 1 (by decide) rfl (hw zw_65) (fun _ h9 => h9) d_Rec_unpromisedPages_11 hm.2.2.1.2.2.1 ?_
        refine lv_iload_n hx hb d_Rec_unpromisedPages_14 rfl (lv_at hl 2 rfl) ?_
        rcases Decidable.em (g9 0 i = 0) with hg2 | hg2
        · skip
          refine zr_ald0 (b := 0) (t := 5) (j := i) hx hb (by decide) (by decide) rfl hK hH (show kd (a9 4) = 105 from zkR_k hm (zk_lv0 (by decide))) (by rw [show ln (a9 4) = 4 from zkR_n hm (zk_lv0 (by decide)) (by decide)]; exact zh_ix_n (by omega) (by omega)) d_Rec_unpromisedPages_15 (zkR_sn hm (by omega) hg2) ?_
          refine lv_ifnullN (tgt := 31) hx hb d_Rec_unpromisedPages_16 (by decide) ?_
          refine lv_iinc (k := 2) (v := nI (i + 1)) (lv' := [(2, .int (nI (i + 1))), (0, .ref X), (1, .int (zk_un c9 g9 i))]) hx hb d_Rec_unpromisedPages_31 hl rfl (nI_add i 1) (by decide) rfl (fun ls hl => ?_)
          refine lv_goto (tgt := 5) hx hb d_Rec_unpromisedPages_34 (by decide) ?_
          have ez3 : zk_un c9 g9 (i + 1) = zk_un c9 g9 i := by rw [zk_un, if_pos hg2]
          have hl : lv_has ls 3 [(2, .int (nI (i + 1))), (0, .ref X), (1, .int (zk_un c9 g9 (i + 1)))] := by rw [ez3]; exact hl
          exact ih_5 (i + 1) _ _ _ (by omega) (by omega) (lv_sub hl [1, 2, 0] rfl) hH hS
        · skip
          refine zr_aldr (t := 5) (j := i) hx hb (by decide) (by decide) rfl hK hH (show kd (a9 4) = 105 from zkR_k hm (zk_lv0 (by decide))) (by rw [show ln (a9 4) = 4 from zkR_n hm (zk_lv0 (by decide)) (by decide)]; exact zh_ix_n (by omega) (by omega)) d_Rec_unpromisedPages_15 (zkR_st hm (by omega) hg2).1 ?_
          refine lv_ifnull hx hb d_Rec_unpromisedPages_16 ?_
          refine lv_iload_n hx hb d_Rec_unpromisedPages_19 rfl (lv_at hl 1 rfl) ?_
          refine lv_aload_n hx hb d_Rec_unpromisedPages_20 rfl (lv_at hl 0 rfl) ?_
          refine zr_getr (ci := 0) (C := R_Rec) (T := T_Rec) (N := 6) (ref := "ScrubbedRecorder") hx hb hts (fun w h => List.mem_cons_of_mem _ (zin_Rec w h)) hown hK hH hm.2.2.1.1 (by decide) rfl 1 (by decide) rfl (hw zw_65) (fun _ h9 => h9) d_Rec_unpromisedPages_21 hm.2.2.1.2.2.1 ?_
          refine lv_iload_n hx hb d_Rec_unpromisedPages_24 rfl (lv_at hl 2 rfl) ?_
          refine zr_aldr (t := 5) (j := i) hx hb (by decide) (by decide) rfl hK hH (show kd (a9 4) = 105 from zkR_k hm (zk_lv0 (by decide))) (by rw [show ln (a9 4) = 4 from zkR_n hm (zk_lv0 (by decide)) (by decide)]; exact zh_ix_n (by omega) (by omega)) d_Rec_unpromisedPages_25 (zkR_st hm (by omega) hg2).1 ?_
          refine zr_geti (ci := 2) (C := R_St) (T := T_St) (N := 10) (ref := "ScrubbedRecorder$Store") hx hb hts (fun w h => List.mem_cons_of_mem _ (zin_St w h)) hown hK hH ((zkR_k hm (zk_lv1 (by omega) hg2)).trans (zk_k1 (by omega))) (by decide) rfl 6 (by decide) rfl (hw zw_133) (fun _ h9 => h9) d_Rec_unpromisedPages_26 ?_
          refine zt_i (y := c9 (10 + i) 6) (congrFun (zkR_i hm (zk_lv1 (by omega) hg2)) 6) ?_
          refine lv_isub hx hb d_Rec_unpromisedPages_29 ?_
          refine lv_istore_n (lv' := [(1, .int ((zk_un c9 g9 i) - (c9 (10 + i) 6))), (0, .ref X), (2, .int (nI i))]) hx hb d_Rec_unpromisedPages_30 rfl hl (by decide) rfl (fun ls hl => ?_)
          refine lv_iinc (k := 2) (v := nI (i + 1)) (lv' := [(2, .int (nI (i + 1))), (1, .int ((zk_un c9 g9 i) - (c9 (10 + i) 6))), (0, .ref X)]) hx hb d_Rec_unpromisedPages_31 hl rfl (nI_add i 1) (by decide) rfl (fun ls hl => ?_)
          refine lv_goto (tgt := 5) hx hb d_Rec_unpromisedPages_34 (by decide) ?_
          have ez4 : zk_un c9 g9 (i + 1) = (zk_un c9 g9 i) - (c9 (10 + i) 6) := by rw [zk_un, if_neg hg2]
          have hl : lv_has ls 3 [(2, .int (nI (i + 1))), (1, .int (zk_un c9 g9 (i + 1))), (0, .ref X)] := by rw [ez4]; exact hl
          exact ih_5 (i + 1) _ _ _ (by omega) (by omega) (lv_sub hl [2, 1, 0] rfl) hH hS
  exact loop_5 _ 0 _ _ _ (Nat.lt_succ_self _) (by omega) (lv_sub hl [2, 1, 0] rfl) hH hS

set_option maxHeartbeats 4000000 in
set_option maxRecDepth 100000 in
/-- countRuns -/
theorem c_Rec_countRuns {l : Launch} {D : va_G} {cA : Nat → ClassId} {te mi : Nat} {kd ln : Nat → Nat} {I : Nat → Nat → Int32} {L : Nat → Nat → Int64} {R : Nat → Nat → Option Nat} {X : Nat} {a9 e9 : Nat → Nat} {c9 : Nat → Nat → Int32} {d9 : Nat → Nat → Int64} {g9 : Nat → Nat → Nat} (hm : zkR X te a9 e9 c9 d9 g9 kd ln I L R)  : zc_M l y_Rec_countRuns w_Rec_countRuns { frames := 4, cells := 0, slots := 0, locals := 88 } 0 0 D cA te mi ([.ref X] : List Value) kd ln I L R (zc_eq (some (.int (nI (zk_rn c9 g9 4)))) kd ln I L R) := by
  intro sz
  refine Met.ofW (cc := b_Rec_countRuns) (maxL := 3) (ret := (some (.int))) (by decide +kernel) rfl ?_
  intro p e s m args below meth c s₁ B hml hv
  obtain ⟨rfl, hsz, hSc, hE, hH⟩ := hv
  have hx := B.exec
  have hb := B.bytes
  have hr := B.returns
  have hts := atoms_spec (ws := w_Rec_countRuns) B.pre
  have hw : ∀ {w : Cond}, w ∈ zw → w.before ([.ref X] : List Value).toArray s = true := fun h => hts _ (List.mem_cons_of_mem _ h)
  have hown : s.vm.findClass R_Rec = some m.cls := findClass_of_methodNamed B.named
  have hlocks := B.notSynchronized
  subst hsz
  have hK := hSc.1
  have hH : zh_H D cA (zc_A kd s.heap.size) kd ln I L R s.heap := hH.weaken (fun q h _ => Or.inl h)
  generalize hAe : zc_A kd s.heap.size = A at hH hE ⊢
  have hA : ∀ q : Nat, s.heap.size ≤ q → A q := fun q h => by rw [← hAe]; exact Or.inr h
  have hS : va_S A s.heap s.heap [] := va_S.rf
  have hl := lv_entry ([.ref X] : List Value) (n := 3) (Nat.le_of_ble_eq_true rfl)
  rw [lg_entry_eq]
  generalize (lg_sl ([.ref X] : List Value) ++ List.replicate (3 - (lg_sl ([.ref X] : List Value)).length) Slot.unset).toArray = ls at hl ⊢
  have hl : lv_has ls 3 [(0, .ref X)] := hl
  refine lv_iconst (v := nI 0) hx hb d_Rec_countRuns_0 (by decide) ?_
  refine lv_istore_n (lv' := [(1, .int (nI 0)), (0, .ref X)]) hx hb d_Rec_countRuns_1 rfl hl (by decide) rfl (fun ls hl => ?_)
  refine lv_iconst (v := nI 0) hx hb d_Rec_countRuns_2 (by decide) ?_
  refine lv_istore_n (lv' := [(2, .int (nI 0)), (1, .int (nI 0)), (0, .ref X)]) hx hb d_Rec_countRuns_3 rfl hl (by decide) rfl (fun ls hl => ?_)
  have loop_4 : ∀ (z : Nat) (i : Nat) (H : Heap) (locs : List Loc) (ls : Array Slot), 4 - i < z → (i ≤ 4) → lv_has ls 3 [(0, .ref X), (1, .int (nI (zk_rn c9 g9 i))), (2, .int (nI i))] → zh_H D cA A kd ln I L R H → va_S A s.heap H locs → W p l e (headSpec w_Rec_countRuns { frames := 4, cells := 0, slots := 0, locals := 88 }).room s m ([.ref X] : List Value).toArray below meth c H locs 0 0 (MQ below (zc_Qc D cA A (zc_eq (some (.int (nI (zk_rn c9 g9 4)))) kd ln I L R)) ([.ref X] : List Value).toArray s 0 0 A) (F0 m 4 ls []) := by
    intro z
    induction z with
    | zero => intro i H locs ls hz; exact absurd hz (Nat.not_lt_zero _)
    | succ z ih_4 =>
      intro i H locs ls hz_4 hi hl hH hS
      refine lv_iload_n hx hb d_Rec_countRuns_4 rfl (lv_at hl 2 rfl) ?_
      refine lv_iconst (v := nI 4) hx hb d_Rec_countRuns_5 (by decide) ?_
      refine lv_icmp_ge (tgt := 36) hx hb d_Rec_countRuns_6 (by decide) (fun hc1 => ?_) (fun hc1 => ?_)
      · skip
        have hc1 := zt_geT (a := i) (b := 4) (by omega) (by omega) hc1
        refine lv_iload_n hx hb d_Rec_countRuns_36 rfl (lv_at hl 1 rfl) ?_
        refine W.widen (k := 0) (n := 0) (Nat.le_of_ble_eq_true rfl) (Nat.le_of_ble_eq_true rfl) ?_
        subst hAe
        exact W.iret (v := nI (zk_rn c9 g9 i)) hx hb hr (fun t ht hW => zc_end hS hH ht (⟨by rw [show i = 4 by omega], rfl, rfl, rfl, rfl, rfl⟩)) hS.2.2 d_Rec_countRuns_37
      · skip
        have hc1 := zt_geF (a := i) (b := 4) (by omega) (by omega) hc1
        refine lv_aload_n hx hb d_Rec_countRuns_9 rfl (lv_at hl 0 rfl) ?_
        refine zr_getr (ci := 0) (C := R_Rec) (T := T_Rec) (N := 6) (ref := "ScrubbedRecorder") hx hb hts (fun w h => List.mem_cons_of_mem _ (zin_Rec w h)) hown hK hH hm.2.2.1.1 (by decide) rfl 1 (by decide) rfl (hw zw_65) (fun _ h9 => h9) d_Rec_countRuns_10 hm.2.2.1.2.2.1 ?_
        refine lv_iload_n hx hb d_Rec_countRuns_13 rfl (lv_at hl 2 rfl) ?_
        rcases Decidable.em (g9 0 i = 0) with hg2 | hg2
        · skip
          refine zr_ald0 (b := 0) (t := 5) (j := i) hx hb (by decide) (by decide) rfl hK hH (show kd (a9 4) = 105 from zkR_k hm (zk_lv0 (by decide))) (by rw [show ln (a9 4) = 4 from zkR_n hm (zk_lv0 (by decide)) (by decide)]; exact zh_ix_n (by omega) (by omega)) d_Rec_countRuns_14 (zkR_sn hm (by omega) hg2) ?_
          refine lv_ifnullN (tgt := 30) hx hb d_Rec_countRuns_15 (by decide) ?_
          refine lv_iinc (k := 2) (v := nI (i + 1)) (lv' := [(2, .int (nI (i + 1))), (0, .ref X), (1, .int (nI (zk_rn c9 g9 i)))]) hx hb d_Rec_countRuns_30 hl rfl (nI_add i 1) (by decide) rfl (fun ls hl => ?_)
          refine lv_goto (tgt := 4) hx hb d_Rec_countRuns_33 (by decide) ?_
          have ez3 : zk_rn c9 g9 (i + 1) = zk_rn c9 g9 i := by rw [zk_rn, if_pos hg2]
          have hl : lv_has ls 3 [(2, .int (nI (i + 1))), (0, .ref X), (1, .int (nI (zk_rn c9 g9 (i + 1))))] := by rw [ez3]; exact hl
          exact ih_4 (i + 1) _ _ _ (by omega) (by omega) (lv_sub hl [1, 2, 0] rfl) hH hS
        · skip
          refine zr_aldr (t := 5) (j := i) hx hb (by decide) (by decide) rfl hK hH (show kd (a9 4) = 105 from zkR_k hm (zk_lv0 (by decide))) (by rw [show ln (a9 4) = 4 from zkR_n hm (zk_lv0 (by decide)) (by decide)]; exact zh_ix_n (by omega) (by omega)) d_Rec_countRuns_14 (zkR_st hm (by omega) hg2).1 ?_
          refine lv_ifnull hx hb d_Rec_countRuns_15 ?_
          refine lv_iload_n hx hb d_Rec_countRuns_18 rfl (lv_at hl 1 rfl) ?_
          refine lv_aload_n hx hb d_Rec_countRuns_19 rfl (lv_at hl 0 rfl) ?_
          refine zr_getr (ci := 0) (C := R_Rec) (T := T_Rec) (N := 6) (ref := "ScrubbedRecorder") hx hb hts (fun w h => List.mem_cons_of_mem _ (zin_Rec w h)) hown hK hH hm.2.2.1.1 (by decide) rfl 1 (by decide) rfl (hw zw_65) (fun _ h9 => h9) d_Rec_countRuns_20 hm.2.2.1.2.2.1 ?_
          refine lv_iload_n hx hb d_Rec_countRuns_23 rfl (lv_at hl 2 rfl) ?_
          refine zr_aldr (t := 5) (j := i) hx hb (by decide) (by decide) rfl hK hH (show kd (a9 4) = 105 from zkR_k hm (zk_lv0 (by decide))) (by rw [show ln (a9 4) = 4 from zkR_n hm (zk_lv0 (by decide)) (by decide)]; exact zh_ix_n (by omega) (by omega)) d_Rec_countRuns_24 (zkR_st hm (by omega) hg2).1 ?_
          refine zr_V (As := ([] : List Value)) (rest := [.int (nI (zk_rn c9 g9 i))]) (b := a9 (10 + i)) (ci := 2) (q := (R_St, T_St, 10)) ⟨hx, hb, hml, hown, hts⟩ (c_St_countConfirmedRuns hm (by omega) hg2) ⟨(callB_of 0 hts (zg_all zw_564) rfl rfl rfl (hw zw_4) (hw zw_561) k_St_countConfirmedRuns.2 ⟨Nat.le_of_ble_eq_true rfl, Nat.le_of_ble_eq_true rfl⟩), (hw zw_562), (hw zw_563)⟩ hSc hE hH hS hA rfl (by decide) ((zkR_k hm (zk_lv1 (by omega) hg2)).trans (zk_k1 (by omega))) rfl hl.1 rfl (Nat.le_of_ble_eq_true rfl) d_Rec_countRuns_25 ⟨Nat.le_of_ble_eq_true rfl, Nat.le_of_ble_eq_true rfl⟩ (fun v4 kd4 ln4 I4 L4 R4 H locs hp hH hS => ?_)
          obtain ⟨rfl, rfl, rfl, rfl, rfl, rfl⟩ := hp
          refine W.eq (g2 := F0 m 28 ls [.int (nI (zk_cr c9 i (g9 1 i) (g9 2 i - g9 1 i))), .int (nI (zk_rn c9 g9 i))]) rfl ?_
          refine W.widen (k := 0) (n := 0) (by omega) (by omega) ?_
          refine lv_iadd hx hb d_Rec_countRuns_28 ?_
          refine zt_i (y := nI (zk_rn c9 g9 i + (zk_cr c9 i (g9 1 i) (g9 2 i - g9 1 i)))) (nI_add (zk_rn c9 g9 i) (zk_cr c9 i (g9 1 i) (g9 2 i - g9 1 i))) ?_
          refine lv_istore_n (lv' := [(1, .int (nI (zk_rn c9 g9 i + (zk_cr c9 i (g9 1 i) (g9 2 i - g9 1 i))))), (0, .ref X), (2, .int (nI i))]) hx hb d_Rec_countRuns_29 rfl hl (by decide) rfl (fun ls hl => ?_)
          refine lv_iinc (k := 2) (v := nI (i + 1)) (lv' := [(2, .int (nI (i + 1))), (1, .int (nI (zk_rn c9 g9 i + (zk_cr c9 i (g9 1 i) (g9 2 i - g9 1 i))))), (0, .ref X)]) hx hb d_Rec_countRuns_30 hl rfl (nI_add i 1) (by decide) rfl (fun ls hl => ?_)
          refine lv_goto (tgt := 4) hx hb d_Rec_countRuns_33 (by decide) ?_
          have ez5 : zk_rn c9 g9 (i + 1) = zk_rn c9 g9 i + (zk_cr c9 i (g9 1 i) (g9 2 i - g9 1 i)) := by rw [zk_rn, if_neg hg2]
          have hl : lv_has ls 3 [(2, .int (nI (i + 1))), (1, .int (nI (zk_rn c9 g9 (i + 1)))), (0, .ref X)] := by rw [ez5]; exact hl
          exact ih_4 (i + 1) _ _ _ (by omega) (by omega) (lv_sub hl [2, 1, 0] rfl) hH hS
  exact loop_4 _ 0 _ _ _ (Nat.lt_succ_self _) (by omega) (lv_sub hl [2, 1, 0] rfl) hH hS

set_option maxHeartbeats 4000000 in
set_option maxRecDepth 100000 in
/-- nextTurn -/
theorem c_Rec_nextTurn {l : Launch} {D : va_G} {cA : Nat → ClassId} {te mi : Nat} {kd ln : Nat → Nat} {I : Nat → Nat → Int32} {L : Nat → Nat → Int64} {R : Nat → Nat → Option Nat} {X : Nat} (h0 : kd X = 1) : zc_M l y_Rec_nextTurn w_Rec_nextTurn { frames := 0, cells := 0, slots := 0, locals := 0 } 0 0 D cA te mi ([.ref X] : List Value) kd ln I L R (zc_eq (some (.long (L X 5 + 1))) kd ln I (zu L X 5 (L X 5 + 1)) R) := by
  intro sz
  refine Met.ofW (cc := b_Rec_nextTurn) (maxL := 1) (ret := (some (.long))) (by decide +kernel) rfl ?_
  intro p e s m args below meth c s₁ B hml hv
  obtain ⟨rfl, hsz, hSc, hE, hH⟩ := hv
  have hx := B.exec
  have hb := B.bytes
  have hr := B.returns
  have hts := atoms_spec (ws := w_Rec_nextTurn) B.pre
  have hw : ∀ {w : Cond}, w ∈ zw → w.before ([.ref X] : List Value).toArray s = true := fun h => hts _ (List.mem_cons_of_mem _ h)
  have hown : s.vm.findClass R_Rec = some m.cls := findClass_of_methodNamed B.named
  have hlocks := B.notSynchronized
  subst hsz
  have hK := hSc.1
  have hH : zh_H D cA (zc_A kd s.heap.size) kd ln I L R s.heap := hH.weaken (fun q h _ => Or.inl h)
  generalize hAe : zc_A kd s.heap.size = A at hH hE ⊢
  have hA : ∀ q : Nat, s.heap.size ≤ q → A q := fun q h => by rw [← hAe]; exact Or.inr h
  have hS : va_S A s.heap s.heap [] := va_S.rf
  have hl := lv_entry ([.ref X] : List Value) (n := 1) (Nat.le_of_ble_eq_true rfl)
  rw [lg_entry_eq]
  generalize (lg_sl ([.ref X] : List Value) ++ List.replicate (1 - (lg_sl ([.ref X] : List Value)).length) Slot.unset).toArray = ls at hl ⊢
  have hl : lv_has ls 1 [(0, .ref X)] := hl
  refine lv_aload_n hx hb d_Rec_nextTurn_0 rfl (lv_at hl 0 rfl) ?_
  refine lv_dup hx hb d_Rec_nextTurn_1 rfl ?_
  refine zr_getl (ci := 0) (C := R_Rec) (T := T_Rec) (N := 6) (ref := "ScrubbedRecorder") hx hb hts (fun w h => List.mem_cons_of_mem _ (zin_Rec w h)) hown hK hH h0 (by decide) rfl 5 (by decide) rfl (hw zw_69) (fun _ h9 => h9) d_Rec_nextTurn_2 ?_
  refine lv_lconst (v := 1) hx hb d_Rec_nextTurn_5 (by decide) ?_
  refine lv_ladd hx hb d_Rec_nextTurn_6 ?_
  refine zr_putl (ref := "ScrubbedRecorder") (ci := 0) (C := R_Rec) (T := T_Rec) (N := 6) (x := (L X 5) + 1) (ty := .long) hx hb hts (fun w h => List.mem_cons_of_mem _ (zin_Rec w h)) ty_Rec tyok_Rec nm_Rec hown hK hH hS h0 (by decide) rfl 5 (by decide) rfl (hw zw_69) (fun _ h9 => h9) rfl (by decide +kernel) rfl rfl d_Rec_nextTurn_7 (fun H locs hH hS => ?_)
  refine lv_aload_n hx hb d_Rec_nextTurn_10 rfl (lv_at hl 0 rfl) ?_
  refine zr_getl (ci := 0) (C := R_Rec) (T := T_Rec) (N := 6) (ref := "ScrubbedRecorder") hx hb hts (fun w h => List.mem_cons_of_mem _ (zin_Rec w h)) hown hK hH h0 (by decide) rfl 5 (by decide) rfl (hw zw_69) (fun _ h9 => h9) d_Rec_nextTurn_11 ?_
  refine zt_l (y := (L X 5) + 1) (by rw [zu_self]) ?_
  refine W.widen (k := 0) (n := 0) (Nat.le_of_ble_eq_true rfl) (Nat.le_of_ble_eq_true rfl) ?_
  subst hAe
  exact W.lret (v := (L X 5) + 1) hx hb hr (fun t ht hW => zc_end hS hH ht (⟨rfl, rfl, rfl, rfl, rfl, rfl⟩)) hS.2.2 d_Rec_nextTurn_14

set_option maxHeartbeats 4000000 in
set_option maxRecDepth 100000 in
/-- flip -/
theorem c_Rec_flip {l : Launch} {D : va_G} {cA : Nat → ClassId} {te mi : Nat} {kd ln : Nat → Nat} {I : Nat → Nat → Int32} {L : Nat → Nat → Int64} {R : Nat → Nat → Option Nat} {X : Nat} {a9 e9 : Nat → Nat} {c9 : Nat → Nat → Int32} {d9 : Nat → Nat → Int64} {g9 : Nat → Nat → Nat} (hm : zkR X te a9 e9 c9 d9 g9 kd ln I L R) {x y z : Int32} : zc_M l y_Rec_flip w_Rec_flip { frames := 4, cells := 0, slots := 0, locals := 93 } 0 0 D cA te mi ([.ref X, .int x, .int y, .int z] : List Value) kd ln I L R (zk_P (some (.int (zb_is (zb_flip (c9 0 2) (c9 0 4) (d9 3) x y z)))) X te a9 e9 c9 (zb_upd d9 3 (zb_flip (c9 0 2) (c9 0 4) (d9 3) x y z)) g9 kd ln) := by
  intro sz
  refine Met.ofW (cc := b_Rec_flip) (maxL := 4) (ret := (some (.boolean))) (by decide +kernel) rfl ?_
  intro p e s m args below meth c s₁ B hml hv
  obtain ⟨rfl, hsz, hSc, hE, hH⟩ := hv
  have hx := B.exec
  have hb := B.bytes
  have hr := B.returns
  have hts := atoms_spec (ws := w_Rec_flip) B.pre
  have hw : ∀ {w : Cond}, w ∈ zw → w.before ([.ref X, .int x, .int y, .int z] : List Value).toArray s = true := fun h => hts _ (List.mem_cons_of_mem _ h)
  have hown : s.vm.findClass R_Rec = some m.cls := findClass_of_methodNamed B.named
  have hlocks := B.notSynchronized
  subst hsz
  have hK := hSc.1
  have hH : zh_H D cA (zc_A kd s.heap.size) kd ln I L R s.heap := hH.weaken (fun q h _ => Or.inl h)
  generalize hAe : zc_A kd s.heap.size = A at hH hE ⊢
  have hA : ∀ q : Nat, s.heap.size ≤ q → A q := fun q h => by rw [← hAe]; exact Or.inr h
  have hS : va_S A s.heap s.heap [] := va_S.rf
  have hl := lv_entry ([.ref X, .int x, .int y, .int z] : List Value) (n := 4) (Nat.le_of_ble_eq_true rfl)
  rw [lg_entry_eq]
  generalize (lg_sl ([.ref X, .int x, .int y, .int z] : List Value) ++ List.replicate (4 - (lg_sl ([.ref X, .int x, .int y, .int z] : List Value)).length) Slot.unset).toArray = ls at hl ⊢
  have hl : lv_has ls 4 [(0, .ref X), (1, .int x), (2, .int y), (3, .int z)] := hl
  refine lv_aload_n hx hb d_Rec_flip_0 rfl (lv_at hl 0 rfl) ?_
  refine zr_getr (ci := 0) (C := R_Rec) (T := T_Rec) (N := 6) (ref := "ScrubbedRecorder") hx hb hts (fun w h => List.mem_cons_of_mem _ (zin_Rec w h)) hown hK hH hm.2.2.1.1 (by decide) rfl 0 (by decide) rfl (hw zw_64) (fun _ h9 => h9) d_Rec_flip_1 hm.2.2.1.2.1 ?_
  refine lv_iload_n hx hb d_Rec_flip_4 rfl (lv_at hl 1 rfl) ?_
  refine lv_iload_n hx hb d_Rec_flip_5 rfl (lv_at hl 2 rfl) ?_
  refine lv_iload_n hx hb d_Rec_flip_6 rfl (lv_at hl 3 rfl) ?_
  have hM := zkR_mem hm
  refine zr_V (As := ([.int x, .int y, .int z] : List Value)) (rest := []) (b := a9 0) (ci := 1) (q := (R_Mem, T_Mem, 8)) ⟨hx, hb, hml, hown, hts⟩ (c_Mem_flipBit hM.1 hM.2.1 hM.2.2.1 hM.2.2.2.1 hM.2.2.2.2.1 hM.2.2.2.2.2.1 hM.2.2.2.2.2.2) ⟨(callB_of 3 hts (zg_all zw_517) rfl rfl rfl (hw zw_2) (hw zw_514) k_Mem_flipBit.2 ⟨Nat.le_of_ble_eq_true rfl, Nat.le_of_ble_eq_true rfl⟩), (hw zw_515), (hw zw_516)⟩ hSc hE hH hS hA rfl (by decide) (show kd (a9 0) = 2 from zkR_k hm (zk_lv0 (by decide))) rfl hl.1 rfl (Nat.le_of_ble_eq_true rfl) d_Rec_flip_7 ⟨Nat.le_of_ble_eq_true rfl, Nat.le_of_ble_eq_true rfl⟩ (fun v1 kd1 ln1 I1 L1 R1 H locs hp hH hS => ?_)
  obtain ⟨rfl, rfl, rfl, rfl, rfl, rfl⟩ := hp
  try rw [show I (a9 0) = c9 0 from zkR_i hm (zk_lv0 (by decide))] at hH
  try rw [show I (a9 0) = c9 0 from zkR_i hm (zk_lv0 (by decide))]
  try rw [show I (a9 1) = c9 1 from zkR_i hm (zk_lv0 (by decide))] at hH
  try rw [show I (a9 1) = c9 1 from zkR_i hm (zk_lv0 (by decide))]
  try rw [show L (a9 3) = d9 3 from zkR_l hm (zk_lv0 (by decide))] at hH
  try rw [show L (a9 3) = d9 3 from zkR_l hm (zk_lv0 (by decide))]
  have hm := zkR_upd hm (zb_flip (c9 0 2) (c9 0 4) (d9 3) x y z)
  generalize zb_upd L (a9 3) (zb_flip (c9 0 2) (c9 0 4) (d9 3) x y z) = L2 at hm hH
  refine W.eq (g2 := F0 m 10 ls [.int (zb_is (zb_flip (c9 0 2) (c9 0 4) (d9 3) x y z))]) rfl ?_
  refine W.widen (k := 0) (n := 0) (by omega) (by omega) ?_
  refine W.widen (k := 0) (n := 0) (Nat.le_of_ble_eq_true rfl) (Nat.le_of_ble_eq_true rfl) ?_
  subst hAe
  exact W.zret (v := zb_is (zb_flip (c9 0 2) (c9 0 4) (d9 3) x y z)) hx hb hr (zt_bn (zb_is_01 _)) (fun t ht hW => zc_end hS hH ht (⟨rfl, rfl, rfl, hm⟩)) hS.2.2 d_Rec_flip_10

set_option maxHeartbeats 4000000 in
set_option maxRecDepth 100000 in
/-- latch -/
theorem c_Rec_latch {l : Launch} {D : va_G} {cA : Nat → ClassId} {te mi : Nat} {kd ln : Nat → Nat} {I : Nat → Nat → Int32} {L : Nat → Nat → Int64} {R : Nat → Nat → Option Nat} {X : Nat} {a9 e9 : Nat → Nat} {c9 : Nat → Nat → Int32} {d9 : Nat → Nat → Int64} {g9 : Nat → Nat → Nat} (hm : zkR X te a9 e9 c9 d9 g9 kd ln I L R) {x : Int32} : zc_M l y_Rec_latch w_Rec_latch { frames := 4, cells := 0, slots := 0, locals := 89 } 0 0 D cA te mi ([.ref X, .int x] : List Value) kd ln I L R (zk_P (some (.int (zb_off (c9 0 2) (d9 3) x))) X te a9 e9 (zb_offI c9 0 (zb_off (c9 0 2) (d9 3) x) x) (zb_offL d9 3 (zb_off (c9 0 2) (d9 3) x) x) g9 kd ln) := by
  intro sz
  refine Met.ofW (cc := b_Rec_latch) (maxL := 2) (ret := (some (.boolean))) (by decide +kernel) rfl ?_
  intro p e s m args below meth c s₁ B hml hv
  obtain ⟨rfl, hsz, hSc, hE, hH⟩ := hv
  have hx := B.exec
  have hb := B.bytes
  have hr := B.returns
  have hts := atoms_spec (ws := w_Rec_latch) B.pre
  have hw : ∀ {w : Cond}, w ∈ zw → w.before ([.ref X, .int x] : List Value).toArray s = true := fun h => hts _ (List.mem_cons_of_mem _ h)
  have hown : s.vm.findClass R_Rec = some m.cls := findClass_of_methodNamed B.named
  have hlocks := B.notSynchronized
  subst hsz
  have hK := hSc.1
  have hH : zh_H D cA (zc_A kd s.heap.size) kd ln I L R s.heap := hH.weaken (fun q h _ => Or.inl h)
  generalize hAe : zc_A kd s.heap.size = A at hH hE ⊢
  have hA : ∀ q : Nat, s.heap.size ≤ q → A q := fun q h => by rw [← hAe]; exact Or.inr h
  have hS : va_S A s.heap s.heap [] := va_S.rf
  have hl := lv_entry ([.ref X, .int x] : List Value) (n := 2) (Nat.le_of_ble_eq_true rfl)
  rw [lg_entry_eq]
  generalize (lg_sl ([.ref X, .int x] : List Value) ++ List.replicate (2 - (lg_sl ([.ref X, .int x] : List Value)).length) Slot.unset).toArray = ls at hl ⊢
  have hl : lv_has ls 2 [(0, .ref X), (1, .int x)] := hl
  refine lv_aload_n hx hb d_Rec_latch_0 rfl (lv_at hl 0 rfl) ?_
  refine zr_getr (ci := 0) (C := R_Rec) (T := T_Rec) (N := 6) (ref := "ScrubbedRecorder") hx hb hts (fun w h => List.mem_cons_of_mem _ (zin_Rec w h)) hown hK hH hm.2.2.1.1 (by decide) rfl 0 (by decide) rfl (hw zw_64) (fun _ h9 => h9) d_Rec_latch_1 hm.2.2.1.2.1 ?_
  refine lv_iload_n hx hb d_Rec_latch_4 rfl (lv_at hl 1 rfl) ?_
  have hM := zkR_mem hm
  refine zr_V (As := ([.int x] : List Value)) (rest := []) (b := a9 0) (ci := 1) (q := (R_Mem, T_Mem, 8)) ⟨hx, hb, hml, hown, hts⟩ (c_Mem_switchOff hM.1 hM.2.1 hM.2.2.1 hM.2.2.2.1 hM.2.2.2.2.1 hM.2.2.2.2.2.1 hM.2.2.2.2.2.2) ⟨(callB_of 1 hts (zg_all zw_540) rfl rfl rfl (hw zw_2) (hw zw_537) k_Mem_switchOff.2 ⟨Nat.le_of_ble_eq_true rfl, Nat.le_of_ble_eq_true rfl⟩), (hw zw_538), (hw zw_539)⟩ hSc hE hH hS hA rfl (by decide) (show kd (a9 0) = 2 from zkR_k hm (zk_lv0 (by decide))) rfl hl.1 rfl (Nat.le_of_ble_eq_true rfl) d_Rec_latch_5 ⟨Nat.le_of_ble_eq_true rfl, Nat.le_of_ble_eq_true rfl⟩ (fun v1 kd1 ln1 I1 L1 R1 H locs hp hH hS => ?_)
  obtain ⟨rfl, rfl, rfl, rfl, rfl, rfl⟩ := hp
  try rw [show I (a9 0) = c9 0 from zkR_i hm (zk_lv0 (by decide))] at hH
  try rw [show I (a9 0) = c9 0 from zkR_i hm (zk_lv0 (by decide))]
  try rw [show I (a9 1) = c9 1 from zkR_i hm (zk_lv0 (by decide))] at hH
  try rw [show I (a9 1) = c9 1 from zkR_i hm (zk_lv0 (by decide))]
  try rw [show L (a9 3) = d9 3 from zkR_l hm (zk_lv0 (by decide))] at hH
  try rw [show L (a9 3) = d9 3 from zkR_l hm (zk_lv0 (by decide))]
  have hm := zkR_lat hm (zb_off (c9 0 2) (d9 3) x) x
  generalize zb_offI I (a9 0) (zb_off (c9 0 2) (d9 3) x) x = I2 at hm hH
  generalize zb_offL L (a9 3) (zb_off (c9 0 2) (d9 3) x) x = L3 at hm hH
  refine W.eq (g2 := F0 m 8 ls [.int (zb_off (c9 0 2) (d9 3) x)]) rfl ?_
  refine W.widen (k := 0) (n := 0) (by omega) (by omega) ?_
  refine W.widen (k := 0) (n := 0) (Nat.le_of_ble_eq_true rfl) (Nat.le_of_ble_eq_true rfl) ?_
  subst hAe
  exact W.zret (v := (zb_off (c9 0 2) (d9 3) x)) hx hb hr (zt_bn (zb_off_01 _ _ _)) (fun t ht hW => zc_end hS hH ht (⟨rfl, rfl, rfl, hm⟩)) hS.2.2 d_Rec_latch_8

set_option maxHeartbeats 4000000 in
set_option maxRecDepth 100000 in
/-- power -/
theorem c_Rec_power {l : Launch} {D : va_G} {cA : Nat → ClassId} {te mi : Nat} {kd ln : Nat → Nat} {I : Nat → Nat → Int32} {L : Nat → Nat → Int64} {R : Nat → Nat → Option Nat} {X : Nat} {a9 e9 : Nat → Nat} {c9 : Nat → Nat → Int32} {d9 : Nat → Nat → Int64} {g9 : Nat → Nat → Nat} (hm : zkR X te a9 e9 c9 d9 g9 kd ln I L R) {x : Int32} : zc_M l y_Rec_power w_Rec_power { frames := 2, cells := 0, slots := 0, locals := 41 } 0 0 D cA te mi ([.ref X, .int x] : List Value) kd ln I L R (zk_P (some (.int (zb_on (c9 0 2) (c9 0 3) x))) X te a9 e9 (zb_onI c9 0 (zb_on (c9 0 2) (c9 0 3) x)) d9 g9 kd ln) := by
  intro sz
  refine Met.ofW (cc := b_Rec_power) (maxL := 2) (ret := (some (.boolean))) (by decide +kernel) rfl ?_
  intro p e s m args below meth c s₁ B hml hv
  obtain ⟨rfl, hsz, hSc, hE, hH⟩ := hv
  have hx := B.exec
  have hb := B.bytes
  have hr := B.returns
  have hts := atoms_spec (ws := w_Rec_power) B.pre
  have hw : ∀ {w : Cond}, w ∈ zw → w.before ([.ref X, .int x] : List Value).toArray s = true := fun h => hts _ (List.mem_cons_of_mem _ h)
  have hown : s.vm.findClass R_Rec = some m.cls := findClass_of_methodNamed B.named
  have hlocks := B.notSynchronized
  subst hsz
  have hK := hSc.1
  have hH : zh_H D cA (zc_A kd s.heap.size) kd ln I L R s.heap := hH.weaken (fun q h _ => Or.inl h)
  generalize hAe : zc_A kd s.heap.size = A at hH hE ⊢
  have hA : ∀ q : Nat, s.heap.size ≤ q → A q := fun q h => by rw [← hAe]; exact Or.inr h
  have hS : va_S A s.heap s.heap [] := va_S.rf
  have hl := lv_entry ([.ref X, .int x] : List Value) (n := 2) (Nat.le_of_ble_eq_true rfl)
  rw [lg_entry_eq]
  generalize (lg_sl ([.ref X, .int x] : List Value) ++ List.replicate (2 - (lg_sl ([.ref X, .int x] : List Value)).length) Slot.unset).toArray = ls at hl ⊢
  have hl : lv_has ls 2 [(0, .ref X), (1, .int x)] := hl
  refine lv_aload_n hx hb d_Rec_power_0 rfl (lv_at hl 0 rfl) ?_
  refine zr_getr (ci := 0) (C := R_Rec) (T := T_Rec) (N := 6) (ref := "ScrubbedRecorder") hx hb hts (fun w h => List.mem_cons_of_mem _ (zin_Rec w h)) hown hK hH hm.2.2.1.1 (by decide) rfl 0 (by decide) rfl (hw zw_64) (fun _ h9 => h9) d_Rec_power_1 hm.2.2.1.2.1 ?_
  refine lv_iload_n hx hb d_Rec_power_4 rfl (lv_at hl 1 rfl) ?_
  have hM := zkR_mem hm
  refine zr_V (As := ([.int x] : List Value)) (rest := []) (b := a9 0) (ci := 1) (q := (R_Mem, T_Mem, 8)) ⟨hx, hb, hml, hown, hts⟩ (c_Mem_switchOn hM.1) ⟨(callB_of 1 hts (zg_all zw_552) rfl rfl rfl (hw zw_2) (hw zw_549) k_Mem_switchOn.2 ⟨Nat.le_of_ble_eq_true rfl, Nat.le_of_ble_eq_true rfl⟩), (hw zw_550), (hw zw_551)⟩ hSc hE hH hS hA rfl (by decide) (show kd (a9 0) = 2 from zkR_k hm (zk_lv0 (by decide))) rfl hl.1 rfl (Nat.le_of_ble_eq_true rfl) d_Rec_power_5 ⟨Nat.le_of_ble_eq_true rfl, Nat.le_of_ble_eq_true rfl⟩ (fun v1 kd1 ln1 I1 L1 R1 H locs hp hH hS => ?_)
  obtain ⟨rfl, rfl, rfl, rfl, rfl, rfl⟩ := hp
  try rw [show I (a9 0) = c9 0 from zkR_i hm (zk_lv0 (by decide))] at hH
  try rw [show I (a9 0) = c9 0 from zkR_i hm (zk_lv0 (by decide))]
  try rw [show I (a9 1) = c9 1 from zkR_i hm (zk_lv0 (by decide))] at hH
  try rw [show I (a9 1) = c9 1 from zkR_i hm (zk_lv0 (by decide))]
  try rw [show L (a9 3) = d9 3 from zkR_l hm (zk_lv0 (by decide))] at hH
  try rw [show L (a9 3) = d9 3 from zkR_l hm (zk_lv0 (by decide))]
  have hm := zkR_pow hm (zb_on (c9 0 2) (c9 0 3) x)
  generalize zb_onI I (a9 0) (zb_on (c9 0 2) (c9 0 3) x) = I2 at hm hH
  refine W.eq (g2 := F0 m 8 ls [.int (zb_on (c9 0 2) (c9 0 3) x)]) rfl ?_
  refine W.widen (k := 0) (n := 0) (by omega) (by omega) ?_
  refine W.widen (k := 0) (n := 0) (Nat.le_of_ble_eq_true rfl) (Nat.le_of_ble_eq_true rfl) ?_
  subst hAe
  exact W.zret (v := (zb_on (c9 0 2) (c9 0 3) x)) hx hb hr (zt_bn (zb_on_01 _ _ _)) (fun t ht hW => zc_end hS hH ht (⟨rfl, rfl, rfl, hm⟩)) hS.2.2 d_Rec_power_8

set_option maxHeartbeats 4000000 in
set_option maxRecDepth 100000 in
/-- tick -/
theorem c_Rec_tick {l : Launch} {D : va_G} {cA : Nat → ClassId} {te mi : Nat} {kd ln : Nat → Nat} {I : Nat → Nat → Int32} {L : Nat → Nat → Int64} {R : Nat → Nat → Option Nat} {X : Nat} {a9 e9 : Nat → Nat} {c9 : Nat → Nat → Int32} {d9 : Nat → Nat → Int64} {g9 : Nat → Nat → Nat} (hm : zkR X te a9 e9 c9 d9 g9 kd ln I L R) {n sn : Nat} (hn9 : n ≤ 1000) (hs0 : zb_rbI c9 0 0 5 = nI sn) (hs1 : sn < 768) : zc_M l y_Rec_tick w_Rec_tick { frames := 3, cells := 0, slots := 0, locals := 66 } 0 0 D cA te mi ([.ref X, .int (nI n)] : List Value) kd ln I L R (zk_P (some (.int ((zb_sn 0 3 n (zb_rbI c9 0, d9)).1 0 6 + (zb_sn 0 3 n (zb_rbI c9 0, d9)).1 0 7 - (zb_rbI c9 0 0 6 + zb_rbI c9 0 0 7)))) X te a9 e9 ((zb_sn 0 3 n (zb_rbI c9 0, d9)).1) ((zb_sn 0 3 n (zb_rbI c9 0, d9)).2) g9 kd ln) := by
  intro sz
  refine Met.ofW (cc := b_Rec_tick) (maxL := 2) (ret := (some (.int))) (by decide +kernel) rfl ?_
  intro p e s m args below meth c s₁ B hml hv
  obtain ⟨rfl, hsz, hSc, hE, hH⟩ := hv
  have hx := B.exec
  have hb := B.bytes
  have hr := B.returns
  have hts := atoms_spec (ws := w_Rec_tick) B.pre
  have hw : ∀ {w : Cond}, w ∈ zw → w.before ([.ref X, .int (nI n)] : List Value).toArray s = true := fun h => hts _ (List.mem_cons_of_mem _ h)
  have hown : s.vm.findClass R_Rec = some m.cls := findClass_of_methodNamed B.named
  have hlocks := B.notSynchronized
  subst hsz
  have hK := hSc.1
  have hH : zh_H D cA (zc_A kd s.heap.size) kd ln I L R s.heap := hH.weaken (fun q h _ => Or.inl h)
  generalize hAe : zc_A kd s.heap.size = A at hH hE ⊢
  have hA : ∀ q : Nat, s.heap.size ≤ q → A q := fun q h => by rw [← hAe]; exact Or.inr h
  have hS : va_S A s.heap s.heap [] := va_S.rf
  have hl := lv_entry ([.ref X, .int (nI n)] : List Value) (n := 2) (Nat.le_of_ble_eq_true rfl)
  rw [lg_entry_eq]
  generalize (lg_sl ([.ref X, .int (nI n)] : List Value) ++ List.replicate (2 - (lg_sl ([.ref X, .int (nI n)] : List Value)).length) Slot.unset).toArray = ls at hl ⊢
  have hl : lv_has ls 2 [(0, .ref X), (1, .int (nI n))] := hl
  refine lv_iload_n hx hb d_Rec_tick_0 rfl (lv_at hl 1 rfl) ?_
  refine lv_if_lt (tgt := 11) hx hb d_Rec_tick_1 (by decide) (fun hc1 => ?_) (fun hc1 => ?_)
  · skip
    have hc1 := zt_ltT (a := n) (b := 0) (by omega) (by omega) hc1
    exact absurd hc1 (by omega)
  · skip
    have hc1 := zt_ltF (a := n) (b := 0) (by omega) (by omega) hc1
    refine lv_iload_n hx hb d_Rec_tick_4 rfl (lv_at hl 1 rfl) ?_
    refine lv_sipush (v := nI 1000) hx hb d_Rec_tick_5 (by decide) ?_
    refine lv_icmp_le (tgt := 14) hx hb d_Rec_tick_8 (by decide) (fun hc2 => ?_) (fun hc2 => ?_)
    · skip
      have hc2 := zt_leT (a := n) (b := 1000) (by omega) (by omega) hc2
      refine lv_aload_n hx hb d_Rec_tick_14 rfl (lv_at hl 0 rfl) ?_
      refine zr_getr (ci := 0) (C := R_Rec) (T := T_Rec) (N := 6) (ref := "ScrubbedRecorder") hx hb hts (fun w h => List.mem_cons_of_mem _ (zin_Rec w h)) hown hK hH hm.2.2.1.1 (by decide) rfl 0 (by decide) rfl (hw zw_64) (fun _ h9 => h9) d_Rec_tick_15 hm.2.2.1.2.1 ?_
      have hM := zkR_mem hm
      refine zr_V (As := ([] : List Value)) (rest := []) (b := a9 0) (ci := 1) (q := (R_Mem, T_Mem, 8)) ⟨hx, hb, hml, hown, hts⟩ (c_Mem_rebuildRow hM.1) ⟨(callB_of 0 hts (zg_all zw_495) rfl rfl rfl (hw zw_2) (hw zw_492) k_Mem_rebuildRow.2 ⟨Nat.le_of_ble_eq_true rfl, Nat.le_of_ble_eq_true rfl⟩), (hw zw_493), (hw zw_494)⟩ hSc hE hH hS hA rfl (by decide) (show kd (a9 0) = 2 from zkR_k hm (zk_lv0 (by decide))) rfl hl.1 rfl (Nat.le_of_ble_eq_true rfl) d_Rec_tick_18 ⟨Nat.le_of_ble_eq_true rfl, Nat.le_of_ble_eq_true rfl⟩ (fun v3 kd3 ln3 I3 L3 R3 H locs hp hH hS => ?_)
      obtain ⟨rfl, rfl, rfl, rfl, rfl, rfl⟩ := hp
      have hm := zkR_rb hm
      generalize zb_rbI I (a9 0) = I4 at hm hH
      refine W.eq (g2 := F0 m 21 ls []) rfl ?_
      refine W.widen (k := 0) (n := 0) (by omega) (by omega) ?_
      refine lv_aload_n hx hb d_Rec_tick_21 rfl (lv_at hl 0 rfl) ?_
      refine zr_getr (ci := 0) (C := R_Rec) (T := T_Rec) (N := 6) (ref := "ScrubbedRecorder") hx hb hts (fun w h => List.mem_cons_of_mem _ (zin_Rec w h)) hown hK hH hm.2.2.1.1 (by decide) rfl 0 (by decide) rfl (hw zw_64) (fun _ h9 => h9) d_Rec_tick_22 hm.2.2.1.2.1 ?_
      refine lv_iload_n hx hb d_Rec_tick_25 rfl (lv_at hl 1 rfl) ?_
      have hM := zkR_mem hm
      have h0I : I4 (a9 0) = zb_rbI c9 0 0 := zkR_i hm (zk_lv0 (by decide))
      refine zr_V (As := ([.int (nI n)] : List Value)) (rest := []) (b := a9 0) (ci := 1) (q := (R_Mem, T_Mem, 8)) ⟨hx, hb, hml, hown, hts⟩ (c_Mem_scrub hM.1 hM.2.1 hM.2.2.1 hM.2.2.2.1 hM.2.2.2.2.1 hM.2.2.2.2.2.1 hM.2.2.2.2.2.2 (by omega) (by rw [h0I]; exact hs0) hs1) ⟨(callB_of 1 hts (zg_all zw_499) rfl rfl rfl (hw zw_2) (hw zw_496) k_Mem_scrub.2 ⟨Nat.le_of_ble_eq_true rfl, Nat.le_of_ble_eq_true rfl⟩), (hw zw_497), (hw zw_498)⟩ hSc hE hH hS hA rfl (by decide) (show kd (a9 0) = 2 from zkR_k hm (zk_lv0 (by decide))) rfl hl.1 rfl (Nat.le_of_ble_eq_true rfl) d_Rec_tick_26 ⟨Nat.le_of_ble_eq_true rfl, Nat.le_of_ble_eq_true rfl⟩ (fun v5 kd5 ln5 I5 L5 R5 H locs hp hH hS => ?_)
      obtain ⟨rfl, rfl, rfl, rfl, rfl, rfl⟩ := hp
      have hm := zkR_snn n hm
      have h1I := zkR_i hm (r := 0) (zk_lv0 (by decide))
      rw [h1I, h0I]
      generalize (zb_sn (a9 0) (a9 3) n (I4, L)).1 = I6 at hm hH
      generalize (zb_sn (a9 0) (a9 3) n (I4, L)).2 = L7 at hm hH
      refine W.eq (g2 := F0 m 29 ls [.int ((zb_sn 0 3 n (zb_rbI c9 0, d9)).1 0 6 + (zb_sn 0 3 n (zb_rbI c9 0, d9)).1 0 7 - (zb_rbI c9 0 0 6 + zb_rbI c9 0 0 7))]) rfl ?_
      refine W.widen (k := 0) (n := 0) (by omega) (by omega) ?_
      refine W.widen (k := 0) (n := 0) (Nat.le_of_ble_eq_true rfl) (Nat.le_of_ble_eq_true rfl) ?_
      subst hAe
      exact W.iret (v := (zb_sn 0 3 n (zb_rbI c9 0, d9)).1 0 6 + (zb_sn 0 3 n (zb_rbI c9 0, d9)).1 0 7 - (zb_rbI c9 0 0 6 + zb_rbI c9 0 0 7)) hx hb hr (fun t ht hW => zc_end hS hH ht (⟨rfl, rfl, rfl, hm⟩)) hS.2.2 d_Rec_tick_29
    · skip
      have hc2 := zt_leF (a := n) (b := 1000) (by omega) (by omega) hc2
      exact absurd hc2 (by omega)

set_option maxHeartbeats 4000000 in
set_option maxRecDepth 100000 in
/-- tick, refused -/
theorem c_Rec_tick_B {l : Launch} {D : va_G} {cA : Nat → ClassId} {te mi : Nat} {kd ln : Nat → Nat} {I : Nat → Nat → Int32} {L : Nat → Nat → Int64} {R : Nat → Nat → Option Nat} {X : Nat} {a9 e9 : Nat → Nat} {c9 : Nat → Nat → Int32} {d9 : Nat → Nat → Int64} {g9 : Nat → Nat → Nat} (hm : zkR X te a9 e9 c9 d9 g9 kd ln I L R) {x : Int32} (hbad : x < nI 0 ∨ nI 1000 < x) : zc_M l y_Rec_tick w_Rec_tick { frames := 3, cells := 0, slots := 0, locals := 66 } 0 0 D cA te mi ([.ref X, .int x] : List Value) kd ln I L R (zk_P (some (.int (-2))) X te a9 e9 c9 d9 g9 kd ln) := by
  intro sz
  refine Met.ofW (cc := b_Rec_tick) (maxL := 2) (ret := (some (.int))) (by decide +kernel) rfl ?_
  intro p e s m args below meth c s₁ B hml hv
  obtain ⟨rfl, hsz, hSc, hE, hH⟩ := hv
  have hx := B.exec
  have hb := B.bytes
  have hr := B.returns
  have hts := atoms_spec (ws := w_Rec_tick) B.pre
  have hw : ∀ {w : Cond}, w ∈ zw → w.before ([.ref X, .int x] : List Value).toArray s = true := fun h => hts _ (List.mem_cons_of_mem _ h)
  have hown : s.vm.findClass R_Rec = some m.cls := findClass_of_methodNamed B.named
  have hlocks := B.notSynchronized
  subst hsz
  have hK := hSc.1
  have hH : zh_H D cA (zc_A kd s.heap.size) kd ln I L R s.heap := hH.weaken (fun q h _ => Or.inl h)
  generalize hAe : zc_A kd s.heap.size = A at hH hE ⊢
  have hA : ∀ q : Nat, s.heap.size ≤ q → A q := fun q h => by rw [← hAe]; exact Or.inr h
  have hS : va_S A s.heap s.heap [] := va_S.rf
  have hl := lv_entry ([.ref X, .int x] : List Value) (n := 2) (Nat.le_of_ble_eq_true rfl)
  rw [lg_entry_eq]
  generalize (lg_sl ([.ref X, .int x] : List Value) ++ List.replicate (2 - (lg_sl ([.ref X, .int x] : List Value)).length) Slot.unset).toArray = ls at hl ⊢
  have hl : lv_has ls 2 [(0, .ref X), (1, .int x)] := hl
  refine lv_iload_n hx hb d_Rec_tick_0 rfl (lv_at hl 1 rfl) ?_
  refine lv_if_lt (tgt := 11) hx hb d_Rec_tick_1 (by decide) (fun hc1 => ?_) (fun hc1 => ?_)
  · skip
    have hc1 : x < (nI 0) := hc1
    refine lv_bipush (v := (-2)) hx hb d_Rec_tick_11 (by decide) ?_
    refine W.widen (k := 0) (n := 0) (Nat.le_of_ble_eq_true rfl) (Nat.le_of_ble_eq_true rfl) ?_
    subst hAe
    exact W.iret (v := (-2)) hx hb hr (fun t ht hW => zc_end hS hH ht (⟨rfl, rfl, rfl, hm⟩)) hS.2.2 d_Rec_tick_13
  · skip
    have hc1 : ¬ x < (nI 0) := hc1
    refine lv_iload_n hx hb d_Rec_tick_4 rfl (lv_at hl 1 rfl) ?_
    refine lv_sipush (v := nI 1000) hx hb d_Rec_tick_5 (by decide) ?_
    refine lv_icmp_le (tgt := 14) hx hb d_Rec_tick_8 (by decide) (fun hc2 => ?_) (fun hc2 => ?_)
    · skip
      have hc2 : ¬ (nI 1000) < x := Int32.not_lt.mpr hc2
      exact absurd hbad (fun q => q.elim (by assumption) (by assumption))
    · skip
      have hc2 : (nI 1000) < x := Int32.not_le.mp hc2
      refine lv_bipush (v := (-2)) hx hb d_Rec_tick_11 (by decide) ?_
      refine W.widen (k := 0) (n := 0) (Nat.le_of_ble_eq_true rfl) (Nat.le_of_ble_eq_true rfl) ?_
      subst hAe
      exact W.iret (v := (-2)) hx hb hr (fun t ht hW => zc_end hS hH ht (⟨rfl, rfl, rfl, hm⟩)) hS.2.2 d_Rec_tick_13

set_option maxHeartbeats 4000000 in
set_option maxRecDepth 100000 in
/-- told -/
theorem c_Rec_told {l : Launch} {D : va_G} {cA : Nat → ClassId} {te mi : Nat} {kd ln : Nat → Nat} {I : Nat → Nat → Int32} {L : Nat → Nat → Int64} {R : Nat → Nat → Option Nat} {X : Nat} {a9 e9 : Nat → Nat} {c9 : Nat → Nat → Int32} {d9 : Nat → Nat → Int64} {g9 : Nat → Nat → Nat} (hm : zkR X te a9 e9 c9 d9 g9 kd ln I L R) {x : Int32} : zc_M l y_Rec_told w_Rec_told { frames := 1, cells := 0, slots := 0, locals := 22 } 0 0 D cA te mi ([.ref X, .int x] : List Value) kd ln I L R (zc_eq (some (.int (zk_tld c9 d9 x))) kd ln I L R) := by
  intro sz
  refine Met.ofW (cc := b_Rec_told) (maxL := 2) (ret := (some (.int))) (by decide +kernel) rfl ?_
  intro p e s m args below meth c s₁ B hml hv
  obtain ⟨rfl, hsz, hSc, hE, hH⟩ := hv
  have hx := B.exec
  have hb := B.bytes
  have hr := B.returns
  have hts := atoms_spec (ws := w_Rec_told) B.pre
  have hw : ∀ {w : Cond}, w ∈ zw → w.before ([.ref X, .int x] : List Value).toArray s = true := fun h => hts _ (List.mem_cons_of_mem _ h)
  have hown : s.vm.findClass R_Rec = some m.cls := findClass_of_methodNamed B.named
  have hlocks := B.notSynchronized
  subst hsz
  have hK := hSc.1
  have hH : zh_H D cA (zc_A kd s.heap.size) kd ln I L R s.heap := hH.weaken (fun q h _ => Or.inl h)
  generalize hAe : zc_A kd s.heap.size = A at hH hE ⊢
  have hA : ∀ q : Nat, s.heap.size ≤ q → A q := fun q h => by rw [← hAe]; exact Or.inr h
  have hS : va_S A s.heap s.heap [] := va_S.rf
  have hl := lv_entry ([.ref X, .int x] : List Value) (n := 2) (Nat.le_of_ble_eq_true rfl)
  rw [lg_entry_eq]
  generalize (lg_sl ([.ref X, .int x] : List Value) ++ List.replicate (2 - (lg_sl ([.ref X, .int x] : List Value)).length) Slot.unset).toArray = ls at hl ⊢
  have hl : lv_has ls 2 [(0, .ref X), (1, .int x)] := hl
  refine lv_iload_n hx hb d_Rec_told_0 rfl (lv_at hl 1 rfl) ?_
  rcases zt_sw (x) 4 (by decide) with hc1 | ⟨j2, hc3, hc1⟩
  · skip
    refine lv_tableOut (tgt := 76) hx hb d_Rec_told_1 hc1 (by decide) ?_
    refine lv_bipush (v := (-2)) hx hb d_Rec_told_76 (by decide) ?_
    refine W.widen (k := 0) (n := 0) (Nat.le_of_ble_eq_true rfl) (Nat.le_of_ble_eq_true rfl) ?_
    subst hAe
    exact W.iret (v := (-2)) hx hb hr (fun t ht hW => zc_end hS hH ht (⟨by rw [zk_tld_o (by assumption)], rfl, rfl, rfl, rfl, rfl⟩)) hS.2.2 d_Rec_told_78
  · skip
    rcases (show j2 = 0 ∨ j2 = 1 ∨ j2 = 2 ∨ j2 = 3 ∨ j2 = 4 by omega) with rfl | rfl | rfl | rfl | rfl
    · skip
      refine lv_tableIn (off := 35) (tgt := 36) hx hb d_Rec_told_1 (by rw [hc1]; decide) (by rw [hc1]; decide) (by rw [hc1]; decide +kernel) (by decide) ?_
      refine lv_aload_n hx hb d_Rec_told_36 rfl (lv_at hl 0 rfl) ?_
      refine zr_getr (ci := 0) (C := R_Rec) (T := T_Rec) (N := 6) (ref := "ScrubbedRecorder") hx hb hts (fun w h => List.mem_cons_of_mem _ (zin_Rec w h)) hown hK hH hm.2.2.1.1 (by decide) rfl 0 (by decide) rfl (hw zw_64) (fun _ h9 => h9) d_Rec_told_37 hm.2.2.1.2.1 ?_
      refine zr_geti (ci := 1) (C := R_Mem) (T := T_Mem) (N := 8) (ref := "ScrubbedRecorder$Memory") hx hb hts (fun w h => List.mem_cons_of_mem _ (zin_Mem w h)) hown hK hH (show kd (a9 0) = 2 from zkR_k hm (zk_lv0 (by decide))) (by decide) rfl 6 (by decide) rfl (hw zw_38) (fun _ h9 => h9) d_Rec_told_40 ?_
      refine zt_i (y := c9 0 6) (congrFun (zkR_i hm (zk_lv0 (by decide))) 6) ?_
      refine W.widen (k := 0) (n := 0) (Nat.le_of_ble_eq_true rfl) (Nat.le_of_ble_eq_true rfl) ?_
      subst hAe
      exact W.iret (v := c9 0 6) hx hb hr (fun t ht hW => zc_end hS hH ht (⟨by rw [hc1, zk_tld, if_pos rfl], rfl, rfl, rfl, rfl, rfl⟩)) hS.2.2 d_Rec_told_43
    · skip
      refine lv_tableIn (off := 43) (tgt := 44) hx hb d_Rec_told_1 (by rw [hc1]; decide) (by rw [hc1]; decide) (by rw [hc1]; decide +kernel) (by decide) ?_
      refine lv_aload_n hx hb d_Rec_told_44 rfl (lv_at hl 0 rfl) ?_
      refine zr_getr (ci := 0) (C := R_Rec) (T := T_Rec) (N := 6) (ref := "ScrubbedRecorder") hx hb hts (fun w h => List.mem_cons_of_mem _ (zin_Rec w h)) hown hK hH hm.2.2.1.1 (by decide) rfl 0 (by decide) rfl (hw zw_64) (fun _ h9 => h9) d_Rec_told_45 hm.2.2.1.2.1 ?_
      refine zr_geti (ci := 1) (C := R_Mem) (T := T_Mem) (N := 8) (ref := "ScrubbedRecorder$Memory") hx hb hts (fun w h => List.mem_cons_of_mem _ (zin_Mem w h)) hown hK hH (show kd (a9 0) = 2 from zkR_k hm (zk_lv0 (by decide))) (by decide) rfl 7 (by decide) rfl (hw zw_40) (fun _ h9 => h9) d_Rec_told_48 ?_
      refine zt_i (y := c9 0 7) (congrFun (zkR_i hm (zk_lv0 (by decide))) 7) ?_
      refine W.widen (k := 0) (n := 0) (Nat.le_of_ble_eq_true rfl) (Nat.le_of_ble_eq_true rfl) ?_
      subst hAe
      exact W.iret (v := c9 0 7) hx hb hr (fun t ht hW => zc_end hS hH ht (⟨by rw [hc1, zk_tld, if_neg (show ¬ nI 1 = nI 0 by decide), if_pos rfl], rfl, rfl, rfl, rfl, rfl⟩)) hS.2.2 d_Rec_told_51
    · skip
      refine lv_tableIn (off := 51) (tgt := 52) hx hb d_Rec_told_1 (by rw [hc1]; decide) (by rw [hc1]; decide) (by rw [hc1]; decide +kernel) (by decide) ?_
      refine lv_aload_n hx hb d_Rec_told_52 rfl (lv_at hl 0 rfl) ?_
      refine zr_getr (ci := 0) (C := R_Rec) (T := T_Rec) (N := 6) (ref := "ScrubbedRecorder") hx hb hts (fun w h => List.mem_cons_of_mem _ (zin_Rec w h)) hown hK hH hm.2.2.1.1 (by decide) rfl 0 (by decide) rfl (hw zw_64) (fun _ h9 => h9) d_Rec_told_53 hm.2.2.1.2.1 ?_
      have hM := zkR_mem hm
      refine zr_V (As := ([] : List Value)) (rest := []) (b := a9 0) (ci := 1) (q := (R_Mem, T_Mem, 8)) ⟨hx, hb, hml, hown, hts⟩ (c_Mem_countFreePages hM.1 hM.2.1 hM.2.2.1 hM.2.2.2.1 hM.2.2.2.2.1 hM.2.2.2.2.2.1 hM.2.2.2.2.2.2) ⟨(callB_of 0 hts (zg_all zw_584) rfl rfl rfl (hw zw_2) (hw zw_581) k_Mem_countFreePages.2 ⟨Nat.le_of_ble_eq_true rfl, Nat.le_of_ble_eq_true rfl⟩), (hw zw_582), (hw zw_583)⟩ hSc hE hH hS hA rfl (by decide) (show kd (a9 0) = 2 from zkR_k hm (zk_lv0 (by decide))) rfl hl.1 rfl (Nat.le_of_ble_eq_true rfl) d_Rec_told_56 ⟨Nat.le_of_ble_eq_true rfl, Nat.le_of_ble_eq_true rfl⟩ (fun v4 kd4 ln4 I4 L4 R4 H locs hp hH hS => ?_)
      obtain ⟨rfl, rfl, rfl, rfl, rfl, rfl⟩ := hp
      try rw [show I (a9 0) = c9 0 from zkR_i hm (zk_lv0 (by decide))] at hH
      try rw [show I (a9 0) = c9 0 from zkR_i hm (zk_lv0 (by decide))]
      try rw [show I (a9 1) = c9 1 from zkR_i hm (zk_lv0 (by decide))] at hH
      try rw [show I (a9 1) = c9 1 from zkR_i hm (zk_lv0 (by decide))]
      try rw [show L (a9 3) = d9 3 from zkR_l hm (zk_lv0 (by decide))] at hH
      try rw [show L (a9 3) = d9 3 from zkR_l hm (zk_lv0 (by decide))]
      refine W.eq (g2 := F0 m 59 ls [.int (nI (zb_cf (c9 1) 40))]) rfl ?_
      refine W.widen (k := 0) (n := 0) (by omega) (by omega) ?_
      refine W.widen (k := 0) (n := 0) (Nat.le_of_ble_eq_true rfl) (Nat.le_of_ble_eq_true rfl) ?_
      subst hAe
      exact W.iret (v := nI (zb_cf (c9 1) 40)) hx hb hr (fun t ht hW => zc_end hS hH ht (⟨by rw [hc1, zk_tld, if_neg (show ¬ nI 2 = nI 0 by decide), if_neg (show ¬ nI 2 = nI 1 by decide), if_pos rfl], rfl, rfl, rfl, rfl, rfl⟩)) hS.2.2 d_Rec_told_59
    · skip
      refine lv_tableIn (off := 59) (tgt := 60) hx hb d_Rec_told_1 (by rw [hc1]; decide) (by rw [hc1]; decide) (by rw [hc1]; decide +kernel) (by decide) ?_
      refine lv_aload_n hx hb d_Rec_told_60 rfl (lv_at hl 0 rfl) ?_
      refine zr_getr (ci := 0) (C := R_Rec) (T := T_Rec) (N := 6) (ref := "ScrubbedRecorder") hx hb hts (fun w h => List.mem_cons_of_mem _ (zin_Rec w h)) hown hK hH hm.2.2.1.1 (by decide) rfl 0 (by decide) rfl (hw zw_64) (fun _ h9 => h9) d_Rec_told_61 hm.2.2.1.2.1 ?_
      have hM := zkR_mem hm
      refine zr_V (As := ([] : List Value)) (rest := []) (b := a9 0) (ci := 1) (q := (R_Mem, T_Mem, 8)) ⟨hx, hb, hml, hown, hts⟩ (c_Mem_countLostRows hM.1) ⟨(callB_of 0 hts (zg_all zw_588) rfl rfl rfl (hw zw_2) (hw zw_585) k_Mem_countLostRows.2 ⟨Nat.le_of_ble_eq_true rfl, Nat.le_of_ble_eq_true rfl⟩), (hw zw_586), (hw zw_587)⟩ hSc hE hH hS hA rfl (by decide) (show kd (a9 0) = 2 from zkR_k hm (zk_lv0 (by decide))) rfl hl.1 rfl (Nat.le_of_ble_eq_true rfl) d_Rec_told_64 ⟨Nat.le_of_ble_eq_true rfl, Nat.le_of_ble_eq_true rfl⟩ (fun v5 kd5 ln5 I5 L5 R5 H locs hp hH hS => ?_)
      obtain ⟨rfl, rfl, rfl, rfl, rfl, rfl⟩ := hp
      try rw [show I (a9 0) = c9 0 from zkR_i hm (zk_lv0 (by decide))] at hH
      try rw [show I (a9 0) = c9 0 from zkR_i hm (zk_lv0 (by decide))]
      try rw [show I (a9 1) = c9 1 from zkR_i hm (zk_lv0 (by decide))] at hH
      try rw [show I (a9 1) = c9 1 from zkR_i hm (zk_lv0 (by decide))]
      try rw [show L (a9 3) = d9 3 from zkR_l hm (zk_lv0 (by decide))] at hH
      try rw [show L (a9 3) = d9 3 from zkR_l hm (zk_lv0 (by decide))]
      refine W.eq (g2 := F0 m 67 ls [.int (if c9 0 2 = (-1) then nI 0 else nI 8 - c9 0 4)]) rfl ?_
      refine W.widen (k := 0) (n := 0) (by omega) (by omega) ?_
      refine W.widen (k := 0) (n := 0) (Nat.le_of_ble_eq_true rfl) (Nat.le_of_ble_eq_true rfl) ?_
      subst hAe
      exact W.iret (v := if c9 0 2 = (-1) then nI 0 else nI 8 - c9 0 4) hx hb hr (fun t ht hW => zc_end hS hH ht (⟨by rw [hc1, zk_tld, if_neg (show ¬ nI 3 = nI 0 by decide), if_neg (show ¬ nI 3 = nI 1 by decide), if_neg (show ¬ nI 3 = nI 2 by decide), if_pos rfl], rfl, rfl, rfl, rfl, rfl⟩)) hS.2.2 d_Rec_told_67
    · skip
      refine lv_tableIn (off := 67) (tgt := 68) hx hb d_Rec_told_1 (by rw [hc1]; decide) (by rw [hc1]; decide) (by rw [hc1]; decide +kernel) (by decide) ?_
      refine lv_aload_n hx hb d_Rec_told_68 rfl (lv_at hl 0 rfl) ?_
      refine zr_getr (ci := 0) (C := R_Rec) (T := T_Rec) (N := 6) (ref := "ScrubbedRecorder") hx hb hts (fun w h => List.mem_cons_of_mem _ (zin_Rec w h)) hown hK hH hm.2.2.1.1 (by decide) rfl 0 (by decide) rfl (hw zw_64) (fun _ h9 => h9) d_Rec_told_69 hm.2.2.1.2.1 ?_
      have hM := zkR_mem hm
      refine zr_V (As := ([] : List Value)) (rest := []) (b := a9 0) (ci := 1) (q := (R_Mem, T_Mem, 8)) ⟨hx, hb, hml, hown, hts⟩ (c_Mem_countFlippedWords hM.1 hM.2.1 hM.2.2.1 hM.2.2.2.1 hM.2.2.2.2.1 hM.2.2.2.2.2.1 hM.2.2.2.2.2.2) ⟨(callB_of 0 hts (zg_all zw_592) rfl rfl rfl (hw zw_2) (hw zw_589) k_Mem_countFlippedWords.2 ⟨Nat.le_of_ble_eq_true rfl, Nat.le_of_ble_eq_true rfl⟩), (hw zw_590), (hw zw_591)⟩ hSc hE hH hS hA rfl (by decide) (show kd (a9 0) = 2 from zkR_k hm (zk_lv0 (by decide))) rfl hl.1 rfl (Nat.le_of_ble_eq_true rfl) d_Rec_told_72 ⟨Nat.le_of_ble_eq_true rfl, Nat.le_of_ble_eq_true rfl⟩ (fun v6 kd6 ln6 I6 L6 R6 H locs hp hH hS => ?_)
      obtain ⟨rfl, rfl, rfl, rfl, rfl, rfl⟩ := hp
      try rw [show I (a9 0) = c9 0 from zkR_i hm (zk_lv0 (by decide))] at hH
      try rw [show I (a9 0) = c9 0 from zkR_i hm (zk_lv0 (by decide))]
      try rw [show I (a9 1) = c9 1 from zkR_i hm (zk_lv0 (by decide))] at hH
      try rw [show I (a9 1) = c9 1 from zkR_i hm (zk_lv0 (by decide))]
      try rw [show L (a9 3) = d9 3 from zkR_l hm (zk_lv0 (by decide))] at hH
      try rw [show L (a9 3) = d9 3 from zkR_l hm (zk_lv0 (by decide))]
      refine W.eq (g2 := F0 m 75 ls [.int (nI (zb_cw (d9 3) 768))]) rfl ?_
      refine W.widen (k := 0) (n := 0) (by omega) (by omega) ?_
      refine W.widen (k := 0) (n := 0) (Nat.le_of_ble_eq_true rfl) (Nat.le_of_ble_eq_true rfl) ?_
      subst hAe
      exact W.iret (v := nI (zb_cw (d9 3) 768)) hx hb hr (fun t ht hW => zc_end hS hH ht (⟨by rw [hc1, zk_tld, if_neg (show ¬ nI 4 = nI 0 by decide), if_neg (show ¬ nI 4 = nI 1 by decide), if_neg (show ¬ nI 4 = nI 2 by decide), if_neg (show ¬ nI 4 = nI 3 by decide), if_pos rfl], rfl, rfl, rfl, rfl, rfl⟩)) hS.2.2 d_Rec_told_75

set_option maxHeartbeats 4000000 in
set_option maxRecDepth 100000 in
/-- count -/
theorem c_Rec_count {l : Launch} {D : va_G} {cA : Nat → ClassId} {te mi : Nat} {kd ln : Nat → Nat} {I : Nat → Nat → Int32} {L : Nat → Nat → Int64} {R : Nat → Nat → Option Nat} {X : Nat} {a9 e9 : Nat → Nat} {c9 : Nat → Nat → Int32} {d9 : Nat → Nat → Int64} {g9 : Nat → Nat → Nat} (hm : zkR X te a9 e9 c9 d9 g9 kd ln I L R) {k : Nat} (hk4 : k < 4) (hgk : g9 0 k ≠ 0) {y : Int32} : zc_M l y_Rec_count w_Rec_count { frames := 4, cells := 0, slots := 0, locals := 86 } 0 0 D cA te mi ([.ref X, .int (nI k), .int y] : List Value) kd ln I L R (zc_eq (some (.int (zk_cnt c9 d9 g9 k y))) kd ln I L R) := by
  intro sz
  refine Met.ofW (cc := b_Rec_count) (maxL := 4) (ret := (some (.int))) (by decide +kernel) rfl ?_
  intro p e s m args below meth c s₁ B hml hv
  obtain ⟨rfl, hsz, hSc, hE, hH⟩ := hv
  have hx := B.exec
  have hb := B.bytes
  have hr := B.returns
  have hts := atoms_spec (ws := w_Rec_count) B.pre
  have hw : ∀ {w : Cond}, w ∈ zw → w.before ([.ref X, .int (nI k), .int y] : List Value).toArray s = true := fun h => hts _ (List.mem_cons_of_mem _ h)
  have hown : s.vm.findClass R_Rec = some m.cls := findClass_of_methodNamed B.named
  have hlocks := B.notSynchronized
  subst hsz
  have hK := hSc.1
  have hH : zh_H D cA (zc_A kd s.heap.size) kd ln I L R s.heap := hH.weaken (fun q h _ => Or.inl h)
  generalize hAe : zc_A kd s.heap.size = A at hH hE ⊢
  have hA : ∀ q : Nat, s.heap.size ≤ q → A q := fun q h => by rw [← hAe]; exact Or.inr h
  have hS : va_S A s.heap s.heap [] := va_S.rf
  have hl := lv_entry ([.ref X, .int (nI k), .int y] : List Value) (n := 4) (Nat.le_of_ble_eq_true rfl)
  rw [lg_entry_eq]
  generalize (lg_sl ([.ref X, .int (nI k), .int y] : List Value) ++ List.replicate (4 - (lg_sl ([.ref X, .int (nI k), .int y] : List Value)).length) Slot.unset).toArray = ls at hl ⊢
  have hl : lv_has ls 4 [(0, .ref X), (1, .int (nI k)), (2, .int y)] := hl
  refine lv_aload_n hx hb d_Rec_count_0 rfl (lv_at hl 0 rfl) ?_
  refine lv_iload_n hx hb d_Rec_count_1 rfl (lv_at hl 1 rfl) ?_
  refine zr_V (As := ([.int (nI k)] : List Value)) (rest := []) (b := X) (ci := 0) (q := (R_Rec, T_Rec, 6)) ⟨hx, hb, hml, hown, hts⟩ (c_Rec_madeStore_S hm (by omega) hgk) ⟨(callB_of 1 hts (zg_all zw_195) rfl rfl rfl (hw zw_1) (hw zw_192) k_Rec_madeStore.2 ⟨Nat.le_of_ble_eq_true rfl, Nat.le_of_ble_eq_true rfl⟩), (hw zw_194), (hw zs_Rec_madeStore)⟩ hSc hE hH hS hA rfl (by decide) hm.2.2.1.1 rfl hl.1 rfl (Nat.le_of_ble_eq_true rfl) d_Rec_count_2 ⟨Nat.le_of_ble_eq_true rfl, Nat.le_of_ble_eq_true rfl⟩ (fun v1 kd1 ln1 I1 L1 R1 H locs hp hH hS => ?_)
  obtain ⟨rfl, rfl, rfl, rfl, rfl, rfl⟩ := hp
  refine W.eq (g2 := F0 m 5 ls [.ref (a9 (10 + k))]) rfl ?_
  refine W.widen (k := 0) (n := 0) (by omega) (by omega) ?_
  refine lv_astore_n (lv' := [(3, .ref (a9 (10 + k))), (0, .ref X), (1, .int (nI k)), (2, .int y)]) hx hb d_Rec_count_5 rfl hl (by decide) rfl (fun ls hl => ?_)
  refine lv_aload_n hx hb d_Rec_count_6 rfl (lv_at hl 0 rfl) ?_
  refine lv_ifnonnull (tgt := 13) hx hb d_Rec_count_7 (by decide) ?_
  refine lv_iload_n hx hb d_Rec_count_13 rfl (lv_at hl 3 rfl) ?_
  rcases zt_sw (y) 5 (by decide) with hc2 | ⟨j3, hc4, hc2⟩
  · skip
    refine lv_tableOut (tgt := 85) hx hb d_Rec_count_14 hc2 (by decide) ?_
    refine lv_bipush (v := (-2)) hx hb d_Rec_count_85 (by decide) ?_
    refine W.widen (k := 0) (n := 0) (Nat.le_of_ble_eq_true rfl) (Nat.le_of_ble_eq_true rfl) ?_
    subst hAe
    exact W.iret (v := (-2)) hx hb hr (fun t ht hW => zc_end hS hH ht (⟨by rw [zk_cnt_o (by assumption)], rfl, rfl, rfl, rfl, rfl⟩)) hS.2.2 d_Rec_count_87
  · skip
    rcases (show j3 = 0 ∨ j3 = 1 ∨ j3 = 2 ∨ j3 = 3 ∨ j3 = 4 ∨ j3 = 5 by omega) with rfl | rfl | rfl | rfl | rfl | rfl
    · skip
      refine lv_tableIn (off := 38) (tgt := 52) hx hb d_Rec_count_14 (by rw [hc2]; decide) (by rw [hc2]; decide) (by rw [hc2]; decide +kernel) (by decide) ?_
      refine lv_aload_n hx hb d_Rec_count_52 rfl (lv_at hl 0 rfl) ?_
      refine zr_getr (ci := 2) (C := R_St) (T := T_St) (N := 10) (ref := "ScrubbedRecorder$Store") hx hb hts (fun w h => List.mem_cons_of_mem _ (zin_St w h)) hown hK hH ((zkR_k hm (zk_lv1 (by omega) hgk)).trans (zk_k1 (by omega))) (by decide) rfl 5 (by decide) rfl (hw zw_131) (fun _ h9 => h9) d_Rec_count_53 (zkR_st hm (by omega) hgk).2.2.2.1 ?_
      refine zr_V (As := ([] : List Value)) (rest := []) (b := a9 (40 + k)) (ci := 5) (q := (R_AL, T_AL, 3)) ⟨hx, hb, hml, hown, hts⟩ (c_ALk_size hm (by omega) hgk) ⟨(callB_of 0 hts (zg_all zw_172) rfl rfl rfl (hw zw_7) (hw zw_465) k_AL_size.2 ⟨Nat.le_of_ble_eq_true rfl, Nat.le_of_ble_eq_true rfl⟩), (hw zw_170), (hw zw_171)⟩ hSc hE hH hS hA rfl (by decide) (zkR_st hm (by omega) hgk).2.2.2.2.1 rfl hl.1 rfl (Nat.le_of_ble_eq_true rfl) d_Rec_count_56 ⟨Nat.le_of_ble_eq_true rfl, Nat.le_of_ble_eq_true rfl⟩ (fun v5 kd5 ln5 I5 L5 R5 H locs hp hH hS => ?_)
      obtain ⟨rfl, rfl, rfl, rfl, rfl, rfl⟩ := hp
      refine W.eq (g2 := F0 m 59 ls [.int (nI (g9 2 k - g9 1 k))]) rfl ?_
      refine W.widen (k := 0) (n := 0) (by omega) (by omega) ?_
      refine W.widen (k := 0) (n := 0) (Nat.le_of_ble_eq_true rfl) (Nat.le_of_ble_eq_true rfl) ?_
      subst hAe
      exact W.iret (v := nI (g9 2 k - g9 1 k)) hx hb hr (fun t ht hW => zc_end hS hH ht (⟨by rw [hc2, zk_cnt, if_pos rfl], rfl, rfl, rfl, rfl, rfl⟩)) hS.2.2 d_Rec_count_59
    · skip
      refine lv_tableIn (off := 46) (tgt := 60) hx hb d_Rec_count_14 (by rw [hc2]; decide) (by rw [hc2]; decide) (by rw [hc2]; decide +kernel) (by decide) ?_
      refine lv_aload_n hx hb d_Rec_count_60 rfl (lv_at hl 0 rfl) ?_
      refine zr_V (As := ([] : List Value)) (rest := []) (b := a9 (10 + k)) (ci := 2) (q := (R_St, T_St, 10)) ⟨hx, hb, hml, hown, hts⟩ (c_St_countConfirmed hm hk4 hgk) ⟨(callB_of 0 hts (zg_all zw_469) rfl rfl rfl (hw zw_4) (hw zw_466) k_St_countConfirmed.2 ⟨Nat.le_of_ble_eq_true rfl, Nat.le_of_ble_eq_true rfl⟩), (hw zw_467), (hw zw_468)⟩ hSc hE hH hS hA rfl (by decide) ((zkR_k hm (zk_lv1 (by omega) hgk)).trans (zk_k1 (by omega))) rfl hl.1 rfl (Nat.le_of_ble_eq_true rfl) d_Rec_count_61 ⟨Nat.le_of_ble_eq_true rfl, Nat.le_of_ble_eq_true rfl⟩ (fun v6 kd6 ln6 I6 L6 R6 H locs hp hH hS => ?_)
      obtain ⟨rfl, rfl, rfl, rfl, rfl, rfl⟩ := hp
      refine W.eq (g2 := F0 m 64 ls [.int (nI (zk_cc c9 k (g9 1 k) (g9 2 k - g9 1 k)))]) rfl ?_
      refine W.widen (k := 0) (n := 0) (by omega) (by omega) ?_
      refine W.widen (k := 0) (n := 0) (Nat.le_of_ble_eq_true rfl) (Nat.le_of_ble_eq_true rfl) ?_
      subst hAe
      exact W.iret (v := nI (zk_cc c9 k (g9 1 k) (g9 2 k - g9 1 k))) hx hb hr (fun t ht hW => zc_end hS hH ht (⟨by rw [hc2, zk_cnt, if_neg (show ¬ nI 1 = nI 0 by decide), if_pos rfl], rfl, rfl, rfl, rfl, rfl⟩)) hS.2.2 d_Rec_count_64
    · skip
      refine lv_tableIn (off := 51) (tgt := 65) hx hb d_Rec_count_14 (by rw [hc2]; decide) (by rw [hc2]; decide) (by rw [hc2]; decide +kernel) (by decide) ?_
      refine lv_aload_n hx hb d_Rec_count_65 rfl (lv_at hl 0 rfl) ?_
      refine zr_geti (ci := 2) (C := R_St) (T := T_St) (N := 10) (ref := "ScrubbedRecorder$Store") hx hb hts (fun w h => List.mem_cons_of_mem _ (zin_St w h)) hown hK hH ((zkR_k hm (zk_lv1 (by omega) hgk)).trans (zk_k1 (by omega))) (by decide) rfl 8 (by decide) rfl (hw zw_137) (fun _ h9 => h9) d_Rec_count_66 ?_
      refine zt_i (y := c9 (10 + k) 8) (congrFun (zkR_i hm (zk_lv1 (by omega) hgk)) 8) ?_
      refine W.widen (k := 0) (n := 0) (Nat.le_of_ble_eq_true rfl) (Nat.le_of_ble_eq_true rfl) ?_
      subst hAe
      exact W.iret (v := c9 (10 + k) 8) hx hb hr (fun t ht hW => zc_end hS hH ht (⟨by rw [hc2, zk_cnt, if_neg (show ¬ nI 2 = nI 0 by decide), if_neg (show ¬ nI 2 = nI 1 by decide), if_pos rfl], rfl, rfl, rfl, rfl, rfl⟩)) hS.2.2 d_Rec_count_69
    · skip
      refine lv_tableIn (off := 56) (tgt := 70) hx hb d_Rec_count_14 (by rw [hc2]; decide) (by rw [hc2]; decide) (by rw [hc2]; decide +kernel) (by decide) ?_
      refine lv_aload_n hx hb d_Rec_count_70 rfl (lv_at hl 0 rfl) ?_
      refine zr_geti (ci := 2) (C := R_St) (T := T_St) (N := 10) (ref := "ScrubbedRecorder$Store") hx hb hts (fun w h => List.mem_cons_of_mem _ (zin_St w h)) hown hK hH ((zkR_k hm (zk_lv1 (by omega) hgk)).trans (zk_k1 (by omega))) (by decide) rfl 7 (by decide) rfl (hw zw_135) (fun _ h9 => h9) d_Rec_count_71 ?_
      refine zt_i (y := c9 (10 + k) 7) (congrFun (zkR_i hm (zk_lv1 (by omega) hgk)) 7) ?_
      refine W.widen (k := 0) (n := 0) (Nat.le_of_ble_eq_true rfl) (Nat.le_of_ble_eq_true rfl) ?_
      subst hAe
      exact W.iret (v := c9 (10 + k) 7) hx hb hr (fun t ht hW => zc_end hS hH ht (⟨by rw [hc2, zk_cnt, if_neg (show ¬ nI 3 = nI 0 by decide), if_neg (show ¬ nI 3 = nI 1 by decide), if_neg (show ¬ nI 3 = nI 2 by decide), if_pos rfl], rfl, rfl, rfl, rfl, rfl⟩)) hS.2.2 d_Rec_count_74
    · skip
      refine lv_tableIn (off := 61) (tgt := 75) hx hb d_Rec_count_14 (by rw [hc2]; decide) (by rw [hc2]; decide) (by rw [hc2]; decide +kernel) (by decide) ?_
      refine lv_aload_n hx hb d_Rec_count_75 rfl (lv_at hl 0 rfl) ?_
      refine zr_geti (ci := 2) (C := R_St) (T := T_St) (N := 10) (ref := "ScrubbedRecorder$Store") hx hb hts (fun w h => List.mem_cons_of_mem _ (zin_St w h)) hown hK hH ((zkR_k hm (zk_lv1 (by omega) hgk)).trans (zk_k1 (by omega))) (by decide) rfl 9 (by decide) rfl (hw zw_139) (fun _ h9 => h9) d_Rec_count_76 ?_
      refine zt_i (y := c9 (10 + k) 9) (congrFun (zkR_i hm (zk_lv1 (by omega) hgk)) 9) ?_
      refine W.widen (k := 0) (n := 0) (Nat.le_of_ble_eq_true rfl) (Nat.le_of_ble_eq_true rfl) ?_
      subst hAe
      exact W.iret (v := c9 (10 + k) 9) hx hb hr (fun t ht hW => zc_end hS hH ht (⟨by rw [hc2, zk_cnt, if_neg (show ¬ nI 4 = nI 0 by decide), if_neg (show ¬ nI 4 = nI 1 by decide), if_neg (show ¬ nI 4 = nI 2 by decide), if_neg (show ¬ nI 4 = nI 3 by decide), if_pos rfl], rfl, rfl, rfl, rfl, rfl⟩)) hS.2.2 d_Rec_count_79
    · skip
      refine lv_tableIn (off := 66) (tgt := 80) hx hb d_Rec_count_14 (by rw [hc2]; decide) (by rw [hc2]; decide) (by rw [hc2]; decide +kernel) (by decide) ?_
      refine lv_aload_n hx hb d_Rec_count_80 rfl (lv_at hl 0 rfl) ?_
      refine zr_V (As := ([] : List Value)) (rest := []) (b := a9 (10 + k)) (ci := 2) (q := (R_St, T_St, 10)) ⟨hx, hb, hml, hown, hts⟩ (c_St_countAskedFor hm hk4 hgk) ⟨(callB_of 0 hts (zg_all zw_473) rfl rfl rfl (hw zw_4) (hw zw_470) k_St_countAskedFor.2 ⟨Nat.le_of_ble_eq_true rfl, Nat.le_of_ble_eq_true rfl⟩), (hw zw_471), (hw zw_472)⟩ hSc hE hH hS hA rfl (by decide) ((zkR_k hm (zk_lv1 (by omega) hgk)).trans (zk_k1 (by omega))) rfl hl.1 rfl (Nat.le_of_ble_eq_true rfl) d_Rec_count_81 ⟨Nat.le_of_ble_eq_true rfl, Nat.le_of_ble_eq_true rfl⟩ (fun v7 kd7 ln7 I7 L7 R7 H locs hp hH hS => ?_)
      obtain ⟨rfl, rfl, rfl, rfl, rfl, rfl⟩ := hp
      refine W.eq (g2 := F0 m 84 ls [.int (nI (zk_ca d9 k (g9 1 k) (g9 2 k - g9 1 k)))]) rfl ?_
      refine W.widen (k := 0) (n := 0) (by omega) (by omega) ?_
      refine W.widen (k := 0) (n := 0) (Nat.le_of_ble_eq_true rfl) (Nat.le_of_ble_eq_true rfl) ?_
      subst hAe
      exact W.iret (v := nI (zk_ca d9 k (g9 1 k) (g9 2 k - g9 1 k))) hx hb hr (fun t ht hW => zc_end hS hH ht (⟨by rw [hc2, zk_cnt, if_neg (show ¬ nI 5 = nI 0 by decide), if_neg (show ¬ nI 5 = nI 1 by decide), if_neg (show ¬ nI 5 = nI 2 by decide), if_neg (show ¬ nI 5 = nI 3 by decide), if_neg (show ¬ nI 5 = nI 4 by decide), if_pos rfl], rfl, rfl, rfl, rfl, rfl⟩)) hS.2.2 d_Rec_count_84

set_option maxHeartbeats 4000000 in
set_option maxRecDepth 100000 in
/-- count, of no store -/
theorem c_Rec_count_N {l : Launch} {D : va_G} {cA : Nat → ClassId} {te mi : Nat} {kd ln : Nat → Nat} {I : Nat → Nat → Int32} {L : Nat → Nat → Int64} {R : Nat → Nat → Option Nat} {X : Nat} {a9 e9 : Nat → Nat} {c9 : Nat → Nat → Int32} {d9 : Nat → Nat → Int64} {g9 : Nat → Nat → Nat} (hm : zkR X te a9 e9 c9 d9 g9 kd ln I L R) {x y : Int32} (hmd : zk_md g9 x = none) : zc_M l y_Rec_count w_Rec_count { frames := 4, cells := 0, slots := 0, locals := 86 } 0 0 D cA te mi ([.ref X, .int x, .int y] : List Value) kd ln I L R (zc_eq (some (.int (-2))) kd ln I L R) := by
  intro sz
  refine Met.ofW (cc := b_Rec_count) (maxL := 4) (ret := (some (.int))) (by decide +kernel) rfl ?_
  intro p e s m args below meth c s₁ B hml hv
  obtain ⟨rfl, hsz, hSc, hE, hH⟩ := hv
  have hx := B.exec
  have hb := B.bytes
  have hr := B.returns
  have hts := atoms_spec (ws := w_Rec_count) B.pre
  have hw : ∀ {w : Cond}, w ∈ zw → w.before ([.ref X, .int x, .int y] : List Value).toArray s = true := fun h => hts _ (List.mem_cons_of_mem _ h)
  have hown : s.vm.findClass R_Rec = some m.cls := findClass_of_methodNamed B.named
  have hlocks := B.notSynchronized
  subst hsz
  have hK := hSc.1
  have hH : zh_H D cA (zc_A kd s.heap.size) kd ln I L R s.heap := hH.weaken (fun q h _ => Or.inl h)
  generalize hAe : zc_A kd s.heap.size = A at hH hE ⊢
  have hA : ∀ q : Nat, s.heap.size ≤ q → A q := fun q h => by rw [← hAe]; exact Or.inr h
  have hS : va_S A s.heap s.heap [] := va_S.rf
  have hl := lv_entry ([.ref X, .int x, .int y] : List Value) (n := 4) (Nat.le_of_ble_eq_true rfl)
  rw [lg_entry_eq]
  generalize (lg_sl ([.ref X, .int x, .int y] : List Value) ++ List.replicate (4 - (lg_sl ([.ref X, .int x, .int y] : List Value)).length) Slot.unset).toArray = ls at hl ⊢
  have hl : lv_has ls 4 [(0, .ref X), (1, .int x), (2, .int y)] := hl
  refine lv_aload_n hx hb d_Rec_count_0 rfl (lv_at hl 0 rfl) ?_
  refine lv_iload_n hx hb d_Rec_count_1 rfl (lv_at hl 1 rfl) ?_
  refine zr_V (As := ([.int x] : List Value)) (rest := []) (b := X) (ci := 0) (q := (R_Rec, T_Rec, 6)) ⟨hx, hb, hml, hown, hts⟩ (c_Rec_madeStore_N hm hmd) ⟨(callB_of 1 hts (zg_all zw_195) rfl rfl rfl (hw zw_1) (hw zw_192) k_Rec_madeStore.2 ⟨Nat.le_of_ble_eq_true rfl, Nat.le_of_ble_eq_true rfl⟩), (hw zw_194), (hw zs_Rec_madeStore)⟩ hSc hE hH hS hA rfl (by decide) hm.2.2.1.1 rfl hl.1 rfl (Nat.le_of_ble_eq_true rfl) d_Rec_count_2 ⟨Nat.le_of_ble_eq_true rfl, Nat.le_of_ble_eq_true rfl⟩ (fun v1 kd1 ln1 I1 L1 R1 H locs hp hH hS => ?_)
  obtain ⟨rfl, rfl, rfl, rfl, rfl, rfl⟩ := hp
  refine W.eq (g2 := F0 m 5 ls [.null]) rfl ?_
  refine W.widen (k := 0) (n := 0) (by omega) (by omega) ?_
  refine lv_astore_nN (lv' := [(3, .null), (0, .ref X), (1, .int x), (2, .int y)]) hx hb d_Rec_count_5 rfl hl (by decide) rfl (fun ls hl => ?_)
  refine lv_aload_nN hx hb d_Rec_count_6 rfl (lv_at hl 0 rfl) ?_
  refine lv_ifnonnullN hx hb d_Rec_count_7 ?_
  refine lv_bipush (v := (-2)) hx hb d_Rec_count_10 (by decide) ?_
  refine W.widen (k := 0) (n := 0) (Nat.le_of_ble_eq_true rfl) (Nat.le_of_ble_eq_true rfl) ?_
  subst hAe
  exact W.iret (v := (-2)) hx hb hr (fun t ht hW => zc_end hS hH ht (⟨rfl, rfl, rfl, rfl, rfl, rfl⟩)) hS.2.2 d_Rec_count_12

set_option maxHeartbeats 4000000 in
set_option maxRecDepth 100000 in
/-- seek -/
theorem c_Rec_seek {l : Launch} {D : va_G} {cA : Nat → ClassId} {te mi : Nat} {kd ln : Nat → Nat} {I : Nat → Nat → Int32} {L : Nat → Nat → Int64} {R : Nat → Nat → Option Nat} {X : Nat} {a9 e9 : Nat → Nat} {c9 : Nat → Nat → Int32} {d9 : Nat → Nat → Int64} {g9 : Nat → Nat → Nat} (hm : zkR X te a9 e9 c9 d9 g9 kd ln I L R) {k : Nat} (hk4 : k < 4) (hgk : g9 0 k ≠ 0) {t : Int32} : zc_M l y_Rec_seek w_Rec_seek { frames := 4, cells := 0, slots := 0, locals := 87 } 0 0 D cA te mi ([.ref X, .int (nI k), .int t] : List Value) kd ln I L R (zc_eq (some (.int (zk_sk c9 k (g9 2 k) t (g9 2 k - g9 1 k)))) kd ln I L R) := by
  intro sz
  refine Met.ofW (cc := b_Rec_seek) (maxL := 4) (ret := (some (.int))) (by decide +kernel) rfl ?_
  intro p e s m args below meth c s₁ B hml hv
  obtain ⟨rfl, hsz, hSc, hE, hH⟩ := hv
  have hx := B.exec
  have hb := B.bytes
  have hr := B.returns
  have hts := atoms_spec (ws := w_Rec_seek) B.pre
  have hw : ∀ {w : Cond}, w ∈ zw → w.before ([.ref X, .int (nI k), .int t] : List Value).toArray s = true := fun h => hts _ (List.mem_cons_of_mem _ h)
  have hown : s.vm.findClass R_Rec = some m.cls := findClass_of_methodNamed B.named
  have hlocks := B.notSynchronized
  subst hsz
  have hK := hSc.1
  have hH : zh_H D cA (zc_A kd s.heap.size) kd ln I L R s.heap := hH.weaken (fun q h _ => Or.inl h)
  generalize hAe : zc_A kd s.heap.size = A at hH hE ⊢
  have hA : ∀ q : Nat, s.heap.size ≤ q → A q := fun q h => by rw [← hAe]; exact Or.inr h
  have hS : va_S A s.heap s.heap [] := va_S.rf
  have hl := lv_entry ([.ref X, .int (nI k), .int t] : List Value) (n := 4) (Nat.le_of_ble_eq_true rfl)
  rw [lg_entry_eq]
  generalize (lg_sl ([.ref X, .int (nI k), .int t] : List Value) ++ List.replicate (4 - (lg_sl ([.ref X, .int (nI k), .int t] : List Value)).length) Slot.unset).toArray = ls at hl ⊢
  have hl : lv_has ls 4 [(0, .ref X), (1, .int (nI k)), (2, .int t)] := hl
  refine lv_aload_n hx hb d_Rec_seek_0 rfl (lv_at hl 0 rfl) ?_
  refine lv_iload_n hx hb d_Rec_seek_1 rfl (lv_at hl 1 rfl) ?_
  refine zr_V (As := ([.int (nI k)] : List Value)) (rest := []) (b := X) (ci := 0) (q := (R_Rec, T_Rec, 6)) ⟨hx, hb, hml, hown, hts⟩ (c_Rec_madeStore_S hm (by omega) hgk) ⟨(callB_of 1 hts (zg_all zw_195) rfl rfl rfl (hw zw_1) (hw zw_192) k_Rec_madeStore.2 ⟨Nat.le_of_ble_eq_true rfl, Nat.le_of_ble_eq_true rfl⟩), (hw zw_194), (hw zs_Rec_madeStore)⟩ hSc hE hH hS hA rfl (by decide) hm.2.2.1.1 rfl hl.1 rfl (Nat.le_of_ble_eq_true rfl) d_Rec_seek_2 ⟨Nat.le_of_ble_eq_true rfl, Nat.le_of_ble_eq_true rfl⟩ (fun v1 kd1 ln1 I1 L1 R1 H locs hp hH hS => ?_)
  obtain ⟨rfl, rfl, rfl, rfl, rfl, rfl⟩ := hp
  refine W.eq (g2 := F0 m 5 ls [.ref (a9 (10 + k))]) rfl ?_
  refine W.widen (k := 0) (n := 0) (by omega) (by omega) ?_
  refine lv_astore_n (lv' := [(3, .ref (a9 (10 + k))), (0, .ref X), (1, .int (nI k)), (2, .int t)]) hx hb d_Rec_seek_5 rfl hl (by decide) rfl (fun ls hl => ?_)
  refine lv_aload_n hx hb d_Rec_seek_6 rfl (lv_at hl 0 rfl) ?_
  refine lv_ifnonnull (tgt := 14) hx hb d_Rec_seek_7 (by decide) ?_
  refine lv_aload_n hx hb d_Rec_seek_14 rfl (lv_at hl 0 rfl) ?_
  refine lv_iload_n hx hb d_Rec_seek_15 rfl (lv_at hl 3 rfl) ?_
  refine zr_V (As := ([.int t] : List Value)) (rest := []) (b := a9 (10 + k)) (ci := 2) (q := (R_St, T_St, 10)) ⟨hx, hb, hml, hown, hts⟩ (c_St_leastPositionSince hm hk4 hgk) ⟨(callB_of 1 hts (zg_all zw_487) rfl rfl rfl (hw zw_4) (hw zw_484) k_St_leastPositionSince.2 ⟨Nat.le_of_ble_eq_true rfl, Nat.le_of_ble_eq_true rfl⟩), (hw zw_485), (hw zw_486)⟩ hSc hE hH hS hA rfl (by decide) ((zkR_k hm (zk_lv1 (by omega) hgk)).trans (zk_k1 (by omega))) rfl hl.1 rfl (Nat.le_of_ble_eq_true rfl) d_Rec_seek_16 ⟨Nat.le_of_ble_eq_true rfl, Nat.le_of_ble_eq_true rfl⟩ (fun v2 kd2 ln2 I2 L2 R2 H locs hp hH hS => ?_)
  obtain ⟨rfl, rfl, rfl, rfl, rfl, rfl⟩ := hp
  refine W.eq (g2 := F0 m 19 ls [.int (zk_sk c9 k (g9 2 k) t (g9 2 k - g9 1 k))]) rfl ?_
  refine W.widen (k := 0) (n := 0) (by omega) (by omega) ?_
  refine W.widen (k := 0) (n := 0) (Nat.le_of_ble_eq_true rfl) (Nat.le_of_ble_eq_true rfl) ?_
  subst hAe
  exact W.iret (v := zk_sk c9 k (g9 2 k) t (g9 2 k - g9 1 k)) hx hb hr (fun t ht hW => zc_end hS hH ht (⟨rfl, rfl, rfl, rfl, rfl, rfl⟩)) hS.2.2 d_Rec_seek_19

set_option maxHeartbeats 4000000 in
set_option maxRecDepth 100000 in
/-- seek, of no store -/
theorem c_Rec_seek_N {l : Launch} {D : va_G} {cA : Nat → ClassId} {te mi : Nat} {kd ln : Nat → Nat} {I : Nat → Nat → Int32} {L : Nat → Nat → Int64} {R : Nat → Nat → Option Nat} {X : Nat} {a9 e9 : Nat → Nat} {c9 : Nat → Nat → Int32} {d9 : Nat → Nat → Int64} {g9 : Nat → Nat → Nat} (hm : zkR X te a9 e9 c9 d9 g9 kd ln I L R) {x t : Int32} (hmd : zk_md g9 x = none) : zc_M l y_Rec_seek w_Rec_seek { frames := 4, cells := 0, slots := 0, locals := 87 } 0 0 D cA te mi ([.ref X, .int x, .int t] : List Value) kd ln I L R (zc_eq (some (.int (-1))) kd ln I L R) := by
  intro sz
  refine Met.ofW (cc := b_Rec_seek) (maxL := 4) (ret := (some (.int))) (by decide +kernel) rfl ?_
  intro p e s m args below meth c s₁ B hml hv
  obtain ⟨rfl, hsz, hSc, hE, hH⟩ := hv
  have hx := B.exec
  have hb := B.bytes
  have hr := B.returns
  have hts := atoms_spec (ws := w_Rec_seek) B.pre
  have hw : ∀ {w : Cond}, w ∈ zw → w.before ([.ref X, .int x, .int t] : List Value).toArray s = true := fun h => hts _ (List.mem_cons_of_mem _ h)
  have hown : s.vm.findClass R_Rec = some m.cls := findClass_of_methodNamed B.named
  have hlocks := B.notSynchronized
  subst hsz
  have hK := hSc.1
  have hH : zh_H D cA (zc_A kd s.heap.size) kd ln I L R s.heap := hH.weaken (fun q h _ => Or.inl h)
  generalize hAe : zc_A kd s.heap.size = A at hH hE ⊢
  have hA : ∀ q : Nat, s.heap.size ≤ q → A q := fun q h => by rw [← hAe]; exact Or.inr h
  have hS : va_S A s.heap s.heap [] := va_S.rf
  have hl := lv_entry ([.ref X, .int x, .int t] : List Value) (n := 4) (Nat.le_of_ble_eq_true rfl)
  rw [lg_entry_eq]
  generalize (lg_sl ([.ref X, .int x, .int t] : List Value) ++ List.replicate (4 - (lg_sl ([.ref X, .int x, .int t] : List Value)).length) Slot.unset).toArray = ls at hl ⊢
  have hl : lv_has ls 4 [(0, .ref X), (1, .int x), (2, .int t)] := hl
  refine lv_aload_n hx hb d_Rec_seek_0 rfl (lv_at hl 0 rfl) ?_
  refine lv_iload_n hx hb d_Rec_seek_1 rfl (lv_at hl 1 rfl) ?_
  refine zr_V (As := ([.int x] : List Value)) (rest := []) (b := X) (ci := 0) (q := (R_Rec, T_Rec, 6)) ⟨hx, hb, hml, hown, hts⟩ (c_Rec_madeStore_N hm hmd) ⟨(callB_of 1 hts (zg_all zw_195) rfl rfl rfl (hw zw_1) (hw zw_192) k_Rec_madeStore.2 ⟨Nat.le_of_ble_eq_true rfl, Nat.le_of_ble_eq_true rfl⟩), (hw zw_194), (hw zs_Rec_madeStore)⟩ hSc hE hH hS hA rfl (by decide) hm.2.2.1.1 rfl hl.1 rfl (Nat.le_of_ble_eq_true rfl) d_Rec_seek_2 ⟨Nat.le_of_ble_eq_true rfl, Nat.le_of_ble_eq_true rfl⟩ (fun v1 kd1 ln1 I1 L1 R1 H locs hp hH hS => ?_)
  obtain ⟨rfl, rfl, rfl, rfl, rfl, rfl⟩ := hp
  refine W.eq (g2 := F0 m 5 ls [.null]) rfl ?_
  refine W.widen (k := 0) (n := 0) (by omega) (by omega) ?_
  refine lv_astore_nN (lv' := [(3, .null), (0, .ref X), (1, .int x), (2, .int t)]) hx hb d_Rec_seek_5 rfl hl (by decide) rfl (fun ls hl => ?_)
  refine lv_aload_nN hx hb d_Rec_seek_6 rfl (lv_at hl 0 rfl) ?_
  refine lv_ifnonnullN hx hb d_Rec_seek_7 ?_
  refine lv_iconst (v := (-1)) hx hb d_Rec_seek_10 (by decide) ?_
  refine lv_goto (tgt := 19) hx hb d_Rec_seek_11 (by decide) ?_
  refine W.widen (k := 0) (n := 0) (Nat.le_of_ble_eq_true rfl) (Nat.le_of_ble_eq_true rfl) ?_
  subst hAe
  exact W.iret (v := (-1)) hx hb hr (fun t ht hW => zc_end hS hH ht (⟨rfl, rfl, rfl, rfl, rfl, rfl⟩)) hS.2.2 d_Rec_seek_19

set_option maxHeartbeats 4000000 in
set_option maxRecDepth 100000 in
/-- packetByte -/
theorem c_Rec_packetByte {l : Launch} {D : va_G} {cA : Nat → ClassId} {te mi : Nat} {kd ln : Nat → Nat} {I : Nat → Nat → Int32} {L : Nat → Nat → Int64} {R : Nat → Nat → Option Nat} {X : Nat} {a9 e9 : Nat → Nat} {c9 : Nat → Nat → Int32} {d9 : Nat → Nat → Int64} {g9 : Nat → Nat → Nat} (hm : zkR X te a9 e9 c9 d9 g9 kd ln I L R) {k : Nat} (hk4 : k < 4) (hgk : g9 0 k ≠ 0) (hnx : c9 (10 + k) 8 = nI (g9 2 k)) (hnx1 : g9 2 k < 2 ^ 30) (hlo : g9 1 k ≤ g9 2 k) {x : Nat} {z : Int32} (hx1 : g9 1 k ≤ x) (hx2 : x < g9 2 k) (hsz : g9 4 (zk_p k x + 1) ≤ 66) : zc_M l y_Rec_packetByte w_Rec_packetByte { frames := 5, cells := 0, slots := 0, locals := 109 } 0 0 D cA te mi ([.ref X, .int (nI k), .int (nI x), .int z] : List Value) kd ln I L R (zc_eq (some (.int (zk_bt (c9 (zk_p k x + 1)) (g9 4 (zk_p k x + 1)) z))) kd ln I L R) := by
  intro sz
  refine Met.ofW (cc := b_Rec_packetByte) (maxL := 5) (ret := (some (.int))) (by decide +kernel) rfl ?_
  intro p e s m args below meth c s₁ B hml hv
  obtain ⟨rfl, hsz, hSc, hE, hH⟩ := hv
  have hx := B.exec
  have hb := B.bytes
  have hr := B.returns
  have hts := atoms_spec (ws := w_Rec_packetByte) B.pre
  have hw : ∀ {w : Cond}, w ∈ zw → w.before ([.ref X, .int (nI k), .int (nI x), .int z] : List Value).toArray s = true := fun h => hts _ (List.mem_cons_of_mem _ h)
  have hown : s.vm.findClass R_Rec = some m.cls := findClass_of_methodNamed B.named
  have hlocks := B.notSynchronized
  subst hsz
  have hK := hSc.1
  have hH : zh_H D cA (zc_A kd s.heap.size) kd ln I L R s.heap := hH.weaken (fun q h _ => Or.inl h)
  generalize hAe : zc_A kd s.heap.size = A at hH hE ⊢
  have hA : ∀ q : Nat, s.heap.size ≤ q → A q := fun q h => by rw [← hAe]; exact Or.inr h
  have hS : va_S A s.heap s.heap [] := va_S.rf
  have hl := lv_entry ([.ref X, .int (nI k), .int (nI x), .int z] : List Value) (n := 5) (Nat.le_of_ble_eq_true rfl)
  rw [lg_entry_eq]
  generalize (lg_sl ([.ref X, .int (nI k), .int (nI x), .int z] : List Value) ++ List.replicate (5 - (lg_sl ([.ref X, .int (nI k), .int (nI x), .int z] : List Value)).length) Slot.unset).toArray = ls at hl ⊢
  have hl : lv_has ls 5 [(0, .ref X), (1, .int (nI k)), (2, .int (nI x)), (3, .int z)] := hl
  refine lv_aload_n hx hb d_Rec_packetByte_0 rfl (lv_at hl 0 rfl) ?_
  refine lv_iload_n hx hb d_Rec_packetByte_1 rfl (lv_at hl 1 rfl) ?_
  refine lv_iload_n hx hb d_Rec_packetByte_2 rfl (lv_at hl 2 rfl) ?_
  refine zr_V (As := ([.int (nI k), .int (nI x)] : List Value)) (rest := []) (b := X) (ci := 0) (q := (R_Rec, T_Rec, 6)) ⟨hx, hb, hml, hown, hts⟩ (c_Rec_keptPacket_S hm hk4 hgk hnx hnx1 hlo hx1 hx2) ⟨(callB_of 2 hts (zg_all zw_455) rfl rfl rfl (hw zw_1) (hw zw_452) k_Rec_keptPacket.2 ⟨Nat.le_of_ble_eq_true rfl, Nat.le_of_ble_eq_true rfl⟩), (hw zw_454), (hw zs_Rec_keptPacket)⟩ hSc hE hH hS hA rfl (by decide) hm.2.2.1.1 rfl hl.1 rfl (Nat.le_of_ble_eq_true rfl) d_Rec_packetByte_3 ⟨Nat.le_of_ble_eq_true rfl, Nat.le_of_ble_eq_true rfl⟩ (fun v1 kd1 ln1 I1 L1 R1 H locs hp hH hS => ?_)
  obtain ⟨rfl, rfl, rfl, rfl, rfl, rfl⟩ := hp
  refine W.eq (g2 := F0 m 6 ls [.ref (a9 (zk_p k x))]) rfl ?_
  refine W.widen (k := 0) (n := 0) (by omega) (by omega) ?_
  refine lv_astore (lv' := [(4, .ref (a9 (zk_p k x))), (0, .ref X), (1, .int (nI k)), (2, .int (nI x)), (3, .int z)]) hx hb d_Rec_packetByte_6 hl (by decide) rfl (fun ls hl => ?_)
  refine lv_aload hx hb d_Rec_packetByte_8 (lv_at hl 0 rfl) ?_
  refine lv_ifnonnull (tgt := 17) hx hb d_Rec_packetByte_10 (by decide) ?_
  refine lv_aload hx hb d_Rec_packetByte_17 (lv_at hl 0 rfl) ?_
  refine lv_iload_n hx hb d_Rec_packetByte_19 rfl (lv_at hl 4 rfl) ?_
  refine zr_V (As := ([.int z] : List Value)) (rest := []) (b := a9 (zk_p k x)) (ci := 3) (q := (R_Pk, T_Pk, 8)) ⟨hx, hb, hml, hown, hts⟩ (c_Pk_byteThatTells ((zkR_k hm (zk_lvp hk4 hgk hx1 hx2)).trans zk_kp) (zkR_tl hm hk4 hgk hx1 hx2) ((zkR_k hm (zk_lvt hk4 hgk hx1 hx2)).trans zk_kt) ((zkR_n hm (zk_lvt hk4 hgk hx1 hx2) (by rw [zk_kt]; decide)).trans zk_np) hsz) ⟨(callB_of 1 hts (zg_all zw_439) rfl rfl rfl (hw zw_12) (hw zw_479) k_Pk_byteThatTells.2 ⟨Nat.le_of_ble_eq_true rfl, Nat.le_of_ble_eq_true rfl⟩), (hw zw_437), (hw zw_438)⟩ hSc hE hH hS hA rfl (by decide) ((zkR_k hm (zk_lvp (by omega) hgk (by omega) (by omega))).trans zk_kp) rfl hl.1 rfl (Nat.le_of_ble_eq_true rfl) d_Rec_packetByte_20 ⟨Nat.le_of_ble_eq_true rfl, Nat.le_of_ble_eq_true rfl⟩ (fun v2 kd2 ln2 I2 L2 R2 H locs hp hH hS => ?_)
  obtain ⟨rfl, rfl, rfl, rfl, rfl, rfl⟩ := hp
  rw [show I (a9 (zk_p k x + 1)) = c9 (zk_p k x + 1) from zkR_i hm (zk_lvt hk4 hgk hx1 hx2)]
  refine W.eq (g2 := F0 m 23 ls [.int (zk_bt (c9 (zk_p k x + 1)) (g9 4 (zk_p k x + 1)) z)]) rfl ?_
  refine W.widen (k := 0) (n := 0) (by omega) (by omega) ?_
  refine W.widen (k := 0) (n := 0) (Nat.le_of_ble_eq_true rfl) (Nat.le_of_ble_eq_true rfl) ?_
  subst hAe
  exact W.iret (v := zk_bt (c9 (zk_p k x + 1)) (g9 4 (zk_p k x + 1)) z) hx hb hr (fun t ht hW => zc_end hS hH ht (⟨rfl, rfl, rfl, rfl, rfl, rfl⟩)) hS.2.2 d_Rec_packetByte_23

set_option maxHeartbeats 4000000 in
set_option maxRecDepth 100000 in
/-- packetByte, of none -/
theorem c_Rec_packetByte_O {l : Launch} {D : va_G} {cA : Nat → ClassId} {te mi : Nat} {kd ln : Nat → Nat} {I : Nat → Nat → Int32} {L : Nat → Nat → Int64} {R : Nat → Nat → Option Nat} {X : Nat} {a9 e9 : Nat → Nat} {c9 : Nat → Nat → Int32} {d9 : Nat → Nat → Int64} {g9 : Nat → Nat → Nat} (hm : zkR X te a9 e9 c9 d9 g9 kd ln I L R) {k : Nat} (hk4 : k < 4) (hgk : g9 0 k ≠ 0) (hnx : c9 (10 + k) 8 = nI (g9 2 k)) (hnx1 : g9 2 k < 2 ^ 30) (hlo : g9 1 k ≤ g9 2 k) {x z : Int32} (hxb : x < nI (g9 1 k) ∨ ¬ x < nI (g9 2 k)) : zc_M l y_Rec_packetByte w_Rec_packetByte { frames := 5, cells := 0, slots := 0, locals := 109 } 0 0 D cA te mi ([.ref X, .int (nI k), .int x, .int z] : List Value) kd ln I L R (zc_eq (some (.int (-1))) kd ln I L R) := by
  intro sz
  refine Met.ofW (cc := b_Rec_packetByte) (maxL := 5) (ret := (some (.int))) (by decide +kernel) rfl ?_
  intro p e s m args below meth c s₁ B hml hv
  obtain ⟨rfl, hsz, hSc, hE, hH⟩ := hv
  have hx := B.exec
  have hb := B.bytes
  have hr := B.returns
  have hts := atoms_spec (ws := w_Rec_packetByte) B.pre
  have hw : ∀ {w : Cond}, w ∈ zw → w.before ([.ref X, .int (nI k), .int x, .int z] : List Value).toArray s = true := fun h => hts _ (List.mem_cons_of_mem _ h)
  have hown : s.vm.findClass R_Rec = some m.cls := findClass_of_methodNamed B.named
  have hlocks := B.notSynchronized
  subst hsz
  have hK := hSc.1
  have hH : zh_H D cA (zc_A kd s.heap.size) kd ln I L R s.heap := hH.weaken (fun q h _ => Or.inl h)
  generalize hAe : zc_A kd s.heap.size = A at hH hE ⊢
  have hA : ∀ q : Nat, s.heap.size ≤ q → A q := fun q h => by rw [← hAe]; exact Or.inr h
  have hS : va_S A s.heap s.heap [] := va_S.rf
  have hl := lv_entry ([.ref X, .int (nI k), .int x, .int z] : List Value) (n := 5) (Nat.le_of_ble_eq_true rfl)
  rw [lg_entry_eq]
  generalize (lg_sl ([.ref X, .int (nI k), .int x, .int z] : List Value) ++ List.replicate (5 - (lg_sl ([.ref X, .int (nI k), .int x, .int z] : List Value)).length) Slot.unset).toArray = ls at hl ⊢
  have hl : lv_has ls 5 [(0, .ref X), (1, .int (nI k)), (2, .int x), (3, .int z)] := hl
  refine lv_aload_n hx hb d_Rec_packetByte_0 rfl (lv_at hl 0 rfl) ?_
  refine lv_iload_n hx hb d_Rec_packetByte_1 rfl (lv_at hl 1 rfl) ?_
  refine lv_iload_n hx hb d_Rec_packetByte_2 rfl (lv_at hl 2 rfl) ?_
  refine zr_V (As := ([.int (nI k), .int x] : List Value)) (rest := []) (b := X) (ci := 0) (q := (R_Rec, T_Rec, 6)) ⟨hx, hb, hml, hown, hts⟩ (c_Rec_keptPacket_O hm hk4 hgk hnx hnx1 hlo hxb) ⟨(callB_of 2 hts (zg_all zw_455) rfl rfl rfl (hw zw_1) (hw zw_452) k_Rec_keptPacket.2 ⟨Nat.le_of_ble_eq_true rfl, Nat.le_of_ble_eq_true rfl⟩), (hw zw_454), (hw zs_Rec_keptPacket)⟩ hSc hE hH hS hA rfl (by decide) hm.2.2.1.1 rfl hl.1 rfl (Nat.le_of_ble_eq_true rfl) d_Rec_packetByte_3 ⟨Nat.le_of_ble_eq_true rfl, Nat.le_of_ble_eq_true rfl⟩ (fun v1 kd1 ln1 I1 L1 R1 H locs hp hH hS => ?_)
  obtain ⟨rfl, rfl, rfl, rfl, rfl, rfl⟩ := hp
  refine W.eq (g2 := F0 m 6 ls [.null]) rfl ?_
  refine W.widen (k := 0) (n := 0) (by omega) (by omega) ?_
  refine lv_astoreN (lv' := [(4, .null), (0, .ref X), (1, .int (nI k)), (2, .int x), (3, .int z)]) hx hb d_Rec_packetByte_6 hl (by decide) rfl (fun ls hl => ?_)
  refine lv_aloadN hx hb d_Rec_packetByte_8 (lv_at hl 0 rfl) ?_
  refine lv_ifnonnullN hx hb d_Rec_packetByte_10 ?_
  refine lv_iconst (v := (-1)) hx hb d_Rec_packetByte_13 (by decide) ?_
  refine lv_goto (tgt := 23) hx hb d_Rec_packetByte_14 (by decide) ?_
  refine W.widen (k := 0) (n := 0) (Nat.le_of_ble_eq_true rfl) (Nat.le_of_ble_eq_true rfl) ?_
  subst hAe
  exact W.iret (v := (-1)) hx hb hr (fun t ht hW => zc_end hS hH ht (⟨rfl, rfl, rfl, rfl, rfl, rfl⟩)) hS.2.2 d_Rec_packetByte_23

set_option maxHeartbeats 4000000 in
set_option maxRecDepth 100000 in
/-- packetByte, of none -/
theorem c_Rec_packetByte_N {l : Launch} {D : va_G} {cA : Nat → ClassId} {te mi : Nat} {kd ln : Nat → Nat} {I : Nat → Nat → Int32} {L : Nat → Nat → Int64} {R : Nat → Nat → Option Nat} {X : Nat} {a9 e9 : Nat → Nat} {c9 : Nat → Nat → Int32} {d9 : Nat → Nat → Int64} {g9 : Nat → Nat → Nat} (hm : zkR X te a9 e9 c9 d9 g9 kd ln I L R) {x y z : Int32} (hmd : zk_md g9 x = none) : zc_M l y_Rec_packetByte w_Rec_packetByte { frames := 5, cells := 0, slots := 0, locals := 109 } 0 0 D cA te mi ([.ref X, .int x, .int y, .int z] : List Value) kd ln I L R (zc_eq (some (.int (-1))) kd ln I L R) := by
  intro sz
  refine Met.ofW (cc := b_Rec_packetByte) (maxL := 5) (ret := (some (.int))) (by decide +kernel) rfl ?_
  intro p e s m args below meth c s₁ B hml hv
  obtain ⟨rfl, hsz, hSc, hE, hH⟩ := hv
  have hx := B.exec
  have hb := B.bytes
  have hr := B.returns
  have hts := atoms_spec (ws := w_Rec_packetByte) B.pre
  have hw : ∀ {w : Cond}, w ∈ zw → w.before ([.ref X, .int x, .int y, .int z] : List Value).toArray s = true := fun h => hts _ (List.mem_cons_of_mem _ h)
  have hown : s.vm.findClass R_Rec = some m.cls := findClass_of_methodNamed B.named
  have hlocks := B.notSynchronized
  subst hsz
  have hK := hSc.1
  have hH : zh_H D cA (zc_A kd s.heap.size) kd ln I L R s.heap := hH.weaken (fun q h _ => Or.inl h)
  generalize hAe : zc_A kd s.heap.size = A at hH hE ⊢
  have hA : ∀ q : Nat, s.heap.size ≤ q → A q := fun q h => by rw [← hAe]; exact Or.inr h
  have hS : va_S A s.heap s.heap [] := va_S.rf
  have hl := lv_entry ([.ref X, .int x, .int y, .int z] : List Value) (n := 5) (Nat.le_of_ble_eq_true rfl)
  rw [lg_entry_eq]
  generalize (lg_sl ([.ref X, .int x, .int y, .int z] : List Value) ++ List.replicate (5 - (lg_sl ([.ref X, .int x, .int y, .int z] : List Value)).length) Slot.unset).toArray = ls at hl ⊢
  have hl : lv_has ls 5 [(0, .ref X), (1, .int x), (2, .int y), (3, .int z)] := hl
  refine lv_aload_n hx hb d_Rec_packetByte_0 rfl (lv_at hl 0 rfl) ?_
  refine lv_iload_n hx hb d_Rec_packetByte_1 rfl (lv_at hl 1 rfl) ?_
  refine lv_iload_n hx hb d_Rec_packetByte_2 rfl (lv_at hl 2 rfl) ?_
  refine zr_V (As := ([.int x, .int y] : List Value)) (rest := []) (b := X) (ci := 0) (q := (R_Rec, T_Rec, 6)) ⟨hx, hb, hml, hown, hts⟩ (c_Rec_keptPacket_N hm hmd) ⟨(callB_of 2 hts (zg_all zw_455) rfl rfl rfl (hw zw_1) (hw zw_452) k_Rec_keptPacket.2 ⟨Nat.le_of_ble_eq_true rfl, Nat.le_of_ble_eq_true rfl⟩), (hw zw_454), (hw zs_Rec_keptPacket)⟩ hSc hE hH hS hA rfl (by decide) hm.2.2.1.1 rfl hl.1 rfl (Nat.le_of_ble_eq_true rfl) d_Rec_packetByte_3 ⟨Nat.le_of_ble_eq_true rfl, Nat.le_of_ble_eq_true rfl⟩ (fun v1 kd1 ln1 I1 L1 R1 H locs hp hH hS => ?_)
  obtain ⟨rfl, rfl, rfl, rfl, rfl, rfl⟩ := hp
  refine W.eq (g2 := F0 m 6 ls [.null]) rfl ?_
  refine W.widen (k := 0) (n := 0) (by omega) (by omega) ?_
  refine lv_astoreN (lv' := [(4, .null), (0, .ref X), (1, .int x), (2, .int y), (3, .int z)]) hx hb d_Rec_packetByte_6 hl (by decide) rfl (fun ls hl => ?_)
  refine lv_aloadN hx hb d_Rec_packetByte_8 (lv_at hl 0 rfl) ?_
  refine lv_ifnonnullN hx hb d_Rec_packetByte_10 ?_
  refine lv_iconst (v := (-1)) hx hb d_Rec_packetByte_13 (by decide) ?_
  refine lv_goto (tgt := 23) hx hb d_Rec_packetByte_14 (by decide) ?_
  refine W.widen (k := 0) (n := 0) (Nat.le_of_ble_eq_true rfl) (Nat.le_of_ble_eq_true rfl) ?_
  subst hAe
  exact W.iret (v := (-1)) hx hb hr (fun t ht hW => zc_end hS hH ht (⟨rfl, rfl, rfl, rfl, rfl, rfl⟩)) hS.2.2 d_Rec_packetByte_23

set_option maxHeartbeats 4000000 in
set_option maxRecDepth 100000 in
/-- put -/
theorem c_Rec_put {l : Launch} {D : va_G} {cA : Nat → ClassId} {te mi : Nat} {kd ln : Nat → Nat} {I : Nat → Nat → Int32} {L : Nat → Nat → Int64} {R : Nat → Nat → Option Nat} {X : Nat} {a9 e9 : Nat → Nat} {c9 : Nat → Nat → Int32} {d9 : Nat → Nat → Int64} {g9 : Nat → Nat → Nat} (hm : zkR X te a9 e9 c9 d9 g9 kd ln I L R) {j : Nat} {v : Int64} (hj : j < 60) : zc_M l y_Rec_put w_Rec_put { frames := 1, cells := 0, slots := 0, locals := 21 } 0 0 D cA te mi ([.ref X, .int (nI j), .long v] : List Value) kd ln I L R (zk_P (some (.int (nI 1))) X te a9 e9 (va_up c9 2 (zk_bu (c9 2) j v (min (j + 8) 60))) d9 g9 kd ln) := by
  intro sz
  refine Met.ofW (cc := b_Rec_put) (maxL := 6) (ret := (some (.boolean))) (by decide +kernel) rfl ?_
  intro p e s m args below meth c s₁ B hml hv
  obtain ⟨rfl, hsz, hSc, hE, hH⟩ := hv
  have hx := B.exec
  have hb := B.bytes
  have hr := B.returns
  have hts := atoms_spec (ws := w_Rec_put) B.pre
  have hw : ∀ {w : Cond}, w ∈ zw → w.before ([.ref X, .int (nI j), .long v] : List Value).toArray s = true := fun h => hts _ (List.mem_cons_of_mem _ h)
  have hown : s.vm.findClass R_Rec = some m.cls := findClass_of_methodNamed B.named
  have hlocks := B.notSynchronized
  subst hsz
  have hK := hSc.1
  have hH : zh_H D cA (zc_A kd s.heap.size) kd ln I L R s.heap := hH.weaken (fun q h _ => Or.inl h)
  generalize hAe : zc_A kd s.heap.size = A at hH hE ⊢
  have hA : ∀ q : Nat, s.heap.size ≤ q → A q := fun q h => by rw [← hAe]; exact Or.inr h
  have hS : va_S A s.heap s.heap [] := va_S.rf
  have hl := lv_entry ([.ref X, .int (nI j), .long v] : List Value) (n := 6) (Nat.le_of_ble_eq_true rfl)
  rw [lg_entry_eq]
  generalize (lg_sl ([.ref X, .int (nI j), .long v] : List Value) ++ List.replicate (6 - (lg_sl ([.ref X, .int (nI j), .long v] : List Value)).length) Slot.unset).toArray = ls at hl ⊢
  have hl : lv_has ls 6 [(0, .ref X), (1, .int (nI j)), (2, .long v)] := hl
  refine lv_iload_n hx hb d_Rec_put_0 rfl (lv_at hl 1 rfl) ?_
  refine lv_if_lt (tgt := 10) hx hb d_Rec_put_1 (by decide) (fun hc1 => ?_) (fun hc1 => ?_)
  · skip
    have hc1 := zt_ltT (a := j) (b := 0) (by omega) (by omega) hc1
    exact absurd hc1 (by omega)
  · skip
    have hc1 := zt_ltF (a := j) (b := 0) (by omega) (by omega) hc1
    refine lv_iload_n hx hb d_Rec_put_4 rfl (lv_at hl 1 rfl) ?_
    refine lv_bipush (v := nI 60) hx hb d_Rec_put_5 (by decide) ?_
    refine lv_icmp_lt (tgt := 12) hx hb d_Rec_put_7 (by decide) (fun hc2 => ?_) (fun hc2 => ?_)
    · skip
      have hc2 := zt_ltT (a := j) (b := 60) (by omega) (by omega) hc2
      refine lv_iload_n hx hb d_Rec_put_12 rfl (lv_at hl 1 rfl) ?_
      refine lv_bipush (v := nI 8) hx hb d_Rec_put_13 (by decide) ?_
      refine lv_iadd hx hb d_Rec_put_15 ?_
      refine zt_i (y := nI (j + 8)) (nI_add j 8) ?_
      refine lv_bipush (v := nI 60) hx hb d_Rec_put_16 (by decide) ?_
      refine zr_St (As := ([.int (nI (j + 8)), .int (nI 60)] : List Value)) (rest := []) ⟨hx, hb, hml, hown, hts⟩ (c_Mth_min (by omega) (by omega)) ⟨(callB_of 2 hts (zg_all zw_234) rfl rfl rfl (hw zw_11) (hw zw_232) k_Mth_min.2 ⟨Nat.le_of_ble_eq_true rfl, Nat.le_of_ble_eq_true rfl⟩), hw zw_233⟩ hSc hE hH hS hA rfl hl.1 rfl (Nat.le_of_ble_eq_true rfl) d_Rec_put_18 ⟨Nat.le_of_ble_eq_true rfl, Nat.le_of_ble_eq_true rfl⟩ (fun v3 kd3 ln3 I3 L3 R3 H locs hp hH hS => ?_)
      obtain ⟨rfl, rfl, rfl, rfl, rfl, rfl⟩ := hp
      refine W.eq (g2 := F0 m 21 ls [.int (nI (min (j + 8) 60))]) rfl ?_
      refine W.widen (k := 0) (n := 0) (by omega) (by omega) ?_
      refine lv_istore (lv' := [(4, .int (nI (min (j + 8) 60))), (0, .ref X), (1, .int (nI j)), (2, .long v)]) hx hb d_Rec_put_21 hl (by decide) rfl (fun ls hl => ?_)
      refine lv_iload_n hx hb d_Rec_put_23 rfl (lv_at hl 2 rfl) ?_
      refine lv_istore (lv' := [(5, .int (nI j)), (4, .int (nI (min (j + 8) 60))), (0, .ref X), (1, .int (nI j)), (2, .long v)]) hx hb d_Rec_put_24 hl (by decide) rfl (fun ls hl => ?_)
      have loop_26 : ∀ (z : Nat) (n : Nat) (I_26 : Nat → Nat → Int32) (L_26 : Nat → Nat → Int64) (R_26 : Nat → Nat → Option Nat) (H : Heap) (locs : List Loc) (ls : Array Slot), min (j + 8) 60 - n < z → (j ≤ n) → (n ≤ min (j + 8) 60) → (zkR X te a9 e9 (va_up c9 2 (zk_bu (c9 2) j v n)) d9 g9 kd ln I_26 L_26 R_26) → lv_has ls 6 [(0, .ref X), (1, .int (nI j)), (2, .long v), (4, .int (nI (min (j + 8) 60))), (5, .int (nI n))] → zh_H D cA A kd ln I_26 L_26 R_26 H → va_S A s.heap H locs → W p l e (headSpec w_Rec_put { frames := 1, cells := 0, slots := 0, locals := 21 }).room s m ([.ref X, .int (nI j), .long v] : List Value).toArray below meth c H locs 0 0 (MQ below (zc_Qc D cA A (zk_P (some (.int (nI 1))) X te a9 e9 (va_up c9 2 (zk_bu (c9 2) j v (min (j + 8) 60))) d9 g9 kd ln)) ([.ref X, .int (nI j), .long v] : List Value).toArray s 0 0 A) (F0 m 26 ls []) := by
        intro z
        induction z with
        | zero => intro n I_26 L_26 R_26 H locs ls hz; exact absurd hz (Nat.not_lt_zero _)
        | succ z ih_26 =>
          intro n I_26 L_26 R_26 H locs ls hz_26 hn1 hn2 hm hl hH hS
          refine lv_iload hx hb d_Rec_put_26 (lv_at hl 4 rfl) ?_
          refine lv_iload hx hb d_Rec_put_28 (lv_at hl 3 rfl) ?_
          refine lv_icmp_ge (tgt := 57) hx hb d_Rec_put_30 (by decide) (fun hc4 => ?_) (fun hc4 => ?_)
          · skip
            have hc4 := zt_geT (a := n) (b := (min (j + 8) 60)) (by omega) (by omega) hc4
            refine lv_iconst (v := nI 1) hx hb d_Rec_put_57 (by decide) ?_
            refine W.widen (k := 0) (n := 0) (Nat.le_of_ble_eq_true rfl) (Nat.le_of_ble_eq_true rfl) ?_
            subst hAe
            exact W.zret (v := nI 1) hx hb hr (by decide +kernel) (fun t ht hW => zc_end hS hH ht (⟨rfl, rfl, rfl, by rw [show n = min (j + 8) 60 by omega] at hm; exact hm⟩)) hS.2.2 d_Rec_put_58
          · skip
            have hc4 := zt_geF (a := n) (b := (min (j + 8) 60)) (by omega) (by omega) hc4
            refine lv_aload_n hx hb d_Rec_put_33 rfl (lv_at hl 0 rfl) ?_
            refine zr_getr (ci := 0) (C := R_Rec) (T := T_Rec) (N := 6) (ref := "ScrubbedRecorder") hx hb hts (fun w h => List.mem_cons_of_mem _ (zin_Rec w h)) hown hK hH hm.2.2.1.1 (by decide) rfl 3 (by decide) rfl (hw zw_67) (fun _ h9 => h9) d_Rec_put_34 hm.2.2.1.2.2.2.2.1 ?_
            refine lv_iload hx hb d_Rec_put_37 (lv_at hl 4 rfl) ?_
            refine lv_lload_n hx hb d_Rec_put_39 rfl (lv_at hl 2 rfl) ?_
            refine lv_bipush (v := nI 8) hx hb d_Rec_put_40 (by decide) ?_
            refine lv_iload hx hb d_Rec_put_42 (lv_at hl 4 rfl) ?_
            refine lv_iload_n hx hb d_Rec_put_44 rfl (lv_at hl 1 rfl) ?_
            refine lv_isub hx hb d_Rec_put_45 ?_
            refine zt_i (y := nI (n - j)) (pk_sub (by omega)) ?_
            refine lv_imul hx hb d_Rec_put_46 ?_
            refine zt_i (y := nI (8 * (n - j))) (pk_mul 8 (n - j)) ?_
            refine lv_lshr (v := v >>> ((nI (8 * (n - j))).toInt64 &&& 63)) hx hb d_Rec_put_47 rfl ?_
            refine lv_l2i (v := (v >>> ((nI (8 * (n - j))).toInt64 &&& 63)).toInt32) hx hb d_Rec_put_48 rfl ?_
            refine lv_i2b (v := ((v >>> ((nI (8 * (n - j))).toInt64 &&& 63)).toInt32).toInt8.toInt32) hx hb d_Rec_put_49 rfl ?_
            refine zr_astb (j := n) (y := ((v >>> ((nI (8 * (n - j))).toInt64 &&& 63)).toInt32).toInt8.toInt32) hx hb hK hH hS (show kd (a9 2) = 102 from zkR_k hm (zk_lv0 (by decide))) (zk_t8 _) (by rw [show ln (a9 2) = 60 from zkR_n hm (zk_lv0 (by decide)) (by decide)]; exact zh_ix_n (by omega) (by omega)) d_Rec_put_50 (fun H locs hH hS => ?_)
            have hm := zkR_I hm 2 n (((v >>> ((nI (8 * (n - j))).toInt64 &&& 63)).toInt32).toInt8.toInt32) (zk_lv0 (by decide)) (fun h9 => absurd h9 (by decide)) (fun _ => rfl)
            generalize zu I_26 (a9 2) n (((v >>> ((nI (8 * (n - j))).toInt64 &&& 63)).toInt32).toInt8.toInt32) = I5 at hm hH
            refine lv_iinc (k := 4) (v := nI (n + 1)) (lv' := [(5, .int (nI (n + 1))), (0, .ref X), (1, .int (nI j)), (2, .long v), (4, .int (nI (min (j + 8) 60)))]) hx hb d_Rec_put_51 hl rfl (nI_add n 1) (by decide) rfl (fun ls hl => ?_)
            refine lv_goto (tgt := 26) hx hb d_Rec_put_54 (by decide) ?_
            rw [zk_bu_s c9 (c9 2) v hn1] at hm
            exact ih_26 (n + 1) _ _ _ _ _ _ (by omega) (by omega) (by omega) hm (lv_sub hl [1, 2, 3, 4, 0] rfl) hH hS
      have hm : zkR X te a9 e9 (va_up c9 2 (zk_bu (c9 2) j v j)) d9 g9 kd ln I L R := by rw [zk_bu_0]; exact hm
      exact loop_26 _ j _ _ _ _ _ _ (Nat.lt_succ_self _) (by omega) (by omega) hm (lv_sub hl [2, 3, 4, 1, 0] rfl) hH hS
    · skip
      have hc2 := zt_ltF (a := j) (b := 60) (by omega) (by omega) hc2
      exact absurd hc2 (by omega)

set_option maxHeartbeats 4000000 in
set_option maxRecDepth 100000 in
/-- put, refused -/
theorem c_Rec_put_B {l : Launch} {D : va_G} {cA : Nat → ClassId} {te mi : Nat} {kd ln : Nat → Nat} {I : Nat → Nat → Int32} {L : Nat → Nat → Int64} {R : Nat → Nat → Option Nat} {X : Nat} {a9 e9 : Nat → Nat} {c9 : Nat → Nat → Int32} {d9 : Nat → Nat → Int64} {g9 : Nat → Nat → Nat} (hm : zkR X te a9 e9 c9 d9 g9 kd ln I L R) {x : Int32} {v : Int64} (hbad : x < nI 0 ∨ ¬ x < nI 60) : zc_M l y_Rec_put w_Rec_put { frames := 1, cells := 0, slots := 0, locals := 21 } 0 0 D cA te mi ([.ref X, .int x, .long v] : List Value) kd ln I L R (zk_P (some (.int (nI 0))) X te a9 e9 c9 d9 g9 kd ln) := by
  intro sz
  refine Met.ofW (cc := b_Rec_put) (maxL := 6) (ret := (some (.boolean))) (by decide +kernel) rfl ?_
  intro p e s m args below meth c s₁ B hml hv
  obtain ⟨rfl, hsz, hSc, hE, hH⟩ := hv
  have hx := B.exec
  have hb := B.bytes
  have hr := B.returns
  have hts := atoms_spec (ws := w_Rec_put) B.pre
  have hw : ∀ {w : Cond}, w ∈ zw → w.before ([.ref X, .int x, .long v] : List Value).toArray s = true := fun h => hts _ (List.mem_cons_of_mem _ h)
  have hown : s.vm.findClass R_Rec = some m.cls := findClass_of_methodNamed B.named
  have hlocks := B.notSynchronized
  subst hsz
  have hK := hSc.1
  have hH : zh_H D cA (zc_A kd s.heap.size) kd ln I L R s.heap := hH.weaken (fun q h _ => Or.inl h)
  generalize hAe : zc_A kd s.heap.size = A at hH hE ⊢
  have hA : ∀ q : Nat, s.heap.size ≤ q → A q := fun q h => by rw [← hAe]; exact Or.inr h
  have hS : va_S A s.heap s.heap [] := va_S.rf
  have hl := lv_entry ([.ref X, .int x, .long v] : List Value) (n := 6) (Nat.le_of_ble_eq_true rfl)
  rw [lg_entry_eq]
  generalize (lg_sl ([.ref X, .int x, .long v] : List Value) ++ List.replicate (6 - (lg_sl ([.ref X, .int x, .long v] : List Value)).length) Slot.unset).toArray = ls at hl ⊢
  have hl : lv_has ls 6 [(0, .ref X), (1, .int x), (2, .long v)] := hl
  refine lv_iload_n hx hb d_Rec_put_0 rfl (lv_at hl 1 rfl) ?_
  refine lv_if_lt (tgt := 10) hx hb d_Rec_put_1 (by decide) (fun hc1 => ?_) (fun hc1 => ?_)
  · skip
    have hc1 : x < (nI 0) := hc1
    refine lv_iconst (v := nI 0) hx hb d_Rec_put_10 (by decide) ?_
    refine W.widen (k := 0) (n := 0) (Nat.le_of_ble_eq_true rfl) (Nat.le_of_ble_eq_true rfl) ?_
    subst hAe
    exact W.zret (v := nI 0) hx hb hr (by decide +kernel) (fun t ht hW => zc_end hS hH ht (⟨rfl, rfl, rfl, hm⟩)) hS.2.2 d_Rec_put_11
  · skip
    have hc1 : ¬ x < (nI 0) := hc1
    refine lv_iload_n hx hb d_Rec_put_4 rfl (lv_at hl 1 rfl) ?_
    refine lv_bipush (v := nI 60) hx hb d_Rec_put_5 (by decide) ?_
    refine lv_icmp_lt (tgt := 12) hx hb d_Rec_put_7 (by decide) (fun hc2 => ?_) (fun hc2 => ?_)
    · skip
      have hc2 : x < (nI 60) := hc2
      exact absurd hbad (fun q => q.elim (by assumption) (fun z => z hc2))
    · skip
      have hc2 : ¬ x < (nI 60) := hc2
      refine lv_iconst (v := nI 0) hx hb d_Rec_put_10 (by decide) ?_
      refine W.widen (k := 0) (n := 0) (Nat.le_of_ble_eq_true rfl) (Nat.le_of_ble_eq_true rfl) ?_
      subst hAe
      exact W.zret (v := nI 0) hx hb hr (by decide +kernel) (fun t ht hW => zc_end hS hH ht (⟨rfl, rfl, rfl, hm⟩)) hS.2.2 d_Rec_put_11
