theorem zk_mp_g {α : Type} {c : Nat → Nat → α} {k a b : Nat} {G : Nat → Nat → α} {s : Nat} (h : ∀ x, G x s = c (zk_p k x) s) (hk : k < 4) (r : Nat) : zk_mp c k a b G r s = c r s := by
  unfold zk_mp
  split
  · rename_i q
    rw [h]
    congr 1
    unfold zk_p
    omega
  · rfl
theorem zk_sv_s {c : Nat → Nat → Int32} {k a b s : Nat} (h : s ≠ 6) (hk : k < 4) (r : Nat) : zk_sv c k a b r s = c r s := zk_mp_g (fun x => by unfold zk_svG; rw [va_up_ne _ _ h]) hk r
def zk_sva (c : Nat → Nat → Int32) (g : Nat → Nat → Nat) : Nat → Nat → Nat → Int32
  | 0 => c
  | k + 1 => if g 0 k = 0 then zk_sva c g k else zk_sv (zk_sva c g k) k (g 1 k) (g 2 k)
theorem zk_sva_s {c : Nat → Nat → Int32} {g : Nat → Nat → Nat} {s : Nat} (h : s ≠ 6) (r : Nat) : ∀ n, n ≤ 4 → zk_sva c g n r s = c r s
  | 0, _ => rfl
  | k + 1, hk => by
    rw [zk_sva]
    split
    · exact zk_sva_s h r k (by omega)
    · rw [zk_sv_s h (by omega)]
      exact zk_sva_s h r k (by omega)
def zk_cl (g : Nat → Nat → Nat) (k n : Nat) : Nat → Nat → Nat := fun r s => if r = 3 ∧ s < n ∧ g 3 s = k + 1 then 0 else g r s
theorem zk_cl_0 (g : Nat → Nat → Nat) (k : Nat) : zk_cl g k 0 = g := by
  funext r s
  unfold zk_cl
  rw [if_neg (by omega)]
theorem zk_cl_r {g : Nat → Nat → Nat} {k n r : Nat} (h : r ≠ 3) : zk_cl g k n r = g r := by
  funext s
  unfold zk_cl
  rw [if_neg (by omega)]
theorem zk_cl_n {g : Nat → Nat → Nat} {k n : Nat} : zk_cl g k n 3 n = g 3 n := by
  unfold zk_cl
  rw [if_neg (by omega)]
theorem zk_cl_k {g : Nat → Nat → Nat} {k n : Nat} (h : ¬ g 3 n = k + 1) : zk_cl g k n = zk_cl g k (n + 1) := by
  funext r s
  unfold zk_cl
  by_cases e : r = 3 ∧ s < n ∧ g 3 s = k + 1
  · rw [if_pos e, if_pos (by omega)]
  · rw [if_neg e, if_neg (fun q => e ⟨q.1, by
      have : s ≠ n := fun z => h (by rw [← z]; exact q.2.2)
      omega, q.2.2⟩)]
theorem zk_cl_s {g : Nat → Nat → Nat} {k n : Nat} (h : g 3 n = k + 1) : zu (zk_cl g k n) 3 n 0 = zk_cl g k (n + 1) := by
  funext r s
  rw [zu_if]
  unfold zk_cl
  by_cases e : r = 3 ∧ s = n
  · rw [if_pos e, if_pos ⟨e.1, by omega, by rw [e.2]; exact h⟩]
  · rw [if_neg e]
    by_cases e2 : r = 3 ∧ s < n ∧ g 3 s = k + 1
    · rw [if_pos e2, if_pos (by omega)]
    · rw [if_neg e2, if_neg (fun q => e2 ⟨q.1, by omega, q.2.2⟩)]
/-- the playbacks' stores are stores -/
def zk_pl (g : Nat → Nat → Nat) : Prop := ∀ p, p < 4 → g 3 p ≠ 0 → g 3 p ≤ 4 ∧ g 0 (g 3 p - 1) ≠ 0
def zk_po (g : Nat → Nat → Nat) (x : Int32) : Option Nat := if x < nI 0 then none else if x < nI 4 then (if g 3 x.toNatClampNeg = 0 then none else some x.toNatClampNeg) else none
theorem zk_po_n {g : Nat → Nat → Nat} {k : Nat} (h : k < 4) : zk_po g (nI k) = if g 3 k = 0 then none else some k := by
  unfold zk_po
  rw [if_neg (nI_nlt (Nat.zero_le _) (by omega)), if_pos (nI_lt h (by decide)), nI_clamp (by omega)]
theorem zk_po_of {g : Nat → Nat → Nat} {x : Int32} {k : Nat} (h : zk_po g x = some k) : k < 4 ∧ x = nI k ∧ g 3 k ≠ 0 := by
  unfold zk_po at h
  by_cases h1 : x < nI 0
  · rw [if_pos h1] at h
    cases h
  · rw [if_neg h1] at h
    by_cases h2 : x < nI 4
    · rw [if_pos h2] at h
      obtain ⟨j, hj, rfl⟩ := zt_ix h1 h2 (by decide)
      rw [nI_clamp (by omega)] at h
      by_cases h3 : g 3 j = 0
      · rw [if_pos h3] at h
        cases h
      · rw [if_neg h3] at h
        cases h
        exact ⟨hj, rfl, h3⟩
    · rw [if_neg h2] at h
      cases h
def zk_rsa (c : Nat → Nat → Int32) (d : Nat → Nat → Int64) (g : Nat → Nat → Nat) : Nat → (Nat → Nat → Int32) × (Nat → Nat → Int64)
  | 0 => (c, d)
  | k + 1 => if g 0 k = 0 then zk_rsa c d g k else (zk_rs (zk_rsa c d g k).1 k (g 1 k) (g 2 k - g 1 k), zk_mp (zk_rsa c d g k).2 k (g 1 k) (g 2 k) (zk_aG (zk_rsa c d g k).2 k))
theorem zk_rsa_6 {c : Nat → Nat → Int32} {d : Nat → Nat → Int64} {g : Nat → Nat → Nat} {r : Nat} : ∀ n, n ≤ 4 → (zk_rsa c d g n).1 r 6 = c r 6
  | 0, _ => rfl
  | k + 1, hk => by
    have ih := zk_rsa_6 (c := c) (d := d) (g := g) (r := r) k (by omega)
    rw [zk_rsa]
    split
    · exact ih
    · show zk_rs (zk_rsa c d g k).1 k (g 1 k) (g 2 k - g 1 k) r 6 = c r 6
      unfold zk_rs
      rw [zu_k _ _ _ _ (by decide), zk_mp_g (fun x => by unfold zk_rsG; rw [va_up_ne _ _ (by decide)]) (by omega)]
      exact ih
def zk_z3 (g : Nat → Nat → Nat) (n : Nat) : Nat → Nat → Nat := fun r s => if r = 3 ∧ s < n then 0 else g r s
theorem zk_z3_0 (g : Nat → Nat → Nat) : zk_z3 g 0 = g := by
  funext r s
  unfold zk_z3
  rw [if_neg (by omega)]
theorem zk_z3_s (g : Nat → Nat → Nat) (n : Nat) : zu (zk_z3 g n) 3 n 0 = zk_z3 g (n + 1) := by
  funext r s
  rw [zu_if]
  unfold zk_z3
  by_cases e : r = 3 ∧ s = n
  · rw [if_pos e, if_pos (by omega)]
  · rw [if_neg e]
    by_cases e2 : r = 3 ∧ s < n
    · rw [if_pos e2, if_pos (by omega)]
    · rw [if_neg e2, if_neg (by omega)]
theorem zk_pgs_lo {c n9 : Nat → Nat → Int32} {k cl : Nat} (h : zk_pgs c k cl) (h1 : n9 (10 + k) 7 = c (10 + k) 7) (h2 : n9 (20 + k) = c (20 + k)) : zk_pgs n9 k cl := by
  unfold zk_pgs
  rw [h1, h2]
  exact h

set_option maxHeartbeats 4000000 in
set_option maxRecDepth 100000 in
/-- saveAll -/
theorem c_Rec_saveAll {l : Launch} {D : va_G} {cA : Nat → ClassId} {te mi : Nat} {kd ln : Nat → Nat} {I : Nat → Nat → Int32} {L : Nat → Nat → Int64} {R : Nat → Nat → Option Nat} {X : Nat} {a9 e9 : Nat → Nat} {c9 : Nat → Nat → Int32} {d9 : Nat → Nat → Int64} {g9 : Nat → Nat → Nat} (hm : zkR X te a9 e9 c9 d9 g9 kd ln I L R) (hbo : (∀ k x, k < 4 → g9 0 k ≠ 0 → g9 1 k ≤ x → x < g9 2 k → c9 (zk_p k x) 5 = nI 0 ∨ c9 (zk_p k x) 5 = nI 1)) (hlo : (∀ k, k < 4 → g9 0 k ≠ 0 → g9 1 k ≤ g9 2 k)) : zc_M l y_Rec_saveAll w_Rec_saveAll { frames := 4, cells := 0, slots := 0, locals := 86 } 0 0 D cA te mi ([.ref X] : List Value) kd ln I L R (zk_P none X te a9 e9 (zk_sva c9 g9 4) d9 g9 kd ln) := by
  intro sz
  refine Met.ofW (cc := b_Rec_saveAll) (maxL := 2) (ret := none) (by decide +kernel) rfl ?_
  intro p e s m args below meth c s₁ B hml hv
  obtain ⟨rfl, hsz, hSc, hE, hH⟩ := hv
  have hx := B.exec
  have hb := B.bytes
  have hr := B.returns
  have hts := atoms_spec (ws := w_Rec_saveAll) B.pre
  have hw : ∀ {w : Cond}, w ∈ zw → w.before ([.ref X] : List Value).toArray s = true := fun h => hts _ (List.mem_cons_of_mem _ h)
  have hown : s.vm.findClass R_Rec = some m.cls := findClass_of_methodNamed B.named
  have hlocks := B.notSynchronized
  subst hsz
  have hK := hSc.1
  have hH : zh_H D cA (zc_A kd s.heap.size) kd ln I L R s.heap := hH.weaken (fun q h _ => Or.inl h)
  generalize hAe : zc_A kd s.heap.size = A at hH hE ⊢
  have hA : ∀ q : Nat, s.heap.size ≤ q → A q := fun q h => by rw [← hAe]; exact Or.inr h
  have hS : va_S A s.heap s.heap [] := va_S.rf
  have hl := lv_entry ([.ref X] : List Value) (n := 2) (Nat.le_of_ble_eq_true rfl)
  rw [lg_entry_eq]
  generalize (lg_sl ([.ref X] : List Value) ++ List.replicate (2 - (lg_sl ([.ref X] : List Value)).length) Slot.unset).toArray = ls at hl ⊢
  have hl : lv_has ls 2 [(0, .ref X)] := hl
  refine lv_iconst (v := nI 0) hx hb d_Rec_saveAll_0 (by decide) ?_
  refine lv_istore_n (lv' := [(1, .int (nI 0)), (0, .ref X)]) hx hb d_Rec_saveAll_1 rfl hl (by decide) rfl (fun ls hl => ?_)
  have loop_2 : ∀ (z : Nat) (i : Nat) (I_2 : Nat → Nat → Int32) (L_2 : Nat → Nat → Int64) (R_2 : Nat → Nat → Option Nat) (H : Heap) (locs : List Loc) (ls : Array Slot), 4 - i < z → (i ≤ 4) → (zkR X te a9 e9 (zk_sva c9 g9 i) d9 g9 kd ln I_2 L_2 R_2) → lv_has ls 2 [(0, .ref X), (1, .int (nI i))] → zh_H D cA A kd ln I_2 L_2 R_2 H → va_S A s.heap H locs → W p l e (headSpec w_Rec_saveAll { frames := 4, cells := 0, slots := 0, locals := 86 }).room s m ([.ref X] : List Value).toArray below meth c H locs 0 0 (MQ below (zc_Qc D cA A (zk_P none X te a9 e9 (zk_sva c9 g9 4) d9 g9 kd ln)) ([.ref X] : List Value).toArray s 0 0 A) (F0 m 2 ls []) := by
    intro z
    induction z with
    | zero => intro i I_2 L_2 R_2 H locs ls hz; exact absurd hz (Nat.not_lt_zero _)
    | succ z ih_2 =>
      intro i I_2 L_2 R_2 H locs ls hz_2 hi hm hl hH hS
      refine lv_iload_n hx hb d_Rec_saveAll_2 rfl (lv_at hl 1 rfl) ?_
      refine lv_iconst (v := nI 4) hx hb d_Rec_saveAll_3 (by decide) ?_
      refine lv_icmp_ge (tgt := 31) hx hb d_Rec_saveAll_4 (by decide) (fun hc1 => ?_) (fun hc1 => ?_)
      · skip
        have hc1 := zt_geT (a := i) (b := 4) (by omega) (by omega) hc1
        refine W.widen (k := 0) (n := 0) (Nat.le_of_ble_eq_true rfl) (Nat.le_of_ble_eq_true rfl) ?_
        subst hAe
        exact W.vret hx hb hr (fun t ht hW => zc_end hS hH ht (⟨rfl, rfl, rfl, by rw [show i = 4 by omega] at hm; exact hm⟩)) hS.2.2 d_Rec_saveAll_31
      · skip
        have hc1 := zt_geF (a := i) (b := 4) (by omega) (by omega) hc1
        refine lv_aload_n hx hb d_Rec_saveAll_7 rfl (lv_at hl 0 rfl) ?_
        refine zr_getr (ci := 0) (C := R_Rec) (T := T_Rec) (N := 6) (ref := "ScrubbedRecorder") hx hb hts (fun w h => List.mem_cons_of_mem _ (zin_Rec w h)) hown hK hH hm.2.2.1.1 (by decide) rfl 1 (by decide) rfl (hw zw_65) (fun _ h9 => h9) d_Rec_saveAll_8 hm.2.2.1.2.2.1 ?_
        refine lv_iload_n hx hb d_Rec_saveAll_11 rfl (lv_at hl 1 rfl) ?_
        rcases Decidable.em (g9 0 i = 0) with hg2 | hg2
        · skip
          refine zr_ald0 (b := 0) (t := 5) (j := i) hx hb (by decide) (by decide) rfl hK hH (show kd (a9 4) = 105 from zkR_k hm (zk_lv0 (by decide))) (by rw [show ln (a9 4) = 4 from zkR_n hm (zk_lv0 (by decide)) (by decide)]; exact zh_ix_n (by omega) (by omega)) d_Rec_saveAll_12 (zkR_sn hm (by omega) hg2) ?_
          refine lv_ifnullN (tgt := 25) hx hb d_Rec_saveAll_13 (by decide) ?_
          refine lv_iinc (k := 1) (v := nI (i + 1)) (lv' := [(1, .int (nI (i + 1))), (0, .ref X)]) hx hb d_Rec_saveAll_25 hl rfl (nI_add i 1) (by decide) rfl (fun ls hl => ?_)
          refine lv_goto (tgt := 2) hx hb d_Rec_saveAll_28 (by decide) ?_
          have hm : zkR X te a9 e9 (zk_sva c9 g9 (i + 1)) d9 g9 kd ln I_2 L_2 R_2 := by rw [zk_sva, if_pos hg2]; exact hm
          exact ih_2 (i + 1) _ _ _ _ _ _ (by omega) (by omega) hm (lv_sub hl [1, 0] rfl) hH hS
        · skip
          refine zr_aldr (t := 5) (j := i) hx hb (by decide) (by decide) rfl hK hH (show kd (a9 4) = 105 from zkR_k hm (zk_lv0 (by decide))) (by rw [show ln (a9 4) = 4 from zkR_n hm (zk_lv0 (by decide)) (by decide)]; exact zh_ix_n (by omega) (by omega)) d_Rec_saveAll_12 (zkR_st hm (by omega) hg2).1 ?_
          refine lv_ifnull hx hb d_Rec_saveAll_13 ?_
          refine lv_aload_n hx hb d_Rec_saveAll_16 rfl (lv_at hl 0 rfl) ?_
          refine zr_getr (ci := 0) (C := R_Rec) (T := T_Rec) (N := 6) (ref := "ScrubbedRecorder") hx hb hts (fun w h => List.mem_cons_of_mem _ (zin_Rec w h)) hown hK hH hm.2.2.1.1 (by decide) rfl 1 (by decide) rfl (hw zw_65) (fun _ h9 => h9) d_Rec_saveAll_17 hm.2.2.1.2.2.1 ?_
          refine lv_iload_n hx hb d_Rec_saveAll_20 rfl (lv_at hl 1 rfl) ?_
          refine zr_aldr (t := 5) (j := i) hx hb (by decide) (by decide) rfl hK hH (show kd (a9 4) = 105 from zkR_k hm (zk_lv0 (by decide))) (by rw [show ln (a9 4) = 4 from zkR_n hm (zk_lv0 (by decide)) (by decide)]; exact zh_ix_n (by omega) (by omega)) d_Rec_saveAll_21 (zkR_st hm (by omega) hg2).1 ?_
          refine zr_V (As := ([] : List Value)) (rest := []) (b := a9 (10 + i)) (ci := 2) (q := (R_St, T_St, 10)) ⟨hx, hb, hml, hown, hts⟩ (c_St_save hm (by omega) hg2 (hlo i (by omega) hg2) (fun x h1 h2 => by rw [zk_sva_s (by decide) _ i (by omega)]; exact hbo i x (by omega) hg2 h1 h2)) ⟨(callB_of 0 hts (zg_all zw_168) rfl rfl rfl (hw zw_4) (hw zw_165) k_St_save.2 ⟨Nat.le_of_ble_eq_true rfl, Nat.le_of_ble_eq_true rfl⟩), (hw zw_166), (hw zw_167)⟩ hSc hE hH hS hA rfl (by decide) ((zkR_k hm (zk_lv1 (by omega) hg2)).trans (zk_k1 (by omega))) rfl hl.1 rfl (Nat.le_of_ble_eq_true rfl) d_Rec_saveAll_22 ⟨Nat.le_of_ble_eq_true rfl, Nat.le_of_ble_eq_true rfl⟩ (fun v3 kd3 ln3 I3 L3 R3 H locs hp hH hS => ?_)
          obtain ⟨rfl, rfl, rfl, hm⟩ := hp
          refine W.eq (g2 := F0 m 25 ls []) rfl ?_
          refine W.widen (k := 0) (n := 0) (by omega) (by omega) ?_
          refine lv_iinc (k := 1) (v := nI (i + 1)) (lv' := [(1, .int (nI (i + 1))), (0, .ref X)]) hx hb d_Rec_saveAll_25 hl rfl (nI_add i 1) (by decide) rfl (fun ls hl => ?_)
          refine lv_goto (tgt := 2) hx hb d_Rec_saveAll_28 (by decide) ?_
          have hm : zkR X te a9 e9 (zk_sva c9 g9 (i + 1)) d9 g9 kd ln I3 L3 R3 := by rw [zk_sva, if_neg hg2]; exact hm
          exact ih_2 (i + 1) _ _ _ _ _ _ (by omega) (by omega) hm (lv_sub hl [1, 0] rfl) hH hS
  exact loop_2 _ 0 _ _ _ _ _ _ (Nat.lt_succ_self _) (by omega) hm (lv_sub hl [1, 0] rfl) hH hS

set_option maxHeartbeats 4000000 in
set_option maxRecDepth 100000 in
/-- closePlaybacksOf -/
theorem c_Rec_closePlaybacksOf {l : Launch} {D : va_G} {cA : Nat → ClassId} {te mi : Nat} {kd ln : Nat → Nat} {I : Nat → Nat → Int32} {L : Nat → Nat → Int64} {R : Nat → Nat → Option Nat} {X : Nat} {a9 e9 : Nat → Nat} {c9 : Nat → Nat → Int32} {d9 : Nat → Nat → Int64} {g9 : Nat → Nat → Nat} (hm : zkR X te a9 e9 c9 d9 g9 kd ln I L R) {k : Nat} (hk4 : k < 4) (hgk : g9 0 k ≠ 0) (hpl : zk_pl g9) : zc_M l y_Rec_closePlaybacksOf w_Rec_closePlaybacksOf { frames := 0, cells := 0, slots := 0, locals := 0 } 0 0 D cA te mi ([.ref X, .ref (a9 (10 + k))] : List Value) kd ln I L R (zk_P none X te a9 e9 c9 d9 (zk_cl g9 k 4) kd ln) := by
  intro sz
  refine Met.ofW (cc := b_Rec_closePlaybacksOf) (maxL := 4) (ret := none) (by decide +kernel) rfl ?_
  intro p e s m args below meth c s₁ B hml hv
  obtain ⟨rfl, hsz, hSc, hE, hH⟩ := hv
  have hx := B.exec
  have hb := B.bytes
  have hr := B.returns
  have hts := atoms_spec (ws := w_Rec_closePlaybacksOf) B.pre
  have hw : ∀ {w : Cond}, w ∈ zw → w.before ([.ref X, .ref (a9 (10 + k))] : List Value).toArray s = true := fun h => hts _ (List.mem_cons_of_mem _ h)
  have hown : s.vm.findClass R_Rec = some m.cls := findClass_of_methodNamed B.named
  have hlocks := B.notSynchronized
  subst hsz
  have hK := hSc.1
  have hH : zh_H D cA (zc_A kd s.heap.size) kd ln I L R s.heap := hH.weaken (fun q h _ => Or.inl h)
  generalize hAe : zc_A kd s.heap.size = A at hH hE ⊢
  have hA : ∀ q : Nat, s.heap.size ≤ q → A q := fun q h => by rw [← hAe]; exact Or.inr h
  have hS : va_S A s.heap s.heap [] := va_S.rf
  have hl := lv_entry ([.ref X, .ref (a9 (10 + k))] : List Value) (n := 4) (Nat.le_of_ble_eq_true rfl)
  rw [lg_entry_eq]
  generalize (lg_sl ([.ref X, .ref (a9 (10 + k))] : List Value) ++ List.replicate (4 - (lg_sl ([.ref X, .ref (a9 (10 + k))] : List Value)).length) Slot.unset).toArray = ls at hl ⊢
  have hl : lv_has ls 4 [(0, .ref X), (1, .ref (a9 (10 + k)))] := hl
  refine lv_iconst (v := nI 0) hx hb d_Rec_closePlaybacksOf_0 (by decide) ?_
  refine lv_istore_n (lv' := [(2, .int (nI 0)), (0, .ref X), (1, .ref (a9 (10 + k)))]) hx hb d_Rec_closePlaybacksOf_1 rfl hl (by decide) rfl (fun ls hl => ?_)
  have loop_2 : ∀ (z : Nat) (i : Nat) (I_2 : Nat → Nat → Int32) (L_2 : Nat → Nat → Int64) (R_2 : Nat → Nat → Option Nat) (H : Heap) (locs : List Loc) (ls : Array Slot), 4 - i < z → (i ≤ 4) → (zkR X te a9 e9 c9 d9 (zk_cl g9 k i) kd ln I_2 L_2 R_2) → lv_has ls 4 [(0, .ref X), (1, .ref (a9 (10 + k))), (2, .int (nI i))] → zh_H D cA A kd ln I_2 L_2 R_2 H → va_S A s.heap H locs → W p l e (headSpec w_Rec_closePlaybacksOf { frames := 0, cells := 0, slots := 0, locals := 0 }).room s m ([.ref X, .ref (a9 (10 + k))] : List Value).toArray below meth c H locs 0 0 (MQ below (zc_Qc D cA A (zk_P none X te a9 e9 c9 d9 (zk_cl g9 k 4) kd ln)) ([.ref X, .ref (a9 (10 + k))] : List Value).toArray s 0 0 A) (F0 m 2 ls []) := by
    intro z
    induction z with
    | zero => intro i I_2 L_2 R_2 H locs ls hz; exact absurd hz (Nat.not_lt_zero _)
    | succ z ih_2 =>
      intro i I_2 L_2 R_2 H locs ls hz_2 hi hm hl hH hS
      refine lv_iload_n hx hb d_Rec_closePlaybacksOf_2 rfl (lv_at hl 2 rfl) ?_
      refine lv_iconst (v := nI 4) hx hb d_Rec_closePlaybacksOf_3 (by decide) ?_
      refine lv_icmp_ge (tgt := 39) hx hb d_Rec_closePlaybacksOf_4 (by decide) (fun hc1 => ?_) (fun hc1 => ?_)
      · skip
        have hc1 := zt_geT (a := i) (b := 4) (by omega) (by omega) hc1
        refine W.widen (k := 0) (n := 0) (Nat.le_of_ble_eq_true rfl) (Nat.le_of_ble_eq_true rfl) ?_
        subst hAe
        exact W.vret hx hb hr (fun t ht hW => zc_end hS hH ht (⟨rfl, rfl, rfl, by rw [show i = 4 by omega] at hm; exact hm⟩)) hS.2.2 d_Rec_closePlaybacksOf_39
      · skip
        have hc1 := zt_geF (a := i) (b := 4) (by omega) (by omega) hc1
        refine lv_aload_n hx hb d_Rec_closePlaybacksOf_7 rfl (lv_at hl 0 rfl) ?_
        refine zr_getr (ci := 0) (C := R_Rec) (T := T_Rec) (N := 6) (ref := "ScrubbedRecorder") hx hb hts (fun w h => List.mem_cons_of_mem _ (zin_Rec w h)) hown hK hH hm.2.2.1.1 (by decide) rfl 2 (by decide) rfl (hw zw_66) (fun _ h9 => h9) d_Rec_closePlaybacksOf_8 hm.2.2.1.2.2.2.1 ?_
        refine lv_iload_n hx hb d_Rec_closePlaybacksOf_11 rfl (lv_at hl 2 rfl) ?_
        rcases Decidable.em ((zk_cl g9 k i) 3 i = 0) with hg2 | hg2
        · skip
          refine zr_ald0 (b := 0) (t := 6) (j := i) hx hb (by decide) (by decide) rfl hK hH (show kd (a9 5) = 106 from zkR_k hm (zk_lv0 (by decide))) (by rw [show ln (a9 5) = 4 from zkR_n hm (zk_lv0 (by decide)) (by decide)]; exact zh_ix_n (by omega) (by omega)) d_Rec_closePlaybacksOf_12 (zkR_pn hm (by omega) hg2) ?_
          refine lv_astore_nN (lv' := [(3, .null), (0, .ref X), (1, .ref (a9 (10 + k))), (2, .int (nI i))]) hx hb d_Rec_closePlaybacksOf_13 rfl hl (by decide) rfl (fun ls hl => ?_)
          refine lv_aload_nN hx hb d_Rec_closePlaybacksOf_14 rfl (lv_at hl 0 rfl) ?_
          refine lv_ifnullN (tgt := 33) hx hb d_Rec_closePlaybacksOf_15 (by decide) ?_
          refine lv_iinc (k := 3) (v := nI (i + 1)) (lv' := [(2, .int (nI (i + 1))), (3, .null), (0, .ref X), (1, .ref (a9 (10 + k)))]) hx hb d_Rec_closePlaybacksOf_33 hl rfl (nI_add i 1) (by decide) rfl (fun ls hl => ?_)
          refine lv_goto (tgt := 2) hx hb d_Rec_closePlaybacksOf_36 (by decide) ?_
          have hm : zkR X te a9 e9 c9 d9 (zk_cl g9 k (i + 1)) kd ln I_2 L_2 R_2 := by rw [← zk_cl_k (fun e => by have := hg2; rw [zk_cl_n] at this; omega)]; exact hm
          exact ih_2 (i + 1) _ _ _ _ _ _ (by omega) (by omega) hm (lv_sub hl [2, 3, 0] rfl) hH hS
        · skip
          refine zr_aldr (t := 6) (j := i) hx hb (by decide) (by decide) rfl hK hH (show kd (a9 5) = 106 from zkR_k hm (zk_lv0 (by decide))) (by rw [show ln (a9 5) = 4 from zkR_n hm (zk_lv0 (by decide)) (by decide)]; exact zh_ix_n (by omega) (by omega)) d_Rec_closePlaybacksOf_12 (zkR_pb hm (by omega) hg2).1 ?_
          refine lv_astore_n (lv' := [(3, .ref (a9 (30 + i))), (0, .ref X), (1, .ref (a9 (10 + k))), (2, .int (nI i))]) hx hb d_Rec_closePlaybacksOf_13 rfl hl (by decide) rfl (fun ls hl => ?_)
          refine lv_aload_n hx hb d_Rec_closePlaybacksOf_14 rfl (lv_at hl 0 rfl) ?_
          refine lv_ifnull hx hb d_Rec_closePlaybacksOf_15 ?_
          refine lv_aload_n hx hb d_Rec_closePlaybacksOf_18 rfl (lv_at hl 0 rfl) ?_
          refine zr_getr (ci := 4) (C := R_Pb) (T := T_Pb) (N := 6) (ref := "ScrubbedRecorder$Playback") hx hb hts (fun w h => List.mem_cons_of_mem _ (zin_Pb w h)) hown hK hH ((zkR_k hm (zk_lv3 (by omega) hg2)).trans (zk_k3 (by omega))) (by decide) rfl 4 (by decide) rfl (hw zw_381) (fun _ h9 => h9) d_Rec_closePlaybacksOf_19 ((zkR_pb hm (by omega) hg2).2.trans (by rw [zk_cl_n])) ?_
          refine lv_aload_n hx hb d_Rec_closePlaybacksOf_22 rfl (lv_at hl 2 rfl) ?_
          refine lv_acmp_ne (rx := some (a9 (9 + g9 3 i))) (ry := some (a9 (10 + k))) (tgt := 33) hx hb d_Rec_closePlaybacksOf_23 (by decide) (fun hc3 => ?_) (fun hc3 => ?_)
          · skip
            have h3n : g9 3 i ≠ 0 := by have := hg2; rw [zk_cl_n] at this; exact this
            obtain ⟨h34, h30⟩ := hpl i (by omega) h3n
            have hcq : ¬ g9 3 i = k + 1 := fun e => hc3 (by rw [e, show 9 + (k + 1) = 10 + k by omega])
            refine lv_iinc (k := 3) (v := nI (i + 1)) (lv' := [(2, .int (nI (i + 1))), (3, .ref (a9 (30 + i))), (0, .ref X), (1, .ref (a9 (10 + k)))]) hx hb d_Rec_closePlaybacksOf_33 hl rfl (nI_add i 1) (by decide) rfl (fun ls hl => ?_)
            refine lv_goto (tgt := 2) hx hb d_Rec_closePlaybacksOf_36 (by decide) ?_
            have hm : zkR X te a9 e9 c9 d9 (zk_cl g9 k (i + 1)) kd ln I_2 L_2 R_2 := by rw [← zk_cl_k hcq]; exact hm
            exact ih_2 (i + 1) _ _ _ _ _ _ (by omega) (by omega) hm (lv_sub hl [2, 3, 0] rfl) hH hS
          · skip
            have h3n : g9 3 i ≠ 0 := by have := hg2; rw [zk_cl_n] at this; exact this
            obtain ⟨h34, h30⟩ := hpl i (by omega) h3n
            have hcq : g9 3 i = k + 1 := by have e9 := hm.2.1 (9 + g9 3 i) (10 + k) (by rw [show 9 + g9 3 i = 10 + (g9 3 i - 1) by omega]; exact zk_lv1 (by omega) (by rw [zk_cl_r (by decide)]; exact h30)) (zk_lv1 (by omega) (show (zk_cl g9 k i) 0 k ≠ 0 by rw [zk_cl_r (by decide)]; exact hgk)) (Option.some.inj hc3); omega
            refine lv_aload_n hx hb d_Rec_closePlaybacksOf_26 rfl (lv_at hl 1 rfl) ?_
            refine zr_getr (ci := 0) (C := R_Rec) (T := T_Rec) (N := 6) (ref := "ScrubbedRecorder") hx hb hts (fun w h => List.mem_cons_of_mem _ (zin_Rec w h)) hown hK hH hm.2.2.1.1 (by decide) rfl 2 (by decide) rfl (hw zw_66) (fun _ h9 => h9) d_Rec_closePlaybacksOf_27 hm.2.2.1.2.2.2.1 ?_
            refine lv_iload_n hx hb d_Rec_closePlaybacksOf_30 rfl (lv_at hl 3 rfl) ?_
            refine lv_null hx hb d_Rec_closePlaybacksOf_31 ?_
            refine zr_astN (t := 6) (j := i) hx hb (by decide) (by decide) rfl hK hH hS (show kd (a9 5) = 106 from zkR_k hm (zk_lv0 (by decide))) (by rw [show ln (a9 5) = 4 from zkR_n hm (zk_lv0 (by decide)) (by decide)]; exact zh_ix_n (by omega) (by omega)) d_Rec_closePlaybacksOf_32 (fun H locs hH hS => ?_)
            have hm := zkR_pz hm (show i < 4 by omega)
            generalize zu R_2 (a9 5) i none = R4 at hm hH
            refine lv_iinc (k := 3) (v := nI (i + 1)) (lv' := [(2, .int (nI (i + 1))), (3, .ref (a9 (30 + i))), (0, .ref X), (1, .ref (a9 (10 + k)))]) hx hb d_Rec_closePlaybacksOf_33 hl rfl (nI_add i 1) (by decide) rfl (fun ls hl => ?_)
            refine lv_goto (tgt := 2) hx hb d_Rec_closePlaybacksOf_36 (by decide) ?_
            have hm : zkR X te a9 e9 c9 d9 (zk_cl g9 k (i + 1)) kd ln I_2 L_2 R4 := by rw [← zk_cl_s hcq]; exact hm
            exact ih_2 (i + 1) _ _ _ _ _ _ (by omega) (by omega) hm (lv_sub hl [2, 3, 0] rfl) hH hS
  have hm : zkR X te a9 e9 c9 d9 (zk_cl g9 k 0) kd ln I L R := by rw [zk_cl_0]; exact hm
  exact loop_2 _ 0 _ _ _ _ _ _ (Nat.lt_succ_self _) (by omega) hm (lv_sub hl [1, 2, 0] rfl) hH hS

set_option maxHeartbeats 4000000 in
set_option maxRecDepth 100000 in
/-- stop -/
theorem c_Rec_stop {l : Launch} {D : va_G} {cA : Nat → ClassId} {te mi : Nat} {kd ln : Nat → Nat} {I : Nat → Nat → Int32} {L : Nat → Nat → Int64} {R : Nat → Nat → Option Nat} {X : Nat} {a9 e9 : Nat → Nat} {c9 : Nat → Nat → Int32} {d9 : Nat → Nat → Int64} {g9 : Nat → Nat → Nat} (hm : zkR X te a9 e9 c9 d9 g9 kd ln I L R) {j : Nat} (hj4 : j < 4) (hgj : g9 3 j ≠ 0) : zc_M l y_Rec_stop w_Rec_stop { frames := 0, cells := 0, slots := 0, locals := 0 } 0 0 D cA te mi ([.ref X, .int (nI j)] : List Value) kd ln I L R (zk_P (some (.int (nI 1))) X te a9 e9 c9 d9 (zu g9 3 j 0) kd ln) := by
  intro sz
  refine Met.ofW (cc := b_Rec_stop) (maxL := 2) (ret := (some (.boolean))) (by decide +kernel) rfl ?_
  intro p e s m args below meth c s₁ B hml hv
  obtain ⟨rfl, hsz, hSc, hE, hH⟩ := hv
  have hx := B.exec
  have hb := B.bytes
  have hr := B.returns
  have hts := atoms_spec (ws := w_Rec_stop) B.pre
  have hw : ∀ {w : Cond}, w ∈ zw → w.before ([.ref X, .int (nI j)] : List Value).toArray s = true := fun h => hts _ (List.mem_cons_of_mem _ h)
  have hown : s.vm.findClass R_Rec = some m.cls := findClass_of_methodNamed B.named
  have hlocks := B.notSynchronized
  subst hsz
  have hK := hSc.1
  have hH : zh_H D cA (zc_A kd s.heap.size) kd ln I L R s.heap := hH.weaken (fun q h _ => Or.inl h)
  generalize hAe : zc_A kd s.heap.size = A at hH hE ⊢
  have hA : ∀ q : Nat, s.heap.size ≤ q → A q := fun q h => by rw [← hAe]; exact Or.inr h
  have hS : va_S A s.heap s.heap [] := va_S.rf
  have hl := lv_entry ([.ref X, .int (nI j)] : List Value) (n := 2) (Nat.le_of_ble_eq_true rfl)
  rw [lg_entry_eq]
  generalize (lg_sl ([.ref X, .int (nI j)] : List Value) ++ List.replicate (2 - (lg_sl ([.ref X, .int (nI j)] : List Value)).length) Slot.unset).toArray = ls at hl ⊢
  have hl : lv_has ls 2 [(0, .ref X), (1, .int (nI j))] := hl
  refine lv_iload_n hx hb d_Rec_stop_0 rfl (lv_at hl 1 rfl) ?_
  refine lv_if_lt (tgt := 18) hx hb d_Rec_stop_1 (by decide) (fun hc1 => ?_) (fun hc1 => ?_)
  · skip
    have hc1 := zt_ltT (a := j) (b := 0) (by omega) (by omega) hc1
    exact absurd hc1 (by omega)
  · skip
    have hc1 := zt_ltF (a := j) (b := 0) (by omega) (by omega) hc1
    refine lv_iload_n hx hb d_Rec_stop_4 rfl (lv_at hl 1 rfl) ?_
    refine lv_iconst (v := nI 4) hx hb d_Rec_stop_5 (by decide) ?_
    refine lv_icmp_ge (tgt := 18) hx hb d_Rec_stop_6 (by decide) (fun hc2 => ?_) (fun hc2 => ?_)
    · skip
      have hc2 := zt_geT (a := j) (b := 4) (by omega) (by omega) hc2
      exact absurd hc2 (by omega)
    · skip
      have hc2 := zt_geF (a := j) (b := 4) (by omega) (by omega) hc2
      refine lv_aload_n hx hb d_Rec_stop_9 rfl (lv_at hl 0 rfl) ?_
      refine zr_getr (ci := 0) (C := R_Rec) (T := T_Rec) (N := 6) (ref := "ScrubbedRecorder") hx hb hts (fun w h => List.mem_cons_of_mem _ (zin_Rec w h)) hown hK hH hm.2.2.1.1 (by decide) rfl 2 (by decide) rfl (hw zw_66) (fun _ h9 => h9) d_Rec_stop_10 hm.2.2.1.2.2.2.1 ?_
      refine lv_iload_n hx hb d_Rec_stop_13 rfl (lv_at hl 1 rfl) ?_
      refine zr_aldr (t := 6) (j := j) hx hb (by decide) (by decide) rfl hK hH (show kd (a9 5) = 106 from zkR_k hm (zk_lv0 (by decide))) (by rw [show ln (a9 5) = 4 from zkR_n hm (zk_lv0 (by decide)) (by decide)]; exact zh_ix_n (by omega) (by omega)) d_Rec_stop_14 (zkR_pb hm (by omega) hgj).1 ?_
      refine lv_ifnonnull (tgt := 20) hx hb d_Rec_stop_15 (by decide) ?_
      refine lv_aload_n hx hb d_Rec_stop_20 rfl (lv_at hl 0 rfl) ?_
      refine zr_getr (ci := 0) (C := R_Rec) (T := T_Rec) (N := 6) (ref := "ScrubbedRecorder") hx hb hts (fun w h => List.mem_cons_of_mem _ (zin_Rec w h)) hown hK hH hm.2.2.1.1 (by decide) rfl 2 (by decide) rfl (hw zw_66) (fun _ h9 => h9) d_Rec_stop_21 hm.2.2.1.2.2.2.1 ?_
      refine lv_iload_n hx hb d_Rec_stop_24 rfl (lv_at hl 1 rfl) ?_
      refine lv_null hx hb d_Rec_stop_25 ?_
      refine zr_astN (t := 6) (j := j) hx hb (by decide) (by decide) rfl hK hH hS (show kd (a9 5) = 106 from zkR_k hm (zk_lv0 (by decide))) (by rw [show ln (a9 5) = 4 from zkR_n hm (zk_lv0 (by decide)) (by decide)]; exact zh_ix_n (by omega) (by omega)) d_Rec_stop_26 (fun H locs hH hS => ?_)
      have hm := zkR_pz hm (show j < 4 by omega)
      generalize zu R (a9 5) j none = R3 at hm hH
      refine lv_iconst (v := nI 1) hx hb d_Rec_stop_27 (by decide) ?_
      refine W.widen (k := 0) (n := 0) (Nat.le_of_ble_eq_true rfl) (Nat.le_of_ble_eq_true rfl) ?_
      subst hAe
      exact W.zret (v := nI 1) hx hb hr (by decide +kernel) (fun t ht hW => zc_end hS hH ht (⟨rfl, rfl, rfl, hm⟩)) hS.2.2 d_Rec_stop_28

set_option maxHeartbeats 4000000 in
set_option maxRecDepth 100000 in
/-- stop, of none -/
theorem c_Rec_stop_N {l : Launch} {D : va_G} {cA : Nat → ClassId} {te mi : Nat} {kd ln : Nat → Nat} {I : Nat → Nat → Int32} {L : Nat → Nat → Int64} {R : Nat → Nat → Option Nat} {X : Nat} {a9 e9 : Nat → Nat} {c9 : Nat → Nat → Int32} {d9 : Nat → Nat → Int64} {g9 : Nat → Nat → Nat} (hm : zkR X te a9 e9 c9 d9 g9 kd ln I L R) {x : Int32} (hpo : zk_po g9 x = none) : zc_M l y_Rec_stop w_Rec_stop { frames := 0, cells := 0, slots := 0, locals := 0 } 0 0 D cA te mi ([.ref X, .int x] : List Value) kd ln I L R (zk_P (some (.int (nI 0))) X te a9 e9 c9 d9 g9 kd ln) := by
  intro sz
  refine Met.ofW (cc := b_Rec_stop) (maxL := 2) (ret := (some (.boolean))) (by decide +kernel) rfl ?_
  intro p e s m args below meth c s₁ B hml hv
  obtain ⟨rfl, hsz, hSc, hE, hH⟩ := hv
  have hx := B.exec
  have hb := B.bytes
  have hr := B.returns
  have hts := atoms_spec (ws := w_Rec_stop) B.pre
  have hw : ∀ {w : Cond}, w ∈ zw → w.before ([.ref X, .int x] : List Value).toArray s = true := fun h => hts _ (List.mem_cons_of_mem _ h)
  have hown : s.vm.findClass R_Rec = some m.cls := findClass_of_methodNamed B.named
  have hlocks := B.notSynchronized
  subst hsz
  have hK := hSc.1
  have hH : zh_H D cA (zc_A kd s.heap.size) kd ln I L R s.heap := hH.weaken (fun q h _ => Or.inl h)
  generalize hAe : zc_A kd s.heap.size = A at hH hE ⊢
  have hA : ∀ q : Nat, s.heap.size ≤ q → A q := fun q h => by rw [← hAe]; exact Or.inr h
  have hS : va_S A s.heap s.heap [] := va_S.rf
  have hl := lv_entry ([.ref X, .int x] : List Value) (n := 2) (Nat.le_of_ble_eq_true rfl)
  rw [lg_entry_eq]
  generalize (lg_sl ([.ref X, .int x] : List Value) ++ List.replicate (2 - (lg_sl ([.ref X, .int x] : List Value)).length) Slot.unset).toArray = ls at hl ⊢
  have hl : lv_has ls 2 [(0, .ref X), (1, .int x)] := hl
  refine lv_iload_n hx hb d_Rec_stop_0 rfl (lv_at hl 1 rfl) ?_
  refine lv_if_lt (tgt := 18) hx hb d_Rec_stop_1 (by decide) (fun hc1 => ?_) (fun hc1 => ?_)
  · skip
    have hc1 : x < (nI 0) := hc1
    refine lv_iconst (v := nI 0) hx hb d_Rec_stop_18 (by decide) ?_
    refine W.widen (k := 0) (n := 0) (Nat.le_of_ble_eq_true rfl) (Nat.le_of_ble_eq_true rfl) ?_
    subst hAe
    exact W.zret (v := nI 0) hx hb hr (by decide +kernel) (fun t ht hW => zc_end hS hH ht (⟨rfl, rfl, rfl, hm⟩)) hS.2.2 d_Rec_stop_19
  · skip
    have hc1 : ¬ x < (nI 0) := hc1
    refine lv_iload_n hx hb d_Rec_stop_4 rfl (lv_at hl 1 rfl) ?_
    refine lv_iconst (v := nI 4) hx hb d_Rec_stop_5 (by decide) ?_
    refine lv_icmp_ge (tgt := 18) hx hb d_Rec_stop_6 (by decide) (fun hc2 => ?_) (fun hc2 => ?_)
    · skip
      have hc2 : ¬ x < (nI 4) := Int32.not_lt.mpr hc2
      refine lv_iconst (v := nI 0) hx hb d_Rec_stop_18 (by decide) ?_
      refine W.widen (k := 0) (n := 0) (Nat.le_of_ble_eq_true rfl) (Nat.le_of_ble_eq_true rfl) ?_
      subst hAe
      exact W.zret (v := nI 0) hx hb hr (by decide +kernel) (fun t ht hW => zc_end hS hH ht (⟨rfl, rfl, rfl, hm⟩)) hS.2.2 d_Rec_stop_19
    · skip
      have hc2 : x < (nI 4) := Int32.not_le.mp hc2
      obtain ⟨j1, hj1, rfl⟩ := zt_ix hc1 hc2 (by decide)
      refine lv_aload_n hx hb d_Rec_stop_9 rfl (lv_at hl 0 rfl) ?_
      refine zr_getr (ci := 0) (C := R_Rec) (T := T_Rec) (N := 6) (ref := "ScrubbedRecorder") hx hb hts (fun w h => List.mem_cons_of_mem _ (zin_Rec w h)) hown hK hH hm.2.2.1.1 (by decide) rfl 2 (by decide) rfl (hw zw_66) (fun _ h9 => h9) d_Rec_stop_10 hm.2.2.1.2.2.2.1 ?_
      refine lv_iload_n hx hb d_Rec_stop_13 rfl (lv_at hl 1 rfl) ?_
      rcases Decidable.em (g9 3 j1 = 0) with hg3 | hg3
      · skip
        refine zr_ald0 (b := 0) (t := 6) (j := j1) hx hb (by decide) (by decide) rfl hK hH (show kd (a9 5) = 106 from zkR_k hm (zk_lv0 (by decide))) (by rw [show ln (a9 5) = 4 from zkR_n hm (zk_lv0 (by decide)) (by decide)]; exact zh_ix_n (by omega) (by omega)) d_Rec_stop_14 (zkR_pn hm (by omega) hg3) ?_
        refine lv_ifnonnullN hx hb d_Rec_stop_15 ?_
        refine lv_iconst (v := nI 0) hx hb d_Rec_stop_18 (by decide) ?_
        refine W.widen (k := 0) (n := 0) (Nat.le_of_ble_eq_true rfl) (Nat.le_of_ble_eq_true rfl) ?_
        subst hAe
        exact W.zret (v := nI 0) hx hb hr (by decide +kernel) (fun t ht hW => zc_end hS hH ht (⟨rfl, rfl, rfl, hm⟩)) hS.2.2 d_Rec_stop_19
      · skip
        refine zr_aldr (t := 6) (j := j1) hx hb (by decide) (by decide) rfl hK hH (show kd (a9 5) = 106 from zkR_k hm (zk_lv0 (by decide))) (by rw [show ln (a9 5) = 4 from zkR_n hm (zk_lv0 (by decide)) (by decide)]; exact zh_ix_n (by omega) (by omega)) d_Rec_stop_14 (zkR_pb hm (by omega) hg3).1 ?_
        refine lv_ifnonnull (tgt := 20) hx hb d_Rec_stop_15 (by decide) ?_
        exact absurd hpo (by rw [zk_po_n hj1, if_neg hg3]; exact fun e => nomatch e)

set_option maxHeartbeats 4000000 in
set_option maxRecDepth 100000 in
/-- gap, of none -/
theorem c_Rec_gap_O {l : Launch} {D : va_G} {cA : Nat → ClassId} {te mi : Nat} {kd ln : Nat → Nat} {I : Nat → Nat → Int32} {L : Nat → Nat → Int64} {R : Nat → Nat → Option Nat} {X : Nat} {a9 e9 : Nat → Nat} {c9 : Nat → Nat → Int32} {d9 : Nat → Nat → Int64} {g9 : Nat → Nat → Nat} (hm : zkR X te a9 e9 c9 d9 g9 kd ln I L R) {k : Nat} (hk4 : k < 4) (hgk : g9 0 k ≠ 0) (hnx : c9 (10 + k) 8 = nI (g9 2 k)) (hnx1 : g9 2 k < 2 ^ 30) (hlo : g9 1 k ≤ g9 2 k) {x : Int32} (hxb : x < nI (g9 1 k) ∨ ¬ x < nI (g9 2 k)) : zc_M l y_Rec_gap w_Rec_gap { frames := 5, cells := 0, slots := 0, locals := 109 } 0 0 D cA te mi ([.ref X, .int (nI k), .int x] : List Value) kd ln I L R (zk_P (some (.int (nI 0))) X te a9 e9 c9 d9 g9 kd ln) := by
  intro sz
  refine Met.ofW (cc := b_Rec_gap) (maxL := 4) (ret := (some (.boolean))) (by decide +kernel) rfl ?_
  intro p e s m args below meth c s₁ B hml hv
  obtain ⟨rfl, hsz, hSc, hE, hH⟩ := hv
  have hx := B.exec
  have hb := B.bytes
  have hr := B.returns
  have hts := atoms_spec (ws := w_Rec_gap) B.pre
  have hw : ∀ {w : Cond}, w ∈ zw → w.before ([.ref X, .int (nI k), .int x] : List Value).toArray s = true := fun h => hts _ (List.mem_cons_of_mem _ h)
  have hown : s.vm.findClass R_Rec = some m.cls := findClass_of_methodNamed B.named
  have hlocks := B.notSynchronized
  subst hsz
  have hK := hSc.1
  have hH : zh_H D cA (zc_A kd s.heap.size) kd ln I L R s.heap := hH.weaken (fun q h _ => Or.inl h)
  generalize hAe : zc_A kd s.heap.size = A at hH hE ⊢
  have hA : ∀ q : Nat, s.heap.size ≤ q → A q := fun q h => by rw [← hAe]; exact Or.inr h
  have hS : va_S A s.heap s.heap [] := va_S.rf
  have hl := lv_entry ([.ref X, .int (nI k), .int x] : List Value) (n := 4) (Nat.le_of_ble_eq_true rfl)
  rw [lg_entry_eq]
  generalize (lg_sl ([.ref X, .int (nI k), .int x] : List Value) ++ List.replicate (4 - (lg_sl ([.ref X, .int (nI k), .int x] : List Value)).length) Slot.unset).toArray = ls at hl ⊢
  have hl : lv_has ls 4 [(0, .ref X), (1, .int (nI k)), (2, .int x)] := hl
  refine lv_aload_n hx hb d_Rec_gap_0 rfl (lv_at hl 0 rfl) ?_
  refine lv_iload_n hx hb d_Rec_gap_1 rfl (lv_at hl 1 rfl) ?_
  refine lv_iload_n hx hb d_Rec_gap_2 rfl (lv_at hl 2 rfl) ?_
  refine zr_V (As := ([.int (nI k), .int x] : List Value)) (rest := []) (b := X) (ci := 0) (q := (R_Rec, T_Rec, 6)) ⟨hx, hb, hml, hown, hts⟩ (c_Rec_keptPacket_O hm hk4 hgk hnx hnx1 hlo hxb) ⟨(callB_of 2 hts (zg_all zw_455) rfl rfl rfl (hw zw_1) (hw zw_452) k_Rec_keptPacket.2 ⟨Nat.le_of_ble_eq_true rfl, Nat.le_of_ble_eq_true rfl⟩), (hw zw_454), (hw zs_Rec_keptPacket)⟩ hSc hE hH hS hA rfl (by decide) hm.2.2.1.1 rfl hl.1 rfl (Nat.le_of_ble_eq_true rfl) d_Rec_gap_3 ⟨Nat.le_of_ble_eq_true rfl, Nat.le_of_ble_eq_true rfl⟩ (fun v1 kd1 ln1 I1 L1 R1 H locs hp hH hS => ?_)
  obtain ⟨rfl, rfl, rfl, rfl, rfl, rfl⟩ := hp
  refine W.eq (g2 := F0 m 6 ls [.null]) rfl ?_
  refine W.widen (k := 0) (n := 0) (by omega) (by omega) ?_
  refine lv_astore_nN (lv' := [(3, .null), (0, .ref X), (1, .int (nI k)), (2, .int x)]) hx hb d_Rec_gap_6 rfl hl (by decide) rfl (fun ls hl => ?_)
  refine lv_aload_nN hx hb d_Rec_gap_7 rfl (lv_at hl 0 rfl) ?_
  refine lv_ifnullN (tgt := 25) hx hb d_Rec_gap_8 (by decide) ?_
  refine lv_iconst (v := nI 0) hx hb d_Rec_gap_25 (by decide) ?_
  refine W.widen (k := 0) (n := 0) (Nat.le_of_ble_eq_true rfl) (Nat.le_of_ble_eq_true rfl) ?_
  subst hAe
  exact W.zret (v := nI 0) hx hb hr (by decide +kernel) (fun t ht hW => zc_end hS hH ht (⟨rfl, rfl, rfl, hm⟩)) hS.2.2 d_Rec_gap_26

set_option maxHeartbeats 4000000 in
set_option maxRecDepth 100000 in
/-- gap, of none -/
theorem c_Rec_gap_N {l : Launch} {D : va_G} {cA : Nat → ClassId} {te mi : Nat} {kd ln : Nat → Nat} {I : Nat → Nat → Int32} {L : Nat → Nat → Int64} {R : Nat → Nat → Option Nat} {X : Nat} {a9 e9 : Nat → Nat} {c9 : Nat → Nat → Int32} {d9 : Nat → Nat → Int64} {g9 : Nat → Nat → Nat} (hm : zkR X te a9 e9 c9 d9 g9 kd ln I L R) {x y : Int32} (hmd : zk_md g9 x = none) : zc_M l y_Rec_gap w_Rec_gap { frames := 5, cells := 0, slots := 0, locals := 109 } 0 0 D cA te mi ([.ref X, .int x, .int y] : List Value) kd ln I L R (zk_P (some (.int (nI 0))) X te a9 e9 c9 d9 g9 kd ln) := by
  intro sz
  refine Met.ofW (cc := b_Rec_gap) (maxL := 4) (ret := (some (.boolean))) (by decide +kernel) rfl ?_
  intro p e s m args below meth c s₁ B hml hv
  obtain ⟨rfl, hsz, hSc, hE, hH⟩ := hv
  have hx := B.exec
  have hb := B.bytes
  have hr := B.returns
  have hts := atoms_spec (ws := w_Rec_gap) B.pre
  have hw : ∀ {w : Cond}, w ∈ zw → w.before ([.ref X, .int x, .int y] : List Value).toArray s = true := fun h => hts _ (List.mem_cons_of_mem _ h)
  have hown : s.vm.findClass R_Rec = some m.cls := findClass_of_methodNamed B.named
  have hlocks := B.notSynchronized
  subst hsz
  have hK := hSc.1
  have hH : zh_H D cA (zc_A kd s.heap.size) kd ln I L R s.heap := hH.weaken (fun q h _ => Or.inl h)
  generalize hAe : zc_A kd s.heap.size = A at hH hE ⊢
  have hA : ∀ q : Nat, s.heap.size ≤ q → A q := fun q h => by rw [← hAe]; exact Or.inr h
  have hS : va_S A s.heap s.heap [] := va_S.rf
  have hl := lv_entry ([.ref X, .int x, .int y] : List Value) (n := 4) (Nat.le_of_ble_eq_true rfl)
  rw [lg_entry_eq]
  generalize (lg_sl ([.ref X, .int x, .int y] : List Value) ++ List.replicate (4 - (lg_sl ([.ref X, .int x, .int y] : List Value)).length) Slot.unset).toArray = ls at hl ⊢
  have hl : lv_has ls 4 [(0, .ref X), (1, .int x), (2, .int y)] := hl
  refine lv_aload_n hx hb d_Rec_gap_0 rfl (lv_at hl 0 rfl) ?_
  refine lv_iload_n hx hb d_Rec_gap_1 rfl (lv_at hl 1 rfl) ?_
  refine lv_iload_n hx hb d_Rec_gap_2 rfl (lv_at hl 2 rfl) ?_
  refine zr_V (As := ([.int x, .int y] : List Value)) (rest := []) (b := X) (ci := 0) (q := (R_Rec, T_Rec, 6)) ⟨hx, hb, hml, hown, hts⟩ (c_Rec_keptPacket_N hm hmd) ⟨(callB_of 2 hts (zg_all zw_455) rfl rfl rfl (hw zw_1) (hw zw_452) k_Rec_keptPacket.2 ⟨Nat.le_of_ble_eq_true rfl, Nat.le_of_ble_eq_true rfl⟩), (hw zw_454), (hw zs_Rec_keptPacket)⟩ hSc hE hH hS hA rfl (by decide) hm.2.2.1.1 rfl hl.1 rfl (Nat.le_of_ble_eq_true rfl) d_Rec_gap_3 ⟨Nat.le_of_ble_eq_true rfl, Nat.le_of_ble_eq_true rfl⟩ (fun v1 kd1 ln1 I1 L1 R1 H locs hp hH hS => ?_)
  obtain ⟨rfl, rfl, rfl, rfl, rfl, rfl⟩ := hp
  refine W.eq (g2 := F0 m 6 ls [.null]) rfl ?_
  refine W.widen (k := 0) (n := 0) (by omega) (by omega) ?_
  refine lv_astore_nN (lv' := [(3, .null), (0, .ref X), (1, .int x), (2, .int y)]) hx hb d_Rec_gap_6 rfl hl (by decide) rfl (fun ls hl => ?_)
  refine lv_aload_nN hx hb d_Rec_gap_7 rfl (lv_at hl 0 rfl) ?_
  refine lv_ifnullN (tgt := 25) hx hb d_Rec_gap_8 (by decide) ?_
  refine lv_iconst (v := nI 0) hx hb d_Rec_gap_25 (by decide) ?_
  refine W.widen (k := 0) (n := 0) (Nat.le_of_ble_eq_true rfl) (Nat.le_of_ble_eq_true rfl) ?_
  subst hAe
  exact W.zret (v := nI 0) hx hb hr (by decide +kernel) (fun t ht hW => zc_end hS hH ht (⟨rfl, rfl, rfl, hm⟩)) hS.2.2 d_Rec_gap_26

set_option maxHeartbeats 4000000 in
set_option maxRecDepth 100000 in
/-- gap, of a kept packet -/
theorem c_Rec_gap_C {l : Launch} {D : va_G} {cA : Nat → ClassId} {te mi : Nat} {kd ln : Nat → Nat} {I : Nat → Nat → Int32} {L : Nat → Nat → Int64} {R : Nat → Nat → Option Nat} {X : Nat} {a9 e9 : Nat → Nat} {c9 : Nat → Nat → Int32} {d9 : Nat → Nat → Int64} {g9 : Nat → Nat → Nat} (hm : zkR X te a9 e9 c9 d9 g9 kd ln I L R) {k : Nat} (hk4 : k < 4) (hgk : g9 0 k ≠ 0) (hnx : c9 (10 + k) 8 = nI (g9 2 k)) (hnx1 : g9 2 k < 2 ^ 30) (hlo : g9 1 k ≤ g9 2 k) {x : Nat} (hx1 : g9 1 k ≤ x) (hx2 : x < g9 2 k) (hc5 : ¬ c9 (zk_p k x) 5 = nI 0) : zc_M l y_Rec_gap w_Rec_gap { frames := 5, cells := 0, slots := 0, locals := 109 } 0 0 D cA te mi ([.ref X, .int (nI k), .int (nI x)] : List Value) kd ln I L R (zk_P (some (.int (nI 0))) X te a9 e9 c9 d9 g9 kd ln) := by
  intro sz
  refine Met.ofW (cc := b_Rec_gap) (maxL := 4) (ret := (some (.boolean))) (by decide +kernel) rfl ?_
  intro p e s m args below meth c s₁ B hml hv
  obtain ⟨rfl, hsz, hSc, hE, hH⟩ := hv
  have hx := B.exec
  have hb := B.bytes
  have hr := B.returns
  have hts := atoms_spec (ws := w_Rec_gap) B.pre
  have hw : ∀ {w : Cond}, w ∈ zw → w.before ([.ref X, .int (nI k), .int (nI x)] : List Value).toArray s = true := fun h => hts _ (List.mem_cons_of_mem _ h)
  have hown : s.vm.findClass R_Rec = some m.cls := findClass_of_methodNamed B.named
  have hlocks := B.notSynchronized
  subst hsz
  have hK := hSc.1
  have hH : zh_H D cA (zc_A kd s.heap.size) kd ln I L R s.heap := hH.weaken (fun q h _ => Or.inl h)
  generalize hAe : zc_A kd s.heap.size = A at hH hE ⊢
  have hA : ∀ q : Nat, s.heap.size ≤ q → A q := fun q h => by rw [← hAe]; exact Or.inr h
  have hS : va_S A s.heap s.heap [] := va_S.rf
  have hl := lv_entry ([.ref X, .int (nI k), .int (nI x)] : List Value) (n := 4) (Nat.le_of_ble_eq_true rfl)
  rw [lg_entry_eq]
  generalize (lg_sl ([.ref X, .int (nI k), .int (nI x)] : List Value) ++ List.replicate (4 - (lg_sl ([.ref X, .int (nI k), .int (nI x)] : List Value)).length) Slot.unset).toArray = ls at hl ⊢
  have hl : lv_has ls 4 [(0, .ref X), (1, .int (nI k)), (2, .int (nI x))] := hl
  refine lv_aload_n hx hb d_Rec_gap_0 rfl (lv_at hl 0 rfl) ?_
  refine lv_iload_n hx hb d_Rec_gap_1 rfl (lv_at hl 1 rfl) ?_
  refine lv_iload_n hx hb d_Rec_gap_2 rfl (lv_at hl 2 rfl) ?_
  refine zr_V (As := ([.int (nI k), .int (nI x)] : List Value)) (rest := []) (b := X) (ci := 0) (q := (R_Rec, T_Rec, 6)) ⟨hx, hb, hml, hown, hts⟩ (c_Rec_keptPacket_S hm hk4 hgk hnx hnx1 hlo hx1 hx2) ⟨(callB_of 2 hts (zg_all zw_455) rfl rfl rfl (hw zw_1) (hw zw_452) k_Rec_keptPacket.2 ⟨Nat.le_of_ble_eq_true rfl, Nat.le_of_ble_eq_true rfl⟩), (hw zw_454), (hw zs_Rec_keptPacket)⟩ hSc hE hH hS hA rfl (by decide) hm.2.2.1.1 rfl hl.1 rfl (Nat.le_of_ble_eq_true rfl) d_Rec_gap_3 ⟨Nat.le_of_ble_eq_true rfl, Nat.le_of_ble_eq_true rfl⟩ (fun v1 kd1 ln1 I1 L1 R1 H locs hp hH hS => ?_)
  obtain ⟨rfl, rfl, rfl, rfl, rfl, rfl⟩ := hp
  refine W.eq (g2 := F0 m 6 ls [.ref (a9 (zk_p k x))]) rfl ?_
  refine W.widen (k := 0) (n := 0) (by omega) (by omega) ?_
  refine lv_astore_n (lv' := [(3, .ref (a9 (zk_p k x))), (0, .ref X), (1, .int (nI k)), (2, .int (nI x))]) hx hb d_Rec_gap_6 rfl hl (by decide) rfl (fun ls hl => ?_)
  refine lv_aload_n hx hb d_Rec_gap_7 rfl (lv_at hl 0 rfl) ?_
  refine lv_ifnull hx hb d_Rec_gap_8 ?_
  refine lv_aload_n hx hb d_Rec_gap_11 rfl (lv_at hl 0 rfl) ?_
  refine zr_geti (ci := 3) (C := R_Pk) (T := T_Pk) (N := 8) (ref := "ScrubbedRecorder$Packet") hx hb hts (fun w h => List.mem_cons_of_mem _ (zin_Pk w h)) hown hK hH ((zkR_k hm (zk_lvp (by omega) hgk (by omega) (by omega))).trans zk_kp) (by decide) rfl 5 (by decide) rfl (hw zw_275) (fun _ h9 => h9) d_Rec_gap_12 ?_
  refine zt_i (y := c9 (zk_p k x) 5) (congrFun (zkR_i hm (zk_lvp (by omega) hgk (by omega) (by omega))) 5) ?_
  refine lv_if_ne (tgt := 25) hx hb d_Rec_gap_15 (by decide) (fun hc2 => ?_) (fun hc2 => ?_)
  · skip
    have hc2 : ¬ (c9 (zk_p k x) 5) = (nI 0) := hc2
    refine lv_iconst (v := nI 0) hx hb d_Rec_gap_25 (by decide) ?_
    refine W.widen (k := 0) (n := 0) (Nat.le_of_ble_eq_true rfl) (Nat.le_of_ble_eq_true rfl) ?_
    subst hAe
    exact W.zret (v := nI 0) hx hb hr (by decide +kernel) (fun t ht hW => zc_end hS hH ht (⟨rfl, rfl, rfl, hm⟩)) hS.2.2 d_Rec_gap_26
  · skip
    have hc2 : (c9 (zk_p k x) 5) = (nI 0) := hc2
    exact absurd hc2 hc5

set_option maxHeartbeats 4000000 in
set_option maxRecDepth 100000 in
/-- gap, of a kept packet -/
theorem c_Rec_gap_A {l : Launch} {D : va_G} {cA : Nat → ClassId} {te mi : Nat} {kd ln : Nat → Nat} {I : Nat → Nat → Int32} {L : Nat → Nat → Int64} {R : Nat → Nat → Option Nat} {X : Nat} {a9 e9 : Nat → Nat} {c9 : Nat → Nat → Int32} {d9 : Nat → Nat → Int64} {g9 : Nat → Nat → Nat} (hm : zkR X te a9 e9 c9 d9 g9 kd ln I L R) {k : Nat} (hk4 : k < 4) (hgk : g9 0 k ≠ 0) (hnx : c9 (10 + k) 8 = nI (g9 2 k)) (hnx1 : g9 2 k < 2 ^ 30) (hlo : g9 1 k ≤ g9 2 k) {x : Nat} (hx1 : g9 1 k ≤ x) (hx2 : x < g9 2 k) (hc5 : c9 (zk_p k x) 5 = nI 0) (ha7 : ¬ zk_ask (d9 (zk_p k x) 7) = nI 0) : zc_M l y_Rec_gap w_Rec_gap { frames := 5, cells := 0, slots := 0, locals := 109 } 0 0 D cA te mi ([.ref X, .int (nI k), .int (nI x)] : List Value) kd ln I L R (zk_P (some (.int (nI 0))) X te a9 e9 c9 d9 g9 kd ln) := by
  intro sz
  refine Met.ofW (cc := b_Rec_gap) (maxL := 4) (ret := (some (.boolean))) (by decide +kernel) rfl ?_
  intro p e s m args below meth c s₁ B hml hv
  obtain ⟨rfl, hsz, hSc, hE, hH⟩ := hv
  have hx := B.exec
  have hb := B.bytes
  have hr := B.returns
  have hts := atoms_spec (ws := w_Rec_gap) B.pre
  have hw : ∀ {w : Cond}, w ∈ zw → w.before ([.ref X, .int (nI k), .int (nI x)] : List Value).toArray s = true := fun h => hts _ (List.mem_cons_of_mem _ h)
  have hown : s.vm.findClass R_Rec = some m.cls := findClass_of_methodNamed B.named
  have hlocks := B.notSynchronized
  subst hsz
  have hK := hSc.1
  have hH : zh_H D cA (zc_A kd s.heap.size) kd ln I L R s.heap := hH.weaken (fun q h _ => Or.inl h)
  generalize hAe : zc_A kd s.heap.size = A at hH hE ⊢
  have hA : ∀ q : Nat, s.heap.size ≤ q → A q := fun q h => by rw [← hAe]; exact Or.inr h
  have hS : va_S A s.heap s.heap [] := va_S.rf
  have hl := lv_entry ([.ref X, .int (nI k), .int (nI x)] : List Value) (n := 4) (Nat.le_of_ble_eq_true rfl)
  rw [lg_entry_eq]
  generalize (lg_sl ([.ref X, .int (nI k), .int (nI x)] : List Value) ++ List.replicate (4 - (lg_sl ([.ref X, .int (nI k), .int (nI x)] : List Value)).length) Slot.unset).toArray = ls at hl ⊢
  have hl : lv_has ls 4 [(0, .ref X), (1, .int (nI k)), (2, .int (nI x))] := hl
  refine lv_aload_n hx hb d_Rec_gap_0 rfl (lv_at hl 0 rfl) ?_
  refine lv_iload_n hx hb d_Rec_gap_1 rfl (lv_at hl 1 rfl) ?_
  refine lv_iload_n hx hb d_Rec_gap_2 rfl (lv_at hl 2 rfl) ?_
  refine zr_V (As := ([.int (nI k), .int (nI x)] : List Value)) (rest := []) (b := X) (ci := 0) (q := (R_Rec, T_Rec, 6)) ⟨hx, hb, hml, hown, hts⟩ (c_Rec_keptPacket_S hm hk4 hgk hnx hnx1 hlo hx1 hx2) ⟨(callB_of 2 hts (zg_all zw_455) rfl rfl rfl (hw zw_1) (hw zw_452) k_Rec_keptPacket.2 ⟨Nat.le_of_ble_eq_true rfl, Nat.le_of_ble_eq_true rfl⟩), (hw zw_454), (hw zs_Rec_keptPacket)⟩ hSc hE hH hS hA rfl (by decide) hm.2.2.1.1 rfl hl.1 rfl (Nat.le_of_ble_eq_true rfl) d_Rec_gap_3 ⟨Nat.le_of_ble_eq_true rfl, Nat.le_of_ble_eq_true rfl⟩ (fun v1 kd1 ln1 I1 L1 R1 H locs hp hH hS => ?_)
  obtain ⟨rfl, rfl, rfl, rfl, rfl, rfl⟩ := hp
  refine W.eq (g2 := F0 m 6 ls [.ref (a9 (zk_p k x))]) rfl ?_
  refine W.widen (k := 0) (n := 0) (by omega) (by omega) ?_
  refine lv_astore_n (lv' := [(3, .ref (a9 (zk_p k x))), (0, .ref X), (1, .int (nI k)), (2, .int (nI x))]) hx hb d_Rec_gap_6 rfl hl (by decide) rfl (fun ls hl => ?_)
  refine lv_aload_n hx hb d_Rec_gap_7 rfl (lv_at hl 0 rfl) ?_
  refine lv_ifnull hx hb d_Rec_gap_8 ?_
  refine lv_aload_n hx hb d_Rec_gap_11 rfl (lv_at hl 0 rfl) ?_
  refine zr_geti (ci := 3) (C := R_Pk) (T := T_Pk) (N := 8) (ref := "ScrubbedRecorder$Packet") hx hb hts (fun w h => List.mem_cons_of_mem _ (zin_Pk w h)) hown hK hH ((zkR_k hm (zk_lvp (by omega) hgk (by omega) (by omega))).trans zk_kp) (by decide) rfl 5 (by decide) rfl (hw zw_275) (fun _ h9 => h9) d_Rec_gap_12 ?_
  refine zt_i (y := c9 (zk_p k x) 5) (congrFun (zkR_i hm (zk_lvp (by omega) hgk (by omega) (by omega))) 5) ?_
  refine lv_if_ne (tgt := 25) hx hb d_Rec_gap_15 (by decide) (fun hc2 => ?_) (fun hc2 => ?_)
  · skip
    have hc2 : ¬ (c9 (zk_p k x) 5) = (nI 0) := hc2
    exact absurd hc5 hc2
  · skip
    have hc2 : (c9 (zk_p k x) 5) = (nI 0) := hc2
    refine lv_aload_n hx hb d_Rec_gap_18 rfl (lv_at hl 0 rfl) ?_
    refine zr_V (As := ([] : List Value)) (rest := []) (b := a9 (zk_p k x)) (ci := 3) (q := (R_Pk, T_Pk, 8)) ⟨hx, hb, hml, hown, hts⟩ (c_Pk_isAskedFor ((zkR_k hm (zk_lvp (by omega) hgk (by omega) (by omega))).trans zk_kp)) ⟨(callB_of 0 hts (zg_all zw_423) rfl rfl rfl (hw zw_12) (hw zw_460) k_Pk_isAskedFor.2 ⟨Nat.le_of_ble_eq_true rfl, Nat.le_of_ble_eq_true rfl⟩), (hw zw_421), (hw zw_422)⟩ hSc hE hH hS hA rfl (by decide) ((zkR_k hm (zk_lvp (by omega) hgk (by omega) (by omega))).trans zk_kp) rfl hl.1 rfl (Nat.le_of_ble_eq_true rfl) d_Rec_gap_19 ⟨Nat.le_of_ble_eq_true rfl, Nat.le_of_ble_eq_true rfl⟩ (fun v3 kd3 ln3 I3 L3 R3 H locs hp hH hS => ?_)
    obtain ⟨rfl, rfl, rfl, rfl, rfl, rfl⟩ := hp
    refine W.eq (g2 := F0 m 22 ls [.int (zk_ask (L (a9 (zk_p k x)) 7))]) rfl ?_
    refine W.widen (k := 0) (n := 0) (by omega) (by omega) ?_
    refine zt_i (y := zk_ask (d9 (zk_p k x) 7)) (congrArg zk_ask (congrFun (zkR_l hm (zk_lvp (by omega) hgk (by omega) (by omega))) 7)) ?_
    refine lv_if_eq (tgt := 27) hx hb d_Rec_gap_22 (by decide) (fun hc4 => ?_) (fun hc4 => ?_)
    · skip
      have hc4 : (zk_ask (d9 (zk_p k x) 7)) = (nI 0) := hc4
      exact absurd hc4 ha7
    · skip
      have hc4 : ¬ (zk_ask (d9 (zk_p k x) 7)) = (nI 0) := hc4
      refine lv_iconst (v := nI 0) hx hb d_Rec_gap_25 (by decide) ?_
      refine W.widen (k := 0) (n := 0) (Nat.le_of_ble_eq_true rfl) (Nat.le_of_ble_eq_true rfl) ?_
      subst hAe
      exact W.zret (v := nI 0) hx hb hr (by decide +kernel) (fun t ht hW => zc_end hS hH ht (⟨rfl, rfl, rfl, hm⟩)) hS.2.2 d_Rec_gap_26

set_option maxHeartbeats 4000000 in
set_option maxRecDepth 100000 in
/-- gap, of a kept packet -/
theorem c_Rec_gap_S {l : Launch} {D : va_G} {cA : Nat → ClassId} {te mi : Nat} {kd ln : Nat → Nat} {I : Nat → Nat → Int32} {L : Nat → Nat → Int64} {R : Nat → Nat → Option Nat} {X : Nat} {a9 e9 : Nat → Nat} {c9 : Nat → Nat → Int32} {d9 : Nat → Nat → Int64} {g9 : Nat → Nat → Nat} (hm : zkR X te a9 e9 c9 d9 g9 kd ln I L R) {k : Nat} (hk4 : k < 4) (hgk : g9 0 k ≠ 0) (hnx : c9 (10 + k) 8 = nI (g9 2 k)) (hnx1 : g9 2 k < 2 ^ 30) (hlo : g9 1 k ≤ g9 2 k) {x : Nat} (hx1 : g9 1 k ≤ x) (hx2 : x < g9 2 k) (hc5 : c9 (zk_p k x) 5 = nI 0) (ha7 : zk_ask (d9 (zk_p k x) 7) = nI 0) : zc_M l y_Rec_gap w_Rec_gap { frames := 5, cells := 0, slots := 0, locals := 109 } 0 0 D cA te mi ([.ref X, .int (nI k), .int (nI x)] : List Value) kd ln I L R (zk_P (some (.int (nI 1))) X te a9 e9 c9 (zu (zu d9 9 0 (d9 9 0 + 1)) (zk_p k x) 7 (d9 9 0 + 1)) g9 kd ln) := by
  intro sz
  refine Met.ofW (cc := b_Rec_gap) (maxL := 4) (ret := (some (.boolean))) (by decide +kernel) rfl ?_
  intro p e s m args below meth c s₁ B hml hv
  obtain ⟨rfl, hsz, hSc, hE, hH⟩ := hv
  have hx := B.exec
  have hb := B.bytes
  have hr := B.returns
  have hts := atoms_spec (ws := w_Rec_gap) B.pre
  have hw : ∀ {w : Cond}, w ∈ zw → w.before ([.ref X, .int (nI k), .int (nI x)] : List Value).toArray s = true := fun h => hts _ (List.mem_cons_of_mem _ h)
  have hown : s.vm.findClass R_Rec = some m.cls := findClass_of_methodNamed B.named
  have hlocks := B.notSynchronized
  subst hsz
  have hK := hSc.1
  have hH : zh_H D cA (zc_A kd s.heap.size) kd ln I L R s.heap := hH.weaken (fun q h _ => Or.inl h)
  generalize hAe : zc_A kd s.heap.size = A at hH hE ⊢
  have hA : ∀ q : Nat, s.heap.size ≤ q → A q := fun q h => by rw [← hAe]; exact Or.inr h
  have hS : va_S A s.heap s.heap [] := va_S.rf
  have hl := lv_entry ([.ref X, .int (nI k), .int (nI x)] : List Value) (n := 4) (Nat.le_of_ble_eq_true rfl)
  rw [lg_entry_eq]
  generalize (lg_sl ([.ref X, .int (nI k), .int (nI x)] : List Value) ++ List.replicate (4 - (lg_sl ([.ref X, .int (nI k), .int (nI x)] : List Value)).length) Slot.unset).toArray = ls at hl ⊢
  have hl : lv_has ls 4 [(0, .ref X), (1, .int (nI k)), (2, .int (nI x))] := hl
  refine lv_aload_n hx hb d_Rec_gap_0 rfl (lv_at hl 0 rfl) ?_
  refine lv_iload_n hx hb d_Rec_gap_1 rfl (lv_at hl 1 rfl) ?_
  refine lv_iload_n hx hb d_Rec_gap_2 rfl (lv_at hl 2 rfl) ?_
  refine zr_V (As := ([.int (nI k), .int (nI x)] : List Value)) (rest := []) (b := X) (ci := 0) (q := (R_Rec, T_Rec, 6)) ⟨hx, hb, hml, hown, hts⟩ (c_Rec_keptPacket_S hm hk4 hgk hnx hnx1 hlo hx1 hx2) ⟨(callB_of 2 hts (zg_all zw_455) rfl rfl rfl (hw zw_1) (hw zw_452) k_Rec_keptPacket.2 ⟨Nat.le_of_ble_eq_true rfl, Nat.le_of_ble_eq_true rfl⟩), (hw zw_454), (hw zs_Rec_keptPacket)⟩ hSc hE hH hS hA rfl (by decide) hm.2.2.1.1 rfl hl.1 rfl (Nat.le_of_ble_eq_true rfl) d_Rec_gap_3 ⟨Nat.le_of_ble_eq_true rfl, Nat.le_of_ble_eq_true rfl⟩ (fun v1 kd1 ln1 I1 L1 R1 H locs hp hH hS => ?_)
  obtain ⟨rfl, rfl, rfl, rfl, rfl, rfl⟩ := hp
  refine W.eq (g2 := F0 m 6 ls [.ref (a9 (zk_p k x))]) rfl ?_
  refine W.widen (k := 0) (n := 0) (by omega) (by omega) ?_
  refine lv_astore_n (lv' := [(3, .ref (a9 (zk_p k x))), (0, .ref X), (1, .int (nI k)), (2, .int (nI x))]) hx hb d_Rec_gap_6 rfl hl (by decide) rfl (fun ls hl => ?_)
  refine lv_aload_n hx hb d_Rec_gap_7 rfl (lv_at hl 0 rfl) ?_
  refine lv_ifnull hx hb d_Rec_gap_8 ?_
  refine lv_aload_n hx hb d_Rec_gap_11 rfl (lv_at hl 0 rfl) ?_
  refine zr_geti (ci := 3) (C := R_Pk) (T := T_Pk) (N := 8) (ref := "ScrubbedRecorder$Packet") hx hb hts (fun w h => List.mem_cons_of_mem _ (zin_Pk w h)) hown hK hH ((zkR_k hm (zk_lvp (by omega) hgk (by omega) (by omega))).trans zk_kp) (by decide) rfl 5 (by decide) rfl (hw zw_275) (fun _ h9 => h9) d_Rec_gap_12 ?_
  refine zt_i (y := c9 (zk_p k x) 5) (congrFun (zkR_i hm (zk_lvp (by omega) hgk (by omega) (by omega))) 5) ?_
  refine lv_if_ne (tgt := 25) hx hb d_Rec_gap_15 (by decide) (fun hc2 => ?_) (fun hc2 => ?_)
  · skip
    have hc2 : ¬ (c9 (zk_p k x) 5) = (nI 0) := hc2
    exact absurd hc5 hc2
  · skip
    have hc2 : (c9 (zk_p k x) 5) = (nI 0) := hc2
    refine lv_aload_n hx hb d_Rec_gap_18 rfl (lv_at hl 0 rfl) ?_
    refine zr_V (As := ([] : List Value)) (rest := []) (b := a9 (zk_p k x)) (ci := 3) (q := (R_Pk, T_Pk, 8)) ⟨hx, hb, hml, hown, hts⟩ (c_Pk_isAskedFor ((zkR_k hm (zk_lvp (by omega) hgk (by omega) (by omega))).trans zk_kp)) ⟨(callB_of 0 hts (zg_all zw_423) rfl rfl rfl (hw zw_12) (hw zw_460) k_Pk_isAskedFor.2 ⟨Nat.le_of_ble_eq_true rfl, Nat.le_of_ble_eq_true rfl⟩), (hw zw_421), (hw zw_422)⟩ hSc hE hH hS hA rfl (by decide) ((zkR_k hm (zk_lvp (by omega) hgk (by omega) (by omega))).trans zk_kp) rfl hl.1 rfl (Nat.le_of_ble_eq_true rfl) d_Rec_gap_19 ⟨Nat.le_of_ble_eq_true rfl, Nat.le_of_ble_eq_true rfl⟩ (fun v3 kd3 ln3 I3 L3 R3 H locs hp hH hS => ?_)
    obtain ⟨rfl, rfl, rfl, rfl, rfl, rfl⟩ := hp
    refine W.eq (g2 := F0 m 22 ls [.int (zk_ask (L (a9 (zk_p k x)) 7))]) rfl ?_
    refine W.widen (k := 0) (n := 0) (by omega) (by omega) ?_
    refine zt_i (y := zk_ask (d9 (zk_p k x) 7)) (congrArg zk_ask (congrFun (zkR_l hm (zk_lvp (by omega) hgk (by omega) (by omega))) 7)) ?_
    refine lv_if_eq (tgt := 27) hx hb d_Rec_gap_22 (by decide) (fun hc4 => ?_) (fun hc4 => ?_)
    · skip
      have hc4 : (zk_ask (d9 (zk_p k x) 7)) = (nI 0) := hc4
      refine lv_aload_n hx hb d_Rec_gap_27 rfl (lv_at hl 0 rfl) ?_
      refine lv_aload_n hx hb d_Rec_gap_28 rfl (lv_at hl 1 rfl) ?_
      refine zr_V (As := ([] : List Value)) (rest := [.ref (a9 (zk_p k x))]) (b := X) (ci := 0) (q := (R_Rec, T_Rec, 6)) ⟨hx, hb, hml, hown, hts⟩ (c_Rec_nextTurn hm.2.2.1.1) ⟨(callB_of 0 hts (zg_all zw_371) rfl rfl rfl (hw zw_1) (hw zw_368) k_Rec_nextTurn.2 ⟨Nat.le_of_ble_eq_true rfl, Nat.le_of_ble_eq_true rfl⟩), (hw zw_370), (hw zs_Rec_nextTurn)⟩ hSc hE hH hS hA rfl (by decide) hm.2.2.1.1 rfl hl.1 rfl (Nat.le_of_ble_eq_true rfl) d_Rec_gap_29 ⟨Nat.le_of_ble_eq_true rfl, Nat.le_of_ble_eq_true rfl⟩ (fun v5 kd5 ln5 I5 L5 R5 H locs hp hH hS => ?_)
      obtain ⟨rfl, rfl, rfl, rfl, rfl, rfl⟩ := hp
      rw [show L X 5 = d9 9 0 from hm.2.2.1.2.2.2.2.2] at hH ⊢
      have hm := zkR_T hm (d9 9 0 + 1)
      generalize zu L X 5 (d9 9 0 + 1) = L6 at hm hH
      refine W.eq (g2 := F0 m 32 ls [.long (d9 9 0 + 1), .ref (a9 (zk_p k x))]) rfl ?_
      refine W.widen (k := 0) (n := 0) (by omega) (by omega) ?_
      refine zr_putl (ref := "ScrubbedRecorder$Packet") (ci := 3) (C := R_Pk) (T := T_Pk) (N := 8) (x := (d9 9 0 + 1)) (ty := .long) hx hb hts (fun w h => List.mem_cons_of_mem _ (zin_Pk w h)) ty_Pk tyok_Pk nm_Pk hown hK hH hS ((zkR_k hm (zk_lvp (by omega) hgk (by omega) (by omega))).trans zk_kp) (by decide) rfl 7 (by decide) rfl (hw zw_280) (fun _ h9 => h9) rfl (by decide +kernel) rfl rfl d_Rec_gap_32 (fun H locs hH hS => ?_)
      have hm := zkR_L hm (zk_p k x) 7 (d9 9 0 + 1) (zk_lvp (by omega) hgk (by omega) (by omega))
      generalize zu L6 (a9 (zk_p k x)) 7 (d9 9 0 + 1) = L7 at hm hH
      refine lv_iconst (v := nI 1) hx hb d_Rec_gap_35 (by decide) ?_
      refine W.widen (k := 0) (n := 0) (Nat.le_of_ble_eq_true rfl) (Nat.le_of_ble_eq_true rfl) ?_
      subst hAe
      exact W.zret (v := nI 1) hx hb hr (by decide +kernel) (fun t ht hW => zc_end hS hH ht (⟨rfl, rfl, rfl, hm⟩)) hS.2.2 d_Rec_gap_36
    · skip
      have hc4 : ¬ (zk_ask (d9 (zk_p k x) 7)) = (nI 0) := hc4
      exact absurd ha7 hc4

set_option maxHeartbeats 4000000 in
set_option maxRecDepth 100000 in
/-- confirm -/
theorem c_Rec_confirm {l : Launch} {D : va_G} {cA : Nat → ClassId} {te mi : Nat} {kd ln : Nat → Nat} {I : Nat → Nat → Int32} {L : Nat → Nat → Int64} {R : Nat → Nat → Option Nat} {X : Nat} {a9 e9 : Nat → Nat} {c9 : Nat → Nat → Int32} {d9 : Nat → Nat → Int64} {g9 : Nat → Nat → Nat} (hm : zkR X te a9 e9 c9 d9 g9 kd ln I L R) {k : Nat} (hk4 : k < 4) (hgk : g9 0 k ≠ 0) {cl : Nat} {u v : Int32} (huv : ¬ v < u) (hlo : g9 1 k ≤ g9 2 k) (hpgs : zk_pgs c9 k cl) : zc_M l y_Rec_confirm w_Rec_confirm { frames := 5, cells := 0, slots := 0, locals := 129 } 0 0 D cA te mi ([.ref X, .int (nI k), .int u, .int v] : List Value) kd ln I L R (zk_P (some (.int (nI (zk_cfn c9 k (g9 1 k) u v (g9 2 k - g9 1 k))))) X te a9 e9 ((zk_prn k cl (zk_mp c9 k (g9 1 k) (g9 2 k) (zk_cfG c9 k u v), zk_mp d9 k (g9 1 k) (g9 2 k) (zk_cfA c9 d9 k u v), g9)).1) ((zk_prn k cl (zk_mp c9 k (g9 1 k) (g9 2 k) (zk_cfG c9 k u v), zk_mp d9 k (g9 1 k) (g9 2 k) (zk_cfA c9 d9 k u v), g9)).2.1) ((zk_prn k cl (zk_mp c9 k (g9 1 k) (g9 2 k) (zk_cfG c9 k u v), zk_mp d9 k (g9 1 k) (g9 2 k) (zk_cfA c9 d9 k u v), g9)).2.2) kd ln) := by
  intro sz
  refine Met.ofW (cc := b_Rec_confirm) (maxL := 6) (ret := (some (.int))) (by decide +kernel) rfl ?_
  intro p e s m args below meth c s₁ B hml hv
  obtain ⟨rfl, hsz, hSc, hE, hH⟩ := hv
  have hx := B.exec
  have hb := B.bytes
  have hr := B.returns
  have hts := atoms_spec (ws := w_Rec_confirm) B.pre
  have hw : ∀ {w : Cond}, w ∈ zw → w.before ([.ref X, .int (nI k), .int u, .int v] : List Value).toArray s = true := fun h => hts _ (List.mem_cons_of_mem _ h)
  have hown : s.vm.findClass R_Rec = some m.cls := findClass_of_methodNamed B.named
  have hlocks := B.notSynchronized
  subst hsz
  have hK := hSc.1
  have hH : zh_H D cA (zc_A kd s.heap.size) kd ln I L R s.heap := hH.weaken (fun q h _ => Or.inl h)
  generalize hAe : zc_A kd s.heap.size = A at hH hE ⊢
  have hA : ∀ q : Nat, s.heap.size ≤ q → A q := fun q h => by rw [← hAe]; exact Or.inr h
  have hS : va_S A s.heap s.heap [] := va_S.rf
  have hl := lv_entry ([.ref X, .int (nI k), .int u, .int v] : List Value) (n := 6) (Nat.le_of_ble_eq_true rfl)
  rw [lg_entry_eq]
  generalize (lg_sl ([.ref X, .int (nI k), .int u, .int v] : List Value) ++ List.replicate (6 - (lg_sl ([.ref X, .int (nI k), .int u, .int v] : List Value)).length) Slot.unset).toArray = ls at hl ⊢
  have hl : lv_has ls 6 [(0, .ref X), (1, .int (nI k)), (2, .int u), (3, .int v)] := hl
  refine lv_aload_n hx hb d_Rec_confirm_0 rfl (lv_at hl 0 rfl) ?_
  refine lv_iload_n hx hb d_Rec_confirm_1 rfl (lv_at hl 1 rfl) ?_
  refine zr_V (As := ([.int (nI k)] : List Value)) (rest := []) (b := X) (ci := 0) (q := (R_Rec, T_Rec, 6)) ⟨hx, hb, hml, hown, hts⟩ (c_Rec_madeStore_S hm (by omega) hgk) ⟨(callB_of 1 hts (zg_all zw_195) rfl rfl rfl (hw zw_1) (hw zw_192) k_Rec_madeStore.2 ⟨Nat.le_of_ble_eq_true rfl, Nat.le_of_ble_eq_true rfl⟩), (hw zw_194), (hw zs_Rec_madeStore)⟩ hSc hE hH hS hA rfl (by decide) hm.2.2.1.1 rfl hl.1 rfl (Nat.le_of_ble_eq_true rfl) d_Rec_confirm_2 ⟨Nat.le_of_ble_eq_true rfl, Nat.le_of_ble_eq_true rfl⟩ (fun v1 kd1 ln1 I1 L1 R1 H locs hp hH hS => ?_)
  obtain ⟨rfl, rfl, rfl, rfl, rfl, rfl⟩ := hp
  refine W.eq (g2 := F0 m 5 ls [.ref (a9 (10 + k))]) rfl ?_
  refine W.widen (k := 0) (n := 0) (by omega) (by omega) ?_
  refine lv_astore (lv' := [(4, .ref (a9 (10 + k))), (0, .ref X), (1, .int (nI k)), (2, .int u), (3, .int v)]) hx hb d_Rec_confirm_5 hl (by decide) rfl (fun ls hl => ?_)
  refine lv_aload hx hb d_Rec_confirm_7 (lv_at hl 0 rfl) ?_
  refine lv_ifnull hx hb d_Rec_confirm_9 ?_
  refine lv_iload_n hx hb d_Rec_confirm_12 rfl (lv_at hl 3 rfl) ?_
  refine lv_iload_n hx hb d_Rec_confirm_13 rfl (lv_at hl 4 rfl) ?_
  refine lv_icmp_le (tgt := 20) hx hb d_Rec_confirm_14 (by decide) (fun hc2 => ?_) (fun hc2 => ?_)
  · skip
    have hc2 : ¬ v < u := Int32.not_lt.mpr hc2
    refine lv_aload hx hb d_Rec_confirm_20 (lv_at hl 0 rfl) ?_
    refine lv_iload_n hx hb d_Rec_confirm_22 rfl (lv_at hl 3 rfl) ?_
    refine lv_iload_n hx hb d_Rec_confirm_23 rfl (lv_at hl 4 rfl) ?_
    refine zr_V (As := ([.int u, .int v] : List Value)) (rest := []) (b := a9 (10 + k)) (ci := 2) (q := (R_St, T_St, 10)) ⟨hx, hb, hml, hown, hts⟩ (c_St_confirmPackets hm hk4 hgk hlo) ⟨(callB_of 2 hts (zg_all zw_447) rfl rfl rfl (hw zw_4) (hw zw_444) k_St_confirmPackets.2 ⟨Nat.le_of_ble_eq_true rfl, Nat.le_of_ble_eq_true rfl⟩), (hw zw_445), (hw zw_446)⟩ hSc hE hH hS hA rfl (by decide) ((zkR_k hm (zk_lv1 (by omega) hgk)).trans (zk_k1 (by omega))) rfl hl.1 rfl (Nat.le_of_ble_eq_true rfl) d_Rec_confirm_24 ⟨Nat.le_of_ble_eq_true rfl, Nat.le_of_ble_eq_true rfl⟩ (fun v3 kd3 ln3 I3 L3 R3 H locs hp hH hS => ?_)
    obtain ⟨rfl, rfl, rfl, hm⟩ := hp
    refine W.eq (g2 := F0 m 27 ls [.int (nI (zk_cfn c9 k (g9 1 k) u v (g9 2 k - g9 1 k)))]) rfl ?_
    refine W.widen (k := 0) (n := 0) (by omega) (by omega) ?_
    refine lv_istore (lv' := [(5, .int (nI (zk_cfn c9 k (g9 1 k) u v (g9 2 k - g9 1 k)))), (4, .ref (a9 (10 + k))), (0, .ref X), (1, .int (nI k)), (2, .int u), (3, .int v)]) hx hb d_Rec_confirm_27 hl (by decide) rfl (fun ls hl => ?_)
    refine lv_aload hx hb d_Rec_confirm_29 (lv_at hl 1 rfl) ?_
    refine zr_V (As := ([] : List Value)) (rest := []) (b := a9 (10 + k)) (ci := 2) (q := (R_St, T_St, 10)) ⟨hx, hb, hml, hown, hts⟩ (c_St_prune hm hk4 hgk hlo (zk_pgs_lo hpgs (by rw [zk_mp_lo (by omega)]) (zk_mp_lo (by omega)))) ⟨(callB_of 0 hts (zg_all zw_358) rfl rfl rfl (hw zw_4) (hw zw_355) k_St_prune.2 ⟨Nat.le_of_ble_eq_true rfl, Nat.le_of_ble_eq_true rfl⟩), (hw zw_356), (hw zw_357)⟩ hSc hE hH hS hA rfl (by decide) ((zkR_k hm (zk_lv1 (by omega) hgk)).trans (zk_k1 (by omega))) rfl hl.1 rfl (Nat.le_of_ble_eq_true rfl) d_Rec_confirm_31 ⟨Nat.le_of_ble_eq_true rfl, Nat.le_of_ble_eq_true rfl⟩ (fun v4 kd4 ln4 I4 L4 R4 H locs hp hH hS => ?_)
    obtain ⟨rfl, rfl, rfl, hm⟩ := hp
    refine W.eq (g2 := F0 m 34 ls []) rfl ?_
    refine W.widen (k := 0) (n := 0) (by omega) (by omega) ?_
    refine lv_iload hx hb d_Rec_confirm_34 (lv_at hl 0 rfl) ?_
    refine W.widen (k := 0) (n := 0) (Nat.le_of_ble_eq_true rfl) (Nat.le_of_ble_eq_true rfl) ?_
    subst hAe
    exact W.iret (v := nI (zk_cfn c9 k (g9 1 k) u v (g9 2 k - g9 1 k))) hx hb hr (fun t ht hW => zc_end hS hH ht (⟨rfl, rfl, rfl, hm⟩)) hS.2.2 d_Rec_confirm_36
  · skip
    have hc2 : v < u := Int32.not_le.mp hc2
    exact absurd hc2 huv

set_option maxHeartbeats 4000000 in
set_option maxRecDepth 100000 in
/-- confirm, from more than to -/
theorem c_Rec_confirm_B {l : Launch} {D : va_G} {cA : Nat → ClassId} {te mi : Nat} {kd ln : Nat → Nat} {I : Nat → Nat → Int32} {L : Nat → Nat → Int64} {R : Nat → Nat → Option Nat} {X : Nat} {a9 e9 : Nat → Nat} {c9 : Nat → Nat → Int32} {d9 : Nat → Nat → Int64} {g9 : Nat → Nat → Nat} (hm : zkR X te a9 e9 c9 d9 g9 kd ln I L R) {k : Nat} (hk4 : k < 4) (hgk : g9 0 k ≠ 0) {u v : Int32} (huv : v < u) : zc_M l y_Rec_confirm w_Rec_confirm { frames := 5, cells := 0, slots := 0, locals := 129 } 0 0 D cA te mi ([.ref X, .int (nI k), .int u, .int v] : List Value) kd ln I L R (zk_P (some (.int (-2))) X te a9 e9 c9 d9 g9 kd ln) := by
  intro sz
  refine Met.ofW (cc := b_Rec_confirm) (maxL := 6) (ret := (some (.int))) (by decide +kernel) rfl ?_
  intro p e s m args below meth c s₁ B hml hv
  obtain ⟨rfl, hsz, hSc, hE, hH⟩ := hv
  have hx := B.exec
  have hb := B.bytes
  have hr := B.returns
  have hts := atoms_spec (ws := w_Rec_confirm) B.pre
  have hw : ∀ {w : Cond}, w ∈ zw → w.before ([.ref X, .int (nI k), .int u, .int v] : List Value).toArray s = true := fun h => hts _ (List.mem_cons_of_mem _ h)
  have hown : s.vm.findClass R_Rec = some m.cls := findClass_of_methodNamed B.named
  have hlocks := B.notSynchronized
  subst hsz
  have hK := hSc.1
  have hH : zh_H D cA (zc_A kd s.heap.size) kd ln I L R s.heap := hH.weaken (fun q h _ => Or.inl h)
  generalize hAe : zc_A kd s.heap.size = A at hH hE ⊢
  have hA : ∀ q : Nat, s.heap.size ≤ q → A q := fun q h => by rw [← hAe]; exact Or.inr h
  have hS : va_S A s.heap s.heap [] := va_S.rf
  have hl := lv_entry ([.ref X, .int (nI k), .int u, .int v] : List Value) (n := 6) (Nat.le_of_ble_eq_true rfl)
  rw [lg_entry_eq]
  generalize (lg_sl ([.ref X, .int (nI k), .int u, .int v] : List Value) ++ List.replicate (6 - (lg_sl ([.ref X, .int (nI k), .int u, .int v] : List Value)).length) Slot.unset).toArray = ls at hl ⊢
  have hl : lv_has ls 6 [(0, .ref X), (1, .int (nI k)), (2, .int u), (3, .int v)] := hl
  refine lv_aload_n hx hb d_Rec_confirm_0 rfl (lv_at hl 0 rfl) ?_
  refine lv_iload_n hx hb d_Rec_confirm_1 rfl (lv_at hl 1 rfl) ?_
  refine zr_V (As := ([.int (nI k)] : List Value)) (rest := []) (b := X) (ci := 0) (q := (R_Rec, T_Rec, 6)) ⟨hx, hb, hml, hown, hts⟩ (c_Rec_madeStore_S hm (by omega) hgk) ⟨(callB_of 1 hts (zg_all zw_195) rfl rfl rfl (hw zw_1) (hw zw_192) k_Rec_madeStore.2 ⟨Nat.le_of_ble_eq_true rfl, Nat.le_of_ble_eq_true rfl⟩), (hw zw_194), (hw zs_Rec_madeStore)⟩ hSc hE hH hS hA rfl (by decide) hm.2.2.1.1 rfl hl.1 rfl (Nat.le_of_ble_eq_true rfl) d_Rec_confirm_2 ⟨Nat.le_of_ble_eq_true rfl, Nat.le_of_ble_eq_true rfl⟩ (fun v1 kd1 ln1 I1 L1 R1 H locs hp hH hS => ?_)
  obtain ⟨rfl, rfl, rfl, rfl, rfl, rfl⟩ := hp
  refine W.eq (g2 := F0 m 5 ls [.ref (a9 (10 + k))]) rfl ?_
  refine W.widen (k := 0) (n := 0) (by omega) (by omega) ?_
  refine lv_astore (lv' := [(4, .ref (a9 (10 + k))), (0, .ref X), (1, .int (nI k)), (2, .int u), (3, .int v)]) hx hb d_Rec_confirm_5 hl (by decide) rfl (fun ls hl => ?_)
  refine lv_aload hx hb d_Rec_confirm_7 (lv_at hl 0 rfl) ?_
  refine lv_ifnull hx hb d_Rec_confirm_9 ?_
  refine lv_iload_n hx hb d_Rec_confirm_12 rfl (lv_at hl 3 rfl) ?_
  refine lv_iload_n hx hb d_Rec_confirm_13 rfl (lv_at hl 4 rfl) ?_
  refine lv_icmp_le (tgt := 20) hx hb d_Rec_confirm_14 (by decide) (fun hc2 => ?_) (fun hc2 => ?_)
  · skip
    have hc2 : ¬ v < u := Int32.not_lt.mpr hc2
    exact absurd huv hc2
  · skip
    have hc2 : v < u := Int32.not_le.mp hc2
    refine lv_bipush (v := (-2)) hx hb d_Rec_confirm_17 (by decide) ?_
    refine W.widen (k := 0) (n := 0) (Nat.le_of_ble_eq_true rfl) (Nat.le_of_ble_eq_true rfl) ?_
    subst hAe
    exact W.iret (v := (-2)) hx hb hr (fun t ht hW => zc_end hS hH ht (⟨rfl, rfl, rfl, hm⟩)) hS.2.2 d_Rec_confirm_19

set_option maxHeartbeats 4000000 in
set_option maxRecDepth 100000 in
/-- confirm, of no store -/
theorem c_Rec_confirm_N {l : Launch} {D : va_G} {cA : Nat → ClassId} {te mi : Nat} {kd ln : Nat → Nat} {I : Nat → Nat → Int32} {L : Nat → Nat → Int64} {R : Nat → Nat → Option Nat} {X : Nat} {a9 e9 : Nat → Nat} {c9 : Nat → Nat → Int32} {d9 : Nat → Nat → Int64} {g9 : Nat → Nat → Nat} (hm : zkR X te a9 e9 c9 d9 g9 kd ln I L R) {x u v : Int32} (hmd : zk_md g9 x = none) : zc_M l y_Rec_confirm w_Rec_confirm { frames := 5, cells := 0, slots := 0, locals := 129 } 0 0 D cA te mi ([.ref X, .int x, .int u, .int v] : List Value) kd ln I L R (zk_P (some (.int (-2))) X te a9 e9 c9 d9 g9 kd ln) := by
  intro sz
  refine Met.ofW (cc := b_Rec_confirm) (maxL := 6) (ret := (some (.int))) (by decide +kernel) rfl ?_
  intro p e s m args below meth c s₁ B hml hv
  obtain ⟨rfl, hsz, hSc, hE, hH⟩ := hv
  have hx := B.exec
  have hb := B.bytes
  have hr := B.returns
  have hts := atoms_spec (ws := w_Rec_confirm) B.pre
  have hw : ∀ {w : Cond}, w ∈ zw → w.before ([.ref X, .int x, .int u, .int v] : List Value).toArray s = true := fun h => hts _ (List.mem_cons_of_mem _ h)
  have hown : s.vm.findClass R_Rec = some m.cls := findClass_of_methodNamed B.named
  have hlocks := B.notSynchronized
  subst hsz
  have hK := hSc.1
  have hH : zh_H D cA (zc_A kd s.heap.size) kd ln I L R s.heap := hH.weaken (fun q h _ => Or.inl h)
  generalize hAe : zc_A kd s.heap.size = A at hH hE ⊢
  have hA : ∀ q : Nat, s.heap.size ≤ q → A q := fun q h => by rw [← hAe]; exact Or.inr h
  have hS : va_S A s.heap s.heap [] := va_S.rf
  have hl := lv_entry ([.ref X, .int x, .int u, .int v] : List Value) (n := 6) (Nat.le_of_ble_eq_true rfl)
  rw [lg_entry_eq]
  generalize (lg_sl ([.ref X, .int x, .int u, .int v] : List Value) ++ List.replicate (6 - (lg_sl ([.ref X, .int x, .int u, .int v] : List Value)).length) Slot.unset).toArray = ls at hl ⊢
  have hl : lv_has ls 6 [(0, .ref X), (1, .int x), (2, .int u), (3, .int v)] := hl
  refine lv_aload_n hx hb d_Rec_confirm_0 rfl (lv_at hl 0 rfl) ?_
  refine lv_iload_n hx hb d_Rec_confirm_1 rfl (lv_at hl 1 rfl) ?_
  refine zr_V (As := ([.int x] : List Value)) (rest := []) (b := X) (ci := 0) (q := (R_Rec, T_Rec, 6)) ⟨hx, hb, hml, hown, hts⟩ (c_Rec_madeStore_N hm hmd) ⟨(callB_of 1 hts (zg_all zw_195) rfl rfl rfl (hw zw_1) (hw zw_192) k_Rec_madeStore.2 ⟨Nat.le_of_ble_eq_true rfl, Nat.le_of_ble_eq_true rfl⟩), (hw zw_194), (hw zs_Rec_madeStore)⟩ hSc hE hH hS hA rfl (by decide) hm.2.2.1.1 rfl hl.1 rfl (Nat.le_of_ble_eq_true rfl) d_Rec_confirm_2 ⟨Nat.le_of_ble_eq_true rfl, Nat.le_of_ble_eq_true rfl⟩ (fun v1 kd1 ln1 I1 L1 R1 H locs hp hH hS => ?_)
  obtain ⟨rfl, rfl, rfl, rfl, rfl, rfl⟩ := hp
  refine W.eq (g2 := F0 m 5 ls [.null]) rfl ?_
  refine W.widen (k := 0) (n := 0) (by omega) (by omega) ?_
  refine lv_astoreN (lv' := [(4, .null), (0, .ref X), (1, .int x), (2, .int u), (3, .int v)]) hx hb d_Rec_confirm_5 hl (by decide) rfl (fun ls hl => ?_)
  refine lv_aloadN hx hb d_Rec_confirm_7 (lv_at hl 0 rfl) ?_
  refine lv_ifnullN (tgt := 17) hx hb d_Rec_confirm_9 (by decide) ?_
  refine lv_bipush (v := (-2)) hx hb d_Rec_confirm_17 (by decide) ?_
  refine W.widen (k := 0) (n := 0) (Nat.le_of_ble_eq_true rfl) (Nat.le_of_ble_eq_true rfl) ?_
  subst hAe
  exact W.iret (v := (-2)) hx hb hr (fun t ht hW => zc_end hS hH ht (⟨rfl, rfl, rfl, hm⟩)) hS.2.2 d_Rec_confirm_19

set_option maxHeartbeats 4000000 in
set_option maxRecDepth 100000 in
/-- checkpoint, refused -/
theorem c_Rec_checkpoint_B {l : Launch} {D : va_G} {cA : Nat → ClassId} {te mi : Nat} {kd ln : Nat → Nat} {I : Nat → Nat → Int32} {L : Nat → Nat → Int64} {R : Nat → Nat → Option Nat} {X : Nat} {a9 e9 : Nat → Nat} {c9 : Nat → Nat → Int32} {d9 : Nat → Nat → Int64} {g9 : Nat → Nat → Nat} (hm : zkR X te a9 e9 c9 d9 g9 kd ln I L R) {x : Int32} (hx0 : x < nI 0) : zc_M l y_Rec_checkpoint w_Rec_checkpoint { frames := 5, cells := 0, slots := 0, locals := 110 } 0 0 D cA te mi ([.ref X, .int x] : List Value) kd ln I L R (zk_P (some (.int (-2))) X te a9 e9 c9 d9 g9 kd ln) := by
  intro sz
  refine Met.ofW (cc := b_Rec_checkpoint) (maxL := 3) (ret := (some (.int))) (by decide +kernel) rfl ?_
  intro p e s m args below meth c s₁ B hml hv
  obtain ⟨rfl, hsz, hSc, hE, hH⟩ := hv
  have hx := B.exec
  have hb := B.bytes
  have hr := B.returns
  have hts := atoms_spec (ws := w_Rec_checkpoint) B.pre
  have hw : ∀ {w : Cond}, w ∈ zw → w.before ([.ref X, .int x] : List Value).toArray s = true := fun h => hts _ (List.mem_cons_of_mem _ h)
  have hown : s.vm.findClass R_Rec = some m.cls := findClass_of_methodNamed B.named
  have hlocks := B.notSynchronized
  subst hsz
  have hK := hSc.1
  have hH : zh_H D cA (zc_A kd s.heap.size) kd ln I L R s.heap := hH.weaken (fun q h _ => Or.inl h)
  generalize hAe : zc_A kd s.heap.size = A at hH hE ⊢
  have hA : ∀ q : Nat, s.heap.size ≤ q → A q := fun q h => by rw [← hAe]; exact Or.inr h
  have hS : va_S A s.heap s.heap [] := va_S.rf
  have hl := lv_entry ([.ref X, .int x] : List Value) (n := 3) (Nat.le_of_ble_eq_true rfl)
  rw [lg_entry_eq]
  generalize (lg_sl ([.ref X, .int x] : List Value) ++ List.replicate (3 - (lg_sl ([.ref X, .int x] : List Value)).length) Slot.unset).toArray = ls at hl ⊢
  have hl : lv_has ls 3 [(0, .ref X), (1, .int x)] := hl
  refine lv_iload_n hx hb d_Rec_checkpoint_0 rfl (lv_at hl 1 rfl) ?_
  refine lv_if_ge (tgt := 7) hx hb d_Rec_checkpoint_1 (by decide) (fun hc1 => ?_) (fun hc1 => ?_)
  · skip
    have hc1 : ¬ x < (nI 0) := Int32.not_lt.mpr hc1
    exact absurd hx0 hc1
  · skip
    have hc1 : x < (nI 0) := Int32.not_le.mp hc1
    refine lv_bipush (v := (-2)) hx hb d_Rec_checkpoint_4 (by decide) ?_
    refine W.widen (k := 0) (n := 0) (Nat.le_of_ble_eq_true rfl) (Nat.le_of_ble_eq_true rfl) ?_
    subst hAe
    exact W.iret (v := (-2)) hx hb hr (fun t ht hW => zc_end hS hH ht (⟨rfl, rfl, rfl, hm⟩)) hS.2.2 d_Rec_checkpoint_6

set_option maxHeartbeats 4000000 in
set_option maxRecDepth 100000 in
/-- checkpoint -/
theorem c_Rec_checkpoint {l : Launch} {D : va_G} {cA : Nat → ClassId} {te mi : Nat} {kd ln : Nat → Nat} {I : Nat → Nat → Int32} {L : Nat → Nat → Int64} {R : Nat → Nat → Option Nat} {X : Nat} {a9 e9 : Nat → Nat} {c9 : Nat → Nat → Int32} {d9 : Nat → Nat → Int64} {g9 : Nat → Nat → Nat} (hm : zkR X te a9 e9 c9 d9 g9 kd ln I L R) {x : Int32} (hx0 : ¬ x < nI 0) (hbo : (∀ k x, k < 4 → g9 0 k ≠ 0 → g9 1 k ≤ x → x < g9 2 k → c9 (zk_p k x) 5 = nI 0 ∨ c9 (zk_p k x) 5 = nI 1)) (hlo : (∀ k, k < 4 → g9 0 k ≠ 0 → g9 1 k ≤ g9 2 k)) : zc_M l y_Rec_checkpoint w_Rec_checkpoint { frames := 5, cells := 0, slots := 0, locals := 110 } 0 0 D cA te mi ([.ref X, .int x] : List Value) kd ln I L R (zk_P (some (.int (nI (6 + 2 * zk_rn c9 g9 4)))) X te a9 e9 (if x < nI (6 + 2 * zk_rn c9 g9 4) then c9 else zk_sva c9 g9 4) d9 g9 kd ln) := by
  intro sz
  refine Met.ofW (cc := b_Rec_checkpoint) (maxL := 3) (ret := (some (.int))) (by decide +kernel) rfl ?_
  intro p e s m args below meth c s₁ B hml hv
  obtain ⟨rfl, hsz, hSc, hE, hH⟩ := hv
  have hx := B.exec
  have hb := B.bytes
  have hr := B.returns
  have hts := atoms_spec (ws := w_Rec_checkpoint) B.pre
  have hw : ∀ {w : Cond}, w ∈ zw → w.before ([.ref X, .int x] : List Value).toArray s = true := fun h => hts _ (List.mem_cons_of_mem _ h)
  have hown : s.vm.findClass R_Rec = some m.cls := findClass_of_methodNamed B.named
  have hlocks := B.notSynchronized
  subst hsz
  have hK := hSc.1
  have hH : zh_H D cA (zc_A kd s.heap.size) kd ln I L R s.heap := hH.weaken (fun q h _ => Or.inl h)
  generalize hAe : zc_A kd s.heap.size = A at hH hE ⊢
  have hA : ∀ q : Nat, s.heap.size ≤ q → A q := fun q h => by rw [← hAe]; exact Or.inr h
  have hS : va_S A s.heap s.heap [] := va_S.rf
  have hl := lv_entry ([.ref X, .int x] : List Value) (n := 3) (Nat.le_of_ble_eq_true rfl)
  rw [lg_entry_eq]
  generalize (lg_sl ([.ref X, .int x] : List Value) ++ List.replicate (3 - (lg_sl ([.ref X, .int x] : List Value)).length) Slot.unset).toArray = ls at hl ⊢
  have hl : lv_has ls 3 [(0, .ref X), (1, .int x)] := hl
  refine lv_iload_n hx hb d_Rec_checkpoint_0 rfl (lv_at hl 1 rfl) ?_
  refine lv_if_ge (tgt := 7) hx hb d_Rec_checkpoint_1 (by decide) (fun hc1 => ?_) (fun hc1 => ?_)
  · skip
    have hc1 : ¬ x < (nI 0) := Int32.not_lt.mpr hc1
    refine lv_bipush (v := nI 6) hx hb d_Rec_checkpoint_7 (by decide) ?_
    refine lv_iconst (v := nI 2) hx hb d_Rec_checkpoint_9 (by decide) ?_
    refine lv_aload_n hx hb d_Rec_checkpoint_10 rfl (lv_at hl 0 rfl) ?_
    refine zr_V (As := ([] : List Value)) (rest := [.int (nI 2), .int (nI 6)]) (b := X) (ci := 0) (q := (R_Rec, T_Rec, 6)) ⟨hx, hb, hml, hown, hts⟩ (c_Rec_countRuns hm) ⟨(callB_of 0 hts (zg_all zw_560) rfl rfl rfl (hw zw_1) (hw zw_557) k_Rec_countRuns.2 ⟨Nat.le_of_ble_eq_true rfl, Nat.le_of_ble_eq_true rfl⟩), (hw zw_559), (hw zs_Rec_countRuns)⟩ hSc hE hH hS hA rfl (by decide) hm.2.2.1.1 rfl hl.1 rfl (Nat.le_of_ble_eq_true rfl) d_Rec_checkpoint_11 ⟨Nat.le_of_ble_eq_true rfl, Nat.le_of_ble_eq_true rfl⟩ (fun v2 kd2 ln2 I2 L2 R2 H locs hp hH hS => ?_)
    obtain ⟨rfl, rfl, rfl, rfl, rfl, rfl⟩ := hp
    refine W.eq (g2 := F0 m 14 ls [.int (nI (zk_rn c9 g9 4)), .int (nI 2), .int (nI 6)]) rfl ?_
    refine W.widen (k := 0) (n := 0) (by omega) (by omega) ?_
    refine lv_imul hx hb d_Rec_checkpoint_14 ?_
    refine zt_i (y := nI (2 * (zk_rn c9 g9 4))) (pk_mul 2 (zk_rn c9 g9 4)) ?_
    refine lv_iadd hx hb d_Rec_checkpoint_15 ?_
    refine zt_i (y := nI (6 + (2 * (zk_rn c9 g9 4)))) (nI_add 6 (2 * (zk_rn c9 g9 4))) ?_
    refine lv_istore_n (lv' := [(2, .int (nI (6 + (2 * (zk_rn c9 g9 4))))), (0, .ref X), (1, .int x)]) hx hb d_Rec_checkpoint_16 rfl hl (by decide) rfl (fun ls hl => ?_)
    refine lv_iload_n hx hb d_Rec_checkpoint_17 rfl (lv_at hl 2 rfl) ?_
    refine lv_iload_n hx hb d_Rec_checkpoint_18 rfl (lv_at hl 0 rfl) ?_
    refine lv_icmp_lt (tgt := 26) hx hb d_Rec_checkpoint_19 (by decide) (fun hc3 => ?_) (fun hc3 => ?_)
    · skip
      have hc3 : x < (nI (6 + (2 * (zk_rn c9 g9 4)))) := hc3
      refine lv_iload_n hx hb d_Rec_checkpoint_26 rfl (lv_at hl 0 rfl) ?_
      refine W.widen (k := 0) (n := 0) (Nat.le_of_ble_eq_true rfl) (Nat.le_of_ble_eq_true rfl) ?_
      subst hAe
      exact W.iret (v := nI (6 + (2 * (zk_rn c9 g9 4)))) hx hb hr (fun t ht hW => zc_end hS hH ht (⟨rfl, rfl, rfl, by rw [if_pos hc3]; exact hm⟩)) hS.2.2 d_Rec_checkpoint_27
    · skip
      have hc3 : ¬ x < (nI (6 + (2 * (zk_rn c9 g9 4)))) := hc3
      refine lv_aload_n hx hb d_Rec_checkpoint_22 rfl (lv_at hl 1 rfl) ?_
      refine zr_V (As := ([] : List Value)) (rest := []) (b := X) (ci := 0) (q := (R_Rec, T_Rec, 6)) ⟨hx, hb, hml, hown, hts⟩ (c_Rec_saveAll hm hbo hlo) ⟨(callB_of 0 hts (zg_all zw_164) rfl rfl rfl (hw zw_1) (hw zw_161) k_Rec_saveAll.2 ⟨Nat.le_of_ble_eq_true rfl, Nat.le_of_ble_eq_true rfl⟩), (hw zw_163), (hw zs_Rec_saveAll)⟩ hSc hE hH hS hA rfl (by decide) hm.2.2.1.1 rfl hl.1 rfl (Nat.le_of_ble_eq_true rfl) d_Rec_checkpoint_23 ⟨Nat.le_of_ble_eq_true rfl, Nat.le_of_ble_eq_true rfl⟩ (fun v4 kd4 ln4 I4 L4 R4 H locs hp hH hS => ?_)
      obtain ⟨rfl, rfl, rfl, hm⟩ := hp
      refine W.eq (g2 := F0 m 26 ls []) rfl ?_
      refine W.widen (k := 0) (n := 0) (by omega) (by omega) ?_
      refine lv_iload_n hx hb d_Rec_checkpoint_26 rfl (lv_at hl 0 rfl) ?_
      refine W.widen (k := 0) (n := 0) (Nat.le_of_ble_eq_true rfl) (Nat.le_of_ble_eq_true rfl) ?_
      subst hAe
      exact W.iret (v := nI (6 + (2 * (zk_rn c9 g9 4)))) hx hb hr (fun t ht hW => zc_end hS hH ht (⟨rfl, rfl, rfl, by rw [if_neg hc3]; exact hm⟩)) hS.2.2 d_Rec_checkpoint_27
  · skip
    have hc1 : x < (nI 0) := Int32.not_le.mp hc1
    exact absurd hc1 hx0

set_option maxHeartbeats 4000000 in
set_option maxRecDepth 100000 in
/-- reset -/
theorem c_Rec_reset {l : Launch} {D : va_G} {cA : Nat → ClassId} {te mi : Nat} {kd ln : Nat → Nat} {I : Nat → Nat → Int32} {L : Nat → Nat → Int64} {R : Nat → Nat → Option Nat} {X : Nat} {a9 e9 : Nat → Nat} {c9 : Nat → Nat → Int32} {d9 : Nat → Nat → Int64} {g9 : Nat → Nat → Nat} (hm : zkR X te a9 e9 c9 d9 g9 kd ln I L R) (hbo : (∀ k x, k < 4 → g9 0 k ≠ 0 → g9 1 k ≤ x → x < g9 2 k → c9 (zk_p k x) 6 = nI 0 ∨ c9 (zk_p k x) 6 = nI 1)) (hlo : (∀ k, k < 4 → g9 0 k ≠ 0 → g9 1 k ≤ g9 2 k)) : zc_M l y_Rec_reset w_Rec_reset { frames := 4, cells := 0, slots := 0, locals := 86 } 0 0 D cA te mi ([.ref X] : List Value) kd ln I L R (zk_P none X te a9 e9 (zu (zk_rsa c9 d9 g9 4).1 0 5 (nI 0)) ((zk_rsa c9 d9 g9 4).2) (zu (zk_z3 g9 4) 5 0 0) kd ln) := by
  intro sz
  refine Met.ofW (cc := b_Rec_reset) (maxL := 2) (ret := none) (by decide +kernel) rfl ?_
  intro p e s m args below meth c s₁ B hml hv
  obtain ⟨rfl, hsz, hSc, hE, hH⟩ := hv
  have hx := B.exec
  have hb := B.bytes
  have hr := B.returns
  have hts := atoms_spec (ws := w_Rec_reset) B.pre
  have hw : ∀ {w : Cond}, w ∈ zw → w.before ([.ref X] : List Value).toArray s = true := fun h => hts _ (List.mem_cons_of_mem _ h)
  have hown : s.vm.findClass R_Rec = some m.cls := findClass_of_methodNamed B.named
  have hlocks := B.notSynchronized
  subst hsz
  have hK := hSc.1
  have hH : zh_H D cA (zc_A kd s.heap.size) kd ln I L R s.heap := hH.weaken (fun q h _ => Or.inl h)
  generalize hAe : zc_A kd s.heap.size = A at hH hE ⊢
  have hA : ∀ q : Nat, s.heap.size ≤ q → A q := fun q h => by rw [← hAe]; exact Or.inr h
  have hS : va_S A s.heap s.heap [] := va_S.rf
  have hl := lv_entry ([.ref X] : List Value) (n := 2) (Nat.le_of_ble_eq_true rfl)
  rw [lg_entry_eq]
  generalize (lg_sl ([.ref X] : List Value) ++ List.replicate (2 - (lg_sl ([.ref X] : List Value)).length) Slot.unset).toArray = ls at hl ⊢
  have hl : lv_has ls 2 [(0, .ref X)] := hl
  refine lv_iconst (v := nI 0) hx hb d_Rec_reset_0 (by decide) ?_
  refine lv_istore_n (lv' := [(1, .int (nI 0)), (0, .ref X)]) hx hb d_Rec_reset_1 rfl hl (by decide) rfl (fun ls hl => ?_)
  have loop_2 : ∀ (z : Nat) (i : Nat) (I_2 : Nat → Nat → Int32) (L_2 : Nat → Nat → Int64) (R_2 : Nat → Nat → Option Nat) (H : Heap) (locs : List Loc) (ls : Array Slot), 4 - i < z → (i ≤ 4) → (zkR X te a9 e9 (zk_rsa c9 d9 g9 i).1 (zk_rsa c9 d9 g9 i).2 g9 kd ln I_2 L_2 R_2) → lv_has ls 2 [(0, .ref X), (1, .int (nI i))] → zh_H D cA A kd ln I_2 L_2 R_2 H → va_S A s.heap H locs → W p l e (headSpec w_Rec_reset { frames := 4, cells := 0, slots := 0, locals := 86 }).room s m ([.ref X] : List Value).toArray below meth c H locs 0 0 (MQ below (zc_Qc D cA A (zk_P none X te a9 e9 (zu (zk_rsa c9 d9 g9 4).1 0 5 (nI 0)) ((zk_rsa c9 d9 g9 4).2) (zu (zk_z3 g9 4) 5 0 0) kd ln)) ([.ref X] : List Value).toArray s 0 0 A) (F0 m 2 ls []) := by
    intro z
    induction z with
    | zero => intro i I_2 L_2 R_2 H locs ls hz; exact absurd hz (Nat.not_lt_zero _)
    | succ z ih_2 =>
      intro i I_2 L_2 R_2 H locs ls hz_2 hi hm hl hH hS
      refine lv_iload_n hx hb d_Rec_reset_2 rfl (lv_at hl 1 rfl) ?_
      refine lv_iconst (v := nI 4) hx hb d_Rec_reset_3 (by decide) ?_
      refine lv_icmp_ge (tgt := 31) hx hb d_Rec_reset_4 (by decide) (fun hc1 => ?_) (fun hc1 => ?_)
      · skip
        have hc1 := zt_geT (a := i) (b := 4) (by omega) (by omega) hc1
        refine lv_iconst (v := nI 0) hx hb d_Rec_reset_31 (by decide) ?_
        refine lv_istore_n (lv' := [(1, .int (nI 0)), (0, .ref X)]) hx hb d_Rec_reset_32 rfl hl (by decide) rfl (fun ls hl => ?_)
        rw [show i = 4 by omega] at hm
        have loop_33 : ∀ (z : Nat) (j : Nat) (I_33 : Nat → Nat → Int32) (L_33 : Nat → Nat → Int64) (R_33 : Nat → Nat → Option Nat) (H : Heap) (locs : List Loc) (ls : Array Slot), 4 - j < z → (j ≤ 4) → (zkR X te a9 e9 (zk_rsa c9 d9 g9 4).1 (zk_rsa c9 d9 g9 4).2 (zk_z3 g9 j) kd ln I_33 L_33 R_33) → lv_has ls 2 [(0, .ref X), (1, .int (nI j))] → zh_H D cA A kd ln I_33 L_33 R_33 H → va_S A s.heap H locs → W p l e (headSpec w_Rec_reset { frames := 4, cells := 0, slots := 0, locals := 86 }).room s m ([.ref X] : List Value).toArray below meth c H locs 0 0 (MQ below (zc_Qc D cA A (zk_P none X te a9 e9 (zu (zk_rsa c9 d9 g9 4).1 0 5 (nI 0)) ((zk_rsa c9 d9 g9 4).2) (zu (zk_z3 g9 4) 5 0 0) kd ln)) ([.ref X] : List Value).toArray s 0 0 A) (F0 m 33 ls []) := by
          intro z
          induction z with
          | zero => intro j I_33 L_33 R_33 H locs ls hz; exact absurd hz (Nat.not_lt_zero _)
          | succ z ih_33 =>
            intro j I_33 L_33 R_33 H locs ls hz_33 hj hm hl hH hS
            refine lv_iload_n hx hb d_Rec_reset_33 rfl (lv_at hl 1 rfl) ?_
            refine lv_iconst (v := nI 4) hx hb d_Rec_reset_34 (by decide) ?_
            refine lv_icmp_ge (tgt := 51) hx hb d_Rec_reset_35 (by decide) (fun hc2 => ?_) (fun hc2 => ?_)
            · skip
              have hc2 := zt_geT (a := j) (b := 4) (by omega) (by omega) hc2
              refine lv_aload_n hx hb d_Rec_reset_51 rfl (lv_at hl 0 rfl) ?_
              refine lv_null hx hb d_Rec_reset_52 ?_
              refine zr_putq (ref := "ScrubbedRecorder") (ci := 0) (C := R_Rec) (T := T_Rec) (N := 6) (x := none) (ty := .object "ScrubbedRecorder$Packet") hx hb hts (fun w h => List.mem_cons_of_mem _ (zin_Rec w h)) ty_Rec tyok_Rec nm_Rec hown hK hH hS hm.2.2.1.1 (by decide) rfl 4 (by decide) rfl (hw zw_68) (fun _ h9 => h9) rfl (by decide +kernel) rfl rfl d_Rec_reset_53 (fun H locs hH hS => ?_)
              have hm := zkR_fz hm
              generalize zu R_33 X 4 none = R3 at hm hH
              refine lv_aload_n hx hb d_Rec_reset_56 rfl (lv_at hl 0 rfl) ?_
              refine zr_getr (ci := 0) (C := R_Rec) (T := T_Rec) (N := 6) (ref := "ScrubbedRecorder") hx hb hts (fun w h => List.mem_cons_of_mem _ (zin_Rec w h)) hown hK hH hm.2.2.1.1 (by decide) rfl 0 (by decide) rfl (hw zw_64) (fun _ h9 => h9) d_Rec_reset_57 hm.2.2.1.2.1 ?_
              refine zr_V (As := ([] : List Value)) (rest := []) (b := a9 0) (ci := 1) (q := (R_Mem, T_Mem, 8)) ⟨hx, hb, hml, hown, hts⟩ (c_Mem_scrubFromStart (zkR_mem hm).1) ⟨(callB_of 0 hts (zg_all zw_576) rfl rfl rfl (hw zw_2) (hw zw_573) k_Mem_scrubFromStart.2 ⟨Nat.le_of_ble_eq_true rfl, Nat.le_of_ble_eq_true rfl⟩), (hw zw_574), (hw zw_575)⟩ hSc hE hH hS hA rfl (by decide) (show kd (a9 0) = 2 from zkR_k hm (zk_lv0 (by decide))) rfl hl.1 rfl (Nat.le_of_ble_eq_true rfl) d_Rec_reset_60 ⟨Nat.le_of_ble_eq_true rfl, Nat.le_of_ble_eq_true rfl⟩ (fun v4 kd4 ln4 I4 L4 R4 H locs hp hH hS => ?_)
              obtain ⟨rfl, rfl, rfl, rfl, rfl, rfl⟩ := hp
              have hm := zkR_0 hm 5 (nI 0)
              generalize zu I_33 (a9 0) 5 (nI 0) = I5 at hm hH
              refine W.eq (g2 := F0 m 63 ls []) rfl ?_
              refine W.widen (k := 0) (n := 0) (by omega) (by omega) ?_
              refine W.widen (k := 0) (n := 0) (Nat.le_of_ble_eq_true rfl) (Nat.le_of_ble_eq_true rfl) ?_
              subst hAe
              exact W.vret hx hb hr (fun t ht hW => zc_end hS hH ht (⟨rfl, rfl, rfl, by rw [show j = 4 by omega] at hm; exact hm⟩)) hS.2.2 d_Rec_reset_63
            · skip
              have hc2 := zt_geF (a := j) (b := 4) (by omega) (by omega) hc2
              refine lv_aload_n hx hb d_Rec_reset_38 rfl (lv_at hl 0 rfl) ?_
              refine zr_getr (ci := 0) (C := R_Rec) (T := T_Rec) (N := 6) (ref := "ScrubbedRecorder") hx hb hts (fun w h => List.mem_cons_of_mem _ (zin_Rec w h)) hown hK hH hm.2.2.1.1 (by decide) rfl 2 (by decide) rfl (hw zw_66) (fun _ h9 => h9) d_Rec_reset_39 hm.2.2.1.2.2.2.1 ?_
              refine lv_iload_n hx hb d_Rec_reset_42 rfl (lv_at hl 1 rfl) ?_
              refine lv_null hx hb d_Rec_reset_43 ?_
              refine zr_astN (t := 6) (j := j) hx hb (by decide) (by decide) rfl hK hH hS (show kd (a9 5) = 106 from zkR_k hm (zk_lv0 (by decide))) (by rw [show ln (a9 5) = 4 from zkR_n hm (zk_lv0 (by decide)) (by decide)]; exact zh_ix_n (by omega) (by omega)) d_Rec_reset_44 (fun H locs hH hS => ?_)
              have hm := zkR_pz hm (show j < 4 by omega)
              generalize zu R_33 (a9 5) j none = R6 at hm hH
              refine lv_iinc (k := 1) (v := nI (j + 1)) (lv' := [(1, .int (nI (j + 1))), (0, .ref X)]) hx hb d_Rec_reset_45 hl rfl (nI_add j 1) (by decide) rfl (fun ls hl => ?_)
              refine lv_goto (tgt := 33) hx hb d_Rec_reset_48 (by decide) ?_
              rw [zk_z3_s] at hm
              exact ih_33 (j + 1) _ _ _ _ _ _ (by omega) (by omega) hm (lv_sub hl [1, 0] rfl) hH hS
        have hm : zkR X te a9 e9 (zk_rsa c9 d9 g9 4).1 (zk_rsa c9 d9 g9 4).2 (zk_z3 g9 0) kd ln I_2 L_2 R_2 := by rw [zk_z3_0]; exact hm
        exact loop_33 _ 0 _ _ _ _ _ _ (Nat.lt_succ_self _) (by omega) hm (lv_sub hl [1, 0] rfl) hH hS
      · skip
        have hc1 := zt_geF (a := i) (b := 4) (by omega) (by omega) hc1
        refine lv_aload_n hx hb d_Rec_reset_7 rfl (lv_at hl 0 rfl) ?_
        refine zr_getr (ci := 0) (C := R_Rec) (T := T_Rec) (N := 6) (ref := "ScrubbedRecorder") hx hb hts (fun w h => List.mem_cons_of_mem _ (zin_Rec w h)) hown hK hH hm.2.2.1.1 (by decide) rfl 1 (by decide) rfl (hw zw_65) (fun _ h9 => h9) d_Rec_reset_8 hm.2.2.1.2.2.1 ?_
        refine lv_iload_n hx hb d_Rec_reset_11 rfl (lv_at hl 1 rfl) ?_
        rcases Decidable.em (g9 0 i = 0) with hg7 | hg7
        · skip
          refine zr_ald0 (b := 0) (t := 5) (j := i) hx hb (by decide) (by decide) rfl hK hH (show kd (a9 4) = 105 from zkR_k hm (zk_lv0 (by decide))) (by rw [show ln (a9 4) = 4 from zkR_n hm (zk_lv0 (by decide)) (by decide)]; exact zh_ix_n (by omega) (by omega)) d_Rec_reset_12 (zkR_sn hm (by omega) hg7) ?_
          refine lv_ifnullN (tgt := 25) hx hb d_Rec_reset_13 (by decide) ?_
          refine lv_iinc (k := 1) (v := nI (i + 1)) (lv' := [(1, .int (nI (i + 1))), (0, .ref X)]) hx hb d_Rec_reset_25 hl rfl (nI_add i 1) (by decide) rfl (fun ls hl => ?_)
          refine lv_goto (tgt := 2) hx hb d_Rec_reset_28 (by decide) ?_
          have hm : zkR X te a9 e9 (zk_rsa c9 d9 g9 (i + 1)).1 (zk_rsa c9 d9 g9 (i + 1)).2 g9 kd ln I_2 L_2 R_2 := by rw [zk_rsa, if_pos hg7]; exact hm
          exact ih_2 (i + 1) _ _ _ _ _ _ (by omega) (by omega) hm (lv_sub hl [1, 0] rfl) hH hS
        · skip
          refine zr_aldr (t := 5) (j := i) hx hb (by decide) (by decide) rfl hK hH (show kd (a9 4) = 105 from zkR_k hm (zk_lv0 (by decide))) (by rw [show ln (a9 4) = 4 from zkR_n hm (zk_lv0 (by decide)) (by decide)]; exact zh_ix_n (by omega) (by omega)) d_Rec_reset_12 (zkR_st hm (by omega) hg7).1 ?_
          refine lv_ifnull hx hb d_Rec_reset_13 ?_
          refine lv_aload_n hx hb d_Rec_reset_16 rfl (lv_at hl 0 rfl) ?_
          refine zr_getr (ci := 0) (C := R_Rec) (T := T_Rec) (N := 6) (ref := "ScrubbedRecorder") hx hb hts (fun w h => List.mem_cons_of_mem _ (zin_Rec w h)) hown hK hH hm.2.2.1.1 (by decide) rfl 1 (by decide) rfl (hw zw_65) (fun _ h9 => h9) d_Rec_reset_17 hm.2.2.1.2.2.1 ?_
          refine lv_iload_n hx hb d_Rec_reset_20 rfl (lv_at hl 1 rfl) ?_
          refine zr_aldr (t := 5) (j := i) hx hb (by decide) (by decide) rfl hK hH (show kd (a9 4) = 105 from zkR_k hm (zk_lv0 (by decide))) (by rw [show ln (a9 4) = 4 from zkR_n hm (zk_lv0 (by decide)) (by decide)]; exact zh_ix_n (by omega) (by omega)) d_Rec_reset_21 (zkR_st hm (by omega) hg7).1 ?_
          refine zr_V (As := ([] : List Value)) (rest := []) (b := a9 (10 + i)) (ci := 2) (q := (R_St, T_St, 10)) ⟨hx, hb, hml, hown, hts⟩ (c_St_restore hm (by omega) hg7 (hlo i (by omega) hg7) (fun x h1 h2 => by rw [zk_rsa_6 i (by omega)]; exact hbo i x (by omega) hg7 h1 h2)) ⟨(callB_of 0 hts (zg_all zw_572) rfl rfl rfl (hw zw_4) (hw zw_569) k_St_restore.2 ⟨Nat.le_of_ble_eq_true rfl, Nat.le_of_ble_eq_true rfl⟩), (hw zw_570), (hw zw_571)⟩ hSc hE hH hS hA rfl (by decide) ((zkR_k hm (zk_lv1 (by omega) hg7)).trans (zk_k1 (by omega))) rfl hl.1 rfl (Nat.le_of_ble_eq_true rfl) d_Rec_reset_22 ⟨Nat.le_of_ble_eq_true rfl, Nat.le_of_ble_eq_true rfl⟩ (fun v8 kd8 ln8 I8 L8 R8 H locs hp hH hS => ?_)
          obtain ⟨rfl, rfl, rfl, hm⟩ := hp
          refine W.eq (g2 := F0 m 25 ls []) rfl ?_
          refine W.widen (k := 0) (n := 0) (by omega) (by omega) ?_
          refine lv_iinc (k := 1) (v := nI (i + 1)) (lv' := [(1, .int (nI (i + 1))), (0, .ref X)]) hx hb d_Rec_reset_25 hl rfl (nI_add i 1) (by decide) rfl (fun ls hl => ?_)
          refine lv_goto (tgt := 2) hx hb d_Rec_reset_28 (by decide) ?_
          have hm : zkR X te a9 e9 (zk_rsa c9 d9 g9 (i + 1)).1 (zk_rsa c9 d9 g9 (i + 1)).2 g9 kd ln I8 L8 R8 := by rw [zk_rsa, if_neg hg7]; exact hm
          exact ih_2 (i + 1) _ _ _ _ _ _ (by omega) (by omega) hm (lv_sub hl [1, 0] rfl) hH hS
  exact loop_2 _ 0 _ _ _ _ _ _ (Nat.lt_succ_self _) (by omega) hm (lv_sub hl [1, 0] rfl) hH hS

set_option maxHeartbeats 4000000 in
set_option maxRecDepth 100000 in
/-- frameByte, no frame -/
theorem c_Rec_frameByte_N {l : Launch} {D : va_G} {cA : Nat → ClassId} {te mi : Nat} {kd ln : Nat → Nat} {I : Nat → Nat → Int32} {L : Nat → Nat → Int64} {R : Nat → Nat → Option Nat} {X : Nat} {a9 e9 : Nat → Nat} {c9 : Nat → Nat → Int32} {d9 : Nat → Nat → Int64} {g9 : Nat → Nat → Nat} (hm : zkR X te a9 e9 c9 d9 g9 kd ln I L R) {x : Int32} (h50 : g9 5 0 = 0) : zc_M l y_Rec_frameByte w_Rec_frameByte { frames := 2, cells := 0, slots := 0, locals := 42 } 0 0 D cA te mi ([.ref X, .int x] : List Value) kd ln I L R (zc_eq (some (.int (-1))) kd ln I L R) := by
  intro sz
  refine Met.ofW (cc := b_Rec_frameByte) (maxL := 2) (ret := (some (.int))) (by decide +kernel) rfl ?_
  intro p e s m args below meth c s₁ B hml hv
  obtain ⟨rfl, hsz, hSc, hE, hH⟩ := hv
  have hx := B.exec
  have hb := B.bytes
  have hr := B.returns
  have hts := atoms_spec (ws := w_Rec_frameByte) B.pre
  have hw : ∀ {w : Cond}, w ∈ zw → w.before ([.ref X, .int x] : List Value).toArray s = true := fun h => hts _ (List.mem_cons_of_mem _ h)
  have hown : s.vm.findClass R_Rec = some m.cls := findClass_of_methodNamed B.named
  have hlocks := B.notSynchronized
  subst hsz
  have hK := hSc.1
  have hH : zh_H D cA (zc_A kd s.heap.size) kd ln I L R s.heap := hH.weaken (fun q h _ => Or.inl h)
  generalize hAe : zc_A kd s.heap.size = A at hH hE ⊢
  have hA : ∀ q : Nat, s.heap.size ≤ q → A q := fun q h => by rw [← hAe]; exact Or.inr h
  have hS : va_S A s.heap s.heap [] := va_S.rf
  have hl := lv_entry ([.ref X, .int x] : List Value) (n := 2) (Nat.le_of_ble_eq_true rfl)
  rw [lg_entry_eq]
  generalize (lg_sl ([.ref X, .int x] : List Value) ++ List.replicate (2 - (lg_sl ([.ref X, .int x] : List Value)).length) Slot.unset).toArray = ls at hl ⊢
  have hl : lv_has ls 2 [(0, .ref X), (1, .int x)] := hl
  have hfr : R X 4 = none := by rcases zkR_fr hm with q | q; exact q.2; exact absurd h50 q.1
  refine lv_aload_n hx hb d_Rec_frameByte_0 rfl (lv_at hl 0 rfl) ?_
  refine zr_get0 (ci := 0) (C := R_Rec) (T := T_Rec) (N := 6) (ref := "ScrubbedRecorder") hx hb hts (fun w h => List.mem_cons_of_mem _ (zin_Rec w h)) hown hK hH hm.2.2.1.1 (by decide) rfl 4 (by decide) rfl (hw zw_68) (fun _ h9 => h9) d_Rec_frameByte_1 hfr ?_
  refine lv_ifnonnullN hx hb d_Rec_frameByte_4 ?_
  refine lv_iconst (v := (-1)) hx hb d_Rec_frameByte_7 (by decide) ?_
  refine lv_goto (tgt := 19) hx hb d_Rec_frameByte_8 (by decide) ?_
  refine W.widen (k := 0) (n := 0) (Nat.le_of_ble_eq_true rfl) (Nat.le_of_ble_eq_true rfl) ?_
  subst hAe
  exact W.iret (v := (-1)) hx hb hr (fun t ht hW => zc_end hS hH ht (⟨rfl, rfl, rfl, rfl, rfl, rfl⟩)) hS.2.2 d_Rec_frameByte_19

set_option maxHeartbeats 4000000 in
set_option maxRecDepth 100000 in
/-- frameByte -/
theorem c_Rec_frameByte {l : Launch} {D : va_G} {cA : Nat → ClassId} {te mi : Nat} {kd ln : Nat → Nat} {I : Nat → Nat → Int32} {L : Nat → Nat → Int64} {R : Nat → Nat → Option Nat} {X : Nat} {a9 e9 : Nat → Nat} {c9 : Nat → Nat → Int32} {d9 : Nat → Nat → Int64} {g9 : Nat → Nat → Nat} (hm : zkR X te a9 e9 c9 d9 g9 kd ln I L R) {x : Int32} (h50 : g9 5 0 ≠ 0) (hsz : g9 4 91 ≤ 66) : zc_M l y_Rec_frameByte w_Rec_frameByte { frames := 2, cells := 0, slots := 0, locals := 42 } 0 0 D cA te mi ([.ref X, .int x] : List Value) kd ln I L R (zc_eq (some (.int (zk_bf (c9 91) (g9 4 91) (c9 90 0) (c9 90 2) x))) kd ln I L R) := by
  intro sz
  refine Met.ofW (cc := b_Rec_frameByte) (maxL := 2) (ret := (some (.int))) (by decide +kernel) rfl ?_
  intro p e s m args below meth c s₁ B hml hv
  obtain ⟨rfl, hsz, hSc, hE, hH⟩ := hv
  have hx := B.exec
  have hb := B.bytes
  have hr := B.returns
  have hts := atoms_spec (ws := w_Rec_frameByte) B.pre
  have hw : ∀ {w : Cond}, w ∈ zw → w.before ([.ref X, .int x] : List Value).toArray s = true := fun h => hts _ (List.mem_cons_of_mem _ h)
  have hown : s.vm.findClass R_Rec = some m.cls := findClass_of_methodNamed B.named
  have hlocks := B.notSynchronized
  subst hsz
  have hK := hSc.1
  have hH : zh_H D cA (zc_A kd s.heap.size) kd ln I L R s.heap := hH.weaken (fun q h _ => Or.inl h)
  generalize hAe : zc_A kd s.heap.size = A at hH hE ⊢
  have hA : ∀ q : Nat, s.heap.size ≤ q → A q := fun q h => by rw [← hAe]; exact Or.inr h
  have hS : va_S A s.heap s.heap [] := va_S.rf
  have hl := lv_entry ([.ref X, .int x] : List Value) (n := 2) (Nat.le_of_ble_eq_true rfl)
  rw [lg_entry_eq]
  generalize (lg_sl ([.ref X, .int x] : List Value) ++ List.replicate (2 - (lg_sl ([.ref X, .int x] : List Value)).length) Slot.unset).toArray = ls at hl ⊢
  have hl : lv_has ls 2 [(0, .ref X), (1, .int x)] := hl
  obtain ⟨fp, ft, f1, f2, f3, f4, f5, f6, f7, f8, f9⟩ : ∃ fp ft, R X 4 = some fp ∧ kd fp = 4 ∧ R fp 1 = some ft ∧ kd ft = 102 ∧ ft ≠ a9 2 ∧ ln ft = g9 4 91 ∧ I fp 0 = c9 90 0 ∧ I fp 2 = c9 90 2 ∧ I ft = c9 91 := by rcases zkR_fr hm with q | q; exact absurd q.1 h50; exact q.2
  refine lv_aload_n hx hb d_Rec_frameByte_0 rfl (lv_at hl 0 rfl) ?_
  refine zr_getr (ci := 0) (C := R_Rec) (T := T_Rec) (N := 6) (ref := "ScrubbedRecorder") hx hb hts (fun w h => List.mem_cons_of_mem _ (zin_Rec w h)) hown hK hH hm.2.2.1.1 (by decide) rfl 4 (by decide) rfl (hw zw_68) (fun _ h9 => h9) d_Rec_frameByte_1 f1 ?_
  refine lv_ifnonnull (tgt := 11) hx hb d_Rec_frameByte_4 (by decide) ?_
  refine lv_aload_n hx hb d_Rec_frameByte_11 rfl (lv_at hl 0 rfl) ?_
  refine zr_getr (ci := 0) (C := R_Rec) (T := T_Rec) (N := 6) (ref := "ScrubbedRecorder") hx hb hts (fun w h => List.mem_cons_of_mem _ (zin_Rec w h)) hown hK hH hm.2.2.1.1 (by decide) rfl 4 (by decide) rfl (hw zw_68) (fun _ h9 => h9) d_Rec_frameByte_12 f1 ?_
  refine lv_iload_n hx hb d_Rec_frameByte_15 rfl (lv_at hl 1 rfl) ?_
  refine zr_V (As := ([.int x] : List Value)) (rest := []) (b := fp) (ci := 3) (q := (R_Pk, T_Pk, 8)) ⟨hx, hb, hml, hown, hts⟩ (c_Pk_byteOfFrame f2 f3 f4 f6 hsz) ⟨(callB_of 1 hts (zg_all zw_435) rfl rfl rfl (hw zw_12) (hw zw_432) k_Pk_byteOfFrame.2 ⟨Nat.le_of_ble_eq_true rfl, Nat.le_of_ble_eq_true rfl⟩), (hw zw_433), (hw zw_434)⟩ hSc hE hH hS hA rfl (by decide) f2 rfl hl.1 rfl (Nat.le_of_ble_eq_true rfl) d_Rec_frameByte_16 ⟨Nat.le_of_ble_eq_true rfl, Nat.le_of_ble_eq_true rfl⟩ (fun v1 kd1 ln1 I1 L1 R1 H locs hp hH hS => ?_)
  obtain ⟨rfl, rfl, rfl, rfl, rfl, rfl⟩ := hp
  rw [f7, f8, f9]
  refine W.eq (g2 := F0 m 19 ls [.int (zk_bf (c9 91) (g9 4 91) (c9 90 0) (c9 90 2) x)]) rfl ?_
  refine W.widen (k := 0) (n := 0) (by omega) (by omega) ?_
  refine W.widen (k := 0) (n := 0) (Nat.le_of_ble_eq_true rfl) (Nat.le_of_ble_eq_true rfl) ?_
  subst hAe
  exact W.iret (v := zk_bf (c9 91) (g9 4 91) (c9 90 0) (c9 90 2) x) hx hb hr (fun t ht hW => zc_end hS hH ht (⟨rfl, rfl, rfl, rfl, rfl, rfl⟩)) hS.2.2 d_Rec_frameByte_19
