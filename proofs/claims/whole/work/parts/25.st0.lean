theorem zk_n2 {g : Nat → Nat → Nat} {k : Nat} (h : k < 4) : zk_n g (20 + k) = 40 := by
  rcases (show k = 0 ∨ k = 1 ∨ k = 2 ∨ k = 3 by omega) with rfl | rfl | rfl | rfl <;> rfl
theorem zk_np {g : Nat → Nat → Nat} {k x : Nat} : zk_n g (zk_p k x + 1) = g 4 (zk_p k x + 1) := by
  unfold zk_n
  have h : 100 ≤ zk_p k x := by unfold zk_p; omega
  rw [if_neg (by omega), if_neg (by omega), if_neg (by omega), if_neg (by omega), if_neg (by omega)]
section ZKS
variable {X te : Nat} {A ea : Nat → Nat} {c : Nat → Nat → Int32} {d : Nat → Nat → Int64} {g : Nat → Nat → Nat} {kd ln : Nat → Nat} {I : Nat → Nat → Int32} {L : Nat → Nat → Int64} {R : Nat → Nat → Option Nat}
theorem zkR_mem (h : zkR X te A ea c d g kd ln I L R) : kd (A 0) = 2 ∧ R (A 0) 0 = some (A 3) ∧ R (A 0) 1 = some (A 1) ∧ kd (A 3) = 101 ∧ ln (A 3) = 768 ∧ kd (A 1) = 103 ∧ ln (A 1) = 40 := ⟨zkR_k h (zk_lv0 (by decide)), h.2.2.2.1.1, h.2.2.2.1.2, zkR_k h (zk_lv0 (by decide)), zkR_n h (zk_lv0 (by decide)) (by decide), zkR_k h (zk_lv0 (by decide)), zkR_n h (zk_lv0 (by decide)) (by decide)⟩
theorem zkR_cnt (h : zkR X te A ea c d g kd ln I L R) {k : Nat} (hk : k < 4) (hg : g 0 k ≠ 0) : g 2 k - g 1 k ≤ 1500 := by
  obtain ⟨-, -, -, h4, -⟩ := (zkR_st h hk hg).2.2.2.2
  omega
theorem zkR_get (h : zkR X te A ea c d g kd ln I L R) {k j : Nat} (hk : k < 4) (hg : g 0 k ≠ 0) (hj : j < g 2 k - g 1 k) : kd (ea k) = 104 ∧ g 2 k - g 1 k ≤ ln (ea k) ∧ ln (ea k) < 2 ^ 30 ∧ R (ea k) j = some (A (zk_p k (g 1 k + j))) := by
  obtain ⟨-, -, -, h4, h5⟩ := (zkR_st h hk hg).2.2.2.2
  rcases h4 with h4 | ⟨h4, h6, h7, h8⟩
  · omega
  · exact ⟨h4, h6, by omega, h5 j hj⟩
/-- a whole row of ints made anew -/
theorem zkR_U (h : zkR X te A ea c d g kd ln I L R) (r : Nat) (f : Nat → Int32) (hr : zk_lv g r) (hk : zk_k r ≠ 4) (ht : zk_k r = 102 → r = 2) : zkR X te A ea (va_up c r f) d g kd ln (va_up I (A r) f) L R := by
  have h0 := h
  obtain ⟨t1, t2, hx, hm, hs, hj, hp, hq, hf⟩ := h
  obtain ⟨n9, n90, n91⟩ := zk_lv_ne hr
  refine ⟨fun s hsl => ?_, t2, hx, hm, fun j hj4 => ⟨(hs j hj4).1, fun hg => ?_⟩, hj, hp, hq, ?_⟩
  · by_cases e : s = r
    · subst e
      rw [va_up_self, va_up_self]
      have ht1 := t1 s hsl
      exact ⟨ht1.1, rfl, ht1.2.2⟩
    · rw [va_up_ne _ _ (fun q => e (t2 s r hsl hr q)), va_up_ne _ _ e]
      exact t1 s hsl
  · obtain ⟨a1, a2, a3, a4, l1, l2, l3⟩ := (hs j hj4).2 hg
    refine ⟨a1, a2, a3, a4, l1, ?_, l3⟩
    rw [va_up_ne _ _ (zkR_ane h0 hr hj4 hg)]
    exact l2
  · rcases hf with hf | ⟨f0, fp, ft, f1, f2, f3, f4, f5, f6, f7, f8, f9⟩
    · exact Or.inl hf
    · have hfp : fp ≠ A r := fun e => hk (by rw [← (t1 r hr).1, ← e]; exact f2)
      have hft : ft ≠ A r := fun e => f5 (by
        have h4 : zk_k r = 102 := by rw [← (t1 r hr).1, ← e]; exact f4
        rw [← ht h4, e])
      refine Or.inr ⟨f0, fp, ft, f1, f2, f3, f4, f5, f6, ?_, ?_, ?_⟩
      · rw [va_up_ne _ _ hfp, va_up_ne _ _ (Ne.symm n90)]
        exact f7
      · rw [va_up_ne _ _ hfp, va_up_ne _ _ (Ne.symm n90)]
        exact f8
      · rw [va_up_ne _ _ hft, va_up_ne _ _ (Ne.symm n91)]
        exact f9
end ZKS
theorem c_ALk_size {l : Launch} {D : va_G} {cA : Nat → ClassId} {te mi : Nat} {kd ln : Nat → Nat} {I : Nat → Nat → Int32} {L : Nat → Nat → Int64} {R : Nat → Nat → Option Nat} {X : Nat} {a9 e9 : Nat → Nat} {c9 : Nat → Nat → Int32} {d9 : Nat → Nat → Int64} {g9 : Nat → Nat → Nat} (hm : zkR X te a9 e9 c9 d9 g9 kd ln I L R) {k : Nat} (hk4 : k < 4) (hgk : g9 0 k ≠ 0) : zc_M l y_AL_size w_AL_size { frames := 0, cells := 0, slots := 0, locals := 0 } 0 0 D cA te mi ([.ref (a9 (40 + k))] : List Value) kd ln I L R (zc_eq (some (.int (nI (g9 2 k - g9 1 k)))) kd ln I L R) := c_AL_size (zkR_st hm hk4 hgk).2.2.2.2.1 (zkR_st hm hk4 hgk).2.2.2.2.2.1
theorem c_ALk_get {l : Launch} {D : va_G} {cA : Nat → ClassId} {te mi : Nat} {kd ln : Nat → Nat} {I : Nat → Nat → Int32} {L : Nat → Nat → Int64} {R : Nat → Nat → Option Nat} {X : Nat} {a9 e9 : Nat → Nat} {c9 : Nat → Nat → Int32} {d9 : Nat → Nat → Int64} {g9 : Nat → Nat → Nat} (hm : zkR X te a9 e9 c9 d9 g9 kd ln I L R) {k : Nat} (hk4 : k < 4) (hgk : g9 0 k ≠ 0) {j : Nat} (hj : j < g9 2 k - g9 1 k) : zc_M l y_AL_get w_AL_get { frames := 2, cells := 0, slots := 0, locals := 43 } 0 0 D cA te mi ([.ref (a9 (40 + k)), .int (nI j)] : List Value) kd ln I L R (zc_eq (some (.ref (a9 (zk_p k (g9 1 k + j))))) kd ln I L R) := c_AL_get (zkR_st hm hk4 hgk).2.2.2.2.1 (zkR_st hm hk4 hgk).2.2.2.2.2.1 (zkR_st hm hk4 hgk).2.2.2.2.2.2.1 (zkR_get hm hk4 hgk hj).1 (zkR_get hm hk4 hgk hj).2.1 (zkR_get hm hk4 hgk hj).2.2.1 hj (zkR_get hm hk4 hgk hj).2.2.2

theorem zt_maxsub {a b : Nat} (ha : a < 2 ^ 30) (hb : b < 2 ^ 30) : (if nI a - nI b < nI 0 then nI 0 else nI a - nI b) = nI (a - b) := by
  have hz : (nI 0).toInt = 0 := rfl
  rcases Nat.lt_or_ge a b with h | h
  · have e : nI a = nI b - nI (b - a) := by rw [pk_sub (by omega), show b - (b - a) = a by omega]
    have h1 : (nI a - nI b).toInt = (a : Int) - (b : Int) := by
      rw [Int32.toInt_sub, nI_toInt (by omega), nI_toInt (by omega)]
      rw [Int.bmod_def]
      split <;> omega
    rw [if_pos (Int32.lt_iff_toInt_lt.mpr (by rw [h1, hz]; omega)), show a - b = 0 by omega]
  · rw [pk_sub h, if_neg (nI_nlt (Nat.zero_le _) (by omega))]
def zk_cc (c : Nat → Nat → Int32) (k a : Nat) : Nat → Nat
  | 0 => 0
  | n + 1 => zk_cc c k a n + (if c (zk_p k (a + n)) 5 = nI 0 then 0 else 1)
theorem zk_cc_le (c : Nat → Nat → Int32) (k a : Nat) : ∀ n, zk_cc c k a n ≤ n
  | 0 => Nat.le_refl _
  | n + 1 => by
    have := zk_cc_le c k a n
    rw [zk_cc]
    split <;> omega
def zk_ca (d : Nat → Nat → Int64) (k a : Nat) : Nat → Nat
  | 0 => 0
  | n + 1 => zk_ca d k a n + (if zk_ask (d (zk_p k (a + n)) 7) = nI 0 then 0 else 1)
theorem zk_ca_le (d : Nat → Nat → Int64) (k a : Nat) : ∀ n, zk_ca d k a n ≤ n
  | 0 => Nat.le_refl _
  | n + 1 => by
    have := zk_ca_le d k a n
    rw [zk_ca]
    split <;> omega
/-- is the one ahead of place n confirmed -/
def zk_ir (c : Nat → Nat → Int32) (k a n : Nat) : Int32 := if n = 0 then nI 0 else c (zk_p k (a + n - 1)) 5
def zk_cr (c : Nat → Nat → Int32) (k a : Nat) : Nat → Nat
  | 0 => 0
  | n + 1 => zk_cr c k a n + (if c (zk_p k (a + n)) 5 = nI 0 then 0 else if zk_ir c k a n = nI 0 then 1 else 0)
theorem zk_cr_le (c : Nat → Nat → Int32) (k a : Nat) : ∀ n, zk_cr c k a n ≤ n
  | 0 => Nat.le_refl _
  | n + 1 => by
    have := zk_cr_le c k a n
    rw [zk_cr]
    split
    · omega
    · split <;> omega
/-- the least position since t, of the last r packets below b -/
def zk_sk (c : Nat → Nat → Int32) (k b : Nat) (t : Int32) : Nat → Int32
  | 0 => (-1)
  | r + 1 => if c (zk_p k (b - (r + 1))) 3 < t then zk_sk c k b t r else c (zk_p k (b - (r + 1))) 2
theorem zk_sk_s {c : Nat → Nat → Int32} {k a b i : Nat} {t : Int32} (h : i < b - a) : zk_sk c k b t (b - a - i) = if c (zk_p k (a + i)) 3 < t then zk_sk c k b t (b - a - (i + 1)) else c (zk_p k (a + i)) 2 := by
  obtain ⟨n, hn⟩ : ∃ n, b - a - i = n + 1 := ⟨b - a - i - 1, by omega⟩
  rw [hn, zk_sk, show b - a - (i + 1) = n by omega, show b - (n + 1) = a + i by omega]
/-- are the packets of the first page confirmed, of the last r below b -/
def zk_fd (c : Nat → Nat → Int32) (k b : Nat) : Nat → Int32
  | 0 => nI 1
  | r + 1 => if c (zk_p k (b - (r + 1))) 4 = c (20 + k) 0 then (if c (zk_p k (b - (r + 1))) 5 = nI 0 then nI 0 else zk_fd c k b r) else nI 1
theorem zk_fd_s {c : Nat → Nat → Int32} {k a b i : Nat} (h : i < b - a) : zk_fd c k b (b - a - i) = if c (zk_p k (a + i)) 4 = c (20 + k) 0 then (if c (zk_p k (a + i)) 5 = nI 0 then nI 0 else zk_fd c k b (b - a - (i + 1))) else nI 1 := by
  obtain ⟨n, hn⟩ : ∃ n, b - a - i = n + 1 := ⟨b - a - i - 1, by omega⟩
  rw [hn, zk_fd, show b - a - (i + 1) = n by omega, show b - (n + 1) = a + i by omega]
def zk_hr (ci : Int32) (w nw cl qu : Nat) : Int32 := if ci = nI 0 then (if cl + (w - (16 - nw) + 12) / 13 ≤ qu then nI 1 else nI 0) else nI 1

set_option maxHeartbeats 4000000 in
set_option maxRecDepth 100000 in
/-- Math.max, of any -/
theorem c_Mth_maxI {l : Launch} {D : va_G} {cA : Nat → ClassId} {te mi : Nat} {kd ln : Nat → Nat} {I : Nat → Nat → Int32} {L : Nat → Nat → Int64} {R : Nat → Nat → Option Nat} {x y : Int32} : zc_M l y_Mth_max w_Mth_max { frames := 0, cells := 0, slots := 0, locals := 0 } 0 0 D cA te mi ([.int x, .int y] : List Value) kd ln I L R (zc_eq (some (.int (if x < y then y else x))) kd ln I L R) := by
  intro sz
  refine va_MetF (cc := b_Mth_max) (maxL := 2) (ret := (some (.int))) (by decide +kernel) rfl ?_
  intro p e s m args below meth c s₁ B hml hv
  obtain ⟨rfl, hsz, hSc, hE, hH⟩ := hv
  have hx := B.exec
  have hb := B.bytes
  have hr := B.returns
  have hts := atoms_spec (ws := w_Mth_max) B.pre
  have hw : ∀ {w : Cond}, w ∈ zw → w.before ([.int x, .int y] : List Value).toArray s = true := fun h => hts _ (List.mem_cons_of_mem _ h)
  have hown : s.vm.findClass R_Mth = some m.cls := findClass_of_methodNamed B.named
  have hlocks := B.notSynchronized
  subst hsz
  have hK := hSc.1
  have hH : zh_H D cA (zc_A kd s.heap.size) kd ln I L R s.heap := hH.weaken (fun q h _ => Or.inl h)
  generalize hAe : zc_A kd s.heap.size = A at hH hE ⊢
  have hA : ∀ q : Nat, s.heap.size ≤ q → A q := fun q h => by rw [← hAe]; exact Or.inr h
  have hS : va_S A s.heap s.heap [] := va_S.rf
  have hl := lv_entry ([.int x, .int y] : List Value) (n := 2) (Nat.le_of_ble_eq_true rfl)
  rw [lg_entry_eq]
  generalize (lg_sl ([.int x, .int y] : List Value) ++ List.replicate (2 - (lg_sl ([.int x, .int y] : List Value)).length) Slot.unset).toArray = ls at hl ⊢
  have hl : lv_has ls 2 [(0, .int x), (1, .int y)] := hl
  refine lv_iload_n hx hb d_Mth_max_0 rfl (lv_at hl 0 rfl) ?_
  refine lv_iload_n hx hb d_Mth_max_1 rfl (lv_at hl 1 rfl) ?_
  refine lv_icmp_lt (tgt := 9) hx hb d_Mth_max_2 (by decide) (fun hc1 => ?_) (fun hc1 => ?_)
  · skip
    have hc1 : x < y := hc1
    refine lv_iload_n hx hb d_Mth_max_9 rfl (lv_at hl 1 rfl) ?_
    refine W.widen (k := 0) (n := 0) (Nat.le_of_ble_eq_true rfl) (Nat.le_of_ble_eq_true rfl) ?_
    subst hAe
    exact W.iret (v := y) hx hb hr (fun t ht hW => zc_end hS hH ht (⟨by rw [if_pos hc1], rfl, rfl, rfl, rfl, rfl⟩)) hS.2.2 d_Mth_max_10
  · skip
    have hc1 : ¬ x < y := hc1
    refine lv_iload_n hx hb d_Mth_max_5 rfl (lv_at hl 0 rfl) ?_
    refine lv_goto (tgt := 10) hx hb d_Mth_max_6 (by decide) ?_
    refine W.widen (k := 0) (n := 0) (Nat.le_of_ble_eq_true rfl) (Nat.le_of_ble_eq_true rfl) ?_
    subst hAe
    exact W.iret (v := x) hx hb hr (fun t ht hW => zc_end hS hH ht (⟨by rw [if_neg hc1], rfl, rfl, rfl, rfl, rfl⟩)) hS.2.2 d_Mth_max_10

set_option maxHeartbeats 4000000 in
set_option maxRecDepth 100000 in
/-- Store.hasRoomFor -/
theorem c_St_hasRoomFor {l : Launch} {D : va_G} {cA : Nat → ClassId} {te mi : Nat} {kd ln : Nat → Nat} {I : Nat → Nat → Int32} {L : Nat → Nat → Int64} {R : Nat → Nat → Option Nat} {X : Nat} {a9 e9 : Nat → Nat} {c9 : Nat → Nat → Int32} {d9 : Nat → Nat → Int64} {g9 : Nat → Nat → Nat} (hm : zkR X te a9 e9 c9 d9 g9 kd ln I L R) {k : Nat} (hk4 : k < 4) (hgk : g9 0 k ≠ 0) {n nw cl qu : Nat} (hn : n ≤ 60) (hnw : c9 (10 + k) 4 = nI nw) (hnw1 : nw ≤ 16) (hcl : c9 (10 + k) 7 = nI cl) (hcl1 : cl ≤ 40) (hqu : c9 (10 + k) 6 = nI qu) (hqu1 : qu ≤ 40) : zc_M l y_St_hasRoomFor w_St_hasRoomFor { frames := 1, cells := 0, slots := 0, locals := 21 } 0 0 D cA te mi ([.ref (a9 (10 + k)), .int (nI n)] : List Value) kd ln I L R (zc_eq (some (.int (zk_hr (c9 (10 + k) 1) (2 + (n + 3) / 4) nw cl qu))) kd ln I L R) := by
  intro sz
  refine Met.ofW (cc := b_St_hasRoomFor) (maxL := 4) (ret := (some (.boolean))) (by decide +kernel) rfl ?_
  intro p e s m args below meth c s₁ B hml hv
  obtain ⟨rfl, hsz, hSc, hE, hH⟩ := hv
  have hx := B.exec
  have hb := B.bytes
  have hr := B.returns
  have hts := atoms_spec (ws := w_St_hasRoomFor) B.pre
  have hw : ∀ {w : Cond}, w ∈ zw → w.before ([.ref (a9 (10 + k)), .int (nI n)] : List Value).toArray s = true := fun h => hts _ (List.mem_cons_of_mem _ h)
  have hown : s.vm.findClass R_St = some m.cls := findClass_of_methodNamed B.named
  have hlocks := B.notSynchronized
  subst hsz
  have hK := hSc.1
  have hH : zh_H D cA (zc_A kd s.heap.size) kd ln I L R s.heap := hH.weaken (fun q h _ => Or.inl h)
  generalize hAe : zc_A kd s.heap.size = A at hH hE ⊢
  have hA : ∀ q : Nat, s.heap.size ≤ q → A q := fun q h => by rw [← hAe]; exact Or.inr h
  have hS : va_S A s.heap s.heap [] := va_S.rf
  have hl := lv_entry ([.ref (a9 (10 + k)), .int (nI n)] : List Value) (n := 4) (Nat.le_of_ble_eq_true rfl)
  rw [lg_entry_eq]
  generalize (lg_sl ([.ref (a9 (10 + k)), .int (nI n)] : List Value) ++ List.replicate (4 - (lg_sl ([.ref (a9 (10 + k)), .int (nI n)] : List Value)).length) Slot.unset).toArray = ls at hl ⊢
  have hl : lv_has ls 4 [(0, .ref (a9 (10 + k))), (1, .int (nI n))] := hl
  refine lv_aload_n hx hb d_St_hasRoomFor_0 rfl (lv_at hl 0 rfl) ?_
  refine zr_geti (ci := 2) (C := R_St) (T := T_St) (N := 10) (ref := "ScrubbedRecorder$Store") hx hb hts (fun w h => List.mem_cons_of_mem _ (zin_St w h)) hown hK hH ((zkR_k hm (zk_lv1 (by omega) hgk)).trans (zk_k1 (by omega))) (by decide) rfl 1 (by decide) rfl (hw zw_125) (fun _ h9 => h9) d_St_hasRoomFor_1 ?_
  refine zt_i (y := c9 (10 + k) 1) (congrFun (zkR_i hm (zk_lv1 (by omega) hgk)) 1) ?_
  refine lv_if_eq (tgt := 9) hx hb d_St_hasRoomFor_4 (by decide) (fun hc1 => ?_) (fun hc1 => ?_)
  · skip
    have hc1 : (c9 (10 + k) 1) = (nI 0) := hc1
    refine lv_iload_n hx hb d_St_hasRoomFor_9 rfl (lv_at hl 1 rfl) ?_
    refine zr_St (As := ([.int (nI n)] : List Value)) (rest := []) ⟨hx, hb, hml, hown, hts⟩ (c_Pk_wordsFor hn) ⟨(callB_of 1 hts (zg_all zw_245) rfl rfl rfl (hw zw_12) (hw zw_243) k_Pk_wordsFor.2 ⟨Nat.le_of_ble_eq_true rfl, Nat.le_of_ble_eq_true rfl⟩), hw zw_244⟩ hSc hE hH hS hA rfl hl.1 rfl (Nat.le_of_ble_eq_true rfl) d_St_hasRoomFor_10 ⟨Nat.le_of_ble_eq_true rfl, Nat.le_of_ble_eq_true rfl⟩ (fun v2 kd2 ln2 I2 L2 R2 H locs hp hH hS => ?_)
    obtain ⟨rfl, rfl, rfl, rfl, rfl, rfl⟩ := hp
    refine W.eq (g2 := F0 m 13 ls [.int (nI (2 + (n + 3) / 4))]) rfl ?_
    refine W.widen (k := 0) (n := 0) (by omega) (by omega) ?_
    refine lv_bipush (v := nI 16) hx hb d_St_hasRoomFor_13 (by decide) ?_
    refine lv_aload_n hx hb d_St_hasRoomFor_15 rfl (lv_at hl 0 rfl) ?_
    refine zr_geti (ci := 2) (C := R_St) (T := T_St) (N := 10) (ref := "ScrubbedRecorder$Store") hx hb hts (fun w h => List.mem_cons_of_mem _ (zin_St w h)) hown hK hH ((zkR_k hm (zk_lv1 (by omega) hgk)).trans (zk_k1 (by omega))) (by decide) rfl 4 (by decide) rfl (hw zw_128) (fun _ h9 => h9) d_St_hasRoomFor_16 ?_
    refine zt_i (y := nI nw) ((congrFun (zkR_i hm (zk_lv1 (by omega) hgk)) 4).trans (by rw [hnw])) ?_
    refine lv_isub hx hb d_St_hasRoomFor_19 ?_
    refine zt_i (y := nI (16 - nw)) (pk_sub (by omega)) ?_
    refine lv_isub hx hb d_St_hasRoomFor_20 ?_
    refine lv_istore_n (lv' := [(2, .int ((nI (2 + (n + 3) / 4)) - (nI (16 - nw)))), (0, .ref (a9 (10 + k))), (1, .int (nI n))]) hx hb d_St_hasRoomFor_21 rfl hl (by decide) rfl (fun ls hl => ?_)
    refine lv_iload_n hx hb d_St_hasRoomFor_22 rfl (lv_at hl 0 rfl) ?_
    refine lv_iconst (v := nI 0) hx hb d_St_hasRoomFor_23 (by decide) ?_
    refine zr_St (As := ([.int ((nI (2 + (n + 3) / 4)) - (nI (16 - nw))), .int (nI 0)] : List Value)) (rest := []) ⟨hx, hb, hml, hown, hts⟩ c_Mth_maxI ⟨(callB_of 2 hts (zg_all zw_248) rfl rfl rfl (hw zw_11) (hw zw_246) k_Mth_max.2 ⟨Nat.le_of_ble_eq_true rfl, Nat.le_of_ble_eq_true rfl⟩), hw zw_247⟩ hSc hE hH hS hA rfl hl.1 rfl (Nat.le_of_ble_eq_true rfl) d_St_hasRoomFor_24 ⟨Nat.le_of_ble_eq_true rfl, Nat.le_of_ble_eq_true rfl⟩ (fun v3 kd3 ln3 I3 L3 R3 H locs hp hH hS => ?_)
    obtain ⟨rfl, rfl, rfl, rfl, rfl, rfl⟩ := hp
    refine W.eq (g2 := F0 m 27 ls [.int (if nI (2 + (n + 3) / 4) - nI (16 - nw) < nI 0 then nI 0 else nI (2 + (n + 3) / 4) - nI (16 - nw))]) rfl ?_
    refine W.widen (k := 0) (n := 0) (by omega) (by omega) ?_
    refine zt_i (y := nI (2 + (n + 3) / 4 - (16 - nw))) (zt_maxsub (by omega) (by omega)) ?_
    refine lv_bipush (v := nI 13) hx hb d_St_hasRoomFor_27 (by decide) ?_
    refine lv_iadd hx hb d_St_hasRoomFor_29 ?_
    refine zt_i (y := nI (2 + (n + 3) / 4 - (16 - nw) + 13)) (nI_add (2 + (n + 3) / 4 - (16 - nw)) 13) ?_
    refine lv_iconst (v := nI 1) hx hb d_St_hasRoomFor_30 (by decide) ?_
    refine lv_isub hx hb d_St_hasRoomFor_31 ?_
    refine zt_i (y := nI (2 + (n + 3) / 4 - (16 - nw) + 13 - 1)) (pk_sub (by omega)) ?_
    refine lv_bipush (v := nI 13) hx hb d_St_hasRoomFor_32 (by decide) ?_
    refine lv_idiv hx hb d_St_hasRoomFor_34 (zt_ne0 (by omega) (by omega)) ?_
    refine zt_i (y := nI ((2 + (n + 3) / 4 - (16 - nw) + 13 - 1) / 13)) (pk_div (by omega) (by omega) (by omega)) ?_
    refine lv_istore_n (lv' := [(3, .int (nI ((2 + (n + 3) / 4 - (16 - nw) + 13 - 1) / 13))), (2, .int ((nI (2 + (n + 3) / 4)) - (nI (16 - nw)))), (0, .ref (a9 (10 + k))), (1, .int (nI n))]) hx hb d_St_hasRoomFor_35 rfl hl (by decide) rfl (fun ls hl => ?_)
    refine lv_aload_n hx hb d_St_hasRoomFor_36 rfl (lv_at hl 2 rfl) ?_
    refine zr_geti (ci := 2) (C := R_St) (T := T_St) (N := 10) (ref := "ScrubbedRecorder$Store") hx hb hts (fun w h => List.mem_cons_of_mem _ (zin_St w h)) hown hK hH ((zkR_k hm (zk_lv1 (by omega) hgk)).trans (zk_k1 (by omega))) (by decide) rfl 7 (by decide) rfl (hw zw_134) (fun _ h9 => h9) d_St_hasRoomFor_37 ?_
    refine zt_i (y := nI cl) ((congrFun (zkR_i hm (zk_lv1 (by omega) hgk)) 7).trans (by rw [hcl])) ?_
    refine lv_iload_n hx hb d_St_hasRoomFor_40 rfl (lv_at hl 0 rfl) ?_
    refine lv_iadd hx hb d_St_hasRoomFor_41 ?_
    refine zt_i (y := nI (cl + ((2 + (n + 3) / 4 - (16 - nw) + 13 - 1) / 13))) (nI_add cl ((2 + (n + 3) / 4 - (16 - nw) + 13 - 1) / 13)) ?_
    refine lv_aload_n hx hb d_St_hasRoomFor_42 rfl (lv_at hl 2 rfl) ?_
    refine zr_geti (ci := 2) (C := R_St) (T := T_St) (N := 10) (ref := "ScrubbedRecorder$Store") hx hb hts (fun w h => List.mem_cons_of_mem _ (zin_St w h)) hown hK hH ((zkR_k hm (zk_lv1 (by omega) hgk)).trans (zk_k1 (by omega))) (by decide) rfl 6 (by decide) rfl (hw zw_132) (fun _ h9 => h9) d_St_hasRoomFor_43 ?_
    refine zt_i (y := nI qu) ((congrFun (zkR_i hm (zk_lv1 (by omega) hgk)) 6).trans (by rw [hqu])) ?_
    refine lv_icmp_gt (tgt := 53) hx hb d_St_hasRoomFor_46 (by decide) (fun hc4 => ?_) (fun hc4 => ?_)
    · skip
      have hc4 := zt_gtT (a := (cl + ((2 + (n + 3) / 4 - (16 - nw) + 13 - 1) / 13))) (b := qu) (by omega) (by omega) hc4
      refine lv_iconst (v := nI 0) hx hb d_St_hasRoomFor_53 (by decide) ?_
      refine W.widen (k := 0) (n := 0) (Nat.le_of_ble_eq_true rfl) (Nat.le_of_ble_eq_true rfl) ?_
      subst hAe
      exact W.zret (v := nI 0) hx hb hr (by decide +kernel) (fun t ht hW => zc_end hS hH ht (⟨by rw [zk_hr, if_pos hc1]; first | rw [if_pos (by omega)] | rw [if_neg (by omega)], rfl, rfl, rfl, rfl, rfl⟩)) hS.2.2 d_St_hasRoomFor_54
    · skip
      have hc4 := zt_gtF (a := (cl + ((2 + (n + 3) / 4 - (16 - nw) + 13 - 1) / 13))) (b := qu) (by omega) (by omega) hc4
      refine lv_iconst (v := nI 1) hx hb d_St_hasRoomFor_49 (by decide) ?_
      refine lv_goto (tgt := 54) hx hb d_St_hasRoomFor_50 (by decide) ?_
      refine W.widen (k := 0) (n := 0) (Nat.le_of_ble_eq_true rfl) (Nat.le_of_ble_eq_true rfl) ?_
      subst hAe
      exact W.zret (v := nI 1) hx hb hr (by decide +kernel) (fun t ht hW => zc_end hS hH ht (⟨by rw [zk_hr, if_pos hc1]; first | rw [if_pos (by omega)] | rw [if_neg (by omega)], rfl, rfl, rfl, rfl, rfl⟩)) hS.2.2 d_St_hasRoomFor_54
  · skip
    have hc1 : ¬ (c9 (10 + k) 1) = (nI 0) := hc1
    refine lv_iconst (v := nI 1) hx hb d_St_hasRoomFor_7 (by decide) ?_
    refine W.widen (k := 0) (n := 0) (Nat.le_of_ble_eq_true rfl) (Nat.le_of_ble_eq_true rfl) ?_
    subst hAe
    exact W.zret (v := nI 1) hx hb hr (by decide +kernel) (fun t ht hW => zc_end hS hH ht (⟨by rw [zk_hr, if_neg hc1], rfl, rfl, rfl, rfl, rfl⟩)) hS.2.2 d_St_hasRoomFor_8

set_option maxHeartbeats 4000000 in
set_option maxRecDepth 100000 in
/-- Store.keptAt -/
theorem c_St_keptAt_S {l : Launch} {D : va_G} {cA : Nat → ClassId} {te mi : Nat} {kd ln : Nat → Nat} {I : Nat → Nat → Int32} {L : Nat → Nat → Int64} {R : Nat → Nat → Option Nat} {X : Nat} {a9 e9 : Nat → Nat} {c9 : Nat → Nat → Int32} {d9 : Nat → Nat → Int64} {g9 : Nat → Nat → Nat} (hm : zkR X te a9 e9 c9 d9 g9 kd ln I L R) {k : Nat} (hk4 : k < 4) (hgk : g9 0 k ≠ 0) (hnx : c9 (10 + k) 8 = nI (g9 2 k)) (hnx1 : g9 2 k < 2 ^ 30) (hlo : g9 1 k ≤ g9 2 k) {x : Nat} (hx1 : g9 1 k ≤ x) (hx2 : x < g9 2 k) : zc_M l y_St_keptAt w_St_keptAt { frames := 3, cells := 0, slots := 0, locals := 64 } 0 0 D cA te mi ([.ref (a9 (10 + k)), .int (nI x)] : List Value) kd ln I L R (zc_eq (some (.ref (a9 (zk_p k x)))) kd ln I L R) := by
  intro sz
  refine Met.ofW (cc := b_St_keptAt) (maxL := 3) (ret := (some ((.object "ScrubbedRecorder$Packet")))) (by decide +kernel) rfl ?_
  intro p e s m args below meth c s₁ B hml hv
  obtain ⟨rfl, hsz, hSc, hE, hH⟩ := hv
  have hx := B.exec
  have hb := B.bytes
  have hr := B.returns
  have hts := atoms_spec (ws := w_St_keptAt) B.pre
  have hw : ∀ {w : Cond}, w ∈ zw → w.before ([.ref (a9 (10 + k)), .int (nI x)] : List Value).toArray s = true := fun h => hts _ (List.mem_cons_of_mem _ h)
  have hown : s.vm.findClass R_St = some m.cls := findClass_of_methodNamed B.named
  have hlocks := B.notSynchronized
  subst hsz
  have hK := hSc.1
  have hH : zh_H D cA (zc_A kd s.heap.size) kd ln I L R s.heap := hH.weaken (fun q h _ => Or.inl h)
  generalize hAe : zc_A kd s.heap.size = A at hH hE ⊢
  have hA : ∀ q : Nat, s.heap.size ≤ q → A q := fun q h => by rw [← hAe]; exact Or.inr h
  have hS : va_S A s.heap s.heap [] := va_S.rf
  have hl := lv_entry ([.ref (a9 (10 + k)), .int (nI x)] : List Value) (n := 3) (Nat.le_of_ble_eq_true rfl)
  rw [lg_entry_eq]
  generalize (lg_sl ([.ref (a9 (10 + k)), .int (nI x)] : List Value) ++ List.replicate (3 - (lg_sl ([.ref (a9 (10 + k)), .int (nI x)] : List Value)).length) Slot.unset).toArray = ls at hl ⊢
  have hl : lv_has ls 3 [(0, .ref (a9 (10 + k))), (1, .int (nI x))] := hl
  have hn15 := zkR_cnt hm hk4 hgk
  refine lv_aload_n hx hb d_St_keptAt_0 rfl (lv_at hl 0 rfl) ?_
  refine zr_geti (ci := 2) (C := R_St) (T := T_St) (N := 10) (ref := "ScrubbedRecorder$Store") hx hb hts (fun w h => List.mem_cons_of_mem _ (zin_St w h)) hown hK hH ((zkR_k hm (zk_lv1 (by omega) hgk)).trans (zk_k1 (by omega))) (by decide) rfl 8 (by decide) rfl (hw zw_136) (fun _ h9 => h9) d_St_keptAt_1 ?_
  refine zt_i (y := nI (g9 2 k)) ((congrFun (zkR_i hm (zk_lv1 (by omega) hgk)) 8).trans (by rw [hnx])) ?_
  refine lv_aload_n hx hb d_St_keptAt_4 rfl (lv_at hl 0 rfl) ?_
  refine zr_getr (ci := 2) (C := R_St) (T := T_St) (N := 10) (ref := "ScrubbedRecorder$Store") hx hb hts (fun w h => List.mem_cons_of_mem _ (zin_St w h)) hown hK hH ((zkR_k hm (zk_lv1 (by omega) hgk)).trans (zk_k1 (by omega))) (by decide) rfl 5 (by decide) rfl (hw zw_129) (fun _ h9 => h9) d_St_keptAt_5 (zkR_st hm (by omega) hgk).2.2.2.1 ?_
  refine zr_V (As := ([] : List Value)) (rest := [.int (nI (g9 2 k))]) (b := a9 (40 + k)) (ci := 5) (q := (R_AL, T_AL, 3)) ⟨hx, hb, hml, hown, hts⟩ (c_ALk_size hm (by omega) hgk) ⟨(callB_of 0 hts (zg_all zw_172) rfl rfl rfl (hw zw_7) (hw zw_169) k_AL_size.2 ⟨Nat.le_of_ble_eq_true rfl, Nat.le_of_ble_eq_true rfl⟩), (hw zw_170), (hw zw_171)⟩ hSc hE hH hS hA rfl (by decide) (zkR_st hm (by omega) hgk).2.2.2.2.1 rfl hl.1 rfl (Nat.le_of_ble_eq_true rfl) d_St_keptAt_8 ⟨Nat.le_of_ble_eq_true rfl, Nat.le_of_ble_eq_true rfl⟩ (fun v1 kd1 ln1 I1 L1 R1 H locs hp hH hS => ?_)
  obtain ⟨rfl, rfl, rfl, rfl, rfl, rfl⟩ := hp
  refine W.eq (g2 := F0 m 11 ls [.int (nI (g9 2 k - g9 1 k)), .int (nI (g9 2 k))]) rfl ?_
  refine W.widen (k := 0) (n := 0) (by omega) (by omega) ?_
  refine lv_isub hx hb d_St_keptAt_11 ?_
  refine zt_i (y := nI (g9 2 k - (g9 2 k - g9 1 k))) (pk_sub (by omega)) ?_
  refine zt_i (y := nI (g9 1 k)) (by congr 1; omega) ?_
  refine lv_istore_n (lv' := [(2, .int (nI (g9 1 k))), (0, .ref (a9 (10 + k))), (1, .int (nI x))]) hx hb d_St_keptAt_12 rfl hl (by decide) rfl (fun ls hl => ?_)
  refine lv_iload_n hx hb d_St_keptAt_13 rfl (lv_at hl 2 rfl) ?_
  refine lv_iload_n hx hb d_St_keptAt_14 rfl (lv_at hl 0 rfl) ?_
  refine lv_icmp_lt (tgt := 26) hx hb d_St_keptAt_15 (by decide) (fun hc2 => ?_) (fun hc2 => ?_)
  · skip
    have hc2 := zt_ltT (a := x) (b := (g9 1 k)) (by omega) (by omega) hc2
    exact absurd hc2 (by omega)
  · skip
    have hc2 := zt_ltF (a := x) (b := (g9 1 k)) (by omega) (by omega) hc2
    refine lv_iload_n hx hb d_St_keptAt_18 rfl (lv_at hl 2 rfl) ?_
    refine lv_aload_n hx hb d_St_keptAt_19 rfl (lv_at hl 1 rfl) ?_
    refine zr_geti (ci := 2) (C := R_St) (T := T_St) (N := 10) (ref := "ScrubbedRecorder$Store") hx hb hts (fun w h => List.mem_cons_of_mem _ (zin_St w h)) hown hK hH ((zkR_k hm (zk_lv1 (by omega) hgk)).trans (zk_k1 (by omega))) (by decide) rfl 8 (by decide) rfl (hw zw_136) (fun _ h9 => h9) d_St_keptAt_20 ?_
    refine zt_i (y := nI (g9 2 k)) ((congrFun (zkR_i hm (zk_lv1 (by omega) hgk)) 8).trans (by rw [hnx])) ?_
    refine lv_icmp_lt (tgt := 30) hx hb d_St_keptAt_23 (by decide) (fun hc3 => ?_) (fun hc3 => ?_)
    · skip
      have hc3 := zt_ltT (a := x) (b := (g9 2 k)) (by omega) (by omega) hc3
      refine lv_aload_n hx hb d_St_keptAt_30 rfl (lv_at hl 1 rfl) ?_
      refine zr_getr (ci := 2) (C := R_St) (T := T_St) (N := 10) (ref := "ScrubbedRecorder$Store") hx hb hts (fun w h => List.mem_cons_of_mem _ (zin_St w h)) hown hK hH ((zkR_k hm (zk_lv1 (by omega) hgk)).trans (zk_k1 (by omega))) (by decide) rfl 5 (by decide) rfl (hw zw_129) (fun _ h9 => h9) d_St_keptAt_31 (zkR_st hm (by omega) hgk).2.2.2.1 ?_
      refine lv_iload_n hx hb d_St_keptAt_34 rfl (lv_at hl 2 rfl) ?_
      refine lv_iload_n hx hb d_St_keptAt_35 rfl (lv_at hl 0 rfl) ?_
      refine lv_isub hx hb d_St_keptAt_36 ?_
      refine zt_i (y := nI (x - (g9 1 k))) (pk_sub (by omega)) ?_
      refine zr_V (As := ([.int (nI (x - (g9 1 k)))] : List Value)) (rest := []) (b := a9 (40 + k)) (ci := 5) (q := (R_AL, T_AL, 3)) ⟨hx, hb, hml, hown, hts⟩ (c_ALk_get (j := x - (g9 1 k)) hm (by omega) hgk (by omega)) ⟨(callB_of 1 hts (zg_all zw_176) rfl rfl rfl (hw zw_7) (hw zw_173) k_AL_get.2 ⟨Nat.le_of_ble_eq_true rfl, Nat.le_of_ble_eq_true rfl⟩), (hw zw_174), (hw zw_175)⟩ hSc hE hH hS hA rfl (by decide) (zkR_st hm (by omega) hgk).2.2.2.2.1 rfl hl.1 rfl (Nat.le_of_ble_eq_true rfl) d_St_keptAt_37 ⟨Nat.le_of_ble_eq_true rfl, Nat.le_of_ble_eq_true rfl⟩ (fun v4 kd4 ln4 I4 L4 R4 H locs hp hH hS => ?_)
      obtain ⟨rfl, rfl, rfl, rfl, rfl, rfl⟩ := hp
      refine W.eq (g2 := F0 m 40 ls [.ref (a9 (zk_p k (g9 1 k + (x - (g9 1 k)))))]) rfl ?_
      refine W.widen (k := 0) (n := 0) (by omega) (by omega) ?_
      refine zr_cast (ci := 3) (nm := "ScrubbedRecorder$Packet") hx hb hown (hw zw_187) (hSc.2.1 _ (by decide +kernel)) hK hH rfl (by decide) ((zkR_k hm (zk_lvp (by omega) hgk (by omega) (by omega))).trans zk_kp) d_St_keptAt_40 ?_
      refine W.widen (k := 0) (n := 0) (Nat.le_of_ble_eq_true rfl) (Nat.le_of_ble_eq_true rfl) ?_
      subst hAe
      exact W.aret hx hb hr (Or.inl ⟨_, rfl⟩) (Or.inr ⟨_, rfl⟩) (fun t ht hW => zc_end hS hH ht (⟨by rw [show g9 1 k + (x - g9 1 k) = x by omega], rfl, rfl, rfl, rfl, rfl⟩)) hS.2.2 d_St_keptAt_43
    · skip
      have hc3 := zt_ltF (a := x) (b := (g9 2 k)) (by omega) (by omega) hc3
      exact absurd hc3 (by omega)

set_option maxHeartbeats 4000000 in
set_option maxRecDepth 100000 in
/-- Store.keptAt -/
theorem c_St_keptAt_N {l : Launch} {D : va_G} {cA : Nat → ClassId} {te mi : Nat} {kd ln : Nat → Nat} {I : Nat → Nat → Int32} {L : Nat → Nat → Int64} {R : Nat → Nat → Option Nat} {X : Nat} {a9 e9 : Nat → Nat} {c9 : Nat → Nat → Int32} {d9 : Nat → Nat → Int64} {g9 : Nat → Nat → Nat} (hm : zkR X te a9 e9 c9 d9 g9 kd ln I L R) {k : Nat} (hk4 : k < 4) (hgk : g9 0 k ≠ 0) (hnx : c9 (10 + k) 8 = nI (g9 2 k)) (hnx1 : g9 2 k < 2 ^ 30) (hlo : g9 1 k ≤ g9 2 k) {x : Int32} (hxb : x < nI (g9 1 k) ∨ ¬ x < nI (g9 2 k)) : zc_M l y_St_keptAt w_St_keptAt { frames := 3, cells := 0, slots := 0, locals := 64 } 0 0 D cA te mi ([.ref (a9 (10 + k)), .int x] : List Value) kd ln I L R (zc_eq (some .null) kd ln I L R) := by
  intro sz
  refine Met.ofW (cc := b_St_keptAt) (maxL := 3) (ret := (some ((.object "ScrubbedRecorder$Packet")))) (by decide +kernel) rfl ?_
  intro p e s m args below meth c s₁ B hml hv
  obtain ⟨rfl, hsz, hSc, hE, hH⟩ := hv
  have hx := B.exec
  have hb := B.bytes
  have hr := B.returns
  have hts := atoms_spec (ws := w_St_keptAt) B.pre
  have hw : ∀ {w : Cond}, w ∈ zw → w.before ([.ref (a9 (10 + k)), .int x] : List Value).toArray s = true := fun h => hts _ (List.mem_cons_of_mem _ h)
  have hown : s.vm.findClass R_St = some m.cls := findClass_of_methodNamed B.named
  have hlocks := B.notSynchronized
  subst hsz
  have hK := hSc.1
  have hH : zh_H D cA (zc_A kd s.heap.size) kd ln I L R s.heap := hH.weaken (fun q h _ => Or.inl h)
  generalize hAe : zc_A kd s.heap.size = A at hH hE ⊢
  have hA : ∀ q : Nat, s.heap.size ≤ q → A q := fun q h => by rw [← hAe]; exact Or.inr h
  have hS : va_S A s.heap s.heap [] := va_S.rf
  have hl := lv_entry ([.ref (a9 (10 + k)), .int x] : List Value) (n := 3) (Nat.le_of_ble_eq_true rfl)
  rw [lg_entry_eq]
  generalize (lg_sl ([.ref (a9 (10 + k)), .int x] : List Value) ++ List.replicate (3 - (lg_sl ([.ref (a9 (10 + k)), .int x] : List Value)).length) Slot.unset).toArray = ls at hl ⊢
  have hl : lv_has ls 3 [(0, .ref (a9 (10 + k))), (1, .int x)] := hl
  have hn15 := zkR_cnt hm hk4 hgk
  refine lv_aload_n hx hb d_St_keptAt_0 rfl (lv_at hl 0 rfl) ?_
  refine zr_geti (ci := 2) (C := R_St) (T := T_St) (N := 10) (ref := "ScrubbedRecorder$Store") hx hb hts (fun w h => List.mem_cons_of_mem _ (zin_St w h)) hown hK hH ((zkR_k hm (zk_lv1 (by omega) hgk)).trans (zk_k1 (by omega))) (by decide) rfl 8 (by decide) rfl (hw zw_136) (fun _ h9 => h9) d_St_keptAt_1 ?_
  refine zt_i (y := nI (g9 2 k)) ((congrFun (zkR_i hm (zk_lv1 (by omega) hgk)) 8).trans (by rw [hnx])) ?_
  refine lv_aload_n hx hb d_St_keptAt_4 rfl (lv_at hl 0 rfl) ?_
  refine zr_getr (ci := 2) (C := R_St) (T := T_St) (N := 10) (ref := "ScrubbedRecorder$Store") hx hb hts (fun w h => List.mem_cons_of_mem _ (zin_St w h)) hown hK hH ((zkR_k hm (zk_lv1 (by omega) hgk)).trans (zk_k1 (by omega))) (by decide) rfl 5 (by decide) rfl (hw zw_129) (fun _ h9 => h9) d_St_keptAt_5 (zkR_st hm (by omega) hgk).2.2.2.1 ?_
  refine zr_V (As := ([] : List Value)) (rest := [.int (nI (g9 2 k))]) (b := a9 (40 + k)) (ci := 5) (q := (R_AL, T_AL, 3)) ⟨hx, hb, hml, hown, hts⟩ (c_ALk_size hm (by omega) hgk) ⟨(callB_of 0 hts (zg_all zw_172) rfl rfl rfl (hw zw_7) (hw zw_169) k_AL_size.2 ⟨Nat.le_of_ble_eq_true rfl, Nat.le_of_ble_eq_true rfl⟩), (hw zw_170), (hw zw_171)⟩ hSc hE hH hS hA rfl (by decide) (zkR_st hm (by omega) hgk).2.2.2.2.1 rfl hl.1 rfl (Nat.le_of_ble_eq_true rfl) d_St_keptAt_8 ⟨Nat.le_of_ble_eq_true rfl, Nat.le_of_ble_eq_true rfl⟩ (fun v1 kd1 ln1 I1 L1 R1 H locs hp hH hS => ?_)
  obtain ⟨rfl, rfl, rfl, rfl, rfl, rfl⟩ := hp
  refine W.eq (g2 := F0 m 11 ls [.int (nI (g9 2 k - g9 1 k)), .int (nI (g9 2 k))]) rfl ?_
  refine W.widen (k := 0) (n := 0) (by omega) (by omega) ?_
  refine lv_isub hx hb d_St_keptAt_11 ?_
  refine zt_i (y := nI (g9 2 k - (g9 2 k - g9 1 k))) (pk_sub (by omega)) ?_
  refine zt_i (y := nI (g9 1 k)) (by congr 1; omega) ?_
  refine lv_istore_n (lv' := [(2, .int (nI (g9 1 k))), (0, .ref (a9 (10 + k))), (1, .int x)]) hx hb d_St_keptAt_12 rfl hl (by decide) rfl (fun ls hl => ?_)
  refine lv_iload_n hx hb d_St_keptAt_13 rfl (lv_at hl 2 rfl) ?_
  refine lv_iload_n hx hb d_St_keptAt_14 rfl (lv_at hl 0 rfl) ?_
  refine lv_icmp_lt (tgt := 26) hx hb d_St_keptAt_15 (by decide) (fun hc2 => ?_) (fun hc2 => ?_)
  · skip
    have hc2 : x < (nI (g9 1 k)) := hc2
    refine lv_null hx hb d_St_keptAt_26 ?_
    refine lv_goto (tgt := 43) hx hb d_St_keptAt_27 (by decide) ?_
    refine W.widen (k := 0) (n := 0) (Nat.le_of_ble_eq_true rfl) (Nat.le_of_ble_eq_true rfl) ?_
    subst hAe
    exact W.aret hx hb hr (Or.inl ⟨_, rfl⟩) (Or.inl rfl) (fun t ht hW => zc_end hS hH ht (⟨rfl, rfl, rfl, rfl, rfl, rfl⟩)) hS.2.2 d_St_keptAt_43
  · skip
    have hc2 : ¬ x < (nI (g9 1 k)) := hc2
    refine lv_iload_n hx hb d_St_keptAt_18 rfl (lv_at hl 2 rfl) ?_
    refine lv_aload_n hx hb d_St_keptAt_19 rfl (lv_at hl 1 rfl) ?_
    refine zr_geti (ci := 2) (C := R_St) (T := T_St) (N := 10) (ref := "ScrubbedRecorder$Store") hx hb hts (fun w h => List.mem_cons_of_mem _ (zin_St w h)) hown hK hH ((zkR_k hm (zk_lv1 (by omega) hgk)).trans (zk_k1 (by omega))) (by decide) rfl 8 (by decide) rfl (hw zw_136) (fun _ h9 => h9) d_St_keptAt_20 ?_
    refine zt_i (y := nI (g9 2 k)) ((congrFun (zkR_i hm (zk_lv1 (by omega) hgk)) 8).trans (by rw [hnx])) ?_
    refine lv_icmp_lt (tgt := 30) hx hb d_St_keptAt_23 (by decide) (fun hc3 => ?_) (fun hc3 => ?_)
    · skip
      have hc3 : x < (nI (g9 2 k)) := hc3
      exact absurd hxb (fun q => q.elim (by assumption) (fun z => z (by assumption)))
    · skip
      have hc3 : ¬ x < (nI (g9 2 k)) := hc3
      refine lv_null hx hb d_St_keptAt_26 ?_
      refine lv_goto (tgt := 43) hx hb d_St_keptAt_27 (by decide) ?_
      refine W.widen (k := 0) (n := 0) (Nat.le_of_ble_eq_true rfl) (Nat.le_of_ble_eq_true rfl) ?_
      subst hAe
      exact W.aret hx hb hr (Or.inl ⟨_, rfl⟩) (Or.inl rfl) (fun t ht hW => zc_end hS hH ht (⟨rfl, rfl, rfl, rfl, rfl, rfl⟩)) hS.2.2 d_St_keptAt_43

set_option maxHeartbeats 4000000 in
set_option maxRecDepth 100000 in
/-- Store.leastPositionSince -/
theorem c_St_leastPositionSince {l : Launch} {D : va_G} {cA : Nat → ClassId} {te mi : Nat} {kd ln : Nat → Nat} {I : Nat → Nat → Int32} {L : Nat → Nat → Int64} {R : Nat → Nat → Option Nat} {X : Nat} {a9 e9 : Nat → Nat} {c9 : Nat → Nat → Int32} {d9 : Nat → Nat → Int64} {g9 : Nat → Nat → Nat} (hm : zkR X te a9 e9 c9 d9 g9 kd ln I L R) {k : Nat} (hk4 : k < 4) (hgk : g9 0 k ≠ 0) {t : Int32} : zc_M l y_St_leastPositionSince w_St_leastPositionSince { frames := 3, cells := 0, slots := 0, locals := 64 } 0 0 D cA te mi ([.ref (a9 (10 + k)), .int t] : List Value) kd ln I L R (zc_eq (some (.int (zk_sk c9 k (g9 2 k) t (g9 2 k - g9 1 k)))) kd ln I L R) := by
  intro sz
  refine Met.ofW (cc := b_St_leastPositionSince) (maxL := 4) (ret := (some (.int))) (by decide +kernel) rfl ?_
  intro p e s m args below meth c s₁ B hml hv
  obtain ⟨rfl, hsz, hSc, hE, hH⟩ := hv
  have hx := B.exec
  have hb := B.bytes
  have hr := B.returns
  have hts := atoms_spec (ws := w_St_leastPositionSince) B.pre
  have hw : ∀ {w : Cond}, w ∈ zw → w.before ([.ref (a9 (10 + k)), .int t] : List Value).toArray s = true := fun h => hts _ (List.mem_cons_of_mem _ h)
  have hown : s.vm.findClass R_St = some m.cls := findClass_of_methodNamed B.named
  have hlocks := B.notSynchronized
  subst hsz
  have hK := hSc.1
  have hH : zh_H D cA (zc_A kd s.heap.size) kd ln I L R s.heap := hH.weaken (fun q h _ => Or.inl h)
  generalize hAe : zc_A kd s.heap.size = A at hH hE ⊢
  have hA : ∀ q : Nat, s.heap.size ≤ q → A q := fun q h => by rw [← hAe]; exact Or.inr h
  have hS : va_S A s.heap s.heap [] := va_S.rf
  have hl := lv_entry ([.ref (a9 (10 + k)), .int t] : List Value) (n := 4) (Nat.le_of_ble_eq_true rfl)
  rw [lg_entry_eq]
  generalize (lg_sl ([.ref (a9 (10 + k)), .int t] : List Value) ++ List.replicate (4 - (lg_sl ([.ref (a9 (10 + k)), .int t] : List Value)).length) Slot.unset).toArray = ls at hl ⊢
  have hl : lv_has ls 4 [(0, .ref (a9 (10 + k))), (1, .int t)] := hl
  have hn15 := zkR_cnt hm hk4 hgk
  refine lv_iconst (v := nI 0) hx hb d_St_leastPositionSince_0 (by decide) ?_
  refine lv_istore_n (lv' := [(2, .int (nI 0)), (0, .ref (a9 (10 + k))), (1, .int t)]) hx hb d_St_leastPositionSince_1 rfl hl (by decide) rfl (fun ls hl => ?_)
  have loop_2 : ∀ (z : Nat) (i : Nat) (H : Heap) (locs : List Loc) (ls : Array Slot), g9 2 k - g9 1 k - i < z → (i ≤ g9 2 k - g9 1 k) → (zk_sk c9 k (g9 2 k) t (g9 2 k - g9 1 k - i) = zk_sk c9 k (g9 2 k) t (g9 2 k - g9 1 k)) → lv_has ls 4 [(0, .ref (a9 (10 + k))), (1, .int t), (2, .int (nI i))] → zh_H D cA A kd ln I L R H → va_S A s.heap H locs → W p l e (headSpec w_St_leastPositionSince { frames := 3, cells := 0, slots := 0, locals := 64 }).room s m ([.ref (a9 (10 + k)), .int t] : List Value).toArray below meth c H locs 0 0 (MQ below (zc_Qc D cA A (zc_eq (some (.int (zk_sk c9 k (g9 2 k) t (g9 2 k - g9 1 k)))) kd ln I L R)) ([.ref (a9 (10 + k)), .int t] : List Value).toArray s 0 0 A) (F0 m 2 ls []) := by
    intro z
    induction z with
    | zero => intro i H locs ls hz; exact absurd hz (Nat.not_lt_zero _)
    | succ z ih_2 =>
      intro i H locs ls hz_2 hi hg hl hH hS
      refine lv_iload_n hx hb d_St_leastPositionSince_2 rfl (lv_at hl 2 rfl) ?_
      refine lv_aload_n hx hb d_St_leastPositionSince_3 rfl (lv_at hl 0 rfl) ?_
      refine zr_getr (ci := 2) (C := R_St) (T := T_St) (N := 10) (ref := "ScrubbedRecorder$Store") hx hb hts (fun w h => List.mem_cons_of_mem _ (zin_St w h)) hown hK hH ((zkR_k hm (zk_lv1 (by omega) hgk)).trans (zk_k1 (by omega))) (by decide) rfl 5 (by decide) rfl (hw zw_129) (fun _ h9 => h9) d_St_leastPositionSince_4 (zkR_st hm (by omega) hgk).2.2.2.1 ?_
      refine zr_V (As := ([] : List Value)) (rest := [.int (nI i)]) (b := a9 (40 + k)) (ci := 5) (q := (R_AL, T_AL, 3)) ⟨hx, hb, hml, hown, hts⟩ (c_ALk_size hm (by omega) hgk) ⟨(callB_of 0 hts (zg_all zw_172) rfl rfl rfl (hw zw_7) (hw zw_169) k_AL_size.2 ⟨Nat.le_of_ble_eq_true rfl, Nat.le_of_ble_eq_true rfl⟩), (hw zw_170), (hw zw_171)⟩ hSc hE hH hS hA rfl (by decide) (zkR_st hm (by omega) hgk).2.2.2.2.1 rfl hl.1 rfl (Nat.le_of_ble_eq_true rfl) d_St_leastPositionSince_7 ⟨Nat.le_of_ble_eq_true rfl, Nat.le_of_ble_eq_true rfl⟩ (fun v1 kd1 ln1 I1 L1 R1 H locs hp hH hS => ?_)
      obtain ⟨rfl, rfl, rfl, rfl, rfl, rfl⟩ := hp
      refine W.eq (g2 := F0 m 10 ls [.int (nI (g9 2 k - g9 1 k)), .int (nI i)]) rfl ?_
      refine W.widen (k := 0) (n := 0) (by omega) (by omega) ?_
      refine lv_icmp_ge (tgt := 44) hx hb d_St_leastPositionSince_10 (by decide) (fun hc2 => ?_) (fun hc2 => ?_)
      · skip
        have hc2 := zt_geT (a := i) (b := (g9 2 k - g9 1 k)) (by omega) (by omega) hc2
        refine lv_iconst (v := (-1)) hx hb d_St_leastPositionSince_44 (by decide) ?_
        refine W.widen (k := 0) (n := 0) (Nat.le_of_ble_eq_true rfl) (Nat.le_of_ble_eq_true rfl) ?_
        subst hAe
        exact W.iret (v := (-1)) hx hb hr (fun t ht hW => zc_end hS hH ht (⟨by rw [← hg, show g9 2 k - g9 1 k - i = 0 by omega]; rfl, rfl, rfl, rfl, rfl, rfl⟩)) hS.2.2 d_St_leastPositionSince_45
      · skip
        have hc2 := zt_geF (a := i) (b := (g9 2 k - g9 1 k)) (by omega) (by omega) hc2
        refine lv_aload_n hx hb d_St_leastPositionSince_13 rfl (lv_at hl 0 rfl) ?_
        refine zr_getr (ci := 2) (C := R_St) (T := T_St) (N := 10) (ref := "ScrubbedRecorder$Store") hx hb hts (fun w h => List.mem_cons_of_mem _ (zin_St w h)) hown hK hH ((zkR_k hm (zk_lv1 (by omega) hgk)).trans (zk_k1 (by omega))) (by decide) rfl 5 (by decide) rfl (hw zw_129) (fun _ h9 => h9) d_St_leastPositionSince_14 (zkR_st hm (by omega) hgk).2.2.2.1 ?_
        refine lv_iload_n hx hb d_St_leastPositionSince_17 rfl (lv_at hl 2 rfl) ?_
        refine zr_V (As := ([.int (nI i)] : List Value)) (rest := []) (b := a9 (40 + k)) (ci := 5) (q := (R_AL, T_AL, 3)) ⟨hx, hb, hml, hown, hts⟩ (c_ALk_get (j := i) hm (by omega) hgk (by omega)) ⟨(callB_of 1 hts (zg_all zw_176) rfl rfl rfl (hw zw_7) (hw zw_173) k_AL_get.2 ⟨Nat.le_of_ble_eq_true rfl, Nat.le_of_ble_eq_true rfl⟩), (hw zw_174), (hw zw_175)⟩ hSc hE hH hS hA rfl (by decide) (zkR_st hm (by omega) hgk).2.2.2.2.1 rfl hl.1 rfl (Nat.le_of_ble_eq_true rfl) d_St_leastPositionSince_18 ⟨Nat.le_of_ble_eq_true rfl, Nat.le_of_ble_eq_true rfl⟩ (fun v3 kd3 ln3 I3 L3 R3 H locs hp hH hS => ?_)
        obtain ⟨rfl, rfl, rfl, rfl, rfl, rfl⟩ := hp
        refine W.eq (g2 := F0 m 21 ls [.ref (a9 (zk_p k (g9 1 k + i)))]) rfl ?_
        refine W.widen (k := 0) (n := 0) (by omega) (by omega) ?_
        refine zr_cast (ci := 3) (nm := "ScrubbedRecorder$Packet") hx hb hown (hw zw_187) (hSc.2.1 _ (by decide +kernel)) hK hH rfl (by decide) ((zkR_k hm (zk_lvp (by omega) hgk (by omega) (by omega))).trans zk_kp) d_St_leastPositionSince_21 ?_
        refine lv_astore_n (lv' := [(3, .ref (a9 (zk_p k (g9 1 k + i)))), (0, .ref (a9 (10 + k))), (1, .int t), (2, .int (nI i))]) hx hb d_St_leastPositionSince_24 rfl hl (by decide) rfl (fun ls hl => ?_)
        refine lv_aload_n hx hb d_St_leastPositionSince_25 rfl (lv_at hl 0 rfl) ?_
        refine zr_geti (ci := 3) (C := R_Pk) (T := T_Pk) (N := 8) (ref := "ScrubbedRecorder$Packet") hx hb hts (fun w h => List.mem_cons_of_mem _ (zin_Pk w h)) hown hK hH ((zkR_k hm (zk_lvp (by omega) hgk (by omega) (by omega))).trans zk_kp) (by decide) rfl 3 (by decide) rfl (hw zw_270) (fun _ h9 => h9) d_St_leastPositionSince_26 ?_
        refine zt_i (y := c9 (zk_p k (g9 1 k + i)) 3) (congrFun (zkR_i hm (zk_lvp (by omega) hgk (by omega) (by omega))) 3) ?_
        refine lv_iload_n hx hb d_St_leastPositionSince_29 rfl (lv_at hl 2 rfl) ?_
        refine lv_icmp_lt (tgt := 38) hx hb d_St_leastPositionSince_30 (by decide) (fun hc4 => ?_) (fun hc4 => ?_)
        · skip
          have hc4 : (c9 (zk_p k (g9 1 k + i)) 3) < t := hc4
          refine lv_iinc (k := 3) (v := nI (i + 1)) (lv' := [(2, .int (nI (i + 1))), (3, .ref (a9 (zk_p k (g9 1 k + i)))), (0, .ref (a9 (10 + k))), (1, .int t)]) hx hb d_St_leastPositionSince_38 hl rfl (nI_add i 1) (by decide) rfl (fun ls hl => ?_)
          refine lv_goto (tgt := 2) hx hb d_St_leastPositionSince_41 (by decide) ?_
          exact ih_2 (i + 1) _ _ _ (by omega) (by omega) (by rw [← hg, zk_sk_s (i := i) (by omega), if_pos hc4]) (lv_sub hl [2, 3, 0] rfl) hH hS
        · skip
          have hc4 : ¬ (c9 (zk_p k (g9 1 k + i)) 3) < t := hc4
          refine lv_aload_n hx hb d_St_leastPositionSince_33 rfl (lv_at hl 0 rfl) ?_
          refine zr_geti (ci := 3) (C := R_Pk) (T := T_Pk) (N := 8) (ref := "ScrubbedRecorder$Packet") hx hb hts (fun w h => List.mem_cons_of_mem _ (zin_Pk w h)) hown hK hH ((zkR_k hm (zk_lvp (by omega) hgk (by omega) (by omega))).trans zk_kp) (by decide) rfl 2 (by decide) rfl (hw zw_266) (fun _ h9 => h9) d_St_leastPositionSince_34 ?_
          refine zt_i (y := c9 (zk_p k (g9 1 k + i)) 2) (congrFun (zkR_i hm (zk_lvp (by omega) hgk (by omega) (by omega))) 2) ?_
          refine W.widen (k := 0) (n := 0) (Nat.le_of_ble_eq_true rfl) (Nat.le_of_ble_eq_true rfl) ?_
          subst hAe
          exact W.iret (v := c9 (zk_p k (g9 1 k + i)) 2) hx hb hr (fun t ht hW => zc_end hS hH ht (⟨by rw [← hg, zk_sk_s (i := i) (by omega), if_neg hc4], rfl, rfl, rfl, rfl, rfl⟩)) hS.2.2 d_St_leastPositionSince_37
  exact loop_2 _ 0 _ _ _ (Nat.lt_succ_self _) (by omega) rfl (lv_sub hl [1, 2, 0] rfl) hH hS

set_option maxHeartbeats 4000000 in
set_option maxRecDepth 100000 in
/-- St_countConfirmed -/
theorem c_St_countConfirmed {l : Launch} {D : va_G} {cA : Nat → ClassId} {te mi : Nat} {kd ln : Nat → Nat} {I : Nat → Nat → Int32} {L : Nat → Nat → Int64} {R : Nat → Nat → Option Nat} {X : Nat} {a9 e9 : Nat → Nat} {c9 : Nat → Nat → Int32} {d9 : Nat → Nat → Int64} {g9 : Nat → Nat → Nat} (hm : zkR X te a9 e9 c9 d9 g9 kd ln I L R) {k : Nat} (hk4 : k < 4) (hgk : g9 0 k ≠ 0)  : zc_M l y_St_countConfirmed w_St_countConfirmed { frames := 3, cells := 0, slots := 0, locals := 64 } 0 0 D cA te mi ([.ref (a9 (10 + k))] : List Value) kd ln I L R (zc_eq (some (.int (nI (zk_cc c9 k (g9 1 k) (g9 2 k - g9 1 k))))) kd ln I L R) := by
  intro sz
  refine Met.ofW (cc := b_St_countConfirmed) (maxL := 3) (ret := (some (.int))) (by decide +kernel) rfl ?_
  intro p e s m args below meth c s₁ B hml hv
  obtain ⟨rfl, hsz, hSc, hE, hH⟩ := hv
  have hx := B.exec
  have hb := B.bytes
  have hr := B.returns
  have hts := atoms_spec (ws := w_St_countConfirmed) B.pre
  have hw : ∀ {w : Cond}, w ∈ zw → w.before ([.ref (a9 (10 + k))] : List Value).toArray s = true := fun h => hts _ (List.mem_cons_of_mem _ h)
  have hown : s.vm.findClass R_St = some m.cls := findClass_of_methodNamed B.named
  have hlocks := B.notSynchronized
  subst hsz
  have hK := hSc.1
  have hH : zh_H D cA (zc_A kd s.heap.size) kd ln I L R s.heap := hH.weaken (fun q h _ => Or.inl h)
  generalize hAe : zc_A kd s.heap.size = A at hH hE ⊢
  have hA : ∀ q : Nat, s.heap.size ≤ q → A q := fun q h => by rw [← hAe]; exact Or.inr h
  have hS : va_S A s.heap s.heap [] := va_S.rf
  have hl := lv_entry ([.ref (a9 (10 + k))] : List Value) (n := 3) (Nat.le_of_ble_eq_true rfl)
  rw [lg_entry_eq]
  generalize (lg_sl ([.ref (a9 (10 + k))] : List Value) ++ List.replicate (3 - (lg_sl ([.ref (a9 (10 + k))] : List Value)).length) Slot.unset).toArray = ls at hl ⊢
  have hl : lv_has ls 3 [(0, .ref (a9 (10 + k)))] := hl
  have hn15 := zkR_cnt hm hk4 hgk
  refine lv_iconst (v := nI 0) hx hb d_St_countConfirmed_0 (by decide) ?_
  refine lv_istore_n (lv' := [(1, .int (nI 0)), (0, .ref (a9 (10 + k)))]) hx hb d_St_countConfirmed_1 rfl hl (by decide) rfl (fun ls hl => ?_)
  refine lv_iconst (v := nI 0) hx hb d_St_countConfirmed_2 (by decide) ?_
  refine lv_istore_n (lv' := [(2, .int (nI 0)), (1, .int (nI 0)), (0, .ref (a9 (10 + k)))]) hx hb d_St_countConfirmed_3 rfl hl (by decide) rfl (fun ls hl => ?_)
  have loop_4 : ∀ (z : Nat) (i : Nat) (H : Heap) (locs : List Loc) (ls : Array Slot), g9 2 k - g9 1 k - i < z → (i ≤ g9 2 k - g9 1 k) → lv_has ls 3 [(0, .ref (a9 (10 + k))), (1, .int (nI (zk_cc c9 k (g9 1 k) i))), (2, .int (nI i))] → zh_H D cA A kd ln I L R H → va_S A s.heap H locs → W p l e (headSpec w_St_countConfirmed { frames := 3, cells := 0, slots := 0, locals := 64 }).room s m ([.ref (a9 (10 + k))] : List Value).toArray below meth c H locs 0 0 (MQ below (zc_Qc D cA A (zc_eq (some (.int (nI (zk_cc c9 k (g9 1 k) (g9 2 k - g9 1 k))))) kd ln I L R)) ([.ref (a9 (10 + k))] : List Value).toArray s 0 0 A) (F0 m 4 ls []) := by
    intro z
    induction z with
    | zero => intro i H locs ls hz; exact absurd hz (Nat.not_lt_zero _)
    | succ z ih_4 =>
      intro i H locs ls hz_4 hi hl hH hS
      have hcf := zk_cc_le c9 k (g9 1 k) i
      refine lv_iload_n hx hb d_St_countConfirmed_4 rfl (lv_at hl 2 rfl) ?_
      refine lv_aload_n hx hb d_St_countConfirmed_5 rfl (lv_at hl 0 rfl) ?_
      refine zr_getr (ci := 2) (C := R_St) (T := T_St) (N := 10) (ref := "ScrubbedRecorder$Store") hx hb hts (fun w h => List.mem_cons_of_mem _ (zin_St w h)) hown hK hH ((zkR_k hm (zk_lv1 (by omega) hgk)).trans (zk_k1 (by omega))) (by decide) rfl 5 (by decide) rfl (hw zw_129) (fun _ h9 => h9) d_St_countConfirmed_6 (zkR_st hm (by omega) hgk).2.2.2.1 ?_
      refine zr_V (As := ([] : List Value)) (rest := [.int (nI i)]) (b := a9 (40 + k)) (ci := 5) (q := (R_AL, T_AL, 3)) ⟨hx, hb, hml, hown, hts⟩ (c_ALk_size hm (by omega) hgk) ⟨(callB_of 0 hts (zg_all zw_172) rfl rfl rfl (hw zw_7) (hw zw_169) k_AL_size.2 ⟨Nat.le_of_ble_eq_true rfl, Nat.le_of_ble_eq_true rfl⟩), (hw zw_170), (hw zw_171)⟩ hSc hE hH hS hA rfl (by decide) (zkR_st hm (by omega) hgk).2.2.2.2.1 rfl hl.1 rfl (Nat.le_of_ble_eq_true rfl) d_St_countConfirmed_9 ⟨Nat.le_of_ble_eq_true rfl, Nat.le_of_ble_eq_true rfl⟩ (fun v1 kd1 ln1 I1 L1 R1 H locs hp hH hS => ?_)
      obtain ⟨rfl, rfl, rfl, rfl, rfl, rfl⟩ := hp
      refine W.eq (g2 := F0 m 12 ls [.int (nI (g9 2 k - g9 1 k)), .int (nI i)]) rfl ?_
      refine W.widen (k := 0) (n := 0) (by omega) (by omega) ?_
      refine lv_icmp_ge (tgt := 41) hx hb d_St_countConfirmed_12 (by decide) (fun hc2 => ?_) (fun hc2 => ?_)
      · skip
        have hc2 := zt_geT (a := i) (b := (g9 2 k - g9 1 k)) (by omega) (by omega) hc2
        refine lv_iload_n hx hb d_St_countConfirmed_41 rfl (lv_at hl 1 rfl) ?_
        refine W.widen (k := 0) (n := 0) (Nat.le_of_ble_eq_true rfl) (Nat.le_of_ble_eq_true rfl) ?_
        subst hAe
        exact W.iret (v := nI (zk_cc c9 k (g9 1 k) i)) hx hb hr (fun t ht hW => zc_end hS hH ht (⟨by rw [show i = g9 2 k - g9 1 k by omega], rfl, rfl, rfl, rfl, rfl⟩)) hS.2.2 d_St_countConfirmed_42
      · skip
        have hc2 := zt_geF (a := i) (b := (g9 2 k - g9 1 k)) (by omega) (by omega) hc2
        refine lv_aload_n hx hb d_St_countConfirmed_15 rfl (lv_at hl 0 rfl) ?_
        refine zr_getr (ci := 2) (C := R_St) (T := T_St) (N := 10) (ref := "ScrubbedRecorder$Store") hx hb hts (fun w h => List.mem_cons_of_mem _ (zin_St w h)) hown hK hH ((zkR_k hm (zk_lv1 (by omega) hgk)).trans (zk_k1 (by omega))) (by decide) rfl 5 (by decide) rfl (hw zw_129) (fun _ h9 => h9) d_St_countConfirmed_16 (zkR_st hm (by omega) hgk).2.2.2.1 ?_
        refine lv_iload_n hx hb d_St_countConfirmed_19 rfl (lv_at hl 2 rfl) ?_
        refine zr_V (As := ([.int (nI i)] : List Value)) (rest := []) (b := a9 (40 + k)) (ci := 5) (q := (R_AL, T_AL, 3)) ⟨hx, hb, hml, hown, hts⟩ (c_ALk_get (j := i) hm (by omega) hgk (by omega)) ⟨(callB_of 1 hts (zg_all zw_176) rfl rfl rfl (hw zw_7) (hw zw_173) k_AL_get.2 ⟨Nat.le_of_ble_eq_true rfl, Nat.le_of_ble_eq_true rfl⟩), (hw zw_174), (hw zw_175)⟩ hSc hE hH hS hA rfl (by decide) (zkR_st hm (by omega) hgk).2.2.2.2.1 rfl hl.1 rfl (Nat.le_of_ble_eq_true rfl) d_St_countConfirmed_20 ⟨Nat.le_of_ble_eq_true rfl, Nat.le_of_ble_eq_true rfl⟩ (fun v3 kd3 ln3 I3 L3 R3 H locs hp hH hS => ?_)
        obtain ⟨rfl, rfl, rfl, rfl, rfl, rfl⟩ := hp
        refine W.eq (g2 := F0 m 23 ls [.ref (a9 (zk_p k (g9 1 k + i)))]) rfl ?_
        refine W.widen (k := 0) (n := 0) (by omega) (by omega) ?_
        refine zr_cast (ci := 3) (nm := "ScrubbedRecorder$Packet") hx hb hown (hw zw_187) (hSc.2.1 _ (by decide +kernel)) hK hH rfl (by decide) ((zkR_k hm (zk_lvp (by omega) hgk (by omega) (by omega))).trans zk_kp) d_St_countConfirmed_23 ?_
        refine zr_geti (ci := 3) (C := R_Pk) (T := T_Pk) (N := 8) (ref := "ScrubbedRecorder$Packet") hx hb hts (fun w h => List.mem_cons_of_mem _ (zin_Pk w h)) hown hK hH ((zkR_k hm (zk_lvp (by omega) hgk (by omega) (by omega))).trans zk_kp) (by decide) rfl 5 (by decide) rfl (hw zw_274) (fun _ h9 => h9) d_St_countConfirmed_26 ?_
        refine zt_i (y := c9 (zk_p k (g9 1 k + i)) 5) (congrFun (zkR_i hm (zk_lvp (by omega) hgk (by omega) (by omega))) 5) ?_
        refine lv_if_eq (tgt := 35) hx hb d_St_countConfirmed_29 (by decide) (fun hc4 => ?_) (fun hc4 => ?_)
        · skip
          have hc4 : (c9 (zk_p k (g9 1 k + i)) 5) = (nI 0) := hc4
          refine lv_iinc (k := 2) (v := nI (i + 1)) (lv' := [(2, .int (nI (i + 1))), (0, .ref (a9 (10 + k))), (1, .int (nI (zk_cc c9 k (g9 1 k) i)))]) hx hb d_St_countConfirmed_35 hl rfl (nI_add i 1) (by decide) rfl (fun ls hl => ?_)
          refine lv_goto (tgt := 4) hx hb d_St_countConfirmed_38 (by decide) ?_
          have ez5 : zk_cc c9 k (g9 1 k) (i + 1) = zk_cc c9 k (g9 1 k) i := by rw [zk_cc, if_pos hc4] <;> rfl
          have hl : lv_has ls 3 [(2, .int (nI (i + 1))), (0, .ref (a9 (10 + k))), (1, .int (nI (zk_cc c9 k (g9 1 k) (i + 1))))] := by rw [ez5]; exact hl
          exact ih_4 (i + 1) _ _ _ (by omega) (by omega) (lv_sub hl [1, 2, 0] rfl) hH hS
        · skip
          have hc4 : ¬ (c9 (zk_p k (g9 1 k + i)) 5) = (nI 0) := hc4
          refine lv_iinc (k := 1) (v := nI (zk_cc c9 k (g9 1 k) i + 1)) (lv' := [(1, .int (nI (zk_cc c9 k (g9 1 k) i + 1))), (0, .ref (a9 (10 + k))), (2, .int (nI i))]) hx hb d_St_countConfirmed_32 hl rfl (nI_add (zk_cc c9 k (g9 1 k) i) 1) (by decide) rfl (fun ls hl => ?_)
          refine lv_iinc (k := 2) (v := nI (i + 1)) (lv' := [(2, .int (nI (i + 1))), (1, .int (nI (zk_cc c9 k (g9 1 k) i + 1))), (0, .ref (a9 (10 + k)))]) hx hb d_St_countConfirmed_35 hl rfl (nI_add i 1) (by decide) rfl (fun ls hl => ?_)
          refine lv_goto (tgt := 4) hx hb d_St_countConfirmed_38 (by decide) ?_
          have ez6 : zk_cc c9 k (g9 1 k) (i + 1) = zk_cc c9 k (g9 1 k) i + 1 := by rw [zk_cc, if_neg hc4] <;> rfl
          have hl : lv_has ls 3 [(2, .int (nI (i + 1))), (1, .int (nI (zk_cc c9 k (g9 1 k) (i + 1)))), (0, .ref (a9 (10 + k)))] := by rw [ez6]; exact hl
          exact ih_4 (i + 1) _ _ _ (by omega) (by omega) (lv_sub hl [2, 1, 0] rfl) hH hS
  exact loop_4 _ 0 _ _ _ (Nat.lt_succ_self _) (by omega) (lv_sub hl [2, 1, 0] rfl) hH hS

set_option maxHeartbeats 4000000 in
set_option maxRecDepth 100000 in
/-- St_countAskedFor -/
theorem c_St_countAskedFor {l : Launch} {D : va_G} {cA : Nat → ClassId} {te mi : Nat} {kd ln : Nat → Nat} {I : Nat → Nat → Int32} {L : Nat → Nat → Int64} {R : Nat → Nat → Option Nat} {X : Nat} {a9 e9 : Nat → Nat} {c9 : Nat → Nat → Int32} {d9 : Nat → Nat → Int64} {g9 : Nat → Nat → Nat} (hm : zkR X te a9 e9 c9 d9 g9 kd ln I L R) {k : Nat} (hk4 : k < 4) (hgk : g9 0 k ≠ 0)  : zc_M l y_St_countAskedFor w_St_countAskedFor { frames := 3, cells := 0, slots := 0, locals := 64 } 0 0 D cA te mi ([.ref (a9 (10 + k))] : List Value) kd ln I L R (zc_eq (some (.int (nI (zk_ca d9 k (g9 1 k) (g9 2 k - g9 1 k))))) kd ln I L R) := by
  intro sz
  refine Met.ofW (cc := b_St_countAskedFor) (maxL := 3) (ret := (some (.int))) (by decide +kernel) rfl ?_
  intro p e s m args below meth c s₁ B hml hv
  obtain ⟨rfl, hsz, hSc, hE, hH⟩ := hv
  have hx := B.exec
  have hb := B.bytes
  have hr := B.returns
  have hts := atoms_spec (ws := w_St_countAskedFor) B.pre
  have hw : ∀ {w : Cond}, w ∈ zw → w.before ([.ref (a9 (10 + k))] : List Value).toArray s = true := fun h => hts _ (List.mem_cons_of_mem _ h)
  have hown : s.vm.findClass R_St = some m.cls := findClass_of_methodNamed B.named
  have hlocks := B.notSynchronized
  subst hsz
  have hK := hSc.1
  have hH : zh_H D cA (zc_A kd s.heap.size) kd ln I L R s.heap := hH.weaken (fun q h _ => Or.inl h)
  generalize hAe : zc_A kd s.heap.size = A at hH hE ⊢
  have hA : ∀ q : Nat, s.heap.size ≤ q → A q := fun q h => by rw [← hAe]; exact Or.inr h
  have hS : va_S A s.heap s.heap [] := va_S.rf
  have hl := lv_entry ([.ref (a9 (10 + k))] : List Value) (n := 3) (Nat.le_of_ble_eq_true rfl)
  rw [lg_entry_eq]
  generalize (lg_sl ([.ref (a9 (10 + k))] : List Value) ++ List.replicate (3 - (lg_sl ([.ref (a9 (10 + k))] : List Value)).length) Slot.unset).toArray = ls at hl ⊢
  have hl : lv_has ls 3 [(0, .ref (a9 (10 + k)))] := hl
  have hn15 := zkR_cnt hm hk4 hgk
  refine lv_iconst (v := nI 0) hx hb d_St_countAskedFor_0 (by decide) ?_
  refine lv_istore_n (lv' := [(1, .int (nI 0)), (0, .ref (a9 (10 + k)))]) hx hb d_St_countAskedFor_1 rfl hl (by decide) rfl (fun ls hl => ?_)
  refine lv_iconst (v := nI 0) hx hb d_St_countAskedFor_2 (by decide) ?_
  refine lv_istore_n (lv' := [(2, .int (nI 0)), (1, .int (nI 0)), (0, .ref (a9 (10 + k)))]) hx hb d_St_countAskedFor_3 rfl hl (by decide) rfl (fun ls hl => ?_)
  have loop_4 : ∀ (z : Nat) (i : Nat) (H : Heap) (locs : List Loc) (ls : Array Slot), g9 2 k - g9 1 k - i < z → (i ≤ g9 2 k - g9 1 k) → lv_has ls 3 [(0, .ref (a9 (10 + k))), (1, .int (nI (zk_ca d9 k (g9 1 k) i))), (2, .int (nI i))] → zh_H D cA A kd ln I L R H → va_S A s.heap H locs → W p l e (headSpec w_St_countAskedFor { frames := 3, cells := 0, slots := 0, locals := 64 }).room s m ([.ref (a9 (10 + k))] : List Value).toArray below meth c H locs 0 0 (MQ below (zc_Qc D cA A (zc_eq (some (.int (nI (zk_ca d9 k (g9 1 k) (g9 2 k - g9 1 k))))) kd ln I L R)) ([.ref (a9 (10 + k))] : List Value).toArray s 0 0 A) (F0 m 4 ls []) := by
    intro z
    induction z with
    | zero => intro i H locs ls hz; exact absurd hz (Nat.not_lt_zero _)
    | succ z ih_4 =>
      intro i H locs ls hz_4 hi hl hH hS
      have hcf := zk_ca_le d9 k (g9 1 k) i
      refine lv_iload_n hx hb d_St_countAskedFor_4 rfl (lv_at hl 2 rfl) ?_
      refine lv_aload_n hx hb d_St_countAskedFor_5 rfl (lv_at hl 0 rfl) ?_
      refine zr_getr (ci := 2) (C := R_St) (T := T_St) (N := 10) (ref := "ScrubbedRecorder$Store") hx hb hts (fun w h => List.mem_cons_of_mem _ (zin_St w h)) hown hK hH ((zkR_k hm (zk_lv1 (by omega) hgk)).trans (zk_k1 (by omega))) (by decide) rfl 5 (by decide) rfl (hw zw_129) (fun _ h9 => h9) d_St_countAskedFor_6 (zkR_st hm (by omega) hgk).2.2.2.1 ?_
      refine zr_V (As := ([] : List Value)) (rest := [.int (nI i)]) (b := a9 (40 + k)) (ci := 5) (q := (R_AL, T_AL, 3)) ⟨hx, hb, hml, hown, hts⟩ (c_ALk_size hm (by omega) hgk) ⟨(callB_of 0 hts (zg_all zw_172) rfl rfl rfl (hw zw_7) (hw zw_169) k_AL_size.2 ⟨Nat.le_of_ble_eq_true rfl, Nat.le_of_ble_eq_true rfl⟩), (hw zw_170), (hw zw_171)⟩ hSc hE hH hS hA rfl (by decide) (zkR_st hm (by omega) hgk).2.2.2.2.1 rfl hl.1 rfl (Nat.le_of_ble_eq_true rfl) d_St_countAskedFor_9 ⟨Nat.le_of_ble_eq_true rfl, Nat.le_of_ble_eq_true rfl⟩ (fun v1 kd1 ln1 I1 L1 R1 H locs hp hH hS => ?_)
      obtain ⟨rfl, rfl, rfl, rfl, rfl, rfl⟩ := hp
      refine W.eq (g2 := F0 m 12 ls [.int (nI (g9 2 k - g9 1 k)), .int (nI i)]) rfl ?_
      refine W.widen (k := 0) (n := 0) (by omega) (by omega) ?_
      refine lv_icmp_ge (tgt := 41) hx hb d_St_countAskedFor_12 (by decide) (fun hc2 => ?_) (fun hc2 => ?_)
      · skip
        have hc2 := zt_geT (a := i) (b := (g9 2 k - g9 1 k)) (by omega) (by omega) hc2
        refine lv_iload_n hx hb d_St_countAskedFor_41 rfl (lv_at hl 1 rfl) ?_
        refine W.widen (k := 0) (n := 0) (Nat.le_of_ble_eq_true rfl) (Nat.le_of_ble_eq_true rfl) ?_
        subst hAe
        exact W.iret (v := nI (zk_ca d9 k (g9 1 k) i)) hx hb hr (fun t ht hW => zc_end hS hH ht (⟨by rw [show i = g9 2 k - g9 1 k by omega], rfl, rfl, rfl, rfl, rfl⟩)) hS.2.2 d_St_countAskedFor_42
      · skip
        have hc2 := zt_geF (a := i) (b := (g9 2 k - g9 1 k)) (by omega) (by omega) hc2
        refine lv_aload_n hx hb d_St_countAskedFor_15 rfl (lv_at hl 0 rfl) ?_
        refine zr_getr (ci := 2) (C := R_St) (T := T_St) (N := 10) (ref := "ScrubbedRecorder$Store") hx hb hts (fun w h => List.mem_cons_of_mem _ (zin_St w h)) hown hK hH ((zkR_k hm (zk_lv1 (by omega) hgk)).trans (zk_k1 (by omega))) (by decide) rfl 5 (by decide) rfl (hw zw_129) (fun _ h9 => h9) d_St_countAskedFor_16 (zkR_st hm (by omega) hgk).2.2.2.1 ?_
        refine lv_iload_n hx hb d_St_countAskedFor_19 rfl (lv_at hl 2 rfl) ?_
        refine zr_V (As := ([.int (nI i)] : List Value)) (rest := []) (b := a9 (40 + k)) (ci := 5) (q := (R_AL, T_AL, 3)) ⟨hx, hb, hml, hown, hts⟩ (c_ALk_get (j := i) hm (by omega) hgk (by omega)) ⟨(callB_of 1 hts (zg_all zw_176) rfl rfl rfl (hw zw_7) (hw zw_173) k_AL_get.2 ⟨Nat.le_of_ble_eq_true rfl, Nat.le_of_ble_eq_true rfl⟩), (hw zw_174), (hw zw_175)⟩ hSc hE hH hS hA rfl (by decide) (zkR_st hm (by omega) hgk).2.2.2.2.1 rfl hl.1 rfl (Nat.le_of_ble_eq_true rfl) d_St_countAskedFor_20 ⟨Nat.le_of_ble_eq_true rfl, Nat.le_of_ble_eq_true rfl⟩ (fun v3 kd3 ln3 I3 L3 R3 H locs hp hH hS => ?_)
        obtain ⟨rfl, rfl, rfl, rfl, rfl, rfl⟩ := hp
        refine W.eq (g2 := F0 m 23 ls [.ref (a9 (zk_p k (g9 1 k + i)))]) rfl ?_
        refine W.widen (k := 0) (n := 0) (by omega) (by omega) ?_
        refine zr_cast (ci := 3) (nm := "ScrubbedRecorder$Packet") hx hb hown (hw zw_187) (hSc.2.1 _ (by decide +kernel)) hK hH rfl (by decide) ((zkR_k hm (zk_lvp (by omega) hgk (by omega) (by omega))).trans zk_kp) d_St_countAskedFor_23 ?_
        refine zr_V (As := ([] : List Value)) (rest := []) (b := a9 (zk_p k (g9 1 k + i))) (ci := 3) (q := (R_Pk, T_Pk, 8)) ⟨hx, hb, hml, hown, hts⟩ (c_Pk_isAskedFor ((zkR_k hm (zk_lvp (by omega) hgk (by omega) (by omega))).trans zk_kp)) ⟨(callB_of 0 hts (zg_all zw_423) rfl rfl rfl (hw zw_12) (hw zw_474) k_Pk_isAskedFor.2 ⟨Nat.le_of_ble_eq_true rfl, Nat.le_of_ble_eq_true rfl⟩), (hw zw_421), (hw zw_422)⟩ hSc hE hH hS hA rfl (by decide) ((zkR_k hm (zk_lvp (by omega) hgk (by omega) (by omega))).trans zk_kp) rfl hl.1 rfl (Nat.le_of_ble_eq_true rfl) d_St_countAskedFor_26 ⟨Nat.le_of_ble_eq_true rfl, Nat.le_of_ble_eq_true rfl⟩ (fun v4 kd4 ln4 I4 L4 R4 H locs hp hH hS => ?_)
        obtain ⟨rfl, rfl, rfl, rfl, rfl, rfl⟩ := hp
        refine W.eq (g2 := F0 m 29 ls [.int (zk_ask (L (a9 (zk_p k (g9 1 k + i))) 7))]) rfl ?_
        refine W.widen (k := 0) (n := 0) (by omega) (by omega) ?_
        refine zt_i (y := zk_ask (d9 (zk_p k (g9 1 k + i)) 7)) (congrArg zk_ask (congrFun (zkR_l hm (zk_lvp (by omega) hgk (by omega) (by omega))) 7)) ?_
        refine lv_if_eq (tgt := 35) hx hb d_St_countAskedFor_29 (by decide) (fun hc5 => ?_) (fun hc5 => ?_)
        · skip
          have hc5 : (zk_ask (d9 (zk_p k (g9 1 k + i)) 7)) = (nI 0) := hc5
          refine lv_iinc (k := 2) (v := nI (i + 1)) (lv' := [(2, .int (nI (i + 1))), (0, .ref (a9 (10 + k))), (1, .int (nI (zk_ca d9 k (g9 1 k) i)))]) hx hb d_St_countAskedFor_35 hl rfl (nI_add i 1) (by decide) rfl (fun ls hl => ?_)
          refine lv_goto (tgt := 4) hx hb d_St_countAskedFor_38 (by decide) ?_
          have ez6 : zk_ca d9 k (g9 1 k) (i + 1) = zk_ca d9 k (g9 1 k) i := by rw [zk_ca, if_pos hc5] <;> rfl
          have hl : lv_has ls 3 [(2, .int (nI (i + 1))), (0, .ref (a9 (10 + k))), (1, .int (nI (zk_ca d9 k (g9 1 k) (i + 1))))] := by rw [ez6]; exact hl
          exact ih_4 (i + 1) _ _ _ (by omega) (by omega) (lv_sub hl [1, 2, 0] rfl) hH hS
        · skip
          have hc5 : ¬ (zk_ask (d9 (zk_p k (g9 1 k + i)) 7)) = (nI 0) := hc5
          refine lv_iinc (k := 1) (v := nI (zk_ca d9 k (g9 1 k) i + 1)) (lv' := [(1, .int (nI (zk_ca d9 k (g9 1 k) i + 1))), (0, .ref (a9 (10 + k))), (2, .int (nI i))]) hx hb d_St_countAskedFor_32 hl rfl (nI_add (zk_ca d9 k (g9 1 k) i) 1) (by decide) rfl (fun ls hl => ?_)
          refine lv_iinc (k := 2) (v := nI (i + 1)) (lv' := [(2, .int (nI (i + 1))), (1, .int (nI (zk_ca d9 k (g9 1 k) i + 1))), (0, .ref (a9 (10 + k)))]) hx hb d_St_countAskedFor_35 hl rfl (nI_add i 1) (by decide) rfl (fun ls hl => ?_)
          refine lv_goto (tgt := 4) hx hb d_St_countAskedFor_38 (by decide) ?_
          have ez7 : zk_ca d9 k (g9 1 k) (i + 1) = zk_ca d9 k (g9 1 k) i + 1 := by rw [zk_ca, if_neg hc5] <;> rfl
          have hl : lv_has ls 3 [(2, .int (nI (i + 1))), (1, .int (nI (zk_ca d9 k (g9 1 k) (i + 1)))), (0, .ref (a9 (10 + k)))] := by rw [ez7]; exact hl
          exact ih_4 (i + 1) _ _ _ (by omega) (by omega) (lv_sub hl [2, 1, 0] rfl) hH hS
  exact loop_4 _ 0 _ _ _ (Nat.lt_succ_self _) (by omega) (lv_sub hl [2, 1, 0] rfl) hH hS

set_option maxHeartbeats 4000000 in
set_option maxRecDepth 100000 in
/-- Store.countConfirmedRuns -/
theorem c_St_countConfirmedRuns {l : Launch} {D : va_G} {cA : Nat → ClassId} {te mi : Nat} {kd ln : Nat → Nat} {I : Nat → Nat → Int32} {L : Nat → Nat → Int64} {R : Nat → Nat → Option Nat} {X : Nat} {a9 e9 : Nat → Nat} {c9 : Nat → Nat → Int32} {d9 : Nat → Nat → Int64} {g9 : Nat → Nat → Nat} (hm : zkR X te a9 e9 c9 d9 g9 kd ln I L R) {k : Nat} (hk4 : k < 4) (hgk : g9 0 k ≠ 0)  : zc_M l y_St_countConfirmedRuns w_St_countConfirmedRuns { frames := 3, cells := 0, slots := 0, locals := 64 } 0 0 D cA te mi ([.ref (a9 (10 + k))] : List Value) kd ln I L R (zc_eq (some (.int (nI (zk_cr c9 k (g9 1 k) (g9 2 k - g9 1 k))))) kd ln I L R) := by
  intro sz
  refine Met.ofW (cc := b_St_countConfirmedRuns) (maxL := 5) (ret := (some (.int))) (by decide +kernel) rfl ?_
  intro p e s m args below meth c s₁ B hml hv
  obtain ⟨rfl, hsz, hSc, hE, hH⟩ := hv
  have hx := B.exec
  have hb := B.bytes
  have hr := B.returns
  have hts := atoms_spec (ws := w_St_countConfirmedRuns) B.pre
  have hw : ∀ {w : Cond}, w ∈ zw → w.before ([.ref (a9 (10 + k))] : List Value).toArray s = true := fun h => hts _ (List.mem_cons_of_mem _ h)
  have hown : s.vm.findClass R_St = some m.cls := findClass_of_methodNamed B.named
  have hlocks := B.notSynchronized
  subst hsz
  have hK := hSc.1
  have hH : zh_H D cA (zc_A kd s.heap.size) kd ln I L R s.heap := hH.weaken (fun q h _ => Or.inl h)
  generalize hAe : zc_A kd s.heap.size = A at hH hE ⊢
  have hA : ∀ q : Nat, s.heap.size ≤ q → A q := fun q h => by rw [← hAe]; exact Or.inr h
  have hS : va_S A s.heap s.heap [] := va_S.rf
  have hl := lv_entry ([.ref (a9 (10 + k))] : List Value) (n := 5) (Nat.le_of_ble_eq_true rfl)
  rw [lg_entry_eq]
  generalize (lg_sl ([.ref (a9 (10 + k))] : List Value) ++ List.replicate (5 - (lg_sl ([.ref (a9 (10 + k))] : List Value)).length) Slot.unset).toArray = ls at hl ⊢
  have hl : lv_has ls 5 [(0, .ref (a9 (10 + k)))] := hl
  have hn15 := zkR_cnt hm hk4 hgk
  refine lv_iconst (v := nI 0) hx hb d_St_countConfirmedRuns_0 (by decide) ?_
  refine lv_istore_n (lv' := [(1, .int (nI 0)), (0, .ref (a9 (10 + k)))]) hx hb d_St_countConfirmedRuns_1 rfl hl (by decide) rfl (fun ls hl => ?_)
  refine lv_iconst (v := nI 0) hx hb d_St_countConfirmedRuns_2 (by decide) ?_
  refine lv_istore_n (lv' := [(2, .int (nI 0)), (1, .int (nI 0)), (0, .ref (a9 (10 + k)))]) hx hb d_St_countConfirmedRuns_3 rfl hl (by decide) rfl (fun ls hl => ?_)
  refine lv_iconst (v := nI 0) hx hb d_St_countConfirmedRuns_4 (by decide) ?_
  refine lv_istore_n (lv' := [(3, .int (nI 0)), (2, .int (nI 0)), (1, .int (nI 0)), (0, .ref (a9 (10 + k)))]) hx hb d_St_countConfirmedRuns_5 rfl hl (by decide) rfl (fun ls hl => ?_)
  have loop_6 : ∀ (z : Nat) (i : Nat) (H : Heap) (locs : List Loc) (ls : Array Slot), g9 2 k - g9 1 k - i < z → (i ≤ g9 2 k - g9 1 k) → lv_has ls 5 [(0, .ref (a9 (10 + k))), (1, .int (nI (zk_cr c9 k (g9 1 k) i))), (2, .int (zk_ir c9 k (g9 1 k) i)), (3, .int (nI i))] → zh_H D cA A kd ln I L R H → va_S A s.heap H locs → W p l e (headSpec w_St_countConfirmedRuns { frames := 3, cells := 0, slots := 0, locals := 64 }).room s m ([.ref (a9 (10 + k))] : List Value).toArray below meth c H locs 0 0 (MQ below (zc_Qc D cA A (zc_eq (some (.int (nI (zk_cr c9 k (g9 1 k) (g9 2 k - g9 1 k))))) kd ln I L R)) ([.ref (a9 (10 + k))] : List Value).toArray s 0 0 A) (F0 m 6 ls []) := by
    intro z
    induction z with
    | zero => intro i H locs ls hz; exact absurd hz (Nat.not_lt_zero _)
    | succ z ih_6 =>
      intro i H locs ls hz_6 hi hl hH hS
      have hcf := zk_cr_le c9 k (g9 1 k) i
      refine lv_iload_n hx hb d_St_countConfirmedRuns_6 rfl (lv_at hl 3 rfl) ?_
      refine lv_aload_n hx hb d_St_countConfirmedRuns_7 rfl (lv_at hl 0 rfl) ?_
      refine zr_getr (ci := 2) (C := R_St) (T := T_St) (N := 10) (ref := "ScrubbedRecorder$Store") hx hb hts (fun w h => List.mem_cons_of_mem _ (zin_St w h)) hown hK hH ((zkR_k hm (zk_lv1 (by omega) hgk)).trans (zk_k1 (by omega))) (by decide) rfl 5 (by decide) rfl (hw zw_129) (fun _ h9 => h9) d_St_countConfirmedRuns_8 (zkR_st hm (by omega) hgk).2.2.2.1 ?_
      refine zr_V (As := ([] : List Value)) (rest := [.int (nI i)]) (b := a9 (40 + k)) (ci := 5) (q := (R_AL, T_AL, 3)) ⟨hx, hb, hml, hown, hts⟩ (c_ALk_size hm (by omega) hgk) ⟨(callB_of 0 hts (zg_all zw_172) rfl rfl rfl (hw zw_7) (hw zw_169) k_AL_size.2 ⟨Nat.le_of_ble_eq_true rfl, Nat.le_of_ble_eq_true rfl⟩), (hw zw_170), (hw zw_171)⟩ hSc hE hH hS hA rfl (by decide) (zkR_st hm (by omega) hgk).2.2.2.2.1 rfl hl.1 rfl (Nat.le_of_ble_eq_true rfl) d_St_countConfirmedRuns_11 ⟨Nat.le_of_ble_eq_true rfl, Nat.le_of_ble_eq_true rfl⟩ (fun v1 kd1 ln1 I1 L1 R1 H locs hp hH hS => ?_)
      obtain ⟨rfl, rfl, rfl, rfl, rfl, rfl⟩ := hp
      refine W.eq (g2 := F0 m 14 ls [.int (nI (g9 2 k - g9 1 k)), .int (nI i)]) rfl ?_
      refine W.widen (k := 0) (n := 0) (by omega) (by omega) ?_
      refine lv_icmp_ge (tgt := 54) hx hb d_St_countConfirmedRuns_14 (by decide) (fun hc2 => ?_) (fun hc2 => ?_)
      · skip
        have hc2 := zt_geT (a := i) (b := (g9 2 k - g9 1 k)) (by omega) (by omega) hc2
        refine lv_iload_n hx hb d_St_countConfirmedRuns_54 rfl (lv_at hl 1 rfl) ?_
        refine W.widen (k := 0) (n := 0) (Nat.le_of_ble_eq_true rfl) (Nat.le_of_ble_eq_true rfl) ?_
        subst hAe
        exact W.iret (v := nI (zk_cr c9 k (g9 1 k) i)) hx hb hr (fun t ht hW => zc_end hS hH ht (⟨by rw [show i = g9 2 k - g9 1 k by omega], rfl, rfl, rfl, rfl, rfl⟩)) hS.2.2 d_St_countConfirmedRuns_55
      · skip
        have hc2 := zt_geF (a := i) (b := (g9 2 k - g9 1 k)) (by omega) (by omega) hc2
        refine lv_aload_n hx hb d_St_countConfirmedRuns_17 rfl (lv_at hl 0 rfl) ?_
        refine zr_getr (ci := 2) (C := R_St) (T := T_St) (N := 10) (ref := "ScrubbedRecorder$Store") hx hb hts (fun w h => List.mem_cons_of_mem _ (zin_St w h)) hown hK hH ((zkR_k hm (zk_lv1 (by omega) hgk)).trans (zk_k1 (by omega))) (by decide) rfl 5 (by decide) rfl (hw zw_129) (fun _ h9 => h9) d_St_countConfirmedRuns_18 (zkR_st hm (by omega) hgk).2.2.2.1 ?_
        refine lv_iload_n hx hb d_St_countConfirmedRuns_21 rfl (lv_at hl 3 rfl) ?_
        refine zr_V (As := ([.int (nI i)] : List Value)) (rest := []) (b := a9 (40 + k)) (ci := 5) (q := (R_AL, T_AL, 3)) ⟨hx, hb, hml, hown, hts⟩ (c_ALk_get (j := i) hm (by omega) hgk (by omega)) ⟨(callB_of 1 hts (zg_all zw_176) rfl rfl rfl (hw zw_7) (hw zw_173) k_AL_get.2 ⟨Nat.le_of_ble_eq_true rfl, Nat.le_of_ble_eq_true rfl⟩), (hw zw_174), (hw zw_175)⟩ hSc hE hH hS hA rfl (by decide) (zkR_st hm (by omega) hgk).2.2.2.2.1 rfl hl.1 rfl (Nat.le_of_ble_eq_true rfl) d_St_countConfirmedRuns_22 ⟨Nat.le_of_ble_eq_true rfl, Nat.le_of_ble_eq_true rfl⟩ (fun v3 kd3 ln3 I3 L3 R3 H locs hp hH hS => ?_)
        obtain ⟨rfl, rfl, rfl, rfl, rfl, rfl⟩ := hp
        refine W.eq (g2 := F0 m 25 ls [.ref (a9 (zk_p k (g9 1 k + i)))]) rfl ?_
        refine W.widen (k := 0) (n := 0) (by omega) (by omega) ?_
        refine zr_cast (ci := 3) (nm := "ScrubbedRecorder$Packet") hx hb hown (hw zw_187) (hSc.2.1 _ (by decide +kernel)) hK hH rfl (by decide) ((zkR_k hm (zk_lvp (by omega) hgk (by omega) (by omega))).trans zk_kp) d_St_countConfirmedRuns_25 ?_
        refine zr_geti (ci := 3) (C := R_Pk) (T := T_Pk) (N := 8) (ref := "ScrubbedRecorder$Packet") hx hb hts (fun w h => List.mem_cons_of_mem _ (zin_Pk w h)) hown hK hH ((zkR_k hm (zk_lvp (by omega) hgk (by omega) (by omega))).trans zk_kp) (by decide) rfl 5 (by decide) rfl (hw zw_274) (fun _ h9 => h9) d_St_countConfirmedRuns_28 ?_
        refine zt_i (y := c9 (zk_p k (g9 1 k + i)) 5) (congrFun (zkR_i hm (zk_lvp (by omega) hgk (by omega) (by omega))) 5) ?_
        refine lv_istore (lv' := [(4, .int (c9 (zk_p k (g9 1 k + i)) 5)), (0, .ref (a9 (10 + k))), (1, .int (nI (zk_cr c9 k (g9 1 k) i))), (2, .int (zk_ir c9 k (g9 1 k) i)), (3, .int (nI i))]) hx hb d_St_countConfirmedRuns_31 hl (by decide) rfl (fun ls hl => ?_)
        refine lv_iload hx hb d_St_countConfirmedRuns_33 (lv_at hl 0 rfl) ?_
        refine lv_if_eq (tgt := 45) hx hb d_St_countConfirmedRuns_35 (by decide) (fun hc4 => ?_) (fun hc4 => ?_)
        · skip
          have hc4 : (c9 (zk_p k (g9 1 k + i)) 5) = (nI 0) := hc4
          refine lv_iload hx hb d_St_countConfirmedRuns_45 (lv_at hl 0 rfl) ?_
          refine lv_istore_n (lv' := [(2, .int (c9 (zk_p k (g9 1 k + i)) 5)), (4, .int (c9 (zk_p k (g9 1 k + i)) 5)), (0, .ref (a9 (10 + k))), (1, .int (nI (zk_cr c9 k (g9 1 k) i))), (3, .int (nI i))]) hx hb d_St_countConfirmedRuns_47 rfl hl (by decide) rfl (fun ls hl => ?_)
          refine lv_iinc (k := 4) (v := nI (i + 1)) (lv' := [(3, .int (nI (i + 1))), (2, .int (c9 (zk_p k (g9 1 k + i)) 5)), (4, .int (c9 (zk_p k (g9 1 k + i)) 5)), (0, .ref (a9 (10 + k))), (1, .int (nI (zk_cr c9 k (g9 1 k) i)))]) hx hb d_St_countConfirmedRuns_48 hl rfl (nI_add i 1) (by decide) rfl (fun ls hl => ?_)
          refine lv_goto (tgt := 6) hx hb d_St_countConfirmedRuns_51 (by decide) ?_
          have ez5 : zk_cr c9 k (g9 1 k) (i + 1) = zk_cr c9 k (g9 1 k) i := by rw [zk_cr, if_pos hc4] <;> rfl
          have hl : lv_has ls 5 [(3, .int (nI (i + 1))), (2, .int (c9 (zk_p k (g9 1 k + i)) 5)), (4, .int (c9 (zk_p k (g9 1 k + i)) 5)), (0, .ref (a9 (10 + k))), (1, .int (nI (zk_cr c9 k (g9 1 k) (i + 1))))] := by rw [ez5]; exact hl
          have ez6 : zk_ir c9 k (g9 1 k) (i + 1) = c9 (zk_p k (g9 1 k + i)) 5 := by rw [zk_ir, if_neg (by omega), show g9 1 k + (i + 1) - 1 = g9 1 k + i by omega]
          have hl : lv_has ls 5 [(3, .int (nI (i + 1))), (2, .int (zk_ir c9 k (g9 1 k) (i + 1))), (4, .int (c9 (zk_p k (g9 1 k + i)) 5)), (0, .ref (a9 (10 + k))), (1, .int (nI (zk_cr c9 k (g9 1 k) (i + 1))))] := by rw [ez6]; exact hl
          exact ih_6 (i + 1) _ _ _ (by omega) (by omega) (lv_sub hl [3, 4, 1, 0] rfl) hH hS
        · skip
          have hc4 : ¬ (c9 (zk_p k (g9 1 k + i)) 5) = (nI 0) := hc4
          refine lv_iload_n hx hb d_St_countConfirmedRuns_38 rfl (lv_at hl 3 rfl) ?_
          refine lv_if_ne (tgt := 45) hx hb d_St_countConfirmedRuns_39 (by decide) (fun hc7 => ?_) (fun hc7 => ?_)
          · skip
            have hc7 : ¬ (zk_ir c9 k (g9 1 k) i) = (nI 0) := hc7
            refine lv_iload hx hb d_St_countConfirmedRuns_45 (lv_at hl 0 rfl) ?_
            refine lv_istore_n (lv' := [(2, .int (c9 (zk_p k (g9 1 k + i)) 5)), (4, .int (c9 (zk_p k (g9 1 k + i)) 5)), (0, .ref (a9 (10 + k))), (1, .int (nI (zk_cr c9 k (g9 1 k) i))), (3, .int (nI i))]) hx hb d_St_countConfirmedRuns_47 rfl hl (by decide) rfl (fun ls hl => ?_)
            refine lv_iinc (k := 4) (v := nI (i + 1)) (lv' := [(3, .int (nI (i + 1))), (2, .int (c9 (zk_p k (g9 1 k + i)) 5)), (4, .int (c9 (zk_p k (g9 1 k + i)) 5)), (0, .ref (a9 (10 + k))), (1, .int (nI (zk_cr c9 k (g9 1 k) i)))]) hx hb d_St_countConfirmedRuns_48 hl rfl (nI_add i 1) (by decide) rfl (fun ls hl => ?_)
            refine lv_goto (tgt := 6) hx hb d_St_countConfirmedRuns_51 (by decide) ?_
            have ez8 : zk_cr c9 k (g9 1 k) (i + 1) = zk_cr c9 k (g9 1 k) i := by rw [zk_cr, if_neg hc4, if_neg hc7] <;> rfl
            have hl : lv_has ls 5 [(3, .int (nI (i + 1))), (2, .int (c9 (zk_p k (g9 1 k + i)) 5)), (4, .int (c9 (zk_p k (g9 1 k + i)) 5)), (0, .ref (a9 (10 + k))), (1, .int (nI (zk_cr c9 k (g9 1 k) (i + 1))))] := by rw [ez8]; exact hl
            have ez9 : zk_ir c9 k (g9 1 k) (i + 1) = c9 (zk_p k (g9 1 k + i)) 5 := by rw [zk_ir, if_neg (by omega), show g9 1 k + (i + 1) - 1 = g9 1 k + i by omega]
            have hl : lv_has ls 5 [(3, .int (nI (i + 1))), (2, .int (zk_ir c9 k (g9 1 k) (i + 1))), (4, .int (c9 (zk_p k (g9 1 k + i)) 5)), (0, .ref (a9 (10 + k))), (1, .int (nI (zk_cr c9 k (g9 1 k) (i + 1))))] := by rw [ez9]; exact hl
            exact ih_6 (i + 1) _ _ _ (by omega) (by omega) (lv_sub hl [3, 4, 1, 0] rfl) hH hS
          · skip
            have hc7 : (zk_ir c9 k (g9 1 k) i) = (nI 0) := hc7
            refine lv_iinc (k := 2) (v := nI (zk_cr c9 k (g9 1 k) i + 1)) (lv' := [(1, .int (nI (zk_cr c9 k (g9 1 k) i + 1))), (4, .int (c9 (zk_p k (g9 1 k + i)) 5)), (0, .ref (a9 (10 + k))), (2, .int (zk_ir c9 k (g9 1 k) i)), (3, .int (nI i))]) hx hb d_St_countConfirmedRuns_42 hl rfl (nI_add (zk_cr c9 k (g9 1 k) i) 1) (by decide) rfl (fun ls hl => ?_)
            refine lv_iload hx hb d_St_countConfirmedRuns_45 (lv_at hl 1 rfl) ?_
            refine lv_istore_n (lv' := [(2, .int (c9 (zk_p k (g9 1 k + i)) 5)), (1, .int (nI (zk_cr c9 k (g9 1 k) i + 1))), (4, .int (c9 (zk_p k (g9 1 k + i)) 5)), (0, .ref (a9 (10 + k))), (3, .int (nI i))]) hx hb d_St_countConfirmedRuns_47 rfl hl (by decide) rfl (fun ls hl => ?_)
            refine lv_iinc (k := 4) (v := nI (i + 1)) (lv' := [(3, .int (nI (i + 1))), (2, .int (c9 (zk_p k (g9 1 k + i)) 5)), (1, .int (nI (zk_cr c9 k (g9 1 k) i + 1))), (4, .int (c9 (zk_p k (g9 1 k + i)) 5)), (0, .ref (a9 (10 + k)))]) hx hb d_St_countConfirmedRuns_48 hl rfl (nI_add i 1) (by decide) rfl (fun ls hl => ?_)
            refine lv_goto (tgt := 6) hx hb d_St_countConfirmedRuns_51 (by decide) ?_
            have ez10 : zk_cr c9 k (g9 1 k) (i + 1) = zk_cr c9 k (g9 1 k) i + 1 := by rw [zk_cr, if_neg hc4, if_pos hc7] <;> rfl
            have hl : lv_has ls 5 [(3, .int (nI (i + 1))), (2, .int (c9 (zk_p k (g9 1 k + i)) 5)), (1, .int (nI (zk_cr c9 k (g9 1 k) (i + 1)))), (4, .int (c9 (zk_p k (g9 1 k + i)) 5)), (0, .ref (a9 (10 + k)))] := by rw [ez10]; exact hl
            have ez11 : zk_ir c9 k (g9 1 k) (i + 1) = c9 (zk_p k (g9 1 k + i)) 5 := by rw [zk_ir, if_neg (by omega), show g9 1 k + (i + 1) - 1 = g9 1 k + i by omega]
            have hl : lv_has ls 5 [(3, .int (nI (i + 1))), (2, .int (zk_ir c9 k (g9 1 k) (i + 1))), (1, .int (nI (zk_cr c9 k (g9 1 k) (i + 1)))), (4, .int (c9 (zk_p k (g9 1 k + i)) 5)), (0, .ref (a9 (10 + k)))] := by rw [ez11]; exact hl
            exact ih_6 (i + 1) _ _ _ (by omega) (by omega) (lv_sub hl [4, 2, 1, 0] rfl) hH hS
  exact loop_6 _ 0 _ _ _ (Nat.lt_succ_self _) (by omega) (lv_sub hl [3, 2, 1, 0] rfl) hH hS

set_option maxHeartbeats 4000000 in
set_option maxRecDepth 100000 in
/-- Store.isFirstPageDone -/
theorem c_St_isFirstPageDone {l : Launch} {D : va_G} {cA : Nat → ClassId} {te mi : Nat} {kd ln : Nat → Nat} {I : Nat → Nat → Int32} {L : Nat → Nat → Int64} {R : Nat → Nat → Option Nat} {X : Nat} {a9 e9 : Nat → Nat} {c9 : Nat → Nat → Int32} {d9 : Nat → Nat → Int64} {g9 : Nat → Nat → Nat} (hm : zkR X te a9 e9 c9 d9 g9 kd ln I L R) {k : Nat} (hk4 : k < 4) (hgk : g9 0 k ≠ 0)  : zc_M l y_St_isFirstPageDone w_St_isFirstPageDone { frames := 3, cells := 0, slots := 0, locals := 64 } 0 0 D cA te mi ([.ref (a9 (10 + k))] : List Value) kd ln I L R (zc_eq (some (.int (zk_fd c9 k (g9 2 k) (g9 2 k - g9 1 k)))) kd ln I L R) := by
  intro sz
  refine Met.ofW (cc := b_St_isFirstPageDone) (maxL := 2) (ret := (some (.boolean))) (by decide +kernel) rfl ?_
  intro p e s m args below meth c s₁ B hml hv
  obtain ⟨rfl, hsz, hSc, hE, hH⟩ := hv
  have hx := B.exec
  have hb := B.bytes
  have hr := B.returns
  have hts := atoms_spec (ws := w_St_isFirstPageDone) B.pre
  have hw : ∀ {w : Cond}, w ∈ zw → w.before ([.ref (a9 (10 + k))] : List Value).toArray s = true := fun h => hts _ (List.mem_cons_of_mem _ h)
  have hown : s.vm.findClass R_St = some m.cls := findClass_of_methodNamed B.named
  have hlocks := B.notSynchronized
  subst hsz
  have hK := hSc.1
  have hH : zh_H D cA (zc_A kd s.heap.size) kd ln I L R s.heap := hH.weaken (fun q h _ => Or.inl h)
  generalize hAe : zc_A kd s.heap.size = A at hH hE ⊢
  have hA : ∀ q : Nat, s.heap.size ≤ q → A q := fun q h => by rw [← hAe]; exact Or.inr h
  have hS : va_S A s.heap s.heap [] := va_S.rf
  have hl := lv_entry ([.ref (a9 (10 + k))] : List Value) (n := 2) (Nat.le_of_ble_eq_true rfl)
  rw [lg_entry_eq]
  generalize (lg_sl ([.ref (a9 (10 + k))] : List Value) ++ List.replicate (2 - (lg_sl ([.ref (a9 (10 + k))] : List Value)).length) Slot.unset).toArray = ls at hl ⊢
  have hl : lv_has ls 2 [(0, .ref (a9 (10 + k)))] := hl
  have hn15 := zkR_cnt hm hk4 hgk
  refine lv_iconst (v := nI 0) hx hb d_St_isFirstPageDone_0 (by decide) ?_
  refine lv_istore_n (lv' := [(1, .int (nI 0)), (0, .ref (a9 (10 + k)))]) hx hb d_St_isFirstPageDone_1 rfl hl (by decide) rfl (fun ls hl => ?_)
  have loop_2 : ∀ (z : Nat) (i : Nat) (H : Heap) (locs : List Loc) (ls : Array Slot), g9 2 k - g9 1 k - i < z → (i ≤ g9 2 k - g9 1 k) → (zk_fd c9 k (g9 2 k) (g9 2 k - g9 1 k - i) = zk_fd c9 k (g9 2 k) (g9 2 k - g9 1 k)) → lv_has ls 2 [(0, .ref (a9 (10 + k))), (1, .int (nI i))] → zh_H D cA A kd ln I L R H → va_S A s.heap H locs → W p l e (headSpec w_St_isFirstPageDone { frames := 3, cells := 0, slots := 0, locals := 64 }).room s m ([.ref (a9 (10 + k))] : List Value).toArray below meth c H locs 0 0 (MQ below (zc_Qc D cA A (zc_eq (some (.int (zk_fd c9 k (g9 2 k) (g9 2 k - g9 1 k)))) kd ln I L R)) ([.ref (a9 (10 + k))] : List Value).toArray s 0 0 A) (F0 m 2 ls []) := by
    intro z
    induction z with
    | zero => intro i H locs ls hz; exact absurd hz (Nat.not_lt_zero _)
    | succ z ih_2 =>
      intro i H locs ls hz_2 hi hg hl hH hS
      refine lv_iload_n hx hb d_St_isFirstPageDone_2 rfl (lv_at hl 1 rfl) ?_
      refine lv_aload_n hx hb d_St_isFirstPageDone_3 rfl (lv_at hl 0 rfl) ?_
      refine zr_getr (ci := 2) (C := R_St) (T := T_St) (N := 10) (ref := "ScrubbedRecorder$Store") hx hb hts (fun w h => List.mem_cons_of_mem _ (zin_St w h)) hown hK hH ((zkR_k hm (zk_lv1 (by omega) hgk)).trans (zk_k1 (by omega))) (by decide) rfl 5 (by decide) rfl (hw zw_129) (fun _ h9 => h9) d_St_isFirstPageDone_4 (zkR_st hm (by omega) hgk).2.2.2.1 ?_
      refine zr_V (As := ([] : List Value)) (rest := [.int (nI i)]) (b := a9 (40 + k)) (ci := 5) (q := (R_AL, T_AL, 3)) ⟨hx, hb, hml, hown, hts⟩ (c_ALk_size hm (by omega) hgk) ⟨(callB_of 0 hts (zg_all zw_172) rfl rfl rfl (hw zw_7) (hw zw_169) k_AL_size.2 ⟨Nat.le_of_ble_eq_true rfl, Nat.le_of_ble_eq_true rfl⟩), (hw zw_170), (hw zw_171)⟩ hSc hE hH hS hA rfl (by decide) (zkR_st hm (by omega) hgk).2.2.2.2.1 rfl hl.1 rfl (Nat.le_of_ble_eq_true rfl) d_St_isFirstPageDone_7 ⟨Nat.le_of_ble_eq_true rfl, Nat.le_of_ble_eq_true rfl⟩ (fun v1 kd1 ln1 I1 L1 R1 H locs hp hH hS => ?_)
      obtain ⟨rfl, rfl, rfl, rfl, rfl, rfl⟩ := hp
      refine W.eq (g2 := F0 m 10 ls [.int (nI (g9 2 k - g9 1 k)), .int (nI i)]) rfl ?_
      refine W.widen (k := 0) (n := 0) (by omega) (by omega) ?_
      refine lv_icmp_ge (tgt := 61) hx hb d_St_isFirstPageDone_10 (by decide) (fun hc2 => ?_) (fun hc2 => ?_)
      · skip
        have hc2 := zt_geT (a := i) (b := (g9 2 k - g9 1 k)) (by omega) (by omega) hc2
        refine lv_iconst (v := nI 1) hx hb d_St_isFirstPageDone_61 (by decide) ?_
        refine W.widen (k := 0) (n := 0) (Nat.le_of_ble_eq_true rfl) (Nat.le_of_ble_eq_true rfl) ?_
        subst hAe
        exact W.zret (v := nI 1) hx hb hr (by decide +kernel) (fun t ht hW => zc_end hS hH ht (⟨by rw [← hg, show g9 2 k - g9 1 k - i = 0 by omega]; rfl, rfl, rfl, rfl, rfl, rfl⟩)) hS.2.2 d_St_isFirstPageDone_62
      · skip
        have hc2 := zt_geF (a := i) (b := (g9 2 k - g9 1 k)) (by omega) (by omega) hc2
        refine lv_aload_n hx hb d_St_isFirstPageDone_13 rfl (lv_at hl 0 rfl) ?_
        refine zr_getr (ci := 2) (C := R_St) (T := T_St) (N := 10) (ref := "ScrubbedRecorder$Store") hx hb hts (fun w h => List.mem_cons_of_mem _ (zin_St w h)) hown hK hH ((zkR_k hm (zk_lv1 (by omega) hgk)).trans (zk_k1 (by omega))) (by decide) rfl 5 (by decide) rfl (hw zw_129) (fun _ h9 => h9) d_St_isFirstPageDone_14 (zkR_st hm (by omega) hgk).2.2.2.1 ?_
        refine lv_iload_n hx hb d_St_isFirstPageDone_17 rfl (lv_at hl 1 rfl) ?_
        refine zr_V (As := ([.int (nI i)] : List Value)) (rest := []) (b := a9 (40 + k)) (ci := 5) (q := (R_AL, T_AL, 3)) ⟨hx, hb, hml, hown, hts⟩ (c_ALk_get (j := i) hm (by omega) hgk (by omega)) ⟨(callB_of 1 hts (zg_all zw_176) rfl rfl rfl (hw zw_7) (hw zw_173) k_AL_get.2 ⟨Nat.le_of_ble_eq_true rfl, Nat.le_of_ble_eq_true rfl⟩), (hw zw_174), (hw zw_175)⟩ hSc hE hH hS hA rfl (by decide) (zkR_st hm (by omega) hgk).2.2.2.2.1 rfl hl.1 rfl (Nat.le_of_ble_eq_true rfl) d_St_isFirstPageDone_18 ⟨Nat.le_of_ble_eq_true rfl, Nat.le_of_ble_eq_true rfl⟩ (fun v3 kd3 ln3 I3 L3 R3 H locs hp hH hS => ?_)
        obtain ⟨rfl, rfl, rfl, rfl, rfl, rfl⟩ := hp
        refine W.eq (g2 := F0 m 21 ls [.ref (a9 (zk_p k (g9 1 k + i)))]) rfl ?_
        refine W.widen (k := 0) (n := 0) (by omega) (by omega) ?_
        refine zr_cast (ci := 3) (nm := "ScrubbedRecorder$Packet") hx hb hown (hw zw_187) (hSc.2.1 _ (by decide +kernel)) hK hH rfl (by decide) ((zkR_k hm (zk_lvp (by omega) hgk (by omega) (by omega))).trans zk_kp) d_St_isFirstPageDone_21 ?_
        refine zr_geti (ci := 3) (C := R_Pk) (T := T_Pk) (N := 8) (ref := "ScrubbedRecorder$Packet") hx hb hts (fun w h => List.mem_cons_of_mem _ (zin_Pk w h)) hown hK hH ((zkR_k hm (zk_lvp (by omega) hgk (by omega) (by omega))).trans zk_kp) (by decide) rfl 4 (by decide) rfl (hw zw_272) (fun _ h9 => h9) d_St_isFirstPageDone_24 ?_
        refine zt_i (y := c9 (zk_p k (g9 1 k + i)) 4) (congrFun (zkR_i hm (zk_lvp (by omega) hgk (by omega) (by omega))) 4) ?_
        refine lv_aload_n hx hb d_St_isFirstPageDone_27 rfl (lv_at hl 0 rfl) ?_
        refine zr_getr (ci := 2) (C := R_St) (T := T_St) (N := 10) (ref := "ScrubbedRecorder$Store") hx hb hts (fun w h => List.mem_cons_of_mem _ (zin_St w h)) hown hK hH ((zkR_k hm (zk_lv1 (by omega) hgk)).trans (zk_k1 (by omega))) (by decide) rfl 3 (by decide) rfl (hw zw_127) (fun _ h9 => h9) d_St_isFirstPageDone_28 (zkR_st hm (by omega) hgk).2.2.1 ?_
        refine lv_iconst (v := nI 0) hx hb d_St_isFirstPageDone_31 (by decide) ?_
        refine zr_aldi (j := 0) hx hb hK hH ((zkR_k hm (zk_lv2 (by omega) hgk)).trans (zk_k2 (by omega))) (by rw [show ln (a9 (20 + k)) = 40 from (zkR_n hm (zk_lv2 (by omega) hgk) (by rw [zk_k2 (by omega)]; decide)).trans (zk_n2 (by omega))]; exact zh_ix_n (by omega) (by omega)) d_St_isFirstPageDone_32 ?_
        refine zt_i (y := c9 (20 + k) 0) (congrFun (zkR_i hm (zk_lv2 (by omega) hgk)) 0) ?_
        refine lv_icmp_ne (tgt := 61) hx hb d_St_isFirstPageDone_33 (by decide) (fun hc4 => ?_) (fun hc4 => ?_)
        · skip
          have hc4 : ¬ (c9 (zk_p k (g9 1 k + i)) 4) = (c9 (20 + k) 0) := hc4
          refine lv_iconst (v := nI 1) hx hb d_St_isFirstPageDone_61 (by decide) ?_
          refine W.widen (k := 0) (n := 0) (Nat.le_of_ble_eq_true rfl) (Nat.le_of_ble_eq_true rfl) ?_
          subst hAe
          exact W.zret (v := nI 1) hx hb hr (by decide +kernel) (fun t ht hW => zc_end hS hH ht (⟨by rw [← hg, zk_fd_s (i := i) (by omega), if_neg hc4], rfl, rfl, rfl, rfl, rfl⟩)) hS.2.2 d_St_isFirstPageDone_62
        · skip
          have hc4 : (c9 (zk_p k (g9 1 k + i)) 4) = (c9 (20 + k) 0) := hc4
          refine lv_aload_n hx hb d_St_isFirstPageDone_36 rfl (lv_at hl 0 rfl) ?_
          refine zr_getr (ci := 2) (C := R_St) (T := T_St) (N := 10) (ref := "ScrubbedRecorder$Store") hx hb hts (fun w h => List.mem_cons_of_mem _ (zin_St w h)) hown hK hH ((zkR_k hm (zk_lv1 (by omega) hgk)).trans (zk_k1 (by omega))) (by decide) rfl 5 (by decide) rfl (hw zw_129) (fun _ h9 => h9) d_St_isFirstPageDone_37 (zkR_st hm (by omega) hgk).2.2.2.1 ?_
          refine lv_iload_n hx hb d_St_isFirstPageDone_40 rfl (lv_at hl 1 rfl) ?_
          refine zr_V (As := ([.int (nI i)] : List Value)) (rest := []) (b := a9 (40 + k)) (ci := 5) (q := (R_AL, T_AL, 3)) ⟨hx, hb, hml, hown, hts⟩ (c_ALk_get (j := i) hm (by omega) hgk (by omega)) ⟨(callB_of 1 hts (zg_all zw_176) rfl rfl rfl (hw zw_7) (hw zw_173) k_AL_get.2 ⟨Nat.le_of_ble_eq_true rfl, Nat.le_of_ble_eq_true rfl⟩), (hw zw_174), (hw zw_175)⟩ hSc hE hH hS hA rfl (by decide) (zkR_st hm (by omega) hgk).2.2.2.2.1 rfl hl.1 rfl (Nat.le_of_ble_eq_true rfl) d_St_isFirstPageDone_41 ⟨Nat.le_of_ble_eq_true rfl, Nat.le_of_ble_eq_true rfl⟩ (fun v5 kd5 ln5 I5 L5 R5 H locs hp hH hS => ?_)
          obtain ⟨rfl, rfl, rfl, rfl, rfl, rfl⟩ := hp
          refine W.eq (g2 := F0 m 44 ls [.ref (a9 (zk_p k (g9 1 k + i)))]) rfl ?_
          refine W.widen (k := 0) (n := 0) (by omega) (by omega) ?_
          refine zr_cast (ci := 3) (nm := "ScrubbedRecorder$Packet") hx hb hown (hw zw_187) (hSc.2.1 _ (by decide +kernel)) hK hH rfl (by decide) ((zkR_k hm (zk_lvp (by omega) hgk (by omega) (by omega))).trans zk_kp) d_St_isFirstPageDone_44 ?_
          refine zr_geti (ci := 3) (C := R_Pk) (T := T_Pk) (N := 8) (ref := "ScrubbedRecorder$Packet") hx hb hts (fun w h => List.mem_cons_of_mem _ (zin_Pk w h)) hown hK hH ((zkR_k hm (zk_lvp (by omega) hgk (by omega) (by omega))).trans zk_kp) (by decide) rfl 5 (by decide) rfl (hw zw_274) (fun _ h9 => h9) d_St_isFirstPageDone_47 ?_
          refine zt_i (y := c9 (zk_p k (g9 1 k + i)) 5) (congrFun (zkR_i hm (zk_lvp (by omega) hgk (by omega) (by omega))) 5) ?_
          refine lv_if_ne (tgt := 55) hx hb d_St_isFirstPageDone_50 (by decide) (fun hc6 => ?_) (fun hc6 => ?_)
          · skip
            have hc6 : ¬ (c9 (zk_p k (g9 1 k + i)) 5) = (nI 0) := hc6
            refine lv_iinc (k := 1) (v := nI (i + 1)) (lv' := [(1, .int (nI (i + 1))), (0, .ref (a9 (10 + k)))]) hx hb d_St_isFirstPageDone_55 hl rfl (nI_add i 1) (by decide) rfl (fun ls hl => ?_)
            refine lv_goto (tgt := 2) hx hb d_St_isFirstPageDone_58 (by decide) ?_
            exact ih_2 (i + 1) _ _ _ (by omega) (by omega) (by rw [← hg, zk_fd_s (i := i) (by omega), if_pos hc4, if_neg hc6]) (lv_sub hl [1, 0] rfl) hH hS
          · skip
            have hc6 : (c9 (zk_p k (g9 1 k + i)) 5) = (nI 0) := hc6
            refine lv_iconst (v := nI 0) hx hb d_St_isFirstPageDone_53 (by decide) ?_
            refine W.widen (k := 0) (n := 0) (Nat.le_of_ble_eq_true rfl) (Nat.le_of_ble_eq_true rfl) ?_
            subst hAe
            exact W.zret (v := nI 0) hx hb hr (by decide +kernel) (fun t ht hW => zc_end hS hH ht (⟨by rw [← hg, zk_fd_s (i := i) (by omega), if_pos hc4, if_pos hc6], rfl, rfl, rfl, rfl, rfl⟩)) hS.2.2 d_St_isFirstPageDone_54
  exact loop_2 _ 0 _ _ _ (Nat.lt_succ_self _) (by omega) rfl (lv_sub hl [1, 0] rfl) hH hS
