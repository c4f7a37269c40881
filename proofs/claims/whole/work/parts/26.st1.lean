theorem zt_bn {b : Int32} (h : b = nI 0 ∨ b = nI 1) : narrow .boolean (.int b) = .int b := by
  rcases h with rfl | rfl <;> decide +kernel
theorem zt_bfi {b : Int32} (h : b = nI 0 ∨ b = nI 1) : fits .boolean (.int b) = true := by
  rcases h with rfl | rfl <;> decide +kernel
theorem zu_zu {α : Type} (f : Nat → Nat → α) (a k : Nat) (x y : α) : zu (zu f a k x) a k y = zu f a k y := by
  funext b j
  simp only [zu_if]
  by_cases h : b = a ∧ j = k
  · rw [if_pos h, if_pos h]
  · rw [if_neg h, if_neg h, if_neg h]
theorem zu_cm {α : Type} (f : Nat → Nat → α) {a b : Nat} (k j : Nat) (x y : α) (h : a ≠ b) : zu (zu f a k x) b j y = zu (zu f b j y) a k x := by
  funext r s
  simp only [zu_if]
  by_cases h1 : r = a ∧ s = k
  · rw [if_pos h1, if_neg (fun q => h (h1.1.symm.trans q.1)), if_pos h1]
  · rw [if_neg h1, if_neg h1]
theorem zk_mp_z {α : Type} {c : Nat → Nat → α} {k a b : Nat} {G : Nat → Nat → α} {s : Nat} {v : α} (hk : k < 4) (hab : a ≤ b) (h : va_up (c (zk_p k b)) s v = G b) : zu (zk_mp c k a b G) (zk_p k b) s v = zk_mp c k a (b + 1) G := by
  rw [zu_eq, zk_mp_ne hk (by omega), h, zk_mp_s hk hab]
theorem zk_mp_k {α : Type} {c : Nat → Nat → α} {k a b : Nat} {G : Nat → Nat → α} (hk : k < 4) (hab : a ≤ b) (h : c (zk_p k b) = G b) : zk_mp c k a b G = zk_mp c k a (b + 1) G := by
  rw [← zk_mp_s hk hab, ← h, ← zk_mp_ne (c := c) (G := G) hk (show ¬ (a ≤ b ∧ b < b) by omega), up_id]
/-- saved: as confirmed now -/
def zk_svG (c : Nat → Nat → Int32) (k x : Nat) : Nat → Int32 := va_up (c (zk_p k x)) 6 (c (zk_p k x) 5)
def zk_sv (c : Nat → Nat → Int32) (k a b : Nat) : Nat → Nat → Int32 := zk_mp c k a b (zk_svG c k)
/-- restored: as saved -/
def zk_rsG (c : Nat → Nat → Int32) (k x : Nat) : Nat → Int32 := va_up (c (zk_p k x)) 5 (c (zk_p k x) 6)
def zk_aG (d : Nat → Nat → Int64) (k x : Nat) : Nat → Int64 := va_up (d (zk_p k x)) 7 0
/-- the time of the packet ahead of place n -/
def zk_ck (c : Nat → Nat → Int32) (k a n : Nat) : Int32 := if n = 0 then nI 0 else c (zk_p k (a + n - 1)) 3
def zk_rs (c : Nat → Nat → Int32) (k a n : Nat) : Nat → Nat → Int32 := zu (zk_mp c k a (a + n) (zk_rsG c k)) (10 + k) 9 (zk_ck c k a n)
/-- is the packet at x confirmed by a call -/
def zk_cfd (c : Nat → Nat → Int32) (k : Nat) (u v : Int32) (x : Nat) : Int32 := if c (zk_p k x) 2 < u then nI 0 else if v < c (zk_p k x) 2 then nI 0 else if c (zk_p k x) 5 = nI 0 then nI 1 else nI 0
def zk_cfG (c : Nat → Nat → Int32) (k : Nat) (u v : Int32) (x : Nat) : Nat → Int32 := if zk_cfd c k u v x = nI 0 then c (zk_p k x) else va_up (c (zk_p k x)) 5 (nI 1)
def zk_cfA (c : Nat → Nat → Int32) (d : Nat → Nat → Int64) (k : Nat) (u v : Int32) (x : Nat) : Nat → Int64 := if zk_cfd c k u v x = nI 0 then d (zk_p k x) else va_up (d (zk_p k x)) 7 0
def zk_cfn (c : Nat → Nat → Int32) (k a : Nat) (u v : Int32) : Nat → Nat
  | 0 => 0
  | n + 1 => zk_cfn c k a u v n + (if zk_cfd c k u v (a + n) = nI 0 then 0 else 1)
theorem zk_cfn_le (c : Nat → Nat → Int32) (k a : Nat) (u v : Int32) : ∀ n, zk_cfn c k a u v n ≤ n
  | 0 => Nat.le_refl _
  | n + 1 => by
    have := zk_cfn_le c k a u v n
    rw [zk_cfn]
    split <;> omega
/-- of the last r packets below b: how many at the front begin on page pg -/
def zk_pf (c : Nat → Nat → Int32) (k b pg : Nat) : Nat → Nat
  | 0 => 0
  | r + 1 => if c (zk_p k (b - (r + 1))) 4 = nI pg then zk_pf c k b pg r + 1 else 0
theorem zk_pf_s {c : Nat → Nat → Int32} {k a b i pg : Nat} (h : i < b - a) : zk_pf c k b pg (b - a - i) = if c (zk_p k (a + i)) 4 = nI pg then zk_pf c k b pg (b - a - (i + 1)) + 1 else 0 := by
  obtain ⟨n, hn⟩ : ∃ n, b - a - i = n + 1 := ⟨b - a - i - 1, by omega⟩
  rw [hn, zk_pf, show b - a - (i + 1) = n by omega, show b - (n + 1) = a + i by omega]
theorem zk_pf_le (c : Nat → Nat → Int32) (k b pg : Nat) : ∀ r, zk_pf c k b pg r ≤ r
  | 0 => Nat.le_refl _
  | r + 1 => by
    have := zk_pf_le c k b pg r
    rw [zk_pf]
    split <;> omega
def zk_ffc (c : Nat → Nat → Int32) (k cl pg : Nat) : Nat → Nat → Int32 := va_up (zu (zu c 1 pg (nI 0)) (10 + k) 7 (nI (cl - 1))) (20 + k) (va_cpy (c (20 + k)) (c (20 + k)) 1 0 (cl - 1))
def zk_ffg (c : Nat → Nat → Int32) (g : Nat → Nat → Nat) (k pg : Nat) : Nat → Nat → Nat := zu g 1 k (g 1 k + zk_pf c k (g 2 k) pg (g 2 k - g 1 k))
theorem zk_lv_rm {g : Nat → Nat → Nat} {k j r : Nat} (h : zk_lv (zu g 1 k (g 1 k + j)) r) : zk_lv g r := by
  unfold zk_lv at h ⊢
  rw [zu_ne _ _ _ (show (0 : Nat) ≠ 1 by decide), zu_ne _ _ _ (show (2 : Nat) ≠ 1 by decide), zu_ne _ _ _ (show (3 : Nat) ≠ 1 by decide)] at h
  rw [zu_ne _ _ _ (show (6 : Nat) ≠ 1 by decide)] at h
  rcases h with h | h | h | h | h | ⟨h1, h2, h3, h4⟩
  · exact Or.inl h
  · exact Or.inr (Or.inl h)
  · exact Or.inr (Or.inr (Or.inl h))
  · exact Or.inr (Or.inr (Or.inr (Or.inl h)))
  · exact Or.inr (Or.inr (Or.inr (Or.inr (Or.inl h))))
  · refine Or.inr (Or.inr (Or.inr (Or.inr (Or.inr ⟨h1, h2, ?_, h4⟩))))
    by_cases e : (r - 100) % 8 / 2 = k
    · rw [e] at h3 ⊢
      rw [zu_self] at h3
      omega
    · rw [zu_k _ _ _ _ e] at h3
      exact h3
theorem zk_n_rm {g : Nat → Nat → Nat} {k j r : Nat} : zk_n (zu g 1 k j) r = zk_n g r := by
  unfold zk_n
  rw [zu_ne _ _ _ (show (4 : Nat) ≠ 1 by decide)]
/-- the first packet of store k's list goes -/
theorem zkR_rm {X te : Nat} {A ea : Nat → Nat} {c : Nat → Nat → Int32} {d : Nat → Nat → Int64} {g : Nat → Nat → Nat} {kd ln : Nat → Nat} {I : Nat → Nat → Int32} {L : Nat → Nat → Int64} {R R1 : Nat → Nat → Option Nat} {k : Nat} {y : Int32} (h : zkR X te A ea c d g kd ln I L R) (hk : k < 4) (hg : g 0 k ≠ 0) (hn : 1 ≤ g 2 k - g 1 k) (hR : ∀ a, a ≠ ea k → R1 a = R a) (hE : ∀ j, j < g 2 k - g 1 k - 1 → R1 (ea k) j = R (ea k) (j + 1)) : zkR X te A ea c d (zu g 1 k (g 1 k + 1)) kd ln (zu (zu I (A (40 + k)) 2 y) (A (40 + k)) 1 (nI (g 2 k - g 1 k - 1))) L R1 := by
  have h0 := h
  have he : kd (ea k) = 104 := (zkR_get h0 (j := 0) hk hg (by omega)).1
  have hl6 := (zkR_st h0 hk hg).2.2.2.2.1
  obtain ⟨t1, t2, hx, hm, hs, hj, hp, hq, hf⟩ := h
  have g0 : zu g 1 k (g 1 k + 1) 0 = g 0 := zu_ne _ _ _ (by decide)
  have g2 : zu g 1 k (g 1 k + 1) 2 = g 2 := zu_ne _ _ _ (by decide)
  have g3 : zu g 1 k (g 1 k + 1) 3 = g 3 := zu_ne _ _ _ (by decide)
  have g4 : zu g 1 k (g 1 k + 1) 4 = g 4 := zu_ne _ _ _ (by decide)
  have g5 : zu g 1 k (g 1 k + 1) 5 = g 5 := zu_ne _ _ _ (by decide)
  have g6 : zu g 1 k (g 1 k + 1) 6 = g 6 := zu_ne _ _ _ (by decide)
  have nR : ∀ {r}, zk_lv g r → R1 (A r) = R (A r) := fun {r} hr => hR _ (fun e => by
    have h1 := (t1 r hr).1
    rw [e, he] at h1
    have := zk_k_in r
    omega)
  have nX : R1 X = R X := hR _ (fun e => by
    have h1 := hx.1
    rw [e, he] at h1
    omega)
  have nI1 : ∀ {a j}, kd a ≠ 6 → zu (zu I (A (40 + k)) 2 y) (A (40 + k)) 1 (nI (g 2 k - g 1 k - 1)) a j = I a j := fun {a j} ha => by
    have hne : a ≠ A (40 + k) := fun e => ha (by rw [e]; exact hl6)
    rw [zu_ne _ _ _ hne, zu_ne _ _ _ hne]
  refine ⟨fun r hr => ?_, fun r s hr hs => t2 r s (zk_lv_rm hr) (zk_lv_rm hs), ?_, ?_, fun j hj4 => ⟨fun e => ?_, fun e => ?_⟩, fun a b ha hb ga gb => hj a b ha hb (by rw [g0] at ga; exact ga) (by rw [g0] at gb; exact gb), fun p hp4 => ⟨fun e => ?_, fun e => ?_⟩, ⟨fun j x hj4 gj h1 h2 => ?_, fun e => ?_⟩, ?_⟩
  · have hr2 := zk_lv_rm hr
    obtain ⟨b1, b2, b3, b4⟩ := t1 r hr2
    refine ⟨b1, ?_, b3, fun q => by rw [zk_n_rm]; exact b4 q⟩
    rw [← b2]
    funext j
    exact nI1 (by rw [b1]; have := zk_k_in r; omega)
  · rw [nX]
    exact hx
  · rw [nR (zk_lv0 (by decide))]
    exact hm
  · rw [g0] at e
    rw [nR (zk_lv0 (by decide))]
    exact (hs j hj4).1 e
  · rw [g0] at e
    obtain ⟨a1, a2, a3, a4, l1, l2, l3, l4, l5⟩ := (hs j hj4).2 e
    rw [nR (zk_lv0 (by decide)), nR (zk_lv1 hj4 e)]
    refine ⟨a1, a2, a3, a4, l1, ?_, ?_, ?_, ?_⟩
    · by_cases ej : j = k
      · rw [ej, zu_self, g2, zu_self]
        congr 1
      · rw [zu_ne _ _ _ (hj j k hj4 hk e hg ej).1, zu_ne _ _ _ (hj j k hj4 hk e hg ej).1, l2, g2, zu_k _ _ _ _ ej]
    · rw [hR _ (fun q => by rw [q, he] at l1; omega)]
      exact l3
    · by_cases ej : j = k
      · rw [ej] at l4 ⊢
        rw [g2, zu_self]
        rcases l4 with l4 | l4
        · omega
        · exact Or.inr ⟨l4.1, by omega, l4.2.2⟩
      · rw [g2, zu_k _ _ _ _ ej]
        exact l4
    · by_cases ej : j = k
      · rw [ej] at l5 ⊢
        rw [g2, zu_self]
        intro i hi
        rw [hE i (by clear hf; omega), l5 (i + 1) (by clear hf; omega)]
        congr 3
        clear hf
        omega
      · rw [g2, zu_k _ _ _ _ ej, hR _ (fun q => (hj k j hk hj4 hg e (Ne.symm ej)).2 he q.symm)]
        exact l5
  · rw [g3] at e
    rw [nR (zk_lv0 (by decide))]
    exact (hp p hp4).1 e
  · rw [g3] at e ⊢
    rw [nR (zk_lv0 (by decide)), nR (zk_lv3 hp4 e)]
    exact (hp p hp4).2 e
  · rw [g0] at gj
    rw [g2] at h2
    have h3 : g 1 j ≤ x := by
      by_cases ej : j = k
      · rw [ej, zu_self] at h1
        rw [ej]
        omega
      · rw [zu_k _ _ _ _ ej] at h1
        exact h1
    rw [nR (zk_lvp hj4 gj h3 h2)]
    exact hq.1 j x hj4 gj h3 h2
  · rw [g6] at e
    rw [nR (zk_lv6 (by decide) e)]
    exact hq.2 e
  · rw [nX, g5, g4]
    rcases hf with hf | ⟨f0, fp, ft, f1, f2, f3, f4, f5, f6, f7, f8, f9⟩
    · exact Or.inl hf
    · refine Or.inr ⟨f0, fp, ft, f1, f2, ?_, f4, f5, f6, ?_, ?_, ?_⟩
      · rw [hR _ (fun q => by rw [q, he] at f2; omega)]
        exact f3
      · rw [nI1 (by omega)]
        exact f7
      · rw [nI1 (by omega)]
        exact f8
      · rw [← f9]
        funext j
        exact nI1 (by omega)

set_option maxHeartbeats 4000000 in
set_option maxRecDepth 100000 in
/-- Store.save -/
theorem c_St_save {l : Launch} {D : va_G} {cA : Nat → ClassId} {te mi : Nat} {kd ln : Nat → Nat} {I : Nat → Nat → Int32} {L : Nat → Nat → Int64} {R : Nat → Nat → Option Nat} {X : Nat} {a9 e9 : Nat → Nat} {c9 : Nat → Nat → Int32} {d9 : Nat → Nat → Int64} {g9 : Nat → Nat → Nat} (hm : zkR X te a9 e9 c9 d9 g9 kd ln I L R) {k : Nat} (hk4 : k < 4) (hgk : g9 0 k ≠ 0) (hlo : g9 1 k ≤ g9 2 k) (hbo : ∀ x, g9 1 k ≤ x → x < g9 2 k → c9 (zk_p k x) 5 = nI 0 ∨ c9 (zk_p k x) 5 = nI 1) : zc_M l y_St_save w_St_save { frames := 3, cells := 0, slots := 0, locals := 64 } 0 0 D cA te mi ([.ref (a9 (10 + k))] : List Value) kd ln I L R (zk_P none X te a9 e9 (zk_sv c9 k (g9 1 k) (g9 2 k)) d9 g9 kd ln) := by
  intro sz
  refine Met.ofW (cc := b_St_save) (maxL := 3) (ret := none) (by decide +kernel) rfl ?_
  intro p e s m args below meth c s₁ B hml hv
  obtain ⟨rfl, hsz, hSc, hE, hH⟩ := hv
  have hx := B.exec
  have hb := B.bytes
  have hr := B.returns
  have hts := atoms_spec (ws := w_St_save) B.pre
  have hw : ∀ {w : Cond}, w ∈ zw → w.before ([.ref (a9 (10 + k))] : List Value).toArray s = true := fun h => hts _ (List.mem_cons_of_mem _ h)
  have hown : s.vm.findClass R_St = some m.cls := findClass_of_methodNamed B.named
  have hlocks := B.notSynchronized
  subst hsz
  have hK := hSc.1
  have hH : zh_H D cA (zc_A kd s.heap.size) kd ln I L R s.heap := hH.weaken (fun q h _ => Or.inl h)
  generalize hAe : zc_A kd s.heap.size = A at hH hE ⊢
  have hA : ∀ q : Nat, s.heap.size ≤ q → A q := fun q h => by rw [← hAe]; exact Or.inr h
  have hS : va_S A s.heap s.heap [] := va_S.rf
  have hl := lv_entry ([.ref (a9 (10 + k))] : List Value) (n := 3) (Nat.le_of_ble_eq_true rfl)
  rw [lg_entry_eq]
  generalize (lg_sl ([.ref (a9 (10 + k))] : List Value) ++ List.replicate (3 - (lg_sl ([.ref (a9 (10 + k))] : List Value)).length) Slot.unset).toArray = ls at hl ⊢
  have hl : lv_has ls 3 [(0, .ref (a9 (10 + k)))] := hl
  have hn15 := zkR_cnt hm hk4 hgk
  refine lv_iconst (v := nI 0) hx hb d_St_save_0 (by decide) ?_
  refine lv_istore_n (lv' := [(1, .int (nI 0)), (0, .ref (a9 (10 + k)))]) hx hb d_St_save_1 rfl hl (by decide) rfl (fun ls hl => ?_)
  have loop_2 : ∀ (z : Nat) (i : Nat) (I_2 : Nat → Nat → Int32) (L_2 : Nat → Nat → Int64) (R_2 : Nat → Nat → Option Nat) (H : Heap) (locs : List Loc) (ls : Array Slot), g9 2 k - g9 1 k - i < z → (i ≤ g9 2 k - g9 1 k) → (zkR X te a9 e9 (zk_mp c9 k (g9 1 k) (g9 1 k + i) (zk_svG c9 k)) d9 g9 kd ln I_2 L_2 R_2) → lv_has ls 3 [(0, .ref (a9 (10 + k))), (1, .int (nI i))] → zh_H D cA A kd ln I_2 L_2 R_2 H → va_S A s.heap H locs → W p l e (headSpec w_St_save { frames := 3, cells := 0, slots := 0, locals := 64 }).room s m ([.ref (a9 (10 + k))] : List Value).toArray below meth c H locs 0 0 (MQ below (zc_Qc D cA A (zk_P none X te a9 e9 (zk_sv c9 k (g9 1 k) (g9 2 k)) d9 g9 kd ln)) ([.ref (a9 (10 + k))] : List Value).toArray s 0 0 A) (F0 m 2 ls []) := by
    intro z
    induction z with
    | zero => intro i I_2 L_2 R_2 H locs ls hz; exact absurd hz (Nat.not_lt_zero _)
    | succ z ih_2 =>
      intro i I_2 L_2 R_2 H locs ls hz_2 hi hm hl hH hS
      refine lv_iload_n hx hb d_St_save_2 rfl (lv_at hl 1 rfl) ?_
      refine lv_aload_n hx hb d_St_save_3 rfl (lv_at hl 0 rfl) ?_
      refine zr_getr (ci := 2) (C := R_St) (T := T_St) (N := 10) (ref := "ScrubbedRecorder$Store") hx hb hts (fun w h => List.mem_cons_of_mem _ (zin_St w h)) hown hK hH ((zkR_k hm (zk_lv1 (by omega) hgk)).trans (zk_k1 (by omega))) (by decide) rfl 5 (by decide) rfl (hw zw_129) (fun _ h9 => h9) d_St_save_4 (zkR_st hm (by omega) hgk).2.2.2.1 ?_
      refine zr_V (As := ([] : List Value)) (rest := [.int (nI i)]) (b := a9 (40 + k)) (ci := 5) (q := (R_AL, T_AL, 3)) ⟨hx, hb, hml, hown, hts⟩ (c_ALk_size hm (by omega) hgk) ⟨(callB_of 0 hts (zg_all zw_172) rfl rfl rfl (hw zw_7) (hw zw_169) k_AL_size.2 ⟨Nat.le_of_ble_eq_true rfl, Nat.le_of_ble_eq_true rfl⟩), (hw zw_170), (hw zw_171)⟩ hSc hE hH hS hA rfl (by decide) (zkR_st hm (by omega) hgk).2.2.2.2.1 rfl hl.1 rfl (Nat.le_of_ble_eq_true rfl) d_St_save_7 ⟨Nat.le_of_ble_eq_true rfl, Nat.le_of_ble_eq_true rfl⟩ (fun v1 kd1 ln1 I1 L1 R1 H locs hp hH hS => ?_)
      obtain ⟨rfl, rfl, rfl, rfl, rfl, rfl⟩ := hp
      refine W.eq (g2 := F0 m 10 ls [.int (nI (g9 2 k - g9 1 k)), .int (nI i)]) rfl ?_
      refine W.widen (k := 0) (n := 0) (by omega) (by omega) ?_
      refine lv_icmp_ge (tgt := 39) hx hb d_St_save_10 (by decide) (fun hc2 => ?_) (fun hc2 => ?_)
      · skip
        have hc2 := zt_geT (a := i) (b := (g9 2 k - g9 1 k)) (by omega) (by omega) hc2
        refine W.widen (k := 0) (n := 0) (Nat.le_of_ble_eq_true rfl) (Nat.le_of_ble_eq_true rfl) ?_
        subst hAe
        exact W.vret hx hb hr (fun t ht hW => zc_end hS hH ht (⟨rfl, rfl, rfl, by unfold zk_sv; rw [show g9 1 k + i = g9 2 k by omega] at hm; exact hm⟩)) hS.2.2 d_St_save_39
      · skip
        have hc2 := zt_geF (a := i) (b := (g9 2 k - g9 1 k)) (by omega) (by omega) hc2
        refine lv_aload_n hx hb d_St_save_13 rfl (lv_at hl 0 rfl) ?_
        refine zr_getr (ci := 2) (C := R_St) (T := T_St) (N := 10) (ref := "ScrubbedRecorder$Store") hx hb hts (fun w h => List.mem_cons_of_mem _ (zin_St w h)) hown hK hH ((zkR_k hm (zk_lv1 (by omega) hgk)).trans (zk_k1 (by omega))) (by decide) rfl 5 (by decide) rfl (hw zw_129) (fun _ h9 => h9) d_St_save_14 (zkR_st hm (by omega) hgk).2.2.2.1 ?_
        refine lv_iload_n hx hb d_St_save_17 rfl (lv_at hl 1 rfl) ?_
        refine zr_V (As := ([.int (nI i)] : List Value)) (rest := []) (b := a9 (40 + k)) (ci := 5) (q := (R_AL, T_AL, 3)) ⟨hx, hb, hml, hown, hts⟩ (c_ALk_get (j := i) hm (by omega) hgk (by omega)) ⟨(callB_of 1 hts (zg_all zw_176) rfl rfl rfl (hw zw_7) (hw zw_173) k_AL_get.2 ⟨Nat.le_of_ble_eq_true rfl, Nat.le_of_ble_eq_true rfl⟩), (hw zw_174), (hw zw_175)⟩ hSc hE hH hS hA rfl (by decide) (zkR_st hm (by omega) hgk).2.2.2.2.1 rfl hl.1 rfl (Nat.le_of_ble_eq_true rfl) d_St_save_18 ⟨Nat.le_of_ble_eq_true rfl, Nat.le_of_ble_eq_true rfl⟩ (fun v3 kd3 ln3 I3 L3 R3 H locs hp hH hS => ?_)
        obtain ⟨rfl, rfl, rfl, rfl, rfl, rfl⟩ := hp
        refine W.eq (g2 := F0 m 21 ls [.ref (a9 (zk_p k (g9 1 k + i)))]) rfl ?_
        refine W.widen (k := 0) (n := 0) (by omega) (by omega) ?_
        refine zr_cast (ci := 3) (nm := "ScrubbedRecorder$Packet") hx hb hown (hw zw_187) (hSc.2.1 _ (by decide +kernel)) hK hH rfl (by decide) ((zkR_k hm (zk_lvp (by omega) hgk (by omega) (by omega))).trans zk_kp) d_St_save_21 ?_
        refine lv_astore_n (lv' := [(2, .ref (a9 (zk_p k (g9 1 k + i)))), (0, .ref (a9 (10 + k))), (1, .int (nI i))]) hx hb d_St_save_24 rfl hl (by decide) rfl (fun ls hl => ?_)
        refine lv_aload_n hx hb d_St_save_25 rfl (lv_at hl 0 rfl) ?_
        refine lv_aload_n hx hb d_St_save_26 rfl (lv_at hl 0 rfl) ?_
        refine zr_geti (ci := 3) (C := R_Pk) (T := T_Pk) (N := 8) (ref := "ScrubbedRecorder$Packet") hx hb hts (fun w h => List.mem_cons_of_mem _ (zin_Pk w h)) hown hK hH ((zkR_k hm (zk_lvp (by omega) hgk (by omega) (by omega))).trans zk_kp) (by decide) rfl 5 (by decide) rfl (hw zw_274) (fun _ h9 => h9) d_St_save_27 ?_
        refine zt_i (y := c9 (zk_p k (g9 1 k + i)) 5) ((congrFun (zkR_i hm (zk_lvp (by omega) hgk (by omega) (by omega))) 5).trans (by rw [show (zk_mp c9 k (g9 1 k) (g9 1 k + i) (zk_svG c9 k)) (zk_p k (g9 1 k + i)) 5 = c9 (zk_p k (g9 1 k + i)) 5 from congrFun (zk_mp_ne hk4 (by omega)) 5])) ?_
        refine zr_puti (ref := "ScrubbedRecorder$Packet") (ci := 3) (C := R_Pk) (T := T_Pk) (N := 8) (x := c9 (zk_p k (g9 1 k + i)) 5) (ty := .boolean) hx hb hts (fun w h => List.mem_cons_of_mem _ (zin_Pk w h)) ty_Pk tyok_Pk nm_Pk hown hK hH hS ((zkR_k hm (zk_lvp (by omega) hgk (by omega) (by omega))).trans zk_kp) (by decide) rfl 6 (by decide) rfl (hw zw_276) (fun _ h9 => h9) rfl (by decide +kernel) (zt_bn (hbo _ (by omega) (by omega))) (zt_bfi (hbo _ (by omega) (by omega))) d_St_save_30 (fun H locs hH hS => ?_)
        have hm := zkR_I hm (zk_p k (g9 1 k + i)) 6 (c9 (zk_p k (g9 1 k + i)) 5) (zk_lvp (by omega) hgk (by omega) (by omega)) (fun _ => ⟨by decide, by decide⟩) (fun h9 => absurd (zk_kp.symm.trans h9) (by decide))
        generalize zu I_2 (a9 (zk_p k (g9 1 k + i))) 6 (c9 (zk_p k (g9 1 k + i)) 5) = I4 at hm hH
        refine lv_iinc (k := 2) (v := nI (i + 1)) (lv' := [(1, .int (nI (i + 1))), (2, .ref (a9 (zk_p k (g9 1 k + i)))), (0, .ref (a9 (10 + k)))]) hx hb d_St_save_33 hl rfl (nI_add i 1) (by decide) rfl (fun ls hl => ?_)
        refine lv_goto (tgt := 2) hx hb d_St_save_36 (by decide) ?_
        have hm : zkR X te a9 e9 (zk_mp c9 k (g9 1 k) (g9 1 k + (i + 1)) (zk_svG c9 k)) d9 g9 kd ln I4 L_2 R_2 := by rw [show g9 1 k + (i + 1) = g9 1 k + i + 1 from rfl, ← zk_mp_z (s := 6) (v := c9 (zk_p k (g9 1 k + i)) 5) hk4 (by omega) rfl]; exact hm
        exact ih_2 (i + 1) _ _ _ _ _ _ (by omega) (by omega) hm (lv_sub hl [2, 0] rfl) hH hS
  have hm : zkR X te a9 e9 (zk_mp c9 k (g9 1 k) (g9 1 k + 0) (zk_svG c9 k)) d9 g9 kd ln I L R := by rw [Nat.add_zero, zk_mp_0]; exact hm
  exact loop_2 _ 0 _ _ _ _ _ _ (Nat.lt_succ_self _) (by omega) hm (lv_sub hl [1, 0] rfl) hH hS

set_option maxHeartbeats 4000000 in
set_option maxRecDepth 100000 in
/-- Store.restore -/
theorem c_St_restore {l : Launch} {D : va_G} {cA : Nat → ClassId} {te mi : Nat} {kd ln : Nat → Nat} {I : Nat → Nat → Int32} {L : Nat → Nat → Int64} {R : Nat → Nat → Option Nat} {X : Nat} {a9 e9 : Nat → Nat} {c9 : Nat → Nat → Int32} {d9 : Nat → Nat → Int64} {g9 : Nat → Nat → Nat} (hm : zkR X te a9 e9 c9 d9 g9 kd ln I L R) {k : Nat} (hk4 : k < 4) (hgk : g9 0 k ≠ 0) (hlo : g9 1 k ≤ g9 2 k) (hbo : ∀ x, g9 1 k ≤ x → x < g9 2 k → c9 (zk_p k x) 6 = nI 0 ∨ c9 (zk_p k x) 6 = nI 1) : zc_M l y_St_restore w_St_restore { frames := 3, cells := 0, slots := 0, locals := 64 } 0 0 D cA te mi ([.ref (a9 (10 + k))] : List Value) kd ln I L R (zk_P none X te a9 e9 (zk_rs c9 k (g9 1 k) (g9 2 k - g9 1 k)) (zk_mp d9 k (g9 1 k) (g9 2 k) (zk_aG d9 k)) g9 kd ln) := by
  intro sz
  refine Met.ofW (cc := b_St_restore) (maxL := 3) (ret := none) (by decide +kernel) rfl ?_
  intro p e s m args below meth c s₁ B hml hv
  obtain ⟨rfl, hsz, hSc, hE, hH⟩ := hv
  have hx := B.exec
  have hb := B.bytes
  have hr := B.returns
  have hts := atoms_spec (ws := w_St_restore) B.pre
  have hw : ∀ {w : Cond}, w ∈ zw → w.before ([.ref (a9 (10 + k))] : List Value).toArray s = true := fun h => hts _ (List.mem_cons_of_mem _ h)
  have hown : s.vm.findClass R_St = some m.cls := findClass_of_methodNamed B.named
  have hlocks := B.notSynchronized
  subst hsz
  have hK := hSc.1
  have hH : zh_H D cA (zc_A kd s.heap.size) kd ln I L R s.heap := hH.weaken (fun q h _ => Or.inl h)
  generalize hAe : zc_A kd s.heap.size = A at hH hE ⊢
  have hA : ∀ q : Nat, s.heap.size ≤ q → A q := fun q h => by rw [← hAe]; exact Or.inr h
  have hS : va_S A s.heap s.heap [] := va_S.rf
  have hl := lv_entry ([.ref (a9 (10 + k))] : List Value) (n := 3) (Nat.le_of_ble_eq_true rfl)
  rw [lg_entry_eq]
  generalize (lg_sl ([.ref (a9 (10 + k))] : List Value) ++ List.replicate (3 - (lg_sl ([.ref (a9 (10 + k))] : List Value)).length) Slot.unset).toArray = ls at hl ⊢
  have hl : lv_has ls 3 [(0, .ref (a9 (10 + k)))] := hl
  have hn15 := zkR_cnt hm hk4 hgk
  refine lv_aload_n hx hb d_St_restore_0 rfl (lv_at hl 0 rfl) ?_
  refine lv_iconst (v := nI 0) hx hb d_St_restore_1 (by decide) ?_
  refine zr_puti (ref := "ScrubbedRecorder$Store") (ci := 2) (C := R_St) (T := T_St) (N := 10) (x := nI 0) (ty := .int) hx hb hts (fun w h => List.mem_cons_of_mem _ (zin_St w h)) ty_St tyok_St nm_St hown hK hH hS ((zkR_k hm (zk_lv1 (by omega) hgk)).trans (zk_k1 (by omega))) (by decide) rfl 9 (by decide) rfl (hw zw_138) (fun _ h9 => h9) rfl (by decide +kernel) rfl rfl d_St_restore_2 (fun H locs hH hS => ?_)
  have hm := zkR_I hm (10 + k) 9 (nI 0) (zk_lv1 (by omega) hgk) (fun h9 => absurd ((zk_k1 (by omega)).symm.trans h9) (by decide)) (fun h9 => absurd ((zk_k1 (by omega)).symm.trans h9) (by decide))
  generalize zu I (a9 (10 + k)) 9 (nI 0) = I1 at hm hH
  refine lv_iconst (v := nI 0) hx hb d_St_restore_5 (by decide) ?_
  refine lv_istore_n (lv' := [(1, .int (nI 0)), (0, .ref (a9 (10 + k)))]) hx hb d_St_restore_6 rfl hl (by decide) rfl (fun ls hl => ?_)
  have loop_7 : ∀ (z : Nat) (i : Nat) (I_7 : Nat → Nat → Int32) (L_7 : Nat → Nat → Int64) (R_7 : Nat → Nat → Option Nat) (H : Heap) (locs : List Loc) (ls : Array Slot), g9 2 k - g9 1 k - i < z → (i ≤ g9 2 k - g9 1 k) → (zkR X te a9 e9 (zu (zk_mp c9 k (g9 1 k) (g9 1 k + i) (zk_rsG c9 k)) (10 + k) 9 (zk_ck c9 k (g9 1 k) i)) (zk_mp d9 k (g9 1 k) (g9 1 k + i) (zk_aG d9 k)) g9 kd ln I_7 L_7 R_7) → lv_has ls 3 [(0, .ref (a9 (10 + k))), (1, .int (nI i))] → zh_H D cA A kd ln I_7 L_7 R_7 H → va_S A s.heap H locs → W p l e (headSpec w_St_restore { frames := 3, cells := 0, slots := 0, locals := 64 }).room s m ([.ref (a9 (10 + k))] : List Value).toArray below meth c H locs 0 0 (MQ below (zc_Qc D cA A (zk_P none X te a9 e9 (zk_rs c9 k (g9 1 k) (g9 2 k - g9 1 k)) (zk_mp d9 k (g9 1 k) (g9 2 k) (zk_aG d9 k)) g9 kd ln)) ([.ref (a9 (10 + k))] : List Value).toArray s 0 0 A) (F0 m 7 ls []) := by
    intro z
    induction z with
    | zero => intro i I_7 L_7 R_7 H locs ls hz; exact absurd hz (Nat.not_lt_zero _)
    | succ z ih_7 =>
      intro i I_7 L_7 R_7 H locs ls hz_7 hi hm hl hH hS
      refine lv_iload_n hx hb d_St_restore_7 rfl (lv_at hl 1 rfl) ?_
      refine lv_aload_n hx hb d_St_restore_8 rfl (lv_at hl 0 rfl) ?_
      refine zr_getr (ci := 2) (C := R_St) (T := T_St) (N := 10) (ref := "ScrubbedRecorder$Store") hx hb hts (fun w h => List.mem_cons_of_mem _ (zin_St w h)) hown hK hH ((zkR_k hm (zk_lv1 (by omega) hgk)).trans (zk_k1 (by omega))) (by decide) rfl 5 (by decide) rfl (hw zw_129) (fun _ h9 => h9) d_St_restore_9 (zkR_st hm (by omega) hgk).2.2.2.1 ?_
      refine zr_V (As := ([] : List Value)) (rest := [.int (nI i)]) (b := a9 (40 + k)) (ci := 5) (q := (R_AL, T_AL, 3)) ⟨hx, hb, hml, hown, hts⟩ (c_ALk_size hm (by omega) hgk) ⟨(callB_of 0 hts (zg_all zw_172) rfl rfl rfl (hw zw_7) (hw zw_169) k_AL_size.2 ⟨Nat.le_of_ble_eq_true rfl, Nat.le_of_ble_eq_true rfl⟩), (hw zw_170), (hw zw_171)⟩ hSc hE hH hS hA rfl (by decide) (zkR_st hm (by omega) hgk).2.2.2.2.1 rfl hl.1 rfl (Nat.le_of_ble_eq_true rfl) d_St_restore_12 ⟨Nat.le_of_ble_eq_true rfl, Nat.le_of_ble_eq_true rfl⟩ (fun v2 kd2 ln2 I2 L2 R2 H locs hp hH hS => ?_)
      obtain ⟨rfl, rfl, rfl, rfl, rfl, rfl⟩ := hp
      refine W.eq (g2 := F0 m 15 ls [.int (nI (g9 2 k - g9 1 k)), .int (nI i)]) rfl ?_
      refine W.widen (k := 0) (n := 0) (by omega) (by omega) ?_
      refine lv_icmp_ge (tgt := 57) hx hb d_St_restore_15 (by decide) (fun hc3 => ?_) (fun hc3 => ?_)
      · skip
        have hc3 := zt_geT (a := i) (b := (g9 2 k - g9 1 k)) (by omega) (by omega) hc3
        have hi2 : i = g9 2 k - g9 1 k := by omega
        have hi3 : g9 1 k + (g9 2 k - g9 1 k) = g9 2 k := by omega
        rw [hi2] at hm
        refine W.widen (k := 0) (n := 0) (Nat.le_of_ble_eq_true rfl) (Nat.le_of_ble_eq_true rfl) ?_
        subst hAe
        exact W.vret hx hb hr (fun t ht hW => zc_end hS hH ht (⟨rfl, rfl, rfl, by unfold zk_rs; rw [hi3] at hm ⊢; exact hm⟩)) hS.2.2 d_St_restore_57
      · skip
        have hc3 := zt_geF (a := i) (b := (g9 2 k - g9 1 k)) (by omega) (by omega) hc3
        refine lv_aload_n hx hb d_St_restore_18 rfl (lv_at hl 0 rfl) ?_
        refine zr_getr (ci := 2) (C := R_St) (T := T_St) (N := 10) (ref := "ScrubbedRecorder$Store") hx hb hts (fun w h => List.mem_cons_of_mem _ (zin_St w h)) hown hK hH ((zkR_k hm (zk_lv1 (by omega) hgk)).trans (zk_k1 (by omega))) (by decide) rfl 5 (by decide) rfl (hw zw_129) (fun _ h9 => h9) d_St_restore_19 (zkR_st hm (by omega) hgk).2.2.2.1 ?_
        refine lv_iload_n hx hb d_St_restore_22 rfl (lv_at hl 1 rfl) ?_
        refine zr_V (As := ([.int (nI i)] : List Value)) (rest := []) (b := a9 (40 + k)) (ci := 5) (q := (R_AL, T_AL, 3)) ⟨hx, hb, hml, hown, hts⟩ (c_ALk_get (j := i) hm (by omega) hgk (by omega)) ⟨(callB_of 1 hts (zg_all zw_176) rfl rfl rfl (hw zw_7) (hw zw_173) k_AL_get.2 ⟨Nat.le_of_ble_eq_true rfl, Nat.le_of_ble_eq_true rfl⟩), (hw zw_174), (hw zw_175)⟩ hSc hE hH hS hA rfl (by decide) (zkR_st hm (by omega) hgk).2.2.2.2.1 rfl hl.1 rfl (Nat.le_of_ble_eq_true rfl) d_St_restore_23 ⟨Nat.le_of_ble_eq_true rfl, Nat.le_of_ble_eq_true rfl⟩ (fun v4 kd4 ln4 I4 L4 R4 H locs hp hH hS => ?_)
        obtain ⟨rfl, rfl, rfl, rfl, rfl, rfl⟩ := hp
        refine W.eq (g2 := F0 m 26 ls [.ref (a9 (zk_p k (g9 1 k + i)))]) rfl ?_
        refine W.widen (k := 0) (n := 0) (by omega) (by omega) ?_
        refine zr_cast (ci := 3) (nm := "ScrubbedRecorder$Packet") hx hb hown (hw zw_187) (hSc.2.1 _ (by decide +kernel)) hK hH rfl (by decide) ((zkR_k hm (zk_lvp (by omega) hgk (by omega) (by omega))).trans zk_kp) d_St_restore_26 ?_
        refine lv_astore_n (lv' := [(2, .ref (a9 (zk_p k (g9 1 k + i)))), (0, .ref (a9 (10 + k))), (1, .int (nI i))]) hx hb d_St_restore_29 rfl hl (by decide) rfl (fun ls hl => ?_)
        refine lv_aload_n hx hb d_St_restore_30 rfl (lv_at hl 0 rfl) ?_
        refine lv_aload_n hx hb d_St_restore_31 rfl (lv_at hl 0 rfl) ?_
        refine zr_geti (ci := 3) (C := R_Pk) (T := T_Pk) (N := 8) (ref := "ScrubbedRecorder$Packet") hx hb hts (fun w h => List.mem_cons_of_mem _ (zin_Pk w h)) hown hK hH ((zkR_k hm (zk_lvp (by omega) hgk (by omega) (by omega))).trans zk_kp) (by decide) rfl 6 (by decide) rfl (hw zw_276) (fun _ h9 => h9) d_St_restore_32 ?_
        refine zt_i (y := c9 (zk_p k (g9 1 k + i)) 6) ((congrFun (zkR_i hm (zk_lvp (by omega) hgk (by omega) (by omega))) 6).trans (by rw [zu_ne _ _ _ (show (zk_p k (g9 1 k + i) : Nat) ≠ 10 + k by unfold zk_p; omega), show (zk_mp c9 k (g9 1 k) (g9 1 k + i) (zk_rsG c9 k)) (zk_p k (g9 1 k + i)) 6 = c9 (zk_p k (g9 1 k + i)) 6 from congrFun (zk_mp_ne hk4 (by omega)) 6])) ?_
        refine zr_puti (ref := "ScrubbedRecorder$Packet") (ci := 3) (C := R_Pk) (T := T_Pk) (N := 8) (x := c9 (zk_p k (g9 1 k + i)) 6) (ty := .boolean) hx hb hts (fun w h => List.mem_cons_of_mem _ (zin_Pk w h)) ty_Pk tyok_Pk nm_Pk hown hK hH hS ((zkR_k hm (zk_lvp (by omega) hgk (by omega) (by omega))).trans zk_kp) (by decide) rfl 5 (by decide) rfl (hw zw_274) (fun _ h9 => h9) rfl (by decide +kernel) (zt_bn (hbo _ (by omega) (by omega))) (zt_bfi (hbo _ (by omega) (by omega))) d_St_restore_35 (fun H locs hH hS => ?_)
        have hm := zkR_I hm (zk_p k (g9 1 k + i)) 5 (c9 (zk_p k (g9 1 k + i)) 6) (zk_lvp (by omega) hgk (by omega) (by omega)) (fun _ => ⟨by decide, by decide⟩) (fun h9 => absurd (zk_kp.symm.trans h9) (by decide))
        generalize zu I_7 (a9 (zk_p k (g9 1 k + i))) 5 (c9 (zk_p k (g9 1 k + i)) 6) = I5 at hm hH
        refine lv_aload_n hx hb d_St_restore_38 rfl (lv_at hl 0 rfl) ?_
        refine lv_lconst (v := 0) hx hb d_St_restore_39 (by decide) ?_
        refine zr_putl (ref := "ScrubbedRecorder$Packet") (ci := 3) (C := R_Pk) (T := T_Pk) (N := 8) (x := 0) (ty := .long) hx hb hts (fun w h => List.mem_cons_of_mem _ (zin_Pk w h)) ty_Pk tyok_Pk nm_Pk hown hK hH hS ((zkR_k hm (zk_lvp (by omega) hgk (by omega) (by omega))).trans zk_kp) (by decide) rfl 7 (by decide) rfl (hw zw_279) (fun _ h9 => h9) rfl (by decide +kernel) rfl rfl d_St_restore_40 (fun H locs hH hS => ?_)
        have hm := zkR_L hm (zk_p k (g9 1 k + i)) 7 0 (zk_lvp (by omega) hgk (by omega) (by omega))
        generalize zu L_7 (a9 (zk_p k (g9 1 k + i))) 7 0 = L6 at hm hH
        refine lv_aload_n hx hb d_St_restore_43 rfl (lv_at hl 1 rfl) ?_
        refine lv_aload_n hx hb d_St_restore_44 rfl (lv_at hl 0 rfl) ?_
        refine zr_geti (ci := 3) (C := R_Pk) (T := T_Pk) (N := 8) (ref := "ScrubbedRecorder$Packet") hx hb hts (fun w h => List.mem_cons_of_mem _ (zin_Pk w h)) hown hK hH ((zkR_k hm (zk_lvp (by omega) hgk (by omega) (by omega))).trans zk_kp) (by decide) rfl 3 (by decide) rfl (hw zw_270) (fun _ h9 => h9) d_St_restore_45 ?_
        refine zt_i (y := c9 (zk_p k (g9 1 k + i)) 3) ((congrFun (zkR_i hm (zk_lvp (by omega) hgk (by omega) (by omega))) 3).trans (by rw [zu_k _ _ _ _ (show (3 : Nat) ≠ 5 by decide), zu_ne _ _ _ (show (zk_p k (g9 1 k + i) : Nat) ≠ 10 + k by unfold zk_p; omega), show (zk_mp c9 k (g9 1 k) (g9 1 k + i) (zk_rsG c9 k)) (zk_p k (g9 1 k + i)) 3 = c9 (zk_p k (g9 1 k + i)) 3 from congrFun (zk_mp_ne hk4 (by omega)) 3])) ?_
        refine zr_puti (ref := "ScrubbedRecorder$Store") (ci := 2) (C := R_St) (T := T_St) (N := 10) (x := c9 (zk_p k (g9 1 k + i)) 3) (ty := .int) hx hb hts (fun w h => List.mem_cons_of_mem _ (zin_St w h)) ty_St tyok_St nm_St hown hK hH hS ((zkR_k hm (zk_lv1 (by omega) hgk)).trans (zk_k1 (by omega))) (by decide) rfl 9 (by decide) rfl (hw zw_138) (fun _ h9 => h9) rfl (by decide +kernel) rfl rfl d_St_restore_48 (fun H locs hH hS => ?_)
        have hm := zkR_I hm (10 + k) 9 (c9 (zk_p k (g9 1 k + i)) 3) (zk_lv1 (by omega) hgk) (fun h9 => absurd ((zk_k1 (by omega)).symm.trans h9) (by decide)) (fun h9 => absurd ((zk_k1 (by omega)).symm.trans h9) (by decide))
        generalize zu I5 (a9 (10 + k)) 9 (c9 (zk_p k (g9 1 k + i)) 3) = I7 at hm hH
        refine lv_iinc (k := 2) (v := nI (i + 1)) (lv' := [(1, .int (nI (i + 1))), (2, .ref (a9 (zk_p k (g9 1 k + i)))), (0, .ref (a9 (10 + k)))]) hx hb d_St_restore_51 hl rfl (nI_add i 1) (by decide) rfl (fun ls hl => ?_)
        refine lv_goto (tgt := 7) hx hb d_St_restore_54 (by decide) ?_
        have hm : zkR X te a9 e9 (zu (zk_mp c9 k (g9 1 k) (g9 1 k + (i + 1)) (zk_rsG c9 k)) (10 + k) 9 (zk_ck c9 k (g9 1 k) (i + 1))) (zk_mp d9 k (g9 1 k) (g9 1 k + (i + 1)) (zk_aG d9 k)) g9 kd ln I7 L6 R_7 := by rw [show zk_ck c9 k (g9 1 k) (i + 1) = c9 (zk_p k (g9 1 k + i)) 3 by unfold zk_ck; rw [if_neg (by omega)]; congr 2, show g9 1 k + (i + 1) = g9 1 k + i + 1 from rfl, ← zk_mp_z (s := 5) (v := c9 (zk_p k (g9 1 k + i)) 6) hk4 (by omega) rfl, ← zk_mp_z (c := d9) (a := g9 1 k) (b := g9 1 k + i) (G := zk_aG d9 k) (s := 7) (v := 0) hk4 (by omega) rfl, ← zu_zu _ (10 + k) 9 (zk_ck c9 k (g9 1 k) i), zu_cm _ _ _ _ _ (show zk_p k (g9 1 k + i) ≠ 10 + k by unfold zk_p; omega)]; exact hm
        exact ih_7 (i + 1) _ _ _ _ _ _ (by omega) (by omega) hm (lv_sub hl [2, 0] rfl) hH hS
  have hm : zkR X te a9 e9 (zu (zk_mp c9 k (g9 1 k) (g9 1 k + 0) (zk_rsG c9 k)) (10 + k) 9 (zk_ck c9 k (g9 1 k) 0)) (zk_mp d9 k (g9 1 k) (g9 1 k + 0) (zk_aG d9 k)) g9 kd ln I1 L R := by rw [Nat.add_zero, zk_mp_0, zk_mp_0]; exact hm
  exact loop_7 _ 0 _ _ _ _ _ _ (Nat.lt_succ_self _) (by omega) hm (lv_sub hl [1, 0] rfl) hH hS

set_option maxHeartbeats 4000000 in
set_option maxRecDepth 100000 in
/-- Store.confirmPackets -/
theorem c_St_confirmPackets {l : Launch} {D : va_G} {cA : Nat → ClassId} {te mi : Nat} {kd ln : Nat → Nat} {I : Nat → Nat → Int32} {L : Nat → Nat → Int64} {R : Nat → Nat → Option Nat} {X : Nat} {a9 e9 : Nat → Nat} {c9 : Nat → Nat → Int32} {d9 : Nat → Nat → Int64} {g9 : Nat → Nat → Nat} (hm : zkR X te a9 e9 c9 d9 g9 kd ln I L R) {k : Nat} (hk4 : k < 4) (hgk : g9 0 k ≠ 0) {u v : Int32} (hlo : g9 1 k ≤ g9 2 k) : zc_M l y_St_confirmPackets w_St_confirmPackets { frames := 3, cells := 0, slots := 0, locals := 64 } 0 0 D cA te mi ([.ref (a9 (10 + k)), .int u, .int v] : List Value) kd ln I L R (zk_P (some (.int (nI (zk_cfn c9 k (g9 1 k) u v (g9 2 k - g9 1 k))))) X te a9 e9 (zk_mp c9 k (g9 1 k) (g9 2 k) (zk_cfG c9 k u v)) (zk_mp d9 k (g9 1 k) (g9 2 k) (zk_cfA c9 d9 k u v)) g9 kd ln) := by
  intro sz
  refine Met.ofW (cc := b_St_confirmPackets) (maxL := 6) (ret := (some (.int))) (by decide +kernel) rfl ?_
  intro p e s m args below meth c s₁ B hml hv
  obtain ⟨rfl, hsz, hSc, hE, hH⟩ := hv
  have hx := B.exec
  have hb := B.bytes
  have hr := B.returns
  have hts := atoms_spec (ws := w_St_confirmPackets) B.pre
  have hw : ∀ {w : Cond}, w ∈ zw → w.before ([.ref (a9 (10 + k)), .int u, .int v] : List Value).toArray s = true := fun h => hts _ (List.mem_cons_of_mem _ h)
  have hown : s.vm.findClass R_St = some m.cls := findClass_of_methodNamed B.named
  have hlocks := B.notSynchronized
  subst hsz
  have hK := hSc.1
  have hH : zh_H D cA (zc_A kd s.heap.size) kd ln I L R s.heap := hH.weaken (fun q h _ => Or.inl h)
  generalize hAe : zc_A kd s.heap.size = A at hH hE ⊢
  have hA : ∀ q : Nat, s.heap.size ≤ q → A q := fun q h => by rw [← hAe]; exact Or.inr h
  have hS : va_S A s.heap s.heap [] := va_S.rf
  have hl := lv_entry ([.ref (a9 (10 + k)), .int u, .int v] : List Value) (n := 6) (Nat.le_of_ble_eq_true rfl)
  rw [lg_entry_eq]
  generalize (lg_sl ([.ref (a9 (10 + k)), .int u, .int v] : List Value) ++ List.replicate (6 - (lg_sl ([.ref (a9 (10 + k)), .int u, .int v] : List Value)).length) Slot.unset).toArray = ls at hl ⊢
  have hl : lv_has ls 6 [(0, .ref (a9 (10 + k))), (1, .int u), (2, .int v)] := hl
  have hn15 := zkR_cnt hm hk4 hgk
  refine lv_iconst (v := nI 0) hx hb d_St_confirmPackets_0 (by decide) ?_
  refine lv_istore_n (lv' := [(3, .int (nI 0)), (0, .ref (a9 (10 + k))), (1, .int u), (2, .int v)]) hx hb d_St_confirmPackets_1 rfl hl (by decide) rfl (fun ls hl => ?_)
  refine lv_iconst (v := nI 0) hx hb d_St_confirmPackets_2 (by decide) ?_
  refine lv_istore (lv' := [(4, .int (nI 0)), (3, .int (nI 0)), (0, .ref (a9 (10 + k))), (1, .int u), (2, .int v)]) hx hb d_St_confirmPackets_3 hl (by decide) rfl (fun ls hl => ?_)
  have loop_5 : ∀ (z : Nat) (i : Nat) (I_5 : Nat → Nat → Int32) (L_5 : Nat → Nat → Int64) (R_5 : Nat → Nat → Option Nat) (H : Heap) (locs : List Loc) (ls : Array Slot), g9 2 k - g9 1 k - i < z → (i ≤ g9 2 k - g9 1 k) → (zkR X te a9 e9 (zk_mp c9 k (g9 1 k) (g9 1 k + i) (zk_cfG c9 k u v)) (zk_mp d9 k (g9 1 k) (g9 1 k + i) (zk_cfA c9 d9 k u v)) g9 kd ln I_5 L_5 R_5) → lv_has ls 6 [(0, .ref (a9 (10 + k))), (1, .int u), (2, .int v), (3, .int (nI (zk_cfn c9 k (g9 1 k) u v i))), (4, .int (nI i))] → zh_H D cA A kd ln I_5 L_5 R_5 H → va_S A s.heap H locs → W p l e (headSpec w_St_confirmPackets { frames := 3, cells := 0, slots := 0, locals := 64 }).room s m ([.ref (a9 (10 + k)), .int u, .int v] : List Value).toArray below meth c H locs 0 0 (MQ below (zc_Qc D cA A (zk_P (some (.int (nI (zk_cfn c9 k (g9 1 k) u v (g9 2 k - g9 1 k))))) X te a9 e9 (zk_mp c9 k (g9 1 k) (g9 2 k) (zk_cfG c9 k u v)) (zk_mp d9 k (g9 1 k) (g9 2 k) (zk_cfA c9 d9 k u v)) g9 kd ln)) ([.ref (a9 (10 + k)), .int u, .int v] : List Value).toArray s 0 0 A) (F0 m 5 ls []) := by
    intro z
    induction z with
    | zero => intro i I_5 L_5 R_5 H locs ls hz; exact absurd hz (Nat.not_lt_zero _)
    | succ z ih_5 =>
      intro i I_5 L_5 R_5 H locs ls hz_5 hi hm hl hH hS
      have hcf := zk_cfn_le c9 k (g9 1 k) u v i
      refine lv_iload hx hb d_St_confirmPackets_5 (lv_at hl 4 rfl) ?_
      refine lv_aload_n hx hb d_St_confirmPackets_7 rfl (lv_at hl 0 rfl) ?_
      refine zr_getr (ci := 2) (C := R_St) (T := T_St) (N := 10) (ref := "ScrubbedRecorder$Store") hx hb hts (fun w h => List.mem_cons_of_mem _ (zin_St w h)) hown hK hH ((zkR_k hm (zk_lv1 (by omega) hgk)).trans (zk_k1 (by omega))) (by decide) rfl 5 (by decide) rfl (hw zw_129) (fun _ h9 => h9) d_St_confirmPackets_8 (zkR_st hm (by omega) hgk).2.2.2.1 ?_
      refine zr_V (As := ([] : List Value)) (rest := [.int (nI i)]) (b := a9 (40 + k)) (ci := 5) (q := (R_AL, T_AL, 3)) ⟨hx, hb, hml, hown, hts⟩ (c_ALk_size hm (by omega) hgk) ⟨(callB_of 0 hts (zg_all zw_172) rfl rfl rfl (hw zw_7) (hw zw_169) k_AL_size.2 ⟨Nat.le_of_ble_eq_true rfl, Nat.le_of_ble_eq_true rfl⟩), (hw zw_170), (hw zw_171)⟩ hSc hE hH hS hA rfl (by decide) (zkR_st hm (by omega) hgk).2.2.2.2.1 rfl hl.1 rfl (Nat.le_of_ble_eq_true rfl) d_St_confirmPackets_11 ⟨Nat.le_of_ble_eq_true rfl, Nat.le_of_ble_eq_true rfl⟩ (fun v1 kd1 ln1 I1 L1 R1 H locs hp hH hS => ?_)
      obtain ⟨rfl, rfl, rfl, rfl, rfl, rfl⟩ := hp
      refine W.eq (g2 := F0 m 14 ls [.int (nI (g9 2 k - g9 1 k)), .int (nI i)]) rfl ?_
      refine W.widen (k := 0) (n := 0) (by omega) (by omega) ?_
      refine lv_icmp_ge (tgt := 78) hx hb d_St_confirmPackets_14 (by decide) (fun hc2 => ?_) (fun hc2 => ?_)
      · skip
        have hc2 := zt_geT (a := i) (b := (g9 2 k - g9 1 k)) (by omega) (by omega) hc2
        refine lv_iload_n hx hb d_St_confirmPackets_78 rfl (lv_at hl 3 rfl) ?_
        have hi2 : i = g9 2 k - g9 1 k := by omega
        have hi3 : g9 1 k + (g9 2 k - g9 1 k) = g9 2 k := by omega
        rw [hi2, hi3] at hm
        refine W.widen (k := 0) (n := 0) (Nat.le_of_ble_eq_true rfl) (Nat.le_of_ble_eq_true rfl) ?_
        subst hAe
        exact W.iret (v := nI (zk_cfn c9 k (g9 1 k) u v i)) hx hb hr (fun t ht hW => zc_end hS hH ht (⟨by rw [hi2], rfl, rfl, hm⟩)) hS.2.2 d_St_confirmPackets_79
      · skip
        have hc2 := zt_geF (a := i) (b := (g9 2 k - g9 1 k)) (by omega) (by omega) hc2
        refine lv_aload_n hx hb d_St_confirmPackets_17 rfl (lv_at hl 0 rfl) ?_
        refine zr_getr (ci := 2) (C := R_St) (T := T_St) (N := 10) (ref := "ScrubbedRecorder$Store") hx hb hts (fun w h => List.mem_cons_of_mem _ (zin_St w h)) hown hK hH ((zkR_k hm (zk_lv1 (by omega) hgk)).trans (zk_k1 (by omega))) (by decide) rfl 5 (by decide) rfl (hw zw_129) (fun _ h9 => h9) d_St_confirmPackets_18 (zkR_st hm (by omega) hgk).2.2.2.1 ?_
        refine lv_iload hx hb d_St_confirmPackets_21 (lv_at hl 4 rfl) ?_
        refine zr_V (As := ([.int (nI i)] : List Value)) (rest := []) (b := a9 (40 + k)) (ci := 5) (q := (R_AL, T_AL, 3)) ⟨hx, hb, hml, hown, hts⟩ (c_ALk_get (j := i) hm (by omega) hgk (by omega)) ⟨(callB_of 1 hts (zg_all zw_176) rfl rfl rfl (hw zw_7) (hw zw_173) k_AL_get.2 ⟨Nat.le_of_ble_eq_true rfl, Nat.le_of_ble_eq_true rfl⟩), (hw zw_174), (hw zw_175)⟩ hSc hE hH hS hA rfl (by decide) (zkR_st hm (by omega) hgk).2.2.2.2.1 rfl hl.1 rfl (Nat.le_of_ble_eq_true rfl) d_St_confirmPackets_23 ⟨Nat.le_of_ble_eq_true rfl, Nat.le_of_ble_eq_true rfl⟩ (fun v3 kd3 ln3 I3 L3 R3 H locs hp hH hS => ?_)
        obtain ⟨rfl, rfl, rfl, rfl, rfl, rfl⟩ := hp
        refine W.eq (g2 := F0 m 26 ls [.ref (a9 (zk_p k (g9 1 k + i)))]) rfl ?_
        refine W.widen (k := 0) (n := 0) (by omega) (by omega) ?_
        refine zr_cast (ci := 3) (nm := "ScrubbedRecorder$Packet") hx hb hown (hw zw_187) (hSc.2.1 _ (by decide +kernel)) hK hH rfl (by decide) ((zkR_k hm (zk_lvp (by omega) hgk (by omega) (by omega))).trans zk_kp) d_St_confirmPackets_26 ?_
        refine lv_astore (lv' := [(5, .ref (a9 (zk_p k (g9 1 k + i)))), (0, .ref (a9 (10 + k))), (1, .int u), (2, .int v), (3, .int (nI (zk_cfn c9 k (g9 1 k) u v i))), (4, .int (nI i))]) hx hb d_St_confirmPackets_29 hl (by decide) rfl (fun ls hl => ?_)
        refine lv_aload hx hb d_St_confirmPackets_31 (lv_at hl 0 rfl) ?_
        refine zr_geti (ci := 3) (C := R_Pk) (T := T_Pk) (N := 8) (ref := "ScrubbedRecorder$Packet") hx hb hts (fun w h => List.mem_cons_of_mem _ (zin_Pk w h)) hown hK hH ((zkR_k hm (zk_lvp (by omega) hgk (by omega) (by omega))).trans zk_kp) (by decide) rfl 2 (by decide) rfl (hw zw_266) (fun _ h9 => h9) d_St_confirmPackets_33 ?_
        refine zt_i (y := c9 (zk_p k (g9 1 k + i)) 2) ((congrFun (zkR_i hm (zk_lvp (by omega) hgk (by omega) (by omega))) 2).trans (by rw [show (zk_mp c9 k (g9 1 k) (g9 1 k + i) (zk_cfG c9 k u v)) (zk_p k (g9 1 k + i)) 2 = c9 (zk_p k (g9 1 k + i)) 2 from congrFun (zk_mp_ne hk4 (by omega)) 2])) ?_
        refine lv_iload_n hx hb d_St_confirmPackets_36 rfl (lv_at hl 2 rfl) ?_
        refine lv_icmp_lt (tgt := 72) hx hb d_St_confirmPackets_37 (by decide) (fun hc4 => ?_) (fun hc4 => ?_)
        · skip
          have hc4 : (c9 (zk_p k (g9 1 k + i)) 2) < u := hc4
          refine lv_iinc (k := 5) (v := nI (i + 1)) (lv' := [(4, .int (nI (i + 1))), (5, .ref (a9 (zk_p k (g9 1 k + i)))), (0, .ref (a9 (10 + k))), (1, .int u), (2, .int v), (3, .int (nI (zk_cfn c9 k (g9 1 k) u v i)))]) hx hb d_St_confirmPackets_72 hl rfl (nI_add i 1) (by decide) rfl (fun ls hl => ?_)
          refine lv_goto (tgt := 5) hx hb d_St_confirmPackets_75 (by decide) ?_
          have hcd : zk_cfd c9 k u v (g9 1 k + i) = nI 0 := by rw [zk_cfd, if_pos hc4]
          have ez5 : zk_cfn c9 k (g9 1 k) u v (i + 1) = zk_cfn c9 k (g9 1 k) u v i := by rw [zk_cfn, hcd, if_pos rfl]; rfl
          have hl : lv_has ls 6 [(4, .int (nI (i + 1))), (5, .ref (a9 (zk_p k (g9 1 k + i)))), (0, .ref (a9 (10 + k))), (1, .int u), (2, .int v), (3, .int (nI (zk_cfn c9 k (g9 1 k) u v (i + 1))))] := by rw [ez5]; exact hl
          have hm : zkR X te a9 e9 (zk_mp c9 k (g9 1 k) (g9 1 k + (i + 1)) (zk_cfG c9 k u v)) (zk_mp d9 k (g9 1 k) (g9 1 k + (i + 1)) (zk_cfA c9 d9 k u v)) g9 kd ln I_5 L_5 R_5 := by rw [show g9 1 k + (i + 1) = g9 1 k + i + 1 from rfl, ← zk_mp_k (c := c9) (a := g9 1 k) (b := g9 1 k + i) (G := zk_cfG c9 k u v) hk4 (by omega) (by rw [zk_cfG, hcd, if_pos rfl]), ← zk_mp_k (c := d9) (a := g9 1 k) (b := g9 1 k + i) (G := zk_cfA c9 d9 k u v) hk4 (by omega) (by rw [zk_cfA, hcd, if_pos rfl])]; exact hm
          exact ih_5 (i + 1) _ _ _ _ _ _ (by omega) (by omega) hm (lv_sub hl [2, 3, 4, 5, 0] rfl) hH hS
        · skip
          have hc4 : ¬ (c9 (zk_p k (g9 1 k + i)) 2) < u := hc4
          refine lv_aload hx hb d_St_confirmPackets_40 (lv_at hl 0 rfl) ?_
          refine zr_geti (ci := 3) (C := R_Pk) (T := T_Pk) (N := 8) (ref := "ScrubbedRecorder$Packet") hx hb hts (fun w h => List.mem_cons_of_mem _ (zin_Pk w h)) hown hK hH ((zkR_k hm (zk_lvp (by omega) hgk (by omega) (by omega))).trans zk_kp) (by decide) rfl 2 (by decide) rfl (hw zw_266) (fun _ h9 => h9) d_St_confirmPackets_42 ?_
          refine zt_i (y := c9 (zk_p k (g9 1 k + i)) 2) ((congrFun (zkR_i hm (zk_lvp (by omega) hgk (by omega) (by omega))) 2).trans (by rw [show (zk_mp c9 k (g9 1 k) (g9 1 k + i) (zk_cfG c9 k u v)) (zk_p k (g9 1 k + i)) 2 = c9 (zk_p k (g9 1 k + i)) 2 from congrFun (zk_mp_ne hk4 (by omega)) 2])) ?_
          refine lv_iload_n hx hb d_St_confirmPackets_45 rfl (lv_at hl 3 rfl) ?_
          refine lv_icmp_gt (tgt := 72) hx hb d_St_confirmPackets_46 (by decide) (fun hc6 => ?_) (fun hc6 => ?_)
          · skip
            have hc6 : v < (c9 (zk_p k (g9 1 k + i)) 2) := hc6
            refine lv_iinc (k := 5) (v := nI (i + 1)) (lv' := [(4, .int (nI (i + 1))), (5, .ref (a9 (zk_p k (g9 1 k + i)))), (0, .ref (a9 (10 + k))), (1, .int u), (2, .int v), (3, .int (nI (zk_cfn c9 k (g9 1 k) u v i)))]) hx hb d_St_confirmPackets_72 hl rfl (nI_add i 1) (by decide) rfl (fun ls hl => ?_)
            refine lv_goto (tgt := 5) hx hb d_St_confirmPackets_75 (by decide) ?_
            have hcd : zk_cfd c9 k u v (g9 1 k + i) = nI 0 := by rw [zk_cfd, if_neg hc4, if_pos hc6]
            have ez7 : zk_cfn c9 k (g9 1 k) u v (i + 1) = zk_cfn c9 k (g9 1 k) u v i := by rw [zk_cfn, hcd, if_pos rfl]; rfl
            have hl : lv_has ls 6 [(4, .int (nI (i + 1))), (5, .ref (a9 (zk_p k (g9 1 k + i)))), (0, .ref (a9 (10 + k))), (1, .int u), (2, .int v), (3, .int (nI (zk_cfn c9 k (g9 1 k) u v (i + 1))))] := by rw [ez7]; exact hl
            have hm : zkR X te a9 e9 (zk_mp c9 k (g9 1 k) (g9 1 k + (i + 1)) (zk_cfG c9 k u v)) (zk_mp d9 k (g9 1 k) (g9 1 k + (i + 1)) (zk_cfA c9 d9 k u v)) g9 kd ln I_5 L_5 R_5 := by rw [show g9 1 k + (i + 1) = g9 1 k + i + 1 from rfl, ← zk_mp_k (c := c9) (a := g9 1 k) (b := g9 1 k + i) (G := zk_cfG c9 k u v) hk4 (by omega) (by rw [zk_cfG, hcd, if_pos rfl]), ← zk_mp_k (c := d9) (a := g9 1 k) (b := g9 1 k + i) (G := zk_cfA c9 d9 k u v) hk4 (by omega) (by rw [zk_cfA, hcd, if_pos rfl])]; exact hm
            exact ih_5 (i + 1) _ _ _ _ _ _ (by omega) (by omega) hm (lv_sub hl [2, 3, 4, 5, 0] rfl) hH hS
          · skip
            have hc6 : ¬ v < (c9 (zk_p k (g9 1 k + i)) 2) := hc6
            refine lv_aload hx hb d_St_confirmPackets_49 (lv_at hl 0 rfl) ?_
            refine zr_geti (ci := 3) (C := R_Pk) (T := T_Pk) (N := 8) (ref := "ScrubbedRecorder$Packet") hx hb hts (fun w h => List.mem_cons_of_mem _ (zin_Pk w h)) hown hK hH ((zkR_k hm (zk_lvp (by omega) hgk (by omega) (by omega))).trans zk_kp) (by decide) rfl 5 (by decide) rfl (hw zw_274) (fun _ h9 => h9) d_St_confirmPackets_51 ?_
            refine zt_i (y := c9 (zk_p k (g9 1 k + i)) 5) ((congrFun (zkR_i hm (zk_lvp (by omega) hgk (by omega) (by omega))) 5).trans (by rw [show (zk_mp c9 k (g9 1 k) (g9 1 k + i) (zk_cfG c9 k u v)) (zk_p k (g9 1 k + i)) 5 = c9 (zk_p k (g9 1 k + i)) 5 from congrFun (zk_mp_ne hk4 (by omega)) 5])) ?_
            refine lv_if_ne (tgt := 72) hx hb d_St_confirmPackets_54 (by decide) (fun hc8 => ?_) (fun hc8 => ?_)
            · skip
              have hc8 : ¬ (c9 (zk_p k (g9 1 k + i)) 5) = (nI 0) := hc8
              refine lv_iinc (k := 5) (v := nI (i + 1)) (lv' := [(4, .int (nI (i + 1))), (5, .ref (a9 (zk_p k (g9 1 k + i)))), (0, .ref (a9 (10 + k))), (1, .int u), (2, .int v), (3, .int (nI (zk_cfn c9 k (g9 1 k) u v i)))]) hx hb d_St_confirmPackets_72 hl rfl (nI_add i 1) (by decide) rfl (fun ls hl => ?_)
              refine lv_goto (tgt := 5) hx hb d_St_confirmPackets_75 (by decide) ?_
              have hcd : zk_cfd c9 k u v (g9 1 k + i) = nI 0 := by rw [zk_cfd, if_neg hc4, if_neg hc6, if_neg hc8]
              have ez9 : zk_cfn c9 k (g9 1 k) u v (i + 1) = zk_cfn c9 k (g9 1 k) u v i := by rw [zk_cfn, hcd, if_pos rfl]; rfl
              have hl : lv_has ls 6 [(4, .int (nI (i + 1))), (5, .ref (a9 (zk_p k (g9 1 k + i)))), (0, .ref (a9 (10 + k))), (1, .int u), (2, .int v), (3, .int (nI (zk_cfn c9 k (g9 1 k) u v (i + 1))))] := by rw [ez9]; exact hl
              have hm : zkR X te a9 e9 (zk_mp c9 k (g9 1 k) (g9 1 k + (i + 1)) (zk_cfG c9 k u v)) (zk_mp d9 k (g9 1 k) (g9 1 k + (i + 1)) (zk_cfA c9 d9 k u v)) g9 kd ln I_5 L_5 R_5 := by rw [show g9 1 k + (i + 1) = g9 1 k + i + 1 from rfl, ← zk_mp_k (c := c9) (a := g9 1 k) (b := g9 1 k + i) (G := zk_cfG c9 k u v) hk4 (by omega) (by rw [zk_cfG, hcd, if_pos rfl]), ← zk_mp_k (c := d9) (a := g9 1 k) (b := g9 1 k + i) (G := zk_cfA c9 d9 k u v) hk4 (by omega) (by rw [zk_cfA, hcd, if_pos rfl])]; exact hm
              exact ih_5 (i + 1) _ _ _ _ _ _ (by omega) (by omega) hm (lv_sub hl [2, 3, 4, 5, 0] rfl) hH hS
            · skip
              have hc8 : (c9 (zk_p k (g9 1 k + i)) 5) = (nI 0) := hc8
              refine lv_aload hx hb d_St_confirmPackets_57 (lv_at hl 0 rfl) ?_
              refine lv_iconst (v := nI 1) hx hb d_St_confirmPackets_59 (by decide) ?_
              refine zr_puti (ref := "ScrubbedRecorder$Packet") (ci := 3) (C := R_Pk) (T := T_Pk) (N := 8) (x := nI 1) (ty := .boolean) hx hb hts (fun w h => List.mem_cons_of_mem _ (zin_Pk w h)) ty_Pk tyok_Pk nm_Pk hown hK hH hS ((zkR_k hm (zk_lvp (by omega) hgk (by omega) (by omega))).trans zk_kp) (by decide) rfl 5 (by decide) rfl (hw zw_274) (fun _ h9 => h9) rfl (by decide +kernel) (by decide +kernel) (by decide +kernel) d_St_confirmPackets_60 (fun H locs hH hS => ?_)
              have hm := zkR_I hm (zk_p k (g9 1 k + i)) 5 (nI 1) (zk_lvp (by omega) hgk (by omega) (by omega)) (fun _ => ⟨by decide, by decide⟩) (fun h9 => absurd (zk_kp.symm.trans h9) (by decide))
              generalize zu I_5 (a9 (zk_p k (g9 1 k + i))) 5 (nI 1) = I10 at hm hH
              refine lv_aload hx hb d_St_confirmPackets_63 (lv_at hl 0 rfl) ?_
              refine lv_lconst (v := 0) hx hb d_St_confirmPackets_65 (by decide) ?_
              refine zr_putl (ref := "ScrubbedRecorder$Packet") (ci := 3) (C := R_Pk) (T := T_Pk) (N := 8) (x := 0) (ty := .long) hx hb hts (fun w h => List.mem_cons_of_mem _ (zin_Pk w h)) ty_Pk tyok_Pk nm_Pk hown hK hH hS ((zkR_k hm (zk_lvp (by omega) hgk (by omega) (by omega))).trans zk_kp) (by decide) rfl 7 (by decide) rfl (hw zw_279) (fun _ h9 => h9) rfl (by decide +kernel) rfl rfl d_St_confirmPackets_66 (fun H locs hH hS => ?_)
              have hm := zkR_L hm (zk_p k (g9 1 k + i)) 7 0 (zk_lvp (by omega) hgk (by omega) (by omega))
              generalize zu L_5 (a9 (zk_p k (g9 1 k + i))) 7 0 = L11 at hm hH
              refine lv_iinc (k := 4) (v := nI (zk_cfn c9 k (g9 1 k) u v i + 1)) (lv' := [(3, .int (nI (zk_cfn c9 k (g9 1 k) u v i + 1))), (5, .ref (a9 (zk_p k (g9 1 k + i)))), (0, .ref (a9 (10 + k))), (1, .int u), (2, .int v), (4, .int (nI i))]) hx hb d_St_confirmPackets_69 hl rfl (nI_add (zk_cfn c9 k (g9 1 k) u v i) 1) (by decide) rfl (fun ls hl => ?_)
              refine lv_iinc (k := 5) (v := nI (i + 1)) (lv' := [(4, .int (nI (i + 1))), (3, .int (nI (zk_cfn c9 k (g9 1 k) u v i + 1))), (5, .ref (a9 (zk_p k (g9 1 k + i)))), (0, .ref (a9 (10 + k))), (1, .int u), (2, .int v)]) hx hb d_St_confirmPackets_72 hl rfl (nI_add i 1) (by decide) rfl (fun ls hl => ?_)
              refine lv_goto (tgt := 5) hx hb d_St_confirmPackets_75 (by decide) ?_
              have hcd : zk_cfd c9 k u v (g9 1 k + i) = nI 1 := by rw [zk_cfd, if_neg hc4, if_neg hc6, if_pos hc8]
              have ez12 : zk_cfn c9 k (g9 1 k) u v (i + 1) = zk_cfn c9 k (g9 1 k) u v i + 1 := by rw [zk_cfn, hcd, if_neg (by decide)]
              have hl : lv_has ls 6 [(4, .int (nI (i + 1))), (3, .int (nI (zk_cfn c9 k (g9 1 k) u v (i + 1)))), (5, .ref (a9 (zk_p k (g9 1 k + i)))), (0, .ref (a9 (10 + k))), (1, .int u), (2, .int v)] := by rw [ez12]; exact hl
              have hm : zkR X te a9 e9 (zk_mp c9 k (g9 1 k) (g9 1 k + (i + 1)) (zk_cfG c9 k u v)) (zk_mp d9 k (g9 1 k) (g9 1 k + (i + 1)) (zk_cfA c9 d9 k u v)) g9 kd ln I10 L11 R_5 := by rw [show g9 1 k + (i + 1) = g9 1 k + i + 1 from rfl, ← zk_mp_z (c := c9) (a := g9 1 k) (b := g9 1 k + i) (G := zk_cfG c9 k u v) (s := 5) (v := nI 1) hk4 (by omega) (by rw [zk_cfG, hcd, if_neg (by decide)]), ← zk_mp_z (c := d9) (a := g9 1 k) (b := g9 1 k + i) (G := zk_cfA c9 d9 k u v) (s := 7) (v := 0) hk4 (by omega) (by rw [zk_cfA, hcd, if_neg (by decide)])]; exact hm
              exact ih_5 (i + 1) _ _ _ _ _ _ (by omega) (by omega) hm (lv_sub hl [3, 4, 5, 1, 0] rfl) hH hS
  have hm : zkR X te a9 e9 (zk_mp c9 k (g9 1 k) (g9 1 k + 0) (zk_cfG c9 k u v)) (zk_mp d9 k (g9 1 k) (g9 1 k + 0) (zk_cfA c9 d9 k u v)) g9 kd ln I L R := by rw [Nat.add_zero, zk_mp_0, zk_mp_0]; exact hm
  exact loop_5 _ 0 _ _ _ _ _ _ (Nat.lt_succ_self _) (by omega) hm (lv_sub hl [2, 3, 4, 1, 0] rfl) hH hS

set_option maxHeartbeats 4000000 in
set_option maxRecDepth 100000 in
/-- Store.freeFirstPage -/
theorem c_St_freeFirstPage {l : Launch} {D : va_G} {cA : Nat → ClassId} {te mi : Nat} {kd ln : Nat → Nat} {I : Nat → Nat → Int32} {L : Nat → Nat → Int64} {R : Nat → Nat → Option Nat} {X : Nat} {a9 e9 : Nat → Nat} {c9 : Nat → Nat → Int32} {d9 : Nat → Nat → Int64} {g9 : Nat → Nat → Nat} (hm : zkR X te a9 e9 c9 d9 g9 kd ln I L R) {k : Nat} (hk4 : k < 4) (hgk : g9 0 k ≠ 0) {cl pg : Nat} (hlo : g9 1 k ≤ g9 2 k) (hcl : c9 (10 + k) 7 = nI cl) (hcl1 : 1 ≤ cl) (hcl2 : cl ≤ 40) (hpg : c9 (20 + k) 0 = nI pg) (hpg1 : pg < 40) : zc_M l y_St_freeFirstPage w_St_freeFirstPage { frames := 3, cells := 0, slots := 0, locals := 86 } 0 0 D cA te mi ([.ref (a9 (10 + k))] : List Value) kd ln I L R (zk_P none X te a9 e9 (zk_ffc c9 k cl pg) (zb_wr 3 pg 0 d9) (zk_ffg c9 g9 k pg) kd ln) := by
  intro sz
  refine Met.ofW (cc := b_St_freeFirstPage) (maxL := 3) (ret := none) (by decide +kernel) rfl ?_
  intro p e s m args below meth c s₁ B hml hv
  obtain ⟨rfl, hsz, hSc, hE, hH⟩ := hv
  have hx := B.exec
  have hb := B.bytes
  have hr := B.returns
  have hts := atoms_spec (ws := w_St_freeFirstPage) B.pre
  have hw : ∀ {w : Cond}, w ∈ zw → w.before ([.ref (a9 (10 + k))] : List Value).toArray s = true := fun h => hts _ (List.mem_cons_of_mem _ h)
  have hown : s.vm.findClass R_St = some m.cls := findClass_of_methodNamed B.named
  have hlocks := B.notSynchronized
  subst hsz
  have hK := hSc.1
  have hH : zh_H D cA (zc_A kd s.heap.size) kd ln I L R s.heap := hH.weaken (fun q h _ => Or.inl h)
  generalize hAe : zc_A kd s.heap.size = A at hH hE ⊢
  have hA : ∀ q : Nat, s.heap.size ≤ q → A q := fun q h => by rw [← hAe]; exact Or.inr h
  have hS : va_S A s.heap s.heap [] := va_S.rf
  have hl := lv_entry ([.ref (a9 (10 + k))] : List Value) (n := 3) (Nat.le_of_ble_eq_true rfl)
  rw [lg_entry_eq]
  generalize (lg_sl ([.ref (a9 (10 + k))] : List Value) ++ List.replicate (3 - (lg_sl ([.ref (a9 (10 + k))] : List Value)).length) Slot.unset).toArray = ls at hl ⊢
  have hl : lv_has ls 3 [(0, .ref (a9 (10 + k)))] := hl
  have hn15 := zkR_cnt hm hk4 hgk
  refine lv_aload_n hx hb d_St_freeFirstPage_0 rfl (lv_at hl 0 rfl) ?_
  refine zr_getr (ci := 2) (C := R_St) (T := T_St) (N := 10) (ref := "ScrubbedRecorder$Store") hx hb hts (fun w h => List.mem_cons_of_mem _ (zin_St w h)) hown hK hH ((zkR_k hm (zk_lv1 (by omega) hgk)).trans (zk_k1 (by omega))) (by decide) rfl 3 (by decide) rfl (hw zw_127) (fun _ h9 => h9) d_St_freeFirstPage_1 (zkR_st hm (by omega) hgk).2.2.1 ?_
  refine lv_iconst (v := nI 0) hx hb d_St_freeFirstPage_4 (by decide) ?_
  refine zr_aldi (j := 0) hx hb hK hH ((zkR_k hm (zk_lv2 (by omega) hgk)).trans (zk_k2 (by omega))) (by rw [show ln (a9 (20 + k)) = 40 from (zkR_n hm (zk_lv2 (by omega) hgk) (by rw [zk_k2 (by omega)]; decide)).trans (zk_n2 (by omega))]; exact zh_ix_n (by omega) (by omega)) d_St_freeFirstPage_5 ?_
  refine zt_i (y := nI pg) ((congrFun (zkR_i hm (zk_lv2 (by omega) hgk)) 0).trans (by rw [hpg])) ?_
  refine lv_istore_n (lv' := [(1, .int (nI pg)), (0, .ref (a9 (10 + k)))]) hx hb d_St_freeFirstPage_6 rfl hl (by decide) rfl (fun ls hl => ?_)
  refine lv_aload_n hx hb d_St_freeFirstPage_7 rfl (lv_at hl 1 rfl) ?_
  refine zr_getr (ci := 2) (C := R_St) (T := T_St) (N := 10) (ref := "ScrubbedRecorder$Store") hx hb hts (fun w h => List.mem_cons_of_mem _ (zin_St w h)) hown hK hH ((zkR_k hm (zk_lv1 (by omega) hgk)).trans (zk_k1 (by omega))) (by decide) rfl 2 (by decide) rfl (hw zw_126) (fun _ h9 => h9) d_St_freeFirstPage_8 (zkR_st hm (by omega) hgk).2.1 ?_
  refine lv_iload_n hx hb d_St_freeFirstPage_11 rfl (lv_at hl 0 rfl) ?_
  have hM := zkR_mem hm
  refine zr_V (As := ([.int (nI pg)] : List Value)) (rest := []) (b := a9 0) (ci := 1) (q := (R_Mem, T_Mem, 8)) ⟨hx, hb, hml, hown, hts⟩ (c_Mem_freePage hM.1 hM.2.1 hM.2.2.1 hM.2.2.2.1 hM.2.2.2.2.1 hM.2.2.2.2.2.1 hM.2.2.2.2.2.2 (by omega)) ⟨(callB_of 1 hts (zg_all zw_207) rfl rfl rfl (hw zw_2) (hw zw_204) k_Mem_freePage.2 ⟨Nat.le_of_ble_eq_true rfl, Nat.le_of_ble_eq_true rfl⟩), (hw zw_205), (hw zw_206)⟩ hSc hE hH hS hA rfl (by decide) (show kd (a9 0) = 2 from zkR_k hm (zk_lv0 (by decide))) rfl hl.1 rfl (Nat.le_of_ble_eq_true rfl) d_St_freeFirstPage_12 ⟨Nat.le_of_ble_eq_true rfl, Nat.le_of_ble_eq_true rfl⟩ (fun v1 kd1 ln1 I1 L1 R1 H locs hp hH hS => ?_)
  obtain ⟨rfl, rfl, rfl, rfl, rfl, rfl⟩ := hp
  have hm := zkR_wr (zkR_I hm 1 pg (nI 0) (zk_lv0 (by decide)) (fun h9 => absurd h9 (by decide)) (fun h9 => absurd h9 (by decide))) pg 0
  generalize zu I (a9 1) pg (nI 0) = I2 at hm hH
  generalize zb_wr (a9 3) pg 0 L = L3 at hm hH
  refine W.eq (g2 := F0 m 15 ls []) rfl ?_
  refine W.widen (k := 0) (n := 0) (by omega) (by omega) ?_
  refine lv_aload_n hx hb d_St_freeFirstPage_15 rfl (lv_at hl 1 rfl) ?_
  refine lv_dup hx hb d_St_freeFirstPage_16 rfl ?_
  refine zr_geti (ci := 2) (C := R_St) (T := T_St) (N := 10) (ref := "ScrubbedRecorder$Store") hx hb hts (fun w h => List.mem_cons_of_mem _ (zin_St w h)) hown hK hH ((zkR_k hm (zk_lv1 (by omega) hgk)).trans (zk_k1 (by omega))) (by decide) rfl 7 (by decide) rfl (hw zw_134) (fun _ h9 => h9) d_St_freeFirstPage_17 ?_
  refine zt_i (y := nI cl) ((congrFun (zkR_i hm (zk_lv1 (by omega) hgk)) 7).trans (by rw [zu_ne _ _ _ (show (10 + k : Nat) ≠ 1 by omega), hcl])) ?_
  refine lv_iconst (v := nI 1) hx hb d_St_freeFirstPage_20 (by decide) ?_
  refine lv_isub hx hb d_St_freeFirstPage_21 ?_
  refine zt_i (y := nI (cl - 1)) (pk_sub (by omega)) ?_
  refine zr_puti (ref := "ScrubbedRecorder$Store") (ci := 2) (C := R_St) (T := T_St) (N := 10) (x := nI (cl - 1)) (ty := .int) hx hb hts (fun w h => List.mem_cons_of_mem _ (zin_St w h)) ty_St tyok_St nm_St hown hK hH hS ((zkR_k hm (zk_lv1 (by omega) hgk)).trans (zk_k1 (by omega))) (by decide) rfl 7 (by decide) rfl (hw zw_134) (fun _ h9 => h9) rfl (by decide +kernel) rfl rfl d_St_freeFirstPage_22 (fun H locs hH hS => ?_)
  have hm := zkR_I hm (10 + k) 7 (nI (cl - 1)) (zk_lv1 (by omega) hgk) (fun h9 => absurd ((zk_k1 (by omega)).symm.trans h9) (by decide)) (fun h9 => absurd ((zk_k1 (by omega)).symm.trans h9) (by decide))
  generalize zu I2 (a9 (10 + k)) 7 (nI (cl - 1)) = I4 at hm hH
  refine lv_aload_n hx hb d_St_freeFirstPage_25 rfl (lv_at hl 1 rfl) ?_
  refine zr_getr (ci := 2) (C := R_St) (T := T_St) (N := 10) (ref := "ScrubbedRecorder$Store") hx hb hts (fun w h => List.mem_cons_of_mem _ (zin_St w h)) hown hK hH ((zkR_k hm (zk_lv1 (by omega) hgk)).trans (zk_k1 (by omega))) (by decide) rfl 3 (by decide) rfl (hw zw_127) (fun _ h9 => h9) d_St_freeFirstPage_26 (zkR_st hm (by omega) hgk).2.2.1 ?_
  refine lv_iconst (v := nI 1) hx hb d_St_freeFirstPage_29 (by decide) ?_
  refine lv_aload_n hx hb d_St_freeFirstPage_30 rfl (lv_at hl 1 rfl) ?_
  refine zr_getr (ci := 2) (C := R_St) (T := T_St) (N := 10) (ref := "ScrubbedRecorder$Store") hx hb hts (fun w h => List.mem_cons_of_mem _ (zin_St w h)) hown hK hH ((zkR_k hm (zk_lv1 (by omega) hgk)).trans (zk_k1 (by omega))) (by decide) rfl 3 (by decide) rfl (hw zw_127) (fun _ h9 => h9) d_St_freeFirstPage_31 (zkR_st hm (by omega) hgk).2.2.1 ?_
  refine lv_iconst (v := nI 0) hx hb d_St_freeFirstPage_34 (by decide) ?_
  refine lv_aload_n hx hb d_St_freeFirstPage_35 rfl (lv_at hl 1 rfl) ?_
  refine zr_geti (ci := 2) (C := R_St) (T := T_St) (N := 10) (ref := "ScrubbedRecorder$Store") hx hb hts (fun w h => List.mem_cons_of_mem _ (zin_St w h)) hown hK hH ((zkR_k hm (zk_lv1 (by omega) hgk)).trans (zk_k1 (by omega))) (by decide) rfl 7 (by decide) rfl (hw zw_134) (fun _ h9 => h9) d_St_freeFirstPage_36 ?_
  refine zt_i (y := nI (cl - 1)) ((congrFun (zkR_i hm (zk_lv1 (by omega) hgk)) 7).trans (by rw [zu_self])) ?_
  have eR9 : I4 (a9 (20 + k)) = c9 (20 + k) := (zkR_i hm (zk_lv2 (by omega) hgk)).trans (by rw [zu_ne _ _ _ (show (20 + k : Nat) ≠ 10 + k by omega), zu_ne _ _ _ (show (20 + k : Nat) ≠ 1 by omega)])
  refine zr_copyi (sp := 1) (dp := 0) (n := cl - 1) hx hb (by rw [hml]; exact hl.1.symm) hown (hw zw_212) (hw zw_214) (hw zw_213) (hw zw_10) hK hH hS ((zkR_k hm (zk_lv2 (by omega) hgk)).trans (zk_k2 (by omega))) ((zkR_k hm (zk_lv2 (by omega) hgk)).trans (zk_k2 (by omega))) (by rw [show ln (a9 (20 + k)) = 40 from (zkR_n hm (zk_lv2 (by omega) hgk) (by rw [zk_k2 (by omega)]; decide)).trans (zk_n2 (by omega))]; omega) (by rw [show ln (a9 (20 + k)) = 40 from (zkR_n hm (zk_lv2 (by omega) hgk) (by rw [zk_k2 (by omega)]; decide)).trans (zk_n2 (by omega))]; omega) (by omega) (fun _ _ => rfl) (Nat.le_of_ble_eq_true rfl) (Nat.le_of_ble_eq_true rfl) d_St_freeFirstPage_39 (fun H locs hH hS => ?_)
  rw [eR9] at hH
  have hm := zkR_U hm (20 + k) (va_cpy (c9 (20 + k)) (c9 (20 + k)) 1 0 (cl - 1)) (zk_lv2 (by omega) hgk) (by rw [zk_k2 hk4]; decide) (fun h9 => absurd ((zk_k2 hk4).symm.trans h9) (by decide))
  generalize va_up I4 (a9 (20 + k)) (va_cpy (c9 (20 + k)) (c9 (20 + k)) 1 0 (cl - 1)) = I5 at hm hH
  refine lv_aload_n hx hb d_St_freeFirstPage_42 rfl (lv_at hl 1 rfl) ?_
  refine zr_getr (ci := 2) (C := R_St) (T := T_St) (N := 10) (ref := "ScrubbedRecorder$Store") hx hb hts (fun w h => List.mem_cons_of_mem _ (zin_St w h)) hown hK hH ((zkR_k hm (zk_lv1 (by omega) hgk)).trans (zk_k1 (by omega))) (by decide) rfl 5 (by decide) rfl (hw zw_129) (fun _ h9 => h9) d_St_freeFirstPage_43 (zkR_st hm (by omega) hgk).2.2.2.1 ?_
  refine zr_V (As := ([] : List Value)) (rest := []) (b := a9 (40 + k)) (ci := 5) (q := (R_AL, T_AL, 3)) ⟨hx, hb, hml, hown, hts⟩ (c_ALk_size hm (by omega) hgk) ⟨(callB_of 0 hts (zg_all zw_172) rfl rfl rfl (hw zw_7) (hw zw_169) k_AL_size.2 ⟨Nat.le_of_ble_eq_true rfl, Nat.le_of_ble_eq_true rfl⟩), (hw zw_170), (hw zw_171)⟩ hSc hE hH hS hA rfl (by decide) (zkR_st hm (by omega) hgk).2.2.2.2.1 rfl hl.1 rfl (Nat.le_of_ble_eq_true rfl) d_St_freeFirstPage_46 ⟨Nat.le_of_ble_eq_true rfl, Nat.le_of_ble_eq_true rfl⟩ (fun v6 kd6 ln6 I6 L6 R6 H locs hp hH hS => ?_)
  obtain ⟨rfl, rfl, rfl, rfl, rfl, rfl⟩ := hp
  refine W.eq (g2 := F0 m 49 ls [.int (nI (g9 2 k - g9 1 k))]) rfl ?_
  refine W.widen (k := 0) (n := 0) (by omega) (by omega) ?_
  refine lv_istore_n (lv' := [(2, .int (nI (g9 2 k - g9 1 k))), (1, .int (nI pg)), (0, .ref (a9 (10 + k)))]) hx hb d_St_freeFirstPage_49 rfl hl (by decide) rfl (fun ls hl => ?_)
  have loop_50 : ∀ (z : Nat) (j : Nat) (I_50 : Nat → Nat → Int32) (L_50 : Nat → Nat → Int64) (R_50 : Nat → Nat → Option Nat) (H : Heap) (locs : List Loc) (ls : Array Slot), g9 2 k - g9 1 k - j < z → (j ≤ g9 2 k - g9 1 k) → (j + zk_pf c9 k (g9 2 k) pg (g9 2 k - g9 1 k - j) = zk_pf c9 k (g9 2 k) pg (g9 2 k - g9 1 k)) → (zkR X te a9 e9 (zk_ffc c9 k cl pg) (zb_wr 3 pg 0 d9) (zu g9 1 k (g9 1 k + j)) kd ln I_50 L_50 R_50) → lv_has ls 3 [(0, .ref (a9 (10 + k))), (1, .int (nI pg)), (2, .int (nI (g9 2 k - g9 1 k - j)))] → zh_H D cA A kd ln I_50 L_50 R_50 H → va_S A s.heap H locs → W p l e (headSpec w_St_freeFirstPage { frames := 3, cells := 0, slots := 0, locals := 86 }).room s m ([.ref (a9 (10 + k))] : List Value).toArray below meth c H locs 0 0 (MQ below (zc_Qc D cA A (zk_P none X te a9 e9 (zk_ffc c9 k cl pg) (zb_wr 3 pg 0 d9) (zk_ffg c9 g9 k pg) kd ln)) ([.ref (a9 (10 + k))] : List Value).toArray s 0 0 A) (F0 m 50 ls []) := by
    intro z
    induction z with
    | zero => intro j I_50 L_50 R_50 H locs ls hz; exact absurd hz (Nat.not_lt_zero _)
    | succ z ih_50 =>
      intro j I_50 L_50 R_50 H locs ls hz_50 hj hpf hm hl hH hS
      have e2 : (zu g9 1 k (g9 1 k + j)) 2 k = g9 2 k := by rw [zu_ne _ _ _ (show (2 : Nat) ≠ 1 by decide)]
      have e1 : (zu g9 1 k (g9 1 k + j)) 1 k = g9 1 k + j := zu_self _ _ _ _
      refine lv_iload_n hx hb d_St_freeFirstPage_50 rfl (lv_at hl 2 rfl) ?_
      refine lv_if_le (tgt := 87) hx hb d_St_freeFirstPage_51 (by decide) (fun hc7 => ?_) (fun hc7 => ?_)
      · skip
        have hc7 := zt_leT (a := (g9 2 k - g9 1 k - j)) (b := 0) (by omega) (by omega) hc7
        have hpz : zk_pf c9 k (g9 2 k) pg (g9 2 k - g9 1 k) = j := by rw [← hpf, show g9 2 k - g9 1 k - j = 0 by omega]; rfl
        refine W.widen (k := 0) (n := 0) (Nat.le_of_ble_eq_true rfl) (Nat.le_of_ble_eq_true rfl) ?_
        subst hAe
        exact W.vret hx hb hr (fun t ht hW => zc_end hS hH ht (⟨rfl, rfl, rfl, by unfold zk_ffg; rw [hpz]; exact hm⟩)) hS.2.2 d_St_freeFirstPage_87
      · skip
        have hc7 := zt_leF (a := (g9 2 k - g9 1 k - j)) (b := 0) (by omega) (by omega) hc7
        refine lv_aload_n hx hb d_St_freeFirstPage_54 rfl (lv_at hl 0 rfl) ?_
        refine zr_getr (ci := 2) (C := R_St) (T := T_St) (N := 10) (ref := "ScrubbedRecorder$Store") hx hb hts (fun w h => List.mem_cons_of_mem _ (zin_St w h)) hown hK hH ((zkR_k hm (zk_lv1 (by omega) (show (zu g9 1 k (g9 1 k + j)) 0 k ≠ 0 by rw [zu_ne _ _ _ (show (0 : Nat) ≠ 1 by decide)]; exact hgk))).trans (zk_k1 (by omega))) (by decide) rfl 5 (by decide) rfl (hw zw_129) (fun _ h9 => h9) d_St_freeFirstPage_55 (zkR_st hm (by omega) (show (zu g9 1 k (g9 1 k + j)) 0 k ≠ 0 by rw [zu_ne _ _ _ (show (0 : Nat) ≠ 1 by decide)]; exact hgk)).2.2.2.1 ?_
        refine lv_iconst (v := nI 0) hx hb d_St_freeFirstPage_58 (by decide) ?_
        refine zr_V (As := ([.int (nI 0)] : List Value)) (rest := []) (b := a9 (40 + k)) (ci := 5) (q := (R_AL, T_AL, 3)) ⟨hx, hb, hml, hown, hts⟩ (c_ALk_get (j := 0) hm hk4 (show (zu g9 1 k (g9 1 k + j)) 0 k ≠ 0 by rw [zu_ne _ _ _ (show (0 : Nat) ≠ 1 by decide)]; exact hgk) (by rw [e1, e2]; omega)) ⟨(callB_of 1 hts (zg_all zw_176) rfl rfl rfl (hw zw_7) (hw zw_173) k_AL_get.2 ⟨Nat.le_of_ble_eq_true rfl, Nat.le_of_ble_eq_true rfl⟩), (hw zw_174), (hw zw_175)⟩ hSc hE hH hS hA rfl (by decide) (zkR_st hm (by omega) (show (zu g9 1 k (g9 1 k + j)) 0 k ≠ 0 by rw [zu_ne _ _ _ (show (0 : Nat) ≠ 1 by decide)]; exact hgk)).2.2.2.2.1 rfl hl.1 rfl (Nat.le_of_ble_eq_true rfl) d_St_freeFirstPage_59 ⟨Nat.le_of_ble_eq_true rfl, Nat.le_of_ble_eq_true rfl⟩ (fun v8 kd8 ln8 I8 L8 R8 H locs hp hH hS => ?_)
        obtain ⟨rfl, rfl, rfl, rfl, rfl, rfl⟩ := hp
        rw [show zk_p k ((zu g9 1 k (g9 1 k + j)) 1 k + 0) = zk_p k (g9 1 k + j) by rw [e1, Nat.add_zero]]
        refine W.eq (g2 := F0 m 62 ls [.ref (a9 (zk_p k (g9 1 k + j)))]) rfl ?_
        refine W.widen (k := 0) (n := 0) (by omega) (by omega) ?_
        refine zr_cast (ci := 3) (nm := "ScrubbedRecorder$Packet") hx hb hown (hw zw_187) (hSc.2.1 _ (by decide +kernel)) hK hH rfl (by decide) ((zkR_k hm (zk_lvp (by omega) (show (zu g9 1 k (g9 1 k + j)) 0 k ≠ 0 by rw [zu_ne _ _ _ (show (0 : Nat) ≠ 1 by decide)]; exact hgk) (by first | omega | (rw [e1]; omega) | (rw [e2]; omega)) (by first | omega | (rw [e1]; omega) | (rw [e2]; omega)))).trans zk_kp) d_St_freeFirstPage_62 ?_
        refine zr_geti (ci := 3) (C := R_Pk) (T := T_Pk) (N := 8) (ref := "ScrubbedRecorder$Packet") hx hb hts (fun w h => List.mem_cons_of_mem _ (zin_Pk w h)) hown hK hH ((zkR_k hm (zk_lvp (by omega) (show (zu g9 1 k (g9 1 k + j)) 0 k ≠ 0 by rw [zu_ne _ _ _ (show (0 : Nat) ≠ 1 by decide)]; exact hgk) (by first | omega | (rw [e1]; omega) | (rw [e2]; omega)) (by first | omega | (rw [e1]; omega) | (rw [e2]; omega)))).trans zk_kp) (by decide) rfl 4 (by decide) rfl (hw zw_272) (fun _ h9 => h9) d_St_freeFirstPage_65 ?_
        refine zt_i (y := c9 (zk_p k (g9 1 k + j)) 4) ((congrFun (zkR_i hm (zk_lvp (by omega) (show (zu g9 1 k (g9 1 k + j)) 0 k ≠ 0 by rw [zu_ne _ _ _ (show (0 : Nat) ≠ 1 by decide)]; exact hgk) (by first | omega | (rw [e1]; omega) | (rw [e2]; omega)) (by first | omega | (rw [e1]; omega) | (rw [e2]; omega)))) 4).trans (by rw [show (zk_ffc c9 k cl pg) (zk_p k (g9 1 k + j)) 4 = c9 (zk_p k (g9 1 k + j)) 4 from by unfold zk_ffc; rw [va_up_ne _ _ (show zk_p k (g9 1 k + j) ≠ 20 + k by unfold zk_p; omega), zu_ne _ _ _ (show zk_p k (g9 1 k + j) ≠ 10 + k by unfold zk_p; omega), zu_ne _ _ _ (show zk_p k (g9 1 k + j) ≠ 1 by unfold zk_p; omega)]])) ?_
        refine lv_iload_n hx hb d_St_freeFirstPage_68 rfl (lv_at hl 1 rfl) ?_
        refine lv_icmp_ne (tgt := 87) hx hb d_St_freeFirstPage_69 (by decide) (fun hc9 => ?_) (fun hc9 => ?_)
        · skip
          have hc9 : ¬ (c9 (zk_p k (g9 1 k + j)) 4) = (nI pg) := hc9
          have hpz : zk_pf c9 k (g9 2 k) pg (g9 2 k - g9 1 k) = j := by rw [← hpf, zk_pf_s (i := j) (by omega), if_neg hc9]; omega
          refine W.widen (k := 0) (n := 0) (Nat.le_of_ble_eq_true rfl) (Nat.le_of_ble_eq_true rfl) ?_
          subst hAe
          exact W.vret hx hb hr (fun t ht hW => zc_end hS hH ht (⟨rfl, rfl, rfl, by unfold zk_ffg; rw [hpz]; exact hm⟩)) hS.2.2 d_St_freeFirstPage_87
        · skip
          have hc9 : (c9 (zk_p k (g9 1 k + j)) 4) = (nI pg) := hc9
          refine lv_aload_n hx hb d_St_freeFirstPage_72 rfl (lv_at hl 0 rfl) ?_
          refine zr_getr (ci := 2) (C := R_St) (T := T_St) (N := 10) (ref := "ScrubbedRecorder$Store") hx hb hts (fun w h => List.mem_cons_of_mem _ (zin_St w h)) hown hK hH ((zkR_k hm (zk_lv1 (by omega) (show (zu g9 1 k (g9 1 k + j)) 0 k ≠ 0 by rw [zu_ne _ _ _ (show (0 : Nat) ≠ 1 by decide)]; exact hgk))).trans (zk_k1 (by omega))) (by decide) rfl 5 (by decide) rfl (hw zw_129) (fun _ h9 => h9) d_St_freeFirstPage_73 (zkR_st hm (by omega) (show (zu g9 1 k (g9 1 k + j)) 0 k ≠ 0 by rw [zu_ne _ _ _ (show (0 : Nat) ≠ 1 by decide)]; exact hgk)).2.2.2.1 ?_
          refine lv_iconst (v := nI 0) hx hb d_St_freeFirstPage_76 (by decide) ?_
          have hls := (zkR_st hm hk4 (show (zu g9 1 k (g9 1 k + j)) 0 k ≠ 0 by rw [zu_ne _ _ _ (show (0 : Nat) ≠ 1 by decide)]; exact hgk)).2.2.2.2
          have hge := zkR_get (j := 0) hm hk4 (show (zu g9 1 k (g9 1 k + j)) 0 k ≠ 0 by rw [zu_ne _ _ _ (show (0 : Nat) ≠ 1 by decide)]; exact hgk) (by rw [e1, e2]; omega)
          have hel : ∀ j1, j1 < (zu g9 1 k (g9 1 k + j)) 2 k - (zu g9 1 k (g9 1 k + j)) 1 k → ∀ y, R_50 (e9 k) j1 = some y → kd y = 4 := fun j1 h1 y hy => by have h2 := (zkR_get hm hk4 (show (zu g9 1 k (g9 1 k + j)) 0 k ≠ 0 by rw [zu_ne _ _ _ (show (0 : Nat) ≠ 1 by decide)]; exact hgk) h1).2.2.2; rw [hy] at h2; rw [Option.some.inj h2]; exact (zkR_k hm (zk_lvp hk4 (show (zu g9 1 k (g9 1 k + j)) 0 k ≠ 0 by rw [zu_ne _ _ _ (show (0 : Nat) ≠ 1 by decide)]; exact hgk) (by omega) (by omega))).trans zk_kp
          have hb9 : R_50 (e9 k) 0 = some (a9 (zk_p k (g9 1 k + j))) := by rw [hge.2.2.2, e1, Nat.add_zero]
          refine zr_V (As := ([.int (nI 0)] : List Value)) (rest := []) (b := a9 (40 + k)) (ci := 5) (q := (R_AL, T_AL, 3)) ⟨hx, hb, hml, hown, hts⟩ (c_AL_remove hls.1 hls.2.1 hls.2.2.1 hge.1 hge.2.1 hge.2.2.1 (by rw [e1, e2]; omega) hel hb9) ⟨(callB_of 1 hts (zg_all zw_218) rfl rfl rfl (hw zw_7) (hw zw_215) k_AL_remove.2 ⟨Nat.le_of_ble_eq_true rfl, Nat.le_of_ble_eq_true rfl⟩), (hw zw_216), (hw zw_217)⟩ hSc hE hH hS hA rfl (by decide) (zkR_st hm (by omega) (show (zu g9 1 k (g9 1 k + j)) 0 k ≠ 0 by rw [zu_ne _ _ _ (show (0 : Nat) ≠ 1 by decide)]; exact hgk)).2.2.2.2.1 rfl hl.1 rfl (Nat.le_of_ble_eq_true rfl) d_St_freeFirstPage_77 ⟨Nat.le_of_ble_eq_true rfl, Nat.le_of_ble_eq_true rfl⟩ (fun v10 kd10 ln10 I10 L10 R10 H locs hp hH hS => ?_)
          obtain ⟨rfl, rfl, rfl, rfl, rfl, hp1, hp2⟩ := hp
          have hm := zkR_rm hm hk4 (show (zu g9 1 k (g9 1 k + j)) 0 k ≠ 0 by rw [zu_ne _ _ _ (show (0 : Nat) ≠ 1 by decide)]; exact hgk) (by rw [e1, e2]; omega) hp1 hp2 (y := I_50 (a9 (40 + k)) 2 + nI 1)
          generalize zu (zu I_50 (a9 (40 + k)) 2 (I_50 (a9 (40 + k)) 2 + nI 1)) (a9 (40 + k)) 1 (nI ((zu g9 1 k (g9 1 k + j)) 2 k - (zu g9 1 k (g9 1 k + j)) 1 k - 1)) = I11 at hm hH
          rw [show zu (zu g9 1 k (g9 1 k + j)) 1 k ((zu g9 1 k (g9 1 k + j)) 1 k + 1) = (zu g9 1 k (g9 1 k + (j + 1))) by rw [e1, zu_zu, Nat.add_assoc]] at hm
          refine W.eq (g2 := F0 m 80 ls [.ref (a9 (zk_p k (g9 1 k + j)))]) rfl ?_
          refine W.widen (k := 0) (n := 0) (by omega) (by omega) ?_
          refine lv_pop hx hb d_St_freeFirstPage_80 rfl ?_
          refine lv_iinc (k := 2) (v := nI (g9 2 k - g9 1 k - j - 1)) (lv' := [(2, .int (nI (g9 2 k - g9 1 k - j - 1))), (0, .ref (a9 (10 + k))), (1, .int (nI pg))]) hx hb d_St_freeFirstPage_81 hl rfl (zt_dec (by omega)) (by decide) rfl (fun ls hl => ?_)
          refine lv_goto (tgt := 50) hx hb d_St_freeFirstPage_84 (by decide) ?_
          have ez12 : g9 2 k - g9 1 k - (j + 1) = g9 2 k - g9 1 k - j - 1 := by omega
          have hl : lv_has ls 3 [(2, .int (nI (g9 2 k - g9 1 k - (j + 1)))), (0, .ref (a9 (10 + k))), (1, .int (nI pg))] := by rw [ez12]; exact hl
          exact ih_50 (j + 1) _ _ _ _ _ _ (by omega) (by omega) (by rw [← hpf, zk_pf_s (i := j) (by omega), if_pos hc9]; omega) hm (lv_sub hl [1, 2, 0] rfl) hH hS
  have hm : zkR X te a9 e9 (zk_ffc c9 k cl pg) (zb_wr 3 pg 0 d9) (zu g9 1 k (g9 1 k + 0)) kd ln I5 L3 R := by rw [Nat.add_zero, zu_id]; exact hm
  exact loop_50 _ 0 _ _ _ _ _ _ (Nat.lt_succ_self _) (by omega) (Nat.zero_add _) hm (lv_sub hl [2, 1, 0] rfl) hH hS
