/-! the reference's object: its arrays by slot, their kinds and lengths -/
def zo_k : Nat → Nat := fun j => match j with
  | 0 => 101
  | 7 => 103
  | 8 => 103
  | 9 => 100
  | 10 => 100
  | 11 => 100
  | 12 => 100
  | 13 => 100
  | 14 => 100
  | 15 => 103
  | 16 => 100
  | 17 => 100
  | 18 => 100
  | 19 => 100
  | 20 => 100
  | 21 => 100
  | 22 => 103
  | 23 => 103
  | 24 => 100
  | 25 => 101
  | 27 => 100
  | 28 => 100
  | 29 => 100
  | 30 => 100
  | 31 => 100
  | 32 => 100
  | 34 => 100
  | 36 => 100
  | _ => 0
def zo_n : Nat → Nat := fun j => match j with
  | 0 => 768
  | 7 => 4
  | 8 => 4
  | 9 => 4
  | 10 => 4
  | 11 => 4
  | 12 => 4
  | 13 => 4
  | 14 => 160
  | 15 => 40
  | 16 => 280
  | 17 => 280
  | 18 => 280
  | 19 => 280
  | 20 => 280
  | 21 => 280
  | 22 => 280
  | 23 => 280
  | 24 => 280
  | 25 => 2240
  | 27 => 4
  | 28 => 4
  | 29 => 4
  | 30 => 4
  | 31 => 4
  | 32 => 4
  | 34 => 64
  | 36 => 80
  | _ => 0
def zo (kd ln : Nat → Nat) (R : Nat → Nat → Option Nat) (X : Nat) (ad : Nat → Nat) : Prop := kd X = 7 ∧ (∀ j, j < 37 → zo_k j ≠ 0 → R X j = some (ad j) ∧ kd (ad j) = zo_k j ∧ ln (ad j) = zo_n j) ∧ ∀ i j, i < 37 → j < 37 → zo_k i ≠ 0 → zo_k j ≠ 0 → ad i = ad j → i = j
theorem zo_ne {kd ln : Nat → Nat} {R : Nat → Nat → Option Nat} {X : Nat} {ad : Nat → Nat} (h : zo kd ln R X ad) (i j : Nat) (hd : i < 37 ∧ j < 37 ∧ zo_k i ≠ 0 ∧ zo_k j ≠ 0 ∧ i ≠ j) : ad i ≠ ad j := fun e => hd.2.2.2.2 (h.2.2 i j hd.1 hd.2.1 hd.2.2.1 hd.2.2.2.1 e)
/-- the reference's state: ints by slot (row 40: the object's own), longs by slot -/
def zoR (X : Nat) (ad : Nat → Nat) (m9 : Nat → Nat → Int32) (q9 : Nat → Nat → Int64) (kd ln : Nat → Nat) (I : Nat → Nat → Int32) (L : Nat → Nat → Int64) (R : Nat → Nat → Option Nat) : Prop := zo kd ln R X ad ∧ (∀ j, j < 37 → zo_k j ≠ 0 → zo_k j ≠ 101 → I (ad j) = m9 j) ∧ I X = m9 40 ∧ ∀ j, j < 37 → zo_k j = 101 → L (ad j) = q9 j
abbrev zo_P (V : Option Value) (X : Nat) (ad : Nat → Nat) (m9 : Nat → Nat → Int32) (q9 : Nat → Nat → Int64) (kd ln : Nat → Nat) (R : Nat → Nat → Option Nat) : zc_T := fun v1 kd1 ln1 I1 L1 R1 => V = v1 ∧ kd = kd1 ∧ ln = ln1 ∧ R = R1 ∧ zoR X ad m9 q9 kd ln I1 L1 R
theorem zo_k7 : ∀ j, j < 37 → zo_k j ≠ 7 := by decide +kernel
section ZOR
variable {X : Nat} {ad : Nat → Nat} {m9 : Nat → Nat → Int32} {q9 : Nat → Nat → Int64} {kd ln : Nat → Nat} {I : Nat → Nat → Int32} {L : Nat → Nat → Int64} {R : Nat → Nat → Option Nat}
theorem zoR_xne (h : zoR X ad m9 q9 kd ln I L R) (j : Nat) (h1 : j < 37) (h2 : zo_k j ≠ 0) : X ≠ ad j := fun e => zo_k7 j h1 (by rw [← (h.1.2.1 j h1 h2).2.1, ← e, h.1.1])
theorem zoR_I (h : zoR X ad m9 q9 kd ln I L R) (j : Nat) (hd : j < 37 ∧ zo_k j ≠ 0 ∧ zo_k j ≠ 101) (k : Nat) (x : Int32) : zoR X ad (zu m9 j k x) q9 kd ln (zu I (ad j) k x) L R := by
  refine ⟨h.1, fun i h1 h2 h3 => ?_, ?_, h.2.2.2⟩
  · by_cases e : i = j
    · subst e
      rw [zu_at, zu_at, h.2.1 i h1 h2 h3]
    · rw [zu_ne _ _ _ (zo_ne h.1 i j ⟨h1, hd.1, h2, hd.2.1, e⟩), zu_ne _ _ _ e, h.2.1 i h1 h2 h3]
  · rw [zu_ne _ _ _ (zoR_xne h j hd.1 hd.2.1), zu_ne _ _ _ (by omega), h.2.2.1]
theorem zoR_X (h : zoR X ad m9 q9 kd ln I L R) (k : Nat) (x : Int32) : zoR X ad (zu m9 40 k x) q9 kd ln (zu I X k x) L R := by
  refine ⟨h.1, fun i h1 h2 h3 => ?_, ?_, h.2.2.2⟩
  · rw [zu_ne _ _ _ (Ne.symm (zoR_xne h i h1 h2)), zu_ne _ _ _ (by omega), h.2.1 i h1 h2 h3]
  · rw [zu_at, zu_at, h.2.2.1]
theorem zoR_L (h : zoR X ad m9 q9 kd ln I L R) (j : Nat) (hd : j < 37 ∧ zo_k j = 101) (k : Nat) (x : Int64) : zoR X ad m9 (zu q9 j k x) kd ln I (zu L (ad j) k x) R := by
  refine ⟨h.1, h.2.1, h.2.2.1, fun i h1 h2 => ?_⟩
  by_cases e : i = j
  · subst e
    rw [zu_at, zu_at, h.2.2.2 i h1 h2]
  · rw [zu_ne _ _ _ (zo_ne h.1 i j ⟨h1, hd.1, by omega, by omega, e⟩), zu_ne _ _ _ e, h.2.2.2 i h1 h2]
end ZOR
/-- an array whose places below i have been made anew -/
def zo_map {α : Type} (f g : Nat → α) (i : Nat) : Nat → α := fun s => if s < i then g s else f s
theorem zo_map_0 {α : Type} (I : Nat → Nat → α) (a : Nat) (g : Nat → α) : va_up I a (zo_map (I a) g 0) = I := by
  have e : zo_map (I a) g 0 = I a := by
    funext s
    unfold zo_map
    rw [if_neg (by omega)]
  rw [e]
  funext b
  by_cases h : b = a
  · subst h
    rw [va_up_self]
  · rw [va_up_ne _ _ h]
theorem zo_map_s {α : Type} (I : Nat → Nat → α) (a : Nat) (f g : Nat → α) (i : Nat) : zu (va_up I a (zo_map f g i)) a i (g i) = va_up I a (zo_map f g (i + 1)) := by
  funext b s
  by_cases h : b = a
  · subst h
    rw [zu_at, va_up_self, va_up_self]
    by_cases e : s = i
    · subst e
      rw [va_up_self]
      unfold zo_map
      rw [if_pos (by omega)]
    · rw [va_up_ne _ _ e]
      unfold zo_map
      by_cases h2 : s < i
      · rw [if_pos h2, if_pos (by omega)]
      · rw [if_neg h2, if_neg (by omega)]
  · rw [zu_ne _ _ _ h, va_up_ne _ _ h, va_up_ne _ _ h]
theorem zo_map_at {α : Type} (f g : Nat → α) (i : Nat) : zo_map f g i i = f i := by
  unfold zo_map
  rw [if_neg (by omega)]
theorem zo_map_lt {α : Type} (f g : Nat → α) {i s : Nat} (h : s < i) : zo_map f g i s = g s := if_pos h
theorem zt_add0 (x : Int32) : x + nI 0 = x := by
  apply Int32.toBitVec_inj.mp
  show x.toBitVec + 0#32 = x.toBitVec
  simp
theorem zu_up {α : Type} (f : Nat → Nat → α) (a k : Nat) (g : Nat → α) (x : α) : zu (va_up f a g) a k x = va_up f a (va_up g k x) := by
  funext b j
  by_cases h : b = a
  · subst h
    rw [zu_at, va_up_self, va_up_self]
  · rw [zu_ne _ _ _ h, va_up_ne _ _ h, va_up_ne _ _ h]
theorem up_id {α : Type} (f : Nat → α) (a : Nat) : va_up f a (f a) = f := by
  funext b
  by_cases h : b = a
  · subst h
    rw [va_up_self]
  · rw [va_up_ne _ _ h]
theorem zu_id {α : Type} (f : Nat → Nat → α) (a k : Nat) : zu f a k (f a k) = f := by
  funext b j
  rw [zu_if]
  by_cases h : b = a ∧ j = k
  · rw [if_pos h, h.1, h.2]
  · rw [if_neg h]
theorem zu3 (I : Nat → Nat → Int32) (X : Nat) (a b d a1 b1 d1 : Int32) : zu (zu (zu (zu (zu (zu I X 4 a) X 5 b) X 6 d) X 4 a1) X 5 b1) X 6 d1 = zu (zu (zu I X 4 a1) X 5 b1) X 6 d1 := by
  funext x j
  simp only [zu_if]
  by_cases hx : x = X
  · by_cases h6 : j = 6
    · simp [hx, h6]
    · by_cases h5 : j = 5
      · simp [hx, h5]
      · by_cases h4 : j = 4
        · simp [hx, h4]
        · simp [hx, h6, h5, h4]
  · simp [hx]
theorem zu3_id (I : Nat → Nat → Int32) (X : Nat) : zu (zu (zu I X 4 (I X 4)) X 5 (I X 5)) X 6 (I X 6) = I := by
  rw [zu_id, zu_id, zu_id]
def zo_m (p : Nat) : Nat := if p % 5 < p / 5 % 6 then p % 5 else p % 5 + 1
theorem zo_m_le {p : Nat} : zo_m p ≤ 5 := by
  unfold zo_m
  split <;> omega
def zo_mis (off pale blank : Int32) (m v : Nat) : Int32 := if off = nI m then nI 1 else if pale = nI m then (if (blank >>> ((nI (v / 16)) &&& 31)) &&& (nI 1) = nI 1 then nI 1 else nI 0) else nI 0
/-- the lost module as the class and as the reference have it -/
def zq_rel (lm lo fr off pale blank : Int32) : Prop := (lm = (-1) ∧ off = (-1) ∧ blank = nI 0) ∨ (∃ m, m < 6 ∧ lm = nI m ∧ lo = nI 1 ∧ fr = nI 0 ∧ off = nI m ∧ blank = nI 0) ∨ ∃ m r, m < 6 ∧ r < 8 ∧ lm = nI m ∧ lo = nI 0 ∧ fr = nI r ∧ off = (-1) ∧ pale = nI m ∧ blank = nI (256 - 2 ^ r)
theorem zq_bl0 : ∀ q, q < 8 → ¬ ((nI 0) >>> ((nI q) &&& 31)) &&& (nI 1) = nI 1 := by decide +kernel
theorem zq_blr : ∀ r, r < 8 → ∀ q, q < 8 → (((nI (256 - 2 ^ r)) >>> ((nI q) &&& 31)) &&& (nI 1) = nI 1 ↔ r ≤ q) := by decide +kernel
theorem zq_m1 : ∀ m, m < 6 → ¬ nI m = (-1) := by decide +kernel
theorem zq_mis {lm lo fr off pale blank : Int32} (h : zq_rel lm lo fr off pale blank) {m v : Nat} (hm : m < 6) (hv : v < 128) : zo_mis off pale blank m v = zb_mis lm fr m v := by
  have hq : v / 16 < 8 := by omega
  unfold zo_mis zb_mis
  rcases h with ⟨rfl, rfl, rfl⟩ | ⟨k, hk, rfl, rfl, rfl, rfl, rfl⟩ | ⟨k, r, hk, hr, rfl, rfl, rfl, rfl, rfl, rfl⟩
  · rw [if_neg (fun e => zq_m1 m hm e.symm), if_neg (zq_bl0 _ hq), if_neg (zq_m1 m hm)]
    simp
  · by_cases e : k = m
    · subst e
      rw [if_pos rfl, if_pos rfl, if_neg (nI_nlt (Nat.zero_le _) (by omega))]
    · rw [if_neg (fun q => e ((nI_eq (by omega) (by omega)).mp q)), if_neg (fun q => e ((nI_eq (by omega) (by omega)).mp q).symm), if_neg (zq_bl0 _ hq)]
      simp
  · rw [if_neg (fun e => zq_m1 m hm e.symm)]
    by_cases e : k = m
    · subst e
      rw [if_pos rfl, if_pos rfl]
      by_cases g : r ≤ v / 16
      · rw [if_pos ((zq_blr r hr _ hq).mpr g), if_neg (nI_nlt g (by omega))]
      · rw [if_neg (fun q => g ((zq_blr r hr _ hq).mp q)), if_pos (nI_lt (by omega) (by omega))]
    · rw [if_neg (fun q => e ((nI_eq (by omega) (by omega)).mp q)), if_neg (fun q => e ((nI_eq (by omega) (by omega)).mp q).symm)]
/-! scrubbing: corrected, mended, the next word, the flips -/
def zq_s1 (q : Int32 × Int32 × Nat × (Nat → Int64)) : Int32 × Int32 × Nat × (Nat → Int64) := (if zq_bc (q.2.2.2 q.2.2.1) 39 = 1 then q.1 + nI 1 else q.1, if zq_bc (q.2.2.2 q.2.2.1) 39 = 2 then q.2.1 + nI 1 else q.2.1, (q.2.2.1 + 1) % 768, va_up q.2.2.2 q.2.2.1 0)
def zq_sn : Nat → Int32 × Int32 × Nat × (Nat → Int64) → Int32 × Int32 × Nat × (Nat → Int64)
  | 0, q => q
  | n + 1, q => zq_sn n (zq_s1 q)
def zq_dn : Nat → Int32 × Int32 × Nat × (Nat → Int64) → Nat
  | 0, _ => 0
  | n + 1, q => (if zq_bc (q.2.2.2 q.2.2.1) 39 = 0 then 0 else 1) + zq_dn n (zq_s1 q)

set_option maxHeartbeats 4000000 in
set_option maxRecDepth 100000 in
/-- moduleOf -/
theorem c_Mod_moduleOf {l : Launch} {D : va_G} {cA : Nat → ClassId} {te mi : Nat} {kd ln : Nat → Nat} {I : Nat → Nat → Int32} {L : Nat → Nat → Int64} {R : Nat → Nat → Option Nat} {p9 : Nat} (hp9 : p9 < 40) : zc_M l y_Mod_moduleOf w_Mod_moduleOf { frames := 0, cells := 0, slots := 0, locals := 0 } 0 0 D cA te mi ([.int (nI p9)] : List Value) kd ln I L R (zc_eq (some (.int (nI (zo_m p9)))) kd ln I L R) := by
  intro sz
  refine Met.ofW (cc := b_Mod_moduleOf) (maxL := 2) (ret := (some (.int))) (by decide +kernel) rfl ?_
  intro p e s m args below meth c s₁ B hml hv
  obtain ⟨rfl, hsz, hSc, hE, hH⟩ := hv
  have hx := B.exec
  have hb := B.bytes
  have hr := B.returns
  have hts := atoms_spec (ws := w_Mod_moduleOf) B.pre
  have hw : ∀ {w : Cond}, w ∈ zw → w.before ([.int (nI p9)] : List Value).toArray s = true := fun h => hts _ (List.mem_cons_of_mem _ h)
  have hown : s.vm.findClass R_Mod = some m.cls := findClass_of_methodNamed B.named
  have hlocks := B.notSynchronized
  subst hsz
  have hK := hSc.1
  have hH : zh_H D cA (zc_A kd s.heap.size) kd ln I L R s.heap := hH.weaken (fun q h _ => Or.inl h)
  generalize hAe : zc_A kd s.heap.size = A at hH hE ⊢
  have hA : ∀ q : Nat, s.heap.size ≤ q → A q := fun q h => by rw [← hAe]; exact Or.inr h
  have hS : va_S A s.heap s.heap [] := va_S.rf
  have hl := lv_entry ([.int (nI p9)] : List Value) (n := 2) (Nat.le_of_ble_eq_true rfl)
  rw [lg_entry_eq]
  generalize (lg_sl ([.int (nI p9)] : List Value) ++ List.replicate (2 - (lg_sl ([.int (nI p9)] : List Value)).length) Slot.unset).toArray = ls at hl ⊢
  have hl : lv_has ls 2 [(0, .int (nI p9))] := hl
  refine lv_iload_n hx hb d_Mod_moduleOf_0 rfl (lv_at hl 0 rfl) ?_
  refine lv_iconst (v := nI 5) hx hb d_Mod_moduleOf_1 (by decide) ?_
  refine lv_idiv hx hb d_Mod_moduleOf_2 (zt_ne0 (by omega) (by omega)) ?_
  refine zt_i (y := nI (p9 / 5)) (pk_div (by omega) (by omega) (by omega)) ?_
  refine lv_bipush (v := nI 6) hx hb d_Mod_moduleOf_3 (by decide) ?_
  refine lv_irem hx hb d_Mod_moduleOf_5 (zt_ne0 (by omega) (by omega)) ?_
  refine zt_i (y := nI ((p9 / 5) % 6)) (pk_rem (by omega) (by omega) (by omega)) ?_
  refine lv_istore_n (lv' := [(1, .int (nI ((p9 / 5) % 6))), (0, .int (nI p9))]) hx hb d_Mod_moduleOf_6 rfl hl (by decide) rfl (fun ls hl => ?_)
  refine lv_iload_n hx hb d_Mod_moduleOf_7 rfl (lv_at hl 1 rfl) ?_
  refine lv_iconst (v := nI 5) hx hb d_Mod_moduleOf_8 (by decide) ?_
  refine lv_irem hx hb d_Mod_moduleOf_9 (zt_ne0 (by omega) (by omega)) ?_
  refine zt_i (y := nI (p9 % 5)) (pk_rem (by omega) (by omega) (by omega)) ?_
  refine lv_iload_n hx hb d_Mod_moduleOf_10 rfl (lv_at hl 0 rfl) ?_
  refine lv_icmp_ge (tgt := 20) hx hb d_Mod_moduleOf_11 (by decide) (fun hc1 => ?_) (fun hc1 => ?_)
  · skip
    have hc1 := zt_geT (a := (p9 % 5)) (b := ((p9 / 5) % 6)) (by omega) (by omega) hc1
    refine lv_iload_n hx hb d_Mod_moduleOf_20 rfl (lv_at hl 1 rfl) ?_
    refine lv_iconst (v := nI 5) hx hb d_Mod_moduleOf_21 (by decide) ?_
    refine lv_irem hx hb d_Mod_moduleOf_22 (zt_ne0 (by omega) (by omega)) ?_
    refine zt_i (y := nI (p9 % 5)) (pk_rem (by omega) (by omega) (by omega)) ?_
    refine lv_iconst (v := nI 1) hx hb d_Mod_moduleOf_23 (by decide) ?_
    refine lv_iadd hx hb d_Mod_moduleOf_24 ?_
    refine zt_i (y := nI (p9 % 5 + 1)) (nI_add (p9 % 5) 1) ?_
    refine W.widen (k := 0) (n := 0) (Nat.le_of_ble_eq_true rfl) (Nat.le_of_ble_eq_true rfl) ?_
    subst hAe
    exact W.iret (v := nI (p9 % 5 + 1)) hx hb hr (fun t ht hW => zc_end hS hH ht (⟨by rw [zo_m]; first | rw [if_pos (by omega)] | rw [if_neg (by omega)], rfl, rfl, rfl, rfl, rfl⟩)) hS.2.2 d_Mod_moduleOf_25
  · skip
    have hc1 := zt_geF (a := (p9 % 5)) (b := ((p9 / 5) % 6)) (by omega) (by omega) hc1
    refine lv_iload_n hx hb d_Mod_moduleOf_14 rfl (lv_at hl 1 rfl) ?_
    refine lv_iconst (v := nI 5) hx hb d_Mod_moduleOf_15 (by decide) ?_
    refine lv_irem hx hb d_Mod_moduleOf_16 (zt_ne0 (by omega) (by omega)) ?_
    refine zt_i (y := nI (p9 % 5)) (pk_rem (by omega) (by omega) (by omega)) ?_
    refine lv_goto (tgt := 25) hx hb d_Mod_moduleOf_17 (by decide) ?_
    refine W.widen (k := 0) (n := 0) (Nat.le_of_ble_eq_true rfl) (Nat.le_of_ble_eq_true rfl) ?_
    subst hAe
    exact W.iret (v := nI (p9 % 5)) hx hb hr (fun t ht hW => zc_end hS hH ht (⟨by rw [zo_m]; first | rw [if_pos (by omega)] | rw [if_neg (by omega)], rfl, rfl, rfl, rfl, rfl⟩)) hS.2.2 d_Mod_moduleOf_25

set_option maxHeartbeats 4000000 in
set_option maxRecDepth 100000 in
/-- write -/
theorem c_Mod_write {l : Launch} {D : va_G} {cA : Nat → ClassId} {te mi : Nat} {kd ln : Nat → Nat} {I : Nat → Nat → Int32} {L : Nat → Nat → Int64} {R : Nat → Nat → Option Nat} {X : Nat} {ad : Nat → Nat} {m9 : Nat → Nat → Int32} {q9 : Nat → Nat → Int64} (hm : zoR X ad m9 q9 kd ln I L R) {p9 w9 : Nat} (hp9 : p9 < 40) (hw9 : w9 < 16) : zc_M l y_Mod_write w_Mod_write { frames := 1, cells := 0, slots := 0, locals := 21 } 0 0 D cA te mi ([.ref X, .int (nI p9), .int (nI w9)] : List Value) kd ln I L R (zo_P none X ad m9 (zb_wr 0 p9 w9 q9) kd ln R) := by
  intro sz
  refine Met.ofW (cc := b_Mod_write) (maxL := 4) (ret := none) (by decide +kernel) rfl ?_
  intro p e s m args below meth c s₁ B hml hv
  obtain ⟨rfl, hsz, hSc, hE, hH⟩ := hv
  have hx := B.exec
  have hb := B.bytes
  have hr := B.returns
  have hts := atoms_spec (ws := w_Mod_write) B.pre
  have hw : ∀ {w : Cond}, w ∈ zw → w.before ([.ref X, .int (nI p9), .int (nI w9)] : List Value).toArray s = true := fun h => hts _ (List.mem_cons_of_mem _ h)
  have hown : s.vm.findClass R_Mod = some m.cls := findClass_of_methodNamed B.named
  have hlocks := B.notSynchronized
  subst hsz
  have hK := hSc.1
  have hH : zh_H D cA (zc_A kd s.heap.size) kd ln I L R s.heap := hH.weaken (fun q h _ => Or.inl h)
  generalize hAe : zc_A kd s.heap.size = A at hH hE ⊢
  have hA : ∀ q : Nat, s.heap.size ≤ q → A q := fun q h => by rw [← hAe]; exact Or.inr h
  have hS : va_S A s.heap s.heap [] := va_S.rf
  have hl := lv_entry ([.ref X, .int (nI p9), .int (nI w9)] : List Value) (n := 4) (Nat.le_of_ble_eq_true rfl)
  rw [lg_entry_eq]
  generalize (lg_sl ([.ref X, .int (nI p9), .int (nI w9)] : List Value) ++ List.replicate (4 - (lg_sl ([.ref X, .int (nI p9), .int (nI w9)] : List Value)).length) Slot.unset).toArray = ls at hl ⊢
  have hl : lv_has ls 4 [(0, .ref X), (1, .int (nI p9)), (2, .int (nI w9))] := hl
  have k0 : kd (ad 0) = 101 := (hm.1.2.1 0 (by decide) (by decide)).2.1
  have n0 : ln (ad 0) = 768 := (hm.1.2.1 0 (by decide) (by decide)).2.2
  have r0 : R X 0 = some (ad 0) := (hm.1.2.1 0 (by decide) (by decide)).1
  have hzm := zo_m_le (p := p9)
  refine lv_iload_n hx hb d_Mod_write_0 rfl (lv_at hl 1 rfl) ?_
  refine lv_iconst (v := nI 5) hx hb d_Mod_write_1 (by decide) ?_
  refine lv_idiv hx hb d_Mod_write_2 (zt_ne0 (by omega) (by omega)) ?_
  refine zt_i (y := nI (p9 / 5)) (pk_div (by omega) (by omega) (by omega)) ?_
  refine lv_istore_n (lv' := [(3, .int (nI (p9 / 5))), (0, .ref X), (1, .int (nI p9)), (2, .int (nI w9))]) hx hb d_Mod_write_3 rfl hl (by decide) rfl (fun ls hl => ?_)
  refine lv_aload_n hx hb d_Mod_write_4 rfl (lv_at hl 1 rfl) ?_
  refine zr_getr (ci := 6) (C := R_Mod) (T := T_Mod) (N := 37) (ref := "ScrubbedRecorderModel") hx hb hts (fun w h => List.mem_cons_of_mem _ (zin_Mod w h)) hown hK hH hm.1.1 (by decide) rfl 0 (by decide) rfl (hw zw_599) (fun _ h9 => h9) d_Mod_write_5 (by rw [r0]) ?_
  refine lv_sipush (v := nI 128) hx hb d_Mod_write_8 (by decide) ?_
  refine lv_iload_n hx hb d_Mod_write_11 rfl (lv_at hl 2 rfl) ?_
  refine zr_St (As := ([.int (nI p9)] : List Value)) (rest := [.int (nI 128), .ref (ad 0)]) ⟨hx, hb, hml, hown, hts⟩ (c_Mod_moduleOf (by omega)) ⟨(callB_of 1 hts (zg_all zw_768) rfl rfl rfl (hw zw_3) (hw zw_766) k_Mod_moduleOf.2 ⟨Nat.le_of_ble_eq_true rfl, Nat.le_of_ble_eq_true rfl⟩), hw zw_767⟩ hSc hE hH hS hA rfl hl.1 rfl (Nat.le_of_ble_eq_true rfl) d_Mod_write_12 ⟨Nat.le_of_ble_eq_true rfl, Nat.le_of_ble_eq_true rfl⟩ (fun v1 kd1 ln1 I1 L1 R1 H locs hp hH hS => ?_)
  obtain ⟨rfl, rfl, rfl, rfl, rfl, rfl⟩ := hp
  refine W.eq (g2 := F0 m 15 ls [.int (nI (zo_m p9)), .int (nI 128), .ref (ad 0)]) rfl ?_
  refine W.widen (k := 0) (n := 0) (by omega) (by omega) ?_
  refine lv_imul hx hb d_Mod_write_15 ?_
  refine zt_i (y := nI (128 * (zo_m p9))) (pk_mul 128 (zo_m p9)) ?_
  refine lv_bipush (v := nI 16) hx hb d_Mod_write_16 (by decide) ?_
  refine lv_iload_n hx hb d_Mod_write_18 rfl (lv_at hl 0 rfl) ?_
  refine lv_imul hx hb d_Mod_write_19 ?_
  refine zt_i (y := nI (16 * (p9 / 5))) (pk_mul 16 (p9 / 5)) ?_
  refine lv_iadd hx hb d_Mod_write_20 ?_
  refine zt_i (y := nI (128 * (zo_m p9) + (16 * (p9 / 5)))) (nI_add (128 * (zo_m p9)) (16 * (p9 / 5))) ?_
  refine lv_iload_n hx hb d_Mod_write_21 rfl (lv_at hl 3 rfl) ?_
  refine lv_iadd hx hb d_Mod_write_22 ?_
  refine zt_i (y := nI (128 * (zo_m p9) + (16 * (p9 / 5)) + w9)) (nI_add (128 * (zo_m p9) + (16 * (p9 / 5))) w9) ?_
  refine lv_lconst (v := 0) hx hb d_Mod_write_23 (by decide) ?_
  refine zr_astl (j := 128 * (zo_m p9) + (16 * (p9 / 5)) + w9) (y := 0) hx hb hK hH hS k0 rfl (by rw [n0]; exact zh_ix_n (by omega) (by omega)) d_Mod_write_24 (fun H locs hH hS => ?_)
  have hm := zoR_L hm 0 (by decide) (128 * (zo_m p9) + (16 * (p9 / 5)) + w9) 0
  generalize zu L (ad 0) (128 * (zo_m p9) + (16 * (p9 / 5)) + w9) 0 = L2 at hm hH
  refine lv_aload_n hx hb d_Mod_write_25 rfl (lv_at hl 1 rfl) ?_
  refine zr_getr (ci := 6) (C := R_Mod) (T := T_Mod) (N := 37) (ref := "ScrubbedRecorderModel") hx hb hts (fun w h => List.mem_cons_of_mem _ (zin_Mod w h)) hown hK hH hm.1.1 (by decide) rfl 0 (by decide) rfl (hw zw_599) (fun _ h9 => h9) d_Mod_write_26 (by rw [r0]) ?_
  refine lv_sipush (v := nI 128) hx hb d_Mod_write_29 (by decide) ?_
  refine lv_iload_n hx hb d_Mod_write_32 rfl (lv_at hl 0 rfl) ?_
  refine lv_bipush (v := nI 6) hx hb d_Mod_write_33 (by decide) ?_
  refine lv_irem hx hb d_Mod_write_35 (zt_ne0 (by omega) (by omega)) ?_
  refine zt_i (y := nI ((p9 / 5) % 6)) (pk_rem (by omega) (by omega) (by omega)) ?_
  refine lv_imul hx hb d_Mod_write_36 ?_
  refine zt_i (y := nI (128 * ((p9 / 5) % 6))) (pk_mul 128 ((p9 / 5) % 6)) ?_
  refine lv_bipush (v := nI 16) hx hb d_Mod_write_37 (by decide) ?_
  refine lv_iload_n hx hb d_Mod_write_39 rfl (lv_at hl 0 rfl) ?_
  refine lv_imul hx hb d_Mod_write_40 ?_
  refine zt_i (y := nI (16 * (p9 / 5))) (pk_mul 16 (p9 / 5)) ?_
  refine lv_iadd hx hb d_Mod_write_41 ?_
  refine zt_i (y := nI (128 * ((p9 / 5) % 6) + (16 * (p9 / 5)))) (nI_add (128 * ((p9 / 5) % 6)) (16 * (p9 / 5))) ?_
  refine lv_iload_n hx hb d_Mod_write_42 rfl (lv_at hl 3 rfl) ?_
  refine lv_iadd hx hb d_Mod_write_43 ?_
  refine zt_i (y := nI (128 * ((p9 / 5) % 6) + (16 * (p9 / 5)) + w9)) (nI_add (128 * ((p9 / 5) % 6) + (16 * (p9 / 5))) w9) ?_
  refine lv_lconst (v := 0) hx hb d_Mod_write_44 (by decide) ?_
  refine zr_astl (j := 128 * ((p9 / 5) % 6) + (16 * (p9 / 5)) + w9) (y := 0) hx hb hK hH hS k0 rfl (by rw [n0]; exact zh_ix_n (by omega) (by omega)) d_Mod_write_45 (fun H locs hH hS => ?_)
  have hm := zoR_L hm 0 (by decide) (128 * ((p9 / 5) % 6) + (16 * (p9 / 5)) + w9) 0
  generalize zu L2 (ad 0) (128 * ((p9 / 5) % 6) + (16 * (p9 / 5)) + w9) 0 = L3 at hm hH
  rw [show 128 * (zo_m p9) + (16 * (p9 / 5)) + w9 = zb_wx p9 w9 by unfold zb_wx zo_m; split <;> omega, show 128 * ((p9 / 5) % 6) + (16 * (p9 / 5)) + w9 = zb_wy p9 w9 by unfold zb_wy; omega] at hm
  refine W.widen (k := 0) (n := 0) (Nat.le_of_ble_eq_true rfl) (Nat.le_of_ble_eq_true rfl) ?_
  subst hAe
  exact W.vret hx hb hr (fun t ht hW => zc_end hS hH ht (⟨rfl, rfl, rfl, rfl, hm⟩)) hS.2.2 d_Mod_write_46

set_option maxHeartbeats 4000000 in
set_option maxRecDepth 100000 in
/-- bitsIn -/
theorem c_Mod_bitsIn {l : Launch} {D : va_G} {cA : Nat → ClassId} {te mi : Nat} {kd ln : Nat → Nat} {I : Nat → Nat → Int32} {L : Nat → Nat → Int64} {R : Nat → Nat → Option Nat} {x : Int64} : zc_M l y_Mod_bitsIn w_Mod_bitsIn { frames := 0, cells := 0, slots := 0, locals := 0 } 0 0 D cA te mi ([.long x] : List Value) kd ln I L R (zc_eq (some (.int (nI (zq_bc x 39)))) kd ln I L R) := by
  intro sz
  refine Met.ofW (cc := b_Mod_bitsIn) (maxL := 4) (ret := (some (.int))) (by decide +kernel) rfl ?_
  intro p e s m args below meth c s₁ B hml hv
  obtain ⟨rfl, hsz, hSc, hE, hH⟩ := hv
  have hx := B.exec
  have hb := B.bytes
  have hr := B.returns
  have hts := atoms_spec (ws := w_Mod_bitsIn) B.pre
  have hw : ∀ {w : Cond}, w ∈ zw → w.before ([.long x] : List Value).toArray s = true := fun h => hts _ (List.mem_cons_of_mem _ h)
  have hown : s.vm.findClass R_Mod = some m.cls := findClass_of_methodNamed B.named
  have hlocks := B.notSynchronized
  subst hsz
  have hK := hSc.1
  have hH : zh_H D cA (zc_A kd s.heap.size) kd ln I L R s.heap := hH.weaken (fun q h _ => Or.inl h)
  generalize hAe : zc_A kd s.heap.size = A at hH hE ⊢
  have hA : ∀ q : Nat, s.heap.size ≤ q → A q := fun q h => by rw [← hAe]; exact Or.inr h
  have hS : va_S A s.heap s.heap [] := va_S.rf
  have hl := lv_entry ([.long x] : List Value) (n := 4) (Nat.le_of_ble_eq_true rfl)
  rw [lg_entry_eq]
  generalize (lg_sl ([.long x] : List Value) ++ List.replicate (4 - (lg_sl ([.long x] : List Value)).length) Slot.unset).toArray = ls at hl ⊢
  have hl : lv_has ls 4 [(0, .long x)] := hl
  refine lv_iconst (v := nI 0) hx hb d_Mod_bitsIn_0 (by decide) ?_
  refine lv_istore_n (lv' := [(2, .int (nI 0)), (0, .long x)]) hx hb d_Mod_bitsIn_1 rfl hl (by decide) rfl (fun ls hl => ?_)
  refine lv_iconst (v := nI 0) hx hb d_Mod_bitsIn_2 (by decide) ?_
  refine lv_istore_n (lv' := [(3, .int (nI 0)), (2, .int (nI 0)), (0, .long x)]) hx hb d_Mod_bitsIn_3 rfl hl (by decide) rfl (fun ls hl => ?_)
  have loop_4 : ∀ (z : Nat) (i : Nat) (H : Heap) (locs : List Loc) (ls : Array Slot), 39 - i < z → (i ≤ 39) → lv_has ls 4 [(0, .long x), (2, .int (nI (zq_bc x i))), (3, .int (nI i))] → zh_H D cA A kd ln I L R H → va_S A s.heap H locs → W p l e (headSpec w_Mod_bitsIn { frames := 0, cells := 0, slots := 0, locals := 0 }).room s m ([.long x] : List Value).toArray below meth c H locs 0 0 (MQ below (zc_Qc D cA A (zc_eq (some (.int (nI (zq_bc x 39)))) kd ln I L R)) ([.long x] : List Value).toArray s 0 0 A) (F0 m 4 ls []) := by
    intro z
    induction z with
    | zero => intro i H locs ls hz; exact absurd hz (Nat.not_lt_zero _)
    | succ z ih_4 =>
      intro i H locs ls hz_4 hi hl hH hS
      have hbc := zq_bc_le x i
      refine lv_iload_n hx hb d_Mod_bitsIn_4 rfl (lv_at hl 2 rfl) ?_
      refine lv_bipush (v := nI 39) hx hb d_Mod_bitsIn_5 (by decide) ?_
      refine lv_icmp_ge (tgt := 34) hx hb d_Mod_bitsIn_7 (by decide) (fun hc1 => ?_) (fun hc1 => ?_)
      · skip
        have hc1 := zt_geT (a := i) (b := 39) (by omega) (by omega) hc1
        refine lv_iload_n hx hb d_Mod_bitsIn_34 rfl (lv_at hl 1 rfl) ?_
        refine W.widen (k := 0) (n := 0) (Nat.le_of_ble_eq_true rfl) (Nat.le_of_ble_eq_true rfl) ?_
        subst hAe
        exact W.iret (v := nI (zq_bc x i)) hx hb hr (fun t ht hW => zc_end hS hH ht (⟨by rw [show i = 39 by omega], rfl, rfl, rfl, rfl, rfl⟩)) hS.2.2 d_Mod_bitsIn_35
      · skip
        have hc1 := zt_geF (a := i) (b := 39) (by omega) (by omega) hc1
        refine lv_iload_n hx hb d_Mod_bitsIn_10 rfl (lv_at hl 1 rfl) ?_
        refine lv_lload_n hx hb d_Mod_bitsIn_11 rfl (lv_at hl 0 rfl) ?_
        refine lv_iload_n hx hb d_Mod_bitsIn_12 rfl (lv_at hl 2 rfl) ?_
        refine lv_lshr (v := x >>> ((nI i).toInt64 &&& 63)) hx hb d_Mod_bitsIn_13 rfl ?_
        refine lv_lconst (v := 1) hx hb d_Mod_bitsIn_14 (by decide) ?_
        refine lv_land hx hb d_Mod_bitsIn_15 ?_
        refine lv_lconst (v := 1) hx hb d_Mod_bitsIn_16 (by decide) ?_
        refine W.lcmp hx hb d_Mod_bitsIn_17 ?_
        refine lv_if_ne (tgt := 25) hx hb d_Mod_bitsIn_18 (by decide) (fun hc2 => ?_) (fun hc2 => ?_)
        · skip
          have hc2 : ¬ (lg_cmp ((x >>> ((nI i).toInt64 &&& 63)) &&& 1) 1) = (nI 0) := hc2
          refine lv_iconst (v := nI 0) hx hb d_Mod_bitsIn_25 (by decide) ?_
          refine lv_iadd hx hb d_Mod_bitsIn_26 ?_
          refine zt_i (y := nI (zq_bc x i + 0)) (nI_add (zq_bc x i) 0) ?_
          refine lv_istore_n (lv' := [(2, .int (nI (zq_bc x i + 0))), (0, .long x), (3, .int (nI i))]) hx hb d_Mod_bitsIn_27 rfl hl (by decide) rfl (fun ls hl => ?_)
          refine lv_iinc (k := 2) (v := nI (i + 1)) (lv' := [(3, .int (nI (i + 1))), (2, .int (nI (zq_bc x i + 0))), (0, .long x)]) hx hb d_Mod_bitsIn_28 hl rfl (nI_add i 1) (by decide) rfl (fun ls hl => ?_)
          refine lv_goto (tgt := 4) hx hb d_Mod_bitsIn_31 (by decide) ?_
          have e3 : zq_bc x (i + 1) = zq_bc x i + 0 := by show zq_bc x i + _ = _; rw [if_neg hc2]
          have hl : lv_has ls 4 [(3, .int (nI (i + 1))), (2, .int (nI (zq_bc x (i + 1)))), (0, .long x)] := by rw [e3]; exact hl
          exact ih_4 (i + 1) _ _ _ (by omega) (by omega) (lv_sub hl [2, 1, 0] rfl) hH hS
        · skip
          have hc2 : (lg_cmp ((x >>> ((nI i).toInt64 &&& 63)) &&& 1) 1) = (nI 0) := hc2
          refine lv_iconst (v := nI 1) hx hb d_Mod_bitsIn_21 (by decide) ?_
          refine lv_goto (tgt := 26) hx hb d_Mod_bitsIn_22 (by decide) ?_
          refine lv_iadd hx hb d_Mod_bitsIn_26 ?_
          refine zt_i (y := nI (zq_bc x i + 1)) (nI_add (zq_bc x i) 1) ?_
          refine lv_istore_n (lv' := [(2, .int (nI (zq_bc x i + 1))), (0, .long x), (3, .int (nI i))]) hx hb d_Mod_bitsIn_27 rfl hl (by decide) rfl (fun ls hl => ?_)
          refine lv_iinc (k := 2) (v := nI (i + 1)) (lv' := [(3, .int (nI (i + 1))), (2, .int (nI (zq_bc x i + 1))), (0, .long x)]) hx hb d_Mod_bitsIn_28 hl rfl (nI_add i 1) (by decide) rfl (fun ls hl => ?_)
          refine lv_goto (tgt := 4) hx hb d_Mod_bitsIn_31 (by decide) ?_
          have e4 : zq_bc x (i + 1) = zq_bc x i + 1 := by show zq_bc x i + _ = _; rw [if_pos hc2]
          have hl : lv_has ls 4 [(3, .int (nI (i + 1))), (2, .int (nI (zq_bc x (i + 1)))), (0, .long x)] := by rw [e4]; exact hl
          exact ih_4 (i + 1) _ _ _ (by omega) (by omega) (lv_sub hl [2, 1, 0] rfl) hH hS
  exact loop_4 _ 0 _ _ _ (Nat.lt_succ_self _) (by omega) (lv_sub hl [2, 1, 0] rfl) hH hS

set_option maxHeartbeats 4000000 in
set_option maxRecDepth 100000 in
/-- isMissing -/
theorem c_Mod_isMissing {l : Launch} {D : va_G} {cA : Nat → ClassId} {te mi : Nat} {kd ln : Nat → Nat} {I : Nat → Nat → Int32} {L : Nat → Nat → Int64} {R : Nat → Nat → Option Nat} {X : Nat} {ad : Nat → Nat} {m9 : Nat → Nat → Int32} {q9 : Nat → Nat → Int64} (hm : zoR X ad m9 q9 kd ln I L R) {a9 v : Nat} (hv9 : v < 2 ^ 31) : zc_M l y_Mod_isMissing w_Mod_isMissing { frames := 0, cells := 0, slots := 0, locals := 0 } 0 0 D cA te mi ([.ref X, .int (nI a9), .int (nI v)] : List Value) kd ln I L R (zo_P (some (.int (zo_mis (m9 40 1) (m9 40 2) (m9 40 3) a9 v))) X ad m9 q9 kd ln R) := by
  intro sz
  refine Met.ofW (cc := b_Mod_isMissing) (maxL := 3) (ret := (some (.boolean))) (by decide +kernel) rfl ?_
  intro p e s m args below meth c s₁ B hml hv
  obtain ⟨rfl, hsz, hSc, hE, hH⟩ := hv
  have hx := B.exec
  have hb := B.bytes
  have hr := B.returns
  have hts := atoms_spec (ws := w_Mod_isMissing) B.pre
  have hw : ∀ {w : Cond}, w ∈ zw → w.before ([.ref X, .int (nI a9), .int (nI v)] : List Value).toArray s = true := fun h => hts _ (List.mem_cons_of_mem _ h)
  have hown : s.vm.findClass R_Mod = some m.cls := findClass_of_methodNamed B.named
  have hlocks := B.notSynchronized
  subst hsz
  have hK := hSc.1
  have hH : zh_H D cA (zc_A kd s.heap.size) kd ln I L R s.heap := hH.weaken (fun q h _ => Or.inl h)
  generalize hAe : zc_A kd s.heap.size = A at hH hE ⊢
  have hA : ∀ q : Nat, s.heap.size ≤ q → A q := fun q h => by rw [← hAe]; exact Or.inr h
  have hS : va_S A s.heap s.heap [] := va_S.rf
  have hl := lv_entry ([.ref X, .int (nI a9), .int (nI v)] : List Value) (n := 3) (Nat.le_of_ble_eq_true rfl)
  rw [lg_entry_eq]
  generalize (lg_sl ([.ref X, .int (nI a9), .int (nI v)] : List Value) ++ List.replicate (3 - (lg_sl ([.ref X, .int (nI a9), .int (nI v)] : List Value)).length) Slot.unset).toArray = ls at hl ⊢
  have hl : lv_has ls 3 [(0, .ref X), (1, .int (nI a9)), (2, .int (nI v))] := hl
  refine lv_aload_n hx hb d_Mod_isMissing_0 rfl (lv_at hl 0 rfl) ?_
  refine zr_geti (ci := 6) (C := R_Mod) (T := T_Mod) (N := 37) (ref := "ScrubbedRecorderModel") hx hb hts (fun w h => List.mem_cons_of_mem _ (zin_Mod w h)) hown hK hH hm.1.1 (by decide) rfl 1 (by decide) rfl (hw zw_600) (fun _ h9 => h9) d_Mod_isMissing_1 ?_
  refine zt_i (y := m9 40 1) (congrFun hm.2.2.1 1) ?_
  refine lv_iload_n hx hb d_Mod_isMissing_4 rfl (lv_at hl 1 rfl) ?_
  refine lv_icmp_eq (tgt := 31) hx hb d_Mod_isMissing_5 (by decide) (fun hc1 => ?_) (fun hc1 => ?_)
  · skip
    have hc1 : (m9 40 1) = (nI a9) := hc1
    refine lv_iconst (v := nI 1) hx hb d_Mod_isMissing_31 (by decide) ?_
    refine lv_goto (tgt := 36) hx hb d_Mod_isMissing_32 (by decide) ?_
    refine W.widen (k := 0) (n := 0) (Nat.le_of_ble_eq_true rfl) (Nat.le_of_ble_eq_true rfl) ?_
    subst hAe
    exact W.zret (v := nI 1) hx hb hr (by decide +kernel) (fun t ht hW => zc_end hS hH ht (⟨by rw [zo_mis, if_pos hc1], rfl, rfl, rfl, hm⟩)) hS.2.2 d_Mod_isMissing_36
  · skip
    have hc1 : ¬ (m9 40 1) = (nI a9) := hc1
    refine lv_aload_n hx hb d_Mod_isMissing_8 rfl (lv_at hl 0 rfl) ?_
    refine zr_geti (ci := 6) (C := R_Mod) (T := T_Mod) (N := 37) (ref := "ScrubbedRecorderModel") hx hb hts (fun w h => List.mem_cons_of_mem _ (zin_Mod w h)) hown hK hH hm.1.1 (by decide) rfl 2 (by decide) rfl (hw zw_601) (fun _ h9 => h9) d_Mod_isMissing_9 ?_
    refine zt_i (y := m9 40 2) (congrFun hm.2.2.1 2) ?_
    refine lv_iload_n hx hb d_Mod_isMissing_12 rfl (lv_at hl 1 rfl) ?_
    refine lv_icmp_ne (tgt := 35) hx hb d_Mod_isMissing_13 (by decide) (fun hc2 => ?_) (fun hc2 => ?_)
    · skip
      have hc2 : ¬ (m9 40 2) = (nI a9) := hc2
      refine lv_iconst (v := nI 0) hx hb d_Mod_isMissing_35 (by decide) ?_
      refine W.widen (k := 0) (n := 0) (Nat.le_of_ble_eq_true rfl) (Nat.le_of_ble_eq_true rfl) ?_
      subst hAe
      exact W.zret (v := nI 0) hx hb hr (by decide +kernel) (fun t ht hW => zc_end hS hH ht (⟨by rw [zo_mis, if_neg hc1, if_neg hc2], rfl, rfl, rfl, hm⟩)) hS.2.2 d_Mod_isMissing_36
    · skip
      have hc2 : (m9 40 2) = (nI a9) := hc2
      refine lv_aload_n hx hb d_Mod_isMissing_16 rfl (lv_at hl 0 rfl) ?_
      refine zr_geti (ci := 6) (C := R_Mod) (T := T_Mod) (N := 37) (ref := "ScrubbedRecorderModel") hx hb hts (fun w h => List.mem_cons_of_mem _ (zin_Mod w h)) hown hK hH hm.1.1 (by decide) rfl 3 (by decide) rfl (hw zw_602) (fun _ h9 => h9) d_Mod_isMissing_17 ?_
      refine zt_i (y := m9 40 3) (congrFun hm.2.2.1 3) ?_
      refine lv_iload_n hx hb d_Mod_isMissing_20 rfl (lv_at hl 2 rfl) ?_
      refine lv_bipush (v := nI 16) hx hb d_Mod_isMissing_21 (by decide) ?_
      refine lv_idiv hx hb d_Mod_isMissing_23 (zt_ne0 (by omega) (by omega)) ?_
      refine zt_i (y := nI (v / 16)) (pk_div (by omega) (by omega) (by omega)) ?_
      refine lv_ishr hx hb d_Mod_isMissing_24 ?_
      refine lv_iconst (v := nI 1) hx hb d_Mod_isMissing_25 (by decide) ?_
      refine lv_iand hx hb d_Mod_isMissing_26 ?_
      refine lv_iconst (v := nI 1) hx hb d_Mod_isMissing_27 (by decide) ?_
      refine lv_icmp_ne (tgt := 35) hx hb d_Mod_isMissing_28 (by decide) (fun hc3 => ?_) (fun hc3 => ?_)
      · skip
        have hc3 : ¬ (((m9 40 3) >>> ((nI (v / 16)) &&& 31)) &&& (nI 1)) = (nI 1) := hc3
        refine lv_iconst (v := nI 0) hx hb d_Mod_isMissing_35 (by decide) ?_
        refine W.widen (k := 0) (n := 0) (Nat.le_of_ble_eq_true rfl) (Nat.le_of_ble_eq_true rfl) ?_
        subst hAe
        exact W.zret (v := nI 0) hx hb hr (by decide +kernel) (fun t ht hW => zc_end hS hH ht (⟨by rw [zo_mis, if_neg hc1, if_pos hc2, if_neg hc3], rfl, rfl, rfl, hm⟩)) hS.2.2 d_Mod_isMissing_36
      · skip
        have hc3 : (((m9 40 3) >>> ((nI (v / 16)) &&& 31)) &&& (nI 1)) = (nI 1) := hc3
        refine lv_iconst (v := nI 1) hx hb d_Mod_isMissing_31 (by decide) ?_
        refine lv_goto (tgt := 36) hx hb d_Mod_isMissing_32 (by decide) ?_
        refine W.widen (k := 0) (n := 0) (Nat.le_of_ble_eq_true rfl) (Nat.le_of_ble_eq_true rfl) ?_
        subst hAe
        exact W.zret (v := nI 1) hx hb hr (by decide +kernel) (fun t ht hW => zc_end hS hH ht (⟨by rw [zo_mis, if_neg hc1, if_pos hc2, if_pos hc3], rfl, rfl, rfl, hm⟩)) hS.2.2 d_Mod_isMissing_36

set_option maxHeartbeats 4000000 in
set_option maxRecDepth 100000 in
/-- scrub -/
theorem c_Mod_scrub {l : Launch} {D : va_G} {cA : Nat → ClassId} {te mi : Nat} {kd ln : Nat → Nat} {I : Nat → Nat → Int32} {L : Nat → Nat → Int64} {R : Nat → Nat → Option Nat} {X : Nat} {ad : Nat → Nat} {m9 : Nat → Nat → Int32} {q9 : Nat → Nat → Int64} (hm : zoR X ad m9 q9 kd ln I L R) {sn : Nat} (hs0 : m9 40 6 = nI sn) (hs1 : sn < 768) : zc_M l y_Mod_scrub w_Mod_scrub { frames := 1, cells := 0, slots := 0, locals := 23 } 0 0 D cA te mi ([.ref X] : List Value) kd ln I L R (zo_P (some (.int (nI (if (zq_bc (q9 0 sn) 39) = 0 then 0 else 1)))) X ad (zu (zu (zu m9 40 4 (if (zq_bc (q9 0 sn) 39) = 1 then m9 40 4 + nI 1 else m9 40 4)) 40 5 (if (zq_bc (q9 0 sn) 39) = 2 then m9 40 5 + nI 1 else m9 40 5)) 40 6 (nI ((sn + 1) % 768))) (zu q9 0 sn 0) kd ln R) := by
  intro sz
  refine Met.ofW (cc := b_Mod_scrub) (maxL := 2) (ret := (some (.int))) (by decide +kernel) rfl ?_
  intro p e s m args below meth c s₁ B hml hv
  obtain ⟨rfl, hsz, hSc, hE, hH⟩ := hv
  have hx := B.exec
  have hb := B.bytes
  have hr := B.returns
  have hts := atoms_spec (ws := w_Mod_scrub) B.pre
  have hw : ∀ {w : Cond}, w ∈ zw → w.before ([.ref X] : List Value).toArray s = true := fun h => hts _ (List.mem_cons_of_mem _ h)
  have hown : s.vm.findClass R_Mod = some m.cls := findClass_of_methodNamed B.named
  have hlocks := B.notSynchronized
  subst hsz
  have hK := hSc.1
  have hH : zh_H D cA (zc_A kd s.heap.size) kd ln I L R s.heap := hH.weaken (fun q h _ => Or.inl h)
  generalize hAe : zc_A kd s.heap.size = A at hH hE ⊢
  have hA : ∀ q : Nat, s.heap.size ≤ q → A q := fun q h => by rw [← hAe]; exact Or.inr h
  have hS : va_S A s.heap s.heap [] := va_S.rf
  have hl := lv_entry ([.ref X] : List Value) (n := 2) (Nat.le_of_ble_eq_true rfl)
  rw [lg_entry_eq]
  generalize (lg_sl ([.ref X] : List Value) ++ List.replicate (2 - (lg_sl ([.ref X] : List Value)).length) Slot.unset).toArray = ls at hl ⊢
  have hl : lv_has ls 2 [(0, .ref X)] := hl
  have k0 : kd (ad 0) = 101 := (hm.1.2.1 0 (by decide) (by decide)).2.1
  have n0 : ln (ad 0) = 768 := (hm.1.2.1 0 (by decide) (by decide)).2.2
  have r0 : R X 0 = some (ad 0) := (hm.1.2.1 0 (by decide) (by decide)).1
  refine lv_aload_n hx hb d_Mod_scrub_0 rfl (lv_at hl 0 rfl) ?_
  refine zr_getr (ci := 6) (C := R_Mod) (T := T_Mod) (N := 37) (ref := "ScrubbedRecorderModel") hx hb hts (fun w h => List.mem_cons_of_mem _ (zin_Mod w h)) hown hK hH hm.1.1 (by decide) rfl 0 (by decide) rfl (hw zw_599) (fun _ h9 => h9) d_Mod_scrub_1 (by rw [r0]) ?_
  refine lv_aload_n hx hb d_Mod_scrub_4 rfl (lv_at hl 0 rfl) ?_
  refine zr_geti (ci := 6) (C := R_Mod) (T := T_Mod) (N := 37) (ref := "ScrubbedRecorderModel") hx hb hts (fun w h => List.mem_cons_of_mem _ (zin_Mod w h)) hown hK hH hm.1.1 (by decide) rfl 6 (by decide) rfl (hw zw_605) (fun _ h9 => h9) d_Mod_scrub_5 ?_
  refine zt_i (y := nI sn) ((congrFun hm.2.2.1 6).trans (by rw [hs0])) ?_
  refine zr_aldl (j := sn) hx hb hK hH k0 (by rw [n0]; exact zh_ix_n (by omega) (by omega)) d_Mod_scrub_8 ?_
  refine zt_l (y := q9 0 sn) (congrFun (hm.2.2.2 0 (by decide) (by decide)) sn) ?_
  refine zr_St (As := ([.long (q9 0 sn)] : List Value)) (rest := []) ⟨hx, hb, hml, hown, hts⟩ c_Mod_bitsIn ⟨(callB_of 1 hts (zg_all zw_721) rfl rfl rfl (hw zw_3) (hw zw_719) k_Mod_bitsIn.2 ⟨Nat.le_of_ble_eq_true rfl, Nat.le_of_ble_eq_true rfl⟩), hw zw_720⟩ hSc hE hH hS hA rfl hl.1 rfl (Nat.le_of_ble_eq_true rfl) d_Mod_scrub_9 ⟨Nat.le_of_ble_eq_true rfl, Nat.le_of_ble_eq_true rfl⟩ (fun v1 kd1 ln1 I1 L1 R1 H locs hp hH hS => ?_)
  have hbl2 := zq_bc_le (q9 0 sn) 39
  obtain ⟨rfl, rfl, rfl, rfl, rfl, rfl⟩ := hp
  refine W.eq (g2 := F0 m 12 ls [.int (nI (zq_bc (q9 0 sn) 39))]) rfl ?_
  refine W.widen (k := 0) (n := 0) (by omega) (by omega) ?_
  refine lv_istore_n (lv' := [(1, .int (nI (zq_bc (q9 0 sn) 39))), (0, .ref X)]) hx hb d_Mod_scrub_12 rfl hl (by decide) rfl (fun ls hl => ?_)
  refine lv_aload_n hx hb d_Mod_scrub_13 rfl (lv_at hl 1 rfl) ?_
  refine lv_dup hx hb d_Mod_scrub_14 rfl ?_
  refine zr_geti (ci := 6) (C := R_Mod) (T := T_Mod) (N := 37) (ref := "ScrubbedRecorderModel") hx hb hts (fun w h => List.mem_cons_of_mem _ (zin_Mod w h)) hown hK hH hm.1.1 (by decide) rfl 4 (by decide) rfl (hw zw_603) (fun _ h9 => h9) d_Mod_scrub_15 ?_
  refine zt_i (y := m9 40 4) (congrFun hm.2.2.1 4) ?_
  refine lv_iload_n hx hb d_Mod_scrub_18 rfl (lv_at hl 0 rfl) ?_
  refine lv_iconst (v := nI 1) hx hb d_Mod_scrub_19 (by decide) ?_
  refine lv_icmp_ne (tgt := 27) hx hb d_Mod_scrub_20 (by decide) (fun hc3 => ?_) (fun hc3 => ?_)
  · skip
    have hc3 := zt_neT (a := (zq_bc (q9 0 sn) 39)) (b := 1) (by omega) (by omega) hc3
    refine lv_iconst (v := nI 0) hx hb d_Mod_scrub_27 (by decide) ?_
    refine lv_iadd hx hb d_Mod_scrub_28 ?_
    refine zr_puti (ref := "ScrubbedRecorderModel") (ci := 6) (C := R_Mod) (T := T_Mod) (N := 37) (x := (m9 40 4) + (nI 0)) (ty := .int) hx hb hts (fun w h => List.mem_cons_of_mem _ (zin_Mod w h)) ty_Mod tyok_Mod nm_Mod hown hK hH hS hm.1.1 (by decide) rfl 4 (by decide) rfl (hw zw_603) (fun _ h9 => h9) rfl (by decide +kernel) rfl rfl d_Mod_scrub_29 (fun H locs hH hS => ?_)
    have hm := zoR_X hm 4 ((m9 40 4) + (nI 0))
    generalize zu I X 4 ((m9 40 4) + (nI 0)) = I4 at hm hH
    refine lv_aload_n hx hb d_Mod_scrub_32 rfl (lv_at hl 1 rfl) ?_
    refine lv_dup hx hb d_Mod_scrub_33 rfl ?_
    refine zr_geti (ci := 6) (C := R_Mod) (T := T_Mod) (N := 37) (ref := "ScrubbedRecorderModel") hx hb hts (fun w h => List.mem_cons_of_mem _ (zin_Mod w h)) hown hK hH hm.1.1 (by decide) rfl 5 (by decide) rfl (hw zw_604) (fun _ h9 => h9) d_Mod_scrub_34 ?_
    refine zt_i (y := m9 40 5) ((congrFun hm.2.2.1 5).trans (by rw [zu_k _ _ _ _ (show (5 : Nat) ≠ 4 by decide)])) ?_
    refine lv_iload_n hx hb d_Mod_scrub_37 rfl (lv_at hl 0 rfl) ?_
    refine lv_iconst (v := nI 2) hx hb d_Mod_scrub_38 (by decide) ?_
    refine lv_icmp_ne (tgt := 46) hx hb d_Mod_scrub_39 (by decide) (fun hc5 => ?_) (fun hc5 => ?_)
    · skip
      have hc5 := zt_neT (a := (zq_bc (q9 0 sn) 39)) (b := 2) (by omega) (by omega) hc5
      refine lv_iconst (v := nI 0) hx hb d_Mod_scrub_46 (by decide) ?_
      refine lv_iadd hx hb d_Mod_scrub_47 ?_
      refine zr_puti (ref := "ScrubbedRecorderModel") (ci := 6) (C := R_Mod) (T := T_Mod) (N := 37) (x := (m9 40 5) + (nI 0)) (ty := .int) hx hb hts (fun w h => List.mem_cons_of_mem _ (zin_Mod w h)) ty_Mod tyok_Mod nm_Mod hown hK hH hS hm.1.1 (by decide) rfl 5 (by decide) rfl (hw zw_604) (fun _ h9 => h9) rfl (by decide +kernel) rfl rfl d_Mod_scrub_48 (fun H locs hH hS => ?_)
      have hm := zoR_X hm 5 ((m9 40 5) + (nI 0))
      generalize zu I4 X 5 ((m9 40 5) + (nI 0)) = I6 at hm hH
      refine lv_aload_n hx hb d_Mod_scrub_51 rfl (lv_at hl 1 rfl) ?_
      refine zr_getr (ci := 6) (C := R_Mod) (T := T_Mod) (N := 37) (ref := "ScrubbedRecorderModel") hx hb hts (fun w h => List.mem_cons_of_mem _ (zin_Mod w h)) hown hK hH hm.1.1 (by decide) rfl 0 (by decide) rfl (hw zw_599) (fun _ h9 => h9) d_Mod_scrub_52 (by rw [r0]) ?_
      refine lv_aload_n hx hb d_Mod_scrub_55 rfl (lv_at hl 1 rfl) ?_
      refine zr_geti (ci := 6) (C := R_Mod) (T := T_Mod) (N := 37) (ref := "ScrubbedRecorderModel") hx hb hts (fun w h => List.mem_cons_of_mem _ (zin_Mod w h)) hown hK hH hm.1.1 (by decide) rfl 6 (by decide) rfl (hw zw_605) (fun _ h9 => h9) d_Mod_scrub_56 ?_
      refine zt_i (y := nI sn) ((congrFun hm.2.2.1 6).trans (by rw [zu_k _ _ _ _ (show (6 : Nat) ≠ 5 by decide), zu_k _ _ _ _ (show (6 : Nat) ≠ 4 by decide), hs0])) ?_
      refine lv_lconst (v := 0) hx hb d_Mod_scrub_59 (by decide) ?_
      refine zr_astl (j := sn) (y := 0) hx hb hK hH hS k0 rfl (by rw [n0]; exact zh_ix_n (by omega) (by omega)) d_Mod_scrub_60 (fun H locs hH hS => ?_)
      have hm := zoR_L hm 0 (by decide) sn 0
      generalize zu L (ad 0) sn 0 = L7 at hm hH
      refine lv_aload_n hx hb d_Mod_scrub_61 rfl (lv_at hl 1 rfl) ?_
      refine lv_aload_n hx hb d_Mod_scrub_62 rfl (lv_at hl 1 rfl) ?_
      refine zr_geti (ci := 6) (C := R_Mod) (T := T_Mod) (N := 37) (ref := "ScrubbedRecorderModel") hx hb hts (fun w h => List.mem_cons_of_mem _ (zin_Mod w h)) hown hK hH hm.1.1 (by decide) rfl 6 (by decide) rfl (hw zw_605) (fun _ h9 => h9) d_Mod_scrub_63 ?_
      refine zt_i (y := nI sn) ((congrFun hm.2.2.1 6).trans (by rw [zu_k _ _ _ _ (show (6 : Nat) ≠ 5 by decide), zu_k _ _ _ _ (show (6 : Nat) ≠ 4 by decide), hs0])) ?_
      refine lv_sipush (v := nI 767) hx hb d_Mod_scrub_66 (by decide) ?_
      refine lv_icmp_ne (tgt := 76) hx hb d_Mod_scrub_69 (by decide) (fun hc8 => ?_) (fun hc8 => ?_)
      · skip
        have hc8 := zt_neT (a := sn) (b := 767) (by omega) (by omega) hc8
        refine lv_aload_n hx hb d_Mod_scrub_76 rfl (lv_at hl 1 rfl) ?_
        refine zr_geti (ci := 6) (C := R_Mod) (T := T_Mod) (N := 37) (ref := "ScrubbedRecorderModel") hx hb hts (fun w h => List.mem_cons_of_mem _ (zin_Mod w h)) hown hK hH hm.1.1 (by decide) rfl 6 (by decide) rfl (hw zw_605) (fun _ h9 => h9) d_Mod_scrub_77 ?_
        refine zt_i (y := nI sn) ((congrFun hm.2.2.1 6).trans (by rw [zu_k _ _ _ _ (show (6 : Nat) ≠ 5 by decide), zu_k _ _ _ _ (show (6 : Nat) ≠ 4 by decide), hs0])) ?_
        refine lv_iconst (v := nI 1) hx hb d_Mod_scrub_80 (by decide) ?_
        refine lv_iadd hx hb d_Mod_scrub_81 ?_
        refine zt_i (y := nI (sn + 1)) (nI_add sn 1) ?_
        refine zr_puti (ref := "ScrubbedRecorderModel") (ci := 6) (C := R_Mod) (T := T_Mod) (N := 37) (x := nI (sn + 1)) (ty := .int) hx hb hts (fun w h => List.mem_cons_of_mem _ (zin_Mod w h)) ty_Mod tyok_Mod nm_Mod hown hK hH hS hm.1.1 (by decide) rfl 6 (by decide) rfl (hw zw_605) (fun _ h9 => h9) rfl (by decide +kernel) rfl rfl d_Mod_scrub_82 (fun H locs hH hS => ?_)
        have hm := zoR_X hm 6 (nI (sn + 1))
        generalize zu I6 X 6 (nI (sn + 1)) = I9 at hm hH
        refine lv_iload_n hx hb d_Mod_scrub_85 rfl (lv_at hl 0 rfl) ?_
        refine lv_if_le (tgt := 93) hx hb d_Mod_scrub_86 (by decide) (fun hc10 => ?_) (fun hc10 => ?_)
        · skip
          have hc10 := zt_leT (a := (zq_bc (q9 0 sn) 39)) (b := 0) (by omega) (by omega) hc10
          refine lv_iconst (v := nI 0) hx hb d_Mod_scrub_93 (by decide) ?_
          have e4 : (if (zq_bc (q9 0 sn) 39) = 1 then m9 40 4 + nI 1 else m9 40 4) = (m9 40 4) + (nI 0) := by first | (exfalso; omega) | rw [if_pos (by omega)] | rw [if_neg (by omega), zt_add0]
          have e5 : (if (zq_bc (q9 0 sn) 39) = 2 then m9 40 5 + nI 1 else m9 40 5) = (m9 40 5) + (nI 0) := by first | (exfalso; omega) | rw [if_pos (by omega)] | rw [if_neg (by omega), zt_add0]
          have e6 : nI ((sn + 1) % 768) = nI (sn + 1) := by congr 1; omega
          have e7 : (if (zq_bc (q9 0 sn) 39) = 0 then 0 else 1) = 0 := by first | (exfalso; omega) | rw [if_pos (by omega)] | rw [if_neg (by omega)]
          refine W.widen (k := 0) (n := 0) (Nat.le_of_ble_eq_true rfl) (Nat.le_of_ble_eq_true rfl) ?_
          subst hAe
          exact W.iret (v := nI 0) hx hb hr (fun t ht hW => zc_end hS hH ht (⟨by rw [e7], rfl, rfl, rfl, by rw [e4, e5, e6]; exact hm⟩)) hS.2.2 d_Mod_scrub_94
        · skip
          have hc10 := zt_leF (a := (zq_bc (q9 0 sn) 39)) (b := 0) (by omega) (by omega) hc10
          refine lv_iconst (v := nI 1) hx hb d_Mod_scrub_89 (by decide) ?_
          refine lv_goto (tgt := 94) hx hb d_Mod_scrub_90 (by decide) ?_
          have e4 : (if (zq_bc (q9 0 sn) 39) = 1 then m9 40 4 + nI 1 else m9 40 4) = (m9 40 4) + (nI 0) := by first | (exfalso; omega) | rw [if_pos (by omega)] | rw [if_neg (by omega), zt_add0]
          have e5 : (if (zq_bc (q9 0 sn) 39) = 2 then m9 40 5 + nI 1 else m9 40 5) = (m9 40 5) + (nI 0) := by first | (exfalso; omega) | rw [if_pos (by omega)] | rw [if_neg (by omega), zt_add0]
          have e6 : nI ((sn + 1) % 768) = nI (sn + 1) := by congr 1; omega
          have e7 : (if (zq_bc (q9 0 sn) 39) = 0 then 0 else 1) = 1 := by first | (exfalso; omega) | rw [if_pos (by omega)] | rw [if_neg (by omega)]
          refine W.widen (k := 0) (n := 0) (Nat.le_of_ble_eq_true rfl) (Nat.le_of_ble_eq_true rfl) ?_
          subst hAe
          exact W.iret (v := nI 1) hx hb hr (fun t ht hW => zc_end hS hH ht (⟨by rw [e7], rfl, rfl, rfl, by rw [e4, e5, e6]; exact hm⟩)) hS.2.2 d_Mod_scrub_94
      · skip
        have hc8 := zt_neF (a := sn) (b := 767) (by omega) (by omega) hc8
        refine lv_iconst (v := nI 0) hx hb d_Mod_scrub_72 (by decide) ?_
        refine lv_goto (tgt := 82) hx hb d_Mod_scrub_73 (by decide) ?_
        refine zr_puti (ref := "ScrubbedRecorderModel") (ci := 6) (C := R_Mod) (T := T_Mod) (N := 37) (x := nI 0) (ty := .int) hx hb hts (fun w h => List.mem_cons_of_mem _ (zin_Mod w h)) ty_Mod tyok_Mod nm_Mod hown hK hH hS hm.1.1 (by decide) rfl 6 (by decide) rfl (hw zw_605) (fun _ h9 => h9) rfl (by decide +kernel) rfl rfl d_Mod_scrub_82 (fun H locs hH hS => ?_)
        have hm := zoR_X hm 6 (nI 0)
        generalize zu I6 X 6 (nI 0) = I11 at hm hH
        refine lv_iload_n hx hb d_Mod_scrub_85 rfl (lv_at hl 0 rfl) ?_
        refine lv_if_le (tgt := 93) hx hb d_Mod_scrub_86 (by decide) (fun hc12 => ?_) (fun hc12 => ?_)
        · skip
          have hc12 := zt_leT (a := (zq_bc (q9 0 sn) 39)) (b := 0) (by omega) (by omega) hc12
          refine lv_iconst (v := nI 0) hx hb d_Mod_scrub_93 (by decide) ?_
          have e4 : (if (zq_bc (q9 0 sn) 39) = 1 then m9 40 4 + nI 1 else m9 40 4) = (m9 40 4) + (nI 0) := by first | (exfalso; omega) | rw [if_pos (by omega)] | rw [if_neg (by omega), zt_add0]
          have e5 : (if (zq_bc (q9 0 sn) 39) = 2 then m9 40 5 + nI 1 else m9 40 5) = (m9 40 5) + (nI 0) := by first | (exfalso; omega) | rw [if_pos (by omega)] | rw [if_neg (by omega), zt_add0]
          have e6 : nI ((sn + 1) % 768) = nI 0 := by congr 1; omega
          have e7 : (if (zq_bc (q9 0 sn) 39) = 0 then 0 else 1) = 0 := by first | (exfalso; omega) | rw [if_pos (by omega)] | rw [if_neg (by omega)]
          refine W.widen (k := 0) (n := 0) (Nat.le_of_ble_eq_true rfl) (Nat.le_of_ble_eq_true rfl) ?_
          subst hAe
          exact W.iret (v := nI 0) hx hb hr (fun t ht hW => zc_end hS hH ht (⟨by rw [e7], rfl, rfl, rfl, by rw [e4, e5, e6]; exact hm⟩)) hS.2.2 d_Mod_scrub_94
        · skip
          have hc12 := zt_leF (a := (zq_bc (q9 0 sn) 39)) (b := 0) (by omega) (by omega) hc12
          refine lv_iconst (v := nI 1) hx hb d_Mod_scrub_89 (by decide) ?_
          refine lv_goto (tgt := 94) hx hb d_Mod_scrub_90 (by decide) ?_
          have e4 : (if (zq_bc (q9 0 sn) 39) = 1 then m9 40 4 + nI 1 else m9 40 4) = (m9 40 4) + (nI 0) := by first | (exfalso; omega) | rw [if_pos (by omega)] | rw [if_neg (by omega), zt_add0]
          have e5 : (if (zq_bc (q9 0 sn) 39) = 2 then m9 40 5 + nI 1 else m9 40 5) = (m9 40 5) + (nI 0) := by first | (exfalso; omega) | rw [if_pos (by omega)] | rw [if_neg (by omega), zt_add0]
          have e6 : nI ((sn + 1) % 768) = nI 0 := by congr 1; omega
          have e7 : (if (zq_bc (q9 0 sn) 39) = 0 then 0 else 1) = 1 := by first | (exfalso; omega) | rw [if_pos (by omega)] | rw [if_neg (by omega)]
          refine W.widen (k := 0) (n := 0) (Nat.le_of_ble_eq_true rfl) (Nat.le_of_ble_eq_true rfl) ?_
          subst hAe
          exact W.iret (v := nI 1) hx hb hr (fun t ht hW => zc_end hS hH ht (⟨by rw [e7], rfl, rfl, rfl, by rw [e4, e5, e6]; exact hm⟩)) hS.2.2 d_Mod_scrub_94
    · skip
      have hc5 := zt_neF (a := (zq_bc (q9 0 sn) 39)) (b := 2) (by omega) (by omega) hc5
      refine lv_iconst (v := nI 1) hx hb d_Mod_scrub_42 (by decide) ?_
      refine lv_goto (tgt := 47) hx hb d_Mod_scrub_43 (by decide) ?_
      refine lv_iadd hx hb d_Mod_scrub_47 ?_
      refine zr_puti (ref := "ScrubbedRecorderModel") (ci := 6) (C := R_Mod) (T := T_Mod) (N := 37) (x := (m9 40 5) + (nI 1)) (ty := .int) hx hb hts (fun w h => List.mem_cons_of_mem _ (zin_Mod w h)) ty_Mod tyok_Mod nm_Mod hown hK hH hS hm.1.1 (by decide) rfl 5 (by decide) rfl (hw zw_604) (fun _ h9 => h9) rfl (by decide +kernel) rfl rfl d_Mod_scrub_48 (fun H locs hH hS => ?_)
      have hm := zoR_X hm 5 ((m9 40 5) + (nI 1))
      generalize zu I4 X 5 ((m9 40 5) + (nI 1)) = I13 at hm hH
      refine lv_aload_n hx hb d_Mod_scrub_51 rfl (lv_at hl 1 rfl) ?_
      refine zr_getr (ci := 6) (C := R_Mod) (T := T_Mod) (N := 37) (ref := "ScrubbedRecorderModel") hx hb hts (fun w h => List.mem_cons_of_mem _ (zin_Mod w h)) hown hK hH hm.1.1 (by decide) rfl 0 (by decide) rfl (hw zw_599) (fun _ h9 => h9) d_Mod_scrub_52 (by rw [r0]) ?_
      refine lv_aload_n hx hb d_Mod_scrub_55 rfl (lv_at hl 1 rfl) ?_
      refine zr_geti (ci := 6) (C := R_Mod) (T := T_Mod) (N := 37) (ref := "ScrubbedRecorderModel") hx hb hts (fun w h => List.mem_cons_of_mem _ (zin_Mod w h)) hown hK hH hm.1.1 (by decide) rfl 6 (by decide) rfl (hw zw_605) (fun _ h9 => h9) d_Mod_scrub_56 ?_
      refine zt_i (y := nI sn) ((congrFun hm.2.2.1 6).trans (by rw [zu_k _ _ _ _ (show (6 : Nat) ≠ 5 by decide), zu_k _ _ _ _ (show (6 : Nat) ≠ 4 by decide), hs0])) ?_
      refine lv_lconst (v := 0) hx hb d_Mod_scrub_59 (by decide) ?_
      refine zr_astl (j := sn) (y := 0) hx hb hK hH hS k0 rfl (by rw [n0]; exact zh_ix_n (by omega) (by omega)) d_Mod_scrub_60 (fun H locs hH hS => ?_)
      have hm := zoR_L hm 0 (by decide) sn 0
      generalize zu L (ad 0) sn 0 = L14 at hm hH
      refine lv_aload_n hx hb d_Mod_scrub_61 rfl (lv_at hl 1 rfl) ?_
      refine lv_aload_n hx hb d_Mod_scrub_62 rfl (lv_at hl 1 rfl) ?_
      refine zr_geti (ci := 6) (C := R_Mod) (T := T_Mod) (N := 37) (ref := "ScrubbedRecorderModel") hx hb hts (fun w h => List.mem_cons_of_mem _ (zin_Mod w h)) hown hK hH hm.1.1 (by decide) rfl 6 (by decide) rfl (hw zw_605) (fun _ h9 => h9) d_Mod_scrub_63 ?_
      refine zt_i (y := nI sn) ((congrFun hm.2.2.1 6).trans (by rw [zu_k _ _ _ _ (show (6 : Nat) ≠ 5 by decide), zu_k _ _ _ _ (show (6 : Nat) ≠ 4 by decide), hs0])) ?_
      refine lv_sipush (v := nI 767) hx hb d_Mod_scrub_66 (by decide) ?_
      refine lv_icmp_ne (tgt := 76) hx hb d_Mod_scrub_69 (by decide) (fun hc15 => ?_) (fun hc15 => ?_)
      · skip
        have hc15 := zt_neT (a := sn) (b := 767) (by omega) (by omega) hc15
        refine lv_aload_n hx hb d_Mod_scrub_76 rfl (lv_at hl 1 rfl) ?_
        refine zr_geti (ci := 6) (C := R_Mod) (T := T_Mod) (N := 37) (ref := "ScrubbedRecorderModel") hx hb hts (fun w h => List.mem_cons_of_mem _ (zin_Mod w h)) hown hK hH hm.1.1 (by decide) rfl 6 (by decide) rfl (hw zw_605) (fun _ h9 => h9) d_Mod_scrub_77 ?_
        refine zt_i (y := nI sn) ((congrFun hm.2.2.1 6).trans (by rw [zu_k _ _ _ _ (show (6 : Nat) ≠ 5 by decide), zu_k _ _ _ _ (show (6 : Nat) ≠ 4 by decide), hs0])) ?_
        refine lv_iconst (v := nI 1) hx hb d_Mod_scrub_80 (by decide) ?_
        refine lv_iadd hx hb d_Mod_scrub_81 ?_
        refine zt_i (y := nI (sn + 1)) (nI_add sn 1) ?_
        refine zr_puti (ref := "ScrubbedRecorderModel") (ci := 6) (C := R_Mod) (T := T_Mod) (N := 37) (x := nI (sn + 1)) (ty := .int) hx hb hts (fun w h => List.mem_cons_of_mem _ (zin_Mod w h)) ty_Mod tyok_Mod nm_Mod hown hK hH hS hm.1.1 (by decide) rfl 6 (by decide) rfl (hw zw_605) (fun _ h9 => h9) rfl (by decide +kernel) rfl rfl d_Mod_scrub_82 (fun H locs hH hS => ?_)
        have hm := zoR_X hm 6 (nI (sn + 1))
        generalize zu I13 X 6 (nI (sn + 1)) = I16 at hm hH
        refine lv_iload_n hx hb d_Mod_scrub_85 rfl (lv_at hl 0 rfl) ?_
        refine lv_if_le (tgt := 93) hx hb d_Mod_scrub_86 (by decide) (fun hc17 => ?_) (fun hc17 => ?_)
        · skip
          have hc17 := zt_leT (a := (zq_bc (q9 0 sn) 39)) (b := 0) (by omega) (by omega) hc17
          refine lv_iconst (v := nI 0) hx hb d_Mod_scrub_93 (by decide) ?_
          have e4 : (if (zq_bc (q9 0 sn) 39) = 1 then m9 40 4 + nI 1 else m9 40 4) = (m9 40 4) + (nI 0) := by first | (exfalso; omega) | rw [if_pos (by omega)] | rw [if_neg (by omega), zt_add0]
          have e5 : (if (zq_bc (q9 0 sn) 39) = 2 then m9 40 5 + nI 1 else m9 40 5) = (m9 40 5) + (nI 1) := by first | (exfalso; omega) | rw [if_pos (by omega)] | rw [if_neg (by omega), zt_add0]
          have e6 : nI ((sn + 1) % 768) = nI (sn + 1) := by congr 1; omega
          have e7 : (if (zq_bc (q9 0 sn) 39) = 0 then 0 else 1) = 0 := by first | (exfalso; omega) | rw [if_pos (by omega)] | rw [if_neg (by omega)]
          refine W.widen (k := 0) (n := 0) (Nat.le_of_ble_eq_true rfl) (Nat.le_of_ble_eq_true rfl) ?_
          subst hAe
          exact W.iret (v := nI 0) hx hb hr (fun t ht hW => zc_end hS hH ht (⟨by rw [e7], rfl, rfl, rfl, by rw [e4, e5, e6]; exact hm⟩)) hS.2.2 d_Mod_scrub_94
        · skip
          have hc17 := zt_leF (a := (zq_bc (q9 0 sn) 39)) (b := 0) (by omega) (by omega) hc17
          refine lv_iconst (v := nI 1) hx hb d_Mod_scrub_89 (by decide) ?_
          refine lv_goto (tgt := 94) hx hb d_Mod_scrub_90 (by decide) ?_
          have e4 : (if (zq_bc (q9 0 sn) 39) = 1 then m9 40 4 + nI 1 else m9 40 4) = (m9 40 4) + (nI 0) := by first | (exfalso; omega) | rw [if_pos (by omega)] | rw [if_neg (by omega), zt_add0]
          have e5 : (if (zq_bc (q9 0 sn) 39) = 2 then m9 40 5 + nI 1 else m9 40 5) = (m9 40 5) + (nI 1) := by first | (exfalso; omega) | rw [if_pos (by omega)] | rw [if_neg (by omega), zt_add0]
          have e6 : nI ((sn + 1) % 768) = nI (sn + 1) := by congr 1; omega
          have e7 : (if (zq_bc (q9 0 sn) 39) = 0 then 0 else 1) = 1 := by first | (exfalso; omega) | rw [if_pos (by omega)] | rw [if_neg (by omega)]
          refine W.widen (k := 0) (n := 0) (Nat.le_of_ble_eq_true rfl) (Nat.le_of_ble_eq_true rfl) ?_
          subst hAe
          exact W.iret (v := nI 1) hx hb hr (fun t ht hW => zc_end hS hH ht (⟨by rw [e7], rfl, rfl, rfl, by rw [e4, e5, e6]; exact hm⟩)) hS.2.2 d_Mod_scrub_94
      · skip
        have hc15 := zt_neF (a := sn) (b := 767) (by omega) (by omega) hc15
        refine lv_iconst (v := nI 0) hx hb d_Mod_scrub_72 (by decide) ?_
        refine lv_goto (tgt := 82) hx hb d_Mod_scrub_73 (by decide) ?_
        refine zr_puti (ref := "ScrubbedRecorderModel") (ci := 6) (C := R_Mod) (T := T_Mod) (N := 37) (x := nI 0) (ty := .int) hx hb hts (fun w h => List.mem_cons_of_mem _ (zin_Mod w h)) ty_Mod tyok_Mod nm_Mod hown hK hH hS hm.1.1 (by decide) rfl 6 (by decide) rfl (hw zw_605) (fun _ h9 => h9) rfl (by decide +kernel) rfl rfl d_Mod_scrub_82 (fun H locs hH hS => ?_)
        have hm := zoR_X hm 6 (nI 0)
        generalize zu I13 X 6 (nI 0) = I18 at hm hH
        refine lv_iload_n hx hb d_Mod_scrub_85 rfl (lv_at hl 0 rfl) ?_
        refine lv_if_le (tgt := 93) hx hb d_Mod_scrub_86 (by decide) (fun hc19 => ?_) (fun hc19 => ?_)
        · skip
          have hc19 := zt_leT (a := (zq_bc (q9 0 sn) 39)) (b := 0) (by omega) (by omega) hc19
          refine lv_iconst (v := nI 0) hx hb d_Mod_scrub_93 (by decide) ?_
          have e4 : (if (zq_bc (q9 0 sn) 39) = 1 then m9 40 4 + nI 1 else m9 40 4) = (m9 40 4) + (nI 0) := by first | (exfalso; omega) | rw [if_pos (by omega)] | rw [if_neg (by omega), zt_add0]
          have e5 : (if (zq_bc (q9 0 sn) 39) = 2 then m9 40 5 + nI 1 else m9 40 5) = (m9 40 5) + (nI 1) := by first | (exfalso; omega) | rw [if_pos (by omega)] | rw [if_neg (by omega), zt_add0]
          have e6 : nI ((sn + 1) % 768) = nI 0 := by congr 1; omega
          have e7 : (if (zq_bc (q9 0 sn) 39) = 0 then 0 else 1) = 0 := by first | (exfalso; omega) | rw [if_pos (by omega)] | rw [if_neg (by omega)]
          refine W.widen (k := 0) (n := 0) (Nat.le_of_ble_eq_true rfl) (Nat.le_of_ble_eq_true rfl) ?_
          subst hAe
          exact W.iret (v := nI 0) hx hb hr (fun t ht hW => zc_end hS hH ht (⟨by rw [e7], rfl, rfl, rfl, by rw [e4, e5, e6]; exact hm⟩)) hS.2.2 d_Mod_scrub_94
        · skip
          have hc19 := zt_leF (a := (zq_bc (q9 0 sn) 39)) (b := 0) (by omega) (by omega) hc19
          refine lv_iconst (v := nI 1) hx hb d_Mod_scrub_89 (by decide) ?_
          refine lv_goto (tgt := 94) hx hb d_Mod_scrub_90 (by decide) ?_
          have e4 : (if (zq_bc (q9 0 sn) 39) = 1 then m9 40 4 + nI 1 else m9 40 4) = (m9 40 4) + (nI 0) := by first | (exfalso; omega) | rw [if_pos (by omega)] | rw [if_neg (by omega), zt_add0]
          have e5 : (if (zq_bc (q9 0 sn) 39) = 2 then m9 40 5 + nI 1 else m9 40 5) = (m9 40 5) + (nI 1) := by first | (exfalso; omega) | rw [if_pos (by omega)] | rw [if_neg (by omega), zt_add0]
          have e6 : nI ((sn + 1) % 768) = nI 0 := by congr 1; omega
          have e7 : (if (zq_bc (q9 0 sn) 39) = 0 then 0 else 1) = 1 := by first | (exfalso; omega) | rw [if_pos (by omega)] | rw [if_neg (by omega)]
          refine W.widen (k := 0) (n := 0) (Nat.le_of_ble_eq_true rfl) (Nat.le_of_ble_eq_true rfl) ?_
          subst hAe
          exact W.iret (v := nI 1) hx hb hr (fun t ht hW => zc_end hS hH ht (⟨by rw [e7], rfl, rfl, rfl, by rw [e4, e5, e6]; exact hm⟩)) hS.2.2 d_Mod_scrub_94
  · skip
    have hc3 := zt_neF (a := (zq_bc (q9 0 sn) 39)) (b := 1) (by omega) (by omega) hc3
    refine lv_iconst (v := nI 1) hx hb d_Mod_scrub_23 (by decide) ?_
    refine lv_goto (tgt := 28) hx hb d_Mod_scrub_24 (by decide) ?_
    refine lv_iadd hx hb d_Mod_scrub_28 ?_
    refine zr_puti (ref := "ScrubbedRecorderModel") (ci := 6) (C := R_Mod) (T := T_Mod) (N := 37) (x := (m9 40 4) + (nI 1)) (ty := .int) hx hb hts (fun w h => List.mem_cons_of_mem _ (zin_Mod w h)) ty_Mod tyok_Mod nm_Mod hown hK hH hS hm.1.1 (by decide) rfl 4 (by decide) rfl (hw zw_603) (fun _ h9 => h9) rfl (by decide +kernel) rfl rfl d_Mod_scrub_29 (fun H locs hH hS => ?_)
    have hm := zoR_X hm 4 ((m9 40 4) + (nI 1))
    generalize zu I X 4 ((m9 40 4) + (nI 1)) = I20 at hm hH
    refine lv_aload_n hx hb d_Mod_scrub_32 rfl (lv_at hl 1 rfl) ?_
    refine lv_dup hx hb d_Mod_scrub_33 rfl ?_
    refine zr_geti (ci := 6) (C := R_Mod) (T := T_Mod) (N := 37) (ref := "ScrubbedRecorderModel") hx hb hts (fun w h => List.mem_cons_of_mem _ (zin_Mod w h)) hown hK hH hm.1.1 (by decide) rfl 5 (by decide) rfl (hw zw_604) (fun _ h9 => h9) d_Mod_scrub_34 ?_
    refine zt_i (y := m9 40 5) ((congrFun hm.2.2.1 5).trans (by rw [zu_k _ _ _ _ (show (5 : Nat) ≠ 4 by decide)])) ?_
    refine lv_iload_n hx hb d_Mod_scrub_37 rfl (lv_at hl 0 rfl) ?_
    refine lv_iconst (v := nI 2) hx hb d_Mod_scrub_38 (by decide) ?_
    refine lv_icmp_ne (tgt := 46) hx hb d_Mod_scrub_39 (by decide) (fun hc21 => ?_) (fun hc21 => ?_)
    · skip
      have hc21 := zt_neT (a := (zq_bc (q9 0 sn) 39)) (b := 2) (by omega) (by omega) hc21
      refine lv_iconst (v := nI 0) hx hb d_Mod_scrub_46 (by decide) ?_
      refine lv_iadd hx hb d_Mod_scrub_47 ?_
      refine zr_puti (ref := "ScrubbedRecorderModel") (ci := 6) (C := R_Mod) (T := T_Mod) (N := 37) (x := (m9 40 5) + (nI 0)) (ty := .int) hx hb hts (fun w h => List.mem_cons_of_mem _ (zin_Mod w h)) ty_Mod tyok_Mod nm_Mod hown hK hH hS hm.1.1 (by decide) rfl 5 (by decide) rfl (hw zw_604) (fun _ h9 => h9) rfl (by decide +kernel) rfl rfl d_Mod_scrub_48 (fun H locs hH hS => ?_)
      have hm := zoR_X hm 5 ((m9 40 5) + (nI 0))
      generalize zu I20 X 5 ((m9 40 5) + (nI 0)) = I22 at hm hH
      refine lv_aload_n hx hb d_Mod_scrub_51 rfl (lv_at hl 1 rfl) ?_
      refine zr_getr (ci := 6) (C := R_Mod) (T := T_Mod) (N := 37) (ref := "ScrubbedRecorderModel") hx hb hts (fun w h => List.mem_cons_of_mem _ (zin_Mod w h)) hown hK hH hm.1.1 (by decide) rfl 0 (by decide) rfl (hw zw_599) (fun _ h9 => h9) d_Mod_scrub_52 (by rw [r0]) ?_
      refine lv_aload_n hx hb d_Mod_scrub_55 rfl (lv_at hl 1 rfl) ?_
      refine zr_geti (ci := 6) (C := R_Mod) (T := T_Mod) (N := 37) (ref := "ScrubbedRecorderModel") hx hb hts (fun w h => List.mem_cons_of_mem _ (zin_Mod w h)) hown hK hH hm.1.1 (by decide) rfl 6 (by decide) rfl (hw zw_605) (fun _ h9 => h9) d_Mod_scrub_56 ?_
      refine zt_i (y := nI sn) ((congrFun hm.2.2.1 6).trans (by rw [zu_k _ _ _ _ (show (6 : Nat) ≠ 5 by decide), zu_k _ _ _ _ (show (6 : Nat) ≠ 4 by decide), hs0])) ?_
      refine lv_lconst (v := 0) hx hb d_Mod_scrub_59 (by decide) ?_
      refine zr_astl (j := sn) (y := 0) hx hb hK hH hS k0 rfl (by rw [n0]; exact zh_ix_n (by omega) (by omega)) d_Mod_scrub_60 (fun H locs hH hS => ?_)
      have hm := zoR_L hm 0 (by decide) sn 0
      generalize zu L (ad 0) sn 0 = L23 at hm hH
      refine lv_aload_n hx hb d_Mod_scrub_61 rfl (lv_at hl 1 rfl) ?_
      refine lv_aload_n hx hb d_Mod_scrub_62 rfl (lv_at hl 1 rfl) ?_
      refine zr_geti (ci := 6) (C := R_Mod) (T := T_Mod) (N := 37) (ref := "ScrubbedRecorderModel") hx hb hts (fun w h => List.mem_cons_of_mem _ (zin_Mod w h)) hown hK hH hm.1.1 (by decide) rfl 6 (by decide) rfl (hw zw_605) (fun _ h9 => h9) d_Mod_scrub_63 ?_
      refine zt_i (y := nI sn) ((congrFun hm.2.2.1 6).trans (by rw [zu_k _ _ _ _ (show (6 : Nat) ≠ 5 by decide), zu_k _ _ _ _ (show (6 : Nat) ≠ 4 by decide), hs0])) ?_
      refine lv_sipush (v := nI 767) hx hb d_Mod_scrub_66 (by decide) ?_
      refine lv_icmp_ne (tgt := 76) hx hb d_Mod_scrub_69 (by decide) (fun hc24 => ?_) (fun hc24 => ?_)
      · skip
        have hc24 := zt_neT (a := sn) (b := 767) (by omega) (by omega) hc24
        refine lv_aload_n hx hb d_Mod_scrub_76 rfl (lv_at hl 1 rfl) ?_
        refine zr_geti (ci := 6) (C := R_Mod) (T := T_Mod) (N := 37) (ref := "ScrubbedRecorderModel") hx hb hts (fun w h => List.mem_cons_of_mem _ (zin_Mod w h)) hown hK hH hm.1.1 (by decide) rfl 6 (by decide) rfl (hw zw_605) (fun _ h9 => h9) d_Mod_scrub_77 ?_
        refine zt_i (y := nI sn) ((congrFun hm.2.2.1 6).trans (by rw [zu_k _ _ _ _ (show (6 : Nat) ≠ 5 by decide), zu_k _ _ _ _ (show (6 : Nat) ≠ 4 by decide), hs0])) ?_
        refine lv_iconst (v := nI 1) hx hb d_Mod_scrub_80 (by decide) ?_
        refine lv_iadd hx hb d_Mod_scrub_81 ?_
        refine zt_i (y := nI (sn + 1)) (nI_add sn 1) ?_
        refine zr_puti (ref := "ScrubbedRecorderModel") (ci := 6) (C := R_Mod) (T := T_Mod) (N := 37) (x := nI (sn + 1)) (ty := .int) hx hb hts (fun w h => List.mem_cons_of_mem _ (zin_Mod w h)) ty_Mod tyok_Mod nm_Mod hown hK hH hS hm.1.1 (by decide) rfl 6 (by decide) rfl (hw zw_605) (fun _ h9 => h9) rfl (by decide +kernel) rfl rfl d_Mod_scrub_82 (fun H locs hH hS => ?_)
        have hm := zoR_X hm 6 (nI (sn + 1))
        generalize zu I22 X 6 (nI (sn + 1)) = I25 at hm hH
        refine lv_iload_n hx hb d_Mod_scrub_85 rfl (lv_at hl 0 rfl) ?_
        refine lv_if_le (tgt := 93) hx hb d_Mod_scrub_86 (by decide) (fun hc26 => ?_) (fun hc26 => ?_)
        · skip
          have hc26 := zt_leT (a := (zq_bc (q9 0 sn) 39)) (b := 0) (by omega) (by omega) hc26
          refine lv_iconst (v := nI 0) hx hb d_Mod_scrub_93 (by decide) ?_
          have e4 : (if (zq_bc (q9 0 sn) 39) = 1 then m9 40 4 + nI 1 else m9 40 4) = (m9 40 4) + (nI 1) := by first | (exfalso; omega) | rw [if_pos (by omega)] | rw [if_neg (by omega), zt_add0]
          have e5 : (if (zq_bc (q9 0 sn) 39) = 2 then m9 40 5 + nI 1 else m9 40 5) = (m9 40 5) + (nI 0) := by first | (exfalso; omega) | rw [if_pos (by omega)] | rw [if_neg (by omega), zt_add0]
          have e6 : nI ((sn + 1) % 768) = nI (sn + 1) := by congr 1; omega
          have e7 : (if (zq_bc (q9 0 sn) 39) = 0 then 0 else 1) = 0 := by first | (exfalso; omega) | rw [if_pos (by omega)] | rw [if_neg (by omega)]
          refine W.widen (k := 0) (n := 0) (Nat.le_of_ble_eq_true rfl) (Nat.le_of_ble_eq_true rfl) ?_
          subst hAe
          exact W.iret (v := nI 0) hx hb hr (fun t ht hW => zc_end hS hH ht (⟨by rw [e7], rfl, rfl, rfl, by rw [e4, e5, e6]; exact hm⟩)) hS.2.2 d_Mod_scrub_94
        · skip
          have hc26 := zt_leF (a := (zq_bc (q9 0 sn) 39)) (b := 0) (by omega) (by omega) hc26
          refine lv_iconst (v := nI 1) hx hb d_Mod_scrub_89 (by decide) ?_
          refine lv_goto (tgt := 94) hx hb d_Mod_scrub_90 (by decide) ?_
          have e4 : (if (zq_bc (q9 0 sn) 39) = 1 then m9 40 4 + nI 1 else m9 40 4) = (m9 40 4) + (nI 1) := by first | (exfalso; omega) | rw [if_pos (by omega)] | rw [if_neg (by omega), zt_add0]
          have e5 : (if (zq_bc (q9 0 sn) 39) = 2 then m9 40 5 + nI 1 else m9 40 5) = (m9 40 5) + (nI 0) := by first | (exfalso; omega) | rw [if_pos (by omega)] | rw [if_neg (by omega), zt_add0]
          have e6 : nI ((sn + 1) % 768) = nI (sn + 1) := by congr 1; omega
          have e7 : (if (zq_bc (q9 0 sn) 39) = 0 then 0 else 1) = 1 := by first | (exfalso; omega) | rw [if_pos (by omega)] | rw [if_neg (by omega)]
          refine W.widen (k := 0) (n := 0) (Nat.le_of_ble_eq_true rfl) (Nat.le_of_ble_eq_true rfl) ?_
          subst hAe
          exact W.iret (v := nI 1) hx hb hr (fun t ht hW => zc_end hS hH ht (⟨by rw [e7], rfl, rfl, rfl, by rw [e4, e5, e6]; exact hm⟩)) hS.2.2 d_Mod_scrub_94
      · skip
        have hc24 := zt_neF (a := sn) (b := 767) (by omega) (by omega) hc24
        refine lv_iconst (v := nI 0) hx hb d_Mod_scrub_72 (by decide) ?_
        refine lv_goto (tgt := 82) hx hb d_Mod_scrub_73 (by decide) ?_
        refine zr_puti (ref := "ScrubbedRecorderModel") (ci := 6) (C := R_Mod) (T := T_Mod) (N := 37) (x := nI 0) (ty := .int) hx hb hts (fun w h => List.mem_cons_of_mem _ (zin_Mod w h)) ty_Mod tyok_Mod nm_Mod hown hK hH hS hm.1.1 (by decide) rfl 6 (by decide) rfl (hw zw_605) (fun _ h9 => h9) rfl (by decide +kernel) rfl rfl d_Mod_scrub_82 (fun H locs hH hS => ?_)
        have hm := zoR_X hm 6 (nI 0)
        generalize zu I22 X 6 (nI 0) = I27 at hm hH
        refine lv_iload_n hx hb d_Mod_scrub_85 rfl (lv_at hl 0 rfl) ?_
        refine lv_if_le (tgt := 93) hx hb d_Mod_scrub_86 (by decide) (fun hc28 => ?_) (fun hc28 => ?_)
        · skip
          have hc28 := zt_leT (a := (zq_bc (q9 0 sn) 39)) (b := 0) (by omega) (by omega) hc28
          refine lv_iconst (v := nI 0) hx hb d_Mod_scrub_93 (by decide) ?_
          have e4 : (if (zq_bc (q9 0 sn) 39) = 1 then m9 40 4 + nI 1 else m9 40 4) = (m9 40 4) + (nI 1) := by first | (exfalso; omega) | rw [if_pos (by omega)] | rw [if_neg (by omega), zt_add0]
          have e5 : (if (zq_bc (q9 0 sn) 39) = 2 then m9 40 5 + nI 1 else m9 40 5) = (m9 40 5) + (nI 0) := by first | (exfalso; omega) | rw [if_pos (by omega)] | rw [if_neg (by omega), zt_add0]
          have e6 : nI ((sn + 1) % 768) = nI 0 := by congr 1; omega
          have e7 : (if (zq_bc (q9 0 sn) 39) = 0 then 0 else 1) = 0 := by first | (exfalso; omega) | rw [if_pos (by omega)] | rw [if_neg (by omega)]
          refine W.widen (k := 0) (n := 0) (Nat.le_of_ble_eq_true rfl) (Nat.le_of_ble_eq_true rfl) ?_
          subst hAe
          exact W.iret (v := nI 0) hx hb hr (fun t ht hW => zc_end hS hH ht (⟨by rw [e7], rfl, rfl, rfl, by rw [e4, e5, e6]; exact hm⟩)) hS.2.2 d_Mod_scrub_94
        · skip
          have hc28 := zt_leF (a := (zq_bc (q9 0 sn) 39)) (b := 0) (by omega) (by omega) hc28
          refine lv_iconst (v := nI 1) hx hb d_Mod_scrub_89 (by decide) ?_
          refine lv_goto (tgt := 94) hx hb d_Mod_scrub_90 (by decide) ?_
          have e4 : (if (zq_bc (q9 0 sn) 39) = 1 then m9 40 4 + nI 1 else m9 40 4) = (m9 40 4) + (nI 1) := by first | (exfalso; omega) | rw [if_pos (by omega)] | rw [if_neg (by omega), zt_add0]
          have e5 : (if (zq_bc (q9 0 sn) 39) = 2 then m9 40 5 + nI 1 else m9 40 5) = (m9 40 5) + (nI 0) := by first | (exfalso; omega) | rw [if_pos (by omega)] | rw [if_neg (by omega), zt_add0]
          have e6 : nI ((sn + 1) % 768) = nI 0 := by congr 1; omega
          have e7 : (if (zq_bc (q9 0 sn) 39) = 0 then 0 else 1) = 1 := by first | (exfalso; omega) | rw [if_pos (by omega)] | rw [if_neg (by omega)]
          refine W.widen (k := 0) (n := 0) (Nat.le_of_ble_eq_true rfl) (Nat.le_of_ble_eq_true rfl) ?_
          subst hAe
          exact W.iret (v := nI 1) hx hb hr (fun t ht hW => zc_end hS hH ht (⟨by rw [e7], rfl, rfl, rfl, by rw [e4, e5, e6]; exact hm⟩)) hS.2.2 d_Mod_scrub_94
    · skip
      have hc21 := zt_neF (a := (zq_bc (q9 0 sn) 39)) (b := 2) (by omega) (by omega) hc21
      refine lv_iconst (v := nI 1) hx hb d_Mod_scrub_42 (by decide) ?_
      refine lv_goto (tgt := 47) hx hb d_Mod_scrub_43 (by decide) ?_
      refine lv_iadd hx hb d_Mod_scrub_47 ?_
      refine zr_puti (ref := "ScrubbedRecorderModel") (ci := 6) (C := R_Mod) (T := T_Mod) (N := 37) (x := (m9 40 5) + (nI 1)) (ty := .int) hx hb hts (fun w h => List.mem_cons_of_mem _ (zin_Mod w h)) ty_Mod tyok_Mod nm_Mod hown hK hH hS hm.1.1 (by decide) rfl 5 (by decide) rfl (hw zw_604) (fun _ h9 => h9) rfl (by decide +kernel) rfl rfl d_Mod_scrub_48 (fun H locs hH hS => ?_)
      have hm := zoR_X hm 5 ((m9 40 5) + (nI 1))
      generalize zu I20 X 5 ((m9 40 5) + (nI 1)) = I29 at hm hH
      refine lv_aload_n hx hb d_Mod_scrub_51 rfl (lv_at hl 1 rfl) ?_
      refine zr_getr (ci := 6) (C := R_Mod) (T := T_Mod) (N := 37) (ref := "ScrubbedRecorderModel") hx hb hts (fun w h => List.mem_cons_of_mem _ (zin_Mod w h)) hown hK hH hm.1.1 (by decide) rfl 0 (by decide) rfl (hw zw_599) (fun _ h9 => h9) d_Mod_scrub_52 (by rw [r0]) ?_
      refine lv_aload_n hx hb d_Mod_scrub_55 rfl (lv_at hl 1 rfl) ?_
      refine zr_geti (ci := 6) (C := R_Mod) (T := T_Mod) (N := 37) (ref := "ScrubbedRecorderModel") hx hb hts (fun w h => List.mem_cons_of_mem _ (zin_Mod w h)) hown hK hH hm.1.1 (by decide) rfl 6 (by decide) rfl (hw zw_605) (fun _ h9 => h9) d_Mod_scrub_56 ?_
      refine zt_i (y := nI sn) ((congrFun hm.2.2.1 6).trans (by rw [zu_k _ _ _ _ (show (6 : Nat) ≠ 5 by decide), zu_k _ _ _ _ (show (6 : Nat) ≠ 4 by decide), hs0])) ?_
      refine lv_lconst (v := 0) hx hb d_Mod_scrub_59 (by decide) ?_
      refine zr_astl (j := sn) (y := 0) hx hb hK hH hS k0 rfl (by rw [n0]; exact zh_ix_n (by omega) (by omega)) d_Mod_scrub_60 (fun H locs hH hS => ?_)
      have hm := zoR_L hm 0 (by decide) sn 0
      generalize zu L (ad 0) sn 0 = L30 at hm hH
      refine lv_aload_n hx hb d_Mod_scrub_61 rfl (lv_at hl 1 rfl) ?_
      refine lv_aload_n hx hb d_Mod_scrub_62 rfl (lv_at hl 1 rfl) ?_
      refine zr_geti (ci := 6) (C := R_Mod) (T := T_Mod) (N := 37) (ref := "ScrubbedRecorderModel") hx hb hts (fun w h => List.mem_cons_of_mem _ (zin_Mod w h)) hown hK hH hm.1.1 (by decide) rfl 6 (by decide) rfl (hw zw_605) (fun _ h9 => h9) d_Mod_scrub_63 ?_
      refine zt_i (y := nI sn) ((congrFun hm.2.2.1 6).trans (by rw [zu_k _ _ _ _ (show (6 : Nat) ≠ 5 by decide), zu_k _ _ _ _ (show (6 : Nat) ≠ 4 by decide), hs0])) ?_
      refine lv_sipush (v := nI 767) hx hb d_Mod_scrub_66 (by decide) ?_
      refine lv_icmp_ne (tgt := 76) hx hb d_Mod_scrub_69 (by decide) (fun hc31 => ?_) (fun hc31 => ?_)
      · skip
        have hc31 := zt_neT (a := sn) (b := 767) (by omega) (by omega) hc31
        refine lv_aload_n hx hb d_Mod_scrub_76 rfl (lv_at hl 1 rfl) ?_
        refine zr_geti (ci := 6) (C := R_Mod) (T := T_Mod) (N := 37) (ref := "ScrubbedRecorderModel") hx hb hts (fun w h => List.mem_cons_of_mem _ (zin_Mod w h)) hown hK hH hm.1.1 (by decide) rfl 6 (by decide) rfl (hw zw_605) (fun _ h9 => h9) d_Mod_scrub_77 ?_
        refine zt_i (y := nI sn) ((congrFun hm.2.2.1 6).trans (by rw [zu_k _ _ _ _ (show (6 : Nat) ≠ 5 by decide), zu_k _ _ _ _ (show (6 : Nat) ≠ 4 by decide), hs0])) ?_
        refine lv_iconst (v := nI 1) hx hb d_Mod_scrub_80 (by decide) ?_
        refine lv_iadd hx hb d_Mod_scrub_81 ?_
        refine zt_i (y := nI (sn + 1)) (nI_add sn 1) ?_
        refine zr_puti (ref := "ScrubbedRecorderModel") (ci := 6) (C := R_Mod) (T := T_Mod) (N := 37) (x := nI (sn + 1)) (ty := .int) hx hb hts (fun w h => List.mem_cons_of_mem _ (zin_Mod w h)) ty_Mod tyok_Mod nm_Mod hown hK hH hS hm.1.1 (by decide) rfl 6 (by decide) rfl (hw zw_605) (fun _ h9 => h9) rfl (by decide +kernel) rfl rfl d_Mod_scrub_82 (fun H locs hH hS => ?_)
        have hm := zoR_X hm 6 (nI (sn + 1))
        generalize zu I29 X 6 (nI (sn + 1)) = I32 at hm hH
        refine lv_iload_n hx hb d_Mod_scrub_85 rfl (lv_at hl 0 rfl) ?_
        refine lv_if_le (tgt := 93) hx hb d_Mod_scrub_86 (by decide) (fun hc33 => ?_) (fun hc33 => ?_)
        · skip
          have hc33 := zt_leT (a := (zq_bc (q9 0 sn) 39)) (b := 0) (by omega) (by omega) hc33
          refine lv_iconst (v := nI 0) hx hb d_Mod_scrub_93 (by decide) ?_
          have e4 : (if (zq_bc (q9 0 sn) 39) = 1 then m9 40 4 + nI 1 else m9 40 4) = (m9 40 4) + (nI 1) := by first | (exfalso; omega) | rw [if_pos (by omega)] | rw [if_neg (by omega), zt_add0]
          have e5 : (if (zq_bc (q9 0 sn) 39) = 2 then m9 40 5 + nI 1 else m9 40 5) = (m9 40 5) + (nI 1) := by first | (exfalso; omega) | rw [if_pos (by omega)] | rw [if_neg (by omega), zt_add0]
          have e6 : nI ((sn + 1) % 768) = nI (sn + 1) := by congr 1; omega
          have e7 : (if (zq_bc (q9 0 sn) 39) = 0 then 0 else 1) = 0 := by first | (exfalso; omega) | rw [if_pos (by omega)] | rw [if_neg (by omega)]
          refine W.widen (k := 0) (n := 0) (Nat.le_of_ble_eq_true rfl) (Nat.le_of_ble_eq_true rfl) ?_
          subst hAe
          exact W.iret (v := nI 0) hx hb hr (fun t ht hW => zc_end hS hH ht (⟨by rw [e7], rfl, rfl, rfl, by rw [e4, e5, e6]; exact hm⟩)) hS.2.2 d_Mod_scrub_94
        · skip
          have hc33 := zt_leF (a := (zq_bc (q9 0 sn) 39)) (b := 0) (by omega) (by omega) hc33
          refine lv_iconst (v := nI 1) hx hb d_Mod_scrub_89 (by decide) ?_
          refine lv_goto (tgt := 94) hx hb d_Mod_scrub_90 (by decide) ?_
          have e4 : (if (zq_bc (q9 0 sn) 39) = 1 then m9 40 4 + nI 1 else m9 40 4) = (m9 40 4) + (nI 1) := by first | (exfalso; omega) | rw [if_pos (by omega)] | rw [if_neg (by omega), zt_add0]
          have e5 : (if (zq_bc (q9 0 sn) 39) = 2 then m9 40 5 + nI 1 else m9 40 5) = (m9 40 5) + (nI 1) := by first | (exfalso; omega) | rw [if_pos (by omega)] | rw [if_neg (by omega), zt_add0]
          have e6 : nI ((sn + 1) % 768) = nI (sn + 1) := by congr 1; omega
          have e7 : (if (zq_bc (q9 0 sn) 39) = 0 then 0 else 1) = 1 := by first | (exfalso; omega) | rw [if_pos (by omega)] | rw [if_neg (by omega)]
          refine W.widen (k := 0) (n := 0) (Nat.le_of_ble_eq_true rfl) (Nat.le_of_ble_eq_true rfl) ?_
          subst hAe
          exact W.iret (v := nI 1) hx hb hr (fun t ht hW => zc_end hS hH ht (⟨by rw [e7], rfl, rfl, rfl, by rw [e4, e5, e6]; exact hm⟩)) hS.2.2 d_Mod_scrub_94
      · skip
        have hc31 := zt_neF (a := sn) (b := 767) (by omega) (by omega) hc31
        refine lv_iconst (v := nI 0) hx hb d_Mod_scrub_72 (by decide) ?_
        refine lv_goto (tgt := 82) hx hb d_Mod_scrub_73 (by decide) ?_
        refine zr_puti (ref := "ScrubbedRecorderModel") (ci := 6) (C := R_Mod) (T := T_Mod) (N := 37) (x := nI 0) (ty := .int) hx hb hts (fun w h => List.mem_cons_of_mem _ (zin_Mod w h)) ty_Mod tyok_Mod nm_Mod hown hK hH hS hm.1.1 (by decide) rfl 6 (by decide) rfl (hw zw_605) (fun _ h9 => h9) rfl (by decide +kernel) rfl rfl d_Mod_scrub_82 (fun H locs hH hS => ?_)
        have hm := zoR_X hm 6 (nI 0)
        generalize zu I29 X 6 (nI 0) = I34 at hm hH
        refine lv_iload_n hx hb d_Mod_scrub_85 rfl (lv_at hl 0 rfl) ?_
        refine lv_if_le (tgt := 93) hx hb d_Mod_scrub_86 (by decide) (fun hc35 => ?_) (fun hc35 => ?_)
        · skip
          have hc35 := zt_leT (a := (zq_bc (q9 0 sn) 39)) (b := 0) (by omega) (by omega) hc35
          refine lv_iconst (v := nI 0) hx hb d_Mod_scrub_93 (by decide) ?_
          have e4 : (if (zq_bc (q9 0 sn) 39) = 1 then m9 40 4 + nI 1 else m9 40 4) = (m9 40 4) + (nI 1) := by first | (exfalso; omega) | rw [if_pos (by omega)] | rw [if_neg (by omega), zt_add0]
          have e5 : (if (zq_bc (q9 0 sn) 39) = 2 then m9 40 5 + nI 1 else m9 40 5) = (m9 40 5) + (nI 1) := by first | (exfalso; omega) | rw [if_pos (by omega)] | rw [if_neg (by omega), zt_add0]
          have e6 : nI ((sn + 1) % 768) = nI 0 := by congr 1; omega
          have e7 : (if (zq_bc (q9 0 sn) 39) = 0 then 0 else 1) = 0 := by first | (exfalso; omega) | rw [if_pos (by omega)] | rw [if_neg (by omega)]
          refine W.widen (k := 0) (n := 0) (Nat.le_of_ble_eq_true rfl) (Nat.le_of_ble_eq_true rfl) ?_
          subst hAe
          exact W.iret (v := nI 0) hx hb hr (fun t ht hW => zc_end hS hH ht (⟨by rw [e7], rfl, rfl, rfl, by rw [e4, e5, e6]; exact hm⟩)) hS.2.2 d_Mod_scrub_94
        · skip
          have hc35 := zt_leF (a := (zq_bc (q9 0 sn) 39)) (b := 0) (by omega) (by omega) hc35
          refine lv_iconst (v := nI 1) hx hb d_Mod_scrub_89 (by decide) ?_
          refine lv_goto (tgt := 94) hx hb d_Mod_scrub_90 (by decide) ?_
          have e4 : (if (zq_bc (q9 0 sn) 39) = 1 then m9 40 4 + nI 1 else m9 40 4) = (m9 40 4) + (nI 1) := by first | (exfalso; omega) | rw [if_pos (by omega)] | rw [if_neg (by omega), zt_add0]
          have e5 : (if (zq_bc (q9 0 sn) 39) = 2 then m9 40 5 + nI 1 else m9 40 5) = (m9 40 5) + (nI 1) := by first | (exfalso; omega) | rw [if_pos (by omega)] | rw [if_neg (by omega), zt_add0]
          have e6 : nI ((sn + 1) % 768) = nI 0 := by congr 1; omega
          have e7 : (if (zq_bc (q9 0 sn) 39) = 0 then 0 else 1) = 1 := by first | (exfalso; omega) | rw [if_pos (by omega)] | rw [if_neg (by omega)]
          refine W.widen (k := 0) (n := 0) (Nat.le_of_ble_eq_true rfl) (Nat.le_of_ble_eq_true rfl) ?_
          subst hAe
          exact W.iret (v := nI 1) hx hb hr (fun t ht hW => zc_end hS hH ht (⟨by rw [e7], rfl, rfl, rfl, by rw [e4, e5, e6]; exact hm⟩)) hS.2.2 d_Mod_scrub_94
