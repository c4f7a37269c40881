/-! the class's heap as rows: 0 the Memory, 1 inChain, 2 the buffer, 3 flipped, 4 the stores, 5 the playbacks, 10 + k a store, 20 + k its chain, 30 + p a playback, zk_p k x the packet at position x of store k, the row behind it what it tells. c ints, d longs, g numbers: g 0 k is store k made, g 1 k and g 2 k its first kept and its next position, g 3 p the store of playback p plus one, g 4 r how long row r tells, g 5 0 is there a frame, g 6 0 is there a packet (rows 96 and 97) that is in no list yet -/
def zk_p (k x : Nat) : Nat := 100 + 8 * x + 2 * k
def zk_k (r : Nat) : Nat := if r = 0 then 2 else if r = 1 then 103 else if r = 2 then 102 else if r = 3 then 101 else if r = 4 then 105 else if r = 5 then 106 else if r < 20 then 3 else if r < 30 then 100 else if r < 90 then 5 else if r % 2 = 0 then 4 else 102
def zk_n (g : Nat → Nat → Nat) (r : Nat) : Nat := if r = 1 then 40 else if r = 2 then 60 else if r = 3 then 768 else if r < 6 then 4 else if r < 90 then 40 else g 4 r
def zk_lv (g : Nat → Nat → Nat) (r : Nat) : Prop := r ≤ 5 ∨ (10 ≤ r ∧ r < 14 ∧ g 0 (r - 10) ≠ 0) ∨ (20 ≤ r ∧ r < 24 ∧ g 0 (r - 20) ≠ 0) ∨ (30 ≤ r ∧ r < 34 ∧ g 3 (r - 30) ≠ 0) ∨ (96 ≤ r ∧ r < 98 ∧ g 6 0 ≠ 0) ∨ (100 ≤ r ∧ g 0 ((r - 100) % 8 / 2) ≠ 0 ∧ g 1 ((r - 100) % 8 / 2) ≤ (r - 100) / 8 ∧ (r - 100) / 8 < g 2 ((r - 100) % 8 / 2))
/-- store k's list of packets -/
def zk_ls (te : Nat) (A ea : Nat → Nat) (g : Nat → Nat → Nat) (k : Nat) (kd ln : Nat → Nat) (I : Nat → Nat → Int32) (R : Nat → Nat → Option Nat) : Prop := kd (A (40 + k)) = 6 ∧ I (A (40 + k)) 1 = nI (g 2 k - g 1 k) ∧ R (A (40 + k)) 0 = some (ea k) ∧ ((ea k = te ∧ g 2 k - g 1 k = 0) ∨ (kd (ea k) = 104 ∧ g 2 k - g 1 k ≤ ln (ea k) ∧ ln (ea k) ≤ 1500 ∧ 1 ≤ ln (ea k))) ∧ ∀ j, j < g 2 k - g 1 k → R (ea k) j = some (A (zk_p k (g 1 k + j)))
def zkR (X te : Nat) (A ea : Nat → Nat) (c : Nat → Nat → Int32) (d : Nat → Nat → Int64) (g : Nat → Nat → Nat) (kd ln : Nat → Nat) (I : Nat → Nat → Int32) (L : Nat → Nat → Int64) (R : Nat → Nat → Option Nat) : Prop :=
  (∀ r, zk_lv g r → kd (A r) = zk_k r ∧ I (A r) = c r ∧ L (A r) = d r ∧ (100 ≤ zk_k r → ln (A r) = zk_n g r)) ∧
  (∀ r s, zk_lv g r → zk_lv g s → A r = A s → r = s) ∧
  (kd X = 1 ∧ R X 0 = some (A 0) ∧ R X 1 = some (A 4) ∧ R X 2 = some (A 5) ∧ R X 3 = some (A 2) ∧ L X 5 = d 9 0) ∧
  (R (A 0) 0 = some (A 3) ∧ R (A 0) 1 = some (A 1)) ∧
  (∀ k, k < 4 → (g 0 k = 0 → R (A 4) k = none) ∧ (g 0 k ≠ 0 → R (A 4) k = some (A (10 + k)) ∧ R (A (10 + k)) 2 = some (A 0) ∧ R (A (10 + k)) 3 = some (A (20 + k)) ∧ R (A (10 + k)) 5 = some (A (40 + k)) ∧ zk_ls te A ea g k kd ln I R)) ∧
  (∀ k j, k < 4 → j < 4 → g 0 k ≠ 0 → g 0 j ≠ 0 → k ≠ j → A (40 + k) ≠ A (40 + j) ∧ (kd (ea k) = 104 → ea k ≠ ea j)) ∧
  (∀ p, p < 4 → (g 3 p = 0 → R (A 5) p = none) ∧ (g 3 p ≠ 0 → R (A 5) p = some (A (30 + p)) ∧ R (A (30 + p)) 4 = some (A (9 + g 3 p)))) ∧
  ((∀ k x, k < 4 → g 0 k ≠ 0 → g 1 k ≤ x → x < g 2 k → R (A (zk_p k x)) 1 = some (A (zk_p k x + 1))) ∧ (g 6 0 ≠ 0 → R (A 96) 1 = some (A 97))) ∧
  ((g 5 0 = 0 ∧ R X 4 = none) ∨ (g 5 0 ≠ 0 ∧ ∃ fp ft, R X 4 = some fp ∧ kd fp = 4 ∧ R fp 1 = some ft ∧ kd ft = 102 ∧ ft ≠ A 2 ∧ ln ft = g 4 91 ∧ I fp 0 = c 90 0 ∧ I fp 2 = c 90 2 ∧ I ft = c 91))
theorem zk_lv0 {g : Nat → Nat → Nat} {r : Nat} (h : r ≤ 5) : zk_lv g r := Or.inl h
theorem zk_lv1 {g : Nat → Nat → Nat} {k : Nat} (h : k < 4) (hg : g 0 k ≠ 0) : zk_lv g (10 + k) := Or.inr (Or.inl ⟨by omega, by omega, by rw [show 10 + k - 10 = k by omega]; exact hg⟩)
theorem zk_lv2 {g : Nat → Nat → Nat} {k : Nat} (h : k < 4) (hg : g 0 k ≠ 0) : zk_lv g (20 + k) := Or.inr (Or.inr (Or.inl ⟨by omega, by omega, by rw [show 20 + k - 20 = k by omega]; exact hg⟩))
theorem zk_lv3 {g : Nat → Nat → Nat} {p : Nat} (h : p < 4) (hg : g 3 p ≠ 0) : zk_lv g (30 + p) := Or.inr (Or.inr (Or.inr (Or.inl ⟨by omega, by omega, by rw [show 30 + p - 30 = p by omega]; exact hg⟩)))
theorem zk_lv6 {g : Nat → Nat → Nat} {r : Nat} (h : 96 ≤ r ∧ r < 98) (hg : g 6 0 ≠ 0) : zk_lv g r := Or.inr (Or.inr (Or.inr (Or.inr (Or.inl ⟨h.1, h.2, hg⟩))))
theorem zk_lvp {g : Nat → Nat → Nat} {k x : Nat} (h : k < 4) (hg : g 0 k ≠ 0) (h1 : g 1 k ≤ x) (h2 : x < g 2 k) : zk_lv g (zk_p k x) := by
  refine Or.inr (Or.inr (Or.inr (Or.inr (Or.inr ?_))))
  unfold zk_p
  rw [show (100 + 8 * x + 2 * k - 100) % 8 / 2 = k by omega, show (100 + 8 * x + 2 * k - 100) / 8 = x by omega]
  exact ⟨by omega, hg, h1, h2⟩
theorem zk_lvt {g : Nat → Nat → Nat} {k x : Nat} (h : k < 4) (hg : g 0 k ≠ 0) (h1 : g 1 k ≤ x) (h2 : x < g 2 k) : zk_lv g (zk_p k x + 1) := by
  refine Or.inr (Or.inr (Or.inr (Or.inr (Or.inr ?_))))
  unfold zk_p
  rw [show (100 + 8 * x + 2 * k + 1 - 100) % 8 / 2 = k by omega, show (100 + 8 * x + 2 * k + 1 - 100) / 8 = x by omega]
  exact ⟨by omega, hg, h1, h2⟩
theorem zk_lv_ne {g : Nat → Nat → Nat} {r : Nat} (h : zk_lv g r) : r ≠ 9 ∧ r ≠ 90 ∧ r ≠ 91 := by
  rcases h with h | ⟨h1, h2, -⟩ | ⟨h1, h2, -⟩ | ⟨h1, h2, -⟩ | ⟨h1, h2, -⟩ | ⟨h1, -⟩ <;> omega
theorem zk_k1 {k : Nat} (h : k < 4) : zk_k (10 + k) = 3 := by
  rcases (show k = 0 ∨ k = 1 ∨ k = 2 ∨ k = 3 by omega) with rfl | rfl | rfl | rfl <;> rfl
theorem zk_k2 {k : Nat} (h : k < 4) : zk_k (20 + k) = 100 := by
  rcases (show k = 0 ∨ k = 1 ∨ k = 2 ∨ k = 3 by omega) with rfl | rfl | rfl | rfl <;> rfl
theorem zk_k3 {k : Nat} (h : k < 4) : zk_k (30 + k) = 5 := by
  rcases (show k = 0 ∨ k = 1 ∨ k = 2 ∨ k = 3 by omega) with rfl | rfl | rfl | rfl <;> rfl
theorem zk_kb {r : Nat} (h : 90 ≤ r) : zk_k r = if r % 2 = 0 then 4 else 102 := by
  unfold zk_k
  rw [if_neg (by omega), if_neg (by omega), if_neg (by omega), if_neg (by omega), if_neg (by omega), if_neg (by omega), if_neg (by omega), if_neg (by omega), if_neg (by omega)]
theorem zk_kp {k x : Nat} : zk_k (zk_p k x) = 4 := by
  unfold zk_p
  rw [zk_kb (by omega), if_pos (by omega)]
theorem zk_kt {k x : Nat} : zk_k (zk_p k x + 1) = 102 := by
  unfold zk_p
  rw [zk_kb (by omega), if_neg (by omega)]
theorem zk_k_in (r : Nat) : zk_k r = 2 ∨ zk_k r = 103 ∨ zk_k r = 102 ∨ zk_k r = 101 ∨ zk_k r = 105 ∨ zk_k r = 106 ∨ zk_k r = 3 ∨ zk_k r = 100 ∨ zk_k r = 5 ∨ zk_k r = 4 := by
  unfold zk_k
  split
  · omega
  split
  · omega
  split
  · omega
  split
  · omega
  split
  · omega
  split
  · omega
  split
  · omega
  split
  · omega
  split
  · omega
  split <;> omega
theorem zk_k4 {r : Nat} (h : zk_k r = 4) : 90 ≤ r ∧ r % 2 = 0 := by
  unfold zk_k at h
  repeat' (split at h)
  all_goals first | omega | (exfalso; omega)
theorem zk_k102 {g : Nat → Nat → Nat} {r : Nat} (hl : zk_lv g r) (h : zk_k r = 102) : r = 2 ∨ (90 ≤ r ∧ r % 2 = 1) := by
  unfold zk_k at h
  repeat' (split at h)
  all_goals first | omega | (exfalso; omega)
section ZKR
variable {X te : Nat} {A ea : Nat → Nat} {c : Nat → Nat → Int32} {d : Nat → Nat → Int64} {g : Nat → Nat → Nat} {kd ln : Nat → Nat} {I : Nat → Nat → Int32} {L : Nat → Nat → Int64} {R : Nat → Nat → Option Nat}
theorem zkR_k (h : zkR X te A ea c d g kd ln I L R) {r : Nat} (hr : zk_lv g r) : kd (A r) = zk_k r := (h.1 r hr).1
theorem zkR_i (h : zkR X te A ea c d g kd ln I L R) {r : Nat} (hr : zk_lv g r) : I (A r) = c r := (h.1 r hr).2.1
theorem zkR_l (h : zkR X te A ea c d g kd ln I L R) {r : Nat} (hr : zk_lv g r) : L (A r) = d r := (h.1 r hr).2.2.1
theorem zkR_n (h : zkR X te A ea c d g kd ln I L R) {r : Nat} (hr : zk_lv g r) (hk : 100 ≤ zk_k r) : ln (A r) = zk_n g r := (h.1 r hr).2.2.2 hk
theorem zkR_xne (h : zkR X te A ea c d g kd ln I L R) {r : Nat} (hr : zk_lv g r) : X ≠ A r := fun e => by
  have h1 := (h.1 r hr).1
  rw [← e, h.2.2.1.1] at h1
  have := zk_k_in r
  omega
theorem zkR_ane (h : zkR X te A ea c d g kd ln I L R) {r k : Nat} (hr : zk_lv g r) (hk : k < 4) (hg : g 0 k ≠ 0) : A (40 + k) ≠ A r := fun e => by
  have h1 := (h.1 r hr).1
  have h2 := ((h.2.2.2.2.1 k hk).2 hg).2.2.2.2.1
  rw [← e, h2] at h1
  have := zk_k_in r
  omega
theorem zkR_I (h : zkR X te A ea c d g kd ln I L R) (r k : Nat) (x : Int32) (hr : zk_lv g r) (hk : zk_k r = 4 → k ≠ 0 ∧ k ≠ 2) (ht : zk_k r = 102 → r = 2) : zkR X te A ea (zu c r k x) d g kd ln (zu I (A r) k x) L R := by
  have h0 := h
  obtain ⟨t1, t2, hx, hm, hs, hj, hp, hq, hf⟩ := h
  obtain ⟨n9, n90, n91⟩ := zk_lv_ne hr
  refine ⟨fun s hsl => ?_, t2, hx, hm, fun j hj4 => ⟨(hs j hj4).1, fun hg => ?_⟩, hj, hp, hq, ?_⟩
  · by_cases e : s = r
    · subst e
      rw [zu_at, zu_at]
      have ht1 := t1 s hsl
      exact ⟨ht1.1, by rw [ht1.2.1], ht1.2.2⟩
    · rw [zu_ne _ _ _ (fun q => e (t2 s r hsl hr q)), zu_ne _ _ _ e]
      exact t1 s hsl
  · obtain ⟨a1, a2, a3, a4, l1, l2, l3⟩ := (hs j hj4).2 hg
    refine ⟨a1, a2, a3, a4, l1, ?_, l3⟩
    rw [zu_ne _ _ _ (zkR_ane h0 hr hj4 hg)]
    exact l2
  · rcases hf with hf | ⟨f0, fp, ft, f1, f2, f3, f4, f5, f6, f7, f8, f9⟩
    · exact Or.inl hf
    · have hfp : ∀ j, j = 0 ∨ j = 2 → zu I (A r) k x fp j = I fp j := fun j hj => by
        by_cases e : fp = A r
        · have h4 : zk_k r = 4 := by rw [← (t1 r hr).1, ← e]; exact f2
          have := hk h4
          rw [zu_k _ _ _ _ (show j ≠ k by omega)]
        · rw [zu_ne _ _ _ e]
      have hft : ft ≠ A r := fun e => f5 (by
        have h4 : zk_k r = 102 := by rw [← (t1 r hr).1, ← e]; exact f4
        rw [← ht h4, e])
      refine Or.inr ⟨f0, fp, ft, f1, f2, f3, f4, f5, f6, ?_, ?_, ?_⟩
      · rw [hfp 0 (Or.inl rfl), zu_ne _ _ _ (Ne.symm n90)]
        exact f7
      · rw [hfp 2 (Or.inr rfl), zu_ne _ _ _ (Ne.symm n90)]
        exact f8
      · rw [zu_ne _ _ _ hft, zu_ne _ _ _ (Ne.symm n91)]
        exact f9
theorem zkR_L (h : zkR X te A ea c d g kd ln I L R) (r k : Nat) (x : Int64) (hr : zk_lv g r) : zkR X te A ea c (zu d r k x) g kd ln I (zu L (A r) k x) R := by
  have h0 := h
  obtain ⟨t1, t2, hx, hm, hs, hj, hp, hq, hf⟩ := h
  obtain ⟨n9, n90, n91⟩ := zk_lv_ne hr
  refine ⟨fun s hsl => ?_, t2, ?_, hm, hs, hj, hp, hq, hf⟩
  · by_cases e : s = r
    · subst e
      rw [zu_at, zu_at]
      have ht1 := t1 s hsl
      exact ⟨ht1.1, ht1.2.1, by rw [ht1.2.2.1], ht1.2.2.2⟩
    · rw [zu_ne _ _ _ (fun q => e (t2 s r hsl hr q)), zu_ne _ _ _ e]
      exact t1 s hsl
  · rw [zu_ne _ _ _ (zkR_xne h0 hr), zu_ne _ _ _ (Ne.symm n9)]
    exact hx
theorem zkR_T (h : zkR X te A ea c d g kd ln I L R) (x : Int64) : zkR X te A ea c (zu d 9 0 x) g kd ln I (zu L X 5 x) R := by
  have h0 := h
  obtain ⟨t1, t2, hx, hm, hs, hj, hp, hq, hf⟩ := h
  refine ⟨fun s hsl => ?_, t2, ?_, hm, hs, hj, hp, hq, hf⟩
  · rw [zu_ne _ _ _ (Ne.symm (zkR_xne h0 hsl)), zu_ne _ _ _ (zk_lv_ne hsl).1]
    exact t1 s hsl
  · rw [zu_self, zu_self]
    exact ⟨hx.1, hx.2.1, hx.2.2.1, hx.2.2.2.1, hx.2.2.2.2.1, rfl⟩
theorem zkR_wr (h : zkR X te A ea c d g kd ln I L R) (p w : Nat) : zkR X te A ea c (zb_wr 3 p w d) g kd ln I (zb_wr (A 3) p w L) R := zkR_L (zkR_L h 3 _ 0 (zk_lv0 (by decide))) 3 _ 0 (zk_lv0 (by decide))
theorem zkR_wrs (h : zkR X te A ea c d g kd ln I L R) (p : Nat) : ∀ n, zkR X te A ea c (zb_wrs 3 p d n) g kd ln I (zb_wrs (A 3) p L n) R
  | 0 => h
  | n + 1 => zkR_wr (zkR_wrs h p n) p n
theorem zkR_st (h : zkR X te A ea c d g kd ln I L R) {k : Nat} (hk : k < 4) (hg : g 0 k ≠ 0) : R (A 4) k = some (A (10 + k)) ∧ R (A (10 + k)) 2 = some (A 0) ∧ R (A (10 + k)) 3 = some (A (20 + k)) ∧ R (A (10 + k)) 5 = some (A (40 + k)) ∧ zk_ls te A ea g k kd ln I R := (h.2.2.2.2.1 k hk).2 hg
theorem zkR_sn (h : zkR X te A ea c d g kd ln I L R) {k : Nat} (hk : k < 4) (hg : g 0 k = 0) : R (A 4) k = none := (h.2.2.2.2.1 k hk).1 hg
theorem zkR_pb (h : zkR X te A ea c d g kd ln I L R) {p : Nat} (hp : p < 4) (hg : g 3 p ≠ 0) : R (A 5) p = some (A (30 + p)) ∧ R (A (30 + p)) 4 = some (A (9 + g 3 p)) := (h.2.2.2.2.2.2.1 p hp).2 hg
theorem zkR_pn (h : zkR X te A ea c d g kd ln I L R) {p : Nat} (hp : p < 4) (hg : g 3 p = 0) : R (A 5) p = none := (h.2.2.2.2.2.2.1 p hp).1 hg
theorem zkR_tl (h : zkR X te A ea c d g kd ln I L R) {k x : Nat} (hk : k < 4) (hg : g 0 k ≠ 0) (h1 : g 1 k ≤ x) (h2 : x < g 2 k) : R (A (zk_p k x)) 1 = some (A (zk_p k x + 1)) := h.2.2.2.2.2.2.2.1.1 k x hk hg h1 h2
theorem zkR_pe (h : zkR X te A ea c d g kd ln I L R) (hg : g 6 0 ≠ 0) : R (A 96) 1 = some (A 97) := h.2.2.2.2.2.2.2.1.2 hg
theorem zkR_fr (h : zkR X te A ea c d g kd ln I L R) : (g 5 0 = 0 ∧ R X 4 = none) ∨ (g 5 0 ≠ 0 ∧ ∃ fp ft, R X 4 = some fp ∧ kd fp = 4 ∧ R fp 1 = some ft ∧ kd ft = 102 ∧ ft ≠ A 2 ∧ ln ft = g 4 91 ∧ I fp 0 = c 90 0 ∧ I fp 2 = c 90 2 ∧ I ft = c 91) := h.2.2.2.2.2.2.2.2
end ZKR
abbrev zk_P (V : Option Value) (X te : Nat) (A ea : Nat → Nat) (c : Nat → Nat → Int32) (d : Nat → Nat → Int64) (g : Nat → Nat → Nat) (kd ln : Nat → Nat) : zc_T := fun v1 kd1 ln1 I1 L1 R1 => V = v1 ∧ kd = kd1 ∧ ln = ln1 ∧ zkR X te A ea c d g kd ln I1 L1 R1
/-- rows of store k's packets at the positions from a to b made anew -/
def zk_mp {α : Type} (c : Nat → Nat → α) (k a b : Nat) (G : Nat → Nat → α) : Nat → Nat → α := fun r s => if 100 ≤ r ∧ (r - 100) % 8 = 2 * k ∧ a ≤ (r - 100) / 8 ∧ (r - 100) / 8 < b then G ((r - 100) / 8) s else c r s
theorem zk_mp_at {α : Type} {c : Nat → Nat → α} {k a b : Nat} {G : Nat → Nat → α} {x : Nat} (hk : k < 4) (h1 : a ≤ x) (h2 : x < b) : zk_mp c k a b G (zk_p k x) = G x := by
  funext s
  unfold zk_mp zk_p
  rw [show (100 + 8 * x + 2 * k - 100) / 8 = x by omega, if_pos (by omega)]
theorem zk_mp_ne {α : Type} {c : Nat → Nat → α} {k a b : Nat} {G : Nat → Nat → α} {x : Nat} (hk : k < 4) (h : ¬ (a ≤ x ∧ x < b)) : zk_mp c k a b G (zk_p k x) = c (zk_p k x) := by
  funext s
  unfold zk_mp zk_p
  rw [show (100 + 8 * x + 2 * k - 100) / 8 = x by omega, if_neg (by omega)]
theorem zk_mp_lo {α : Type} {c : Nat → Nat → α} {k a b : Nat} {G : Nat → Nat → α} {r : Nat} (h : r < 100) : zk_mp c k a b G r = c r := by
  funext s
  unfold zk_mp
  rw [if_neg (by omega)]
theorem zk_mp_0 {α : Type} (c : Nat → Nat → α) (k a : Nat) (G : Nat → Nat → α) : zk_mp c k a a G = c := by
  funext r s
  unfold zk_mp
  rw [if_neg (by omega)]
theorem zk_mp_s {α : Type} {c : Nat → Nat → α} {k a b : Nat} {G : Nat → Nat → α} (hk : k < 4) (hab : a ≤ b) : va_up (zk_mp c k a b G) (zk_p k b) (G b) = zk_mp c k a (b + 1) G := by
  funext r s
  by_cases e : r = zk_p k b
  · subst e
    rw [va_up_self, zk_mp_at hk hab (by omega)]
  · rw [va_up_ne _ _ e]
    unfold zk_p at e
    unfold zk_mp
    by_cases h2 : 100 ≤ r ∧ (r - 100) % 8 = 2 * k ∧ a ≤ (r - 100) / 8 ∧ (r - 100) / 8 < b
    · rw [if_pos h2, if_pos (by omega)]
    · rw [if_neg h2, if_neg (by omega)]
