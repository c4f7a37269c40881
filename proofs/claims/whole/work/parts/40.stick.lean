theorem zi_ac (a b x : Int32) : a + x + b = a + b + x := by rw [Int32.add_assoc, Int32.add_comm x b, ← Int32.add_assoc]
theorem zb_sw_1 {c : Nat → Nat → Int32} {n : Nat} (h : n ≤ 2) : zb_swI c 0 (nI n) 0 6 = (if n = 1 then c 0 6 + nI 1 else c 0 6) ∧ zb_swI c 0 (nI n) 0 7 = (if n = 2 then c 0 7 + nI 1 else c 0 7) := by
  rcases (show n = 0 ∨ n = 1 ∨ n = 2 by omega) with rfl | rfl | rfl
  · unfold zb_swI
    rw [if_neg (by decide), if_neg (by decide)]
    exact ⟨rfl, rfl⟩
  · unfold zb_swI
    rw [if_pos rfl]
    exact ⟨by rw [zu_self]; rfl, by rw [zu_k _ _ _ _ (by decide)]; rfl⟩
  · unfold zb_swI
    rw [if_neg (by decide), if_pos rfl]
    exact ⟨by rw [zu_k _ _ _ _ (by decide)]; rfl, by rw [zu_self]; rfl⟩
theorem zb_sw_r {c : Nat → Nat → Int32} {v : Int32} {r : Nat} (h : r ≠ 0) : zb_swI c 0 v r = c r := by
  unfold zb_swI
  split
  · exact zu_ne _ _ _ h
  · split
    · exact zu_ne _ _ _ h
    · rfl
theorem zs_snn : ∀ (n : Nat) (c : Nat → Nat → Int32) (d : Nat → Nat → Int64) (sn : Nat), c 0 5 = nI sn → sn < 768 → (∀ j, j < 768 → zq_f2 (d 3 j)) →
    (zb_sn 0 3 n (c, d)).1 0 6 = (zq_sn n (c 0 6, c 0 7, sn, d 3)).1 ∧ (zb_sn 0 3 n (c, d)).1 0 7 = (zq_sn n (c 0 6, c 0 7, sn, d 3)).2.1 ∧ (zb_sn 0 3 n (c, d)).1 0 5 = nI (zq_sn n (c 0 6, c 0 7, sn, d 3)).2.2.1 ∧ (zq_sn n (c 0 6, c 0 7, sn, d 3)).2.2.1 < 768 ∧ (zb_sn 0 3 n (c, d)).2 3 = (zq_sn n (c 0 6, c 0 7, sn, d 3)).2.2.2 ∧ (∀ j, j < 768 → zq_f2 ((zq_sn n (c 0 6, c 0 7, sn, d 3)).2.2.2 j)) ∧ (∀ s, s ≠ 5 → s ≠ 6 → s ≠ 7 → (zb_sn 0 3 n (c, d)).1 0 s = c 0 s) ∧ (∀ r, r ≠ 0 → (zb_sn 0 3 n (c, d)).1 r = c r) ∧ (∀ r, r ≠ 3 → (zb_sn 0 3 n (c, d)).2 r = d r) ∧ (zb_sn 0 3 n (c, d)).1 0 6 + (zb_sn 0 3 n (c, d)).1 0 7 = c 0 6 + c 0 7 + nI (zq_dn n (c 0 6, c 0 7, sn, d 3))
  | 0, c, d, sn, h1, h2, h3 => ⟨rfl, rfl, h1, h2, rfl, h3, fun _ _ _ _ => rfl, fun _ _ => rfl, fun _ _ => rfl, (zt_add0 _).symm⟩
  | n + 1, c, d, sn, h1, h2, h3 => by
    have hcl : (c 0 5).toNatClampNeg = sn := by rw [h1, nI_clamp (by omega)]
    have hle := zq_le2 (h3 sn h2)
    have hcn : zb_cnt (d 3 sn) = nI (zq_bc (d 3 sn) 39) := zq_cnt (Or.inl (h3 sn h2))
    have e1 : zb_s1 0 3 (c, d) = (zu (zb_swI c 0 (nI (zq_bc (d 3 sn) 39))) 0 5 (nI ((sn + 1) % 768)), zu d 3 sn 0) := by
      unfold zb_s1
      show (zu (zb_swI c 0 (zb_cnt (d 3 (c 0 5).toNatClampNeg))) 0 5 (nI (((c 0 5).toNatClampNeg + 1) % 768)), zu d 3 (c 0 5).toNatClampNeg 0) = _
      rw [hcl, hcn]
    have c6 : zu (zb_swI c 0 (nI (zq_bc (d 3 sn) 39))) 0 5 (nI ((sn + 1) % 768)) 0 6 = if zq_bc (d 3 sn) 39 = 1 then c 0 6 + nI 1 else c 0 6 := by rw [zu_k _ _ _ _ (by decide), (zb_sw_1 hle).1]
    have c7 : zu (zb_swI c 0 (nI (zq_bc (d 3 sn) 39))) 0 5 (nI ((sn + 1) % 768)) 0 7 = if zq_bc (d 3 sn) 39 = 2 then c 0 7 + nI 1 else c 0 7 := by rw [zu_k _ _ _ _ (by decide), (zb_sw_1 hle).2]
    have d3 : zu d 3 sn 0 3 = va_up (d 3) sn 0 := zu_at _ _ _ _
    have ih := zs_snn n (zu (zb_swI c 0 (nI (zq_bc (d 3 sn) 39))) 0 5 (nI ((sn + 1) % 768))) (zu d 3 sn 0) ((sn + 1) % 768) (zu_self _ _ _ _) (Nat.mod_lt _ (by decide)) (by rw [d3]; exact zq_s1_f2 (q := (c 0 6, c 0 7, sn, d 3)) h3)
    rw [c6, c7, d3] at ih
    have e2 : zq_sn (n + 1) (c 0 6, c 0 7, sn, d 3) = zq_sn n ((if zq_bc (d 3 sn) 39 = 1 then c 0 6 + nI 1 else c 0 6), (if zq_bc (d 3 sn) 39 = 2 then c 0 7 + nI 1 else c 0 7), (sn + 1) % 768, va_up (d 3) sn 0) := rfl
    have e3 : zb_sn 0 3 (n + 1) (c, d) = zb_sn 0 3 n (zu (zb_swI c 0 (nI (zq_bc (d 3 sn) 39))) 0 5 (nI ((sn + 1) % 768)), zu d 3 sn 0) := by rw [← e1]; rfl
    have e4 : zq_dn (n + 1) (c 0 6, c 0 7, sn, d 3) = (if zq_bc (d 3 sn) 39 = 0 then 0 else 1) + zq_dn n ((if zq_bc (d 3 sn) 39 = 1 then c 0 6 + nI 1 else c 0 6), (if zq_bc (d 3 sn) 39 = 2 then c 0 7 + nI 1 else c 0 7), (sn + 1) % 768, va_up (d 3) sn 0) := rfl
    rw [e2, e3, e4]
    obtain ⟨i1, i2, i3, i4, i5, i6, i7, i8, i9, i10⟩ := ih
    refine ⟨i1, i2, i3, i4, i5, i6, fun s h5 h6 h7 => ?_, fun r hr => ?_, fun r hr => ?_, ?_⟩
    · rw [i7 s h5 h6 h7, zu_k _ _ _ _ h5]
      unfold zb_swI
      split
      · exact zu_k _ _ _ _ h6
      · split
        · exact zu_k _ _ _ _ h7
        · rfl
    · rw [i8 r hr, zu_ne _ _ _ hr, zb_sw_r hr]
    · rw [i9 r hr, zu_ne _ _ _ hr]
    · rw [i10, ← nI_add, ← Int32.add_assoc]
      congr 1
      rcases (show zq_bc (d 3 sn) 39 = 0 ∨ zq_bc (d 3 sn) 39 = 1 ∨ zq_bc (d 3 sn) 39 = 2 by omega) with e | e | e
      · rw [e]
        exact (zt_add0 _).symm
      · rw [e]
        exact zi_ac _ _ _
      · rw [e]
        exact (Int32.add_assoc _ _ _).symm
theorem zb_rb_r {c : Nat → Nat → Int32} {r : Nat} (h : r ≠ 0) : zb_rbI c 0 r = c r := by
  unfold zb_rbI
  split
  · rfl
  · split
    · split
      · rw [zu_ne _ _ _ h, zu_ne _ _ _ h]
      · rw [zu_ne _ _ _ h]
    · rfl
theorem zb_rb_s {c : Nat → Nat → Int32} {s : Nat} (h2 : s ≠ 2) (h4 : s ≠ 4) : zb_rbI c 0 0 s = c 0 s := by
  unfold zb_rbI
  split
  · rfl
  · split
    · split
      · rw [zu_k _ _ _ _ h2, zu_k _ _ _ _ h4]
      · rw [zu_k _ _ _ _ h4]
    · rfl
theorem zq_rb {c : Nat → Nat → Int32} {off pale blank : Int32} (h : zq_rel (c 0 2) (c 0 3) (c 0 4) off pale blank) : zq_rel (zb_rbI c 0 0 2) (zb_rbI c 0 0 3) (zb_rbI c 0 0 4) off pale (blank &&& (blank - nI 1)) := by
  have hb : ∀ r, r < 8 → (nI (256 - 2 ^ r)) &&& (nI (256 - 2 ^ r) - nI 1) = nI (256 - 2 ^ (r + 1)) := by decide +kernel
  have h0 : nI 0 &&& (nI 0 - nI 1) = nI 0 := by decide +kernel
  rw [zb_rb_s (s := 3) (by decide) (by decide)]
  unfold zb_rbI
  rcases h with ⟨e1, e2, e3⟩ | ⟨k, hk, e1, e2, e3, e4, e5⟩ | ⟨k, r, hk, hr, e1, e2, e3, e4, e5, e6⟩
  · rw [if_pos e1, e3, h0]
    exact Or.inl ⟨e1, e2, rfl⟩
  · rw [if_neg (by rw [e1]; exact zq_m1 k hk), if_neg (by rw [e2]; decide), e5, h0]
    exact Or.inr (Or.inl ⟨k, hk, e1, e2, e3, e4, rfl⟩)
  · rw [if_neg (by rw [e1]; exact zq_m1 k hk), if_pos e2, e3, nI_add, e6, hb r hr]
    by_cases e8 : r = 7
    · rw [e8, if_pos rfl, zu_self]
      exact Or.inl ⟨rfl, e4, rfl⟩
    · rw [if_neg (fun z => e8 (by have := (nI_eq (by omega) (by omega)).mp z; omega)), zu_k _ _ _ _ (by decide), zu_self]
      exact Or.inr (Or.inr ⟨k, r + 1, hk, by omega, e1, e2, rfl, e4, e5, rfl⟩)
/-- the reference behind a tick of n words -/
def zo_tkI (m : Nat → Nat → Int32) (z : Int32 × Int32 × Nat × (Nat → Int64)) : Nat → Nat → Int32 := zu (zu (zu (zu m 40 3 ((m 40 3) &&& ((m 40 3) - (nI 1)))) 40 4 z.1) 40 5 z.2.1) 40 6 (nI z.2.2.1)
section ZST
variable {c : Nat → Nat → Int32} {d : Nat → Nat → Int64} {g : Nat → Nat → Nat} {m : Nat → Nat → Int32} {q : Nat → Nat → Int64} {u sl of tu au : Nat → Nat → Nat}
theorem zs_tick (h : zs c d g m q u sl of tu au) {sn : Nat} (hs : m 40 6 = nI sn) (hsn : sn < 768) (n : Nat) : zs (zb_sn 0 3 n (zb_rbI c 0, d)).1 (zb_sn 0 3 n (zb_rbI c 0, d)).2 g (zo_tkI m (zq_sn n (m 40 4, m 40 5, sn, q 0))) (va_up q 0 (zq_sn n (m 40 4, m 40 5, sn, q 0)).2.2.2) u sl of tu au ∧ (zb_sn 0 3 n (zb_rbI c 0, d)).1 0 6 + (zb_sn 0 3 n (zb_rbI c 0, d)).1 0 7 - (zb_rbI c 0 0 6 + zb_rbI c 0 0 7) = nI (zq_dn n (m 40 4, m 40 5, sn, q 0)) := by
  obtain ⟨hA, hB, hG, hP, hL, hF, hN⟩ := h
  obtain ⟨a1, a2, a3, a4, a5, a6, a7, a8⟩ := hA
  have key := zs_snn n (zb_rbI c 0) d sn (by rw [zb_rb_s (by decide) (by decide), a4, hs]) hsn (by rw [a2]; exact a3)
  rw [zb_rb_s (s := 6) (by decide) (by decide), zb_rb_s (s := 7) (by decide) (by decide), a6, a7, a2] at key
  obtain ⟨i1, i2, i3, i4, i5, i6, i7, i8, i9, i10⟩ := key
  have Mr : ∀ z r, r ≠ 40 → zo_tkI m z r = m r := fun z r hr => by unfold zo_tkI; rw [zu_ne _ _ _ hr, zu_ne _ _ _ hr, zu_ne _ _ _ hr, zu_ne _ _ _ hr]
  have M4 : ∀ z s, s ≠ 3 → s ≠ 4 → s ≠ 5 → s ≠ 6 → zo_tkI m z 40 s = m 40 s := fun z s h3 h4 h5 h6 => by unfold zo_tkI; rw [zu_k _ _ _ _ h6, zu_k _ _ _ _ h5, zu_k _ _ _ _ h4, zu_k _ _ _ _ h3]
  have Cr : ∀ r, r ≠ 0 → (zb_sn 0 3 n (zb_rbI c 0, d)).1 r = c r := fun r hr => by rw [i8 r hr, zb_rb_r hr]
  refine ⟨⟨⟨?_, ?_, ?_, ?_, ?_, ?_, ?_, ?_⟩, zs_B_c hB (fun k hk => ⟨Cr _ (by omega), Cr _ (by omega)⟩) (fun _ _ => ⟨rfl, rfl, rfl⟩) (fun r h1 h2 => Mr _ r (by omega)) (fun _ => ⟨rfl, rfl, rfl⟩), zs_G_c hG (fun k hk => Cr _ (by omega)) (fun _ _ => rfl) (Mr _ 15 (by decide)) (fun _ => ⟨rfl, rfl⟩), zs_P_c hP (fun k x hk => ⟨Cr _ (by unfold zk_p; omega), Cr _ (by unfold zk_p; omega), i9 _ (by unfold zk_p; omega)⟩) (fun k hk => Cr _ (by omega)) (fun _ _ => ⟨rfl, rfl, rfl⟩) (fun _ _ _ => rfl) (fun r h1 h2 => Mr _ r (by omega)) (va_up_ne _ _ (by decide)) (fun _ => ⟨rfl, rfl⟩) ⟨Nat.le_refl _, Nat.le_refl _⟩, zs_L_c hL (fun p hp => ⟨Cr _ (by omega), i9 _ (by omega)⟩) (fun _ _ => rfl) (fun _ _ => rfl) (fun r h1 h2 => Mr _ r (by omega)) (fun _ => ⟨rfl, rfl⟩) ⟨Nat.le_refl _, Nat.le_refl _⟩, zs_F_c hF (Cr 2 (by decide)) ⟨Cr _ (by decide), Cr _ (by decide)⟩ ⟨rfl, rfl⟩ (Mr _ _ (by decide)) (M4 _ _ (by decide) (by decide) (by decide) (by decide)) (Mr _ _ (by decide)), zs_N_c hN (i9 _ (by decide)) (fun _ _ => ⟨rfl, rfl⟩) rfl ⟨M4 _ _ (by decide) (by decide) (by decide) (by decide), M4 _ _ (by decide) (by decide) (by decide) (by decide)⟩⟩, ?_⟩
  · rw [i7 2 (by decide) (by decide) (by decide), i7 3 (by decide) (by decide) (by decide), i7 4 (by decide) (by decide) (by decide), M4 _ 1 (by decide) (by decide) (by decide) (by decide), M4 _ 2 (by decide) (by decide) (by decide) (by decide)]
    have e : zo_tkI m (zq_sn n (m 40 4, m 40 5, sn, q 0)) 40 3 = (m 40 3) &&& ((m 40 3) - (nI 1)) := by unfold zo_tkI; rw [zu_k _ _ _ _ (by decide), zu_k _ _ _ _ (by decide), zu_k _ _ _ _ (by decide), zu_self]
    rw [e]
    exact zq_rb a1
  · rw [i5, va_up_self]
  · rw [va_up_self]
    exact i6
  · rw [i3]
    unfold zo_tkI
    rw [zu_self]
  · refine ⟨_, i4, ?_⟩
    unfold zo_tkI
    rw [zu_self]
  · rw [i1]
    unfold zo_tkI
    rw [zu_k _ _ _ _ (by decide), zu_k _ _ _ _ (by decide), zu_self]
  · rw [i2]
    unfold zo_tkI
    rw [zu_k _ _ _ _ (by decide), zu_self]
  · rw [Cr _ (by decide), Mr _ _ (by decide)]
    exact a8
  · rw [i10, zb_rb_s (s := 6) (by decide) (by decide), zb_rb_s (s := 7) (by decide) (by decide), a6, a7, Int32.add_comm (m 40 4 + m 40 5), Int32.add_sub_cancel]
end ZST
