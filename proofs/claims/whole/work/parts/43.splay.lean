theorem zi_lt0 {n : Nat} : ¬ nI n < (-1 : Int32) ∨ 2 ^ 31 ≤ n := by
  rcases Nat.lt_or_ge n (2 ^ 31) with h | h
  · refine Or.inl fun e => ?_
    have h1 := Int32.lt_iff_toInt_lt.mp e
    rw [nI_toInt h] at h1
    have h2 : (-1 : Int32).toInt = -1 := rfl
    omega
  · exact Or.inr h
theorem zs_out {g : Nat → Nat → Nat} {k : Nat} {y : Int32} (hb : g 2 k < 2 ^ 30) (h : y < nI (g 1 k) ∨ ¬ y < nI (g 2 k)) : ∀ x, zs_l g k x → ¬ y = nI x := by
  rintro x ⟨-, -, h1, h2⟩ rfl
  rcases h with h | h
  · exact nI_nlt h1 (by omega) h
  · exact h (nI_lt h2 (by omega))
theorem zs_in {g : Nat → Nat → Nat} {k : Nat} {y : Int32} (hk : k < 4) (hg : g 0 k ≠ 0) (hb : g 2 k < 2 ^ 30) (hlo : g 1 k ≤ g 2 k) (h : ¬ (y < nI (g 1 k) ∨ ¬ y < nI (g 2 k))) : ∃ x, zs_l g k x ∧ y = nI x := by
  have h1 : ¬ y < nI (g 1 k) := fun e => h (Or.inl e)
  have h2 : y < nI (g 2 k) := Decidable.byContradiction fun e => h (Or.inr e)
  have h0 : ¬ y < nI 0 := fun e => h1 (Int32.lt_of_lt_of_le e (Int32.not_lt.mp (nI_nlt (Nat.zero_le _) (by omega))))
  obtain ⟨x, hx, rfl⟩ := zt_ix h0 h2 (by omega)
  exact ⟨x, ⟨hk, hg, Nat.not_lt.mp fun e => h1 (nI_lt e (by omega)), hx⟩, rfl⟩
section ZSP
variable {c : Nat → Nat → Int32} {d : Nat → Nat → Int64} {g : Nat → Nat → Nat} {m : Nat → Nat → Int32} {q : Nat → Nat → Int64} {u sl of tu au : Nat → Nat → Nat}
theorem zs_nxb (h : zs c d g m q u sl of tu au) {k : Nat} (hk : k < 4) (hg : g 0 k ≠ 0) : g 2 k ≤ 600 := by
  have h1 := h.2.2.2.2.2.2.2.2.2.2.2.2.1 k hk hg
  have h2 := h.2.2.2.2.2.2.2.2.2.2.2.2.2.1
  omega
theorem zs_pb (h : zs c d g m q u sl of tu au) {k x : Nat} (hx : zs_l g k x) (z : Int32) : zk_bt (c (zk_p k x + 1)) (g 4 (zk_p k x + 1)) z = zo_pb m q (nI k) (nI x) z := by
  obtain ⟨n, hn, e1, e2, e3⟩ := (h.2.2.2.1.1 k x hx).2.1
  have hs := (h.2.2.2.1.1 k x hx).1.1
  unfold zo_pb zk_bt
  rw [zs_find h hx, if_neg (nI_nlt (Nat.zero_le _) (by have := hx.1; omega)), if_neg (nI_nlt (Nat.zero_le _) (by omega)), nI_clamp (by omega), e1, e2, nI_add]
  by_cases h0 : z < nI 0
  · rw [if_pos h0, if_pos h0]
  · rw [if_neg h0, if_neg h0]
    by_cases h1 : z < nI (6 + n)
    · obtain ⟨j, hj, rfl⟩ := zt_ix h0 h1 (by omega)
      rw [if_pos h1, if_neg (nI_nlt (by omega) (by omega)), nI_clamp (by omega)]
      exact e3 j hj
    · have h2 : nI (5 + n) < z := Decidable.byContradiction fun e => h1 (by
        have := zt_gt e (by omega)
        rw [show 5 + n + 1 = 6 + n by omega] at this
        exact this)
      rw [if_neg h1, if_pos h2]
theorem zs_pb0 (h : zs c d g m q u sl of tu au) {k : Nat} {y : Int32} (z : Int32) (hk : k < 4) (hn : ∀ x, zs_l g k x → ¬ y = nI x) : zo_pb m q (nI k) y z = (-1) := by
  unfold zo_pb
  rw [zs_find0 h hk hn, if_neg (nI_nlt (Nat.zero_le _) (by omega)), if_pos (by decide)]
theorem zs_pb1 (h : zs c d g m q u sl of tu au) {x : Int32} (y z : Int32) (hmd : zk_md g x = none) : zo_pb m q x y z = (-1) := by
  unfold zo_pb
  by_cases h0 : x < nI 0
  · rw [if_pos h0]
  · rw [if_neg h0, zs_find1 h hmd, if_pos (by decide)]
theorem zs_fb0 (h : zs c d g m q u sl of tu au) (h5 : g 5 0 = 0) (x : Int32) : zo_fb m x = (-1) := by
  have h35 : m 40 35 = (-1) := by
    rcases h.2.2.2.2.2.1.2.2 with e | e
    · exact e.2
    · exact absurd h5 e.1
  unfold zo_fb
  rw [h35]
  by_cases h0 : x < nI 0
  · rw [if_pos h0]
  · rw [if_neg h0]
    obtain ⟨j, hj, rfl⟩ := zt_nn h0
    rw [if_neg (zi_lt0.resolve_right (by omega))]
theorem zs_fb (h : zs c d g m q u sl of tu au) (h5 : g 5 0 ≠ 0) (x : Int32) : zk_bf (c 91) (g 4 91) (c 90 0) (c 90 2) x = zo_fb m x := by
  rcases h.2.2.2.2.2.1.2.2 with e | ⟨-, n, hn, e1, e2, e3⟩
  · exact absurd e.1 h5
  · unfold zo_fb
    rw [e2, e1]
    by_cases h0 : x < nI 0
    · rw [if_pos h0]
      unfold zk_bf
      rw [if_pos h0]
    · rw [if_neg h0]
      by_cases h1 : x < nI (11 + n)
      · obtain ⟨j, hj, rfl⟩ := zt_ix h0 h1 (by omega)
        rw [if_pos h1, nI_clamp (by omega)]
        exact e3 j hj
      · rw [if_neg h1]
        obtain ⟨j, hj, rfl⟩ := zt_nn h0
        have hj2 : 11 + n ≤ j := Nat.not_lt.mp fun z => h1 (nI_lt z (by omega))
        unfold zk_bf
        rw [if_neg h0, if_neg (fun z => by have := (nI_eq (by omega) (by omega)).mp z; omega), if_neg (nI_nlt (by omega) (by omega)), pk_sub (by omega)]
        unfold zk_bt
        rw [if_neg (nI_nlt (Nat.zero_le _) (by omega)), if_neg (nI_nlt (by omega) (by omega))]
theorem zs_fsz (h : zs c d g m q u sl of tu au) : ¬ nI 80 < m 40 35 ∧ (g 5 0 ≠ 0 → g 4 91 ≤ 66) := by
  rcases h.2.2.2.2.2.1.2.2 with e | ⟨e0, n, hn, e1, e2, e3⟩
  · rw [e.2]
    exact ⟨by decide, fun z => absurd e.1 z⟩
  · rw [e2, e1]
    exact ⟨nI_nlt (by omega) (by decide), fun _ => by omega⟩
/-! stop -/
theorem zs_stop (h : zs c d g m q u sl of tu au) {p : Nat} (hp : p < 4) : zs c d (zu g 3 p 0) (zu m 27 p (-1)) q u sl of tu au := by
  obtain ⟨hA, hB, hG, hP, hL, hF, hN⟩ := h
  have Gr : ∀ r, r ≠ 3 → zu g 3 p 0 r = g r := fun r hr => zu_ne _ _ _ hr
  have Mr : ∀ r, r ≠ 27 → zu m 27 p (-1) r = m r := fun r hr => zu_ne _ _ _ hr
  have hg3 : ∀ k, k < 4 → zu g 3 p 0 0 k = g 0 k ∧ zu g 3 p 0 1 k = g 1 k ∧ zu g 3 p 0 2 k = g 2 k := fun k _ => ⟨by rw [Gr _ (by decide)], by rw [Gr _ (by decide)], by rw [Gr _ (by decide)]⟩
  refine ⟨zs_A_c hA rfl rfl rfl (fun j _ _ => by rw [Mr _ (by decide)]) (Mr _ (by decide)) rfl, zs_B_c hB (fun _ _ => ⟨rfl, rfl⟩) hg3 (fun r h1 h2 => Mr r (by omega)) (fun _ => ⟨rfl, rfl, rfl⟩), zs_G_c hG (fun _ _ => rfl) (fun k hk => (hg3 k hk).1) (Mr _ (by decide)) (fun _ => ⟨rfl, rfl⟩), zs_P_c hP (fun _ _ _ => ⟨rfl, rfl, rfl⟩) (fun _ _ => rfl) hg3 (fun _ _ _ => by rw [Gr _ (by decide)]) (fun r h1 h2 => Mr r (by omega)) rfl (fun _ => ⟨rfl, rfl⟩) ⟨Nat.le_refl _, Nat.le_refl _⟩, ?_, zs_F_c hF rfl ⟨rfl, rfl⟩ ⟨by rw [Gr _ (by decide)], by rw [Gr _ (by decide)]⟩ (Mr _ (by decide)) (by rw [Mr _ (by decide)]) (Mr _ (by decide)), zs_N_c hN rfl (fun k hk => ⟨(hg3 k hk).1, (hg3 k hk).2.2⟩) (by rw [Gr _ (by decide)]) ⟨by rw [Mr _ (by decide)], by rw [Mr _ (by decide)]⟩⟩
  refine ⟨fun j hj => ?_, fun i j hi hj gi gj => ?_⟩
  · by_cases e : j = p
    · rw [e, zu_self, zu_self]
      exact ⟨fun _ => rfl, fun z => absurd rfl z⟩
    · rw [zu_k _ _ _ _ e, zu_k _ _ _ _ e, Mr 28 (by decide), Mr 29 (by decide), Mr 30 (by decide), Mr 31 (by decide), Mr 32 (by decide), Gr 0 (by decide)]
      exact hL.1 j hj
  · have n1 : i ≠ p := fun e => gi (by rw [e, zu_self])
    have n2 : j ≠ p := fun e => gj (by rw [e, zu_self])
    rw [zu_k _ _ _ _ n1] at gi
    rw [zu_k _ _ _ _ n2] at gj
    exact hL.2 i j hi hj gi gj
theorem zs_po (h : zs c d g m q u sl of tu au) {x : Int32} (hpo : zk_po g x = none) : zo_st (m 27) x = nI 0 := by
  unfold zo_st
  by_cases h0 : x < nI 0
  · rw [if_pos h0]
  · rw [if_neg h0]
    by_cases h1 : nI 3 < x
    · rw [if_pos h1]
    · rw [if_neg h1]
      obtain ⟨p, hp, rfl⟩ := zt_ix h0 (zt_gt h1 (by decide)) (by decide)
      rw [zk_po_n hp] at hpo
      by_cases e : g 3 p = 0
      · rw [nI_clamp (by omega), ((h.2.2.2.2.1.1 p hp).1 e), if_pos (by decide)]
      · rw [if_neg e] at hpo
        cases hpo
theorem zs_po1 (h : zs c d g m q u sl of tu au) {p : Nat} (hp : p < 4) (hg : g 3 p ≠ 0) : zo_st (m 27) (nI p) = nI 1 ∧ zo_stI m (nI p) = zu m 27 p (-1) := by
  have h1 := ((h.2.2.2.2.1.1 p hp).2 hg)
  have e : zo_st (m 27) (nI p) = nI 1 := by
    unfold zo_st
    rw [if_neg (nI_nlt (Nat.zero_le _) (by omega)), if_neg (nI_nlt (by omega) (by decide)), nI_clamp (by omega), h1.2.2.1, if_neg (nI_nlt (Nat.zero_le _) (by omega))]
  refine ⟨e, ?_⟩
  unfold zo_stI
  rw [e, if_neg (by decide), nI_clamp (by omega)]
/-! gap -/
theorem zs_u2_r {u : Nat → Nat → Nat} {i r : Nat} (h : r ≠ 5) : zs_u2 u i r = u r := by
  unfold zs_u2
  rw [zu_ne _ _ _ h, zu_ne _ _ _ h, zu_ne _ _ _ h]
theorem zs_u2_0 {u : Nat → Nat → Nat} {i : Nat} (h : i = 1 ∨ i = 2) : zs_u2 u i 5 0 = u 5 0 + 1 ∧ zs_u2 u i 5 i = u 5 i + 1 ∧ zs_u2 u i 5 3 = u 5 3 + 1 ∧ zs_u2 u i 5 (3 - i) = u 5 (3 - i) := by
  unfold zs_u2
  refine ⟨?_, ?_, zu_self _ _ _ _, ?_⟩
  · rw [zu_k _ _ _ _ (by decide), zu_k _ _ _ _ (by omega), zu_self]
  · rw [zu_k _ _ _ _ (by omega), zu_self]
  · rw [zu_k _ _ _ _ (by omega), zu_k _ _ _ _ (by omega), zu_k _ _ _ _ (by omega)]
theorem lN_add1 (n : Nat) : lN n + 1 = lN (n + 1) := by
  apply Int64.toBitVec_inj.mp
  show (lN n).toBitVec + 1#64 = (lN (n + 1)).toBitVec
  rw [wb_tb, wb_tb, BitVec.ofNat_add]
theorem zs_gap (h : zs c d g m q u sl of tu au) (ht : u 5 3 < 600) {k x : Nat} (hx : zs_l g k x) (h5 : c (zk_p k x) 5 = nI 0) : zs c (zu (zu d 9 0 (d 9 0 + 1)) (zk_p k x) 7 (d 9 0 + 1)) g (zu (zu m 40 26 (m 40 26 + nI 1)) 24 (sl k x) (m 40 26 + nI 1)) q (zs_u2 u 1) sl of (zu tu k x (u 5 0 + 1)) (zu au k x (u 5 1 + 1)) := by
  have h0 := h
  obtain ⟨hA, hB, hG, hP, hL, hF, hN⟩ := h
  obtain ⟨n1, n2, n3, n4, n5, n6, n7, n8, n9⟩ := hN
  obtain ⟨w0, w1, w3, w2⟩ := zs_u2_0 (u := u) (i := 1) (Or.inl rfl)
  have hk := hx.1
  have Dr : ∀ r, r ≠ 9 → r ≠ zk_p k x → zu (zu d 9 0 (d 9 0 + 1)) (zk_p k x) 7 (d 9 0 + 1) r = d r := fun r h1 h2 => by rw [zu_ne _ _ _ h2, zu_ne _ _ _ h1]
  have Mr : ∀ r, r ≠ 40 → r ≠ 24 → zu (zu m 40 26 (m 40 26 + nI 1)) 24 (sl k x) (m 40 26 + nI 1) r = m r := fun r h1 h2 => by rw [zu_ne _ _ _ h2, zu_ne _ _ _ h1]
  have M4 : ∀ s, s ≠ 26 → zu (zu m 40 26 (m 40 26 + nI 1)) 24 (sl k x) (m 40 26 + nI 1) 40 s = m 40 s := fun s hs => by rw [zu_ne _ _ _ (by decide), zu_k _ _ _ _ hs]
  refine ⟨zs_A_c hA rfl rfl (Dr _ (by decide) (by unfold zk_p; omega)) (fun j h1 h2 => M4 j (by omega)) (Mr _ (by decide) (by decide)) rfl, zs_B_c hB (fun _ _ => ⟨rfl, rfl⟩) (fun _ _ => ⟨rfl, rfl, rfl⟩) (fun r h1 h2 => Mr r (by omega) (by omega)) (fun _ => ⟨by rw [zs_u2_r (by decide)], by rw [zs_u2_r (by decide)], by rw [zs_u2_r (by decide)]⟩), zs_G_c hG (fun _ _ => rfl) (fun _ _ => rfl) (Mr _ (by decide) (by decide)) (fun _ => ⟨by rw [zs_u2_r (by decide)], by rw [zs_u2_r (by decide)]⟩), ?_, zs_L_c hL (fun p hp => ⟨rfl, Dr _ (by omega) (by unfold zk_p; omega)⟩) (fun _ _ => rfl) (fun _ _ => rfl) (fun r h1 h2 => Mr r (by omega) (by omega)) (fun _ => ⟨by rw [zs_u2_r (by decide)], by rw [zs_u2_r (by decide)]⟩) ⟨by omega, by rw [show zs_u2 u 1 5 2 = u 5 2 from w2]; exact Nat.le_refl _⟩, zs_F_c hF rfl ⟨rfl, rfl⟩ ⟨rfl, rfl⟩ (Mr _ (by decide) (by decide)) (M4 _ (by decide)) (Mr _ (by decide) (by decide)), ?_⟩
  · obtain ⟨p1, p2, p3, p4, p5⟩ := hP
    refine ⟨fun j y hy => ?_, fun s hs e => p2 s hs (by rw [Mr 16 (by decide) (by decide)] at e; exact e), fun s hs => by rw [Mr 20 (by decide) (by decide)]; exact p3 s hs, fun s hs => by rw [Mr 23 (by decide) (by decide)]; exact p4 s hs, fun i y j z hy hz => ?_⟩
    · obtain ⟨a1, a2, a3⟩ := p1 j y hy
      obtain ⟨b1, b2, b3, b4, b5, b6, b7, b8, b9, b10, b11, b12, b13, b14, b15, b16, b17⟩ := a1
      refine ⟨?_, ?_, by unfold zs_o; rw [zs_u2_r (by decide), zs_u2_r (by decide)]; exact a3⟩
      · unfold zs_p
        rw [Mr 16 (by decide) (by decide), Mr 17 (by decide) (by decide), Mr 19 (by decide) (by decide), Mr 21 (by decide) (by decide), Mr 22 (by decide) (by decide), Mr 23 (by decide) (by decide), w0, w1]
        by_cases e : j = k ∧ y = x
        · obtain ⟨rfl, rfl⟩ := e
          rw [zu_self, zu_self, zu_self, zu_self, n1, n2, lN_add1, nI_add]
          exact ⟨b1, b2, b3, b4, b5, b6, b7, b8, b9, b10, b11, rfl, rfl, by omega, Nat.le_refl _, Nat.le_refl _, fun z => absurd h5 z⟩
        · have er : zk_p j y ≠ zk_p k x := fun z => e (by have := hy.1; unfold zk_p at z; omega)
          have es : sl j y ≠ sl k x := fun z => e (zs_slj h0 hy hx z)
          rw [Dr _ (by unfold zk_p; omega) er, zu_k _ _ _ _ es, zu_ne _ _ _ (show (24 : Nat) ≠ 40 by decide), zu_if, zu_if, if_neg e, if_neg e]
          exact ⟨b1, b2, b3, b4, b5, b6, b7, b8, b9, b10, b11, b12, b13, b14, by omega, by omega, b17⟩
      · unfold zs_te zo_tl
        rw [Mr 18 (by decide) (by decide), Mr 19 (by decide) (by decide), Mr 20 (by decide) (by decide)]
        exact a2
    · have q1 := (p1 i y hy).1.2.2.2.2.2.2.2.2.2.2.2.2.2.2
      have q2 := (p1 j z hz).1.2.2.2.2.2.2.2.2.2.2.2.2.2.2
      have q5 := p5 i y j z hy hz
      rw [zu_if, zu_if, zu_if, zu_if]
      by_cases e1 : i = k ∧ y = x
      · rw [if_pos e1, if_pos e1]
        by_cases e2 : j = k ∧ z = x
        · rw [if_pos e2, if_pos e2]
          exact ⟨by omega, fun _ _ => ⟨by omega, by omega⟩⟩
        · rw [if_neg e2, if_neg e2]
          exact ⟨by omega, fun z1 _ => by omega⟩
      · rw [if_neg e1, if_neg e1]
        by_cases e2 : j = k ∧ z = x
        · rw [if_pos e2, if_pos e2]
          exact ⟨by omega, fun z1 _ => by omega⟩
        · rw [if_neg e2, if_neg e2]
          exact q5
  · refine ⟨?_, ?_, ?_, by omega, by omega, by rw [show zs_u2 u 1 5 2 = u 5 2 from w2]; omega, fun k hk e => ?_, by omega, n9⟩
    · rw [zu_ne _ _ _ (by unfold zk_p; omega), zu_self, n1, lN_add1, w0]
    · rw [zu_ne _ _ _ (by decide), zu_self, n2, nI_add, w1]
    · rw [M4 _ (by decide), show zs_u2 u 1 5 2 = u 5 2 from w2]
      exact n3
    · have := n7 k hk e
      omega
end ZSP
