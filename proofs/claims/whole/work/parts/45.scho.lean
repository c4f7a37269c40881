theorem zg_sp {F : Nat → Int32} {Pr : Nat → Prop} {key : Nat → Int32} (h0 : F 0 = (-1)) (h1 : ∀ n, Pr n → F (n + 1) = if F n < nI 0 then nI n else if key n < key (F n).toNatClampNeg then nI n else F n) (h2 : ∀ n, ¬ Pr n → F (n + 1) = F n) : ∀ n, n ≤ 280 → (F n = (-1) ∧ ∀ s, s < n → ¬ Pr s) ∨ ∃ s, s < n ∧ F n = nI s ∧ Pr s ∧ ∀ j, j < n → Pr j → ¬ key j < key s
  | 0, _ => Or.inl ⟨h0, fun s hs => absurd hs (Nat.not_lt_zero _)⟩
  | n + 1, hn => by
    by_cases hp : Pr n
    · rw [h1 n hp]
      rcases zg_sp h0 h1 h2 n (by omega) with ⟨e, ha⟩ | ⟨s, hs, e, a1, a2⟩
      · rw [e, if_pos (by decide)]
        refine Or.inr ⟨n, by omega, rfl, hp, fun j hj pj => ?_⟩
        by_cases ej : j = n
        · rw [ej]
          exact fun z => Int32.lt_irrefl z
        · exact absurd pj (ha j (by omega))
      · rw [e, if_neg (nI_nlt (Nat.zero_le _) (by omega)), nI_clamp (by omega)]
        by_cases h3 : key n < key s
        · rw [if_pos h3]
          refine Or.inr ⟨n, by omega, rfl, hp, fun j hj pj z => ?_⟩
          by_cases ej : j = n
          · rw [ej] at z
            exact Int32.lt_irrefl z
          · exact a2 j (by omega) pj (Int32.lt_trans z h3)
        · rw [if_neg h3]
          refine Or.inr ⟨s, by omega, rfl, a1, fun j hj pj => ?_⟩
          by_cases ej : j = n
          · rw [ej]
            exact h3
          · exact a2 j (by omega) pj
    · rw [h2 n hp]
      rcases zg_sp h0 h1 h2 n (by omega) with ⟨e, ha⟩ | ⟨s, hs, e, a1, a2⟩
      · refine Or.inl ⟨e, fun s hs ps => ?_⟩
        by_cases es : s = n
        · rw [es] at ps
          exact hp ps
        · exact ha s (by omega) ps
      · refine Or.inr ⟨s, by omega, e, a1, fun j hj pj => ?_⟩
        by_cases ej : j = n
        · rw [ej] at pj
          exact absurd pj hp
        · exact a2 j (by omega) pj
theorem zo_c1_sp {m : Nat → Nat → Int32} {p : Nat} : ∀ n, n ≤ 280 → (zo_c1 m p n = (-1) ∧ ∀ s, s < n → ¬ (¬ zo_in m s p = nI 0 ∧ nI 0 < m 24 s)) ∨ ∃ s, s < n ∧ zo_c1 m p n = nI s ∧ (¬ zo_in m s p = nI 0 ∧ nI 0 < m 24 s) ∧ ∀ j, j < n → (¬ zo_in m j p = nI 0 ∧ nI 0 < m 24 j) → ¬ m 24 j < m 24 s := zg_sp (F := zo_c1 m p) (Pr := fun s => ¬ zo_in m s p = nI 0 ∧ nI 0 < m 24 s) (key := m 24) rfl (fun n h => by rw [zo_c1, if_neg h.1, if_pos h.2]) (fun n h => by
  rw [zo_c1]
  by_cases h1 : zo_in m n p = nI 0
  · rw [if_pos h1]
  · rw [if_neg h1, if_neg (fun z => h ⟨h1, z⟩)])
theorem zo_c2_sp {m : Nat → Nat → Int32} {p : Nat} : ∀ n, n ≤ 280 → (zo_c2 m p n = (-1) ∧ ∀ s, s < n → ¬ (¬ zo_in m s p = nI 0 ∧ m 31 p < m 17 s)) ∨ ∃ s, s < n ∧ zo_c2 m p n = nI s ∧ (¬ zo_in m s p = nI 0 ∧ m 31 p < m 17 s) ∧ ∀ j, j < n → (¬ zo_in m j p = nI 0 ∧ m 31 p < m 17 j) → ¬ m 17 j < m 17 s := zg_sp (F := zo_c2 m p) (Pr := fun s => ¬ zo_in m s p = nI 0 ∧ m 31 p < m 17 s) (key := m 17) rfl (fun n h => by rw [zo_c2, if_neg h.1, if_pos h.2]) (fun n h => by
  rw [zo_c2]
  by_cases h1 : zo_in m n p = nI 0
  · rw [if_pos h1]
  · rw [if_neg h1, if_neg (fun z => h ⟨h1, z⟩)])
theorem zo_c3_sp {m : Nat → Nat → Int32} {p : Nat} : ∀ n, n ≤ 280 → (zo_c3 m p n = (-1) ∧ ∀ s, s < n → ¬ (¬ zo_in m s p = nI 0)) ∨ ∃ s, s < n ∧ zo_c3 m p n = nI s ∧ (¬ zo_in m s p = nI 0) ∧ ∀ j, j < n → (¬ zo_in m j p = nI 0) → ¬ m 17 j < m 17 s := zg_sp (F := zo_c3 m p) (Pr := fun s => ¬ zo_in m s p = nI 0) (key := m 17) rfl (fun n h => by rw [zo_c3, if_neg h]) (fun n h => by rw [zo_c3, if_pos (Decidable.not_not.mp h)])
section ZM1
variable {c : Nat → Nat → Int32} {d : Nat → Nat → Int64} {p k a n y : Nat}
theorem zk_m1_k (h : zk_hi (c (30 + p)) (c (zk_p k (a + n))) = nI 0 ∨ zk_ask (d (zk_p k (a + n)) 7) = nI 0) : zk_m1 c d p k a (n + 1) = zk_m1 c d p k a n := by
  rw [zk_m1]
  by_cases h1 : zk_hi (c (30 + p)) (c (zk_p k (a + n))) = nI 0
  · rw [if_pos h1]
  · rw [if_neg h1, if_pos (h.resolve_left h1)]
theorem zk_m1_n (h1 : ¬ zk_hi (c (30 + p)) (c (zk_p k (a + n))) = nI 0) (h2 : ¬ zk_ask (d (zk_p k (a + n)) 7) = nI 0) (e : zk_m1 c d p k a n = none) : zk_m1 c d p k a (n + 1) = some (a + n) := by
  rw [zk_m1, if_neg h1, if_neg h2, e]
theorem zk_m1_s (h1 : ¬ zk_hi (c (30 + p)) (c (zk_p k (a + n))) = nI 0) (h2 : ¬ zk_ask (d (zk_p k (a + n)) 7) = nI 0) (e : zk_m1 c d p k a n = some y) : zk_m1 c d p k a (n + 1) = if lg_cmp (d (zk_p k (a + n)) 7) (d (zk_p k y) 7) < nI 0 then some (a + n) else some y := by
  rw [zk_m1, if_neg h1, if_neg h2, e]
theorem zk_m2_n (h1 : ¬ zk_hi (c (30 + p)) (c (zk_p k (a + n))) = nI 0) (e : zk_m2 c p k a n = none) : zk_m2 c p k a (n + 1) = if c (30 + p) 5 < c (zk_p k (a + n)) 2 then some (a + n) else none := by
  rw [zk_m2, if_neg h1, e]
theorem zk_nx_1 (e : zk_m1 c d p k a n = some y) : zk_nx c d p k a n = some y := by
  unfold zk_nx
  rw [e]
theorem zk_nx_2 (e : zk_m1 c d p k a n = none) (e2 : zk_m2 c p k a n = some y) : zk_nx c d p k a n = some y := by
  unfold zk_nx
  rw [e]
  simp only
  rw [e2]
theorem zk_nx_3 (e : zk_m1 c d p k a n = none) (e2 : zk_m2 c p k a n = none) : zk_nx c d p k a n = zk_m3 c p k a n := by
  unfold zk_nx
  rw [e]
  simp only
  rw [e2]
end ZM1
theorem zk_m1_sp {c : Nat → Nat → Int32} {d : Nat → Nat → Int64} {p k a : Nat} (tu : Nat → Nat) : ∀ n, (∀ i, i < n → d (zk_p k (a + i)) 7 = lN (tu (a + i)) ∧ tu (a + i) < 2 ^ 62) → (zk_m1 c d p k a n = none ∧ ∀ i, i < n → zk_hi (c (30 + p)) (c (zk_p k (a + i))) = nI 0 ∨ tu (a + i) = 0) ∨ ∃ i, i < n ∧ zk_m1 c d p k a n = some (a + i) ∧ ¬ zk_hi (c (30 + p)) (c (zk_p k (a + i))) = nI 0 ∧ tu (a + i) ≠ 0 ∧ ∀ j, j < n → ¬ zk_hi (c (30 + p)) (c (zk_p k (a + j))) = nI 0 → tu (a + j) ≠ 0 → ¬ tu (a + j) < tu (a + i)
  | 0, _ => Or.inl ⟨rfl, fun i hi => absurd hi (Nat.not_lt_zero _)⟩
  | n + 1, h => by
    have ih := zk_m1_sp (c := c) (d := d) (p := p) (k := k) (a := a) tu n (fun i hi => h i (by omega))
    have hn := h n (by omega)
    by_cases hp : zk_hi (c (30 + p)) (c (zk_p k (a + n))) = nI 0 ∨ tu (a + n) = 0
    · rw [zk_m1_k (hp.elim Or.inl (fun z => Or.inr (by rw [hn.1]; exact (zl_ask hn.2).mpr z)))]
      rcases ih with ⟨e1, ha⟩ | ⟨i, hi, e1, a1, a2, a3⟩
      · refine Or.inl ⟨e1, fun i hi => ?_⟩
        by_cases ei : i = n
        · rw [ei]
          exact hp
        · exact ha i (by omega)
      · refine Or.inr ⟨i, by omega, e1, a1, a2, fun j hj b1 b2 => ?_⟩
        by_cases ej : j = n
        · rw [ej] at b1 b2
          exact absurd hp (fun z => z.elim b1 b2)
        · exact a3 j (by omega) b1 b2
    · have h1 : ¬ zk_hi (c (30 + p)) (c (zk_p k (a + n))) = nI 0 := fun z => hp (Or.inl z)
      have h2 : tu (a + n) ≠ 0 := fun z => hp (Or.inr z)
      have h2a : ¬ zk_ask (d (zk_p k (a + n)) 7) = nI 0 := by rw [hn.1]; exact fun z => h2 ((zl_ask hn.2).mp z)
      rcases ih with ⟨e1, ha⟩ | ⟨i, hi, e1, a1, a2, a3⟩
      · rw [zk_m1_n h1 h2a e1]
        refine Or.inr ⟨n, by omega, rfl, h1, h2, fun j hj b1 b2 => ?_⟩
        by_cases ej : j = n
        · rw [ej]
          exact Nat.lt_irrefl _
        · exact absurd (ha j (by omega)) (fun z => z.elim b1 b2)
      · have hi2 := h i (by omega)
        rw [zk_m1_s h1 h2a e1, hn.1, hi2.1]
        by_cases h3 : tu (a + n) < tu (a + i)
        · rw [if_pos ((zl_lt hn.2 hi2.2).mpr h3)]
          refine Or.inr ⟨n, by omega, rfl, h1, h2, fun j hj b1 b2 => ?_⟩
          by_cases ej : j = n
          · rw [ej]
            exact Nat.lt_irrefl _
          · have := a3 j (by omega) b1 b2
            omega
        · rw [if_neg (fun z => h3 ((zl_lt hn.2 hi2.2).mp z))]
          refine Or.inr ⟨i, by omega, rfl, a1, a2, fun j hj b1 b2 => ?_⟩
          by_cases ej : j = n
          · rw [ej]
            exact h3
          · exact a3 j (by omega) b1 b2
theorem zk_m2_sp {c : Nat → Nat → Int32} {p k a : Nat} : ∀ n, (zk_m2 c p k a n = none ∧ ∀ i, i < n → zk_hi (c (30 + p)) (c (zk_p k (a + i))) = nI 0 ∨ ¬ c (30 + p) 5 < c (zk_p k (a + i)) 2) ∨ ∃ i, i < n ∧ zk_m2 c p k a n = some (a + i) ∧ ¬ zk_hi (c (30 + p)) (c (zk_p k (a + i))) = nI 0 ∧ c (30 + p) 5 < c (zk_p k (a + i)) 2 ∧ ∀ j, j < i → zk_hi (c (30 + p)) (c (zk_p k (a + j))) = nI 0 ∨ ¬ c (30 + p) 5 < c (zk_p k (a + j)) 2
  | 0 => Or.inl ⟨rfl, fun i hi => absurd hi (Nat.not_lt_zero _)⟩
  | n + 1 => by
    rcases zk_m2_sp (c := c) (p := p) (k := k) (a := a) n with ⟨e1, ha⟩ | ⟨i, hi, e1, a1, a2, a3⟩
    · by_cases h1 : zk_hi (c (30 + p)) (c (zk_p k (a + n))) = nI 0
      · rw [zk_m2, if_pos h1]
        refine Or.inl ⟨e1, fun i hi => ?_⟩
        by_cases ei : i = n
        · rw [ei]
          exact Or.inl h1
        · exact ha i (by omega)
      · rw [zk_m2_n h1 e1]
        by_cases h2 : c (30 + p) 5 < c (zk_p k (a + n)) 2
        · rw [if_pos h2]
          exact Or.inr ⟨n, by omega, rfl, h1, h2, ha⟩
        · rw [if_neg h2]
          refine Or.inl ⟨rfl, fun i hi => ?_⟩
          by_cases ei : i = n
          · rw [ei]
            exact Or.inr h2
          · exact ha i (by omega)
    · refine Or.inr ⟨i, by omega, ?_, a1, a2, a3⟩
      rw [zk_m2]
      by_cases h1 : zk_hi (c (30 + p)) (c (zk_p k (a + n))) = nI 0
      · rw [if_pos h1]
        exact e1
      · rw [if_neg h1, e1]
theorem zk_m3_sp {c : Nat → Nat → Int32} {p k a : Nat} : ∀ n, (zk_m3 c p k a n = none ∧ ∀ i, i < n → zk_hi (c (30 + p)) (c (zk_p k (a + i))) = nI 0) ∨ ∃ i, i < n ∧ zk_m3 c p k a n = some (a + i) ∧ ¬ zk_hi (c (30 + p)) (c (zk_p k (a + i))) = nI 0 ∧ ∀ j, j < i → zk_hi (c (30 + p)) (c (zk_p k (a + j))) = nI 0
  | 0 => Or.inl ⟨rfl, fun i hi => absurd hi (Nat.not_lt_zero _)⟩
  | n + 1 => by
    rw [zk_m3]
    rcases zk_m3_sp (c := c) (p := p) (k := k) (a := a) n with ⟨e1, ha⟩ | ⟨i, hi, e1, a1, a3⟩
    · by_cases h1 : zk_hi (c (30 + p)) (c (zk_p k (a + n))) = nI 0
      · rw [if_pos h1]
        refine Or.inl ⟨e1, fun i hi => ?_⟩
        by_cases ei : i = n
        · rw [ei]
          exact h1
        · exact ha i (by omega)
      · rw [if_neg h1, e1]
        exact Or.inr ⟨n, by omega, rfl, h1, ha⟩
    · refine Or.inr ⟨i, by omega, ?_, a1, a3⟩
      by_cases h1 : zk_hi (c (30 + p)) (c (zk_p k (a + n))) = nI 0
      · rw [if_pos h1]
        exact e1
      · rw [if_neg h1, e1]
section ZSH
variable {c : Nat → Nat → Int32} {d : Nat → Nat → Int64} {g : Nat → Nat → Nat} {m : Nat → Nat → Int32} {q : Nat → Nat → Int64} {u sl of tu au : Nat → Nat → Nat}
/-- is a packet one of those that playback p sends -/
theorem zs_inx (h : zs c d g m q u sl of tu au) {p k x : Nat} (hp : p < 4) (hgp : g 3 p = k + 1) (hx : zs_l g k x) : zo_in m (sl k x) p = zk_hi (c (30 + p)) (c (zk_p k x)) := by
  have hL := (h.2.2.2.2.1.1 p hp).2 (by omega)
  have hP := (h.2.2.2.1.1 k x hx).1
  unfold zo_in zk_hi
  rw [hP.2.1, if_neg (nI_nlt (Nat.zero_le _) (by have := hx.1; omega)), hL.2.2.1, hgp, Nat.add_sub_cancel, if_pos rfl, hP.2.2.2.2.2.1, hP.2.2.2.1, hL.2.2.2.1, hL.2.2.2.2.1]
theorem zs_ins (h : zs c d g m q u sl of tu au) {p k s : Nat} (hp : p < 4) (hgp : g 3 p = k + 1) (hs : s < 280) (e : ¬ zo_in m s p = nI 0) : ∃ x, zs_l g k x ∧ s = sl k x := by
  have hL := (h.2.2.2.2.1.1 p hp).2 (by omega)
  unfold zo_in at e
  by_cases h1 : m 16 s < nI 0
  · rw [if_pos h1] at e
    exact absurd rfl e
  · rw [if_neg h1] at e
    by_cases h2 : m 16 s = m 27 p
    · rw [hL.2.2.1, hgp, Nat.add_sub_cancel] at h2
      exact zs_at h hs (by have := hL.1; omega) h2
    · rw [if_neg h2] at e
      exact absurd rfl e
/-- what both send next -/
theorem zs_cho (h : zs c d g m q u sl of tu au) {p k : Nat} (hp : p < 4) (hgp : g 3 p = k + 1) : (zk_nx c d p k (g 1 k) (g 2 k - g 1 k) = none ∧ zo_cho m p = (-1)) ∨ ∃ y, zs_l g k y ∧ zk_nx c d p k (g 1 k) (g 2 k - g 1 k) = some y ∧ zo_cho m p = nI (sl k y) := by
  have hL := (h.2.2.2.2.1.1 p hp).2 (by omega)
  have hk : k < 4 := by have := hL.1; omega
  have hg : g 0 k ≠ 0 := by have := hL.2.1; rw [hgp, Nat.add_sub_cancel] at this; exact this
  have hlive : ∀ i, i < g 2 k - g 1 k → zs_l g k (g 1 k + i) := fun i hi => ⟨hk, hg, by omega, by omega⟩
  have hidx : ∀ {x}, zs_l g k x → ∃ i, i < g 2 k - g 1 k ∧ x = g 1 k + i := fun {x} hx => ⟨x - g 1 k, by have := hx.2.2.1; have := hx.2.2.2; omega, by have := hx.2.2.1; omega⟩
  have hpk := fun {x} (hx : zs_l g k x) => (h.2.2.2.1.1 k x hx).1
  have hin := fun {x} (hx : zs_l g k x) => zs_inx h hp hgp hx
  have hask : ∀ {x}, zs_l g k x → (nI 0 < m 24 (sl k x) ↔ tu k x ≠ 0) := fun {x} hx => by
    have hb := zs_tub h hx
    rw [(hpk hx).2.2.2.2.2.2.2.2.2.2.2.2.1]
    have hz := (hpk hx).2.2.2.2.2.2.2.2.2.2.2.2.2.1
    constructor
    · intro e z
      rw [hz.mp z] at e
      exact absurd e (by decide)
    · intro e
      exact nI_lt (Nat.pos_of_ne_zero fun z => e (hz.mpr z)) (by omega)
  unfold zo_cho
  -- asked for
  have A := zk_m1_sp (c := c) (d := d) (p := p) (k := k) (a := g 1 k) (tu k) (g 2 k - g 1 k) (fun i hi => ⟨(hpk (hlive i hi)).2.2.2.2.2.2.2.2.2.2.2.1, by have := zs_tub h (hlive i hi); omega⟩)
  have A2 := zo_c1_sp (m := m) (p := p) 280 (Nat.le_refl _)
  rcases A with ⟨e1, ha⟩ | ⟨i, hi, e1, a1, a2, a3⟩
  · have f1 : zo_c1 m p 280 = (-1) := by
      rcases A2 with ⟨e, -⟩ | ⟨s, hs, e, b1, b2⟩
      · exact e
      · exfalso
        obtain ⟨x, hx, rfl⟩ := zs_ins h hp hgp hs b1.1
        obtain ⟨i, hi, rfl⟩ := hidx hx
        rcases ha i hi with z | z
        · exact b1.1 (by rw [hin hx]; exact z)
        · exact (hask hx).mp b1.2 z
    rw [f1, if_pos (by decide)]
    -- above
    rcases zk_m2_sp (c := c) (p := p) (k := k) (a := g 1 k) (g 2 k - g 1 k) with ⟨e2, hb⟩ | ⟨i, hi, e2, a1, a2, a3⟩
    · have f2 : zo_c2 m p 280 = (-1) := by
        rcases zo_c2_sp (m := m) (p := p) 280 (Nat.le_refl _) with ⟨e, -⟩ | ⟨s, hs, e, b1, b2⟩
        · exact e
        · exfalso
          obtain ⟨x, hx, rfl⟩ := zs_ins h hp hgp hs b1.1
          obtain ⟨i, hi, rfl⟩ := hidx hx
          rcases hb i hi with z | z
          · exact b1.1 (by rw [hin hx]; exact z)
          · refine z ?_
            rw [hL.2.2.2.2.2.2.1, (hpk hx).2.2.2.2.2.2.2.2.1, ← (hpk hx).2.2.1]
            exact b1.2
      rw [f2, if_pos (by decide), zk_nx_3 e1 e2]
      -- the least
      rcases zk_m3_sp (c := c) (p := p) (k := k) (a := g 1 k) (g 2 k - g 1 k) with ⟨e3, hd⟩ | ⟨i, hi, e3, a1, a3⟩
      · refine Or.inl ⟨e3, ?_⟩
        rcases zo_c3_sp (m := m) (p := p) 280 (Nat.le_refl _) with ⟨e, -⟩ | ⟨s, hs, e, b1, b2⟩
        · exact e
        · exfalso
          obtain ⟨x, hx, rfl⟩ := zs_ins h hp hgp hs b1
          obtain ⟨i, hi, rfl⟩ := hidx hx
          exact b1 (by rw [hin hx]; exact hd i hi)
      · refine Or.inr ⟨g 1 k + i, hlive i hi, e3, ?_⟩
        rcases zo_c3_sp (m := m) (p := p) 280 (Nat.le_refl _) with ⟨e, hz⟩ | ⟨s, hs, e, b1, b2⟩
        · exact absurd (by rw [hin (hlive i hi)]; exact a1) (hz (sl k (g 1 k + i)) (hpk (hlive i hi)).1)
        · rw [e]
          obtain ⟨x, hx, rfl⟩ := zs_ins h hp hgp hs b1
          obtain ⟨j, hj, rfl⟩ := hidx hx
          have h1 := b2 (sl k (g 1 k + i)) (hpk (hlive i hi)).1 (by rw [hin (hlive i hi)]; exact a1)
          rw [(hpk (hlive i hi)).2.2.1, (hpk hx).2.2.1] at h1
          have h2 : ¬ g 1 k + i < g 1 k + j := fun z => h1 (nI_lt z (by have := zs_xb h hx; omega))
          have h3 : ¬ j < i := fun z => b1 (by rw [hin hx]; exact a3 j z)
          rw [show j = i by omega]
    · have hv := hlive i hi
      rw [zk_nx_2 e1 e2]
      refine Or.inr ⟨g 1 k + i, hv, rfl, ?_⟩
      have c2s : m 31 p < m 17 (sl k (g 1 k + i)) := by
        rw [(hpk hv).2.2.1, ← (hpk hv).2.2.2.2.2.2.2.2.1, ← hL.2.2.2.2.2.2.1]
        exact a2
      rcases zo_c2_sp (m := m) (p := p) 280 (Nat.le_refl _) with ⟨e, hz⟩ | ⟨s, hs, e, b1, b2⟩
      · exact absurd ⟨by rw [hin hv]; exact a1, c2s⟩ (hz (sl k (g 1 k + i)) (hpk hv).1)
      · obtain ⟨x, hx, rfl⟩ := zs_ins h hp hgp hs b1.1
        obtain ⟨j, hj, rfl⟩ := hidx hx
        have h1 := b2 (sl k (g 1 k + i)) (hpk hv).1 ⟨by rw [hin hv]; exact a1, c2s⟩
        rw [(hpk hv).2.2.1, (hpk hx).2.2.1] at h1
        have h2 : ¬ g 1 k + i < g 1 k + j := fun z => h1 (nI_lt z (by have := zs_xb h hx; omega))
        have h3 : ¬ j < i := fun z => by
          rcases a3 j z with z1 | z1
          · exact b1.1 (by rw [hin hx]; exact z1)
          · refine z1 ?_
            rw [hL.2.2.2.2.2.2.1, (hpk hx).2.2.2.2.2.2.2.2.1, ← (hpk hx).2.2.1]
            exact b1.2
        have hij : j = i := by omega
        subst hij
        rw [e, if_neg (nI_nlt (Nat.zero_le _) (by omega))]
  · have hv := hlive i hi
    rw [zk_nx_1 e1]
    refine Or.inr ⟨g 1 k + i, hv, rfl, ?_⟩
    rcases A2 with ⟨e, hz⟩ | ⟨s, hs, e, b1, b2⟩
    · exact absurd ⟨by rw [hin hv]; exact a1, (hask hv).mpr a2⟩ (hz (sl k (g 1 k + i)) (hpk hv).1)
    · obtain ⟨x, hx, rfl⟩ := zs_ins h hp hgp hs b1.1
      obtain ⟨j, hj, rfl⟩ := hidx hx
      have h1 := b2 (sl k (g 1 k + i)) (hpk hv).1 ⟨by rw [hin hv]; exact a1, (hask hv).mpr a2⟩
      have hb1 := zs_tub h hx
      have hb2 := zs_tub h hv
      rw [(hpk hv).2.2.2.2.2.2.2.2.2.2.2.2.1, (hpk hx).2.2.2.2.2.2.2.2.2.2.2.2.1] at h1
      have h2 : ¬ au k (g 1 k + i) < au k (g 1 k + j) := fun z => h1 (nI_lt z (by omega))
      have htj : tu k (g 1 k + j) ≠ 0 := (hask hx).mp b1.2
      have h3 := a3 j hj (by rw [← hin hx]; exact b1.1) htj
      have ho := h.2.2.2.1.2.2.2.2 k (g 1 k + j) k (g 1 k + i) hx hv
      have h4 : ¬ au k (g 1 k + j) < au k (g 1 k + i) := fun z => h3 (ho.1.mpr z)
      have hz := (hpk hx).2.2.2.2.2.2.2.2.2.2.2.2.2.1
      have h5 := (ho.2 (by omega) (fun z => htj (hz.mpr z))).2
      have hij : j = i := by omega
      subst hij
      rw [e, if_neg (nI_nlt (Nat.zero_le _) (by omega))]
end ZSH
