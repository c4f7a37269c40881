theorem zs_qs_le {g g1 u u1 : Nat → Nat → Nat} {r : Nat} (hg : ∀ k, k < 4 → g1 0 k ≠ 0 → g 0 k ≠ 0) (hu : ∀ k, u1 r k = u r k) : ∀ n, n ≤ 4 → zs_qs g1 u1 r n ≤ zs_qs g u r n
  | 0, _ => Nat.le_refl _
  | n + 1, hn => by
    have ih := zs_qs_le hg hu n (by omega)
    rw [zs_qs, zs_qs, hu]
    by_cases e : g1 0 n = 0
    · rw [if_pos e]
      omega
    · rw [if_neg e, if_neg (hg n (by omega) e)]
      omega
section ZTA
variable {c : Nat → Nat → Int32} {d : Nat → Nat → Int64} {g : Nat → Nat → Nat} {m : Nat → Nat → Int32} {q : Nat → Nat → Int64} {u sl of tu au : Nat → Nat → Nat}
/-- store k is about to be dropped -/
theorem zs_u6 (h : zs c d g m q u sl of tu au) (k : Nat) : zs c d g m q (zu u 6 k 1) sl of tu au := by
  obtain ⟨hA, hB, hG, hP, hL, hF, hN⟩ := h
  have Ur : ∀ r, r ≠ 6 → zu u 6 k 1 r = u r := fun r hr => zu_ne _ _ _ hr
  refine ⟨hA, fun j hj => ⟨(hB j hj).1, fun e => ?_⟩, zs_G_c hG (fun _ _ => rfl) (fun _ _ => rfl) rfl (fun j => ⟨by rw [Ur _ (by decide)], by rw [Ur _ (by decide)]⟩), zs_P_c hP (fun _ _ _ => ⟨rfl, rfl, rfl⟩) (fun _ _ => rfl) (fun _ _ => ⟨rfl, rfl, rfl⟩) (fun _ _ _ => rfl) (fun _ _ _ => rfl) rfl (fun j => ⟨by rw [Ur _ (by decide)], by rw [Ur _ (by decide)]⟩) ⟨by rw [Ur _ (by decide)]; exact Nat.le_refl _, by rw [Ur _ (by decide)]; exact Nat.le_refl _⟩, zs_L_c hL (fun _ _ => ⟨rfl, rfl⟩) (fun _ _ => rfl) (fun _ _ => rfl) (fun _ _ _ => rfl) (fun j => ⟨by rw [Ur _ (by decide)], by rw [Ur _ (by decide)]⟩) ⟨by rw [Ur _ (by decide)]; exact Nat.le_refl _, by rw [Ur _ (by decide)]; exact Nat.le_refl _⟩, hF, ?_⟩
  · obtain ⟨b1, b2, b3, b4, b5, b6, b7, b8, b9, b10, b11, b12, b13, ⟨c1, c2, c3, c4, c5, c6, c7⟩, b15⟩ := (hB j hj).2 e
    unfold zs_k
    rw [Ur 0 (by decide), Ur 1 (by decide), Ur 2 (by decide)]
    refine ⟨b1, b2, b3, b4, b5, b6, b7, b8, b9, b10, b11, b12, b13, ⟨c1, c2, c3, c4, c5, fun z1 z2 => c6 ?_ z2, c7⟩, b15⟩
    by_cases ej : j = k
    · subst ej
      rw [zu_self] at z1
      omega
    · rw [zu_k _ _ _ _ ej] at z1
      exact z1
  · unfold zs_N
    rw [Ur 5 (by decide)]
    exact hN
/-- all pages of store k go -/
theorem zs_da {k : Nat} (hk : k < 4) : ∀ (n : Nat) {c : Nat → Nat → Int32} {d : Nat → Nat → Int64} {g : Nat → Nat → Nat} {m : Nat → Nat → Int32} {q : Nat → Nat → Int64} {u sl of tu au : Nat → Nat → Nat}, zs c d g m q u sl of tu au → g 0 k ≠ 0 → u 6 k ≠ 0 → u 0 k = n → ∃ u1 of1, zs (zk_da k n (c, d, g)).1 (zk_da k n (c, d, g)).2.1 (zk_da k n (c, d, g)).2.2 (zo_dr k n (m, q)).1 (zo_dr k n (m, q)).2 u1 sl of1 tu au ∧ (∀ r, r ≠ 0 → u1 r = u r) ∧ u1 0 k = 0 ∧ (∀ r, r ≠ 1 → (zk_da k n (c, d, g)).2.2 r = g r)
  | 0, c, d, g, m, q, u, sl, of, tu, au, h, _, _, h0 => ⟨u, of, h, fun _ _ => rfl, h0, fun _ _ => rfl⟩
  | n + 1, c, d, g, m, q, u, sl, of, tu, au, h, hg, h6, h0 => by
    have h1 := zs_ff h hk hg (by omega) (fun z => absurd z h6)
    rw [h0] at h1
    obtain ⟨u1, of1, r1, r2, r3, r4⟩ := zs_da hk n h1 (by rw [zk_ff_g (by decide)]; exact hg) (by rw [zu_ne _ _ _ (by decide)]; exact h6) (by rw [zu_self]; omega)
    exact ⟨u1, of1, r1, fun r hr => by rw [r2 r hr, zu_ne _ _ _ hr], r3, fun r hr => by
      rw [show zk_da k (n + 1) (c, d, g) = zk_da k n (zk_ff k (n + 1) (c, d, g)) from rfl, show (zk_da k n (zk_ff k (n + 1) (c, d, g))).2.2 r = (zk_ff k (n + 1) (c, d, g)).2.2 r from r4 r hr, zk_ff_g hr]⟩
/-- an empty store is made no more -/
theorem zs_unm (h : zs c d g m q u sl of tu au) {k : Nat} (hk : k < 4) (hg : g 0 k ≠ 0) (h0 : u 0 k = 0) : zs c d (zu (zk_cl g k 4) 0 k 0) (va_up (zu m 7 k (nI 0)) 27 (zo_map (m 27) (zo_cl m k) 4)) q (zu u 6 k 0) sl of tu au := by
  obtain ⟨hA, hB, hG, hP, hL, hF, hN⟩ := h
  have Mr : ∀ r, r ≠ 7 → r ≠ 27 → va_up (zu m 7 k (nI 0)) 27 (zo_map (m 27) (zo_cl m k) 4) r = m r := fun r h1 h2 => by rw [va_up_ne _ _ h2, zu_ne _ _ _ h1]
  have M7 : va_up (zu m 7 k (nI 0)) 27 (zo_map (m 27) (zo_cl m k) 4) 7 = va_up (m 7) k (nI 0) := by rw [va_up_ne _ _ (by decide), zu_at]
  have M27 : ∀ p, p < 4 → va_up (zu m 7 k (nI 0)) 27 (zo_map (m 27) (zo_cl m k) 4) 27 p = zo_cl m k p := fun p hp => by rw [va_up_self, zo_map_lt _ _ hp]
  have Gr : ∀ r, r ≠ 0 → r ≠ 3 → zu (zk_cl g k 4) 0 k 0 r = g r := fun r h1 h2 => by rw [zu_ne _ _ _ h1, zk_cl_r h2]
  have Gj : ∀ j, j ≠ k → zu (zk_cl g k 4) 0 k 0 0 j = g 0 j := fun j h1 => by rw [zu_k _ _ _ _ h1, zk_cl_r (by decide)]
  have Gk : zu (zk_cl g k 4) 0 k 0 0 k = 0 := by rw [zu_self]
  have G3 : ∀ p, p < 4 → zu (zk_cl g k 4) 0 k 0 3 p = if g 3 p = k + 1 then 0 else g 3 p := fun p hp => by
    rw [zu_ne _ _ _ (by decide)]
    unfold zk_cl
    by_cases e : g 3 p = k + 1
    · rw [if_pos ⟨rfl, hp, e⟩, if_pos e]
    · rw [if_neg (fun z => e z.2.2), if_neg e]
  have Ur : ∀ r, r ≠ 6 → zu u 6 k 0 r = u r := fun r hr => zu_ne _ _ _ hr
  have hne : ∀ {j x}, zs_l g j x → j ≠ k := fun {j x} hx e => by
    have := (hP.1 j x hx).2.2.1
    rw [e, h0] at this
    omega
  have hl : ∀ {j x}, zs_l (zu (zk_cl g k 4) 0 k 0) j x ↔ zs_l g j x := fun {j x} => by
    unfold zs_l
    rw [Gr 1 (by decide) (by decide), Gr 2 (by decide) (by decide)]
    constructor
    · intro z
      have ej : j ≠ k := fun e => z.2.1 (by rw [e, Gk])
      rw [Gj _ ej] at z
      exact z
    · intro z
      have ej : j ≠ k := hne z
      rw [Gj _ ej]
      exact z
  refine ⟨zs_A_c hA rfl rfl rfl (fun j _ _ => by rw [Mr 40 (by decide) (by decide)]) (Mr _ (by decide) (by decide)) rfl, fun j hj => ?_, ⟨fun i j a e hi hj gi gj ha he ee => ?_, fun pg hp e => ?_, ?_⟩, ?_, ⟨fun p hp => ?_, fun p j hp hj gp gj => ?_⟩, zs_F_c hF rfl ⟨rfl, rfl⟩ ⟨by rw [Gr _ (by decide) (by decide)], by rw [Gr _ (by decide) (by decide)]⟩ (Mr _ (by decide) (by decide)) (by rw [Mr 40 (by decide) (by decide)]) (Mr _ (by decide) (by decide)), ?_⟩
  · rw [M7]
    by_cases e : j = k
    · subst e
      exact ⟨fun _ => va_up_self _ _ _, fun z => absurd Gk z⟩
    · rw [Gj _ e, va_up_ne _ _ e]
      refine ⟨(hB j hj).1, fun z => zs_k_c ((hB j hj).2 z) rfl rfl (by rw [Gr _ (by decide) (by decide)]) (by rw [Gr _ (by decide) (by decide)]) (by rw [M7, va_up_ne _ _ e]) (fun r h1 h2 => by rw [Mr r (by omega) (by omega)]) (Mr _ (by decide) (by decide)) (Mr _ (by decide) (by decide)) (by rw [Ur _ (by decide)]) (by rw [Ur _ (by decide)]) (by rw [Ur _ (by decide)]) (by rw [zu_k _ _ _ _ e])⟩
  · have ei : i ≠ k := fun z => gi (by rw [z, Gk])
    have ej : j ≠ k := fun z => gj (by rw [z, Gk])
    rw [Gj _ ei] at gi
    rw [Gj _ ej] at gj
    rw [Ur 0 (by decide)] at ha he
    exact hG.1 i j a e hi hj gi gj ha he ee
  · rw [Mr 15 (by decide) (by decide)] at e
    obtain ⟨j, i, h1, h2, h3, h4⟩ := hG.2.1 pg hp e
    have ej : j ≠ k := fun z => by rw [z, h0] at h3; omega
    exact ⟨j, i, h1, by rw [Gj _ ej]; exact h2, by rw [Ur 0 (by decide)]; exact h3, h4⟩
  · have := zs_qs_le (g := g) (g1 := zu (zk_cl g k 4) 0 k 0) (u := u) (u1 := zu u 6 k 0) (r := 2) (fun j _ z => by
      have ej : j ≠ k := fun e => z (by rw [e, Gk])
      rw [Gj _ ej] at z
      exact z) (fun j => by rw [Ur 2 (by decide)]) 4 (Nat.le_refl _)
    have := hG.2.2
    omega
  · obtain ⟨p1, p2, p3, p4, p5⟩ := hP
    refine ⟨fun j x hx => ?_, fun s hs e => ?_, fun s hs => by rw [Mr 20 (by decide) (by decide)]; exact p3 s hs, fun s hs => by rw [Mr 23 (by decide) (by decide)]; exact p4 s hs, fun i x j y hx hy => p5 i x j y (hl.mp hx) (hl.mp hy)⟩
    · have hx := hl.mp hx
      obtain ⟨a1, a2, a3⟩ := p1 j x hx
      refine ⟨?_, ?_, ?_⟩
      · unfold zs_p
        rw [Mr 16 (by decide) (by decide), Mr 17 (by decide) (by decide), Mr 19 (by decide) (by decide), Mr 21 (by decide) (by decide), Mr 22 (by decide) (by decide), Mr 23 (by decide) (by decide), Mr 24 (by decide) (by decide), Ur 5 (by decide)]
        exact a1
      · unfold zs_te zo_tl
        rw [Gr 4 (by decide) (by decide), Mr 18 (by decide) (by decide), Mr 19 (by decide) (by decide), Mr 20 (by decide) (by decide)]
        exact a2
      · unfold zs_o
        rw [Ur 0 (by decide), Ur 1 (by decide), Gr 2 (by decide) (by decide)]
        exact a3
    · rw [Mr 16 (by decide) (by decide)] at e
      obtain ⟨j, x, hx, e2⟩ := p2 s hs e
      exact ⟨j, x, hl.mpr hx, e2⟩
  · rw [G3 p hp, M27 p hp, Mr 28 (by decide) (by decide), Mr 29 (by decide) (by decide), Mr 30 (by decide) (by decide), Mr 31 (by decide) (by decide), Mr 32 (by decide) (by decide), Ur 3 (by decide), Ur 4 (by decide), Ur 5 (by decide)]
    unfold zo_cl
    by_cases e : g 3 p = k + 1
    · rw [if_pos e]
      have := ((hL.1 p hp).2 (by omega)).2.2.1
      rw [e, show k + 1 - 1 = k by omega] at this
      rw [if_pos this]
      exact ⟨fun _ => rfl, fun z => absurd rfl z⟩
    · rw [if_neg e]
      have hm : ¬ m 27 p = nI k := fun z => by
        by_cases e0 : g 3 p = 0
        · rw [(hL.1 p hp).1 e0] at z
          have h4 : k = 0 ∨ k = 1 ∨ k = 2 ∨ k = 3 := by omega
          rcases h4 with rfl | rfl | rfl | rfl <;> exact absurd z (by decide)
        · have a := (hL.1 p hp).2 e0
          rw [a.2.2.1] at z
          have := (nI_eq (by omega) (by omega)).mp z
          omega
      rw [if_neg hm]
      refine ⟨(hL.1 p hp).1, fun z => ?_⟩
      obtain ⟨a1, a2, a3⟩ := (hL.1 p hp).2 z
      exact ⟨a1, by rw [Gj _ (by omega)]; exact a2, a3⟩
  · rw [G3 p hp] at gp
    rw [G3 j hj] at gj
    rw [Ur 3 (by decide), Ur 4 (by decide)]
    exact hL.2 p j hp hj (fun z => gp (by split <;> omega)) (fun z => gj (by split <;> omega))
  · obtain ⟨a1, a2, a3, a4, a5, a6, a7, a8⟩ := hN
    unfold zs_N
    rw [Mr 40 (by decide) (by decide), Ur 5 (by decide)]
    refine ⟨a1, a2, a3, a4, a5, a6, fun j hj e => ?_, a8⟩
    have ej : j ≠ k := fun z => e (by rw [z, Gk])
    rw [Gj _ ej] at e
    rw [Gr 2 (by decide) (by decide)]
    exact a7 j hj e
/-- dropStore -/
theorem zs_drop (h : zs c d g m q u sl of tu au) (h6 : ∀ j, u 6 j = 0) {k : Nat} (hk : k < 4) (hg : g 0 k ≠ 0) : ∃ C1 D1 G1 u1 of1, zk_da k (u 0 k) (c, d, g) = (C1, D1, G1) ∧ (∀ r, r ≠ 1 → G1 r = g r) ∧ zk_pl G1 ∧ zs C1 D1 (zu (zk_cl G1 k 4) 0 k 0) (va_up (zu (zo_dr k (u 0 k) (m, q)).1 7 k (nI 0)) 27 (zo_map ((zo_dr k (u 0 k) (m, q)).1 27) (zo_cl (zo_dr k (u 0 k) (m, q)).1 k) 4)) (zo_dr k (u 0 k) (m, q)).2 u1 sl of1 tu au ∧ (∀ j, u1 6 j = 0) ∧ u1 5 3 = u 5 3 := by
  obtain ⟨u1, of1, r1, r2, r3, r4⟩ := zs_da hk (u 0 k) (zs_u6 h k) hg (by rw [zu_self]; decide) (by rw [zu_ne _ _ _ (by decide)])
  refine ⟨(zk_da k (u 0 k) (c, d, g)).1, (zk_da k (u 0 k) (c, d, g)).2.1, (zk_da k (u 0 k) (c, d, g)).2.2, zu u1 6 k 0, of1, rfl, r4, fun p hp e => ?_, zs_unm r1 hk (by rw [r4 0 (by decide)]; exact hg) r3, fun j => ?_, ?_⟩
  · rw [r4 3 (by decide)] at e ⊢
    rw [r4 0 (by decide)]
    have a := (h.2.2.2.2.1.1 p hp).2 e
    exact ⟨a.1, a.2.1⟩
  · by_cases e : j = k
    · rw [e, zu_self]
    · rw [zu_k _ _ _ _ e, r2 6 (by decide), zu_k _ _ _ _ e]
      exact h6 j
  · rw [zu_ne _ _ _ (by decide), r2 5 (by decide), zu_ne _ _ _ (by decide)]
end ZTA
