theorem zs_least {P : Nat → Prop} [∀ i, Decidable (P i)] : ∀ N, (∃ s, s < N ∧ P s) → ∃ s, s < N ∧ P s ∧ ∀ t, t < s → ¬ P t
  | 0, ⟨s, hs, _⟩ => absurd hs (Nat.not_lt_zero _)
  | N + 1, h => by
    by_cases h1 : ∃ s, s < N ∧ P s
    · obtain ⟨s, a, b, c⟩ := zs_least N h1
      exact ⟨s, by omega, b, c⟩
    · obtain ⟨s, hs, ps⟩ := h
      have e : s = N := Decidable.byContradiction fun z => h1 ⟨s, by omega, ps⟩
      subst e
      exact ⟨s, by omega, ps, fun t ht pt => h1 ⟨t, ht, pt⟩⟩
section ZSV
variable {c : Nat → Nat → Int32} {d : Nat → Nat → Int64} {g : Nat → Nat → Nat} {m : Nat → Nat → Int32} {q : Nat → Nat → Int64} {u sl of tu au : Nat → Nat → Nat}
theorem zs_n13 (h : zs c d g m q u sl of tu au) {k : Nat} (hk : k < 4) (hg : g 0 k ≠ 0) : 2 * (g 2 k - g 1 k) ≤ 13 * u 0 k := by
  by_cases e : g 2 k - g 1 k = 0
  · omega
  · have hx : zs_l g k (g 1 k) := ⟨hk, hg, Nat.le_refl _, by omega⟩
    have hy : zs_l g k (g 1 k + (g 2 k - g 1 k - 1)) := ⟨hk, hg, by omega, by omega⟩
    have h1 := zs_mono h (g 2 k - g 1 k - 1) hx hy
    have h2 := (h.2.2.2.1.1 k _ hy).2.2.2.2.1
    omega
/-- how many packets a store keeps -/
def zs_cn (g : Nat → Nat → Nat) : Nat → Nat → Nat := fun _ k => g 2 k - g 1 k
theorem zs_n260 (h : zs c d g m q u sl of tu au) : ∀ n, n ≤ 4 → 2 * zs_qs g (zs_cn g) 0 n ≤ 13 * zs_qs g u 0 n
  | 0, _ => Nat.le_refl _
  | n + 1, hn => by
    have ih := zs_n260 h n (by omega)
    rw [zs_qs, zs_qs]
    by_cases e : g 0 n = 0
    · rw [if_pos e, if_pos e]
      omega
    · rw [if_neg e, if_neg e]
      have := zs_n13 h (show n < 4 by omega) e
      have e2 : zs_cn g 0 n = g 2 n - g 1 n := rfl
      omega
/-- a place is free -/
theorem zs_slot (h : zs c d g m q u sl of tu au) : ∃ s, s < 280 ∧ m 16 s < nI 0 ∧ ∀ t, t < s → ¬ m 16 t < nI 0 := by
  refine zs_least 280 (Decidable.byContradiction fun hno => ?_)
  have hall : ∀ s, s < 280 → ¬ m 16 s < nI 0 := fun s hs e => hno ⟨s, hs, e⟩
  have hsum : zs_qs g (zs_cn g) 0 4 ≤ 260 := by
    have h1 := zs_n260 h 4 (Nat.le_refl _)
    have h2 := zs_clq h 4 (Nat.le_refl _)
    have h3 := h.2.2.1.2.2
    omega
  have hex : ∀ s, s < 280 → ∃ x, x < 279 ∧ ∃ j y, zs_l g j y ∧ s = sl j y ∧ x = zs_qs g (zs_cn g) 0 j + (y - g 1 j) := fun s hs => by
    obtain ⟨j, y, hy, e⟩ := h.2.2.2.1.2.1 s hs (hall s hs)
    have := zs_qs_lt g (zs_cn g) 0 (i := y - g 1 j) hy.1 hy.2.1 (by show y - g 1 j < g 2 j - g 1 j; have := hy.2.2.1; have := hy.2.2.2; omega)
    exact ⟨_, by omega, j, y, hy, e, rfl⟩
  obtain ⟨i, j, h1, h2, h3⟩ := zs_pig 279 (fun p => if hp : p < 280 then (hex p hp).choose else 0) (fun p hp => by
    show (if hp : p < 280 then (hex p hp).choose else 0) < 279
    rw [dif_pos (show p < 280 by omega)]
    exact (hex p (by omega)).choose_spec.1)
  have h3 : (if hp : i < 280 then (hex i hp).choose else 0) = (if hp : j < 280 then (hex j hp).choose else 0) := h3
  rw [dif_pos (show i < 280 by omega), dif_pos (show j < 280 by omega)] at h3
  obtain ⟨-, a, y, hy, e1, e2⟩ := (hex i (by omega)).choose_spec
  obtain ⟨-, b, z, hz, e3, e4⟩ := (hex j (by omega)).choose_spec
  rw [e2, e4] at h3
  have y1 := hy.2.2.1
  have y2 := hy.2.2.2
  have z1 := hz.2.2.1
  have z2 := hz.2.2.2
  obtain ⟨r1, r2⟩ := zs_code g (zs_cn g) 0 hy.2.1 hz.2.1 (show y - g 1 a < g 2 a - g 1 a by omega) (show z - g 1 b < g 2 b - g 1 b by omega) h3
  subst r1
  have : y = z := by omega
  subst this
  omega
/-- the state as a packet is made -/
theorem zs_ap0 (h : zs c d g m q u sl of tu au) (k : Nat) (a t : Int32) (n : Nat) : zs (zk_ap0 c d g k a t n).1 (zk_ap0 c d g k a t n).2.1 (zk_ap0 c d g k a t n).2.2 m q u sl of tu au := by
  obtain ⟨hA, hB, hG, hP, hL, hF, hN⟩ := h
  have Cr : ∀ r, r ≠ 96 → r ≠ 97 → (zk_ap0 c d g k a t n).1 r = c r := fun r h1 h2 => by unfold zk_ap0; show va_up (va_up c 96 _) 97 _ r = c r; rw [va_up_ne _ _ h2, va_up_ne _ _ h1]
  have Dr : ∀ r, r ≠ 96 → r ≠ 97 → (zk_ap0 c d g k a t n).2.1 r = d r := fun r h1 h2 => by unfold zk_ap0; show va_up (va_up d 96 _) 97 _ r = d r; rw [va_up_ne _ _ h2, va_up_ne _ _ h1]
  have Gr : ∀ r, r ≠ 4 → r ≠ 6 → (zk_ap0 c d g k a t n).2.2 r = g r := fun r h1 h2 => by unfold zk_ap0; show zu (zu g 6 0 1) 4 97 _ r = g r; rw [zu_ne _ _ _ h1, zu_ne _ _ _ h2]
  have G4 : ∀ r, r ≠ 97 → (zk_ap0 c d g k a t n).2.2 4 r = g 4 r := fun r hr => by unfold zk_ap0; show zu (zu g 6 0 1) 4 97 _ 4 r = g 4 r; rw [zu_k _ _ _ _ hr, zu_ne _ _ _ (by decide)]
  have hg3 : ∀ k1, k1 < 4 → (zk_ap0 c d g k a t n).2.2 0 k1 = g 0 k1 ∧ (zk_ap0 c d g k a t n).2.2 1 k1 = g 1 k1 ∧ (zk_ap0 c d g k a t n).2.2 2 k1 = g 2 k1 := fun k1 _ => ⟨by rw [Gr _ (by decide) (by decide)], by rw [Gr _ (by decide) (by decide)], by rw [Gr _ (by decide) (by decide)]⟩
  exact ⟨zs_A_c hA (Cr _ (by decide) (by decide)) (Cr _ (by decide) (by decide)) (Dr _ (by decide) (by decide)) (fun _ _ _ => rfl) rfl rfl, zs_B_c hB (fun j hj => ⟨Cr _ (by omega) (by omega), Cr _ (by omega) (by omega)⟩) hg3 (fun _ _ _ => rfl) (fun _ => ⟨rfl, rfl, rfl⟩), zs_G_c hG (fun j hj => Cr _ (by omega) (by omega)) (fun j hj => (hg3 j hj).1) rfl (fun _ => ⟨rfl, rfl⟩), zs_P_c hP (fun j x hj => ⟨Cr _ (by unfold zk_p; omega) (by unfold zk_p; omega), Cr _ (by unfold zk_p; omega) (by unfold zk_p; omega), Dr _ (by unfold zk_p; omega) (by unfold zk_p; omega)⟩) (fun j hj => Cr _ (by omega) (by omega)) hg3 (fun j x hj => G4 _ (by unfold zk_p; omega)) (fun _ _ _ => rfl) rfl (fun _ => ⟨rfl, rfl⟩) ⟨Nat.le_refl _, Nat.le_refl _⟩, zs_L_c hL (fun p hp => ⟨Cr _ (by omega) (by omega), Dr _ (by omega) (by omega)⟩) (fun _ _ => by rw [Gr _ (by decide) (by decide)]) (fun j hj => (hg3 j hj).1) (fun _ _ _ => rfl) (fun _ => ⟨rfl, rfl⟩) ⟨Nat.le_refl _, Nat.le_refl _⟩, zs_F_c hF (Cr _ (by decide) (by decide)) ⟨Cr _ (by decide) (by decide), Cr _ (by decide) (by decide)⟩ ⟨by rw [Gr _ (by decide) (by decide)], G4 _ (by decide)⟩ rfl rfl rfl, ⟨by rw [Dr _ (by decide) (by decide)]; exact hN.1, hN.2.1, hN.2.2.1, hN.2.2.2.1, hN.2.2.2.2.1, hN.2.2.2.2.2.1, fun j hj e => by rw [(hg3 j hj).2.2]; exact hN.2.2.2.2.2.2.1 j hj (by rw [(hg3 j hj).1] at e; exact e), hN.2.2.2.2.2.2.2⟩⟩
/-- all words below w are written -/
theorem zs_wn (h : zs c d g m q u sl of tu au) {k s W : Nat} (hk : k < 4) (hg : g 0 k ≠ 0) (hs : s < 280) (h16 : m 16 s < nI 0) (hW : W ≤ 17) (h6 : u 6 k = 0) (hro : c (10 + k) 1 = nI 0 → W ≤ (16 - u 1 k) + 13 * (u 2 k - u 0 k)) : ∀ w, w ≤ W → ∃ u1 of1 o, zs (zk_wn k w (c, d, g)).1 (zk_wn k w (c, d, g)).2.1 (zk_wn k w (c, d, g)).2.2 (zo_rwn k s w (m, q)).1 (zo_rwn k s w (m, q)).2 u1 sl of1 tu au ∧ zs_w (zk_wn k w (c, d, g)).1 (zk_wn k w (c, d, g)).2.2 (zo_rwn k s w (m, q)).1 u1 of1 k s w o ∧ zs_kp k s c d g m u (zk_wn k w (c, d, g)).1 (zk_wn k w (c, d, g)).2.1 (zk_wn k w (c, d, g)).2.2 (zo_rwn k s w (m, q)).1 u1 ∧ (c (10 + k) 1 = nI 0 → W - w ≤ (16 - u1 1 k) + 13 * (u1 2 k - u1 0 k))
  | 0, _ => ⟨u, of, 0, h, ⟨h16, fun z => by omega⟩, ⟨rfl, rfl, fun _ _ => rfl, rfl, rfl, fun _ _ => rfl, fun _ _ _ => rfl, rfl, rfl⟩, hro⟩
  | w + 1, hw => by
    obtain ⟨u1, of1, o1, r1, r2, r3, r4⟩ := zs_wn h hk hg hs h16 hW h6 hro w (by omega)
    have hg1 : (zk_wn k w (c, d, g)).2.2 0 k ≠ 0 := by rw [r3.2.2.2.2.2.1 0 (by decide)]; exact hg
    have h61 : u1 6 k = 0 := by rw [r3.2.2.2.2.2.2.1 6 (by decide) (by decide)]; exact h6
    obtain ⟨u2, of2, o2, s1, s2, s3, s4, s5, s6⟩ := zs_wa r1 hk hg1 hs (show w ≤ 16 by omega) h61 r2 (fun e16 e1 => by
      rw [r3.2.2.2.2.2.2.2.1] at e1
      have := r4 e1
      omega)
    have hg2 : (zk_wa k (zk_wn k w (c, d, g))).2.2 0 k ≠ 0 := by
      have := s3.2.2.2.2.2.1 0 (by decide)
      rw [show (zk_wa k (zk_wn k w (c, d, g))).2.2 0 = (zk_wn k w (c, d, g)).2.2 0 from this]
      exact hg1
    obtain ⟨u3, o3, t1, t2, t3, t4, t5⟩ := zs_wb (c := (zk_wa k (zk_wn k w (c, d, g))).1) (d := (zk_wa k (zk_wn k w (c, d, g))).2.1) (g := (zk_wa k (zk_wn k w (c, d, g))).2.2) (m := (zo_rwa k (zo_rwn k s w (m, q))).1) (q := (zo_rwa k (zo_rwn k s w (m, q))).2) (w := w) s1 hk hg2 hs s4 s5 s2
    refine ⟨u3, of2, o3, t1, t2, zs_kp_t r3 (zs_kp_t s3 t3), fun e1 => ?_⟩
    have a1 := r4 e1
    have a2 := t3.2.2.2.2.2.2.1 2 (by decide) (by decide)
    rw [a2, t4, t5]
    omega
/-- what the contracts want of each word -/
theorem zs_oks (h : zs c d g m q u sl of tu au) {k : Nat} (hk : k < 4) (hg : g 0 k ≠ 0) (h6 : u 6 k = 0) (hg6 : g 6 0 ≠ 0) (hci : u 1 k = 16 → c (10 + k) 1 = nI 0 → u 0 k < u 2 k) : zk_ok k (c, d, g) ∧ zo_ok k (m, q) := by
  obtain ⟨b1, b2, b3, b4, b5, b6, b7, b8, b9, b10, b11, b12, b13, b14, b15⟩ := (h.2.1 k hk).2 hg
  obtain ⟨c1, c2, c3, c4, c5, c6, c7⟩ := b14
  have hp := zs_pgs h hk hg
  have hor : u 1 k = 16 ∨ 1 ≤ u 0 k := by
    by_cases e : u 0 k = 0
    · exact Or.inl (c6 h6 e)
    · exact Or.inr (by omega)
  exact ⟨⟨u 0 k, u 1 k, u 2 k, hp.1, b12, c4, c5, b5, by omega, c2, c3, hor, hci, hg, c7, hg6⟩, ⟨u 0 k, u 1 k, u 2 k, hp.2, b13, c4, c5, b6, by omega, c2, c3, hor, fun z => zs_page h hk hg z⟩⟩
end ZSV
