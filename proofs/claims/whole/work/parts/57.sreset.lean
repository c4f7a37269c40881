theorem zk_rsa_r {c : Nat → Nat → Int32} {d : Nat → Nat → Int64} {g : Nat → Nat → Nat} {r : Nat} (h : r < 10 ∨ (14 ≤ r ∧ r < 100) ∨ (100 ≤ r ∧ (r - 100) % 2 = 1)) : ∀ n, n ≤ 4 → (zk_rsa c d g n).1 r = c r
  | 0, _ => rfl
  | n + 1, hn => by
    rw [zk_rsa]
    by_cases e : g 0 n = 0
    · rw [if_pos e]
      exact zk_rsa_r h n (by omega)
    · rw [if_neg e]
      show zk_rs (zk_rsa c d g n).1 n (g 1 n) (g 2 n - g 1 n) r = c r
      unfold zk_rs
      rw [zu_ne _ _ _ (by omega)]
      funext s
      unfold zk_mp
      rw [if_neg (by omega), zk_rsa_r h n (by omega)]
theorem zk_rsa_dr {c : Nat → Nat → Int32} {d : Nat → Nat → Int64} {g : Nat → Nat → Nat} {r : Nat} (h : r < 100) : ∀ n, n ≤ 4 → (zk_rsa c d g n).2 r = d r
  | 0, _ => rfl
  | n + 1, hn => by
    rw [zk_rsa]
    by_cases e : g 0 n = 0
    · rw [if_pos e]
      exact zk_rsa_dr h n (by omega)
    · rw [if_neg e]
      show zk_mp (zk_rsa c d g n).2 n (g 1 n) (g 2 n) (zk_aG (zk_rsa c d g n).2 n) r = d r
      rw [zk_mp_lo h, zk_rsa_dr h n (by omega)]
theorem zk_rsa_ps {c : Nat → Nat → Int32} {d : Nat → Nat → Int64} {g : Nat → Nat → Nat} {k x s : Nat} (hs : s ≠ 5) : ∀ n, n ≤ 4 → (zk_rsa c d g n).1 (zk_p k x) s = c (zk_p k x) s
  | 0, _ => rfl
  | n + 1, hn => by
    rw [zk_rsa]
    by_cases e : g 0 n = 0
    · rw [if_pos e]
      exact zk_rsa_ps hs n (by omega)
    · rw [if_neg e]
      show zk_rs (zk_rsa c d g n).1 n (g 1 n) (g 2 n - g 1 n) (zk_p k x) s = _
      unfold zk_rs
      rw [zu_ne _ _ _ (by unfold zk_p; omega), zk_mp_g (fun y => by unfold zk_rsG; exact va_up_ne _ _ hs) (by omega), zk_rsa_ps hs n (by omega)]
theorem zk_rsa_ks {c : Nat → Nat → Int32} {d : Nat → Nat → Int64} {g : Nat → Nat → Nat} {k s : Nat} (hk : k < 4) (hs : s ≠ 9) : ∀ n, n ≤ 4 → (zk_rsa c d g n).1 (10 + k) s = c (10 + k) s
  | 0, _ => rfl
  | n + 1, hn => by
    rw [zk_rsa]
    by_cases e : g 0 n = 0
    · rw [if_pos e]
      exact zk_rsa_ks hk hs n (by omega)
    · rw [if_neg e]
      show zk_rs (zk_rsa c d g n).1 n (g 1 n) (g 2 n - g 1 n) (10 + k) s = _
      unfold zk_rs
      rw [zu_k _ _ _ _ hs, zk_mp_lo (by omega), zk_rsa_ks hk hs n (by omega)]
theorem zk_rsa_k9 {c : Nat → Nat → Int32} {d : Nat → Nat → Int64} {g : Nat → Nat → Nat} {k : Nat} (hk : k < 4) (hg : g 0 k ≠ 0) : ∀ n, n ≤ 4 → (zk_rsa c d g n).1 (10 + k) 9 = if k < n then zk_ck c k (g 1 k) (g 2 k - g 1 k) else c (10 + k) 9
  | 0, _ => by rw [if_neg (by omega)]; rfl
  | n + 1, hn => by
    have ih := zk_rsa_k9 (c := c) (d := d) hk hg n (by omega)
    rw [zk_rsa]
    by_cases e : g 0 n = 0
    · rw [if_pos e, ih]
      by_cases e2 : k < n
      · rw [if_pos e2, if_pos (show k < n + 1 by omega)]
      · rw [if_neg e2, if_neg (fun z => hg (by rw [show k = n by omega]; exact e))]
    · rw [if_neg e]
      show zk_rs (zk_rsa c d g n).1 n (g 1 n) (g 2 n - g 1 n) (10 + k) 9 = _
      unfold zk_rs
      by_cases e2 : k = n
      · subst e2
        rw [zu_self, if_pos (show k < k + 1 by omega)]
        unfold zk_ck
        by_cases e3 : g 2 k - g 1 k = 0
        · rw [if_pos e3, if_pos e3]
        · rw [if_neg e3, if_neg e3, zk_rsa_ps (by decide) k (by omega)]
      · rw [zu_ne _ _ _ (by omega), zk_mp_lo (by omega), ih]
        by_cases e3 : k < n
        · rw [if_pos e3, if_pos (show k < n + 1 by omega)]
        · rw [if_neg e3, if_neg (show ¬ k < n + 1 by omega)]
theorem zk_rsa_p5 {c : Nat → Nat → Int32} {d : Nat → Nat → Int64} {g : Nat → Nat → Nat} {k x : Nat} (hx : zs_l g k x) : ∀ n, n ≤ 4 → ((zk_rsa c d g n).1 (zk_p k x) 5 = if k < n then c (zk_p k x) 6 else c (zk_p k x) 5) ∧ ((zk_rsa c d g n).2 (zk_p k x) 7 = if k < n then 0 else d (zk_p k x) 7)
  | 0, _ => by rw [if_neg (by omega), if_neg (by omega)]; exact ⟨rfl, rfl⟩
  | n + 1, hn => by
    have ih := zk_rsa_p5 (c := c) (d := d) hx n (by omega)
    have hk := hx.1
    rw [zk_rsa]
    by_cases e : g 0 n = 0
    · rw [if_pos e, ih.1, ih.2]
      by_cases e2 : k < n
      · rw [if_pos e2, if_pos (show k < n + 1 by omega), if_pos e2, if_pos (show k < n + 1 by omega)]
        exact ⟨rfl, rfl⟩
      · have e4 : ¬ k < n + 1 := fun z => hx.2.1 (by rw [show k = n by omega]; exact e)
        rw [if_neg e2, if_neg e4, if_neg e2, if_neg e4]
        exact ⟨rfl, rfl⟩
    · rw [if_neg e]
      show zk_rs (zk_rsa c d g n).1 n (g 1 n) (g 2 n - g 1 n) (zk_p k x) 5 = _ ∧ zk_mp (zk_rsa c d g n).2 n (g 1 n) (g 2 n) (zk_aG (zk_rsa c d g n).2 n) (zk_p k x) 7 = _
      unfold zk_rs
      rw [zu_ne _ _ _ (by unfold zk_p; omega)]
      by_cases e2 : k = n
      · subst e2
        have := hx.2.2
        rw [zk_mp_at hk this.1 (by omega), zk_mp_at hk this.1 this.2, if_pos (show k < k + 1 by omega), if_pos (show k < k + 1 by omega)]
        unfold zk_rsG zk_aG
        rw [va_up_self, va_up_self, zk_rsa_6 k (by omega)]
        exact ⟨rfl, rfl⟩
      · have er : ∀ {α : Type} (f : Nat → Nat → α) (a b : Nat) (G : Nat → Nat → α), zk_mp f n a b G (zk_p k x) = f (zk_p k x) := fun f a b G => by
          funext s
          unfold zk_mp zk_p
          rw [if_neg (by omega)]
        rw [er, er, ih.1, ih.2]
        by_cases e3 : k < n
        · rw [if_pos e3, if_pos (show k < n + 1 by omega), if_pos e3, if_pos (show k < n + 1 by omega)]
          exact ⟨rfl, rfl⟩
        · rw [if_neg e3, if_neg (show ¬ k < n + 1 by omega), if_neg e3, if_neg (show ¬ k < n + 1 by omega)]
          exact ⟨rfl, rfl⟩
theorem zo_lt_of {m : Nat → Nat → Int32} {X : Int32} (hpos : ∀ s, s < 280 → m 16 s = X → ∃ x, x < 600 ∧ m 17 s = nI x) : ∀ n, n ≤ 280 → (zo_lt m X n = (-1) ∧ ∀ s, s < n → ¬ m 16 s = X) ∨ ∃ s x, s < n ∧ m 16 s = X ∧ x < 600 ∧ m 17 s = nI x ∧ zo_lt m X n = nI x ∧ ∀ j y, j < n → m 16 j = X → y < 600 → m 17 j = nI y → y ≤ x
  | 0, _ => Or.inl ⟨rfl, fun s hs => by omega⟩
  | n + 1, hn => by
    have ih := zo_lt_of hpos n (by omega)
    rw [zo_lt]
    by_cases e : m 16 n = X
    · rw [if_pos e]
      obtain ⟨x1, hx1, ex1⟩ := hpos n (by omega) e
      rcases ih with ⟨h1, h2⟩ | ⟨s, x, h1, h2, h3, h4, h5, h6⟩
      · rw [h1, ex1, if_pos (by
          have : ¬ nI x1 < nI 0 := nI_nlt (Nat.zero_le _) (by omega)
          exact Decidable.byContradiction fun z => by
            have a : (nI x1).toInt = x1 := nI_toInt (by omega)
            rw [Int32.lt_iff_toInt_lt, a, show (-1 : Int32).toInt = -1 by decide] at z
            omega)]
        refine Or.inr ⟨n, x1, by omega, e, hx1, ex1, rfl, fun j y hj ej hy ey => ?_⟩
        by_cases en : j = n
        · rw [en, ex1] at ey
          have := (nI_eq (by omega) (by omega)).mp ey
          omega
        · exact absurd ej (h2 j (by omega))
      · rw [h5, ex1]
        by_cases e2 : x < x1
        · rw [if_pos (nI_lt e2 (by omega))]
          refine Or.inr ⟨n, x1, by omega, e, hx1, ex1, rfl, fun j y hj ej hy ey => ?_⟩
          by_cases en : j = n
          · rw [en, ex1] at ey
            have := (nI_eq (by omega) (by omega)).mp ey
            omega
          · have := h6 j y (by omega) ej hy ey
            omega
        · rw [if_neg (nI_nlt (by omega) (by omega))]
          refine Or.inr ⟨s, x, by omega, h2, h3, h4, rfl, fun j y hj ej hy ey => ?_⟩
          by_cases en : j = n
          · rw [en, ex1] at ey
            have := (nI_eq (by omega) (by omega)).mp ey
            omega
          · exact h6 j y (by omega) ej hy ey
    · rw [if_neg e]
      rcases ih with ⟨h1, h2⟩ | ⟨s, x, h1, h2, h3, h4, h5, h6⟩
      · refine Or.inl ⟨h1, fun s hs es => ?_⟩
        by_cases en : s = n
        · exact e (by rw [← en]; exact es)
        · exact h2 s (by omega) es
      · refine Or.inr ⟨s, x, by omega, h2, h3, h4, h5, fun j y hj ej hy ey => ?_⟩
        by_cases en : j = n
        · exact absurd (by rw [← en]; exact ej) e
        · exact h6 j y (by omega) ej hy ey
section ZTB
variable {c : Nat → Nat → Int32} {d : Nat → Nat → Int64} {g : Nat → Nat → Nat} {m : Nat → Nat → Int32} {q : Nat → Nat → Int64} {u sl of tu au : Nat → Nat → Nat}
/-- the clock of a store, as reset sets it -/
theorem zs_ck (h : zs c d g m q u sl of tu au) {k : Nat} (hk : k < 4) (hg : g 0 k ≠ 0) {m1 : Nat → Nat → Int32} (h16 : m1 16 = m 16) (h17 : m1 17 = m 17) (h19 : m1 19 = m 19) : zo_ck m1 k = zk_ck c k (g 1 k) (g 2 k - g 1 k) := by
  have hb := ((h.2.1 k hk).2 hg).2.2.2.2.2.2.2.2.2.2.2.2.2.1.2.2.2.2.2.2
  have hn := zs_nxb h hk hg
  unfold zo_ck zk_ck
  rw [zo_fd_c h16 h17, zo_lt_c h16 h17, h19]
  have hpos : ∀ s, s < 280 → m 16 s = nI k → ∃ x, x < 600 ∧ m 17 s = nI x := fun s hs e => by
    obtain ⟨x, hx, es⟩ := zs_at h hs hk e
    exact ⟨x, zs_xb h hx, by rw [es]; exact (h.2.2.2.1.1 k x hx).1.2.2.1⟩
  have hlt := zo_lt_of hpos 280 (Nat.le_refl _)
  by_cases e : g 2 k - g 1 k = 0
  · rw [if_pos e]
    have hno : ∀ x, ¬ zs_l g k x := fun x hx => by
      have := hx.2.2
      omega
    rcases hlt with ⟨h1, -⟩ | ⟨s, x, h1, h2, -⟩
    · rw [h1, zs_find0 h hk (fun x hx => absurd hx (hno x)), if_pos (by decide)]
    · obtain ⟨y, hy, -⟩ := zs_at h h1 hk h2
      exact absurd hy (hno y)
  · rw [if_neg e]
    have hl : zs_l g k (g 2 k - 1) := ⟨hk, hg, by omega, by omega⟩
    have hp := (h.2.2.2.1.1 k _ hl).1
    rcases hlt with ⟨h1, h2⟩ | ⟨s, x, h1, h2, h3, h4, h5, h6⟩
    · exact absurd hp.2.1 (h2 _ hp.1)
    · have a1 := h6 _ _ hp.1 hp.2.1 (by omega) hp.2.2.1
      obtain ⟨y, hy, es⟩ := zs_at h h1 hk h2
      have hpy := (h.2.2.2.1.1 k _ hy).1.2.2.1
      rw [← es, h4] at hpy
      have := zs_xb h hy
      have a2 := (nI_eq (by omega) (by omega)).mp hpy
      have := hy.2.2
      have ex : x = g 2 k - 1 := by omega
      rw [h5, ex, zs_find h hl, if_neg (nI_nlt (Nat.zero_le _) (by have := hp.1; omega)), nI_clamp (by have := hp.1; omega), show g 1 k + (g 2 k - g 1 k) - 1 = g 2 k - 1 by omega]
      exact hp.2.2.2.1
/-- reset -/
theorem zs_reset (h : zs c d g m q u sl of tu au) : zs (zu (zk_rsa c d g 4).1 0 5 (nI 0)) (zk_rsa c d g 4).2 (zu (zk_z3 g 4) 5 0 0) (zo_rs m) q u sl of (fun _ _ => 0) (fun _ _ => 0) := by
  have h0 := h
  obtain ⟨hA, hB, hG, hP, hL, hF, hN⟩ := h
  have Cr : ∀ r, 1 ≤ r → (r < 10 ∨ (14 ≤ r ∧ r < 100) ∨ (100 ≤ r ∧ (r - 100) % 2 = 1)) → zu (zk_rsa c d g 4).1 0 5 (nI 0) r = c r := fun r h1 h2 => by rw [zu_ne _ _ _ (by omega), zk_rsa_r h2 4 (Nat.le_refl _)]
  have C0 : zu (zk_rsa c d g 4).1 0 5 (nI 0) 0 = va_up (c 0) 5 (nI 0) := by rw [zu_at, zk_rsa_r (Or.inl (by decide)) 4 (Nat.le_refl _)]
  have Dr : ∀ r, r < 100 → (zk_rsa c d g 4).2 r = d r := fun r h1 => zk_rsa_dr h1 4 (Nat.le_refl _)
  have M1r : ∀ r, r ≠ 22 → r ≠ 24 → zo_rs1 m 280 r = m r := fun r h1 h2 => by unfold zo_rs1 zo_two; rw [va_up_ne _ _ h2, va_up_ne _ _ h1]
  have Mr : ∀ r, r ≠ 11 → r ≠ 22 → r ≠ 24 → r ≠ 27 → r ≠ 40 → zo_rs m r = m r := fun r h1 h2 h3 h4 h5 => by
    unfold zo_rs
    rw [zu_ne _ _ _ h5, zu_ne _ _ _ h5]
    unfold zo_rs2 zo_two
    rw [va_up_ne _ _ h4, va_up_ne _ _ h1, M1r r h2 h3]
  have M40 : ∀ j, j ≠ 35 → j ≠ 6 → zo_rs m 40 j = m 40 j := fun j h1 h2 => by
    unfold zo_rs
    rw [zu_k _ _ _ _ h2, zu_k _ _ _ _ h1]
    unfold zo_rs2 zo_two
    rw [va_up_ne _ _ (by decide), va_up_ne _ _ (by decide), M1r 40 (by decide) (by decide)]
  have M35 : zo_rs m 40 35 = (-1) := by
    unfold zo_rs
    rw [zu_k _ _ _ _ (by decide), zu_self]
  have M6 : zo_rs m 40 6 = nI 0 := by
    unfold zo_rs
    rw [zu_self]
  have M27 : ∀ p, p < 4 → zo_rs m 27 p = (-1) := fun p hp => by
    unfold zo_rs
    rw [zu_ne _ _ _ (by decide), zu_ne _ _ _ (by decide)]
    unfold zo_rs2 zo_two
    rw [va_up_self, zo_map_lt _ _ hp]
  have M11 : ∀ p, p < 4 → zo_rs m 11 p = zo_ck (zo_rs1 m 280) p := fun p hp => by
    unfold zo_rs
    rw [zu_ne _ _ _ (by decide), zu_ne _ _ _ (by decide)]
    unfold zo_rs2 zo_two
    rw [va_up_ne _ _ (by decide), va_up_self, zo_map_lt _ _ hp]
  have M22 : ∀ s, s < 280 → zo_rs m 22 s = m 23 s := fun s hs => by
    unfold zo_rs
    rw [zu_ne _ _ _ (by decide), zu_ne _ _ _ (by decide)]
    unfold zo_rs2 zo_two
    rw [va_up_ne _ _ (by decide), va_up_ne _ _ (by decide)]
    unfold zo_rs1 zo_two
    rw [va_up_ne _ _ (by decide), va_up_self, zo_map_lt _ _ hs]
  have M24 : ∀ s, s < 280 → zo_rs m 24 s = nI 0 := fun s hs => by
    unfold zo_rs
    rw [zu_ne _ _ _ (by decide), zu_ne _ _ _ (by decide)]
    unfold zo_rs2 zo_two
    rw [va_up_ne _ _ (by decide), va_up_ne _ _ (by decide)]
    unfold zo_rs1 zo_two
    rw [va_up_self, zo_map_lt _ _ hs]
  have Gr : ∀ r, r ≠ 3 → r ≠ 5 → zu (zk_z3 g 4) 5 0 0 r = g r := fun r h1 h2 => by
    rw [zu_ne _ _ _ h2]
    funext s
    unfold zk_z3
    rw [if_neg (fun z => h1 z.1)]
  have G3 : ∀ p, p < 4 → zu (zk_z3 g 4) 5 0 0 3 p = 0 := fun p hp => by
    rw [zu_ne _ _ _ (by decide)]
    unfold zk_z3
    rw [if_pos ⟨rfl, hp⟩]
  have G5 : zu (zk_z3 g 4) 5 0 0 5 0 = 0 := by rw [zu_self]
  have hl : ∀ {j x}, zs_l (zu (zk_z3 g 4) 5 0 0) j x ↔ zs_l g j x := fun {j x} => by
    unfold zs_l
    rw [Gr 0 (by decide) (by decide), Gr 1 (by decide) (by decide), Gr 2 (by decide) (by decide)]
  refine ⟨?_, fun j hj => ?_, zs_G_c hG (fun j hj => Cr _ (by omega) (by omega)) (fun _ _ => by rw [Gr 0 (by decide) (by decide)]) (Mr _ (by decide) (by decide) (by decide) (by decide) (by decide)) (fun _ => ⟨rfl, rfl⟩), ?_, ⟨fun p hp => ?_, fun p j hp hj gp gj => absurd (G3 p hp) gp⟩, ⟨?_, ?_, Or.inl ⟨G5, M35⟩⟩, ?_⟩
  · obtain ⟨a1, a2, a3, a4, ⟨sn, a5, a6⟩, a7, a8, a9⟩ := hA
    unfold zs_A
    rw [C0, M40 1 (by decide) (by decide), M40 2 (by decide) (by decide), M40 3 (by decide) (by decide), M40 4 (by decide) (by decide), M40 5 (by decide) (by decide), M6, Dr 3 (by decide), Cr 1 (by decide) (by omega), Mr 15 (by decide) (by decide) (by decide) (by decide) (by decide), va_up_self, va_up_ne _ _ (by decide), va_up_ne _ _ (by decide), va_up_ne _ _ (by decide), va_up_ne _ _ (by decide), va_up_ne _ _ (by decide)]
    exact ⟨a1, a2, a3, rfl, ⟨0, by decide, rfl⟩, a7, a8, a9⟩
  · rw [Gr 0 (by decide) (by decide), Mr 7 (by decide) (by decide) (by decide) (by decide) (by decide)]
    refine ⟨(hB j hj).1, fun e => ?_⟩
    have Ck : ∀ s, s ≠ 9 → zu (zk_rsa c d g 4).1 0 5 (nI 0) (10 + j) s = c (10 + j) s := fun s hs => by rw [zu_ne _ _ _ (by omega), zk_rsa_ks hj hs 4 (Nat.le_refl _)]
    have C9 : zu (zk_rsa c d g 4).1 0 5 (nI 0) (10 + j) 9 = zk_ck c j (g 1 j) (g 2 j - g 1 j) := by rw [zu_ne _ _ _ (by omega), zk_rsa_k9 hj e 4 (Nat.le_refl _), if_pos hj]
    obtain ⟨b1, b2, b3, b4, b5, b6, b7, b8, b9, b10, b11, b12, b13, b14, b15⟩ := (hB j hj).2 e
    unfold zs_k
    rw [Ck 0 (by decide), Ck 1 (by decide), Ck 6 (by decide), Ck 8 (by decide), Ck 7 (by decide), Ck 4 (by decide), C9, Cr (20 + j) (by omega) (by omega), Gr 1 (by decide) (by decide), Gr 2 (by decide) (by decide), M11 j hj, Mr 7 (by decide) (by decide) (by decide) (by decide) (by decide), Mr 8 (by decide) (by decide) (by decide) (by decide) (by decide), Mr 9 (by decide) (by decide) (by decide) (by decide) (by decide), Mr 10 (by decide) (by decide) (by decide) (by decide) (by decide), Mr 12 (by decide) (by decide) (by decide) (by decide) (by decide), Mr 13 (by decide) (by decide) (by decide) (by decide) (by decide), Mr 14 (by decide) (by decide) (by decide) (by decide) (by decide), Mr 15 (by decide) (by decide) (by decide) (by decide) (by decide)]
    exact ⟨b1, b2, b3, b4, b5, b6, b7, b8, zs_ck h0 hj e (M1r 16 (by decide) (by decide)) (M1r 17 (by decide) (by decide)) (M1r 19 (by decide) (by decide)), b10, b11, b12, b13, b14, b15⟩
  · obtain ⟨p1, p2, p3, p4, p5⟩ := hP
    refine ⟨fun j x hx => ?_, fun s hs e => ?_, fun s hs => by rw [Mr 20 (by decide) (by decide) (by decide) (by decide) (by decide)]; exact p3 s hs, fun s hs => by rw [Mr 23 (by decide) (by decide) (by decide) (by decide) (by decide)]; exact p4 s hs, fun i x j y hx hy => ⟨Iff.rfl, fun _ z => absurd rfl z⟩⟩
    · have hx := hl.mp hx
      have hj := hx.1
      obtain ⟨a1, a2, a3⟩ := p1 j x hx
      obtain ⟨b1, b2, b3, b4, b5, b6, b7, b8, b9, b10, b11, b12, b13, b14, b15, b16, b17⟩ := a1
      have Cs : ∀ s, s ≠ 5 → zu (zk_rsa c d g 4).1 0 5 (nI 0) (zk_p j x) s = c (zk_p j x) s := fun s hs => by rw [zu_ne _ _ _ (by unfold zk_p; omega), zk_rsa_ps hs 4 (Nat.le_refl _)]
      have C5 : zu (zk_rsa c d g 4).1 0 5 (nI 0) (zk_p j x) 5 = c (zk_p j x) 6 := by rw [zu_ne _ _ _ (by unfold zk_p; omega), (zk_rsa_p5 hx 4 (Nat.le_refl _)).1, if_pos hj]
      have D7 : (zk_rsa c d g 4).2 (zk_p j x) 7 = 0 := by rw [(zk_rsa_p5 hx 4 (Nat.le_refl _)).2, if_pos hj]
      have T1 : zu (zk_rsa c d g 4).1 0 5 (nI 0) (zk_p j x + 1) = c (zk_p j x + 1) := Cr _ (by unfold zk_p; omega) (by unfold zk_p; omega)
      refine ⟨?_, ?_, ?_⟩
      · unfold zs_p
        rw [Cs 3 (by decide), Cs 4 (by decide), Cs 6 (by decide), Cs 0 (by decide), Cs 2 (by decide), C5, D7, M22 _ b1, M24 _ b1, Mr 16 (by decide) (by decide) (by decide) (by decide) (by decide), Mr 17 (by decide) (by decide) (by decide) (by decide) (by decide), Mr 19 (by decide) (by decide) (by decide) (by decide) (by decide), Mr 21 (by decide) (by decide) (by decide) (by decide) (by decide), Mr 23 (by decide) (by decide) (by decide) (by decide) (by decide)]
        exact ⟨b1, b2, b3, b4, b5, b7, b7, b8, b9, b11, b11, rfl, rfl, Iff.rfl, Nat.zero_le _, Nat.zero_le _, fun _ => rfl⟩
      · unfold zs_te zo_tl
        rw [T1, Gr 4 (by decide) (by decide), Mr 18 (by decide) (by decide) (by decide) (by decide) (by decide), Mr 19 (by decide) (by decide) (by decide) (by decide) (by decide), Mr 20 (by decide) (by decide) (by decide) (by decide) (by decide)]
        exact a2
      · unfold zs_o
        rw [Cs 4 (by decide), Cr (20 + j) (by omega) (by omega), Gr 2 (by decide) (by decide)]
        exact a3
    · rw [Mr 16 (by decide) (by decide) (by decide) (by decide) (by decide)] at e
      obtain ⟨j, x, hx, e2⟩ := p2 s hs e
      exact ⟨j, x, hl.mpr hx, e2⟩
  · exact ⟨fun _ => M27 p hp, fun z => absurd (G3 p hp) z⟩
  · rw [Cr 2 (by decide) (by omega), Mr 34 (by decide) (by decide) (by decide) (by decide) (by decide)]
    exact hF.1
  · rw [Cr 2 (by decide) (by omega)]
    exact hF.2.1
  · unfold zs_N
    rw [Dr 9 (by decide), M40 26 (by decide) (by decide), M40 33 (by decide) (by decide), Gr 0 (by decide) (by decide), Gr 2 (by decide) (by decide)]
    exact hN
end ZTB
