theorem zk_fd_sp {c : Nat → Nat → Int32} {k b : Nat} : ∀ r, r ≤ b → (zk_fd c k b r = nI 0 ∧ ∃ x, b - r ≤ x ∧ x < b ∧ (∀ y, b - r ≤ y → y ≤ x → c (zk_p k y) 4 = c (20 + k) 0) ∧ c (zk_p k x) 5 = nI 0) ∨ (zk_fd c k b r = nI 1 ∧ ∀ x, b - r ≤ x → x < b → (∀ y, b - r ≤ y → y ≤ x → c (zk_p k y) 4 = c (20 + k) 0) → ¬ c (zk_p k x) 5 = nI 0)
  | 0, _ => Or.inr ⟨rfl, fun x h1 h2 => by omega⟩
  | r + 1, hr => by
    rw [zk_fd]
    by_cases h1 : c (zk_p k (b - (r + 1))) 4 = c (20 + k) 0
    · rw [if_pos h1]
      by_cases h2 : c (zk_p k (b - (r + 1))) 5 = nI 0
      · rw [if_pos h2]
        refine Or.inl ⟨rfl, b - (r + 1), Nat.le_refl _, by omega, fun y y1 y2 => ?_, h2⟩
        rw [show y = b - (r + 1) by omega]
        exact h1
      · rw [if_neg h2]
        rcases zk_fd_sp (c := c) (k := k) (b := b) r (by omega) with ⟨e, x, a1, a2, a3, a4⟩ | ⟨e, a1⟩
        · refine Or.inl ⟨e, x, by omega, a2, fun y y1 y2 => ?_, a4⟩
          by_cases ey : y = b - (r + 1)
          · rw [ey]
            exact h1
          · exact a3 y (by omega) y2
        · refine Or.inr ⟨e, fun x x1 x2 x3 => ?_⟩
          by_cases ex : x = b - (r + 1)
          · rw [ex]
            exact h2
          · exact a1 x (by omega) x2 (fun y y1 y2 => x3 y (by omega) y2)
    · rw [if_neg h1]
      exact Or.inr ⟨rfl, fun x x1 x2 x3 => absurd (x3 (b - (r + 1)) (Nat.le_refl _) (by omega)) h1⟩
theorem zo_mr_sp {m : Nat → Nat → Int32} {k : Nat} : ∀ n, (zo_mr m k n = 0 ↔ ∃ s, s < n ∧ m 16 s = nI k ∧ m 21 s = m 14 (40 * k) ∧ m 22 s = nI 0)
  | 0 => ⟨fun h => absurd (show (1 : Nat) = 0 from h) (by decide), fun ⟨s, hs, _⟩ => absurd hs (Nat.not_lt_zero _)⟩
  | n + 1 => by
    have ih := zo_mr_sp (m := m) (k := k) n
    rw [zo_mr]
    by_cases h0 : zo_mr m k n = 0
    · rw [if_pos h0]
      obtain ⟨s, hs, h⟩ := ih.mp h0
      exact ⟨fun _ => ⟨s, by omega, h⟩, fun _ => rfl⟩
    · rw [if_neg h0]
      have up : (∃ s, s < n + 1 ∧ m 16 s = nI k ∧ m 21 s = m 14 (40 * k) ∧ m 22 s = nI 0) ↔ (m 16 n = nI k ∧ m 21 n = m 14 (40 * k) ∧ m 22 n = nI 0) := by
        constructor
        · rintro ⟨s, hs, h⟩
          by_cases e : s = n
          · rw [← e]
            exact h
          · exact absurd (ih.mpr ⟨s, by omega, h⟩) h0
        · intro h
          exact ⟨n, Nat.lt_succ_self n, h⟩
      rw [up]
      by_cases h1 : m 16 n = nI k
      · rw [if_pos h1]
        by_cases h2 : m 21 n = m 14 (40 * k)
        · rw [if_pos h2]
          by_cases h3 : m 22 n = nI 0
          · rw [if_pos h3]
            exact ⟨fun _ => ⟨h1, h2, h3⟩, fun _ => rfl⟩
          · rw [if_neg h3]
            exact ⟨fun z => by omega, fun z => absurd z.2.2 h3⟩
        · rw [if_neg h2]
          exact ⟨fun z => by omega, fun z => absurd z.2.1 h2⟩
      · rw [if_neg h1]
        exact ⟨fun z => by omega, fun z => absurd z.1 h1⟩
section ZSR
variable {c : Nat → Nat → Int32} {d : Nat → Nat → Int64} {g : Nat → Nat → Nat} {m : Nat → Nat → Int32} {q : Nat → Nat → Int64} {u sl of tu au : Nat → Nat → Nat}
theorem zs_done (h : zs c d g m q u sl of tu au) {k : Nat} (hk : k < 4) (hg : g 0 k ≠ 0) (h1 : 1 ≤ u 0 k) : zk_fd c k (g 2 k) (g 2 k - g 1 k) = nI 0 ↔ zo_mr m k 280 = 0 := by
  have hsk := (h.2.1 k hk).2 hg
  have hlo := hsk.2.2.2.2.2.2.2.2.2.2.2.2.2.1.2.2.2.2.2.2
  obtain ⟨e14, pg, hp40, hpg, -⟩ := hsk.2.2.2.2.2.2.2.2.2.2.2.2.2.2 0 (by omega)
  rw [Nat.add_zero] at e14
  have hb : g 2 k - (g 2 k - g 1 k) = g 1 k := by omega
  rw [zo_mr_sp]
  rcases zk_fd_sp (c := c) (k := k) (b := g 2 k) (g 2 k - g 1 k) (by omega) with ⟨e, x, a1, a2, a3, a4⟩ | ⟨e, a1⟩
  · rw [hb] at a1 a3
    have hx : zs_l g k x := ⟨hk, hg, a1, a2⟩
    have hp := (h.2.2.2.1.1 k x hx).1
    exact ⟨fun _ => ⟨sl k x, hp.1, hp.2.1, by rw [hp.2.2.2.2.1, e14]; exact a3 x a1 (Nat.le_refl _), by rw [hp.2.2.2.2.2.1]; exact a4⟩, fun _ => e⟩
  · rw [hb] at a1
    refine ⟨fun z => absurd (e.symm.trans z) (by decide), fun ⟨s, hs, b1, b2, b3⟩ => ?_⟩
    obtain ⟨x, hx, rfl⟩ := zs_at h hs hk b1
    have hp := (h.2.2.2.1.1 k x hx).1
    rw [hp.2.2.2.2.1, e14, hpg] at b2
    have hof := (zs_first h hx h1 hpg).mp b2
    rw [hp.2.2.2.2.2.1] at b3
    refine absurd b3 (a1 x hx.2.2.1 hx.2.2.2 (fun y y1 y2 => ?_))
    have hy : zs_l g k y := ⟨hk, hg, y1, by have := hx.2.2.2; omega⟩
    have hm := zs_mono h (x - y) hy (by rw [show y + (x - y) = x by omega]; exact hx)
    rw [show y + (x - y) = x by omega] at hm
    rw [hpg]
    exact (zs_first h hy h1 hpg).mpr (by omega)
theorem zs_pr {k : Nat} (hk : k < 4) : ∀ (n : Nat) {c : Nat → Nat → Int32} {d : Nat → Nat → Int64} {g : Nat → Nat → Nat} {m : Nat → Nat → Int32} {q : Nat → Nat → Int64} {u sl of tu au : Nat → Nat → Nat}, zs c d g m q u sl of tu au → g 0 k ≠ 0 → u 0 k = n → ∃ u1 of1, zs (zk_pr k n (c, d, g)).1 (zk_pr k n (c, d, g)).2.1 (zk_pr k n (c, d, g)).2.2 (zo_pr k n (m, q)).1 (zo_pr k n (m, q)).2 u1 sl of1 tu au ∧ (∀ r, r ≠ 0 → u1 r = u r)
  | 0, _, _, _, _, _, u, _, of, _, _, h, _, _ => ⟨u, of, h, fun _ _ => rfl⟩
  | n + 1, c, d, g, m, q, u, sl, of, tu, au, h, hg, hn => by
    rw [zk_pr_s, zo_pr_s]
    by_cases h1 : n + 1 ≤ 1
    · rw [if_pos h1, if_pos h1]
      exact ⟨u, of, h, fun _ _ => rfl⟩
    · rw [if_neg h1, if_neg h1]
      have hd := zs_done h hk hg (by omega)
      by_cases h2 : zk_fd c k (g 2 k) (g 2 k - g 1 k) = nI 0
      · rw [if_pos (show zk_fd (c, d, g).1 k ((c, d, g).2.2 2 k) ((c, d, g).2.2 2 k - (c, d, g).2.2 1 k) = nI 0 from h2), if_pos (show zo_mr (m, q).1 k 280 = 0 from hd.mp h2)]
        exact ⟨u, of, h, fun _ _ => rfl⟩
      · rw [if_neg (show ¬ zk_fd (c, d, g).1 k ((c, d, g).2.2 2 k) ((c, d, g).2.2 2 k - (c, d, g).2.2 1 k) = nI 0 from h2), if_neg (show ¬ zo_mr (m, q).1 k 280 = 0 from fun z => h2 (hd.mpr z))]
        have hf := zs_ff h hk hg (by omega) (fun _ z => by omega)
        rw [hn] at hf
        obtain ⟨u1, of1, h3, h4⟩ := zs_pr hk n hf (by show zk_ffg c g k (zk_pg c k) 0 k ≠ 0; rw [zk_ffg_0 (by decide)]; exact hg) (by rw [zu_self, Nat.add_sub_cancel])
        rw [Nat.add_sub_cancel]
        exact ⟨u1, of1, h3, fun r hr => by rw [h4 r hr, zu_ne _ _ _ hr]⟩
theorem zs_prn (h : zs c d g m q u sl of tu au) {k : Nat} (hk : k < 4) (hg : g 0 k ≠ 0) : ∃ u1 of1, zs (zk_prn k (u 0 k) (c, d, g)).1 (zk_prn k (u 0 k) (c, d, g)).2.1 (zk_prn k (u 0 k) (c, d, g)).2.2 (zo_prn k (u 0 k) (m, q)).1 (zo_prn k (u 0 k) (m, q)).2 u1 sl of1 tu au ∧ (∀ r, r ≠ 0 → u1 r = u r) := by
  have h8 := ((h.2.1 k hk).2 hg).2.2.1
  unfold zk_prn zo_prn
  by_cases e : c (10 + k) 1 = nI 0
  · rw [if_pos (show (c, d, g).1 (10 + k) 1 = nI 0 from e), if_pos (show (m, q).1 8 k = nI 0 by rw [← e]; exact h8)]
    exact zs_pr hk _ h hg rfl
  · rw [if_neg (show ¬ (c, d, g).1 (10 + k) 1 = nI 0 from e), if_neg (show ¬ (m, q).1 8 k = nI 0 from fun z => e (h8.symm.trans z))]
    exact ⟨u, of, h, fun _ _ => rfl⟩
/-! confirm -/
theorem zo_cm_n {m : Nat → Nat → Int32} {k : Nat} {a b : Int32} : ∀ n, zo_cm m k a b n = zs_sum (fun s => if m 16 s = nI k then (if m 17 s < a then 0 else if b < m 17 s then 0 else if m 22 s = nI 0 then 1 else 0) else 0) n
  | 0 => rfl
  | n + 1 => by rw [zo_cm, zs_sum, zo_cm_n n]
theorem zk_cfn_n {c : Nat → Nat → Int32} {k lo : Nat} {a b : Int32} : ∀ n, zk_cfn c k lo a b n = zs_sum (fun i => if zk_cfd c k a b (lo + i) = nI 0 then 0 else 1) n
  | 0 => rfl
  | n + 1 => by rw [zk_cfn, zs_sum, zk_cfn_n n]
theorem zs_cfn (h : zs c d g m q u sl of tu au) {k : Nat} (hk : k < 4) (hg : g 0 k ≠ 0) (a b : Int32) : zk_cfn c k (g 1 k) a b (g 2 k - g 1 k) = zo_cm m k a b 280 := by
  have hl : ∀ i, i < g 2 k - g 1 k → zs_l g k (g 1 k + i) := fun i hi => ⟨hk, hg, by omega, by omega⟩
  rw [zk_cfn_n, zo_cm_n, zs_cnt h hk hg _ (fun s hs e => Decidable.byContradiction fun z => e (if_neg z))]
  refine zs_sum_c _ (fun i hi => ?_)
  have hp := (h.2.2.2.1.1 k _ (hl i hi)).1
  rw [if_pos hp.2.1, hp.2.2.1, hp.2.2.2.2.2.1]
  unfold zk_cfd
  rw [hp.2.2.2.2.2.2.2.2.1]
  by_cases e1 : nI (g 1 k + i) < a
  · rw [if_pos e1, if_pos e1, if_pos rfl]
  · rw [if_neg e1, if_neg e1]
    by_cases e2 : b < nI (g 1 k + i)
    · rw [if_pos e2, if_pos e2, if_pos rfl]
    · rw [if_neg e2, if_neg e2]
      by_cases e3 : c (zk_p k (g 1 k + i)) 5 = nI 0
      · rw [if_pos e3, if_pos e3, if_neg (by decide)]
      · rw [if_neg e3, if_neg e3, if_pos rfl]
/-- asked for no more: the packets of store k that a confirmation reaches -/
def zs_ca (t : Nat → Nat → Nat) (k : Nat) (a b : Int32) : Nat → Nat → Nat := fun j x => if j = k ∧ ¬ nI x < a ∧ ¬ b < nI x then 0 else t j x
theorem zs_conf (h : zs c d g m q u sl of tu au) {k : Nat} (hk : k < 4) (hg : g 0 k ≠ 0) (a b : Int32) : zs (zk_mp c k (g 1 k) (g 2 k) (zk_cfG c k a b)) (zk_mp d k (g 1 k) (g 2 k) (zk_cfA c d k a b)) g (zo_cfI m k a b 280) q u sl of (zs_ca tu k a b) (zs_ca au k a b) := by
  have h0 := h
  obtain ⟨hA, hB, hG, hP, hL, hF, hN⟩ := h
  have Cl : ∀ r, r < 100 → zk_mp c k (g 1 k) (g 2 k) (zk_cfG c k a b) r = c r := fun r hr => zk_mp_lo hr
  have Dl : ∀ r, r < 100 → zk_mp d k (g 1 k) (g 2 k) (zk_cfA c d k a b) r = d r := fun r hr => zk_mp_lo hr
  have Mr : ∀ r, r ≠ 22 → r ≠ 24 → zo_cfI m k a b 280 r = m r := fun r h1 h2 => zo_cfI_r h1 h2
  have M22 : ∀ s, s < 280 → zo_cfI m k a b 280 22 s = zo_cf m k a b s := fun s hs => by unfold zo_cfI; rw [va_up_ne _ _ (by decide), va_up_self, zo_map_lt _ _ hs]
  have M24 : ∀ s, s < 280 → zo_cfI m k a b 280 24 s = zo_ca m k a b s := fun s hs => by unfold zo_cfI; rw [va_up_self, zo_map_lt _ _ hs]
  refine ⟨zs_A_c hA (Cl _ (by decide)) (Cl _ (by decide)) (Dl _ (by decide)) (fun j _ _ => by rw [Mr 40 (by decide) (by decide)]) (Mr _ (by decide) (by decide)) rfl, zs_B_c hB (fun j hj => ⟨Cl _ (by omega), Cl _ (by omega)⟩) (fun _ _ => ⟨rfl, rfl, rfl⟩) (fun r h1 h2 => Mr r (by omega) (by omega)) (fun _ => ⟨rfl, rfl, rfl⟩), zs_G_c hG (fun j hj => Cl _ (by omega)) (fun _ _ => rfl) (Mr _ (by decide) (by decide)) (fun _ => ⟨rfl, rfl⟩), ?_, zs_L_c hL (fun p hp => ⟨Cl _ (by omega), Dl _ (by omega)⟩) (fun _ _ => rfl) (fun _ _ => rfl) (fun r h1 h2 => Mr r (by omega) (by omega)) (fun _ => ⟨rfl, rfl⟩) ⟨Nat.le_refl _, Nat.le_refl _⟩, zs_F_c hF (Cl _ (by decide)) ⟨Cl _ (by decide), Cl _ (by decide)⟩ ⟨rfl, rfl⟩ (Mr _ (by decide) (by decide)) (by rw [Mr 40 (by decide) (by decide)]) (Mr _ (by decide) (by decide)), zs_N_c hN (Dl _ (by decide)) (fun _ _ => ⟨rfl, rfl⟩) rfl ⟨by rw [Mr 40 (by decide) (by decide)], by rw [Mr 40 (by decide) (by decide)]⟩⟩
  obtain ⟨p1, p2, p3, p4, p5⟩ := hP
  have zz : ∀ {j x}, zs_l g j x → (tu j x = 0 ↔ au j x = 0) := fun {j x} hx => (p1 j x hx).1.2.2.2.2.2.2.2.2.2.2.2.2.2.1
  refine ⟨fun j x hx => ?_, fun s hs e => p2 s hs (by rw [Mr 16 (by decide) (by decide)] at e; exact e), fun s hs => by rw [Mr 20 (by decide) (by decide)]; exact p3 s hs, fun s hs => by rw [Mr 23 (by decide) (by decide)]; exact p4 s hs, fun i x j y hx hy => ?_⟩
  · obtain ⟨a1, a2, a3⟩ := p1 j x hx
    obtain ⟨b1, b2, b3, b4, b5, b6, b7, b8, b9, b10, b11, b12, b13, b14, b15, b16, b17⟩ := a1
    have hj := hx.1
    have T1 : zk_mp c k (g 1 k) (g 2 k) (zk_cfG c k a b) (zk_p j x + 1) = c (zk_p j x + 1) := by
      funext s
      unfold zk_mp zk_p
      rw [if_neg (by omega)]
    -- the packet's own ints: all but place 5
    have Cs : ∀ s, s ≠ 5 → zk_mp c k (g 1 k) (g 2 k) (zk_cfG c k a b) (zk_p j x) s = c (zk_p j x) s := fun s hs => zk_mp_g (fun y => by
      unfold zk_cfG
      split
      · rfl
      · exact va_up_ne _ _ hs) hk _
    have T3 : zs_o (zk_mp c k (g 1 k) (g 2 k) (zk_cfG c k a b)) g u of j x := by
      unfold zs_o
      rw [Cs 4 (by decide), Cl (20 + j) (by omega)]
      exact a3
    have T2 : zs_te (zk_mp c k (g 1 k) (g 2 k) (zk_cfG c k a b)) g (zo_cfI m k a b 280) q (zk_p j x) (sl j x) := by
      unfold zs_te zo_tl
      rw [T1, Mr 18 (by decide) (by decide), Mr 19 (by decide) (by decide), Mr 20 (by decide) (by decide)]
      exact a2
    refine ⟨?_, T2, T3⟩
    unfold zs_p
    rw [Cs 3 (by decide), Cs 4 (by decide), Cs 6 (by decide), Cs 0 (by decide), Cs 2 (by decide), Mr 16 (by decide) (by decide), Mr 17 (by decide) (by decide), Mr 19 (by decide) (by decide), Mr 21 (by decide) (by decide), Mr 23 (by decide) (by decide), M22 _ b1, M24 _ b1]
    by_cases ej : j = k
    · subst ej
      have hxx := hx.2.2
      rw [zk_mp_at hk hxx.1 hxx.2, zk_mp_at hk hxx.1 hxx.2]
      unfold zo_cf zo_ca zk_cfG zk_cfA
      rw [if_pos b2, if_pos b2, b3, b6]
      have hcd : zk_cfd c j a b x = if nI x < a then nI 0 else if b < nI x then nI 0 else if c (zk_p j x) 5 = nI 0 then nI 1 else nI 0 := by unfold zk_cfd; rw [b9]
      by_cases e1 : nI x < a
      · rw [if_pos e1] at hcd
        rw [hcd, if_pos rfl, if_pos rfl, if_pos e1, if_pos e1]
        have et : ∀ t : Nat → Nat → Nat, zs_ca t j a b j x = t j x := fun t => by unfold zs_ca; rw [if_neg (fun z => z.2.1 e1)]
        rw [et tu, et au]
        exact ⟨b1, b2, rfl, b4, b5, rfl, b7, b8, b9, b10, b11, b12, b13, b14, b15, b16, b17⟩
      · rw [if_neg e1] at hcd
        rw [if_neg e1, if_neg e1]
        by_cases e2 : b < nI x
        · rw [if_pos e2] at hcd
          rw [hcd, if_pos rfl, if_pos rfl, if_pos e2, if_pos e2]
          have et : ∀ t : Nat → Nat → Nat, zs_ca t j a b j x = t j x := fun t => by unfold zs_ca; rw [if_neg (fun z => z.2.2 e2)]
          rw [et tu, et au]
          exact ⟨b1, b2, rfl, b4, b5, rfl, b7, b8, b9, b10, b11, b12, b13, b14, b15, b16, b17⟩
        · rw [if_neg e2] at hcd
          rw [if_neg e2, if_neg e2]
          have et : ∀ t : Nat → Nat → Nat, zs_ca t j a b j x = 0 := fun t => by unfold zs_ca; rw [if_pos ⟨rfl, e1, e2⟩]
          rw [et tu, et au]
          by_cases e3 : c (zk_p j x) 5 = nI 0
          · rw [if_pos e3] at hcd
            rw [hcd, if_neg (by decide), if_neg (by decide), va_up_self, va_up_self]
            exact ⟨b1, b2, rfl, b4, b5, rfl, b7, b8, b9, Or.inr rfl, b11, rfl, rfl, Iff.rfl, Nat.zero_le _, Nat.zero_le _, fun _ => rfl⟩
          · rw [if_neg e3] at hcd
            rw [hcd, if_pos rfl, if_pos rfl]
            have hau := b17 e3
            have htu := b14.mpr hau
            have h51 : c (zk_p j x) 5 = nI 1 := b10.resolve_left e3
            exact ⟨b1, b2, rfl, b4, b5, h51.symm, b7, b8, b9, b10, b11, by rw [b12, htu], rfl, Iff.rfl, Nat.zero_le _, Nat.zero_le _, fun _ => rfl⟩
    · have hne : ¬ m 16 (sl j x) = nI k := by
        rw [b2]
        exact fun z => ej ((nI_eq (by omega) (by omega)).mp z)
      have er : ∀ {α : Type} (f : Nat → Nat → α) (G : Nat → Nat → α), zk_mp f k (g 1 k) (g 2 k) G (zk_p j x) = f (zk_p j x) := fun f G => by
        funext s
        unfold zk_mp zk_p
        rw [if_neg (by omega)]
      have et : ∀ t : Nat → Nat → Nat, zs_ca t k a b j x = t j x := fun t => by unfold zs_ca; rw [if_neg (fun z => ej z.1)]
      rw [er c, er d, et tu, et au]
      unfold zo_cf zo_ca
      rw [if_neg hne, if_neg hne]
      exact ⟨b1, b2, b3, b4, b5, b6, b7, b8, b9, b10, b11, b12, b13, b14, b15, b16, b17⟩
  · have q5 := p5 i x j y hx hy
    have z1 := zz hx
    have z2 := zz hy
    unfold zs_ca
    by_cases e1 : i = k ∧ ¬ nI x < a ∧ ¬ b < nI x
    · rw [if_pos e1, if_pos e1]
      by_cases e2 : j = k ∧ ¬ nI y < a ∧ ¬ b < nI y
      · rw [if_pos e2, if_pos e2]
        exact ⟨Iff.rfl, fun _ z => absurd rfl z⟩
      · rw [if_neg e2, if_neg e2]
        exact ⟨by omega, fun _ z => absurd rfl z⟩
    · rw [if_neg e1, if_neg e1]
      by_cases e2 : j = k ∧ ¬ nI y < a ∧ ¬ b < nI y
      · rw [if_pos e2, if_pos e2]
        exact ⟨by omega, fun z z3 => absurd z z3⟩
      · rw [if_neg e2, if_neg e2]
        exact q5
end ZSR
