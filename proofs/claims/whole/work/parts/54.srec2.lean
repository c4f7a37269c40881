theorem zk_ff_g {k n r : Nat} {z : (Nat → Nat → Int32) × (Nat → Nat → Int64) × (Nat → Nat → Nat)} (h : r ≠ 1) : (zk_ff k n z).2.2 r = z.2.2 r := by
  show zk_ffg z.1 z.2.2 k (zk_pg z.1 k) r = z.2.2 r
  unfold zk_ffg
  exact zu_ne _ _ _ h
theorem zk_pr_g {k r : Nat} (h : r ≠ 1) : ∀ n (z : (Nat → Nat → Int32) × (Nat → Nat → Int64) × (Nat → Nat → Nat)), (zk_pr k n z).2.2 r = z.2.2 r
  | 0, _ => rfl
  | n + 1, z => by
    rw [zk_pr]
    by_cases e : n = 0
    · rw [if_pos e]
    · rw [if_neg e]
      by_cases e2 : zk_fd z.1 k (z.2.2 2 k) (z.2.2 2 k - z.2.2 1 k) = nI 0
      · rw [if_pos e2]
      · rw [if_neg e2, zk_pr_g h n, zk_ff_g h]
theorem zk_prn_g {k n r : Nat} (h : r ≠ 1) (z : (Nat → Nat → Int32) × (Nat → Nat → Int64) × (Nat → Nat → Nat)) : (zk_prn k n z).2.2 r = z.2.2 r := by
  unfold zk_prn
  by_cases e : z.1 (10 + k) 1 = nI 0
  · rw [if_pos e, zk_pr_g h]
  · rw [if_neg e]
section ZSY
variable {c : Nat → Nat → Int32} {d : Nat → Nat → Int64} {g : Nat → Nat → Nat} {m : Nat → Nat → Int32} {q : Nat → Nat → Int64} {u sl of tu au : Nat → Nat → Nat}
/-- record, of a store that has room -/
theorem zs_rec (h : zs c d g m q u sl of tu au) (h6 : ∀ k, u 6 k = 0) (ht : u 5 3 < 600) {k a0 n W : Nat} {t : Int32} (hk : k < 4) (hg : g 0 k ≠ 0) (ha : a0 ≤ 255) (hn : n ≤ 60) (eW : W = 2 + (n + 3) / 4) (hro : c (10 + k) 1 = nI 0 → W ≤ (16 - u 1 k) + 13 * (u 2 k - u 0 k)) : ∃ s c1 C1 D1 G1 u2 sl2 of2 tu2 au2, (s < 280 ∧ m 16 s < nI 0 ∧ (∀ t, t < s → ¬ m 16 t < nI 0)) ∧ (∀ w, w < W → zk_ok k (zk_wn k w (zk_ap0 c d g k (nI a0) t n)) ∧ zo_ok k (zo_rwn k s w (m, q))) ∧ zk_fin k (zk_wn k W (zk_ap0 c d g k (nI a0) t n)) ∧ zk_ap1 k t (zk_wn k W (zk_ap0 c d g k (nI a0) t n)) = (C1, D1, G1) ∧ (G1 0 k ≠ 0 ∧ G1 1 k ≤ G1 2 k ∧ zk_pgs C1 k c1) ∧ zo_pgs (zo_rwn k s W (m, q)).1 k c1 ∧ zs (zk_prn k c1 (C1, D1, G1)).1 (zk_prn k c1 (C1, D1, G1)).2.1 (zk_prn k c1 (C1, D1, G1)).2.2 (zo_prn k c1 (zo_rec m q k s (nI a0) t n)).1 (zo_prn k c1 (zo_rec m q k s (nI a0) t n)).2 u2 sl2 of2 tu2 au2 ∧ (∀ j, u2 6 j = 0) ∧ u2 5 3 = u 5 3 + 1 ∧ (zk_prn k c1 (C1, D1, G1)).2.2 6 0 = 0 ∧ (zk_wn k W (zk_ap0 c d g k (nI a0) t n)).1 96 2 = (zo_prn k c1 (zo_rec m q k s (nI a0) t n)).1 10 k - nI 1 := by
  obtain ⟨s, hs1, hs2, hs3⟩ := zs_slot h
  have hb := (h.2.1 k hk).2 hg
  have hz0 := zs_ap0 h k (nI a0) t n
  generalize ez : zk_ap0 c d g k (nI a0) t n = z0 at hz0 ⊢
  have E1 : ∀ r, r ≠ 96 → r ≠ 97 → z0.1 r = c r := fun r h1 h2 => by rw [← ez]; unfold zk_ap0; show va_up (va_up c 96 _) 97 _ r = c r; rw [va_up_ne _ _ h2, va_up_ne _ _ h1]
  have E96 : z0.1 96 = zk_pi (c (10 + k) 0) (c (10 + k) 8) t := by rw [← ez]; unfold zk_ap0; show va_up (va_up c 96 (zk_pi (c (10 + k) 0) (c (10 + k) 8) t)) 97 (zk_te (c 2) (nI a0) t n) 96 = _; rw [va_up_ne _ _ (by decide), va_up_self]
  have E97 : z0.1 97 = zk_te (c 2) (nI a0) t n := by rw [← ez]; unfold zk_ap0; show va_up (va_up c 96 (zk_pi (c (10 + k) 0) (c (10 + k) 8) t)) 97 (zk_te (c 2) (nI a0) t n) 97 = _; rw [va_up_self]
  have F96 : z0.2.1 96 = fun _ => 0 := by rw [← ez]; unfold zk_ap0; show va_up (va_up d 96 (fun _ => 0)) 97 (fun _ => 0) 96 = _; rw [va_up_ne _ _ (by decide), va_up_self]
  have Gr : ∀ r, r ≠ 4 → r ≠ 6 → z0.2.2 r = g r := fun r h1 h2 => by rw [← ez]; unfold zk_ap0; show zu (zu g 6 0 1) 4 97 _ r = g r; rw [zu_ne _ _ _ h1, zu_ne _ _ _ h2]
  have G6 : z0.2.2 6 0 = 1 := by rw [← ez]; unfold zk_ap0; show zu (zu g 6 0 1) 4 97 (6 + n) 6 0 = 1; rw [zu_ne _ _ _ (by decide), zu_at, va_up_self]
  have G97 : z0.2.2 4 97 = 6 + n := by rw [← ez]; unfold zk_ap0; show zu (zu g 6 0 1) 4 97 (6 + n) 4 97 = 6 + n; rw [zu_at, va_up_self]
  clear ez
  have hg0 : z0.2.2 0 k ≠ 0 := by rw [Gr 0 (by decide) (by decide)]; exact hg
  have hro0 : z0.1 (10 + k) 1 = nI 0 → W ≤ (16 - u 1 k) + 13 * (u 2 k - u 0 k) := fun e => hro (by rw [E1 _ (by omega) (by omega)] at e; exact e)
  have hW := fun w hw => zs_wn (c := z0.1) (d := z0.2.1) (g := z0.2.2) hz0 hk hg0 hs1 hs2 (show W ≤ 17 by omega) (h6 k) hro0 w hw
  have hoks : ∀ w, w < W → zk_ok k (zk_wn k w z0) ∧ zo_ok k (zo_rwn k s w (m, q)) := fun w hw => by
    obtain ⟨u1, of1, o, r1, r2, r3, r4⟩ := hW w (by omega)
    refine zs_oks (c := (zk_wn k w z0).1) (d := (zk_wn k w z0).2.1) (g := (zk_wn k w z0).2.2) (m := (zo_rwn k s w (m, q)).1) (q := (zo_rwn k s w (m, q)).2) r1 hk ?_ ?_ ?_ ?_
    · rw [show (zk_wn k w z0).2.2 0 = z0.2.2 0 from r3.2.2.2.2.2.1 0 (by decide)]
      exact hg0
    · rw [r3.2.2.2.2.2.2.1 6 (by decide) (by decide)]
      exact h6 k
    · rw [show (zk_wn k w z0).2.2 6 = z0.2.2 6 from r3.2.2.2.2.2.1 6 (by decide), G6]
      decide
    · intro e16 e1
      have := r4 (by rw [← r3.2.2.2.2.2.2.2.1]; exact e1)
      omega
  obtain ⟨u1, of1, o, r1, r2, r3, r4⟩ := hW W (Nat.le_refl _)
  clear hW
  have r1 : zs (zk_wn k W z0).1 (zk_wn k W z0).2.1 (zk_wn k W z0).2.2 (zo_rwn k s W (m, q)).1 (zo_rwn k s W (m, q)).2 u1 sl of1 tu au := r1
  have r2 : zs_w (zk_wn k W z0).1 (zk_wn k W z0).2.2 (zo_rwn k s W (m, q)).1 u1 of1 k s W o := r2
  have r3 : zs_kp k s z0.1 z0.2.1 z0.2.2 m u (zk_wn k W z0).1 (zk_wn k W z0).2.1 (zk_wn k W z0).2.2 (zo_rwn k s W (m, q)).1 u1 := r3
  generalize eZ : zk_wn k W z0 = Z at r1 r2 r3 ⊢
  generalize eM : zo_rwn k s W (m, q) = M at r1 r2 r3 ⊢
  obtain ⟨k1, k2, k3, k4, k5, k6, k7, k8, k9⟩ := r3
  have hgZ : Z.2.2 0 k ≠ 0 := by rw [k6 0 (by decide)]; exact hg0
  have hg2Z : Z.2.2 2 k = g 2 k := by rw [k6 2 (by decide), Gr 2 (by decide) (by decide)]
  have hbZ := (r1.2.1 k hk).2 hgZ
  have e2 : Z.1 96 2 = nI (Z.2.2 2 k) := by
    rw [k3 2 (by decide), E96, hg2Z]
    show c (10 + k) 8 = nI (g 2 k)
    exact hb.2.2.2.2.2.2.1
  have hap := zs_apd (c := Z.1) (d := Z.2.1) (g := Z.2.2) (m := M.1) (q := M.2) (n := n) (a0 := a0) (t := t) r1 (by rw [k7 5 (by decide) (by decide)]; exact ht) hk hgZ hs1 (show 2 ≤ W by omega) r2 ha hn (by
      rw [k3 0 (by decide), E96]
      exact hb.2.1) e2 (by rw [k3 3 (by decide), E96]; rfl) (by rw [k3 5 (by decide), E96]; rfl) (by rw [k3 6 (by decide), E96]; rfl) (by rw [k4, F96]) (by rw [k2, k1, E97, E1 2 (by decide) (by decide)]) (by rw [k6 4 (by decide)]; exact G97)
  have hap : zs (zk_ap1 k t Z).1 (zk_ap1 k t Z).2.1 (zk_ap1 k t Z).2.2 (zo_rcJ M.1 k s (nI k) (nI a0) t (nI n)) (zo_dtQ M.2 (M.1 34) s n) (zu u1 5 3 (u1 5 3 + 1)) (zu sl k (Z.2.2 2 k) s) (zu of1 k (Z.2.2 2 k) o) (zu tu k (Z.2.2 2 k) 0) (zu au k (Z.2.2 2 k) 0) := hap
  have T0 : (zk_ap1 k t Z).2.2 0 = Z.2.2 0 := by
    show zk_adg Z.2.2 k 0 = _
    unfold zk_adg
    rw [zu_ne _ _ _ (by decide), zu_ne _ _ _ (by decide), zu_ne _ _ _ (by decide)]
  have T1 : (zk_ap1 k t Z).2.2 1 = Z.2.2 1 := by
    show zk_adg Z.2.2 k 1 = _
    unfold zk_adg
    rw [zu_ne _ _ _ (by decide), zu_ne _ _ _ (by decide), zu_ne _ _ _ (by decide)]
  have T2 : (zk_ap1 k t Z).2.2 2 k = Z.2.2 2 k + 1 := by
    show zk_adg Z.2.2 k 2 k = _
    unfold zk_adg
    rw [zu_ne _ _ _ (by decide), zu_ne _ _ _ (by decide), zu_at, va_up_self]
  have T6 : (zk_ap1 k t Z).2.2 6 0 = 0 := by
    show zk_adg Z.2.2 k 6 0 = _
    unfold zk_adg
    rw [zu_at, va_up_self]
  have hgT : (zk_ap1 k t Z).2.2 0 k ≠ 0 := by rw [T0]; exact hgZ
  have hpg := zs_pgs hap hk hgT
  rw [show zu u1 5 3 (u1 5 3 + 1) 0 k = u1 0 k by rw [zu_ne _ _ _ (by decide)]] at hpg
  obtain ⟨u2, of2, f1, f2⟩ := zs_prn hap hk hgT
  rw [show zu u1 5 3 (u1 5 3 + 1) 0 k = u1 0 k by rw [zu_ne _ _ _ (by decide)]] at f1
  have hrec : zo_rec m q k s (nI a0) t n = (zo_rcJ M.1 k s (nI k) (nI a0) t (nI n), zo_dtQ M.2 (M.1 34) s n) := by
    unfold zo_rec
    rw [← eW, eM]
  have hgP : (zk_prn k (u1 0 k) (zk_ap1 k t Z)).2.2 0 k ≠ 0 := by rw [zk_prn_g (by decide)]; exact hgT
  have h10 := ((f1.2.1 k hk).2 hgP).2.2.2.2.2.2.2.1
  refine ⟨s, u1 0 k, (zk_ap1 k t Z).1, (zk_ap1 k t Z).2.1, (zk_ap1 k t Z).2.2, u2, zu sl k (Z.2.2 2 k) s, of2, zu tu k (Z.2.2 2 k) 0, zu au k (Z.2.2 2 k) 0, ⟨hs1, hs2, hs3⟩, hoks, ⟨hgZ, hbZ.2.2.2.2.2.2.2.2.2.2.2.2.2.1.2.2.2.2.2.2, ?_, fun p hp => ?_, hbZ.2.2.2.2.2.2.1, ?_⟩, rfl, ⟨hgT, ?_, hpg.1⟩, ?_, ?_, ?_, ?_, ?_, ?_⟩
  · rw [k6 6 (by decide), G6]
    decide
  · by_cases e : Z.2.2 3 p = 0
    · omega
    · exact ((r1.2.2.2.2.1.1 p hp).2 e).1
  · have := r1.2.2.2.2.2.2.2.2.2.2.2.2.1 k hk hgZ
    have := r1.2.2.2.2.2.2.2.2.2.2.2.2.2.1
    omega
  · rw [T1, T2]
    have := hbZ.2.2.2.2.2.2.2.2.2.2.2.2.2.1.2.2.2.2.2.2
    omega
  · rw [eM]
    exact (zs_pgs r1 hk hgZ).2
  · rw [hrec]
    exact f1
  · intro j
    rw [f2 6 (by decide), zu_ne _ _ _ (by decide), k7 6 (by decide) (by decide)]
    exact h6 j
  · rw [f2 5 (by decide), zu_at, va_up_self, k7 5 (by decide) (by decide)]
  · show (zk_prn k (u1 0 k) (zk_ap1 k t Z)).2.2 6 0 = 0
    rw [zk_prn_g (by decide)]
    exact T6
  · rw [hrec, h10, e2]
    show nI (Z.2.2 2 k) = nI ((zk_prn k (u1 0 k) (zk_ap1 k t Z)).2.2 2 k) - nI 1
    rw [zk_prn_g (by decide), T2, pk_sub (by omega)]
    rfl
end ZSY
