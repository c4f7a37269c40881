theorem zk_pf_sp {c : Nat → Nat → Int32} {k b pg : Nat} : ∀ r, r ≤ b → (∀ i, i < zk_pf c k b pg r → c (zk_p k (b - r + i)) 4 = nI pg) ∧ (zk_pf c k b pg r < r → ¬ c (zk_p k (b - r + zk_pf c k b pg r)) 4 = nI pg)
  | 0, _ => ⟨fun i hi => absurd hi (Nat.not_lt_zero _), fun h => absurd h (Nat.not_lt_zero _)⟩
  | r + 1, hr => by
    have ih := zk_pf_sp (c := c) (k := k) (b := b) (pg := pg) r (by omega)
    rw [zk_pf]
    by_cases h1 : c (zk_p k (b - (r + 1))) 4 = nI pg
    · rw [if_pos h1]
      refine ⟨fun i hi => ?_, fun hlt => ?_⟩
      · by_cases e : i = 0
        · rw [e, Nat.add_zero]
          exact h1
        · have := ih.1 (i - 1) (by omega)
          rw [show b - r + (i - 1) = b - (r + 1) + i by omega] at this
          exact this
      · have := ih.2 (by omega)
        rw [show b - r + zk_pf c k b pg r = b - (r + 1) + (zk_pf c k b pg r + 1) by omega] at this
        exact this
    · rw [if_neg h1]
      exact ⟨fun i hi => absurd hi (Nat.not_lt_zero _), fun _ => by rw [Nat.add_zero]; exact h1⟩
theorem zb_wr_ne {L : Nat → Nat → Int64} {F p w r : Nat} (h : r ≠ F) : zb_wr F p w L r = L r := by
  unfold zb_wr
  rw [zu_ne _ _ _ h, zu_ne _ _ _ h]
theorem zb_wr_at {L L1 : Nat → Nat → Int64} {F G p w : Nat} (h : L F = L1 G) : zb_wr F p w L F = zb_wr G p w L1 G := by
  unfold zb_wr
  rw [zu_at, zu_at, zu_at, zu_at, h]
theorem zb_wr_f2 {L : Nat → Nat → Int64} {F p w : Nat} (h : ∀ j, j < 768 → zq_f2 (L F j)) : ∀ j, j < 768 → zq_f2 (zb_wr F p w L F j) := by
  intro j hj
  unfold zb_wr
  rw [zu_if, zu_if]
  split
  · exact Or.inl rfl
  · split
    · exact Or.inl rfl
    · exact h j hj
theorem zb_wrs_ne {L : Nat → Nat → Int64} {F p r : Nat} (h : r ≠ F) : ∀ n, zb_wrs F p L n r = L r
  | 0 => rfl
  | n + 1 => by rw [zb_wrs, zb_wr_ne h, zb_wrs_ne h n]
theorem zb_wrs_at {L L1 : Nat → Nat → Int64} {F G p : Nat} (h : L F = L1 G) : ∀ n, zb_wrs F p L n F = zb_wrs G p L1 n G
  | 0 => h
  | n + 1 => zb_wr_at (zb_wrs_at h n)
theorem zb_wrs_f2 {L : Nat → Nat → Int64} {F p : Nat} (h : ∀ j, j < 768 → zq_f2 (L F j)) : ∀ n, ∀ j, j < 768 → zq_f2 (zb_wrs F p L n F j)
  | 0 => h
  | n + 1 => zb_wr_f2 (zb_wrs_f2 h n)
section ZFR
variable {m : Nat → Nat → Int32} {k cl pg : Nat}
theorem zo_frI_r {r : Nat} (h2 : r ≠ 12) (h4 : r ≠ 14) (h5 : r ≠ 15) (h6 : r ≠ 16) : zo_frI m k cl pg r = m r := by
  unfold zo_frI
  rw [va_up_ne _ _ h6, zu_ne _ _ _ h5, va_up_ne _ _ h4, zu_ne _ _ _ h2]
theorem zo_frI_12j {j : Nat} (h : j ≠ k) : zo_frI m k cl pg 12 j = m 12 j := by
  unfold zo_frI
  rw [va_up_ne _ _ (by decide), zu_ne _ _ _ (by decide), va_up_ne _ _ (by decide), zu_k _ _ _ _ h]
theorem zo_frI_15f : zo_frI m k cl pg 15 = va_up (m 15) pg (nI 0) := by
  unfold zo_frI
  rw [va_up_ne _ _ (by decide), zu_at, va_up_ne _ _ (by decide), zu_ne _ _ _ (by decide)]
theorem zo_frI_16 {s : Nat} (hs : s < 280) : zo_frI m k cl pg 16 s = if m 16 s = nI k then (if m 21 s = nI pg then (-1) else m 16 s) else m 16 s := by
  unfold zo_frI
  rw [va_up_self, zo_map_lt _ _ hs]
  rfl
end ZFR
theorem zk_ffc_1 {c : Nat → Nat → Int32} {k cl pg : Nat} : zk_ffc c k cl pg 1 = va_up (c 1) pg (nI 0) := by
  unfold zk_ffc
  rw [va_up_ne _ _ (by omega), zu_ne _ _ _ (by omega), zu_at]
theorem zk_ffc_r {c : Nat → Nat → Int32} {k cl pg r : Nat} (h1 : r ≠ 1) (h2 : r ≠ 10 + k) (h3 : r ≠ 20 + k) : zk_ffc c k cl pg r = c r := by
  unfold zk_ffc
  rw [va_up_ne _ _ h3, zu_ne _ _ _ h2, zu_ne _ _ _ h1]
def zs_of (of : Nat → Nat → Nat) (k : Nat) : Nat → Nat → Nat := fun j x => if j = k then of j x - 13 else of j x
section ZSE
variable {c : Nat → Nat → Int32} {d : Nat → Nat → Int64} {g : Nat → Nat → Nat} {m : Nat → Nat → Int32} {q : Nat → Nat → Int64} {u sl of tu au : Nat → Nat → Nat}
theorem zs_mono (h : zs c d g m q u sl of tu au) {k : Nat} : ∀ n {x : Nat}, zs_l g k x → zs_l g k (x + n) → of k x + 2 * n ≤ of k (x + n)
  | 0, _, _, _ => Nat.le_refl _
  | n + 1, x, hx, hy => by
    have hz : zs_l g k (x + n) := ⟨hx.1, hx.2.1, by have := hx.2.2.1; omega, by have := hy.2.2.2; omega⟩
    have ih := zs_mono h n hx hz
    have h1 := (h.2.2.2.1.1 k (x + n) hz).2.2.2.2.2 (by have := hy.2.2.2; omega)
    rw [show x + n + 1 = x + (n + 1) by omega] at h1
    omega
theorem zs_pgs (h : zs c d g m q u sl of tu au) {k : Nat} (hk : k < 4) (hg : g 0 k ≠ 0) : zk_pgs c k (u 0 k) ∧ zo_pgs m k (u 0 k) := by
  have hs := (h.2.1 k hk).2 hg
  have hb := hs.2.2.2.2.2.2.2.2.2.2.2.2.2.1
  refine ⟨⟨hs.2.2.2.2.2.2.2.2.2.1, by omega, fun i hi => ?_⟩, ⟨hs.2.2.2.2.2.2.2.2.2.2.1, by omega, fun i hi => ?_⟩⟩
  · obtain ⟨e, pg, h1, h2, h3⟩ := hs.2.2.2.2.2.2.2.2.2.2.2.2.2.2 i hi
    exact ⟨pg, h1, h2⟩
  · obtain ⟨e, pg, h1, h2, h3⟩ := hs.2.2.2.2.2.2.2.2.2.2.2.2.2.2 i hi
    exact ⟨pg, h1, by rw [e]; exact h2⟩
theorem zs_pg (h : zs c d g m q u sl of tu au) {k : Nat} (hk : k < 4) (hg : g 0 k ≠ 0) (h1 : 1 ≤ u 0 k) : zk_pg c k = zo_pg m k := by
  have hs := (h.2.1 k hk).2 hg
  have e := (hs.2.2.2.2.2.2.2.2.2.2.2.2.2.2 0 (by omega)).1
  rw [Nat.add_zero] at e
  unfold zk_pg zo_pg
  rw [e]
/-- which packets begin on the first page -/
theorem zs_first (h : zs c d g m q u sl of tu au) {k x pg : Nat} (hx : zs_l g k x) (h1 : 1 ≤ u 0 k) (hpg : c (20 + k) 0 = nI pg) : c (zk_p k x) 4 = nI pg ↔ of k x < 13 := by
  have ho := (h.2.2.2.1.1 k x hx).2.2
  rw [ho.2.1]
  constructor
  · intro e
    have := (h.2.2.1.1 k k _ 0 hx.1 hx.1 hx.2.1 hx.2.1 ho.1 (by omega) (e.trans hpg.symm)).2
    omega
  · intro e
    rw [show of k x / 13 = 0 by omega]
    exact hpg
theorem zs_pfx (h : zs c d g m q u sl of tu au) {k x pg : Nat} (hx : zs_l g k x) (h1 : 1 ≤ u 0 k) (hpg : c (20 + k) 0 = nI pg) : x < g 1 k + zk_pf c k (g 2 k) pg (g 2 k - g 1 k) ↔ of k x < 13 := by
  have hsp := zk_pf_sp (c := c) (k := k) (b := g 2 k) (pg := pg) (g 2 k - g 1 k) (by omega)
  have hb : g 2 k - (g 2 k - g 1 k) = g 1 k := by have := hx.2.2.1; have := hx.2.2.2; omega
  rw [hb] at hsp
  have a1 := hx.2.2.1
  have a2 := hx.2.2.2
  constructor
  · intro hlt
    have := hsp.1 (x - g 1 k) (by omega)
    rw [show g 1 k + (x - g 1 k) = x by omega] at this
    exact (zs_first h hx h1 hpg).mp this
  · intro hlt
    refine Decidable.byContradiction fun hge => ?_
    have hy : zs_l g k (g 1 k + zk_pf c k (g 2 k) pg (g 2 k - g 1 k)) := ⟨hx.1, hx.2.1, by omega, by omega⟩
    have hn := hsp.2 (by omega)
    have hm := zs_mono h (x - (g 1 k + zk_pf c k (g 2 k) pg (g 2 k - g 1 k))) hy (by rw [show g 1 k + zk_pf c k (g 2 k) pg (g 2 k - g 1 k) + (x - (g 1 k + zk_pf c k (g 2 k) pg (g 2 k - g 1 k))) = x by omega]; exact hx)
    rw [show g 1 k + zk_pf c k (g 2 k) pg (g 2 k - g 1 k) + (x - (g 1 k + zk_pf c k (g 2 k) pg (g 2 k - g 1 k))) = x by omega] at hm
    exact hn ((zs_first h hy h1 hpg).mpr (by omega))
/-- the first page of store k's chain goes -/
theorem zs_ff (h : zs c d g m q u sl of tu au) {k : Nat} (hk : k < 4) (hg : g 0 k ≠ 0) (h1 : 1 ≤ u 0 k) (hz : u 6 k = 0 → u 0 k = 1 → u 1 k = 16) : zs (zk_ff k (u 0 k) (c, d, g)).1 (zk_ff k (u 0 k) (c, d, g)).2.1 (zk_ff k (u 0 k) (c, d, g)).2.2 (zo_fr k (u 0 k) (m, q)).1 (zo_fr k (u 0 k) (m, q)).2 (zu u 0 k (u 0 k - 1)) sl (zs_of of k) tu au := by
  have h0 := h
  have hpp := zk_pgs_0 (zs_pgs h hk hg).1 h1
  have epg := zs_pg h hk hg h1
  have hfx := fun {x} (hx : zs_l g k x) => zs_pfx h hx h1 hpp.1
  have hff := fun {x} (hx : zs_l g k x) => zs_first h hx h1 hpp.1
  show zs (zk_ffc c k (u 0 k) (zk_pg c k)) (zb_wr 3 (zk_pg c k) 0 d) (zk_ffg c g k (zk_pg c k)) (zo_frI m k (u 0 k) (zo_pg m k)) (zb_wr 0 (zo_pg m k) 0 q) (zu u 0 k (u 0 k - 1)) sl (zs_of of k) tu au
  rw [← epg]
  generalize zk_pg c k = pg at hpp hfx hff
  obtain ⟨hpg, hp40⟩ := hpp
  obtain ⟨hA, hB, hG, hP, hL, hF, hN⟩ := h
  have hsk := (hB k hk).2 hg
  have hbd := hsk.2.2.2.2.2.2.2.2.2.2.2.2.2.1
  have hpf := zk_pf_le c k (g 2 k) pg (g 2 k - g 1 k)
  have Gr : ∀ r, r ≠ 1 → zk_ffg c g k pg r = g r := fun r hr => zk_ffg_0 hr
  have G1k : zk_ffg c g k pg 1 k = g 1 k + zk_pf c k (g 2 k) pg (g 2 k - g 1 k) := zu_self _ _ _ _
  have G1j : ∀ j, j ≠ k → zk_ffg c g k pg 1 j = g 1 j := fun j hj => zu_k _ _ _ _ hj
  have Ur : ∀ r, r ≠ 0 → zu u 0 k (u 0 k - 1) r = u r := fun r hr => zu_ne _ _ _ hr
  have U0 : zu u 0 k (u 0 k - 1) 0 k = u 0 k - 1 := zu_self _ _ _ _
  have Uj : ∀ j, j ≠ k → zu u 0 k (u 0 k - 1) 0 j = u 0 j := fun j hj => zu_k _ _ _ _ hj
  have C20 : ∀ i, i < u 0 k - 1 → zk_ffc c k (u 0 k) pg (20 + k) i = c (20 + k) (i + 1) := fun i hi => by rw [zk_ffc_20, pk_cpy_in (by omega) (by omega), show 1 + (i - 0) = i + 1 by omega]
  have C20j : ∀ j, j < 4 → j ≠ k → zk_ffc c k (u 0 k) pg (20 + j) = c (20 + j) := fun j hj e => zk_ffc_r (by omega) (by omega) (by omega)
  have C10j : ∀ j, j < 4 → j ≠ k → zk_ffc c k (u 0 k) pg (10 + j) = c (10 + j) := fun j hj e => zk_ffc_r (by omega) (by omega) (by omega)
  have Cp : ∀ j x, j < 4 → zk_ffc c k (u 0 k) pg (zk_p j x) = c (zk_p j x) ∧ zk_ffc c k (u 0 k) pg (zk_p j x + 1) = c (zk_p j x + 1) := fun j x hj => ⟨zk_ffc_p (by unfold zk_p; omega) hk, zk_ffc_p (by unfold zk_p; omega) hk⟩
  have Mr : ∀ r, r ≠ 12 → r ≠ 14 → r ≠ 15 → r ≠ 16 → zo_frI m k (u 0 k) pg r = m r := fun r a b c d => zo_frI_r a b c d
  have lv : ∀ {j x}, zs_l (zk_ffg c g k pg) j x ↔ zs_l g j x ∧ (j = k → 13 ≤ of j x) := fun {j x} => by
    unfold zs_l
    rw [Gr 0 (by decide), Gr 2 (by decide)]
    by_cases e : j = k
    · subst e
      rw [G1k]
      constructor
      · rintro ⟨a1, a2, a3, a4⟩
        have hx : zs_l g j x := ⟨a1, a2, by omega, a4⟩
        refine ⟨hx, fun _ => Nat.not_lt.mp fun z => ?_⟩
        have := (hfx hx).mpr z
        omega
      · rintro ⟨hx, a5⟩
        have := a5 rfl
        refine ⟨hx.1, hx.2.1, Nat.not_lt.mp fun z => ?_, hx.2.2.2⟩
        have := (hfx hx).mp z
        omega
    · rw [G1j j e]
      exact ⟨fun z => ⟨z, fun w => absurd w e⟩, fun z => z.1⟩
  have used : ∀ j i pg1, j < 4 → g 0 j ≠ 0 → i < u 0 j → c (20 + j) i = nI pg1 → ¬ (j = k ∧ i = 0) → pg1 < 40 → pg1 ≠ pg := fun j i pg1 hj gj hi e hne hp e2 => hne (by
    rw [e2] at e
    exact hG.1 j k i 0 hj hk gj hg hi (by omega) (e.trans hpg.symm))
  refine ⟨?_, ?_, ?_, ?_, ?_, ?_, ?_⟩
  · obtain ⟨a1, a2, a3, a4, a5, a6, a7, a8⟩ := hA
    refine ⟨?_, zb_wr_at a2, zb_wr_f2 a3, ?_, ?_, ?_, ?_, ?_⟩
    · rw [zk_ffc_r (r := 0) (by decide) (by omega) (by omega), Mr 40 (by decide) (by decide) (by decide) (by decide)]
      exact a1
    · rw [zk_ffc_r (r := 0) (by decide) (by omega) (by omega), Mr 40 (by decide) (by decide) (by decide) (by decide)]
      exact a4
    · rw [Mr 40 (by decide) (by decide) (by decide) (by decide)]
      exact a5
    · rw [zk_ffc_r (r := 0) (by decide) (by omega) (by omega), Mr 40 (by decide) (by decide) (by decide) (by decide)]
      exact a6
    · rw [zk_ffc_r (r := 0) (by decide) (by omega) (by omega), Mr 40 (by decide) (by decide) (by decide) (by decide)]
      exact a7
    · rw [zk_ffc_1, zo_frI_15f, a8]
  · intro j hj
    rw [Gr 0 (by decide), Mr 7 (by decide) (by decide) (by decide) (by decide)]
    refine ⟨(hB j hj).1, fun gj => ?_⟩
    by_cases e : j = k
    · subst e
      obtain ⟨b1, b2, b3, b4, b5, b6, b7, b8, b9, b10, b11, b12, b13, b14, b15⟩ := hsk
      unfold zs_k
      rw [zk_ffc_7, zk_ffc_10 (by decide), zk_ffc_10 (by decide), zk_ffc_10 (by decide), zk_ffc_10 (by decide), zk_ffc_10 (by decide), zk_ffc_10 (by decide), Mr 7 (by decide) (by decide) (by decide) (by decide), Mr 8 (by decide) (by decide) (by decide) (by decide), Mr 9 (by decide) (by decide) (by decide) (by decide), Mr 10 (by decide) (by decide) (by decide) (by decide), Mr 11 (by decide) (by decide) (by decide) (by decide), Mr 13 (by decide) (by decide) (by decide) (by decide), zo_frI_12, U0, Ur 1 (by decide), Ur 2 (by decide), Ur 6 (by decide), G1k, Gr 2 (by decide)]
      refine ⟨b1, b2, b3, b4, b5, b6, b7, b8, b9, rfl, rfl, b12, b13, ⟨b14.1, b14.2.1, by omega, b14.2.2.2.1, b14.2.2.2.2.1, fun z1 z2 => hz z1 (by omega), by omega⟩, fun i hi => ?_⟩
      obtain ⟨e1, pg1, e2, e3, e4⟩ := b15 (i + 1) (by omega)
      rw [C20 i hi, zo_frI_14, zo_frI_15f]
      unfold zo_sh
      rw [if_pos (by omega)]
      exact ⟨e1, pg1, e2, e3, by rw [va_up_ne _ _ (used j (i + 1) pg1 hj hg (by omega) e3 (by omega) e2)]; exact e4⟩
    · obtain ⟨b1, b2, b3, b4, b5, b6, b7, b8, b9, b10, b11, b12, b13, b14, b15⟩ := (hB j hj).2 gj
      unfold zs_k
      rw [C10j j hj e, C20j j hj e, Mr 7 (by decide) (by decide) (by decide) (by decide), Mr 8 (by decide) (by decide) (by decide) (by decide), Mr 9 (by decide) (by decide) (by decide) (by decide), Mr 10 (by decide) (by decide) (by decide) (by decide), Mr 11 (by decide) (by decide) (by decide) (by decide), Mr 13 (by decide) (by decide) (by decide) (by decide), zo_frI_12j e, Uj j e, Ur 1 (by decide), Ur 2 (by decide), Ur 6 (by decide), G1j j e, Gr 2 (by decide)]
      refine ⟨b1, b2, b3, b4, b5, b6, b7, b8, b9, b10, b11, b12, b13, b14, fun i hi => ?_⟩
      obtain ⟨e1, pg1, e2, e3, e4⟩ := b15 i hi
      rw [zo_frI_14, zo_frI_15f]
      unfold zo_sh
      rw [if_neg (by have := b14.2.1; have := b14.2.2.1; omega)]
      exact ⟨e1, pg1, e2, e3, by rw [va_up_ne _ _ (used j i pg1 hj gj hi e3 (by omega) e2)]; exact e4⟩
  · have sh : ∀ j i, j < 4 → i < zu u 0 k (u 0 k - 1) 0 j → ∃ i0, i0 < u 0 j ∧ zk_ffc c k (u 0 k) pg (20 + j) i = c (20 + j) i0 ∧ i0 = (if j = k then i + 1 else i) := fun j i hj hi => by
      by_cases e : j = k
      · subst e
        rw [U0] at hi
        exact ⟨i + 1, by omega, C20 i hi, by rw [if_pos rfl]⟩
      · rw [Uj j e] at hi
        exact ⟨i, hi, by rw [C20j j hj e], by rw [if_neg e]⟩
    refine ⟨fun a b i n ha hb ga gb hi hn e => ?_, fun p1 hp1 e => ?_, ?_⟩
    · rw [Gr 0 (by decide)] at ga gb
      obtain ⟨i0, y1, y2, y3⟩ := sh a i ha hi
      obtain ⟨n0, w1, w2, w3⟩ := sh b n hb hn
      rw [y2, w2] at e
      obtain ⟨r1, r2⟩ := hG.1 a b i0 n0 ha hb ga gb y1 w1 e
      subst r1
      rw [y3, w3] at r2
      refine ⟨rfl, ?_⟩
      split at r2 <;> omega
    · rw [zo_frI_15f] at e
      have hne : p1 ≠ pg := fun z => e (by rw [z, va_up_self])
      rw [va_up_ne _ _ hne] at e
      obtain ⟨j, i, hj, gj, hi, ei⟩ := hG.2.1 p1 hp1 e
      by_cases ej : j = k
      · subst ej
        have hi0 : i ≠ 0 := fun z => hne ((nI_eq (by omega) (by omega)).mp (by rw [← ei, z]; exact hpg))
        exact ⟨j, i - 1, hj, by rw [Gr 0 (by decide)]; exact gj, by rw [U0]; omega, by rw [C20 (i - 1) (by omega), show i - 1 + 1 = i by omega]; exact ei⟩
      · exact ⟨j, i, hj, by rw [Gr 0 (by decide)]; exact gj, by rw [Uj j ej]; exact hi, by rw [C20j j hj ej]; exact ei⟩
    · rw [zs_qs_c (g := g) (u := u) (fun j _ => by rw [Gr 0 (by decide)]) (fun j => by rw [Ur 2 (by decide)]) 4 (Nat.le_refl _)]
      exact hG.2.2
  · obtain ⟨p1, p2, p3, p4, p5⟩ := hP
    refine ⟨fun j x hx => ?_, fun s hs e => ?_, fun s hs => by rw [Mr 20 (by decide) (by decide) (by decide) (by decide)]; exact p3 s hs, fun s hs => by rw [Mr 23 (by decide) (by decide) (by decide) (by decide)]; exact p4 s hs, fun i x j y hx hy => p5 i x j y (lv.mp hx).1 (lv.mp hy).1⟩
    · obtain ⟨hx2, hx3⟩ := lv.mp hx
      obtain ⟨a1, a2, a3⟩ := p1 j x hx2
      obtain ⟨b1, b2, b3, b4, b5, b6, b7, b8, b9, b10, b11, b12, b13, b14, b15, b16, b17⟩ := a1
      have hj := hx2.1
      refine ⟨?_, ?_, ?_⟩
      · unfold zs_p
        rw [(Cp j x hj).1, zb_wr_ne (by unfold zk_p; omega), zo_frI_16 b1, Mr 17 (by decide) (by decide) (by decide) (by decide), Mr 19 (by decide) (by decide) (by decide) (by decide), Mr 21 (by decide) (by decide) (by decide) (by decide), Mr 22 (by decide) (by decide) (by decide) (by decide), Mr 23 (by decide) (by decide) (by decide) (by decide), Mr 24 (by decide) (by decide) (by decide) (by decide), Ur 5 (by decide)]
        refine ⟨b1, ?_, b3, b4, b5, b6, b7, b8, b9, b10, b11, b12, b13, b14, b15, b16, b17⟩
        rw [b2]
        by_cases e : j = k
        · subst e
          rw [if_pos rfl, if_neg (by rw [b5]; exact fun z => by have := (hff hx2).mp z; have := hx3 rfl; omega)]
        · rw [if_neg (fun z => e ((nI_eq (by omega) (by omega)).mp z))]
      · unfold zs_te zo_tl
        rw [(Cp j x hj).2, Gr 4 (by decide), Mr 18 (by decide) (by decide) (by decide) (by decide), Mr 19 (by decide) (by decide) (by decide) (by decide), Mr 20 (by decide) (by decide) (by decide) (by decide), zb_wr_ne (by decide)]
        exact a2
      · unfold zs_o zs_of
        rw [(Cp j x hj).1, Ur 1 (by decide), Gr 2 (by decide)]
        obtain ⟨o1, o2, o3, o4⟩ := a3
        by_cases e : j = k
        · subst e
          have := hx3 rfl
          rw [if_pos rfl, if_pos rfl, U0, C20 _ (by omega)]
          exact ⟨by omega, by rw [o2]; congr 1; omega, by omega, fun z => by have := o4 z; omega⟩
        · rw [if_neg e, if_neg e, Uj j e, C20j j hj e]
          exact ⟨o1, o2, o3, o4⟩
    · rw [zo_frI_16 hs] at e
      by_cases e16 : m 16 s = nI k
      · rw [if_pos e16] at e
        by_cases e21 : m 21 s = nI pg
        · rw [if_pos e21] at e
          exact absurd (by decide) e
        · obtain ⟨x, hx, rfl⟩ := zs_at h0 hs hk e16
          refine ⟨k, x, lv.mpr ⟨hx, fun _ => Nat.not_lt.mp fun z => e21 ?_⟩, rfl⟩
          rw [(p1 k x hx).1.2.2.2.2.1]
          exact (hff hx).mpr z
      · rw [if_neg e16] at e
        obtain ⟨j, x, hx, rfl⟩ := p2 s hs e
        have hjk : j ≠ k := fun z => e16 (by rw [← z]; exact (p1 j x hx).1.2.1)
        exact ⟨j, x, lv.mpr ⟨hx, fun z => absurd z hjk⟩, rfl⟩
  · exact zs_L_c hL (fun p hp => ⟨zk_ffc_r (by omega) (by omega) (by omega), zb_wr_ne (by omega)⟩) (fun _ _ => by rw [Gr 3 (by decide)]) (fun _ _ => by rw [Gr 0 (by decide)]) (fun r a b => Mr r (by omega) (by omega) (by omega) (by omega)) (fun _ => ⟨by rw [Ur 3 (by decide)], by rw [Ur 4 (by decide)]⟩) ⟨by rw [Ur 5 (by decide)]; exact Nat.le_refl _, by rw [Ur 5 (by decide)]; exact Nat.le_refl _⟩
  · exact zs_F_c hF (zk_ffc_r (by decide) (by omega) (by omega)) ⟨zk_ffc_r (by decide) (by omega) (by omega), zk_ffc_r (by decide) (by omega) (by omega)⟩ ⟨by rw [Gr 5 (by decide)], by rw [Gr 4 (by decide)]⟩ (Mr _ (by decide) (by decide) (by decide) (by decide)) (by rw [Mr 40 (by decide) (by decide) (by decide) (by decide)]) (Mr _ (by decide) (by decide) (by decide) (by decide))
  · obtain ⟨n1, n2, n3, n4, n5, n6, n7, n8, n9⟩ := hN
    unfold zs_N
    rw [zb_wr_ne (by decide), Mr 40 (by decide) (by decide) (by decide) (by decide), Ur 5 (by decide), Gr 0 (by decide), Gr 2 (by decide)]
    exact ⟨n1, n2, n3, n4, n5, n6, n7, n8, n9⟩
end ZSE
