section ZFB
variable {c : Nat → Nat → Int32} {d : Nat → Nat → Int64} {g : Nat → Nat → Nat} {p s y x : Nat}
theorem zk_fb_0 (h : g 3 p = 0) : zk_fb c d g (p + 1) = zk_fb c d g p := by rw [zk_fb, if_pos h]
theorem zk_fb_n (h : g 3 p ≠ 0) (e : zk_fb c d g p = none) : zk_fb c d g (p + 1) = (zk_nx c d p (g 3 p - 1) (g 1 (g 3 p - 1)) (g 2 (g 3 p - 1) - g 1 (g 3 p - 1))).map (fun x => (p, x)) := by rw [zk_fb, if_neg h, e]
theorem zk_fb_s1 (h : g 3 p ≠ 0) (e : zk_fb c d g p = some (s, y)) (hb : zk_gb (c (30 + p)) (c (30 + s)) (d (30 + p) 3) (d (30 + s) 3) = nI 0) : zk_fb c d g (p + 1) = some (s, y) := by
  rw [zk_fb, if_neg h, e]
  simp only
  rw [if_pos hb]
theorem zk_fb_s2 (h : g 3 p ≠ 0) (e : zk_fb c d g p = some (s, y)) (hn : zk_nx c d p (g 3 p - 1) (g 1 (g 3 p - 1)) (g 2 (g 3 p - 1) - g 1 (g 3 p - 1)) = none) : zk_fb c d g (p + 1) = some (s, y) := by
  rw [zk_fb, if_neg h, e]
  simp only
  split
  · rfl
  · rw [hn]
theorem zk_fb_s3 (h : g 3 p ≠ 0) (e : zk_fb c d g p = some (s, y)) (hb : ¬ zk_gb (c (30 + p)) (c (30 + s)) (d (30 + p) 3) (d (30 + s) 3) = nI 0) (hn : zk_nx c d p (g 3 p - 1) (g 1 (g 3 p - 1)) (g 2 (g 3 p - 1) - g 1 (g 3 p - 1)) = some x) : zk_fb c d g (p + 1) = some (p, x) := by
  rw [zk_fb, if_neg h, e]
  simp only
  rw [if_neg hb, hn]
end ZFB
theorem zy_b4 (x : Int32) : ∀ i, i < 4 → zk_b4 x i = zo_f4 x i := by
  intro i hi
  have hs : ∀ i, i < 4 → (((nI (8 * (3 - i))).toUInt32 &&& Int32.toUInt32 31).toBitVec % 32).toNat = 8 * (3 - i) ∧ (((nI (8 * (3 - i))) &&& 31).toBitVec.smod 32).toNat = 8 * (3 - i) := by decide +kernel
  unfold zk_b4 zo_f4
  apply Int32.toBitVec_inj.mp
  show (x.toBitVec >>> (((nI (8 * (3 - i))).toUInt32 &&& Int32.toUInt32 31).toBitVec % 32).toNat) &&& 255#32 = (x.toBitVec.sshiftRight (((nI (8 * (3 - i))) &&& 31).toBitVec.smod 32).toNat) &&& 255#32
  rw [(hs i hi).1, (hs i hi).2]
  apply BitVec.eq_of_getLsbD_eq
  intro j hj
  rw [BitVec.getLsbD_and, BitVec.getLsbD_and, zy_255 j hj]
  by_cases h8 : j < 8
  · rw [BitVec.getLsbD_sshiftRight, BitVec.getLsbD_ushiftRight, if_pos (show 8 * (3 - i) + j < 32 by omega)]
    simp [h8]
    omega
  · simp [h8]
section ZSG
variable {c : Nat → Nat → Int32} {d : Nat → Nat → Int64} {g : Nat → Nat → Nat} {m : Nat → Nat → Int32} {q : Nat → Nat → Int64} {u sl of tu au : Nat → Nat → Nat}
theorem zs_best (h : zs c d g m q u sl of tu au) : ∀ n, n ≤ 4 → (zk_fb c d g n = none ∧ zo_bs m n = (-1)) ∨ ∃ s y, s < n ∧ g 3 s ≠ 0 ∧ zs_l g (g 3 s - 1) y ∧ zk_fb c d g n = some (s, y) ∧ zo_bs m n = nI s ∧ zo_cho m s = nI (sl (g 3 s - 1) y)
  | 0, _ => Or.inl ⟨rfl, rfl⟩
  | n + 1, hn => by
    have ih := zs_best h n (by omega)
    have up : (∃ s y, s < n ∧ g 3 s ≠ 0 ∧ zs_l g (g 3 s - 1) y ∧ zk_fb c d g n = some (s, y) ∧ zo_bs m n = nI s ∧ zo_cho m s = nI (sl (g 3 s - 1) y)) → zk_fb c d g (n + 1) = zk_fb c d g n → zo_bs m (n + 1) = zo_bs m n → ∃ s y, s < n + 1 ∧ g 3 s ≠ 0 ∧ zs_l g (g 3 s - 1) y ∧ zk_fb c d g (n + 1) = some (s, y) ∧ zo_bs m (n + 1) = nI s ∧ zo_cho m s = nI (sl (g 3 s - 1) y) := fun ⟨s, y, a1, a2, a3, a4, a5, a6⟩ e1 e2 => ⟨s, y, by omega, a2, a3, by rw [e1]; exact a4, by rw [e2]; exact a5, a6⟩
    by_cases h0 : g 3 n = 0
    · have e2 : zo_bs m (n + 1) = zo_bs m n := by rw [zo_bs, if_pos ((zs_fp h n (by omega)).mpr h0)]
      rcases ih with ⟨a, b⟩ | ih
      · exact Or.inl ⟨by rw [zk_fb_0 h0]; exact a, by rw [e2]; exact b⟩
      · exact Or.inr (up ih (zk_fb_0 h0) e2)
    · obtain ⟨k, hgk⟩ : ∃ k, g 3 n = k + 1 := ⟨g 3 n - 1, by omega⟩
      have hk1 : g 3 n - 1 = k := by omega
      have h27 : ¬ m 27 n < nI 0 := fun z => h0 ((zs_fp h n (by omega)).mp z)
      rcases zs_cho h (by omega) hgk with ⟨c1, c2⟩ | ⟨y, hy, c1, c2⟩
      · have e2 : zo_bs m (n + 1) = zo_bs m n := by rw [zo_bs, if_neg h27, if_pos (by rw [c2]; decide)]
        rcases ih with ⟨a, b⟩ | ih
        · exact Or.inl ⟨by rw [zk_fb_n h0 a, hk1, c1]; rfl, by rw [e2]; exact b⟩
        · obtain ⟨s, y, a1, a2, a3, a4, a5, a6⟩ := ih
          exact Or.inr (up ⟨s, y, a1, a2, a3, a4, a5, a6⟩ (by rw [zk_fb_s2 h0 a4 (by rw [hk1]; exact c1), a4]) e2)
      · have hs := (h.2.2.2.1.1 k y hy).1.1
        have hch : ¬ zo_cho m n < nI 0 := by rw [c2]; exact nI_nlt (Nat.zero_le _) (by omega)
        have me : zk_fb c d g (n + 1) = some (n, y) → zo_bs m (n + 1) = nI n → ∃ s y, s < n + 1 ∧ g 3 s ≠ 0 ∧ zs_l g (g 3 s - 1) y ∧ zk_fb c d g (n + 1) = some (s, y) ∧ zo_bs m (n + 1) = nI s ∧ zo_cho m s = nI (sl (g 3 s - 1) y) := fun e1 e2 => ⟨n, y, Nat.lt_succ_self n, h0, by rw [hk1]; exact hy, e1, e2, by rw [hk1]; exact c2⟩
        rcases ih with ⟨a, b⟩ | ih
        · refine Or.inr (me (by rw [zk_fb_n h0 a, hk1, c1]; rfl) ?_)
          rw [zo_bs, if_neg h27, if_neg hch, b, if_pos (by decide)]
        · obtain ⟨s, z, a1, a2, a3, a4, a5, a6⟩ := ih
          have hLn := (h.2.2.2.2.1.1 n (by omega)).2 h0
          have hLs := (h.2.2.2.2.1.1 s (by omega)).2 a2
          have hb : ∀ i, i < 4 → g 3 i ≠ 0 → u 3 i ≤ 600 ∧ u 4 i ≤ 600 := fun i hi gi => by
            have hLi := (h.2.2.2.2.1.1 i hi).2 gi
            have hN := h.2.2.2.2.2.2
            have b1 := hLi.2.2.2.2.2.2.2.2.2.1
            have b2 := hLi.2.2.2.2.2.2.2.2.2.2
            have b3 := hN.2.2.2.1
            have b4 := hN.2.2.2.2.2.1
            have b5 := hN.2.2.2.2.2.2.2.1
            omega
          have bn := hb n (by omega) h0
          have bs := hb s (by omega) a2
          have hiso := h.2.2.2.2.1.2 n s (by omega) (by omega) h0 a2
          have hlg : (lg_cmp (d (30 + n) 3) (d (30 + s) 3) < nI 0) ↔ m 32 n < m 32 s := by
            rw [hLn.2.2.2.2.2.2.2.1, hLs.2.2.2.2.2.2.2.1, hLn.2.2.2.2.2.2.2.2.1, hLs.2.2.2.2.2.2.2.2.1, zl_lt (by omega) (by omega), hiso]
            constructor
            · intro z
              exact nI_lt z (by omega)
            · intro z
              exact Decidable.byContradiction fun w => nI_nlt (Nat.not_lt.mp w) (by omega) z
          have e5 : zo_bs m (n + 1) = if m 30 n < m 30 s then nI n else if m 30 n = m 30 s then (if m 32 n < m 32 s then nI n else nI s) else nI s := by
            rw [zo_bs, if_neg h27, if_neg hch, a5, if_neg (nI_nlt (Nat.zero_le _) (by omega)), nI_clamp (by omega)]
          have e6 : zk_gb (c (30 + n)) (c (30 + s)) (d (30 + n) 3) (d (30 + s) 3) = if m 30 n = m 30 s then (if m 32 n < m 32 s then nI 1 else nI 0) else (if m 30 n < m 30 s then nI 1 else nI 0) := by
            unfold zk_gb
            rw [hLn.2.2.2.2.2.1, hLs.2.2.2.2.2.1]
            split
            · by_cases z : m 32 n < m 32 s
              · rw [if_pos z, if_pos (hlg.mpr z)]
              · rw [if_neg z, if_neg (fun w => z (hlg.mp w))]
            · rfl
          by_cases q1 : m 30 n = m 30 s
          · have q0 : ¬ m 30 n < m 30 s := by rw [q1]; exact fun z => Int32.lt_irrefl z
            rw [if_pos q1] at e6
            rw [if_neg q0, if_pos q1] at e5
            by_cases q2 : m 32 n < m 32 s
            · rw [if_pos q2] at e5 e6
              exact Or.inr (me (zk_fb_s3 h0 a4 (by rw [e6]; decide) (by rw [hk1]; exact c1)) e5)
            · rw [if_neg q2] at e5 e6
              exact Or.inr ⟨s, z, by omega, a2, a3, zk_fb_s1 h0 a4 e6, e5, a6⟩
          · rw [if_neg q1] at e6
            rw [if_neg q1] at e5
            by_cases q2 : m 30 n < m 30 s
            · rw [if_pos q2] at e5 e6
              exact Or.inr (me (zk_fb_s3 h0 a4 (by rw [e6]; decide) (by rw [hk1]; exact c1)) e5)
            · rw [if_neg q2] at e5 e6
              exact Or.inr ⟨s, z, by omega, a2, a3, zk_fb_s1 h0 a4 e6, e5, a6⟩
/-- the state behind a frame -/
theorem zs_frm (h : zs c d g m q u sl of tu au) {p k y n : Nat} (hp : p < 4) (hgp : g 3 p = k + 1) (hy : zs_l g k y) (hn : n ≤ 60) (h4 : g 4 (zk_p k y + 1) = 6 + n) (h20 : m 20 (sl k y) = nI n) : zs (zk_fwc (zu c (30 + p) 5 (c (zk_p k y) 2)) k y) (zu d (zk_p k y) 7 0) (zk_fwg g k y) (zo_fmI m q p (sl k y) n) q u sl of (zu tu k y 0) (zu au k y 0) := by
  have h0 := h
  obtain ⟨hA, hB, hG, hP, hL, hF, hN⟩ := h
  obtain ⟨hpk, hte, hpo⟩ := hP.1 k y hy
  obtain ⟨n2, hn2, t1, t2, t3⟩ := hte
  have hnn : n2 = n := by omega
  subst hnn
  have hk := hy.1
  have Cr : ∀ r, r ≠ 30 + p → r ≠ 90 → r ≠ 91 → zk_fwc (zu c (30 + p) 5 (c (zk_p k y) 2)) k y r = c r := fun r h1 h2 h3 => by
    unfold zk_fwc
    rw [va_up_ne _ _ h3, va_up_ne _ _ h2, zu_ne _ _ _ h1]
  have C9 : zk_fwc (zu c (30 + p) 5 (c (zk_p k y) 2)) k y 90 = c (zk_p k y) ∧ zk_fwc (zu c (30 + p) 5 (c (zk_p k y) 2)) k y 91 = c (zk_p k y + 1) := by
    unfold zk_fwc
    rw [va_up_ne _ _ (by decide), va_up_self, va_up_self, zu_ne _ _ _ (by unfold zk_p; omega), zu_ne _ _ _ (by unfold zk_p; omega)]
    exact ⟨rfl, rfl⟩
  have Cp : ∀ s, zk_fwc (zu c (30 + p) 5 (c (zk_p k y) 2)) k y (30 + p) s = if s = 5 then c (zk_p k y) 2 else c (30 + p) s := fun s => by
    unfold zk_fwc
    rw [va_up_ne _ _ (by omega), va_up_ne _ _ (by omega), zu_if]
    by_cases e : s = 5
    · rw [if_pos ⟨rfl, e⟩, if_pos e]
    · rw [if_neg (fun z => e z.2), if_neg e]
  have Dr : ∀ r, r ≠ zk_p k y → zu d (zk_p k y) 7 0 r = d r := fun r hr => zu_ne _ _ _ hr
  have Gr : ∀ r, r ≠ 5 → r ≠ 4 → zk_fwg g k y r = g r := fun r h1 h2 => by unfold zk_fwg; rw [zu_ne _ _ _ h2, zu_ne _ _ _ h1]
  have G4 : ∀ r, r ≠ 91 → zk_fwg g k y 4 r = g 4 r := fun r hr => by unfold zk_fwg; rw [zu_k _ _ _ _ hr, zu_ne _ _ _ (by decide)]
  have G5 : zk_fwg g k y 5 0 = 1 ∧ zk_fwg g k y 4 91 = g 4 (zk_p k y + 1) := by unfold zk_fwg; exact ⟨by rw [zu_ne _ _ _ (by decide), zu_self], zu_self _ _ _ _⟩
  have F0r : ∀ r, r ≠ 24 → r ≠ 31 → r ≠ 36 → zo_fm0 m p (sl k y) r = m r := fun r h1 h2 h3 => by unfold zo_fm0; rw [zu_ne _ _ _ h3, zu_ne _ _ _ h2, zu_ne _ _ _ h1]
  have Mr : ∀ r, r ≠ 24 → r ≠ 31 → r ≠ 36 → r ≠ 40 → zo_fmI m q p (sl k y) n2 r = m r := fun r h1 h2 h3 h9 => by unfold zo_fmI; rw [zu_ne _ _ _ h9, va_up_ne _ _ h3, F0r r h1 h2 h3]
  have M4 : ∀ s, s ≠ 35 → zo_fmI m q p (sl k y) n2 40 s = m 40 s := fun s hs => by unfold zo_fmI; rw [zu_k _ _ _ _ hs, va_up_ne _ _ (by decide), F0r _ (by decide) (by decide) (by decide)]
  have M24 : ∀ s, zo_fmI m q p (sl k y) n2 24 s = if s = sl k y then nI 0 else m 24 s := fun s => by
    unfold zo_fmI zo_fm0
    rw [zu_ne _ _ _ (by decide), va_up_ne _ _ (by decide), zu_ne _ _ _ (by decide), zu_ne _ _ _ (by decide), zu_if]
    by_cases e : s = sl k y
    · rw [if_pos ⟨rfl, e⟩, if_pos e]
    · rw [if_neg (fun z => e z.2), if_neg e]
  have M31 : ∀ s, zo_fmI m q p (sl k y) n2 31 s = if s = p then m 17 (sl k y) else m 31 s := fun s => by
    unfold zo_fmI zo_fm0
    rw [zu_ne _ _ _ (by decide), va_up_ne _ _ (by decide), zu_ne _ _ _ (by decide), zu_if, zu_ne _ _ _ (by decide)]
    by_cases e : s = p
    · rw [if_pos ⟨rfl, e⟩, if_pos e]
    · rw [if_neg (fun z => e z.2), if_neg e]
  have hg3 : ∀ k1, k1 < 4 → zk_fwg g k y 0 k1 = g 0 k1 ∧ zk_fwg g k y 1 k1 = g 1 k1 ∧ zk_fwg g k y 2 k1 = g 2 k1 := fun k1 _ => ⟨by rw [Gr _ (by decide) (by decide)], by rw [Gr _ (by decide) (by decide)], by rw [Gr _ (by decide) (by decide)]⟩
  have hl : ∀ {k x}, zs_l (zk_fwg g k y) k x ↔ zs_l g k x := fun {k1 x} => by
    unfold zs_l
    have G0 : ∀ r, r ≠ 5 → r ≠ 4 → zk_fwg g k1 y r = g r := fun r h1 h2 => by unfold zk_fwg; rw [zu_ne _ _ _ h2, zu_ne _ _ _ h1]
    rw [G0 0 (by decide) (by decide), G0 1 (by decide) (by decide), G0 2 (by decide) (by decide)]
  have hl2 : ∀ {k1 x}, zs_l (zk_fwg g k y) k1 x ↔ zs_l g k1 x := fun {k1 x} => zs_l_c hg3
  refine ⟨zs_A_c hA (Cr _ (by omega) (by decide) (by decide)) (Cr _ (by omega) (by decide) (by decide)) (Dr _ (by unfold zk_p; omega)) (fun j h1 h2 => M4 j (by omega)) (Mr _ (by decide) (by decide) (by decide) (by decide)) rfl, zs_B_c hB (fun k1 hk1 => ⟨Cr _ (by omega) (by omega) (by omega), Cr _ (by omega) (by omega) (by omega)⟩) hg3 (fun r h1 h2 => Mr r (by omega) (by omega) (by omega) (by omega)) (fun _ => ⟨rfl, rfl, rfl⟩), zs_G_c hG (fun k1 hk1 => Cr _ (by omega) (by omega) (by omega)) (fun k1 hk1 => (hg3 k1 hk1).1) (Mr _ (by decide) (by decide) (by decide) (by decide)) (fun _ => ⟨rfl, rfl⟩), ?_, ?_, ?_, ?_⟩
  · obtain ⟨p1, p2, p3, p4, p5⟩ := hP
    refine ⟨fun j z hz => ?_, fun s hs e => ?_, fun s hs => by rw [Mr 20 (by decide) (by decide) (by decide) (by decide)]; exact p3 s hs, fun s hs => by rw [Mr 23 (by decide) (by decide) (by decide) (by decide)]; exact p4 s hs, fun i z j w hz hw => ?_⟩
    · have hz2 := hl2.mp hz
      obtain ⟨a1, a2, a3⟩ := p1 j z hz2
      obtain ⟨b1, b2, b3, b4, b5, b6, b7, b8, b9, b10, b11, b12, b13, b14, b15, b16, b17⟩ := a1
      have er : zk_fwc (zu c (30 + p) 5 (c (zk_p k y) 2)) k y (zk_p j z) = c (zk_p j z) := Cr _ (by unfold zk_p; omega) (by unfold zk_p; omega) (by unfold zk_p; omega)
      have er1 : zk_fwc (zu c (30 + p) 5 (c (zk_p k y) 2)) k y (zk_p j z + 1) = c (zk_p j z + 1) := Cr _ (by unfold zk_p; omega) (by unfold zk_p; omega) (by unfold zk_p; omega)
      refine ⟨?_, ?_, ?_⟩
      · unfold zs_p
        rw [er, Mr 16 (by decide) (by decide) (by decide) (by decide), Mr 17 (by decide) (by decide) (by decide) (by decide), Mr 19 (by decide) (by decide) (by decide) (by decide), Mr 21 (by decide) (by decide) (by decide) (by decide), Mr 22 (by decide) (by decide) (by decide) (by decide), Mr 23 (by decide) (by decide) (by decide) (by decide), M24]
        by_cases e : j = k ∧ z = y
        · obtain ⟨rfl, rfl⟩ := e
          rw [zu_self, zu_self, zu_self, if_pos rfl]
          exact ⟨b1, b2, b3, b4, b5, b6, b7, b8, b9, b10, b11, rfl, rfl, Iff.rfl, Nat.zero_le _, Nat.zero_le _, fun _ => rfl⟩
        · rw [Dr _ (fun w => e (by have := hz2.1; unfold zk_p at w; omega)), if_neg (fun w => e (zs_slj h0 hz2 hy w)), zu_if, zu_if, if_neg e, if_neg e]
          exact ⟨b1, b2, b3, b4, b5, b6, b7, b8, b9, b10, b11, b12, b13, b14, b15, b16, b17⟩
      · unfold zs_te zo_tl
        rw [er1, G4 _ (by unfold zk_p; omega), Mr 18 (by decide) (by decide) (by decide) (by decide), Mr 19 (by decide) (by decide) (by decide) (by decide), Mr 20 (by decide) (by decide) (by decide) (by decide)]
        exact a2
      · unfold zs_o
        rw [er, Cr (20 + j) (by have := hz2.1; omega) (by have := hz2.1; omega) (by have := hz2.1; omega), (hg3 j hz2.1).2.2]
        exact a3
    · rw [Mr 16 (by decide) (by decide) (by decide) (by decide)] at e
      obtain ⟨k1, x1, h1, h2⟩ := p2 s hs e
      exact ⟨k1, x1, hl2.mpr h1, h2⟩
    · have q5 := p5 i z j w (hl2.mp hz) (hl2.mp hw)
      have z1 := (p1 i z (hl2.mp hz)).1.2.2.2.2.2.2.2.2.2.2.2.2.2.1
      have z2 := (p1 j w (hl2.mp hw)).1.2.2.2.2.2.2.2.2.2.2.2.2.2.1
      rw [zu_if, zu_if, zu_if, zu_if]
      by_cases e1 : i = k ∧ z = y
      · rw [if_pos e1, if_pos e1]
        by_cases e2 : j = k ∧ w = y
        · rw [if_pos e2, if_pos e2]
          exact ⟨Iff.rfl, fun _ z => absurd rfl z⟩
        · rw [if_neg e2, if_neg e2]
          exact ⟨by omega, fun _ z => absurd rfl z⟩
      · rw [if_neg e1, if_neg e1]
        by_cases e2 : j = k ∧ w = y
        · rw [if_pos e2, if_pos e2]
          exact ⟨by omega, fun z1 z2 => absurd z1 z2⟩
        · rw [if_neg e2, if_neg e2]
          exact q5
  · refine ⟨fun i hi => ?_, fun i j hi hj gi gj => ?_⟩
    · rw [Gr 3 (by decide) (by decide), Gr 0 (by decide) (by decide), Mr 27 (by decide) (by decide) (by decide) (by decide), Mr 28 (by decide) (by decide) (by decide) (by decide), Mr 29 (by decide) (by decide) (by decide) (by decide), Mr 30 (by decide) (by decide) (by decide) (by decide), Mr 32 (by decide) (by decide) (by decide) (by decide), M31, Dr _ (by unfold zk_p; omega)]
      refine ⟨(hL.1 i hi).1, fun e => ?_⟩
      obtain ⟨a1, a2, a3, a4, a5, a6, a7, a8, a9, a10, a11⟩ := (hL.1 i hi).2 e
      by_cases ei : i = p
      · rw [ei, Cp, Cp, Cp, Cp, if_neg (by decide), if_neg (by decide), if_neg (by decide), if_pos rfl, if_pos rfl]
        rw [ei] at a1 a2 a3 a4 a5 a6 a7 a8 a9 a10 a11
        exact ⟨a1, a2, a3, a4, a5, a6, by rw [hpk.2.2.1, hpk.2.2.2.2.2.2.2.2.1], a8, a9, a10, a11⟩
      · rw [Cr (30 + i) (by omega) (by omega) (by omega), if_neg ei]
        exact ⟨a1, a2, a3, a4, a5, a6, a7, a8, a9, a10, a11⟩
    · rw [Gr 3 (by decide) (by decide)] at gi gj
      exact hL.2 i j hi hj gi gj
  · refine ⟨?_, ?_, Or.inr ⟨by rw [G5.1]; decide, n2, hn, by rw [G5.2]; exact h4, ?_, fun i hi => ?_⟩⟩
    · rw [Cr 2 (by omega) (by decide) (by decide), Mr 34 (by decide) (by decide) (by decide) (by decide)]
      exact hF.1
    · rw [Cr 2 (by omega) (by decide) (by decide)]
      exact hF.2.1
    · unfold zo_fmI
      rw [zu_self]
    · have e36 : zo_fmI m q p (sl k y) n2 36 i = zo_seg (zo_seg (zo_fm0 m p (sl k y) 36) 1 4 (zo_f4 (m 17 (sl k y)))) 5 (6 + n2) (zo_tl m q (sl k y)) i := by
        unfold zo_fmI
        rw [zu_ne _ _ _ (by decide), va_up_self]
      rw [C9.1, C9.2, e36]
      unfold zk_bf
      rw [if_neg (nI_nlt (Nat.zero_le _) (by omega))]
      by_cases i0 : i = 0
      · rw [i0, if_pos rfl, hpk.2.2.2.2.2.2.2.1]
        unfold zo_seg
        rw [if_neg (by omega), if_neg (by omega)]
        unfold zo_fm0
        rw [zu_self, hpk.2.1]
      · rw [if_neg (fun z => i0 ((nI_eq (by omega) (by omega)).mp z))]
        by_cases i5 : i < 5
        · rw [if_pos (nI_lt i5 (by decide)), nI_clamp (by omega), zy_b4 _ _ (by omega), hpk.2.2.2.2.2.2.2.2.1]
          unfold zo_seg
          rw [if_neg (by omega), if_pos (by omega), hpk.2.2.1]
        · rw [if_neg (nI_nlt (by omega) (by omega)), pk_sub (by omega)]
          unfold zk_bt
          rw [if_neg (nI_nlt (Nat.zero_le _) (by omega)), if_pos (nI_lt (by omega) (by omega)), nI_clamp (by omega)]
          unfold zo_seg
          rw [if_pos (by omega)]
          exact t3 (i - 5) (by omega)
  · exact zs_N_c hN (Dr _ (by unfold zk_p; omega)) (fun k1 hk1 => ⟨(hg3 k1 hk1).1, (hg3 k1 hk1).2.2⟩) (by rw [Gr _ (by decide) (by decide)]) ⟨M4 _ (by decide), M4 _ (by decide)⟩
end ZSG
