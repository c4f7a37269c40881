section ZSX
variable {c : Nat → Nat → Int32} {d : Nat → Nat → Int64} {g : Nat → Nat → Nat} {m : Nat → Nat → Int32} {q : Nat → Nat → Int64} {u sl of tu au : Nat → Nat → Nat}
/-- the packet comes to the end of its store -/
theorem zs_apd (h : zs c d g m q u sl of tu au) (ht : u 5 3 < 600) {k s W o a0 n : Nat} {t : Int32} (hk : k < 4) (hg : g 0 k ≠ 0) (hs : s < 280) (hW : 2 ≤ W) (hwo : zs_w c g m u of k s W o) (ha : a0 ≤ 255) (hn : n ≤ 60) (e0 : c 96 0 = nI k) (e2 : c 96 2 = nI (g 2 k)) (e3 : c 96 3 = t) (e5 : c 96 5 = nI 0) (e6 : c 96 6 = nI 0) (e7 : d 96 7 = 0) (e97 : c 97 = zk_te (c 2) (nI a0) t n) (g97 : g 4 97 = 6 + n) : zs (zk_ap1 k t (c, d, g)).1 (zk_ap1 k t (c, d, g)).2.1 (zk_ap1 k t (c, d, g)).2.2 (zo_rcJ m k s (nI k) (nI a0) t (nI n)) (zo_dtQ q (m 34) s n) (zu u 5 3 (u 5 3 + 1)) (zu sl k (g 2 k) s) (zu of k (g 2 k) o) (zu tu k (g 2 k) 0) (zu au k (g 2 k) 0) := by
  have h0 := h
  obtain ⟨w16, w1, w2, w3, w4, w5⟩ : m 16 s < nI 0 ∧ c 96 4 = c (20 + k) (o / 13) ∧ m 21 s = c 96 4 ∧ o / 13 < u 0 k ∧ o + W + (16 - u 1 k) = 13 * u 0 k ∧ ∀ x, zs_l g k x → of k x + 2 ≤ o := ⟨hwo.1, hwo.2 (by omega)⟩
  show zs (zu (zu (zk_ad2 c k (g 2 k)) (10 + k) 8 (nI (g 2 k + 1))) (10 + k) 9 t) (zk_ad2 d k (g 2 k)) (zk_adg g k) (zo_rcJ m k s (nI k) (nI a0) t (nI n)) (zo_dtQ q (m 34) s n) (zu u 5 3 (u 5 3 + 1)) (zu sl k (g 2 k) s) (zu of k (g 2 k) o) (zu tu k (g 2 k) 0) (zu au k (g 2 k) 0)
  have hdead : ∀ {j x}, zs_l g j x → sl j x ≠ s := fun {j x} hx e => by
    have h1 := (h.2.2.2.1.1 j x hx).1.2.1
    rw [e] at h1
    rw [h1] at w16
    exact nI_nlt (Nat.zero_le _) (by have := hx.1; omega) w16
  have hnxb := zs_nxb h hk hg
  have hlo := ((h.2.1 k hk).2 hg).2.2.2.2.2.2.2.2.2.2.2.2.2.1.2.2.2.2.2.2
  obtain ⟨hA, hB, hG, hP, hL, hF, hN⟩ := h
  generalize hC : zu (zu (zk_ad2 c k (g 2 k)) (10 + k) 8 (nI (g 2 k + 1))) (10 + k) 9 t = C
  have Cl : ∀ r, r < 100 → r ≠ 10 + k → C r = c r := fun r h1 h2 => by rw [← hC, zu_ne _ _ _ h2, zu_ne _ _ _ h2, zk_ad2_lo h1]
  have Cr : ∀ r, r ≠ 10 + k → r ≠ zk_p k (g 2 k) → r ≠ zk_p k (g 2 k) + 1 → C r = c r := fun r h1 h2 h3 => by rw [← hC, zu_ne _ _ _ h1, zu_ne _ _ _ h1, zk_ad2_ne h2 h3]
  have Cn : C (zk_p k (g 2 k)) = c 96 := by rw [← hC, zu_ne _ _ _ (by unfold zk_p; omega), zu_ne _ _ _ (by unfold zk_p; omega), zk_ad2_0]
  have Cn1 : C (zk_p k (g 2 k) + 1) = c 97 := by rw [← hC, zu_ne _ _ _ (by unfold zk_p; omega), zu_ne _ _ _ (by unfold zk_p; omega), zk_ad2_1]
  have C10 : ∀ i, i ≠ 8 → i ≠ 9 → C (10 + k) i = c (10 + k) i := fun i h1 h2 => by rw [← hC, zu_k _ _ _ _ h2, zu_k _ _ _ _ h1, zk_ad2_lo (by omega)]
  have C108 : C (10 + k) 8 = nI (g 2 k + 1) := by rw [← hC, zu_k _ _ _ _ (by decide), zu_self]
  have C109 : C (10 + k) 9 = t := by rw [← hC, zu_self]
  have Dl : ∀ r, r < 100 → zk_ad2 d k (g 2 k) r = d r := fun r hr => zk_ad2_lo hr
  have Gr : ∀ r, r ≠ 2 → r ≠ 4 → r ≠ 6 → zk_adg g k r = g r := fun r h1 h2 h3 => by unfold zk_adg; rw [zu_ne _ _ _ h3, zu_ne _ _ _ h2, zu_ne _ _ _ h1]
  have G2 : ∀ j, zk_adg g k 2 j = if j = k then g 2 k + 1 else g 2 j := fun j => by
    unfold zk_adg
    rw [zu_ne _ _ _ (by decide), zu_ne _ _ _ (by decide), zu_if]
    by_cases e : j = k
    · rw [if_pos ⟨rfl, e⟩, if_pos e]
    · rw [if_neg (fun z => e z.2), if_neg e]
  have G4 : ∀ r, r ≠ zk_p k (g 2 k) + 1 → zk_adg g k 4 r = g 4 r := fun r hr => by unfold zk_adg; rw [zu_ne _ _ _ (by decide), zu_k _ _ _ _ hr, zu_ne _ _ _ (by decide)]
  have G4n : zk_adg g k 4 (zk_p k (g 2 k) + 1) = 6 + n := by unfold zk_adg; rw [zu_ne _ _ _ (by decide), zu_self, g97]
  have lv : ∀ {j x}, zs_l (zk_adg g k) j x ↔ zs_l g j x ∨ (j = k ∧ x = g 2 k) := fun {j x} => by
    unfold zs_l
    rw [Gr 0 (by decide) (by decide) (by decide), Gr 1 (by decide) (by decide) (by decide), G2]
    by_cases e : j = k
    · subst e
      rw [if_pos rfl]
      constructor
      · rintro ⟨a1, a2, a3, a4⟩
        by_cases ex : x = g 2 j
        · exact Or.inr ⟨rfl, ex⟩
        · exact Or.inl ⟨a1, a2, a3, by omega⟩
      · rintro (⟨a1, a2, a3, a4⟩ | ⟨-, rfl⟩)
        · exact ⟨a1, a2, a3, by omega⟩
        · exact ⟨hk, hg, hlo, by omega⟩
    · rw [if_neg e]
      exact ⟨Or.inl, fun z => z.elim id (fun w => absurd w.1 e)⟩
  have nn : ∀ {j x}, zs_l g j x → ¬ (j = k ∧ x = g 2 k) := fun {j x} hx z => by
    obtain ⟨rfl, rfl⟩ := z
    exact Nat.lt_irrefl _ hx.2.2.2
  have Mr : ∀ r, r ≠ 10 → r ≠ 11 → r < 16 ∨ 24 < r ∨ r = 21 → zo_rcJ m k s (nI k) (nI a0) t (nI n) r = m r := fun r h1 h2 h3 => by
    unfold zo_rcJ zo_rcI
    rw [zu_ne _ _ _ h2, zu_ne _ _ _ h1, zu_ne _ _ _ (by omega), zu_ne _ _ _ (by omega), zu_ne _ _ _ (by omega), zu_ne _ _ _ (by omega), zu_ne _ _ _ (by omega), zu_ne _ _ _ (by omega), zu_ne _ _ _ (by omega), zu_ne _ _ _ (by omega)]
  have Ms : ∀ r i, r ≠ 10 → r ≠ 11 → i ≠ s → zo_rcJ m k s (nI k) (nI a0) t (nI n) r i = m r i := fun r i h1 h2 h3 => by
    unfold zo_rcJ zo_rcI
    rw [zu_ne _ _ _ h2, zu_ne _ _ _ h1, zu_k _ _ _ _ h3, zu_k _ _ _ _ h3, zu_k _ _ _ _ h3, zu_k _ _ _ _ h3, zu_k _ _ _ _ h3, zu_k _ _ _ _ h3, zu_k _ _ _ _ h3, zu_k _ _ _ _ h3]
  have m10 : m 10 k = nI (g 2 k) := ((hB k hk).2 hg).2.2.2.2.2.2.2.1
  have M10 : ∀ j, zo_rcJ m k s (nI k) (nI a0) t (nI n) 10 j = if j = k then nI (g 2 k + 1) else m 10 j := fun j => by
    unfold zo_rcJ zo_rcI
    rw [zu_ne _ _ _ (by decide), zu_if, zu_ne _ _ _ (by decide), zu_ne _ _ _ (by decide), zu_ne _ _ _ (by decide), zu_ne _ _ _ (by decide), zu_ne _ _ _ (by decide), zu_ne _ _ _ (by decide), zu_ne _ _ _ (by decide), zu_ne _ _ _ (by decide), m10, nI_add]
    by_cases e : j = k
    · rw [if_pos ⟨rfl, e⟩, if_pos e]
    · rw [if_neg (fun z => e z.2), if_neg e]
  have M11 : ∀ j, zo_rcJ m k s (nI k) (nI a0) t (nI n) 11 j = if j = k then t else m 11 j := fun j => by
    unfold zo_rcJ zo_rcI
    rw [zu_if, zu_ne _ _ _ (by decide), zu_ne _ _ _ (by decide), zu_ne _ _ _ (by decide), zu_ne _ _ _ (by decide), zu_ne _ _ _ (by decide), zu_ne _ _ _ (by decide), zu_ne _ _ _ (by decide), zu_ne _ _ _ (by decide), zu_ne _ _ _ (by decide)]
    by_cases e : j = k
    · rw [if_pos ⟨rfl, e⟩, if_pos e]
    · rw [if_neg (fun z => e z.2), if_neg e]
  have N16 : zo_rcJ m k s (nI k) (nI a0) t (nI n) 16 s = nI k := by unfold zo_rcJ zo_rcI; rw [zu_ne _ _ _ (by decide), zu_ne _ _ _ (by decide), zu_ne _ _ _ (by decide), zu_ne _ _ _ (by decide), zu_ne _ _ _ (by decide), zu_ne _ _ _ (by decide), zu_ne _ _ _ (by decide), zu_ne _ _ _ (by decide), zu_ne _ _ _ (by decide), zu_self]
  have N17 : zo_rcJ m k s (nI k) (nI a0) t (nI n) 17 s = nI (g 2 k) := by unfold zo_rcJ zo_rcI; rw [zu_ne _ _ _ (by decide), zu_ne _ _ _ (by decide), zu_ne _ _ _ (by decide), zu_ne _ _ _ (by decide), zu_ne _ _ _ (by decide), zu_ne _ _ _ (by decide), zu_ne _ _ _ (by decide), zu_ne _ _ _ (by decide), zu_self, m10]
  have N18 : zo_rcJ m k s (nI k) (nI a0) t (nI n) 18 s = nI a0 := by unfold zo_rcJ zo_rcI; rw [zu_ne _ _ _ (by decide), zu_ne _ _ _ (by decide), zu_ne _ _ _ (by decide), zu_ne _ _ _ (by decide), zu_ne _ _ _ (by decide), zu_ne _ _ _ (by decide), zu_ne _ _ _ (by decide), zu_self]
  have N19 : zo_rcJ m k s (nI k) (nI a0) t (nI n) 19 s = t := by unfold zo_rcJ zo_rcI; rw [zu_ne _ _ _ (by decide), zu_ne _ _ _ (by decide), zu_ne _ _ _ (by decide), zu_ne _ _ _ (by decide), zu_ne _ _ _ (by decide), zu_ne _ _ _ (by decide), zu_self]
  have N20 : zo_rcJ m k s (nI k) (nI a0) t (nI n) 20 s = nI n := by unfold zo_rcJ zo_rcI; rw [zu_ne _ _ _ (by decide), zu_ne _ _ _ (by decide), zu_ne _ _ _ (by decide), zu_ne _ _ _ (by decide), zu_ne _ _ _ (by decide), zu_self]
  have N22 : zo_rcJ m k s (nI k) (nI a0) t (nI n) 22 s = nI 0 := by unfold zo_rcJ zo_rcI; rw [zu_ne _ _ _ (by decide), zu_ne _ _ _ (by decide), zu_ne _ _ _ (by decide), zu_ne _ _ _ (by decide), zu_self]
  have N23 : zo_rcJ m k s (nI k) (nI a0) t (nI n) 23 s = nI 0 := by unfold zo_rcJ zo_rcI; rw [zu_ne _ _ _ (by decide), zu_ne _ _ _ (by decide), zu_ne _ _ _ (by decide), zu_self]
  have N24 : zo_rcJ m k s (nI k) (nI a0) t (nI n) 24 s = nI 0 := by unfold zo_rcJ zo_rcI; rw [zu_ne _ _ _ (by decide), zu_ne _ _ _ (by decide), zu_self]
  have Q0 : zo_dtQ q (m 34) s n 0 = q 0 := va_up_ne _ _ (by decide)
  have Q25 : zo_dtQ q (m 34) s n 25 = zo_dt (zo_z8 (q 25) s 8) (m 34) s n := va_up_self _ _ _
  have Ur : ∀ r, r ≠ 5 → zu u 5 3 (u 5 3 + 1) r = u r := fun r hr => zu_ne _ _ _ hr
  have U5 : ∀ i, i ≠ 3 → zu u 5 3 (u 5 3 + 1) 5 i = u 5 i := fun i hi => zu_k _ _ _ _ hi
  have U53 : zu u 5 3 (u 5 3 + 1) 5 3 = u 5 3 + 1 := zu_self _ _ _ _
  -- words of another place stay
  have Qo : ∀ s2 j, s2 ≠ s → j < 8 → zo_dtQ q (m 34) s n 25 (8 * s2 + j) = q 25 (8 * s2 + j) := fun s2 j hne hj => by
    rw [Q25]
    have key : ∀ n, n ≤ 60 → zo_dt (zo_z8 (q 25) s 8) (m 34) s n (8 * s2 + j) = q 25 (8 * s2 + j) := by
      intro n
      induction n with
      | zero =>
        intro _
        show zo_z8 (q 25) s 8 (8 * s2 + j) = _
        unfold zo_z8
        rw [if_neg (by omega)]
      | succ n ih =>
        intro hn
        rw [zo_dt, va_up_ne _ _ (by omega)]
        exact ih (by omega)
    exact key n hn
  refine ⟨?_, ?_, ?_, ?_, ?_, ?_, ?_⟩
  · exact zs_A_c hA (Cl _ (by decide) (by omega)) (Cl _ (by decide) (by omega)) (Dl _ (by decide)) (fun j _ _ => by rw [Mr 40 (by decide) (by decide) (by decide)]) (Mr _ (by decide) (by decide) (by decide)) Q0
  · intro j hj
    rw [Gr 0 (by decide) (by decide) (by decide), Mr 7 (by decide) (by decide) (by decide)]
    refine ⟨(hB j hj).1, fun gj => ?_⟩
    obtain ⟨d1, d2, d3, d4, d5, d6, d7, d8, d9, d10, d11, d12, d13, d14, d15⟩ := (hB j hj).2 gj
    unfold zs_k
    rw [Mr 7 (by decide) (by decide) (by decide), Mr 8 (by decide) (by decide) (by decide), Mr 9 (by decide) (by decide) (by decide), Mr 12 (by decide) (by decide) (by decide), Mr 13 (by decide) (by decide) (by decide), Mr 14 (by decide) (by decide) (by decide), Mr 15 (by decide) (by decide) (by decide), M10, M11, G2, Gr 1 (by decide) (by decide) (by decide), Ur 0 (by decide), Ur 1 (by decide), Ur 2 (by decide), Ur 6 (by decide), Cl (20 + j) (by omega) (by omega)]
    by_cases e : j = k
    · subst e
      rw [if_pos rfl, if_pos rfl, if_pos rfl, C108, C109, C10 0 (by decide) (by decide), C10 1 (by decide) (by decide), C10 6 (by decide) (by decide), C10 7 (by decide) (by decide), C10 4 (by decide) (by decide)]
      exact ⟨d1, d2, d3, d4, d5, d6, rfl, rfl, rfl, d10, d11, d12, d13, ⟨d14.1, d14.2.1, d14.2.2.1, d14.2.2.2.1, d14.2.2.2.2.1, d14.2.2.2.2.2.1, by omega⟩, d15⟩
    · rw [if_neg e, if_neg e, if_neg e, Cl (10 + j) (by omega) (by omega)]
      exact ⟨d1, d2, d3, d4, d5, d6, d7, d8, d9, d10, d11, d12, d13, d14, d15⟩
  · exact zs_G_c hG (fun j hj => Cl _ (by omega) (by omega)) (fun j _ => by rw [Gr 0 (by decide) (by decide) (by decide)]) (Mr _ (by decide) (by decide) (by decide)) (fun _ => ⟨by rw [Ur 0 (by decide)], by rw [Ur 2 (by decide)]⟩)
  · obtain ⟨p1, p2, p3, p4, p5⟩ := hP
    have zz : ∀ {j x}, zs_l g j x → (tu j x = 0 ↔ au j x = 0) := fun {j x} hx => (p1 j x hx).1.2.2.2.2.2.2.2.2.2.2.2.2.2.1
    refine ⟨fun j x hx => ?_, fun t2 ht2 e => ?_, fun t2 ht2 => ?_, fun t2 ht2 => ?_, fun i x j y hx hy => ?_⟩
    · rcases lv.mp hx with hx2 | ⟨rfl, rfl⟩
      · obtain ⟨a1, a2, a3⟩ := p1 j x hx2
        have hj := hx2.1
        have hne := nn hx2
        have er : zk_p j x ≠ zk_p k (g 2 k) := fun z => hne (by unfold zk_p at z; omega)
        have er1 : C (zk_p j x) = c (zk_p j x) := Cr _ (by unfold zk_p; omega) er (by unfold zk_p; omega)
        have er2 : C (zk_p j x + 1) = c (zk_p j x + 1) := Cr _ (by unfold zk_p; omega) (by unfold zk_p; omega) (by unfold zk_p at er ⊢; omega)
        have hsd := hdead hx2
        rw [zu_if, if_neg hne]
        refine ⟨?_, ?_, ?_⟩
        · unfold zs_p
          rw [er1, zk_ad2_ne er (by unfold zk_p; omega), Ms 16 _ (by decide) (by decide) hsd, Ms 17 _ (by decide) (by decide) hsd, Ms 19 _ (by decide) (by decide) hsd, Ms 21 _ (by decide) (by decide) hsd, Ms 22 _ (by decide) (by decide) hsd, Ms 23 _ (by decide) (by decide) hsd, Ms 24 _ (by decide) (by decide) hsd, zu_if, zu_if, if_neg hne, if_neg hne, U5 0 (by decide), U5 1 (by decide)]
          exact a1
        · unfold zs_te zo_tl
          rw [er2, G4 _ (by unfold zk_p at er ⊢; omega), Ms 18 _ (by decide) (by decide) hsd, Ms 19 _ (by decide) (by decide) hsd, Ms 20 _ (by decide) (by decide) hsd]
          obtain ⟨n1, a4, a5, a6, a7⟩ := a2
          refine ⟨n1, a4, a5, a6, fun i hi => ?_⟩
          have := a7 i hi
          unfold zo_tl at this
          by_cases h6 : i < 6
          · rw [this]
            by_cases q1 : i = 0
            · rw [if_pos q1, if_pos q1]
            · rw [if_neg q1, if_neg q1]
              by_cases q2 : i < 5
              · rw [if_pos q2, if_pos q2]
              · rw [if_neg q2, if_neg q2, if_pos (show i = 5 by omega), if_pos (show i = 5 by omega)]
          · rw [this, Qo _ _ hsd (show (i - 6) / 8 < 8 by omega)]
        · unfold zs_o
          rw [er1, Cl (20 + j) (by omega) (by omega), Ur 0 (by decide), Ur 1 (by decide), zu_if, if_neg hne, zu_if, G2]
          obtain ⟨o1, o2, o3, o4⟩ := a3
          refine ⟨o1, o2, o3, fun z => ?_⟩
          by_cases ej : j = k
          · subst ej
            rw [if_pos rfl] at z
            by_cases ex : x + 1 = g 2 j
            · rw [if_pos ⟨rfl, ex⟩]
              exact w5 x hx2
            · rw [if_neg (fun w => ex w.2)]
              exact o4 (by omega)
          · rw [if_neg ej] at z
            rw [if_neg (fun w => ej w.1)]
            exact o4 z
      · rw [zu_self]
        refine ⟨?_, ⟨n, hn, G4n, N20, ?_⟩, ?_⟩
        · unfold zs_p
          rw [Cn, zk_ad2_0, N16, N17, N19, Mr 21 (by decide) (by decide) (by decide), N22, N23, N24, zu_self, zu_self]
          exact ⟨hs, rfl, rfl, e3.symm, w2, e5.symm, e6.symm, e0, e2, Or.inl e5, Or.inl e6, e7, rfl, Iff.rfl, Nat.zero_le _, Nat.zero_le _, fun _ => rfl⟩
        · rw [Cn1, e97]
          exact zs_tell hF.1 ha hn N18 N19 N20 Q25
        · unfold zs_o
          rw [Cn, Cl (20 + j) (by omega) (by omega), Ur 0 (by decide), Ur 1 (by decide), zu_self, G2, if_pos rfl]
          exact ⟨w3, w1, by omega, fun z => by omega⟩
    · by_cases es : t2 = s
      · subst es
        exact ⟨k, g 2 k, lv.mpr (Or.inr ⟨rfl, rfl⟩), by rw [zu_self]⟩
      · rw [Ms 16 _ (by decide) (by decide) es] at e
        obtain ⟨j, x, hx, ex⟩ := p2 t2 ht2 e
        exact ⟨j, x, lv.mpr (Or.inl hx), by rw [zu_if, if_neg (nn hx)]; exact ex⟩
    · by_cases es : t2 = s
      · subst es
        exact ⟨n, hn, N20⟩
      · rw [Ms 20 _ (by decide) (by decide) es]
        exact p3 t2 ht2
    · by_cases es : t2 = s
      · subst es
        exact Or.inl N23
      · rw [Ms 23 _ (by decide) (by decide) es]
        exact p4 t2 ht2
    · rw [zu_if, zu_if, zu_if, zu_if]
      rcases lv.mp hx with hx2 | ex <;> rcases lv.mp hy with hy2 | ey
      · rw [if_neg (nn hx2), if_neg (nn hx2), if_neg (nn hy2), if_neg (nn hy2)]
        exact p5 i x j y hx2 hy2
      · rw [if_neg (nn hx2), if_neg (nn hx2), if_pos ey, if_pos ey]
        exact ⟨by omega, fun z1 z2 => absurd z1 z2⟩
      · have := zz hy2
        rw [if_pos ex, if_pos ex, if_neg (nn hy2), if_neg (nn hy2)]
        exact ⟨by omega, fun _ z => absurd rfl z⟩
      · rw [if_pos ex, if_pos ex, if_pos ey, if_pos ey]
        exact ⟨Iff.rfl, fun _ z => absurd rfl z⟩
  · exact zs_L_c hL (fun p hp => ⟨Cl _ (by omega) (by omega), Dl _ (by omega)⟩) (fun _ _ => by rw [Gr 3 (by decide) (by decide) (by decide)]) (fun _ _ => by rw [Gr 0 (by decide) (by decide) (by decide)]) (fun r a b => Mr r (by omega) (by omega) (by omega)) (fun _ => ⟨by rw [Ur 3 (by decide)], by rw [Ur 4 (by decide)]⟩) ⟨by rw [U5 0 (by decide)]; exact Nat.le_refl _, by rw [U5 2 (by decide)]; exact Nat.le_refl _⟩
  · exact zs_F_c hF (Cl _ (by decide) (by omega)) ⟨Cl _ (by decide) (by omega), Cl _ (by decide) (by omega)⟩ ⟨by rw [Gr 5 (by decide) (by decide) (by decide)], G4 _ (by unfold zk_p; omega)⟩ (Mr _ (by decide) (by decide) (by decide)) (by rw [Mr 40 (by decide) (by decide) (by decide)]) (Mr _ (by decide) (by decide) (by decide))
  · obtain ⟨n1, n2, n3, n4, n5, n6, n7, n8, n9⟩ := hN
    unfold zs_N
    rw [Dl 9 (by decide), Mr 40 (by decide) (by decide) (by decide), U5 0 (by decide), U5 1 (by decide), U5 2 (by decide), U53]
    refine ⟨n1, n2, n3, by omega, by omega, by omega, fun j hj e => ?_, by omega, n9⟩
    rw [Gr 0 (by decide) (by decide) (by decide)] at e
    have := n7 j hj e
    rw [G2]
    split
    · rename_i z
      rw [z] at this
      omega
    · omega
end ZSX
