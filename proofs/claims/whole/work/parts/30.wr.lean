section ZKW
variable {X te : Nat} {A ea : Nat → Nat} {c : Nat → Nat → Int32} {d : Nat → Nat → Int64} {g : Nat → Nat → Nat} {kd ln : Nat → Nat} {I : Nat → Nat → Int32} {L : Nat → Nat → Int64} {R : Nat → Nat → Option Nat}
theorem zk_lv_g {g1 : Nat → Nat → Nat} (h0 : g1 0 = g 0) (h1 : g1 1 = g 1) (h2 : g1 2 = g 2) (h3 : g1 3 = g 3) (h6 : g1 6 = g 6) (r : Nat) : zk_lv g1 r ↔ zk_lv g r := by
  unfold zk_lv
  rw [h0, h1, h2, h3, h6]
theorem zk_n_g {g1 : Nat → Nat → Nat} {r : Nat} (h4 : g1 4 r = g 4 r) : zk_n g1 r = zk_n g r := by
  unfold zk_n
  rw [h4]
theorem zk_lv_pz {p r : Nat} (h : zk_lv (zu g 3 p 0) r) : zk_lv g r ∧ (30 ≤ r → r < 34 → r ≠ 30 + p) := by
  unfold zk_lv at h
  rw [zu_ne _ _ _ (show (0 : Nat) ≠ 3 by decide), zu_ne _ _ _ (show (1 : Nat) ≠ 3 by decide), zu_ne _ _ _ (show (2 : Nat) ≠ 3 by decide), zu_ne _ _ _ (show (6 : Nat) ≠ 3 by decide)] at h
  rcases h with h | h | h | ⟨h1, h2, h3⟩ | h | h
  · exact ⟨Or.inl h, by omega⟩
  · exact ⟨Or.inr (Or.inl h), by omega⟩
  · exact ⟨Or.inr (Or.inr (Or.inl h)), by omega⟩
  · have hne : r - 30 ≠ p := fun e => h3 (by rw [e, zu_self])
    rw [zu_k _ _ _ _ hne] at h3
    exact ⟨Or.inr (Or.inr (Or.inr (Or.inl ⟨h1, h2, h3⟩))), by omega⟩
  · exact ⟨Or.inr (Or.inr (Or.inr (Or.inr (Or.inl h)))), by omega⟩
  · exact ⟨Or.inr (Or.inr (Or.inr (Or.inr (Or.inr h)))), by omega⟩
/-- an array of references is written: everything but it stands -/
theorem zkR_off (h : zkR X te A ea c d g kd ln I L R) {r j : Nat} (hr : r = 4 ∨ r = 5) (v : Option Nat) : (zu R (A r) j v X = R X) ∧ (∀ s, zk_lv g s → s ≠ r → zu R (A r) j v (A s) = R (A s)) ∧ (∀ k, k < 4 → g 0 k ≠ 0 → zu R (A r) j v (A (40 + k)) = R (A (40 + k)) ∧ (kd (ea k) = 104 → zu R (A r) j v (ea k) = R (ea k))) ∧ ∀ a, kd a = 4 → zu R (A r) j v a = R a := by
  have hl : zk_lv g r := zk_lv0 (by omega)
  have hk : kd (A r) = 105 ∨ kd (A r) = 106 := by
    rcases hr with rfl | rfl
    · exact Or.inl (zkR_k h (zk_lv0 (by decide)))
    · exact Or.inr (zkR_k h (zk_lv0 (by decide)))
  refine ⟨zu_ne _ _ _ (zkR_xne h hl), fun s hs hne => zu_ne _ _ _ (fun e => hne (h.2.1 s r hs hl e)), fun k hk4 hg => ⟨zu_ne _ _ _ (zkR_ane h hl hk4 hg), fun e => zu_ne _ _ _ (fun q => by rw [q] at e; omega)⟩, fun a ha => zu_ne _ _ _ (fun q => by rw [q] at ha; omega)⟩
/-- a playback ends -/
theorem zkR_pz (h : zkR X te A ea c d g kd ln I L R) {p : Nat} (hp4 : p < 4) : zkR X te A ea c d (zu g 3 p 0) kd ln I L (zu R (A 5) p none) := by
  obtain ⟨oX, oL, oK, oF⟩ := zkR_off h (r := 5) (j := p) (Or.inr rfl) none
  obtain ⟨t1, t2, hx, hm, hs, hj, hp, hq, hf⟩ := h
  have g0 : zu g 3 p 0 0 = g 0 := zu_ne _ _ _ (by decide)
  have g1 : zu g 3 p 0 1 = g 1 := zu_ne _ _ _ (by decide)
  have g2 : zu g 3 p 0 2 = g 2 := zu_ne _ _ _ (by decide)
  have g4 : zu g 3 p 0 4 = g 4 := zu_ne _ _ _ (by decide)
  have g5 : zu g 3 p 0 5 = g 5 := zu_ne _ _ _ (by decide)
  have g6 : zu g 3 p 0 6 = g 6 := zu_ne _ _ _ (by decide)
  refine ⟨fun r hr => ?_, fun r s hr hs2 => t2 r s (zk_lv_pz hr).1 (zk_lv_pz hs2).1, ?_, ?_, fun k hk => ?_, ?_, fun j hj4 => ⟨fun e => ?_, fun e => ?_⟩, ⟨fun k x hk gk h1 h2 => ?_, fun e => ?_⟩, ?_⟩
  · rw [zk_n_g (congrFun g4 r)]
    exact t1 r (zk_lv_pz hr).1
  · rw [oX]
    exact hx
  · rw [oL 0 (zk_lv0 (by decide)) (by decide)]
    exact hm
  · rw [g0, oL 4 (zk_lv0 (by decide)) (by decide)]
    refine ⟨(hs k hk).1, fun e => ?_⟩
    obtain ⟨a1, a2, a3, a4, l1, l2, l3, l4, l5⟩ := (hs k hk).2 e
    rw [oL (10 + k) (zk_lv1 hk e) (by omega)]
    refine ⟨a1, a2, a3, a4, l1, by rw [g1, g2]; exact l2, by rw [(oK k hk e).1]; exact l3, by rw [g1, g2]; exact l4, ?_⟩
    rw [g1, g2]
    intro j hj2
    rcases l4 with l4 | l4
    · omega
    · rw [(oK k hk e).2 l4.1]
      exact l5 j hj2
  · rw [g0]
    exact hj
  · by_cases ej : j = p
    · rw [ej, zu_self]
    · rw [zu_k _ _ _ _ ej] at e
      rw [zu_k _ _ _ _ ej]
      exact (hp j hj4).1 e
  · by_cases ej : j = p
    · rw [ej, zu_self] at e
      exact absurd rfl e
    · rw [zu_k _ _ _ _ ej] at e ⊢
      rw [zu_k _ _ _ _ ej, oL (30 + j) (zk_lv3 hj4 e) (by omega)]
      exact (hp j hj4).2 e
  · rw [g0] at gk
    rw [g1] at h1
    rw [g2] at h2
    rw [oL _ (zk_lvp hk gk h1 h2) (by unfold zk_p; omega)]
    exact hq.1 k x hk gk h1 h2
  · rw [g6] at e
    rw [oL _ (zk_lv6 (by decide) e) (by decide)]
    exact hq.2 e
  · rw [oX, g5, g4]
    rcases hf with hf | ⟨f0, fp, ft, f1, f2, f3, f4⟩
    · exact Or.inl hf
    · exact Or.inr ⟨f0, fp, ft, f1, f2, by rw [oF fp f2]; exact f3, f4⟩
theorem zk_lv_sz {k r : Nat} (h : zk_lv (zu g 0 k 0) r) : zk_lv g r := by
  have hz : ∀ j, zu g 0 k 0 0 j ≠ 0 → g 0 j ≠ 0 := fun j hj => by
    by_cases e : j = k
    · rw [e, zu_self] at hj
      exact absurd rfl hj
    · rw [zu_k _ _ _ _ e] at hj
      exact hj
  unfold zk_lv at h
  rw [zu_ne _ _ _ (show (1 : Nat) ≠ 0 by decide), zu_ne _ _ _ (show (2 : Nat) ≠ 0 by decide), zu_ne _ _ _ (show (3 : Nat) ≠ 0 by decide), zu_ne _ _ _ (show (6 : Nat) ≠ 0 by decide)] at h
  rcases h with h | ⟨h1, h2, h3⟩ | ⟨h1, h2, h3⟩ | h | h | ⟨h1, h2, h3⟩
  · exact Or.inl h
  · exact Or.inr (Or.inl ⟨h1, h2, hz _ h3⟩)
  · exact Or.inr (Or.inr (Or.inl ⟨h1, h2, hz _ h3⟩))
  · exact Or.inr (Or.inr (Or.inr (Or.inl h)))
  · exact Or.inr (Or.inr (Or.inr (Or.inr (Or.inl h))))
  · exact Or.inr (Or.inr (Or.inr (Or.inr (Or.inr ⟨h1, hz _ h2, h3⟩))))
/-- a store ends -/
theorem zkR_sz (h : zkR X te A ea c d g kd ln I L R) {k : Nat} (hk4 : k < 4) : zkR X te A ea c d (zu g 0 k 0) kd ln I L (zu R (A 4) k none) := by
  obtain ⟨oX, oL, oK, oF⟩ := zkR_off h (r := 4) (j := k) (Or.inl rfl) none
  obtain ⟨t1, t2, hx, hm, hs, hj, hp, hq, hf⟩ := h
  have hz : ∀ j, zu g 0 k 0 0 j ≠ 0 → j ≠ k ∧ g 0 j ≠ 0 := fun j hj => by
    by_cases e : j = k
    · rw [e, zu_self] at hj
      exact absurd rfl hj
    · rw [zu_k _ _ _ _ e] at hj
      exact ⟨e, hj⟩
  have g1 : zu g 0 k 0 1 = g 1 := zu_ne _ _ _ (by decide)
  have g2 : zu g 0 k 0 2 = g 2 := zu_ne _ _ _ (by decide)
  have g3 : zu g 0 k 0 3 = g 3 := zu_ne _ _ _ (by decide)
  have g4 : zu g 0 k 0 4 = g 4 := zu_ne _ _ _ (by decide)
  have g5 : zu g 0 k 0 5 = g 5 := zu_ne _ _ _ (by decide)
  have g6 : zu g 0 k 0 6 = g 6 := zu_ne _ _ _ (by decide)
  refine ⟨fun r hr => ?_, fun r s hr hs2 => t2 r s (zk_lv_sz hr) (zk_lv_sz hs2), ?_, ?_, fun j hj4 => ⟨fun e => ?_, fun e => ?_⟩, fun a b ha hb ga gb => hj a b ha hb (hz a ga).2 (hz b gb).2, fun j hj4 => ?_, ⟨fun j x hj4 gj h1 h2 => ?_, fun e => ?_⟩, ?_⟩
  · rw [zk_n_g (congrFun g4 r)]
    exact t1 r (zk_lv_sz hr)
  · rw [oX]
    exact hx
  · rw [oL 0 (zk_lv0 (by decide)) (by decide)]
    exact hm
  · by_cases ej : j = k
    · rw [ej, zu_self]
    · rw [zu_k _ _ _ _ ej] at e
      rw [zu_k _ _ _ _ ej]
      exact (hs j hj4).1 e
  · obtain ⟨ej, e⟩ := hz j e
    obtain ⟨a1, a2, a3, a4, l1, l2, l3, l4, l5⟩ := (hs j hj4).2 e
    rw [zu_k _ _ _ _ ej, oL (10 + j) (zk_lv1 hj4 e) (by omega)]
    refine ⟨a1, a2, a3, a4, l1, by rw [g1, g2]; exact l2, by rw [(oK j hj4 e).1]; exact l3, by rw [g1, g2]; exact l4, ?_⟩
    rw [g1, g2]
    intro i hi
    rcases l4 with l4 | l4
    · omega
    · rw [(oK j hj4 e).2 l4.1]
      exact l5 i hi
  · rw [g3, oL 5 (zk_lv0 (by decide)) (by decide)]
    refine ⟨(hp j hj4).1, fun e => ?_⟩
    rw [oL (30 + j) (zk_lv3 hj4 e) (by omega)]
    exact (hp j hj4).2 e
  · obtain ⟨ej, gj⟩ := hz j gj
    rw [g1] at h1
    rw [g2] at h2
    rw [oL _ (zk_lvp hj4 gj h1 h2) (by unfold zk_p; omega)]
    exact hq.1 j x hj4 gj h1 h2
  · rw [g6] at e
    rw [oL _ (zk_lv6 (by decide) e) (by decide)]
    exact hq.2 e
  · rw [oX, g5, g4]
    rcases hf with hf | ⟨f0, fp, ft, f1, f2, f3, f4⟩
    · exact Or.inl hf
    · exact Or.inr ⟨f0, fp, ft, f1, f2, by rw [oF fp f2]; exact f3, f4⟩
/-- the frame: none, or a kept packet -/
theorem zkR_fz (h : zkR X te A ea c d g kd ln I L R) : zkR X te A ea c d (zu g 5 0 0) kd ln I L (zu R X 4 none) := by
  have nL : ∀ {r}, zk_lv g r → zu R X 4 none (A r) = R (A r) := fun {r} hr => zu_ne _ _ _ (Ne.symm (zkR_xne h hr))
  obtain ⟨t1, t2, hx, hm, hs, hj, hp, hq, hf⟩ := h
  have g0 : zu g 5 0 0 0 = g 0 := zu_ne _ _ _ (by decide)
  have g1 : zu g 5 0 0 1 = g 1 := zu_ne _ _ _ (by decide)
  have g2 : zu g 5 0 0 2 = g 2 := zu_ne _ _ _ (by decide)
  have g3 : zu g 5 0 0 3 = g 3 := zu_ne _ _ _ (by decide)
  have g4 : zu g 5 0 0 4 = g 4 := zu_ne _ _ _ (by decide)
  have g6 : zu g 5 0 0 6 = g 6 := zu_ne _ _ _ (by decide)
  have lv := zk_lv_g g0 g1 g2 g3 g6
  have n6 : ∀ {a}, kd a ≠ 1 → zu R X 4 none a = R a := fun {a} ha => zu_ne _ _ _ (fun e => ha (by rw [e]; exact hx.1))
  refine ⟨fun r hr => ?_, fun r s hr hs2 => t2 r s ((lv r).mp hr) ((lv s).mp hs2), ?_, ?_, fun k hk => ?_, ?_, fun j hj4 => ?_, ⟨fun k x hk gk h1 h2 => ?_, fun e => ?_⟩, Or.inl ⟨zu_self _ _ _ _, zu_self _ _ _ _⟩⟩
  · rw [zk_n_g (congrFun g4 r)]
    exact t1 r ((lv r).mp hr)
  · rw [zu_k _ _ _ _ (by decide), zu_k _ _ _ _ (by decide), zu_k _ _ _ _ (by decide), zu_k _ _ _ _ (by decide)]
    exact hx
  · rw [nL (zk_lv0 (by decide))]
    exact hm
  · rw [g0, nL (zk_lv0 (by decide))]
    refine ⟨(hs k hk).1, fun e => ?_⟩
    obtain ⟨a1, a2, a3, a4, l1, l2, l3, l4, l5⟩ := (hs k hk).2 e
    rw [nL (zk_lv1 hk e)]
    refine ⟨a1, a2, a3, a4, l1, by rw [g1, g2]; exact l2, by rw [n6 (by rw [l1]; decide)]; exact l3, by rw [g1, g2]; exact l4, ?_⟩
    rw [g1, g2]
    intro j hj2
    rcases l4 with l4 | l4
    · omega
    · rw [n6 (by rw [l4.1]; decide)]
      exact l5 j hj2
  · rw [g0]
    exact hj
  · rw [g3, nL (zk_lv0 (by decide))]
    refine ⟨(hp j hj4).1, fun e => ?_⟩
    rw [nL (zk_lv3 hj4 e)]
    exact (hp j hj4).2 e
  · rw [g0] at gk
    rw [g1] at h1
    rw [g2] at h2
    rw [nL (zk_lvp hk gk h1 h2)]
    exact hq.1 k x hk gk h1 h2
  · rw [g6] at e
    rw [nL (zk_lv6 (by decide) e)]
    exact hq.2 e
def zk_fwc (c : Nat → Nat → Int32) (k x : Nat) : Nat → Nat → Int32 := va_up (va_up c 90 (c (zk_p k x))) 91 (c (zk_p k x + 1))
def zk_fwg (g : Nat → Nat → Nat) (k x : Nat) : Nat → Nat → Nat := zu (zu g 5 0 1) 4 91 (g 4 (zk_p k x + 1))
theorem zkR_fw (h : zkR X te A ea c d g kd ln I L R) {k x : Nat} (hk4 : k < 4) (hgk : g 0 k ≠ 0) (hx1 : g 1 k ≤ x) (hx2 : x < g 2 k) : zkR X te A ea (zk_fwc c k x) d (zk_fwg g k x) kd ln I L (zu R X 4 (some (A (zk_p k x)))) := by
  have nL : ∀ {r}, zk_lv g r → zu R X 4 (some (A (zk_p k x))) (A r) = R (A r) := fun {r} hr => zu_ne _ _ _ (Ne.symm (zkR_xne h hr))
  have hP := zk_lvp hk4 hgk hx1 hx2
  have hT := zk_lvt hk4 hgk hx1 hx2
  obtain ⟨t1, t2, hx, hm, hs, hj, hp, hq, hf⟩ := h
  have g0 : zk_fwg g k x 0 = g 0 := by unfold zk_fwg; rw [zu_ne _ _ _ (by decide), zu_ne _ _ _ (by decide)]
  have g1 : zk_fwg g k x 1 = g 1 := by unfold zk_fwg; rw [zu_ne _ _ _ (by decide), zu_ne _ _ _ (by decide)]
  have g2 : zk_fwg g k x 2 = g 2 := by unfold zk_fwg; rw [zu_ne _ _ _ (by decide), zu_ne _ _ _ (by decide)]
  have g3 : zk_fwg g k x 3 = g 3 := by unfold zk_fwg; rw [zu_ne _ _ _ (by decide), zu_ne _ _ _ (by decide)]
  have g6 : zk_fwg g k x 6 = g 6 := by unfold zk_fwg; rw [zu_ne _ _ _ (by decide), zu_ne _ _ _ (by decide)]
  have g5 : zk_fwg g k x 5 0 = 1 := by unfold zk_fwg; rw [zu_ne _ _ _ (by decide), zu_self]
  have g4 : ∀ r, r ≠ 91 → zk_fwg g k x 4 r = g 4 r := fun r hr => by unfold zk_fwg; rw [zu_k _ _ _ _ hr, zu_ne _ _ _ (by decide)]
  have g49 : zk_fwg g k x 4 91 = g 4 (zk_p k x + 1) := zu_self _ _ _ _
  have lv := zk_lv_g g0 g1 g2 g3 g6
  have n6 : ∀ {a}, kd a ≠ 1 → zu R X 4 (some (A (zk_p k x))) a = R a := fun {a} ha => zu_ne _ _ _ (fun e => ha (by rw [e]; exact hx.1))
  refine ⟨fun r hr => ?_, fun r s hr hs2 => t2 r s ((lv r).mp hr) ((lv s).mp hs2), ?_, ?_, fun k hk => ?_, ?_, fun j hj4 => ?_, ⟨fun k x hk gk h1 h2 => ?_, fun e => ?_⟩, Or.inr ⟨by rw [g5]; decide, A (zk_p k x), A (zk_p k x + 1), zu_self _ _ _ _, ?_, ?_, ?_, ?_, ?_, ?_, ?_, ?_⟩⟩
  · have hr2 := (lv r).mp hr
    obtain ⟨n9, n90, n91⟩ := zk_lv_ne hr2
    rw [zk_n_g (g4 r n91)]
    unfold zk_fwc
    rw [va_up_ne _ _ n91, va_up_ne _ _ n90]
    exact t1 r hr2
  · rw [zu_k _ _ _ _ (by decide), zu_k _ _ _ _ (by decide), zu_k _ _ _ _ (by decide), zu_k _ _ _ _ (by decide)]
    exact hx
  · rw [nL (zk_lv0 (by decide))]
    exact hm
  · rw [g0, nL (zk_lv0 (by decide))]
    refine ⟨(hs k hk).1, fun e => ?_⟩
    obtain ⟨a1, a2, a3, a4, l1, l2, l3, l4, l5⟩ := (hs k hk).2 e
    rw [nL (zk_lv1 hk e)]
    refine ⟨a1, a2, a3, a4, l1, by rw [g1, g2]; exact l2, by rw [n6 (by rw [l1]; decide)]; exact l3, by rw [g1, g2]; exact l4, ?_⟩
    rw [g1, g2]
    intro j hj2
    rcases l4 with l4 | l4
    · omega
    · rw [n6 (by rw [l4.1]; decide)]
      exact l5 j hj2
  · rw [g0]
    exact hj
  · rw [g3, nL (zk_lv0 (by decide))]
    refine ⟨(hp j hj4).1, fun e => ?_⟩
    rw [nL (zk_lv3 hj4 e)]
    exact (hp j hj4).2 e
  · rw [g0] at gk
    rw [g1] at h1
    rw [g2] at h2
    rw [nL (zk_lvp hk gk h1 h2)]
    exact hq.1 k x hk gk h1 h2
  · rw [g6] at e
    rw [nL (zk_lv6 (by decide) e)]
    exact hq.2 e
  · exact (t1 _ hP).1.trans zk_kp
  · rw [nL hP]
    exact hq.1 k x hk4 hgk hx1 hx2
  · exact (t1 _ hT).1.trans zk_kt
  · exact fun e => absurd (t2 _ _ hT (zk_lv0 (show 2 ≤ 5 by decide)) e) (by unfold zk_p; omega)
  · rw [(t1 _ hT).2.2.2 (by rw [zk_kt]; decide), g49, zk_np]
  · rw [(t1 _ hP).2.1]
    unfold zk_fwc
    rw [va_up_ne _ _ (by decide), va_up_self]
  · rw [(t1 _ hP).2.1]
    unfold zk_fwc
    rw [va_up_ne _ _ (by decide), va_up_self]
  · rw [(t1 _ hT).2.1]
    unfold zk_fwc
    rw [va_up_self]
end ZKW
