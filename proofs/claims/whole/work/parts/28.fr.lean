section ZKF
variable {X te : Nat} {A ea : Nat → Nat} {c : Nat → Nat → Int32} {d : Nat → Nat → Int64} {g : Nat → Nat → Nat} {kd ln : Nat → Nat} {I : Nat → Nat → Int32} {L : Nat → Nat → Int64} {R : Nat → Nat → Option Nat}
theorem zkR_nz (h : zkR X te A ea c d g kd ln I L R) {r : Nat} (hr : zk_lv g r) : kd (A r) ≠ 0 := by
  rw [zkR_k h hr]
  have := zk_k_in r
  omega
/-- other cells may come -/
theorem zkR_fm {kd1 ln1 : Nat → Nat} {I1 : Nat → Nat → Int32} {L1 : Nat → Nat → Int64} {R1 : Nat → Nat → Option Nat} (h : zkR X te A ea c d g kd ln I L R) (hte : kd1 te = 0) (hag : ∀ a, kd a ≠ 0 → kd1 a = kd a ∧ ln1 a = ln a ∧ I1 a = I a ∧ L1 a = L a ∧ R1 a = R a) : zkR X te A ea c d g kd1 ln1 I1 L1 R1 := by
  have nz := fun {r} hr => zkR_nz h (r := r) hr
  obtain ⟨t1, t2, hx, hm, hs, hj, hp, hq, hf⟩ := h
  have xz : kd X ≠ 0 := by rw [hx.1]; decide
  refine ⟨fun r hr => ?_, t2, ?_, ?_, fun k hk => ⟨fun e => ?_, fun e => ?_⟩, fun k j hk hj4 gk gj hne => ⟨(hj k j hk hj4 gk gj hne).1, fun e => ?_⟩, fun p hp4 => ⟨fun e => ?_, fun e => ?_⟩, ⟨fun k x hk gk h1 h2 => ?_, fun e => ?_⟩, ?_⟩
  · obtain ⟨b1, b2, b3, b4, -⟩ := hag _ (nz hr)
    rw [b1, b2, b3, b4]
    exact t1 r hr
  · obtain ⟨b1, b2, b3, b4, b5⟩ := hag _ xz
    rw [b1, b4, b5]
    exact hx
  · rw [(hag _ (nz (zk_lv0 (show 0 ≤ 5 by decide)))).2.2.2.2]
    exact hm
  · rw [(hag _ (nz (zk_lv0 (show 4 ≤ 5 by decide)))).2.2.2.2]
    exact (hs k hk).1 e
  · obtain ⟨a1, a2, a3, a4, l1, l2, l3, l4, l5⟩ := (hs k hk).2 e
    rw [(hag _ (nz (zk_lv0 (show 4 ≤ 5 by decide)))).2.2.2.2, (hag _ (nz (zk_lv1 hk e))).2.2.2.2]
    obtain ⟨b1, b2, b3, b4, b5⟩ := hag (A (40 + k)) (by rw [l1]; decide)
    refine ⟨a1, a2, a3, a4, by rw [b1]; exact l1, by rw [b3]; exact l2, by rw [b5]; exact l3, ?_, fun j hj2 => ?_⟩
    · rcases l4 with l4 | ⟨l4, l6, l7, l8⟩
      · exact Or.inl l4
      · obtain ⟨d1, d2, -⟩ := hag (ea k) (by rw [l4]; decide)
        rw [d1, d2]
        exact Or.inr ⟨l4, l6, l7, l8⟩
    · rcases l4 with l4 | ⟨l4, -⟩
      · omega
      · rw [(hag (ea k) (by rw [l4]; decide)).2.2.2.2]
        exact l5 j hj2
  · obtain ⟨-, -, -, -, -, -, -, l4, -⟩ := (hs k hk).2 gk
    rcases l4 with l4 | ⟨l4, -⟩
    · rw [l4.1, hte] at e
      omega
    · exact (hj k j hk hj4 gk gj hne).2 l4
  · rw [(hag _ (nz (zk_lv0 (show 5 ≤ 5 by decide)))).2.2.2.2]
    exact (hp p hp4).1 e
  · rw [(hag _ (nz (zk_lv0 (show 5 ≤ 5 by decide)))).2.2.2.2, (hag _ (nz (zk_lv3 hp4 e))).2.2.2.2]
    exact (hp p hp4).2 e
  · rw [(hag _ (nz (zk_lvp hk gk h1 h2))).2.2.2.2]
    exact hq.1 k x hk gk h1 h2
  · rw [(hag _ (nz (zk_lv6 (by decide) e))).2.2.2.2]
    exact hq.2 e
  · rw [(hag _ xz).2.2.2.2]
    rcases hf with hf | ⟨f0, fp, ft, f1, f2, f3, f4, f5, f6, f7, f8, f9⟩
    · exact Or.inl hf
    · obtain ⟨b1, b2, b3, b4, b5⟩ := hag fp (by rw [f2]; decide)
      obtain ⟨d1, d2, d3, d4, d5⟩ := hag ft (by rw [f4]; decide)
      exact Or.inr ⟨f0, fp, ft, f1, by rw [b1]; exact f2, by rw [b5]; exact f3, by rw [d1]; exact f4, f5, by rw [d2]; exact f6, by rw [b3]; exact f7, by rw [b3]; exact f8, by rw [d3]; exact f9⟩
theorem zk_lv_96 {r : Nat} (h6 : g 6 0 = 0) (h : zk_lv g r) : r ≠ 96 ∧ r ≠ 97 := by
  rcases h with h | ⟨h1, h2, -⟩ | ⟨h1, h2, -⟩ | ⟨h1, h2, -⟩ | ⟨h1, h2, h3⟩ | ⟨h1, -⟩
  · omega
  · omega
  · omega
  · omega
  · exact absurd h6 h3
  · omega
theorem zk_lv_pd {n r : Nat} (h : zk_lv (zu (zu g 6 0 1) 4 97 n) r) : zk_lv g r ∨ r = 96 ∨ r = 97 := by
  unfold zk_lv at h
  rw [zu_ne _ _ _ (show (0 : Nat) ≠ 4 by decide), zu_ne _ _ _ (show (0 : Nat) ≠ 6 by decide), zu_ne _ _ _ (show (1 : Nat) ≠ 4 by decide), zu_ne _ _ _ (show (1 : Nat) ≠ 6 by decide), zu_ne _ _ _ (show (2 : Nat) ≠ 4 by decide), zu_ne _ _ _ (show (2 : Nat) ≠ 6 by decide), zu_ne _ _ _ (show (3 : Nat) ≠ 4 by decide), zu_ne _ _ _ (show (3 : Nat) ≠ 6 by decide)] at h
  rcases h with h | h | h | h | ⟨h1, h2, h3⟩ | h
  · exact Or.inl (Or.inl h)
  · exact Or.inl (Or.inr (Or.inl h))
  · exact Or.inl (Or.inr (Or.inr (Or.inl h)))
  · exact Or.inl (Or.inr (Or.inr (Or.inr (Or.inl h))))
  · exact Or.inr (by omega)
  · exact Or.inl (Or.inr (Or.inr (Or.inr (Or.inr (Or.inr h)))))
theorem zk_n_pd {n r : Nat} (h : r ≠ 97) : zk_n (zu (zu g 6 0 1) 4 97 n) r = zk_n g r := by
  unfold zk_n
  rw [zu_k _ _ _ _ h, zu_ne _ _ _ (show (4 : Nat) ≠ 6 by decide)]
/-- a packet that is in no list gets rows of its own -/
theorem zkR_pd {P T n : Nat} (h : zkR X te A ea c d g kd ln I L R) (h6 : g 6 0 = 0) (h39 : ∀ p, p < 4 → g 3 p ≤ 4) (kP : kd P = 4) (kT : kd T = 102) (nT : ln T = n) (rP : R P 1 = some T) (hP : ∀ r, zk_lv g r → A r ≠ P) (hT : ∀ r, zk_lv g r → A r ≠ T) : zkR X te (va_up (va_up A 96 P) 97 T) ea (va_up (va_up c 96 (I P)) 97 (I T)) (va_up (va_up d 96 (L P)) 97 (L T)) (zu (zu g 6 0 1) 4 97 n) kd ln I L R := by
  have h0 := h
  obtain ⟨t1, t2, hx, hm, hs, hj, hp, hq, hf⟩ := h
  have hPT : P ≠ T := fun e => by rw [e, kT] at kP; omega
  have A0 : ∀ {r}, r ≠ 96 → r ≠ 97 → va_up (va_up A 96 P) 97 T r = A r := fun {r} h1 h2 => by rw [va_up_ne _ _ h2, va_up_ne _ _ h1]
  have c0 : ∀ {r}, r ≠ 96 → r ≠ 97 → va_up (va_up c 96 (I P)) 97 (I T) r = c r := fun {r} h1 h2 => by rw [va_up_ne _ _ h2, va_up_ne _ _ h1]
  have d0 : ∀ {r}, r ≠ 96 → r ≠ 97 → va_up (va_up d 96 (L P)) 97 (L T) r = d r := fun {r} h1 h2 => by rw [va_up_ne _ _ h2, va_up_ne _ _ h1]
  have A96 : va_up (va_up A 96 P) 97 T 96 = P := by rw [va_up_ne _ _ (by decide), va_up_self]
  have A97 : va_up (va_up A 96 P) 97 T 97 = T := va_up_self _ _ _
  have g0 : zu (zu g 6 0 1) 4 97 n 0 = g 0 := by rw [zu_ne _ _ _ (by decide), zu_ne _ _ _ (by decide)]
  have g1 : zu (zu g 6 0 1) 4 97 n 1 = g 1 := by rw [zu_ne _ _ _ (by decide), zu_ne _ _ _ (by decide)]
  have g2 : zu (zu g 6 0 1) 4 97 n 2 = g 2 := by rw [zu_ne _ _ _ (by decide), zu_ne _ _ _ (by decide)]
  have g3 : zu (zu g 6 0 1) 4 97 n 3 = g 3 := by rw [zu_ne _ _ _ (by decide), zu_ne _ _ _ (by decide)]
  have g5 : zu (zu g 6 0 1) 4 97 n 5 = g 5 := by rw [zu_ne _ _ _ (by decide), zu_ne _ _ _ (by decide)]
  have g4 : zu (zu g 6 0 1) 4 97 n 4 91 = g 4 91 := by rw [zu_k _ _ _ _ (by decide), zu_ne _ _ _ (by decide)]
  have B : ∀ {r}, r < 90 → va_up (va_up A 96 P) 97 T r = A r := fun {r} h1 => A0 (by omega) (by omega)
  refine ⟨fun r hr => ?_, fun r s hr hs2 e => ?_, ?_, ?_, fun k hk => ?_, fun k j hk hj4 gk gj hne => ?_, fun p hp4 => ?_, ⟨fun k x hk gk h1 h2 => ?_, fun _ => by rw [A96, A97]; exact rP⟩, ?_⟩
  · rcases zk_lv_pd hr with hr | rfl | rfl
    · obtain ⟨n1, n2⟩ := zk_lv_96 h6 hr
      rw [A0 n1 n2, c0 n1 n2, d0 n1 n2, zk_n_pd n2]
      exact t1 r hr
    · rw [A96, va_up_ne _ _ (show (96 : Nat) ≠ 97 by decide), va_up_self, va_up_ne _ _ (show (96 : Nat) ≠ 97 by decide), va_up_self]
      exact ⟨kP, rfl, rfl, fun e => absurd e (by decide)⟩
    · rw [A97, va_up_self, va_up_self]
      refine ⟨kT, rfl, rfl, fun _ => ?_⟩
      rw [nT]
      show n = zu (zu g 6 0 1) 4 97 n 4 97
      rw [zu_self]
  · rcases zk_lv_pd hr with hr | rfl | rfl
    · obtain ⟨n1, n2⟩ := zk_lv_96 h6 hr
      rcases zk_lv_pd hs2 with hs2 | rfl | rfl
      · obtain ⟨n3, n4⟩ := zk_lv_96 h6 hs2
        rw [A0 n1 n2, A0 n3 n4] at e
        exact t2 r s hr hs2 e
      · rw [A0 n1 n2, A96] at e
        exact absurd e (hP r hr)
      · rw [A0 n1 n2, A97] at e
        exact absurd e (hT r hr)
    · rcases zk_lv_pd hs2 with hs2 | rfl | rfl
      · obtain ⟨n3, n4⟩ := zk_lv_96 h6 hs2
        rw [A0 n3 n4, A96] at e
        exact absurd e.symm (hP s hs2)
      · rfl
      · rw [A96, A97] at e
        exact absurd e hPT
    · rcases zk_lv_pd hs2 with hs2 | rfl | rfl
      · obtain ⟨n3, n4⟩ := zk_lv_96 h6 hs2
        rw [A0 n3 n4, A97] at e
        exact absurd e.symm (hT s hs2)
      · rw [A96, A97] at e
        exact absurd e.symm hPT
      · rfl
  · rw [B (by omega), B (by omega), B (by omega), B (by omega), d0 (by decide) (by decide)]
    exact hx
  · rw [B (by omega), B (by omega), B (by omega)]
    exact hm
  · rw [g0, B (by omega), B (by omega), B (by omega), B (by omega), B (by omega)]
    refine ⟨(hs k hk).1, fun e => ?_⟩
    obtain ⟨a1, a2, a3, a4, l1, l2, l3, l4, l5⟩ := (hs k hk).2 e
    refine ⟨a1, a2, a3, a4, ?_, ?_, ?_, ?_, ?_⟩
    · rw [B (by omega)]
      exact l1
    · rw [B (by omega), g1, g2]
      exact l2
    · rw [B (by omega)]
      exact l3
    · rw [g1, g2]
      exact l4
    · rw [g1, g2]
      intro j hj2
      rw [A0 (by unfold zk_p; omega) (by unfold zk_p; omega)]
      exact l5 j hj2
  · rw [g0] at gk gj
    rw [B (by omega), B (by omega)]
    exact hj k j hk hj4 gk gj hne
  · rw [g3, B (by omega), B (by omega)]
    refine ⟨(hp p hp4).1, fun e => ?_⟩
    obtain ⟨b1, b2⟩ := (hp p hp4).2 e
    refine ⟨b1, ?_⟩
    rw [B (by have := h39 p hp4; omega)]
    exact b2
  · rw [g0] at gk
    rw [g1] at h1
    rw [g2] at h2
    rw [A0 (by unfold zk_p; omega) (by unfold zk_p; omega), A0 (by unfold zk_p; omega) (by unfold zk_p; omega)]
    exact hq.1 k x hk gk h1 h2
  · rw [g5, g4, B (by omega), c0 (by decide) (by decide), c0 (by decide) (by decide)]
    exact hf
def zk_adA (A : Nat → Nat) (k x : Nat) : Nat → Nat := va_up (va_up A (zk_p k x) (A 96)) (zk_p k x + 1) (A 97)
def zk_ad2 {α : Type} (c : Nat → Nat → α) (k x : Nat) : Nat → Nat → α := va_up (va_up c (zk_p k x) (c 96)) (zk_p k x + 1) (c 97)
def zk_adg (g : Nat → Nat → Nat) (k : Nat) : Nat → Nat → Nat := zu (zu (zu g 2 k (g 2 k + 1)) 4 (zk_p k (g 2 k) + 1) (g 4 97)) 6 0 0
theorem zk_ad2_lo {α : Type} {c : Nat → Nat → α} {k x r : Nat} (h : r < 100) : zk_ad2 c k x r = c r := by
  unfold zk_ad2
  rw [va_up_ne _ _ (by unfold zk_p; omega), va_up_ne _ _ (by unfold zk_p; omega)]
theorem zk_ad2_0 {α : Type} {c : Nat → Nat → α} {k x : Nat} : zk_ad2 c k x (zk_p k x) = c 96 := by
  unfold zk_ad2
  rw [va_up_ne _ _ (by omega), va_up_self]
theorem zk_ad2_1 {α : Type} {c : Nat → Nat → α} {k x : Nat} : zk_ad2 c k x (zk_p k x + 1) = c 97 := va_up_self _ _ _
theorem zk_ad2_ne {α : Type} {c : Nat → Nat → α} {k x r : Nat} (h1 : r ≠ zk_p k x) (h2 : r ≠ zk_p k x + 1) : zk_ad2 c k x r = c r := by
  unfold zk_ad2
  rw [va_up_ne _ _ h2, va_up_ne _ _ h1]
theorem zk_lv_ad {k r : Nat} (hk : k < 4) (h : zk_lv (zk_adg g k) r) : (zk_lv g r ∧ r ≠ 96 ∧ r ≠ 97 ∧ r ≠ zk_p k (g 2 k) ∧ r ≠ zk_p k (g 2 k) + 1) ∨ r = zk_p k (g 2 k) ∨ r = zk_p k (g 2 k) + 1 := by
  unfold zk_lv zk_adg at h
  rw [zu_ne _ _ _ (show (0 : Nat) ≠ 6 by decide), zu_ne _ _ _ (show (0 : Nat) ≠ 4 by decide), zu_ne _ _ _ (show (0 : Nat) ≠ 2 by decide), zu_ne _ _ _ (show (1 : Nat) ≠ 6 by decide), zu_ne _ _ _ (show (1 : Nat) ≠ 4 by decide), zu_ne _ _ _ (show (1 : Nat) ≠ 2 by decide), zu_ne _ _ _ (show (2 : Nat) ≠ 6 by decide), zu_ne _ _ _ (show (2 : Nat) ≠ 4 by decide), zu_ne _ _ _ (show (3 : Nat) ≠ 6 by decide), zu_ne _ _ _ (show (3 : Nat) ≠ 4 by decide), zu_ne _ _ _ (show (3 : Nat) ≠ 2 by decide), zu_self] at h
  rcases h with h | h | h | h | ⟨h1, h2, h3⟩ | ⟨h1, h2, h3, h4⟩
  · exact Or.inl ⟨Or.inl h, by unfold zk_p; omega⟩
  · exact Or.inl ⟨Or.inr (Or.inl h), by unfold zk_p; omega⟩
  · exact Or.inl ⟨Or.inr (Or.inr (Or.inl h)), by unfold zk_p; omega⟩
  · exact Or.inl ⟨Or.inr (Or.inr (Or.inr (Or.inl h))), by unfold zk_p; omega⟩
  · exact absurd rfl h3
  · by_cases e : (r - 100) % 8 / 2 = k
    · rw [e] at h2 h3 h4
      rw [zu_self] at h4
      by_cases e2 : (r - 100) / 8 = g 2 k
      · refine Or.inr ?_
        unfold zk_p
        omega
      · refine Or.inl ⟨Or.inr (Or.inr (Or.inr (Or.inr (Or.inr ⟨h1, by rw [e]; exact h2, by rw [e]; exact h3, by rw [e]; omega⟩)))), ?_⟩
        unfold zk_p
        omega
    · rw [zu_k _ _ _ _ e] at h4
      refine Or.inl ⟨Or.inr (Or.inr (Or.inr (Or.inr (Or.inr ⟨h1, h2, h3, h4⟩)))), ?_⟩
      unfold zk_p
      omega
theorem zk_n_ad {k r : Nat} (h : r ≠ zk_p k (g 2 k) + 1) : zk_n (zk_adg g k) r = zk_n g r := by
  unfold zk_n zk_adg
  rw [zu_ne _ _ _ (show (4 : Nat) ≠ 6 by decide), zu_k _ _ _ _ h, zu_ne _ _ _ (show (4 : Nat) ≠ 2 by decide)]
/-- the packet of rows 96 and 97 comes to the end of store k's list -/
theorem zkR_ad {kd1 ln1 : Nat → Nat} {I1 : Nat → Nat → Int32} {L1 : Nat → Nat → Int64} {R1 : Nat → Nat → Option Nat} {k q : Nat} (h : zkR X te A ea c d g kd ln I L R) (h6 : g 6 0 ≠ 0) (h39 : ∀ p, p < 4 → g 3 p ≤ 4) (hk : k < 4) (hg : g 0 k ≠ 0) (hlo : g 1 k ≤ g 2 k) (hte : kd1 te = 0)
    (p1 : R1 (A (40 + k)) 0 = some q) (p2 : kd1 q = 104) (p3 : g 2 k - g 1 k < ln1 q) (p4 : ln1 q ≤ 1500) (p5 : q = ea k ∨ kd q = 0) (p6 : ∀ a, a ≠ q → kd1 a = kd a ∧ ln1 a = ln a ∧ L1 a = L a) (p7 : ∀ a, a ≠ q → a ≠ A (40 + k) → I1 a = I a ∧ R1 a = R a) (p9 : I1 (A (40 + k)) 1 = nI (g 2 k - g 1 k + 1)) (p11 : ∀ j, j < g 2 k - g 1 k → R1 q j = R (ea k) j) (p12 : R1 q (g 2 k - g 1 k) = some (A 96)) :
    zkR X te (zk_adA A k (g 2 k)) (va_up ea k q) (zk_ad2 c k (g 2 k)) (zk_ad2 d k (g 2 k)) (zk_adg g k) kd1 ln1 I1 L1 R1 := by
  have h0 := h
  have nz := fun {r} hr => zkR_nz h (r := r) hr
  have hst := zkR_st h0 hk hg
  have hl6 : kd (A (40 + k)) = 6 := hst.2.2.2.2.1
  obtain ⟨t1, t2, hx, hm, hs, hj, hp, hq, hf0⟩ := h
  have hf := fun (_ : Unit) => hf0
  clear hf0
  -- q is none of the cells that stand
  have qk : kd q = 0 ∨ (kd q = 104 ∧ q = ea k) := by
    rcases p5 with e | e
    · rcases hst.2.2.2.2.2.2.2.1 with l4 | l4
      · rw [e, l4.1, hte] at p2
        omega
      · exact Or.inr ⟨by rw [e]; exact l4.1, e⟩
    · exact Or.inl e
  have nq : ∀ {a}, kd a ≠ 0 → kd a ≠ 104 → a ≠ q := fun {a} h1 h2 e => by
    rw [e] at h1 h2
    rcases qk with q1 | q1
    · exact h1 q1
    · exact h2 q1.1
  have lvq : ∀ {r}, zk_lv g r → A r ≠ q := fun {r} hr => nq (nz hr) (by
    rw [(t1 r hr).1]
    have := zk_k_in r
    omega)
  have lva : ∀ {r}, zk_lv g r → A r ≠ A (40 + k) := fun {r} hr => Ne.symm (zkR_ane h0 hr hk hg)
  have fx : ∀ {a}, kd a ≠ 0 → kd a ≠ 104 → kd a ≠ 6 → kd1 a = kd a ∧ ln1 a = ln a ∧ L1 a = L a ∧ I1 a = I a ∧ R1 a = R a := fun {a} h1 h2 h3 => by
    have e1 := nq h1 h2
    have e2 : a ≠ A (40 + k) := fun e => h3 (by rw [e]; exact hl6)
    exact ⟨(p6 a e1).1, (p6 a e1).2.1, (p6 a e1).2.2, (p7 a e1 e2).1, (p7 a e1 e2).2⟩
  have fr : ∀ {r}, zk_lv g r → kd1 (A r) = kd (A r) ∧ ln1 (A r) = ln (A r) ∧ L1 (A r) = L (A r) ∧ I1 (A r) = I (A r) ∧ R1 (A r) = R (A r) := fun {r} hr => fx (nz hr) (by rw [(t1 r hr).1]; have := zk_k_in r; omega) (by rw [(t1 r hr).1]; have := zk_k_in r; omega)
  have fX := fx (a := X) (by rw [hx.1]; decide) (by rw [hx.1]; decide) (by rw [hx.1]; decide)
  have B : ∀ {r}, r < 100 → zk_adA A k (g 2 k) r = A r := fun {r} h1 => by
    unfold zk_adA
    rw [va_up_ne _ _ (by unfold zk_p; omega), va_up_ne _ _ (by unfold zk_p; omega)]
  have B0 : zk_adA A k (g 2 k) (zk_p k (g 2 k)) = A 96 := by
    unfold zk_adA
    rw [va_up_ne _ _ (by omega), va_up_self]
  have B1 : zk_adA A k (g 2 k) (zk_p k (g 2 k) + 1) = A 97 := va_up_self _ _ _
  have Bn : ∀ {r}, r ≠ zk_p k (g 2 k) → r ≠ zk_p k (g 2 k) + 1 → zk_adA A k (g 2 k) r = A r := fun {r} h1 h2 => by
    unfold zk_adA
    rw [va_up_ne _ _ h2, va_up_ne _ _ h1]
  have g0 : zk_adg g k 0 = g 0 := by unfold zk_adg; rw [zu_ne _ _ _ (by decide), zu_ne _ _ _ (by decide), zu_ne _ _ _ (by decide)]
  have g1 : zk_adg g k 1 = g 1 := by unfold zk_adg; rw [zu_ne _ _ _ (by decide), zu_ne _ _ _ (by decide), zu_ne _ _ _ (by decide)]
  have g2 : zk_adg g k 2 = zu g 2 k (g 2 k + 1) 2 := by unfold zk_adg; rw [zu_ne _ _ _ (by decide), zu_ne _ _ _ (by decide)]
  have g3 : zk_adg g k 3 = g 3 := by unfold zk_adg; rw [zu_ne _ _ _ (by decide), zu_ne _ _ _ (by decide), zu_ne _ _ _ (by decide)]
  have g5 : zk_adg g k 5 = g 5 := by unfold zk_adg; rw [zu_ne _ _ _ (by decide), zu_ne _ _ _ (by decide), zu_ne _ _ _ (by decide)]
  have g6 : zk_adg g k 6 0 = 0 := zu_self _ _ _ _
  have g4 : zk_adg g k 4 91 = g 4 91 := by unfold zk_adg; rw [zu_ne _ _ _ (by decide), zu_k _ _ _ _ (by unfold zk_p; omega), zu_ne _ _ _ (by decide)]
  have h96 : zk_lv g 96 := zk_lv6 (by decide) h6
  have h97 : zk_lv g 97 := zk_lv6 (by decide) h6
  refine ⟨fun r hr => ?_, fun r s hr hs2 e => ?_, ?_, ?_, fun j hj4 => ?_, fun a b ha hb ga gb hne => ?_, fun p hp4 => ?_, ⟨fun j x hj4 gj h1 h2 => ?_, fun e => absurd g6 e⟩, ?_⟩
  · rcases zk_lv_ad hk hr with ⟨hr, n1, n2, n3, n4⟩ | rfl | rfl
    · obtain ⟨b1, b2, b3, b4, b5⟩ := fr hr
      rw [Bn n3 n4, zk_ad2_ne n3 n4, zk_ad2_ne n3 n4, zk_n_ad n4, b1, b2, b3, b4]
      exact t1 r hr
    · obtain ⟨b1, b2, b3, b4, b5⟩ := fr h96
      rw [B0, zk_ad2_0, zk_ad2_0, b1, b3, b4]
      obtain ⟨c1, c2, c3, c4⟩ := t1 96 h96
      refine ⟨by rw [c1, zk_kp]; rfl, c2, c3, fun e => ?_⟩
      rw [zk_kp] at e
      omega
    · obtain ⟨b1, b2, b3, b4, b5⟩ := fr h97
      rw [B1, zk_ad2_1, zk_ad2_1, b1, b2, b3, b4]
      obtain ⟨c1, c2, c3, c4⟩ := t1 97 h97
      refine ⟨by rw [c1, zk_kt]; rfl, c2, c3, fun e => ?_⟩
      rw [c4 (by decide), zk_np]
      unfold zk_adg
      rw [zu_ne _ _ _ (by decide), zu_self]
      rfl
  · have key : ∀ {r}, zk_lv (zk_adg g k) r → ∃ r0, zk_lv g r0 ∧ zk_adA A k (g 2 k) r = A r0 ∧ ((r0 = r ∧ r ≠ 96 ∧ r ≠ 97) ∨ (r0 = 96 ∧ r = zk_p k (g 2 k)) ∨ (r0 = 97 ∧ r = zk_p k (g 2 k) + 1)) := fun {r} hr => by
      rcases zk_lv_ad hk hr with ⟨hr, n1, n2, n3, n4⟩ | rfl | rfl
      · exact ⟨r, hr, Bn n3 n4, Or.inl ⟨rfl, n1, n2⟩⟩
      · exact ⟨96, h96, B0, Or.inr (Or.inl ⟨rfl, rfl⟩)⟩
      · exact ⟨97, h97, B1, Or.inr (Or.inr ⟨rfl, rfl⟩)⟩
    obtain ⟨r0, e1, e2, e3⟩ := key hr
    obtain ⟨s0, f1, f2, f3⟩ := key hs2
    rw [e2, f2] at e
    have := t2 r0 s0 e1 f1 e
    omega
  · rw [fX.1, fX.2.2.2.2, fX.2.2.1, B (by omega), B (by omega), B (by omega), B (by omega), zk_ad2_lo (by decide)]
    exact hx
  · rw [B (by omega), B (by omega), B (by omega), (fr (zk_lv0 (show 0 ≤ 5 by decide))).2.2.2.2]
    exact hm
  · rw [g0, B (by omega), B (by omega), B (by omega), B (by omega), B (by omega), (fr (zk_lv0 (show 4 ≤ 5 by decide))).2.2.2.2]
    refine ⟨(hs j hj4).1, fun e => ?_⟩
    obtain ⟨a1, a2, a3, a4, l1, l2, l3, l4, l5⟩ := (hs j hj4).2 e
    rw [(fr (zk_lv1 hj4 e)).2.2.2.2]
    refine ⟨a1, a2, a3, a4, ?_, ?_, ?_, ?_, ?_⟩
    · rw [B (by omega), (p6 _ (nq (by rw [l1]; decide) (by rw [l1]; decide))).1]
      exact l1
    · rw [B (by omega), g1, g2]
      by_cases ej : j = k
      · rw [ej, zu_self, p9]
        congr 1
        omega
      · rw [zu_k _ _ _ _ ej, (p7 _ (nq (by rw [l1]; decide) (by rw [l1]; decide)) (hj j k hj4 hk e hg ej).1).1]
        exact l2
    · rw [B (by omega)]
      by_cases ej : j = k
      · rw [ej, va_up_self]
        exact p1
      · rw [va_up_ne _ _ ej, (p7 _ (nq (by rw [l1]; decide) (by rw [l1]; decide)) (hj j k hj4 hk e hg ej).1).2]
        exact l3
    · rw [g1, g2]
      by_cases ej : j = k
      · rw [ej, va_up_self, zu_self]
        exact Or.inr ⟨p2, by omega, p4, by omega⟩
      · rw [va_up_ne _ _ ej, zu_k _ _ _ _ ej]
        rcases l4 with l4 | l4
        · exact Or.inl l4
        · have hne : ea j ≠ q := fun e9 => by
            rcases qk with q1 | q1
            · rw [← e9, l4.1] at q1
              omega
            · exact (hj j k hj4 hk e hg ej).2 l4.1 (e9.trans q1.2)
          rw [(p6 _ hne).1, (p6 _ hne).2.1]
          exact Or.inr l4
    · rw [g1, g2]
      by_cases ej : j = k
      · rw [ej, va_up_self, zu_self]
        rw [ej] at l5
        intro i hi
        by_cases ei : i = g 2 k - g 1 k
        · rw [ei, p12, show g 1 k + (g 2 k - g 1 k) = g 2 k by omega, B0]
        · rw [p11 i (by omega), l5 i (by omega), Bn (by unfold zk_p; omega) (by unfold zk_p; omega)]
      · rw [va_up_ne _ _ ej, zu_k _ _ _ _ ej]
        intro i hi
        have l4b : kd (ea j) = 104 := by
          rcases l4 with l4 | l4
          · omega
          · exact l4.1
        have hne : ea j ≠ q := fun e9 => by
          rcases qk with q1 | q1
          · rw [← e9, l4b] at q1
            omega
          · exact (hj j k hj4 hk e hg ej).2 l4b (e9.trans q1.2)
        rw [(p7 _ hne (fun e9 => by rw [e9, hl6] at l4b; omega)).2, l5 i hi, Bn (by unfold zk_p; omega) (by unfold zk_p; omega)]
  · rw [g0] at ga gb
    rw [B (by omega), B (by omega)]
    refine ⟨(hj a b ha hb ga gb hne).1, fun e => ?_⟩
    have side : ∀ j, j < 4 → g 0 j ≠ 0 → j ≠ k → ea j ≠ q := fun j hj4 gj ej e9 => by
      rcases qk with q1 | q1
      · rcases ((hs j hj4).2 gj).2.2.2.2.2.2.2.1 with l4 | l4
        · rw [← e9, l4.1, hte] at p2
          omega
        · rw [← e9, l4.1] at q1
          omega
      · rcases ((hs j hj4).2 gj).2.2.2.2.2.2.2.1 with l4 | l4
        · rw [← e9, l4.1, hte] at p2
          omega
        · exact (hj j k hj4 hk gj hg ej).2 l4.1 (e9.trans q1.2)
    by_cases ea1 : a = k
    · rw [ea1, va_up_self, va_up_ne _ _ (fun q9 => hne (ea1.trans q9.symm))]
      exact fun q9 => side b hb gb (fun q8 => hne (ea1.trans q8.symm)) q9.symm
    · by_cases eb1 : b = k
      · rw [eb1, va_up_self, va_up_ne _ _ ea1]
        exact side a ha ga ea1
      · rw [va_up_ne _ _ ea1, va_up_ne _ _ eb1]
        rw [va_up_ne _ _ ea1] at e
        refine (hj a b ha hb ga gb hne).2 ?_
        rw [← (p6 _ (side a ha ga ea1)).1]
        exact e
  · rw [g3, B (by omega), B (by omega), B (by have := h39 p hp4; omega), (fr (zk_lv0 (show 5 ≤ 5 by decide))).2.2.2.2]
    refine ⟨(hp p hp4).1, fun e => ?_⟩
    rw [(fr (zk_lv3 hp4 e)).2.2.2.2]
    exact (hp p hp4).2 e
  · rw [g0] at gj
    rw [g1] at h1
    rw [g2] at h2
    by_cases e : j = k ∧ x = g 2 k
    · rw [e.1, e.2, B0, B1, (fr h96).2.2.2.2]
      exact hq.2 h6
    · have h3 : x < g 2 j := by
        by_cases ej : j = k
        · rw [ej, zu_self] at h2
          rw [ej]
          have : x ≠ g 2 k := fun q9 => e ⟨ej, q9⟩
          omega
        · rw [zu_k _ _ _ _ ej] at h2
          exact h2
      have hne : zk_p j x ≠ zk_p k (g 2 k) := fun q9 => e (by unfold zk_p at q9; omega)
      rw [Bn hne (by unfold zk_p; omega), Bn (by unfold zk_p; omega) (by unfold zk_p at hne ⊢; omega), (fr (zk_lvp hj4 gj h1 h3)).2.2.2.2]
      exact hq.1 j x hj4 gj h1 h3
  · rw [g5, g4, B (by omega), zk_ad2_lo (by decide), zk_ad2_lo (by decide), fX.2.2.2.2]
    rcases hf () with hf | ⟨f0, fp, ft, f1, f2, f3, f4, f5, f6, f7, f8, f9⟩
    · exact Or.inl hf
    · have b := fx (a := fp) (by rw [f2]; decide) (by rw [f2]; decide) (by rw [f2]; decide)
      have b2 := fx (a := ft) (by rw [f4]; decide) (by rw [f4]; decide) (by rw [f4]; decide)
      exact Or.inr ⟨f0, fp, ft, f1, by rw [b.1]; exact f2, by rw [b.2.2.2.2]; exact f3, by rw [b2.1]; exact f4, f5, by rw [b2.2.1]; exact f6, by rw [b.2.2.2.1]; exact f7, by rw [b.2.2.2.1]; exact f8, by rw [b2.2.2.2.1]; exact f9⟩
end ZKF
