section ZKM
variable {X te : Nat} {A ea : Nat → Nat} {c : Nat → Nat → Int32} {d : Nat → Nat → Int64} {g : Nat → Nat → Nat} {kd ln : Nat → Nat} {I : Nat → Nat → Int32} {L : Nat → Nat → Int64} {R : Nat → Nat → Option Nat}
theorem zk_lv_pw {p v r : Nat} (h : zk_lv (zu g 3 p v) r) : (zk_lv g r ∧ r ≠ 30 + p) ∨ r = 30 + p := by
  by_cases e0 : r = 30 + p
  · exact Or.inr e0
  refine Or.inl ⟨?_, e0⟩
  unfold zk_lv at h
  rw [zu_ne _ _ _ (show (0 : Nat) ≠ 3 by decide), zu_ne _ _ _ (show (1 : Nat) ≠ 3 by decide), zu_ne _ _ _ (show (2 : Nat) ≠ 3 by decide), zu_ne _ _ _ (show (6 : Nat) ≠ 3 by decide)] at h
  rcases h with h | h | h | ⟨h1, h2, h3⟩ | h | h
  · exact Or.inl h
  · exact Or.inr (Or.inl h)
  · exact Or.inr (Or.inr (Or.inl h))
  · rw [zu_k _ _ _ _ (by omega)] at h3
    exact Or.inr (Or.inr (Or.inr (Or.inl ⟨h1, h2, h3⟩)))
  · exact Or.inr (Or.inr (Or.inr (Or.inr (Or.inl h))))
  · exact Or.inr (Or.inr (Or.inr (Or.inr (Or.inr h))))
/-- a playback begins -/
theorem zkR_pw {p k Q : Nat} (h : zkR X te A ea c d g kd ln I L R) (hp4 : p < 4) (hk4 : k < 4) (hgp : g 3 p = 0) (h39 : ∀ p, p < 4 → g 3 p ≤ 4) (kQ : kd Q = 5) (rQ : R Q 4 = some (A (10 + k))) (hQ : ∀ r, zk_lv g r → A r ≠ Q) : zkR X te (va_up A (30 + p) Q) ea (va_up c (30 + p) (I Q)) (va_up d (30 + p) (L Q)) (zu g 3 p (k + 1)) kd ln I L (zu R (A 5) p (some Q)) := by
  have h0 := h
  obtain ⟨oX, oL, oK, oF⟩ := zkR_off h (r := 5) (j := p) (Or.inr rfl) (some Q)
  obtain ⟨t1, t2, hx, hm, hs, hj, hp, hq, hf⟩ := h
  have A0 : ∀ {r}, r ≠ 30 + p → va_up A (30 + p) Q r = A r := fun {r} h1 => va_up_ne _ _ h1
  have AQ : va_up A (30 + p) Q (30 + p) = Q := va_up_self _ _ _
  have nQ : zu R (A 5) p (some Q) Q = R Q := zu_ne _ _ _ (fun e => hQ 5 (zk_lv0 (by decide)) e.symm)
  have g0 : zu g 3 p (k + 1) 0 = g 0 := zu_ne _ _ _ (by decide)
  have g1 : zu g 3 p (k + 1) 1 = g 1 := zu_ne _ _ _ (by decide)
  have g2 : zu g 3 p (k + 1) 2 = g 2 := zu_ne _ _ _ (by decide)
  have g4 : zu g 3 p (k + 1) 4 = g 4 := zu_ne _ _ _ (by decide)
  have g5 : zu g 3 p (k + 1) 5 = g 5 := zu_ne _ _ _ (by decide)
  have g6 : zu g 3 p (k + 1) 6 = g 6 := zu_ne _ _ _ (by decide)
  refine ⟨fun r hr => ?_, fun r s hr hs2 e => ?_, ?_, ?_, fun j hj4 => ?_, fun a b ha hb ga gb hne => ?_, fun j hj4 => ⟨fun e => ?_, fun e => ?_⟩, ⟨fun j x hj4 gj h1 h2 => ?_, fun e => ?_⟩, ?_⟩
  · rcases zk_lv_pw hr with ⟨hr, n1⟩ | rfl
    · rw [A0 n1, va_up_ne _ _ n1, va_up_ne _ _ n1, zk_n_g (congrFun g4 r)]
      exact t1 r hr
    · rw [AQ, va_up_self, va_up_self, zk_k3 hp4]
      exact ⟨kQ, rfl, rfl, fun e => absurd e (by decide)⟩
  · rcases zk_lv_pw hr with ⟨hr, n1⟩ | rfl
    · rcases zk_lv_pw hs2 with ⟨hs2, n2⟩ | rfl
      · rw [A0 n1, A0 n2] at e
        exact t2 r s hr hs2 e
      · rw [A0 n1, AQ] at e
        exact absurd e (hQ r hr)
    · rcases zk_lv_pw hs2 with ⟨hs2, n2⟩ | rfl
      · rw [AQ, A0 n2] at e
        exact absurd e.symm (hQ s hs2)
      · rfl
  · rw [oX, A0 (by omega), A0 (by omega), A0 (by omega), A0 (by omega), va_up_ne _ _ (by omega)]
    exact hx
  · rw [A0 (by omega), A0 (by omega), A0 (by omega), oL 0 (zk_lv0 (by decide)) (by decide)]
    exact hm
  · rw [g0, A0 (show 4 ≠ 30 + p by omega), A0 (show 10 + j ≠ 30 + p by omega), A0 (show 20 + j ≠ 30 + p by omega), A0 (show 40 + j ≠ 30 + p by omega), A0 (show 0 ≠ 30 + p by omega), oL 4 (zk_lv0 (by decide)) (by decide)]
    refine ⟨(hs j hj4).1, fun e => ?_⟩
    obtain ⟨a1, a2, a3, a4, l1, l2, l3, l4, l5⟩ := (hs j hj4).2 e
    rw [oL (10 + j) (zk_lv1 hj4 e) (by omega)]
    refine ⟨a1, a2, a3, a4, ?_, ?_, ?_, ?_, ?_⟩
    · rw [A0 (by omega)]
      exact l1
    · rw [A0 (by omega), g1, g2]
      exact l2
    · rw [A0 (by omega), (oK j hj4 e).1]
      exact l3
    · rw [g1, g2]
      exact l4
    · rw [g1, g2]
      intro i hi
      rw [A0 (by unfold zk_p; omega)]
      rcases l4 with l4 | l4
      · omega
      · rw [(oK j hj4 e).2 l4.1]
        exact l5 i hi
  · rw [g0] at ga gb
    rw [A0 (by omega), A0 (by omega)]
    exact hj a b ha hb ga gb hne
  · by_cases ej : j = p
    · rw [ej, zu_self] at e
      omega
    · rw [zu_k _ _ _ _ ej] at e
      rw [A0 (by omega), zu_k _ _ _ _ ej]
      exact (hp j hj4).1 e
  · by_cases ej : j = p
    · rw [ej, AQ, A0 (by omega), zu_self, nQ, zu_self, A0 (by omega)]
      refine ⟨rfl, ?_⟩
      rw [rQ, show 9 + (k + 1) = 10 + k by omega]
    · rw [zu_k _ _ _ _ ej] at e
      rw [A0 (show 5 ≠ 30 + p by omega), A0 (show 30 + j ≠ 30 + p by omega), zu_k _ _ _ _ ej, zu_k _ _ _ _ ej, oL (30 + j) (zk_lv3 hj4 e) (by omega), A0 (by have := h39 j hj4; omega)]
      exact (hp j hj4).2 e
  · rw [g0] at gj
    rw [g1] at h1
    rw [g2] at h2
    rw [A0 (by unfold zk_p; omega), A0 (by unfold zk_p; omega), oL _ (zk_lvp hj4 gj h1 h2) (by unfold zk_p; omega)]
    exact hq.1 j x hj4 gj h1 h2
  · rw [g6] at e
    rw [A0 (by omega), A0 (by omega), oL _ (zk_lv6 (by decide) e) (by decide)]
    exact hq.2 e
  · rw [oX, g5, g4, A0 (by omega), va_up_ne _ _ (by omega), va_up_ne _ _ (by omega)]
    rcases hf with hf | ⟨f0, fp, ft, f1, f2, f3, f4⟩
    · exact Or.inl hf
    · exact Or.inr ⟨f0, fp, ft, f1, f2, by rw [oF fp f2]; exact f3, f4⟩
def zk_swA (A : Nat → Nat) (k S C N : Nat) : Nat → Nat := va_up (va_up (va_up A (10 + k) S) (20 + k) C) (40 + k) N
def zk_sw2 {α : Type} (c : Nat → Nat → α) (k : Nat) (f f2 : Nat → α) : Nat → Nat → α := va_up (va_up c (10 + k) f) (20 + k) f2
def zk_swg (g : Nat → Nat → Nat) (k : Nat) : Nat → Nat → Nat := zu (zu (zu g 0 k 1) 1 k 0) 2 k 0
theorem zk_lv_sw {k r : Nat} (h : zk_lv (zk_swg g k) r) : (zk_lv g r ∧ r ≠ 10 + k ∧ r ≠ 20 + k) ∨ r = 10 + k ∨ r = 20 + k := by
  by_cases e0 : r = 10 + k ∨ r = 20 + k
  · exact Or.inr e0
  refine Or.inl ⟨?_, by omega⟩
  have h0 : zk_swg g k 0 = zu g 0 k 1 0 := by unfold zk_swg; rw [zu_ne _ _ _ (by decide), zu_ne _ _ _ (by decide)]
  have h1 : zk_swg g k 1 = zu (zu g 0 k 1) 1 k 0 1 := by unfold zk_swg; rw [zu_ne _ _ _ (by decide)]
  have h2 : zk_swg g k 2 k = 0 := zu_self _ _ _ _
  have h3 : zk_swg g k 3 = g 3 := by unfold zk_swg; rw [zu_ne _ _ _ (by decide), zu_ne _ _ _ (by decide), zu_ne _ _ _ (by decide)]
  have h6 : zk_swg g k 6 = g 6 := by unfold zk_swg; rw [zu_ne _ _ _ (by decide), zu_ne _ _ _ (by decide), zu_ne _ _ _ (by decide)]
  unfold zk_lv at h
  rw [h3, h6] at h
  rcases h with h | ⟨a1, a2, a3⟩ | ⟨a1, a2, a3⟩ | h | h | ⟨a1, a2, a3, a4⟩
  · exact Or.inl h
  · rw [h0, zu_k _ _ _ _ (by omega)] at a3
    exact Or.inr (Or.inl ⟨a1, a2, a3⟩)
  · rw [h0, zu_k _ _ _ _ (by omega)] at a3
    exact Or.inr (Or.inr (Or.inl ⟨a1, a2, a3⟩))
  · exact Or.inr (Or.inr (Or.inr (Or.inl h)))
  · exact Or.inr (Or.inr (Or.inr (Or.inr (Or.inl h))))
  · have hne : (r - 100) % 8 / 2 ≠ k := fun e => by rw [e, h2] at a4; omega
    rw [h0, zu_k _ _ _ _ hne] at a2
    rw [h1, zu_k _ _ _ _ hne, zu_ne _ _ _ (by decide)] at a3
    rw [show zk_swg g k 2 ((r - 100) % 8 / 2) = g 2 ((r - 100) % 8 / 2) by unfold zk_swg; rw [zu_k _ _ _ _ hne, zu_ne _ _ _ (by decide), zu_ne _ _ _ (by decide)]] at a4
    exact Or.inr (Or.inr (Or.inr (Or.inr (Or.inr ⟨a1, a2, a3, a4⟩))))
/-- a store begins -/
theorem zkR_sw0 {k S C N : Nat} (h : zkR X te A ea c d g kd ln I L R) (hk4 : k < 4) (hgk : g 0 k = 0) (h39 : ∀ p, p < 4 → g 3 p ≤ 4 ∧ g 3 p ≠ k + 1) (hte : kd te = 0) (kS : kd S = 3) (kC : kd C = 100) (nC : ln C = 40) (kN : kd N = 6) (iN : I N 1 = nI 0) (rN : R N 0 = some te) (r2 : R S 2 = some (A 0)) (r3 : R S 3 = some C) (r5 : R S 5 = some N) (hS : ∀ r, zk_lv g r → A r ≠ S) (hC : ∀ r, zk_lv g r → A r ≠ C) (hN : ∀ j, j < 4 → g 0 j ≠ 0 → A (40 + j) ≠ N) : zkR X te (zk_swA A k S C N) (va_up ea k te) (zk_sw2 c k (I S) (I C)) (zk_sw2 d k (L S) (L C)) (zk_swg g k) kd ln I L (zu R (A 4) k (some S)) := by
  obtain ⟨oX, oL, oK, oF⟩ := zkR_off h (r := 4) (j := k) (Or.inl rfl) (some S)
  obtain ⟨t1, t2, hx, hm, hs, hj, hp, hq, hf⟩ := h
  have hSC : S ≠ C := fun e => by rw [e, kC] at kS; omega
  have A0 : ∀ {r}, r ≠ 10 + k → r ≠ 20 + k → r ≠ 40 + k → zk_swA A k S C N r = A r := fun {r} h1 h2 h3 => by unfold zk_swA; rw [va_up_ne _ _ h3, va_up_ne _ _ h2, va_up_ne _ _ h1]
  have A1 : zk_swA A k S C N (10 + k) = S := by unfold zk_swA; rw [va_up_ne _ _ (by omega), va_up_ne _ _ (by omega), va_up_self]
  have A2 : zk_swA A k S C N (20 + k) = C := by unfold zk_swA; rw [va_up_ne _ _ (by omega), va_up_self]
  have A4 : zk_swA A k S C N (40 + k) = N := va_up_self _ _ _
  have c0 : ∀ {r}, r ≠ 10 + k → r ≠ 20 + k → zk_sw2 c k (I S) (I C) r = c r := fun {r} h1 h2 => by unfold zk_sw2; rw [va_up_ne _ _ h2, va_up_ne _ _ h1]
  have d0 : ∀ {r}, r ≠ 10 + k → r ≠ 20 + k → zk_sw2 d k (L S) (L C) r = d r := fun {r} h1 h2 => by unfold zk_sw2; rw [va_up_ne _ _ h2, va_up_ne _ _ h1]
  have lv40 : ∀ {r}, zk_lv g r → r ≠ 40 + k := fun {r} hr => by
    rcases hr with h | ⟨h1, h2, -⟩ | ⟨h1, h2, -⟩ | ⟨h1, h2, -⟩ | ⟨h1, h2, -⟩ | ⟨h1, -⟩ <;> omega
  have nS : zu R (A 4) k (some S) S = R S := zu_ne _ _ _ (fun e => hS 4 (zk_lv0 (by decide)) e.symm)
  have k4 : kd (A 4) = 105 := (t1 4 (zk_lv0 (by decide))).1
  have nN : zu R (A 4) k (some S) N = R N := zu_ne _ _ _ (fun e => by rw [e, k4] at kN; omega)
  have g0k : zk_swg g k 0 k = 1 := by unfold zk_swg; rw [zu_ne _ _ _ (by decide), zu_ne _ _ _ (by decide), zu_self]
  have g1k : zk_swg g k 1 k = 0 := by unfold zk_swg; rw [zu_ne _ _ _ (by decide), zu_self]
  have g2k : zk_swg g k 2 k = 0 := zu_self _ _ _ _
  have gj : ∀ {r j}, j ≠ k → zk_swg g k r j = g r j := fun {r j} h1 => by unfold zk_swg; rw [zu_k _ _ _ _ h1, zu_k _ _ _ _ h1, zu_k _ _ _ _ h1]
  have gr : ∀ {r}, r ≠ 0 → r ≠ 1 → r ≠ 2 → zk_swg g k r = g r := fun {r} h1 h2 h3 => by unfold zk_swg; rw [zu_ne _ _ _ h3, zu_ne _ _ _ h2, zu_ne _ _ _ h1]
  refine ⟨fun r hr => ?_, fun r s hr hs2 e => ?_, ?_, ?_, fun j hj4 => ?_, fun a b ha hb ga gb hne => ?_, fun j hj4 => ?_, ⟨fun j x hj4 gj2 h1 h2 => ?_, fun e => ?_⟩, ?_⟩
  · rcases zk_lv_sw hr with ⟨hr, n1, n2⟩ | rfl | rfl
    · rw [A0 n1 n2 (lv40 hr), c0 n1 n2, d0 n1 n2, zk_n_g (congrFun (gr (by decide) (by decide) (by decide)) r)]
      exact t1 r hr
    · rw [A1, zk_k1 hk4]
      unfold zk_sw2
      rw [va_up_ne _ _ (by omega), va_up_self, va_up_ne _ _ (by omega), va_up_self]
      exact ⟨kS, rfl, rfl, fun e => absurd e (by decide)⟩
    · rw [A2, zk_k2 hk4, zk_n2 hk4]
      unfold zk_sw2
      rw [va_up_self, va_up_self]
      exact ⟨kC, rfl, rfl, fun _ => nC⟩
  · have key : ∀ {r}, zk_lv (zk_swg g k) r → (zk_swA A k S C N r = A r ∧ zk_lv g r) ∨ (zk_swA A k S C N r = S ∧ r = 10 + k) ∨ (zk_swA A k S C N r = C ∧ r = 20 + k) := fun {r} hr => by
      rcases zk_lv_sw hr with ⟨hr, n1, n2⟩ | rfl | rfl
      · exact Or.inl ⟨A0 n1 n2 (lv40 hr), hr⟩
      · exact Or.inr (Or.inl ⟨A1, rfl⟩)
      · exact Or.inr (Or.inr ⟨A2, rfl⟩)
    rcases key hr with ⟨e1, h1⟩ | ⟨e1, h1⟩ | ⟨e1, h1⟩ <;> rcases key hs2 with ⟨e2, h2⟩ | ⟨e2, h2⟩ | ⟨e2, h2⟩ <;> rw [e1, e2] at e
    · exact t2 r s h1 h2 e
    · exact absurd e (hS r h1)
    · exact absurd e (hC r h1)
    · exact absurd e.symm (hS s h2)
    · rw [h1, h2]
    · exact absurd e hSC
    · exact absurd e.symm (hC s h2)
    · exact absurd e.symm hSC
    · rw [h1, h2]
  · rw [oX, A0 (by omega) (by omega) (by omega), A0 (by omega) (by omega) (by omega), A0 (by omega) (by omega) (by omega), A0 (by omega) (by omega) (by omega), d0 (by omega) (by omega)]
    exact hx
  · rw [A0 (by omega) (by omega) (by omega), A0 (by omega) (by omega) (by omega), A0 (by omega) (by omega) (by omega), oL 0 (zk_lv0 (by decide)) (by decide)]
    exact hm
  · by_cases ej : j = k
    · rw [ej, g0k, A1, A2, A4, A0 (show 4 ≠ 10 + k by omega) (by omega) (by omega), A0 (show 0 ≠ 10 + k by omega) (by omega) (by omega), nS, zu_self]
      refine ⟨fun e => absurd e (by decide), fun _ => ⟨rfl, r2, r3, r5, ?_, ?_, ?_, ?_, ?_⟩⟩
      · rw [A4]
        exact kN
      · rw [A4, g1k, g2k]
        exact iN
      · rw [A4, nN, va_up_self]
        exact rN
      · rw [va_up_self, g1k, g2k]
        exact Or.inl ⟨rfl, rfl⟩
      · rw [g1k, g2k]
        intro i hi
        omega
    · rw [gj ej, A0 (show 4 ≠ 10 + k by omega) (by omega) (by omega), A0 (show 10 + j ≠ 10 + k by omega) (by omega) (by omega), A0 (show 20 + j ≠ 10 + k by omega) (by omega) (by omega), A0 (show 40 + j ≠ 10 + k by omega) (by omega) (by omega), A0 (show 0 ≠ 10 + k by omega) (by omega) (by omega), zu_k _ _ _ _ ej]
      refine ⟨(hs j hj4).1, fun e => ?_⟩
      obtain ⟨a1, a2, a3, a4, l1, l2, l3, l4, l5⟩ := (hs j hj4).2 e
      rw [oL (10 + j) (zk_lv1 hj4 e) (by omega)]
      refine ⟨a1, a2, a3, a4, ?_, ?_, ?_, ?_, ?_⟩
      · rw [A0 (by omega) (by omega) (by omega)]
        exact l1
      · rw [A0 (by omega) (by omega) (by omega), gj ej, gj ej]
        exact l2
      · rw [A0 (by omega) (by omega) (by omega), (oK j hj4 e).1, va_up_ne _ _ ej]
        exact l3
      · rw [gj ej, gj ej, va_up_ne _ _ ej]
        exact l4
      · rw [gj ej, gj ej, va_up_ne _ _ ej]
        intro i hi
        rw [A0 (by unfold zk_p; omega) (by unfold zk_p; omega) (by unfold zk_p; omega)]
        rcases l4 with l4 | l4
        · omega
        · rw [(oK j hj4 e).2 l4.1]
          exact l5 i hi
  · by_cases ea1 : a = k
    · have hbk : b ≠ k := fun q => hne (ea1.trans q.symm)
      rw [gj hbk] at gb
      rw [ea1, A4, A0 (by omega) (by omega) (by omega), va_up_self, hte]
      exact ⟨Ne.symm (hN b hb gb), fun e => absurd e (by decide)⟩
    · rw [gj ea1] at ga
      by_cases eb1 : b = k
      · rw [eb1, A4, A0 (by omega) (by omega) (by omega), va_up_self, va_up_ne _ _ ea1]
        exact ⟨hN a ha ga, fun e q => by rw [q, hte] at e; omega⟩
      · rw [gj eb1] at gb
        rw [A0 (by omega) (by omega) (by omega), A0 (by omega) (by omega) (by omega), va_up_ne _ _ ea1, va_up_ne _ _ eb1]
        exact hj a b ha hb ga gb hne
  · rw [gr (by decide) (by decide) (by decide), A0 (show 5 ≠ 10 + k by omega) (by omega) (by omega), A0 (show 30 + j ≠ 10 + k by omega) (by omega) (by omega), oL 5 (zk_lv0 (by decide)) (by decide)]
    refine ⟨(hp j hj4).1, fun e => ?_⟩
    have hh := h39 j hj4
    rw [oL (30 + j) (zk_lv3 hj4 e) (by omega), A0 (by omega) (by omega) (by omega)]
    exact (hp j hj4).2 e
  · by_cases ej : j = k
    · rw [ej, g2k] at h2
      omega
    · rw [gj ej] at gj2
      rw [gj ej] at h1
      rw [gj ej] at h2
      rw [A0 (by unfold zk_p; omega) (by unfold zk_p; omega) (by unfold zk_p; omega), A0 (by unfold zk_p; omega) (by unfold zk_p; omega) (by unfold zk_p; omega), oL _ (zk_lvp hj4 gj2 h1 h2) (by unfold zk_p; omega)]
      exact hq.1 j x hj4 gj2 h1 h2
  · rw [gr (by decide) (by decide) (by decide)] at e
    rw [A0 (by omega) (by omega) (by omega), A0 (by omega) (by omega) (by omega), oL _ (zk_lv6 (by decide) e) (by decide)]
    exact hq.2 e
  · rw [oX, gr (show 5 ≠ 0 by decide) (by decide) (by decide), gr (show 4 ≠ 0 by decide) (by decide) (by decide), A0 (by omega) (by omega) (by omega), c0 (by omega) (by omega), c0 (by omega) (by omega)]
    rcases hf with hf | ⟨f0, fp, ft, f1, f2, f3, f4⟩
    · exact Or.inl hf
    · exact Or.inr ⟨f0, fp, ft, f1, f2, by rw [oF fp f2]; exact f3, f4⟩
end ZKM
