theorem zk_sva_r {c : Nat → Nat → Int32} {g : Nat → Nat → Nat} {r : Nat} (h : r < 100 ∨ (r - 100) % 2 = 1) : ∀ n, zk_sva c g n r = c r
  | 0 => rfl
  | n + 1 => by
    rw [zk_sva]
    by_cases e : g 0 n = 0
    · rw [if_pos e]
      exact zk_sva_r h n
    · rw [if_neg e]
      funext s
      unfold zk_sv zk_mp
      rw [if_neg (by omega), zk_sva_r h n]
theorem zk_sva_p {c : Nat → Nat → Int32} {g : Nat → Nat → Nat} {k x : Nat} (hx : zs_l g k x) : ∀ n, n ≤ 4 → zk_sva c g n (zk_p k x) 6 = if k < n then c (zk_p k x) 5 else c (zk_p k x) 6
  | 0, _ => by rw [if_neg (by omega)]; rfl
  | n + 1, hn => by
    have ih := zk_sva_p (c := c) hx n (by omega)
    rw [zk_sva]
    by_cases e : g 0 n = 0
    · rw [if_pos e, ih]
      by_cases e2 : k < n
      · rw [if_pos e2, if_pos (by omega)]
      · rw [if_neg e2, if_neg (fun z => hx.2.1 (by rw [show k = n by omega]; exact e))]
    · rw [if_neg e]
      unfold zk_sv
      by_cases e2 : k = n
      · subst e2
        rw [zk_mp_at (by omega) hx.2.2.1 hx.2.2.2, if_pos (by omega)]
        unfold zk_svG
        rw [va_up_self, zk_sva_s (by decide) _ _ (by omega)]
      · have : zk_mp (zk_sva c g n) n (g 1 n) (g 2 n) (zk_svG (zk_sva c g n) n) (zk_p k x) 6 = zk_sva c g n (zk_p k x) 6 := by
          have := hx.1
          unfold zk_mp zk_p
          rw [if_neg (by omega)]
        rw [this, ih]
        by_cases e3 : k < n
        · rw [if_pos e3, if_pos (by omega)]
        · rw [if_neg e3, if_neg (by omega)]
section ZSZ
variable {c : Nat → Nat → Int32} {d : Nat → Nat → Int64} {g : Nat → Nat → Nat} {m : Nat → Nat → Int32} {q : Nat → Nat → Int64} {u sl of tu au : Nat → Nat → Nat}
/-- all that is confirmed is saved -/
theorem zs_save (h : zs c d g m q u sl of tu au) : zs (zk_sva c g 4) d g (zo_svI m) q u sl of tu au := by
  obtain ⟨hA, hB, hG, hP, hL, hF, hN⟩ := h
  have Cl : ∀ r, r < 100 → zk_sva c g 4 r = c r := fun r hr => zk_sva_r (Or.inl hr) 4
  have Mr : ∀ r, r ≠ 23 → zo_svI m r = m r := fun r h1 => by unfold zo_svI; rw [va_up_ne _ _ h1]
  have M23 : ∀ s, s < 280 → zo_svI m 23 s = zo_sv m s := fun s hs => by unfold zo_svI; rw [va_up_self, zo_map_lt _ _ hs]
  refine ⟨zs_A_c hA (Cl _ (by decide)) (Cl _ (by decide)) rfl (fun j _ _ => by rw [Mr 40 (by decide)]) (Mr _ (by decide)) rfl, zs_B_c hB (fun j hj => ⟨Cl _ (by omega), Cl _ (by omega)⟩) (fun _ _ => ⟨rfl, rfl, rfl⟩) (fun r h1 h2 => Mr r (by omega)) (fun _ => ⟨rfl, rfl, rfl⟩), zs_G_c hG (fun j hj => Cl _ (by omega)) (fun _ _ => rfl) (Mr _ (by decide)) (fun _ => ⟨rfl, rfl⟩), ?_, zs_L_c hL (fun p hp => ⟨Cl _ (by omega), rfl⟩) (fun _ _ => rfl) (fun _ _ => rfl) (fun r h1 h2 => Mr r (by omega)) (fun _ => ⟨rfl, rfl⟩) ⟨Nat.le_refl _, Nat.le_refl _⟩, zs_F_c hF (Cl _ (by decide)) ⟨Cl _ (by decide), Cl _ (by decide)⟩ ⟨rfl, rfl⟩ (Mr _ (by decide)) (by rw [Mr 40 (by decide)]) (Mr _ (by decide)), zs_N_c hN rfl (fun _ _ => ⟨rfl, rfl⟩) rfl ⟨by rw [Mr 40 (by decide)], by rw [Mr 40 (by decide)]⟩⟩
  obtain ⟨p1, p2, p3, p4, p5⟩ := hP
  refine ⟨fun j x hx => ?_, fun s hs e => p2 s hs (by rw [Mr 16 (by decide)] at e; exact e), fun s hs => by rw [Mr 20 (by decide)]; exact p3 s hs, fun s hs => ?_, p5⟩
  · obtain ⟨a1, a2, a3⟩ := p1 j x hx
    obtain ⟨b1, b2, b3, b4, b5, b6, b7, b8, b9, b10, b11, b12, b13, b14, b15, b16, b17⟩ := a1
    have hj := hx.1
    have T1 : zk_sva c g 4 (zk_p j x + 1) = c (zk_p j x + 1) := zk_sva_r (by unfold zk_p; omega) 4
    have Cs : ∀ s, s ≠ 6 → zk_sva c g 4 (zk_p j x) s = c (zk_p j x) s := fun s hs => zk_sva_s hs _ 4 (by decide)
    have C6 : zk_sva c g 4 (zk_p j x) 6 = c (zk_p j x) 5 := by rw [zk_sva_p hx 4 (Nat.le_refl _), if_pos hj]
    refine ⟨?_, ?_, ?_⟩
    · unfold zs_p
      rw [Cs 3 (by decide), Cs 4 (by decide), Cs 5 (by decide), Cs 0 (by decide), Cs 2 (by decide), C6, Mr 16 (by decide), Mr 17 (by decide), Mr 19 (by decide), Mr 21 (by decide), Mr 22 (by decide), Mr 24 (by decide), M23 _ b1]
      refine ⟨b1, b2, b3, b4, b5, b6, ?_, b8, b9, b10, b10, b12, b13, b14, b15, b16, b17⟩
      unfold zo_sv
      rw [b2, if_neg (nI_nlt (Nat.zero_le _) (by omega)), b6]
      rcases b10 with e | e
      · rw [if_pos e, e]
      · rw [if_neg (by rw [e]; decide), e]
    · unfold zs_te zo_tl
      rw [T1, Mr 18 (by decide), Mr 19 (by decide), Mr 20 (by decide)]
      exact a2
    · unfold zs_o
      rw [Cs 4 (by decide), Cl (20 + j) (by omega)]
      exact a3
  · rw [M23 _ hs]
    unfold zo_sv
    split
    · exact Or.inl rfl
    · split
      · exact Or.inl rfl
      · exact Or.inr rfl
/-- the pages that are promised to nobody -/
theorem zs_un (h : zs c d g m q u sl of tu au) : ∀ n, n ≤ 4 → zk_un c g n = nI (40 - zs_qs g u 2 n) ∧ zo_un (m 7) (m 9) n = nI (40 - zs_qs g u 2 n)
  | 0, _ => ⟨rfl, rfl⟩
  | n + 1, hn => by
    have ih := zs_un h n (by omega)
    have hq := zs_qs_mono g u 2 hn
    have hq4 := h.2.2.1.2.2
    rw [zk_un, zo_un, ih.1, ih.2]
    rw [zs_qs] at hq ⊢
    by_cases e : g 0 n = 0
    · rw [if_pos e] at hq ⊢
      rw [if_pos e, if_pos ((h.2.1 n (by omega)).1 e), pk_sub (Nat.zero_le _)]
      exact ⟨rfl, rfl⟩
    · rw [if_neg e] at hq ⊢
      have b := (h.2.1 n (by omega)).2 e
      rw [if_neg e, if_neg (zs_mk h (by omega) e), b.2.2.2.2.1, b.2.2.2.2.2.1, pk_sub (by omega), show 40 - zs_qs g u 2 n - u 2 n = 40 - (zs_qs g u 2 n + u 2 n) by omega]
      exact ⟨rfl, rfl⟩
theorem zs_qs_new (g u : Nat → Nat → Nat) {k : Nat} (hg : g 0 k = 0) (x y : Nat) (hx : x ≠ 0) (u1 : Nat → Nat → Nat) (g1 : Nat → Nat → Nat) (hg1 : ∀ j, g1 0 j = if j = k then x else g 0 j) (hu1 : ∀ j, u1 2 j = if j = k then y else u 2 j) : ∀ n, zs_qs g1 u1 2 n = zs_qs g u 2 n + (if k < n then y else 0)
  | 0 => by rw [if_neg (by omega)]; rfl
  | n + 1 => by
    rw [zs_qs, zs_qs, zs_qs_new g u hg x y hx u1 g1 hg1 hu1 n, hg1, hu1]
    by_cases e : n = k
    · subst e
      rw [if_pos rfl, if_neg hx, if_pos rfl, if_pos hg, if_neg (Nat.lt_irrefl _), if_pos (show n < n + 1 by omega)]
    · rw [if_neg e, if_neg e]
      by_cases e2 : k < n
      · rw [if_pos e2, if_pos (show k < n + 1 by omega)]
        omega
      · rw [if_neg e2, if_neg (show ¬ k < n + 1 by omega)]
        omega
/-- the numbers behind a new store -/
def zs_um (u : Nat → Nat → Nat) (k n : Nat) : Nat → Nat → Nat := zu (zu (zu u 0 k 0) 1 k 16) 2 k n
/-- a store is made -/
theorem zs_new (h : zs c d g m q u sl of tu au) {k n : Nat} {b : Int32} (hk : k < 4) (hg : g 0 k = 0) (hn3 : 3 ≤ n) (hn40 : n ≤ 40) (hb : b = nI 0 ∨ b = nI 1) (hq : zs_qs g u 2 4 + n ≤ 40) : zs (zk_sw2 c k (zk_si (nI k) b (nI n)) (fun _ => 0)) (zk_sw2 d k (fun _ => 0) (fun _ => 0)) (zk_swg g k) (zo_mkI m k b (nI n)) q (zs_um u k n) sl of tu au := by
  obtain ⟨hA, hB, hG, hP, hL, hF, hN⟩ := h
  have Cr : ∀ r, r ≠ 10 + k → r ≠ 20 + k → zk_sw2 c k (zk_si (nI k) b (nI n)) (fun _ => 0) r = c r := fun r h1 h2 => by unfold zk_sw2; rw [va_up_ne _ _ h2, va_up_ne _ _ h1]
  have Dr : ∀ r, r ≠ 10 + k → r ≠ 20 + k → zk_sw2 d k (fun _ => 0) (fun _ => 0) r = d r := fun r h1 h2 => by unfold zk_sw2; rw [va_up_ne _ _ h2, va_up_ne _ _ h1]
  have Ck : zk_sw2 c k (zk_si (nI k) b (nI n)) (fun _ => 0) (10 + k) = zk_si (nI k) b (nI n) := by unfold zk_sw2; rw [va_up_ne _ _ (by omega), va_up_self]
  have Mr : ∀ r, r < 7 ∨ 13 < r → zo_mkI m k b (nI n) r = m r := fun r h1 => by
    unfold zo_mkI
    rw [zu_ne _ _ _ (by omega), zu_ne _ _ _ (by omega), zu_ne _ _ _ (by omega), zu_ne _ _ _ (by omega), zu_ne _ _ _ (by omega), zu_ne _ _ _ (by omega), zu_ne _ _ _ (by omega)]
  have Mj : ∀ r j, j ≠ k → zo_mkI m k b (nI n) r j = m r j := fun r j h1 => by
    unfold zo_mkI
    rw [zu_k _ _ _ _ h1, zu_k _ _ _ _ h1, zu_k _ _ _ _ h1, zu_k _ _ _ _ h1, zu_k _ _ _ _ h1, zu_k _ _ _ _ h1, zu_k _ _ _ _ h1]
  have Gr : ∀ r, 2 < r → zk_swg g k r = g r := fun r h1 => by unfold zk_swg; rw [zu_ne _ _ _ (by omega), zu_ne _ _ _ (by omega), zu_ne _ _ _ (by omega)]
  have Gj : ∀ r j, j ≠ k → zk_swg g k r j = g r j := fun r j h1 => by unfold zk_swg; rw [zu_k _ _ _ _ h1, zu_k _ _ _ _ h1, zu_k _ _ _ _ h1]
  have G0 : zk_swg g k 0 k = 1 := by unfold zk_swg; rw [zu_ne _ _ _ (by decide), zu_ne _ _ _ (by decide), zu_self]
  have G1 : zk_swg g k 1 k = 0 := by unfold zk_swg; rw [zu_ne _ _ _ (by decide), zu_self]
  have G2 : zk_swg g k 2 k = 0 := by unfold zk_swg; rw [zu_self]
  have Ur : ∀ r, 2 < r → zs_um u k n r = u r := fun r h1 => by unfold zs_um; rw [zu_ne _ _ _ (by omega), zu_ne _ _ _ (by omega), zu_ne _ _ _ (by omega)]
  have Uj : ∀ r j, j ≠ k → zs_um u k n r j = u r j := fun r j h1 => by unfold zs_um; rw [zu_k _ _ _ _ h1, zu_k _ _ _ _ h1, zu_k _ _ _ _ h1]
  have U0 : zs_um u k n 0 k = 0 := by unfold zs_um; rw [zu_ne _ _ _ (by decide), zu_ne _ _ _ (by decide), zu_self]
  have U1 : zs_um u k n 1 k = 16 := by unfold zs_um; rw [zu_ne _ _ _ (by decide), zu_self]
  have U2 : zs_um u k n 2 k = n := by unfold zs_um; rw [zu_self]
  have hl : ∀ {j x}, zs_l (zk_swg g k) j x ↔ zs_l g j x := fun {j x} => by
    unfold zs_l
    by_cases e : j = k
    · subst e
      rw [G0, G1, G2]
      exact ⟨fun z => absurd z.2.2.2 (by omega), fun z => absurd hg z.2.1⟩
    · rw [Gj _ _ e, Gj _ _ e, Gj _ _ e]
  refine ⟨zs_A_c hA (Cr _ (by omega) (by omega)) (Cr _ (by omega) (by omega)) (Dr _ (by omega) (by omega)) (fun j _ _ => by rw [Mr 40 (by omega)]) (Mr _ (by omega)) rfl, fun j hj => ?_, ⟨fun i j a e hi hj gi gj ha he ee => ?_, fun pg hp e => ?_, ?_⟩, ?_, ?_, zs_F_c hF (Cr _ (by omega) (by omega)) ⟨Cr _ (by omega) (by omega), Cr _ (by omega) (by omega)⟩ ⟨by rw [Gr _ (by decide)], by rw [Gr _ (by decide)]⟩ (Mr _ (by omega)) (by rw [Mr 40 (by omega)]) (Mr _ (by omega)), ?_⟩
  · by_cases e : j = k
    · subst e
      refine ⟨fun z => absurd (G0.symm.trans z) (by decide), fun _ => ?_⟩
      unfold zs_k
      rw [Ck, G1, G2, U0, U1, U2]
      unfold zo_mkI
      refine ⟨?_, rfl, ?_, hb, rfl, ?_, rfl, ?_, ?_, rfl, ?_, rfl, ?_, ⟨hn3, hn40, by omega, by omega, by omega, fun _ _ => rfl, Nat.le_refl _⟩, fun i hi => by omega⟩
      · rw [zu_ne _ _ _ (by decide), zu_ne _ _ _ (by decide), zu_ne _ _ _ (by decide), zu_ne _ _ _ (by decide), zu_ne _ _ _ (by decide), zu_ne _ _ _ (by decide), zu_self]
      · rw [zu_ne _ _ _ (by decide), zu_ne _ _ _ (by decide), zu_ne _ _ _ (by decide), zu_ne _ _ _ (by decide), zu_ne _ _ _ (by decide), zu_self]
        rfl
      · rw [zu_ne _ _ _ (by decide), zu_ne _ _ _ (by decide), zu_ne _ _ _ (by decide), zu_ne _ _ _ (by decide), zu_self]
      · rw [zu_ne _ _ _ (by decide), zu_ne _ _ _ (by decide), zu_ne _ _ _ (by decide), zu_self]
      · rw [zu_ne _ _ _ (by decide), zu_ne _ _ _ (by decide), zu_self]
        rfl
      · rw [zu_ne _ _ _ (by decide), zu_self]
      · rw [zu_self]
    · rw [Gj _ _ e, Mj _ _ e]
      exact ⟨(hB j hj).1, fun z => zs_k_c ((hB j hj).2 z) (Cr _ (by omega) (by omega)) (Cr _ (by omega) (by omega)) (Gj _ _ e) (Gj _ _ e) (Mj _ _ e) (fun r _ _ => Mj _ _ e) (Mr _ (by omega)) (Mr _ (by omega)) (Uj _ _ e) (Uj _ _ e) (Uj _ _ e) (Uj _ _ e)⟩
  · have ei : i ≠ k := fun z => by subst z; rw [U0] at ha; omega
    have ej : j ≠ k := fun z => by subst z; rw [U0] at he; omega
    rw [Gj _ _ ei] at gi
    rw [Gj _ _ ej] at gj
    rw [Uj _ _ ei] at ha
    rw [Uj _ _ ej] at he
    rw [Cr _ (by omega) (by omega), Cr _ (by omega) (by omega)] at ee
    exact hG.1 i j a e hi hj gi gj ha he ee
  · rw [Mr 15 (by omega)] at e
    obtain ⟨j, i, h1, h2, h3, h4⟩ := hG.2.1 pg hp e
    have ej : j ≠ k := fun z => h2 (by rw [z]; exact hg)
    exact ⟨j, i, h1, by rw [Gj _ _ ej]; exact h2, by rw [Uj _ _ ej]; exact h3, by rw [Cr _ (by omega) (by omega)]; exact h4⟩
  · rw [zs_qs_new g u hg 1 n (by decide) (zs_um u k n) (zk_swg g k) (fun j => by
      by_cases e : j = k
      · rw [if_pos e, e, G0]
      · rw [if_neg e, Gj _ _ e]) (fun j => by
      by_cases e : j = k
      · rw [if_pos e, e, U2]
      · rw [if_neg e, Uj _ _ e]) 4, if_pos hk]
    exact hq
  · obtain ⟨p1, p2, p3, p4, p5⟩ := hP
    refine ⟨fun j x hx => ?_, fun s hs e => ?_, fun s hs => by rw [Mr 20 (by omega)]; exact p3 s hs, fun s hs => by rw [Mr 23 (by omega)]; exact p4 s hs, fun i x j y hx hy => p5 i x j y (hl.mp hx) (hl.mp hy)⟩
    · have hx := hl.mp hx
      have ej : j ≠ k := fun z => hx.2.1 (by rw [z]; exact hg)
      have hj := hx.1
      obtain ⟨a1, a2, a3⟩ := p1 j x hx
      refine ⟨?_, ?_, ?_⟩
      · unfold zs_p
        rw [Cr _ (by unfold zk_p; omega) (by unfold zk_p; omega), Dr _ (by unfold zk_p; omega) (by unfold zk_p; omega), Mr 16 (by omega), Mr 17 (by omega), Mr 19 (by omega), Mr 21 (by omega), Mr 22 (by omega), Mr 23 (by omega), Mr 24 (by omega), Ur 5 (by decide)]
        exact a1
      · unfold zs_te zo_tl
        rw [Cr _ (by unfold zk_p; omega) (by unfold zk_p; omega), Gr 4 (by decide), Mr 18 (by omega), Mr 19 (by omega), Mr 20 (by omega)]
        exact a2
      · unfold zs_o
        rw [Cr _ (by unfold zk_p; omega) (by unfold zk_p; omega), Cr _ (by omega) (by omega), Uj _ _ ej, Uj _ _ ej, Gj _ _ ej]
        exact a3
    · rw [Mr 16 (by omega)] at e
      obtain ⟨j, x, hx, e2⟩ := p2 s hs e
      exact ⟨j, x, hl.mpr hx, e2⟩
  · refine ⟨fun p hp => ?_, fun p j hp hj gp gj => ?_⟩
    · rw [Gr 3 (by decide), Cr _ (by omega) (by omega), Dr _ (by omega) (by omega), Mr 27 (by omega), Mr 28 (by omega), Mr 29 (by omega), Mr 30 (by omega), Mr 31 (by omega), Mr 32 (by omega), Ur 3 (by decide), Ur 4 (by decide), Ur 5 (by decide)]
      refine ⟨(hL.1 p hp).1, fun e => ?_⟩
      obtain ⟨a1, a2, a3⟩ := (hL.1 p hp).2 e
      exact ⟨a1, by rw [Gj _ _ (fun z => a2 (by rw [z]; exact hg))]; exact a2, a3⟩
    · rw [Gr 3 (by decide)] at gp gj
      rw [Ur 3 (by decide), Ur 4 (by decide)]
      exact hL.2 p j hp hj gp gj
  · obtain ⟨a1, a2, a3, a4, a5, a6, a7, a8⟩ := hN
    unfold zs_N
    rw [Dr 9 (by omega) (by omega), Mr 40 (by omega), Ur 5 (by decide)]
    refine ⟨a1, a2, a3, a4, a5, a6, fun j hj e => ?_, a8⟩
    by_cases ej : j = k
    · rw [ej, G2]
      exact Nat.zero_le _
    · rw [Gj _ _ ej] at e ⊢
      exact a7 j hj e
end ZSZ
