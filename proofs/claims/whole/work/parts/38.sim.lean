theorem zc_mono {l : Launch} {y : MethodName} {ws : List Cond} {rm : Room} {mc ms : Nat} {D : va_G} {cA : Nat → ClassId} {te mi : Nat} {av : List Value} {kd ln : Nat → Nat} {I : Nat → Nat → Int32} {L : Nat → Nat → Int64} {R : Nat → Nat → Option Nat} {p1 p2 : zc_T} (h : zc_M l y ws rm mc ms D cA te mi av kd ln I L R p1) (hp : ∀ v k n i j r, p1 v k n i j r → p2 v k n i j r) : zc_M l y ws rm mc ms D cA te mi av kd ln I L R p2 := by
  intro sz p e ha hc hk s m args below hf happ hP hK
  obtain ⟨n, o, h1, h2, h3, ⟨⟨v, k1, l1, i1, j1, r1, e1, e2, e3⟩, e4⟩, hL⟩ := h sz p e ha hc hk s m args below hf happ hP hK
  exact ⟨n, o, h1, h2, h3, ⟨⟨v, k1, l1, i1, j1, r1, e1, hp _ _ _ _ _ _ e2, e3⟩, e4⟩, hL⟩
/-! the relation of the class (c d g) and the reference (m q). Numbers behind it: u 0 k pages in store k's chain, u 1 k its next word, u 2 k its quota, u 3 p and u 4 p the turn and number at which playback p was opened, u 5 0 turns, u 5 1 askings, u 5 2 openings, u 5 3 calls, u 6 k is store k about to be dropped; sl k x the place of packet x of store k, of k x where its words begin in the chain, tu k x and au k x when it was asked for -/
def zs_A (c : Nat → Nat → Int32) (d : Nat → Nat → Int64) (m : Nat → Nat → Int32) (q : Nat → Nat → Int64) : Prop := zq_rel (c 0 2) (c 0 3) (c 0 4) (m 40 1) (m 40 2) (m 40 3) ∧ d 3 = q 0 ∧ (∀ j, j < 768 → zq_f2 (q 0 j)) ∧ c 0 5 = m 40 6 ∧ (∃ sn, sn < 768 ∧ m 40 6 = nI sn) ∧ c 0 6 = m 40 4 ∧ c 0 7 = m 40 5 ∧ c 1 = m 15
def zs_k (c : Nat → Nat → Int32) (g : Nat → Nat → Nat) (m : Nat → Nat → Int32) (u : Nat → Nat → Nat) (k : Nat) : Prop := m 7 k = nI 1 ∧ c (10 + k) 0 = nI k ∧ m 8 k = c (10 + k) 1 ∧ (c (10 + k) 1 = nI 0 ∨ c (10 + k) 1 = nI 1) ∧ c (10 + k) 6 = nI (u 2 k) ∧ m 9 k = nI (u 2 k) ∧ c (10 + k) 8 = nI (g 2 k) ∧ m 10 k = nI (g 2 k) ∧ m 11 k = c (10 + k) 9 ∧ c (10 + k) 7 = nI (u 0 k) ∧ m 12 k = nI (u 0 k) ∧ c (10 + k) 4 = nI (u 1 k) ∧ m 13 k = nI (u 1 k) ∧ (3 ≤ u 2 k ∧ u 2 k ≤ 40 ∧ u 0 k ≤ u 2 k ∧ 3 ≤ u 1 k ∧ u 1 k ≤ 16 ∧ (u 6 k = 0 → u 0 k = 0 → u 1 k = 16) ∧ g 1 k ≤ g 2 k) ∧ ∀ i, i < u 0 k → m 14 (40 * k + i) = c (20 + k) i ∧ ∃ pg, pg < 40 ∧ c (20 + k) i = nI pg ∧ m 15 pg = nI 1
def zs_B (c : Nat → Nat → Int32) (g : Nat → Nat → Nat) (m : Nat → Nat → Int32) (u : Nat → Nat → Nat) : Prop := ∀ k, k < 4 → (g 0 k = 0 → m 7 k = nI 0) ∧ (g 0 k ≠ 0 → zs_k c g m u k)
def zs_qs (g u : Nat → Nat → Nat) (r : Nat) : Nat → Nat
  | 0 => 0
  | k + 1 => zs_qs g u r k + (if g 0 k = 0 then 0 else u r k)
def zs_G (c : Nat → Nat → Int32) (g : Nat → Nat → Nat) (m : Nat → Nat → Int32) (u : Nat → Nat → Nat) : Prop := (∀ k j i h, k < 4 → j < 4 → g 0 k ≠ 0 → g 0 j ≠ 0 → i < u 0 k → h < u 0 j → c (20 + k) i = c (20 + j) h → k = j ∧ i = h) ∧ (∀ pg, pg < 40 → ¬ m 15 pg = nI 0 → ∃ k i, k < 4 ∧ g 0 k ≠ 0 ∧ i < u 0 k ∧ c (20 + k) i = nI pg) ∧ zs_qs g u 2 4 ≤ 40
def zs_te (c : Nat → Nat → Int32) (g : Nat → Nat → Nat) (m : Nat → Nat → Int32) (q : Nat → Nat → Int64) (r s : Nat) : Prop := ∃ n, n ≤ 60 ∧ g 4 (r + 1) = 6 + n ∧ m 20 s = nI n ∧ ∀ i, i < 6 + n → (c (r + 1) i) &&& (nI 255) = zo_tl m q s i
def zs_p (c : Nat → Nat → Int32) (d : Nat → Nat → Int64) (m : Nat → Nat → Int32) (u : Nat → Nat → Nat) (tu au : Nat → Nat → Nat) (k x r s : Nat) : Prop := s < 280 ∧ m 16 s = nI k ∧ m 17 s = nI x ∧ m 19 s = c r 3 ∧ m 21 s = c r 4 ∧ m 22 s = c r 5 ∧ m 23 s = c r 6 ∧ c r 0 = nI k ∧ c r 2 = nI x ∧ (c r 5 = nI 0 ∨ c r 5 = nI 1) ∧ (c r 6 = nI 0 ∨ c r 6 = nI 1) ∧ d r 7 = lN (tu k x) ∧ m 24 s = nI (au k x) ∧ (tu k x = 0 ↔ au k x = 0) ∧ tu k x ≤ u 5 0 ∧ au k x ≤ u 5 1 ∧ (¬ c r 5 = nI 0 → au k x = 0)
def zs_o (c : Nat → Nat → Int32) (g u of : Nat → Nat → Nat) (k x : Nat) : Prop := of k x / 13 < u 0 k ∧ c (zk_p k x) 4 = c (20 + k) (of k x / 13) ∧ of k x + 2 + (16 - u 1 k) ≤ 13 * u 0 k ∧ (x + 1 < g 2 k → of k x + 2 ≤ of k (x + 1))
/-- is packet x of store k kept -/
def zs_l (g : Nat → Nat → Nat) (k x : Nat) : Prop := k < 4 ∧ g 0 k ≠ 0 ∧ g 1 k ≤ x ∧ x < g 2 k
def zs_P (c : Nat → Nat → Int32) (d : Nat → Nat → Int64) (g : Nat → Nat → Nat) (m : Nat → Nat → Int32) (q : Nat → Nat → Int64) (u sl of tu au : Nat → Nat → Nat) : Prop := (∀ k x, zs_l g k x → zs_p c d m u tu au k x (zk_p k x) (sl k x) ∧ zs_te c g m q (zk_p k x) (sl k x) ∧ zs_o c g u of k x) ∧ (∀ s, s < 280 → ¬ m 16 s < nI 0 → ∃ k x, zs_l g k x ∧ s = sl k x) ∧ (∀ s, s < 280 → ∃ n, n ≤ 60 ∧ m 20 s = nI n) ∧ (∀ s, s < 280 → m 23 s = nI 0 ∨ m 23 s = nI 1) ∧ (∀ k x j y, zs_l g k x → zs_l g j y → (tu k x < tu j y ↔ au k x < au j y) ∧ (au k x = au j y → au k x ≠ 0 → k = j ∧ x = y))
def zs_L (c : Nat → Nat → Int32) (d : Nat → Nat → Int64) (g : Nat → Nat → Nat) (m : Nat → Nat → Int32) (u : Nat → Nat → Nat) : Prop := (∀ p, p < 4 → (g 3 p = 0 → m 27 p = (-1)) ∧ (g 3 p ≠ 0 → g 3 p ≤ 4 ∧ g 0 (g 3 p - 1) ≠ 0 ∧ m 27 p = nI (g 3 p - 1) ∧ c (30 + p) 0 = m 28 p ∧ c (30 + p) 1 = m 29 p ∧ c (30 + p) 2 = m 30 p ∧ c (30 + p) 5 = m 31 p ∧ d (30 + p) 3 = lN (u 3 p) ∧ m 32 p = nI (u 4 p) ∧ u 3 p ≤ u 5 0 ∧ u 4 p ≤ u 5 2)) ∧ ∀ p j, p < 4 → j < 4 → g 3 p ≠ 0 → g 3 j ≠ 0 → (u 3 p < u 3 j ↔ u 4 p < u 4 j)
def zs_F (c : Nat → Nat → Int32) (g : Nat → Nat → Nat) (m : Nat → Nat → Int32) : Prop := (∀ i, i < 60 → ∃ b, b < 256 ∧ m 34 i = nI b ∧ (c 2 i) &&& (nI 255) = nI b) ∧ (∀ i, fits .byte (.int (c 2 i)) = true) ∧ ((g 5 0 = 0 ∧ m 40 35 = (-1)) ∨ (g 5 0 ≠ 0 ∧ ∃ n, n ≤ 60 ∧ g 4 91 = 6 + n ∧ m 40 35 = nI (11 + n) ∧ ∀ i, i < 11 + n → zk_bf (c 91) (6 + n) (c 90 0) (c 90 2) (nI i) = m 36 i))
def zs_N (d : Nat → Nat → Int64) (g : Nat → Nat → Nat) (m : Nat → Nat → Int32) (u : Nat → Nat → Nat) : Prop := d 9 0 = lN (u 5 0) ∧ m 40 26 = nI (u 5 1) ∧ m 40 33 = nI (u 5 2) ∧ u 5 0 ≤ u 5 3 ∧ u 5 1 ≤ u 5 3 ∧ u 5 2 ≤ u 5 3 ∧ (∀ k, k < 4 → g 0 k ≠ 0 → g 2 k ≤ u 5 3) ∧ u 5 3 ≤ 600 ∧ True
def zs (c : Nat → Nat → Int32) (d : Nat → Nat → Int64) (g : Nat → Nat → Nat) (m : Nat → Nat → Int32) (q : Nat → Nat → Int64) (u sl of tu au : Nat → Nat → Nat) : Prop := zs_A c d m q ∧ zs_B c g m u ∧ zs_G c g m u ∧ zs_P c d g m q u sl of tu au ∧ zs_L c d g m u ∧ zs_F c g m ∧ zs_N d g m u
def zs_u2 (u : Nat → Nat → Nat) (i : Nat) : Nat → Nat → Nat := zu (zu (zu u 5 0 (u 5 0 + 1)) 5 i (u 5 i + 1)) 5 3 (u 5 3 + 1)
/-! what each part looks at -/
section ZSC
variable {c c1 : Nat → Nat → Int32} {d d1 : Nat → Nat → Int64} {g g1 : Nat → Nat → Nat} {m m1 : Nat → Nat → Int32} {q q1 : Nat → Nat → Int64} {u u1 sl of tu au : Nat → Nat → Nat}
theorem zs_A_c (h : zs_A c d m q) (h0 : c1 0 = c 0) (h1 : c1 1 = c 1) (hd : d1 3 = d 3) (hm : ∀ j, 1 ≤ j → j ≤ 6 → m1 40 j = m 40 j) (h15 : m1 15 = m 15) (hq : q1 0 = q 0) : zs_A c1 d1 m1 q1 := by
  unfold zs_A
  rw [h0, h1, hd, h15, hq, hm 1 (by decide) (by decide), hm 2 (by decide) (by decide), hm 3 (by decide) (by decide), hm 4 (by decide) (by decide), hm 5 (by decide) (by decide), hm 6 (by decide) (by decide)]
  exact h
theorem zs_k_c {k : Nat} (h : zs_k c g m u k) (h1 : c1 (10 + k) = c (10 + k)) (h2 : c1 (20 + k) = c (20 + k)) (hg1 : g1 1 k = g 1 k) (hg2 : g1 2 k = g 2 k) (h7 : m1 7 k = m 7 k) (hm : ∀ r, 8 ≤ r → r ≤ 13 → m1 r k = m r k) (h14 : m1 14 = m 14) (h15 : m1 15 = m 15) (h0u : u1 0 k = u 0 k) (h1u : u1 1 k = u 1 k) (h2u : u1 2 k = u 2 k) (h6u : u1 6 k = u 6 k) : zs_k c1 g1 m1 u1 k := by
  unfold zs_k
  rw [h1, h2, hg1, hg2, h7, h14, h15, h0u, h1u, h2u, h6u, hm 8 (by decide) (by decide), hm 9 (by decide) (by decide), hm 10 (by decide) (by decide), hm 11 (by decide) (by decide), hm 12 (by decide) (by decide), hm 13 (by decide) (by decide)]
  exact h
theorem zs_B_c (h : zs_B c g m u) (h1 : ∀ k, k < 4 → c1 (10 + k) = c (10 + k) ∧ c1 (20 + k) = c (20 + k)) (hg : ∀ k, k < 4 → g1 0 k = g 0 k ∧ g1 1 k = g 1 k ∧ g1 2 k = g 2 k) (hm : ∀ r, 7 ≤ r → r ≤ 15 → m1 r = m r) (hu : ∀ k, u1 0 k = u 0 k ∧ u1 1 k = u 1 k ∧ u1 2 k = u 2 k) (h6 : ∀ k, u1 6 k = u 6 k := by intro k; first | rfl | simp [zs_u2, zu]) : zs_B c1 g1 m1 u1 := by
  intro k hk
  rw [(hg k hk).1, hm 7 (by decide) (by decide)]
  exact ⟨(h k hk).1, fun e => zs_k_c ((h k hk).2 e) (h1 k hk).1 (h1 k hk).2 (hg k hk).2.1 (hg k hk).2.2 (by rw [hm 7 (by decide) (by decide)]) (fun r a b => by rw [hm r (by omega) (by omega)]) (hm 14 (by decide) (by decide)) (hm 15 (by decide) (by decide)) (hu k).1 (hu k).2.1 (hu k).2.2 (h6 k)⟩
theorem zs_qs_c {r : Nat} (hg : ∀ k, k < 4 → g1 0 k = g 0 k) (hu : ∀ k, u1 r k = u r k) : ∀ n, n ≤ 4 → zs_qs g1 u1 r n = zs_qs g u r n
  | 0, _ => rfl
  | n + 1, h => by rw [zs_qs, zs_qs, zs_qs_c hg hu n (by omega), hg n (by omega), hu n]
theorem zs_G_c (h : zs_G c g m u) (h1 : ∀ k, k < 4 → c1 (20 + k) = c (20 + k)) (hg : ∀ k, k < 4 → g1 0 k = g 0 k) (h15 : m1 15 = m 15) (hu : ∀ k, u1 0 k = u 0 k ∧ u1 2 k = u 2 k) : zs_G c1 g1 m1 u1 := by
  refine ⟨fun k j i n hk hj gk gj hi hn e => ?_, fun pg hp e => ?_, ?_⟩
  · rw [h1 k hk, h1 j hj] at e
    rw [hg k hk] at gk
    rw [hg j hj] at gj
    rw [(hu k).1] at hi
    rw [(hu j).1] at hn
    exact h.1 k j i n hk hj gk gj hi hn e
  · rw [h15] at e
    obtain ⟨k, i, hk, gk, hi, e2⟩ := h.2.1 pg hp e
    exact ⟨k, i, hk, by rw [hg k hk]; exact gk, by rw [(hu k).1]; exact hi, by rw [h1 k hk]; exact e2⟩
  · rw [zs_qs_c hg (fun k => (hu k).2) 4 (Nat.le_refl _)]
    exact h.2.2
theorem zs_l_c (hg : ∀ k, k < 4 → g1 0 k = g 0 k ∧ g1 1 k = g 1 k ∧ g1 2 k = g 2 k) {k x : Nat} : zs_l g1 k x ↔ zs_l g k x := by
  unfold zs_l
  constructor
  · intro h
    rw [(hg k h.1).1, (hg k h.1).2.1, (hg k h.1).2.2] at h
    exact h
  · intro h
    rw [(hg k h.1).1, (hg k h.1).2.1, (hg k h.1).2.2]
    exact h
theorem zs_P_c (h : zs_P c d g m q u sl of tu au) (h1 : ∀ k x, k < 4 → c1 (zk_p k x) = c (zk_p k x) ∧ c1 (zk_p k x + 1) = c (zk_p k x + 1) ∧ d1 (zk_p k x) = d (zk_p k x)) (h2 : ∀ k, k < 4 → c1 (20 + k) = c (20 + k)) (hg : ∀ k, k < 4 → g1 0 k = g 0 k ∧ g1 1 k = g 1 k ∧ g1 2 k = g 2 k) (h4 : ∀ k x, k < 4 → g1 4 (zk_p k x + 1) = g 4 (zk_p k x + 1)) (hm : ∀ r, 16 ≤ r → r ≤ 24 → m1 r = m r) (hq : q1 25 = q 25) (hu : ∀ k, u1 0 k = u 0 k ∧ u1 1 k = u 1 k) (hu5 : u 5 0 ≤ u1 5 0 ∧ u 5 1 ≤ u1 5 1) : zs_P c1 d1 g1 m1 q1 u1 sl of tu au := by
  have hl : ∀ {k x}, zs_l g1 k x ↔ zs_l g k x := fun {k x} => zs_l_c hg
  obtain ⟨p1, p2, p3, p4, p5⟩ := h
  refine ⟨fun k x hx => ?_, fun s hs e => ?_, fun s hs => ?_, fun s hs => ?_, fun k x j y hx hy => p5 k x j y (hl.mp hx) (hl.mp hy)⟩
  · have hk := hx.1
    obtain ⟨a1, a2, a3⟩ := p1 k x (hl.mp hx)
    refine ⟨?_, ?_, ?_⟩
    · unfold zs_p
      rw [(h1 k x hk).1, (h1 k x hk).2.2, hm 16 (by decide) (by decide), hm 17 (by decide) (by decide), hm 19 (by decide) (by decide), hm 21 (by decide) (by decide), hm 22 (by decide) (by decide), hm 23 (by decide) (by decide), hm 24 (by decide) (by decide)]
      obtain ⟨b1, b2, b3, b4, b5, b6, b7, b8, b9, b10, b11, b12, b13, b14, b15, b16, b17⟩ := a1
      exact ⟨b1, b2, b3, b4, b5, b6, b7, b8, b9, b10, b11, b12, b13, b14, by omega, by omega, b17⟩
    · unfold zs_te zo_tl
      rw [(h1 k x hk).2.1, h4 k x hk, hm 18 (by decide) (by decide), hm 19 (by decide) (by decide), hm 20 (by decide) (by decide), hq]
      exact a2
    · unfold zs_o
      rw [(h1 k x hk).1, h2 k hk, (hu k).1, (hu k).2, (hg k hk).2.2]
      exact a3
  · rw [hm 16 (by decide) (by decide)] at e
    obtain ⟨k, x, hx, e2⟩ := p2 s hs e
    exact ⟨k, x, hl.mpr hx, e2⟩
  · rw [hm 20 (by decide) (by decide)]
    exact p3 s hs
  · rw [hm 23 (by decide) (by decide)]
    exact p4 s hs
theorem zs_L_c (h : zs_L c d g m u) (h1 : ∀ p, p < 4 → c1 (30 + p) = c (30 + p) ∧ d1 (30 + p) = d (30 + p)) (hg : ∀ p, p < 4 → g1 3 p = g 3 p) (hg0 : ∀ k, k < 4 → g1 0 k = g 0 k) (hm : ∀ r, 27 ≤ r → r ≤ 32 → m1 r = m r) (hu : ∀ p, u1 3 p = u 3 p ∧ u1 4 p = u 4 p) (hu5 : u 5 0 ≤ u1 5 0 ∧ u 5 2 ≤ u1 5 2) : zs_L c1 d1 g1 m1 u1 := by
  refine ⟨fun p hp => ?_, fun p j hp hj gp gj => ?_⟩
  · rw [hg p hp, (h1 p hp).1, (h1 p hp).2, (hu p).1, (hu p).2, hm 27 (by decide) (by decide), hm 28 (by decide) (by decide), hm 29 (by decide) (by decide), hm 30 (by decide) (by decide), hm 31 (by decide) (by decide), hm 32 (by decide) (by decide)]
    refine ⟨(h.1 p hp).1, fun e => ?_⟩
    obtain ⟨a1, a2, a3, a4, a5, a6, a7, a8, a9, a10, a11⟩ := (h.1 p hp).2 e
    exact ⟨a1, by rw [hg0 _ (by omega)]; exact a2, a3, a4, a5, a6, a7, a8, a9, by omega, by omega⟩
  · rw [hg p hp] at gp
    rw [hg j hj] at gj
    rw [(hu p).1, (hu p).2, (hu j).1, (hu j).2]
    exact h.2 p j hp hj gp gj
theorem zs_F_c (h : zs_F c g m) (h2 : c1 2 = c 2) (h9 : c1 90 = c 90 ∧ c1 91 = c 91) (hg : g1 5 0 = g 5 0 ∧ g1 4 91 = g 4 91) (h34 : m1 34 = m 34) (h35 : m1 40 35 = m 40 35) (h36 : m1 36 = m 36) : zs_F c1 g1 m1 := by
  unfold zs_F
  rw [h2, h9.1, h9.2, hg.1, hg.2, h34, h35, h36]
  exact h
theorem zs_N_c (h : zs_N d g m u) (h1 : d1 9 = d 9) (hg : ∀ k, k < 4 → g1 0 k = g 0 k ∧ g1 2 k = g 2 k) (h6 : g1 6 0 = g 6 0) (hm : m1 40 26 = m 40 26 ∧ m1 40 33 = m 40 33) : zs_N d1 g1 m1 u := by
  obtain ⟨a1, a2, a3, a4, a5, a6, a7, a8, a9⟩ := h
  refine ⟨by rw [h1]; exact a1, by rw [hm.1]; exact a2, by rw [hm.2]; exact a3, a4, a5, a6, fun k hk e => ?_, a8, a9⟩
  rw [(hg k hk).1] at e
  rw [(hg k hk).2]
  exact a7 k hk e
end ZSC
