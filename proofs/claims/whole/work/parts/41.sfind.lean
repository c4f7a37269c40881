theorem zt_nn {x : Int32} (h : ¬ x < nI 0) : ∃ j, j < 2 ^ 31 ∧ x = nI j := by
  have h1 : (nI 0).toInt ≤ x.toInt := Int32.le_iff_toInt_le.mp (Int32.not_lt.mp h)
  have h0 : (nI 0).toInt = 0 := rfl
  have h2 : x.toInt < 2 ^ 31 := x.toInt_lt
  refine ⟨x.toInt.toNat, by omega, ?_⟩
  apply Int32.toInt_inj.mp
  rw [nI_toInt (by omega)]
  omega
theorem zl_lt {a b : Nat} (ha : a < 2 ^ 62) (hb : b < 2 ^ 62) : (lg_cmp (lN a) (lN b) < nI 0) ↔ a < b := by
  have h1 := lg_cmp_lt (lN a) (lN b)
  have h2 : (lN a).toInt = (a : Int) := pf_lI (by omega)
  have h3 : (lN b).toInt = (b : Int) := pf_lI (by omega)
  constructor
  · intro h
    have := Int64.lt_iff_toInt_lt.mp (h1.mp h)
    omega
  · intro h
    exact h1.mpr (Int64.lt_iff_toInt_lt.mpr (by omega))
theorem zl_ask {a : Nat} (ha : a < 2 ^ 62) : zk_ask (lN a) = nI 0 ↔ a = 0 := by
  have h2 : (lN a).toInt = (a : Int) := pf_lI (by omega)
  have h1 := lg_cmp_eq (lN a) 0
  unfold zk_ask
  constructor
  · intro h
    by_cases e : lg_cmp (lN a) 0 = nI 0
    · have := h1.mp e
      rw [this] at h2
      have h3 : (0 : Int64).toInt = 0 := rfl
      omega
    · rw [if_neg e] at h
      exact absurd h (by decide)
  · intro h
    rw [if_pos]
    rw [h]
    decide
theorem zo_fd_u {m : Nat → Nat → Int32} {X Y : Int32} {s0 : Nat} (hX : ¬ X < nI 0) (h16 : m 16 s0 = X) (h17 : m 17 s0 = Y) : ∀ n, (∀ s, s < n → m 16 s = X → m 17 s = Y → s = s0) → s0 < n → zo_fd m X Y n = nI s0
  | 0, _, h => absurd h (Nat.not_lt_zero _)
  | n + 1, hu, h => by
    rw [zo_fd]
    by_cases e : n = s0
    · rw [e, if_pos h16, if_neg hX, if_pos h17]
    · have ih := zo_fd_u hX h16 h17 n (fun s hs => hu s (by omega)) (by omega)
      by_cases h1 : m 16 n = X
      · rw [if_pos h1, if_neg hX]
        by_cases h2 : m 17 n = Y
        · exact absurd (hu n (by omega) h1 h2) e
        · rw [if_neg h2]
          exact ih
      · rw [if_neg h1]
        exact ih
theorem zo_fd_n {m : Nat → Nat → Int32} {X Y : Int32} : ∀ n, (∀ s, s < n → m 16 s = X → m 17 s = Y → X < nI 0) → zo_fd m X Y n = (-1)
  | 0, _ => rfl
  | n + 1, hu => by
    have ih := zo_fd_n n (fun s hs => hu s (by omega))
    rw [zo_fd]
    by_cases h1 : m 16 n = X
    · rw [if_pos h1]
      by_cases h0 : X < nI 0
      · rw [if_pos h0]
        exact ih
      · rw [if_neg h0]
        by_cases h2 : m 17 n = Y
        · exact absurd (hu n (by omega) h1 h2) h0
        · rw [if_neg h2]
          exact ih
    · rw [if_neg h1]
      exact ih
/-! sums -/
def zs_sum (f : Nat → Nat) : Nat → Nat
  | 0 => 0
  | n + 1 => zs_sum f n + f n
theorem zs_sum_c {f f1 : Nat → Nat} : ∀ n, (∀ s, s < n → f s = f1 s) → zs_sum f n = zs_sum f1 n
  | 0, _ => rfl
  | n + 1, h => by rw [zs_sum, zs_sum, zs_sum_c n (fun s hs => h s (by omega)), h n (by omega)]
theorem zs_sum_z {f : Nat → Nat} : ∀ n, (∀ s, s < n → f s = 0) → zs_sum f n = 0
  | 0, _ => rfl
  | n + 1, h => by rw [zs_sum, zs_sum_z n (fun s hs => h s (by omega)), h n (by omega)]
theorem zs_sum_rm {f : Nat → Nat} {a : Nat} : ∀ n, a < n → zs_sum f n = zs_sum (fun s => if s = a then 0 else f s) n + f a
  | 0, h => absurd h (Nat.not_lt_zero _)
  | n + 1, h => by
    rw [zs_sum, zs_sum]
    by_cases e : n = a
    · subst e
      rw [if_pos rfl, zs_sum_c n (fun s hs => (if_neg (show ¬ s = n by omega)).symm) (f1 := fun s => if s = n then 0 else f s)]
      omega
    · rw [if_neg e, zs_sum_rm (f := f) (a := a) n (by omega)]
      omega
theorem zs_sum_le {f : Nat → Nat} (h : ∀ s, f s ≤ 1) : ∀ n, zs_sum f n ≤ n
  | 0 => Nat.le_refl _
  | n + 1 => by
    have := zs_sum_le h n
    have := h n
    rw [zs_sum]
    omega
theorem zs_bij {N : Nat} {σ : Nat → Nat} : ∀ (n : Nat) (f : Nat → Nat), (∀ i, i < n → σ i < N) → (∀ i j, i < n → j < n → σ i = σ j → i = j) → (∀ s, s < N → f s ≠ 0 → ∃ i, i < n ∧ s = σ i) → zs_sum f N = zs_sum (fun i => f (σ i)) n
  | 0, f, _, _, h => zs_sum_z N (fun s hs => Decidable.byContradiction fun e => by
      obtain ⟨i, hi, _⟩ := h s hs e
      omega)
  | n + 1, f, h1, h2, h3 => by
    have ih := zs_bij (N := N) (σ := σ) n (fun s => if s = σ n then 0 else f s) (fun i hi => h1 i (by omega)) (fun i j hi hj => h2 i j (by omega) (by omega)) (fun s hs e => by
      by_cases es : s = σ n
      · exact absurd (if_pos es) e
      · rw [if_neg es] at e
        obtain ⟨i, hi, ei⟩ := h3 s hs e
        exact ⟨i, by have : i ≠ n := fun z => es (by rw [ei, z]); omega, ei⟩)
    rw [zs_sum_rm N (h1 n (by omega)), ih, zs_sum]
    congr 1
    refine zs_sum_c n (fun i hi => if_neg (fun e => ?_))
    have := h2 i n (by omega) (by omega) e
    omega
section ZSF
variable {c : Nat → Nat → Int32} {d : Nat → Nat → Int64} {g : Nat → Nat → Nat} {m : Nat → Nat → Int32} {q : Nat → Nat → Int64} {u sl of tu au : Nat → Nat → Nat}
/-- a place of store k is the place of one of its kept packets -/
theorem zs_at (h : zs c d g m q u sl of tu au) {k s : Nat} (hs : s < 280) (hk : k < 4) (e : m 16 s = nI k) : ∃ x, zs_l g k x ∧ s = sl k x := by
  obtain ⟨-, -, -, ⟨p1, p2, -⟩, -⟩ := h
  obtain ⟨j, x, hx, ex⟩ := p2 s hs (by rw [e]; exact nI_nlt (Nat.zero_le _) (by omega))
  have h1 := (p1 j x hx).1.2.1
  rw [← ex, e] at h1
  have := (nI_eq (by omega) (by have := hx.1; omega)).mp h1
  subst this
  exact ⟨x, hx, ex⟩
theorem zs_xb (h : zs c d g m q u sl of tu au) {k x : Nat} (hx : zs_l g k x) : x < 600 := by
  have h1 := h.2.2.2.2.2.2.2.2.2.2.2.2.1 k hx.1 hx.2.1
  have h2 := h.2.2.2.2.2.2.2.2.2.2.2.2.2.1
  have := hx.2.2.2
  omega
theorem zs_sl (h : zs c d g m q u sl of tu au) {k x y : Nat} (hx : zs_l g k x) (hy : zs_l g k y) (e : sl k x = sl k y) : x = y := by
  have h1 := (h.2.2.2.1.1 k x hx).1.2.2.1
  have h2 := (h.2.2.2.1.1 k y hy).1.2.2.1
  rw [e, h2] at h1
  exact ((nI_eq (by have := zs_xb h hy; omega) (by have := zs_xb h hx; omega)).mp h1).symm
theorem zs_slj (h : zs c d g m q u sl of tu au) {k j x y : Nat} (hx : zs_l g k x) (hy : zs_l g j y) (e : sl k x = sl j y) : k = j ∧ x = y := by
  have h1 := (h.2.2.2.1.1 k x hx).1.2.1
  have h2 := (h.2.2.2.1.1 j y hy).1.2.1
  rw [e, h2] at h1
  have := (nI_eq (by have := hy.1; omega) (by have := hx.1; omega)).mp h1
  subst this
  exact ⟨rfl, zs_sl h hx hy e⟩
theorem zs_find (h : zs c d g m q u sl of tu au) {k x : Nat} (hx : zs_l g k x) : zo_fd m (nI k) (nI x) 280 = nI (sl k x) := by
  have hp := (h.2.2.2.1.1 k x hx).1
  refine zo_fd_u (nI_nlt (Nat.zero_le _) (by have := hx.1; omega)) hp.2.1 hp.2.2.1 280 (fun s hs e1 e2 => ?_) hp.1
  obtain ⟨y, hy, ey⟩ := zs_at h hs hx.1 e1
  have h2 := (h.2.2.2.1.1 k y hy).1.2.2.1
  rw [← ey, e2] at h2
  have := (nI_eq (by have := zs_xb h hx; omega) (by have := zs_xb h hy; omega)).mp h2
  rw [ey, this]
theorem zs_find0 (h : zs c d g m q u sl of tu au) {k : Nat} {y : Int32} (hk : k < 4) (hn : ∀ x, zs_l g k x → ¬ y = nI x) : zo_fd m (nI k) y 280 = (-1) := by
  refine zo_fd_n 280 (fun s hs e1 e2 => ?_)
  obtain ⟨x, hx, ex⟩ := zs_at h hs hk e1
  have h2 := (h.2.2.2.1.1 k x hx).1.2.2.1
  rw [← ex, e2] at h2
  exact absurd h2 (hn x hx)
/-- nothing is found of a store that is not made -/
theorem zs_find1 (h : zs c d g m q u sl of tu au) {x y : Int32} (hmd : zk_md g x = none) : zo_fd m x y 280 = (-1) := by
  refine zo_fd_n 280 (fun s hs e1 e2 => Decidable.byContradiction fun hx => ?_)
  obtain ⟨k, z, hz, ez⟩ := h.2.2.2.1.2.1 s hs (by rw [e1]; exact hx)
  have h1 := (h.2.2.2.1.1 k z hz).1.2.1
  rw [← ez, e1] at h1
  rw [h1, zk_md_n hz.1, if_neg hz.2.1] at hmd
  cases hmd
theorem zs_md (h : zs c d g m q u sl of tu au) {x : Int32} (hmd : zk_md g x = none) : zo_made (m 7) x = nI 0 := Decidable.byContradiction fun e => by
  obtain ⟨k, hk, rfl, e2⟩ := zo_made_of e
  rw [zk_md_n hk] at hmd
  by_cases hg : g 0 k = 0
  · exact e2 ((h.2.1 k hk).1 hg)
  · rw [if_neg hg] at hmd
    cases hmd
theorem zs_mk (h : zs c d g m q u sl of tu au) {k : Nat} (hk : k < 4) (hg : g 0 k ≠ 0) : ¬ m 7 k = nI 0 := by
  rw [((h.2.1 k hk).2 hg).1]
  decide
/-- a sum over the places is a sum over the kept packets of store k -/
theorem zs_cnt (h : zs c d g m q u sl of tu au) {k : Nat} (hk : k < 4) (hg : g 0 k ≠ 0) (f : Nat → Nat) (hf : ∀ s, s < 280 → f s ≠ 0 → m 16 s = nI k) : zs_sum f 280 = zs_sum (fun i => f (sl k (g 1 k + i))) (g 2 k - g 1 k) := by
  have hl : ∀ i, i < g 2 k - g 1 k → zs_l g k (g 1 k + i) := fun i hi => ⟨hk, hg, by omega, by omega⟩
  refine zs_bij (σ := fun i => sl k (g 1 k + i)) (g 2 k - g 1 k) f (fun i hi => (h.2.2.2.1.1 k _ (hl i hi)).1.1) (fun i j hi hj e => ?_) (fun s hs e => ?_)
  · have := zs_sl h (hl i hi) (hl j hj) e
    omega
  · obtain ⟨x, hx, ex⟩ := zs_at h hs hk (hf s hs e)
    have h1 := hx.2.2.1
    have h2 := hx.2.2.2
    exact ⟨x - g 1 k, by omega, by rw [ex, show g 1 k + (x - g 1 k) = x by omega]⟩
end ZSF
