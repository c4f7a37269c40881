theorem zo_cc_n {m : Nat → Nat → Int32} {X y : Int32} : ∀ n, zo_cc m X y n = nI (zs_sum (fun s => if zo_ci m X y s = nI 0 then 0 else 1) n)
  | 0 => rfl
  | n + 1 => by
    have h01 : zo_ci m X y n = nI 0 ∨ zo_ci m X y n = nI 1 := by
      have h5 : zo_c5 m y n = nI 0 ∨ zo_c5 m y n = nI 1 := by
        unfold zo_c5
        split
        · split
          · exact Or.inr rfl
          · exact Or.inl rfl
        · exact Or.inl rfl
      unfold zo_ci
      split
      · split
        · exact Or.inr rfl
        · split
          · split
            · exact h5
            · exact Or.inr rfl
          · exact h5
      · exact Or.inl rfl
    rw [zo_cc, zs_sum, zo_cc_n n, ← nI_add]
    congr 1
    rcases h01 with e | e
    · rw [e, if_pos rfl]
    · rw [e, if_neg (by decide)]
theorem zk_cc_n (c : Nat → Nat → Int32) (k a : Nat) : ∀ n, zk_cc c k a n = zs_sum (fun i => if c (zk_p k (a + i)) 5 = nI 0 then 0 else 1) n
  | 0 => rfl
  | n + 1 => by rw [zk_cc, zs_sum, zk_cc_n c k a n]
theorem zk_ca_n (d : Nat → Nat → Int64) (k a : Nat) : ∀ n, zk_ca d k a n = zs_sum (fun i => if zk_ask (d (zk_p k (a + i)) 7) = nI 0 then 0 else 1) n
  | 0 => rfl
  | n + 1 => by rw [zk_ca, zs_sum, zk_ca_n d k a n]
theorem zs_sum_1 : ∀ n, zs_sum (fun _ => 1) n = n
  | 0 => rfl
  | n + 1 => by rw [zs_sum, zs_sum_1 n]
theorem zt_not {y : Int32} {n : Nat} (hn : n < 2 ^ 30) (h : ∀ k, k ≤ n → ¬ y = nI k) : y < nI 0 ∨ nI n < y := by
  by_cases h1 : y < nI 0
  · exact Or.inl h1
  · by_cases h2 : nI n < y
    · exact Or.inr h2
    · obtain ⟨j, hj, e⟩ := zt_ix1 h1 h2 hn
      exact absurd e (h j (by omega))
section ZSA
variable {c : Nat → Nat → Int32} {d : Nat → Nat → Int64} {g : Nat → Nat → Nat} {m : Nat → Nat → Int32} {q : Nat → Nat → Int64} {u sl of tu au : Nat → Nat → Nat}
theorem zs_tub (h : zs c d g m q u sl of tu au) {k x : Nat} (hx : zs_l g k x) : tu k x ≤ 600 ∧ au k x ≤ 600 := by
  have hp := (h.2.2.2.1.1 k x hx).1
  have h1 := hp.2.2.2.2.2.2.2.2.2.2.2.2.2.2.1
  have h2 := hp.2.2.2.2.2.2.2.2.2.2.2.2.2.2.2.1
  have hN := h.2.2.2.2.2.2
  have h3 := hN.2.2.2.1
  have h4 := hN.2.2.2.2.1
  have h5 := hN.2.2.2.2.2.2.2.1
  omega
theorem zs_count (h : zs c d g m q u sl of tu au) {k : Nat} (hk : k < 4) (hg : g 0 k ≠ 0) (y : Int32) : zk_cnt c d g k y = zo_cn m (nI k) y := by
  have hs := (h.2.1 k hk).2 hg
  have hl : ∀ i, i < g 2 k - g 1 k → zs_l g k (g 1 k + i) := fun i hi => ⟨hk, hg, by omega, by omega⟩
  have hcl : (nI k).toNatClampNeg = k := nI_clamp (by omega)
  have hmd : ¬ zo_made (m 7) (nI k) = nI 0 := by rw [zo_made_n hk, if_neg (zs_mk h hk hg)]; decide
  unfold zo_cn
  rw [if_neg hmd, hcl]
  by_cases h0 : y = nI 0
  · subst h0
    unfold zk_cnt
    rw [if_pos rfl, if_neg (by decide), if_neg (by decide), if_neg (by decide), if_neg (by decide), if_neg (by decide), zo_cc_n, zs_cnt h hk hg _ (fun s hs e => Decidable.byContradiction fun z => e (by unfold zo_ci; rw [if_neg z, if_pos rfl]))]
    congr 1
    refine (zs_sum_1 _).symm.trans (zs_sum_c _ (fun i hi => ?_))
    unfold zo_ci
    rw [if_pos (h.2.2.2.1.1 k _ (hl i hi)).1.2.1, if_pos rfl, if_neg (by decide)]
  · by_cases h1 : y = nI 1
    · subst h1
      unfold zk_cnt
      rw [if_neg (by decide), if_pos rfl, if_neg (by decide), if_neg (by decide), if_neg (by decide), if_neg (by decide), if_neg (by decide), zo_cc_n, zs_cnt h hk hg _ (fun s hs e => Decidable.byContradiction fun z => e (by unfold zo_ci; rw [if_neg z, if_pos rfl])), zk_cc_n]
      congr 1
      refine zs_sum_c _ (fun i hi => ?_)
      have hp := (h.2.2.2.1.1 k _ (hl i hi)).1
      have hci : zo_ci m (nI k) (nI 1) (sl k (g 1 k + i)) = if c (zk_p k (g 1 k + i)) 5 = nI 0 then nI 0 else nI 1 := by
        unfold zo_ci
        rw [if_pos hp.2.1, if_neg (show ¬ nI 1 = nI 0 by decide), if_pos (show nI 1 = nI 1 from rfl), hp.2.2.2.2.2.1]
        unfold zo_c5
        rw [if_neg (show ¬ nI 1 = nI 5 by decide)]
      rw [hci]
      by_cases e : c (zk_p k (g 1 k + i)) 5 = nI 0
      · rw [if_pos e, if_pos e, if_pos rfl]
      · rw [if_neg e, if_neg e, if_neg (by decide)]
    · by_cases h2 : y = nI 2
      · subst h2
        unfold zk_cnt
        rw [if_neg (by decide), if_neg (by decide), if_pos rfl, if_neg (by decide), if_neg (by decide), if_pos rfl, hs.2.2.2.2.2.2.1, hs.2.2.2.2.2.2.2.1]
      · by_cases h3 : y = nI 3
        · subst h3
          unfold zk_cnt
          rw [if_neg (by decide), if_neg (by decide), if_neg (by decide), if_pos rfl, if_neg (by decide), if_neg (by decide), if_neg (by decide), if_pos rfl, hs.2.2.2.2.2.2.2.2.2.1, hs.2.2.2.2.2.2.2.2.2.2.1]
        · by_cases h4 : y = nI 4
          · subst h4
            unfold zk_cnt
            rw [if_neg (by decide), if_neg (by decide), if_neg (by decide), if_neg (by decide), if_pos rfl, if_neg (by decide), if_neg (by decide), if_neg (by decide), if_neg (by decide), if_pos rfl, hs.2.2.2.2.2.2.2.2.1]
          · by_cases h5 : y = nI 5
            · subst h5
              unfold zk_cnt
              rw [if_neg (by decide), if_neg (by decide), if_neg (by decide), if_neg (by decide), if_neg (by decide), if_pos rfl, if_neg (by decide), if_neg (by decide), if_neg (by decide), if_neg (by decide), if_neg (by decide), zo_cc_n, zs_cnt h hk hg _ (fun s hs e => Decidable.byContradiction fun z => e (by unfold zo_ci; rw [if_neg z, if_pos rfl])), zk_ca_n]
              congr 1
              refine zs_sum_c _ (fun i hi => ?_)
              have hp := (h.2.2.2.1.1 k _ (hl i hi)).1
              have hb := zs_tub h (hl i hi)
              have hci : zo_ci m (nI k) (nI 5) (sl k (g 1 k + i)) = if nI 0 < nI (au k (g 1 k + i)) then nI 1 else nI 0 := by
                unfold zo_ci
                rw [if_pos hp.2.1, if_neg (show ¬ nI 5 = nI 0 by decide), if_neg (show ¬ nI 5 = nI 1 by decide)]
                unfold zo_c5
                rw [if_pos (show nI 5 = nI 5 from rfl), hp.2.2.2.2.2.2.2.2.2.2.2.2.1]
              rw [hci, hp.2.2.2.2.2.2.2.2.2.2.2.1]
              by_cases e : tu k (g 1 k + i) = 0
              · rw [if_pos ((zl_ask (by omega)).mpr e), hp.2.2.2.2.2.2.2.2.2.2.2.2.2.1.mp e, if_neg (show ¬ nI 0 < nI 0 by decide), if_pos rfl]
              · rw [if_neg (fun z => e ((zl_ask (by omega)).mp z)), if_pos (nI_lt (Nat.pos_of_ne_zero fun z => e (hp.2.2.2.2.2.2.2.2.2.2.2.2.2.1.mpr z)) (by omega)), if_neg (by decide)]
            · have hout := zt_not (n := 5) (by decide) (fun j hj e => by
                rcases (show j = 0 ∨ j = 1 ∨ j = 2 ∨ j = 3 ∨ j = 4 ∨ j = 5 by omega) with rfl | rfl | rfl | rfl | rfl | rfl
                · exact h0 e
                · exact h1 e
                · exact h2 e
                · exact h3 e
                · exact h4 e
                · exact h5 e)
              unfold zk_cnt
              rw [if_neg h0, if_neg h1, if_neg h2, if_neg h3, if_neg h4, if_neg h5]
              rcases hout with e | e
              · rw [if_pos e]
              · by_cases e0 : y < nI 0
                · rw [if_pos e0]
                · rw [if_neg e0, if_pos e]
theorem zs_count0 (h : zs c d g m q u sl of tu au) {x y : Int32} (hmd : zk_md g x = none) : zo_cn m x y = (-2) := by
  unfold zo_cn
  rw [if_pos (zs_md h hmd)]
/-! seek -/
theorem zo_se_of {m : Nat → Nat → Int32} {X t : Int32} (hpos : ∀ s, s < 280 → m 16 s = X → ¬ m 17 s < nI 0) : ∀ n, n ≤ 280 → (zo_se m X t n = (-1) ∧ ∀ s, s < n → m 16 s = X → m 19 s < t) ∨ ∃ s, s < n ∧ m 16 s = X ∧ ¬ m 19 s < t ∧ zo_se m X t n = m 17 s ∧ ∀ j, j < n → m 16 j = X → ¬ m 19 j < t → ¬ m 17 j < m 17 s
  | 0, _ => Or.inl ⟨rfl, fun s hs => absurd hs (Nat.not_lt_zero _)⟩
  | n + 1, hn => by
    have ih := zo_se_of hpos (t := t) n (by omega)
    rw [zo_se]
    by_cases h1 : m 16 n = X
    · rw [if_pos h1]
      by_cases h2 : m 19 n < t
      · rw [if_pos h2]
        rcases ih with ⟨e, ha⟩ | ⟨s, hs, a1, a2, a3, a4⟩
        · refine Or.inl ⟨e, fun s hs e16 => ?_⟩
          by_cases es : s = n
          · rw [es]
            exact h2
          · exact ha s (by omega) e16
        · refine Or.inr ⟨s, by omega, a1, a2, a3, fun j hj e16 e19 => ?_⟩
          by_cases es : j = n
          · rw [es] at e19
            exact absurd h2 e19
          · exact a4 j (by omega) e16 e19
      · rw [if_neg h2]
        rcases ih with ⟨e, ha⟩ | ⟨s, hs, a1, a2, a3, a4⟩
        · rw [e, if_pos (by decide)]
          refine Or.inr ⟨n, by omega, h1, h2, rfl, fun j hj e16 e19 => ?_⟩
          by_cases es : j = n
          · rw [es]
            exact fun z => Int32.lt_irrefl z
          · exact absurd (ha j (by omega) e16) e19
        · rw [a3, if_neg (hpos s (by omega) a1)]
          by_cases h3 : m 17 n < m 17 s
          · rw [if_pos h3]
            refine Or.inr ⟨n, by omega, h1, h2, rfl, fun j hj e16 e19 hlt => ?_⟩
            by_cases es : j = n
            · rw [es] at hlt
              exact Int32.lt_irrefl hlt
            · exact a4 j (by omega) e16 e19 (Int32.lt_trans hlt h3)
          · rw [if_neg h3]
            refine Or.inr ⟨s, by omega, a1, a2, rfl, fun j hj e16 e19 => ?_⟩
            by_cases es : j = n
            · rw [es]
              exact h3
            · exact a4 j (by omega) e16 e19
    · rw [if_neg h1]
      rcases ih with ⟨e, ha⟩ | ⟨s, hs, a1, a2, a3, a4⟩
      · refine Or.inl ⟨e, fun s hs e16 => ?_⟩
        by_cases es : s = n
        · rw [es] at e16
          exact absurd e16 h1
        · exact ha s (by omega) e16
      · refine Or.inr ⟨s, by omega, a1, a2, a3, fun j hj e16 e19 => ?_⟩
        by_cases es : j = n
        · rw [es] at e16
          exact absurd e16 h1
        · exact a4 j (by omega) e16 e19
theorem zk_sk_of {c : Nat → Nat → Int32} {k b : Nat} {t : Int32} : ∀ r, r ≤ b → (zk_sk c k b t r = (-1) ∧ ∀ x, b - r ≤ x → x < b → c (zk_p k x) 3 < t) ∨ ∃ x, b - r ≤ x ∧ x < b ∧ ¬ c (zk_p k x) 3 < t ∧ zk_sk c k b t r = c (zk_p k x) 2 ∧ ∀ y, b - r ≤ y → y < x → c (zk_p k y) 3 < t
  | 0, _ => Or.inl ⟨rfl, fun x h1 h2 => by omega⟩
  | r + 1, hr => by
    rw [zk_sk]
    by_cases h1 : c (zk_p k (b - (r + 1))) 3 < t
    · rw [if_pos h1]
      rcases zk_sk_of (c := c) (k := k) (b := b) (t := t) r (by omega) with ⟨e, ha⟩ | ⟨x, a1, a2, a3, a4, a5⟩
      · refine Or.inl ⟨e, fun x hx1 hx2 => ?_⟩
        by_cases ex : x = b - (r + 1)
        · rw [ex]
          exact h1
        · exact ha x (by omega) hx2
      · refine Or.inr ⟨x, by omega, a2, a3, a4, fun y hy1 hy2 => ?_⟩
        by_cases ey : y = b - (r + 1)
        · rw [ey]
          exact h1
        · exact a5 y (by omega) hy2
    · rw [if_neg h1]
      exact Or.inr ⟨b - (r + 1), by omega, by omega, h1, rfl, fun y hy1 hy2 => by omega⟩
theorem zs_seek (h : zs c d g m q u sl of tu au) {k : Nat} (hk : k < 4) (hg : g 0 k ≠ 0) (t : Int32) : zk_sk c k (g 2 k) t (g 2 k - g 1 k) = zo_se m (nI k) t 280 := by
  have hlo := ((h.2.1 k hk).2 hg).2.2.2.2.2.2.2.2.2.2.2.2.2.1.2.2.2.2.2.2
  have hpos : ∀ s, s < 280 → m 16 s = nI k → ¬ m 17 s < nI 0 := fun s hs e => by
    obtain ⟨x, hx, rfl⟩ := zs_at h hs hk e
    rw [(h.2.2.2.1.1 k x hx).1.2.2.1]
    exact nI_nlt (Nat.zero_le _) (by have := zs_xb h hx; omega)
  rcases zk_sk_of (c := c) (k := k) (b := g 2 k) (t := t) (g 2 k - g 1 k) (by omega) with ⟨e, ha⟩ | ⟨x, a1, a2, a3, a4, a5⟩
  · rw [e]
    rcases zo_se_of hpos (t := t) 280 (Nat.le_refl _) with ⟨e2, -⟩ | ⟨s, hs, b1, b2, b3, b4⟩
    · exact e2.symm
    · obtain ⟨y, hy, rfl⟩ := zs_at h hs hk b1
      rw [(h.2.2.2.1.1 k y hy).1.2.2.2.1] at b2
      exact absurd (ha y (by have := hy.2.2.1; omega) hy.2.2.2) b2
  · have hx : zs_l g k x := ⟨hk, hg, by omega, a2⟩
    have hp := (h.2.2.2.1.1 k x hx).1
    rw [a4]
    rcases zo_se_of hpos (t := t) 280 (Nat.le_refl _) with ⟨e2, ha⟩ | ⟨s, hs, b1, b2, b3, b4⟩
    · have := ha (sl k x) hp.1 hp.2.1
      rw [hp.2.2.2.1] at this
      exact absurd this a3
    · obtain ⟨y, hy, rfl⟩ := zs_at h hs hk b1
      have hq := (h.2.2.2.1.1 k y hy).1
      have h1 := b4 (sl k x) hp.1 hp.2.1 (by rw [hp.2.2.2.1]; exact a3)
      rw [hp.2.2.1, hq.2.2.1] at h1
      have h2 : y ≤ x := Nat.not_lt.mp fun z => h1 (nI_lt z (by have := zs_xb h hy; omega))
      have h3 : ¬ y < x := fun z => by
        have := a5 y (by have := hy.2.2.1; omega) z
        rw [hq.2.2.2.1] at b2
        exact b2 this
      have : y = x := by omega
      rw [b3, hq.2.2.1, this, hp.2.2.2.2.2.2.2.2.1]
end ZSA
