/-- pigeons: no injection of n + 1 into n -/
theorem zs_pig : ∀ (n : Nat) (f : Nat → Nat), (∀ i, i ≤ n → f i < n) → ∃ i j, i < j ∧ j ≤ n ∧ f i = f j
  | 0, f, h => absurd (h 0 (Nat.le_refl _)) (Nat.not_lt_zero _)
  | n + 1, f, h => by
    by_cases hex : ∃ i, i ≤ n ∧ f i = f (n + 1)
    · obtain ⟨i, hi, e⟩ := hex
      exact ⟨i, n + 1, by omega, Nat.le_refl _, e⟩
    · have hne : ∀ i, i ≤ n → f i ≠ f (n + 1) := fun i hi e => hex ⟨i, hi, e⟩
      obtain ⟨i, j, h1, h2, h3⟩ := zs_pig n (fun i => if f i < f (n + 1) then f i else f i - 1) (fun i hi => by
        have a := h i (by omega)
        have b := h (n + 1) (Nat.le_refl _)
        have c := hne i hi
        show (if f i < f (n + 1) then f i else f i - 1) < n
        split <;> omega)
      refine ⟨i, j, h1, by omega, ?_⟩
      have a := hne i (by omega)
      have b := hne j h2
      have h3 : (if f i < f (n + 1) then f i else f i - 1) = (if f j < f (n + 1) then f j else f j - 1) := h3
      split at h3 <;> split at h3 <;> omega
theorem zo_lf_sp {f : Nat → Int32} (h : zo_lf f 40 < 40) : f (zo_lf f 40) = nI 0 ∧ ∀ p, p < zo_lf f 40 → ¬ f p = nI 0 := by
  have key : ∀ d g, g + d = 40 → zo_lf f (40 - g) < 40 → f (zo_lf f (40 - g)) = nI 0 ∧ ∀ p, g ≤ p → p < zo_lf f (40 - g) → ¬ f p = nI 0 := by
    intro d
    induction d with
    | zero =>
      intro g e h
      rw [show 40 - g = 0 by omega] at h
      exact absurd h (Nat.lt_irrefl _)
    | succ d ih =>
      intro g e h
      rw [zo_lf_s (by omega)] at h ⊢
      by_cases h1 : f g = nI 0
      · rw [if_pos h1]
        exact ⟨h1, fun p a b => by omega⟩
      · rw [if_neg h1] at h ⊢
        obtain ⟨a, b⟩ := ih (g + 1) (by omega) h
        refine ⟨a, fun p p1 p2 => ?_⟩
        by_cases ep : p = g
        · rw [ep]
          exact h1
        · exact b p (by omega) p2
  have := key 40 0 rfl h
  exact ⟨this.1, fun p hp => this.2 p (Nat.zero_le _) hp⟩
theorem zb_lp_eq {f : Nat → Int32} {pg : Nat} (h1 : pg < 40) (h2 : f pg = nI 0) (h3 : ∀ p, p < pg → ¬ f p = nI 0) : zb_lp f 39 = pg := by
  have key : ∀ d g, g + d = pg → zb_lp f (39 - g) = pg := by
    intro d
    induction d with
    | zero =>
      intro g e
      have : g = pg := by omega
      subst this
      by_cases h9 : g < 39
      · rw [zb_lp_s h9, if_pos h2]
      · rw [show 39 - g = 0 by omega]
        show 39 = g
        omega
    | succ d ih =>
      intro g e
      rw [zb_lp_s (by omega), if_neg (h3 g (by omega))]
      exact ih (g + 1) (by omega)
  exact key pg 0 (by omega)
section ZSO
variable {c : Nat → Nat → Int32} {d : Nat → Nat → Int64} {g : Nat → Nat → Nat} {m : Nat → Nat → Int32} {q : Nat → Nat → Int64} {u sl of tu au : Nat → Nat → Nat}
/-- where the pages of store j's chain begin in one row of all chains -/
theorem zs_qs_mono (g u : Nat → Nat → Nat) (r : Nat) : ∀ {a b : Nat}, a ≤ b → zs_qs g u r a ≤ zs_qs g u r b := fun {a b} hab => by
  induction b with
  | zero =>
    rw [show a = 0 by omega]
    exact Nat.le_refl _
  | succ b ih =>
    by_cases e : a = b + 1
    · rw [e]
      exact Nat.le_refl _
    · have := ih (by omega)
      rw [zs_qs]
      omega
theorem zs_qs_lt (g u : Nat → Nat → Nat) (r : Nat) {j n i : Nat} (hj : j < n) (gj : g 0 j ≠ 0) (hi : i < u r j) : zs_qs g u r j + i < zs_qs g u r n := by
  have h1 := zs_qs_mono g u r (show j + 1 ≤ n by omega)
  rw [zs_qs, if_neg gj] at h1
  omega
theorem zs_code (g u : Nat → Nat → Nat) (r : Nat) {j k i h : Nat} (gj : g 0 j ≠ 0) (gk : g 0 k ≠ 0) (hi : i < u r j) (hh : h < u r k) (e : zs_qs g u r j + i = zs_qs g u r k + h) : j = k ∧ i = h := by
  rcases Nat.lt_trichotomy j k with h1 | h1 | h1
  · have := zs_qs_lt g u r h1 gj hi
    omega
  · subst h1
    exact ⟨rfl, by omega⟩
  · have := zs_qs_lt g u r h1 gk hh
    omega
theorem zs_clq (h : zs c d g m q u sl of tu au) : ∀ n, n ≤ 4 → zs_qs g u 0 n ≤ zs_qs g u 2 n
  | 0, _ => Nat.le_refl _
  | n + 1, hn => by
    have ih := zs_clq h n (by omega)
    rw [zs_qs, zs_qs]
    by_cases e : g 0 n = 0
    · rw [if_pos e, if_pos e]
      omega
    · rw [if_neg e, if_neg e]
      have := ((h.2.1 n (by omega)).2 e).2.2.2.2.2.2.2.2.2.2.2.2.2.1.2.2.1
      omega
theorem zs_clq1 (h : zs c d g m q u sl of tu au) {k : Nat} (hk : k < 4) (hg : g 0 k ≠ 0) (hlt : u 0 k < u 2 k) : zs_qs g u 0 4 < zs_qs g u 2 4 := by
  have key : ∀ n, n ≤ 4 → k < n → zs_qs g u 0 n < zs_qs g u 2 n := by
    intro n
    induction n with
    | zero => intro _ h; omega
    | succ n ih =>
      intro hn hkn
      rw [zs_qs, zs_qs]
      by_cases e : n = k
      · subst e
        rw [if_neg hg, if_neg hg]
        have := zs_clq h n (by omega)
        omega
      · have := ih (by omega) (by omega)
        by_cases e2 : g 0 n = 0
        · rw [if_pos e2, if_pos e2]
          omega
        · rw [if_neg e2, if_neg e2]
          have := ((h.2.1 n (by omega)).2 e2).2.2.2.2.2.2.2.2.2.2.2.2.2.1.2.2.1
          omega
  exact key 4 (Nat.le_refl _) hk
/-- where a store's chain is below its quota a page is free -/
theorem zs_page (h : zs c d g m q u sl of tu au) {k : Nat} (hk : k < 4) (hg : g 0 k ≠ 0) (hlt : u 0 k < u 2 k) : zo_lf (m 15) 40 < 40 := by
  refine Decidable.byContradiction fun hno => ?_
  have hall : ∀ p, p < 40 → ¬ m 15 p = nI 0 := fun p hp e => hno (zo_lf_lt hp e)
  have hsum : zs_qs g u 0 4 ≤ 39 := by
    have := zs_clq1 h hk hg hlt
    have := h.2.2.1.2.2
    omega
  have hex : ∀ p, p < 40 → ∃ x, x < 39 ∧ ∃ j i, j < 4 ∧ g 0 j ≠ 0 ∧ i < u 0 j ∧ c (20 + j) i = nI p ∧ x = zs_qs g u 0 j + i := fun p hp => by
    obtain ⟨j, i, hj, gj, hi, e⟩ := h.2.2.1.2.1 p hp (hall p hp)
    have := zs_qs_lt g u 0 hj gj hi
    exact ⟨_, by omega, j, i, hj, gj, hi, e, rfl⟩
  obtain ⟨i, j, h1, h2, h3⟩ := zs_pig 39 (fun p => if hp : p < 40 then (hex p hp).choose else 0) (fun p hp => by
    show (if hp : p < 40 then (hex p hp).choose else 0) < 39
    rw [dif_pos (show p < 40 by omega)]
    exact (hex p (by omega)).choose_spec.1)
  have h3 : (if hp : i < 40 then (hex i hp).choose else 0) = (if hp : j < 40 then (hex j hp).choose else 0) := h3
  rw [dif_pos (show i < 40 by omega), dif_pos (show j < 40 by omega)] at h3
  obtain ⟨-, a, b, ha, ga, hb, e1, e2⟩ := (hex i (by omega)).choose_spec
  obtain ⟨-, a', b', ha', ga', hb', e1', e2'⟩ := (hex j (by omega)).choose_spec
  rw [e2, e2'] at h3
  obtain ⟨r1, r2⟩ := zs_code g u 0 ga ga' hb hb' h3
  subst r1
  subst r2
  rw [e1] at e1'
  have := (nI_eq (by omega) (by omega)).mp e1'
  omega
theorem zs_lp (h : zs c d g m q u sl of tu au) (hp : zo_lf (m 15) 40 < 40) : zb_lp (c 1) 39 = zo_lf (m 15) 40 := by
  obtain ⟨a, b⟩ := zo_lf_sp hp
  rw [h.1.2.2.2.2.2.2.2]
  exact zb_lp_eq hp a b
/-- a page is opened -/
theorem zs_op (h : zs c d g m q u sl of tu au) {k : Nat} (hk : k < 4) (hg : g 0 k ≠ 0) (hlt : u 0 k < u 2 k) (h16 : u 1 k = 16) : zs (zk_op k (u 0 k) (c, d, g)).1 (zk_op k (u 0 k) (c, d, g)).2.1 (zk_op k (u 0 k) (c, d, g)).2.2 (zo_op k (u 0 k) (m, q)).1 (zo_op k (u 0 k) (m, q)).2 (zu (zu u 0 k (u 0 k + 1)) 1 k 3) sl of tu au := by
  have hlf := zs_page h hk hg hlt
  have hlp := zs_lp h hlf
  have hsp := zo_lf_sp hlf
  show zs (zk_opc c k (u 0 k) (zb_lp (c 1) 39)) (zb_wrs 3 (zb_lp (c 1) 39) d 16) g (zo_opI m k (u 0 k) (zo_lf (m 15) 40)) (zb_wrs 0 (zo_lf (m 15) 40) q 16) (zu (zu u 0 k (u 0 k + 1)) 1 k 3) sl of tu au
  rw [hlp]
  generalize zo_lf (m 15) 40 = pg at hlf hlp hsp
  have hun := hsp.1
  obtain ⟨hA, hB, hG, hP, hL, hF, hN⟩ := h
  have hsk := (hB k hk).2 hg
  have hbd := hsk.2.2.2.2.2.2.2.2.2.2.2.2.2.1
  have Cr : ∀ r, r ≠ 1 → r ≠ 10 + k → r ≠ 20 + k → zk_opc c k (u 0 k) pg r = c r := fun r h1 h2 h3 => by unfold zk_opc; rw [zu_ne _ _ _ h2, zu_ne _ _ _ h2, zu_ne _ _ _ h3, zu_ne _ _ _ h1]
  have C1 : zk_opc c k (u 0 k) pg 1 = va_up (c 1) pg (nI 1) := by unfold zk_opc; rw [zu_ne _ _ _ (by omega), zu_ne _ _ _ (by omega), zu_ne _ _ _ (by omega), zu_at]
  have C20 : ∀ i, zk_opc c k (u 0 k) pg (20 + k) i = if i = u 0 k then nI pg else c (20 + k) i := fun i => by
    unfold zk_opc
    rw [zu_ne _ _ _ (by omega), zu_ne _ _ _ (by omega), zu_if, zu_ne _ _ _ (by omega)]
    by_cases e : i = u 0 k
    · rw [if_pos ⟨rfl, e⟩, if_pos e]
    · rw [if_neg (fun z => e z.2), if_neg e]
  have C10 : ∀ s, s ≠ 4 → s ≠ 7 → zk_opc c k (u 0 k) pg (10 + k) s = c (10 + k) s := fun s h4 h7 => by unfold zk_opc; rw [zu_k _ _ _ _ h4, zu_k _ _ _ _ h7, zu_ne _ _ _ (by omega), zu_ne _ _ _ (by omega)]
  have C107 : zk_opc c k (u 0 k) pg (10 + k) 7 = nI (u 0 k + 1) := by unfold zk_opc; rw [zu_k _ _ _ _ (by decide), zu_self]
  have Mr : ∀ r, r ≠ 12 → r ≠ 13 → r ≠ 14 → r ≠ 15 → zo_opI m k (u 0 k) pg r = m r := fun r h1 h2 h3 h4 => by unfold zo_opI; rw [zu_ne _ _ _ h2, zu_ne _ _ _ h1, zu_ne _ _ _ h3, zu_ne _ _ _ h4]
  have M15 : zo_opI m k (u 0 k) pg 15 = va_up (m 15) pg (nI 1) := by unfold zo_opI; rw [zu_ne _ _ _ (by decide), zu_ne _ _ _ (by decide), zu_ne _ _ _ (by decide), zu_at]
  have M14 : ∀ i, zo_opI m k (u 0 k) pg 14 i = if i = 40 * k + u 0 k then nI pg else m 14 i := fun i => by
    unfold zo_opI
    rw [zu_ne _ _ _ (by decide), zu_ne _ _ _ (by decide), zu_if, zu_ne _ _ _ (by decide)]
    by_cases e : i = 40 * k + u 0 k
    · rw [if_pos ⟨rfl, e⟩, if_pos e]
    · rw [if_neg (fun z => e z.2), if_neg e]
  have M12 : ∀ j, zo_opI m k (u 0 k) pg 12 j = if j = k then nI (u 0 k + 1) else m 12 j := fun j => by
    unfold zo_opI
    rw [zu_ne _ _ _ (by decide), zu_if, zu_ne _ _ _ (by decide), zu_ne _ _ _ (by decide)]
    by_cases e : j = k
    · rw [if_pos ⟨rfl, e⟩, if_pos e]
    · rw [if_neg (fun z => e z.2), if_neg e]
  have M13 : ∀ j, zo_opI m k (u 0 k) pg 13 j = if j = k then nI 3 else m 13 j := fun j => by
    unfold zo_opI
    rw [zu_if, zu_ne _ _ _ (by decide), zu_ne _ _ _ (by decide), zu_ne _ _ _ (by decide)]
    by_cases e : j = k
    · rw [if_pos ⟨rfl, e⟩, if_pos e]
    · rw [if_neg (fun z => e z.2), if_neg e]
  have Ur : ∀ r, r ≠ 0 → r ≠ 1 → zu (zu u 0 k (u 0 k + 1)) 1 k 3 r = u r := fun r h1 h2 => by rw [zu_ne _ _ _ h2, zu_ne _ _ _ h1]
  have U0 : ∀ j, zu (zu u 0 k (u 0 k + 1)) 1 k 3 0 j = if j = k then u 0 k + 1 else u 0 j := fun j => by
    rw [zu_ne _ _ _ (by decide), zu_if]
    by_cases e : j = k
    · rw [if_pos ⟨rfl, e⟩, if_pos e]
    · rw [if_neg (fun z => e z.2), if_neg e]
  have U1 : ∀ j, zu (zu u 0 k (u 0 k + 1)) 1 k 3 1 j = if j = k then 3 else u 1 j := fun j => by
    rw [zu_if, zu_ne _ _ _ (by decide)]
    by_cases e : j = k
    · rw [if_pos ⟨rfl, e⟩, if_pos e]
    · rw [if_neg (fun z => e z.2), if_neg e]
  have use1 : ∀ pg1, m 15 pg1 = nI 1 → pg1 ≠ pg ∧ va_up (m 15) pg (nI 1) pg1 = nI 1 := fun pg1 e => by
    have hne : pg1 ≠ pg := fun z => by rw [z, hun] at e; exact absurd e (by decide)
    exact ⟨hne, by rw [va_up_ne _ _ hne]; exact e⟩
  refine ⟨?_, ?_, ?_, ?_, ?_, ?_, ?_⟩
  · obtain ⟨a1, a2, a3, a4, a5, a6, a7, a8⟩ := hA
    refine ⟨?_, zb_wrs_at a2 16, zb_wrs_f2 a3 16, ?_, ?_, ?_, ?_, ?_⟩
    · rw [Cr 0 (by decide) (by omega) (by omega), Mr 40 (by decide) (by decide) (by decide) (by decide)]
      exact a1
    · rw [Cr 0 (by decide) (by omega) (by omega), Mr 40 (by decide) (by decide) (by decide) (by decide)]
      exact a4
    · rw [Mr 40 (by decide) (by decide) (by decide) (by decide)]
      exact a5
    · rw [Cr 0 (by decide) (by omega) (by omega), Mr 40 (by decide) (by decide) (by decide) (by decide)]
      exact a6
    · rw [Cr 0 (by decide) (by omega) (by omega), Mr 40 (by decide) (by decide) (by decide) (by decide)]
      exact a7
    · rw [C1, M15, a8]
  · intro j hj
    rw [Mr 7 (by decide) (by decide) (by decide) (by decide)]
    refine ⟨(hB j hj).1, fun gj => ?_⟩
    obtain ⟨b1, b2, b3, b4, b5, b6, b7, b8, b9, b10, b11, b12, b13, b14, b15⟩ := (hB j hj).2 gj
    unfold zs_k
    rw [Mr 7 (by decide) (by decide) (by decide) (by decide), Mr 8 (by decide) (by decide) (by decide) (by decide), Mr 9 (by decide) (by decide) (by decide) (by decide), Mr 10 (by decide) (by decide) (by decide) (by decide), Mr 11 (by decide) (by decide) (by decide) (by decide), M12, M13, M15, U0, U1, Ur 2 (by decide) (by decide), Ur 6 (by decide) (by decide)]
    by_cases e : j = k
    · subst e
      rw [if_pos rfl, if_pos rfl, if_pos rfl, if_pos rfl, C10 0 (by decide) (by decide), C10 1 (by decide) (by decide), C10 6 (by decide) (by decide), C10 8 (by decide) (by decide), C10 9 (by decide) (by decide), C107, zk_opc_4]
      refine ⟨b1, b2, b3, b4, b5, b6, b7, b8, b9, rfl, rfl, rfl, rfl, ⟨b14.1, b14.2.1, by omega, by omega, by omega, fun _ z => by omega, b14.2.2.2.2.2.2⟩, fun i hi => ?_⟩
      rw [C20, M14]
      by_cases ei : i = u 0 j
      · rw [if_pos ei, if_pos (by omega)]
        exact ⟨rfl, pg, hlf, rfl, by rw [va_up_self]⟩
      · rw [if_neg ei, if_neg (by omega)]
        obtain ⟨e1, pg1, e2, e3, e4⟩ := b15 i (by omega)
        exact ⟨e1, pg1, e2, e3, (use1 pg1 e4).2⟩
    · rw [if_neg e, if_neg e, if_neg e, if_neg e, Cr (10 + j) (by omega) (by omega) (by omega), Cr (20 + j) (by omega) (by omega) (by omega)]
      refine ⟨b1, b2, b3, b4, b5, b6, b7, b8, b9, b10, b11, b12, b13, b14, fun i hi => ?_⟩
      obtain ⟨e1, pg1, e2, e3, e4⟩ := b15 i hi
      rw [M14, if_neg (by have := b14.2.1; have := b14.2.2.1; omega)]
      exact ⟨e1, pg1, e2, e3, (use1 pg1 e4).2⟩
  · have chain : ∀ j i, j < 4 → g 0 j ≠ 0 → i < zu (zu u 0 k (u 0 k + 1)) 1 k 3 0 j → (j = k ∧ i = u 0 k ∧ zk_opc c k (u 0 k) pg (20 + j) i = nI pg) ∨ (i < u 0 j ∧ zk_opc c k (u 0 k) pg (20 + j) i = c (20 + j) i ∧ ¬ c (20 + j) i = nI pg) := fun j i hj gj hi => by
      have hin : i < u 0 j → ¬ c (20 + j) i = nI pg := fun hi2 z => by
        obtain ⟨e1, pg1, e2, e3, e4⟩ := ((hB j hj).2 gj).2.2.2.2.2.2.2.2.2.2.2.2.2.2 i hi2
        rw [e3] at z
        exact (use1 pg1 e4).1 ((nI_eq (by omega) (by omega)).mp z)
      rw [U0] at hi
      by_cases e : j = k
      · subst e
        rw [if_pos rfl] at hi
        rw [C20]
        by_cases ei : i = u 0 j
        · exact Or.inl ⟨rfl, ei, by rw [if_pos ei]⟩
        · exact Or.inr ⟨by omega, by rw [if_neg ei], hin (by omega)⟩
      · rw [if_neg e] at hi
        exact Or.inr ⟨hi, by rw [Cr (20 + j) (by omega) (by omega) (by omega)], hin hi⟩
    refine ⟨fun a b i n ha hb ga gb hi hn e => ?_, fun p1 hp1 e => ?_, ?_⟩
    · rcases chain a i ha ga hi with ⟨r1, r2, r3⟩ | ⟨r1, r2, r3⟩ <;> rcases chain b n hb gb hn with ⟨s1, s2, s3⟩ | ⟨s1, s2, s3⟩
      · exact ⟨by omega, by omega⟩
      · rw [r3, s2] at e
        exact absurd e.symm s3
      · rw [r2, s3] at e
        exact absurd e r3
      · rw [r2, s2] at e
        exact hG.1 a b i n ha hb ga gb r1 s1 e
    · rw [M15] at e
      by_cases ep : p1 = pg
      · subst ep
        exact ⟨k, u 0 k, hk, hg, by rw [U0, if_pos rfl]; omega, by rw [C20, if_pos rfl]⟩
      · rw [va_up_ne _ _ ep] at e
        obtain ⟨j, i, hj, gj, hi, ei⟩ := hG.2.1 p1 hp1 e
        refine ⟨j, i, hj, gj, ?_, ?_⟩
        · rw [U0]
          split
          · rename_i z
            rw [z] at hi
            omega
          · exact hi
        · by_cases e2 : j = k
          · subst e2
            rw [C20, if_neg (by omega)]
            exact ei
          · rw [Cr (20 + j) (by omega) (by omega) (by omega)]
            exact ei
    · rw [zs_qs_c (g := g) (u := u) (fun j _ => rfl) (fun j => by rw [Ur 2 (by decide) (by decide)]) 4 (Nat.le_refl _)]
      exact hG.2.2
  · obtain ⟨p1, p2, p3, p4, p5⟩ := hP
    have Dr : ∀ r, r ≠ 3 → zb_wrs 3 pg d 16 r = d r := fun r hr => zb_wrs_ne hr 16
    refine ⟨fun j x hx => ?_, fun s hs e => p2 s hs (by rw [Mr 16 (by decide) (by decide) (by decide) (by decide)] at e; exact e), fun s hs => by rw [Mr 20 (by decide) (by decide) (by decide) (by decide)]; exact p3 s hs, fun s hs => by rw [Mr 23 (by decide) (by decide) (by decide) (by decide)]; exact p4 s hs, p5⟩
    obtain ⟨a1, a2, a3⟩ := p1 j x hx
    have hj := hx.1
    have e1 : zk_opc c k (u 0 k) pg (zk_p j x) = c (zk_p j x) := Cr _ (by unfold zk_p; omega) (by unfold zk_p; omega) (by unfold zk_p; omega)
    have e2 : zk_opc c k (u 0 k) pg (zk_p j x + 1) = c (zk_p j x + 1) := Cr _ (by unfold zk_p; omega) (by unfold zk_p; omega) (by unfold zk_p; omega)
    refine ⟨?_, ?_, ?_⟩
    · unfold zs_p
      rw [e1, Dr _ (by unfold zk_p; omega), Mr 16 (by decide) (by decide) (by decide) (by decide), Mr 17 (by decide) (by decide) (by decide) (by decide), Mr 19 (by decide) (by decide) (by decide) (by decide), Mr 21 (by decide) (by decide) (by decide) (by decide), Mr 22 (by decide) (by decide) (by decide) (by decide), Mr 23 (by decide) (by decide) (by decide) (by decide), Mr 24 (by decide) (by decide) (by decide) (by decide), Ur 5 (by decide) (by decide)]
      exact a1
    · unfold zs_te zo_tl
      rw [e2, Mr 18 (by decide) (by decide) (by decide) (by decide), Mr 19 (by decide) (by decide) (by decide) (by decide), Mr 20 (by decide) (by decide) (by decide) (by decide), zb_wrs_ne (by decide)]
      exact a2
    · unfold zs_o
      rw [e1, U0, U1]
      obtain ⟨o1, o2, o3, o4⟩ := a3
      by_cases e : j = k
      · subst e
        rw [if_pos rfl, if_pos rfl, C20, if_neg (by omega)]
        exact ⟨by omega, o2, by omega, o4⟩
      · rw [if_neg e, if_neg e, Cr (20 + j) (by omega) (by omega) (by omega)]
        exact ⟨o1, o2, o3, o4⟩
  · exact zs_L_c hL (fun p hp => ⟨Cr _ (by omega) (by omega) (by omega), zb_wrs_ne (by omega) 16⟩) (fun _ _ => rfl) (fun _ _ => rfl) (fun r a b => Mr r (by omega) (by omega) (by omega) (by omega)) (fun _ => ⟨by rw [Ur 3 (by decide) (by decide)], by rw [Ur 4 (by decide) (by decide)]⟩) ⟨by rw [Ur 5 (by decide) (by decide)]; exact Nat.le_refl _, by rw [Ur 5 (by decide) (by decide)]; exact Nat.le_refl _⟩
  · exact zs_F_c hF (Cr _ (by decide) (by omega) (by omega)) ⟨Cr _ (by decide) (by omega) (by omega), Cr _ (by decide) (by omega) (by omega)⟩ ⟨rfl, rfl⟩ (Mr _ (by decide) (by decide) (by decide) (by decide)) (by rw [Mr 40 (by decide) (by decide) (by decide) (by decide)]) (Mr _ (by decide) (by decide) (by decide) (by decide))
  · obtain ⟨n1, n2, n3, n4, n5, n6, n7, n8, n9⟩ := hN
    unfold zs_N
    rw [zb_wrs_ne (by decide) 16, Mr 40 (by decide) (by decide) (by decide) (by decide), Ur 5 (by decide) (by decide)]
    exact ⟨n1, n2, n3, n4, n5, n6, n7, n8, n9⟩
end ZSO
