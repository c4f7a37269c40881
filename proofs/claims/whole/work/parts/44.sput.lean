theorem zy_255 : ∀ i, i < 32 → (255#32).getLsbD i = decide (i < 8) := by decide +kernel
theorem zy_by (x : Int64) : x.toInt32.toInt8.toInt32 &&& nI 255 = (x &&& 255).toInt32 := by
  apply Int32.toBitVec_inj.mp
  show (BitVec.signExtend 32 (BitVec.signExtend 8 (BitVec.signExtend 32 x.toBitVec))) &&& 255#32 = BitVec.signExtend 32 (x.toBitVec &&& 255#64)
  apply BitVec.eq_of_getLsbD_eq
  intro i hi
  have h64 : ∀ i, i < 32 → (255#64).getLsbD i = decide (i < 8) := by decide +kernel
  have hi2 : i < 64 := by omega
  rw [BitVec.getLsbD_and, BitVec.getLsbD_signExtend, BitVec.getLsbD_signExtend (x := x.toBitVec &&& 255#64), zy_255 i hi, if_pos hi2, BitVec.getLsbD_and, h64 i hi]
  by_cases h8 : i < 8
  · rw [if_pos h8, BitVec.getLsbD_signExtend, if_pos hi, BitVec.getLsbD_signExtend, if_pos hi2]
    simp [h8, hi]
  · simp [h8]
theorem lN_of (x : Int64) : ∃ n, n < 2 ^ 64 ∧ x = lN n := ⟨x.toBitVec.toNat, x.toBitVec.isLt, by
  apply Int64.toBitVec_inj.mp
  rw [wb_tb, BitVec.ofNat_toNat, BitVec.setWidth_eq]⟩
theorem lN_32 {n : Nat} : (lN n).toInt32 = nI n := by
  apply Int32.toBitVec_inj.mp
  show BitVec.signExtend 32 (lN n).toBitVec = BitVec.ofNat 32 n
  rw [wb_tb]
  apply BitVec.eq_of_getLsbD_eq
  intro i hi
  have hi2 : i < 64 := by omega
  rw [BitVec.getLsbD_signExtend, if_pos hi2, BitVec.getLsbD_ofNat, BitVec.getLsbD_ofNat]
  simp [hi, hi2]
theorem zy_b (x : Int64) : ∃ b, b < 256 ∧ (x &&& 255).toInt32 = nI b := by
  obtain ⟨n, hn, rfl⟩ := lN_of x
  refine ⟨n % 256, Nat.mod_lt _ (by decide), ?_⟩
  rw [show lN n &&& 255 = lN (n % 2 ^ 8) from wb_mask (k := 8) hn (by decide), lN_32]
theorem zo_fp_of {f : Nat → Int32} {j : Nat} (h : ∀ i, i < j → ¬ f i < nI 0) (hj : f j < nI 0) : ∀ i, i ≤ j → j < 4 → zo_fp f (4 - i) = j := fun i hi h4 => by
  have key : ∀ n i, i + n = j → zo_fp f (4 - i) = j := by
    intro n
    induction n with
    | zero =>
      intro i e
      have : i = j := by omega
      subst this
      rw [zo_fp_s h4, if_pos hj]
    | succ n ih =>
      intro i e
      rw [zo_fp_s (by omega), if_neg (h i (by omega))]
      exact ih (i + 1) (by omega)
  exact key (j - i) i (by omega)
theorem zo_fp_full {f : Nat → Int32} (h : ∀ i, i < 4 → ¬ f i < nI 0) : zo_fp f 4 = 4 := by
  have s := fun i (hi : i < 4) => zo_fp_s (f := f) hi
  have e0 := s 0 (by decide)
  have e1 := s 1 (by decide)
  have e2 := s 2 (by decide)
  have e3 := s 3 (by decide)
  rw [if_neg (h 0 (by decide))] at e0
  rw [if_neg (h 1 (by decide))] at e1
  rw [if_neg (h 2 (by decide))] at e2
  rw [if_neg (h 3 (by decide))] at e3
  exact e0.trans (e1.trans (e2.trans e3))
section ZSQ
variable {c : Nat → Nat → Int32} {d : Nat → Nat → Int64} {g : Nat → Nat → Nat} {m : Nat → Nat → Int32} {q : Nat → Nat → Int64} {u sl of tu au : Nat → Nat → Nat}
theorem zs_put (h : zs c d g m q u sl of tu au) {j : Nat} (hj : j < 60) (v : Int64) : zs (va_up c 2 (zk_bu (c 2) j v (min (j + 8) 60))) d g (va_up m 34 (zo_bf (m 34) j v 8)) q u sl of tu au := by
  obtain ⟨hA, hB, hG, hP, hL, hF, hN⟩ := h
  have Cr : ∀ r, r ≠ 2 → va_up c 2 (zk_bu (c 2) j v (min (j + 8) 60)) r = c r := fun r hr => va_up_ne _ _ hr
  have Mr : ∀ r, r ≠ 34 → va_up m 34 (zo_bf (m 34) j v 8) r = m r := fun r hr => va_up_ne _ _ hr
  refine ⟨zs_A_c hA (Cr _ (by decide)) (Cr _ (by decide)) rfl (fun j _ _ => by rw [Mr _ (by decide)]) (Mr _ (by decide)) rfl, zs_B_c hB (fun k hk => ⟨Cr _ (by omega), Cr _ (by omega)⟩) (fun _ _ => ⟨rfl, rfl, rfl⟩) (fun r h1 h2 => Mr r (by omega)) (fun _ => ⟨rfl, rfl, rfl⟩), zs_G_c hG (fun k hk => Cr _ (by omega)) (fun _ _ => rfl) (Mr _ (by decide)) (fun _ => ⟨rfl, rfl⟩), zs_P_c hP (fun k x hk => ⟨Cr _ (by unfold zk_p; omega), Cr _ (by unfold zk_p; omega), rfl⟩) (fun k hk => Cr _ (by omega)) (fun _ _ => ⟨rfl, rfl, rfl⟩) (fun _ _ _ => rfl) (fun r h1 h2 => Mr r (by omega)) rfl (fun _ => ⟨rfl, rfl⟩) ⟨Nat.le_refl _, Nat.le_refl _⟩, zs_L_c hL (fun p hp => ⟨Cr _ (by omega), rfl⟩) (fun _ _ => rfl) (fun _ _ => rfl) (fun r h1 h2 => Mr r (by omega)) (fun _ => ⟨rfl, rfl⟩) ⟨Nat.le_refl _, Nat.le_refl _⟩, ?_, zs_N_c hN rfl (fun _ _ => ⟨rfl, rfl⟩) rfl ⟨by rw [Mr _ (by decide)], by rw [Mr _ (by decide)]⟩⟩
  obtain ⟨f1, f2, f3⟩ := hF
  refine ⟨fun i hi => ?_, fun i => ?_, ?_⟩
  · rw [va_up_self, va_up_self]
    unfold zk_bu zo_bf
    by_cases e : j ≤ i ∧ i < min (j + 8) 60
    · rw [if_pos e, if_pos (by omega)]
      unfold zo_by
      rw [zy_by]
      obtain ⟨b, hb, eb⟩ := zy_b (v >>> ((nI (8 * (i - j))).toInt64 &&& 63))
      exact ⟨b, hb, eb, eb⟩
    · rw [if_neg e, if_neg (by omega)]
      exact f1 i hi
  · rw [va_up_self]
    unfold zk_bu
    split
    · exact pk_fb _
    · exact f2 i
  · rw [Cr _ (by decide), Cr _ (by decide), Mr 40 (by decide), Mr 36 (by decide)]
    exact f3
/-! play -/
theorem zs_play (h : zs c d g m q u sl of tu au) (ht : u 5 3 < 600) {k j : Nat} (hk : k < 4) (hg : g 0 k ≠ 0) (hj : j < 4) (hgj : g 3 j = 0) (a b e : Int32) : zs (va_up c (30 + j) (zk_pbi a b e)) (va_up (zu d 9 0 (d 9 0 + 1)) (30 + j) (va_up (fun _ => 0) 3 (d 9 0 + 1))) (zu g 3 j (k + 1)) (zo_plI m j (nI k) a b e) q (zu (zu (zs_u2 u 2) 3 j (u 5 0 + 1)) 4 j (u 5 2 + 1)) sl of tu au := by
  obtain ⟨hA, hB, hG, hP, hL, hF, hN⟩ := h
  obtain ⟨n1, n2, n3, n4, n5, n6, n7, n8, n9⟩ := hN
  obtain ⟨w0, w1, w3, w2⟩ := zs_u2_0 (u := u) (i := 2) (Or.inr rfl)
  have Cr : ∀ r, r ≠ 30 + j → va_up c (30 + j) (zk_pbi a b e) r = c r := fun r hr => va_up_ne _ _ hr
  have Dr : ∀ r, r ≠ 9 → r ≠ 30 + j → va_up (zu d 9 0 (d 9 0 + 1)) (30 + j) (va_up (fun _ => 0) 3 (d 9 0 + 1)) r = d r := fun r h1 h2 => by rw [va_up_ne _ _ h2, zu_ne _ _ _ h1]
  have Gr : ∀ r, r ≠ 3 → zu g 3 j (k + 1) r = g r := fun r hr => zu_ne _ _ _ hr
  have Mr : ∀ r, r ≠ 40 → r < 27 ∨ 32 < r → zo_plI m j (nI k) a b e r = m r := fun r h1 h2 => by
    unfold zo_plI
    rw [zu_ne _ _ _ (by omega), zu_ne _ _ _ (by omega), zu_ne _ _ _ (by omega), zu_ne _ _ _ (by omega), zu_ne _ _ _ (by omega), zu_ne _ _ _ (by omega), zu_ne _ _ _ h1]
  have Mj : ∀ r i, r ≠ 40 → i ≠ j → zo_plI m j (nI k) a b e r i = m r i := fun r i h1 h2 => by
    unfold zo_plI
    rw [zu_k _ _ _ _ h2, zu_k _ _ _ _ h2, zu_k _ _ _ _ h2, zu_k _ _ _ _ h2, zu_k _ _ _ _ h2, zu_k _ _ _ _ h2, zu_ne _ _ _ h1]
  have M4 : ∀ s, s ≠ 33 → zo_plI m j (nI k) a b e 40 s = m 40 s := fun s hs => by
    unfold zo_plI
    rw [zu_ne _ _ _ (by decide), zu_ne _ _ _ (by decide), zu_ne _ _ _ (by decide), zu_ne _ _ _ (by decide), zu_ne _ _ _ (by decide), zu_ne _ _ _ (by decide), zu_k _ _ _ _ hs]
  have hg3 : ∀ k1, k1 < 4 → zu g 3 j (k + 1) 0 k1 = g 0 k1 ∧ zu g 3 j (k + 1) 1 k1 = g 1 k1 ∧ zu g 3 j (k + 1) 2 k1 = g 2 k1 := fun k1 _ => ⟨by rw [Gr _ (by decide)], by rw [Gr _ (by decide)], by rw [Gr _ (by decide)]⟩
  have Ur : ∀ r, r ≠ 3 → r ≠ 4 → r ≠ 5 → zu (zu (zs_u2 u 2) 3 j (u 5 0 + 1)) 4 j (u 5 2 + 1) r = u r := fun r h3 h4 h5 => by rw [zu_ne _ _ _ h4, zu_ne _ _ _ h3, zs_u2_r h5]
  have U5 : zu (zu (zs_u2 u 2) 3 j (u 5 0 + 1)) 4 j (u 5 2 + 1) 5 = zs_u2 u 2 5 := by rw [zu_ne _ _ _ (by decide), zu_ne _ _ _ (by decide)]
  have U3 : zu (zu (zs_u2 u 2) 3 j (u 5 0 + 1)) 4 j (u 5 2 + 1) 3 = va_up (u 3) j (u 5 0 + 1) := by rw [zu_ne _ _ _ (by decide), zu_at, zs_u2_r (by decide)]
  have U4 : zu (zu (zs_u2 u 2) 3 j (u 5 0 + 1)) 4 j (u 5 2 + 1) 4 = va_up (u 4) j (u 5 2 + 1) := by rw [zu_at, zu_ne _ _ _ (by decide), zs_u2_r (by decide)]
  refine ⟨zs_A_c hA (Cr _ (by omega)) (Cr _ (by omega)) (Dr _ (by decide) (by omega)) (fun i h1 h2 => M4 i (by omega)) (Mr _ (by decide) (by decide)) rfl, zs_B_c hB (fun k1 hk1 => ⟨Cr _ (by omega), Cr _ (by omega)⟩) hg3 (fun r h1 h2 => Mr r (by omega) (by omega)) (fun _ => ⟨by rw [Ur _ (by decide) (by decide) (by decide)], by rw [Ur _ (by decide) (by decide) (by decide)], by rw [Ur _ (by decide) (by decide) (by decide)]⟩), zs_G_c hG (fun k1 hk1 => Cr _ (by omega)) (fun k1 hk1 => (hg3 k1 hk1).1) (Mr _ (by decide) (by decide)) (fun _ => ⟨by rw [Ur _ (by decide) (by decide) (by decide)], by rw [Ur _ (by decide) (by decide) (by decide)]⟩), zs_P_c hP (fun k1 x hk1 => ⟨Cr _ (by unfold zk_p; omega), Cr _ (by unfold zk_p; omega), Dr _ (by unfold zk_p; omega) (by unfold zk_p; omega)⟩) (fun k1 hk1 => Cr _ (by omega)) hg3 (fun _ _ _ => by rw [Gr _ (by decide)]) (fun r h1 h2 => Mr r (by omega) (by omega)) rfl (fun _ => ⟨by rw [Ur _ (by decide) (by decide) (by decide)], by rw [Ur _ (by decide) (by decide) (by decide)]⟩) ⟨by rw [U5, w0]; omega, by rw [U5, show zs_u2 u 2 5 1 = u 5 1 from w2]; exact Nat.le_refl _⟩, ?_, zs_F_c hF (Cr _ (by omega)) ⟨Cr _ (by omega), Cr _ (by omega)⟩ ⟨by rw [Gr _ (by decide)], by rw [Gr _ (by decide)]⟩ (Mr _ (by decide) (by decide)) (M4 _ (by decide)) (Mr _ (by decide) (by decide)), ?_⟩
  · have U52 : zs_u2 u 2 5 2 = u 5 2 + 1 := w1
    refine ⟨fun i hi => ?_, fun i i2 hi hi2 gi gi2 => ?_⟩
    · rw [U3, U4, U5, w0, U52]
      by_cases ei : i = j
      · subst ei
        rw [zu_self, va_up_self, va_up_self, va_up_self, va_up_self, va_up_self]
        refine ⟨fun z => by omega, fun _ => ⟨by omega, ?_, ?_, ?_, ?_, ?_, ?_, ?_, ?_, Nat.le_refl _, Nat.le_refl _⟩⟩
        · rw [Nat.add_sub_cancel, Gr _ (by decide)]
          exact hg
        · rw [Nat.add_sub_cancel]
          unfold zo_plI
          rw [zu_ne _ _ _ (by decide), zu_ne _ _ _ (by decide), zu_ne _ _ _ (by decide), zu_ne _ _ _ (by decide), zu_ne _ _ _ (by decide), zu_self]
        · unfold zo_plI zk_pbi
          rw [zu_ne _ _ _ (by decide), zu_ne _ _ _ (by decide), zu_ne _ _ _ (by decide), zu_ne _ _ _ (by decide), zu_self, va_up_ne _ _ (by decide), va_up_ne _ _ (by decide), va_up_self]
        · unfold zo_plI zk_pbi
          rw [zu_ne _ _ _ (by decide), zu_ne _ _ _ (by decide), zu_ne _ _ _ (by decide), zu_self, va_up_ne _ _ (by decide), va_up_self]
        · unfold zo_plI zk_pbi
          rw [zu_ne _ _ _ (by decide), zu_ne _ _ _ (by decide), zu_self, va_up_self]
        · unfold zo_plI zk_pbi
          rw [zu_ne _ _ _ (by decide), zu_self, va_up_ne _ _ (by decide), va_up_ne _ _ (by decide), va_up_ne _ _ (by decide), va_up_self]
        · rw [n1, lN_add1]
        · unfold zo_plI
          rw [zu_self, n3, nI_add]
      · rw [zu_k _ _ _ _ ei, Cr _ (by omega), Dr _ (by omega) (by omega), va_up_ne _ _ ei, va_up_ne _ _ ei, Mj 27 i (by decide) ei, Mj 28 i (by decide) ei, Mj 29 i (by decide) ei, Mj 30 i (by decide) ei, Mj 31 i (by decide) ei, Mj 32 i (by decide) ei, Gr 0 (by decide)]
        refine ⟨(hL.1 i hi).1, fun z => ?_⟩
        obtain ⟨a1, a2, a3, a4, a5, a6, a7, a8, a9, a10, a11⟩ := (hL.1 i hi).2 z
        exact ⟨a1, a2, a3, a4, a5, a6, a7, a8, a9, by omega, by omega⟩
    · have key : ∀ i, i < 4 → zu g 3 j (k + 1) 3 i ≠ 0 → i ≠ j → g 3 i ≠ 0 ∧ u 3 i ≤ u 5 0 ∧ u 4 i ≤ u 5 2 := fun i hi gi ei => by
        rw [zu_k _ _ _ _ ei] at gi
        obtain ⟨a1, a2, a3, a4, a5, a6, a7, a8, a9, a10, a11⟩ := (hL.1 i hi).2 gi
        exact ⟨gi, a10, a11⟩
      rw [U3, U4]
      by_cases e1 : i = j
      · rw [e1, va_up_self, va_up_self]
        by_cases e2 : i2 = j
        · rw [e2, va_up_self, va_up_self]
          omega
        · rw [va_up_ne _ _ e2, va_up_ne _ _ e2]
          have := key i2 hi2 gi2 e2
          omega
      · rw [va_up_ne _ _ e1, va_up_ne _ _ e1]
        have h1 := key i hi gi e1
        by_cases e2 : i2 = j
        · rw [e2, va_up_self, va_up_self]
          omega
        · rw [va_up_ne _ _ e2, va_up_ne _ _ e2]
          exact hL.2 i i2 hi hi2 h1.1 (key i2 hi2 gi2 e2).1
  · refine ⟨?_, ?_, ?_, by rw [U5, w0, w3]; omega, by rw [U5, w3, show zs_u2 u 2 5 1 = u 5 1 from w2]; omega, by rw [U5, w3, w1]; omega, fun k1 hk1 z => ?_, by rw [U5, w3]; omega, n9⟩
    · rw [va_up_ne _ _ (by omega), zu_self, n1, lN_add1, U5, w0]
    · rw [M4 _ (by decide), U5, show zs_u2 u 2 5 1 = u 5 1 from w2]
      exact n2
    · rw [U5, w1]
      unfold zo_plI
      rw [zu_ne _ _ _ (by decide), zu_ne _ _ _ (by decide), zu_ne _ _ _ (by decide), zu_ne _ _ _ (by decide), zu_ne _ _ _ (by decide), zu_ne _ _ _ (by decide), zu_self, n3, nI_add]
    · rw [(hg3 k1 hk1).1] at z
      rw [(hg3 k1 hk1).2.2, U5, w3]
      have := n7 k1 hk1 z
      omega
/-- which of the places for playbacks is free -/
theorem zs_fp (h : zs c d g m q u sl of tu au) : (∀ i, i < 4 → (m 27 i < nI 0 ↔ g 3 i = 0)) := fun i hi => by
  constructor
  · intro e
    refine Decidable.byContradiction fun z => ?_
    have := ((h.2.2.2.2.1.1 i hi).2 z)
    rw [this.2.2.1] at e
    exact nI_nlt (Nat.zero_le _) (by omega) e
  · intro e
    rw [(h.2.2.2.2.1.1 i hi).1 e]
    decide
end ZSQ
