theorem zy_8 (x : Int32) : x.toInt8.toInt32 &&& nI 255 = x &&& nI 255 := by
  apply Int32.toBitVec_inj.mp
  show (BitVec.signExtend 32 (BitVec.signExtend 8 x.toBitVec)) &&& 255#32 = x.toBitVec &&& 255#32
  apply BitVec.eq_of_getLsbD_eq
  intro i hi
  rw [BitVec.getLsbD_and, BitVec.getLsbD_and, BitVec.getLsbD_signExtend, zy_255 i hi]
  by_cases h8 : i < 8
  · rw [if_pos h8, BitVec.getLsbD_signExtend, if_pos hi]
    simp [h8, hi]
  · simp [h8]
theorem zy_n {b : Nat} (h : b < 256) : nI b &&& nI 255 = nI b := by
  rw [nx_and, show (255 : Nat) = 2 ^ 8 - 1 from rfl, Nat.and_two_pow_sub_one_eq_mod, Nat.mod_eq_of_lt h]
theorem zy_bb (t : Int32) (i : Nat) : (zk_b4 t i).toInt8.toInt32 &&& nI 255 = zk_b4 t i := by
  rw [zy_8]
  unfold zk_b4
  rw [Int32.and_assoc, show nI 255 &&& nI 255 = nI 255 from zy_n (by decide)]
theorem zy_bit (W : Int64) {i j : Nat} (hi : i < 8) (hj : j < 32) : (zo_by W i).toBitVec.getLsbD j = (decide (j < 8) && W.toBitVec.getLsbD (8 * i + j)) := by
  have hs : ∀ i, i < 8 → (((nI (8 * i)).toInt64 &&& 63).toBitVec.smod 64).toNat = 8 * i := by decide +kernel
  have h64 : ∀ i, i < 32 → (255#64).getLsbD i = decide (i < 8) := by decide +kernel
  show (BitVec.signExtend 32 ((W.toBitVec.sshiftRight (((nI (8 * i)).toInt64 &&& 63).toBitVec.smod 64).toNat) &&& 255#64)).getLsbD j = _
  rw [hs i hi, BitVec.getLsbD_signExtend, if_pos (show j < 64 by omega), BitVec.getLsbD_and, h64 j hj]
  by_cases h8 : j < 8
  · rw [BitVec.getLsbD_sshiftRight, if_pos (show 8 * i + j < 64 by omega)]
    simp [h8, hj]
    omega
  · simp [h8]
theorem zy_ext {x y : Int32} (h : ∀ j, j < 32 → x.toBitVec.getLsbD j = y.toBitVec.getLsbD j) : x = y := Int32.toBitVec_inj.mp (BitVec.eq_of_getLsbD_eq h)
theorem zy_or (x y : Int64) {i : Nat} (hi : i < 8) : zo_by (x ||| y) i = zo_by x i ||| zo_by y i := by
  apply zy_ext
  intro j hj
  show _ = ((zo_by x i).toBitVec ||| (zo_by y i).toBitVec).getLsbD j
  rw [BitVec.getLsbD_or, zy_bit _ hi hj, zy_bit _ hi hj, zy_bit _ hi hj]
  show (decide (j < 8) && (x.toBitVec ||| y.toBitVec).getLsbD (8 * i + j)) = _
  rw [BitVec.getLsbD_or]
  cases decide (j < 8) <;> simp
theorem zy_0 {i : Nat} (hi : i < 8) : zo_by 0 i = nI 0 := by
  apply zy_ext
  intro j hj
  rw [zy_bit _ hi hj]
  show (decide (j < 8) && (0#64).getLsbD (8 * i + j)) = (0#32).getLsbD j
  simp
theorem zy_nb {b j : Nat} (hj : j < 32) : (nI b).toBitVec.getLsbD j = b.testBit j := by
  show (BitVec.ofNat 32 b).getLsbD j = b.testBit j
  rw [BitVec.getLsbD_ofNat]
  simp [hj]
theorem zy_sh {b r i : Nat} (hb : b < 256) (hr : r < 8) (hi : i < 8) : zo_by ((nI b).toInt64 <<< ((nI (8 * r)).toInt64 &&& 63)) i = if i = r then nI b else nI 0 := by
  have e1 : (nI b).toInt64 = lN b := by
    apply Int64.toBitVec_inj.mp
    show BitVec.signExtend 64 (BitVec.ofNat 32 b) = (lN b).toBitVec
    rw [wb_tb]
    apply BitVec.eq_of_getLsbD_eq
    intro j hj
    rw [BitVec.getLsbD_signExtend, BitVec.getLsbD_ofNat, BitVec.getLsbD_ofNat]
    by_cases h32 : j < 32
    · simp [h32, hj]
    · have hz : b.testBit j = false := Nat.testBit_lt_two_pow (Nat.lt_of_lt_of_le (show b < 2 ^ 8 by omega) (Nat.pow_le_pow_right (by decide) (by omega)))
      have hm : (BitVec.ofNat 32 b).msb = false := by
        rw [BitVec.msb_eq_getLsbD_last, BitVec.getLsbD_ofNat]
        have : b.testBit 31 = false := Nat.testBit_lt_two_pow (Nat.lt_of_lt_of_le (show b < 2 ^ 8 by omega) (Nat.pow_le_pow_right (by decide) (by decide)))
        simp [this]
      simp [h32, hm, hz]
  rw [e1, wb_shl b (show 8 * r < 64 by omega)]
  apply zy_ext
  intro j hj
  rw [zy_bit _ hi hj, wb_tb, BitVec.getLsbD_ofNat, ← Nat.shiftLeft_eq, Nat.testBit_shiftLeft]
  by_cases h8 : j < 8
  · by_cases e : i = r
    · subst e
      rw [if_pos rfl, zy_nb hj]
      simp [h8]
      omega
    · rw [if_neg e, zy_nb hj]
      rcases Nat.lt_or_ge i r with h | h
      · simp [h8]
        omega
      · have hz : b.testBit (8 * i + j - 8 * r) = false := Nat.testBit_lt_two_pow (Nat.lt_of_lt_of_le (show b < 2 ^ 8 by omega) (Nat.pow_le_pow_right (by decide) (by omega)))
        simp [hz]
  · have hz : (if i = r then nI b else nI 0).toBitVec.getLsbD j = false := by
      split
      · rw [zy_nb hj]
        exact Nat.testBit_lt_two_pow (Nat.lt_of_lt_of_le (show b < 2 ^ 8 by omega) (Nat.pow_le_pow_right (by decide) (by omega)))
      · rw [zy_nb hj]
        simp
    rw [hz]
    simp [h8]
theorem zi_or0 (x : Int32) : x ||| nI 0 = x := by
  apply Int32.toBitVec_inj.mp
  show x.toBitVec ||| 0#32 = x.toBitVec
  simp
theorem zi_0or (x : Int32) : nI 0 ||| x = x := by
  apply Int32.toBitVec_inj.mp
  show 0#32 ||| x.toBitVec = x.toBitVec
  simp
/-- the bytes that were put into the words come out again -/
theorem zo_dt_by {f : Nat → Int64} {b : Nat → Int32} {s : Nat} (hb : ∀ i, i < 60 → ∃ v, v < 256 ∧ b i = nI v) : ∀ n, n ≤ 60 → ∀ j, j < 64 → zo_by (zo_dt (zo_z8 f s 8) b s n (8 * s + j / 8)) (j % 8) = if j < n then b j else nI 0
  | 0, _, j, hj => by
    rw [if_neg (Nat.not_lt_zero _)]
    show zo_by (zo_z8 f s 8 (8 * s + j / 8)) (j % 8) = nI 0
    unfold zo_z8
    rw [if_pos (by omega)]
    exact zy_0 (Nat.mod_lt _ (by decide))
  | n + 1, hn, j, hj => by
    have ih := zo_dt_by (f := f) (s := s) hb n (by omega)
    rw [zo_dt]
    by_cases e : 8 * s + j / 8 = 8 * s + n / 8
    · rw [e, va_up_self, zy_or _ _ (Nat.mod_lt _ (by decide)), ← e, ih j hj]
      obtain ⟨v, hv, ev⟩ := hb n (by omega)
      rw [ev, zy_sh hv (Nat.mod_lt _ (by decide)) (Nat.mod_lt _ (by decide))]
      by_cases ej : j = n
      · subst ej
        rw [if_neg (Nat.lt_irrefl _), if_pos rfl, if_pos (Nat.lt_succ_self _), zi_0or, ev]
      · rw [if_neg (show ¬ j % 8 = n % 8 by omega), zi_or0]
        by_cases h : j < n
        · rw [if_pos h, if_pos (by omega)]
        · rw [if_neg h, if_neg (by omega)]
    · rw [va_up_ne _ _ e, ih j hj]
      by_cases h : j < n
      · rw [if_pos h, if_pos (by omega)]
      · rw [if_neg h, if_neg (by omega)]
/-- what a new packet tells, on both sides -/
theorem zs_tell {c : Nat → Nat → Int32} {m m1 : Nat → Nat → Int32} {q1 : Nat → Nat → Int64} {f : Nat → Int64} {a0 n s : Nat} {t : Int32} (hF : ∀ i, i < 60 → ∃ b, b < 256 ∧ m 34 i = nI b ∧ (c 2 i) &&& (nI 255) = nI b) (ha : a0 ≤ 255) (hn : n ≤ 60) (h18 : m1 18 s = nI a0) (h19 : m1 19 s = t) (h20 : m1 20 s = nI n) (hq : q1 25 = zo_dt (zo_z8 f s 8) (m 34) s n) : ∀ i, i < 6 + n → (zk_te (c 2) (nI a0) t n i) &&& (nI 255) = zo_tl m1 q1 s i := by
  intro i hi
  unfold zo_tl
  by_cases h0 : i = 0
  · rw [if_pos h0, h18, h0]
    unfold zk_te
    rw [pk_cpy_out (by omega)]
    unfold zk_t5
    rw [va_up_ne _ _ (by decide)]
    unfold zo_seg
    rw [if_neg (by omega), va_up_self, zy_8, zy_n (by omega)]
  · rw [if_neg h0]
    by_cases h5 : i < 5
    · rw [if_pos h5, h19]
      unfold zk_te
      rw [pk_cpy_out (by omega)]
      unfold zk_t5
      rw [va_up_ne _ _ (by omega)]
      unfold zo_seg
      rw [if_pos (by omega), zy_bb, zy_b4 _ _ (by omega)]
      unfold zo_f4
      rw [show 3 - (i - 1) = 4 - i by omega]
    · rw [if_neg h5]
      by_cases e5 : i = 5
      · rw [if_pos e5, h20, e5]
        unfold zk_te
        rw [pk_cpy_out (by omega)]
        unfold zk_t5
        rw [va_up_self, zy_8, zy_n (by omega)]
      · rw [if_neg e5, hq]
        unfold zk_te
        rw [pk_cpy_in (by omega) (by omega), show 0 + (i - 6) = i - 6 by omega]
        obtain ⟨b, hb, e1, e2⟩ := hF (i - 6) (by omega)
        have := zo_dt_by (f := f) (b := m 34) (s := s) (fun j hj => by obtain ⟨b, hb, e1, -⟩ := hF j hj; exact ⟨b, hb, e1⟩) n hn (i - 6) (by omega)
        rw [if_pos (by omega)] at this
        unfold zo_by at this
        rw [this, e2, e1]
