theorem wb_tb (n : Nat) : (lN n).toBitVec = BitVec.ofNat 64 n := rfl
theorem wb_inj {a b : Int64} (h : a.toBitVec = b.toBitVec) : a = b := Int64.toBitVec_inj.mp h
theorem wb_tn {n : Nat} (h : n < 2 ^ 64) : (lN n).toBitVec.toNat = n := by rw [wb_tb, BitVec.toNat_ofNat, Nat.mod_eq_of_lt h]
theorem wb_c : ∀ k, k < 64 → ((nI k).toInt64 &&& 63) = lN k := by decide +kernel
theorem wb_cu : ∀ k, k < 64 → ((nI k).toInt64.toUInt64 &&& Int64.toUInt64 63) = UInt64.ofNat k := by decide +kernel
theorem wb_sm : ∀ k, k < 64 → (BitVec.ofNat 64 k).smod 64 = BitVec.ofNat 64 k := by decide +kernel
theorem wb_lt2 {a b : Nat} (h : a < b) : 2 ^ a < 2 ^ b := Nat.pow_lt_pow_right (by decide) h
theorem wb_shr {n k : Nat} (hn : n < 2 ^ 64) (hk : k < 64) : ((lN n).toUInt64 >>> ((nI k).toInt64.toUInt64 &&& Int64.toUInt64 63)).toInt64 = lN (n / 2 ^ k) := by
  rw [wb_cu k hk]
  apply wb_inj
  apply BitVec.eq_of_toNat_eq
  show ((lN n).toUInt64 >>> UInt64.ofNat k).toNat = (BitVec.ofNat 64 _).toNat
  have h1 : (UInt64.ofNat k).toNat = k := by
    show (BitVec.ofNat 64 k).toNat = k
    rw [BitVec.toNat_ofNat, Nat.mod_eq_of_lt (by omega)]
  have h2 : (lN n).toUInt64.toNat = n := wb_tn hn
  rw [UInt64.toNat_shiftRight, h1, h2, Nat.mod_eq_of_lt hk, Nat.shiftRight_eq_div_pow, BitVec.toNat_ofNat, Nat.mod_eq_of_lt (Nat.lt_of_le_of_lt (Nat.div_le_self _ _) hn)]
theorem wb_shl (n : Nat) {k : Nat} (hk : k < 64) : lN n <<< ((nI k).toInt64 &&& 63) = lN (n * 2 ^ k) := by
  rw [wb_c k hk]
  apply wb_inj
  rw [Int64.toBitVec_shiftLeft, wb_tb, wb_tb, wb_tb, wb_sm k hk]
  apply BitVec.eq_of_toNat_eq
  rw [BitVec.shiftLeft_eq', BitVec.toNat_shiftLeft, BitVec.toNat_ofNat, BitVec.toNat_ofNat, BitVec.toNat_ofNat, Nat.mod_eq_of_lt (show k < 2 ^ 64 by omega), Nat.shiftLeft_eq, Nat.mul_mod, Nat.mod_mod, ← Nat.mul_mod]
theorem wb_and {a b : Nat} (ha : a < 2 ^ 64) (hb : b < 2 ^ 64) : lN a &&& lN b = lN (a &&& b) := by
  apply wb_inj
  rw [Int64.toBitVec_and, wb_tb, wb_tb, wb_tb]
  apply BitVec.eq_of_toNat_eq
  rw [BitVec.toNat_and, BitVec.toNat_ofNat, BitVec.toNat_ofNat, BitVec.toNat_ofNat, Nat.mod_eq_of_lt ha, Nat.mod_eq_of_lt hb, Nat.mod_eq_of_lt (Nat.and_lt_two_pow _ hb)]
theorem wb_mask {n k : Nat} (hn : n < 2 ^ 64) (hk : k < 64) : lN n &&& lN (2 ^ k - 1) = lN (n % 2 ^ k) := by
  rw [wb_and hn (by have := wb_lt2 hk; omega), Nat.and_two_pow_sub_one_eq_mod]
theorem wb_a1 {n : Nat} (hn : n < 2 ^ 64) : lN n &&& 1 = lN (n % 2) := wb_mask (k := 1) hn (by decide)
theorem pf_lI {a : Nat} (h : a < 2 ^ 63) : (lN a).toInt = (a : Int) := lg_ofNat_toInt h
theorem pf_shr {a d : Nat} {D : Int64} (hD : (D.toBitVec.smod 64).toNat = d) (h : a < 2 ^ 62) : lN a >>> D = lN (a / 2 ^ d) := by
  have hd : a / 2 ^ d ≤ a := Nat.div_le_self _ _
  apply Int64.toInt_inj.mp
  have e : (lN a >>> D).toInt = (lN a).toInt >>> d := by
    rw [← hD]
    exact BitVec.toInt_sshiftRight ..
  rw [e, Int.shiftRight_eq_div_pow, pf_lI (by omega), pf_lI (by omega)]
  rfl
theorem lN_bv (n : Nat) : (lN n).toBitVec = BitVec.ofNat 64 n := rfl
theorem lN_nat {n : Nat} (h : n < 2 ^ 64) : (lN n).toBitVec.toNat = n := by rw [lN_bv, BitVec.toNat_ofNat]; exact Nat.mod_eq_of_lt h
theorem lN_xor (a b : Nat) : lN a ^^^ lN b = lN (a ^^^ b) := by
  apply Int64.toBitVec_inj.mp; rw [Int64.toBitVec_xor, lN_bv, lN_bv, lN_bv]; apply BitVec.eq_of_getLsbD_eq; intro i hi; simp [BitVec.getLsbD_ofNat, Nat.testBit_xor, hi]
theorem nx_and (a b : Nat) : nI a &&& nI b = nI (a &&& b) := by
  apply Int32.toBitVec_inj.1
  show BitVec.ofNat 32 a &&& BitVec.ofNat 32 b = BitVec.ofNat 32 (a &&& b)
  apply BitVec.eq_of_getLsbD_eq
  intro i hi
  simp [hi]
/-! words of few flipped bits: Long.bitCount and the reference's count agree on them -/
def zq_b (a : Nat) : Int64 := (1 : Int64) <<< ((nI a).toInt64 &&& 63)
/-- the reference's count of the first n bits -/
def zq_bc (x : Int64) : Nat → Nat
  | 0 => 0
  | n + 1 => zq_bc x n + (if lg_cmp ((x >>> ((nI n).toInt64 &&& 63)) &&& 1) 1 = nI 0 then 1 else 0)
theorem zq_bc_le (x : Int64) : ∀ n, zq_bc x n ≤ n
  | 0 => Nat.le_refl _
  | n + 1 => by
    have := zq_bc_le x n
    show zq_bc x n + _ ≤ _
    by_cases h : lg_cmp ((x >>> ((nI n).toInt64 &&& 63)) &&& 1) 1 = nI 0
    · rw [if_pos h]; omega
    · rw [if_neg h]; omega
def zq_f2 (x : Int64) : Prop := x = 0 ∨ (∃ a, a < 39 ∧ x = zq_b a) ∨ ∃ a b, a < 39 ∧ b < a ∧ x = zq_b a ^^^ zq_b b
def zq_f3 (x : Int64) : Prop := zq_f2 x ∨ ∃ a b d, a < 39 ∧ b < a ∧ d < b ∧ x = zq_b a ^^^ zq_b b ^^^ zq_b d
theorem zq_d0 : zq_bc 0 39 = 0 ∧ zb_cnt 0 = nI 0 := by decide +kernel
/-- the same in natural numbers -/
def zq_n1 (n : Nat) : Nat := n - (n / 2 ^ 1 &&& 6148914691236517205)
def zq_n2 (n : Nat) : Nat := (n &&& 3689348814741910323) + (n / 2 ^ 2 &&& 3689348814741910323)
def zq_n3 (n : Nat) : Nat := (n + n / 2 ^ 4) &&& 1085102592571150095
def zq_n4 (n : Nat) : Nat := n + n / 2 ^ 8
def zq_n5 (n : Nat) : Nat := n + n / 2 ^ 16
def zq_n6 (n : Nat) : Nat := n + n / 2 ^ 32
def zq_nc (n : Nat) : Nat := zq_n6 (zq_n5 (zq_n4 (zq_n3 (zq_n2 (zq_n1 n))))) &&& 127
theorem zq_e1 {n : Nat} (h : n < 2 ^ 39) : zb_c1 (lN n) = lN (zq_n1 n) ∧ zq_n1 n < 2 ^ 39 := by
  have hd : n / 2 ^ 1 ≤ n := Nat.div_le_self _ _
  have ha : n / 2 ^ 1 &&& 6148914691236517205 ≤ n / 2 ^ 1 := Nat.and_le_left
  refine ⟨?_, by unfold zq_n1; omega⟩
  unfold zb_c1 zq_n1
  rw [wb_shr (by omega) (by decide), show (6148914691236517205 : Int64) = lN 6148914691236517205 from rfl, wb_and (by omega) (by decide), lN_sub (by omega)]
theorem zq_e2 {n : Nat} (h : n < 2 ^ 39) : zb_c2 (lN n) = lN (zq_n2 n) ∧ zq_n2 n < 2 ^ 40 := by
  have hd : n / 2 ^ 2 ≤ n := Nat.div_le_self _ _
  have ha : n / 2 ^ 2 &&& 3689348814741910323 ≤ n / 2 ^ 2 := Nat.and_le_left
  have hc : n &&& 3689348814741910323 ≤ n := Nat.and_le_left
  refine ⟨?_, by unfold zq_n2; omega⟩
  unfold zb_c2 zq_n2
  rw [wb_shr (by omega) (by decide), show (3689348814741910323 : Int64) = lN 3689348814741910323 from rfl, wb_and (by omega) (by decide), wb_and (by omega) (by decide), lN_add]
theorem zq_e3 {n : Nat} (h : n < 2 ^ 40) : zb_c3 (lN n) = lN (zq_n3 n) ∧ zq_n3 n < 2 ^ 41 := by
  have hd : n / 2 ^ 4 ≤ n := Nat.div_le_self _ _
  have hc : (n + n / 2 ^ 4) &&& 1085102592571150095 ≤ n + n / 2 ^ 4 := Nat.and_le_left
  refine ⟨?_, by unfold zq_n3; omega⟩
  unfold zb_c3 zq_n3
  rw [wb_shr (by omega) (by decide), show (1085102592571150095 : Int64) = lN 1085102592571150095 from rfl, lN_add, wb_and (by omega) (by decide)]
theorem zq_e4 {n : Nat} (h : n < 2 ^ 41) : zb_c4 (lN n) = lN (zq_n4 n) ∧ zq_n4 n < 2 ^ 42 := by
  have hd : n / 2 ^ 8 ≤ n := Nat.div_le_self _ _
  refine ⟨?_, by unfold zq_n4; omega⟩
  unfold zb_c4 zq_n4
  rw [wb_shr (by omega) (by decide), lN_add]
theorem zq_e5 {n : Nat} (h : n < 2 ^ 42) : zb_c5 (lN n) = lN (zq_n5 n) ∧ zq_n5 n < 2 ^ 43 := by
  have hd : n / 2 ^ 16 ≤ n := Nat.div_le_self _ _
  refine ⟨?_, by unfold zq_n5; omega⟩
  unfold zb_c5 zq_n5
  rw [wb_shr (by omega) (by decide), lN_add]
theorem zq_e6 {n : Nat} (h : n < 2 ^ 43) : zb_c6 (lN n) = lN (zq_n6 n) := by
  unfold zb_c6 zq_n6
  rw [wb_shr (by omega) (by decide), lN_add]
theorem zq_nat {n : Nat} (h : n < 2 ^ 39) : zb_cnt (lN n) = nI (zq_nc n) := by
  unfold zb_cnt zq_nc
  rw [(zq_e1 h).1, (zq_e2 (zq_e1 h).2).1, (zq_e3 (zq_e2 (zq_e1 h).2).2).1, (zq_e4 (zq_e3 (zq_e2 (zq_e1 h).2).2).2).1, (zq_e5 (zq_e4 (zq_e3 (zq_e2 (zq_e1 h).2).2).2).2).1, zq_e6 (zq_e5 (zq_e4 (zq_e3 (zq_e2 (zq_e1 h).2).2).2).2).2, lN_i, nx_and]
def zq_nb (n : Nat) : Nat → Nat
  | 0 => 0
  | k + 1 => zq_nb n k + n / 2 ^ k % 2
theorem zq_bcn {n : Nat} (h : n < 2 ^ 39) : ∀ k, k ≤ 39 → zq_bc (lN n) k = zq_nb n k
  | 0, _ => rfl
  | k + 1, hk => by
    have ih := zq_bcn h k (by omega)
    have hd : n / 2 ^ k ≤ n := Nat.div_le_self _ _
    have e : (lN n >>> ((nI k).toInt64 &&& 63)) &&& 1 = lN (n / 2 ^ k % 2) := by
      rw [wb_c k (by omega), pf_shr (d := k) (by rw [wb_tb, wb_sm k (by omega), BitVec.toNat_ofNat, Nat.mod_eq_of_lt (by omega)]) (by omega), wb_a1 (by omega)]
    show zq_bc (lN n) k + _ = zq_nb n k + _
    rw [e, ih]
    have h2 : n / 2 ^ k % 2 = 0 ∨ n / 2 ^ k % 2 = 1 := by omega
    rcases h2 with h2 | h2 <;> rw [h2]
    · rw [if_neg (by decide +kernel)]
    · rw [if_pos (by decide +kernel)]
theorem zq_bn {a : Nat} (h : a < 39) : zq_b a = lN (2 ^ a) := by
  have := wb_shl 1 (k := a) (by omega)
  rw [Nat.one_mul] at this
  exact this
theorem zq_d1 : ∀ a, a < 39 → zq_bc (zq_b a) 39 = 1 ∧ zb_cnt (zq_b a) = nI 1 := by
  intro a ha
  have h : ∀ a, a < 39 → zq_nb (2 ^ a) 39 = 1 ∧ zq_nc (2 ^ a) = 1 ∧ 2 ^ a < 2 ^ 39 := by decide +kernel
  obtain ⟨h1, h2, h3⟩ := h a ha
  rw [zq_bn ha, zq_bcn h3 39 (by omega), zq_nat h3, h1, h2]
  exact ⟨rfl, rfl⟩
theorem zq_d2 : ∀ a, a < 39 → ∀ b, b < a → zq_bc (zq_b a ^^^ zq_b b) 39 = 2 ∧ zb_cnt (zq_b a ^^^ zq_b b) = nI 2 := by
  intro a ha b hb
  have h : ∀ a, a < 39 → ∀ b, b < a → zq_nb (2 ^ a ^^^ 2 ^ b) 39 = 2 ∧ zq_nc (2 ^ a ^^^ 2 ^ b) = 2 ∧ 2 ^ a ^^^ 2 ^ b < 2 ^ 39 := by decide +kernel
  obtain ⟨h1, h2, h3⟩ := h a ha b hb
  rw [zq_bn ha, zq_bn (by omega), lN_xor, zq_bcn h3 39 (by omega), zq_nat h3, h1, h2]
  exact ⟨rfl, rfl⟩
theorem zq_t0 : ∀ a, a < 20 → ∀ b, b < a + 0 → ∀ d, d < b → zq_nb (2 ^ (a + 0) ^^^ 2 ^ b ^^^ 2 ^ d) 39 = 3 ∧ zq_nc (2 ^ (a + 0) ^^^ 2 ^ b ^^^ 2 ^ d) = 3 ∧ 2 ^ (a + 0) ^^^ 2 ^ b ^^^ 2 ^ d < 2 ^ 39 := by decide +kernel
theorem zq_t1 : ∀ a, a < 7 → ∀ b, b < a + 20 → ∀ d, d < b → zq_nb (2 ^ (a + 20) ^^^ 2 ^ b ^^^ 2 ^ d) 39 = 3 ∧ zq_nc (2 ^ (a + 20) ^^^ 2 ^ b ^^^ 2 ^ d) = 3 ∧ 2 ^ (a + 20) ^^^ 2 ^ b ^^^ 2 ^ d < 2 ^ 39 := by decide +kernel
theorem zq_t2 : ∀ a, a < 6 → ∀ b, b < a + 27 → ∀ d, d < b → zq_nb (2 ^ (a + 27) ^^^ 2 ^ b ^^^ 2 ^ d) 39 = 3 ∧ zq_nc (2 ^ (a + 27) ^^^ 2 ^ b ^^^ 2 ^ d) = 3 ∧ 2 ^ (a + 27) ^^^ 2 ^ b ^^^ 2 ^ d < 2 ^ 39 := by decide +kernel
theorem zq_t3 : ∀ a, a < 3 → ∀ b, b < a + 33 → ∀ d, d < b → zq_nb (2 ^ (a + 33) ^^^ 2 ^ b ^^^ 2 ^ d) 39 = 3 ∧ zq_nc (2 ^ (a + 33) ^^^ 2 ^ b ^^^ 2 ^ d) = 3 ∧ 2 ^ (a + 33) ^^^ 2 ^ b ^^^ 2 ^ d < 2 ^ 39 := by decide +kernel
theorem zq_t4 : ∀ a, a < 3 → ∀ b, b < a + 36 → ∀ d, d < b → zq_nb (2 ^ (a + 36) ^^^ 2 ^ b ^^^ 2 ^ d) 39 = 3 ∧ zq_nc (2 ^ (a + 36) ^^^ 2 ^ b ^^^ 2 ^ d) = 3 ∧ 2 ^ (a + 36) ^^^ 2 ^ b ^^^ 2 ^ d < 2 ^ 39 := by decide +kernel
theorem zq_t : ∀ a, a < 39 → ∀ b, b < a → ∀ d, d < b → zq_nb (2 ^ a ^^^ 2 ^ b ^^^ 2 ^ d) 39 = 3 ∧ zq_nc (2 ^ a ^^^ 2 ^ b ^^^ 2 ^ d) = 3 ∧ 2 ^ a ^^^ 2 ^ b ^^^ 2 ^ d < 2 ^ 39 := by
  intro a ha b hb d hd
  rcases (show a < 20 ∨ (20 ≤ a ∧ a < 27) ∨ (27 ≤ a ∧ a < 33) ∨ (33 ≤ a ∧ a < 36) ∨ 36 ≤ a by omega) with h | h | h | h | h
  · have := zq_t0 (a - 0) (by omega) b (by omega) d hd
    rwa [show a - 0 + 0 = a by omega] at this
  · have := zq_t1 (a - 20) (by omega) b (by omega) d hd
    rwa [show a - 20 + 20 = a by omega] at this
  · have := zq_t2 (a - 27) (by omega) b (by omega) d hd
    rwa [show a - 27 + 27 = a by omega] at this
  · have := zq_t3 (a - 33) (by omega) b (by omega) d hd
    rwa [show a - 33 + 33 = a by omega] at this
  · have := zq_t4 (a - 36) (by omega) b (by omega) d hd
    rwa [show a - 36 + 36 = a by omega] at this
theorem zq_d3 : ∀ a, a < 39 → ∀ b, b < a → ∀ d, d < b → zq_bc (zq_b a ^^^ zq_b b ^^^ zq_b d) 39 = 3 ∧ zb_cnt (zq_b a ^^^ zq_b b ^^^ zq_b d) = nI 3 := by
  intro a ha b hb d hd
  obtain ⟨h1, h2, h3⟩ := zq_t a ha b hb d hd
  rw [zq_bn ha, zq_bn (by omega), zq_bn (by omega), lN_xor, lN_xor, zq_bcn h3 39 (by omega), zq_nat h3, h1, h2]
  exact ⟨rfl, rfl⟩
theorem zq_cnt {x : Int64} (h : zq_f3 x) : zb_cnt x = nI (zq_bc x 39) := by
  rcases h with (rfl | ⟨a, ha, rfl⟩ | ⟨a, b, ha, hb, rfl⟩) | ⟨a, b, d, ha, hb, hd, rfl⟩
  · rw [zq_d0.1, zq_d0.2]
  · rw [(zq_d1 a ha).1, (zq_d1 a ha).2]
  · rw [(zq_d2 a ha b hb).1, (zq_d2 a ha b hb).2]
  · rw [(zq_d3 a ha b hb d hd).1, (zq_d3 a ha b hb d hd).2]
theorem zq_32 {x : Int64} (h : zq_f3 x) (h2 : zq_bc x 39 ≤ 2) : zq_f2 x := by
  rcases h with h | ⟨a, b, d, ha, hb, hd, rfl⟩
  · exact h
  · rw [(zq_d3 a ha b hb d hd).1] at h2
    omega
theorem zq_le2 {x : Int64} (h : zq_f2 x) : zq_bc x 39 ≤ 2 := by
  rcases h with rfl | ⟨a, ha, rfl⟩ | ⟨a, b, ha, hb, rfl⟩
  · rw [zq_d0.1]; omega
  · rw [(zq_d1 a ha).1]; omega
  · rw [(zq_d2 a ha b hb).1]; omega
theorem zq_nz {x : Int64} (h : zq_f2 x) : zq_bc x 39 = 0 ↔ x = 0 := by
  rcases h with rfl | ⟨a, ha, rfl⟩ | ⟨a, b, ha, hb, rfl⟩
  · simp [zq_d0.1]
  · have h1 := zq_d1 a ha
    constructor
    · intro h; rw [h1.1] at h; omega
    · intro h; rw [h] at h1; rw [zq_d0.1] at h1; omega
  · have h1 := zq_d2 a ha b hb
    constructor
    · intro h; rw [h1.1] at h; omega
    · intro h; rw [h] at h1; rw [zq_d0.1] at h1; omega
theorem zq_x0 (x : Int64) : x ^^^ x = 0 := by
  apply Int64.toBitVec_inj.mp
  simp
theorem zq_xc (x y : Int64) : x ^^^ y = y ^^^ x := by
  apply Int64.toBitVec_inj.mp
  simp [BitVec.xor_comm]
theorem zq_xa (x y z : Int64) : x ^^^ y ^^^ z = x ^^^ (y ^^^ z) := by
  apply Int64.toBitVec_inj.mp
  simp [BitVec.xor_assoc]
theorem zq_x1 (x : Int64) : x ^^^ 0 = x := by
  apply Int64.toBitVec_inj.mp
  simp
theorem zq_xor {x : Int64} {d : Nat} (h : zq_f2 x) (hd : d < 39) : zq_f3 (x ^^^ zq_b d) := by
  rcases h with rfl | ⟨a, ha, rfl⟩ | ⟨a, b, ha, hb, rfl⟩
  · rw [zq_xc, zq_x1]
    exact Or.inl (Or.inr (Or.inl ⟨d, hd, rfl⟩))
  · rcases Nat.lt_trichotomy a d with h | h | h
    · rw [zq_xc]
      exact Or.inl (Or.inr (Or.inr ⟨d, a, hd, h, rfl⟩))
    · subst h
      rw [zq_x0]
      exact Or.inl (Or.inl rfl)
    · exact Or.inl (Or.inr (Or.inr ⟨a, d, ha, h, rfl⟩))
  · rcases Nat.lt_trichotomy d b with h | h | h
    · exact Or.inr ⟨a, b, d, ha, hb, h, rfl⟩
    · subst h
      rw [zq_xa, zq_x0, zq_x1]
      exact Or.inl (Or.inr (Or.inl ⟨a, ha, rfl⟩))
    · rcases Nat.lt_trichotomy d a with g | g | g
      · rw [zq_xa, zq_xc (zq_b b), ← zq_xa]
        exact Or.inr ⟨a, d, b, ha, g, h, rfl⟩
      · subst g
        rw [zq_xc (zq_b d), zq_xa, zq_x0, zq_x1]
        exact Or.inl (Or.inr (Or.inl ⟨b, by omega, rfl⟩))
      · rw [zq_xc, ← zq_xa]
        exact Or.inr ⟨d, a, b, hd, g, hb, rfl⟩
