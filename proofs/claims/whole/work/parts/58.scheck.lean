theorem zo_cp_n {m : Nat → Nat → Int32} : ∀ n, zo_cp m n = nI (6 + 2 * zs_sum (fun s => if zo_br m s = nI 0 then 0 else 1) n)
  | 0 => rfl
  | n + 1 => by
    rw [zo_cp, zo_cp_n n, zs_sum]
    by_cases e : zo_br m n = nI 0
    · rw [if_pos e, if_pos e, nI_add]
      exact congrArg nI (by omega)
    · rw [if_neg e, if_neg e, nI_add]
      exact congrArg nI (by omega)
theorem zk_cr_n (c : Nat → Nat → Int32) (k a : Nat) : ∀ n, zk_cr c k a n = zs_sum (fun i => if c (zk_p k (a + i)) 5 = nI 0 then 0 else if zk_ir c k a i = nI 0 then 1 else 0) n
  | 0 => rfl
  | n + 1 => by rw [zk_cr, zk_cr_n c k a n, zs_sum]
theorem zs_sum_add {f f1 : Nat → Nat} : ∀ n, zs_sum (fun s => f s + f1 s) n = zs_sum f n + zs_sum f1 n
  | 0 => rfl
  | n + 1 => by
    rw [zs_sum, zs_sum, zs_sum, zs_sum_add n]
    omega
section ZTC
variable {c : Nat → Nat → Int32} {d : Nat → Nat → Int64} {g : Nat → Nat → Nat} {m : Nat → Nat → Int32} {q : Nat → Nat → Int64} {u sl of tu au : Nat → Nat → Nat}
/-- a kept packet begins a run, on both sides -/
theorem zs_br (h : zs c d g m q u sl of tu au) {k i : Nat} (hx : zs_l g k (g 1 k + i)) : (if zo_br m (sl k (g 1 k + i)) = nI 0 then 0 else 1) = if c (zk_p k (g 1 k + i)) 5 = nI 0 then 0 else if zk_ir c k (g 1 k) i = nI 0 then 1 else 0 := by
  have hk := hx.1
  have hp := (h.2.2.2.1.1 k _ hx).1
  have hxb := zs_xb h hx
  unfold zo_br zk_ir
  rw [hp.2.1, if_neg (nI_nlt (Nat.zero_le _) (by omega)), hp.2.2.2.2.2.1, hp.2.2.1]
  by_cases e : c (zk_p k (g 1 k + i)) 5 = nI 0
  · rw [if_pos e, if_pos rfl, if_pos e]
  · rw [if_neg e, if_neg e]
    by_cases ei : i = 0
    · rw [if_pos ei, if_pos rfl]
      have hf : zo_fd m (nI k) (nI (g 1 k + i) - nI 1) 280 = (-1) := zs_find0 h hk (fun y hy z => by
        have hy2 := hy.2.2
        have hyb := zs_xb h hy
        have : nI (g 1 k + i) = nI (y + 1) := by
          rw [show nI (y + 1) = nI y + nI 1 from (nI_add _ _).symm, ← z]
          rw [Int32.sub_add_cancel]
        have := (nI_eq (by omega) (by omega)).mp this
        omega)
      rw [hf, if_pos (show (-1 : Int32) < nI 0 by decide), if_neg (show ¬ nI 1 = nI 0 by decide)]
    · rw [if_neg ei, pk_sub (by omega)]
      have hl : zs_l g k (g 1 k + i - 1) := ⟨hk, hx.2.1, by omega, by have := hx.2.2.2; omega⟩
      have hq := (h.2.2.2.1.1 k _ hl).1
      rw [zs_find h hl, if_neg (nI_nlt (Nat.zero_le _) (by have := hq.1; omega)), nI_clamp (by have := hq.1; omega), hq.2.2.2.2.2.1]
      by_cases e2 : c (zk_p k (g 1 k + i - 1)) 5 = nI 0
      · rw [if_pos e2, if_pos e2, if_neg (by decide)]
      · rw [if_neg e2, if_neg e2, if_pos rfl]
/-- the runs of the stores below n -/
def zs_bf (m : Nat → Nat → Int32) (n : Nat) : Nat → Nat := fun s => if m 16 s < nI 0 then 0 else if m 16 s < nI n then (if zo_br m s = nI 0 then 0 else 1) else 0
theorem zs_runs (h : zs c d g m q u sl of tu au) : ∀ n, n ≤ 4 → zk_rn c g n = zs_sum (zs_bf m n) 280
  | 0, _ => by
    rw [zs_sum_z 280 (fun s _ => by unfold zs_bf; split <;> rfl)]
    rfl
  | n + 1, hn => by
    have hst : ∀ s, s < 280 → m 16 s < nI 0 ∨ ∃ k, k < 4 ∧ g 0 k ≠ 0 ∧ m 16 s = nI k := fun s hs => by
      by_cases e : m 16 s < nI 0
      · exact Or.inl e
      · obtain ⟨k, x, hx, e2⟩ := h.2.2.2.1.2.1 s hs e
        exact Or.inr ⟨k, hx.1, hx.2.1, by rw [e2]; exact (h.2.2.2.1.1 k x hx).1.2.1⟩
    have hs : zs_sum (zs_bf m (n + 1)) 280 = zs_sum (fun s => zs_bf m n s + (if m 16 s = nI n then (if zo_br m s = nI 0 then 0 else 1) else 0)) 280 := zs_sum_c 280 (fun s hs => by
      unfold zs_bf
      rcases hst s hs with e | ⟨k, hk, -, e⟩
      · rw [if_pos e, if_pos e, if_neg (fun z => by rw [z] at e; exact nI_nlt (Nat.zero_le _) (by omega) e)]
      · rw [e, if_neg (nI_nlt (Nat.zero_le _) (by omega)), if_neg (nI_nlt (Nat.zero_le _) (by omega))]
        by_cases e1 : k < n
        · rw [if_pos (nI_lt (show k < n + 1 by omega) (by omega)), if_pos (nI_lt e1 (by omega)), if_neg (show ¬ nI k = nI n from fun z => by have := (nI_eq (by omega) (by omega)).mp z; omega)]
          rfl
        · by_cases e2 : k = n
          · rw [if_pos (nI_lt (show k < n + 1 by omega) (by omega)), if_neg (nI_nlt (by omega) (by omega)), if_pos (show nI k = nI n by rw [e2]), Nat.zero_add]
          · rw [if_neg (nI_nlt (show n + 1 ≤ k by omega) (by omega)), if_neg (nI_nlt (by omega) (by omega)), if_neg (fun z => by have := (nI_eq (by omega) (by omega)).mp z; omega)])
    rw [hs, zs_sum_add, ← zs_runs h n (by omega), zk_rn]
    by_cases e : g 0 n = 0
    · rw [if_pos e, zs_sum_z 280 (fun s hs => by
        rcases hst s hs with e2 | ⟨k, hk, gk, e2⟩
        · rw [if_neg (fun z => by rw [z] at e2; exact nI_nlt (Nat.zero_le _) (by omega) e2)]
        · rw [e2, if_neg (fun z => by
            have := (nI_eq (by omega) (by omega)).mp z
            exact gk (by rw [this]; exact e))])]
      rfl
    · rw [if_neg e, zs_cnt h (by omega) e _ (fun s _ z => Decidable.byContradiction fun z2 => z (if_neg z2)), zk_cr_n]
      refine congrArg (zk_rn c g n + ·) (zs_sum_c _ (fun i hi => ?_))
      have hx : zs_l g n (g 1 n + i) := ⟨by omega, e, by omega, by omega⟩
      rw [if_pos (h.2.2.2.1.1 n _ hx).1.2.1]
      exact (zs_br h hx).symm
/-- what a checkpoint costs -/
theorem zs_cost (h : zs c d g m q u sl of tu au) : zo_cp m 280 = nI (6 + 2 * zk_rn c g 4) := by
  rw [zo_cp_n, zs_runs h 4 (Nat.le_refl _)]
  refine congrArg (fun n => nI (6 + 2 * n)) (zs_sum_c 280 (fun s hs => ?_))
  unfold zs_bf
  by_cases e : m 16 s < nI 0
  · rw [if_pos e]
    unfold zo_br
    rw [if_pos e, if_pos rfl]
  · rw [if_neg e]
    obtain ⟨k, x, hx, e2⟩ := h.2.2.2.1.2.1 s hs e
    have := (h.2.2.2.1.1 k x hx).1.2.1
    rw [e2, this, if_pos (nI_lt hx.1 (by decide))]
end ZTC
