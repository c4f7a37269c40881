section ZSM
variable {c : Nat → Nat → Int32} {d : Nat → Nat → Int64} {g : Nat → Nat → Nat} {m : Nat → Nat → Int32} {q : Nat → Nat → Int64} {u sl of tu au : Nat → Nat → Nat}
theorem zb_upd_ne {L : Nat → Nat → Int64} {F r : Nat} (o : Option (Nat × Int64)) (h : r ≠ F) : zb_upd L F o r = L r := by
  rcases o with _ | ⟨a, b⟩
  · rfl
  · exact zu_ne _ _ _ h
theorem zb_upd_at {L L1 : Nat → Nat → Int64} {F G : Nat} (o : Option (Nat × Int64)) (h : L F = L1 G) : zb_upd L F o F = zb_upd L1 G o G := by
  rcases o with _ | ⟨a, b⟩
  · exact h
  · show zu L F a b F = zu L1 G a b G
    rw [zu_at, zu_at, h]
theorem zb_flip_f2 {lm fr : Int32} {f : Nat → Int64} {x y z : Int32} {a : Nat} {b : Int64} (hf : ∀ j, j < 768 → zq_f2 (f j)) (h : zb_flip lm fr f x y z = some (a, b)) : zq_f2 b := by
  by_cases hx : x < nI 0 ∨ nI 5 < x ∨ y < nI 0 ∨ nI 127 < y ∨ z < nI 0 ∨ nI 38 < z
  · rw [zb_flip_o hx] at h
    cases h
  · obtain ⟨j1, h1, rfl⟩ := zt_ix (x := x) (n := 6) (fun e => hx (Or.inl e)) (zt_gt (fun e => hx (Or.inr (Or.inl e))) (by decide)) (by decide)
    obtain ⟨j2, h2, rfl⟩ := zt_ix (x := y) (n := 128) (fun e => hx (Or.inr (Or.inr (Or.inl e)))) (zt_gt (fun e => hx (Or.inr (Or.inr (Or.inr (Or.inl e))))) (by decide)) (by decide)
    obtain ⟨j3, h3, rfl⟩ := zt_ix (x := z) (n := 39) (fun e => hx (Or.inr (Or.inr (Or.inr (Or.inr (Or.inl e)))))) (zt_gt (fun e => hx (Or.inr (Or.inr (Or.inr (Or.inr (Or.inr e)))))) (by decide)) (by decide)
    rw [zb_flip_n h1 h2 h3] at h
    have h9 := zq_xor (hf (j1 * 128 + j2) (by omega)) h3
    have hle := zq_bc_le (f (j1 * 128 + j2) ^^^ zq_b j3) 39
    rw [zq_cnt h9] at h
    split at h
    · split at h
      · cases h
      · rename_i hn
        have h2 : zq_bc (f (j1 * 128 + j2) ^^^ zq_b j3) 39 ≤ 2 := Nat.not_lt.mp fun e => hn (nI_lt e (by omega))
        split at h
        · split at h
          · cases h
          · cases h
            exact zq_32 h9 h2
        · cases h
          exact zq_32 h9 h2
    · cases h
theorem zs_flip (h : zs c d g m q u sl of tu au) (x y z : Int32) : zs c (zb_upd d 3 (zb_flip (c 0 2) (c 0 4) (d 3) x y z)) g m (zb_upd q 0 (zb_flip (c 0 2) (c 0 4) (d 3) x y z)) u sl of tu au := by
  obtain ⟨hA, hB, hG, hP, hL, hF, hN⟩ := h
  obtain ⟨a1, a2, a3, a4⟩ := hA
  refine ⟨⟨a1, zb_upd_at _ a2, fun j hj => ?_, a4⟩, hB, hG, zs_P_c hP (fun k x hk => ⟨rfl, rfl, zb_upd_ne _ (by unfold zk_p; omega)⟩) (fun _ _ => rfl) (fun _ _ => ⟨rfl, rfl, rfl⟩) (fun _ _ _ => rfl) (fun _ _ _ => rfl) (zb_upd_ne _ (by decide)) (fun _ => ⟨rfl, rfl⟩) ⟨Nat.le_refl _, Nat.le_refl _⟩, zs_L_c hL (fun p hp => ⟨rfl, zb_upd_ne _ (by omega)⟩) (fun _ _ => rfl) (fun _ _ => rfl) (fun _ _ _ => rfl) (fun _ => ⟨rfl, rfl⟩) ⟨Nat.le_refl _, Nat.le_refl _⟩, hF, zs_N_c hN (zb_upd_ne _ (by decide)) (fun _ _ => ⟨rfl, rfl⟩) rfl ⟨rfl, rfl⟩⟩
  rcases e : zb_flip (c 0 2) (c 0 4) (d 3) x y z with _ | ⟨a, b⟩
  · exact a3 j hj
  · show zq_f2 (zu q 0 a b 0 j)
    rw [zu_at]
    by_cases ej : j = a
    · rw [ej, va_up_self]
      exact zb_flip_f2 (by rw [a2]; exact a3) e
    · rw [va_up_ne _ _ ej]
      exact a3 j hj
theorem zb_offL_ne {L : Nat → Nat → Int64} {F r : Nat} {v x : Int32} (h : r ≠ F) : zb_offL L F v x r = L r := by
  unfold zb_offL
  split
  · rfl
  · exact va_up_ne _ _ h
theorem zs_latch (h : zs c d g m q u sl of tu au) (x : Int32) : zs (zb_offI c 0 (zb_off (c 0 2) (d 3) x) x) (zb_offL d 3 (zb_off (c 0 2) (d 3) x) x) g (zo_offI m (zb_off (c 0 2) (d 3) x) x) (zb_offL q 0 (zb_off (c 0 2) (d 3) x) x) u sl of tu au := by
  have h0 := h
  obtain ⟨hA, hB, hG, hP, hL, hF, hN⟩ := h
  by_cases hv : zb_off (c 0 2) (d 3) x = nI 0
  · unfold zb_offI zb_offL zo_offI
    rw [if_pos hv, if_pos hv, if_pos hv, if_pos hv]
    exact h0
  · have hv2 := hv
    unfold zb_offI zo_offI
    rw [if_neg hv, if_neg hv]
    have hx : ∃ j, j < 6 ∧ x = nI j ∧ c 0 2 = (-1) := by
      unfold zb_off at hv2
      by_cases e1 : zb_mod x = nI 0
      · rw [if_pos e1] at hv2
        exact absurd rfl hv2
      · obtain ⟨j, hj, rfl⟩ := zb_mod_of e1
        rw [if_neg e1] at hv2
        by_cases e2 : c 0 2 = (-1)
        · exact ⟨j, hj, rfl, e2⟩
        · rw [if_neg e2] at hv2
          exact absurd rfl hv2
    obtain ⟨j, hj, rfl, hlm⟩ := hx
    obtain ⟨a1, a2, a3, a4, a5, a6, a7, a8⟩ := hA
    have hz := (zq_lm a1).mp hlm
    have C0 : ∀ s, s ≠ 2 → s ≠ 3 → s ≠ 4 → zu (zu (zu c 0 2 (nI j)) 0 3 (nI 1)) 0 4 (nI 0) 0 s = c 0 s := fun s h2 h3 h4 => by rw [zu_k _ _ _ _ h4, zu_k _ _ _ _ h3, zu_k _ _ _ _ h2]
    have Cr : ∀ r, r ≠ 0 → zu (zu (zu c 0 2 (nI j)) 0 3 (nI 1)) 0 4 (nI 0) r = c r := fun r hr => by rw [zu_ne _ _ _ hr, zu_ne _ _ _ hr, zu_ne _ _ _ hr]
    have Mr : ∀ r, r ≠ 40 → zu m 40 1 (nI j) r = m r := fun r hr => zu_ne _ _ _ hr
    have M4 : ∀ s, s ≠ 1 → zu m 40 1 (nI j) 40 s = m 40 s := fun s hs => zu_k _ _ _ _ hs
    refine ⟨⟨?_, ?_, fun i hi => ?_, ?_, ?_, ?_, ?_, ?_⟩, zs_B_c hB (fun k hk => ⟨Cr _ (by omega), Cr _ (by omega)⟩) (fun _ _ => ⟨rfl, rfl, rfl⟩) (fun r h1 h2 => Mr r (by omega)) (fun _ => ⟨rfl, rfl, rfl⟩), zs_G_c hG (fun k hk => Cr _ (by omega)) (fun _ _ => rfl) (Mr 15 (by decide)) (fun _ => ⟨rfl, rfl⟩), zs_P_c hP (fun k x hk => ⟨Cr _ (by unfold zk_p; omega), Cr _ (by unfold zk_p; omega), zb_offL_ne (by unfold zk_p; omega)⟩) (fun k hk => Cr _ (by omega)) (fun _ _ => ⟨rfl, rfl, rfl⟩) (fun _ _ _ => rfl) (fun r h1 h2 => Mr r (by omega)) (zb_offL_ne (by decide)) (fun _ => ⟨rfl, rfl⟩) ⟨Nat.le_refl _, Nat.le_refl _⟩, zs_L_c hL (fun p hp => ⟨Cr _ (by omega), zb_offL_ne (by omega)⟩) (fun _ _ => rfl) (fun _ _ => rfl) (fun r h1 h2 => Mr r (by omega)) (fun _ => ⟨rfl, rfl⟩) ⟨Nat.le_refl _, Nat.le_refl _⟩, zs_F_c hF (Cr 2 (by decide)) ⟨Cr _ (by decide), Cr _ (by decide)⟩ ⟨rfl, rfl⟩ (Mr _ (by decide)) (M4 _ (by decide)) (Mr _ (by decide)), zs_N_c hN (zb_offL_ne (by decide)) (fun _ _ => ⟨rfl, rfl⟩) rfl ⟨M4 _ (by decide), M4 _ (by decide)⟩⟩
    · refine Or.inr (Or.inl ⟨j, hj, ?_, ?_, ?_, ?_, ?_⟩)
      · rw [zu_k _ _ _ _ (by decide), zu_k _ _ _ _ (by decide), zu_self]
      · rw [zu_k _ _ _ _ (by decide), zu_self]
      · rw [zu_self]
      · rw [zu_self]
      · rw [M4 _ (by decide)]
        exact hz.2
    · unfold zb_offL
      rw [if_neg hv, if_neg hv, va_up_self, va_up_self, a2]
    · unfold zb_offL
      rw [if_neg hv, va_up_self]
      unfold zb_clr
      split
      · exact Or.inl rfl
      · exact a3 i hi
    · rw [C0 _ (by decide) (by decide) (by decide), M4 _ (by decide)]
      exact a4
    · rw [M4 _ (by decide)]
      exact a5
    · rw [C0 _ (by decide) (by decide) (by decide), M4 _ (by decide)]
      exact a6
    · rw [C0 _ (by decide) (by decide) (by decide), M4 _ (by decide)]
      exact a7
    · rw [Cr _ (by decide), Mr _ (by decide)]
      exact a8
theorem zq_on {lm lo fr off pale blank : Int32} (h : zq_rel lm lo fr off pale blank) (x : Int32) : zb_on lm lo x = zo_pw off x := by
  have hx : (x < nI 0 ∨ nI 5 < x) ∨ ∃ j, j < 6 ∧ x = nI j := by
    by_cases h1 : x < nI 0
    · exact Or.inl (Or.inl h1)
    · by_cases h2 : nI 5 < x
      · exact Or.inl (Or.inr h2)
      · exact Or.inr (zt_ix h1 (zt_gt h2 (by decide)) (by decide))
  rcases hx with hx | ⟨j, hj, rfl⟩
  · have e1 : zb_mod x = nI 0 := Decidable.byContradiction fun e => by
      obtain ⟨j, hj, rfl⟩ := zb_mod_of e
      rcases hx with hx | hx
      · exact nI_nlt (Nat.zero_le j) (by omega) hx
      · exact zt_gt2 hx (by decide) (nI_lt hj (by decide))
    unfold zb_on zo_pw
    rw [if_pos e1]
    rcases hx with hx | hx
    · rw [if_pos hx]
    · by_cases h1 : x < nI 0
      · rw [if_pos h1]
      · rw [if_neg h1, if_pos hx]
  · unfold zb_on zo_pw
    rw [if_neg (zb_mod_n hj), if_neg (nI_nlt (Nat.zero_le _) (by omega)), if_neg (nI_nlt (by omega) (by decide))]
    rcases h with ⟨rfl, rfl, rfl⟩ | ⟨k, hk, rfl, rfl, rfl, rfl, rfl⟩ | ⟨k, r, hk, hr, rfl, rfl, rfl, rfl, rfl, rfl⟩
    · rw [if_neg (zq_m1 j hj), if_neg (fun e => zq_m1 j hj e.symm)]
    · by_cases e : j = k
      · rw [e, if_pos rfl, if_pos rfl, if_neg (by decide)]
      · rw [if_neg (fun z => e ((nI_eq (by omega) (by omega)).mp z)), if_neg (fun z => e ((nI_eq (by omega) (by omega)).mp z).symm)]
    · rw [if_neg (show ¬ ((-1 : Int32) = nI j) from fun e => zq_m1 j hj e.symm)]
      by_cases e : nI j = nI k
      · rw [if_pos e, if_pos rfl]
      · rw [if_neg e]
theorem zs_power (h : zs c d g m q u sl of tu au) (x : Int32) : zs (zb_onI c 0 (zb_on (c 0 2) (c 0 3) x)) d g (zo_pwI m (zo_pw (m 40 1) x) x) q u sl of tu au := by
  have h0 := h
  obtain ⟨hA, hB, hG, hP, hL, hF, hN⟩ := h
  obtain ⟨a1, a2, a3, a4, a5, a6, a7, a8⟩ := hA
  rw [zq_on a1 x]
  by_cases hv : zo_pw (m 40 1) x = nI 0
  · unfold zb_onI zo_pwI
    rw [if_pos hv, if_pos hv]
    exact h0
  · have hv2 := hv
    unfold zb_onI zo_pwI
    rw [if_neg hv, if_neg hv]
    have hx : ∃ j, j < 6 ∧ x = nI j ∧ m 40 1 = nI j := by
      unfold zo_pw at hv2
      by_cases h1 : x < nI 0
      · rw [if_pos h1] at hv2
        exact absurd rfl hv2
      · rw [if_neg h1] at hv2
        by_cases h2 : nI 5 < x
        · rw [if_pos h2] at hv2
          exact absurd rfl hv2
        · rw [if_neg h2] at hv2
          obtain ⟨j, hj, rfl⟩ := zt_ix h1 (zt_gt h2 (by decide)) (by decide)
          by_cases h3 : m 40 1 = nI j
          · exact ⟨j, hj, rfl, h3⟩
          · rw [if_neg h3] at hv2
            exact absurd rfl hv2
    obtain ⟨j, hj, rfl, hoff⟩ := hx
    have Cr : ∀ r, r ≠ 0 → zu c 0 3 (nI 0) r = c r := fun r hr => zu_ne _ _ _ hr
    have C0 : ∀ s, s ≠ 3 → zu c 0 3 (nI 0) 0 s = c 0 s := fun s hs => zu_k _ _ _ _ hs
    have Mr : ∀ r, r ≠ 40 → zu (zu (zu m 40 1 (-1)) 40 2 (nI j)) 40 3 (nI 255) r = m r := fun r hr => by rw [zu_ne _ _ _ hr, zu_ne _ _ _ hr, zu_ne _ _ _ hr]
    have M4 : ∀ s, s ≠ 1 → s ≠ 2 → s ≠ 3 → zu (zu (zu m 40 1 (-1)) 40 2 (nI j)) 40 3 (nI 255) 40 s = m 40 s := fun s h1 h2 h3 => by rw [zu_k _ _ _ _ h3, zu_k _ _ _ _ h2, zu_k _ _ _ _ h1]
    refine ⟨⟨?_, a2, a3, ?_, ?_, ?_, ?_, ?_⟩, zs_B_c hB (fun k hk => ⟨Cr _ (by omega), Cr _ (by omega)⟩) (fun _ _ => ⟨rfl, rfl, rfl⟩) (fun r h1 h2 => Mr r (by omega)) (fun _ => ⟨rfl, rfl, rfl⟩), zs_G_c hG (fun k hk => Cr _ (by omega)) (fun _ _ => rfl) (Mr 15 (by decide)) (fun _ => ⟨rfl, rfl⟩), zs_P_c hP (fun k x hk => ⟨Cr _ (by unfold zk_p; omega), Cr _ (by unfold zk_p; omega), rfl⟩) (fun k hk => Cr _ (by omega)) (fun _ _ => ⟨rfl, rfl, rfl⟩) (fun _ _ _ => rfl) (fun r h1 h2 => Mr r (by omega)) rfl (fun _ => ⟨rfl, rfl⟩) ⟨Nat.le_refl _, Nat.le_refl _⟩, zs_L_c hL (fun p hp => ⟨Cr _ (by omega), rfl⟩) (fun _ _ => rfl) (fun _ _ => rfl) (fun r h1 h2 => Mr r (by omega)) (fun _ => ⟨rfl, rfl⟩) ⟨Nat.le_refl _, Nat.le_refl _⟩, zs_F_c hF (Cr 2 (by decide)) ⟨Cr _ (by decide), Cr _ (by decide)⟩ ⟨rfl, rfl⟩ (Mr _ (by decide)) (M4 _ (by decide) (by decide) (by decide)) (Mr _ (by decide)), zs_N_c hN rfl (fun _ _ => ⟨rfl, rfl⟩) rfl ⟨M4 _ (by decide) (by decide) (by decide), M4 _ (by decide) (by decide) (by decide)⟩⟩
    · refine Or.inr (Or.inr ⟨j, 0, hj, by decide, ?_, zu_self _ _ _ _, ?_, ?_, ?_, ?_⟩)
      · rw [C0 _ (by decide)]
        rcases a1 with ⟨e1, e2, e3⟩ | ⟨k, hk, e1, e2, e3, e4, e5⟩ | ⟨k, r, hk, hr, e1, e2, e3, e4, e5, e6⟩
        · rw [hoff] at e2
          exact absurd e2 (zq_m1 j hj)
        · rw [e1, ← e4, hoff]
        · rw [hoff] at e4
          exact absurd e4 (zq_m1 j hj)
      · rw [C0 _ (by decide)]
        rcases a1 with ⟨e1, e2, e3⟩ | ⟨k, hk, e1, e2, e3, e4, e5⟩ | ⟨k, r, hk, hr, e1, e2, e3, e4, e5, e6⟩
        · rw [hoff] at e2
          exact absurd e2 (zq_m1 j hj)
        · exact e3
        · rw [hoff] at e4
          exact absurd e4 (zq_m1 j hj)
      · rw [zu_k _ _ _ _ (by decide), zu_k _ _ _ _ (by decide), zu_self]
      · rw [zu_k _ _ _ _ (by decide), zu_self]
      · rw [zu_self]
    · rw [C0 _ (by decide), M4 _ (by decide) (by decide) (by decide)]
      exact a4
    · rw [M4 _ (by decide) (by decide) (by decide)]
      exact a5
    · rw [C0 _ (by decide), M4 _ (by decide) (by decide) (by decide)]
      exact a6
    · rw [C0 _ (by decide), M4 _ (by decide) (by decide) (by decide)]
      exact a7
    · rw [Cr _ (by decide), Mr _ (by decide)]
      exact a8
theorem zq_told {lm lo fr off pale blank : Int32} (h : zq_rel lm lo fr off pale blank) : (if off < nI 0 then nI (zq_bc blank.toInt64 39) else nI 8) = if lm = (-1) then nI 0 else nI 8 - fr := by
  have hb : ∀ r, r < 8 → nI (zq_bc (nI (256 - 2 ^ r)).toInt64 39) = nI 8 - nI r := by decide +kernel
  rcases h with ⟨rfl, rfl, rfl⟩ | ⟨k, hk, rfl, rfl, rfl, rfl, rfl⟩ | ⟨k, r, hk, hr, rfl, rfl, rfl, rfl, rfl, rfl⟩
  · rw [if_pos (by decide), if_pos rfl]
    decide +kernel
  · rw [if_neg (nI_nlt (Nat.zero_le _) (by omega)), if_neg (zq_m1 k hk)]
    decide
  · rw [if_pos (by decide), if_neg (zq_m1 k hk)]
    exact hb r hr
theorem zs_told (h : zs c d g m q u sl of tu au) (x : Int32) : zk_tld c d x = zo_told m q x := by
  obtain ⟨a1, a2, a3, a4, a5, a6, a7, a8⟩ := h.1
  unfold zk_tld zo_told
  rw [a2, a6, a7, a8, zq_told a1]
end ZSM
