/-- class and reference are related, behind at most n calls -/
def zS (n : Nat) (c : Nat → Nat → Int32) (d : Nat → Nat → Int64) (g : Nat → Nat → Nat) (m : Nat → Nat → Int32) (q : Nat → Nat → Int64) : Prop := g 6 0 = 0 ∧ ∃ u sl of tu au, zs c d g m q u sl of tu au ∧ (∀ k, u 6 k = 0) ∧ u 5 3 ≤ n
theorem zS_0 : zS 0 zk_c0 (fun _ _ => 0) (fun _ _ => 0) (zo_mc 4) (fun _ _ => 0) := by
  refine ⟨rfl, fun _ _ => 0, fun _ _ => 0, fun _ _ => 0, fun _ _ => 0, fun _ _ => 0, ?_, fun _ => rfl, Nat.le_refl _⟩
  have M : ∀ r, r ≠ 16 → r ≠ 27 → r ≠ 40 → zo_mc 4 r = fun _ => 0 := fun r h1 h2 h3 => by
    unfold zo_mc zo_mb zo_ma
    rw [va_up_ne _ _ h2, va_up_ne _ _ h1, va_up_ne _ _ h3]
  have M40 : zo_mc 4 40 = zo_own := by
    unfold zo_mc zo_mb zo_ma
    rw [va_up_ne _ _ (by decide), va_up_ne _ _ (by decide), va_up_self]
  have M16 : ∀ s, s < 280 → zo_mc 4 16 s = (-1) := fun s hs => by
    unfold zo_mc zo_mb
    rw [va_up_ne _ _ (by decide), va_up_self, zo_map_lt _ _ hs]
  have M27 : ∀ s, s < 4 → zo_mc 4 27 s = (-1) := fun s hs => by
    unfold zo_mc
    rw [va_up_self, zo_map_lt _ _ hs]
  have C0 : zk_c0 0 = zk_mki := by
    unfold zk_c0
    rw [va_up_self]
  have Cr : ∀ r, r ≠ 0 → zk_c0 r = fun _ => 0 := fun r h => by
    unfold zk_c0
    rw [va_up_ne _ _ h]
  refine ⟨?_, fun k hk => ⟨fun _ => by rw [M 7 (by decide) (by decide) (by decide)]; rfl, fun z => absurd rfl z⟩, ⟨fun k j i h _ _ z => absurd rfl z, fun pg _ z => absurd (by rw [M 15 (by decide) (by decide) (by decide)]; rfl) z, ?_⟩, ⟨fun k x hx => absurd rfl hx.2.1, fun s hs z => absurd (by rw [M16 s hs]; decide) z, fun s _ => ⟨0, by decide, by rw [M 20 (by decide) (by decide) (by decide)]; rfl⟩, fun s _ => Or.inl (by rw [M 23 (by decide) (by decide) (by decide)]; rfl), fun k x j y hx => absurd rfl hx.2.1⟩, ⟨fun p hp => ⟨fun _ => M27 p hp, fun z => absurd rfl z⟩, fun p j _ _ z => absurd rfl z⟩, ⟨fun i _ => ⟨0, by decide, by rw [M 34 (by decide) (by decide) (by decide)]; rfl, by rw [Cr 2 (by decide)]; show (0 : Int32) &&& nI 255 = nI 0; decide⟩, fun i => by rw [Cr 2 (by decide)]; rfl, Or.inl ⟨rfl, by rw [M40]; rfl⟩⟩, ⟨rfl, by rw [M40]; rfl, by rw [M40]; rfl, Nat.le_refl _, Nat.le_refl _, Nat.le_refl _, fun _ _ z => absurd rfl z, by decide, trivial⟩⟩
  · unfold zs_A
    rw [C0, M40, M 15 (by decide) (by decide) (by decide), Cr 1 (by decide)]
    exact ⟨Or.inl ⟨rfl, rfl, rfl⟩, rfl, fun j _ => Or.inl rfl, rfl, ⟨0, by decide, rfl⟩, rfl, rfl, rfl⟩
  · decide
theorem zk_md_c (g : Nat → Nat → Nat) (x : Int32) : zk_md g x = none ∨ ∃ k, k < 4 ∧ x = nI k ∧ g 0 k ≠ 0 := by
  cases e : zk_md g x with
  | none => exact Or.inl rfl
  | some k => exact Or.inr ⟨k, zk_md_of e⟩
theorem zk_po_c (g : Nat → Nat → Nat) (x : Int32) : zk_po g x = none ∨ ∃ k, k < 4 ∧ x = nI k ∧ g 3 k ≠ 0 := by
  cases e : zk_po g x with
  | none => exact Or.inl rfl
  | some k => exact Or.inr ⟨k, zk_po_of e⟩
/-- a number from 0 to n, or none of them -/
theorem zt_upto (x : Int32) (n : Nat) (hn : n < 2 ^ 30) : x < nI 0 ∨ nI n < x ∨ ∃ j, j ≤ n ∧ x = nI j := by
  by_cases h0 : x < nI 0
  · exact Or.inl h0
  · obtain ⟨j, hj, rfl⟩ := zt_nn h0
    by_cases h1 : n < j
    · exact Or.inr (Or.inl (nI_lt h1 hj))
    · exact Or.inr (Or.inr ⟨j, by omega, rfl⟩)
section ZQ
variable {l : Launch} {y : MethodName} {ws : List Cond} {rm : Room} {mc ms : Nat} {D : va_G} {cA : Nat → ClassId} {te mi : Nat} {av : List Value} {kd ln : Nat → Nat} {I : Nat → Nat → Int32} {L : Nat → Nat → Int64} {R : Nat → Nat → Option Nat} {V : Option Value} {X : Nat} {A ea : Nat → Nat} {c : Nat → Nat → Int32} {d : Nat → Nat → Int64} {g : Nat → Nat → Nat}
theorem zq_P (h : zc_M l y ws rm mc ms D cA te mi av kd ln I L R (zk_P V X te A ea c d g kd ln)) : zc_M l y ws rm mc ms D cA te mi av kd ln I L R (zk_Q V X te c d g) := zc_mono h (fun v k n i j r hh => by
  obtain ⟨h1, rfl, rfl, h4⟩ := hh
  exact ⟨h1, A, ea, h4⟩)
theorem zq_A (h : zc_M l y ws rm mc ms D cA te mi av kd ln I L R (zk_A V X te A c d g)) : zc_M l y ws rm mc ms D cA te mi av kd ln I L R (zk_Q V X te c d g) := zc_mono h (fun v k n i j r hh => by
  obtain ⟨h1, a1, e1, -, h4⟩ := hh
  exact ⟨h1, a1, e1, h4⟩)
theorem zq_E (hk : zkR X te A ea c d g kd ln I L R) (h : zc_M l y ws rm mc ms D cA te mi av kd ln I L R (zc_eq V kd ln I L R)) : zc_M l y ws rm mc ms D cA te mi av kd ln I L R (zk_Q V X te c d g) := zc_mono h (fun v k n i j r hh => by
  obtain ⟨h1, rfl, rfl, rfl, rfl, rfl⟩ := hh
  exact ⟨h1, A, ea, hk⟩)
end ZQ
/-- both sides answer v, and are related again -/
def zLi (l : Launch) (D : va_G) (cA : Nat → ClassId) (te mi X Y : Nat) (ad : Nat → Nat) (n : Nat) (kd ln : Nat → Nat) (I : Nat → Nat → Int32) (L : Nat → Nat → Int64) (R : Nat → Nat → Option Nat) (kd' ln' : Nat → Nat) (I' : Nat → Nat → Int32) (L' : Nat → Nat → Int64) (R' : Nat → Nat → Option Nat) (y1 : MethodName) (w1 : List Cond) (rm1 : Room) (mc1 ms1 : Nat) (y2 : MethodName) (w2 : List Cond) (rm2 : Room) (As : List Value) (V : Option Value) : Prop := ∃ c1 d1 g1 m1 q1, zS (n + 1) c1 d1 g1 m1 q1 ∧ zc_M l y1 w1 rm1 mc1 ms1 D cA te mi (.ref X :: As) kd ln I L R (zk_Q V X te c1 d1 g1) ∧ zc_M l y2 w2 rm2 0 0 D cA te mi (.ref Y :: As) kd' ln' I' L' R' (zo_P V Y ad m1 q1 kd' ln' R')
theorem zS_keep {n : Nat} {c : Nat → Nat → Int32} {d : Nat → Nat → Int64} {g : Nat → Nat → Nat} {m : Nat → Nat → Int32} {q : Nat → Nat → Int64} (h : zS n c d g m q) : zS (n + 1) c d g m q := by
  obtain ⟨h6, u, sl, of, tu, au, h1, h2, h3⟩ := h
  exact ⟨h6, u, sl, of, tu, au, h1, h2, by omega⟩
