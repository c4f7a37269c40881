/-! two worlds in one heap: the class's and the reference's -/
theorem zh_H.part {D : va_G} {cA : Nat → ClassId} {A : Nat → Prop} {kd ln kd2 ln2 : Nat → Nat} {I I2 : Nat → Nat → Int32} {L L2 : Nat → Nat → Int64} {R R2 : Nat → Nat → Option Nat} {H : Heap} (h : zh_H D cA A kd ln I L R H) (hk : ∀ q, kd2 q ≠ 0 → kd2 q = kd q ∧ ln2 q = ln q ∧ I2 q = I q ∧ L2 q = L q ∧ R2 q = R q) : zh_H D cA A kd2 ln2 I2 L2 R2 H := by
  obtain ⟨Ls, hL, hP, hD⟩ := h
  have he : ∀ q, kd2 q ≠ 0 → zh_en cA kd2 ln2 I2 L2 R2 q = zh_en cA kd ln I L R q := fun q hq => zh_en_eq (hk q hq).1 (hk q hq).2.1 (hk q hq).2.2.1 (hk q hq).2.2.2.1 (hk q hq).2.2.2.2
  have hmem : ∀ q, q ∈ Ls.filter (fun q => decide (kd2 q ≠ 0)) ↔ kd2 q ≠ 0 := fun q => by
    rw [List.mem_filter, hL]
    exact ⟨fun z => of_decide_eq_true z.2, fun z => ⟨by rw [← (hk q z).1]; exact z, decide_eq_true z⟩⟩
  have hget : ∀ {X : List Nat} {f : Nat → va_E} {k : Nat} {x : Nat × va_E}, (va_pl X f)[k]? = some x → X[k]? = some x.1 ∧ x.2 = f x.1 := fun {X f k x} hx => by
    unfold va_pl at hx
    rw [List.getElem?_map] at hx
    cases e : X[k]? with
    | none => rw [e] at hx; cases hx
    | some b => rw [e] at hx; cases hx; exact ⟨rfl, rfl⟩
  have hout : ∀ {k : Nat} {x : Nat × va_E}, (va_pl (Ls.filter (fun q => decide (kd2 q ≠ 0))) (zh_en cA kd2 ln2 I2 L2 R2))[k]? = some x → ∃ j : Nat, (va_pl Ls (zh_en cA kd ln I L R))[j]? = some x := fun {k x} hx => by
    obtain ⟨h1, h2⟩ := hget hx
    have hm := (hmem x.1).mp (List.mem_of_getElem? h1)
    obtain ⟨j, hj⟩ := va_pl_get (X := []) (f := zh_en cA kd ln I L R) ((hL x.1).mpr (by rw [← (hk _ hm).1]; exact hm))
    refine ⟨j, ?_⟩
    rw [he _ hm] at h2
    rw [show x = (x.1, zh_en cA kd ln I L R x.1) from by rw [← h2]]
    exact hj
  have hnd : Ls.Pairwise (· ≠ ·) := by
    rw [List.pairwise_iff_getElem]
    intro i j hi hj hij e
    have g1 : (va_pl Ls (zh_en cA kd ln I L R))[i]? = some (Ls[i], zh_en cA kd ln I L R Ls[i]) := by
      unfold va_pl
      rw [List.getElem?_map, List.getElem?_eq_getElem hi]
      rfl
    have g2 : (va_pl Ls (zh_en cA kd ln I L R))[j]? = some (Ls[j], zh_en cA kd ln I L R Ls[j]) := by
      unfold va_pl
      rw [List.getElem?_map, List.getElem?_eq_getElem hj]
      rfl
    have := hD.1 i j _ _ g1 g2 e
    omega
  have hnd2 := hnd.filter (fun q => decide (kd2 q ≠ 0))
  refine ⟨_, hmem, fun k x hx => ?_, fun i j x y hx hy e => ?_, fun k x hx => ?_⟩
  · obtain ⟨j, hj⟩ := hout hx
    exact hP j x hj
  · obtain ⟨a1, -⟩ := hget hx
    obtain ⟨b1, -⟩ := hget hy
    rw [List.pairwise_iff_getElem] at hnd2
    obtain ⟨hi, ei⟩ := List.getElem?_eq_some_iff.mp a1
    obtain ⟨hj, ej⟩ := List.getElem?_eq_some_iff.mp b1
    rcases Nat.lt_trichotomy i j with z | z | z
    · exact absurd (by rw [ei, ej]; exact e) (hnd2 i j hi hj z)
    · exact z
    · exact absurd (by rw [ei, ej]; exact e.symm) (hnd2 j i hj hi z)
  · obtain ⟨j, hj⟩ := hout hx
    exact hD.2 j x hj
theorem zh_H.nil {D : va_G} {cA : Nat → ClassId} {A : Nat → Prop} {ln : Nat → Nat} {I : Nat → Nat → Int32} {L : Nat → Nat → Int64} {R : Nat → Nat → Option Nat} {H : Heap} : zh_H D cA A (fun _ => 0) ln I L R H :=
  ⟨[], fun q => ⟨fun z => (by cases z), fun z => absurd rfl z⟩, fun k x hx => (by simp [va_pl] at hx), fun i j x y hx => (by simp [va_pl] at hx), fun k x hx => (by simp [va_pl] at hx)⟩
section ZR2
variable {p : Program} {l : Launch} {e : Env} {R0 : Room} {s : State} {m : MethodId} {args : Array Value} {below : List Frame} {meth : Method} {c : Code} {H : Heap} {locs : List Loc} {cells slots : Nat} {Q : State → Prop}
variable {cc : ByteArray} {pc : Nat} {ls : Array Slot} {rest st0 : List Value} {D : va_G} {cA : Nat → ClassId} {A : Nat → Prop} {a : Nat} {H0 : Heap} {kd ln : Nat → Nat} {I : Nat → Nat → Int32} {L : Nat → Nat → Int64} {R : Nat → Nat → Option Nat} {kd2 ln2 : Nat → Nat} {I2 : Nat → Nat → Int32} {L2 : Nat → Nat → Int64} {R2 : Nat → Nat → Option Nat}
theorem zr_back2 {mc ms : Nat} {av : Array Value} {post : zc_T} (hr : va_Run p l e R0 s m args below meth c H locs cells slots mc ms (F0 m pc ls st0) rest (zc_Qc D cA (zc_A kd H.size) post av) (zc_A kd H.size)) (hH : zh_H D cA A kd ln I L R H) (hH2 : zh_H D cA A kd2 ln2 I2 L2 R2 H) (hd : ∀ q, kd q = 0 ∨ kd2 q = 0) (hS : va_S A H0 H locs) (hA : ∀ q, H0.size ≤ q → A q)
    (kk : ∀ (v : Option Value) (kd' ln' : Nat → Nat) (I' : Nat → Nat → Int32) (L' : Nat → Nat → Int64) (R' : Nat → Nat → Option Nat) (H1 : Heap) (locs1 : List Loc), post v kd' ln' I' L' R' → zh_H D cA A kd' ln' I' L' R' H1 → zh_H D cA A kd2 ln2 I2 L2 R2 H1 → (∀ q, kd' q = 0 ∨ kd2 q = 0) → va_S A H0 H1 locs1 → W p l e R0 s m args below meth c H1 locs1 (cells + mc) (slots + ms) Q (F0 m (pc + 3) ls (v.toList ++ rest))) : W p l e R0 s m args below meth c H locs cells slots Q (F0 m (pc) ls (st0)) := by
  have hAA : ∀ q, zc_A kd H.size q → A q := fun q h => by
    rcases h with h | h
    · exact (hH.inA h).1
    · exact hA q (Nat.le_trans hS.1 h)
  intro T hT X
  obtain ⟨v, st₀, t, T', L0, h0, X', hL, e1, e2, ⟨⟨v', kd', ln', I', L', R', hv, hp, hB⟩, hz, hk⟩, st⟩ := hr T hT X
  cases hv
  rw [h0] at hz hk
  have hsame : ∀ q : Nat, q < H.size → kd q = 0 → T'.heap[q]? = H[q]? := fun q h1 h2 => by
    rw [e1]
    exact hk q h1 (fun z => by
      rcases z with z | z
      · exact z h2
      · omega)
  obtain ⟨t2, a1, b1⟩ := kk v kd' ln' I' L' R' T'.heap (locs ++ L0) hp (by rw [e1]; exact hB.weaken (fun q _ h => hAA q h))
    (hH2.kept (fun q hq => hsame q (hH2.inA hq).2 ((hd q).resolve_right hq)))
    (fun q => by
      by_cases z : kd' q = 0
      · exact Or.inl z
      · refine Or.inr ?_
        rcases (hB.inA z).1 with h | h
        · exact (hd q).resolve_left h
        · exact Decidable.byContradiction fun z2 => by
            have := (hH2.inA z2).2
            omega)
    ⟨Nat.le_trans hS.1 (by rw [e1]; exact hz), fun q h1 h2 => by rw [e1, hk q (Nat.lt_of_lt_of_le h1 hS.1) (fun z => h2 (hAA q z))]; exact hS.2.1 q h1 h2, fun q hq => by
      rcases List.mem_append.mp hq with h | h
      · exact hS.2.2 q h
      · exact hAA _ (hL q h)⟩ T' rfl X'
  exact ⟨t2, st t2 a1, b1⟩
theorem zr_V2 {y : MethodName} {bytes : ByteArray} {maxL nL mc ms n index : Nat} {ws : List Cond} {rm : Room} {Ts : List Cond} {own : String} {te mi : Nat} {As : List Value} {post : zc_T} {ret : Option FieldType} {b ci : Nat} {q : vw_C} (S : CallFix p m c cc nL s args Ts own) (hM : zc_M l y ws rm mc ms D cA te mi (.ref b :: As) kd ln I L R post) (cw : CallW R0 s args own q.1 index y bytes maxL ret ws rm mc ms n) (hSc : zh_S D cA mi s) (hE : zh_E te A s s.heap) (hH : zh_H D cA A kd ln I L R H) (hH2 : zh_H D cA A kd2 ln2 I2 L2 R2 H) (hd : ∀ q, kd q = 0 ∨ kd2 q = 0) (hS : va_S A s.heap H locs) (hA : ∀ q, s.heap.size ≤ q → A q) (hc : classes[ci]? = some q) (hci : ci < 99) (hkb : kd b = ci + 1) (hn : As.length = n) (hsize : ls.size = nL) (hst : st0 = As.reverse ++ .ref b :: rest) (hW : (rest.map fun v => v.category).sum ≤ 8) (hdg : decode cc pc = .ok (.invokevirtual index, 3)) (hf : cells + mc ≤ R0.cells ∧ slots + ms ≤ R0.slots)
    (kk : ∀ (v : Option Value) (kd' ln' : Nat → Nat) (I' : Nat → Nat → Int32) (L' : Nat → Nat → Int64) (R' : Nat → Nat → Option Nat) (H1 : Heap) (locs1 : List Loc), post v kd' ln' I' L' R' → zh_H D cA A kd' ln' I' L' R' H1 → zh_H D cA A kd2 ln2 I2 L2 R2 H1 → (∀ q, kd' q = 0 ∨ kd2 q = 0) → va_S A s.heap H1 locs1 → W p l e R0 s m args below meth c H1 locs1 (cells + mc) (slots + ms) Q (F0 m (pc + 3) ls (v.toList ++ rest))) : W p l e R0 s m args below meth c H locs cells slots Q (F0 m (pc) ls (st0)) := by
  subst hst
  exact zr_back2 (av := (.ref b :: As : List Value).toArray) (va_runV (As := As) (rest := rest) (g := F0 m pc ls (As.reverse ++ .ref b :: rest)) S (hM H.size) cw (zc_preV hSc hE hH hS hA hc hci hkb) rfl hn hsize rfl (lv_room hW) hdg hf) hH hH2 hd hS hA kk
theorem zr_In2 {y : MethodName} {bytes : ByteArray} {maxL nL mc ms n index : Nat} {ws : List Cond} {rm : Room} {Ts : List Cond} {own : String} {te mi : Nat} {As : List Value} {post : zc_T}  {b : Nat} (S : CallFix p m c cc nL s args Ts own) (hM : zc_M l y ws rm mc ms D cA te mi (.ref b :: As) kd ln I L R post) (cw : CallB R0 s args own index y bytes maxL none ws rm mc ms n ∧ y.name = "<init>" ∧ (Cond.instanceMethod y).before args s = true) (hSc : zh_S D cA mi s) (hE : zh_E te A s s.heap) (hH : zh_H D cA A kd ln I L R H) (hH2 : zh_H D cA A kd2 ln2 I2 L2 R2 H) (hd : ∀ q, kd q = 0 ∨ kd2 q = 0) (hS : va_S A s.heap H locs) (hA : ∀ q, s.heap.size ≤ q → A q)  (hn : As.length = n) (hsize : ls.size = nL) (hst : st0 = As.reverse ++ .ref b :: rest) (hW : (rest.map fun v => v.category).sum ≤ 8) (hdg : decode cc pc = .ok (.invokespecial index, 3)) (hf : cells + mc ≤ R0.cells ∧ slots + ms ≤ R0.slots)
    (kk : ∀ (v : Option Value) (kd' ln' : Nat → Nat) (I' : Nat → Nat → Int32) (L' : Nat → Nat → Int64) (R' : Nat → Nat → Option Nat) (H1 : Heap) (locs1 : List Loc), post v kd' ln' I' L' R' → zh_H D cA A kd' ln' I' L' R' H1 → zh_H D cA A kd2 ln2 I2 L2 R2 H1 → (∀ q, kd' q = 0 ∨ kd2 q = 0) → va_S A s.heap H1 locs1 → W p l e R0 s m args below meth c H1 locs1 (cells + mc) (slots + ms) Q (F0 m (pc + 3) ls (v.toList ++ rest))) : W p l e R0 s m args below meth c H locs cells slots Q (F0 m (pc) ls (st0)) := by
  subst hst
  exact zr_back2 (av := (.ref b :: As : List Value).toArray) (va_runI (As := As) (rest := rest) (g := F0 m pc ls (As.reverse ++ .ref b :: rest)) S (hM H.size) cw (zc_pre hSc hE hH hS hA) rfl hn hsize rfl (lv_room hW) hdg hf) hH hH2 hd hS hA kk
/-- both objects, related behind at most n calls -/
def zWd (s : State) (D : va_G) (cA : Nat → ClassId) (te X Y n : Nat) (H : Heap) (locs : List Loc) : Prop := ∃ (kd ln : Nat → Nat) (I : Nat → Nat → Int32) (L : Nat → Nat → Int64) (R : Nat → Nat → Option Nat) (kd' ln' : Nat → Nat) (I' : Nat → Nat → Int32) (L' : Nat → Nat → Int64) (R' : Nat → Nat → Option Nat) (a9 e9 ad : Nat → Nat) (c9 : Nat → Nat → Int32) (d9 : Nat → Nat → Int64) (g9 : Nat → Nat → Nat) (m9 : Nat → Nat → Int32) (q9 : Nat → Nat → Int64), va_S (fun q => s.heap.size ≤ q) s.heap H locs ∧ zh_H D cA (fun q => s.heap.size ≤ q) kd ln I L R H ∧ zh_H D cA (fun q => s.heap.size ≤ q) kd' ln' I' L' R' H ∧ (∀ q, kd q = 0 ∨ kd' q = 0) ∧ zkR X te a9 e9 c9 d9 g9 kd ln I L R ∧ zoR Y ad m9 q9 kd' ln' I' L' R' ∧ zS n c9 d9 g9 m9 q9
/-- the class has answered V, the reference's call is still due -/
def zWm (l : Launch) (s : State) (D : va_G) (cA : Nat → ClassId) (te mi X Y n : Nat) (y2 : MethodName) (w2 : List Cond) (rm2 : Room) (As : List Value) (V : Option Value) (H : Heap) (locs : List Loc) : Prop := ∃ (kd ln : Nat → Nat) (I : Nat → Nat → Int32) (L : Nat → Nat → Int64) (R : Nat → Nat → Option Nat) (kd' ln' : Nat → Nat) (I' : Nat → Nat → Int32) (L' : Nat → Nat → Int64) (R' : Nat → Nat → Option Nat) (a9 e9 ad : Nat → Nat) (c9 : Nat → Nat → Int32) (d9 : Nat → Nat → Int64) (g9 : Nat → Nat → Nat) (m9 : Nat → Nat → Int32) (q9 : Nat → Nat → Int64), va_S (fun q => s.heap.size ≤ q) s.heap H locs ∧ zh_H D cA (fun q => s.heap.size ≤ q) kd ln I L R H ∧ zh_H D cA (fun q => s.heap.size ≤ q) kd' ln' I' L' R' H ∧ (∀ q, kd q = 0 ∨ kd' q = 0) ∧ zkR X te a9 e9 c9 d9 g9 kd ln I L R ∧ kd' Y = 7 ∧ zS (n + 1) c9 d9 g9 m9 q9 ∧ zc_M l y2 w2 rm2 0 0 D cA te mi (.ref Y :: As) kd' ln' I' L' R' (zo_P V Y ad m9 q9 kd' ln' R')
theorem zWd.S {te X Y n : Nat} (h : zWd s D cA te X Y n H locs) : va_S (fun q => s.heap.size ≤ q) s.heap H locs := by
  obtain ⟨_, _, _, _, _, _, _, _, _, _, _, _, _, _, _, _, _, _, h, _⟩ := h
  exact h
theorem zWm.S {te mi X Y n : Nat} {y2 : MethodName} {w2 : List Cond} {rm2 : Room} {As : List Value} {V : Option Value} (h : zWm l s D cA te mi X Y n y2 w2 rm2 As V H locs) : va_S (fun q => s.heap.size ≤ q) s.heap H locs := by
  obtain ⟨_, _, _, _, _, _, _, _, _, _, _, _, _, _, _, _, _, _, h, _⟩ := h
  exact h
/-- a call of the class -/
theorem zr_1 {y : MethodName} {bytes : ByteArray} {maxL nL mc ms n index : Nat} {ws : List Cond} {rm : Room} {Ts : List Cond} {own : String} {te mi X Y k : Nat} {As : List Value} {ret : Option FieldType} {y2 : MethodName} {w2 : List Cond} {rm2 : Room} (P : Option Value → Prop) (S : CallFix p m c cc nL s args Ts own) (hw : zWd s D cA te X Y k H locs)
    (hl : ∀ (kd ln : Nat → Nat) (I : Nat → Nat → Int32) (L : Nat → Nat → Int64) (R : Nat → Nat → Option Nat) (kd' ln' : Nat → Nat) (I' : Nat → Nat → Int32) (L' : Nat → Nat → Int64) (R' : Nat → Nat → Option Nat) (a9 e9 ad : Nat → Nat) (c9 : Nat → Nat → Int32) (d9 : Nat → Nat → Int64) (g9 : Nat → Nat → Nat) (m9 : Nat → Nat → Int32) (q9 : Nat → Nat → Int64), zS k c9 d9 g9 m9 q9 → zkR X te a9 e9 c9 d9 g9 kd ln I L R → zoR Y ad m9 q9 kd' ln' I' L' R' → ∃ V, P V ∧ zLi l D cA te mi X Y ad k kd ln I L R kd' ln' I' L' R' y ws rm mc ms y2 w2 rm2 As V)
    (cw : CallW R0 s args own R_Rec index y bytes maxL ret ws rm mc ms n) (hSc : zh_S D cA mi s) (hE : zh_E te (fun q => s.heap.size ≤ q) s s.heap) (hn : As.length = n) (hsize : ls.size = nL) (hst : st0 = As.reverse ++ .ref X :: rest) (hW : (rest.map fun v => v.category).sum ≤ 8) (hdg : decode cc pc = .ok (.invokevirtual index, 3)) (hf : cells + mc ≤ R0.cells ∧ slots + ms ≤ R0.slots)
    (kk : ∀ (V : Option Value) (H1 : Heap) (locs1 : List Loc), P V → zWm l s D cA te mi X Y k y2 w2 rm2 As V H1 locs1 → W p l e R0 s m args below meth c H1 locs1 (cells + mc) (slots + ms) Q (F0 m (pc + 3) ls (V.toList ++ rest))) : W p l e R0 s m args below meth c H locs cells slots Q (F0 m (pc) ls (st0)) := by
  obtain ⟨kd, ln, I, L, R, kd', ln', I', L', R', a9, e9, ad, c9, d9, g9, m9, q9, hS, hH, hH2, hd, hk, ho, hz⟩ := hw
  obtain ⟨V, hP, c1, d1, g1, m1, q1, z1, z2, z3⟩ := hl kd ln I L R kd' ln' I' L' R' a9 e9 ad c9 d9 g9 m9 q9 hz hk ho
  refine zr_V2 (ci := 0) (q := (R_Rec, T_Rec, 6)) S z2 cw hSc hE hH hH2 hd hS (fun _ h => h) rfl (by decide) hk.2.2.1.1 hn hsize hst hW hdg hf (fun v kd1 ln1 I1 L1 R1 H1 locs1 hp h1 h2 h3 h4 => ?_)
  obtain ⟨rfl, a1, e1, hk1⟩ := hp
  exact kk V H1 locs1 hP ⟨kd1, ln1, I1, L1, R1, kd', ln', I', L', R', a1, e1, ad, c1, d1, g1, m1, q1, h4, h1, h2, h3, hk1, ho.1.1, z1, z3⟩
/-- the reference's call behind it -/
theorem zr_2 {bytes : ByteArray} {maxL nL n index : Nat} {Ts : List Cond} {own : String} {te mi X Y k : Nat} {As : List Value} {ret : Option FieldType} {y2 : MethodName} {w2 : List Cond} {rm2 : Room} {V : Option Value} (S : CallFix p m c cc nL s args Ts own) (hw : zWm l s D cA te mi X Y k y2 w2 rm2 As V H locs)
    (cw : CallW R0 s args own R_Mod index y2 bytes maxL ret w2 rm2 0 0 n) (hSc : zh_S D cA mi s) (hE : zh_E te (fun q => s.heap.size ≤ q) s s.heap) (hn : As.length = n) (hsize : ls.size = nL) (hst : st0 = As.reverse ++ .ref Y :: rest) (hW : (rest.map fun v => v.category).sum ≤ 8) (hdg : decode cc pc = .ok (.invokevirtual index, 3)) (hf : cells + 0 ≤ R0.cells ∧ slots + 0 ≤ R0.slots)
    (kk : ∀ (H1 : Heap) (locs1 : List Loc), zWd s D cA te X Y (k + 1) H1 locs1 → W p l e R0 s m args below meth c H1 locs1 (cells + 0) (slots + 0) Q (F0 m (pc + 3) ls (V.toList ++ rest))) : W p l e R0 s m args below meth c H locs cells slots Q (F0 m (pc) ls (st0)) := by
  obtain ⟨kd, ln, I, L, R, kd', ln', I', L', R', a9, e9, ad, c9, d9, g9, m9, q9, hS, hH, hH2, hd, hk, hy, hz, hM⟩ := hw
  refine zr_V2 (ci := 6) (q := (R_Mod, T_Mod, 37)) S hM cw hSc hE hH2 hH (fun q => (hd q).symm) hS (fun _ h => h) rfl (by decide) hy hn hsize hst hW hdg hf (fun v kd1 ln1 I1 L1 R1 H1 locs1 hp h1 h2 h3 h4 => ?_)
  obtain ⟨rfl, rfl, rfl, rfl, ho⟩ := hp
  exact kk H1 locs1 ⟨kd, ln, I, L, R, kd', ln', I1, L1, R', a9, e9, ad, c9, d9, g9, m9, q9, h4, h2, h1, fun q => (h3 q).symm, hk, ho, hz⟩
end ZR2
