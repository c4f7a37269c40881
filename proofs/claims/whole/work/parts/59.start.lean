theorem zst_of {w : Cond} {s : State} {a : Array Value} (h : ∀ w ∈ lw_tbl, w.before a s = true) (hw : w ∈ zw) : w.before a s = true := h w (List.mem_filter.mp hw).1
theorem zst_k {C : String} {T : u_T} {N : Nat} {s : State} {a : Array Value} (h : ∀ w ∈ lw_tbl, w.before a s = true) (hin : ∀ w ∈ u_ws C T N, w ∈ zw) (hi : (Cond.instantiable C N) ∈ zw) : ∃ (cC : ClassId) (iS : Nat → Nat), u_Kn s C T N cC iS := u_known (ws := zw) (fun w hw => zst_of h hw) hin (zst_of h hi)
theorem zst_p {ty : FieldType} {s : State} {a : Array Value} (hn : ∀ C, ty ≠ .object C) (h : (Cond.arrayClass ty).before a s = true) : ∃ cA : ClassId, ArrOfT s cA ty ∧ va_RA s cA ty := by
  obtain ⟨c, k, comp, h1, h2, h3⟩ := Cond.arrayClass_spec h
  refine ⟨c, fun n z => ⟨fun k h => (by cases h), k, h2, comp, h3⟩, ?_⟩
  cases ty with
  | object C => exact absurd rfl (hn C)
  | _ => exact h1
theorem zst_o {C : String} {s : State} {a : Array Value} (h : (Cond.arrayOver (.object C)).before a s = true) : ∃ cA : ClassId, ArrOfT s cA (.object C) ∧ va_RA s cA (.object C) := by
  obtain ⟨comp, c, k, h1, -, h3, h4, h5⟩ := Cond.arrayOver_spec h
  exact ⟨c, fun n z => ⟨fun k h => (by cases h), k, h3, comp, h4⟩, k, comp, h3, h4, h1, h5⟩
theorem zst_nw : ∀ w ∈ zh_nw, w ∈ lw_tbl ∧ w.onTables = true := by decide +kernel
theorem zst_ao : ∀ C ∈ zh_ao, (Cond.arrayOver (.object C)) ∈ lw_tbl := by decide +kernel
theorem zst_dc : (Cond.declares ⟨"java/lang/Object", "getClass", "()Ljava/lang/Class;"⟩) ∈ lw_tbl := by decide +kernel
theorem zst_ls : (Cond.laysStatic "java/util/ArrayList" "DEFAULTCAPACITY_EMPTY_ELEMENTDATA" "[Ljava/lang/Object;") ∈ lw_tbl ∧ (Cond.initialized "java/util/ArrayList") ∈ lw_tbl := by decide +kernel
/-- the world at the law's entry -/
theorem zst_S {s : State} {a : Array Value} (hts : ∀ w ∈ lw_tbl, w.before a s = true) (hgv : (Jvm.Cond.and given_1 narrow_1).before a s = true) : ∃ (D : va_G) (cA : Nat → ClassId) (te mi : Nat), zh_S D cA mi s ∧ zh_E te (fun q => s.heap.size ≤ q) s s.heap := by
  obtain ⟨c0, i0, k0⟩ := zst_k hts zin_Rec zw_18
  obtain ⟨c1, i1, k1⟩ := zst_k hts zin_Mem zw_26
  obtain ⟨c2, i2, k2⟩ := zst_k hts zin_St zw_92
  obtain ⟨c3, i3, k3⟩ := zst_k hts zin_Pk zw_253
  obtain ⟨c4, i4, k4⟩ := zst_k hts zin_Pb zw_367
  obtain ⟨c5, i5, k5⟩ := zst_k hts zin_AL zw_98
  obtain ⟨c6, i6, k6⟩ := zst_k hts zin_Mod zw_594
  obtain ⟨a0, r0⟩ := zst_p (ty := .int) (fun C z => by cases z) (zst_of hts zw_123)
  obtain ⟨a1, r1⟩ := zst_p (ty := .long) (fun C z => by cases z) (zst_of hts zw_58)
  obtain ⟨a2, r2⟩ := zst_p (ty := .byte) (fun C z => by cases z) (zst_of hts zw_83)
  obtain ⟨a3, r3⟩ := zst_p (ty := .boolean) (fun C z => by cases z) (zst_of hts zw_59)
  obtain ⟨a4, r4⟩ := zst_o (C := "java/lang/Object") (hts _ (zst_ao _ (by decide)))
  obtain ⟨a5, r5⟩ := zst_o (C := "ScrubbedRecorder$Store") (hts _ (zst_ao _ (by decide)))
  obtain ⟨a6, r6⟩ := zst_o (C := "ScrubbedRecorder$Playback") (hts _ (zst_ao _ (by decide)))
  have hs := flat_of_before _ hgv
  obtain ⟨mi, hmi⟩ := va_Mi.of (hs (Cond.isRef (.mirror "[Ljava/lang/Object;")) (by decide +kernel))
  have hA : ∀ q : Nat, q < s.heap.size → ¬ s.heap.size ≤ q := fun q h z => by omega
  obtain ⟨te, h1, h2⟩ := va_Tof (tm := .static "java/util/ArrayList" "DEFAULTCAPACITY_EMPTY_ELEMENTDATA" "[Ljava/lang/Object;") (ty := .object "java/lang/Object") (N := 0) (f := fun _ => .null) (A := fun q => s.heap.size ≤ q) (by decide) (hs _ (by decide +kernel)) (va_eqt (hs _ (by decide +kernel))) (fun j hj => by omega) hA
  refine ⟨(fun c => match c with | 0 => c0 | 1 => c1 | 2 => c2 | 3 => c3 | 4 => c4 | 5 => c5 | _ => c6, fun c => match c with | 0 => i0 | 1 => i1 | 2 => i2 | 3 => i3 | 4 => i4 | 5 => i5 | _ => i6), fun t => match t with | 0 => a0 | 1 => a1 | 2 => a2 | 3 => a3 | 4 => a4 | 5 => a5 | _ => a6, te, mi, ⟨⟨fun c q hq => ?_, fun k q hq => ?_⟩, fun w hw => va_Nw.of (zst_nw w hw).2 (hts w (zst_nw w hw).1), fun C hC => va_AO.of (hts _ (zst_ao C hC)), hmi, va_Dc.of (hts _ zst_dc)⟩, va_Zref (hts _ zst_ls.1) (hts _ zst_ls.2) h1 hA, h2⟩
  · rcases c with _ | _ | _ | _ | _ | _ | _ | c
    · cases hq; exact k0
    · cases hq; exact k1
    · cases hq; exact k2
    · cases hq; exact k3
    · cases hq; exact k4
    · cases hq; exact k5
    · cases hq; exact k6
    · exact absurd hq (by simp)
  · rcases k with _ | _ | _ | _ | _ | _ | _ | k
    · cases hq; exact r0
    · cases hq; exact r1
    · cases hq; exact r2
    · cases hq; exact r3
    · cases hq; exact r4
    · cases hq; exact r5
    · cases hq; exact r6
    · exact absurd hq (by simp [zh_tys, zh_nt])
