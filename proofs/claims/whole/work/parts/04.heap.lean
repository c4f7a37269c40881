/-! the heap as functions: kd (0: no cell of ours; ci + 1: an object of class ci; 100 + t: an array of kind t), ln (lengths of arrays), I, L, R (ints, longs, references, by address and place) -/
def zh_fv (I : Nat → Int32) (L : Nat → Int64) (R : Nat → Option Nat) (t k : Nat) : Value := match t with
  | 0 => .int (I k)
  | 1 => .long (L k)
  | _ => va_rf (R k)
def zh_fs (I : Nat → Int32) (L : Nat → Int64) (R : Nat → Option Nat) : Nat → List Nat → List Value
  | _, [] => []
  | k, t :: ts => zh_fv I L R t k :: zh_fs I L R (k + 1) ts
def zu {α : Type} (f : Nat → Nat → α) (a k : Nat) (x : α) : Nat → Nat → α := fun b => if b = a then va_up (f a) k x else f b
theorem zu_at {α : Type} (f : Nat → Nat → α) (a k : Nat) (x : α) : zu f a k x a = va_up (f a) k x := if_pos rfl
theorem zu_ne {α : Type} (f : Nat → Nat → α) {a b : Nat} (k : Nat) (x : α) (h : b ≠ a) : zu f a k x b = f b := if_neg h
theorem zu_self {α : Type} (f : Nat → Nat → α) (a k : Nat) (x : α) : zu f a k x a k = x := by rw [zu_at, va_up_self]
theorem zu_k {α : Type} (f : Nat → Nat → α) (a b : Nat) {k j : Nat} (x : α) (h : j ≠ k) : zu f a k x b j = f b j := by
  by_cases hb : b = a
  · subst hb
    rw [zu_at, va_up_ne _ _ h]
  · rw [zu_ne _ _ _ hb]
theorem zu_if {α : Type} (f : Nat → Nat → α) (a b k j : Nat) (x : α) : zu f a k x b j = if b = a ∧ j = k then x else f b j := by
  by_cases hb : b = a
  · subst hb
    rw [zu_at]
    by_cases hj : j = k
    · subst hj
      simp [va_up]
    · simp [va_up, hj]
  · simp [zu, hb]
theorem zh_fs_get (I : Nat → Int32) (L : Nat → Int64) (R : Nat → Option Nat) : ∀ (ts : List Nat) (k j : Nat), (zh_fs I L R k ts)[j]? = (ts[j]?).map (fun t => zh_fv I L R t (k + j))
  | [], _, _ => by simp [zh_fs]
  | t :: ts, k, 0 => by simp [zh_fs]
  | t :: ts, k, j + 1 => by
    have h := zh_fs_get I L R ts (k + 1) j
    rw [show k + 1 + j = k + (j + 1) by omega] at h
    simpa [zh_fs] using h
theorem zh_fs_len (I : Nat → Int32) (L : Nat → Int64) (R : Nat → Option Nat) : ∀ (ts : List Nat) (k : Nat), (zh_fs I L R k ts).length = ts.length
  | [], _ => rfl
  | t :: ts, k => by simp [zh_fs, zh_fs_len I L R ts (k + 1)]
theorem zh_fs_congr {I I' : Nat → Int32} {L L' : Nat → Int64} {R R' : Nat → Option Nat} : ∀ (ts : List Nat) (k : Nat), (∀ j, k ≤ j → I j = I' j ∧ L j = L' j ∧ R j = R' j) → zh_fs I L R k ts = zh_fs I' L' R' k ts
  | [], _, _ => rfl
  | t :: ts, k, h => by
    obtain ⟨h1, h2, h3⟩ := h k (Nat.le_refl k)
    have e : zh_fv I L R t k = zh_fv I' L' R' t k := by
      rcases t with _ | _ | t
      · show Value.int (I k) = Value.int (I' k)
        rw [h1]
      · show Value.long (L k) = Value.long (L' k)
        rw [h2]
      · show va_rf (R k) = va_rf (R' k)
        rw [h3]
    show zh_fv I L R t k :: zh_fs I L R (k + 1) ts = zh_fv I' L' R' t k :: zh_fs I' L' R' (k + 1) ts
    rw [e, zh_fs_congr ts (k + 1) (fun j hj => h j (by omega))]
theorem zh_fs_seti {I : Nat → Int32} {L : Nat → Int64} {R : Nat → Option Nat} {x : Int32} : ∀ (ts : List Nat) (k j : Nat), ts[j]? = some 0 → (zh_fs I L R k ts).set j (.int x) = zh_fs (va_up I (k + j) x) L R k ts
  | [], _, j, h => by simp at h
  | t :: ts, k, 0, h => by
    have ht : t = 0 := by simpa using h
    subst ht
    show (.int x) :: zh_fs I L R (k + 1) ts = zh_fv (va_up I k x) L R 0 k :: zh_fs (va_up I k x) L R (k + 1) ts
    have e : zh_fv (va_up I k x) L R 0 k = .int x := by
      show Value.int (va_up I k x k) = _
      rw [va_up_self]
    rw [e, zh_fs_congr (I' := va_up I k x) (L' := L) (R' := R) ts (k + 1) (fun j hj => ⟨(va_up_ne I x (show j ≠ k by omega)).symm, rfl, rfl⟩)]
  | t :: ts, k, j + 1, h => by
    have h' : ts[j]? = some 0 := by simpa using h
    have ih := zh_fs_seti (I := I) (L := L) (R := R) (x := x) ts (k + 1) j h'
    rw [show k + 1 + j = k + (j + 1) by omega] at ih
    show zh_fv I L R t k :: (zh_fs I L R (k + 1) ts).set j (.int x) = zh_fv (va_up I (k + (j + 1)) x) L R t k :: zh_fs (va_up I (k + (j + 1)) x) L R (k + 1) ts
    rw [ih]
    have e : zh_fv (va_up I (k + (j + 1)) x) L R t k = zh_fv I L R t k := by
      rcases t with _ | _ | t
      · show Value.int (va_up I (k + (j + 1)) x k) = Value.int (I k)
        rw [va_up_ne I x (show k ≠ k + (j + 1) by omega)]
      · show Value.long (L k) = Value.long (L k)
        rfl
      · show va_rf (R k) = va_rf (R k)
        rfl
    rw [e]
theorem zh_fs_setl {I : Nat → Int32} {L : Nat → Int64} {R : Nat → Option Nat} {x : Int64} : ∀ (ts : List Nat) (k j : Nat), ts[j]? = some 1 → (zh_fs I L R k ts).set j (.long x) = zh_fs I (va_up L (k + j) x) R k ts
  | [], _, j, h => by simp at h
  | t :: ts, k, 0, h => by
    have ht : t = 1 := by simpa using h
    subst ht
    show (.long x) :: zh_fs I L R (k + 1) ts = zh_fv I (va_up L k x) R 1 k :: zh_fs I (va_up L k x) R (k + 1) ts
    have e : zh_fv I (va_up L k x) R 1 k = .long x := by
      show Value.long (va_up L k x k) = _
      rw [va_up_self]
    rw [e, zh_fs_congr (I' := I) (L' := va_up L k x) (R' := R) ts (k + 1) (fun j hj => ⟨rfl, (va_up_ne L x (show j ≠ k by omega)).symm, rfl⟩)]
  | t :: ts, k, j + 1, h => by
    have h' : ts[j]? = some 1 := by simpa using h
    have ih := zh_fs_setl (I := I) (L := L) (R := R) (x := x) ts (k + 1) j h'
    rw [show k + 1 + j = k + (j + 1) by omega] at ih
    show zh_fv I L R t k :: (zh_fs I L R (k + 1) ts).set j (.long x) = zh_fv I (va_up L (k + (j + 1)) x) R t k :: zh_fs I (va_up L (k + (j + 1)) x) R (k + 1) ts
    rw [ih]
    have e : zh_fv I (va_up L (k + (j + 1)) x) R t k = zh_fv I L R t k := by
      rcases t with _ | _ | t
      · show Value.int (I k) = Value.int (I k)
        rfl
      · show Value.long (va_up L (k + (j + 1)) x k) = Value.long (L k)
        rw [va_up_ne L x (show k ≠ k + (j + 1) by omega)]
      · show va_rf (R k) = va_rf (R k)
        rfl
    rw [e]
theorem zh_fs_setr {I : Nat → Int32} {L : Nat → Int64} {R : Nat → Option Nat} {x : Option Nat} : ∀ (ts : List Nat) (k j : Nat), ts[j]? = some 2 → (zh_fs I L R k ts).set j (va_rf x) = zh_fs I L (va_up R (k + j) x) k ts
  | [], _, j, h => by simp at h
  | t :: ts, k, 0, h => by
    have ht : t = 2 := by simpa using h
    subst ht
    show (va_rf x) :: zh_fs I L R (k + 1) ts = zh_fv I L (va_up R k x) 2 k :: zh_fs I L (va_up R k x) (k + 1) ts
    have e : zh_fv I L (va_up R k x) 2 k = va_rf x := by
      show va_rf (va_up R k x k) = _
      rw [va_up_self]
    rw [e, zh_fs_congr (I' := I) (L' := L) (R' := va_up R k x) ts (k + 1) (fun j hj => ⟨rfl, rfl, (va_up_ne R x (show j ≠ k by omega)).symm⟩)]
  | t :: ts, k, j + 1, h => by
    have h' : ts[j]? = some 2 := by simpa using h
    have ih := zh_fs_setr (I := I) (L := L) (R := R) (x := x) ts (k + 1) j h'
    rw [show k + 1 + j = k + (j + 1) by omega] at ih
    show zh_fv I L R t k :: (zh_fs I L R (k + 1) ts).set j (va_rf x) = zh_fv I L (va_up R (k + (j + 1)) x) t k :: zh_fs I L (va_up R (k + (j + 1)) x) (k + 1) ts
    rw [ih]
    have e : zh_fv I L (va_up R (k + (j + 1)) x) t k = zh_fv I L R t k := by
      rcases t with _ | _ | t
      · show Value.int (I k) = Value.int (I k)
        rfl
      · show Value.long (L k) = Value.long (L k)
        rfl
      · show va_rf (va_up R (k + (j + 1)) x k) = va_rf (R k)
        rw [va_up_ne R x (show k ≠ k + (j + 1) by omega)]
    rw [e]
def zh_ac (t : Nat) (I : Nat → Int32) (L : Nat → Int64) (R : Nat → Option Nat) : (Nat → Int32) ⊕ (Nat → Int64) ⊕ (Nat → UInt32) ⊕ (Nat → UInt64) ⊕ (Nat → Option Nat) := match t with
  | 0 => .inl I
  | 1 => .inr (.inl L)
  | 2 => .inl I
  | 3 => .inl I
  | _ => .inr (.inr (.inr (.inr R)))
def zh_en (cA : Nat → ClassId) (kd ln : Nat → Nat) (I : Nat → Nat → Int32) (L : Nat → Nat → Int64) (R : Nat → Nat → Option Nat) (q : Nat) : va_E :=
  if kd q < 100 then .inr (kd q - 1, zh_fs (I q) (L q) (R q) 0 (zh_lay (kd q - 1))) else .inl (cA (kd q - 100), ln q, zh_ac (kd q - 100) (I q) (L q) (R q))
theorem zh_en_o {cA : Nat → ClassId} {kd ln : Nat → Nat} {I : Nat → Nat → Int32} {L : Nat → Nat → Int64} {R : Nat → Nat → Option Nat} {q ci : Nat} (h : kd q = ci + 1) (hc : ci < 99) : zh_en cA kd ln I L R q = .inr (ci, zh_fs (I q) (L q) (R q) 0 (zh_lay ci)) := by
  unfold zh_en
  rw [if_pos (by omega), h, Nat.add_sub_cancel]
theorem zh_en_a {cA : Nat → ClassId} {kd ln : Nat → Nat} {I : Nat → Nat → Int32} {L : Nat → Nat → Int64} {R : Nat → Nat → Option Nat} {q t : Nat} (h : kd q = 100 + t) : zh_en cA kd ln I L R q = .inl (cA t, ln q, zh_ac t (I q) (L q) (R q)) := by
  unfold zh_en
  rw [if_neg (by omega), h, Nat.add_sub_cancel_left]
theorem zh_en_eq {cA : Nat → ClassId} {kd ln : Nat → Nat} {I : Nat → Nat → Int32} {L : Nat → Nat → Int64} {R : Nat → Nat → Option Nat} {kd' ln' : Nat → Nat} {I' : Nat → Nat → Int32} {L' : Nat → Nat → Int64} {R' : Nat → Nat → Option Nat} {q : Nat} (h1 : kd' q = kd q) (h2 : ln' q = ln q) (h3 : I' q = I q) (h4 : L' q = L q) (h5 : R' q = R q) : zh_en cA kd' ln' I' L' R' q = zh_en cA kd ln I L R q := by
  unfold zh_en
  rw [h1, h2, h3, h4, h5]
/-- the array kinds with their element types -/
def zh_tys (cA : Nat → ClassId) : List (ClassId × FieldType) := (List.range zh_nt).map (fun t => (cA t, zh_aty t))
theorem zh_ty {cA : Nat → ClassId} {t : Nat} (h : t < zh_nt) : (zh_tys cA)[t]? = some (cA t, zh_aty t) := by
  unfold zh_tys
  rw [List.getElem?_map, List.getElem?_range h]
  rfl
def zh_H (D : va_G) (cA : Nat → ClassId) (A : Nat → Prop) (kd ln : Nat → Nat) (I : Nat → Nat → Int32) (L : Nat → Nat → Int64) (R : Nat → Nat → Option Nat) (H : Heap) : Prop :=
  ∃ Ls : List Nat, (∀ q, q ∈ Ls ↔ kd q ≠ 0) ∧ va_P D classes (va_pl Ls (zh_en cA kd ln I L R)) H ∧ va_D A (va_pl Ls (zh_en cA kd ln I L R))
theorem zh_H.out {D : va_G} {cA : Nat → ClassId} {A : Nat → Prop} {kd ln : Nat → Nat} {I : Nat → Nat → Int32} {L : Nat → Nat → Int64} {R : Nat → Nat → Option Nat} {H : Heap} (h : zh_H D cA A kd ln I L R H) {q : Nat} (hq : kd q ≠ 0) :
    ∃ (ws : va_W) (j : Nat), va_P D classes ws H ∧ va_D A ws ∧ ws[j]? = some (q, zh_en cA kd ln I L R q) ∧
      ∀ (kd' ln' : Nat → Nat) (I' : Nat → Nat → Int32) (L' : Nat → Nat → Int64) (R' : Nat → Nat → Option Nat) (H1 : Heap), (∀ b, kd' b = kd b) → (∀ b, b ≠ q → zh_en cA kd' ln' I' L' R' b = zh_en cA kd ln I L R b) →
        va_P D classes (ws.set j (q, zh_en cA kd' ln' I' L' R' q)) H1 → va_D A (ws.set j (q, zh_en cA kd' ln' I' L' R' q)) → zh_H D cA A kd' ln' I' L' R' H1 := by
  obtain ⟨Ls, hL, hP, hD⟩ := h
  have hm := (hL q).mpr hq
  obtain ⟨j, hj⟩ := va_pl_get (X := []) (f := zh_en cA kd ln I L R) hm
  refine ⟨va_pl Ls (zh_en cA kd ln I L R), j, hP, hD, hj, fun kd' ln' I' L' R' H1 hk hb hP1 hD1 => ?_⟩
  have e : (va_pl Ls (zh_en cA kd ln I L R)).set j (q, zh_en cA kd' ln' I' L' R' q) = va_pl Ls (zh_en cA kd' ln' I' L' R') := by
    refine (va_pl_set (X := []) (e := zh_en cA kd' ln' I' L' R' q) hD hm hj).trans (va_pl_congr fun b => ?_)
    by_cases hbq : b = q
    · subst hbq
      exact va_up_self _ _ _
    · rw [va_up_ne _ _ hbq, hb b hbq]
  rw [e] at hP1 hD1
  exact ⟨Ls, fun b => by rw [hk b]; exact hL b, hP1, hD1⟩
theorem zh_H.grow {D : va_G} {cA : Nat → ClassId} {A : Nat → Prop} {kd ln : Nat → Nat} {I : Nat → Nat → Int32} {L : Nat → Nat → Int64} {R : Nat → Nat → Option Nat} {H : Heap} (h : zh_H D cA A kd ln I L R H) :
    ∃ ws : va_W, va_P D classes ws H ∧ va_D A ws ∧ ∀ (q : Nat) (e : va_E) (H1 : Heap), va_P D classes (ws ++ [(q, e)]) H1 → va_D A (ws ++ [(q, e)]) → kd q = 0 ∧
      ∀ (kd' ln' : Nat → Nat) (I' : Nat → Nat → Int32) (L' : Nat → Nat → Int64) (R' : Nat → Nat → Option Nat), kd' q ≠ 0 → zh_en cA kd' ln' I' L' R' q = e → (∀ b, b ≠ q → kd' b = kd b ∧ zh_en cA kd' ln' I' L' R' b = zh_en cA kd ln I L R b) → zh_H D cA A kd' ln' I' L' R' H1 := by
  obtain ⟨Ls, hL, hP, hD⟩ := h
  refine ⟨va_pl Ls (zh_en cA kd ln I L R), hP, hD, fun q e H1 hP1 hD1 => ?_⟩
  have hf : q ∉ Ls := va_pl_fresh2 (X := []) hD1
  refine ⟨Decidable.byContradiction fun h => hf ((hL q).mpr h), fun kd' ln' I' L' R' h1 h2 h3 => ?_⟩
  have e1 : va_pl Ls (zh_en cA kd ln I L R) ++ [(q, e)] = va_pl (Ls ++ [q]) (zh_en cA kd' ln' I' L' R') := by
    refine (va_pl_push hf).trans (va_pl_congr fun b => ?_)
    by_cases hb : b = q
    · subst hb
      rw [va_up_self, h2]
    · rw [va_up_ne _ _ hb, (h3 b hb).2]
  rw [e1] at hP1 hD1
  refine ⟨Ls ++ [q], fun b => ?_, hP1, hD1⟩
  by_cases hb : b = q
  · subst hb
    simp [h1]
  · rw [(h3 b hb).1, ← hL b]
    simp [hb]
theorem zh_H.weaken {D : va_G} {cA : Nat → ClassId} {A B : Nat → Prop} {kd ln : Nat → Nat} {I : Nat → Nat → Int32} {L : Nat → Nat → Int64} {R : Nat → Nat → Option Nat} {H : Heap} (h : zh_H D cA A kd ln I L R H) (hAB : ∀ q, kd q ≠ 0 → A q → B q) : zh_H D cA B kd ln I L R H := by
  obtain ⟨Ls, hL, hP, hD⟩ := h
  refine ⟨Ls, hL, hP, hD.weaken (fun k x hx hA => hAB x.1 ?_ hA)⟩
  obtain ⟨b, hb, e⟩ := List.mem_map.mp (List.mem_of_getElem? hx)
  rw [← e]
  exact (hL b).mp hb
theorem zh_H.inA {D : va_G} {cA : Nat → ClassId} {A : Nat → Prop} {kd ln : Nat → Nat} {I : Nat → Nat → Int32} {L : Nat → Nat → Int64} {R : Nat → Nat → Option Nat} {H : Heap} (h : zh_H D cA A kd ln I L R H) {q : Nat} (hq : kd q ≠ 0) : A q ∧ q < H.size := by
  obtain ⟨ws, j, hP, hD, hj, -⟩ := h.out hq
  exact ⟨hD.2 j _ hj, (hP j _ hj).lt⟩
theorem zh_H.kept {D : va_G} {cA : Nat → ClassId} {A : Nat → Prop} {kd ln : Nat → Nat} {I : Nat → Nat → Int32} {L : Nat → Nat → Int64} {R : Nat → Nat → Option Nat} {H H1 : Heap} (h : zh_H D cA A kd ln I L R H) (hq : ∀ q, kd q ≠ 0 → H1[q]? = H[q]?) : zh_H D cA A kd ln I L R H1 := by
  obtain ⟨Ls, hL, hP, hD⟩ := h
  refine ⟨Ls, hL, hP.kept (fun k x hx => ?_), hD⟩
  obtain ⟨b, hb, e⟩ := List.mem_map.mp (List.mem_of_getElem? hx)
  rw [← e]
  exact hq b ((hL b).mp hb)
/-- which cells a method may change -/
def zc_A (kd : Nat → Nat) (sz : Nat) : Nat → Prop := fun q => kd q ≠ 0 ∨ sz ≤ q
/-- what the tables say: classes, array kinds, words across the nest -/
def zh_S (D : va_G) (cA : Nat → ClassId) (mi : Nat) (U : State) : Prop := va_K D classes (zh_tys cA) U ∧ (∀ w ∈ zh_nw, va_Nw w U) ∧ (∀ C ∈ zh_ao, va_AO C U) ∧ va_Mi "[Ljava/lang/Object;" mi U ∧ va_Dc U
/-- ArrayList's static empty array, at te: nobody writes it -/
def zh_E (te : Nat) (A : Nat → Prop) (U : State) (H : Heap) : Prop := va_Z "java/util/ArrayList" "DEFAULTCAPACITY_EMPTY_ELEMENTDATA" "[Ljava/lang/Object;" (.ref te) A U H ∧ va_T (.object "java/lang/Object") te 0 (fun _ => .null) A U H
theorem zh_E.moved {te : Nat} {A : Nat → Prop} {u U : State} {H : Heap} (hvm : u.vm.Alike U.vm) (h : zh_E te A u H) : zh_E te A U H := ⟨va_Z.moved hvm h.1, va_T.moved hvm h.2⟩
theorem zh_E.kept {te : Nat} {A : Nat → Prop} {U : State} {H H1 : Heap} (h : zh_E te A U H) (hq : ∀ a : Nat, a < H.size → ¬ A a → H1[a]? = H[a]?) : zh_E te A U H1 := ⟨h.1.kept hq, h.2.kept hq⟩
theorem zh_E.narrow {te : Nat} {A B : Nat → Prop} {U : State} {H : Heap} (h : zh_E te A U H) (hAB : ∀ q, B q → A q) : zh_E te B U H := ⟨h.1.narrow hAB, h.2.narrow hAB⟩
def zh_ok : Cond → Bool
  | .fieldLinkNest .. => true
  | .methodLinkNest .. => true
  | .castable .. => true
  | _ => false
theorem zh_nwok : ∀ w ∈ zh_nw, zh_ok w = true := by decide +kernel
theorem zh_warm1 {w : Cond} {s U : State} (hw : zh_ok w = true) (hW : s.WarmedH U.vm) (h : va_Nw w s) : va_Nw w U := by
  cases w <;> first | (simp [zh_ok] at hw; done) | exact va_Nw.warmF hW h | exact va_Nw.warmM hW h | exact va_Nw.warmC hW h
theorem zh_S.warm {D : va_G} {cA : Nat → ClassId} {mi : Nat} {s U : State} (hW : s.WarmedH U.vm) (h : zh_S D cA mi s) : zh_S D cA mi U :=
  ⟨va_K.moved hW.alike h.1, fun w hw => zh_warm1 (zh_nwok w hw) hW (h.2.1 w hw), fun C hC => va_AO.moved hW.alike (h.2.2.1 C hC), va_Mi.moved hW.alike h.2.2.2.1, va_Dc.moved hW.alike h.2.2.2.2⟩
theorem zh_S.same {D : va_G} {cA : Nat → ClassId} {mi : Nat} {u U : State} (hv : u.vm = U.vm) (h : zh_S D cA mi u) : zh_S D cA mi U := by
  have hal : u.vm.Alike U.vm := by
    rw [hv]
    exact Vm.Alike.refl _
  refine ⟨va_K.moved hal h.1, fun w hw => ?_, fun C hC => va_AO.moved hal (h.2.2.1 C hC), va_Mi.moved hal h.2.2.2.1, va_Dc.moved hal h.2.2.2.2⟩
  have h1 := h.2.1 w hw
  have h2 := zh_nwok w hw
  cases w <;> first | (simp [zh_ok] at h2; done) | exact va_Nw.same rfl hv h1
/-- a contract: the heap at the start, the answer and the heap at the end -/
def zc_Pc (D : va_G) (cA : Nat → ClassId) (te mi : Nat) (av : List Value) (kd ln : Nat → Nat) (I : Nat → Nat → Int32) (L : Nat → Nat → Int64) (R : Nat → Nat → Option Nat) (sz : Nat) : Array Value → State → Prop := va_Pc av (fun U => U.heap.size = sz ∧ zh_S D cA mi U ∧ zh_E te (zc_A kd sz) U U.heap ∧ zh_H D cA (fun _ => True) kd ln I L R U.heap)
abbrev zc_T : Type := Option Value → (Nat → Nat) → (Nat → Nat) → (Nat → Nat → Int32) → (Nat → Nat → Int64) → (Nat → Nat → Option Nat) → Prop
def zc_Qc (D : va_G) (cA : Nat → ClassId) (A : Nat → Prop) (post : zc_T) : Array Value → State → Outcome → State → Prop := fun _ st oc t =>
  (∃ (v : Option Value) (kd' ln' : Nat → Nat) (I' : Nat → Nat → Int32) (L' : Nat → Nat → Int64) (R' : Nat → Nat → Option Nat), oc = .returned v ∧ post v kd' ln' I' L' R' ∧ zh_H D cA A kd' ln' I' L' R' t.heap) ∧ va_F A st t
def zc_M (l : Launch) (y : MethodName) (ws : List Cond) (rm : Room) (mc ms : Nat) (D : va_G) (cA : Nat → ClassId) (te mi : Nat) (av : List Value) (kd ln : Nat → Nat) (I : Nat → Nat → Int32) (L : Nat → Nat → Int64) (R : Nat → Nat → Option Nat) (post : zc_T) : Prop :=
  ∀ sz : Nat, Met l y ws rm (zc_Pc D cA te mi av kd ln I L R sz) (zc_Qc D cA (zc_A kd sz) post) mc ms (zc_A kd sz)
theorem zc_blind {D : va_G} {cA : Nat → ClassId} {te mi : Nat} {av : List Value} {kd ln : Nat → Nat} {I : Nat → Nat → Int32} {L : Nat → Nat → Int64} {R : Nat → Nat → Option Nat} {sz : Nat} : FrameBlind (zc_Pc D cA te mi av kd ln I L R sz) := by
  intro a U g mk q
  obtain ⟨q0, q1, q2, q3, q4⟩ := q
  exact ⟨q0, q1, zh_S.same (u := U) (U := U.calling g mk a) rfl q2, zh_E.moved (u := U) (U := U.calling g mk a) (Vm.Alike.refl U.vm) q3, q4⟩
section ZR
variable {p : Program} {l : Launch} {e : Env} {R0 : Room} {s : State} {m : MethodId} {args : Array Value} {below : List Frame} {meth : Method} {c : Code} {H : Heap} {locs : List Loc} {cells slots : Nat} {Q : State → Prop}
variable {cc : ByteArray} {pc : Nat} {ls : Array Slot} {rest st0 : List Value} {D : va_G} {cA : Nat → ClassId} {A : Nat → Prop} {a : Nat} {H0 : Heap} {kd ln : Nat → Nat} {I : Nat → Nat → Int32} {L : Nat → Nat → Int64} {R : Nat → Nat → Option Nat}
theorem zh_recv {ci b : Nat} {q : vw_C} (hK : va_K D classes (zh_tys cA) s) (hH : zh_H D cA A kd ln I L R H) (hc : classes[ci]? = some q) (hci : ci < 99) (hk : kd b = ci + 1) : ∃ cell : Cell, H[b]? = some cell ∧ cell.vm.isStatics = false ∧ s.vm.findClass q.1 = some cell.cls := by
  obtain ⟨ws, j, hP, hD, hj, -⟩ := hH.out (show kd b ≠ 0 by omega)
  rw [zh_en_o hk hci] at hj
  exact va_recv hK hP hc hj
theorem zr_geti (hexec : p.tables.exec = Jvm.exec) (hb : c.code = cc) {own ref C : String} {T : u_T} {N ci index : Nat} {Ts : List Cond} (hts : ∀ w ∈ Ts, w.before args s = true) (hin : ∀ w ∈ u_ws C T N, w ∈ Ts) (hown : s.vm.findClass own = some m.cls) (hK : va_K D classes (zh_tys cA) s) (hH : zh_H D cA A kd ln I L R H) (hkd : kd a = ci + 1) (hci : ci < 99) (hc : classes[ci]? = some (C, T, N)) (k : Nat) (hk : k < N) (hlay : (zh_lay ci)[k]? = some 0) (hlink : (Cond.fieldLink own index ref (T k).2.1 (T k).2.2.1).before args s = true) (hsame : ∀ x, s.fieldFound? (T k).1 (T k).2.1 (T k).2.2.1 = some x → s.fieldFound? ref (T k).2.1 (T k).2.2.1 = some x) (hdg : decode cc pc = .ok (.getfield index, 3))
    (kk : W p l e R0 s m args below meth c H locs cells slots Q (F0 m (pc + 3) ls (.int (I a k) :: rest))) : W p l e R0 s m args below meth c H locs cells slots Q (F0 m (pc) ls (.ref a :: rest)) := by
  obtain ⟨ws, j, hP, hD, hj, -⟩ := hH.out (show kd a ≠ 0 by omega)
  rw [zh_en_o hkd hci] at hj
  refine va_get (v := .int (I a k)) hexec hb hts hin hown hK hP j hj hc k hk hlink hsame ?_ hdg kk
  rw [zh_fs_get, hlay, Nat.zero_add]
  rfl
theorem zr_getl (hexec : p.tables.exec = Jvm.exec) (hb : c.code = cc) {own ref C : String} {T : u_T} {N ci index : Nat} {Ts : List Cond} (hts : ∀ w ∈ Ts, w.before args s = true) (hin : ∀ w ∈ u_ws C T N, w ∈ Ts) (hown : s.vm.findClass own = some m.cls) (hK : va_K D classes (zh_tys cA) s) (hH : zh_H D cA A kd ln I L R H) (hkd : kd a = ci + 1) (hci : ci < 99) (hc : classes[ci]? = some (C, T, N)) (k : Nat) (hk : k < N) (hlay : (zh_lay ci)[k]? = some 1) (hlink : (Cond.fieldLink own index ref (T k).2.1 (T k).2.2.1).before args s = true) (hsame : ∀ x, s.fieldFound? (T k).1 (T k).2.1 (T k).2.2.1 = some x → s.fieldFound? ref (T k).2.1 (T k).2.2.1 = some x) (hdg : decode cc pc = .ok (.getfield index, 3))
    (kk : W p l e R0 s m args below meth c H locs cells slots Q (F0 m (pc + 3) ls (.long (L a k) :: rest))) : W p l e R0 s m args below meth c H locs cells slots Q (F0 m (pc) ls (.ref a :: rest)) := by
  obtain ⟨ws, j, hP, hD, hj, -⟩ := hH.out (show kd a ≠ 0 by omega)
  rw [zh_en_o hkd hci] at hj
  refine va_get (v := .long (L a k)) hexec hb hts hin hown hK hP j hj hc k hk hlink hsame ?_ hdg kk
  rw [zh_fs_get, hlay, Nat.zero_add]
  rfl
theorem zr_getq (hexec : p.tables.exec = Jvm.exec) (hb : c.code = cc) {own ref C : String} {T : u_T} {N ci index : Nat} {Ts : List Cond} (hts : ∀ w ∈ Ts, w.before args s = true) (hin : ∀ w ∈ u_ws C T N, w ∈ Ts) (hown : s.vm.findClass own = some m.cls) (hK : va_K D classes (zh_tys cA) s) (hH : zh_H D cA A kd ln I L R H) (hkd : kd a = ci + 1) (hci : ci < 99) (hc : classes[ci]? = some (C, T, N)) (k : Nat) (hk : k < N) (hlay : (zh_lay ci)[k]? = some 2) (hlink : (Cond.fieldLink own index ref (T k).2.1 (T k).2.2.1).before args s = true) (hsame : ∀ x, s.fieldFound? (T k).1 (T k).2.1 (T k).2.2.1 = some x → s.fieldFound? ref (T k).2.1 (T k).2.2.1 = some x) (hdg : decode cc pc = .ok (.getfield index, 3))
    (kk : W p l e R0 s m args below meth c H locs cells slots Q (F0 m (pc + 3) ls (va_rf (R a k) :: rest))) : W p l e R0 s m args below meth c H locs cells slots Q (F0 m (pc) ls (.ref a :: rest)) := by
  obtain ⟨ws, j, hP, hD, hj, -⟩ := hH.out (show kd a ≠ 0 by omega)
  rw [zh_en_o hkd hci] at hj
  refine va_get (v := va_rf (R a k)) hexec hb hts hin hown hK hP j hj hc k hk hlink hsame ?_ hdg kk
  rw [zh_fs_get, hlay, Nat.zero_add]
  rfl
theorem zr_getr (hexec : p.tables.exec = Jvm.exec) (hb : c.code = cc) {own ref C : String} {T : u_T} {N ci index : Nat} {Ts : List Cond} (hts : ∀ w ∈ Ts, w.before args s = true) (hin : ∀ w ∈ u_ws C T N, w ∈ Ts) (hown : s.vm.findClass own = some m.cls) (hK : va_K D classes (zh_tys cA) s) (hH : zh_H D cA A kd ln I L R H) (hkd : kd a = ci + 1) (hci : ci < 99) (hc : classes[ci]? = some (C, T, N)) (k : Nat) (hk : k < N) (hlay : (zh_lay ci)[k]? = some 2) (hlink : (Cond.fieldLink own index ref (T k).2.1 (T k).2.2.1).before args s = true) (hsame : ∀ x, s.fieldFound? (T k).1 (T k).2.1 (T k).2.2.1 = some x → s.fieldFound? ref (T k).2.1 (T k).2.2.1 = some x) (hdg : decode cc pc = .ok (.getfield index, 3)) {b : Nat} (hr : R a k = some b)
    (kk : W p l e R0 s m args below meth c H locs cells slots Q (F0 m (pc + 3) ls (.ref b :: rest))) : W p l e R0 s m args below meth c H locs cells slots Q (F0 m (pc) ls (.ref a :: rest)) := by
  refine zr_getq hexec hb hts hin hown hK hH hkd hci hc k hk hlay hlink hsame hdg ?_
  rw [hr]
  exact kk
theorem zr_puti (hexec : p.tables.exec = Jvm.exec) (hb : c.code = cc) {own ref C : String} {T : u_T} {N ci index : Nat} {Ts : List Cond} (hts : ∀ w ∈ Ts, w.before args s = true) (hin : ∀ w ∈ u_ws C T N, w ∈ Ts) (ty0 : Nat → FieldType) (hty : ∀ k, k < N → parseFieldDescriptor (T k).2.2.1 = some (ty0 k)) (hnm : ∀ a, a < N → ∀ b, b < N → a ≠ b → (T a).2.1 ≠ (T b).2.1) (hown : s.vm.findClass own = some m.cls) (hK : va_K D classes (zh_tys cA) s) (hH : zh_H D cA A kd ln I L R H) (hS0 : va_S A H0 H locs) (hkd : kd a = ci + 1) (hci : ci < 99) (hc : classes[ci]? = some (C, T, N)) (k : Nat) (hk : k < N) (hlay : (zh_lay ci)[k]? = some 0) (hlink : (Cond.fieldLink own index ref (T k).2.1 (T k).2.2.1).before args s = true) (hsame : ∀ x, s.fieldFound? (T k).1 (T k).2.1 (T k).2.2.1 = some x → s.fieldFound? ref (T k).2.1 (T k).2.2.1 = some x) (hfin : (T k).2.2.2 = false) {ty : FieldType} {x : Int32} (hd : parseFieldDescriptor (T k).2.2.1 = some ty) (hn : narrow ty (.int x) = .int x) (hfit : fits ty (.int x) = true) (hdg : decode cc pc = .ok (.putfield index, 3))
    (kk : ∀ (H1 : Heap) (locs1 : List Loc), zh_H D cA A kd ln (zu I a k x) L R H1 → va_S A H0 H1 locs1 → W p l e R0 s m args below meth c H1 locs1 cells slots Q (F0 m (pc + 3) ls (rest))) : W p l e R0 s m args below meth c H locs cells slots Q (F0 m (pc) ls (.int x :: .ref a :: rest)) := by
  obtain ⟨ws, j, hP, hD, hj, back⟩ := hH.out (show kd a ≠ 0 by omega)
  have hj2 := hj
  rw [zh_en_o hkd hci] at hj2
  refine va_put (v := .int x) hexec hb hts hin ty0 hty hnm hown hK hP hD hS0 j hj2 hc k hk hlink hsame hfin hd hn hfit ?_ hdg fun H1 locs1 hP1 hD1 hS1 => ?_
  · rw [zh_fs_len]
    exact (List.getElem?_eq_some_iff.mp hlay).1
  · have e1 : zh_en cA kd ln (zu I a k x) L R a = .inr (ci, (zh_fs (I a) (L a) (R a) 0 (zh_lay ci)).set k (.int x)) := by
      rw [zh_en_o hkd hci, zu_at, zh_fs_seti (zh_lay ci) 0 k hlay, Nat.zero_add]
    refine kk H1 locs1 (back kd ln (zu I a k x) L R H1 (fun _ => rfl) (fun b hb1 => zh_en_eq rfl rfl (zu_ne _ _ _ hb1) rfl rfl) ?_ ?_) hS1
    · rw [e1]
      exact hP1
    · rw [e1]
      exact hD1
theorem zr_putl (hexec : p.tables.exec = Jvm.exec) (hb : c.code = cc) {own ref C : String} {T : u_T} {N ci index : Nat} {Ts : List Cond} (hts : ∀ w ∈ Ts, w.before args s = true) (hin : ∀ w ∈ u_ws C T N, w ∈ Ts) (ty0 : Nat → FieldType) (hty : ∀ k, k < N → parseFieldDescriptor (T k).2.2.1 = some (ty0 k)) (hnm : ∀ a, a < N → ∀ b, b < N → a ≠ b → (T a).2.1 ≠ (T b).2.1) (hown : s.vm.findClass own = some m.cls) (hK : va_K D classes (zh_tys cA) s) (hH : zh_H D cA A kd ln I L R H) (hS0 : va_S A H0 H locs) (hkd : kd a = ci + 1) (hci : ci < 99) (hc : classes[ci]? = some (C, T, N)) (k : Nat) (hk : k < N) (hlay : (zh_lay ci)[k]? = some 1) (hlink : (Cond.fieldLink own index ref (T k).2.1 (T k).2.2.1).before args s = true) (hsame : ∀ x, s.fieldFound? (T k).1 (T k).2.1 (T k).2.2.1 = some x → s.fieldFound? ref (T k).2.1 (T k).2.2.1 = some x) (hfin : (T k).2.2.2 = false) {ty : FieldType} {x : Int64} (hd : parseFieldDescriptor (T k).2.2.1 = some ty) (hn : narrow ty (.long x) = .long x) (hfit : fits ty (.long x) = true) (hdg : decode cc pc = .ok (.putfield index, 3))
    (kk : ∀ (H1 : Heap) (locs1 : List Loc), zh_H D cA A kd ln I (zu L a k x) R H1 → va_S A H0 H1 locs1 → W p l e R0 s m args below meth c H1 locs1 cells slots Q (F0 m (pc + 3) ls (rest))) : W p l e R0 s m args below meth c H locs cells slots Q (F0 m (pc) ls (.long x :: .ref a :: rest)) := by
  obtain ⟨ws, j, hP, hD, hj, back⟩ := hH.out (show kd a ≠ 0 by omega)
  have hj2 := hj
  rw [zh_en_o hkd hci] at hj2
  refine va_put (v := .long x) hexec hb hts hin ty0 hty hnm hown hK hP hD hS0 j hj2 hc k hk hlink hsame hfin hd hn hfit ?_ hdg fun H1 locs1 hP1 hD1 hS1 => ?_
  · rw [zh_fs_len]
    exact (List.getElem?_eq_some_iff.mp hlay).1
  · have e1 : zh_en cA kd ln I (zu L a k x) R a = .inr (ci, (zh_fs (I a) (L a) (R a) 0 (zh_lay ci)).set k (.long x)) := by
      rw [zh_en_o hkd hci, zu_at, zh_fs_setl (zh_lay ci) 0 k hlay, Nat.zero_add]
    refine kk H1 locs1 (back kd ln I (zu L a k x) R H1 (fun _ => rfl) (fun b hb1 => zh_en_eq rfl rfl rfl (zu_ne _ _ _ hb1) rfl) ?_ ?_) hS1
    · rw [e1]
      exact hP1
    · rw [e1]
      exact hD1
theorem zr_putq (hexec : p.tables.exec = Jvm.exec) (hb : c.code = cc) {own ref C : String} {T : u_T} {N ci index : Nat} {Ts : List Cond} (hts : ∀ w ∈ Ts, w.before args s = true) (hin : ∀ w ∈ u_ws C T N, w ∈ Ts) (ty0 : Nat → FieldType) (hty : ∀ k, k < N → parseFieldDescriptor (T k).2.2.1 = some (ty0 k)) (hnm : ∀ a, a < N → ∀ b, b < N → a ≠ b → (T a).2.1 ≠ (T b).2.1) (hown : s.vm.findClass own = some m.cls) (hK : va_K D classes (zh_tys cA) s) (hH : zh_H D cA A kd ln I L R H) (hS0 : va_S A H0 H locs) (hkd : kd a = ci + 1) (hci : ci < 99) (hc : classes[ci]? = some (C, T, N)) (k : Nat) (hk : k < N) (hlay : (zh_lay ci)[k]? = some 2) (hlink : (Cond.fieldLink own index ref (T k).2.1 (T k).2.2.1).before args s = true) (hsame : ∀ x, s.fieldFound? (T k).1 (T k).2.1 (T k).2.2.1 = some x → s.fieldFound? ref (T k).2.1 (T k).2.2.1 = some x) (hfin : (T k).2.2.2 = false) {ty : FieldType} {x : Option Nat} (hd : parseFieldDescriptor (T k).2.2.1 = some ty) (hn : narrow ty (va_rf x) = va_rf x) (hfit : fits ty (va_rf x) = true) (hdg : decode cc pc = .ok (.putfield index, 3))
    (kk : ∀ (H1 : Heap) (locs1 : List Loc), zh_H D cA A kd ln I L (zu R a k x) H1 → va_S A H0 H1 locs1 → W p l e R0 s m args below meth c H1 locs1 cells slots Q (F0 m (pc + 3) ls (rest))) : W p l e R0 s m args below meth c H locs cells slots Q (F0 m (pc) ls (va_rf x :: .ref a :: rest)) := by
  obtain ⟨ws, j, hP, hD, hj, back⟩ := hH.out (show kd a ≠ 0 by omega)
  have hj2 := hj
  rw [zh_en_o hkd hci] at hj2
  refine va_put (v := va_rf x) hexec hb hts hin ty0 hty hnm hown hK hP hD hS0 j hj2 hc k hk hlink hsame hfin hd hn hfit ?_ hdg fun H1 locs1 hP1 hD1 hS1 => ?_
  · rw [zh_fs_len]
    exact (List.getElem?_eq_some_iff.mp hlay).1
  · have e1 : zh_en cA kd ln I L (zu R a k x) a = .inr (ci, (zh_fs (I a) (L a) (R a) 0 (zh_lay ci)).set k (va_rf x)) := by
      rw [zh_en_o hkd hci, zu_at, zh_fs_setr (zh_lay ci) 0 k hlay, Nat.zero_add]
    refine kk H1 locs1 (back kd ln I L (zu R a k x) H1 (fun _ => rfl) (fun b hb1 => zh_en_eq rfl rfl rfl rfl (zu_ne _ _ _ hb1)) ?_ ?_) hS1
    · rw [e1]
      exact hP1
    · rw [e1]
      exact hD1
theorem zr_putFi (hexec : p.tables.exec = Jvm.exec) (hb : c.code = cc) {own ref C : String} {T : u_T} {N ci index : Nat} {Ts : List Cond} (hts : ∀ w ∈ Ts, w.before args s = true) (hin : ∀ w ∈ u_ws C T N, w ∈ Ts) (ty0 : Nat → FieldType) (hty : ∀ k, k < N → parseFieldDescriptor (T k).2.2.1 = some (ty0 k)) (hnm : ∀ a, a < N → ∀ b, b < N → a ≠ b → (T a).2.1 ≠ (T b).2.1) (hown : s.vm.findClass own = some m.cls) (hK : va_K D classes (zh_tys cA) s) (hH : zh_H D cA A kd ln I L R H) (hS0 : va_S A H0 H locs) (hkd : kd a = ci + 1) (hci : ci < 99) (hc : classes[ci]? = some (C, T, N)) (k : Nat) (hk : k < N) (hlay : (zh_lay ci)[k]? = some 0) (hlink : (Cond.fieldLink own index ref (T k).2.1 (T k).2.2.1).before args s = true) (hsame : ∀ x, s.fieldFound? (T k).1 (T k).2.1 (T k).2.2.1 = some x → s.fieldFound? ref (T k).2.1 (T k).2.2.1 = some x) (hfin : (T k).2.2.2 = true) (hin2 : meth.name = "<init>") (hdecl : (T k).1 = own) {ty : FieldType} {x : Int32} (hd : parseFieldDescriptor (T k).2.2.1 = some ty) (hn : narrow ty (.int x) = .int x) (hfit : fits ty (.int x) = true) (hdg : decode cc pc = .ok (.putfield index, 3))
    (kk : ∀ (H1 : Heap) (locs1 : List Loc), zh_H D cA A kd ln (zu I a k x) L R H1 → va_S A H0 H1 locs1 → W p l e R0 s m args below meth c H1 locs1 cells slots Q (F0 m (pc + 3) ls (rest))) : W p l e R0 s m args below meth c H locs cells slots Q (F0 m (pc) ls (.int x :: .ref a :: rest)) := by
  obtain ⟨ws, j, hP, hD, hj, back⟩ := hH.out (show kd a ≠ 0 by omega)
  have hj2 := hj
  rw [zh_en_o hkd hci] at hj2
  refine va_putF (v := .int x) hexec hb hts hin ty0 hty hnm hown hK hP hD hS0 j hj2 hc k hk hlink hsame hfin hin2 hdecl hd hn hfit ?_ hdg fun H1 locs1 hP1 hD1 hS1 => ?_
  · rw [zh_fs_len]
    exact (List.getElem?_eq_some_iff.mp hlay).1
  · have e1 : zh_en cA kd ln (zu I a k x) L R a = .inr (ci, (zh_fs (I a) (L a) (R a) 0 (zh_lay ci)).set k (.int x)) := by
      rw [zh_en_o hkd hci, zu_at, zh_fs_seti (zh_lay ci) 0 k hlay, Nat.zero_add]
    refine kk H1 locs1 (back kd ln (zu I a k x) L R H1 (fun _ => rfl) (fun b hb1 => zh_en_eq rfl rfl (zu_ne _ _ _ hb1) rfl rfl) ?_ ?_) hS1
    · rw [e1]
      exact hP1
    · rw [e1]
      exact hD1
theorem zr_putFl (hexec : p.tables.exec = Jvm.exec) (hb : c.code = cc) {own ref C : String} {T : u_T} {N ci index : Nat} {Ts : List Cond} (hts : ∀ w ∈ Ts, w.before args s = true) (hin : ∀ w ∈ u_ws C T N, w ∈ Ts) (ty0 : Nat → FieldType) (hty : ∀ k, k < N → parseFieldDescriptor (T k).2.2.1 = some (ty0 k)) (hnm : ∀ a, a < N → ∀ b, b < N → a ≠ b → (T a).2.1 ≠ (T b).2.1) (hown : s.vm.findClass own = some m.cls) (hK : va_K D classes (zh_tys cA) s) (hH : zh_H D cA A kd ln I L R H) (hS0 : va_S A H0 H locs) (hkd : kd a = ci + 1) (hci : ci < 99) (hc : classes[ci]? = some (C, T, N)) (k : Nat) (hk : k < N) (hlay : (zh_lay ci)[k]? = some 1) (hlink : (Cond.fieldLink own index ref (T k).2.1 (T k).2.2.1).before args s = true) (hsame : ∀ x, s.fieldFound? (T k).1 (T k).2.1 (T k).2.2.1 = some x → s.fieldFound? ref (T k).2.1 (T k).2.2.1 = some x) (hfin : (T k).2.2.2 = true) (hin2 : meth.name = "<init>") (hdecl : (T k).1 = own) {ty : FieldType} {x : Int64} (hd : parseFieldDescriptor (T k).2.2.1 = some ty) (hn : narrow ty (.long x) = .long x) (hfit : fits ty (.long x) = true) (hdg : decode cc pc = .ok (.putfield index, 3))
    (kk : ∀ (H1 : Heap) (locs1 : List Loc), zh_H D cA A kd ln I (zu L a k x) R H1 → va_S A H0 H1 locs1 → W p l e R0 s m args below meth c H1 locs1 cells slots Q (F0 m (pc + 3) ls (rest))) : W p l e R0 s m args below meth c H locs cells slots Q (F0 m (pc) ls (.long x :: .ref a :: rest)) := by
  obtain ⟨ws, j, hP, hD, hj, back⟩ := hH.out (show kd a ≠ 0 by omega)
  have hj2 := hj
  rw [zh_en_o hkd hci] at hj2
  refine va_putF (v := .long x) hexec hb hts hin ty0 hty hnm hown hK hP hD hS0 j hj2 hc k hk hlink hsame hfin hin2 hdecl hd hn hfit ?_ hdg fun H1 locs1 hP1 hD1 hS1 => ?_
  · rw [zh_fs_len]
    exact (List.getElem?_eq_some_iff.mp hlay).1
  · have e1 : zh_en cA kd ln I (zu L a k x) R a = .inr (ci, (zh_fs (I a) (L a) (R a) 0 (zh_lay ci)).set k (.long x)) := by
      rw [zh_en_o hkd hci, zu_at, zh_fs_setl (zh_lay ci) 0 k hlay, Nat.zero_add]
    refine kk H1 locs1 (back kd ln I (zu L a k x) R H1 (fun _ => rfl) (fun b hb1 => zh_en_eq rfl rfl rfl (zu_ne _ _ _ hb1) rfl) ?_ ?_) hS1
    · rw [e1]
      exact hP1
    · rw [e1]
      exact hD1
theorem zr_putFq (hexec : p.tables.exec = Jvm.exec) (hb : c.code = cc) {own ref C : String} {T : u_T} {N ci index : Nat} {Ts : List Cond} (hts : ∀ w ∈ Ts, w.before args s = true) (hin : ∀ w ∈ u_ws C T N, w ∈ Ts) (ty0 : Nat → FieldType) (hty : ∀ k, k < N → parseFieldDescriptor (T k).2.2.1 = some (ty0 k)) (hnm : ∀ a, a < N → ∀ b, b < N → a ≠ b → (T a).2.1 ≠ (T b).2.1) (hown : s.vm.findClass own = some m.cls) (hK : va_K D classes (zh_tys cA) s) (hH : zh_H D cA A kd ln I L R H) (hS0 : va_S A H0 H locs) (hkd : kd a = ci + 1) (hci : ci < 99) (hc : classes[ci]? = some (C, T, N)) (k : Nat) (hk : k < N) (hlay : (zh_lay ci)[k]? = some 2) (hlink : (Cond.fieldLink own index ref (T k).2.1 (T k).2.2.1).before args s = true) (hsame : ∀ x, s.fieldFound? (T k).1 (T k).2.1 (T k).2.2.1 = some x → s.fieldFound? ref (T k).2.1 (T k).2.2.1 = some x) (hfin : (T k).2.2.2 = true) (hin2 : meth.name = "<init>") (hdecl : (T k).1 = own) {ty : FieldType} {x : Option Nat} (hd : parseFieldDescriptor (T k).2.2.1 = some ty) (hn : narrow ty (va_rf x) = va_rf x) (hfit : fits ty (va_rf x) = true) (hdg : decode cc pc = .ok (.putfield index, 3))
    (kk : ∀ (H1 : Heap) (locs1 : List Loc), zh_H D cA A kd ln I L (zu R a k x) H1 → va_S A H0 H1 locs1 → W p l e R0 s m args below meth c H1 locs1 cells slots Q (F0 m (pc + 3) ls (rest))) : W p l e R0 s m args below meth c H locs cells slots Q (F0 m (pc) ls (va_rf x :: .ref a :: rest)) := by
  obtain ⟨ws, j, hP, hD, hj, back⟩ := hH.out (show kd a ≠ 0 by omega)
  have hj2 := hj
  rw [zh_en_o hkd hci] at hj2
  refine va_putF (v := va_rf x) hexec hb hts hin ty0 hty hnm hown hK hP hD hS0 j hj2 hc k hk hlink hsame hfin hin2 hdecl hd hn hfit ?_ hdg fun H1 locs1 hP1 hD1 hS1 => ?_
  · rw [zh_fs_len]
    exact (List.getElem?_eq_some_iff.mp hlay).1
  · have e1 : zh_en cA kd ln I L (zu R a k x) a = .inr (ci, (zh_fs (I a) (L a) (R a) 0 (zh_lay ci)).set k (va_rf x)) := by
      rw [zh_en_o hkd hci, zu_at, zh_fs_setr (zh_lay ci) 0 k hlay, Nat.zero_add]
    refine kk H1 locs1 (back kd ln I L (zu R a k x) H1 (fun _ => rfl) (fun b hb1 => zh_en_eq rfl rfl rfl rfl (zu_ne _ _ _ hb1)) ?_ ?_) hS1
    · rw [e1]
      exact hP1
    · rw [e1]
      exact hD1
theorem zr_getNi (hexec : p.tables.exec = Jvm.exec) (hb : c.code = cc) {own ref C host : String} {T : u_T} {N ci index : Nat} {Ts : List Cond} (hts : ∀ w ∈ Ts, w.before args s = true) (hin : ∀ w ∈ u_ws C T N, w ∈ Ts) (hown : s.vm.findClass own = some m.cls) (hK : va_K D classes (zh_tys cA) s) (hH : zh_H D cA A kd ln I L R H) (hkd : kd a = ci + 1) (hci : ci < 99) (hc : classes[ci]? = some (C, T, N)) (k : Nat) (hk : k < N) (hlay : (zh_lay ci)[k]? = some 0) (hlink : (Cond.fieldLinkNest own index ref (T k).2.1 (T k).2.2.1 host).before args s = true) (hsame : ∀ x, s.fieldFound? (T k).1 (T k).2.1 (T k).2.2.1 = some x → s.fieldFound? ref (T k).2.1 (T k).2.2.1 = some x) (hdg : decode cc pc = .ok (.getfield index, 3))
    (kk : W p l e R0 s m args below meth c H locs cells slots Q (F0 m (pc + 3) ls (.int (I a k) :: rest))) : W p l e R0 s m args below meth c H locs cells slots Q (F0 m (pc) ls (.ref a :: rest)) := by
  obtain ⟨ws, j, hP, hD, hj, -⟩ := hH.out (show kd a ≠ 0 by omega)
  rw [zh_en_o hkd hci] at hj
  refine va_getN (v := .int (I a k)) hexec hb hts hin hown hK hP j hj hc k hk hlink hsame ?_ hdg kk
  rw [zh_fs_get, hlay, Nat.zero_add]
  rfl
theorem zr_getNl (hexec : p.tables.exec = Jvm.exec) (hb : c.code = cc) {own ref C host : String} {T : u_T} {N ci index : Nat} {Ts : List Cond} (hts : ∀ w ∈ Ts, w.before args s = true) (hin : ∀ w ∈ u_ws C T N, w ∈ Ts) (hown : s.vm.findClass own = some m.cls) (hK : va_K D classes (zh_tys cA) s) (hH : zh_H D cA A kd ln I L R H) (hkd : kd a = ci + 1) (hci : ci < 99) (hc : classes[ci]? = some (C, T, N)) (k : Nat) (hk : k < N) (hlay : (zh_lay ci)[k]? = some 1) (hlink : (Cond.fieldLinkNest own index ref (T k).2.1 (T k).2.2.1 host).before args s = true) (hsame : ∀ x, s.fieldFound? (T k).1 (T k).2.1 (T k).2.2.1 = some x → s.fieldFound? ref (T k).2.1 (T k).2.2.1 = some x) (hdg : decode cc pc = .ok (.getfield index, 3))
    (kk : W p l e R0 s m args below meth c H locs cells slots Q (F0 m (pc + 3) ls (.long (L a k) :: rest))) : W p l e R0 s m args below meth c H locs cells slots Q (F0 m (pc) ls (.ref a :: rest)) := by
  obtain ⟨ws, j, hP, hD, hj, -⟩ := hH.out (show kd a ≠ 0 by omega)
  rw [zh_en_o hkd hci] at hj
  refine va_getN (v := .long (L a k)) hexec hb hts hin hown hK hP j hj hc k hk hlink hsame ?_ hdg kk
  rw [zh_fs_get, hlay, Nat.zero_add]
  rfl
theorem zr_getNq (hexec : p.tables.exec = Jvm.exec) (hb : c.code = cc) {own ref C host : String} {T : u_T} {N ci index : Nat} {Ts : List Cond} (hts : ∀ w ∈ Ts, w.before args s = true) (hin : ∀ w ∈ u_ws C T N, w ∈ Ts) (hown : s.vm.findClass own = some m.cls) (hK : va_K D classes (zh_tys cA) s) (hH : zh_H D cA A kd ln I L R H) (hkd : kd a = ci + 1) (hci : ci < 99) (hc : classes[ci]? = some (C, T, N)) (k : Nat) (hk : k < N) (hlay : (zh_lay ci)[k]? = some 2) (hlink : (Cond.fieldLinkNest own index ref (T k).2.1 (T k).2.2.1 host).before args s = true) (hsame : ∀ x, s.fieldFound? (T k).1 (T k).2.1 (T k).2.2.1 = some x → s.fieldFound? ref (T k).2.1 (T k).2.2.1 = some x) (hdg : decode cc pc = .ok (.getfield index, 3))
    (kk : W p l e R0 s m args below meth c H locs cells slots Q (F0 m (pc + 3) ls (va_rf (R a k) :: rest))) : W p l e R0 s m args below meth c H locs cells slots Q (F0 m (pc) ls (.ref a :: rest)) := by
  obtain ⟨ws, j, hP, hD, hj, -⟩ := hH.out (show kd a ≠ 0 by omega)
  rw [zh_en_o hkd hci] at hj
  refine va_getN (v := va_rf (R a k)) hexec hb hts hin hown hK hP j hj hc k hk hlink hsame ?_ hdg kk
  rw [zh_fs_get, hlay, Nat.zero_add]
  rfl
theorem zr_getNr (hexec : p.tables.exec = Jvm.exec) (hb : c.code = cc) {own ref C host : String} {T : u_T} {N ci index : Nat} {Ts : List Cond} (hts : ∀ w ∈ Ts, w.before args s = true) (hin : ∀ w ∈ u_ws C T N, w ∈ Ts) (hown : s.vm.findClass own = some m.cls) (hK : va_K D classes (zh_tys cA) s) (hH : zh_H D cA A kd ln I L R H) (hkd : kd a = ci + 1) (hci : ci < 99) (hc : classes[ci]? = some (C, T, N)) (k : Nat) (hk : k < N) (hlay : (zh_lay ci)[k]? = some 2) (hlink : (Cond.fieldLinkNest own index ref (T k).2.1 (T k).2.2.1 host).before args s = true) (hsame : ∀ x, s.fieldFound? (T k).1 (T k).2.1 (T k).2.2.1 = some x → s.fieldFound? ref (T k).2.1 (T k).2.2.1 = some x) (hdg : decode cc pc = .ok (.getfield index, 3)) {b : Nat} (hr : R a k = some b)
    (kk : W p l e R0 s m args below meth c H locs cells slots Q (F0 m (pc + 3) ls (.ref b :: rest))) : W p l e R0 s m args below meth c H locs cells slots Q (F0 m (pc) ls (.ref a :: rest)) := by
  refine zr_getNq hexec hb hts hin hown hK hH hkd hci hc k hk hlay hlink hsame hdg ?_
  rw [hr]
  exact kk
theorem zr_putNi (hexec : p.tables.exec = Jvm.exec) (hb : c.code = cc) {own ref C host : String} {T : u_T} {N ci index : Nat} {Ts : List Cond} (hts : ∀ w ∈ Ts, w.before args s = true) (hin : ∀ w ∈ u_ws C T N, w ∈ Ts) (ty0 : Nat → FieldType) (hty : ∀ k, k < N → parseFieldDescriptor (T k).2.2.1 = some (ty0 k)) (hnm : ∀ a, a < N → ∀ b, b < N → a ≠ b → (T a).2.1 ≠ (T b).2.1) (hown : s.vm.findClass own = some m.cls) (hK : va_K D classes (zh_tys cA) s) (hH : zh_H D cA A kd ln I L R H) (hS0 : va_S A H0 H locs) (hkd : kd a = ci + 1) (hci : ci < 99) (hc : classes[ci]? = some (C, T, N)) (k : Nat) (hk : k < N) (hlay : (zh_lay ci)[k]? = some 0) (hlink : (Cond.fieldLinkNest own index ref (T k).2.1 (T k).2.2.1 host).before args s = true) (hsame : ∀ x, s.fieldFound? (T k).1 (T k).2.1 (T k).2.2.1 = some x → s.fieldFound? ref (T k).2.1 (T k).2.2.1 = some x) (hfin : (T k).2.2.2 = false) {ty : FieldType} {x : Int32} (hd : parseFieldDescriptor (T k).2.2.1 = some ty) (hn : narrow ty (.int x) = .int x) (hfit : fits ty (.int x) = true) (hdg : decode cc pc = .ok (.putfield index, 3))
    (kk : ∀ (H1 : Heap) (locs1 : List Loc), zh_H D cA A kd ln (zu I a k x) L R H1 → va_S A H0 H1 locs1 → W p l e R0 s m args below meth c H1 locs1 cells slots Q (F0 m (pc + 3) ls (rest))) : W p l e R0 s m args below meth c H locs cells slots Q (F0 m (pc) ls (.int x :: .ref a :: rest)) := by
  obtain ⟨ws, j, hP, hD, hj, back⟩ := hH.out (show kd a ≠ 0 by omega)
  have hj2 := hj
  rw [zh_en_o hkd hci] at hj2
  refine va_putN (v := .int x) hexec hb hts hin ty0 hty hnm hown hK hP hD hS0 j hj2 hc k hk hlink hsame hfin hd hn hfit ?_ hdg fun H1 locs1 hP1 hD1 hS1 => ?_
  · rw [zh_fs_len]
    exact (List.getElem?_eq_some_iff.mp hlay).1
  · have e1 : zh_en cA kd ln (zu I a k x) L R a = .inr (ci, (zh_fs (I a) (L a) (R a) 0 (zh_lay ci)).set k (.int x)) := by
      rw [zh_en_o hkd hci, zu_at, zh_fs_seti (zh_lay ci) 0 k hlay, Nat.zero_add]
    refine kk H1 locs1 (back kd ln (zu I a k x) L R H1 (fun _ => rfl) (fun b hb1 => zh_en_eq rfl rfl (zu_ne _ _ _ hb1) rfl rfl) ?_ ?_) hS1
    · rw [e1]
      exact hP1
    · rw [e1]
      exact hD1
theorem zr_putNl (hexec : p.tables.exec = Jvm.exec) (hb : c.code = cc) {own ref C host : String} {T : u_T} {N ci index : Nat} {Ts : List Cond} (hts : ∀ w ∈ Ts, w.before args s = true) (hin : ∀ w ∈ u_ws C T N, w ∈ Ts) (ty0 : Nat → FieldType) (hty : ∀ k, k < N → parseFieldDescriptor (T k).2.2.1 = some (ty0 k)) (hnm : ∀ a, a < N → ∀ b, b < N → a ≠ b → (T a).2.1 ≠ (T b).2.1) (hown : s.vm.findClass own = some m.cls) (hK : va_K D classes (zh_tys cA) s) (hH : zh_H D cA A kd ln I L R H) (hS0 : va_S A H0 H locs) (hkd : kd a = ci + 1) (hci : ci < 99) (hc : classes[ci]? = some (C, T, N)) (k : Nat) (hk : k < N) (hlay : (zh_lay ci)[k]? = some 1) (hlink : (Cond.fieldLinkNest own index ref (T k).2.1 (T k).2.2.1 host).before args s = true) (hsame : ∀ x, s.fieldFound? (T k).1 (T k).2.1 (T k).2.2.1 = some x → s.fieldFound? ref (T k).2.1 (T k).2.2.1 = some x) (hfin : (T k).2.2.2 = false) {ty : FieldType} {x : Int64} (hd : parseFieldDescriptor (T k).2.2.1 = some ty) (hn : narrow ty (.long x) = .long x) (hfit : fits ty (.long x) = true) (hdg : decode cc pc = .ok (.putfield index, 3))
    (kk : ∀ (H1 : Heap) (locs1 : List Loc), zh_H D cA A kd ln I (zu L a k x) R H1 → va_S A H0 H1 locs1 → W p l e R0 s m args below meth c H1 locs1 cells slots Q (F0 m (pc + 3) ls (rest))) : W p l e R0 s m args below meth c H locs cells slots Q (F0 m (pc) ls (.long x :: .ref a :: rest)) := by
  obtain ⟨ws, j, hP, hD, hj, back⟩ := hH.out (show kd a ≠ 0 by omega)
  have hj2 := hj
  rw [zh_en_o hkd hci] at hj2
  refine va_putN (v := .long x) hexec hb hts hin ty0 hty hnm hown hK hP hD hS0 j hj2 hc k hk hlink hsame hfin hd hn hfit ?_ hdg fun H1 locs1 hP1 hD1 hS1 => ?_
  · rw [zh_fs_len]
    exact (List.getElem?_eq_some_iff.mp hlay).1
  · have e1 : zh_en cA kd ln I (zu L a k x) R a = .inr (ci, (zh_fs (I a) (L a) (R a) 0 (zh_lay ci)).set k (.long x)) := by
      rw [zh_en_o hkd hci, zu_at, zh_fs_setl (zh_lay ci) 0 k hlay, Nat.zero_add]
    refine kk H1 locs1 (back kd ln I (zu L a k x) R H1 (fun _ => rfl) (fun b hb1 => zh_en_eq rfl rfl rfl (zu_ne _ _ _ hb1) rfl) ?_ ?_) hS1
    · rw [e1]
      exact hP1
    · rw [e1]
      exact hD1
theorem zr_putNq (hexec : p.tables.exec = Jvm.exec) (hb : c.code = cc) {own ref C host : String} {T : u_T} {N ci index : Nat} {Ts : List Cond} (hts : ∀ w ∈ Ts, w.before args s = true) (hin : ∀ w ∈ u_ws C T N, w ∈ Ts) (ty0 : Nat → FieldType) (hty : ∀ k, k < N → parseFieldDescriptor (T k).2.2.1 = some (ty0 k)) (hnm : ∀ a, a < N → ∀ b, b < N → a ≠ b → (T a).2.1 ≠ (T b).2.1) (hown : s.vm.findClass own = some m.cls) (hK : va_K D classes (zh_tys cA) s) (hH : zh_H D cA A kd ln I L R H) (hS0 : va_S A H0 H locs) (hkd : kd a = ci + 1) (hci : ci < 99) (hc : classes[ci]? = some (C, T, N)) (k : Nat) (hk : k < N) (hlay : (zh_lay ci)[k]? = some 2) (hlink : (Cond.fieldLinkNest own index ref (T k).2.1 (T k).2.2.1 host).before args s = true) (hsame : ∀ x, s.fieldFound? (T k).1 (T k).2.1 (T k).2.2.1 = some x → s.fieldFound? ref (T k).2.1 (T k).2.2.1 = some x) (hfin : (T k).2.2.2 = false) {ty : FieldType} {x : Option Nat} (hd : parseFieldDescriptor (T k).2.2.1 = some ty) (hn : narrow ty (va_rf x) = va_rf x) (hfit : fits ty (va_rf x) = true) (hdg : decode cc pc = .ok (.putfield index, 3))
    (kk : ∀ (H1 : Heap) (locs1 : List Loc), zh_H D cA A kd ln I L (zu R a k x) H1 → va_S A H0 H1 locs1 → W p l e R0 s m args below meth c H1 locs1 cells slots Q (F0 m (pc + 3) ls (rest))) : W p l e R0 s m args below meth c H locs cells slots Q (F0 m (pc) ls (va_rf x :: .ref a :: rest)) := by
  obtain ⟨ws, j, hP, hD, hj, back⟩ := hH.out (show kd a ≠ 0 by omega)
  have hj2 := hj
  rw [zh_en_o hkd hci] at hj2
  refine va_putN (v := va_rf x) hexec hb hts hin ty0 hty hnm hown hK hP hD hS0 j hj2 hc k hk hlink hsame hfin hd hn hfit ?_ hdg fun H1 locs1 hP1 hD1 hS1 => ?_
  · rw [zh_fs_len]
    exact (List.getElem?_eq_some_iff.mp hlay).1
  · have e1 : zh_en cA kd ln I L (zu R a k x) a = .inr (ci, (zh_fs (I a) (L a) (R a) 0 (zh_lay ci)).set k (va_rf x)) := by
      rw [zh_en_o hkd hci, zu_at, zh_fs_setr (zh_lay ci) 0 k hlay, Nat.zero_add]
    refine kk H1 locs1 (back kd ln I L (zu R a k x) H1 (fun _ => rfl) (fun b hb1 => zh_en_eq rfl rfl rfl rfl (zu_ne _ _ _ hb1)) ?_ ?_) hS1
    · rw [e1]
      exact hP1
    · rw [e1]
      exact hD1
/-- an index in range, and its place -/
def zh_ix (i : Int32) (j n : Nat) : Prop := i.toNatClampNeg = j ∧ vp_in i n
theorem zh_ix_n {j n : Nat} (h : j < n) (hn : n < 2 ^ 31) : zh_ix (nI j) j n := ⟨nI_clamp (by omega), vp_in_nI h hn⟩
theorem zh_ix_lt {i : Int32} {j n : Nat} (h : zh_ix i j n) : j < n := by
  rw [← h.1]
  exact Nat.not_le.mp fun q => h.2 (Or.inr q)
theorem zr_aldi (hexec : p.tables.exec = Jvm.exec) (hb : c.code = cc) (hK : va_K D classes (zh_tys cA) s) (hH : zh_H D cA A kd ln I L R H) (hkd : kd a = 100) {i : Int32} {j : Nat} (hi : zh_ix i j (ln a)) (hdg : decode cc pc = .ok (.iaload, 1))
    (kk : W p l e R0 s m args below meth c H locs cells slots Q (F0 m (pc + 1) ls (.int (I a j) :: rest))) : W p l e R0 s m args below meth c H locs cells slots Q (F0 m (pc) ls (.int i :: .ref a :: rest)) := by
  obtain ⟨ws, j0, hP, hD, hj, -⟩ := hH.out (show kd a ≠ 0 by omega)
  rw [zh_en_a (t := 0) hkd] at hj
  obtain ⟨rfl, hin⟩ := hi
  exact va_iald hexec hb hK hP j0 0 hj (zh_ty (by decide)) hin hdg kk
theorem zr_aldl (hexec : p.tables.exec = Jvm.exec) (hb : c.code = cc) (hK : va_K D classes (zh_tys cA) s) (hH : zh_H D cA A kd ln I L R H) (hkd : kd a = 101) {i : Int32} {j : Nat} (hi : zh_ix i j (ln a)) (hdg : decode cc pc = .ok (.laload, 1))
    (kk : W p l e R0 s m args below meth c H locs cells slots Q (F0 m (pc + 1) ls (.long (L a j) :: rest))) : W p l e R0 s m args below meth c H locs cells slots Q (F0 m (pc) ls (.int i :: .ref a :: rest)) := by
  obtain ⟨ws, j0, hP, hD, hj, -⟩ := hH.out (show kd a ≠ 0 by omega)
  rw [zh_en_a (t := 1) hkd] at hj
  obtain ⟨rfl, hin⟩ := hi
  exact va_lald hexec hb hK hP j0 1 hj (zh_ty (by decide)) hin hdg kk
theorem zr_aldb (hexec : p.tables.exec = Jvm.exec) (hb : c.code = cc) (hK : va_K D classes (zh_tys cA) s) (hH : zh_H D cA A kd ln I L R H) (hkd : kd a = 102) {i : Int32} {j : Nat} (hi : zh_ix i j (ln a)) (hdg : decode cc pc = .ok (.baload, 1))
    (kk : W p l e R0 s m args below meth c H locs cells slots Q (F0 m (pc + 1) ls (.int (I a j) :: rest))) : W p l e R0 s m args below meth c H locs cells slots Q (F0 m (pc) ls (.int i :: .ref a :: rest)) := by
  obtain ⟨ws, j0, hP, hD, hj, -⟩ := hH.out (show kd a ≠ 0 by omega)
  rw [zh_en_a (t := 2) hkd] at hj
  obtain ⟨rfl, hin⟩ := hi
  exact va_bald hexec hb hK hP j0 2 hj (zh_ty (by decide)) hin hdg kk
theorem zr_aldz (hexec : p.tables.exec = Jvm.exec) (hb : c.code = cc) (hK : va_K D classes (zh_tys cA) s) (hH : zh_H D cA A kd ln I L R H) (hkd : kd a = 103) {i : Int32} {j : Nat} (hi : zh_ix i j (ln a)) (hdg : decode cc pc = .ok (.baload, 1))
    (kk : W p l e R0 s m args below meth c H locs cells slots Q (F0 m (pc + 1) ls (.int (I a j) :: rest))) : W p l e R0 s m args below meth c H locs cells slots Q (F0 m (pc) ls (.int i :: .ref a :: rest)) := by
  obtain ⟨ws, j0, hP, hD, hj, -⟩ := hH.out (show kd a ≠ 0 by omega)
  rw [zh_en_a (t := 3) hkd] at hj
  obtain ⟨rfl, hin⟩ := hi
  exact va_zald hexec hb hK hP j0 3 hj (zh_ty (by decide)) hin hdg kk
theorem zh_ac_r {t : Nat} {I : Nat → Int32} {L : Nat → Int64} {R : Nat → Option Nat} (h : 4 ≤ t) : zh_ac t I L R = .inr (.inr (.inr (.inr R))) := by
  obtain ⟨k, rfl⟩ : ∃ k, t = k + 4 := ⟨t - 4, by omega⟩
  rfl
theorem zr_aldq (hexec : p.tables.exec = Jvm.exec) (hb : c.code = cc) {t : Nat} {C : String} (ht4 : 4 ≤ t) (htn : t < zh_nt) (hto : zh_aty t = .object C) (hK : va_K D classes (zh_tys cA) s) (hH : zh_H D cA A kd ln I L R H) (hkd : kd a = 100 + t) {i : Int32} {j : Nat} (hi : zh_ix i j (ln a)) (hdg : decode cc pc = .ok (.aaload, 1))
    (kk : W p l e R0 s m args below meth c H locs cells slots Q (F0 m (pc + 1) ls (va_rf (R a j) :: rest))) : W p l e R0 s m args below meth c H locs cells slots Q (F0 m (pc) ls (.int i :: .ref a :: rest)) := by
  obtain ⟨ws, j0, hP, hD, hj, -⟩ := hH.out (show kd a ≠ 0 by omega)
  rw [zh_en_a hkd, zh_ac_r ht4] at hj
  obtain ⟨rfl, hin⟩ := hi
  exact va_aldq (C := C) hexec hb hK hP j0 t hj (by rw [zh_ty htn, hto]) hin hdg kk
theorem zr_alen (hexec : p.tables.exec = Jvm.exec) (hb : c.code = cc) {t : Nat} (htn : t < zh_nt) (hK : va_K D classes (zh_tys cA) s) (hH : zh_H D cA A kd ln I L R H) (hkd : kd a = 100 + t) (hdg : decode cc pc = .ok (.arraylength, 1))
    (kk : W p l e R0 s m args below meth c H locs cells slots Q (F0 m (pc + 1) ls (.int (nI (ln a)) :: rest))) : W p l e R0 s m args below meth c H locs cells slots Q (F0 m (pc) ls (.ref a :: rest)) := by
  obtain ⟨ws, j0, hP, hD, hj, -⟩ := hH.out (show kd a ≠ 0 by omega)
  rw [zh_en_a hkd] at hj
  exact va_alen hexec hb hK hP j0 t hj (zh_ty htn) rfl hdg kk
theorem zr_asti (hexec : p.tables.exec = Jvm.exec) (hb : c.code = cc) (hK : va_K D classes (zh_tys cA) s) (hH : zh_H D cA A kd ln I L R H) (hS : va_S A H0 H locs) (hkd : kd a = 100) {i : Int32} {j : Nat} {x y : Int32} (hy : x = y) (hi : zh_ix i j (ln a)) (hdg : decode cc pc = .ok (.iastore, 1))
    (kk : ∀ (H1 : Heap) (locs1 : List Loc), zh_H D cA A kd ln (zu I a j y) L R H1 → va_S A H0 H1 locs1 → W p l e R0 s m args below meth c H1 locs1 cells slots Q (F0 m (pc + 1) ls (rest))) : W p l e R0 s m args below meth c H locs cells slots Q (F0 m (pc) ls (.int x :: .int i :: .ref a :: rest)) := by
  obtain ⟨ws, j0, hP, hD, hj, back⟩ := hH.out (show kd a ≠ 0 by omega)
  have hj2 := hj
  rw [zh_en_a (t := 0) hkd] at hj2
  obtain ⟨rfl, hin⟩ := hi
  subst hy
  refine va_iast hexec hb hK hP hD hS j0 0 hj2 (zh_ty (by decide)) hin hdg fun H1 locs1 hP1 hD1 hS1 => ?_
  have e1 : zh_en cA kd ln (zu I a i.toNatClampNeg (x)) L R a = .inl (cA 0, ln a, zh_ac 0 (upd (I a) i.toNatClampNeg x) (L a) (R a)) := by
    rw [zh_en_a (t := 0) hkd, zu_at]
    rfl
  refine kk H1 locs1 (back kd ln (zu I a i.toNatClampNeg (x)) L R H1 (fun _ => rfl) (fun b hb1 => zh_en_eq rfl rfl (zu_ne _ _ _ hb1) rfl rfl) ?_ ?_) hS1
  · rw [e1]
    exact hP1
  · rw [e1]
    exact hD1
theorem zr_astl (hexec : p.tables.exec = Jvm.exec) (hb : c.code = cc) (hK : va_K D classes (zh_tys cA) s) (hH : zh_H D cA A kd ln I L R H) (hS : va_S A H0 H locs) (hkd : kd a = 101) {i : Int32} {j : Nat} {x y : Int64} (hy : x = y) (hi : zh_ix i j (ln a)) (hdg : decode cc pc = .ok (.lastore, 1))
    (kk : ∀ (H1 : Heap) (locs1 : List Loc), zh_H D cA A kd ln I (zu L a j y) R H1 → va_S A H0 H1 locs1 → W p l e R0 s m args below meth c H1 locs1 cells slots Q (F0 m (pc + 1) ls (rest))) : W p l e R0 s m args below meth c H locs cells slots Q (F0 m (pc) ls (.long x :: .int i :: .ref a :: rest)) := by
  obtain ⟨ws, j0, hP, hD, hj, back⟩ := hH.out (show kd a ≠ 0 by omega)
  have hj2 := hj
  rw [zh_en_a (t := 1) hkd] at hj2
  obtain ⟨rfl, hin⟩ := hi
  subst hy
  refine va_last hexec hb hK hP hD hS j0 1 hj2 (zh_ty (by decide)) hin hdg fun H1 locs1 hP1 hD1 hS1 => ?_
  have e1 : zh_en cA kd ln I (zu L a i.toNatClampNeg (x)) R a = .inl (cA 1, ln a, zh_ac 1 (I a) (vp_updL (L a) i.toNatClampNeg x) (R a)) := by
    rw [zh_en_a (t := 1) hkd, zu_at]
    rfl
  refine kk H1 locs1 (back kd ln I (zu L a i.toNatClampNeg (x)) R H1 (fun _ => rfl) (fun b hb1 => zh_en_eq rfl rfl rfl (zu_ne _ _ _ hb1) rfl) ?_ ?_) hS1
  · rw [e1]
    exact hP1
  · rw [e1]
    exact hD1
theorem zr_astb (hexec : p.tables.exec = Jvm.exec) (hb : c.code = cc) (hK : va_K D classes (zh_tys cA) s) (hH : zh_H D cA A kd ln I L R H) (hS : va_S A H0 H locs) (hkd : kd a = 102) {i : Int32} {j : Nat} {x y : Int32} (hy : vp_nar .byte x = y) (hi : zh_ix i j (ln a)) (hdg : decode cc pc = .ok (.bastore, 1))
    (kk : ∀ (H1 : Heap) (locs1 : List Loc), zh_H D cA A kd ln (zu I a j y) L R H1 → va_S A H0 H1 locs1 → W p l e R0 s m args below meth c H1 locs1 cells slots Q (F0 m (pc + 1) ls (rest))) : W p l e R0 s m args below meth c H locs cells slots Q (F0 m (pc) ls (.int x :: .int i :: .ref a :: rest)) := by
  obtain ⟨ws, j0, hP, hD, hj, back⟩ := hH.out (show kd a ≠ 0 by omega)
  have hj2 := hj
  rw [zh_en_a (t := 2) hkd] at hj2
  obtain ⟨rfl, hin⟩ := hi
  subst hy
  refine va_bast hexec hb hK hP hD hS j0 2 hj2 (zh_ty (by decide)) hin hdg fun H1 locs1 hP1 hD1 hS1 => ?_
  have e1 : zh_en cA kd ln (zu I a i.toNatClampNeg (vp_nar .byte x)) L R a = .inl (cA 2, ln a, zh_ac 2 (upd (I a) i.toNatClampNeg (vp_nar .byte x)) (L a) (R a)) := by
    rw [zh_en_a (t := 2) hkd, zu_at]
    rfl
  refine kk H1 locs1 (back kd ln (zu I a i.toNatClampNeg (vp_nar .byte x)) L R H1 (fun _ => rfl) (fun b hb1 => zh_en_eq rfl rfl (zu_ne _ _ _ hb1) rfl rfl) ?_ ?_) hS1
  · rw [e1]
    exact hP1
  · rw [e1]
    exact hD1
theorem zr_astz (hexec : p.tables.exec = Jvm.exec) (hb : c.code = cc) (hK : va_K D classes (zh_tys cA) s) (hH : zh_H D cA A kd ln I L R H) (hS : va_S A H0 H locs) (hkd : kd a = 103) {i : Int32} {j : Nat} {x y : Int32} (hy : vp_nar .boolean x = y) (hi : zh_ix i j (ln a)) (hdg : decode cc pc = .ok (.bastore, 1))
    (kk : ∀ (H1 : Heap) (locs1 : List Loc), zh_H D cA A kd ln (zu I a j y) L R H1 → va_S A H0 H1 locs1 → W p l e R0 s m args below meth c H1 locs1 cells slots Q (F0 m (pc + 1) ls (rest))) : W p l e R0 s m args below meth c H locs cells slots Q (F0 m (pc) ls (.int x :: .int i :: .ref a :: rest)) := by
  obtain ⟨ws, j0, hP, hD, hj, back⟩ := hH.out (show kd a ≠ 0 by omega)
  have hj2 := hj
  rw [zh_en_a (t := 3) hkd] at hj2
  obtain ⟨rfl, hin⟩ := hi
  subst hy
  refine va_zast hexec hb hK hP hD hS j0 3 hj2 (zh_ty (by decide)) hin hdg fun H1 locs1 hP1 hD1 hS1 => ?_
  have e1 : zh_en cA kd ln (zu I a i.toNatClampNeg (vp_nar .boolean x)) L R a = .inl (cA 3, ln a, zh_ac 3 (upd (I a) i.toNatClampNeg (vp_nar .boolean x)) (L a) (R a)) := by
    rw [zh_en_a (t := 3) hkd, zu_at]
    rfl
  refine kk H1 locs1 (back kd ln (zu I a i.toNatClampNeg (vp_nar .boolean x)) L R H1 (fun _ => rfl) (fun b hb1 => zh_en_eq rfl rfl (zu_ne _ _ _ hb1) rfl rfl) ?_ ?_) hS1
  · rw [e1]
    exact hP1
  · rw [e1]
    exact hD1
theorem zr_astN (hexec : p.tables.exec = Jvm.exec) (hb : c.code = cc) {t : Nat} {C : String} (ht4 : 4 ≤ t) (htn : t < zh_nt) (hto : zh_aty t = .object C) (hK : va_K D classes (zh_tys cA) s) (hH : zh_H D cA A kd ln I L R H) (hS : va_S A H0 H locs) (hkd : kd a = 100 + t) {i : Int32} {j : Nat} (hi : zh_ix i j (ln a)) (hdg : decode cc pc = .ok (.aastore, 1))
    (kk : ∀ (H1 : Heap) (locs1 : List Loc), zh_H D cA A kd ln I L (zu R a j none) H1 → va_S A H0 H1 locs1 → W p l e R0 s m args below meth c H1 locs1 cells slots Q (F0 m (pc + 1) ls (rest))) : W p l e R0 s m args below meth c H locs cells slots Q (F0 m (pc) ls (.null :: .int i :: .ref a :: rest)) := by
  obtain ⟨ws, j0, hP, hD, hj, back⟩ := hH.out (show kd a ≠ 0 by omega)
  have hj2 := hj
  rw [zh_en_a hkd, zh_ac_r ht4] at hj2
  obtain ⟨rfl, hin⟩ := hi
  refine va_astqN (C := C) hexec hb hK hP hD hS j0 t hj2 (by rw [zh_ty htn, hto]) hin hdg fun H1 locs1 hP1 hD1 hS1 => ?_
  have e1 : zh_en cA kd ln I L (zu R a i.toNatClampNeg none) a = .inl (cA t, ln a, .inr (.inr (.inr (.inr (va_up (R a) i.toNatClampNeg none))))) := by
    rw [zh_en_a hkd, zu_at, zh_ac_r ht4]
  refine kk H1 locs1 (back kd ln I L (zu R a i.toNatClampNeg none) H1 (fun _ => rfl) (fun b hb1 => zh_en_eq rfl rfl rfl rfl (zu_ne _ _ _ hb1)) ?_ ?_) hS1
  · rw [e1]
    exact hP1
  · rw [e1]
    exact hD1
theorem zr_astr (hexec : p.tables.exec = Jvm.exec) (hb : c.code = cc) {t ci b : Nat} {r : vw_C} (ht4 : 4 ≤ t) (htn : t < zh_nt) (hto : zh_aty t = .object r.1) (hK : va_K D classes (zh_tys cA) s) (hH : zh_H D cA A kd ln I L R H) (hS : va_S A H0 H locs) (hkd : kd a = 100 + t) (hkb : kd b = ci + 1) (hci : ci < 99) (hc : classes[ci]? = some r) {i : Int32} {j : Nat} (hi : zh_ix i j (ln a)) (hdg : decode cc pc = .ok (.aastore, 1))
    (kk : ∀ (H1 : Heap) (locs1 : List Loc), zh_H D cA A kd ln I L (zu R a j (some b)) H1 → va_S A H0 H1 locs1 → W p l e R0 s m args below meth c H1 locs1 cells slots Q (F0 m (pc + 1) ls (rest))) : W p l e R0 s m args below meth c H locs cells slots Q (F0 m (pc) ls (.ref b :: .int i :: .ref a :: rest)) := by
  obtain ⟨Ls, hL, hP0, hD0⟩ := hH
  obtain ⟨jb, hjb⟩ := va_pl_get (X := []) (f := zh_en cA kd ln I L R) ((hL b).mpr (show kd b ≠ 0 by omega))
  have hm := (hL a).mpr (show kd a ≠ 0 by omega)
  obtain ⟨j0, hj⟩ := va_pl_get (X := []) (f := zh_en cA kd ln I L R) hm
  have hj2 := hj
  rw [zh_en_a hkd, zh_ac_r ht4] at hj2
  rw [zh_en_o hkb hci] at hjb
  obtain ⟨rfl, hin⟩ := hi
  refine va_astq hexec hb hK hP0 hD0 hS j0 t jb ci hj2 (by rw [zh_ty htn, hto]) hjb hc hin hdg fun H1 locs1 hP1 hD1 hS1 => ?_
  have e1 : zh_en cA kd ln I L (zu R a i.toNatClampNeg (some b)) a = .inl (cA t, ln a, .inr (.inr (.inr (.inr (va_up (R a) i.toNatClampNeg (some b)))))) := by
    rw [zh_en_a hkd, zu_at, zh_ac_r ht4]
  have e2 : (va_pl Ls (zh_en cA kd ln I L R)).set j0 (a, zh_en cA kd ln I L (zu R a i.toNatClampNeg (some b)) a) = va_pl Ls (zh_en cA kd ln I L (zu R a i.toNatClampNeg (some b))) := by
    refine (va_pl_set (X := []) (e := zh_en cA kd ln I L (zu R a i.toNatClampNeg (some b)) a) hD0 hm hj).trans (va_pl_congr fun b2 => ?_)
    by_cases hbq : b2 = a
    · subst hbq
      exact va_up_self _ _ _
    · rw [va_up_ne _ _ hbq]
      exact (zh_en_eq rfl rfl rfl rfl (zu_ne _ _ _ hbq)).symm
  refine kk H1 locs1 ⟨Ls, hL, ?_, ?_⟩ hS1
  · rw [← e2, e1]
    exact hP1
  · rw [← e2, e1]
    exact hD1
theorem zr_new (hexec : p.tables.exec = Jvm.exec) (hb : c.code = cc) {own C : String} {T : u_T} {N ci index : Nat} {Ts : List Cond} (hts : ∀ w ∈ Ts, w.before args s = true) (hin : ∀ w ∈ u_ws C T N, w ∈ Ts) (ty : Nat → FieldType) (hty : ∀ k, k < N → parseFieldDescriptor (T k).2.2.1 = some (ty k)) (hown : s.vm.findClass own = some m.cls) (hcl : (Cond.classLink own index C).before args s = true) (hinst : (Cond.instantiable C N).before args s = true) (hini : (Cond.initialized C).before args s = true)
    (hK : va_K D classes (zh_tys cA) s) (hH : zh_H D cA A kd ln I L R H) (hS : va_S A H0 H locs) (hA : ∀ q, H0.size ≤ q → A q) (hci : ci < 99) (hc : classes[ci]? = some (C, T, N)) (hfs : ∀ j, j < N → defaultValue (ty j) = vp_V (zh_fs (fun _ => 0) (fun _ => 0) (fun _ => none) 0 (zh_lay ci)) j) (hcells : cells + 1 ≤ R0.cells) (hslots : slots + N ≤ R0.slots) (hdg : decode cc pc = .ok (.new index, 3))
    (kk : ∀ (q : Nat) (H1 : Heap), kd q = 0 → zh_H D cA A (va_up kd q (ci + 1)) ln (va_up I q (fun _ => 0)) (va_up L q (fun _ => 0)) (va_up R q (fun _ => none)) H1 → va_S A H0 H1 locs →
      W p l e R0 s m args below meth c H1 locs (cells + 1) (slots + N) Q (F0 m (pc + 3) ls (.ref q :: rest))) : W p l e R0 s m args below meth c H locs cells slots Q (F0 m (pc) ls (rest)) := by
  obtain ⟨ws, hP, hD, grow⟩ := hH.grow
  refine va_new hexec hb hts hin ty hty hown hcl hinst hini hK hP hD hS hA hc hfs hcells hslots hdg fun q H1 hP1 hD1 hS1 => ?_
  obtain ⟨hq, g⟩ := grow q _ H1 hP1 hD1
  refine kk q H1 hq (g _ ln _ _ _ ?_ ?_ ?_) hS1
  · rw [va_up_self]
    omega
  · rw [zh_en_o (va_up_self _ _ _) hci, va_up_self, va_up_self, va_up_self]
  · exact fun b hb1 => ⟨va_up_ne _ _ hb1, zh_en_eq (va_up_ne _ _ hb1) rfl (va_up_ne _ _ hb1) (va_up_ne _ _ hb1) (va_up_ne _ _ hb1)⟩
theorem zr_newai (hexec : p.tables.exec = Jvm.exec) (hb : c.code = cc) {atype : ArrayType} (harr : (Cond.arrayClass (newarray.typeOf atype)).before args s = true) (hat : newarray.typeOf atype = .int) (hK : va_K D classes (zh_tys cA) s) (hH : zh_H D cA A kd ln I L R H) (hS : va_S A H0 H locs) (hA : ∀ q, H0.size ≤ q → A q) {n : Int32} {N' : Nat} (hn : ¬ n < 0) (hN : n.toNatClampNeg = N') (hbytes : N' * 8 ≤ 536870912) (hcells : cells + 1 ≤ R0.cells) (hslots : slots + N' ≤ R0.slots) (hdg : decode cc pc = .ok (.newarray atype, 2))
    (kk : ∀ (q : Nat) (H1 : Heap), kd q = 0 → zh_H D cA A (va_up kd q 100) (va_up ln q N') (va_up I q (fun _ => 0)) (va_up L q (fun _ => 0)) (va_up R q (fun _ => none)) H1 → va_S A H0 H1 locs →
      W p l e R0 s m args below meth c H1 locs (cells + 1) (slots + N') Q (F0 m (pc + 2) ls (.ref q :: rest))) : W p l e R0 s m args below meth c H locs cells slots Q (F0 m (pc) ls (.int n :: rest)) := by
  obtain ⟨ws, hP, hD, grow⟩ := hH.grow
  refine va_newa (a0 := (N', .inl (fun _ => 0))) hexec hb harr hat hK hP hD hS hA (fun _ => rfl) hn hN (by show N' * _ ≤ _; simp only [componentBytes]; omega) hcells hslots hdg fun q c1 H1 hK1 hP1 hD1 hS1 => ?_
  have hc1 : c1 = cA 0 := by
    have h1 := (hK1.2 (zh_tys cA).length (c1, .int) (by rw [List.getElem?_append_right (Nat.le_refl _), Nat.sub_self]; rfl)).2
    have h2 := (hK.2 0 (cA 0, .int) (zh_ty (by decide))).2
    exact Option.some.inj (h1.symm.trans h2)
  subst hc1
  obtain ⟨hq, g⟩ := grow q _ H1 hP1 hD1
  refine kk q H1 hq (g _ _ _ _ _ ?_ ?_ ?_) hS1
  · rw [va_up_self]
    omega
  · rw [zh_en_a (t := 0) (va_up_self _ _ _), va_up_self, va_up_self, va_up_self, va_up_self]
    rfl
  · exact fun b hb1 => ⟨va_up_ne _ _ hb1, zh_en_eq (va_up_ne _ _ hb1) (va_up_ne _ _ hb1) (va_up_ne _ _ hb1) (va_up_ne _ _ hb1) (va_up_ne _ _ hb1)⟩
theorem zr_newal (hexec : p.tables.exec = Jvm.exec) (hb : c.code = cc) {atype : ArrayType} (harr : (Cond.arrayClass (newarray.typeOf atype)).before args s = true) (hat : newarray.typeOf atype = .long) (hK : va_K D classes (zh_tys cA) s) (hH : zh_H D cA A kd ln I L R H) (hS : va_S A H0 H locs) (hA : ∀ q, H0.size ≤ q → A q) {n : Int32} {N' : Nat} (hn : ¬ n < 0) (hN : n.toNatClampNeg = N') (hbytes : N' * 8 ≤ 536870912) (hcells : cells + 1 ≤ R0.cells) (hslots : slots + N' ≤ R0.slots) (hdg : decode cc pc = .ok (.newarray atype, 2))
    (kk : ∀ (q : Nat) (H1 : Heap), kd q = 0 → zh_H D cA A (va_up kd q 101) (va_up ln q N') (va_up I q (fun _ => 0)) (va_up L q (fun _ => 0)) (va_up R q (fun _ => none)) H1 → va_S A H0 H1 locs →
      W p l e R0 s m args below meth c H1 locs (cells + 1) (slots + N') Q (F0 m (pc + 2) ls (.ref q :: rest))) : W p l e R0 s m args below meth c H locs cells slots Q (F0 m (pc) ls (.int n :: rest)) := by
  obtain ⟨ws, hP, hD, grow⟩ := hH.grow
  refine va_newa (a0 := (N', .inr (.inl (fun _ => 0)))) hexec hb harr hat hK hP hD hS hA (fun _ => rfl) hn hN (by show N' * _ ≤ _; simp only [componentBytes]; omega) hcells hslots hdg fun q c1 H1 hK1 hP1 hD1 hS1 => ?_
  have hc1 : c1 = cA 1 := by
    have h1 := (hK1.2 (zh_tys cA).length (c1, .long) (by rw [List.getElem?_append_right (Nat.le_refl _), Nat.sub_self]; rfl)).2
    have h2 := (hK.2 1 (cA 1, .long) (zh_ty (by decide))).2
    exact Option.some.inj (h1.symm.trans h2)
  subst hc1
  obtain ⟨hq, g⟩ := grow q _ H1 hP1 hD1
  refine kk q H1 hq (g _ _ _ _ _ ?_ ?_ ?_) hS1
  · rw [va_up_self]
    omega
  · rw [zh_en_a (t := 1) (va_up_self _ _ _), va_up_self, va_up_self, va_up_self, va_up_self]
    rfl
  · exact fun b hb1 => ⟨va_up_ne _ _ hb1, zh_en_eq (va_up_ne _ _ hb1) (va_up_ne _ _ hb1) (va_up_ne _ _ hb1) (va_up_ne _ _ hb1) (va_up_ne _ _ hb1)⟩
theorem zr_newab (hexec : p.tables.exec = Jvm.exec) (hb : c.code = cc) {atype : ArrayType} (harr : (Cond.arrayClass (newarray.typeOf atype)).before args s = true) (hat : newarray.typeOf atype = .byte) (hK : va_K D classes (zh_tys cA) s) (hH : zh_H D cA A kd ln I L R H) (hS : va_S A H0 H locs) (hA : ∀ q, H0.size ≤ q → A q) {n : Int32} {N' : Nat} (hn : ¬ n < 0) (hN : n.toNatClampNeg = N') (hbytes : N' * 8 ≤ 536870912) (hcells : cells + 1 ≤ R0.cells) (hslots : slots + N' ≤ R0.slots) (hdg : decode cc pc = .ok (.newarray atype, 2))
    (kk : ∀ (q : Nat) (H1 : Heap), kd q = 0 → zh_H D cA A (va_up kd q 102) (va_up ln q N') (va_up I q (fun _ => 0)) (va_up L q (fun _ => 0)) (va_up R q (fun _ => none)) H1 → va_S A H0 H1 locs →
      W p l e R0 s m args below meth c H1 locs (cells + 1) (slots + N') Q (F0 m (pc + 2) ls (.ref q :: rest))) : W p l e R0 s m args below meth c H locs cells slots Q (F0 m (pc) ls (.int n :: rest)) := by
  obtain ⟨ws, hP, hD, grow⟩ := hH.grow
  refine va_newa (a0 := (N', .inl (fun _ => 0))) hexec hb harr hat hK hP hD hS hA (fun _ => rfl) hn hN (by show N' * _ ≤ _; simp only [componentBytes]; omega) hcells hslots hdg fun q c1 H1 hK1 hP1 hD1 hS1 => ?_
  have hc1 : c1 = cA 2 := by
    have h1 := (hK1.2 (zh_tys cA).length (c1, .byte) (by rw [List.getElem?_append_right (Nat.le_refl _), Nat.sub_self]; rfl)).2
    have h2 := (hK.2 2 (cA 2, .byte) (zh_ty (by decide))).2
    exact Option.some.inj (h1.symm.trans h2)
  subst hc1
  obtain ⟨hq, g⟩ := grow q _ H1 hP1 hD1
  refine kk q H1 hq (g _ _ _ _ _ ?_ ?_ ?_) hS1
  · rw [va_up_self]
    omega
  · rw [zh_en_a (t := 2) (va_up_self _ _ _), va_up_self, va_up_self, va_up_self, va_up_self]
    rfl
  · exact fun b hb1 => ⟨va_up_ne _ _ hb1, zh_en_eq (va_up_ne _ _ hb1) (va_up_ne _ _ hb1) (va_up_ne _ _ hb1) (va_up_ne _ _ hb1) (va_up_ne _ _ hb1)⟩
theorem zr_newaz (hexec : p.tables.exec = Jvm.exec) (hb : c.code = cc) {atype : ArrayType} (harr : (Cond.arrayClass (newarray.typeOf atype)).before args s = true) (hat : newarray.typeOf atype = .boolean) (hK : va_K D classes (zh_tys cA) s) (hH : zh_H D cA A kd ln I L R H) (hS : va_S A H0 H locs) (hA : ∀ q, H0.size ≤ q → A q) {n : Int32} {N' : Nat} (hn : ¬ n < 0) (hN : n.toNatClampNeg = N') (hbytes : N' * 8 ≤ 536870912) (hcells : cells + 1 ≤ R0.cells) (hslots : slots + N' ≤ R0.slots) (hdg : decode cc pc = .ok (.newarray atype, 2))
    (kk : ∀ (q : Nat) (H1 : Heap), kd q = 0 → zh_H D cA A (va_up kd q 103) (va_up ln q N') (va_up I q (fun _ => 0)) (va_up L q (fun _ => 0)) (va_up R q (fun _ => none)) H1 → va_S A H0 H1 locs →
      W p l e R0 s m args below meth c H1 locs (cells + 1) (slots + N') Q (F0 m (pc + 2) ls (.ref q :: rest))) : W p l e R0 s m args below meth c H locs cells slots Q (F0 m (pc) ls (.int n :: rest)) := by
  obtain ⟨ws, hP, hD, grow⟩ := hH.grow
  refine va_newa (a0 := (N', .inl (fun _ => 0))) hexec hb harr hat hK hP hD hS hA (fun _ => rfl) hn hN (by show N' * _ ≤ _; simp only [componentBytes]; omega) hcells hslots hdg fun q c1 H1 hK1 hP1 hD1 hS1 => ?_
  have hc1 : c1 = cA 3 := by
    have h1 := (hK1.2 (zh_tys cA).length (c1, .boolean) (by rw [List.getElem?_append_right (Nat.le_refl _), Nat.sub_self]; rfl)).2
    have h2 := (hK.2 3 (cA 3, .boolean) (zh_ty (by decide))).2
    exact Option.some.inj (h1.symm.trans h2)
  subst hc1
  obtain ⟨hq, g⟩ := grow q _ H1 hP1 hD1
  refine kk q H1 hq (g _ _ _ _ _ ?_ ?_ ?_) hS1
  · rw [va_up_self]
    omega
  · rw [zh_en_a (t := 3) (va_up_self _ _ _), va_up_self, va_up_self, va_up_self, va_up_self]
    rfl
  · exact fun b hb1 => ⟨va_up_ne _ _ hb1, zh_en_eq (va_up_ne _ _ hb1) (va_up_ne _ _ hb1) (va_up_ne _ _ hb1) (va_up_ne _ _ hb1) (va_up_ne _ _ hb1)⟩
theorem zr_newq (hexec : p.tables.exec = Jvm.exec) (hb : c.code = cc) {own C : String} {index t : Nat} (ht4 : 4 ≤ t) (htn : t < zh_nt) (hto : zh_aty t = .object C) (hown : s.vm.findClass own = some m.cls) (hclink : (Cond.classLink own index C).before args s = true) (hover : va_AO C s) (hK : va_K D classes (zh_tys cA) s) (hH : zh_H D cA A kd ln I L R H) (hS : va_S A H0 H locs) (hA : ∀ q, H0.size ≤ q → A q) {n : Int32} {N' : Nat} (hn : ¬ n < 0) (hN : n.toNatClampNeg = N') (hbytes : N' * 4 ≤ 536870912) (hcells : cells + 1 ≤ R0.cells) (hslots : slots + N' ≤ R0.slots) (hdg : decode cc pc = .ok (.anewarray index, 3))
    (kk : ∀ (q : Nat) (H1 : Heap), kd q = 0 → zh_H D cA A (va_up kd q (100 + t)) (va_up ln q N') (va_up I q (fun _ => 0)) (va_up L q (fun _ => 0)) (va_up R q (fun _ => none)) H1 → va_S A H0 H1 locs →
      W p l e R0 s m args below meth c H1 locs (cells + 1) (slots + N') Q (F0 m (pc + 3) ls (.ref q :: rest))) : W p l e R0 s m args below meth c H locs cells slots Q (F0 m (pc) ls (.int n :: rest)) := by
  obtain ⟨ws, hP, hD, grow⟩ := hH.grow
  refine va_newq hexec hb hown hclink hover hK hP hD hS hA hn hN hbytes hcells hslots hdg fun q c1 H1 hK1 hP1 hD1 hS1 => ?_
  have hc1 : c1 = cA t := by
    obtain ⟨_, _, -, -, -, h1⟩ := (hK1.2 (zh_tys cA).length (c1, .object C) (by rw [List.getElem?_append_right (Nat.le_refl _), Nat.sub_self]; rfl)).2
    obtain ⟨_, _, -, -, -, h2⟩ := (hK.2 t (cA t, .object C) (by rw [zh_ty htn, hto])).2
    exact Option.some.inj (h1.symm.trans h2)
  subst hc1
  obtain ⟨hq, g⟩ := grow q _ H1 hP1 hD1
  refine kk q H1 hq (g _ _ _ _ _ ?_ ?_ ?_) hS1
  · rw [va_up_self]
    omega
  · rw [zh_en_a (va_up_self _ _ _), va_up_self, va_up_self, va_up_self, va_up_self, zh_ac_r ht4]
  · exact fun b hb1 => ⟨va_up_ne _ _ hb1, zh_en_eq (va_up_ne _ _ hb1) (va_up_ne _ _ hb1) (va_up_ne _ _ hb1) (va_up_ne _ _ hb1) (va_up_ne _ _ hb1)⟩
/-- behind a call -/
theorem zr_back {mc ms : Nat} {av : Array Value} {post : zc_T} (hr : va_Run p l e R0 s m args below meth c H locs cells slots mc ms (F0 m pc ls st0) rest (zc_Qc D cA (zc_A kd H.size) post av) (zc_A kd H.size)) (hH : zh_H D cA A kd ln I L R H) (hS : va_S A H0 H locs) (hA : ∀ q, H0.size ≤ q → A q)
    (kk : ∀ (v : Option Value) (kd' ln' : Nat → Nat) (I' : Nat → Nat → Int32) (L' : Nat → Nat → Int64) (R' : Nat → Nat → Option Nat) (H1 : Heap) (locs1 : List Loc), post v kd' ln' I' L' R' → zh_H D cA A kd' ln' I' L' R' H1 → va_S A H0 H1 locs1 → (∀ q : Nat, q < H.size → kd q = 0 → H1[q]? = H[q]?) → W p l e R0 s m args below meth c H1 locs1 (cells + mc) (slots + ms) Q (F0 m (pc + 3) ls (v.toList ++ rest))) : W p l e R0 s m args below meth c H locs cells slots Q (F0 m (pc) ls (st0)) := by
  have hAA : ∀ q, zc_A kd H.size q → A q := fun q h => by
    rcases h with h | h
    · exact (hH.inA h).1
    · exact hA q (Nat.le_trans hS.1 h)
  intro T hT X
  obtain ⟨v, st₀, t, T', L0, h0, X', hL, e1, e2, ⟨⟨v', kd', ln', I', L', R', hv, hp, hB⟩, hz, hk⟩, st⟩ := hr T hT X
  cases hv
  rw [h0] at hz hk
  obtain ⟨t2, a1, b1⟩ := kk v kd' ln' I' L' R' T'.heap (locs ++ L0) hp (by rw [e1]; exact hB.weaken (fun q _ h => hAA q h))
    ⟨Nat.le_trans hS.1 (by rw [e1]; exact hz), fun q h1 h2 => by rw [e1, hk q (Nat.lt_of_lt_of_le h1 hS.1) (fun z => h2 (hAA q z))]; exact hS.2.1 q h1 h2, fun q hq => by
      rcases List.mem_append.mp hq with h | h
      · exact hS.2.2 q h
      · exact hAA _ (hL q h)⟩ (fun q h1 h2 => by
        rw [e1]
        exact hk q h1 (fun z => by
          rcases z with z | z
          · exact z h2
          · omega)) T' rfl X'
  exact ⟨t2, st t2 a1, b1⟩
theorem zc_pre {te mi : Nat} {av : List Value} (hSc : zh_S D cA mi s) (hE : zh_E te A s s.heap) (hH : zh_H D cA A kd ln I L R H) (hS : va_S A s.heap H locs) (hA : ∀ q, s.heap.size ≤ q → A q) : PreS s H (zc_Pc D cA te mi av kd ln I L R H.size) av := by
  refine ⟨zc_blind, fun U hU hW => ⟨rfl, by rw [hU], hSc.warm hW, ?_, by rw [hU]; exact hH.weaken (fun _ _ _ => trivial)⟩⟩
  rw [hU]
  refine (zh_E.moved hW.alike (hE.kept hS.2.1)).narrow (fun q h => ?_)
  rcases h with h | h
  · exact (hH.inA h).1
  · exact hA q (Nat.le_trans hS.1 h)
theorem zc_preV {te mi : Nat} {As : List Value} {b ci : Nat} {q : vw_C} (hSc : zh_S D cA mi s) (hE : zh_E te A s s.heap) (hH : zh_H D cA A kd ln I L R H) (hS : va_S A s.heap H locs) (hA : ∀ q, s.heap.size ≤ q → A q) (hc : classes[ci]? = some q) (hci : ci < 99) (hk : kd b = ci + 1) : PreV s H q.1 b (zc_Pc D cA te mi (.ref b :: As) kd ln I L R H.size) As :=
  ⟨zc_blind, zh_recv hSc.1 hH hc hci hk, (zc_pre hSc hE hH hS hA).2⟩
theorem zr_V {y : MethodName} {bytes : ByteArray} {maxL nL mc ms n index : Nat} {ws : List Cond} {rm : Room} {Ts : List Cond} {own : String} {te mi : Nat} {As : List Value} {post : zc_T} {ret : Option FieldType} {b ci : Nat} {q : vw_C} (S : CallFix p m c cc nL s args Ts own) (hM : zc_M l y ws rm mc ms D cA te mi (.ref b :: As) kd ln I L R post) (cw : CallW R0 s args own q.1 index y bytes maxL ret ws rm mc ms n) (hSc : zh_S D cA mi s) (hE : zh_E te A s s.heap) (hH : zh_H D cA A kd ln I L R H) (hS : va_S A s.heap H locs) (hA : ∀ q, s.heap.size ≤ q → A q) (hc : classes[ci]? = some q) (hci : ci < 99) (hkb : kd b = ci + 1) (hn : As.length = n) (hsize : ls.size = nL) (hst : st0 = As.reverse ++ .ref b :: rest) (hW : (rest.map fun v => v.category).sum ≤ 8) (hdg : decode cc pc = .ok (.invokevirtual index, 3)) (hf : cells + mc ≤ R0.cells ∧ slots + ms ≤ R0.slots)
    (kk : ∀ (v : Option Value) (kd' ln' : Nat → Nat) (I' : Nat → Nat → Int32) (L' : Nat → Nat → Int64) (R' : Nat → Nat → Option Nat) (H1 : Heap) (locs1 : List Loc), post v kd' ln' I' L' R' → zh_H D cA A kd' ln' I' L' R' H1 → va_S A s.heap H1 locs1 → W p l e R0 s m args below meth c H1 locs1 (cells + mc) (slots + ms) Q (F0 m (pc + 3) ls (v.toList ++ rest))) : W p l e R0 s m args below meth c H locs cells slots Q (F0 m (pc) ls (st0)) := by
  subst hst
  exact zr_back (av := (.ref b :: As : List Value).toArray) (va_runV (As := As) (rest := rest) (g := F0 m pc ls (As.reverse ++ .ref b :: rest)) S (hM H.size) cw (zc_preV hSc hE hH hS hA hc hci hkb) rfl hn hsize rfl (lv_room hW) hdg hf) hH hS hA (fun v kd' ln' I' L' R' H1 locs1 h1 h2 h3 _ => kk v kd' ln' I' L' R' H1 locs1 h1 h2 h3)
theorem zr_VN {y : MethodName} {bytes : ByteArray} {maxL nL mc ms n index : Nat} {ws : List Cond} {rm : Room} {Ts : List Cond} {own host : String} {te mi : Nat} {As : List Value} {post : zc_T} {ret : Option FieldType} {b ci : Nat} {q : vw_C} (S : CallFix p m c cc nL s args Ts own) (hM : zc_M l y ws rm mc ms D cA te mi (.ref b :: As) kd ln I L R post) (cw : va_CN R0 s args own index y host bytes maxL ret ws rm mc ms n ∧ (Cond.instanceMethod y).before args s = true ∧ (Cond.selects q.1 y y).before args s = true) (hSc : zh_S D cA mi s) (hE : zh_E te A s s.heap) (hH : zh_H D cA A kd ln I L R H) (hS : va_S A s.heap H locs) (hA : ∀ q, s.heap.size ≤ q → A q) (hc : classes[ci]? = some q) (hci : ci < 99) (hkb : kd b = ci + 1) (hn : As.length = n) (hsize : ls.size = nL) (hst : st0 = As.reverse ++ .ref b :: rest) (hW : (rest.map fun v => v.category).sum ≤ 8) (hdg : decode cc pc = .ok (.invokevirtual index, 3)) (hf : cells + mc ≤ R0.cells ∧ slots + ms ≤ R0.slots)
    (kk : ∀ (v : Option Value) (kd' ln' : Nat → Nat) (I' : Nat → Nat → Int32) (L' : Nat → Nat → Int64) (R' : Nat → Nat → Option Nat) (H1 : Heap) (locs1 : List Loc), post v kd' ln' I' L' R' → zh_H D cA A kd' ln' I' L' R' H1 → va_S A s.heap H1 locs1 → W p l e R0 s m args below meth c H1 locs1 (cells + mc) (slots + ms) Q (F0 m (pc + 3) ls (v.toList ++ rest))) : W p l e R0 s m args below meth c H locs cells slots Q (F0 m (pc) ls (st0)) := by
  subst hst
  exact zr_back (av := (.ref b :: As : List Value).toArray) (va_runVN (As := As) (rest := rest) (g := F0 m pc ls (As.reverse ++ .ref b :: rest)) S (hM H.size) cw (zc_preV hSc hE hH hS hA hc hci hkb) rfl hn hsize rfl (lv_room hW) hdg hf) hH hS hA (fun v kd' ln' I' L' R' H1 locs1 h1 h2 h3 _ => kk v kd' ln' I' L' R' H1 locs1 h1 h2 h3)
theorem zr_St {y : MethodName} {bytes : ByteArray} {maxL nL mc ms n index : Nat} {ws : List Cond} {rm : Room} {Ts : List Cond} {own : String} {te mi : Nat} {As : List Value} {post : zc_T} {ret : Option FieldType}  (S : CallFix p m c cc nL s args Ts own) (hM : zc_M l y ws rm mc ms D cA te mi (As) kd ln I L R post) (cw : CallB R0 s args own index y bytes maxL ret ws rm mc ms n ∧ (Cond.static y).before args s = true) (hSc : zh_S D cA mi s) (hE : zh_E te A s s.heap) (hH : zh_H D cA A kd ln I L R H) (hS : va_S A s.heap H locs) (hA : ∀ q, s.heap.size ≤ q → A q)  (hn : As.length = n) (hsize : ls.size = nL) (hst : st0 = As.reverse ++ rest) (hW : (rest.map fun v => v.category).sum ≤ 8) (hdg : decode cc pc = .ok (.invokestatic index, 3)) (hf : cells + mc ≤ R0.cells ∧ slots + ms ≤ R0.slots)
    (kk : ∀ (v : Option Value) (kd' ln' : Nat → Nat) (I' : Nat → Nat → Int32) (L' : Nat → Nat → Int64) (R' : Nat → Nat → Option Nat) (H1 : Heap) (locs1 : List Loc), post v kd' ln' I' L' R' → zh_H D cA A kd' ln' I' L' R' H1 → va_S A s.heap H1 locs1 → W p l e R0 s m args below meth c H1 locs1 (cells + mc) (slots + ms) Q (F0 m (pc + 3) ls (v.toList ++ rest))) : W p l e R0 s m args below meth c H locs cells slots Q (F0 m (pc) ls (st0)) := by
  subst hst
  exact zr_back (av := (As : List Value).toArray) (va_runS (As := As) (rest := rest) (g := F0 m pc ls (As.reverse ++ rest)) S (hM H.size) cw (zc_pre hSc hE hH hS hA) rfl hn hsize rfl (lv_room hW) hdg hf) hH hS hA (fun v kd' ln' I' L' R' H1 locs1 h1 h2 h3 _ => kk v kd' ln' I' L' R' H1 locs1 h1 h2 h3)
theorem zr_StN {y : MethodName} {bytes : ByteArray} {maxL nL mc ms n index : Nat} {ws : List Cond} {rm : Room} {Ts : List Cond} {own host : String} {te mi : Nat} {As : List Value} {post : zc_T} {ret : Option FieldType}  (S : CallFix p m c cc nL s args Ts own) (hM : zc_M l y ws rm mc ms D cA te mi (As) kd ln I L R post) (cw : va_CN R0 s args own index y host bytes maxL ret ws rm mc ms n ∧ (Cond.static y).before args s = true ∧ True) (hSc : zh_S D cA mi s) (hE : zh_E te A s s.heap) (hH : zh_H D cA A kd ln I L R H) (hS : va_S A s.heap H locs) (hA : ∀ q, s.heap.size ≤ q → A q)  (hn : As.length = n) (hsize : ls.size = nL) (hst : st0 = As.reverse ++ rest) (hW : (rest.map fun v => v.category).sum ≤ 8) (hdg : decode cc pc = .ok (.invokestatic index, 3)) (hf : cells + mc ≤ R0.cells ∧ slots + ms ≤ R0.slots)
    (kk : ∀ (v : Option Value) (kd' ln' : Nat → Nat) (I' : Nat → Nat → Int32) (L' : Nat → Nat → Int64) (R' : Nat → Nat → Option Nat) (H1 : Heap) (locs1 : List Loc), post v kd' ln' I' L' R' → zh_H D cA A kd' ln' I' L' R' H1 → va_S A s.heap H1 locs1 → W p l e R0 s m args below meth c H1 locs1 (cells + mc) (slots + ms) Q (F0 m (pc + 3) ls (v.toList ++ rest))) : W p l e R0 s m args below meth c H locs cells slots Q (F0 m (pc) ls (st0)) := by
  subst hst
  exact zr_back (av := (As : List Value).toArray) (va_runSN (As := As) (rest := rest) (g := F0 m pc ls (As.reverse ++ rest)) S (hM H.size) cw (zc_pre hSc hE hH hS hA) rfl hn hsize rfl (lv_room hW) hdg hf) hH hS hA (fun v kd' ln' I' L' R' H1 locs1 h1 h2 h3 _ => kk v kd' ln' I' L' R' H1 locs1 h1 h2 h3)
theorem zr_In {y : MethodName} {bytes : ByteArray} {maxL nL mc ms n index : Nat} {ws : List Cond} {rm : Room} {Ts : List Cond} {own : String} {te mi : Nat} {As : List Value} {post : zc_T}  {b : Nat} (S : CallFix p m c cc nL s args Ts own) (hM : zc_M l y ws rm mc ms D cA te mi (.ref b :: As) kd ln I L R post) (cw : CallB R0 s args own index y bytes maxL none ws rm mc ms n ∧ y.name = "<init>" ∧ (Cond.instanceMethod y).before args s = true) (hSc : zh_S D cA mi s) (hE : zh_E te A s s.heap) (hH : zh_H D cA A kd ln I L R H) (hS : va_S A s.heap H locs) (hA : ∀ q, s.heap.size ≤ q → A q)  (hn : As.length = n) (hsize : ls.size = nL) (hst : st0 = As.reverse ++ .ref b :: rest) (hW : (rest.map fun v => v.category).sum ≤ 8) (hdg : decode cc pc = .ok (.invokespecial index, 3)) (hf : cells + mc ≤ R0.cells ∧ slots + ms ≤ R0.slots)
    (kk : ∀ (v : Option Value) (kd' ln' : Nat → Nat) (I' : Nat → Nat → Int32) (L' : Nat → Nat → Int64) (R' : Nat → Nat → Option Nat) (H1 : Heap) (locs1 : List Loc), post v kd' ln' I' L' R' → zh_H D cA A kd' ln' I' L' R' H1 → va_S A s.heap H1 locs1 → W p l e R0 s m args below meth c H1 locs1 (cells + mc) (slots + ms) Q (F0 m (pc + 3) ls (v.toList ++ rest))) : W p l e R0 s m args below meth c H locs cells slots Q (F0 m (pc) ls (st0)) := by
  subst hst
  exact zr_back (av := (.ref b :: As : List Value).toArray) (va_runI (As := As) (rest := rest) (g := F0 m pc ls (As.reverse ++ .ref b :: rest)) S (hM H.size) cw (zc_pre hSc hE hH hS hA) rfl hn hsize rfl (lv_room hW) hdg hf) hH hS hA (fun v kd' ln' I' L' R' H1 locs1 h1 h2 h3 _ => kk v kd' ln' I' L' R' H1 locs1 h1 h2 h3)
theorem zr_InN {y : MethodName} {bytes : ByteArray} {maxL nL mc ms n index : Nat} {ws : List Cond} {rm : Room} {Ts : List Cond} {own host : String} {te mi : Nat} {As : List Value} {post : zc_T}  {b : Nat} (S : CallFix p m c cc nL s args Ts own) (hM : zc_M l y ws rm mc ms D cA te mi (.ref b :: As) kd ln I L R post) (cw : va_CN R0 s args own index y host bytes maxL none ws rm mc ms n ∧ y.name = "<init>" ∧ (Cond.instanceMethod y).before args s = true) (hSc : zh_S D cA mi s) (hE : zh_E te A s s.heap) (hH : zh_H D cA A kd ln I L R H) (hS : va_S A s.heap H locs) (hA : ∀ q, s.heap.size ≤ q → A q)  (hn : As.length = n) (hsize : ls.size = nL) (hst : st0 = As.reverse ++ .ref b :: rest) (hW : (rest.map fun v => v.category).sum ≤ 8) (hdg : decode cc pc = .ok (.invokespecial index, 3)) (hf : cells + mc ≤ R0.cells ∧ slots + ms ≤ R0.slots)
    (kk : ∀ (v : Option Value) (kd' ln' : Nat → Nat) (I' : Nat → Nat → Int32) (L' : Nat → Nat → Int64) (R' : Nat → Nat → Option Nat) (H1 : Heap) (locs1 : List Loc), post v kd' ln' I' L' R' → zh_H D cA A kd' ln' I' L' R' H1 → va_S A s.heap H1 locs1 → W p l e R0 s m args below meth c H1 locs1 (cells + mc) (slots + ms) Q (F0 m (pc + 3) ls (v.toList ++ rest))) : W p l e R0 s m args below meth c H locs cells slots Q (F0 m (pc) ls (st0)) := by
  subst hst
  exact zr_back (av := (.ref b :: As : List Value).toArray) (va_runIN (As := As) (rest := rest) (g := F0 m pc ls (As.reverse ++ .ref b :: rest)) S (hM H.size) cw (zc_pre hSc hE hH hS hA) rfl hn hsize rfl (lv_room hW) hdg hf) hH hS hA (fun v kd' ln' I' L' R' H1 locs1 h1 h2 h3 _ => kk v kd' ln' I' L' R' H1 locs1 h1 h2 h3)
/-- the end of a method: what the contract wants, out of the heap at hand -/
theorem zc_end {av : Array Value} {kd0 : Nat → Nat} {post : zc_T} {v : Option Value} {t : State} (hS : va_S (zc_A kd0 s.heap.size) s.heap H locs) (hH : zh_H D cA (zc_A kd0 s.heap.size) kd ln I L R H) (ht : t.heap = H) (hp : post v kd ln I L R) : zc_Qc D cA (zc_A kd0 s.heap.size) post av s (.returned v) t :=
  ⟨⟨v, kd, ln, I, L, R, rfl, hp, by rw [ht]; exact hH⟩, hS.F ht⟩
end ZR
/-! a value on top in another form; comparisons of numbers -/
section ZT
variable {p : Program} {l : Launch} {e : Env} {R0 : Room} {s : State} {m : MethodId} {args : Array Value} {below : List Frame} {meth : Method} {c : Code} {H : Heap} {locs : List Loc} {cells slots : Nat} {Q : State → Prop}
variable {cc : ByteArray} {pc : Nat} {ls : Array Slot} {rest st0 : List Value} {D : va_G} {cA : Nat → ClassId} {A : Nat → Prop} {a : Nat} {H0 : Heap} {kd ln : Nat → Nat} {I : Nat → Nat → Int32} {L : Nat → Nat → Int64} {R : Nat → Nat → Option Nat}
theorem zt_i {x y : Int32} (h : x = y) (k : W p l e R0 s m args below meth c H locs cells slots Q (F0 m (pc) ls (.int y :: rest))) : W p l e R0 s m args below meth c H locs cells slots Q (F0 m (pc) ls (.int x :: rest)) := by
  rw [h]
  exact k
theorem zt_l {x y : Int64} (h : x = y) (k : W p l e R0 s m args below meth c H locs cells slots Q (F0 m (pc) ls (.long y :: rest))) : W p l e R0 s m args below meth c H locs cells slots Q (F0 m (pc) ls (.long x :: rest)) := by
  rw [h]
  exact k
end ZT
theorem zt_ne0 {d : Nat} (h : 0 < d) (h2 : d < 2 ^ 31) : ¬ nI d = 0 := nI_ne0 h h2
theorem zt_dec {a : Nat} (h : 1 ≤ a) : nI a + Int32.ofInt (-1) = nI (a - 1) := by
  obtain ⟨n, rfl⟩ : ∃ n, a = n + 1 := ⟨a - 1, by omega⟩
  exact pk_m1 n
theorem zt_kd {kd : Nat → Nat} {a b m n : Nat} (h1 : kd a = m) (h2 : kd b = n) (h : m ≠ n) : a ≠ b := fun q => h (by rw [← h1, ← h2, q])
theorem zt_eqT {a b : Nat} (ha : a < 2 ^ 31) (hb : b < 2 ^ 31) (h : nI a = nI b) : a = b := (nI_eq ha hb).mp h
theorem zt_eqF {a b : Nat} (ha : a < 2 ^ 31) (hb : b < 2 ^ 31) (h : ¬ nI a = nI b) : ¬ a = b := fun q => h ((nI_eq ha hb).mpr q)
theorem zt_neT {a b : Nat} (ha : a < 2 ^ 31) (hb : b < 2 ^ 31) (h : ¬ nI a = nI b) : ¬ a = b := zt_eqF ha hb h
theorem zt_neF {a b : Nat} (ha : a < 2 ^ 31) (hb : b < 2 ^ 31) (h : nI a = nI b) : a = b := zt_eqT ha hb h
theorem zt_ltT {a b : Nat} (ha : a < 2 ^ 31) (hb : b < 2 ^ 31) (h : nI a < nI b) : a < b := (nI_ltI ha hb).mp h
theorem zt_ltF {a b : Nat} (ha : a < 2 ^ 31) (hb : b < 2 ^ 31) (h : ¬ nI a < nI b) : b ≤ a := Nat.not_lt.mp fun q => h ((nI_ltI ha hb).mpr q)
theorem zt_geT {a b : Nat} (ha : a < 2 ^ 31) (hb : b < 2 ^ 31) (h : nI b ≤ nI a) : b ≤ a := (nI_leI hb ha).mp h
theorem zt_geF {a b : Nat} (ha : a < 2 ^ 31) (hb : b < 2 ^ 31) (h : ¬ nI b ≤ nI a) : a < b := Nat.not_le.mp fun q => h ((nI_leI hb ha).mpr q)
theorem zt_gtT {a b : Nat} (ha : a < 2 ^ 31) (hb : b < 2 ^ 31) (h : nI b < nI a) : b < a := (nI_ltI hb ha).mp h
theorem zt_gtF {a b : Nat} (ha : a < 2 ^ 31) (hb : b < 2 ^ 31) (h : ¬ nI b < nI a) : a ≤ b := Nat.not_lt.mp fun q => h ((nI_ltI hb ha).mpr q)
theorem zt_leT {a b : Nat} (ha : a < 2 ^ 31) (hb : b < 2 ^ 31) (h : nI a ≤ nI b) : a ≤ b := (nI_leI ha hb).mp h
theorem zt_leF {a b : Nat} (ha : a < 2 ^ 31) (hb : b < 2 ^ 31) (h : ¬ nI a ≤ nI b) : b < a := Nat.not_le.mp fun q => h ((nI_leI ha hb).mpr q)
section ZQ
variable {p : Program} {l : Launch} {e : Env} {R0 : Room} {s : State} {m : MethodId} {args : Array Value} {below : List Frame} {meth : Method} {c : Code} {H : Heap} {locs : List Loc} {cells slots : Nat} {Q : State → Prop}
variable {cc : ByteArray} {pc : Nat} {ls : Array Slot} {rest st0 : List Value} {D : va_G} {cA : Nat → ClassId} {A : Nat → Prop} {a : Nat} {H0 : Heap} {kd ln : Nat → Nat} {I : Nat → Nat → Int32} {L : Nat → Nat → Int64} {R : Nat → Nat → Option Nat}
theorem zr_get0 (hexec : p.tables.exec = Jvm.exec) (hb : c.code = cc) {own ref C : String} {T : u_T} {N ci index : Nat} {Ts : List Cond} (hts : ∀ w ∈ Ts, w.before args s = true) (hin : ∀ w ∈ u_ws C T N, w ∈ Ts) (hown : s.vm.findClass own = some m.cls) (hK : va_K D classes (zh_tys cA) s) (hH : zh_H D cA A kd ln I L R H) (hkd : kd a = ci + 1) (hci : ci < 99) (hc : classes[ci]? = some (C, T, N)) (k : Nat) (hk : k < N) (hlay : (zh_lay ci)[k]? = some 2) (hlink : (Cond.fieldLink own index ref (T k).2.1 (T k).2.2.1).before args s = true) (hsame : ∀ x, s.fieldFound? (T k).1 (T k).2.1 (T k).2.2.1 = some x → s.fieldFound? ref (T k).2.1 (T k).2.2.1 = some x) (hdg : decode cc pc = .ok (.getfield index, 3)) (hr : R a k = none)
    (kk : W p l e R0 s m args below meth c H locs cells slots Q (F0 m (pc + 3) ls (.null :: rest))) : W p l e R0 s m args below meth c H locs cells slots Q (F0 m (pc) ls (.ref a :: rest)) := by
  refine zr_getq hexec hb hts hin hown hK hH hkd hci hc k hk hlay hlink hsame hdg ?_
  rw [hr]
  exact kk
theorem zr_getN0 (hexec : p.tables.exec = Jvm.exec) (hb : c.code = cc) {own ref C host : String} {T : u_T} {N ci index : Nat} {Ts : List Cond} (hts : ∀ w ∈ Ts, w.before args s = true) (hin : ∀ w ∈ u_ws C T N, w ∈ Ts) (hown : s.vm.findClass own = some m.cls) (hK : va_K D classes (zh_tys cA) s) (hH : zh_H D cA A kd ln I L R H) (hkd : kd a = ci + 1) (hci : ci < 99) (hc : classes[ci]? = some (C, T, N)) (k : Nat) (hk : k < N) (hlay : (zh_lay ci)[k]? = some 2) (hlink : (Cond.fieldLinkNest own index ref (T k).2.1 (T k).2.2.1 host).before args s = true) (hsame : ∀ x, s.fieldFound? (T k).1 (T k).2.1 (T k).2.2.1 = some x → s.fieldFound? ref (T k).2.1 (T k).2.2.1 = some x) (hdg : decode cc pc = .ok (.getfield index, 3)) (hr : R a k = none)
    (kk : W p l e R0 s m args below meth c H locs cells slots Q (F0 m (pc + 3) ls (.null :: rest))) : W p l e R0 s m args below meth c H locs cells slots Q (F0 m (pc) ls (.ref a :: rest)) := by
  refine zr_getNq hexec hb hts hin hown hK hH hkd hci hc k hk hlay hlink hsame hdg ?_
  rw [hr]
  exact kk
theorem zr_ald0 (hexec : p.tables.exec = Jvm.exec) (hb : c.code = cc) {t : Nat} {C : String} (ht4 : 4 ≤ t) (htn : t < zh_nt) (hto : zh_aty t = .object C) (hK : va_K D classes (zh_tys cA) s) (hH : zh_H D cA A kd ln I L R H) (hkd : kd a = 100 + t) {i : Int32} {j b : Nat} (hi : zh_ix i j (ln a)) (hdg : decode cc pc = .ok (.aaload, 1)) (hr : R a j = none)
    (kk : W p l e R0 s m args below meth c H locs cells slots Q (F0 m (pc + 1) ls (.null :: rest))) : W p l e R0 s m args below meth c H locs cells slots Q (F0 m (pc) ls (.int i :: .ref a :: rest)) := by
  refine zr_aldq hexec hb ht4 htn hto hK hH hkd hi hdg ?_
  rw [hr]
  exact kk
theorem zr_aldr (hexec : p.tables.exec = Jvm.exec) (hb : c.code = cc) {t : Nat} {C : String} (ht4 : 4 ≤ t) (htn : t < zh_nt) (hto : zh_aty t = .object C) (hK : va_K D classes (zh_tys cA) s) (hH : zh_H D cA A kd ln I L R H) (hkd : kd a = 100 + t) {i : Int32} {j b : Nat} (hi : zh_ix i j (ln a)) (hdg : decode cc pc = .ok (.aaload, 1)) (hr : R a j = some b)
    (kk : W p l e R0 s m args below meth c H locs cells slots Q (F0 m (pc + 1) ls (.ref b :: rest))) : W p l e R0 s m args below meth c H locs cells slots Q (F0 m (pc) ls (.int i :: .ref a :: rest)) := by
  refine zr_aldq hexec hb ht4 htn hto hK hH hkd hi hdg ?_
  rw [hr]
  exact kk
/-- into an array of a wider type -/
theorem zr_astO (hexec : p.tables.exec = Jvm.exec) (hb : c.code = cc) {t ci b : Nat} {r : vw_C} {E : String} (ht4 : 4 ≤ t) (htn : t < zh_nt) (hto : zh_aty t = .object E) (hK : va_K D classes (zh_tys cA) s) (hca : va_Nw (.castable r.1 E) s) (hH : zh_H D cA A kd ln I L R H) (hS : va_S A H0 H locs) (hkd : kd a = 100 + t) (hkb : kd b = ci + 1) (hci : ci < 99) (hc : classes[ci]? = some r) {i : Int32} {j : Nat} (hi : zh_ix i j (ln a)) (hdg : decode cc pc = .ok (.aastore, 1))
    (kk : ∀ (H1 : Heap) (locs1 : List Loc), zh_H D cA A kd ln I L (zu R a j (some b)) H1 → va_S A H0 H1 locs1 → W p l e R0 s m args below meth c H1 locs1 cells slots Q (F0 m (pc + 1) ls (rest))) : W p l e R0 s m args below meth c H locs cells slots Q (F0 m (pc) ls (.ref b :: .int i :: .ref a :: rest)) := by
  obtain ⟨Ls, hL, hP0, hD0⟩ := hH
  obtain ⟨jb, hjb⟩ := va_pl_get (X := []) (f := zh_en cA kd ln I L R) ((hL b).mpr (show kd b ≠ 0 by omega))
  have hm := (hL a).mpr (show kd a ≠ 0 by omega)
  obtain ⟨j0, hj⟩ := va_pl_get (X := []) (f := zh_en cA kd ln I L R) hm
  have hj2 := hj
  rw [zh_en_a hkd, zh_ac_r ht4] at hj2
  rw [zh_en_o hkb hci] at hjb
  obtain ⟨rfl, hin⟩ := hi
  refine va_astqO hexec hb hK hP0 hD0 hS j0 t jb ci hj2 (by rw [zh_ty htn, hto]) hca hjb hc hin hdg fun H1 locs1 hP1 hD1 hS1 => ?_
  have e1 : zh_en cA kd ln I L (zu R a i.toNatClampNeg (some b)) a = .inl (cA t, ln a, .inr (.inr (.inr (.inr (va_up (R a) i.toNatClampNeg (some b)))))) := by
    rw [zh_en_a hkd, zu_at, zh_ac_r ht4]
  have e2 : (va_pl Ls (zh_en cA kd ln I L R)).set j0 (a, zh_en cA kd ln I L (zu R a i.toNatClampNeg (some b)) a) = va_pl Ls (zh_en cA kd ln I L (zu R a i.toNatClampNeg (some b))) := by
    refine (va_pl_set (X := []) (e := zh_en cA kd ln I L (zu R a i.toNatClampNeg (some b)) a) hD0 hm hj).trans (va_pl_congr fun b2 => ?_)
    by_cases hbq : b2 = a
    · subst hbq
      exact va_up_self _ _ _
    · rw [va_up_ne _ _ hbq]
      exact (zh_en_eq rfl rfl rfl rfl (zu_ne _ _ _ hbq)).symm
  refine kk H1 locs1 ⟨Ls, hL, ?_, ?_⟩ hS1
  · rw [← e2, e1]
    exact hP1
  · rw [← e2, e1]
    exact hD1
theorem zr_copyi (hexec : p.tables.exec = Jvm.exec) (hb : c.code = cc) (hml : c.maxLocals = ls.size) {own : String} {index : Nat} (hown : s.vm.findClass own = some m.cls) (hlink : (Cond.methodLink own index arraycopyName).before args s = true) (hnat : (Cond.native arraycopyName).before args s = true) (hstat : (Cond.static arraycopyName).before args s = true) (hini : (Cond.initialized "java/lang/System").before args s = true) (hK : va_K D classes (zh_tys cA) s) (hH : zh_H D cA A kd ln I L R H) (hS : va_S A H0 H locs) {a0 : Nat} (hk0 : kd a0 = 100) (hkd : kd a = 100) {sp dp n : Nat} (hsp : sp + n ≤ ln a0) (hdp : dp + n ≤ ln a) (h31 : sp + n < 2 ^ 31 ∧ dp + n < 2 ^ 31) (hfit : ∀ i, i < n → fits .int (.int (I a0 (sp + i))) = true) (hframes : 1 ≤ R0.frames) (hlocals : (rest.map fun v => v.category).sum + (nativeFrameWords "java/lang/System" "arraycopy" 5 + 11) ≤ R0.locals) (hdg : decode cc pc = .ok (.invokestatic index, 3))
    (kk : ∀ (H1 : Heap) (locs1 : List Loc), zh_H D cA A kd ln (va_up I a (va_cpy (I a0) (I a) sp dp n)) L R H1 → va_S A H0 H1 locs1 → W p l e R0 s m args below meth c H1 locs1 cells slots Q (F0 m (pc + 3) ls (rest))) : W p l e R0 s m args below meth c H locs cells slots Q (F0 m (pc) ls (.int (nI n) :: .int (nI dp) :: .ref a :: .int (nI sp) :: .ref a0 :: rest)) := by
  obtain ⟨Ls, hL, hP0, hD0⟩ := hH
  obtain ⟨jb, hjb⟩ := va_pl_get (X := []) (f := zh_en cA kd ln I L R) ((hL a0).mpr (show kd a0 ≠ 0 by omega))
  have hm := (hL a).mpr (show kd a ≠ 0 by omega)
  obtain ⟨j0, hj⟩ := va_pl_get (X := []) (f := zh_en cA kd ln I L R) hm
  have hj2 := hj
  rw [zh_en_a (t := 0) hkd] at hj2
  rw [zh_en_a (t := 0) hk0] at hjb
  have c1 : (nI sp).toNatClampNeg = sp := nI_clamp (by omega)
  have c2 : (nI dp).toNatClampNeg = dp := nI_clamp (by omega)
  have c3 : (nI n).toNatClampNeg = n := nI_clamp (by omega)
  refine va_copyi (ty := .int) hexec hb hml hown hlink hnat hstat hini hK hP0 hD0 hS jb j0 0 0 hjb hj2 (zh_ty (by decide)) (zh_ty (by decide)) rfl (nI_pos (by omega)) (nI_pos (by omega)) (nI_pos (by omega)) (by rw [c1, c3]; exact hsp) (by rw [c2, c3]; exact hdp) (by rw [c1, c3]; exact hfit) hframes hlocals hdg fun H1 locs1 hP1 hD1 hS1 => ?_
  rw [c1, c2, c3] at hP1 hD1
  have e1 : zh_en cA kd ln (va_up I a (va_cpy (I a0) (I a) sp dp n)) L R a = .inl (cA 0, ln a, .inl (va_cpy (I a0) (I a) sp dp n)) := by
    rw [zh_en_a (t := 0) hkd, va_up_self]
    rfl
  have e2 : (va_pl Ls (zh_en cA kd ln I L R)).set j0 (a, zh_en cA kd ln (va_up I a (va_cpy (I a0) (I a) sp dp n)) L R a) = va_pl Ls (zh_en cA kd ln (va_up I a (va_cpy (I a0) (I a) sp dp n)) L R) := by
    refine (va_pl_set (X := []) (e := zh_en cA kd ln (va_up I a (va_cpy (I a0) (I a) sp dp n)) L R a) hD0 hm hj).trans (va_pl_congr fun b2 => ?_)
    by_cases hbq : b2 = a
    · subst hbq
      exact va_up_self _ _ _
    · rw [va_up_ne _ _ hbq]
      exact (zh_en_eq rfl rfl (va_up_ne _ _ hbq) rfl rfl).symm
  refine kk H1 locs1 ⟨Ls, hL, ?_, ?_⟩ hS1
  · rw [← e2, e1]
    exact hP1
  · rw [← e2, e1]
    exact hD1
theorem zr_copyb (hexec : p.tables.exec = Jvm.exec) (hb : c.code = cc) (hml : c.maxLocals = ls.size) {own : String} {index : Nat} (hown : s.vm.findClass own = some m.cls) (hlink : (Cond.methodLink own index arraycopyName).before args s = true) (hnat : (Cond.native arraycopyName).before args s = true) (hstat : (Cond.static arraycopyName).before args s = true) (hini : (Cond.initialized "java/lang/System").before args s = true) (hK : va_K D classes (zh_tys cA) s) (hH : zh_H D cA A kd ln I L R H) (hS : va_S A H0 H locs) {a0 : Nat} (hk0 : kd a0 = 102) (hkd : kd a = 102) {sp dp n : Nat} (hsp : sp + n ≤ ln a0) (hdp : dp + n ≤ ln a) (h31 : sp + n < 2 ^ 31 ∧ dp + n < 2 ^ 31) (hfit : ∀ i, i < n → fits .byte (.int (I a0 (sp + i))) = true) (hframes : 1 ≤ R0.frames) (hlocals : (rest.map fun v => v.category).sum + (nativeFrameWords "java/lang/System" "arraycopy" 5 + 11) ≤ R0.locals) (hdg : decode cc pc = .ok (.invokestatic index, 3))
    (kk : ∀ (H1 : Heap) (locs1 : List Loc), zh_H D cA A kd ln (va_up I a (va_cpy (I a0) (I a) sp dp n)) L R H1 → va_S A H0 H1 locs1 → W p l e R0 s m args below meth c H1 locs1 cells slots Q (F0 m (pc + 3) ls (rest))) : W p l e R0 s m args below meth c H locs cells slots Q (F0 m (pc) ls (.int (nI n) :: .int (nI dp) :: .ref a :: .int (nI sp) :: .ref a0 :: rest)) := by
  obtain ⟨Ls, hL, hP0, hD0⟩ := hH
  obtain ⟨jb, hjb⟩ := va_pl_get (X := []) (f := zh_en cA kd ln I L R) ((hL a0).mpr (show kd a0 ≠ 0 by omega))
  have hm := (hL a).mpr (show kd a ≠ 0 by omega)
  obtain ⟨j0, hj⟩ := va_pl_get (X := []) (f := zh_en cA kd ln I L R) hm
  have hj2 := hj
  rw [zh_en_a (t := 2) hkd] at hj2
  rw [zh_en_a (t := 2) hk0] at hjb
  have c1 : (nI sp).toNatClampNeg = sp := nI_clamp (by omega)
  have c2 : (nI dp).toNatClampNeg = dp := nI_clamp (by omega)
  have c3 : (nI n).toNatClampNeg = n := nI_clamp (by omega)
  refine va_copyi (ty := .byte) hexec hb hml hown hlink hnat hstat hini hK hP0 hD0 hS jb j0 2 2 hjb hj2 (zh_ty (by decide)) (zh_ty (by decide)) rfl (nI_pos (by omega)) (nI_pos (by omega)) (nI_pos (by omega)) (by rw [c1, c3]; exact hsp) (by rw [c2, c3]; exact hdp) (by rw [c1, c3]; exact hfit) hframes hlocals hdg fun H1 locs1 hP1 hD1 hS1 => ?_
  rw [c1, c2, c3] at hP1 hD1
  have e1 : zh_en cA kd ln (va_up I a (va_cpy (I a0) (I a) sp dp n)) L R a = .inl (cA 2, ln a, .inl (va_cpy (I a0) (I a) sp dp n)) := by
    rw [zh_en_a (t := 2) hkd, va_up_self]
    rfl
  have e2 : (va_pl Ls (zh_en cA kd ln I L R)).set j0 (a, zh_en cA kd ln (va_up I a (va_cpy (I a0) (I a) sp dp n)) L R a) = va_pl Ls (zh_en cA kd ln (va_up I a (va_cpy (I a0) (I a) sp dp n)) L R) := by
    refine (va_pl_set (X := []) (e := zh_en cA kd ln (va_up I a (va_cpy (I a0) (I a) sp dp n)) L R a) hD0 hm hj).trans (va_pl_congr fun b2 => ?_)
    by_cases hbq : b2 = a
    · subst hbq
      exact va_up_self _ _ _
    · rw [va_up_ne _ _ hbq]
      exact (zh_en_eq rfl rfl (va_up_ne _ _ hbq) rfl rfl).symm
  refine kk H1 locs1 ⟨Ls, hL, ?_, ?_⟩ hS1
  · rw [← e2, e1]
    exact hP1
  · rw [← e2, e1]
    exact hD1
theorem zr_zret {Qc : Array Value → State → Outcome → State → Prop} {free : Addr → Prop} {v : Int32} (hexec : p.tables.exec = Jvm.exec) (hb : c.code = cc) (hr : meth.sig.returnType = some .boolean) (h01 : v = 0 ∨ v = 1) (hq : ∀ t : State, t.heap = H → s.WarmedH t.vm → Qc args s (.returned (some (.int v))) t) (hf : ∀ q ∈ locs, free q.base) (hdg : decode cc pc = .ok (.ireturn, 1)) (hlocks : meth.locks = false) : W p l e R0 s m args below meth c H locs cells slots (MQ below Qc args s cells slots free) (F0 m pc ls [.int v]) := by
  refine W.zret hexec hb hr ?_ hq hf hdg hlocks
  rcases h01 with rfl | rfl <;> rfl
end ZQ
section ZX
variable {p : Program} {l : Launch} {e : Env} {R0 : Room} {s : State} {m : MethodId} {args : Array Value} {below : List Frame} {meth : Method} {c : Code} {H : Heap} {locs : List Loc} {cells slots : Nat} {Q : State → Prop}
variable {cc : ByteArray} {pc : Nat} {ls : Array Slot} {rest st0 : List Value} {D : va_G} {cA : Nat → ClassId} {A : Nat → Prop} {a : Nat} {H0 : Heap} {kd ln : Nat → Nat} {I : Nat → Nat → Int32} {L : Nat → Nat → Int64} {R : Nat → Nat → Option Nat}
theorem zr_cast (hexec : p.tables.exec = Jvm.exec) (hb : c.code = cc) {own nm : String} {index ci b : Nat} {q : vw_C} (hown : s.vm.findClass own = some m.cls) (hlink : (Cond.classLink own index nm).before args s = true) (hca : va_Nw (.castable q.1 nm) s) (hK : va_K D classes (zh_tys cA) s) (hH : zh_H D cA A kd ln I L R H) (hc : classes[ci]? = some q) (hci : ci < 99) (hkb : kd b = ci + 1) (hdg : decode cc pc = .ok (.checkcast index, 3))
    (kk : W p l e R0 s m args below meth c H locs cells slots Q (F0 m (pc + 3) ls (.ref b :: rest))) : W p l e R0 s m args below meth c H locs cells slots Q (F0 m (pc) ls (.ref b :: rest)) := va_castY hexec hb hown hlink hca (zh_recv hK hH hc hci hkb) hdg kk
theorem zr_copyq (hexec : p.tables.exec = Jvm.exec) (hb : c.code = cc) (hml : c.maxLocals = ls.size) {own : String} {index : Nat} (hown : s.vm.findClass own = some m.cls) (hlink : (Cond.methodLink own index arraycopyName).before args s = true) (hnat : (Cond.native arraycopyName).before args s = true) (hstat : (Cond.static arraycopyName).before args s = true) (hini : (Cond.initialized "java/lang/System").before args s = true) {t ci : Nat} {r : vw_C} {E : String} (ht4 : 4 ≤ t) (htn : t < zh_nt) (hto : zh_aty t = .object E) (hca : va_Nw (.castable r.1 E) s) (hc : classes[ci]? = some r) (hci : ci < 99) (hK : va_K D classes (zh_tys cA) s) (hH : zh_H D cA A kd ln I L R H) (hS : va_S A H0 H locs) {a0 : Nat} (hk0 : kd a0 = 100 + t) (hkd : kd a = 100 + t) {sp dp n : Nat} (hsp : sp + n ≤ ln a0) (hdp : dp + n ≤ ln a) (h31 : sp + n < 2 ^ 31 ∧ dp + n < 2 ^ 31) (hel : ∀ i, i < n → ∀ y, R a0 (sp + i) = some y → kd y = ci + 1) (hframes : 1 ≤ R0.frames) (hlocals : (rest.map fun v => v.category).sum + (nativeFrameWords "java/lang/System" "arraycopy" 5 + 11) ≤ R0.locals) (hdg : decode cc pc = .ok (.invokestatic index, 3))
    (kk : ∀ (H1 : Heap) (locs1 : List Loc), zh_H D cA A kd ln I L (va_up R a (va_cpy (R a0) (R a) sp dp n)) H1 → va_S A H0 H1 locs1 → W p l e R0 s m args below meth c H1 locs1 cells slots Q (F0 m (pc + 3) ls (rest))) : W p l e R0 s m args below meth c H locs cells slots Q (F0 m (pc) ls (.int (nI n) :: .int (nI dp) :: .ref a :: .int (nI sp) :: .ref a0 :: rest)) := by
  have hrecv : ∀ y, kd y = ci + 1 → ∃ cell : Cell, H[y]? = some cell ∧ cell.vm.isStatics = false ∧ s.vm.findClass r.1 = some cell.cls := fun y hy => zh_recv hK hH hc hci hy
  obtain ⟨Ls, hL, hP0, hD0⟩ := hH
  obtain ⟨jb, hjb⟩ := va_pl_get (X := []) (f := zh_en cA kd ln I L R) ((hL a0).mpr (show kd a0 ≠ 0 by omega))
  have hm := (hL a).mpr (show kd a ≠ 0 by omega)
  obtain ⟨j0, hj⟩ := va_pl_get (X := []) (f := zh_en cA kd ln I L R) hm
  have hj2 := hj
  rw [zh_en_a hkd, zh_ac_r ht4] at hj2
  rw [zh_en_a hk0, zh_ac_r ht4] at hjb
  have c1 : (nI sp).toNatClampNeg = sp := nI_clamp (by omega)
  have c2 : (nI dp).toNatClampNeg = dp := nI_clamp (by omega)
  have c3 : (nI n).toNatClampNeg = n := nI_clamp (by omega)
  refine va_copyq (E0 := E) (E1 := E) (C := r.1) hexec hb hml hown hlink hnat hstat hini hK hP0 hD0 hS jb j0 t t hjb hj2 (by rw [zh_ty htn, hto]) (by rw [zh_ty htn, hto]) (nI_pos (by omega)) (nI_pos (by omega)) (nI_pos (by omega)) (by rw [c1, c3]; exact hsp) (by rw [c2, c3]; exact hdp) (by rw [c1, c3]; exact fun i hi y hy => hrecv y (hel i hi y hy)) (fun comp c0 h1 h2 => ?_) hframes hlocals hdg fun H1 locs1 hP1 hD1 hS1 => ?_
  · obtain ⟨c9, t9, f1, f2, f3⟩ := Cond.castable_spec (va_Nw.use (A := args) rfl hca)
    cases h2.symm.trans f1
    cases h1.symm.trans f2
    exact f3
  · rw [c1, c2, c3] at hP1 hD1
    have e1 : zh_en cA kd ln I L (va_up R a (va_cpy (R a0) (R a) sp dp n)) a = .inl (cA t, ln a, .inr (.inr (.inr (.inr (va_cpy (R a0) (R a) sp dp n))))) := by
      rw [zh_en_a hkd, va_up_self, zh_ac_r ht4]
    have e2 : (va_pl Ls (zh_en cA kd ln I L R)).set j0 (a, zh_en cA kd ln I L (va_up R a (va_cpy (R a0) (R a) sp dp n)) a) = va_pl Ls (zh_en cA kd ln I L (va_up R a (va_cpy (R a0) (R a) sp dp n))) := by
      refine (va_pl_set (X := []) (e := zh_en cA kd ln I L (va_up R a (va_cpy (R a0) (R a) sp dp n)) a) hD0 hm hj).trans (va_pl_congr fun b2 => ?_)
      by_cases hbq : b2 = a
      · subst hbq
        exact va_up_self _ _ _
      · rw [va_up_ne _ _ hbq]
        exact (zh_en_eq rfl rfl rfl rfl (va_up_ne _ _ hbq)).symm
    refine kk H1 locs1 ⟨Ls, hL, ?_, ?_⟩ hS1
    · rw [← e2, e1]
      exact hP1
    · rw [← e2, e1]
      exact hD1
theorem zh_recvA {t : Nat} {C nm : String} (ht4 : 4 ≤ t) (htn : t < zh_nt) (hto : zh_aty t = .object C) (hnm : "[" ++ (FieldType.object C).toString = nm) (hK : va_K D classes (zh_tys cA) s) (hH : zh_H D cA A kd ln I L R H) (hkd : kd a = 100 + t) : ∃ cell : Cell, H[a]? = some cell ∧ cell.vm.isStatics = false ∧ s.vm.findClass nm = some cell.cls := by
  obtain ⟨ws, j0, hP, hD, hj, -⟩ := hH.out (show kd a ≠ 0 by omega)
  rw [zh_en_a hkd, zh_ac_r ht4] at hj
  have hc : H[a]? = some (vp_cell (cA t) (ln a, .inr (.inr (.inr (.inr (R a)))))) := hP j0 _ hj
  have h2 := (hK.2 t (cA t, .object C) (by rw [zh_ty htn, hto])).2
  refine ⟨_, hc, ?_, ?_⟩
  · rfl
  · rw [va_nmO h2 hnm]
    rfl
end ZX
/-- a post that says exactly what comes: answer and heap -/
abbrev zc_eq (V : Option Value) (K N : Nat → Nat) (I1 : Nat → Nat → Int32) (L1 : Nat → Nat → Int64) (R1 : Nat → Nat → Option Nat) : zc_T := fun v kd' ln' I' L' R' => V = v ∧ K = kd' ∧ N = ln' ∧ I1 = I' ∧ L1 = L' ∧ R1 = R'
theorem zt_sw (x : Int32) (n : Nat) (hn : n < 2 ^ 30) : (x.toInt < 0 ∨ (n : Int) < x.toInt) ∨ ∃ j : Nat, j ≤ n ∧ x = nI j := by
  rcases pk_ix x (n := n + 1) (by omega) with h | h | ⟨j, h1, h2⟩
  · refine Or.inl (Or.inl ?_)
    have := Int32.lt_iff_toInt_lt.mp h
    simpa using this
  · refine Or.inl (Or.inr ?_)
    have := Int32.le_iff_toInt_le.mp h
    rw [nI_toInt (by omega)] at this
    omega
  · exact Or.inr ⟨j, by omega, h2⟩
theorem zt_ix {x : Int32} {n : Nat} (h1 : ¬ x < nI 0) (h2 : x < nI n) (hn : n < 2 ^ 31) : ∃ j : Nat, j < n ∧ x = nI j := by
  rcases pk_ix x hn with h | h | h
  · exact absurd h h1
  · exact absurd h2 (Int32.not_lt.mpr h)
  · exact h
theorem zt_ix1 {x : Int32} {n : Nat} (h1 : ¬ x < nI 0) (h2 : ¬ nI n < x) (hn : n < 2 ^ 30) : ∃ j : Nat, j < n + 1 ∧ x = nI j := by
  rcases pk_ix x (n := n + 1) (by omega) with h | h | h
  · exact absurd h h1
  · refine absurd ?_ h2
    have := Int32.le_iff_toInt_le.mp h
    rw [nI_toInt (by omega)] at this
    refine Int32.lt_iff_toInt_lt.mpr ?_
    rw [nI_toInt (by omega)]
    omega
  · exact h
theorem zdf_Rec : ∀ j, j < 6 → defaultValue (ty_Rec j) = vp_V (zh_fs (fun _ => 0) (fun _ => 0) (fun _ => none) 0 (zh_lay 0)) j := by
  intro j hj
  rcases (show j = 0 ∨ j = 1 ∨ j = 2 ∨ j = 3 ∨ j = 4 ∨ j = 5 by omega) with rfl | rfl | rfl | rfl | rfl | rfl <;> rfl
theorem zdf_Mem : ∀ j, j < 8 → defaultValue (ty_Mem j) = vp_V (zh_fs (fun _ => 0) (fun _ => 0) (fun _ => none) 0 (zh_lay 1)) j := by
  intro j hj
  rcases (show j = 0 ∨ j = 1 ∨ j = 2 ∨ j = 3 ∨ j = 4 ∨ j = 5 ∨ j = 6 ∨ j = 7 by omega) with rfl | rfl | rfl | rfl | rfl | rfl | rfl | rfl <;> rfl
theorem zdf_St : ∀ j, j < 10 → defaultValue (ty_St j) = vp_V (zh_fs (fun _ => 0) (fun _ => 0) (fun _ => none) 0 (zh_lay 2)) j := by
  intro j hj
  rcases (show j = 0 ∨ j = 1 ∨ j = 2 ∨ j = 3 ∨ j = 4 ∨ j = 5 ∨ j = 6 ∨ j = 7 ∨ j = 8 ∨ j = 9 by omega) with rfl | rfl | rfl | rfl | rfl | rfl | rfl | rfl | rfl | rfl <;> rfl
theorem zdf_Pk : ∀ j, j < 8 → defaultValue (ty_Pk j) = vp_V (zh_fs (fun _ => 0) (fun _ => 0) (fun _ => none) 0 (zh_lay 3)) j := by
  intro j hj
  rcases (show j = 0 ∨ j = 1 ∨ j = 2 ∨ j = 3 ∨ j = 4 ∨ j = 5 ∨ j = 6 ∨ j = 7 by omega) with rfl | rfl | rfl | rfl | rfl | rfl | rfl | rfl <;> rfl
theorem zdf_Pb : ∀ j, j < 6 → defaultValue (ty_Pb j) = vp_V (zh_fs (fun _ => 0) (fun _ => 0) (fun _ => none) 0 (zh_lay 4)) j := by
  intro j hj
  rcases (show j = 0 ∨ j = 1 ∨ j = 2 ∨ j = 3 ∨ j = 4 ∨ j = 5 by omega) with rfl | rfl | rfl | rfl | rfl | rfl <;> rfl
theorem zdf_AL : ∀ j, j < 3 → defaultValue (ty_AL j) = vp_V (zh_fs (fun _ => 0) (fun _ => 0) (fun _ => none) 0 (zh_lay 5)) j := by
  intro j hj
  rcases (show j = 0 ∨ j = 1 ∨ j = 2 by omega) with rfl | rfl | rfl <;> rfl
theorem zdf_Mod : ∀ j, j < 37 → defaultValue (ty_Mod j) = vp_V (zh_fs (fun _ => 0) (fun _ => 0) (fun _ => none) 0 (zh_lay 6)) j := by
  intro j hj
  rcases (show j = 0 ∨ j = 1 ∨ j = 2 ∨ j = 3 ∨ j = 4 ∨ j = 5 ∨ j = 6 ∨ j = 7 ∨ j = 8 ∨ j = 9 ∨ j = 10 ∨ j = 11 ∨ j = 12 ∨ j = 13 ∨ j = 14 ∨ j = 15 ∨ j = 16 ∨ j = 17 ∨ j = 18 ∨ j = 19 ∨ j = 20 ∨ j = 21 ∨ j = 22 ∨ j = 23 ∨ j = 24 ∨ j = 25 ∨ j = 26 ∨ j = 27 ∨ j = 28 ∨ j = 29 ∨ j = 30 ∨ j = 31 ∨ j = 32 ∨ j = 33 ∨ j = 34 ∨ j = 35 ∨ j = 36 by omega) with rfl | rfl | rfl | rfl | rfl | rfl | rfl | rfl | rfl | rfl | rfl | rfl | rfl | rfl | rfl | rfl | rfl | rfl | rfl | rfl | rfl | rfl | rfl | rfl | rfl | rfl | rfl | rfl | rfl | rfl | rfl | rfl | rfl | rfl | rfl | rfl | rfl <;> rfl
