theorem zt_cat (o : Option Nat) : (va_rf o).category = 1 := by
  cases o <;> rfl
def zk_m1 (c : Nat → Nat → Int32) (d : Nat → Nat → Int64) (p k a : Nat) : Nat → Option Nat
  | 0 => none
  | n + 1 => if zk_hi (c (30 + p)) (c (zk_p k (a + n))) = nI 0 then zk_m1 c d p k a n else if zk_ask (d (zk_p k (a + n)) 7) = nI 0 then zk_m1 c d p k a n else match zk_m1 c d p k a n with
    | none => some (a + n)
    | some y => if lg_cmp (d (zk_p k (a + n)) 7) (d (zk_p k y) 7) < nI 0 then some (a + n) else some y
def zk_m2 (c : Nat → Nat → Int32) (p k a : Nat) : Nat → Option Nat
  | 0 => none
  | n + 1 => if zk_hi (c (30 + p)) (c (zk_p k (a + n))) = nI 0 then zk_m2 c p k a n else match zk_m2 c p k a n with
    | none => if c (30 + p) 5 < c (zk_p k (a + n)) 2 then some (a + n) else none
    | some y => some y
def zk_m3 (c : Nat → Nat → Int32) (p k a : Nat) : Nat → Option Nat
  | 0 => none
  | n + 1 => if zk_hi (c (30 + p)) (c (zk_p k (a + n))) = nI 0 then zk_m3 c p k a n else match zk_m3 c p k a n with
    | none => some (a + n)
    | some y => some y
theorem zk_m1_of {c : Nat → Nat → Int32} {d : Nat → Nat → Int64} {p k a : Nat} : ∀ {n y : Nat}, zk_m1 c d p k a n = some y → a ≤ y ∧ y < a + n
  | 0, _, h => by cases h
  | n + 1, y, h => by
    have ih := fun {y} (q : zk_m1 c d p k a n = some y) => zk_m1_of q
    rw [zk_m1] at h
    split at h
    · have := ih h
      omega
    · split at h
      · have := ih h
        omega
      · rcases e : zk_m1 c d p k a n with _ | z
        · rw [e] at h
          have := Option.some.inj h
          omega
        · rw [e] at h
          have h2 := ih e
          simp only at h
          split at h
          · have := Option.some.inj h
            omega
          · have := Option.some.inj h
            omega
theorem zk_m2_of {c : Nat → Nat → Int32} {p k a : Nat} : ∀ {n y : Nat}, zk_m2 c p k a n = some y → a ≤ y ∧ y < a + n
  | 0, _, h => by cases h
  | n + 1, y, h => by
    have ih := fun {y} (q : zk_m2 c p k a n = some y) => zk_m2_of q
    rw [zk_m2] at h
    split at h
    · have := ih h
      omega
    · rcases e : zk_m2 c p k a n with _ | z
      · rw [e] at h
        simp only at h
        split at h
        · have := Option.some.inj h
          omega
        · cases h
      · rw [e] at h
        have h2 := ih e
        have := Option.some.inj h
        omega
theorem zk_m3_of {c : Nat → Nat → Int32} {p k a : Nat} : ∀ {n y : Nat}, zk_m3 c p k a n = some y → a ≤ y ∧ y < a + n
  | 0, _, h => by cases h
  | n + 1, y, h => by
    have ih := fun {y} (q : zk_m3 c p k a n = some y) => zk_m3_of q
    rw [zk_m3] at h
    split at h
    · have := ih h
      omega
    · rcases e : zk_m3 c p k a n with _ | z
      · rw [e] at h
        have := Option.some.inj h
        omega
      · rw [e] at h
        have h2 := ih e
        have := Option.some.inj h
        omega
/-- the packet that playback p of store k sends next -/
def zk_nx (c : Nat → Nat → Int32) (d : Nat → Nat → Int64) (p k a : Nat) (n : Nat) : Option Nat := match zk_m1 c d p k a n with
  | some y => some y
  | none => match zk_m2 c p k a n with
    | some y => some y
    | none => zk_m3 c p k a n
theorem zk_nx_of {c : Nat → Nat → Int32} {d : Nat → Nat → Int64} {p k a n y : Nat} (h : zk_nx c d p k a n = some y) : a ≤ y ∧ y < a + n := by
  unfold zk_nx at h
  rcases e : zk_m1 c d p k a n with _ | z
  · rw [e] at h
    simp only at h
    rcases e2 : zk_m2 c p k a n with _ | z
    · rw [e2] at h
      exact zk_m3_of h
    · rw [e2] at h
      have := Option.some.inj h
      rw [← this]
      exact zk_m2_of e2
  · rw [e] at h
    have := Option.some.inj h
    rw [← this]
    exact zk_m1_of e
/-- which playback sends which packet, of the playbacks below n -/
def zk_fb (c : Nat → Nat → Int32) (d : Nat → Nat → Int64) (g : Nat → Nat → Nat) : Nat → Option (Nat × Nat)
  | 0 => none
  | p + 1 => if g 3 p = 0 then zk_fb c d g p else match zk_fb c d g p with
    | none => (zk_nx c d p (g 3 p - 1) (g 1 (g 3 p - 1)) (g 2 (g 3 p - 1) - g 1 (g 3 p - 1))).map (fun x => (p, x))
    | some (s, y) => if zk_gb (c (30 + p)) (c (30 + s)) (d (30 + p) 3) (d (30 + s) 3) = nI 0 then some (s, y) else match zk_nx c d p (g 3 p - 1) (g 1 (g 3 p - 1)) (g 2 (g 3 p - 1) - g 1 (g 3 p - 1)) with
      | none => some (s, y)
      | some x => some (p, x)
theorem zk_fb_of {c : Nat → Nat → Int32} {d : Nat → Nat → Int64} {g : Nat → Nat → Nat} : ∀ {n s y : Nat}, zk_fb c d g n = some (s, y) → s < n ∧ g 3 s ≠ 0 ∧ g 1 (g 3 s - 1) ≤ y ∧ y < g 1 (g 3 s - 1) + (g 2 (g 3 s - 1) - g 1 (g 3 s - 1))
  | 0, _, _, h => by cases h
  | p + 1, s, y, h => by
    have ih := fun {s y} (q : zk_fb c d g p = some (s, y)) => zk_fb_of q
    have up : ∀ {s y}, zk_fb c d g p = some (s, y) → s < p + 1 ∧ g 3 s ≠ 0 ∧ g 1 (g 3 s - 1) ≤ y ∧ y < g 1 (g 3 s - 1) + (g 2 (g 3 s - 1) - g 1 (g 3 s - 1)) := fun q => ⟨by have := (ih q).1; omega, (ih q).2⟩
    rw [zk_fb] at h
    split at h
    · exact up h
    · rename_i hg
      rcases e : zk_fb c d g p with _ | ⟨z, w⟩
      · rw [e] at h
        simp only at h
        rcases e2 : zk_nx c d p (g 3 p - 1) (g 1 (g 3 p - 1)) (g 2 (g 3 p - 1) - g 1 (g 3 p - 1)) with _ | x
        · rw [e2] at h
          cases h
        · rw [e2] at h
          cases h
          exact ⟨Nat.lt_succ_self _, hg, zk_nx_of e2⟩
      · rw [e] at h
        simp only at h
        split at h
        · cases h
          exact up e
        · rcases e2 : zk_nx c d p (g 3 p - 1) (g 1 (g 3 p - 1)) (g 2 (g 3 p - 1) - g 1 (g 3 p - 1)) with _ | x
          · rw [e2] at h
            cases h
            exact up e
          · rw [e2] at h
            cases h
            exact ⟨Nat.lt_succ_self _, hg, zk_nx_of e2⟩

set_option maxHeartbeats 4000000 in
set_option maxRecDepth 100000 in
/-- Playback.nextPacket -/
theorem c_Pb_nextPacket {l : Launch} {D : va_G} {cA : Nat → ClassId} {te mi : Nat} {kd ln : Nat → Nat} {I : Nat → Nat → Int32} {L : Nat → Nat → Int64} {R : Nat → Nat → Option Nat} {X : Nat} {a9 e9 : Nat → Nat} {c9 : Nat → Nat → Int32} {d9 : Nat → Nat → Int64} {g9 : Nat → Nat → Nat} (hm : zkR X te a9 e9 c9 d9 g9 kd ln I L R) {p9 k : Nat} (hp4 : p9 < 4) (hk4 : k < 4) (hgp : g9 3 p9 = k + 1) (hgk : g9 0 k ≠ 0) : zc_M l y_Pb_nextPacket w_Pb_nextPacket { frames := 3, cells := 0, slots := 0, locals := 64 } 0 0 D cA te mi ([.ref (a9 (30 + p9))] : List Value) kd ln I L R (zc_eq (some (va_rf ((zk_nx c9 d9 p9 k (g9 1 k) (g9 2 k - g9 1 k)).map (fun x => a9 (zk_p k x))))) kd ln I L R) := by
  intro sz
  refine Met.ofW (cc := b_Pb_nextPacket) (maxL := 6) (ret := (some ((.object "ScrubbedRecorder$Packet")))) (by decide +kernel) rfl ?_
  intro p e s m args below meth c s₁ B hml hv
  obtain ⟨rfl, hsz, hSc, hE, hH⟩ := hv
  have hx := B.exec
  have hb := B.bytes
  have hr := B.returns
  have hts := atoms_spec (ws := w_Pb_nextPacket) B.pre
  have hw : ∀ {w : Cond}, w ∈ zw → w.before ([.ref (a9 (30 + p9))] : List Value).toArray s = true := fun h => hts _ (List.mem_cons_of_mem _ h)
  have hown : s.vm.findClass R_Pb = some m.cls := findClass_of_methodNamed B.named
  have hlocks := B.notSynchronized
  subst hsz
  have hK := hSc.1
  have hH : zh_H D cA (zc_A kd s.heap.size) kd ln I L R s.heap := hH.weaken (fun q h _ => Or.inl h)
  generalize hAe : zc_A kd s.heap.size = A at hH hE ⊢
  have hA : ∀ q : Nat, s.heap.size ≤ q → A q := fun q h => by rw [← hAe]; exact Or.inr h
  have hS : va_S A s.heap s.heap [] := va_S.rf
  have hl := lv_entry ([.ref (a9 (30 + p9))] : List Value) (n := 6) (Nat.le_of_ble_eq_true rfl)
  rw [lg_entry_eq]
  generalize (lg_sl ([.ref (a9 (30 + p9))] : List Value) ++ List.replicate (6 - (lg_sl ([.ref (a9 (30 + p9))] : List Value)).length) Slot.unset).toArray = ls at hl ⊢
  have hl : lv_has ls 6 [(0, .ref (a9 (30 + p9)))] := hl
  have hn15 := zkR_cnt hm hk4 hgk
  refine lv_null hx hb d_Pb_nextPacket_0 ?_
  refine lv_astore_nN (lv' := [(1, .null), (0, .ref (a9 (30 + p9)))]) hx hb d_Pb_nextPacket_1 rfl hl (by decide) rfl (fun ls hl => ?_)
  refine lv_null hx hb d_Pb_nextPacket_2 ?_
  refine lv_astore_nN (lv' := [(2, .null), (1, .null), (0, .ref (a9 (30 + p9)))]) hx hb d_Pb_nextPacket_3 rfl hl (by decide) rfl (fun ls hl => ?_)
  refine lv_null hx hb d_Pb_nextPacket_4 ?_
  refine lv_astore_nN (lv' := [(3, .null), (2, .null), (1, .null), (0, .ref (a9 (30 + p9)))]) hx hb d_Pb_nextPacket_5 rfl hl (by decide) rfl (fun ls hl => ?_)
  refine lv_iconst (v := nI 0) hx hb d_Pb_nextPacket_6 (by decide) ?_
  refine lv_istore (lv' := [(4, .int (nI 0)), (3, .null), (2, .null), (1, .null), (0, .ref (a9 (30 + p9)))]) hx hb d_Pb_nextPacket_7 hl (by decide) rfl (fun ls hl => ?_)
  have loop_9 : ∀ (z : Nat) (i : Nat) (H : Heap) (locs : List Loc) (ls : Array Slot), g9 2 k - g9 1 k - i < z → (i ≤ g9 2 k - g9 1 k) → lv_has ls 6 [(0, .ref (a9 (30 + p9))), (1, va_rf ((zk_m1 c9 d9 p9 k (g9 1 k) i).map (fun x => a9 (zk_p k x)))), (2, va_rf ((zk_m2 c9 p9 k (g9 1 k) i).map (fun x => a9 (zk_p k x)))), (3, va_rf ((zk_m3 c9 p9 k (g9 1 k) i).map (fun x => a9 (zk_p k x)))), (4, .int (nI i))] → zh_H D cA A kd ln I L R H → va_S A s.heap H locs → W p l e (headSpec w_Pb_nextPacket { frames := 3, cells := 0, slots := 0, locals := 64 }).room s m ([.ref (a9 (30 + p9))] : List Value).toArray below meth c H locs 0 0 (MQ below (zc_Qc D cA A (zc_eq (some (va_rf ((zk_nx c9 d9 p9 k (g9 1 k) (g9 2 k - g9 1 k)).map (fun x => a9 (zk_p k x))))) kd ln I L R)) ([.ref (a9 (30 + p9))] : List Value).toArray s 0 0 A) (F0 m 9 ls []) := by
    intro z
    induction z with
    | zero => intro i H locs ls hz; exact absurd hz (Nat.not_lt_zero _)
    | succ z ih_9 =>
      intro i H locs ls hz_9 hi hl hH hS
      refine lv_iload hx hb d_Pb_nextPacket_9 (lv_at hl 4 rfl) ?_
      refine lv_aload_n hx hb d_Pb_nextPacket_11 rfl (lv_at hl 0 rfl) ?_
      refine zr_getr (ci := 4) (C := R_Pb) (T := T_Pb) (N := 6) (ref := "ScrubbedRecorder$Playback") hx hb hts (fun w h => List.mem_cons_of_mem _ (zin_Pb w h)) hown hK hH ((zkR_k hm (zk_lv3 (by omega) (show g9 3 p9 ≠ 0 by omega))).trans (zk_k3 (by omega))) (by decide) rfl 4 (by decide) rfl (hw zw_380) (fun _ h9 => h9) d_Pb_nextPacket_12 ((zkR_pb hm (by omega) (show g9 3 p9 ≠ 0 by omega)).2.trans (by rw [hgp, show 9 + (k + 1) = 10 + k by omega])) ?_
      refine zr_getr (ci := 2) (C := R_St) (T := T_St) (N := 10) (ref := "ScrubbedRecorder$Store") hx hb hts (fun w h => List.mem_cons_of_mem _ (zin_St w h)) hown hK hH ((zkR_k hm (zk_lv1 (by omega) hgk)).trans (zk_k1 (by omega))) (by decide) rfl 5 (by decide) rfl (hw zw_130) (fun _ h9 => h9) d_Pb_nextPacket_15 (zkR_st hm (by omega) hgk).2.2.2.1 ?_
      refine zr_V (As := ([] : List Value)) (rest := [.int (nI i)]) (b := a9 (40 + k)) (ci := 5) (q := (R_AL, T_AL, 3)) ⟨hx, hb, hml, hown, hts⟩ (c_ALk_size hm (by omega) hgk) ⟨(callB_of 0 hts (zg_all zw_172) rfl rfl rfl (hw zw_7) (hw zw_413) k_AL_size.2 ⟨Nat.le_of_ble_eq_true rfl, Nat.le_of_ble_eq_true rfl⟩), (hw zw_170), (hw zw_171)⟩ hSc hE hH hS hA rfl (by decide) (zkR_st hm (by omega) hgk).2.2.2.2.1 rfl hl.1 rfl (Nat.le_of_ble_eq_true rfl) d_Pb_nextPacket_18 ⟨Nat.le_of_ble_eq_true rfl, Nat.le_of_ble_eq_true rfl⟩ (fun v1 kd1 ln1 I1 L1 R1 H locs hp hH hS => ?_)
      obtain ⟨rfl, rfl, rfl, rfl, rfl, rfl⟩ := hp
      refine W.eq (g2 := F0 m 21 ls [.int (nI (g9 2 k - g9 1 k)), .int (nI i)]) rfl ?_
      refine W.widen (k := 0) (n := 0) (by omega) (by omega) ?_
      refine lv_icmp_ge (tgt := 113) hx hb d_Pb_nextPacket_21 (by decide) (fun hc2 => ?_) (fun hc2 => ?_)
      · skip
        have hc2 := zt_geT (a := i) (b := (g9 2 k - g9 1 k)) (by omega) (by omega) hc2
        have hi2 : i = g9 2 k - g9 1 k := by omega
        rw [hi2] at hl
        rcases hz1 : zk_m1 c9 d9 p9 k (g9 1 k) (g9 2 k - g9 1 k) with _ | z1
        · skip
          have hl : lv_has ls 6 [(0, .ref (a9 (30 + p9))), (1, .null), (2, va_rf ((zk_m2 c9 p9 k (g9 1 k) (g9 2 k - g9 1 k)).map (fun x => a9 (zk_p k x)))), (3, va_rf ((zk_m3 c9 p9 k (g9 1 k) (g9 2 k - g9 1 k)).map (fun x => a9 (zk_p k x)))), (4, .int (nI (g9 2 k - g9 1 k)))] := by rw [hz1] at hl; exact hl
          refine lv_aload_nN hx hb d_Pb_nextPacket_113 rfl (lv_at hl 1 rfl) ?_
          refine lv_ifnullN (tgt := 119) hx hb d_Pb_nextPacket_114 (by decide) ?_
          rcases hz2 : zk_m2 c9 p9 k (g9 1 k) (g9 2 k - g9 1 k) with _ | z2
          · skip
            have hl : lv_has ls 6 [(0, .ref (a9 (30 + p9))), (1, .null), (2, .null), (3, va_rf ((zk_m3 c9 p9 k (g9 1 k) (g9 2 k - g9 1 k)).map (fun x => a9 (zk_p k x)))), (4, .int (nI (g9 2 k - g9 1 k)))] := by rw [hz2] at hl; exact hl
            refine lv_aload_nN hx hb d_Pb_nextPacket_119 rfl (lv_at hl 2 rfl) ?_
            refine lv_ifnullN (tgt := 127) hx hb d_Pb_nextPacket_120 (by decide) ?_
            rcases hz3 : zk_m3 c9 p9 k (g9 1 k) (g9 2 k - g9 1 k) with _ | z3
            · skip
              have hl : lv_has ls 6 [(0, .ref (a9 (30 + p9))), (1, .null), (2, .null), (3, .null), (4, .int (nI (g9 2 k - g9 1 k)))] := by rw [hz3] at hl; exact hl
              refine lv_aload_nN hx hb d_Pb_nextPacket_127 rfl (lv_at hl 3 rfl) ?_
              have hnx : zk_nx c9 d9 p9 k (g9 1 k) (g9 2 k - g9 1 k) = none := by unfold zk_nx; rw [hz1]; show (match zk_m2 c9 p9 k (g9 1 k) (g9 2 k - g9 1 k) with | some y => some y | none => zk_m3 c9 p9 k (g9 1 k) (g9 2 k - g9 1 k)) = _; rw [hz2]; exact hz3
              refine W.widen (k := 0) (n := 0) (Nat.le_of_ble_eq_true rfl) (Nat.le_of_ble_eq_true rfl) ?_
              subst hAe
              exact W.aret hx hb hr (Or.inl ⟨_, rfl⟩) (Or.inl rfl) (fun t ht hW => zc_end hS hH ht (⟨by rw [hnx]; rfl, rfl, rfl, rfl, rfl, rfl⟩)) hS.2.2 d_Pb_nextPacket_128
            · skip
              have hl : lv_has ls 6 [(0, .ref (a9 (30 + p9))), (1, .null), (2, .null), (3, .ref (a9 (zk_p k z3))), (4, .int (nI (g9 2 k - g9 1 k)))] := by rw [hz3] at hl; exact hl
              obtain ⟨lz3, uz3⟩ := zk_m3_of hz3
              refine lv_aload_n hx hb d_Pb_nextPacket_127 rfl (lv_at hl 3 rfl) ?_
              have hnx : zk_nx c9 d9 p9 k (g9 1 k) (g9 2 k - g9 1 k) = some z3 := by unfold zk_nx; rw [hz1]; show (match zk_m2 c9 p9 k (g9 1 k) (g9 2 k - g9 1 k) with | some y => some y | none => zk_m3 c9 p9 k (g9 1 k) (g9 2 k - g9 1 k)) = _; rw [hz2]; exact hz3
              refine W.widen (k := 0) (n := 0) (Nat.le_of_ble_eq_true rfl) (Nat.le_of_ble_eq_true rfl) ?_
              subst hAe
              exact W.aret hx hb hr (Or.inl ⟨_, rfl⟩) (Or.inr ⟨_, rfl⟩) (fun t ht hW => zc_end hS hH ht (⟨by rw [hnx]; rfl, rfl, rfl, rfl, rfl, rfl⟩)) hS.2.2 d_Pb_nextPacket_128
          · skip
            have hl : lv_has ls 6 [(0, .ref (a9 (30 + p9))), (1, .null), (2, .ref (a9 (zk_p k z2))), (3, va_rf ((zk_m3 c9 p9 k (g9 1 k) (g9 2 k - g9 1 k)).map (fun x => a9 (zk_p k x)))), (4, .int (nI (g9 2 k - g9 1 k)))] := by rw [hz2] at hl; exact hl
            obtain ⟨lz2, uz2⟩ := zk_m2_of hz2
            refine lv_aload_n hx hb d_Pb_nextPacket_119 rfl (lv_at hl 2 rfl) ?_
            refine lv_ifnull hx hb d_Pb_nextPacket_120 ?_
            refine lv_aload_n hx hb d_Pb_nextPacket_123 rfl (lv_at hl 2 rfl) ?_
            refine lv_goto (tgt := 128) hx hb d_Pb_nextPacket_124 (by decide) ?_
            have hnx : zk_nx c9 d9 p9 k (g9 1 k) (g9 2 k - g9 1 k) = some z2 := by unfold zk_nx; rw [hz1]; show (match zk_m2 c9 p9 k (g9 1 k) (g9 2 k - g9 1 k) with | some y => some y | none => zk_m3 c9 p9 k (g9 1 k) (g9 2 k - g9 1 k)) = _; rw [hz2]
            refine W.widen (k := 0) (n := 0) (Nat.le_of_ble_eq_true rfl) (Nat.le_of_ble_eq_true rfl) ?_
            subst hAe
            exact W.aret hx hb hr (Or.inl ⟨_, rfl⟩) (Or.inr ⟨_, rfl⟩) (fun t ht hW => zc_end hS hH ht (⟨by rw [hnx]; rfl, rfl, rfl, rfl, rfl, rfl⟩)) hS.2.2 d_Pb_nextPacket_128
        · skip
          have hl : lv_has ls 6 [(0, .ref (a9 (30 + p9))), (1, .ref (a9 (zk_p k z1))), (2, va_rf ((zk_m2 c9 p9 k (g9 1 k) (g9 2 k - g9 1 k)).map (fun x => a9 (zk_p k x)))), (3, va_rf ((zk_m3 c9 p9 k (g9 1 k) (g9 2 k - g9 1 k)).map (fun x => a9 (zk_p k x)))), (4, .int (nI (g9 2 k - g9 1 k)))] := by rw [hz1] at hl; exact hl
          obtain ⟨lz1, uz1⟩ := zk_m1_of hz1
          refine lv_aload_n hx hb d_Pb_nextPacket_113 rfl (lv_at hl 1 rfl) ?_
          refine lv_ifnull hx hb d_Pb_nextPacket_114 ?_
          refine lv_aload_n hx hb d_Pb_nextPacket_117 rfl (lv_at hl 1 rfl) ?_
          have hnx : zk_nx c9 d9 p9 k (g9 1 k) (g9 2 k - g9 1 k) = some z1 := by unfold zk_nx; rw [hz1]
          refine W.widen (k := 0) (n := 0) (Nat.le_of_ble_eq_true rfl) (Nat.le_of_ble_eq_true rfl) ?_
          subst hAe
          exact W.aret hx hb hr (Or.inl ⟨_, rfl⟩) (Or.inr ⟨_, rfl⟩) (fun t ht hW => zc_end hS hH ht (⟨by rw [hnx]; rfl, rfl, rfl, rfl, rfl, rfl⟩)) hS.2.2 d_Pb_nextPacket_118
      · skip
        have hc2 := zt_geF (a := i) (b := (g9 2 k - g9 1 k)) (by omega) (by omega) hc2
        refine lv_aload_n hx hb d_Pb_nextPacket_24 rfl (lv_at hl 0 rfl) ?_
        refine zr_getr (ci := 4) (C := R_Pb) (T := T_Pb) (N := 6) (ref := "ScrubbedRecorder$Playback") hx hb hts (fun w h => List.mem_cons_of_mem _ (zin_Pb w h)) hown hK hH ((zkR_k hm (zk_lv3 (by omega) (show g9 3 p9 ≠ 0 by omega))).trans (zk_k3 (by omega))) (by decide) rfl 4 (by decide) rfl (hw zw_380) (fun _ h9 => h9) d_Pb_nextPacket_25 ((zkR_pb hm (by omega) (show g9 3 p9 ≠ 0 by omega)).2.trans (by rw [hgp, show 9 + (k + 1) = 10 + k by omega])) ?_
        refine zr_getr (ci := 2) (C := R_St) (T := T_St) (N := 10) (ref := "ScrubbedRecorder$Store") hx hb hts (fun w h => List.mem_cons_of_mem _ (zin_St w h)) hown hK hH ((zkR_k hm (zk_lv1 (by omega) hgk)).trans (zk_k1 (by omega))) (by decide) rfl 5 (by decide) rfl (hw zw_130) (fun _ h9 => h9) d_Pb_nextPacket_28 (zkR_st hm (by omega) hgk).2.2.2.1 ?_
        refine lv_iload hx hb d_Pb_nextPacket_31 (lv_at hl 4 rfl) ?_
        refine zr_V (As := ([.int (nI i)] : List Value)) (rest := []) (b := a9 (40 + k)) (ci := 5) (q := (R_AL, T_AL, 3)) ⟨hx, hb, hml, hown, hts⟩ (c_ALk_get (j := i) hm (by omega) hgk (by omega)) ⟨(callB_of 1 hts (zg_all zw_176) rfl rfl rfl (hw zw_7) (hw zw_414) k_AL_get.2 ⟨Nat.le_of_ble_eq_true rfl, Nat.le_of_ble_eq_true rfl⟩), (hw zw_174), (hw zw_175)⟩ hSc hE hH hS hA rfl (by decide) (zkR_st hm (by omega) hgk).2.2.2.2.1 rfl hl.1 rfl (Nat.le_of_ble_eq_true rfl) d_Pb_nextPacket_33 ⟨Nat.le_of_ble_eq_true rfl, Nat.le_of_ble_eq_true rfl⟩ (fun v3 kd3 ln3 I3 L3 R3 H locs hp hH hS => ?_)
        obtain ⟨rfl, rfl, rfl, rfl, rfl, rfl⟩ := hp
        refine W.eq (g2 := F0 m 36 ls [.ref (a9 (zk_p k (g9 1 k + i)))]) rfl ?_
        refine W.widen (k := 0) (n := 0) (by omega) (by omega) ?_
        refine zr_cast (ci := 3) (nm := "ScrubbedRecorder$Packet") hx hb hown (hw zw_415) (hSc.2.1 _ (by decide +kernel)) hK hH rfl (by decide) ((zkR_k hm (zk_lvp (by omega) hgk (by omega) (by omega))).trans zk_kp) d_Pb_nextPacket_36 ?_
        refine lv_astore (lv' := [(5, .ref (a9 (zk_p k (g9 1 k + i)))), (0, .ref (a9 (30 + p9))), (1, va_rf ((zk_m1 c9 d9 p9 k (g9 1 k) i).map (fun x => a9 (zk_p k x)))), (2, va_rf ((zk_m2 c9 p9 k (g9 1 k) i).map (fun x => a9 (zk_p k x)))), (3, va_rf ((zk_m3 c9 p9 k (g9 1 k) i).map (fun x => a9 (zk_p k x)))), (4, .int (nI i))]) hx hb d_Pb_nextPacket_39 hl (by decide) (by generalize ((zk_m1 c9 d9 p9 k (g9 1 k) i).map (fun x => a9 (zk_p k x))) = o0; generalize ((zk_m2 c9 p9 k (g9 1 k) i).map (fun x => a9 (zk_p k x))) = o1; generalize ((zk_m3 c9 p9 k (g9 1 k) i).map (fun x => a9 (zk_p k x))) = o2; cases o0 <;> cases o1 <;> cases o2 <;> rfl) (fun ls hl => ?_)
        refine lv_aload_n hx hb d_Pb_nextPacket_41 rfl (lv_at hl 1 rfl) ?_
        refine lv_aload hx hb d_Pb_nextPacket_42 (lv_at hl 0 rfl) ?_
        refine zr_V (As := ([.ref (a9 (zk_p k (g9 1 k + i)))] : List Value)) (rest := []) (b := a9 (30 + p9)) (ci := 4) (q := (R_Pb, T_Pb, 6)) ⟨hx, hb, hml, hown, hts⟩ (c_Pb_hasIn ((zkR_k hm (zk_lv3 (by omega) (show g9 3 p9 ≠ 0 by omega))).trans (zk_k3 (by omega))) ((zkR_k hm (zk_lvp (by omega) hgk (by omega) (by omega))).trans zk_kp)) ⟨(callB_of 1 hts (zg_all zw_419) rfl rfl rfl (hw zw_15) (hw zw_416) k_Pb_hasIn.2 ⟨Nat.le_of_ble_eq_true rfl, Nat.le_of_ble_eq_true rfl⟩), (hw zw_418), (hw zs_Pb_hasIn)⟩ hSc hE hH hS hA rfl (by decide) ((zkR_k hm (zk_lv3 (by omega) (show g9 3 p9 ≠ 0 by omega))).trans (zk_k3 (by omega))) rfl hl.1 rfl (Nat.le_of_ble_eq_true rfl) d_Pb_nextPacket_44 ⟨Nat.le_of_ble_eq_true rfl, Nat.le_of_ble_eq_true rfl⟩ (fun v4 kd4 ln4 I4 L4 R4 H locs hp hH hS => ?_)
        obtain ⟨rfl, rfl, rfl, rfl, rfl, rfl⟩ := hp
        rw [show I (a9 (30 + p9)) = c9 (30 + p9) from zkR_i hm (zk_lv3 (by omega) (show g9 3 p9 ≠ 0 by omega)), show I (a9 (zk_p k (g9 1 k + i))) = c9 (zk_p k (g9 1 k + i)) from zkR_i hm (zk_lvp (by omega) hgk (by omega) (by omega))]
        refine W.eq (g2 := F0 m 47 ls [.int (zk_hi (c9 (30 + p9)) (c9 (zk_p k (g9 1 k + i))))]) rfl ?_
        refine W.widen (k := 0) (n := 0) (by omega) (by omega) ?_
        refine lv_if_ne (tgt := 53) hx hb d_Pb_nextPacket_47 (by decide) (fun hc5 => ?_) (fun hc5 => ?_)
        · skip
          have hc5 : ¬ (zk_hi (c9 (30 + p9)) (c9 (zk_p k (g9 1 k + i)))) = (nI 0) := hc5
          have hhi : ¬ zk_hi (c9 (30 + p9)) (c9 (zk_p k (g9 1 k + i))) = nI 0 := hc5
          have join_81 : ∀  (H : Heap) (locs : List Loc) (ls : Array Slot), lv_has ls 6 [(0, .ref (a9 (30 + p9))), (1, va_rf ((zk_m1 c9 d9 p9 k (g9 1 k) (i + 1)).map (fun x => a9 (zk_p k x)))), (2, va_rf ((zk_m2 c9 p9 k (g9 1 k) i).map (fun x => a9 (zk_p k x)))), (3, va_rf ((zk_m3 c9 p9 k (g9 1 k) i).map (fun x => a9 (zk_p k x)))), (4, .int (nI i)), (5, .ref (a9 (zk_p k (g9 1 k + i))))] → zh_H D cA A kd ln I L R H → va_S A s.heap H locs → W p l e (headSpec w_Pb_nextPacket { frames := 3, cells := 0, slots := 0, locals := 64 }).room s m ([.ref (a9 (30 + p9))] : List Value).toArray below meth c H locs 0 0 (MQ below (zc_Qc D cA A (zc_eq (some (va_rf ((zk_nx c9 d9 p9 k (g9 1 k) (g9 2 k - g9 1 k)).map (fun x => a9 (zk_p k x))))) kd ln I L R)) ([.ref (a9 (30 + p9))] : List Value).toArray s 0 0 A) (F0 m 81 ls []) := by
            intro  H locs ls  hl hH hS
            have join_100 : ∀  (H : Heap) (locs : List Loc) (ls : Array Slot), lv_has ls 6 [(0, .ref (a9 (30 + p9))), (1, va_rf ((zk_m1 c9 d9 p9 k (g9 1 k) (i + 1)).map (fun x => a9 (zk_p k x)))), (2, va_rf ((zk_m2 c9 p9 k (g9 1 k) (i + 1)).map (fun x => a9 (zk_p k x)))), (3, va_rf ((zk_m3 c9 p9 k (g9 1 k) i).map (fun x => a9 (zk_p k x)))), (4, .int (nI i)), (5, .ref (a9 (zk_p k (g9 1 k + i))))] → zh_H D cA A kd ln I L R H → va_S A s.heap H locs → W p l e (headSpec w_Pb_nextPacket { frames := 3, cells := 0, slots := 0, locals := 64 }).room s m ([.ref (a9 (30 + p9))] : List Value).toArray below meth c H locs 0 0 (MQ below (zc_Qc D cA A (zc_eq (some (va_rf ((zk_nx c9 d9 p9 k (g9 1 k) (g9 2 k - g9 1 k)).map (fun x => a9 (zk_p k x))))) kd ln I L R)) ([.ref (a9 (30 + p9))] : List Value).toArray s 0 0 A) (F0 m 100 ls []) := by
              intro  H locs ls  hl hH hS
              rcases hy3 : zk_m3 c9 p9 k (g9 1 k) i with _ | y3
              · skip
                have hl : lv_has ls 6 [(0, .ref (a9 (30 + p9))), (1, va_rf ((zk_m1 c9 d9 p9 k (g9 1 k) (i + 1)).map (fun x => a9 (zk_p k x)))), (2, va_rf ((zk_m2 c9 p9 k (g9 1 k) (i + 1)).map (fun x => a9 (zk_p k x)))), (3, .null), (4, .int (nI i)), (5, .ref (a9 (zk_p k (g9 1 k + i))))] := by rw [hy3] at hl; exact hl
                refine lv_aload_nN hx hb d_Pb_nextPacket_100 rfl (lv_at hl 3 rfl) ?_
                refine lv_ifnonnullN hx hb d_Pb_nextPacket_101 ?_
                refine lv_aload hx hb d_Pb_nextPacket_104 (lv_at hl 5 rfl) ?_
                refine lv_astore_n (lv' := [(3, .ref (a9 (zk_p k (g9 1 k + i)))), (0, .ref (a9 (30 + p9))), (1, va_rf ((zk_m1 c9 d9 p9 k (g9 1 k) (i + 1)).map (fun x => a9 (zk_p k x)))), (2, va_rf ((zk_m2 c9 p9 k (g9 1 k) (i + 1)).map (fun x => a9 (zk_p k x)))), (4, .int (nI i)), (5, .ref (a9 (zk_p k (g9 1 k + i))))]) hx hb d_Pb_nextPacket_106 rfl hl (by decide) (by generalize ((zk_m1 c9 d9 p9 k (g9 1 k) (i + 1)).map (fun x => a9 (zk_p k x))) = o0; generalize ((zk_m2 c9 p9 k (g9 1 k) (i + 1)).map (fun x => a9 (zk_p k x))) = o1; cases o0 <;> cases o1 <;> rfl) (fun ls hl => ?_)
                refine lv_iinc (k := 4) (v := nI (i + 1)) (lv' := [(4, .int (nI (i + 1))), (3, .ref (a9 (zk_p k (g9 1 k + i)))), (0, .ref (a9 (30 + p9))), (1, va_rf ((zk_m1 c9 d9 p9 k (g9 1 k) (i + 1)).map (fun x => a9 (zk_p k x)))), (2, va_rf ((zk_m2 c9 p9 k (g9 1 k) (i + 1)).map (fun x => a9 (zk_p k x)))), (5, .ref (a9 (zk_p k (g9 1 k + i))))]) hx hb d_Pb_nextPacket_107 hl rfl (nI_add i 1) (by decide) (by generalize ((zk_m1 c9 d9 p9 k (g9 1 k) (i + 1)).map (fun x => a9 (zk_p k x))) = o0; generalize ((zk_m2 c9 p9 k (g9 1 k) (i + 1)).map (fun x => a9 (zk_p k x))) = o1; cases o0 <;> cases o1 <;> rfl) (fun ls hl => ?_)
                refine lv_goto (tgt := 9) hx hb d_Pb_nextPacket_110 (by decide) ?_
                have ez6 : ((zk_m3 c9 p9 k (g9 1 k) (i + 1)).map (fun x => a9 (zk_p k x))) = some (a9 (zk_p k (g9 1 k + i))) := by rw [zk_m3, if_neg hhi, hy3]; rfl
                have hl : lv_has ls 6 [(4, .int (nI (i + 1))), (3, va_rf ((zk_m3 c9 p9 k (g9 1 k) (i + 1)).map (fun x => a9 (zk_p k x)))), (0, .ref (a9 (30 + p9))), (1, va_rf ((zk_m1 c9 d9 p9 k (g9 1 k) (i + 1)).map (fun x => a9 (zk_p k x)))), (2, va_rf ((zk_m2 c9 p9 k (g9 1 k) (i + 1)).map (fun x => a9 (zk_p k x)))), (5, .ref (a9 (zk_p k (g9 1 k + i))))] := by rw [ez6]; exact hl
                exact ih_9 (i + 1) _ _ _ (by omega) (by omega) (lv_sub hl [2, 3, 4, 1, 0] rfl) hH hS
              · skip
                have hl : lv_has ls 6 [(0, .ref (a9 (30 + p9))), (1, va_rf ((zk_m1 c9 d9 p9 k (g9 1 k) (i + 1)).map (fun x => a9 (zk_p k x)))), (2, va_rf ((zk_m2 c9 p9 k (g9 1 k) (i + 1)).map (fun x => a9 (zk_p k x)))), (3, .ref (a9 (zk_p k y3))), (4, .int (nI i)), (5, .ref (a9 (zk_p k (g9 1 k + i))))] := by rw [hy3] at hl; exact hl
                obtain ⟨ly3, uy3⟩ := zk_m3_of hy3
                refine lv_aload_n hx hb d_Pb_nextPacket_100 rfl (lv_at hl 3 rfl) ?_
                refine lv_ifnonnull (tgt := 107) hx hb d_Pb_nextPacket_101 (by decide) ?_
                refine lv_iinc (k := 4) (v := nI (i + 1)) (lv' := [(4, .int (nI (i + 1))), (0, .ref (a9 (30 + p9))), (1, va_rf ((zk_m1 c9 d9 p9 k (g9 1 k) (i + 1)).map (fun x => a9 (zk_p k x)))), (2, va_rf ((zk_m2 c9 p9 k (g9 1 k) (i + 1)).map (fun x => a9 (zk_p k x)))), (3, .ref (a9 (zk_p k y3))), (5, .ref (a9 (zk_p k (g9 1 k + i))))]) hx hb d_Pb_nextPacket_107 hl rfl (nI_add i 1) (by decide) (by generalize ((zk_m1 c9 d9 p9 k (g9 1 k) (i + 1)).map (fun x => a9 (zk_p k x))) = o0; generalize ((zk_m2 c9 p9 k (g9 1 k) (i + 1)).map (fun x => a9 (zk_p k x))) = o1; cases o0 <;> cases o1 <;> rfl) (fun ls hl => ?_)
                refine lv_goto (tgt := 9) hx hb d_Pb_nextPacket_110 (by decide) ?_
                have ez7 : ((zk_m3 c9 p9 k (g9 1 k) (i + 1)).map (fun x => a9 (zk_p k x))) = some (a9 (zk_p k y3)) := by rw [zk_m3, if_neg hhi, hy3]; rfl
                have hl : lv_has ls 6 [(4, .int (nI (i + 1))), (0, .ref (a9 (30 + p9))), (1, va_rf ((zk_m1 c9 d9 p9 k (g9 1 k) (i + 1)).map (fun x => a9 (zk_p k x)))), (2, va_rf ((zk_m2 c9 p9 k (g9 1 k) (i + 1)).map (fun x => a9 (zk_p k x)))), (3, va_rf ((zk_m3 c9 p9 k (g9 1 k) (i + 1)).map (fun x => a9 (zk_p k x)))), (5, .ref (a9 (zk_p k (g9 1 k + i))))] := by rw [ez7]; exact hl
                exact ih_9 (i + 1) _ _ _ (by omega) (by omega) (lv_sub hl [1, 2, 3, 4, 0] rfl) hH hS
            rcases hy2 : zk_m2 c9 p9 k (g9 1 k) i with _ | y2
            · skip
              have hl : lv_has ls 6 [(0, .ref (a9 (30 + p9))), (1, va_rf ((zk_m1 c9 d9 p9 k (g9 1 k) (i + 1)).map (fun x => a9 (zk_p k x)))), (2, .null), (3, va_rf ((zk_m3 c9 p9 k (g9 1 k) i).map (fun x => a9 (zk_p k x)))), (4, .int (nI i)), (5, .ref (a9 (zk_p k (g9 1 k + i))))] := by rw [hy2] at hl; exact hl
              refine lv_aload_nN hx hb d_Pb_nextPacket_81 rfl (lv_at hl 2 rfl) ?_
              refine lv_ifnonnullN hx hb d_Pb_nextPacket_82 ?_
              refine lv_aload hx hb d_Pb_nextPacket_85 (lv_at hl 5 rfl) ?_
              refine zr_geti (ci := 3) (C := R_Pk) (T := T_Pk) (N := 8) (ref := "ScrubbedRecorder$Packet") hx hb hts (fun w h => List.mem_cons_of_mem _ (zin_Pk w h)) hown hK hH ((zkR_k hm (zk_lvp (by omega) hgk (by omega) (by omega))).trans zk_kp) (by decide) rfl 2 (by decide) rfl (hw zw_265) (fun _ h9 => h9) d_Pb_nextPacket_87 ?_
              refine zt_i (y := c9 (zk_p k (g9 1 k + i)) 2) (congrFun (zkR_i hm (zk_lvp (by omega) hgk (by omega) (by omega))) 2) ?_
              refine lv_aload_n hx hb d_Pb_nextPacket_90 rfl (lv_at hl 0 rfl) ?_
              refine zr_geti (ci := 4) (C := R_Pb) (T := T_Pb) (N := 6) (ref := "ScrubbedRecorder$Playback") hx hb hts (fun w h => List.mem_cons_of_mem _ (zin_Pb w h)) hown hK hH ((zkR_k hm (zk_lv3 (by omega) (show g9 3 p9 ≠ 0 by omega))).trans (zk_k3 (by omega))) (by decide) rfl 5 (by decide) rfl (hw zw_382) (fun _ h9 => h9) d_Pb_nextPacket_91 ?_
              refine zt_i (y := c9 (30 + p9) 5) (congrFun (zkR_i hm (zk_lv3 (by omega) (show g9 3 p9 ≠ 0 by omega))) 5) ?_
              refine lv_icmp_le (tgt := 100) hx hb d_Pb_nextPacket_94 (by decide) (fun hc8 => ?_) (fun hc8 => ?_)
              · skip
                have hc8 : ¬ (c9 (30 + p9) 5) < (c9 (zk_p k (g9 1 k + i)) 2) := Int32.not_lt.mpr hc8
                have ez9 : ((zk_m2 c9 p9 k (g9 1 k) (i + 1)).map (fun x => a9 (zk_p k x))) = none := by rw [zk_m2, if_neg hhi, hy2]; show Option.map _ (if _ then _ else _) = _; rw [if_neg hc8]; rfl
                have hl : lv_has ls 6 [(0, .ref (a9 (30 + p9))), (1, va_rf ((zk_m1 c9 d9 p9 k (g9 1 k) (i + 1)).map (fun x => a9 (zk_p k x)))), (2, va_rf ((zk_m2 c9 p9 k (g9 1 k) (i + 1)).map (fun x => a9 (zk_p k x)))), (3, va_rf ((zk_m3 c9 p9 k (g9 1 k) i).map (fun x => a9 (zk_p k x)))), (4, .int (nI i)), (5, .ref (a9 (zk_p k (g9 1 k + i))))] := by rw [ez9]; exact hl
                exact join_100  _ _ _  (lv_sub hl [0, 1, 2, 3, 4, 5] rfl) hH hS
              · skip
                have hc8 : (c9 (30 + p9) 5) < (c9 (zk_p k (g9 1 k + i)) 2) := Int32.not_le.mp hc8
                refine lv_aload hx hb d_Pb_nextPacket_97 (lv_at hl 5 rfl) ?_
                refine lv_astore_n (lv' := [(2, .ref (a9 (zk_p k (g9 1 k + i)))), (0, .ref (a9 (30 + p9))), (1, va_rf ((zk_m1 c9 d9 p9 k (g9 1 k) (i + 1)).map (fun x => a9 (zk_p k x)))), (3, va_rf ((zk_m3 c9 p9 k (g9 1 k) i).map (fun x => a9 (zk_p k x)))), (4, .int (nI i)), (5, .ref (a9 (zk_p k (g9 1 k + i))))]) hx hb d_Pb_nextPacket_99 rfl hl (by decide) (by generalize ((zk_m1 c9 d9 p9 k (g9 1 k) (i + 1)).map (fun x => a9 (zk_p k x))) = o0; generalize ((zk_m3 c9 p9 k (g9 1 k) i).map (fun x => a9 (zk_p k x))) = o1; cases o0 <;> cases o1 <;> rfl) (fun ls hl => ?_)
                have ez10 : ((zk_m2 c9 p9 k (g9 1 k) (i + 1)).map (fun x => a9 (zk_p k x))) = some (a9 (zk_p k (g9 1 k + i))) := by rw [zk_m2, if_neg hhi, hy2]; show Option.map _ (if _ then _ else _) = _; rw [if_pos hc8]; rfl
                have hl : lv_has ls 6 [(2, va_rf ((zk_m2 c9 p9 k (g9 1 k) (i + 1)).map (fun x => a9 (zk_p k x)))), (0, .ref (a9 (30 + p9))), (1, va_rf ((zk_m1 c9 d9 p9 k (g9 1 k) (i + 1)).map (fun x => a9 (zk_p k x)))), (3, va_rf ((zk_m3 c9 p9 k (g9 1 k) i).map (fun x => a9 (zk_p k x)))), (4, .int (nI i)), (5, .ref (a9 (zk_p k (g9 1 k + i))))] := by rw [ez10]; exact hl
                exact join_100  _ _ _  (lv_sub hl [1, 2, 0, 3, 4, 5] rfl) hH hS
            · skip
              have hl : lv_has ls 6 [(0, .ref (a9 (30 + p9))), (1, va_rf ((zk_m1 c9 d9 p9 k (g9 1 k) (i + 1)).map (fun x => a9 (zk_p k x)))), (2, .ref (a9 (zk_p k y2))), (3, va_rf ((zk_m3 c9 p9 k (g9 1 k) i).map (fun x => a9 (zk_p k x)))), (4, .int (nI i)), (5, .ref (a9 (zk_p k (g9 1 k + i))))] := by rw [hy2] at hl; exact hl
              obtain ⟨ly2, uy2⟩ := zk_m2_of hy2
              refine lv_aload_n hx hb d_Pb_nextPacket_81 rfl (lv_at hl 2 rfl) ?_
              refine lv_ifnonnull (tgt := 100) hx hb d_Pb_nextPacket_82 (by decide) ?_
              have ez11 : ((zk_m2 c9 p9 k (g9 1 k) (i + 1)).map (fun x => a9 (zk_p k x))) = some (a9 (zk_p k y2)) := by rw [zk_m2, if_neg hhi, hy2]; rfl
              have hl : lv_has ls 6 [(0, .ref (a9 (30 + p9))), (1, va_rf ((zk_m1 c9 d9 p9 k (g9 1 k) (i + 1)).map (fun x => a9 (zk_p k x)))), (2, va_rf ((zk_m2 c9 p9 k (g9 1 k) (i + 1)).map (fun x => a9 (zk_p k x)))), (3, va_rf ((zk_m3 c9 p9 k (g9 1 k) i).map (fun x => a9 (zk_p k x)))), (4, .int (nI i)), (5, .ref (a9 (zk_p k (g9 1 k + i))))] := by rw [ez11]; exact hl
              exact join_100  _ _ _  (lv_sub hl [0, 1, 2, 3, 4, 5] rfl) hH hS
          refine lv_aload hx hb d_Pb_nextPacket_53 (lv_at hl 0 rfl) ?_
          refine zr_V (As := ([] : List Value)) (rest := []) (b := a9 (zk_p k (g9 1 k + i))) (ci := 3) (q := (R_Pk, T_Pk, 8)) ⟨hx, hb, hml, hown, hts⟩ (c_Pk_isAskedFor ((zkR_k hm (zk_lvp (by omega) hgk (by omega) (by omega))).trans zk_kp)) ⟨(callB_of 0 hts (zg_all zw_423) rfl rfl rfl (hw zw_12) (hw zw_420) k_Pk_isAskedFor.2 ⟨Nat.le_of_ble_eq_true rfl, Nat.le_of_ble_eq_true rfl⟩), (hw zw_421), (hw zw_422)⟩ hSc hE hH hS hA rfl (by decide) ((zkR_k hm (zk_lvp (by omega) hgk (by omega) (by omega))).trans zk_kp) rfl hl.1 rfl (Nat.le_of_ble_eq_true rfl) d_Pb_nextPacket_55 ⟨Nat.le_of_ble_eq_true rfl, Nat.le_of_ble_eq_true rfl⟩ (fun v12 kd12 ln12 I12 L12 R12 H locs hp hH hS => ?_)
          obtain ⟨rfl, rfl, rfl, rfl, rfl, rfl⟩ := hp
          refine W.eq (g2 := F0 m 58 ls [.int (zk_ask (L (a9 (zk_p k (g9 1 k + i))) 7))]) rfl ?_
          refine W.widen (k := 0) (n := 0) (by omega) (by omega) ?_
          refine zt_i (y := zk_ask (d9 (zk_p k (g9 1 k + i)) 7)) (congrArg zk_ask (congrFun (zkR_l hm (zk_lvp (by omega) hgk (by omega) (by omega))) 7)) ?_
          refine lv_if_eq (tgt := 81) hx hb d_Pb_nextPacket_58 (by decide) (fun hc13 => ?_) (fun hc13 => ?_)
          · skip
            have hc13 : (zk_ask (d9 (zk_p k (g9 1 k + i)) 7)) = (nI 0) := hc13
            have ez14 : ((zk_m1 c9 d9 p9 k (g9 1 k) (i + 1)).map (fun x => a9 (zk_p k x))) = ((zk_m1 c9 d9 p9 k (g9 1 k) i).map (fun x => a9 (zk_p k x))) := by rw [zk_m1, if_neg hhi, if_pos hc13]
            have hl : lv_has ls 6 [(5, .ref (a9 (zk_p k (g9 1 k + i)))), (0, .ref (a9 (30 + p9))), (1, va_rf ((zk_m1 c9 d9 p9 k (g9 1 k) (i + 1)).map (fun x => a9 (zk_p k x)))), (2, va_rf ((zk_m2 c9 p9 k (g9 1 k) i).map (fun x => a9 (zk_p k x)))), (3, va_rf ((zk_m3 c9 p9 k (g9 1 k) i).map (fun x => a9 (zk_p k x)))), (4, .int (nI i))] := by rw [ez14]; exact hl
            exact join_81  _ _ _  (lv_sub hl [1, 2, 3, 4, 5, 0] rfl) hH hS
          · skip
            have hc13 : ¬ (zk_ask (d9 (zk_p k (g9 1 k + i)) 7)) = (nI 0) := hc13
            rcases hy1 : zk_m1 c9 d9 p9 k (g9 1 k) i with _ | y1
            · skip
              have hl : lv_has ls 6 [(5, .ref (a9 (zk_p k (g9 1 k + i)))), (0, .ref (a9 (30 + p9))), (1, .null), (2, va_rf ((zk_m2 c9 p9 k (g9 1 k) i).map (fun x => a9 (zk_p k x)))), (3, va_rf ((zk_m3 c9 p9 k (g9 1 k) i).map (fun x => a9 (zk_p k x)))), (4, .int (nI i))] := by rw [hy1] at hl; exact hl
              refine lv_aload_nN hx hb d_Pb_nextPacket_61 rfl (lv_at hl 2 rfl) ?_
              refine lv_ifnullN (tgt := 78) hx hb d_Pb_nextPacket_62 (by decide) ?_
              refine lv_aload hx hb d_Pb_nextPacket_78 (lv_at hl 0 rfl) ?_
              refine lv_astore_n (lv' := [(1, .ref (a9 (zk_p k (g9 1 k + i)))), (5, .ref (a9 (zk_p k (g9 1 k + i)))), (0, .ref (a9 (30 + p9))), (2, va_rf ((zk_m2 c9 p9 k (g9 1 k) i).map (fun x => a9 (zk_p k x)))), (3, va_rf ((zk_m3 c9 p9 k (g9 1 k) i).map (fun x => a9 (zk_p k x)))), (4, .int (nI i))]) hx hb d_Pb_nextPacket_80 rfl hl (by decide) (by generalize ((zk_m2 c9 p9 k (g9 1 k) i).map (fun x => a9 (zk_p k x))) = o0; generalize ((zk_m3 c9 p9 k (g9 1 k) i).map (fun x => a9 (zk_p k x))) = o1; cases o0 <;> cases o1 <;> rfl) (fun ls hl => ?_)
              have ez15 : ((zk_m1 c9 d9 p9 k (g9 1 k) (i + 1)).map (fun x => a9 (zk_p k x))) = some (a9 (zk_p k (g9 1 k + i))) := by rw [zk_m1, if_neg hhi, if_neg hc13, hy1]; rfl
              have hl : lv_has ls 6 [(1, va_rf ((zk_m1 c9 d9 p9 k (g9 1 k) (i + 1)).map (fun x => a9 (zk_p k x)))), (5, .ref (a9 (zk_p k (g9 1 k + i)))), (0, .ref (a9 (30 + p9))), (2, va_rf ((zk_m2 c9 p9 k (g9 1 k) i).map (fun x => a9 (zk_p k x)))), (3, va_rf ((zk_m3 c9 p9 k (g9 1 k) i).map (fun x => a9 (zk_p k x)))), (4, .int (nI i))] := by rw [ez15]; exact hl
              exact join_81  _ _ _  (lv_sub hl [2, 0, 3, 4, 5, 1] rfl) hH hS
            · skip
              have hl : lv_has ls 6 [(5, .ref (a9 (zk_p k (g9 1 k + i)))), (0, .ref (a9 (30 + p9))), (1, .ref (a9 (zk_p k y1))), (2, va_rf ((zk_m2 c9 p9 k (g9 1 k) i).map (fun x => a9 (zk_p k x)))), (3, va_rf ((zk_m3 c9 p9 k (g9 1 k) i).map (fun x => a9 (zk_p k x)))), (4, .int (nI i))] := by rw [hy1] at hl; exact hl
              obtain ⟨ly1, uy1⟩ := zk_m1_of hy1
              refine lv_aload_n hx hb d_Pb_nextPacket_61 rfl (lv_at hl 2 rfl) ?_
              refine lv_ifnull hx hb d_Pb_nextPacket_62 ?_
              refine lv_aload hx hb d_Pb_nextPacket_65 (lv_at hl 0 rfl) ?_
              refine zr_getl (ci := 3) (C := R_Pk) (T := T_Pk) (N := 8) (ref := "ScrubbedRecorder$Packet") hx hb hts (fun w h => List.mem_cons_of_mem _ (zin_Pk w h)) hown hK hH ((zkR_k hm (zk_lvp (by omega) hgk (by omega) (by omega))).trans zk_kp) (by decide) rfl 7 (by decide) rfl (hw zw_278) (fun _ h9 => h9) d_Pb_nextPacket_67 ?_
              refine zt_l (y := d9 (zk_p k (g9 1 k + i)) 7) (congrFun (zkR_l hm (zk_lvp (by omega) hgk (by omega) (by omega))) 7) ?_
              refine lv_aload_n hx hb d_Pb_nextPacket_70 rfl (lv_at hl 2 rfl) ?_
              refine zr_getl (ci := 3) (C := R_Pk) (T := T_Pk) (N := 8) (ref := "ScrubbedRecorder$Packet") hx hb hts (fun w h => List.mem_cons_of_mem _ (zin_Pk w h)) hown hK hH ((zkR_k hm (zk_lvp (by omega) hgk (by omega) (by omega))).trans zk_kp) (by decide) rfl 7 (by decide) rfl (hw zw_278) (fun _ h9 => h9) d_Pb_nextPacket_71 ?_
              refine zt_l (y := d9 (zk_p k y1) 7) (congrFun (zkR_l hm (zk_lvp (by omega) hgk (by omega) (by omega))) 7) ?_
              refine W.lcmp hx hb d_Pb_nextPacket_74 ?_
              refine lv_if_ge (tgt := 81) hx hb d_Pb_nextPacket_75 (by decide) (fun hc16 => ?_) (fun hc16 => ?_)
              · skip
                have hc16 : ¬ (lg_cmp (d9 (zk_p k (g9 1 k + i)) 7) (d9 (zk_p k y1) 7)) < (nI 0) := Int32.not_lt.mpr hc16
                have ez17 : ((zk_m1 c9 d9 p9 k (g9 1 k) (i + 1)).map (fun x => a9 (zk_p k x))) = some (a9 (zk_p k y1)) := by rw [zk_m1, if_neg hhi, if_neg hc13, hy1]; show Option.map _ (if _ then _ else _) = _; rw [if_neg hc16]; rfl
                have hl : lv_has ls 6 [(5, .ref (a9 (zk_p k (g9 1 k + i)))), (0, .ref (a9 (30 + p9))), (1, va_rf ((zk_m1 c9 d9 p9 k (g9 1 k) (i + 1)).map (fun x => a9 (zk_p k x)))), (2, va_rf ((zk_m2 c9 p9 k (g9 1 k) i).map (fun x => a9 (zk_p k x)))), (3, va_rf ((zk_m3 c9 p9 k (g9 1 k) i).map (fun x => a9 (zk_p k x)))), (4, .int (nI i))] := by rw [ez17]; exact hl
                exact join_81  _ _ _  (lv_sub hl [1, 2, 3, 4, 5, 0] rfl) hH hS
              · skip
                have hc16 : (lg_cmp (d9 (zk_p k (g9 1 k + i)) 7) (d9 (zk_p k y1) 7)) < (nI 0) := Int32.not_le.mp hc16
                refine lv_aload hx hb d_Pb_nextPacket_78 (lv_at hl 0 rfl) ?_
                refine lv_astore_n (lv' := [(1, .ref (a9 (zk_p k (g9 1 k + i)))), (5, .ref (a9 (zk_p k (g9 1 k + i)))), (0, .ref (a9 (30 + p9))), (2, va_rf ((zk_m2 c9 p9 k (g9 1 k) i).map (fun x => a9 (zk_p k x)))), (3, va_rf ((zk_m3 c9 p9 k (g9 1 k) i).map (fun x => a9 (zk_p k x)))), (4, .int (nI i))]) hx hb d_Pb_nextPacket_80 rfl hl (by decide) (by generalize ((zk_m2 c9 p9 k (g9 1 k) i).map (fun x => a9 (zk_p k x))) = o0; generalize ((zk_m3 c9 p9 k (g9 1 k) i).map (fun x => a9 (zk_p k x))) = o1; cases o0 <;> cases o1 <;> rfl) (fun ls hl => ?_)
                have ez18 : ((zk_m1 c9 d9 p9 k (g9 1 k) (i + 1)).map (fun x => a9 (zk_p k x))) = some (a9 (zk_p k (g9 1 k + i))) := by rw [zk_m1, if_neg hhi, if_neg hc13, hy1]; show Option.map _ (if _ then _ else _) = _; rw [if_pos hc16]; rfl
                have hl : lv_has ls 6 [(1, va_rf ((zk_m1 c9 d9 p9 k (g9 1 k) (i + 1)).map (fun x => a9 (zk_p k x)))), (5, .ref (a9 (zk_p k (g9 1 k + i)))), (0, .ref (a9 (30 + p9))), (2, va_rf ((zk_m2 c9 p9 k (g9 1 k) i).map (fun x => a9 (zk_p k x)))), (3, va_rf ((zk_m3 c9 p9 k (g9 1 k) i).map (fun x => a9 (zk_p k x)))), (4, .int (nI i))] := by rw [ez18]; exact hl
                exact join_81  _ _ _  (lv_sub hl [2, 0, 3, 4, 5, 1] rfl) hH hS
        · skip
          have hc5 : (zk_hi (c9 (30 + p9)) (c9 (zk_p k (g9 1 k + i)))) = (nI 0) := hc5
          refine lv_goto (tgt := 107) hx hb d_Pb_nextPacket_50 (by decide) ?_
          refine lv_iinc (k := 5) (v := nI (i + 1)) (lv' := [(4, .int (nI (i + 1))), (5, .ref (a9 (zk_p k (g9 1 k + i)))), (0, .ref (a9 (30 + p9))), (1, va_rf ((zk_m1 c9 d9 p9 k (g9 1 k) i).map (fun x => a9 (zk_p k x)))), (2, va_rf ((zk_m2 c9 p9 k (g9 1 k) i).map (fun x => a9 (zk_p k x)))), (3, va_rf ((zk_m3 c9 p9 k (g9 1 k) i).map (fun x => a9 (zk_p k x))))]) hx hb d_Pb_nextPacket_107 hl rfl (nI_add i 1) (by decide) (by generalize ((zk_m1 c9 d9 p9 k (g9 1 k) i).map (fun x => a9 (zk_p k x))) = o0; generalize ((zk_m2 c9 p9 k (g9 1 k) i).map (fun x => a9 (zk_p k x))) = o1; generalize ((zk_m3 c9 p9 k (g9 1 k) i).map (fun x => a9 (zk_p k x))) = o2; cases o0 <;> cases o1 <;> cases o2 <;> rfl) (fun ls hl => ?_)
          refine lv_goto (tgt := 9) hx hb d_Pb_nextPacket_110 (by decide) ?_
          have ez19 : ((zk_m1 c9 d9 p9 k (g9 1 k) (i + 1)).map (fun x => a9 (zk_p k x))) = ((zk_m1 c9 d9 p9 k (g9 1 k) i).map (fun x => a9 (zk_p k x))) := by rw [zk_m1, if_pos hc5]
          have hl : lv_has ls 6 [(4, .int (nI (i + 1))), (5, .ref (a9 (zk_p k (g9 1 k + i)))), (0, .ref (a9 (30 + p9))), (1, va_rf ((zk_m1 c9 d9 p9 k (g9 1 k) (i + 1)).map (fun x => a9 (zk_p k x)))), (2, va_rf ((zk_m2 c9 p9 k (g9 1 k) i).map (fun x => a9 (zk_p k x)))), (3, va_rf ((zk_m3 c9 p9 k (g9 1 k) i).map (fun x => a9 (zk_p k x))))] := by rw [ez19]; exact hl
          have ez20 : ((zk_m2 c9 p9 k (g9 1 k) (i + 1)).map (fun x => a9 (zk_p k x))) = ((zk_m2 c9 p9 k (g9 1 k) i).map (fun x => a9 (zk_p k x))) := by rw [zk_m2, if_pos hc5]
          have hl : lv_has ls 6 [(4, .int (nI (i + 1))), (5, .ref (a9 (zk_p k (g9 1 k + i)))), (0, .ref (a9 (30 + p9))), (1, va_rf ((zk_m1 c9 d9 p9 k (g9 1 k) (i + 1)).map (fun x => a9 (zk_p k x)))), (2, va_rf ((zk_m2 c9 p9 k (g9 1 k) (i + 1)).map (fun x => a9 (zk_p k x)))), (3, va_rf ((zk_m3 c9 p9 k (g9 1 k) i).map (fun x => a9 (zk_p k x))))] := by rw [ez20]; exact hl
          have ez21 : ((zk_m3 c9 p9 k (g9 1 k) (i + 1)).map (fun x => a9 (zk_p k x))) = ((zk_m3 c9 p9 k (g9 1 k) i).map (fun x => a9 (zk_p k x))) := by rw [zk_m3, if_pos hc5]
          have hl : lv_has ls 6 [(4, .int (nI (i + 1))), (5, .ref (a9 (zk_p k (g9 1 k + i)))), (0, .ref (a9 (30 + p9))), (1, va_rf ((zk_m1 c9 d9 p9 k (g9 1 k) (i + 1)).map (fun x => a9 (zk_p k x)))), (2, va_rf ((zk_m2 c9 p9 k (g9 1 k) (i + 1)).map (fun x => a9 (zk_p k x)))), (3, va_rf ((zk_m3 c9 p9 k (g9 1 k) (i + 1)).map (fun x => a9 (zk_p k x))))] := by rw [ez21]; exact hl
          exact ih_9 (i + 1) _ _ _ (by omega) (by omega) (lv_sub hl [2, 3, 4, 5, 0] rfl) hH hS
  have ez22 : ((zk_m1 c9 d9 p9 k (g9 1 k) 0).map (fun x => a9 (zk_p k x))) = none := rfl
  have hl : lv_has ls 6 [(4, .int (nI 0)), (3, .null), (2, .null), (1, va_rf ((zk_m1 c9 d9 p9 k (g9 1 k) 0).map (fun x => a9 (zk_p k x)))), (0, .ref (a9 (30 + p9)))] := by rw [ez22]; exact hl
  have ez23 : ((zk_m2 c9 p9 k (g9 1 k) 0).map (fun x => a9 (zk_p k x))) = none := rfl
  have hl : lv_has ls 6 [(4, .int (nI 0)), (3, .null), (2, va_rf ((zk_m2 c9 p9 k (g9 1 k) 0).map (fun x => a9 (zk_p k x)))), (1, va_rf ((zk_m1 c9 d9 p9 k (g9 1 k) 0).map (fun x => a9 (zk_p k x)))), (0, .ref (a9 (30 + p9)))] := by rw [ez23]; exact hl
  have ez24 : ((zk_m3 c9 p9 k (g9 1 k) 0).map (fun x => a9 (zk_p k x))) = none := rfl
  have hl : lv_has ls 6 [(4, .int (nI 0)), (3, va_rf ((zk_m3 c9 p9 k (g9 1 k) 0).map (fun x => a9 (zk_p k x)))), (2, va_rf ((zk_m2 c9 p9 k (g9 1 k) 0).map (fun x => a9 (zk_p k x)))), (1, va_rf ((zk_m1 c9 d9 p9 k (g9 1 k) 0).map (fun x => a9 (zk_p k x)))), (0, .ref (a9 (30 + p9)))] := by rw [ez24]; exact hl
  exact loop_9 _ 0 _ _ _ (Nat.lt_succ_self _) (by omega) (lv_sub hl [4, 3, 2, 1, 0] rfl) hH hS
