section ZLB
variable {l : Launch} {D : va_G} {cA : Nat → ClassId} {te mi X Y : Nat} {ad : Nat → Nat} {n : Nat} {kd ln : Nat → Nat} {I : Nat → Nat → Int32} {L : Nat → Nat → Int64} {R : Nat → Nat → Option Nat} {kd' ln' : Nat → Nat} {I' : Nat → Nat → Int32} {L' : Nat → Nat → Int64} {R' : Nat → Nat → Option Nat} {a9 e9 : Nat → Nat} {c : Nat → Nat → Int32} {d : Nat → Nat → Int64} {g : Nat → Nat → Nat} {m : Nat → Nat → Int32} {q : Nat → Nat → Int64}
theorem zs_g3 {u sl of tu au : Nat → Nat → Nat} (h : zs c d g m q u sl of tu au) : ∀ p, p < 4 → g 3 p ≤ 4 := fun p hp => by
  by_cases e : g 3 p = 0
  · omega
  · exact ((h.2.2.2.2.1.1 p hp).2 e).1
theorem zl_makeStore (hS : zS n c d g m q) (hn : n < 600) (hk : zkR X te a9 e9 c d g kd ln I L R) (ho : zoR Y ad m q kd' ln' I' L' R') (x : Int32) (y : Int32) (z : Int32) (hz : y = nI 0 ∨ y = nI 1) : ∃ v8 : Int32, zLi l D cA te mi X Y ad n kd ln I L R kd' ln' I' L' R' y_Rec_makeStore w_Rec_makeStore { frames := 5, cells := 3, slots := 53, locals := 107 } 3 53 y_Mod_makeStore w_Mod_makeStore { frames := 1, cells := 0, slots := 0, locals := 22 } ([.int x, .int y, .int z] : List Value) (some (.int v8)) := by
  have h1 := zS_keep hS
  obtain ⟨h6, u, sl, of, tu, au, h, hu6, hu3⟩ := hS
  have hq := c_Mod_makeStore (l := l) (D := D) (cA := cA) (te := te) (mi := mi) ho (x := x) (b := y) (y := z) hz
  unfold zo_mk at hq
  by_cases e1 : x < nI 0
  · rw [if_pos e1] at hq
    exact ⟨_, _, _, _, _, _, h1, zq_P (c_Rec_makeStore_B hk (Or.inl e1)), hq⟩
  · rw [if_neg e1] at hq
    obtain ⟨k, hk31, rfl⟩ := zt_nn e1
    by_cases e2 : nI 3 < nI k
    · rw [if_pos e2] at hq
      have := (nI_ltI (by decide) hk31).mp e2
      exact ⟨_, _, _, _, _, _, h1, zq_P (c_Rec_makeStore_B hk (Or.inr (Or.inl (nI_nlt (by omega) hk31)))), hq⟩
    · rw [if_neg e2, nI_clamp hk31] at hq
      have hk4 : k < 4 := Decidable.byContradiction fun zz => e2 (nI_lt (by omega) hk31)
      by_cases e3 : z < nI 3
      · rw [if_pos e3] at hq
        exact ⟨_, _, _, _, _, _, h1, zq_P (c_Rec_makeStore_B hk (Or.inr (Or.inr (Or.inl e3)))), hq⟩
      · rw [if_neg e3] at hq
        by_cases e4 : nI 40 < z
        · rw [if_pos e4] at hq
          exact ⟨_, _, _, _, _, _, h1, zq_P (c_Rec_makeStore_B hk (Or.inr (Or.inr (Or.inr e4)))), hq⟩
        · rw [if_neg e4] at hq
          obtain ⟨w, hw31, rfl⟩ := zt_nn (x := z) (fun z0 => e3 (Int32.lt_trans z0 (by decide)))
          have hw3 : 3 ≤ w := Decidable.byContradiction fun zz => e3 (nI_lt (by omega) (by decide))
          have hw40 : w ≤ 40 := Decidable.byContradiction fun zz => e4 (nI_lt (by omega) hw31)
          by_cases e5 : g 0 k = 0
          · rw [if_pos ((h.2.1 k hk4).1 e5)] at hq
            have hun := zs_un h 4 (Nat.le_refl _)
            by_cases e6 : zo_un (m 7) (m 9) 4 < nI w
            · rw [if_pos e6] at hq
              exact ⟨_, _, _, _, _, _, h1, zq_P (c_Rec_makeStore_F hk hk4 hw3 hw40 e5 (by rw [hun.1, ← hun.2]; exact e6)), hq⟩
            · rw [if_neg e6] at hq
              have e7 : ¬ 40 - zs_qs g u 2 4 < w := fun zz => e6 (by rw [hun.2]; exact nI_lt zz (by omega))
              have h4 := h.2.2.1.2.2
              have hnew := zs_new h (b := y) hk4 e5 hw3 hw40 hz (by omega)
              have hsv := zs_save hnew
              have hun2 := zs_un hsv 4 (Nat.le_refl _)
              have hR := c_Rec_makeStore_S (l := l) (D := D) (cA := cA) (mi := mi) hk hk4 hw3 hw40 e5 (by rw [hun.1, ← hun.2]; exact e6) hz (fun p hp => ⟨zs_g3 h p hp, fun e => (by have a := (h.2.2.2.2.1.1 p hp).2 (by omega); exact a.2.1 (by rw [e]; exact e5))⟩) (fun k8 x8 a1 a2 a3 a4 => (hnew.2.2.2.1.1 k8 x8 ⟨a1, a2, a3, a4⟩).1.2.2.2.2.2.2.2.2.2.1) (fun k8 a1 a2 => (zs_rng hnew a1 a2).2.2)
              rw [hun2.1, ← hun2.2] at hR
              exact ⟨_, _, _, _, _, _, ⟨by unfold zk_swg; rw [zu_ne _ _ _ (by decide), zu_ne _ _ _ (by decide), zu_ne _ _ _ (by decide)]; exact h6, _, sl, of, tu, au, hsv, fun i => by unfold zs_um; rw [zu_ne _ _ _ (by decide), zu_ne _ _ _ (by decide), zu_ne _ _ _ (by decide)]; exact hu6 i, by unfold zs_um; rw [zu_ne _ _ _ (by decide), zu_ne _ _ _ (by decide), zu_ne _ _ _ (by decide)]; omega⟩, hR, hq⟩
          · rw [if_neg (zs_mk h hk4 e5)] at hq
            exact ⟨_, _, _, _, _, _, h1, zq_P (c_Rec_makeStore_T hk hk4 hw3 hw40 e5), hq⟩
theorem zl_dropStore (hS : zS n c d g m q) (hn : n < 600) (hk : zkR X te a9 e9 c d g kd ln I L R) (ho : zoR Y ad m q kd' ln' I' L' R') (x : Int32) : ∃ v8 : Int32, zLi l D cA te mi X Y ad n kd ln I L R kd' ln' I' L' R' y_Rec_dropStore w_Rec_dropStore { frames := 5, cells := 0, slots := 0, locals := 129 } 0 0 y_Mod_dropStore w_Mod_dropStore { frames := 3, cells := 0, slots := 0, locals := 67 } ([.int x] : List Value) (some (.int v8)) := by
  have h1 := zS_keep hS
  obtain ⟨h6, u, sl, of, tu, au, h, hu6, hu3⟩ := hS
  rcases zk_md_c g x with hmd | ⟨k, hk4, rfl, hg⟩
  · exact ⟨_, _, _, _, _, _, h1, zq_P (c_Rec_dropStore_N hk hmd), c_Mod_dropStore_B ho (zs_md h hmd)⟩
  · have hpg := zs_pgs h hk4 hg
    obtain ⟨C1, D1, G1, u1, of1, r1, r2, r3, r4, r5, r6⟩ := zs_drop h hu6 hk4 hg
    have hR := c_Rec_dropStore (l := l) (D := D) (cA := cA) (mi := mi) hk hk4 hg (zs_rng h hk4 hg).2.2 hpg.1 r1 (by rw [r2 0 (by decide)]; exact hg) r3 (fun k8 x8 a1 a2 a3 a4 => (r4.2.2.2.1.1 k8 x8 ⟨a1, a2, a3, a4⟩).1.2.2.2.2.2.2.2.2.2.1) (fun k8 a1 a2 => (zs_rng r4 a1 a2).2.2)
    exact ⟨_, _, _, _, _, _, ⟨by rw [zu_ne _ _ _ (by decide), zk_cl_r (by decide), r2 6 (by decide)]; exact h6, u1, sl, of1, tu, au, zs_save r4, r5, by omega⟩, zq_P hR, c_Mod_dropStore ho hk4 (zs_mk h hk4 hg) hpg.2⟩
theorem zl_record (hS : zS n c d g m q) (hn : n < 600) (hk : zkR X te a9 e9 c d g kd ln I L R) (ho : zoR Y ad m q kd' ln' I' L' R') (x : Int32) (y : Int32) (z : Int32) (t : Int32) : ∃ v8 : Int32, zLi l D cA te mi X Y ad n kd ln I L R kd' ln' I' L' R' y_Rec_record w_Rec_record { frames := 8, cells := 3, slots := 1574, locals := 199 } 3 1574 y_Mod_record w_Mod_record { frames := 4, cells := 0, slots := 0, locals := 90 } ([.int x, .int y, .int z, .int t] : List Value) (some (.int v8)) := by
  have h1 := zS_keep hS
  obtain ⟨h6, u, sl, of, tu, au, h, hu6, hu3⟩ := hS
  rcases zk_md_c g x with hmd | ⟨k, hk4, rfl, hg⟩
  · exact ⟨_, _, _, _, _, _, h1, zq_P (c_Rec_record_N hk hmd), c_Mod_record_B ho (Or.inl (zs_md h hmd))⟩
  · have hb := (h.2.1 k hk4).2 hg
    obtain ⟨b1, b2, b3, b4, b5, b6, b7, b8, b9, b10, b11, b12, b13, ⟨f1, f2, f3, f4, f5, f6, f7⟩, -⟩ := hb
    have h11 : m 11 (nI k).toNatClampNeg = c (10 + k) 9 := by rw [nI_clamp (by omega), b9]
    have hbad : (y < nI 0 ∨ nI 255 < y ∨ t < nI 0 ∨ nI 60 < t ∨ z < c (10 + k) 9) → ∃ v8 : Int32, zLi l D cA te mi X Y ad n kd ln I L R kd' ln' I' L' R' y_Rec_record w_Rec_record { frames := 8, cells := 3, slots := 1574, locals := 199 } 3 1574 y_Mod_record w_Mod_record { frames := 4, cells := 0, slots := 0, locals := 90 } ([.int (nI k), .int y, .int z, .int t] : List Value) (some (.int v8)) := fun hbd => ⟨_, _, _, _, _, _, h1, zq_P (c_Rec_record_B hk hk4 hg hbd), c_Mod_record_B ho (Or.inr (by rw [h11]; exact hbd))⟩
    by_cases e5 : z < c (10 + k) 9
    · exact hbad (Or.inr (Or.inr (Or.inr (Or.inr e5))))
    · rcases zt_upto y 255 (by decide) with e | e | ⟨a0, ha0, rfl⟩
      · exact hbad (Or.inl e)
      · exact hbad (Or.inr (Or.inl e))
      · rcases zt_upto t 60 (by decide) with e | e | ⟨w, hw, rfl⟩
        · exact hbad (Or.inr (Or.inr (Or.inl e)))
        · exact hbad (Or.inr (Or.inr (Or.inr (Or.inl e))))
        · have ha1 : ¬ nI a0 < nI 0 := nI_nlt (Nat.zero_le _) (by omega)
          have ha2 : ¬ nI 255 < nI a0 := nI_nlt ha0 (by decide)
          have htb : ¬ z < m 11 k := by rw [b9]; exact e5
          by_cases er : c (10 + k) 1 = nI 0 ∧ u 2 k < u 0 k + (2 + (w + 3) / 4 + 12 - (16 - u 1 k)) / 13
          · have hroom : zk_hr (c (10 + k) 1) (2 + (w + 3) / 4) (u 1 k) (u 0 k) (u 2 k) = nI 0 := by
              unfold zk_hr
              rw [if_pos er.1, if_neg (by omega)]
            exact ⟨_, _, _, _, _, _, h1, zq_P (c_Rec_record_F hk hk4 hg hw ha1 ha2 e5 b12 f5 b10 (by omega) b5 f2 hroom), c_Mod_record_F ho hk4 (zs_mk h hk4 hg) ha1 ha2 hw htb b13 f4 f5 b11 (by omega) b6 f2 (by rw [b3]; exact er.1) er.2⟩
          · have hroom : zk_hr (c (10 + k) 1) (2 + (w + 3) / 4) (u 1 k) (u 0 k) (u 2 k) = nI 1 := by
              unfold zk_hr
              by_cases e1 : c (10 + k) 1 = nI 0
              · have : ¬ u 2 k < u 0 k + (2 + (w + 3) / 4 + 12 - (16 - u 1 k)) / 13 := fun zz => er ⟨e1, zz⟩
                rw [if_pos e1, if_pos (by omega)]
              · rw [if_neg e1]
            have hro2 : m 8 k = nI 0 → u 0 k + (2 + (w + 3) / 4 + 12 - (16 - u 1 k)) / 13 ≤ u 2 k := fun e1 => by
              have : ¬ u 2 k < u 0 k + (2 + (w + 3) / 4 + 12 - (16 - u 1 k)) / 13 := fun zz => er ⟨by rw [← b3]; exact e1, zz⟩
              omega
            obtain ⟨s, c1, C1, D1, G1, u2, sl2, of2, tu2, au2, ⟨s1, s2, s3⟩, r2, r3, r4, ⟨r5, r6, r7⟩, r8, r9, r10, r11, r12, r13⟩ := zs_rec h hu6 (by omega) hk4 hg ha0 hw (t := z) rfl (fun e1 => by
              have := hro2 (by rw [b3]; exact e1)
              omega)
            have hR := c_Rec_record_S (l := l) (D := D) (cA := cA) (mi := mi) hk hk4 hg hw ha1 ha2 e5 b12 f5 b10 (by omega) b5 f2 hroom h6 (zs_g3 h) h.2.2.2.2.2.1.2.1 (fun w8 hw8 => (r2 w8 hw8).1) r3 r4 r5 r6 r7
            have hM := c_Mod_record (l := l) (D := D) (cA := cA) (te := te) (mi := mi) ho hk4 (zs_mk h hk4 hg) ha1 ha2 hw htb b13 f4 f5 b11 (by omega) b6 f2 hro2 s1 s2 s3 (fun w8 hw8 => (r2 w8 hw8).2) r8
            rw [r13] at hR
            exact ⟨_, _, _, _, _, _, ⟨r12, u2, sl2, of2, tu2, au2, r9, r10, by omega⟩, zq_A hR, hM⟩
theorem zl_play (hS : zS n c d g m q) (hn : n < 600) (hk : zkR X te a9 e9 c d g kd ln I L R) (ho : zoR Y ad m q kd' ln' I' L' R') (x : Int32) (y : Int32) (z : Int32) (t : Int32) : ∃ v8 : Int32, zLi l D cA te mi X Y ad n kd ln I L R kd' ln' I' L' R' y_Rec_play w_Rec_play { frames := 2, cells := 1, slots := 6, locals := 38 } 1 6 y_Mod_play w_Mod_play { frames := 1, cells := 0, slots := 0, locals := 21 } ([.int x, .int y, .int z, .int t] : List Value) (some (.int v8)) := by
  have h1 := zS_keep hS
  obtain ⟨h6, u, sl, of, tu, au, h, hu6, hu3⟩ := hS
  have hq := c_Mod_play (l := l) (D := D) (cA := cA) (te := te) (mi := mi) ho (x := x) (a := y) (b := z) (d := t)
  unfold zo_pl at hq
  rcases zk_md_c g x with hmd | ⟨k, hk4, rfl, hg⟩
  · rw [if_pos (zs_md h hmd)] at hq
    exact ⟨_, _, _, _, _, _, h1, zq_P (c_Rec_play_N hk hmd), hq⟩
  · rw [if_neg (zs_mdn h hk4 hg)] at hq
    by_cases e1 : t < nI 0
    · rw [if_pos e1] at hq
      exact ⟨_, _, _, _, _, _, h1, zq_P (c_Rec_play_B hk hk4 hg (Or.inl e1)), hq⟩
    · rw [if_neg e1] at hq
      by_cases e2 : nI 9 < t
      · rw [if_pos e2] at hq
        exact ⟨_, _, _, _, _, _, h1, zq_P (c_Rec_play_B hk hk4 hg (Or.inr e2)), hq⟩
      · rw [if_neg e2] at hq
        have hfp := zs_fp h
        by_cases hf : ∃ i, i < 4 ∧ g 3 i = 0
        · obtain ⟨j, hj, hj0, hjl⟩ := zs_least (P := fun i => g 3 i = 0) 4 hf
          have e3 := zo_fp_of (f := m 27) (j := j) (fun i hi z => hjl i hi ((hfp i (by omega)).mp z)) ((hfp j hj).mpr hj0) 0 (Nat.zero_le _) hj
          rw [show 4 - 0 = 4 from rfl] at e3
          rw [e3, if_pos hj] at hq
          exact ⟨_, _, _, _, _, _, ⟨by rw [zu_ne _ _ _ (by decide)]; exact h6, _, sl, of, tu, au, zs_play h (by omega) hk4 hg hj hj0 y z t, fun i => by rw [zu_ne _ _ _ (by decide), zu_ne _ _ _ (by decide), zs_u2_r (by decide)]; exact hu6 i, by rw [zu_ne _ _ _ (by decide), zu_ne _ _ _ (by decide), (zs_u2_0 (Or.inr rfl)).2.2.1]; omega⟩, c_Rec_play_S hk hk4 hg e1 e2 hj hj0 hjl (zs_g3 h), hq⟩
        · have hall : ∀ i, i < 4 → g 3 i ≠ 0 := fun i hi z => hf ⟨i, hi, z⟩
          rw [zo_fp_full (fun i hi z => hall i hi ((hfp i hi).mp z)), if_neg (by decide)] at hq
          exact ⟨_, _, _, _, _, _, h1, zq_P (c_Rec_play_F hk hk4 hg e1 e2 hall), hq⟩
theorem zl_frame (hS : zS n c d g m q) (hn : n < 600) (hk : zkR X te a9 e9 c d g kd ln I L R) (ho : zoR Y ad m q kd' ln' I' L' R') : ∃ v8 : Int32, zLi l D cA te mi X Y ad n kd ln I L R kd' ln' I' L' R' y_Rec_frame w_Rec_frame { frames := 4, cells := 0, slots := 0, locals := 89 } 0 0 y_Mod_frame w_Mod_frame { frames := 2, cells := 0, slots := 0, locals := 48 } ([] : List Value) (some (.int v8)) := by
  have h1 := zS_keep hS
  obtain ⟨h6, u, sl, of, tu, au, h, hu6, hu3⟩ := hS
  have hpl : zk_pl g := fun p hp e => ⟨((h.2.2.2.2.1.1 p hp).2 e).1, ((h.2.2.2.2.1.1 p hp).2 e).2.1⟩
  rcases zs_best h 4 (Nat.le_refl _) with ⟨e1, e2⟩ | ⟨p, y, hp, hg, hy, e1, e2, e3⟩
  · exact ⟨_, _, _, _, _, _, h1, zq_P (c_Rec_frame_N hk hpl e1), c_Mod_frame_N ho (by rw [e2]; decide)⟩
  · have hg4 := (hpl p hp hg).1
    obtain ⟨w, hw, hw4, hw20, -⟩ := (h.2.2.2.1.1 _ y hy).2.1
    have hp' := (h.2.2.2.1.1 _ y hy).1
    have hR := c_Rec_frame_S (l := l) (D := D) (cA := cA) (mi := mi) hk hpl e1 hp (show g 3 p = (g 3 p - 1) + 1 by omega) hy.1 hy.2.1 hy.2.2.1 hy.2.2.2 (by omega)
    rw [hw4, show 5 + (6 + w) = 11 + w by omega] at hR
    exact ⟨_, _, _, _, _, _, ⟨by unfold zk_fwg; rw [zu_ne _ _ _ (by decide), zu_ne _ _ _ (by decide)]; exact h6, u, sl, of, _, _, zs_frm h hp (show g 3 p = (g 3 p - 1) + 1 by omega) hy hw hw4 hw20, hu6, by omega⟩, zq_P hR, c_Mod_frame_F ho e2 hp e3 hp'.1 hw20 hw⟩
theorem zl_confirm (hS : zS n c d g m q) (hn : n < 600) (hk : zkR X te a9 e9 c d g kd ln I L R) (ho : zoR Y ad m q kd' ln' I' L' R') (x : Int32) (y : Int32) (z : Int32) : ∃ v8 : Int32, zLi l D cA te mi X Y ad n kd ln I L R kd' ln' I' L' R' y_Rec_confirm w_Rec_confirm { frames := 5, cells := 0, slots := 0, locals := 129 } 0 0 y_Mod_confirm w_Mod_confirm { frames := 4, cells := 0, slots := 0, locals := 90 } ([.int x, .int y, .int z] : List Value) (some (.int v8)) := by
  have h1 := zS_keep hS
  obtain ⟨h6, u, sl, of, tu, au, h, hu6, hu3⟩ := hS
  rcases zk_md_c g x with hmd | ⟨k, hk4, rfl, hg⟩
  · exact ⟨_, _, _, _, _, _, h1, zq_P (c_Rec_confirm_N hk hmd), c_Mod_confirm_B ho (Or.inl (zs_md h hmd))⟩
  · by_cases e : z < y
    · exact ⟨_, _, _, _, _, _, h1, zq_P (c_Rec_confirm_B hk hk4 hg e), c_Mod_confirm_B ho (Or.inr e)⟩
    · have hpg := zs_pgs h hk4 hg
      have hc := zs_conf h hk4 hg y z
      obtain ⟨u1, of1, r1, r2⟩ := zs_prn hc hk4 hg
      have hR := c_Rec_confirm (l := l) (D := D) (cA := cA) (mi := mi) hk hk4 hg e (zs_rng h hk4 hg).2.2 hpg.1
      have hM := c_Mod_confirm (l := l) (D := D) (cA := cA) (te := te) (mi := mi) ho hk4 (zs_mk h hk4 hg) e hpg.2
      rw [zs_cfn h hk4 hg] at hR
      exact ⟨_, _, _, _, _, _, ⟨by rw [zk_prn_g (by decide)]; exact h6, u1, sl, of1, _, _, r1, fun i => by rw [r2 6 (by decide)]; exact hu6 i, by rw [r2 5 (by decide)]; omega⟩, zq_P hR, hM⟩
end ZLB
