section ZLA
variable {l : Launch} {D : va_G} {cA : Nat → ClassId} {te mi X Y : Nat} {ad : Nat → Nat} {n : Nat} {kd ln : Nat → Nat} {I : Nat → Nat → Int32} {L : Nat → Nat → Int64} {R : Nat → Nat → Option Nat} {kd' ln' : Nat → Nat} {I' : Nat → Nat → Int32} {L' : Nat → Nat → Int64} {R' : Nat → Nat → Option Nat} {a9 e9 : Nat → Nat} {c : Nat → Nat → Int32} {d : Nat → Nat → Int64} {g : Nat → Nat → Nat} {m : Nat → Nat → Int32} {q : Nat → Nat → Int64}
theorem zs_rng {u sl of tu au : Nat → Nat → Nat} (h : zs c d g m q u sl of tu au) {k : Nat} (hk : k < 4) (hg : g 0 k ≠ 0) : c (10 + k) 8 = nI (g 2 k) ∧ g 2 k < 2 ^ 30 ∧ g 1 k ≤ g 2 k := by
  have hb := (h.2.1 k hk).2 hg
  have := zs_nxb h hk hg
  exact ⟨hb.2.2.2.2.2.2.1, by omega, hb.2.2.2.2.2.2.2.2.2.2.2.2.2.1.2.2.2.2.2.2⟩
theorem zs_mdn {u sl of tu au : Nat → Nat → Nat} (h : zs c d g m q u sl of tu au) {k : Nat} (hk : k < 4) (hg : g 0 k ≠ 0) : ¬ zo_made (m 7) (nI k) = nI 0 := by
  unfold zo_made
  rw [if_neg (nI_nlt (Nat.zero_le _) (by omega)), if_neg (nI_nlt (by omega) (by decide)), nI_clamp (by omega), if_neg (zs_mk h hk hg)]
  decide
theorem zl_put (hS : zS n c d g m q) (hn : n < 600) (hk : zkR X te a9 e9 c d g kd ln I L R) (ho : zoR Y ad m q kd' ln' I' L' R') (x : Int32) (v : Int64) : ∃ v8 : Int32, zLi l D cA te mi X Y ad n kd ln I L R kd' ln' I' L' R' y_Rec_put w_Rec_put { frames := 1, cells := 0, slots := 0, locals := 21 } 0 0 y_Mod_put w_Mod_put { frames := 0, cells := 0, slots := 0, locals := 0 } ([.int x, .long v] : List Value) (some (.int v8)) := by
  have h1 := zS_keep hS
  obtain ⟨h6, u, sl, of, tu, au, h, hu6, hu3⟩ := hS
  rcases zt_upto x 59 (by decide) with hb | hb | ⟨j, hj, rfl⟩
  · exact ⟨_, _, _, _, _, _, h1, zq_P (c_Rec_put_B hk (Or.inl hb)), c_Mod_put_B ho (Or.inl hb)⟩
  · refine ⟨_, _, _, _, _, _, h1, zq_P (c_Rec_put_B hk (Or.inr (fun z => ?_))), c_Mod_put_B ho (Or.inr hb)⟩
    obtain ⟨j, hj, rfl⟩ := zt_nn (x := x) (fun z0 => Int32.lt_irrefl (Int32.lt_trans hb (Int32.lt_trans z0 (by decide))))
    have a := (nI_ltI (by omega) (by decide)).mp z
    have b := (nI_ltI (by decide) (by omega)).mp hb
    omega
  · exact ⟨_, _, _, _, _, _, ⟨h6, u, sl, of, tu, au, zs_put h (by omega) v, hu6, by omega⟩, zq_P (c_Rec_put hk (by omega)), c_Mod_put ho (by omega)⟩
theorem zl_stop (hS : zS n c d g m q) (hn : n < 600) (hk : zkR X te a9 e9 c d g kd ln I L R) (ho : zoR Y ad m q kd' ln' I' L' R') (x : Int32) : ∃ v8 : Int32, zLi l D cA te mi X Y ad n kd ln I L R kd' ln' I' L' R' y_Rec_stop w_Rec_stop { frames := 0, cells := 0, slots := 0, locals := 0 } 0 0 y_Mod_stop w_Mod_stop { frames := 0, cells := 0, slots := 0, locals := 0 } ([.int x] : List Value) (some (.int v8)) := by
  have h1 := zS_keep hS
  obtain ⟨h6, u, sl, of, tu, au, h, hu6, hu3⟩ := hS
  have hq := c_Mod_stop (l := l) (D := D) (cA := cA) (te := te) (mi := mi) ho (x := x)
  rcases zk_po_c g x with hpo | ⟨p, hp, rfl, hg⟩
  · have e := zs_po h hpo
    unfold zo_stI at hq
    rw [e, if_pos rfl] at hq
    exact ⟨_, _, _, _, _, _, h1, zq_P (c_Rec_stop_N hk hpo), hq⟩
  · have e := zs_po1 h hp hg
    rw [e.1, e.2] at hq
    exact ⟨_, _, _, _, _, _, ⟨by rw [zu_ne _ _ _ (by decide)]; exact h6, u, sl, of, tu, au, zs_stop h hp, hu6, by omega⟩, zq_P (c_Rec_stop hk hp hg), hq⟩
theorem zl_frameByte (hS : zS n c d g m q) (hn : n < 600) (hk : zkR X te a9 e9 c d g kd ln I L R) (ho : zoR Y ad m q kd' ln' I' L' R') (x : Int32) : ∃ v8 : Int32, zLi l D cA te mi X Y ad n kd ln I L R kd' ln' I' L' R' y_Rec_frameByte w_Rec_frameByte { frames := 2, cells := 0, slots := 0, locals := 42 } 0 0 y_Mod_frameByte w_Mod_frameByte { frames := 0, cells := 0, slots := 0, locals := 0 } ([.int x] : List Value) (some (.int v8)) := by
  have h1 := zS_keep hS
  obtain ⟨h6, u, sl, of, tu, au, h, hu6, hu3⟩ := hS
  have hq := c_Mod_frameByte (l := l) (D := D) (cA := cA) (te := te) (mi := mi) ho (x := x) (zs_fsz h).1
  by_cases e : g 5 0 = 0
  · rw [zs_fb0 h e] at hq
    exact ⟨_, _, _, _, _, _, h1, zq_E hk (c_Rec_frameByte_N hk e), hq⟩
  · rw [← zs_fb h e] at hq
    exact ⟨_, _, _, _, _, _, h1, zq_E hk (c_Rec_frameByte hk e ((zs_fsz h).2 e)), hq⟩
theorem zl_gap (hS : zS n c d g m q) (hn : n < 600) (hk : zkR X te a9 e9 c d g kd ln I L R) (ho : zoR Y ad m q kd' ln' I' L' R') (x : Int32) (y : Int32) : ∃ v8 : Int32, zLi l D cA te mi X Y ad n kd ln I L R kd' ln' I' L' R' y_Rec_gap w_Rec_gap { frames := 5, cells := 0, slots := 0, locals := 109 } 0 0 y_Mod_gap w_Mod_gap { frames := 1, cells := 0, slots := 0, locals := 24 } ([.int x, .int y] : List Value) (some (.int v8)) := by
  have h1 := zS_keep hS
  obtain ⟨h6, u, sl, of, tu, au, h, hu6, hu3⟩ := hS
  have hq := c_Mod_gap (l := l) (D := D) (cA := cA) (te := te) (mi := mi) ho (x := x) (y := y)
  rcases zk_md_c g x with hmd | ⟨k, hk4, rfl, hg⟩
  · have e : zo_gp m x y = (nI 0, m) := by
      unfold zo_gp
      rw [zs_find1 h hmd]
      by_cases e : x < nI 0
      · rw [if_pos e]
      · rw [if_neg e, if_pos (by decide)]
    rw [e] at hq
    exact ⟨_, _, _, _, _, _, h1, zq_P (c_Rec_gap_N hk hmd), hq⟩
  · obtain ⟨hnx, hnx1, hlo⟩ := zs_rng h hk4 hg
    have ek : ¬ nI k < nI 0 := nI_nlt (Nat.zero_le _) (by omega)
    by_cases e : y < nI (g 1 k) ∨ ¬ y < nI (g 2 k)
    · have e2 : zo_gp m (nI k) y = (nI 0, m) := by
        unfold zo_gp
        rw [if_neg ek, zs_find0 h hk4 (zs_out hnx1 e), if_pos (by decide)]
      rw [e2] at hq
      exact ⟨_, _, _, _, _, _, h1, zq_P (c_Rec_gap_O hk hk4 hg hnx hnx1 hlo e), hq⟩
    · obtain ⟨j, hj, rfl⟩ := zs_in hk4 hg hnx1 hlo e
      have hp := (h.2.2.2.1.1 k j hj).1
      have hb := zs_tub h hj
      have hsl := hp.1
      have h22 := hp.2.2.2.2.2.1
      have h24 := hp.2.2.2.2.2.2.2.2.2.2.2.2.1
      have hd7 := hp.2.2.2.2.2.2.2.2.2.2.2.1
      have hzz := hp.2.2.2.2.2.2.2.2.2.2.2.2.2.1
      unfold zo_gp at hq
      rw [if_neg ek, zs_find h hj, if_neg (nI_nlt (Nat.zero_le _) (by omega)), nI_clamp (by omega), h22, h24] at hq
      by_cases e5 : c (zk_p k j) 5 = nI 0
      · rw [if_pos e5] at hq
        by_cases e7 : tu k j = 0
        · have ea := hzz.mp e7
          rw [ea, if_neg (by decide)] at hq
          exact ⟨_, _, _, _, _, _, ⟨h6, _, sl, of, _, _, zs_gap h (by omega) hj e5, fun i => by rw [zs_u2_r (by decide)]; exact hu6 i, by rw [(zs_u2_0 (Or.inl rfl)).2.2.1]; omega⟩, zq_P (c_Rec_gap_S hk hk4 hg hnx hnx1 hlo hj.2.2.1 hj.2.2.2 e5 (by rw [hd7]; exact (zl_ask (by omega)).mpr e7)), hq⟩
        · have ea : au k j ≠ 0 := fun z => e7 (hzz.mpr z)
          rw [if_pos (nI_lt (by omega) (by omega))] at hq
          exact ⟨_, _, _, _, _, _, h1, zq_P (c_Rec_gap_A hk hk4 hg hnx hnx1 hlo hj.2.2.1 hj.2.2.2 e5 (by rw [hd7]; exact fun z => e7 ((zl_ask (by omega)).mp z))), hq⟩
      · rw [if_neg e5] at hq
        exact ⟨_, _, _, _, _, _, h1, zq_P (c_Rec_gap_C hk hk4 hg hnx hnx1 hlo hj.2.2.1 hj.2.2.2 e5), hq⟩
theorem zl_count (hS : zS n c d g m q) (hn : n < 600) (hk : zkR X te a9 e9 c d g kd ln I L R) (ho : zoR Y ad m q kd' ln' I' L' R') (x : Int32) (y : Int32) : ∃ v8 : Int32, zLi l D cA te mi X Y ad n kd ln I L R kd' ln' I' L' R' y_Rec_count w_Rec_count { frames := 4, cells := 0, slots := 0, locals := 86 } 0 0 y_Mod_count w_Mod_count { frames := 1, cells := 0, slots := 0, locals := 21 } ([.int x, .int y] : List Value) (some (.int v8)) := by
  have h1 := zS_keep hS
  obtain ⟨h6, u, sl, of, tu, au, h, hu6, hu3⟩ := hS
  have hq := c_Mod_count (l := l) (D := D) (cA := cA) (te := te) (mi := mi) ho (x := x) (y := y)
  rcases zk_md_c g x with hmd | ⟨k, hk4, rfl, hg⟩
  · rw [zs_count0 h hmd] at hq
    exact ⟨_, _, _, _, _, _, h1, zq_E hk (c_Rec_count_N hk hmd), hq⟩
  · rw [← zs_count h hk4 hg] at hq
    exact ⟨_, _, _, _, _, _, h1, zq_E hk (c_Rec_count hk hk4 hg), hq⟩
theorem zl_packetByte (hS : zS n c d g m q) (hn : n < 600) (hk : zkR X te a9 e9 c d g kd ln I L R) (ho : zoR Y ad m q kd' ln' I' L' R') (x : Int32) (y : Int32) (z : Int32) : ∃ v8 : Int32, zLi l D cA te mi X Y ad n kd ln I L R kd' ln' I' L' R' y_Rec_packetByte w_Rec_packetByte { frames := 5, cells := 0, slots := 0, locals := 109 } 0 0 y_Mod_packetByte w_Mod_packetByte { frames := 1, cells := 0, slots := 0, locals := 24 } ([.int x, .int y, .int z] : List Value) (some (.int v8)) := by
  have h1 := zS_keep hS
  obtain ⟨h6, u, sl, of, tu, au, h, hu6, hu3⟩ := hS
  have hq := c_Mod_packetByte (l := l) (D := D) (cA := cA) (te := te) (mi := mi) ho (x := x) (y := y) (z := z) h.2.2.2.1.2.2.1
  rcases zk_md_c g x with hmd | ⟨k, hk4, rfl, hg⟩
  · rw [zs_pb1 h y z hmd] at hq
    exact ⟨_, _, _, _, _, _, h1, zq_E hk (c_Rec_packetByte_N hk hmd), hq⟩
  · obtain ⟨hnx, hnx1, hlo⟩ := zs_rng h hk4 hg
    by_cases e : y < nI (g 1 k) ∨ ¬ y < nI (g 2 k)
    · rw [zs_pb0 h z hk4 (zs_out hnx1 e)] at hq
      exact ⟨_, _, _, _, _, _, h1, zq_E hk (c_Rec_packetByte_O hk hk4 hg hnx hnx1 hlo e), hq⟩
    · obtain ⟨j, hj, rfl⟩ := zs_in hk4 hg hnx1 hlo e
      rw [← zs_pb h hj z] at hq
      obtain ⟨w, hw, hw4, -⟩ := (h.2.2.2.1.1 k j hj).2.1
      exact ⟨_, _, _, _, _, _, h1, zq_E hk (c_Rec_packetByte hk hk4 hg hnx hnx1 hlo hj.2.2.1 hj.2.2.2 (by omega)), hq⟩
theorem zl_seek (hS : zS n c d g m q) (hn : n < 600) (hk : zkR X te a9 e9 c d g kd ln I L R) (ho : zoR Y ad m q kd' ln' I' L' R') (x : Int32) (y : Int32) : ∃ v8 : Int32, zLi l D cA te mi X Y ad n kd ln I L R kd' ln' I' L' R' y_Rec_seek w_Rec_seek { frames := 4, cells := 0, slots := 0, locals := 87 } 0 0 y_Mod_seek w_Mod_seek { frames := 1, cells := 0, slots := 0, locals := 21 } ([.int x, .int y] : List Value) (some (.int v8)) := by
  have h1 := zS_keep hS
  obtain ⟨h6, u, sl, of, tu, au, h, hu6, hu3⟩ := hS
  have hq := c_Mod_seek (l := l) (D := D) (cA := cA) (te := te) (mi := mi) ho (x := x) (y := y)
  rcases zk_md_c g x with hmd | ⟨k, hk4, rfl, hg⟩
  · rw [if_pos (zs_md h hmd)] at hq
    exact ⟨_, _, _, _, _, _, h1, zq_E hk (c_Rec_seek_N hk hmd), hq⟩
  · rw [if_neg (zs_mdn h hk4 hg), ← zs_seek h hk4 hg] at hq
    exact ⟨_, _, _, _, _, _, h1, zq_E hk (c_Rec_seek hk hk4 hg), hq⟩
theorem zl_tick (hS : zS n c d g m q) (hn : n < 600) (hk : zkR X te a9 e9 c d g kd ln I L R) (ho : zoR Y ad m q kd' ln' I' L' R') (x : Int32) : ∃ v8 : Int32, zLi l D cA te mi X Y ad n kd ln I L R kd' ln' I' L' R' y_Rec_tick w_Rec_tick { frames := 3, cells := 0, slots := 0, locals := 66 } 0 0 y_Mod_tick w_Mod_tick { frames := 2, cells := 0, slots := 0, locals := 44 } ([.int x] : List Value) (some (.int v8)) := by
  have h1 := zS_keep hS
  obtain ⟨h6, u, sl, of, tu, au, h, hu6, hu3⟩ := hS
  have hbad : (x < nI 0 ∨ nI 1000 < x) → ∃ v8 : Int32, zLi l D cA te mi X Y ad n kd ln I L R kd' ln' I' L' R' y_Rec_tick w_Rec_tick { frames := 3, cells := 0, slots := 0, locals := 66 } 0 0 y_Mod_tick w_Mod_tick { frames := 2, cells := 0, slots := 0, locals := 44 } ([.int x] : List Value) (some (.int v8)) := fun hb => ⟨_, _, _, _, _, _, h1, zq_P (c_Rec_tick_B hk hb), c_Mod_tick_B ho hb⟩
  rcases zt_upto x 1000 (by decide) with hb | hb | ⟨j, hj, rfl⟩
  · exact hbad (Or.inl hb)
  · exact hbad (Or.inr hb)
  · obtain ⟨sn, hsn, hs⟩ := h.1.2.2.2.2.1
    obtain ⟨z1, z2⟩ := zs_tick h hs hsn j
    have hq := c_Mod_tick (l := l) (D := D) (cA := cA) (te := te) (mi := mi) ho hj hs hsn
    have hp := c_Rec_tick (l := l) (D := D) (cA := cA) (mi := mi) hk hj (by rw [zb_rb_s (by decide) (by decide), h.1.2.2.2.1, hs]) hsn
    rw [z2] at hp
    exact ⟨_, _, _, _, _, _, ⟨h6, u, sl, of, tu, au, z1, hu6, by omega⟩, zq_P hp, hq⟩
theorem zl_flip (hS : zS n c d g m q) (hn : n < 600) (hk : zkR X te a9 e9 c d g kd ln I L R) (ho : zoR Y ad m q kd' ln' I' L' R') (x : Int32) (y : Int32) (z : Int32) : ∃ v8 : Int32, zLi l D cA te mi X Y ad n kd ln I L R kd' ln' I' L' R' y_Rec_flip w_Rec_flip { frames := 4, cells := 0, slots := 0, locals := 93 } 0 0 y_Mod_flip w_Mod_flip { frames := 1, cells := 0, slots := 0, locals := 23 } ([.int x, .int y, .int z] : List Value) (some (.int v8)) := by
  obtain ⟨h6, u, sl, of, tu, au, h, hu6, hu3⟩ := hS
  have hq := c_Mod_flip (l := l) (D := D) (cA := cA) (te := te) (mi := mi) ho (x := x) (y := y) (z := z) h.1.1 h.1.2.2.1
  rw [← h.1.2.1] at hq
  exact ⟨_, _, _, _, _, _, ⟨h6, u, sl, of, tu, au, zs_flip h x y z, hu6, by omega⟩, zq_P (c_Rec_flip hk), hq⟩
theorem zl_latch (hS : zS n c d g m q) (hn : n < 600) (hk : zkR X te a9 e9 c d g kd ln I L R) (ho : zoR Y ad m q kd' ln' I' L' R') (x : Int32) : ∃ v8 : Int32, zLi l D cA te mi X Y ad n kd ln I L R kd' ln' I' L' R' y_Rec_latch w_Rec_latch { frames := 4, cells := 0, slots := 0, locals := 89 } 0 0 y_Mod_latch w_Mod_latch { frames := 1, cells := 0, slots := 0, locals := 23 } ([.int x] : List Value) (some (.int v8)) := by
  obtain ⟨h6, u, sl, of, tu, au, h, hu6, hu3⟩ := hS
  have hq := c_Mod_latch (l := l) (D := D) (cA := cA) (te := te) (mi := mi) ho (x := x) h.1.1 h.1.2.2.1
  rw [← h.1.2.1] at hq
  exact ⟨_, _, _, _, _, _, ⟨h6, u, sl, of, tu, au, zs_latch h x, hu6, by omega⟩, zq_P (c_Rec_latch hk), hq⟩
theorem zl_power (hS : zS n c d g m q) (hn : n < 600) (hk : zkR X te a9 e9 c d g kd ln I L R) (ho : zoR Y ad m q kd' ln' I' L' R') (x : Int32) : ∃ v8 : Int32, zLi l D cA te mi X Y ad n kd ln I L R kd' ln' I' L' R' y_Rec_power w_Rec_power { frames := 2, cells := 0, slots := 0, locals := 41 } 0 0 y_Mod_power w_Mod_power { frames := 0, cells := 0, slots := 0, locals := 0 } ([.int x] : List Value) (some (.int v8)) := by
  obtain ⟨h6, u, sl, of, tu, au, h, hu6, hu3⟩ := hS
  have hq := c_Mod_power (l := l) (D := D) (cA := cA) (te := te) (mi := mi) ho (x := x)
  have hp := c_Rec_power (l := l) (D := D) (cA := cA) (mi := mi) hk (x := x)
  have hz := zs_power h x
  rw [zq_on h.1.1 x] at hp hz
  exact ⟨_, _, _, _, _, _, ⟨h6, u, sl, of, tu, au, hz, hu6, by omega⟩, zq_P hp, hq⟩
theorem zl_checkpoint (hS : zS n c d g m q) (hn : n < 600) (hk : zkR X te a9 e9 c d g kd ln I L R) (ho : zoR Y ad m q kd' ln' I' L' R') (x : Int32) : ∃ v8 : Int32, zLi l D cA te mi X Y ad n kd ln I L R kd' ln' I' L' R' y_Rec_checkpoint w_Rec_checkpoint { frames := 5, cells := 0, slots := 0, locals := 110 } 0 0 y_Mod_checkpoint w_Mod_checkpoint { frames := 2, cells := 0, slots := 0, locals := 46 } ([.int x] : List Value) (some (.int v8)) := by
  have h1 := zS_keep hS
  obtain ⟨h6, u, sl, of, tu, au, h, hu6, hu3⟩ := hS
  have hq := c_Mod_checkpoint (l := l) (D := D) (cA := cA) (te := te) (mi := mi) ho (x := x)
  by_cases e : x < nI 0
  · rw [if_pos e, if_pos e] at hq
    exact ⟨_, _, _, _, _, _, h1, zq_P (c_Rec_checkpoint_B hk e), hq⟩
  · rw [if_neg e, if_neg e, zs_cost h] at hq
    have hp := c_Rec_checkpoint (l := l) (D := D) (cA := cA) (mi := mi) hk e (fun k x hk4 hg h1 h2 => (h.2.2.2.1.1 k x ⟨hk4, hg, h1, h2⟩).1.2.2.2.2.2.2.2.2.2.1) (fun k hk4 hg => (zs_rng h hk4 hg).2.2)
    by_cases e2 : x < nI (6 + 2 * zk_rn c g 4)
    · rw [if_pos e2] at hq hp
      exact ⟨_, _, _, _, _, _, h1, zq_P hp, hq⟩
    · rw [if_neg e2] at hq hp
      exact ⟨_, _, _, _, _, _, ⟨h6, u, sl, of, tu, au, zs_save h, hu6, by omega⟩, zq_P hp, hq⟩
theorem zl_reset (hS : zS n c d g m q) (hn : n < 600) (hk : zkR X te a9 e9 c d g kd ln I L R) (ho : zoR Y ad m q kd' ln' I' L' R') : zLi l D cA te mi X Y ad n kd ln I L R kd' ln' I' L' R' y_Rec_reset w_Rec_reset { frames := 4, cells := 0, slots := 0, locals := 86 } 0 0 y_Mod_reset w_Mod_reset { frames := 1, cells := 0, slots := 0, locals := 24 } ([] : List Value) none := by
  obtain ⟨h6, u, sl, of, tu, au, h, hu6, hu3⟩ := hS
  refine ⟨_, _, _, _, _, ⟨?_, u, sl, of, _, _, zs_reset h, hu6, by omega⟩, zq_P (c_Rec_reset hk (fun k x hk4 hg h1 h2 => ?_) (fun k hk4 hg => (zs_rng h hk4 hg).2.2)), c_Mod_reset ho h.2.2.2.1.2.2.2.1⟩
  · rw [zu_ne _ _ _ (by decide)]
    unfold zk_z3
    rw [if_neg (by decide)]
    exact h6
  · exact (h.2.2.2.1.1 k x ⟨hk4, hg, h1, h2⟩).1.2.2.2.2.2.2.2.2.2.2.1
theorem zl_told (hS : zS n c d g m q) (hn : n < 600) (hk : zkR X te a9 e9 c d g kd ln I L R) (ho : zoR Y ad m q kd' ln' I' L' R') (x : Int32) : ∃ v8 : Int32, zLi l D cA te mi X Y ad n kd ln I L R kd' ln' I' L' R' y_Rec_told w_Rec_told { frames := 1, cells := 0, slots := 0, locals := 22 } 0 0 y_Mod_told w_Mod_told { frames := 1, cells := 0, slots := 0, locals := 23 } ([.int x] : List Value) (some (.int v8)) := by
  obtain ⟨h6, u, sl, of, tu, au, h, hu6, hu3⟩ := hS
  have hq := c_Mod_told (l := l) (D := D) (cA := cA) (te := te) (mi := mi) ho (x := x)
  rw [← zs_told h x] at hq
  exact ⟨_, _, _, _, _, _, ⟨h6, u, sl, of, tu, au, h, hu6, by omega⟩, zq_E hk (c_Rec_told hk), hq⟩
end ZLA
