section ZSW
variable {c : Nat → Nat → Int32} {d : Nat → Nat → Int64} {g : Nat → Nat → Nat} {m : Nat → Nat → Int32} {q : Nat → Nat → Int64} {u sl of tu au : Nat → Nat → Nat}
/-- what stays, as the words of a packet are written for store k into place s -/
def zs_kp (k s : Nat) (c : Nat → Nat → Int32) (d : Nat → Nat → Int64) (g : Nat → Nat → Nat) (m : Nat → Nat → Int32) (u : Nat → Nat → Nat) (c1 : Nat → Nat → Int32) (d1 : Nat → Nat → Int64) (g1 : Nat → Nat → Nat) (m1 : Nat → Nat → Int32) (u1 : Nat → Nat → Nat) : Prop := c1 2 = c 2 ∧ c1 97 = c 97 ∧ (∀ i, i ≠ 4 → c1 96 i = c 96 i) ∧ d1 96 = d 96 ∧ d1 97 = d 97 ∧ (∀ r, r ≠ 1 → g1 r = g r) ∧ (∀ r, r ≠ 0 → r ≠ 1 → u1 r = u r) ∧ c1 (10 + k) 1 = c (10 + k) 1 ∧ m1 16 s = m 16 s
theorem zs_kp_t {k s : Nat} {c1 c2 : Nat → Nat → Int32} {d1 d2 : Nat → Nat → Int64} {g1 g2 : Nat → Nat → Nat} {m1 m2 : Nat → Nat → Int32} {u1 u2 : Nat → Nat → Nat} (h : zs_kp k s c d g m u c1 d1 g1 m1 u1) (h2 : zs_kp k s c1 d1 g1 m1 u1 c2 d2 g2 m2 u2) : zs_kp k s c d g m u c2 d2 g2 m2 u2 := by
  obtain ⟨a1, a2, a3, a4, a5, a6, a7, a8, a9⟩ := h
  obtain ⟨b1, b2, b3, b4, b5, b6, b7, b8, b9⟩ := h2
  exact ⟨b1.trans a1, b2.trans a2, fun i hi => (b3 i hi).trans (a3 i hi), b4.trans a4, b5.trans a5, fun r hr => (b6 r hr).trans (a6 r hr), fun r h0 h1 => (b7 r h0 h1).trans (a7 r h0 h1), b8.trans a8, b9.trans a9⟩
/-- the packet being written: w words of it stand, from o on in the chain -/
def zs_w (c : Nat → Nat → Int32) (g : Nat → Nat → Nat) (m : Nat → Nat → Int32) (u of : Nat → Nat → Nat) (k s w o : Nat) : Prop := m 16 s < nI 0 ∧ (1 ≤ w → c 96 4 = c (20 + k) (o / 13) ∧ m 21 s = c 96 4 ∧ o / 13 < u 0 k ∧ o + w + (16 - u 1 k) = 13 * u 0 k ∧ ∀ x, zs_l g k x → of k x + 2 ≤ o)
/-- a page is opened where one is due -/
theorem zs_wa (h : zs c d g m q u sl of tu au) {k s w o : Nat} (hk : k < 4) (hg : g 0 k ≠ 0) (hs : s < 280) (hw : w ≤ 16) (h6 : u 6 k = 0) (hwo : zs_w c g m u of k s w o) (hci : u 1 k = 16 → c (10 + k) 1 = nI 0 → u 0 k < u 2 k) : ∃ u1 of1 o1, zs (zk_wa k (c, d, g)).1 (zk_wa k (c, d, g)).2.1 (zk_wa k (c, d, g)).2.2 (zo_rwa k (m, q)).1 (zo_rwa k (m, q)).2 u1 sl of1 tu au ∧ zs_w (zk_wa k (c, d, g)).1 (zk_wa k (c, d, g)).2.2 (zo_rwa k (m, q)).1 u1 of1 k s w o1 ∧ zs_kp k s c d g m u (zk_wa k (c, d, g)).1 (zk_wa k (c, d, g)).2.1 (zk_wa k (c, d, g)).2.2 (zo_rwa k (m, q)).1 u1 ∧ u1 1 k < 16 ∧ 1 ≤ u1 0 k ∧ (16 - u1 1 k) + 13 * (u1 2 k - u1 0 k) ≥ (16 - u 1 k) + 13 * (u 2 k - u 0 k) := by
  have hsk := (h.2.1 k hk).2 hg
  obtain ⟨b1, b2, b3, b4, b5, b6, b7, b8, b9, b10, b11, b12, b13, b14, b15⟩ := hsk
  obtain ⟨c1, c2, c3, c4, c5, c6, c7⟩ := b14
  unfold zk_wa zo_rwa
  by_cases e16 : u 1 k = 16
  · rw [if_pos (show (c, d, g).1 (10 + k) 4 = nI 16 by rw [← e16]; exact b12), if_pos (show (m, q).1 13 k = nI 16 by rw [← e16]; exact b13)]
    have key : ∀ {c : Nat → Nat → Int32} {d : Nat → Nat → Int64} {g : Nat → Nat → Nat} {m : Nat → Nat → Int32} {q : Nat → Nat → Int64} {u of : Nat → Nat → Nat} {o : Nat}, zs c d g m q u sl of tu au → g 0 k ≠ 0 → u 1 k = 16 → u 0 k < u 2 k → zs_w c g m u of k s w o → ∃ u1 of1 o1, zs (zk_op k (u 0 k) (c, d, g)).1 (zk_op k (u 0 k) (c, d, g)).2.1 (zk_op k (u 0 k) (c, d, g)).2.2 (zo_op k (u 0 k) (m, q)).1 (zo_op k (u 0 k) (m, q)).2 u1 sl of1 tu au ∧ zs_w (zk_op k (u 0 k) (c, d, g)).1 (zk_op k (u 0 k) (c, d, g)).2.2 (zo_op k (u 0 k) (m, q)).1 u1 of1 k s w o1 ∧ zs_kp k s c d g m u (zk_op k (u 0 k) (c, d, g)).1 (zk_op k (u 0 k) (c, d, g)).2.1 (zk_op k (u 0 k) (c, d, g)).2.2 (zo_op k (u 0 k) (m, q)).1 u1 ∧ u1 1 k < 16 ∧ 1 ≤ u1 0 k ∧ u1 0 k = u 0 k + 1 ∧ u1 1 k = 3 := by
      intro c d g m q u of o h hg e16 hlt hwo
      have hz := zs_op h hk hg hlt e16
      have hlf := zs_page h hk hg hlt
      refine ⟨_, of, o, hz, ?_, ?_, ?_, ?_, ?_, ?_⟩
      · refine ⟨?_, fun hw1 => ?_⟩
        · show zo_opI m k (u 0 k) (zo_lf (m 15) 40) 16 s < nI 0
          unfold zo_opI
          rw [zu_ne _ _ _ (by decide), zu_ne _ _ _ (by decide), zu_ne _ _ _ (by decide), zu_ne _ _ _ (by decide)]
          exact hwo.1
        · obtain ⟨w1, w2, w3, w4, w5⟩ := hwo.2 hw1
          have ec : zk_opc c k (u 0 k) (zb_lp (c 1) 39) 96 = c 96 := by unfold zk_opc; rw [zu_ne _ _ _ (by omega), zu_ne _ _ _ (by omega), zu_ne _ _ _ (by omega), zu_ne _ _ _ (by omega)]
          have ed : zk_opc c k (u 0 k) (zb_lp (c 1) 39) (20 + k) (o / 13) = c (20 + k) (o / 13) := by unfold zk_opc; rw [zu_ne _ _ _ (by omega), zu_ne _ _ _ (by omega), zu_k _ _ _ _ (by omega), zu_ne _ _ _ (by omega)]
          have em : zo_opI m k (u 0 k) (zo_lf (m 15) 40) 21 = m 21 := by unfold zo_opI; rw [zu_ne _ _ _ (by decide), zu_ne _ _ _ (by decide), zu_ne _ _ _ (by decide), zu_ne _ _ _ (by decide)]
          show zk_opc c k (u 0 k) (zb_lp (c 1) 39) 96 4 = zk_opc c k (u 0 k) (zb_lp (c 1) 39) (20 + k) (o / 13) ∧ zo_opI m k (u 0 k) (zo_lf (m 15) 40) 21 s = zk_opc c k (u 0 k) (zb_lp (c 1) 39) 96 4 ∧ o / 13 < zu (zu u 0 k (u 0 k + 1)) 1 k 3 0 k ∧ o + w + (16 - zu (zu u 0 k (u 0 k + 1)) 1 k 3 1 k) = 13 * zu (zu u 0 k (u 0 k + 1)) 1 k 3 0 k ∧ _
          rw [ec, ed, em, zu_self, zu_ne _ _ _ (show (0 : Nat) ≠ 1 by decide), zu_self]
          exact ⟨w1, w2, by omega, by omega, w5⟩
      · refine ⟨?_, ?_, fun i hi => ?_, ?_, ?_, fun _ _ => rfl, fun r h0 h1 => ?_, ?_, ?_⟩
        · show zk_opc c k (u 0 k) (zb_lp (c 1) 39) 2 = c 2
          unfold zk_opc
          rw [zu_ne _ _ _ (by omega), zu_ne _ _ _ (by omega), zu_ne _ _ _ (by omega), zu_ne _ _ _ (by omega)]
        · show zk_opc c k (u 0 k) (zb_lp (c 1) 39) 97 = c 97
          unfold zk_opc
          rw [zu_ne _ _ _ (by omega), zu_ne _ _ _ (by omega), zu_ne _ _ _ (by omega), zu_ne _ _ _ (by omega)]
        · show zk_opc c k (u 0 k) (zb_lp (c 1) 39) 96 i = c 96 i
          unfold zk_opc
          rw [zu_ne _ _ _ (by omega), zu_ne _ _ _ (by omega), zu_ne _ _ _ (by omega), zu_ne _ _ _ (by omega)]
        · show zb_wrs 3 (zb_lp (c 1) 39) d 16 96 = d 96
          exact zb_wrs_ne (by decide) 16
        · show zb_wrs 3 (zb_lp (c 1) 39) d 16 97 = d 97
          exact zb_wrs_ne (by decide) 16
        · rw [zu_ne _ _ _ h1, zu_ne _ _ _ h0]
        · show zk_opc c k (u 0 k) (zb_lp (c 1) 39) (10 + k) 1 = c (10 + k) 1
          unfold zk_opc
          rw [zu_k _ _ _ _ (by decide), zu_k _ _ _ _ (by decide), zu_ne _ _ _ (by omega), zu_ne _ _ _ (by omega)]
        · show zo_opI m k (u 0 k) (zo_lf (m 15) 40) 16 s = m 16 s
          unfold zo_opI
          rw [zu_ne _ _ _ (by decide), zu_ne _ _ _ (by decide), zu_ne _ _ _ (by decide), zu_ne _ _ _ (by decide)]
      · rw [zu_self]
        decide
      · rw [zu_ne _ _ _ (by decide), zu_self]
        omega
      · rw [zu_ne _ _ _ (by decide), zu_self]
      · rw [zu_self]
    by_cases elt : u 0 k < u 2 k
    · rw [zk_opn_N (z := (c, d, g)) b10 b5 (by omega) (by omega) (Or.inr (by omega)), zo_opn_N (z := (m, q)) b11 b6 (by omega) (by omega) (by omega)]
      obtain ⟨u1, of1, o1, r1, r2, r3, r4, r5, r6, r7⟩ := key h hg e16 elt hwo
      refine ⟨u1, of1, o1, r1, r2, r3, r4, r5, ?_⟩
      have := r3.2.2.2.2.2.2.1 2 (by decide) (by decide)
      rw [this, r6, r7]
      omega
    · have ecl : u 0 k = u 2 k := by omega
      have hcirc : ¬ c (10 + k) 1 = nI 0 := fun z => elt (hci e16 z)
      rw [zk_opn_F (z := (c, d, g)) b10 b5 (by omega) hcirc ecl, zo_opn_F (z := (m, q)) b11 b6 (by omega) ecl]
      have hf := zs_ff h hk hg (by omega) (fun _ z => by omega)
      have hff0 := zk_pgs_0 (zs_pgs h hk hg).1 (show 1 ≤ u 0 k by omega)
      have epg := zs_pg h hk hg (show 1 ≤ u 0 k by omega)
      have hwf : zs_w (zk_ff k (u 0 k) (c, d, g)).1 (zk_ff k (u 0 k) (c, d, g)).2.2 (zo_fr k (u 0 k) (m, q)).1 (zu u 0 k (u 0 k - 1)) (zs_of of k) k s w (o - 13) := by
        refine ⟨?_, fun hw1 => ?_⟩
        · show zo_frI m k (u 0 k) (zo_pg m k) 16 s < nI 0
          rw [zo_frI_16 hs, if_neg (fun z => by have := hwo.1; rw [z] at this; exact nI_nlt (Nat.zero_le _) (by omega) this)]
          exact hwo.1
        · obtain ⟨w1, w2, w3, w4, w5⟩ := hwo.2 hw1
          have ho : 13 ≤ o := by omega
          show zk_ffc c k (u 0 k) (zk_pg c k) 96 4 = zk_ffc c k (u 0 k) (zk_pg c k) (20 + k) ((o - 13) / 13) ∧ zo_frI m k (u 0 k) (zo_pg m k) 21 s = zk_ffc c k (u 0 k) (zk_pg c k) 96 4 ∧ (o - 13) / 13 < zu u 0 k (u 0 k - 1) 0 k ∧ o - 13 + w + (16 - zu u 0 k (u 0 k - 1) 1 k) = 13 * zu u 0 k (u 0 k - 1) 0 k ∧ _
          rw [zk_ffc_p (by decide) hk, zo_frI_r (by decide) (by decide) (by decide) (by decide), zk_ffc_20, pk_cpy_in (by omega) (by omega), zu_self, zu_ne _ _ _ (show (1 : Nat) ≠ 0 by decide)]
          refine ⟨?_, w2, by omega, by omega, fun x hx => ?_⟩
          · rw [w1]
            congr 1
            omega
          · have hx0 : zs_l g k x := by
              have := hx.2.2.1
              have e1 : (zk_ff k (u 0 k) (c, d, g)).2.2 1 k = g 1 k + zk_pf c k (g 2 k) (zk_pg c k) (g 2 k - g 1 k) := (show zk_ffg c g k (zk_pg c k) 1 k = g 1 k + zk_pf c k (g 2 k) (zk_pg c k) (g 2 k - g 1 k) from zu_self _ _ _ _)
              have e2 : (zk_ff k (u 0 k) (c, d, g)).2.2 2 k = g 2 k := congrFun (show zk_ffg c g k (zk_pg c k) 2 = g 2 from zk_ffg_0 (by decide)) k
              have h4 := hx.2.2.2
              rw [e1] at this
              rw [e2] at h4
              exact ⟨hk, hg, by omega, h4⟩
            have := w5 x hx0
            unfold zs_of
            rw [if_pos rfl]
            have h13 : 13 ≤ of k x := Nat.not_lt.mp fun z => by
              have h5 := (zs_pfx h hx0 (by omega) hff0.1).mpr z
              have h6 := hx.2.2.1
              have e1 : (zk_ff k (u 0 k) (c, d, g)).2.2 1 k = g 1 k + zk_pf c k (g 2 k) (zk_pg c k) (g 2 k - g 1 k) := (show zk_ffg c g k (zk_pg c k) 1 k = g 1 k + zk_pf c k (g 2 k) (zk_pg c k) (g 2 k - g 1 k) from zu_self _ _ _ _)
              rw [e1] at h6
              omega
            omega
      have hkf : zs_kp k s c d g m u (zk_ff k (u 0 k) (c, d, g)).1 (zk_ff k (u 0 k) (c, d, g)).2.1 (zk_ff k (u 0 k) (c, d, g)).2.2 (zo_fr k (u 0 k) (m, q)).1 (zu u 0 k (u 0 k - 1)) := by
        refine ⟨zk_ffc_r (by decide) (by omega) (by omega), zk_ffc_p (by decide) hk, fun i _ => ?_, (show zb_wr 3 (zk_pg c k) 0 d 96 = d 96 from zb_wr_ne (by decide)), (show zb_wr 3 (zk_pg c k) 0 d 97 = d 97 from zb_wr_ne (by decide)), fun r hr => (show zk_ffg c g k (zk_pg c k) r = g r from zk_ffg_0 hr), fun r h0 _ => zu_ne _ _ _ h0, zk_ffc_10 (by decide), ?_⟩
        · show zk_ffc c k (u 0 k) (zk_pg c k) 96 i = c 96 i
          rw [zk_ffc_p (by decide) hk]
        · show zo_frI m k (u 0 k) (zo_pg m k) 16 s = m 16 s
          rw [zo_frI_16 hs, if_neg (fun z => by have := hwo.1; rw [z] at this; exact nI_nlt (Nat.zero_le _) (by omega) this)]
      have eu0 : zu u 0 k (u 0 k - 1) 0 k = u 0 k - 1 := zu_self _ _ _ _
      have eu1 : zu u 0 k (u 0 k - 1) 1 k = u 1 k := by rw [zu_ne _ _ _ (by decide)]
      have eu2 : zu u 0 k (u 0 k - 1) 2 k = u 2 k := by rw [zu_ne _ _ _ (by decide)]
      obtain ⟨u1, of1, o1, r1, r2, r3, r4, r5, r6, r7⟩ := key (c := (zk_ff k (u 0 k) (c, d, g)).1) (d := (zk_ff k (u 0 k) (c, d, g)).2.1) (g := (zk_ff k (u 0 k) (c, d, g)).2.2) (m := (zo_fr k (u 0 k) (m, q)).1) (q := (zo_fr k (u 0 k) (m, q)).2) hf (by show zk_ffg c g k (zk_pg c k) 0 k ≠ 0; rw [zk_ffg_0 (by decide)]; exact hg) (by rw [eu1]; exact e16) (by rw [eu0, eu2]; omega) hwf
      rw [eu0] at r1 r2 r3 r6
      refine ⟨u1, of1, o1, r1, r2, zs_kp_t hkf r3, r4, r5, ?_⟩
      have := r3.2.2.2.2.2.2.1 2 (by decide) (by decide)
      rw [this, eu2, r6, r7]
      omega
  · rw [if_neg (show ¬ (c, d, g).1 (10 + k) 4 = nI 16 from fun z => e16 ((nI_eq (by omega) (by omega)).mp (b12.symm.trans z))), if_neg (show ¬ (m, q).1 13 k = nI 16 from fun z => e16 ((nI_eq (by omega) (by omega)).mp (b13.symm.trans z)))]
    exact ⟨u, of, o, h, hwo, ⟨rfl, rfl, fun _ _ => rfl, rfl, rfl, fun _ _ => rfl, fun _ _ _ => rfl, rfl, rfl⟩, by omega, Nat.pos_of_ne_zero fun z => e16 (c6 h6 z), Nat.le_refl _⟩
/-- a word is written -/
theorem zs_wb (h : zs c d g m q u sl of tu au) {k s w o : Nat} (hk : k < 4) (hg : g 0 k ≠ 0) (hs : s < 280) (hf : u 1 k < 16) (hc1 : 1 ≤ u 0 k) (hwo : zs_w c g m u of k s w o) : ∃ u1 o1, zs (zk_wb k w (c, d, g)).1 (zk_wb k w (c, d, g)).2.1 (zk_wb k w (c, d, g)).2.2 (zo_rwb k s w (m, q)).1 (zo_rwb k s w (m, q)).2 u1 sl of tu au ∧ zs_w (zk_wb k w (c, d, g)).1 (zk_wb k w (c, d, g)).2.2 (zo_rwb k s w (m, q)).1 u1 of k s (w + 1) o1 ∧ zs_kp k s c d g m u (zk_wb k w (c, d, g)).1 (zk_wb k w (c, d, g)).2.1 (zk_wb k w (c, d, g)).2.2 (zo_rwb k s w (m, q)).1 u1 ∧ u1 1 k = u 1 k + 1 ∧ u1 0 k = u 0 k := by
  have hsk := (h.2.1 k hk).2 hg
  obtain ⟨b1, b2, b3, b4, b5, b6, b7, b8, b9, b10, b11, b12, b13, b14, b15⟩ := hsk
  obtain ⟨e14, pg, hp40, hpg, hpu⟩ := b15 (u 0 k - 1) (by omega)
  have elp : zk_lpg c k = pg := by unfold zk_lpg; rw [b10, nI_clamp (by omega), hpg, nI_clamp (by omega)]
  have enw : zk_nw c k = u 1 k := by unfold zk_nw; rw [b12, nI_clamp (by omega)]
  have elo : zo_lp m k = pg := by unfold zo_lp; rw [b11, nI_clamp (by omega), show 40 * k + u 0 k - 1 = 40 * k + (u 0 k - 1) by omega, e14, hpg, nI_clamp (by omega)]
  have efl : zo_fl m k = u 1 k := by unfold zo_fl; rw [b13, nI_clamp (by omega)]
  have hdead : ∀ {j x}, zs_l g j x → sl j x ≠ s := fun {j x} hx e => by
    have h1 := (h.2.2.2.1.1 j x hx).1.2.1
    have h2 := hwo.1
    rw [e] at h1
    rw [h1] at h2
    exact nI_nlt (Nat.zero_le _) (by have := hx.1; omega) h2
  have h0 := h
  obtain ⟨hA, hB, hG, hP, hL, hF, hN⟩ := h
  generalize hC : (zk_wb k w (c, d, g)).1 = C
  generalize hM : (zo_rwb k s w (m, q)).1 = M
  have eD : (zk_wb k w (c, d, g)).2.1 = zb_wr 3 pg (u 1 k) d := by show zb_wr 3 (zk_lpg c k) (zk_nw c k) d = _; rw [elp, enw]
  have eG : (zk_wb k w (c, d, g)).2.2 = g := rfl
  have eQ : (zo_rwb k s w (m, q)).2 = zb_wr 0 pg (u 1 k) q := by show zb_wr 0 (zo_lp m k) (zo_fl m k) q = _; rw [elo, efl]
  have eC : C = zu (if w = 0 then zu c 96 4 (nI pg) else c) (10 + k) 4 (nI (u 1 k + 1)) := by rw [← hC]; show zu (if w = 0 then zu c 96 4 (nI (zk_lpg c k)) else c) (10 + k) 4 (nI (zk_nw c k + 1)) = _; rw [elp, enw]
  have eM : M = zu (zu m 21 s (if w = 0 then nI pg else m 21 s)) 13 k (nI (u 1 k + 1)) := by rw [← hM]; show zu (zu m 21 s (if w = 0 then nI (zo_lp m k) else m 21 s)) 13 k (nI (zo_fl m k + 1)) = _; rw [elo, efl]
  rw [eD, eG, eQ]
  have Cr : ∀ r, r ≠ 10 + k → r ≠ 96 → C r = c r := fun r h1 h2 => by
    rw [eC, zu_ne _ _ _ h1]
    split
    · rw [zu_ne _ _ _ h2]
    · rfl
  have C96 : ∀ i, C 96 i = if w = 0 ∧ i = 4 then nI pg else c 96 i := fun i => by
    rw [eC, zu_ne _ _ _ (by omega)]
    by_cases e : w = 0
    · rw [if_pos e, zu_if]
      by_cases e4 : i = 4
      · rw [if_pos ⟨rfl, e4⟩, if_pos ⟨e, e4⟩]
      · rw [if_neg (fun z => e4 z.2), if_neg (fun z => e4 z.2)]
    · rw [if_neg e, if_neg (fun z => e z.1)]
  have C10 : ∀ i, i ≠ 4 → C (10 + k) i = c (10 + k) i := fun i hi => by
    rw [eC, zu_k _ _ _ _ hi]
    split
    · rw [zu_ne _ _ _ (by omega)]
    · rfl
  have C104 : C (10 + k) 4 = nI (u 1 k + 1) := by rw [eC, zu_self]
  have Mr : ∀ r, r ≠ 13 → r ≠ 21 → M r = m r := fun r h1 h2 => by rw [eM, zu_ne _ _ _ h1, zu_ne _ _ _ h2]
  have M13 : ∀ j, M 13 j = if j = k then nI (u 1 k + 1) else m 13 j := fun j => by
    rw [eM, zu_if, zu_ne _ _ _ (by decide)]
    by_cases e : j = k
    · rw [if_pos ⟨rfl, e⟩, if_pos e]
    · rw [if_neg (fun z => e z.2), if_neg e]
  have M21 : ∀ j, M 21 j = if j = s ∧ w = 0 then nI pg else m 21 j := fun j => by
    rw [eM, zu_ne _ _ _ (by decide), zu_if]
    by_cases e : j = s
    · rw [if_pos ⟨rfl, e⟩]
      by_cases e2 : w = 0
      · rw [if_pos e2, if_pos ⟨e, e2⟩]
      · rw [if_neg e2, if_neg (fun z => e2 z.2), e]
    · rw [if_neg (fun z => e z.2), if_neg (fun z => e z.1)]
  have Ur : ∀ r, r ≠ 1 → zu u 1 k (u 1 k + 1) r = u r := fun r hr => zu_ne _ _ _ hr
  have U1 : ∀ j, zu u 1 k (u 1 k + 1) 1 j = if j = k then u 1 k + 1 else u 1 j := fun j => by
    rw [zu_if]
    by_cases e : j = k
    · rw [if_pos ⟨rfl, e⟩, if_pos e]
    · rw [if_neg (fun z => e z.2), if_neg e]
  refine ⟨zu u 1 k (u 1 k + 1), if w = 0 then 13 * (u 0 k - 1) + (u 1 k - 3) else o, ⟨?_, ?_, ?_, ?_, ?_, ?_, ?_⟩, ⟨by rw [Mr 16 (by decide) (by decide)]; exact hwo.1, fun _ => ?_⟩, ⟨Cr _ (by omega) (by decide), Cr _ (by omega) (by decide), fun i hi => by rw [C96, if_neg (fun z => hi z.2)], zb_wr_ne (by decide), zb_wr_ne (by decide), fun _ _ => rfl, fun r _ h1 => Ur r h1, C10 _ (by decide), by rw [Mr 16 (by decide) (by decide)]⟩, by rw [U1, if_pos rfl], by rw [Ur 0 (by decide)]⟩
  · obtain ⟨a1, a2, a3, a4, a5, a6, a7, a8⟩ := hA
    unfold zs_A
    rw [Cr 0 (by omega) (by decide), Cr 1 (by omega) (by decide), Mr 40 (by decide) (by decide), Mr 15 (by decide) (by decide)]
    exact ⟨a1, zb_wr_at a2, zb_wr_f2 a3, a4, a5, a6, a7, a8⟩
  · intro j hj
    rw [Mr 7 (by decide) (by decide)]
    refine ⟨(hB j hj).1, fun gj => ?_⟩
    obtain ⟨d1, d2, d3, d4, d5, d6, d7, d8, d9, d10, d11, d12, d13, d14, d15⟩ := (hB j hj).2 gj
    unfold zs_k
    rw [Mr 7 (by decide) (by decide), Mr 8 (by decide) (by decide), Mr 9 (by decide) (by decide), Mr 10 (by decide) (by decide), Mr 11 (by decide) (by decide), Mr 12 (by decide) (by decide), Mr 14 (by decide) (by decide), Mr 15 (by decide) (by decide), M13, U1, Ur 0 (by decide), Ur 2 (by decide), Ur 6 (by decide), Cr (20 + j) (by omega) (by omega)]
    by_cases e : j = k
    · subst e
      rw [if_pos rfl, if_pos rfl, C104, C10 0 (by decide), C10 1 (by decide), C10 6 (by decide), C10 8 (by decide), C10 9 (by decide), C10 7 (by decide)]
      exact ⟨d1, d2, d3, d4, d5, d6, d7, d8, d9, d10, d11, rfl, rfl, ⟨d14.1, d14.2.1, d14.2.2.1, by omega, by omega, fun _ z => by omega, d14.2.2.2.2.2.2⟩, d15⟩
    · rw [if_neg e, if_neg e, Cr (10 + j) (by omega) (by omega)]
      exact ⟨d1, d2, d3, d4, d5, d6, d7, d8, d9, d10, d11, d12, d13, d14, d15⟩
  · exact zs_G_c hG (fun j hj => Cr _ (by omega) (by omega)) (fun _ _ => rfl) (Mr _ (by decide) (by decide)) (fun _ => ⟨by rw [Ur 0 (by decide)], by rw [Ur 2 (by decide)]⟩)
  · obtain ⟨p1, p2, p3, p4, p5⟩ := hP
    refine ⟨fun j x hx => ?_, fun t ht e => p2 t ht (by rw [Mr 16 (by decide) (by decide)] at e; exact e), fun t ht => by rw [Mr 20 (by decide) (by decide)]; exact p3 t ht, fun t ht => by rw [Mr 23 (by decide) (by decide)]; exact p4 t ht, p5⟩
    obtain ⟨a1, a2, a3⟩ := p1 j x hx
    have hj := hx.1
    have e1 : C (zk_p j x) = c (zk_p j x) := Cr _ (by unfold zk_p; omega) (by unfold zk_p; omega)
    have e2 : C (zk_p j x + 1) = c (zk_p j x + 1) := Cr _ (by unfold zk_p; omega) (by unfold zk_p; omega)
    refine ⟨?_, ?_, ?_⟩
    · unfold zs_p
      rw [e1, zb_wr_ne (by unfold zk_p; omega), Mr 16 (by decide) (by decide), Mr 17 (by decide) (by decide), Mr 19 (by decide) (by decide), Mr 22 (by decide) (by decide), Mr 23 (by decide) (by decide), Mr 24 (by decide) (by decide), M21, if_neg (fun z => hdead hx z.1), Ur 5 (by decide)]
      exact a1
    · unfold zs_te zo_tl
      rw [e2, Mr 18 (by decide) (by decide), Mr 19 (by decide) (by decide), Mr 20 (by decide) (by decide), zb_wr_ne (by decide)]
      exact a2
    · unfold zs_o
      rw [e1, Cr (20 + j) (by omega) (by omega), Ur 0 (by decide), U1]
      obtain ⟨o1, o2, o3, o4⟩ := a3
      by_cases e : j = k
      · rw [if_pos e]
        rw [e] at o1 o2 o3 o4 ⊢
        exact ⟨o1, o2, by omega, o4⟩
      · rw [if_neg e]
        exact ⟨o1, o2, o3, o4⟩
  · exact zs_L_c hL (fun p hp => ⟨Cr _ (by omega) (by omega), zb_wr_ne (by omega)⟩) (fun _ _ => rfl) (fun _ _ => rfl) (fun r a b => Mr r (by omega) (by omega)) (fun _ => ⟨by rw [Ur 3 (by decide)], by rw [Ur 4 (by decide)]⟩) ⟨by rw [Ur 5 (by decide)]; exact Nat.le_refl _, by rw [Ur 5 (by decide)]; exact Nat.le_refl _⟩
  · exact zs_F_c hF (Cr _ (by omega) (by decide)) ⟨Cr _ (by omega) (by decide), Cr _ (by omega) (by decide)⟩ ⟨rfl, rfl⟩ (Mr _ (by decide) (by decide)) (by rw [Mr 40 (by decide) (by decide)]) (Mr _ (by decide) (by decide))
  · obtain ⟨n1, n2, n3, n4, n5, n6, n7, n8, n9⟩ := hN
    unfold zs_N
    rw [zb_wr_ne (by decide), Mr 40 (by decide) (by decide), Ur 5 (by decide)]
    exact ⟨n1, n2, n3, n4, n5, n6, n7, n8, n9⟩
  · rw [C96, M21, Ur 0 (by decide), U1, if_pos rfl, Cr (20 + k) (by omega) (by omega)]
    by_cases e : w = 0
    · rw [if_pos e, if_pos ⟨e, rfl⟩, if_pos ⟨rfl, e⟩]
      have hq : (13 * (u 0 k - 1) + (u 1 k - 3)) / 13 = u 0 k - 1 := by omega
      rw [hq]
      refine ⟨hpg.symm, rfl, by omega, by omega, fun x hx => ?_⟩
      have := (hP.1 k x hx).2.2.2.2.1
      omega
    · rw [if_neg e, if_neg (fun z => e z.1), if_neg (fun z => e z.2)]
      obtain ⟨w1, w2, w3, w4, w5⟩ := hwo.2 (by omega)
      exact ⟨w1, w2, w3, by omega, w5⟩
end ZSW
