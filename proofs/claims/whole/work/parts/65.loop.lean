theorem zt_l5 {L i : Nat} (hL : L ≤ 2560) (hi : i ≤ 2565) : (Int32.ofNat L - nI 5 < nI i) ↔ L < i + 5 := by
  rw [Int32.lt_iff_toInt_lt, show Int32.ofNat L = nI L from rfl, pk_sub_toInt (by omega) (by omega), nI_toInt (by omega)]
  omega
section LWL
variable {p : Program} {l : Launch} {e : Env} {s : State} {m : MethodId} {below : List Frame} {meth : Method} {c : Code} {Q : State → Prop} {D : va_G} {cA : Nat → ClassId} {b L X Y te mi : Nat} {xs : Nat → Int32}
set_option maxHeartbeats 4000000 in
set_option maxRecDepth 100000 in
theorem lw_loop (K : lw_K p s m c b L xs D cA te mi) (kend : ∀ (H : Heap) (locs : List Loc) (ls : Array Slot) (cells slots : Nat), va_S (fun q => s.heap.size ≤ q) s.heap H locs → cells ≤ 600000 → slots ≤ 7302250 → W p l e room_1 s m #[Value.ref b] below meth c H locs cells slots Q (F0 m 798 ls [])) : ∀ (z k i cells slots : Nat) (H : Heap) (locs : List Loc) (ls : Array Slot), L - i < z → i = 5 * k → k ≤ 512 → lv_has ls 4 [(3, .int (nI i)), (2, .ref Y), (1, .ref X), (0, .ref b)] → zWd s D cA te X Y k H locs → cells + 3 * (512 - k) ≤ 600000 → slots + 1574 * (512 - k) ≤ 7302250 → W p l e room_1 s m #[Value.ref b] below meth c H locs cells slots Q (F0 m 18 ls [])
  | 0, k, i, cells, slots, H, locs, ls, hz, _, _, _, _, _, _ => absurd hz (Nat.not_lt_zero _)
  | z + 1, k, i, cells, slots, H, locs, ls, hz, hik, hk, hl, hw, hc, hs => by
    obtain ⟨hx, hb, hml, hown, hts, hX, hbl, hSc, hE, hL⟩ := id K
    refine lv_iload_n hx hb d_Law_law_18 rfl (lv_at hl 0 rfl) ?_
    refine lv_aload_n hx hb d_Law_law_19 rfl (lv_at hl 3 rfl) ?_
    refine va_slen hx hb hX hbl (fun z => by omega) hw.S d_Law_law_20 ?_
    refine lv_iconst (v := nI 5) hx hb d_Law_law_21 (by decide) ?_
    refine lv_isub hx hb d_Law_law_22 ?_
    refine lv_icmp_gt (tgt := 798) hx hb d_Law_law_23 (by decide) (fun hc1 => ?_) (fun hc1 => ?_)
    · exact kend H locs ls cells slots hw.S (by omega) (by omega)
    · rw [zt_l5 hL (by omega)] at hc1
      have hn : ∀ (H1 : Heap) (locs1 : List Loc), zWd s D cA te X Y (k + 1) H1 locs1 → W p l e room_1 s m #[Value.ref b] below meth c H1 locs1 (cells + 3) (slots + 1574) Q (F0 m 792 ls []) := fun H1 locs1 hw1 => by
        refine lv_iinc (k := 0) (v := nI (i + 5)) (lv' := [(3, .int (nI (i + 5))), (2, .ref Y), (1, .ref X), (0, .ref b)]) hx hb d_Law_law_792 hl rfl (nI_add i 5) (by decide) rfl (fun ls hl => ?_)
        refine lv_goto (tgt := 18) hx hb d_Law_law_795 (by decide) ?_
        exact lw_loop K kend z (k + 1) (i + 5) (cells + 3) (slots + 1574) H1 locs1 ls (by omega) (by omega) (by omega) hl hw1 (by omega) (by omega)
      refine lv_aload_n hx hb d_Law_law_26 rfl (lv_at hl 3 rfl) ?_
      refine lv_iload_n hx hb d_Law_law_27 rfl (lv_at hl 0 rfl) ?_
      refine va_sld hx hb hX hbl (fun z => by omega) hw.S (vp_in_nI (show i < L by omega) (by omega)) d_Law_law_28 ?_
      refine lv_bipush (v := nI 31) hx hb d_Law_law_29 (by decide) ?_
      refine lv_iand hx hb d_Law_law_31 ?_
      obtain ⟨r, hr, er⟩ := zy_31 (xs (nI i).toNatClampNeg)
      rw [er]
      by_cases h20 : 20 ≤ r
      · refine lv_tableOut (tgt := 792) hx hb d_Law_law_32 (Or.inr (by rw [nI_toInt (by omega)]; omega)) (by decide) ?_
        exact W.widen (k := cells + 3) (n := slots + 1574) (by omega) (by omega) (hn H locs hw.keep)
      · have hr20 : r = 0 ∨ r = 1 ∨ r = 2 ∨ r = 3 ∨ r = 4 ∨ r = 5 ∨ r = 6 ∨ r = 7 ∨ r = 8 ∨ r = 9 ∨ r = 10 ∨ r = 11 ∨ r = 12 ∨ r = 13 ∨ r = 14 ∨ r = 15 ∨ r = 16 ∨ r = 17 ∨ r = 18 ∨ r = 19 := by omega
        rcases hr20 with rfl | rfl | rfl | rfl | rfl | rfl | rfl | rfl | rfl | rfl | rfl | rfl | rfl | rfl | rfl | rfl | rfl | rfl | rfl | rfl
        · refine lv_tableIn (off := 96) (tgt := 128) hx hb d_Law_law_32 (by decide) (by decide) (by decide +kernel) (by decide) ?_
          exact lwc_makeStore K (by omega) (by omega) hl hw (by omega) (by omega) hn
        · refine lv_tableIn (off := 155) (tgt := 187) hx hb d_Law_law_32 (by decide) (by decide) (by decide +kernel) (by decide) ?_
          exact lwc_dropStore K (by omega) (by omega) hl hw (by omega) (by omega) hn
        · refine lv_tableIn (off := 178) (tgt := 210) hx hb d_Law_law_32 (by decide) (by decide) (by decide +kernel) (by decide) ?_
          exact lwc_put K (by omega) (by omega) hl hw (by omega) (by omega) hn
        · refine lv_tableIn (off := 241) (tgt := 273) hx hb d_Law_law_32 (by decide) (by decide) (by decide +kernel) (by decide) ?_
          exact lwc_record K (by omega) (by omega) hl hw (by omega) (by omega) hn
        · refine lv_tableIn (off := 294) (tgt := 326) hx hb d_Law_law_32 (by decide) (by decide) (by decide +kernel) (by decide) ?_
          exact lwc_play K (by omega) (by omega) hl hw (by omega) (by omega) hn
        · refine lv_tableIn (off := 347) (tgt := 379) hx hb d_Law_law_32 (by decide) (by decide) (by decide +kernel) (by decide) ?_
          exact lwc_stop K (by omega) (by omega) hl hw (by omega) (by omega) hn
        · refine lv_tableIn (off := 370) (tgt := 402) hx hb d_Law_law_32 (by decide) (by decide) (by decide +kernel) (by decide) ?_
          exact lwc_frame K (by omega) (by omega) hl hw (by omega) (by omega) hn
        · refine lv_tableIn (off := 383) (tgt := 415) hx hb d_Law_law_32 (by decide) (by decide) (by decide +kernel) (by decide) ?_
          exact lwc_frameByte K (by omega) (by omega) hl hw (by omega) (by omega) hn
        · refine lv_tableIn (off := 406) (tgt := 438) hx hb d_Law_law_32 (by decide) (by decide) (by decide +kernel) (by decide) ?_
          exact lwc_confirm K (by omega) (by omega) hl hw (by omega) (by omega) hn
        · refine lv_tableIn (off := 449) (tgt := 481) hx hb d_Law_law_32 (by decide) (by decide) (by decide +kernel) (by decide) ?_
          exact lwc_gap K (by omega) (by omega) hl hw (by omega) (by omega) hn
        · refine lv_tableIn (off := 482) (tgt := 514) hx hb d_Law_law_32 (by decide) (by decide) (by decide +kernel) (by decide) ?_
          exact lwc_count K (by omega) (by omega) hl hw (by omega) (by omega) hn
        · refine lv_tableIn (off := 515) (tgt := 547) hx hb d_Law_law_32 (by decide) (by decide) (by decide +kernel) (by decide) ?_
          exact lwc_packetByte K (by omega) (by omega) hl hw (by omega) (by omega) hn
        · refine lv_tableIn (off := 558) (tgt := 590) hx hb d_Law_law_32 (by decide) (by decide) (by decide +kernel) (by decide) ?_
          exact lwc_seek K (by omega) (by omega) hl hw (by omega) (by omega) hn
        · refine lv_tableIn (off := 591) (tgt := 623) hx hb d_Law_law_32 (by decide) (by decide) (by decide +kernel) (by decide) ?_
          exact lwc_tick K (by omega) (by omega) hl hw (by omega) (by omega) hn
        · refine lv_tableIn (off := 614) (tgt := 646) hx hb d_Law_law_32 (by decide) (by decide) (by decide +kernel) (by decide) ?_
          exact lwc_flip K (by omega) (by omega) hl hw (by omega) (by omega) hn
        · refine lv_tableIn (off := 657) (tgt := 689) hx hb d_Law_law_32 (by decide) (by decide) (by decide +kernel) (by decide) ?_
          exact lwc_latch K (by omega) (by omega) hl hw (by omega) (by omega) hn
        · refine lv_tableIn (off := 680) (tgt := 712) hx hb d_Law_law_32 (by decide) (by decide) (by decide +kernel) (by decide) ?_
          exact lwc_power K (by omega) (by omega) hl hw (by omega) (by omega) hn
        · refine lv_tableIn (off := 703) (tgt := 735) hx hb d_Law_law_32 (by decide) (by decide) (by decide +kernel) (by decide) ?_
          exact lwc_checkpoint K (by omega) (by omega) hl hw (by omega) (by omega) hn
        · refine lv_tableIn (off := 726) (tgt := 758) hx hb d_Law_law_32 (by decide) (by decide) (by decide +kernel) (by decide) ?_
          exact lwc_reset K (by omega) (by omega) hl hw (by omega) (by omega) hn
        · refine lv_tableIn (off := 737) (tgt := 769) hx hb d_Law_law_32 (by decide) (by decide) (by decide +kernel) (by decide) ?_
          exact lwc_told K (by omega) (by omega) hl hw (by omega) (by omega) hn
end LWL
