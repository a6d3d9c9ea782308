set_option maxRecDepth 100000 in
set_option maxHeartbeats 4000000 in
theorem law_loop {p : Program} {l : Launch} {e : Env} {s : State} {m : MethodId} {below : List Frame} {meth : Method} {c : Code} {b L : Nat} {xs : Nat → Int32} {D : DD} (hl0 : l.stackTraces = false) (C00 : Cx D (fun _ => 0) p s m #[.ref b] meth c RL code 7) (hX : va_X b L xs s s.heap) (hbl : b < s.heap.size) (hL : L ≤ 3072) (hr : meth.sig.returnType = ret) : ∀ (n k : Nat) (G : Nat → Nat) (H : Heap) (locs : List Loc) (ls : Array Slot) (i : Int32) (x mo o : Nat), Iv D G s.heap H locs x mo o → tln D H x = (fI D H 11 mo 9).toInt ∧ BQ D H x mo ∧ RQ D H x ∧ VQ D H x mo → i.toInt = 6 * k → k ≤ 512 → 513 - k ≤ n → lv_has ls 7 [(0, .ref b), (1, .ref x), (2, .ref mo), (3, .ref o), (4, .int i)] → W p l e room_1 s m #[.ref b] below meth c H locs (450 + 5 * k) (30000 + 455 * k) (lw_Z below #[Value.ref b] s) (F0 m 23 ls []) := by
  have hx := C00.1
  have hb := C00.2.1
  have hbA : ¬ s.heap.size ≤ b := by omega
  intro n
  induction n with
  | zero =>
    intro k G H locs ls i x mo o I tp hi hk hn hl
    exact absurd hn (by omega)
  | succ n ih =>
    intro k G H locs ls i x mo o I tp hi hk hn hl
    have C : Cx D G p s m #[.ref b] meth c RL code 7 := C00.ext (fun q h1 _ => (I.2.2.2.2.1 q h1).1)
    refine lv_iload hx hb dL_law__23 (lv_at hl 4 rfl) ?_
    refine lv_aload_n hx hb dL_law__25 rfl (lv_at hl 0 rfl) ?_
    refine va_slen (A := fun q => s.heap.size ≤ q) hx hb hX hbl hbA I.S dL_law__26 ?_
    refine lv_topi (fun vL eL => ?_)
    have fL : vL.toInt = L := by rw [eL]; exact i_of (by omega)
    refine lv_bipush (v := 6) hx hb dL_law__27 (by decide) ?_
    have k6 : (6 : Int32).toInt = 6 := by decide
    refine lv_isub hx hb dL_law__29 ?_
    refine lv_topi (fun v6 e6 => ?_)
    have f6 : v6.toInt = vL.toInt - (6 : Int32).toInt := by rw [e6]; exact i_sub (by omega) (by omega)
    refine lv_icmp_gt (tgt := 1659) hx hb dL_law__30 (by decide) (fun c1 => ?_) (fun c1 => ?_)
    · refine lv_iconst (v := 1) hx hb dL_law__1659 (by decide) ?_
      refine va_forget I.2.2.2.2.2.2.1 ?_
      exact W.widen (by show 450 + 5 * k ≤ 601024; omega) (by show 30000 + 455 * k ≤ 7293034; omega) (lw_ret hx hb hr C.2.2.2.2.2.1 dL_law__1660)
    · have b1 : ¬ v6.toInt < i.toInt := fun z9 => c1 (i_lt.mpr z9)
      have hk1 : k ≤ 511 := by omega
      have hi6 : 0 ≤ i.toInt ∧ i.toInt + 6 ≤ L := by omega
      have Fin : ∀ G' H' locs' ls', Iv D G' s.heap H' locs' x mo o → tln D H' x = (fI D H' 11 mo 9).toInt ∧ BQ D H' x mo ∧ RQ D H' x ∧ VQ D H' x mo → lv_has ls' 7 [(0, .ref b), (1, .ref x), (2, .ref mo), (3, .ref o), (4, .int i)] → W p l e room_1 s m #[.ref b] below meth c H' locs' (450 + 5 * k + 5) (30000 + 455 * k + 455) (lw_Z below #[Value.ref b] s) (F0 m 1653 ls' []) := by
        intro G' H' locs' ls' I' tp' hl'
        obtain ⟨v7, e7⟩ : ∃ y : Int32, y = i + (6) := ⟨_, rfl⟩
        have f7 : v7.toInt = i.toInt + (6) := by rw [e7]; exact i_addc k6 (by omega) (by omega)
        refine lv_iinc (v := v7) (lv' := [(4, .int v7), (0, .ref b), (1, .ref x), (2, .ref mo), (3, .ref o)]) hx hb dL_law__1653 hl' (k := 4) rfl (by rw [e7]; rfl) (by decide) rfl (fun ls hl => ?_)
        refine lv_goto (tgt := 23) hx hb dL_law__1656 (by decide) ?_
        have g9 := ih (k + 1) G' H' locs' ls v7 x mo o I' tp' (by omega) (by omega) (by omega) (lv_sub hl [1, 2, 3, 4, 0] rfl)
        rw [show 450 + 5 * (k + 1) = 450 + 5 * k + 5 by omega, show 30000 + 455 * (k + 1) = 30000 + 455 * k + 455 by omega] at g9
        exact g9
      refine lv_aload_n hx hb dL_law__33 rfl (lv_at hl 0 rfl) ?_
      refine lv_iload hx hb dL_law__34 (lv_at hl 4 rfl) ?_
      refine va_sld (A := fun q => s.heap.size ≤ q) hx hb hX hbl hbA I.S (i_vin (by omega) (by omega)) dL_law__36 ?_
      refine lv_topi (fun v8 e8 => ?_)
      refine lv_bipush (v := 63) hx hb dL_law__37 (by decide) ?_
      have k63 : (63 : Int32).toInt = 63 := by decide
      refine lv_iand hx hb dL_law__39 ?_
      refine lv_topi (fun v9 e9 => ?_)
      have f9 : 0 ≤ v9.toInt ∧ v9.toInt ≤ (63 : Int32).toInt := by rw [e9]; exact i_and (by omega)
      by_cases w0 : v9.toInt = (0)
      · refine lv_tableIn (tgt := 240) (off := 200) hx hb dL_law__40 (by omega) (by omega) (by rw [w0]; rfl) (by decide) ?_
        exact lc_0 hl0 C hX hbl I tp hi6 hL hk1 hl Fin
      by_cases w1 : v9.toInt = (1)
      · refine lv_tableIn (tgt := 313) (off := 273) hx hb dL_law__40 (by omega) (by omega) (by rw [w1]; rfl) (by decide) ?_
        exact lc_1 hl0 C hX hbl I tp hi6 hL hk1 hl Fin
      by_cases w2 : v9.toInt = (2)
      · refine lv_tableIn (tgt := 338) (off := 298) hx hb dL_law__40 (by omega) (by omega) (by rw [w2]; rfl) (by decide) ?_
        exact lc_2 hl0 C hX hbl I tp hi6 hL hk1 hl Fin
      by_cases w3 : v9.toInt = (3)
      · refine lv_tableIn (tgt := 354) (off := 314) hx hb dL_law__40 (by omega) (by omega) (by rw [w3]; rfl) (by decide) ?_
        exact lc_3 hl0 C hX hbl I tp hi6 hL hk1 hl Fin
      by_cases w4 : v9.toInt = (4)
      · refine lv_tableIn (tgt := 370) (off := 330) hx hb dL_law__40 (by omega) (by omega) (by rw [w4]; rfl) (by decide) ?_
        exact lc_4 hl0 C hX hbl I tp hi6 hL hk1 hl Fin
      by_cases w5 : v9.toInt = (5)
      · refine lv_tableIn (tgt := 383) (off := 343) hx hb dL_law__40 (by omega) (by omega) (by rw [w5]; rfl) (by decide) ?_
        exact lc_5 hl0 C hX hbl I tp hi6 hL hk1 hl Fin
      by_cases w6 : v9.toInt = (6)
      · refine lv_tableIn (tgt := 423) (off := 383) hx hb dL_law__40 (by omega) (by omega) (by rw [w6]; rfl) (by decide) ?_
        exact lc_6 hl0 C hX hbl I tp hi6 hL hk1 hl Fin
      by_cases w7 : v9.toInt = (7)
      · refine lv_tableIn (tgt := 463) (off := 423) hx hb dL_law__40 (by omega) (by omega) (by rw [w7]; rfl) (by decide) ?_
        exact lc_7 hl0 C hX hbl I tp hi6 hL hk1 hl Fin
      by_cases w8 : v9.toInt = (8)
      · refine lv_tableIn (tgt := 491) (off := 451) hx hb dL_law__40 (by omega) (by omega) (by rw [w8]; rfl) (by decide) ?_
        exact lc_8 hl0 C hX hbl I tp hi6 hL hk1 hl Fin
      by_cases w9 : v9.toInt = (9)
      · refine lv_tableIn (tgt := 519) (off := 479) hx hb dL_law__40 (by omega) (by omega) (by rw [w9]; rfl) (by decide) ?_
        exact lc_9 hl0 C hX hbl I tp hi6 hL hk1 hl Fin
      by_cases w10 : v9.toInt = (10)
      · refine lv_tableIn (tgt := 547) (off := 507) hx hb dL_law__40 (by omega) (by omega) (by rw [w10]; rfl) (by decide) ?_
        exact lc_10 hl0 C hX hbl I tp hi6 hL hk1 hl Fin
      by_cases w11 : v9.toInt = (11)
      · refine lv_tableIn (tgt := 603) (off := 563) hx hb dL_law__40 (by omega) (by omega) (by rw [w11]; rfl) (by decide) ?_
        exact lc_11 hl0 C hX hbl I tp hi6 hL hk1 hl Fin
      by_cases w12 : v9.toInt = (12)
      · refine lv_tableIn (tgt := 643) (off := 603) hx hb dL_law__40 (by omega) (by omega) (by rw [w12]; rfl) (by decide) ?_
        exact lc_12 hl0 C hX hbl I tp hi6 hL hk1 hl Fin
      by_cases w13 : v9.toInt = (13)
      · refine lv_tableIn (tgt := 671) (off := 631) hx hb dL_law__40 (by omega) (by omega) (by rw [w13]; rfl) (by decide) ?_
        exact lc_13 hl0 C hX hbl I tp hi6 hL hk1 hl Fin
      by_cases w14 : v9.toInt = (14)
      · refine lv_tableIn (tgt := 711) (off := 671) hx hb dL_law__40 (by omega) (by omega) (by rw [w14]; rfl) (by decide) ?_
        exact lc_14 hl0 C hX hbl I tp hi6 hL hk1 hl Fin
      by_cases w15 : v9.toInt = (15)
      · refine lv_tableIn (tgt := 739) (off := 699) hx hb dL_law__40 (by omega) (by omega) (by rw [w15]; rfl) (by decide) ?_
        exact lc_15 hl0 C hX hbl I tp hi6 hL hk1 hl Fin
      by_cases w16 : v9.toInt = (16)
      · refine lv_tableIn (tgt := 767) (off := 727) hx hb dL_law__40 (by omega) (by omega) (by rw [w16]; rfl) (by decide) ?_
        exact lc_16 hl0 C hX hbl I tp hi6 hL hk1 hl Fin
      by_cases w17 : v9.toInt = (17)
      · refine lv_tableIn (tgt := 780) (off := 740) hx hb dL_law__40 (by omega) (by omega) (by rw [w17]; rfl) (by decide) ?_
        exact lc_17 hl0 C hX hbl I tp hi6 hL hk1 hl Fin
      by_cases w18 : v9.toInt = (18)
      · refine lv_tableIn (tgt := 836) (off := 796) hx hb dL_law__40 (by omega) (by omega) (by rw [w18]; rfl) (by decide) ?_
        exact lc_18 hl0 C hX hbl I tp hi6 hL hk1 hl Fin
      by_cases w19 : v9.toInt = (19)
      · refine lv_tableIn (tgt := 864) (off := 824) hx hb dL_law__40 (by omega) (by omega) (by rw [w19]; rfl) (by decide) ?_
        exact lc_19 hl0 C hX hbl I tp hi6 hL hk1 hl Fin
      by_cases w20 : v9.toInt = (20)
      · refine lv_tableIn (tgt := 877) (off := 837) hx hb dL_law__40 (by omega) (by omega) (by rw [w20]; rfl) (by decide) ?_
        exact lc_20 hl0 C hX hbl I tp hi6 hL hk1 hl Fin
      by_cases w21 : v9.toInt = (21)
      · refine lv_tableIn (tgt := 905) (off := 865) hx hb dL_law__40 (by omega) (by omega) (by rw [w21]; rfl) (by decide) ?_
        exact lc_21 hl0 C hX hbl I tp hi6 hL hk1 hl Fin
      by_cases w22 : v9.toInt = (22)
      · refine lv_tableIn (tgt := 961) (off := 921) hx hb dL_law__40 (by omega) (by omega) (by rw [w22]; rfl) (by decide) ?_
        exact lc_22 hl0 C hX hbl I tp hi6 hL hk1 hl Fin
      by_cases w23 : v9.toInt = (23)
      · refine lv_tableIn (tgt := 989) (off := 949) hx hb dL_law__40 (by omega) (by omega) (by rw [w23]; rfl) (by decide) ?_
        exact lc_23 hl0 C hX hbl I tp hi6 hL hk1 hl Fin
      by_cases w24 : v9.toInt = (24)
      · refine lv_tableIn (tgt := 1017) (off := 977) hx hb dL_law__40 (by omega) (by omega) (by rw [w24]; rfl) (by decide) ?_
        exact lc_24 hl0 C hX hbl I tp hi6 hL hk1 hl Fin
      by_cases w25 : v9.toInt = (25)
      · refine lv_tableIn (tgt := 1073) (off := 1033) hx hb dL_law__40 (by omega) (by omega) (by rw [w25]; rfl) (by decide) ?_
        exact lc_25 hl0 C hX hbl I tp hi6 hL hk1 hl Fin
      by_cases w26 : v9.toInt = (26)
      · refine lv_tableIn (tgt := 1086) (off := 1046) hx hb dL_law__40 (by omega) (by omega) (by rw [w26]; rfl) (by decide) ?_
        exact lc_26 hl0 C hX hbl I tp hi6 hL hk1 hl Fin
      by_cases w27 : v9.toInt = (27)
      · refine lv_tableIn (tgt := 1099) (off := 1059) hx hb dL_law__40 (by omega) (by omega) (by rw [w27]; rfl) (by decide) ?_
        exact lc_27 hl0 C hX hbl I tp hi6 hL hk1 hl Fin
      by_cases w28 : v9.toInt = (28)
      · refine lv_tableIn (tgt := 1127) (off := 1087) hx hb dL_law__40 (by omega) (by omega) (by rw [w28]; rfl) (by decide) ?_
        exact lc_28 hl0 C hX hbl I tp hi6 hL hk1 hl Fin
      by_cases w29 : v9.toInt = (29)
      · refine lv_tableIn (tgt := 1155) (off := 1115) hx hb dL_law__40 (by omega) (by omega) (by rw [w29]; rfl) (by decide) ?_
        exact lc_29 hl0 C hX hbl I tp hi6 hL hk1 hl Fin
      by_cases w30 : v9.toInt = (30)
      · refine lv_tableIn (tgt := 1183) (off := 1143) hx hb dL_law__40 (by omega) (by omega) (by rw [w30]; rfl) (by decide) ?_
        exact lc_30 hl0 C hX hbl I tp hi6 hL hk1 hl Fin
      by_cases w31 : v9.toInt = (31)
      · refine lv_tableIn (tgt := 1211) (off := 1171) hx hb dL_law__40 (by omega) (by omega) (by rw [w31]; rfl) (by decide) ?_
        exact lc_31 hl0 C hX hbl I tp hi6 hL hk1 hl Fin
      by_cases w32 : v9.toInt = (32)
      · refine lv_tableIn (tgt := 1239) (off := 1199) hx hb dL_law__40 (by omega) (by omega) (by rw [w32]; rfl) (by decide) ?_
        exact lc_32 hl0 C hX hbl I tp hi6 hL hk1 hl Fin
      by_cases w33 : v9.toInt = (33)
      · refine lv_tableIn (tgt := 1252) (off := 1212) hx hb dL_law__40 (by omega) (by omega) (by rw [w33]; rfl) (by decide) ?_
        exact lc_33 hl0 C hX hbl I tp hi6 hL hk1 hl Fin
      by_cases w34 : v9.toInt = (34)
      · refine lv_tableIn (tgt := 1265) (off := 1225) hx hb dL_law__40 (by omega) (by omega) (by rw [w34]; rfl) (by decide) ?_
        exact lc_34 hl0 C hX hbl I tp hi6 hL hk1 hl Fin
      by_cases w35 : v9.toInt = (35)
      · refine lv_tableIn (tgt := 1278) (off := 1238) hx hb dL_law__40 (by omega) (by omega) (by rw [w35]; rfl) (by decide) ?_
        exact lc_35 hl0 C hX hbl I tp hi6 hL hk1 hl Fin
      by_cases w36 : v9.toInt = (36)
      · refine lv_tableIn (tgt := 1318) (off := 1278) hx hb dL_law__40 (by omega) (by omega) (by rw [w36]; rfl) (by decide) ?_
        exact lc_36 hl0 C hX hbl I tp hi6 hL hk1 hl Fin
      by_cases w37 : v9.toInt = (37)
      · refine lv_tableIn (tgt := 1358) (off := 1318) hx hb dL_law__40 (by omega) (by omega) (by rw [w37]; rfl) (by decide) ?_
        exact lc_37 hl0 C hX hbl I tp hi6 hL hk1 hl Fin
      by_cases w38 : v9.toInt = (38)
      · refine lv_tableIn (tgt := 1414) (off := 1374) hx hb dL_law__40 (by omega) (by omega) (by rw [w38]; rfl) (by decide) ?_
        exact lc_38 hl0 C hX hbl I tp hi6 hL hk1 hl Fin
      by_cases w39 : v9.toInt = (39)
      · refine lv_tableIn (tgt := 1470) (off := 1430) hx hb dL_law__40 (by omega) (by omega) (by rw [w39]; rfl) (by decide) ?_
        exact lc_39 hl0 C hX hbl I tp hi6 hL hk1 hl Fin
      by_cases w40 : v9.toInt = (40)
      · refine lv_tableIn (tgt := 1526) (off := 1486) hx hb dL_law__40 (by omega) (by omega) (by rw [w40]; rfl) (by decide) ?_
        exact lc_40 hl0 C hX hbl I tp hi6 hL hk1 hl Fin
      by_cases w41 : v9.toInt = (41)
      · refine lv_tableIn (tgt := 1566) (off := 1526) hx hb dL_law__40 (by omega) (by omega) (by rw [w41]; rfl) (by decide) ?_
        exact lc_41 hl0 C hX hbl I tp hi6 hL hk1 hl Fin
      by_cases w42 : v9.toInt = (42)
      · refine lv_tableIn (tgt := 1591) (off := 1551) hx hb dL_law__40 (by omega) (by omega) (by rw [w42]; rfl) (by decide) ?_
        exact lc_42 hl0 C hX hbl I tp hi6 hL hk1 hl Fin
      by_cases w43 : v9.toInt = (43)
      · refine lv_tableIn (tgt := 1604) (off := 1564) hx hb dL_law__40 (by omega) (by omega) (by rw [w43]; rfl) (by decide) ?_
        exact lc_43 hl0 C hX hbl I tp hi6 hL hk1 hl Fin
      by_cases w44 : v9.toInt = (44)
      · refine lv_tableIn (tgt := 1615) (off := 1575) hx hb dL_law__40 (by omega) (by omega) (by rw [w44]; rfl) (by decide) ?_
        exact lc_44 hl0 C hX hbl I tp hi6 hL hk1 hl Fin
      by_cases w45 : v9.toInt = (45)
      · refine lv_tableIn (tgt := 1628) (off := 1588) hx hb dL_law__40 (by omega) (by omega) (by rw [w45]; rfl) (by decide) ?_
        exact lc_45 hl0 C hX hbl I tp hi6 hL hk1 hl Fin
      refine lv_tableOut (tgt := 1653) hx hb dL_law__40 (by omega) (by decide) ?_
      exact W.widen (by omega) (by omega) (Fin _ _ _ _ I tp hl)
