set_option maxRecDepth 100000 in
set_option maxHeartbeats 4000000 in
theorem lc_24 {p : Program} {l : Launch} {e : Env} {s : State} {m : MethodId} {below : List Frame} {meth : Method} {c : Code} {b L : Nat} {xs : Nat → Int32} {D : DD} {G : Nat → Nat} {H : Heap} {locs : List Loc} {ls : Array Slot} {i : Int32} {k x mo o : Nat} {Q : State → Prop} (hl0 : l.stackTraces = false) (C : Cx D G p s m #[.ref b] meth c RL code 7) (hX : va_X b L xs s s.heap) (hbl : b < s.heap.size) (I : Iv D G s.heap H locs x mo o) (tp : tln D H x = (fI D H 11 mo 9).toInt ∧ BQ D H x mo ∧ RQ D H x ∧ VQ D H x mo) (hi : 0 ≤ i.toInt ∧ i.toInt + 6 ≤ L) (hL : L ≤ 3072) (hk : k ≤ 511) (hl : lv_has ls 7 [(0, .ref b), (1, .ref x), (2, .ref mo), (3, .ref o), (4, .int i)])
    (Fin : ∀ G' H' locs' ls', Iv D G' s.heap H' locs' x mo o → tln D H' x = (fI D H' 11 mo 9).toInt ∧ BQ D H' x mo ∧ RQ D H' x ∧ VQ D H' x mo → lv_has ls' 7 [(0, .ref b), (1, .ref x), (2, .ref mo), (3, .ref o), (4, .int i)] → W p l e room_1 s m #[.ref b] below meth c H' locs' (450 + 5 * k + 5) (30000 + 455 * k + 455) Q (F0 m 1653 ls' [])) : W p l e room_1 s m #[.ref b] below meth c H locs (450 + 5 * k) (30000 + 455 * k) Q (F0 m 1017 ls []) := by
  have hx := C.1
  have hb := C.2.1
  have hbA : ¬ s.heap.size ≤ b := by omega
  have tp0 := tp
  obtain ⟨tp, bq0, rq0, vq0⟩ := tp
  obtain ⟨⟨V, K, ci0, mi0, pv0, pk0⟩, ⟨wf0, if0⟩, rp0⟩ := vq0
  refine lv_aload_n hx hb dL_law__1017 rfl (lv_at hl 1 rfl) ?_
  refine lv_aload_n hx hb dL_law__1018 rfl (lv_at hl 0 rfl) ?_
  refine lv_iload hx hb dL_law__1019 (lv_at hl 4 rfl) ?_
  refine lv_iconst (v := 1) hx hb dL_law__1021 (by decide) ?_
  refine lv_iadd hx hb dL_law__1022 ?_
  refine lv_topi (fun v1 ev1 => ?_)
  have kv1 : (1 : Int32).toInt = 1 := by decide
  have fv1 : v1.toInt = i.toInt + 1 := by rw [ev1]; exact i_addc kv1 (by omega) (by omega)
  refine va_sld (A := fun q => s.heap.size ≤ q) hx hb hX hbl hbA I.S (i_vin (by omega) (by omega)) dL_law__1023 ?_
  refine lv_topi (fun v2 ev2 => ?_)
  refine lv_aload_n hx hb dL_law__1024 rfl (lv_at hl 3 rfl) ?_
  refine l_W (As := [.ref x, .int v2, .ref o]) hl0 C I (c_L_odds l D G x v2 o I.2.1.1 I.2.1.2.2) kw_206 trivial (by decide +kernel) (by decide +kernel) dL_law__1025 hl.1 cdL_odds ⟨Nat.le_of_ble_eq_true rfl, Nat.le_of_ble_eq_true rfl, (by show 450 + 5 * k + 1 ≤ 601024; omega), (by show 30000 + 455 * k + 6 ≤ 7293034; omega), Nat.le_of_ble_eq_true rfl⟩ (fun r3 G3 H3 L3 I3 C m3 t3 K3 => ?_)
  have m3 := congrArg Int32.toInt m3
  obtain ⟨t3, qo3⟩ := t3
  have a9_3 : (fI D H3 10 x 9).toInt = (fI D H 10 x 9).toInt := ko_x K3 I.2.1.1 (by decide) (by decide +kernel)
  have a8_3 : (fI D H3 10 x 8).toInt = (fI D H 10 x 8).toInt := ko_x K3 I.2.1.1 (by decide) (by decide +kernel)
  have b4_3 : (fI D H3 11 mo 14).toInt = (fI D H 11 mo 14).toInt := ko_m K3 I.2.1.2.1 (by decide) (by decide +kernel)
  have b6_3 : (fI D H3 11 mo 6).toInt = (fI D H 11 mo 6).toInt := ko_m K3 I.2.1.2.1 (by decide) (by decide +kernel)
  have rp3 : RP6 D H3 x := rp0.keep I.1 I.2.1.1 K3 (by decide +kernel)
  have ci3 := ci0.keepO I.1 I.2.1.1 I.2.1.2.2 I.2.2.1.lt K3
  have mi3 := mi0.keepO I.1 I.2.1.2.1 I.2.1.2.2 I.2.2.1.lt K3
  have bq3 : BQ D H3 x mo := bq0.keep I.1 I.2.1.1 I.2.1.2.1 K3 (by decide +kernel) (by decide +kernel)
  have rq3 : RQ D H3 x := rq0.keep I.1 I.2.1.1 K3 (by decide +kernel)
  have t3 : tln D H3 x = tln D H x := t3
  refine lv_istore (lv' := [(5, .int r3), (0, .ref b), (1, .ref x), (2, .ref mo), (3, .ref o), (4, .int i)]) hx hb dL_law__1028 hl (by decide) rfl (fun ls hl => ?_)
  refine lv_aload_n hx hb dL_law__1030 rfl (lv_at hl 3 rfl) ?_
  refine lv_aload_n hx hb dL_law__1031 rfl (lv_at hl 1 rfl) ?_
  refine lv_iload hx hb dL_law__1032 (lv_at hl 5 rfl) ?_
  refine lv_iconst (v := 1) hx hb dL_law__1034 (by decide) ?_
  refine lv_iadd hx hb dL_law__1035 ?_
  refine lv_topi (fun v4 ev4 => ?_)
  have kv4 : (1 : Int32).toInt = 1 := by decide
  have fv4 : v4.toInt = i.toInt + 1 := by rw [ev4]; exact i_addc kv4 (by omega) (by omega)
  refine va_sld (A := fun q => s.heap.size ≤ q) hx hb hX hbl hbA I3.S (i_vin (by omega) (by omega)) dL_law__1036 ?_
  refine lv_topi (fun v5 ev5 => ?_)
  have wv5 : v5 = v2 := ev5.trans ((congrArg (fun z9 : Int32 => xs z9.toNatClampNeg) (i_eq.mpr (by omega) : v4 = v1)).trans ev2.symm)
  refine l_E (T := TX12) (As := [.int v5]) C I3 (c_X12_odds_o l D G3 mo v5 I3.2.1.2.1) kV_L_208 I3.2.1.2.1 trivial (by decide +kernel) dL_law__1037 hl.1 rfl rfl (by decide) cd_X12_odds ⟨Nat.le_of_ble_eq_true rfl, Nat.le_of_ble_eq_true rfl, (by show 450 + 5 * k + 1 ≤ 601024; omega), (by show 30000 + 455 * k + 6 ≤ 7293034; omega), Nat.le_of_ble_eq_true rfl⟩ (fun v6 H6 L6 I6 K6 q6 => ?_)
  have t6 : tln D H6 x = tln D H3 x := tlW I3.1 I3.2.1.1 K6 (by decide +kernel) (by decide +kernel)
  have m6 : (fI D H6 11 mo 9).toInt = (fI D H3 11 mo 9).toInt := congrArg Int32.toInt (K6.fI I3.2.1.2.1 rfl (by decide) (by decide +kernel))
  have bq6 : BQ D H6 x mo := bq3.keep I3.1 I3.2.1.1 I3.2.1.2.1 (Keep.o K6 o) (by decide +kernel) (by decide +kernel)
  have rq6 : RQ D H6 x := rq3.keep I3.1 I3.2.1.1 (Keep.o K6 o) (by decide +kernel)
  have a9_6 : (fI D H6 10 x 9).toInt = (fI D H3 10 x 9).toInt := ko_x (Keep.o K6 o) I3.2.1.1 (by decide) (by decide +kernel)
  have a8_6 : (fI D H6 10 x 8).toInt = (fI D H3 10 x 8).toInt := ko_x (Keep.o K6 o) I3.2.1.1 (by decide) (by decide +kernel)
  have b4_6 : (fI D H6 11 mo 14).toInt = (fI D H3 11 mo 14).toInt := ko_m (Keep.o K6 o) I3.2.1.2.1 (by decide) (by decide +kernel)
  have b6_6 : (fI D H6 11 mo 6).toInt = (fI D H3 11 mo 6).toInt := ko_m (Keep.o K6 o) I3.2.1.2.1 (by decide) (by decide +kernel)
  have rp6 : RP6 D H6 x := rp3.keep I3.1 I3.2.1.1 (Keep.o K6 o) (by decide +kernel)
  have ci6 := ci3.keep I3.1 I3.2.1.1 K6 (by decide +kernel)
  have mi6 := mi3.keep I3.1 I3.2.1.2.1 K6 (by decide +kernel)
  obtain ⟨r6, rfl, q6⟩ := q6
  rw [wv5] at q6
  have oq := odds_q (r := r3.toInt) (t := (fI D H6 11 mo 0).toInt) (r2 := r6) ci0 mi3 pv0 (eL_keep K6 I3.2.1.2.2 (by have := I3.2.2.1; exact this)) qo3 q6
  have kq : r3.toInt = (fI D H6 11 mo 0).toInt := oq.1
  have nq : r3.toInt = 0 → (eL H6 o).toInt = r6.toInt := oq.2
  refine lv_istore (lv' := [(6, .int r6), (5, .int r3), (0, .ref b), (1, .ref x), (2, .ref mo), (3, .ref o), (4, .int i)]) hx hb dL_law__1040 hl (by decide) rfl (fun ls hl => ?_)
  refine lv_aload_n hx hb dL_law__1042 rfl (lv_at hl 4 rfl) ?_
  refine callV_P (T := TX12) (As := []) C I6.1 (fun q h1 _ => (I6.2.2.2.2.1 q h1).2) (c_X12_thrown l D G3 mo I6.2.1.2.1) kV_L_209 I6.2.1.2.1 trivial dL_law__1043 hl.1 rfl rfl (by decide) cd_X12_thrown ⟨Nat.le_of_ble_eq_true rfl, Nat.le_of_ble_eq_true rfl, (by show 450 + 5 * k + 1 ≤ 601024; omega), (by show 30000 + 455 * k + 6 ≤ 7293034; omega), Nat.le_of_ble_eq_true rfl⟩ (fun v7 q7 => ?_)
  obtain ⟨r7, rfl, q7⟩ := q7
  refine lv_iload hx hb dL_law__1046 (lv_at hl 1 rfl) ?_
  refine lv_icmp_eq (tgt := 1053) hx hb dL_law__1048 (by decide) (fun c9 => ?_) (fun c9 => ?_)
  rotate_left
  · exact absurd (i_eq.mpr (by unfold tln at *; omega)) c9
  refine lv_iload hx hb dL_law__1053 (lv_at hl 1 rfl) ?_
  refine lv_if_ne (tgt := 1070) hx hb dL_law__1055 (by decide) (fun c9 => ?_) (fun c9 => ?_)
  · skip
    refine lv_goto (tgt := 1653) hx hb dL_law__1070 (by decide) ?_
    exact W.widen (by show 450 + 5 * k + 1 ≤ 450 + 5 * k + 5; omega) (by show 30000 + 455 * k + 6 ≤ 30000 + 455 * k + 455; omega) (Fin _ _ _ _ I6 (⟨by unfold tln at *; omega, bq6, rq6, ⟨⟨V, K, ci6, mi6, pv0, fun h9 => pk0 (by omega)⟩, ⟨by omega, by omega⟩, rp6⟩⟩) (lv_sub hl [2, 3, 4, 5, 6] rfl))
  · skip
    have z0 : r3.toInt = 0 := by rw [c9]; decide
    refine lv_aload_n hx hb dL_law__1058 rfl (lv_at hl 5 rfl) ?_
    refine lv_iconst (v := 0) hx hb dL_law__1059 (by decide) ?_
    refine l_lald C I6.2.2.1 dL_law__1060 ?_
    refine lv_iload hx hb dL_law__1061 (lv_at hl 0 rfl) ?_
    refine lv_i2l hx hb dL_law__1063 rfl ?_
    refine W.lcmp hx hb dL_law__1064 ?_
    refine lv_topi (fun v8 ev8 => ?_)
    have fv8 : v8.toInt = 0 := by rw [ev8]; exact lg_eq (by rw [Int32.toInt_toInt64]; exact nq z0)
    refine lv_if_eq (tgt := 1070) hx hb dL_law__1065 (by decide) (fun c9 => ?_) (fun c9 => ?_)
    rotate_left
    · exact absurd (i_eq.mpr (by rw [fv8]; decide)) c9
    refine lv_goto (tgt := 1653) hx hb dL_law__1070 (by decide) ?_
    exact W.widen (by show 450 + 5 * k + 1 ≤ 450 + 5 * k + 5; omega) (by show 30000 + 455 * k + 6 ≤ 30000 + 455 * k + 455; omega) (Fin _ _ _ _ I6 (⟨by unfold tln at *; omega, bq6, rq6, ⟨⟨V, K, ci6, mi6, pv0, fun h9 => pk0 (by omega)⟩, ⟨by omega, by omega⟩, rp6⟩⟩) (lv_sub hl [2, 3, 4, 5, 6] rfl))

set_option maxRecDepth 100000 in
set_option maxHeartbeats 4000000 in
theorem lc_25 {p : Program} {l : Launch} {e : Env} {s : State} {m : MethodId} {below : List Frame} {meth : Method} {c : Code} {b L : Nat} {xs : Nat → Int32} {D : DD} {G : Nat → Nat} {H : Heap} {locs : List Loc} {ls : Array Slot} {i : Int32} {k x mo o : Nat} {Q : State → Prop} (hl0 : l.stackTraces = false) (C : Cx D G p s m #[.ref b] meth c RL code 7) (hX : va_X b L xs s s.heap) (hbl : b < s.heap.size) (I : Iv D G s.heap H locs x mo o) (tp : tln D H x = (fI D H 11 mo 9).toInt ∧ BQ D H x mo ∧ RQ D H x ∧ VQ D H x mo) (hi : 0 ≤ i.toInt ∧ i.toInt + 6 ≤ L) (hL : L ≤ 3072) (hk : k ≤ 511) (hl : lv_has ls 7 [(0, .ref b), (1, .ref x), (2, .ref mo), (3, .ref o), (4, .int i)])
    (Fin : ∀ G' H' locs' ls', Iv D G' s.heap H' locs' x mo o → tln D H' x = (fI D H' 11 mo 9).toInt ∧ BQ D H' x mo ∧ RQ D H' x ∧ VQ D H' x mo → lv_has ls' 7 [(0, .ref b), (1, .ref x), (2, .ref mo), (3, .ref o), (4, .int i)] → W p l e room_1 s m #[.ref b] below meth c H' locs' (450 + 5 * k + 5) (30000 + 455 * k + 455) Q (F0 m 1653 ls' [])) : W p l e room_1 s m #[.ref b] below meth c H locs (450 + 5 * k) (30000 + 455 * k) Q (F0 m 1073 ls []) := by
  have hx := C.1
  have hb := C.2.1
  have hbA : ¬ s.heap.size ≤ b := by omega
  have tp0 := tp
  obtain ⟨tp, bq0, rq0, vq0⟩ := tp
  obtain ⟨⟨V, K, ci0, mi0, pv0, pk0⟩, ⟨wf0, if0⟩, rp0⟩ := vq0
  refine lv_aload_n hx hb dL_law__1073 rfl (lv_at hl 1 rfl) ?_
  refine l_E (T := TX11) (As := []) C I (c_X11_alike l D G x I.2.1.1) kV_L_212 I.2.1.1 trivial (by decide +kernel) dL_law__1074 hl.1 rfl rfl (by decide) cd_X11_alike ⟨Nat.le_of_ble_eq_true rfl, Nat.le_of_ble_eq_true rfl, (by show 450 + 5 * k ≤ 601024; omega), (by show 30000 + 455 * k ≤ 7293034; omega), Nat.le_of_ble_eq_true rfl⟩ (fun v1 H1 L1 I1 K1 q1 => ?_)
  have m1 : (fI D H1 11 mo 9).toInt = (fI D H 11 mo 9).toInt := congrArg Int32.toInt (K1.fI I.2.1.2.1 rfl (by decide) (by decide +kernel))
  have t1 : tln D H1 x = tln D H x := tlW I.1 I.2.1.1 K1 (by decide +kernel) (by decide +kernel)
  have bq1 : BQ D H1 x mo := bq0.keep I.1 I.2.1.1 I.2.1.2.1 (Keep.o K1 o) (by decide +kernel) (by decide +kernel)
  have rq1 : RQ D H1 x := rq0.keep I.1 I.2.1.1 (Keep.o K1 o) (by decide +kernel)
  have a9_1 : (fI D H1 10 x 9).toInt = (fI D H 10 x 9).toInt := ko_x (Keep.o K1 o) I.2.1.1 (by decide) (by decide +kernel)
  have a8_1 : (fI D H1 10 x 8).toInt = (fI D H 10 x 8).toInt := ko_x (Keep.o K1 o) I.2.1.1 (by decide) (by decide +kernel)
  have b4_1 : (fI D H1 11 mo 14).toInt = (fI D H 11 mo 14).toInt := ko_m (Keep.o K1 o) I.2.1.2.1 (by decide) (by decide +kernel)
  have b6_1 : (fI D H1 11 mo 6).toInt = (fI D H 11 mo 6).toInt := ko_m (Keep.o K1 o) I.2.1.2.1 (by decide) (by decide +kernel)
  have rp1 : RP6 D H1 x := rp0.keep I.1 I.2.1.1 (Keep.o K1 o) (by decide +kernel)
  have ci1 := ci0.keep I.1 I.2.1.1 K1 (by decide +kernel)
  have mi1 := mi0.keep I.1 I.2.1.2.1 K1 (by decide +kernel)
  obtain ⟨r1, rfl, q1⟩ := q1
  refine lv_pop hx hb dL_law__1077 rfl ?_
  refine lv_aload_n hx hb dL_law__1078 rfl (lv_at hl 2 rfl) ?_
  refine l_E (T := TX12) (As := []) C I1 (c_X12_alike l D G mo I1.2.1.2.1) kV_L_215 I1.2.1.2.1 trivial (by decide +kernel) dL_law__1079 hl.1 rfl rfl (by decide) cd_X12_alike ⟨Nat.le_of_ble_eq_true rfl, Nat.le_of_ble_eq_true rfl, (by show 450 + 5 * k ≤ 601024; omega), (by show 30000 + 455 * k ≤ 7293034; omega), Nat.le_of_ble_eq_true rfl⟩ (fun v2 H2 L2 I2 K2 q2 => ?_)
  have t2 : tln D H2 x = tln D H1 x := tlW I1.1 I1.2.1.1 K2 (by decide +kernel) (by decide +kernel)
  have m2 : (fI D H2 11 mo 9).toInt = (fI D H1 11 mo 9).toInt := congrArg Int32.toInt (K2.fI I1.2.1.2.1 rfl (by decide) (by decide +kernel))
  have bq2 : BQ D H2 x mo := bq1.keep I1.1 I1.2.1.1 I1.2.1.2.1 (Keep.o K2 o) (by decide +kernel) (by decide +kernel)
  have rq2 : RQ D H2 x := rq1.keep I1.1 I1.2.1.1 (Keep.o K2 o) (by decide +kernel)
  have a9_2 : (fI D H2 10 x 9).toInt = (fI D H1 10 x 9).toInt := ko_x (Keep.o K2 o) I1.2.1.1 (by decide) (by decide +kernel)
  have a8_2 : (fI D H2 10 x 8).toInt = (fI D H1 10 x 8).toInt := ko_x (Keep.o K2 o) I1.2.1.1 (by decide) (by decide +kernel)
  have b4_2 : (fI D H2 11 mo 14).toInt = (fI D H1 11 mo 14).toInt := ko_m (Keep.o K2 o) I1.2.1.2.1 (by decide) (by decide +kernel)
  have b6_2 : (fI D H2 11 mo 6).toInt = (fI D H1 11 mo 6).toInt := ko_m (Keep.o K2 o) I1.2.1.2.1 (by decide) (by decide +kernel)
  have rp2 : RP6 D H2 x := rp1.keep I1.1 I1.2.1.1 (Keep.o K2 o) (by decide +kernel)
  have ci2 := ci1.keep I1.1 I1.2.1.1 K2 (by decide +kernel)
  have mi2 := mi1.keep I1.1 I1.2.1.2.1 K2 (by decide +kernel)
  obtain ⟨r2, rfl, q2⟩ := q2
  refine lv_pop hx hb dL_law__1082 rfl ?_
  refine lv_goto (tgt := 1653) hx hb dL_law__1083 (by decide) ?_
  exact W.widen (by show 450 + 5 * k ≤ 450 + 5 * k + 5; omega) (by show 30000 + 455 * k ≤ 30000 + 455 * k + 455; omega) (Fin _ _ _ _ I2 (⟨by unfold tln at *; omega, bq2, rq2, ⟨⟨V, K, ci2, mi2, pv0, fun h9 => pk0 (by omega)⟩, ⟨by omega, by omega⟩, rp2⟩⟩) (lv_sub hl [0, 1, 2, 3, 4] rfl))

set_option maxRecDepth 100000 in
set_option maxHeartbeats 4000000 in
theorem lc_26 {p : Program} {l : Launch} {e : Env} {s : State} {m : MethodId} {below : List Frame} {meth : Method} {c : Code} {b L : Nat} {xs : Nat → Int32} {D : DD} {G : Nat → Nat} {H : Heap} {locs : List Loc} {ls : Array Slot} {i : Int32} {k x mo o : Nat} {Q : State → Prop} (hl0 : l.stackTraces = false) (C : Cx D G p s m #[.ref b] meth c RL code 7) (hX : va_X b L xs s s.heap) (hbl : b < s.heap.size) (I : Iv D G s.heap H locs x mo o) (tp : tln D H x = (fI D H 11 mo 9).toInt ∧ BQ D H x mo ∧ RQ D H x ∧ VQ D H x mo) (hi : 0 ≤ i.toInt ∧ i.toInt + 6 ≤ L) (hL : L ≤ 3072) (hk : k ≤ 511) (hl : lv_has ls 7 [(0, .ref b), (1, .ref x), (2, .ref mo), (3, .ref o), (4, .int i)])
    (Fin : ∀ G' H' locs' ls', Iv D G' s.heap H' locs' x mo o → tln D H' x = (fI D H' 11 mo 9).toInt ∧ BQ D H' x mo ∧ RQ D H' x ∧ VQ D H' x mo → lv_has ls' 7 [(0, .ref b), (1, .ref x), (2, .ref mo), (3, .ref o), (4, .int i)] → W p l e room_1 s m #[.ref b] below meth c H' locs' (450 + 5 * k + 5) (30000 + 455 * k + 455) Q (F0 m 1653 ls' [])) : W p l e room_1 s m #[.ref b] below meth c H locs (450 + 5 * k) (30000 + 455 * k) Q (F0 m 1086 ls []) := by
  have hx := C.1
  have hb := C.2.1
  have hbA : ¬ s.heap.size ≤ b := by omega
  have tp0 := tp
  obtain ⟨tp, bq0, rq0, vq0⟩ := tp
  obtain ⟨⟨V, K, ci0, mi0, pv0, pk0⟩, ⟨wf0, if0⟩, rp0⟩ := vq0
  refine lv_aload_n hx hb dL_law__1086 rfl (lv_at hl 1 rfl) ?_
  refine callV_P (T := TX11) (As := []) C I.1 (fun q h1 _ => (I.2.2.2.2.1 q h1).2) (c_X11_coldest l D G x I.2.1.1) kV_L_216 I.2.1.1 trivial dL_law__1087 hl.1 rfl rfl (by decide) cd_X11_coldest ⟨Nat.le_of_ble_eq_true rfl, Nat.le_of_ble_eq_true rfl, (by show 450 + 5 * k ≤ 601024; omega), (by show 30000 + 455 * k ≤ 7293034; omega), Nat.le_of_ble_eq_true rfl⟩ (fun v1 q1 => ?_)
  obtain ⟨r1, rfl, q1⟩ := q1
  refine lv_pop hx hb dL_law__1090 rfl ?_
  refine lv_aload_n hx hb dL_law__1091 rfl (lv_at hl 2 rfl) ?_
  refine l_E (T := TX12) (As := []) C I (c_X12_coldest l D G mo I.2.1.2.1) kV_L_219 I.2.1.2.1 trivial (by decide +kernel) dL_law__1092 hl.1 rfl rfl (by decide) cd_X12_coldest ⟨Nat.le_of_ble_eq_true rfl, Nat.le_of_ble_eq_true rfl, (by show 450 + 5 * k ≤ 601024; omega), (by show 30000 + 455 * k ≤ 7293034; omega), Nat.le_of_ble_eq_true rfl⟩ (fun v2 H2 L2 I2 K2 q2 => ?_)
  have t2 : tln D H2 x = tln D H x := tlW I.1 I.2.1.1 K2 (by decide +kernel) (by decide +kernel)
  have m2 : (fI D H2 11 mo 9).toInt = (fI D H 11 mo 9).toInt := congrArg Int32.toInt (K2.fI I.2.1.2.1 rfl (by decide) (by decide +kernel))
  have bq2 : BQ D H2 x mo := bq0.keep I.1 I.2.1.1 I.2.1.2.1 (Keep.o K2 o) (by decide +kernel) (by decide +kernel)
  have rq2 : RQ D H2 x := rq0.keep I.1 I.2.1.1 (Keep.o K2 o) (by decide +kernel)
  have a9_2 : (fI D H2 10 x 9).toInt = (fI D H 10 x 9).toInt := ko_x (Keep.o K2 o) I.2.1.1 (by decide) (by decide +kernel)
  have a8_2 : (fI D H2 10 x 8).toInt = (fI D H 10 x 8).toInt := ko_x (Keep.o K2 o) I.2.1.1 (by decide) (by decide +kernel)
  have b4_2 : (fI D H2 11 mo 14).toInt = (fI D H 11 mo 14).toInt := ko_m (Keep.o K2 o) I.2.1.2.1 (by decide) (by decide +kernel)
  have b6_2 : (fI D H2 11 mo 6).toInt = (fI D H 11 mo 6).toInt := ko_m (Keep.o K2 o) I.2.1.2.1 (by decide) (by decide +kernel)
  have rp2 : RP6 D H2 x := rp0.keep I.1 I.2.1.1 (Keep.o K2 o) (by decide +kernel)
  have ci2 := ci0.keep I.1 I.2.1.1 K2 (by decide +kernel)
  have mi2 := mi0.keep I.1 I.2.1.2.1 K2 (by decide +kernel)
  obtain ⟨r2, rfl, q2⟩ := q2
  refine lv_pop hx hb dL_law__1095 rfl ?_
  refine lv_goto (tgt := 1653) hx hb dL_law__1096 (by decide) ?_
  exact W.widen (by show 450 + 5 * k ≤ 450 + 5 * k + 5; omega) (by show 30000 + 455 * k ≤ 30000 + 455 * k + 455; omega) (Fin _ _ _ _ I2 (⟨by unfold tln at *; omega, bq2, rq2, ⟨⟨V, K, ci2, mi2, pv0, fun h9 => pk0 (by omega)⟩, ⟨by omega, by omega⟩, rp2⟩⟩) (lv_sub hl [0, 1, 2, 3, 4] rfl))

set_option maxRecDepth 100000 in
set_option maxHeartbeats 4000000 in
theorem lc_27 {p : Program} {l : Launch} {e : Env} {s : State} {m : MethodId} {below : List Frame} {meth : Method} {c : Code} {b L : Nat} {xs : Nat → Int32} {D : DD} {G : Nat → Nat} {H : Heap} {locs : List Loc} {ls : Array Slot} {i : Int32} {k x mo o : Nat} {Q : State → Prop} (hl0 : l.stackTraces = false) (C : Cx D G p s m #[.ref b] meth c RL code 7) (hX : va_X b L xs s s.heap) (hbl : b < s.heap.size) (I : Iv D G s.heap H locs x mo o) (tp : tln D H x = (fI D H 11 mo 9).toInt ∧ BQ D H x mo ∧ RQ D H x ∧ VQ D H x mo) (hi : 0 ≤ i.toInt ∧ i.toInt + 6 ≤ L) (hL : L ≤ 3072) (hk : k ≤ 511) (hl : lv_has ls 7 [(0, .ref b), (1, .ref x), (2, .ref mo), (3, .ref o), (4, .int i)])
    (Fin : ∀ G' H' locs' ls', Iv D G' s.heap H' locs' x mo o → tln D H' x = (fI D H' 11 mo 9).toInt ∧ BQ D H' x mo ∧ RQ D H' x ∧ VQ D H' x mo → lv_has ls' 7 [(0, .ref b), (1, .ref x), (2, .ref mo), (3, .ref o), (4, .int i)] → W p l e room_1 s m #[.ref b] below meth c H' locs' (450 + 5 * k + 5) (30000 + 455 * k + 455) Q (F0 m 1653 ls' [])) : W p l e room_1 s m #[.ref b] below meth c H locs (450 + 5 * k) (30000 + 455 * k) Q (F0 m 1099 ls []) := by
  have hx := C.1
  have hb := C.2.1
  have hbA : ¬ s.heap.size ≤ b := by omega
  have tp0 := tp
  obtain ⟨tp, bq0, rq0, vq0⟩ := tp
  obtain ⟨⟨V, K, ci0, mi0, pv0, pk0⟩, ⟨wf0, if0⟩, rp0⟩ := vq0
  refine lv_aload_n hx hb dL_law__1099 rfl (lv_at hl 1 rfl) ?_
  refine lv_aload_n hx hb dL_law__1100 rfl (lv_at hl 0 rfl) ?_
  refine lv_iload hx hb dL_law__1101 (lv_at hl 4 rfl) ?_
  refine lv_iconst (v := 1) hx hb dL_law__1103 (by decide) ?_
  refine lv_iadd hx hb dL_law__1104 ?_
  refine lv_topi (fun v1 ev1 => ?_)
  have kv1 : (1 : Int32).toInt = 1 := by decide
  have fv1 : v1.toInt = i.toInt + 1 := by rw [ev1]; exact i_addc kv1 (by omega) (by omega)
  refine va_sld (A := fun q => s.heap.size ≤ q) hx hb hX hbl hbA I.S (i_vin (by omega) (by omega)) dL_law__1105 ?_
  refine lv_topi (fun v2 ev2 => ?_)
  refine lv_aload_n hx hb dL_law__1106 rfl (lv_at hl 3 rfl) ?_
  refine l_W (As := [.ref x, .int v2, .ref o]) hl0 C I (c_L_broke l D G x v2 o I.2.1.1 I.2.1.2.2) kw_220 I.2.2.2.2.2.2.2.1 (by decide +kernel) (by decide +kernel) dL_law__1107 hl.1 cdL_broke ⟨Nat.le_of_ble_eq_true rfl, Nat.le_of_ble_eq_true rfl, (by show 450 + 5 * k + 1 ≤ 601024; omega), (by show 30000 + 455 * k + 6 ≤ 7293034; omega), Nat.le_of_ble_eq_true rfl⟩ (fun r3 G3 H3 L3 I3 C m3 t3 K3 => ?_)
  have m3 := congrArg Int32.toInt m3
  obtain ⟨t3, rw3⟩ := t3
  have a9_3 : (fI D H3 10 x 9).toInt = (fI D H 10 x 9).toInt := ko_x K3 I.2.1.1 (by decide) (by decide +kernel)
  have a8_3 : (fI D H3 10 x 8).toInt = (fI D H 10 x 8).toInt := ko_x K3 I.2.1.1 (by decide) (by decide +kernel)
  have b4_3 : (fI D H3 11 mo 14).toInt = (fI D H 11 mo 14).toInt := ko_m K3 I.2.1.2.1 (by decide) (by decide +kernel)
  have b6_3 : (fI D H3 11 mo 6).toInt = (fI D H 11 mo 6).toInt := ko_m K3 I.2.1.2.1 (by decide) (by decide +kernel)
  have rp3 : RP6 D H3 x := rp0.keep I.1 I.2.1.1 K3 (by decide +kernel)
  have mi3 := mi0.keepO I.1 I.2.1.2.1 I.2.1.2.2 I.2.2.1.lt K3
  have ci3 := rw3 V K ci0
  have bq3 : BQ D H3 x mo := bq0.keep I.1 I.2.1.1 I.2.1.2.1 K3 (by decide +kernel) (by decide +kernel)
  have rq3 : RQ D H3 x := rq0.keep I.1 I.2.1.1 K3 (by decide +kernel)
  have t3 : tln D H3 x = tln D H x := t3
  refine lv_istore (lv' := [(5, .int r3), (0, .ref b), (1, .ref x), (2, .ref mo), (3, .ref o), (4, .int i)]) hx hb dL_law__1110 hl (by decide) rfl (fun ls hl => ?_)
  refine lv_aload_n hx hb dL_law__1112 rfl (lv_at hl 3 rfl) ?_
  refine lv_aload_n hx hb dL_law__1113 rfl (lv_at hl 1 rfl) ?_
  refine lv_iload hx hb dL_law__1114 (lv_at hl 5 rfl) ?_
  refine lv_iconst (v := 1) hx hb dL_law__1116 (by decide) ?_
  refine lv_iadd hx hb dL_law__1117 ?_
  refine lv_topi (fun v4 ev4 => ?_)
  have kv4 : (1 : Int32).toInt = 1 := by decide
  have fv4 : v4.toInt = i.toInt + 1 := by rw [ev4]; exact i_addc kv4 (by omega) (by omega)
  refine va_sld (A := fun q => s.heap.size ≤ q) hx hb hX hbl hbA I3.S (i_vin (by omega) (by omega)) dL_law__1118 ?_
  refine lv_topi (fun v5 ev5 => ?_)
  refine l_E (T := TX12) (As := [.int v5]) C I3 (c_X12_broke l D G3 mo v5 I3.2.1.2.1) kV_L_222 I3.2.1.2.1 trivial (by decide +kernel) dL_law__1119 hl.1 rfl rfl (by decide) cd_X12_broke ⟨Nat.le_of_ble_eq_true rfl, Nat.le_of_ble_eq_true rfl, (by show 450 + 5 * k + 1 ≤ 601024; omega), (by show 30000 + 455 * k + 6 ≤ 7293034; omega), Nat.le_of_ble_eq_true rfl⟩ (fun v6 H6 L6 I6 K6 q6 => ?_)
  have t6 : tln D H6 x = tln D H3 x := tlW I3.1 I3.2.1.1 K6 (by decide +kernel) (by decide +kernel)
  have m6 : (fI D H6 11 mo 9).toInt = (fI D H3 11 mo 9).toInt := congrArg Int32.toInt (K6.fI I3.2.1.2.1 rfl (by decide) (by decide +kernel))
  have bq6 : BQ D H6 x mo := bq3.keep I3.1 I3.2.1.1 I3.2.1.2.1 (Keep.o K6 o) (by decide +kernel) (by decide +kernel)
  have rq6 : RQ D H6 x := rq3.keep I3.1 I3.2.1.1 (Keep.o K6 o) (by decide +kernel)
  have a9_6 : (fI D H6 10 x 9).toInt = (fI D H3 10 x 9).toInt := ko_x (Keep.o K6 o) I3.2.1.1 (by decide) (by decide +kernel)
  have a8_6 : (fI D H6 10 x 8).toInt = (fI D H3 10 x 8).toInt := ko_x (Keep.o K6 o) I3.2.1.1 (by decide) (by decide +kernel)
  have b4_6 : (fI D H6 11 mo 14).toInt = (fI D H3 11 mo 14).toInt := ko_m (Keep.o K6 o) I3.2.1.2.1 (by decide) (by decide +kernel)
  have b6_6 : (fI D H6 11 mo 6).toInt = (fI D H3 11 mo 6).toInt := ko_m (Keep.o K6 o) I3.2.1.2.1 (by decide) (by decide +kernel)
  have rp6 : RP6 D H6 x := rp3.keep I3.1 I3.2.1.1 (Keep.o K6 o) (by decide +kernel)
  have ci6 := ci3.keep I3.1 I3.2.1.1 K6 (by decide +kernel)
  obtain ⟨r6, rfl, q6⟩ := q6
  have mi6 := q6.2 V K mi3
  refine lv_istore (lv' := [(6, .int r6), (5, .int r3), (0, .ref b), (1, .ref x), (2, .ref mo), (3, .ref o), (4, .int i)]) hx hb dL_law__1122 hl (by decide) rfl (fun ls hl => ?_)
  refine lv_goto (tgt := 1653) hx hb dL_law__1124 (by decide) ?_
  exact W.widen (by show 450 + 5 * k + 1 ≤ 450 + 5 * k + 5; omega) (by show 30000 + 455 * k + 6 ≤ 30000 + 455 * k + 455; omega) (Fin _ _ _ _ I6 (⟨by unfold tln at *; omega, bq6, rq6, ⟨⟨V, K, ci6, mi6, pv0, fun h9 => pk0 (by omega)⟩, ⟨by omega, by omega⟩, rp6⟩⟩) (lv_sub hl [2, 3, 4, 5, 6] rfl))

set_option maxRecDepth 100000 in
set_option maxHeartbeats 4000000 in
theorem lc_28 {p : Program} {l : Launch} {e : Env} {s : State} {m : MethodId} {below : List Frame} {meth : Method} {c : Code} {b L : Nat} {xs : Nat → Int32} {D : DD} {G : Nat → Nat} {H : Heap} {locs : List Loc} {ls : Array Slot} {i : Int32} {k x mo o : Nat} {Q : State → Prop} (hl0 : l.stackTraces = false) (C : Cx D G p s m #[.ref b] meth c RL code 7) (hX : va_X b L xs s s.heap) (hbl : b < s.heap.size) (I : Iv D G s.heap H locs x mo o) (tp : tln D H x = (fI D H 11 mo 9).toInt ∧ BQ D H x mo ∧ RQ D H x ∧ VQ D H x mo) (hi : 0 ≤ i.toInt ∧ i.toInt + 6 ≤ L) (hL : L ≤ 3072) (hk : k ≤ 511) (hl : lv_has ls 7 [(0, .ref b), (1, .ref x), (2, .ref mo), (3, .ref o), (4, .int i)])
    (Fin : ∀ G' H' locs' ls', Iv D G' s.heap H' locs' x mo o → tln D H' x = (fI D H' 11 mo 9).toInt ∧ BQ D H' x mo ∧ RQ D H' x ∧ VQ D H' x mo → lv_has ls' 7 [(0, .ref b), (1, .ref x), (2, .ref mo), (3, .ref o), (4, .int i)] → W p l e room_1 s m #[.ref b] below meth c H' locs' (450 + 5 * k + 5) (30000 + 455 * k + 455) Q (F0 m 1653 ls' [])) : W p l e room_1 s m #[.ref b] below meth c H locs (450 + 5 * k) (30000 + 455 * k) Q (F0 m 1127 ls []) := by
  have hx := C.1
  have hb := C.2.1
  have hbA : ¬ s.heap.size ≤ b := by omega
  have tp0 := tp
  obtain ⟨tp, bq0, rq0, vq0⟩ := tp
  obtain ⟨⟨V, K, ci0, mi0, pv0, pk0⟩, ⟨wf0, if0⟩, rp0⟩ := vq0
  refine lv_aload_n hx hb dL_law__1127 rfl (lv_at hl 1 rfl) ?_
  refine lv_aload_n hx hb dL_law__1128 rfl (lv_at hl 0 rfl) ?_
  refine lv_iload hx hb dL_law__1129 (lv_at hl 4 rfl) ?_
  refine lv_iconst (v := 1) hx hb dL_law__1131 (by decide) ?_
  refine lv_iadd hx hb dL_law__1132 ?_
  refine lv_topi (fun v1 ev1 => ?_)
  have kv1 : (1 : Int32).toInt = 1 := by decide
  have fv1 : v1.toInt = i.toInt + 1 := by rw [ev1]; exact i_addc kv1 (by omega) (by omega)
  refine va_sld (A := fun q => s.heap.size ≤ q) hx hb hX hbl hbA I.S (i_vin (by omega) (by omega)) dL_law__1133 ?_
  refine lv_topi (fun v2 ev2 => ?_)
  refine lv_aload_n hx hb dL_law__1134 rfl (lv_at hl 3 rfl) ?_
  refine l_W (As := [.ref x, .int v2, .ref o]) hl0 C I (c_L_game l D G x v2 o I.2.1.1 I.2.1.2.2) kw_223 trivial (by decide +kernel) (by decide +kernel) dL_law__1135 hl.1 cdL_game ⟨Nat.le_of_ble_eq_true rfl, Nat.le_of_ble_eq_true rfl, (by show 450 + 5 * k + 3 ≤ 601024; omega), (by show 30000 + 455 * k + 14 ≤ 7293034; omega), Nat.le_of_ble_eq_true rfl⟩ (fun r3 G3 H3 L3 I3 C m3 t3 K3 => ?_)
  have m3 := congrArg Int32.toInt m3
  have a9_3 : (fI D H3 10 x 9).toInt = (fI D H 10 x 9).toInt := ko_x K3 I.2.1.1 (by decide) (by decide +kernel)
  have a8_3 : (fI D H3 10 x 8).toInt = (fI D H 10 x 8).toInt := ko_x K3 I.2.1.1 (by decide) (by decide +kernel)
  have b4_3 : (fI D H3 11 mo 14).toInt = (fI D H 11 mo 14).toInt := ko_m K3 I.2.1.2.1 (by decide) (by decide +kernel)
  have b6_3 : (fI D H3 11 mo 6).toInt = (fI D H 11 mo 6).toInt := ko_m K3 I.2.1.2.1 (by decide) (by decide +kernel)
  have rp3 : RP6 D H3 x := rp0.keep I.1 I.2.1.1 K3 (by decide +kernel)
  have ci3 := ci0.keepO I.1 I.2.1.1 I.2.1.2.2 I.2.2.1.lt K3
  have mi3 := mi0.keepO I.1 I.2.1.2.1 I.2.1.2.2 I.2.2.1.lt K3
  have bq3 : BQ D H3 x mo := bq0.keep I.1 I.2.1.1 I.2.1.2.1 K3 (by decide +kernel) (by decide +kernel)
  have rq3 : RQ D H3 x := rq0.keep I.1 I.2.1.1 K3 (by decide +kernel)
  have t3 : tln D H3 x = tln D H x := t3
  refine lv_istore (lv' := [(5, .int r3), (0, .ref b), (1, .ref x), (2, .ref mo), (3, .ref o), (4, .int i)]) hx hb dL_law__1138 hl (by decide) rfl (fun ls hl => ?_)
  refine lv_aload_n hx hb dL_law__1140 rfl (lv_at hl 3 rfl) ?_
  refine lv_aload_n hx hb dL_law__1141 rfl (lv_at hl 1 rfl) ?_
  refine lv_iload hx hb dL_law__1142 (lv_at hl 5 rfl) ?_
  refine lv_iconst (v := 1) hx hb dL_law__1144 (by decide) ?_
  refine lv_iadd hx hb dL_law__1145 ?_
  refine lv_topi (fun v4 ev4 => ?_)
  have kv4 : (1 : Int32).toInt = 1 := by decide
  have fv4 : v4.toInt = i.toInt + 1 := by rw [ev4]; exact i_addc kv4 (by omega) (by omega)
  refine va_sld (A := fun q => s.heap.size ≤ q) hx hb hX hbl hbA I3.S (i_vin (by omega) (by omega)) dL_law__1146 ?_
  refine lv_topi (fun v5 ev5 => ?_)
  refine l_E (T := TX12) (As := [.int v5]) C I3 (c_X12_game l D G3 mo v5 I3.2.1.2.1) kV_L_225 I3.2.1.2.1 trivial (by decide +kernel) dL_law__1147 hl.1 rfl rfl (by decide) cd_X12_game ⟨Nat.le_of_ble_eq_true rfl, Nat.le_of_ble_eq_true rfl, (by show 450 + 5 * k + 3 ≤ 601024; omega), (by show 30000 + 455 * k + 14 ≤ 7293034; omega), Nat.le_of_ble_eq_true rfl⟩ (fun v6 H6 L6 I6 K6 q6 => ?_)
  have t6 : tln D H6 x = tln D H3 x := tlW I3.1 I3.2.1.1 K6 (by decide +kernel) (by decide +kernel)
  have m6 : (fI D H6 11 mo 9).toInt = (fI D H3 11 mo 9).toInt := congrArg Int32.toInt (K6.fI I3.2.1.2.1 rfl (by decide) (by decide +kernel))
  have bq6 : BQ D H6 x mo := bq3.keep I3.1 I3.2.1.1 I3.2.1.2.1 (Keep.o K6 o) (by decide +kernel) (by decide +kernel)
  have rq6 : RQ D H6 x := rq3.keep I3.1 I3.2.1.1 (Keep.o K6 o) (by decide +kernel)
  have a9_6 : (fI D H6 10 x 9).toInt = (fI D H3 10 x 9).toInt := ko_x (Keep.o K6 o) I3.2.1.1 (by decide) (by decide +kernel)
  have a8_6 : (fI D H6 10 x 8).toInt = (fI D H3 10 x 8).toInt := ko_x (Keep.o K6 o) I3.2.1.1 (by decide) (by decide +kernel)
  have b4_6 : (fI D H6 11 mo 14).toInt = (fI D H3 11 mo 14).toInt := ko_m (Keep.o K6 o) I3.2.1.2.1 (by decide) (by decide +kernel)
  have b6_6 : (fI D H6 11 mo 6).toInt = (fI D H3 11 mo 6).toInt := ko_m (Keep.o K6 o) I3.2.1.2.1 (by decide) (by decide +kernel)
  have rp6 : RP6 D H6 x := rp3.keep I3.1 I3.2.1.1 (Keep.o K6 o) (by decide +kernel)
  have ci6 := ci3.keep I3.1 I3.2.1.1 K6 (by decide +kernel)
  have mi6 := mi3.keep I3.1 I3.2.1.2.1 K6 (by decide +kernel)
  obtain ⟨r6, rfl, q6⟩ := q6
  refine lv_istore (lv' := [(6, .int r6), (5, .int r3), (0, .ref b), (1, .ref x), (2, .ref mo), (3, .ref o), (4, .int i)]) hx hb dL_law__1150 hl (by decide) rfl (fun ls hl => ?_)
  refine lv_goto (tgt := 1653) hx hb dL_law__1152 (by decide) ?_
  exact W.widen (by show 450 + 5 * k + 3 ≤ 450 + 5 * k + 5; omega) (by show 30000 + 455 * k + 14 ≤ 30000 + 455 * k + 455; omega) (Fin _ _ _ _ I6 (⟨by unfold tln at *; omega, bq6, rq6, ⟨⟨V, K, ci6, mi6, pv0, fun h9 => pk0 (by omega)⟩, ⟨by omega, by omega⟩, rp6⟩⟩) (lv_sub hl [2, 3, 4, 5, 6] rfl))

set_option maxRecDepth 100000 in
set_option maxHeartbeats 4000000 in
theorem lc_29 {p : Program} {l : Launch} {e : Env} {s : State} {m : MethodId} {below : List Frame} {meth : Method} {c : Code} {b L : Nat} {xs : Nat → Int32} {D : DD} {G : Nat → Nat} {H : Heap} {locs : List Loc} {ls : Array Slot} {i : Int32} {k x mo o : Nat} {Q : State → Prop} (hl0 : l.stackTraces = false) (C : Cx D G p s m #[.ref b] meth c RL code 7) (hX : va_X b L xs s s.heap) (hbl : b < s.heap.size) (I : Iv D G s.heap H locs x mo o) (tp : tln D H x = (fI D H 11 mo 9).toInt ∧ BQ D H x mo ∧ RQ D H x ∧ VQ D H x mo) (hi : 0 ≤ i.toInt ∧ i.toInt + 6 ≤ L) (hL : L ≤ 3072) (hk : k ≤ 511) (hl : lv_has ls 7 [(0, .ref b), (1, .ref x), (2, .ref mo), (3, .ref o), (4, .int i)])
    (Fin : ∀ G' H' locs' ls', Iv D G' s.heap H' locs' x mo o → tln D H' x = (fI D H' 11 mo 9).toInt ∧ BQ D H' x mo ∧ RQ D H' x ∧ VQ D H' x mo → lv_has ls' 7 [(0, .ref b), (1, .ref x), (2, .ref mo), (3, .ref o), (4, .int i)] → W p l e room_1 s m #[.ref b] below meth c H' locs' (450 + 5 * k + 5) (30000 + 455 * k + 455) Q (F0 m 1653 ls' [])) : W p l e room_1 s m #[.ref b] below meth c H locs (450 + 5 * k) (30000 + 455 * k) Q (F0 m 1155 ls []) := by
  have hx := C.1
  have hb := C.2.1
  have hbA : ¬ s.heap.size ≤ b := by omega
  have tp0 := tp
  obtain ⟨tp, bq0, rq0, vq0⟩ := tp
  obtain ⟨⟨V, K, ci0, mi0, pv0, pk0⟩, ⟨wf0, if0⟩, rp0⟩ := vq0
  refine lv_aload_n hx hb dL_law__1155 rfl (lv_at hl 1 rfl) ?_
  refine lv_aload_n hx hb dL_law__1156 rfl (lv_at hl 0 rfl) ?_
  refine lv_iload hx hb dL_law__1157 (lv_at hl 4 rfl) ?_
  refine lv_iconst (v := 1) hx hb dL_law__1159 (by decide) ?_
  refine lv_iadd hx hb dL_law__1160 ?_
  refine lv_topi (fun v1 ev1 => ?_)
  have kv1 : (1 : Int32).toInt = 1 := by decide
  have fv1 : v1.toInt = i.toInt + 1 := by rw [ev1]; exact i_addc kv1 (by omega) (by omega)
  refine va_sld (A := fun q => s.heap.size ≤ q) hx hb hX hbl hbA I.S (i_vin (by omega) (by omega)) dL_law__1161 ?_
  refine lv_topi (fun v2 ev2 => ?_)
  refine lv_aload_n hx hb dL_law__1162 rfl (lv_at hl 3 rfl) ?_
  refine l_W (As := [.ref x, .int v2, .ref o]) hl0 C I (c_L_crowd l D G x v2 o I.2.1.1 I.2.1.2.2) kw_226 trivial (by decide +kernel) (by decide +kernel) dL_law__1163 hl.1 cdL_crowd ⟨Nat.le_of_ble_eq_true rfl, Nat.le_of_ble_eq_true rfl, (by show 450 + 5 * k + 1 ≤ 601024; omega), (by show 30000 + 455 * k + 6 ≤ 7293034; omega), Nat.le_of_ble_eq_true rfl⟩ (fun r3 G3 H3 L3 I3 C m3 t3 K3 => ?_)
  have m3 := congrArg Int32.toInt m3
  have a9_3 : (fI D H3 10 x 9).toInt = (fI D H 10 x 9).toInt := ko_x K3 I.2.1.1 (by decide) (by decide +kernel)
  have a8_3 : (fI D H3 10 x 8).toInt = (fI D H 10 x 8).toInt := ko_x K3 I.2.1.1 (by decide) (by decide +kernel)
  have b4_3 : (fI D H3 11 mo 14).toInt = (fI D H 11 mo 14).toInt := ko_m K3 I.2.1.2.1 (by decide) (by decide +kernel)
  have b6_3 : (fI D H3 11 mo 6).toInt = (fI D H 11 mo 6).toInt := ko_m K3 I.2.1.2.1 (by decide) (by decide +kernel)
  have rp3 : RP6 D H3 x := rp0.keep I.1 I.2.1.1 K3 (by decide +kernel)
  have ci3 := ci0.keepO I.1 I.2.1.1 I.2.1.2.2 I.2.2.1.lt K3
  have mi3 := mi0.keepO I.1 I.2.1.2.1 I.2.1.2.2 I.2.2.1.lt K3
  have bq3 : BQ D H3 x mo := bq0.keep I.1 I.2.1.1 I.2.1.2.1 K3 (by decide +kernel) (by decide +kernel)
  have rq3 : RQ D H3 x := rq0.keep I.1 I.2.1.1 K3 (by decide +kernel)
  have t3 : tln D H3 x = tln D H x := t3
  refine lv_istore (lv' := [(5, .int r3), (0, .ref b), (1, .ref x), (2, .ref mo), (3, .ref o), (4, .int i)]) hx hb dL_law__1166 hl (by decide) rfl (fun ls hl => ?_)
  refine lv_aload_n hx hb dL_law__1168 rfl (lv_at hl 3 rfl) ?_
  refine lv_aload_n hx hb dL_law__1169 rfl (lv_at hl 1 rfl) ?_
  refine lv_iload hx hb dL_law__1170 (lv_at hl 5 rfl) ?_
  refine lv_iconst (v := 1) hx hb dL_law__1172 (by decide) ?_
  refine lv_iadd hx hb dL_law__1173 ?_
  refine lv_topi (fun v4 ev4 => ?_)
  have kv4 : (1 : Int32).toInt = 1 := by decide
  have fv4 : v4.toInt = i.toInt + 1 := by rw [ev4]; exact i_addc kv4 (by omega) (by omega)
  refine va_sld (A := fun q => s.heap.size ≤ q) hx hb hX hbl hbA I3.S (i_vin (by omega) (by omega)) dL_law__1174 ?_
  refine lv_topi (fun v5 ev5 => ?_)
  refine l_E (T := TX12) (As := [.int v5]) C I3 (c_X12_crowd l D G3 mo v5 I3.2.1.2.1) kV_L_228 I3.2.1.2.1 trivial (by decide +kernel) dL_law__1175 hl.1 rfl rfl (by decide) cd_X12_crowd ⟨Nat.le_of_ble_eq_true rfl, Nat.le_of_ble_eq_true rfl, (by show 450 + 5 * k + 1 ≤ 601024; omega), (by show 30000 + 455 * k + 6 ≤ 7293034; omega), Nat.le_of_ble_eq_true rfl⟩ (fun v6 H6 L6 I6 K6 q6 => ?_)
  have t6 : tln D H6 x = tln D H3 x := tlW I3.1 I3.2.1.1 K6 (by decide +kernel) (by decide +kernel)
  have m6 : (fI D H6 11 mo 9).toInt = (fI D H3 11 mo 9).toInt := congrArg Int32.toInt (K6.fI I3.2.1.2.1 rfl (by decide) (by decide +kernel))
  have bq6 : BQ D H6 x mo := bq3.keep I3.1 I3.2.1.1 I3.2.1.2.1 (Keep.o K6 o) (by decide +kernel) (by decide +kernel)
  have rq6 : RQ D H6 x := rq3.keep I3.1 I3.2.1.1 (Keep.o K6 o) (by decide +kernel)
  have a9_6 : (fI D H6 10 x 9).toInt = (fI D H3 10 x 9).toInt := ko_x (Keep.o K6 o) I3.2.1.1 (by decide) (by decide +kernel)
  have a8_6 : (fI D H6 10 x 8).toInt = (fI D H3 10 x 8).toInt := ko_x (Keep.o K6 o) I3.2.1.1 (by decide) (by decide +kernel)
  have b4_6 : (fI D H6 11 mo 14).toInt = (fI D H3 11 mo 14).toInt := ko_m (Keep.o K6 o) I3.2.1.2.1 (by decide) (by decide +kernel)
  have b6_6 : (fI D H6 11 mo 6).toInt = (fI D H3 11 mo 6).toInt := ko_m (Keep.o K6 o) I3.2.1.2.1 (by decide) (by decide +kernel)
  have rp6 : RP6 D H6 x := rp3.keep I3.1 I3.2.1.1 (Keep.o K6 o) (by decide +kernel)
  have ci6 := ci3.keep I3.1 I3.2.1.1 K6 (by decide +kernel)
  have mi6 := mi3.keep I3.1 I3.2.1.2.1 K6 (by decide +kernel)
  obtain ⟨r6, rfl, q6⟩ := q6
  refine lv_istore (lv' := [(6, .int r6), (5, .int r3), (0, .ref b), (1, .ref x), (2, .ref mo), (3, .ref o), (4, .int i)]) hx hb dL_law__1178 hl (by decide) rfl (fun ls hl => ?_)
  refine lv_goto (tgt := 1653) hx hb dL_law__1180 (by decide) ?_
  exact W.widen (by show 450 + 5 * k + 1 ≤ 450 + 5 * k + 5; omega) (by show 30000 + 455 * k + 6 ≤ 30000 + 455 * k + 455; omega) (Fin _ _ _ _ I6 (⟨by unfold tln at *; omega, bq6, rq6, ⟨⟨V, K, ci6, mi6, pv0, fun h9 => pk0 (by omega)⟩, ⟨by omega, by omega⟩, rp6⟩⟩) (lv_sub hl [2, 3, 4, 5, 6] rfl))

set_option maxRecDepth 100000 in
set_option maxHeartbeats 4000000 in
theorem lc_30 {p : Program} {l : Launch} {e : Env} {s : State} {m : MethodId} {below : List Frame} {meth : Method} {c : Code} {b L : Nat} {xs : Nat → Int32} {D : DD} {G : Nat → Nat} {H : Heap} {locs : List Loc} {ls : Array Slot} {i : Int32} {k x mo o : Nat} {Q : State → Prop} (hl0 : l.stackTraces = false) (C : Cx D G p s m #[.ref b] meth c RL code 7) (hX : va_X b L xs s s.heap) (hbl : b < s.heap.size) (I : Iv D G s.heap H locs x mo o) (tp : tln D H x = (fI D H 11 mo 9).toInt ∧ BQ D H x mo ∧ RQ D H x ∧ VQ D H x mo) (hi : 0 ≤ i.toInt ∧ i.toInt + 6 ≤ L) (hL : L ≤ 3072) (hk : k ≤ 511) (hl : lv_has ls 7 [(0, .ref b), (1, .ref x), (2, .ref mo), (3, .ref o), (4, .int i)])
    (Fin : ∀ G' H' locs' ls', Iv D G' s.heap H' locs' x mo o → tln D H' x = (fI D H' 11 mo 9).toInt ∧ BQ D H' x mo ∧ RQ D H' x ∧ VQ D H' x mo → lv_has ls' 7 [(0, .ref b), (1, .ref x), (2, .ref mo), (3, .ref o), (4, .int i)] → W p l e room_1 s m #[.ref b] below meth c H' locs' (450 + 5 * k + 5) (30000 + 455 * k + 455) Q (F0 m 1653 ls' [])) : W p l e room_1 s m #[.ref b] below meth c H locs (450 + 5 * k) (30000 + 455 * k) Q (F0 m 1183 ls []) := by
  have hx := C.1
  have hb := C.2.1
  have hbA : ¬ s.heap.size ≤ b := by omega
  have tp0 := tp
  obtain ⟨tp, bq0, rq0, vq0⟩ := tp
  obtain ⟨⟨V, K, ci0, mi0, pv0, pk0⟩, ⟨wf0, if0⟩, rp0⟩ := vq0
  refine lv_aload_n hx hb dL_law__1183 rfl (lv_at hl 1 rfl) ?_
  refine lv_aload_n hx hb dL_law__1184 rfl (lv_at hl 0 rfl) ?_
  refine lv_iload hx hb dL_law__1185 (lv_at hl 4 rfl) ?_
  refine lv_iconst (v := 1) hx hb dL_law__1187 (by decide) ?_
  refine lv_iadd hx hb dL_law__1188 ?_
  refine lv_topi (fun v1 ev1 => ?_)
  have kv1 : (1 : Int32).toInt = 1 := by decide
  have fv1 : v1.toInt = i.toInt + 1 := by rw [ev1]; exact i_addc kv1 (by omega) (by omega)
  refine va_sld (A := fun q => s.heap.size ≤ q) hx hb hX hbl hbA I.S (i_vin (by omega) (by omega)) dL_law__1189 ?_
  refine lv_topi (fun v2 ev2 => ?_)
  refine lv_aload_n hx hb dL_law__1190 rfl (lv_at hl 3 rfl) ?_
  refine l_W (As := [.ref x, .int v2, .ref o]) hl0 C I (c_L_warmer l D G x v2 o I.2.1.1 I.2.1.2.2) kw_229 trivial (by decide +kernel) (by decide +kernel) dL_law__1191 hl.1 cdL_warmer ⟨Nat.le_of_ble_eq_true rfl, Nat.le_of_ble_eq_true rfl, (by show 450 + 5 * k + 1 ≤ 601024; omega), (by show 30000 + 455 * k + 6 ≤ 7293034; omega), Nat.le_of_ble_eq_true rfl⟩ (fun r3 G3 H3 L3 I3 C m3 t3 K3 => ?_)
  have m3 := congrArg Int32.toInt m3
  have a9_3 : (fI D H3 10 x 9).toInt = (fI D H 10 x 9).toInt := ko_x K3 I.2.1.1 (by decide) (by decide +kernel)
  have a8_3 : (fI D H3 10 x 8).toInt = (fI D H 10 x 8).toInt := ko_x K3 I.2.1.1 (by decide) (by decide +kernel)
  have b4_3 : (fI D H3 11 mo 14).toInt = (fI D H 11 mo 14).toInt := ko_m K3 I.2.1.2.1 (by decide) (by decide +kernel)
  have b6_3 : (fI D H3 11 mo 6).toInt = (fI D H 11 mo 6).toInt := ko_m K3 I.2.1.2.1 (by decide) (by decide +kernel)
  have rp3 : RP6 D H3 x := rp0.keep I.1 I.2.1.1 K3 (by decide +kernel)
  have ci3 := ci0.keepO I.1 I.2.1.1 I.2.1.2.2 I.2.2.1.lt K3
  have mi3 := mi0.keepO I.1 I.2.1.2.1 I.2.1.2.2 I.2.2.1.lt K3
  have bq3 : BQ D H3 x mo := bq0.keep I.1 I.2.1.1 I.2.1.2.1 K3 (by decide +kernel) (by decide +kernel)
  have rq3 : RQ D H3 x := rq0.keep I.1 I.2.1.1 K3 (by decide +kernel)
  have t3 : tln D H3 x = tln D H x := t3
  refine lv_istore (lv' := [(5, .int r3), (0, .ref b), (1, .ref x), (2, .ref mo), (3, .ref o), (4, .int i)]) hx hb dL_law__1194 hl (by decide) rfl (fun ls hl => ?_)
  refine lv_aload_n hx hb dL_law__1196 rfl (lv_at hl 3 rfl) ?_
  refine lv_aload_n hx hb dL_law__1197 rfl (lv_at hl 1 rfl) ?_
  refine lv_iload hx hb dL_law__1198 (lv_at hl 5 rfl) ?_
  refine lv_iconst (v := 1) hx hb dL_law__1200 (by decide) ?_
  refine lv_iadd hx hb dL_law__1201 ?_
  refine lv_topi (fun v4 ev4 => ?_)
  have kv4 : (1 : Int32).toInt = 1 := by decide
  have fv4 : v4.toInt = i.toInt + 1 := by rw [ev4]; exact i_addc kv4 (by omega) (by omega)
  refine va_sld (A := fun q => s.heap.size ≤ q) hx hb hX hbl hbA I3.S (i_vin (by omega) (by omega)) dL_law__1202 ?_
  refine lv_topi (fun v5 ev5 => ?_)
  refine l_E (T := TX12) (As := [.int v5]) C I3 (c_X12_warmer l D G3 mo v5 I3.2.1.2.1) kV_L_231 I3.2.1.2.1 trivial (by decide +kernel) dL_law__1203 hl.1 rfl rfl (by decide) cd_X12_warmer ⟨Nat.le_of_ble_eq_true rfl, Nat.le_of_ble_eq_true rfl, (by show 450 + 5 * k + 1 ≤ 601024; omega), (by show 30000 + 455 * k + 6 ≤ 7293034; omega), Nat.le_of_ble_eq_true rfl⟩ (fun v6 H6 L6 I6 K6 q6 => ?_)
  have t6 : tln D H6 x = tln D H3 x := tlW I3.1 I3.2.1.1 K6 (by decide +kernel) (by decide +kernel)
  have m6 : (fI D H6 11 mo 9).toInt = (fI D H3 11 mo 9).toInt := congrArg Int32.toInt (K6.fI I3.2.1.2.1 rfl (by decide) (by decide +kernel))
  have bq6 : BQ D H6 x mo := bq3.keep I3.1 I3.2.1.1 I3.2.1.2.1 (Keep.o K6 o) (by decide +kernel) (by decide +kernel)
  have rq6 : RQ D H6 x := rq3.keep I3.1 I3.2.1.1 (Keep.o K6 o) (by decide +kernel)
  have a9_6 : (fI D H6 10 x 9).toInt = (fI D H3 10 x 9).toInt := ko_x (Keep.o K6 o) I3.2.1.1 (by decide) (by decide +kernel)
  have a8_6 : (fI D H6 10 x 8).toInt = (fI D H3 10 x 8).toInt := ko_x (Keep.o K6 o) I3.2.1.1 (by decide) (by decide +kernel)
  have b4_6 : (fI D H6 11 mo 14).toInt = (fI D H3 11 mo 14).toInt := ko_m (Keep.o K6 o) I3.2.1.2.1 (by decide) (by decide +kernel)
  have b6_6 : (fI D H6 11 mo 6).toInt = (fI D H3 11 mo 6).toInt := ko_m (Keep.o K6 o) I3.2.1.2.1 (by decide) (by decide +kernel)
  have rp6 : RP6 D H6 x := rp3.keep I3.1 I3.2.1.1 (Keep.o K6 o) (by decide +kernel)
  have ci6 := ci3.keep I3.1 I3.2.1.1 K6 (by decide +kernel)
  have mi6 := mi3.keep I3.1 I3.2.1.2.1 K6 (by decide +kernel)
  obtain ⟨r6, rfl, q6⟩ := q6
  refine lv_istore (lv' := [(6, .int r6), (5, .int r3), (0, .ref b), (1, .ref x), (2, .ref mo), (3, .ref o), (4, .int i)]) hx hb dL_law__1206 hl (by decide) rfl (fun ls hl => ?_)
  refine lv_goto (tgt := 1653) hx hb dL_law__1208 (by decide) ?_
  exact W.widen (by show 450 + 5 * k + 1 ≤ 450 + 5 * k + 5; omega) (by show 30000 + 455 * k + 6 ≤ 30000 + 455 * k + 455; omega) (Fin _ _ _ _ I6 (⟨by unfold tln at *; omega, bq6, rq6, ⟨⟨V, K, ci6, mi6, pv0, fun h9 => pk0 (by omega)⟩, ⟨by omega, by omega⟩, rp6⟩⟩) (lv_sub hl [2, 3, 4, 5, 6] rfl))

set_option maxRecDepth 100000 in
set_option maxHeartbeats 4000000 in
theorem lc_31 {p : Program} {l : Launch} {e : Env} {s : State} {m : MethodId} {below : List Frame} {meth : Method} {c : Code} {b L : Nat} {xs : Nat → Int32} {D : DD} {G : Nat → Nat} {H : Heap} {locs : List Loc} {ls : Array Slot} {i : Int32} {k x mo o : Nat} {Q : State → Prop} (hl0 : l.stackTraces = false) (C : Cx D G p s m #[.ref b] meth c RL code 7) (hX : va_X b L xs s s.heap) (hbl : b < s.heap.size) (I : Iv D G s.heap H locs x mo o) (tp : tln D H x = (fI D H 11 mo 9).toInt ∧ BQ D H x mo ∧ RQ D H x ∧ VQ D H x mo) (hi : 0 ≤ i.toInt ∧ i.toInt + 6 ≤ L) (hL : L ≤ 3072) (hk : k ≤ 511) (hl : lv_has ls 7 [(0, .ref b), (1, .ref x), (2, .ref mo), (3, .ref o), (4, .int i)])
    (Fin : ∀ G' H' locs' ls', Iv D G' s.heap H' locs' x mo o → tln D H' x = (fI D H' 11 mo 9).toInt ∧ BQ D H' x mo ∧ RQ D H' x ∧ VQ D H' x mo → lv_has ls' 7 [(0, .ref b), (1, .ref x), (2, .ref mo), (3, .ref o), (4, .int i)] → W p l e room_1 s m #[.ref b] below meth c H' locs' (450 + 5 * k + 5) (30000 + 455 * k + 455) Q (F0 m 1653 ls' [])) : W p l e room_1 s m #[.ref b] below meth c H locs (450 + 5 * k) (30000 + 455 * k) Q (F0 m 1211 ls []) := by
  have hx := C.1
  have hb := C.2.1
  have hbA : ¬ s.heap.size ≤ b := by omega
  have tp0 := tp
  obtain ⟨tp, bq0, rq0, vq0⟩ := tp
  obtain ⟨⟨V, K, ci0, mi0, pv0, pk0⟩, ⟨wf0, if0⟩, rp0⟩ := vq0
  refine lv_aload_n hx hb dL_law__1211 rfl (lv_at hl 1 rfl) ?_
  refine lv_aload_n hx hb dL_law__1212 rfl (lv_at hl 0 rfl) ?_
  refine lv_iload hx hb dL_law__1213 (lv_at hl 4 rfl) ?_
  refine lv_iconst (v := 1) hx hb dL_law__1215 (by decide) ?_
  refine lv_iadd hx hb dL_law__1216 ?_
  refine lv_topi (fun v1 ev1 => ?_)
  have kv1 : (1 : Int32).toInt = 1 := by decide
  have fv1 : v1.toInt = i.toInt + 1 := by rw [ev1]; exact i_addc kv1 (by omega) (by omega)
  refine va_sld (A := fun q => s.heap.size ≤ q) hx hb hX hbl hbA I.S (i_vin (by omega) (by omega)) dL_law__1217 ?_
  refine lv_topi (fun v2 ev2 => ?_)
  refine lv_aload_n hx hb dL_law__1218 rfl (lv_at hl 3 rfl) ?_
  refine l_W (As := [.ref x, .int v2, .ref o]) hl0 C I (c_L_first l D G x v2 o I.2.1.1 I.2.1.2.2) kw_232 I.2.2.2.2.2.2.2.1 (by decide +kernel) (by decide +kernel) dL_law__1219 hl.1 cdL_first ⟨Nat.le_of_ble_eq_true rfl, Nat.le_of_ble_eq_true rfl, (by show 450 + 5 * k + 1 ≤ 601024; omega), (by show 30000 + 455 * k + 6 ≤ 7293034; omega), Nat.le_of_ble_eq_true rfl⟩ (fun r3 G3 H3 L3 I3 C m3 t3 K3 => ?_)
  have m3 := congrArg Int32.toInt m3
  obtain ⟨t3, rw3⟩ := t3
  have a9_3 : (fI D H3 10 x 9).toInt = (fI D H 10 x 9).toInt := ko_x K3 I.2.1.1 (by decide) (by decide +kernel)
  have a8_3 : (fI D H3 10 x 8).toInt = (fI D H 10 x 8).toInt := ko_x K3 I.2.1.1 (by decide) (by decide +kernel)
  have b4_3 : (fI D H3 11 mo 14).toInt = (fI D H 11 mo 14).toInt := ko_m K3 I.2.1.2.1 (by decide) (by decide +kernel)
  have b6_3 : (fI D H3 11 mo 6).toInt = (fI D H 11 mo 6).toInt := ko_m K3 I.2.1.2.1 (by decide) (by decide +kernel)
  have rp3 : RP6 D H3 x := rp0.keep I.1 I.2.1.1 K3 (by decide +kernel)
  have mi3 := mi0.keepO I.1 I.2.1.2.1 I.2.1.2.2 I.2.2.1.lt K3
  have ci3 := rw3 V K ci0
  have bq3 : BQ D H3 x mo := bq0.keep I.1 I.2.1.1 I.2.1.2.1 K3 (by decide +kernel) (by decide +kernel)
  have rq3 : RQ D H3 x := rq0.keep I.1 I.2.1.1 K3 (by decide +kernel)
  have t3 : tln D H3 x = tln D H x := t3
  refine lv_istore (lv' := [(5, .int r3), (0, .ref b), (1, .ref x), (2, .ref mo), (3, .ref o), (4, .int i)]) hx hb dL_law__1222 hl (by decide) rfl (fun ls hl => ?_)
  refine lv_aload_n hx hb dL_law__1224 rfl (lv_at hl 3 rfl) ?_
  refine lv_aload_n hx hb dL_law__1225 rfl (lv_at hl 1 rfl) ?_
  refine lv_iload hx hb dL_law__1226 (lv_at hl 5 rfl) ?_
  refine lv_iconst (v := 1) hx hb dL_law__1228 (by decide) ?_
  refine lv_iadd hx hb dL_law__1229 ?_
  refine lv_topi (fun v4 ev4 => ?_)
  have kv4 : (1 : Int32).toInt = 1 := by decide
  have fv4 : v4.toInt = i.toInt + 1 := by rw [ev4]; exact i_addc kv4 (by omega) (by omega)
  refine va_sld (A := fun q => s.heap.size ≤ q) hx hb hX hbl hbA I3.S (i_vin (by omega) (by omega)) dL_law__1230 ?_
  refine lv_topi (fun v5 ev5 => ?_)
  refine l_E (T := TX12) (As := [.int v5]) C I3 (c_X12_first l D G3 mo v5 I3.2.1.2.1) kV_L_234 I3.2.1.2.1 trivial (by decide +kernel) dL_law__1231 hl.1 rfl rfl (by decide) cd_X12_first ⟨Nat.le_of_ble_eq_true rfl, Nat.le_of_ble_eq_true rfl, (by show 450 + 5 * k + 1 ≤ 601024; omega), (by show 30000 + 455 * k + 6 ≤ 7293034; omega), Nat.le_of_ble_eq_true rfl⟩ (fun v6 H6 L6 I6 K6 q6 => ?_)
  have t6 : tln D H6 x = tln D H3 x := tlW I3.1 I3.2.1.1 K6 (by decide +kernel) (by decide +kernel)
  have m6 : (fI D H6 11 mo 9).toInt = (fI D H3 11 mo 9).toInt := congrArg Int32.toInt (K6.fI I3.2.1.2.1 rfl (by decide) (by decide +kernel))
  have bq6 : BQ D H6 x mo := bq3.keep I3.1 I3.2.1.1 I3.2.1.2.1 (Keep.o K6 o) (by decide +kernel) (by decide +kernel)
  have rq6 : RQ D H6 x := rq3.keep I3.1 I3.2.1.1 (Keep.o K6 o) (by decide +kernel)
  have a9_6 : (fI D H6 10 x 9).toInt = (fI D H3 10 x 9).toInt := ko_x (Keep.o K6 o) I3.2.1.1 (by decide) (by decide +kernel)
  have a8_6 : (fI D H6 10 x 8).toInt = (fI D H3 10 x 8).toInt := ko_x (Keep.o K6 o) I3.2.1.1 (by decide) (by decide +kernel)
  have b4_6 : (fI D H6 11 mo 14).toInt = (fI D H3 11 mo 14).toInt := ko_m (Keep.o K6 o) I3.2.1.2.1 (by decide) (by decide +kernel)
  have b6_6 : (fI D H6 11 mo 6).toInt = (fI D H3 11 mo 6).toInt := ko_m (Keep.o K6 o) I3.2.1.2.1 (by decide) (by decide +kernel)
  have rp6 : RP6 D H6 x := rp3.keep I3.1 I3.2.1.1 (Keep.o K6 o) (by decide +kernel)
  have ci6 := ci3.keep I3.1 I3.2.1.1 K6 (by decide +kernel)
  obtain ⟨r6, rfl, q6⟩ := q6
  have mi6 := q6.2 V K mi3
  refine lv_istore (lv' := [(6, .int r6), (5, .int r3), (0, .ref b), (1, .ref x), (2, .ref mo), (3, .ref o), (4, .int i)]) hx hb dL_law__1234 hl (by decide) rfl (fun ls hl => ?_)
  refine lv_goto (tgt := 1653) hx hb dL_law__1236 (by decide) ?_
  exact W.widen (by show 450 + 5 * k + 1 ≤ 450 + 5 * k + 5; omega) (by show 30000 + 455 * k + 6 ≤ 30000 + 455 * k + 455; omega) (Fin _ _ _ _ I6 (⟨by unfold tln at *; omega, bq6, rq6, ⟨⟨V, K, ci6, mi6, pv0, fun h9 => pk0 (by omega)⟩, ⟨by omega, by omega⟩, rp6⟩⟩) (lv_sub hl [2, 3, 4, 5, 6] rfl))

set_option maxRecDepth 100000 in
set_option maxHeartbeats 4000000 in
theorem lc_32 {p : Program} {l : Launch} {e : Env} {s : State} {m : MethodId} {below : List Frame} {meth : Method} {c : Code} {b L : Nat} {xs : Nat → Int32} {D : DD} {G : Nat → Nat} {H : Heap} {locs : List Loc} {ls : Array Slot} {i : Int32} {k x mo o : Nat} {Q : State → Prop} (hl0 : l.stackTraces = false) (C : Cx D G p s m #[.ref b] meth c RL code 7) (hX : va_X b L xs s s.heap) (hbl : b < s.heap.size) (I : Iv D G s.heap H locs x mo o) (tp : tln D H x = (fI D H 11 mo 9).toInt ∧ BQ D H x mo ∧ RQ D H x ∧ VQ D H x mo) (hi : 0 ≤ i.toInt ∧ i.toInt + 6 ≤ L) (hL : L ≤ 3072) (hk : k ≤ 511) (hl : lv_has ls 7 [(0, .ref b), (1, .ref x), (2, .ref mo), (3, .ref o), (4, .int i)])
    (Fin : ∀ G' H' locs' ls', Iv D G' s.heap H' locs' x mo o → tln D H' x = (fI D H' 11 mo 9).toInt ∧ BQ D H' x mo ∧ RQ D H' x ∧ VQ D H' x mo → lv_has ls' 7 [(0, .ref b), (1, .ref x), (2, .ref mo), (3, .ref o), (4, .int i)] → W p l e room_1 s m #[.ref b] below meth c H' locs' (450 + 5 * k + 5) (30000 + 455 * k + 455) Q (F0 m 1653 ls' [])) : W p l e room_1 s m #[.ref b] below meth c H locs (450 + 5 * k) (30000 + 455 * k) Q (F0 m 1239 ls []) := by
  have hx := C.1
  have hb := C.2.1
  have hbA : ¬ s.heap.size ≤ b := by omega
  have tp0 := tp
  obtain ⟨tp, bq0, rq0, vq0⟩ := tp
  obtain ⟨⟨V, K, ci0, mi0, pv0, pk0⟩, ⟨wf0, if0⟩, rp0⟩ := vq0
  refine lv_aload_n hx hb dL_law__1239 rfl (lv_at hl 1 rfl) ?_
  refine l_E (T := TX11) (As := []) C I (c_X11_free l D G x I.2.1.1) kV_L_235 I.2.1.1 trivial (by decide +kernel) dL_law__1240 hl.1 rfl rfl (by decide) cd_X11_free ⟨Nat.le_of_ble_eq_true rfl, Nat.le_of_ble_eq_true rfl, (by show 450 + 5 * k ≤ 601024; omega), (by show 30000 + 455 * k ≤ 7293034; omega), Nat.le_of_ble_eq_true rfl⟩ (fun v1 H1 L1 I1 K1 q1 => ?_)
  have m1 : (fI D H1 11 mo 9).toInt = (fI D H 11 mo 9).toInt := congrArg Int32.toInt (K1.fI I.2.1.2.1 rfl (by decide) (by decide +kernel))
  have t1 : tln D H1 x = tln D H x := tlW I.1 I.2.1.1 K1 (by decide +kernel) (by decide +kernel)
  have bq1 : BQ D H1 x mo := bq0.keep I.1 I.2.1.1 I.2.1.2.1 (Keep.o K1 o) (by decide +kernel) (by decide +kernel)
  have rq1 : RQ D H1 x := rq0.keep I.1 I.2.1.1 (Keep.o K1 o) (by decide +kernel)
  have a9_1 : (fI D H1 10 x 9).toInt = (fI D H 10 x 9).toInt := ko_x (Keep.o K1 o) I.2.1.1 (by decide) (by decide +kernel)
  have a8_1 : (fI D H1 10 x 8).toInt = (fI D H 10 x 8).toInt := ko_x (Keep.o K1 o) I.2.1.1 (by decide) (by decide +kernel)
  have b4_1 : (fI D H1 11 mo 14).toInt = (fI D H 11 mo 14).toInt := ko_m (Keep.o K1 o) I.2.1.2.1 (by decide) (by decide +kernel)
  have b6_1 : (fI D H1 11 mo 6).toInt = (fI D H 11 mo 6).toInt := ko_m (Keep.o K1 o) I.2.1.2.1 (by decide) (by decide +kernel)
  have rp1 : RP6 D H1 x := rp0.keep I.1 I.2.1.1 (Keep.o K1 o) (by decide +kernel)
  have ci1 := ci0.keep I.1 I.2.1.1 K1 (by decide +kernel)
  have mi1 := mi0.keep I.1 I.2.1.2.1 K1 (by decide +kernel)
  obtain ⟨r1, rfl, q1⟩ := q1
  refine lv_pop hx hb dL_law__1243 rfl ?_
  refine lv_aload_n hx hb dL_law__1244 rfl (lv_at hl 2 rfl) ?_
  refine l_E (T := TX12) (As := []) C I1 (c_X12_free l D G mo I1.2.1.2.1) kV_L_238 I1.2.1.2.1 trivial (by decide +kernel) dL_law__1245 hl.1 rfl rfl (by decide) cd_X12_free ⟨Nat.le_of_ble_eq_true rfl, Nat.le_of_ble_eq_true rfl, (by show 450 + 5 * k ≤ 601024; omega), (by show 30000 + 455 * k ≤ 7293034; omega), Nat.le_of_ble_eq_true rfl⟩ (fun v2 H2 L2 I2 K2 q2 => ?_)
  have t2 : tln D H2 x = tln D H1 x := tlW I1.1 I1.2.1.1 K2 (by decide +kernel) (by decide +kernel)
  have m2 : (fI D H2 11 mo 9).toInt = (fI D H1 11 mo 9).toInt := congrArg Int32.toInt (K2.fI I1.2.1.2.1 rfl (by decide) (by decide +kernel))
  have bq2 : BQ D H2 x mo := bq1.keep I1.1 I1.2.1.1 I1.2.1.2.1 (Keep.o K2 o) (by decide +kernel) (by decide +kernel)
  have rq2 : RQ D H2 x := rq1.keep I1.1 I1.2.1.1 (Keep.o K2 o) (by decide +kernel)
  have a9_2 : (fI D H2 10 x 9).toInt = (fI D H1 10 x 9).toInt := ko_x (Keep.o K2 o) I1.2.1.1 (by decide) (by decide +kernel)
  have a8_2 : (fI D H2 10 x 8).toInt = (fI D H1 10 x 8).toInt := ko_x (Keep.o K2 o) I1.2.1.1 (by decide) (by decide +kernel)
  have b4_2 : (fI D H2 11 mo 14).toInt = (fI D H1 11 mo 14).toInt := ko_m (Keep.o K2 o) I1.2.1.2.1 (by decide) (by decide +kernel)
  have b6_2 : (fI D H2 11 mo 6).toInt = (fI D H1 11 mo 6).toInt := ko_m (Keep.o K2 o) I1.2.1.2.1 (by decide) (by decide +kernel)
  have rp2 : RP6 D H2 x := rp1.keep I1.1 I1.2.1.1 (Keep.o K2 o) (by decide +kernel)
  have ci2 := ci1.keep I1.1 I1.2.1.1 K2 (by decide +kernel)
  have mi2 := mi1.keep I1.1 I1.2.1.2.1 K2 (by decide +kernel)
  obtain ⟨r2, rfl, q2⟩ := q2
  refine lv_pop hx hb dL_law__1248 rfl ?_
  refine lv_goto (tgt := 1653) hx hb dL_law__1249 (by decide) ?_
  exact W.widen (by show 450 + 5 * k ≤ 450 + 5 * k + 5; omega) (by show 30000 + 455 * k ≤ 30000 + 455 * k + 455; omega) (Fin _ _ _ _ I2 (⟨by unfold tln at *; omega, bq2, rq2, ⟨⟨V, K, ci2, mi2, pv0, fun h9 => pk0 (by omega)⟩, ⟨by omega, by omega⟩, rp2⟩⟩) (lv_sub hl [0, 1, 2, 3, 4] rfl))

set_option maxRecDepth 100000 in
set_option maxHeartbeats 4000000 in
theorem lc_33 {p : Program} {l : Launch} {e : Env} {s : State} {m : MethodId} {below : List Frame} {meth : Method} {c : Code} {b L : Nat} {xs : Nat → Int32} {D : DD} {G : Nat → Nat} {H : Heap} {locs : List Loc} {ls : Array Slot} {i : Int32} {k x mo o : Nat} {Q : State → Prop} (hl0 : l.stackTraces = false) (C : Cx D G p s m #[.ref b] meth c RL code 7) (hX : va_X b L xs s s.heap) (hbl : b < s.heap.size) (I : Iv D G s.heap H locs x mo o) (tp : tln D H x = (fI D H 11 mo 9).toInt ∧ BQ D H x mo ∧ RQ D H x ∧ VQ D H x mo) (hi : 0 ≤ i.toInt ∧ i.toInt + 6 ≤ L) (hL : L ≤ 3072) (hk : k ≤ 511) (hl : lv_has ls 7 [(0, .ref b), (1, .ref x), (2, .ref mo), (3, .ref o), (4, .int i)])
    (Fin : ∀ G' H' locs' ls', Iv D G' s.heap H' locs' x mo o → tln D H' x = (fI D H' 11 mo 9).toInt ∧ BQ D H' x mo ∧ RQ D H' x ∧ VQ D H' x mo → lv_has ls' 7 [(0, .ref b), (1, .ref x), (2, .ref mo), (3, .ref o), (4, .int i)] → W p l e room_1 s m #[.ref b] below meth c H' locs' (450 + 5 * k + 5) (30000 + 455 * k + 455) Q (F0 m 1653 ls' [])) : W p l e room_1 s m #[.ref b] below meth c H locs (450 + 5 * k) (30000 + 455 * k) Q (F0 m 1252 ls []) := by
  have hx := C.1
  have hb := C.2.1
  have hbA : ¬ s.heap.size ≤ b := by omega
  have tp0 := tp
  obtain ⟨tp, bq0, rq0, vq0⟩ := tp
  obtain ⟨⟨V, K, ci0, mi0, pv0, pk0⟩, ⟨wf0, if0⟩, rp0⟩ := vq0
  refine lv_aload_n hx hb dL_law__1252 rfl (lv_at hl 1 rfl) ?_
  refine callV_P (T := TX11) (As := []) C I.1 (fun q h1 _ => (I.2.2.2.2.1 q h1).2) (c_X11_hidden l D G x I.2.1.1) kV_L_239 I.2.1.1 trivial dL_law__1253 hl.1 rfl rfl (by decide) cd_X11_hidden ⟨Nat.le_of_ble_eq_true rfl, Nat.le_of_ble_eq_true rfl, (by show 450 + 5 * k ≤ 601024; omega), (by show 30000 + 455 * k ≤ 7293034; omega), Nat.le_of_ble_eq_true rfl⟩ (fun v1 q1 => ?_)
  obtain ⟨r1, rfl, q1⟩ := q1
  refine lv_pop hx hb dL_law__1256 rfl ?_
  refine lv_aload_n hx hb dL_law__1257 rfl (lv_at hl 2 rfl) ?_
  refine l_E (T := TX12) (As := []) C I (c_X12_hidden l D G mo I.2.1.2.1) kV_L_242 I.2.1.2.1 trivial (by decide +kernel) dL_law__1258 hl.1 rfl rfl (by decide) cd_X12_hidden ⟨Nat.le_of_ble_eq_true rfl, Nat.le_of_ble_eq_true rfl, (by show 450 + 5 * k ≤ 601024; omega), (by show 30000 + 455 * k ≤ 7293034; omega), Nat.le_of_ble_eq_true rfl⟩ (fun v2 H2 L2 I2 K2 q2 => ?_)
  have t2 : tln D H2 x = tln D H x := tlW I.1 I.2.1.1 K2 (by decide +kernel) (by decide +kernel)
  have m2 : (fI D H2 11 mo 9).toInt = (fI D H 11 mo 9).toInt := congrArg Int32.toInt (K2.fI I.2.1.2.1 rfl (by decide) (by decide +kernel))
  have bq2 : BQ D H2 x mo := bq0.keep I.1 I.2.1.1 I.2.1.2.1 (Keep.o K2 o) (by decide +kernel) (by decide +kernel)
  have rq2 : RQ D H2 x := rq0.keep I.1 I.2.1.1 (Keep.o K2 o) (by decide +kernel)
  have a9_2 : (fI D H2 10 x 9).toInt = (fI D H 10 x 9).toInt := ko_x (Keep.o K2 o) I.2.1.1 (by decide) (by decide +kernel)
  have a8_2 : (fI D H2 10 x 8).toInt = (fI D H 10 x 8).toInt := ko_x (Keep.o K2 o) I.2.1.1 (by decide) (by decide +kernel)
  have b4_2 : (fI D H2 11 mo 14).toInt = (fI D H 11 mo 14).toInt := ko_m (Keep.o K2 o) I.2.1.2.1 (by decide) (by decide +kernel)
  have b6_2 : (fI D H2 11 mo 6).toInt = (fI D H 11 mo 6).toInt := ko_m (Keep.o K2 o) I.2.1.2.1 (by decide) (by decide +kernel)
  have rp2 : RP6 D H2 x := rp0.keep I.1 I.2.1.1 (Keep.o K2 o) (by decide +kernel)
  have ci2 := ci0.keep I.1 I.2.1.1 K2 (by decide +kernel)
  have mi2 := mi0.keep I.1 I.2.1.2.1 K2 (by decide +kernel)
  obtain ⟨r2, rfl, q2⟩ := q2
  refine lv_pop hx hb dL_law__1261 rfl ?_
  refine lv_goto (tgt := 1653) hx hb dL_law__1262 (by decide) ?_
  exact W.widen (by show 450 + 5 * k ≤ 450 + 5 * k + 5; omega) (by show 30000 + 455 * k ≤ 30000 + 455 * k + 455; omega) (Fin _ _ _ _ I2 (⟨by unfold tln at *; omega, bq2, rq2, ⟨⟨V, K, ci2, mi2, pv0, fun h9 => pk0 (by omega)⟩, ⟨by omega, by omega⟩, rp2⟩⟩) (lv_sub hl [0, 1, 2, 3, 4] rfl))

set_option maxRecDepth 100000 in
set_option maxHeartbeats 4000000 in
theorem lc_34 {p : Program} {l : Launch} {e : Env} {s : State} {m : MethodId} {below : List Frame} {meth : Method} {c : Code} {b L : Nat} {xs : Nat → Int32} {D : DD} {G : Nat → Nat} {H : Heap} {locs : List Loc} {ls : Array Slot} {i : Int32} {k x mo o : Nat} {Q : State → Prop} (hl0 : l.stackTraces = false) (C : Cx D G p s m #[.ref b] meth c RL code 7) (hX : va_X b L xs s s.heap) (hbl : b < s.heap.size) (I : Iv D G s.heap H locs x mo o) (tp : tln D H x = (fI D H 11 mo 9).toInt ∧ BQ D H x mo ∧ RQ D H x ∧ VQ D H x mo) (hi : 0 ≤ i.toInt ∧ i.toInt + 6 ≤ L) (hL : L ≤ 3072) (hk : k ≤ 511) (hl : lv_has ls 7 [(0, .ref b), (1, .ref x), (2, .ref mo), (3, .ref o), (4, .int i)])
    (Fin : ∀ G' H' locs' ls', Iv D G' s.heap H' locs' x mo o → tln D H' x = (fI D H' 11 mo 9).toInt ∧ BQ D H' x mo ∧ RQ D H' x ∧ VQ D H' x mo → lv_has ls' 7 [(0, .ref b), (1, .ref x), (2, .ref mo), (3, .ref o), (4, .int i)] → W p l e room_1 s m #[.ref b] below meth c H' locs' (450 + 5 * k + 5) (30000 + 455 * k + 455) Q (F0 m 1653 ls' [])) : W p l e room_1 s m #[.ref b] below meth c H locs (450 + 5 * k) (30000 + 455 * k) Q (F0 m 1265 ls []) := by
  have hx := C.1
  have hb := C.2.1
  have hbA : ¬ s.heap.size ≤ b := by omega
  have tp0 := tp
  obtain ⟨tp, bq0, rq0, vq0⟩ := tp
  obtain ⟨⟨V, K, ci0, mi0, pv0, pk0⟩, ⟨wf0, if0⟩, rp0⟩ := vq0
  refine lv_aload_n hx hb dL_law__1265 rfl (lv_at hl 1 rfl) ?_
  refine l_E (T := TX11) (As := []) C I (c_X11_cheapest l D G x I.2.1.1) kV_L_243 I.2.1.1 trivial (by decide +kernel) dL_law__1266 hl.1 rfl rfl (by decide) cd_X11_cheapest ⟨Nat.le_of_ble_eq_true rfl, Nat.le_of_ble_eq_true rfl, (by show 450 + 5 * k ≤ 601024; omega), (by show 30000 + 455 * k ≤ 7293034; omega), Nat.le_of_ble_eq_true rfl⟩ (fun v1 H1 L1 I1 K1 q1 => ?_)
  have m1 : (fI D H1 11 mo 9).toInt = (fI D H 11 mo 9).toInt := congrArg Int32.toInt (K1.fI I.2.1.2.1 rfl (by decide) (by decide +kernel))
  have t1 : tln D H1 x = tln D H x := tlW I.1 I.2.1.1 K1 (by decide +kernel) (by decide +kernel)
  have bq1 : BQ D H1 x mo := bq0.keep I.1 I.2.1.1 I.2.1.2.1 (Keep.o K1 o) (by decide +kernel) (by decide +kernel)
  have rq1 : RQ D H1 x := rq0.keep I.1 I.2.1.1 (Keep.o K1 o) (by decide +kernel)
  have a9_1 : (fI D H1 10 x 9).toInt = (fI D H 10 x 9).toInt := ko_x (Keep.o K1 o) I.2.1.1 (by decide) (by decide +kernel)
  have a8_1 : (fI D H1 10 x 8).toInt = (fI D H 10 x 8).toInt := ko_x (Keep.o K1 o) I.2.1.1 (by decide) (by decide +kernel)
  have b4_1 : (fI D H1 11 mo 14).toInt = (fI D H 11 mo 14).toInt := ko_m (Keep.o K1 o) I.2.1.2.1 (by decide) (by decide +kernel)
  have b6_1 : (fI D H1 11 mo 6).toInt = (fI D H 11 mo 6).toInt := ko_m (Keep.o K1 o) I.2.1.2.1 (by decide) (by decide +kernel)
  have rp1 : RP6 D H1 x := rp0.keep I.1 I.2.1.1 (Keep.o K1 o) (by decide +kernel)
  have ci1 := ci0.keep I.1 I.2.1.1 K1 (by decide +kernel)
  have mi1 := mi0.keep I.1 I.2.1.2.1 K1 (by decide +kernel)
  obtain ⟨r1, rfl, q1⟩ := q1
  refine lv_pop hx hb dL_law__1269 rfl ?_
  refine lv_aload_n hx hb dL_law__1270 rfl (lv_at hl 2 rfl) ?_
  refine l_E (T := TX12) (As := []) C I1 (c_X12_cheapest l D G mo I1.2.1.2.1) kV_L_246 I1.2.1.2.1 trivial (by decide +kernel) dL_law__1271 hl.1 rfl rfl (by decide) cd_X12_cheapest ⟨Nat.le_of_ble_eq_true rfl, Nat.le_of_ble_eq_true rfl, (by show 450 + 5 * k ≤ 601024; omega), (by show 30000 + 455 * k ≤ 7293034; omega), Nat.le_of_ble_eq_true rfl⟩ (fun v2 H2 L2 I2 K2 q2 => ?_)
  have t2 : tln D H2 x = tln D H1 x := tlW I1.1 I1.2.1.1 K2 (by decide +kernel) (by decide +kernel)
  have m2 : (fI D H2 11 mo 9).toInt = (fI D H1 11 mo 9).toInt := congrArg Int32.toInt (K2.fI I1.2.1.2.1 rfl (by decide) (by decide +kernel))
  have bq2 : BQ D H2 x mo := bq1.keep I1.1 I1.2.1.1 I1.2.1.2.1 (Keep.o K2 o) (by decide +kernel) (by decide +kernel)
  have rq2 : RQ D H2 x := rq1.keep I1.1 I1.2.1.1 (Keep.o K2 o) (by decide +kernel)
  have a9_2 : (fI D H2 10 x 9).toInt = (fI D H1 10 x 9).toInt := ko_x (Keep.o K2 o) I1.2.1.1 (by decide) (by decide +kernel)
  have a8_2 : (fI D H2 10 x 8).toInt = (fI D H1 10 x 8).toInt := ko_x (Keep.o K2 o) I1.2.1.1 (by decide) (by decide +kernel)
  have b4_2 : (fI D H2 11 mo 14).toInt = (fI D H1 11 mo 14).toInt := ko_m (Keep.o K2 o) I1.2.1.2.1 (by decide) (by decide +kernel)
  have b6_2 : (fI D H2 11 mo 6).toInt = (fI D H1 11 mo 6).toInt := ko_m (Keep.o K2 o) I1.2.1.2.1 (by decide) (by decide +kernel)
  have rp2 : RP6 D H2 x := rp1.keep I1.1 I1.2.1.1 (Keep.o K2 o) (by decide +kernel)
  have ci2 := ci1.keep I1.1 I1.2.1.1 K2 (by decide +kernel)
  have mi2 := mi1.keep I1.1 I1.2.1.2.1 K2 (by decide +kernel)
  obtain ⟨r2, rfl, q2⟩ := q2
  refine lv_pop hx hb dL_law__1274 rfl ?_
  refine lv_goto (tgt := 1653) hx hb dL_law__1275 (by decide) ?_
  exact W.widen (by show 450 + 5 * k ≤ 450 + 5 * k + 5; omega) (by show 30000 + 455 * k ≤ 30000 + 455 * k + 455; omega) (Fin _ _ _ _ I2 (⟨by unfold tln at *; omega, bq2, rq2, ⟨⟨V, K, ci2, mi2, pv0, fun h9 => pk0 (by omega)⟩, ⟨by omega, by omega⟩, rp2⟩⟩) (lv_sub hl [0, 1, 2, 3, 4] rfl))

set_option maxRecDepth 100000 in
set_option maxHeartbeats 4000000 in
theorem lc_35 {p : Program} {l : Launch} {e : Env} {s : State} {m : MethodId} {below : List Frame} {meth : Method} {c : Code} {b L : Nat} {xs : Nat → Int32} {D : DD} {G : Nat → Nat} {H : Heap} {locs : List Loc} {ls : Array Slot} {i : Int32} {k x mo o : Nat} {Q : State → Prop} (hl0 : l.stackTraces = false) (C : Cx D G p s m #[.ref b] meth c RL code 7) (hX : va_X b L xs s s.heap) (hbl : b < s.heap.size) (I : Iv D G s.heap H locs x mo o) (tp : tln D H x = (fI D H 11 mo 9).toInt ∧ BQ D H x mo ∧ RQ D H x ∧ VQ D H x mo) (hi : 0 ≤ i.toInt ∧ i.toInt + 6 ≤ L) (hL : L ≤ 3072) (hk : k ≤ 511) (hl : lv_has ls 7 [(0, .ref b), (1, .ref x), (2, .ref mo), (3, .ref o), (4, .int i)])
    (Fin : ∀ G' H' locs' ls', Iv D G' s.heap H' locs' x mo o → tln D H' x = (fI D H' 11 mo 9).toInt ∧ BQ D H' x mo ∧ RQ D H' x ∧ VQ D H' x mo → lv_has ls' 7 [(0, .ref b), (1, .ref x), (2, .ref mo), (3, .ref o), (4, .int i)] → W p l e room_1 s m #[.ref b] below meth c H' locs' (450 + 5 * k + 5) (30000 + 455 * k + 455) Q (F0 m 1653 ls' [])) : W p l e room_1 s m #[.ref b] below meth c H locs (450 + 5 * k) (30000 + 455 * k) Q (F0 m 1278 ls []) := by
  have hx := C.1
  have hb := C.2.1
  have hbA : ¬ s.heap.size ≤ b := by omega
  have tp0 := tp
  obtain ⟨tp, bq0, rq0, vq0⟩ := tp
  obtain ⟨⟨V, K, ci0, mi0, pv0, pk0⟩, ⟨wf0, if0⟩, rp0⟩ := vq0
  refine lv_aload_n hx hb dL_law__1278 rfl (lv_at hl 1 rfl) ?_
  refine lv_aload_n hx hb dL_law__1279 rfl (lv_at hl 0 rfl) ?_
  refine lv_iload hx hb dL_law__1280 (lv_at hl 4 rfl) ?_
  refine lv_iconst (v := 1) hx hb dL_law__1282 (by decide) ?_
  refine lv_iadd hx hb dL_law__1283 ?_
  refine lv_topi (fun v1 ev1 => ?_)
  have kv1 : (1 : Int32).toInt = 1 := by decide
  have fv1 : v1.toInt = i.toInt + 1 := by rw [ev1]; exact i_addc kv1 (by omega) (by omega)
  refine va_sld (A := fun q => s.heap.size ≤ q) hx hb hX hbl hbA I.S (i_vin (by omega) (by omega)) dL_law__1284 ?_
  refine lv_topi (fun v2 ev2 => ?_)
  refine lv_aload_n hx hb dL_law__1285 rfl (lv_at hl 0 rfl) ?_
  refine lv_iload hx hb dL_law__1286 (lv_at hl 4 rfl) ?_
  refine lv_iconst (v := 2) hx hb dL_law__1288 (by decide) ?_
  refine lv_iadd hx hb dL_law__1289 ?_
  refine lv_topi (fun v3 ev3 => ?_)
  have kv3 : (2 : Int32).toInt = 2 := by decide
  have fv3 : v3.toInt = i.toInt + 2 := by rw [ev3]; exact i_addc kv3 (by omega) (by omega)
  refine va_sld (A := fun q => s.heap.size ≤ q) hx hb hX hbl hbA I.S (i_vin (by omega) (by omega)) dL_law__1290 ?_
  refine lv_topi (fun v4 ev4 => ?_)
  refine lv_aload_n hx hb dL_law__1291 rfl (lv_at hl 3 rfl) ?_
  refine l_W (As := [.ref x, .int v2, .int v4, .ref o]) hl0 C I (c_L_least l D G x v2 v4 o I.2.1.1 I.2.1.2.2) kw_247 trivial (by decide +kernel) (by decide +kernel) dL_law__1292 hl.1 cdL_least ⟨Nat.le_of_ble_eq_true rfl, Nat.le_of_ble_eq_true rfl, (by show 450 + 5 * k + 2 ≤ 601024; omega), (by show 30000 + 455 * k + 12 ≤ 7293034; omega), Nat.le_of_ble_eq_true rfl⟩ (fun r5 G5 H5 L5 I5 C m5 t5 K5 => ?_)
  have m5 := congrArg Int32.toInt m5
  have a9_5 : (fI D H5 10 x 9).toInt = (fI D H 10 x 9).toInt := ko_x K5 I.2.1.1 (by decide) (by decide +kernel)
  have a8_5 : (fI D H5 10 x 8).toInt = (fI D H 10 x 8).toInt := ko_x K5 I.2.1.1 (by decide) (by decide +kernel)
  have b4_5 : (fI D H5 11 mo 14).toInt = (fI D H 11 mo 14).toInt := ko_m K5 I.2.1.2.1 (by decide) (by decide +kernel)
  have b6_5 : (fI D H5 11 mo 6).toInt = (fI D H 11 mo 6).toInt := ko_m K5 I.2.1.2.1 (by decide) (by decide +kernel)
  have rp5 : RP6 D H5 x := rp0.keep I.1 I.2.1.1 K5 (by decide +kernel)
  have ci5 := ci0.keepO I.1 I.2.1.1 I.2.1.2.2 I.2.2.1.lt K5
  have mi5 := mi0.keepO I.1 I.2.1.2.1 I.2.1.2.2 I.2.2.1.lt K5
  have bq5 : BQ D H5 x mo := bq0.keep I.1 I.2.1.1 I.2.1.2.1 K5 (by decide +kernel) (by decide +kernel)
  have rq5 : RQ D H5 x := rq0.keep I.1 I.2.1.1 K5 (by decide +kernel)
  have t5 : tln D H5 x = tln D H x := t5
  refine lv_istore (lv' := [(5, .int r5), (0, .ref b), (1, .ref x), (2, .ref mo), (3, .ref o), (4, .int i)]) hx hb dL_law__1295 hl (by decide) rfl (fun ls hl => ?_)
  refine lv_aload_n hx hb dL_law__1297 rfl (lv_at hl 3 rfl) ?_
  refine lv_aload_n hx hb dL_law__1298 rfl (lv_at hl 1 rfl) ?_
  refine lv_iload hx hb dL_law__1299 (lv_at hl 5 rfl) ?_
  refine lv_iconst (v := 1) hx hb dL_law__1301 (by decide) ?_
  refine lv_iadd hx hb dL_law__1302 ?_
  refine lv_topi (fun v6 ev6 => ?_)
  have kv6 : (1 : Int32).toInt = 1 := by decide
  have fv6 : v6.toInt = i.toInt + 1 := by rw [ev6]; exact i_addc kv6 (by omega) (by omega)
  refine va_sld (A := fun q => s.heap.size ≤ q) hx hb hX hbl hbA I5.S (i_vin (by omega) (by omega)) dL_law__1303 ?_
  refine lv_topi (fun v7 ev7 => ?_)
  refine lv_aload_n hx hb dL_law__1304 rfl (lv_at hl 1 rfl) ?_
  refine lv_iload hx hb dL_law__1305 (lv_at hl 5 rfl) ?_
  refine lv_iconst (v := 2) hx hb dL_law__1307 (by decide) ?_
  refine lv_iadd hx hb dL_law__1308 ?_
  refine lv_topi (fun v8 ev8 => ?_)
  have kv8 : (2 : Int32).toInt = 2 := by decide
  have fv8 : v8.toInt = i.toInt + 2 := by rw [ev8]; exact i_addc kv8 (by omega) (by omega)
  refine va_sld (A := fun q => s.heap.size ≤ q) hx hb hX hbl hbA I5.S (i_vin (by omega) (by omega)) dL_law__1309 ?_
  refine lv_topi (fun v9 ev9 => ?_)
  refine l_E (T := TX12) (As := [.int v7, .int v9]) C I5 (c_X12_least l D G5 mo v7 v9 I5.2.1.2.1) kV_L_249 I5.2.1.2.1 trivial (by decide +kernel) dL_law__1310 hl.1 rfl rfl (by decide) cd_X12_least ⟨Nat.le_of_ble_eq_true rfl, Nat.le_of_ble_eq_true rfl, (by show 450 + 5 * k + 2 ≤ 601024; omega), (by show 30000 + 455 * k + 12 ≤ 7293034; omega), Nat.le_of_ble_eq_true rfl⟩ (fun v10 H10 L10 I10 K10 q10 => ?_)
  have t10 : tln D H10 x = tln D H5 x := tlW I5.1 I5.2.1.1 K10 (by decide +kernel) (by decide +kernel)
  have m10 : (fI D H10 11 mo 9).toInt = (fI D H5 11 mo 9).toInt := congrArg Int32.toInt (K10.fI I5.2.1.2.1 rfl (by decide) (by decide +kernel))
  have bq10 : BQ D H10 x mo := bq5.keep I5.1 I5.2.1.1 I5.2.1.2.1 (Keep.o K10 o) (by decide +kernel) (by decide +kernel)
  have rq10 : RQ D H10 x := rq5.keep I5.1 I5.2.1.1 (Keep.o K10 o) (by decide +kernel)
  have a9_10 : (fI D H10 10 x 9).toInt = (fI D H5 10 x 9).toInt := ko_x (Keep.o K10 o) I5.2.1.1 (by decide) (by decide +kernel)
  have a8_10 : (fI D H10 10 x 8).toInt = (fI D H5 10 x 8).toInt := ko_x (Keep.o K10 o) I5.2.1.1 (by decide) (by decide +kernel)
  have b4_10 : (fI D H10 11 mo 14).toInt = (fI D H5 11 mo 14).toInt := ko_m (Keep.o K10 o) I5.2.1.2.1 (by decide) (by decide +kernel)
  have b6_10 : (fI D H10 11 mo 6).toInt = (fI D H5 11 mo 6).toInt := ko_m (Keep.o K10 o) I5.2.1.2.1 (by decide) (by decide +kernel)
  have rp10 : RP6 D H10 x := rp5.keep I5.1 I5.2.1.1 (Keep.o K10 o) (by decide +kernel)
  have ci10 := ci5.keep I5.1 I5.2.1.1 K10 (by decide +kernel)
  have mi10 := mi5.keep I5.1 I5.2.1.2.1 K10 (by decide +kernel)
  obtain ⟨r10, rfl, q10⟩ := q10
  refine lv_istore (lv' := [(6, .int r10), (5, .int r5), (0, .ref b), (1, .ref x), (2, .ref mo), (3, .ref o), (4, .int i)]) hx hb dL_law__1313 hl (by decide) rfl (fun ls hl => ?_)
  refine lv_goto (tgt := 1653) hx hb dL_law__1315 (by decide) ?_
  exact W.widen (by show 450 + 5 * k + 2 ≤ 450 + 5 * k + 5; omega) (by show 30000 + 455 * k + 12 ≤ 30000 + 455 * k + 455; omega) (Fin _ _ _ _ I10 (⟨by unfold tln at *; omega, bq10, rq10, ⟨⟨V, K, ci10, mi10, pv0, fun h9 => pk0 (by omega)⟩, ⟨by omega, by omega⟩, rp10⟩⟩) (lv_sub hl [2, 3, 4, 5, 6] rfl))
