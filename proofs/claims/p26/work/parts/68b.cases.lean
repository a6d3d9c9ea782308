set_option maxRecDepth 100000 in
set_option maxHeartbeats 4000000 in
theorem lc_12 {p : Program} {l : Launch} {e : Env} {s : State} {m : MethodId} {below : List Frame} {meth : Method} {c : Code} {b L : Nat} {xs : Nat → Int32} {D : DD} {G : Nat → Nat} {H : Heap} {locs : List Loc} {ls : Array Slot} {i : Int32} {k x mo o : Nat} {Q : State → Prop} (hl0 : l.stackTraces = false) (C : Cx D G p s m #[.ref b] meth c RL code 7) (hX : va_X b L xs s s.heap) (hbl : b < s.heap.size) (I : Iv D G s.heap H locs x mo o) (tp : tln D H x = (fI D H 11 mo 9).toInt ∧ BQ D H x mo ∧ RQ D H x ∧ VQ D H x mo) (hi : 0 ≤ i.toInt ∧ i.toInt + 6 ≤ L) (hL : L ≤ 3072) (hk : k ≤ 511) (hl : lv_has ls 7 [(0, .ref b), (1, .ref x), (2, .ref mo), (3, .ref o), (4, .int i)])
    (Fin : ∀ G' H' locs' ls', Iv D G' s.heap H' locs' x mo o → tln D H' x = (fI D H' 11 mo 9).toInt ∧ BQ D H' x mo ∧ RQ D H' x ∧ VQ D H' x mo → lv_has ls' 7 [(0, .ref b), (1, .ref x), (2, .ref mo), (3, .ref o), (4, .int i)] → W p l e room_1 s m #[.ref b] below meth c H' locs' (450 + 5 * k + 5) (30000 + 455 * k + 455) Q (F0 m 1653 ls' [])) : W p l e room_1 s m #[.ref b] below meth c H locs (450 + 5 * k) (30000 + 455 * k) Q (F0 m 643 ls []) := by
  have hx := C.1
  have hb := C.2.1
  have hbA : ¬ s.heap.size ≤ b := by omega
  have tp0 := tp
  obtain ⟨tp, bq0, rq0, vq0⟩ := tp
  obtain ⟨⟨V, K, ci0, mi0, pv0, pk0⟩, ⟨wf0, if0⟩, rp0⟩ := vq0
  refine lv_aload_n hx hb dL_law__643 rfl (lv_at hl 1 rfl) ?_
  refine lv_aload_n hx hb dL_law__644 rfl (lv_at hl 0 rfl) ?_
  refine lv_iload hx hb dL_law__645 (lv_at hl 4 rfl) ?_
  refine lv_iconst (v := 1) hx hb dL_law__647 (by decide) ?_
  refine lv_iadd hx hb dL_law__648 ?_
  refine lv_topi (fun v1 ev1 => ?_)
  have kv1 : (1 : Int32).toInt = 1 := by decide
  have fv1 : v1.toInt = i.toInt + 1 := by rw [ev1]; exact i_addc kv1 (by omega) (by omega)
  refine va_sld (A := fun q => s.heap.size ≤ q) hx hb hX hbl hbA I.S (i_vin (by omega) (by omega)) dL_law__649 ?_
  refine lv_topi (fun v2 ev2 => ?_)
  refine lv_aload_n hx hb dL_law__650 rfl (lv_at hl 3 rfl) ?_
  refine l_W (As := [.ref x, .int v2, .ref o]) hl0 C I (c_L_rate l D G x v2 o I.2.1.1 I.2.1.2.2) kw_168 trivial (by decide +kernel) (by decide +kernel) dL_law__651 hl.1 cdL_rate ⟨Nat.le_of_ble_eq_true rfl, Nat.le_of_ble_eq_true rfl, (by show 450 + 5 * k + 1 ≤ 601024; omega), (by show 30000 + 455 * k + 6 ≤ 7293034; omega), Nat.le_of_ble_eq_true rfl⟩ (fun r3 G3 H3 L3 I3 C m3 t3 K3 => ?_)
  have m3 := congrArg Int32.toInt m3
  obtain ⟨t3, rw3⟩ := t3
  have a9_3 : (fI D H3 10 x 9).toInt = (fI D H 10 x 9).toInt := ko_x K3 I.2.1.1 (by decide) (by decide +kernel)
  have a8_3 : (fI D H3 10 x 8).toInt = (fI D H 10 x 8).toInt := ko_x K3 I.2.1.1 (by decide) (by decide +kernel)
  have b4_3 : (fI D H3 11 mo 14).toInt = (fI D H 11 mo 14).toInt := ko_m K3 I.2.1.2.1 (by decide) (by decide +kernel)
  have b6_3 : (fI D H3 11 mo 6).toInt = (fI D H 11 mo 6).toInt := ko_m K3 I.2.1.2.1 (by decide) (by decide +kernel)
  have rp3 : RP6 D H3 x := rp0.keep I.1 I.2.1.1 K3 (by decide +kernel)
  have mi3 := mi0.keepO I.1 I.2.1.2.1 I.2.1.2.2 I.2.2.1.lt K3
  have ci3 := rw3 V K ci0
  have bq3 : BQ D H3 x mo := bq0.keep I.1 I.2.1.1 I.2.1.2.1 K3 (by decide +kernel) (by decide +kernel)
  have rq3 : RQ D H3 x := rq0.keep I.1 I.2.1.1 K3 (by decide +kernel)
  have t3 : tln D H3 x = tln D H x := t3
  refine lv_istore (lv' := [(5, .int r3), (0, .ref b), (1, .ref x), (2, .ref mo), (3, .ref o), (4, .int i)]) hx hb dL_law__654 hl (by decide) rfl (fun ls hl => ?_)
  refine lv_aload_n hx hb dL_law__656 rfl (lv_at hl 3 rfl) ?_
  refine lv_aload_n hx hb dL_law__657 rfl (lv_at hl 1 rfl) ?_
  refine lv_iload hx hb dL_law__658 (lv_at hl 5 rfl) ?_
  refine lv_iconst (v := 1) hx hb dL_law__660 (by decide) ?_
  refine lv_iadd hx hb dL_law__661 ?_
  refine lv_topi (fun v4 ev4 => ?_)
  have kv4 : (1 : Int32).toInt = 1 := by decide
  have fv4 : v4.toInt = i.toInt + 1 := by rw [ev4]; exact i_addc kv4 (by omega) (by omega)
  refine va_sld (A := fun q => s.heap.size ≤ q) hx hb hX hbl hbA I3.S (i_vin (by omega) (by omega)) dL_law__662 ?_
  refine lv_topi (fun v5 ev5 => ?_)
  refine l_E (T := TX12) (As := [.int v5]) C I3 (c_X12_rate l D G3 mo v5 I3.2.1.2.1) kV_L_170 I3.2.1.2.1 trivial (by decide +kernel) dL_law__663 hl.1 rfl rfl (by decide) cd_X12_rate ⟨Nat.le_of_ble_eq_true rfl, Nat.le_of_ble_eq_true rfl, (by show 450 + 5 * k + 1 ≤ 601024; omega), (by show 30000 + 455 * k + 6 ≤ 7293034; omega), Nat.le_of_ble_eq_true rfl⟩ (fun v6 H6 L6 I6 K6 q6 => ?_)
  have t6 : tln D H6 x = tln D H3 x := tlW I3.1 I3.2.1.1 K6 (by decide +kernel) (by decide +kernel)
  have m6 : (fI D H6 11 mo 9).toInt = (fI D H3 11 mo 9).toInt := congrArg Int32.toInt (K6.fI I3.2.1.2.1 rfl (by decide) (by decide +kernel))
  have bq6 : BQ D H6 x mo := bq3.keep I3.1 I3.2.1.1 I3.2.1.2.1 (Keep.o K6 o) (by decide +kernel) (by decide +kernel)
  have rq6 : RQ D H6 x := rq3.keep I3.1 I3.2.1.1 (Keep.o K6 o) (by decide +kernel)
  have a9_6 : (fI D H6 10 x 9).toInt = (fI D H3 10 x 9).toInt := ko_x (Keep.o K6 o) I3.2.1.1 (by decide) (by decide +kernel)
  have a8_6 : (fI D H6 10 x 8).toInt = (fI D H3 10 x 8).toInt := ko_x (Keep.o K6 o) I3.2.1.1 (by decide) (by decide +kernel)
  have b4_6 : (fI D H6 11 mo 14).toInt = (fI D H3 11 mo 14).toInt := ko_m (Keep.o K6 o) I3.2.1.2.1 (by decide) (by decide +kernel)
  have b6_6 : (fI D H6 11 mo 6).toInt = (fI D H3 11 mo 6).toInt := ko_m (Keep.o K6 o) I3.2.1.2.1 (by decide) (by decide +kernel)
  have rp6 : RP6 D H6 x := rp3.keep I3.1 I3.2.1.1 (Keep.o K6 o) (by decide +kernel)
  have ci6 := ci3.keep I3.1 I3.2.1.1 K6 (by decide +kernel)
  obtain ⟨r6, rfl, q6⟩ := q6
  have mi6 := q6.2 V K mi3
  refine lv_istore (lv' := [(6, .int r6), (5, .int r3), (0, .ref b), (1, .ref x), (2, .ref mo), (3, .ref o), (4, .int i)]) hx hb dL_law__666 hl (by decide) rfl (fun ls hl => ?_)
  refine lv_goto (tgt := 1653) hx hb dL_law__668 (by decide) ?_
  exact W.widen (by show 450 + 5 * k + 1 ≤ 450 + 5 * k + 5; omega) (by show 30000 + 455 * k + 6 ≤ 30000 + 455 * k + 455; omega) (Fin _ _ _ _ I6 (⟨by unfold tln at *; omega, bq6, rq6, ⟨⟨V, K, ci6, mi6, pv0, fun h9 => pk0 (by omega)⟩, ⟨by omega, by omega⟩, rp6⟩⟩) (lv_sub hl [2, 3, 4, 5, 6] rfl))

set_option maxRecDepth 100000 in
set_option maxHeartbeats 4000000 in
theorem lc_13 {p : Program} {l : Launch} {e : Env} {s : State} {m : MethodId} {below : List Frame} {meth : Method} {c : Code} {b L : Nat} {xs : Nat → Int32} {D : DD} {G : Nat → Nat} {H : Heap} {locs : List Loc} {ls : Array Slot} {i : Int32} {k x mo o : Nat} {Q : State → Prop} (hl0 : l.stackTraces = false) (C : Cx D G p s m #[.ref b] meth c RL code 7) (hX : va_X b L xs s s.heap) (hbl : b < s.heap.size) (I : Iv D G s.heap H locs x mo o) (tp : tln D H x = (fI D H 11 mo 9).toInt ∧ BQ D H x mo ∧ RQ D H x ∧ VQ D H x mo) (hi : 0 ≤ i.toInt ∧ i.toInt + 6 ≤ L) (hL : L ≤ 3072) (hk : k ≤ 511) (hl : lv_has ls 7 [(0, .ref b), (1, .ref x), (2, .ref mo), (3, .ref o), (4, .int i)])
    (Fin : ∀ G' H' locs' ls', Iv D G' s.heap H' locs' x mo o → tln D H' x = (fI D H' 11 mo 9).toInt ∧ BQ D H' x mo ∧ RQ D H' x ∧ VQ D H' x mo → lv_has ls' 7 [(0, .ref b), (1, .ref x), (2, .ref mo), (3, .ref o), (4, .int i)] → W p l e room_1 s m #[.ref b] below meth c H' locs' (450 + 5 * k + 5) (30000 + 455 * k + 455) Q (F0 m 1653 ls' [])) : W p l e room_1 s m #[.ref b] below meth c H locs (450 + 5 * k) (30000 + 455 * k) Q (F0 m 671 ls []) := by
  have hx := C.1
  have hb := C.2.1
  have hbA : ¬ s.heap.size ≤ b := by omega
  have tp0 := tp
  obtain ⟨tp, bq0, rq0, vq0⟩ := tp
  obtain ⟨⟨V, K, ci0, mi0, pv0, pk0⟩, ⟨wf0, if0⟩, rp0⟩ := vq0
  refine lv_aload_n hx hb dL_law__671 rfl (lv_at hl 1 rfl) ?_
  refine lv_aload_n hx hb dL_law__672 rfl (lv_at hl 0 rfl) ?_
  refine lv_iload hx hb dL_law__673 (lv_at hl 4 rfl) ?_
  refine lv_iconst (v := 1) hx hb dL_law__675 (by decide) ?_
  refine lv_iadd hx hb dL_law__676 ?_
  refine lv_topi (fun v1 ev1 => ?_)
  have kv1 : (1 : Int32).toInt = 1 := by decide
  have fv1 : v1.toInt = i.toInt + 1 := by rw [ev1]; exact i_addc kv1 (by omega) (by omega)
  refine va_sld (A := fun q => s.heap.size ≤ q) hx hb hX hbl hbA I.S (i_vin (by omega) (by omega)) dL_law__677 ?_
  refine lv_topi (fun v2 ev2 => ?_)
  refine lv_aload_n hx hb dL_law__678 rfl (lv_at hl 0 rfl) ?_
  refine lv_iload hx hb dL_law__679 (lv_at hl 4 rfl) ?_
  refine lv_iconst (v := 2) hx hb dL_law__681 (by decide) ?_
  refine lv_iadd hx hb dL_law__682 ?_
  refine lv_topi (fun v3 ev3 => ?_)
  have kv3 : (2 : Int32).toInt = 2 := by decide
  have fv3 : v3.toInt = i.toInt + 2 := by rw [ev3]; exact i_addc kv3 (by omega) (by omega)
  refine va_sld (A := fun q => s.heap.size ≤ q) hx hb hX hbl hbA I.S (i_vin (by omega) (by omega)) dL_law__683 ?_
  refine lv_topi (fun v4 ev4 => ?_)
  refine lv_aload_n hx hb dL_law__684 rfl (lv_at hl 3 rfl) ?_
  refine l_W (As := [.ref x, .int v2, .int v4, .ref o]) hl0 C I (c_L_give l D G x v2 v4 o I.2.1.1 I.2.1.2.2) kw_171 trivial (by decide +kernel) (by decide +kernel) dL_law__685 hl.1 cdL_give ⟨Nat.le_of_ble_eq_true rfl, Nat.le_of_ble_eq_true rfl, (by show 450 + 5 * k + 2 ≤ 601024; omega), (by show 30000 + 455 * k + 12 ≤ 7293034; omega), Nat.le_of_ble_eq_true rfl⟩ (fun r5 G5 H5 L5 I5 C m5 t5 K5 => ?_)
  have m5 := congrArg Int32.toInt m5
  obtain ⟨t5, rw5⟩ := t5
  have a9_5 : (fI D H5 10 x 9).toInt = (fI D H 10 x 9).toInt := ko_x K5 I.2.1.1 (by decide) (by decide +kernel)
  have a8_5 : (fI D H5 10 x 8).toInt = (fI D H 10 x 8).toInt := ko_x K5 I.2.1.1 (by decide) (by decide +kernel)
  have b4_5 : (fI D H5 11 mo 14).toInt = (fI D H 11 mo 14).toInt := ko_m K5 I.2.1.2.1 (by decide) (by decide +kernel)
  have b6_5 : (fI D H5 11 mo 6).toInt = (fI D H 11 mo 6).toInt := ko_m K5 I.2.1.2.1 (by decide) (by decide +kernel)
  have rp5 : RP6 D H5 x := rp0.keep I.1 I.2.1.1 K5 (by decide +kernel)
  have mi5 := mi0.keepO I.1 I.2.1.2.1 I.2.1.2.2 I.2.2.1.lt K5
  have ci5 := rw5 V K ci0
  have bq5 : BQ D H5 x mo := bq0.keep I.1 I.2.1.1 I.2.1.2.1 K5 (by decide +kernel) (by decide +kernel)
  have rq5 : RQ D H5 x := rq0.keep I.1 I.2.1.1 K5 (by decide +kernel)
  have t5 : tln D H5 x = tln D H x := t5
  refine lv_istore (lv' := [(5, .int r5), (0, .ref b), (1, .ref x), (2, .ref mo), (3, .ref o), (4, .int i)]) hx hb dL_law__688 hl (by decide) rfl (fun ls hl => ?_)
  refine lv_aload_n hx hb dL_law__690 rfl (lv_at hl 3 rfl) ?_
  refine lv_aload_n hx hb dL_law__691 rfl (lv_at hl 1 rfl) ?_
  refine lv_iload hx hb dL_law__692 (lv_at hl 5 rfl) ?_
  refine lv_iconst (v := 1) hx hb dL_law__694 (by decide) ?_
  refine lv_iadd hx hb dL_law__695 ?_
  refine lv_topi (fun v6 ev6 => ?_)
  have kv6 : (1 : Int32).toInt = 1 := by decide
  have fv6 : v6.toInt = i.toInt + 1 := by rw [ev6]; exact i_addc kv6 (by omega) (by omega)
  refine va_sld (A := fun q => s.heap.size ≤ q) hx hb hX hbl hbA I5.S (i_vin (by omega) (by omega)) dL_law__696 ?_
  refine lv_topi (fun v7 ev7 => ?_)
  refine lv_aload_n hx hb dL_law__697 rfl (lv_at hl 1 rfl) ?_
  refine lv_iload hx hb dL_law__698 (lv_at hl 5 rfl) ?_
  refine lv_iconst (v := 2) hx hb dL_law__700 (by decide) ?_
  refine lv_iadd hx hb dL_law__701 ?_
  refine lv_topi (fun v8 ev8 => ?_)
  have kv8 : (2 : Int32).toInt = 2 := by decide
  have fv8 : v8.toInt = i.toInt + 2 := by rw [ev8]; exact i_addc kv8 (by omega) (by omega)
  refine va_sld (A := fun q => s.heap.size ≤ q) hx hb hX hbl hbA I5.S (i_vin (by omega) (by omega)) dL_law__702 ?_
  refine lv_topi (fun v9 ev9 => ?_)
  refine l_E (T := TX12) (As := [.int v7, .int v9]) C I5 (c_X12_give l D G5 mo v7 v9 I5.2.1.2.1) kV_L_173 I5.2.1.2.1 trivial (by decide +kernel) dL_law__703 hl.1 rfl rfl (by decide) cd_X12_give ⟨Nat.le_of_ble_eq_true rfl, Nat.le_of_ble_eq_true rfl, (by show 450 + 5 * k + 2 ≤ 601024; omega), (by show 30000 + 455 * k + 12 ≤ 7293034; omega), Nat.le_of_ble_eq_true rfl⟩ (fun v10 H10 L10 I10 K10 q10 => ?_)
  have t10 : tln D H10 x = tln D H5 x := tlW I5.1 I5.2.1.1 K10 (by decide +kernel) (by decide +kernel)
  have m10 : (fI D H10 11 mo 9).toInt = (fI D H5 11 mo 9).toInt := congrArg Int32.toInt (K10.fI I5.2.1.2.1 rfl (by decide) (by decide +kernel))
  have bq10 : BQ D H10 x mo := bq5.keep I5.1 I5.2.1.1 I5.2.1.2.1 (Keep.o K10 o) (by decide +kernel) (by decide +kernel)
  have rq10 : RQ D H10 x := rq5.keep I5.1 I5.2.1.1 (Keep.o K10 o) (by decide +kernel)
  have a9_10 : (fI D H10 10 x 9).toInt = (fI D H5 10 x 9).toInt := ko_x (Keep.o K10 o) I5.2.1.1 (by decide) (by decide +kernel)
  have a8_10 : (fI D H10 10 x 8).toInt = (fI D H5 10 x 8).toInt := ko_x (Keep.o K10 o) I5.2.1.1 (by decide) (by decide +kernel)
  have b4_10 : (fI D H10 11 mo 14).toInt = (fI D H5 11 mo 14).toInt := ko_m (Keep.o K10 o) I5.2.1.2.1 (by decide) (by decide +kernel)
  have b6_10 : (fI D H10 11 mo 6).toInt = (fI D H5 11 mo 6).toInt := ko_m (Keep.o K10 o) I5.2.1.2.1 (by decide) (by decide +kernel)
  have rp10 : RP6 D H10 x := rp5.keep I5.1 I5.2.1.1 (Keep.o K10 o) (by decide +kernel)
  have ci10 := ci5.keep I5.1 I5.2.1.1 K10 (by decide +kernel)
  obtain ⟨r10, rfl, q10⟩ := q10
  have mi10 := q10.2 V K mi5
  refine lv_istore (lv' := [(6, .int r10), (5, .int r5), (0, .ref b), (1, .ref x), (2, .ref mo), (3, .ref o), (4, .int i)]) hx hb dL_law__706 hl (by decide) rfl (fun ls hl => ?_)
  refine lv_goto (tgt := 1653) hx hb dL_law__708 (by decide) ?_
  exact W.widen (by show 450 + 5 * k + 2 ≤ 450 + 5 * k + 5; omega) (by show 30000 + 455 * k + 12 ≤ 30000 + 455 * k + 455; omega) (Fin _ _ _ _ I10 (⟨by unfold tln at *; omega, bq10, rq10, ⟨⟨V, K, ci10, mi10, pv0, fun h9 => pk0 (by omega)⟩, ⟨by omega, by omega⟩, rp10⟩⟩) (lv_sub hl [2, 3, 4, 5, 6] rfl))

set_option maxRecDepth 100000 in
set_option maxHeartbeats 4000000 in
theorem lc_14 {p : Program} {l : Launch} {e : Env} {s : State} {m : MethodId} {below : List Frame} {meth : Method} {c : Code} {b L : Nat} {xs : Nat → Int32} {D : DD} {G : Nat → Nat} {H : Heap} {locs : List Loc} {ls : Array Slot} {i : Int32} {k x mo o : Nat} {Q : State → Prop} (hl0 : l.stackTraces = false) (C : Cx D G p s m #[.ref b] meth c RL code 7) (hX : va_X b L xs s s.heap) (hbl : b < s.heap.size) (I : Iv D G s.heap H locs x mo o) (tp : tln D H x = (fI D H 11 mo 9).toInt ∧ BQ D H x mo ∧ RQ D H x ∧ VQ D H x mo) (hi : 0 ≤ i.toInt ∧ i.toInt + 6 ≤ L) (hL : L ≤ 3072) (hk : k ≤ 511) (hl : lv_has ls 7 [(0, .ref b), (1, .ref x), (2, .ref mo), (3, .ref o), (4, .int i)])
    (Fin : ∀ G' H' locs' ls', Iv D G' s.heap H' locs' x mo o → tln D H' x = (fI D H' 11 mo 9).toInt ∧ BQ D H' x mo ∧ RQ D H' x ∧ VQ D H' x mo → lv_has ls' 7 [(0, .ref b), (1, .ref x), (2, .ref mo), (3, .ref o), (4, .int i)] → W p l e room_1 s m #[.ref b] below meth c H' locs' (450 + 5 * k + 5) (30000 + 455 * k + 455) Q (F0 m 1653 ls' [])) : W p l e room_1 s m #[.ref b] below meth c H locs (450 + 5 * k) (30000 + 455 * k) Q (F0 m 711 ls []) := by
  have hx := C.1
  have hb := C.2.1
  have hbA : ¬ s.heap.size ≤ b := by omega
  have tp0 := tp
  obtain ⟨tp, bq0, rq0, vq0⟩ := tp
  obtain ⟨⟨V, K, ci0, mi0, pv0, pk0⟩, ⟨wf0, if0⟩, rp0⟩ := vq0
  refine lv_aload_n hx hb dL_law__711 rfl (lv_at hl 1 rfl) ?_
  refine lv_aload_n hx hb dL_law__712 rfl (lv_at hl 0 rfl) ?_
  refine lv_iload hx hb dL_law__713 (lv_at hl 4 rfl) ?_
  refine lv_iconst (v := 1) hx hb dL_law__715 (by decide) ?_
  refine lv_iadd hx hb dL_law__716 ?_
  refine lv_topi (fun v1 ev1 => ?_)
  have kv1 : (1 : Int32).toInt = 1 := by decide
  have fv1 : v1.toInt = i.toInt + 1 := by rw [ev1]; exact i_addc kv1 (by omega) (by omega)
  refine va_sld (A := fun q => s.heap.size ≤ q) hx hb hX hbl hbA I.S (i_vin (by omega) (by omega)) dL_law__717 ?_
  refine lv_topi (fun v2 ev2 => ?_)
  refine lv_aload_n hx hb dL_law__718 rfl (lv_at hl 3 rfl) ?_
  refine l_W (As := [.ref x, .int v2, .ref o]) hl0 C I (c_L_quarters l D G x v2 o I.2.1.1 I.2.1.2.2) kw_174 trivial (by decide +kernel) (by decide +kernel) dL_law__719 hl.1 cdL_quarters ⟨Nat.le_of_ble_eq_true rfl, Nat.le_of_ble_eq_true rfl, (by show 450 + 5 * k + 1 ≤ 601024; omega), (by show 30000 + 455 * k + 6 ≤ 7293034; omega), Nat.le_of_ble_eq_true rfl⟩ (fun r3 G3 H3 L3 I3 C m3 t3 K3 => ?_)
  have m3 := congrArg Int32.toInt m3
  obtain ⟨t3, rw3⟩ := t3
  have a9_3 : (fI D H3 10 x 9).toInt = (fI D H 10 x 9).toInt := ko_x K3 I.2.1.1 (by decide) (by decide +kernel)
  have a8_3 : (fI D H3 10 x 8).toInt = (fI D H 10 x 8).toInt := ko_x K3 I.2.1.1 (by decide) (by decide +kernel)
  have b4_3 : (fI D H3 11 mo 14).toInt = (fI D H 11 mo 14).toInt := ko_m K3 I.2.1.2.1 (by decide) (by decide +kernel)
  have b6_3 : (fI D H3 11 mo 6).toInt = (fI D H 11 mo 6).toInt := ko_m K3 I.2.1.2.1 (by decide) (by decide +kernel)
  have rp3 : RP6 D H3 x := rp0.keep I.1 I.2.1.1 K3 (by decide +kernel)
  have mi3 := mi0.keepO I.1 I.2.1.2.1 I.2.1.2.2 I.2.2.1.lt K3
  have ci3 := rw3 V K ci0
  have bq3 : BQ D H3 x mo := bq0.keep I.1 I.2.1.1 I.2.1.2.1 K3 (by decide +kernel) (by decide +kernel)
  have rq3 : RQ D H3 x := rq0.keep I.1 I.2.1.1 K3 (by decide +kernel)
  have t3 : tln D H3 x = tln D H x := t3
  refine lv_istore (lv' := [(5, .int r3), (0, .ref b), (1, .ref x), (2, .ref mo), (3, .ref o), (4, .int i)]) hx hb dL_law__722 hl (by decide) rfl (fun ls hl => ?_)
  refine lv_aload_n hx hb dL_law__724 rfl (lv_at hl 3 rfl) ?_
  refine lv_aload_n hx hb dL_law__725 rfl (lv_at hl 1 rfl) ?_
  refine lv_iload hx hb dL_law__726 (lv_at hl 5 rfl) ?_
  refine lv_iconst (v := 1) hx hb dL_law__728 (by decide) ?_
  refine lv_iadd hx hb dL_law__729 ?_
  refine lv_topi (fun v4 ev4 => ?_)
  have kv4 : (1 : Int32).toInt = 1 := by decide
  have fv4 : v4.toInt = i.toInt + 1 := by rw [ev4]; exact i_addc kv4 (by omega) (by omega)
  refine va_sld (A := fun q => s.heap.size ≤ q) hx hb hX hbl hbA I3.S (i_vin (by omega) (by omega)) dL_law__730 ?_
  refine lv_topi (fun v5 ev5 => ?_)
  refine l_E (T := TX12) (As := [.int v5]) C I3 (c_X12_quarters l D G3 mo v5 I3.2.1.2.1) kV_L_176 I3.2.1.2.1 trivial (by decide +kernel) dL_law__731 hl.1 rfl rfl (by decide) cd_X12_quarters ⟨Nat.le_of_ble_eq_true rfl, Nat.le_of_ble_eq_true rfl, (by show 450 + 5 * k + 1 ≤ 601024; omega), (by show 30000 + 455 * k + 6 ≤ 7293034; omega), Nat.le_of_ble_eq_true rfl⟩ (fun v6 H6 L6 I6 K6 q6 => ?_)
  have t6 : tln D H6 x = tln D H3 x := tlW I3.1 I3.2.1.1 K6 (by decide +kernel) (by decide +kernel)
  have m6 : (fI D H6 11 mo 9).toInt = (fI D H3 11 mo 9).toInt := congrArg Int32.toInt (K6.fI I3.2.1.2.1 rfl (by decide) (by decide +kernel))
  have bq6 : BQ D H6 x mo := bq3.keep I3.1 I3.2.1.1 I3.2.1.2.1 (Keep.o K6 o) (by decide +kernel) (by decide +kernel)
  have rq6 : RQ D H6 x := rq3.keep I3.1 I3.2.1.1 (Keep.o K6 o) (by decide +kernel)
  have a9_6 : (fI D H6 10 x 9).toInt = (fI D H3 10 x 9).toInt := ko_x (Keep.o K6 o) I3.2.1.1 (by decide) (by decide +kernel)
  have a8_6 : (fI D H6 10 x 8).toInt = (fI D H3 10 x 8).toInt := ko_x (Keep.o K6 o) I3.2.1.1 (by decide) (by decide +kernel)
  have b4_6 : (fI D H6 11 mo 14).toInt = (fI D H3 11 mo 14).toInt := ko_m (Keep.o K6 o) I3.2.1.2.1 (by decide) (by decide +kernel)
  have b6_6 : (fI D H6 11 mo 6).toInt = (fI D H3 11 mo 6).toInt := ko_m (Keep.o K6 o) I3.2.1.2.1 (by decide) (by decide +kernel)
  have rp6 : RP6 D H6 x := rp3.keep I3.1 I3.2.1.1 (Keep.o K6 o) (by decide +kernel)
  have ci6 := ci3.keep I3.1 I3.2.1.1 K6 (by decide +kernel)
  obtain ⟨r6, rfl, q6⟩ := q6
  have mi6 := q6.2 V K mi3
  refine lv_istore (lv' := [(6, .int r6), (5, .int r3), (0, .ref b), (1, .ref x), (2, .ref mo), (3, .ref o), (4, .int i)]) hx hb dL_law__734 hl (by decide) rfl (fun ls hl => ?_)
  refine lv_goto (tgt := 1653) hx hb dL_law__736 (by decide) ?_
  exact W.widen (by show 450 + 5 * k + 1 ≤ 450 + 5 * k + 5; omega) (by show 30000 + 455 * k + 6 ≤ 30000 + 455 * k + 455; omega) (Fin _ _ _ _ I6 (⟨by unfold tln at *; omega, bq6, rq6, ⟨⟨V, K, ci6, mi6, pv0, fun h9 => pk0 (by omega)⟩, ⟨by omega, by omega⟩, rp6⟩⟩) (lv_sub hl [2, 3, 4, 5, 6] rfl))

set_option maxRecDepth 100000 in
set_option maxHeartbeats 4000000 in
theorem lc_15 {p : Program} {l : Launch} {e : Env} {s : State} {m : MethodId} {below : List Frame} {meth : Method} {c : Code} {b L : Nat} {xs : Nat → Int32} {D : DD} {G : Nat → Nat} {H : Heap} {locs : List Loc} {ls : Array Slot} {i : Int32} {k x mo o : Nat} {Q : State → Prop} (hl0 : l.stackTraces = false) (C : Cx D G p s m #[.ref b] meth c RL code 7) (hX : va_X b L xs s s.heap) (hbl : b < s.heap.size) (I : Iv D G s.heap H locs x mo o) (tp : tln D H x = (fI D H 11 mo 9).toInt ∧ BQ D H x mo ∧ RQ D H x ∧ VQ D H x mo) (hi : 0 ≤ i.toInt ∧ i.toInt + 6 ≤ L) (hL : L ≤ 3072) (hk : k ≤ 511) (hl : lv_has ls 7 [(0, .ref b), (1, .ref x), (2, .ref mo), (3, .ref o), (4, .int i)])
    (Fin : ∀ G' H' locs' ls', Iv D G' s.heap H' locs' x mo o → tln D H' x = (fI D H' 11 mo 9).toInt ∧ BQ D H' x mo ∧ RQ D H' x ∧ VQ D H' x mo → lv_has ls' 7 [(0, .ref b), (1, .ref x), (2, .ref mo), (3, .ref o), (4, .int i)] → W p l e room_1 s m #[.ref b] below meth c H' locs' (450 + 5 * k + 5) (30000 + 455 * k + 455) Q (F0 m 1653 ls' [])) : W p l e room_1 s m #[.ref b] below meth c H locs (450 + 5 * k) (30000 + 455 * k) Q (F0 m 739 ls []) := by
  have hx := C.1
  have hb := C.2.1
  have hbA : ¬ s.heap.size ≤ b := by omega
  have tp0 := tp
  obtain ⟨tp, bq0, rq0, vq0⟩ := tp
  obtain ⟨⟨V, K, ci0, mi0, pv0, pk0⟩, ⟨wf0, if0⟩, rp0⟩ := vq0
  refine lv_aload_n hx hb dL_law__739 rfl (lv_at hl 1 rfl) ?_
  refine lv_aload_n hx hb dL_law__740 rfl (lv_at hl 0 rfl) ?_
  refine lv_iload hx hb dL_law__741 (lv_at hl 4 rfl) ?_
  refine lv_iconst (v := 1) hx hb dL_law__743 (by decide) ?_
  refine lv_iadd hx hb dL_law__744 ?_
  refine lv_topi (fun v1 ev1 => ?_)
  have kv1 : (1 : Int32).toInt = 1 := by decide
  have fv1 : v1.toInt = i.toInt + 1 := by rw [ev1]; exact i_addc kv1 (by omega) (by omega)
  refine va_sld (A := fun q => s.heap.size ≤ q) hx hb hX hbl hbA I.S (i_vin (by omega) (by omega)) dL_law__745 ?_
  refine lv_topi (fun v2 ev2 => ?_)
  refine lv_aload_n hx hb dL_law__746 rfl (lv_at hl 3 rfl) ?_
  refine l_W (As := [.ref x, .int v2, .ref o]) hl0 C I (c_L_stacks l D G x v2 o I.2.1.1 I.2.1.2.2) kw_177 trivial (by decide +kernel) (by decide +kernel) dL_law__747 hl.1 cdL_stacks ⟨Nat.le_of_ble_eq_true rfl, Nat.le_of_ble_eq_true rfl, (by show 450 + 5 * k + 1 ≤ 601024; omega), (by show 30000 + 455 * k + 6 ≤ 7293034; omega), Nat.le_of_ble_eq_true rfl⟩ (fun r3 G3 H3 L3 I3 C m3 t3 K3 => ?_)
  have m3 := congrArg Int32.toInt m3
  have a9_3 : (fI D H3 10 x 9).toInt = (fI D H 10 x 9).toInt := ko_x K3 I.2.1.1 (by decide) (by decide +kernel)
  have a8_3 : (fI D H3 10 x 8).toInt = (fI D H 10 x 8).toInt := ko_x K3 I.2.1.1 (by decide) (by decide +kernel)
  have b4_3 : (fI D H3 11 mo 14).toInt = (fI D H 11 mo 14).toInt := ko_m K3 I.2.1.2.1 (by decide) (by decide +kernel)
  have b6_3 : (fI D H3 11 mo 6).toInt = (fI D H 11 mo 6).toInt := ko_m K3 I.2.1.2.1 (by decide) (by decide +kernel)
  have rp3 : RP6 D H3 x := rp0.keep I.1 I.2.1.1 K3 (by decide +kernel)
  have ci3 := ci0.keepO I.1 I.2.1.1 I.2.1.2.2 I.2.2.1.lt K3
  have mi3 := mi0.keepO I.1 I.2.1.2.1 I.2.1.2.2 I.2.2.1.lt K3
  have bq3 : BQ D H3 x mo := bq0.keep I.1 I.2.1.1 I.2.1.2.1 K3 (by decide +kernel) (by decide +kernel)
  have rq3 : RQ D H3 x := rq0.keep I.1 I.2.1.1 K3 (by decide +kernel)
  have t3 : tln D H3 x = tln D H x := t3
  refine lv_istore (lv' := [(5, .int r3), (0, .ref b), (1, .ref x), (2, .ref mo), (3, .ref o), (4, .int i)]) hx hb dL_law__750 hl (by decide) rfl (fun ls hl => ?_)
  refine lv_aload_n hx hb dL_law__752 rfl (lv_at hl 3 rfl) ?_
  refine lv_aload_n hx hb dL_law__753 rfl (lv_at hl 1 rfl) ?_
  refine lv_iload hx hb dL_law__754 (lv_at hl 5 rfl) ?_
  refine lv_iconst (v := 1) hx hb dL_law__756 (by decide) ?_
  refine lv_iadd hx hb dL_law__757 ?_
  refine lv_topi (fun v4 ev4 => ?_)
  have kv4 : (1 : Int32).toInt = 1 := by decide
  have fv4 : v4.toInt = i.toInt + 1 := by rw [ev4]; exact i_addc kv4 (by omega) (by omega)
  refine va_sld (A := fun q => s.heap.size ≤ q) hx hb hX hbl hbA I3.S (i_vin (by omega) (by omega)) dL_law__758 ?_
  refine lv_topi (fun v5 ev5 => ?_)
  refine l_E (T := TX12) (As := [.int v5]) C I3 (c_X12_stacks l D G3 mo v5 I3.2.1.2.1) kV_L_179 I3.2.1.2.1 trivial (by decide +kernel) dL_law__759 hl.1 rfl rfl (by decide) cd_X12_stacks ⟨Nat.le_of_ble_eq_true rfl, Nat.le_of_ble_eq_true rfl, (by show 450 + 5 * k + 1 ≤ 601024; omega), (by show 30000 + 455 * k + 6 ≤ 7293034; omega), Nat.le_of_ble_eq_true rfl⟩ (fun v6 H6 L6 I6 K6 q6 => ?_)
  have t6 : tln D H6 x = tln D H3 x := tlW I3.1 I3.2.1.1 K6 (by decide +kernel) (by decide +kernel)
  have m6 : (fI D H6 11 mo 9).toInt = (fI D H3 11 mo 9).toInt := congrArg Int32.toInt (K6.fI I3.2.1.2.1 rfl (by decide) (by decide +kernel))
  have bq6 : BQ D H6 x mo := bq3.keep I3.1 I3.2.1.1 I3.2.1.2.1 (Keep.o K6 o) (by decide +kernel) (by decide +kernel)
  have rq6 : RQ D H6 x := rq3.keep I3.1 I3.2.1.1 (Keep.o K6 o) (by decide +kernel)
  have a9_6 : (fI D H6 10 x 9).toInt = (fI D H3 10 x 9).toInt := ko_x (Keep.o K6 o) I3.2.1.1 (by decide) (by decide +kernel)
  have a8_6 : (fI D H6 10 x 8).toInt = (fI D H3 10 x 8).toInt := ko_x (Keep.o K6 o) I3.2.1.1 (by decide) (by decide +kernel)
  have b4_6 : (fI D H6 11 mo 14).toInt = (fI D H3 11 mo 14).toInt := ko_m (Keep.o K6 o) I3.2.1.2.1 (by decide) (by decide +kernel)
  have b6_6 : (fI D H6 11 mo 6).toInt = (fI D H3 11 mo 6).toInt := ko_m (Keep.o K6 o) I3.2.1.2.1 (by decide) (by decide +kernel)
  have rp6 : RP6 D H6 x := rp3.keep I3.1 I3.2.1.1 (Keep.o K6 o) (by decide +kernel)
  have ci6 := ci3.keep I3.1 I3.2.1.1 K6 (by decide +kernel)
  have mi6 := mi3.keep I3.1 I3.2.1.2.1 K6 (by decide +kernel)
  obtain ⟨r6, rfl, q6⟩ := q6
  refine lv_istore (lv' := [(6, .int r6), (5, .int r3), (0, .ref b), (1, .ref x), (2, .ref mo), (3, .ref o), (4, .int i)]) hx hb dL_law__762 hl (by decide) rfl (fun ls hl => ?_)
  refine lv_goto (tgt := 1653) hx hb dL_law__764 (by decide) ?_
  exact W.widen (by show 450 + 5 * k + 1 ≤ 450 + 5 * k + 5; omega) (by show 30000 + 455 * k + 6 ≤ 30000 + 455 * k + 455; omega) (Fin _ _ _ _ I6 (⟨by unfold tln at *; omega, bq6, rq6, ⟨⟨V, K, ci6, mi6, pv0, fun h9 => pk0 (by omega)⟩, ⟨by omega, by omega⟩, rp6⟩⟩) (lv_sub hl [2, 3, 4, 5, 6] rfl))

set_option maxRecDepth 100000 in
set_option maxHeartbeats 4000000 in
theorem lc_16 {p : Program} {l : Launch} {e : Env} {s : State} {m : MethodId} {below : List Frame} {meth : Method} {c : Code} {b L : Nat} {xs : Nat → Int32} {D : DD} {G : Nat → Nat} {H : Heap} {locs : List Loc} {ls : Array Slot} {i : Int32} {k x mo o : Nat} {Q : State → Prop} (hl0 : l.stackTraces = false) (C : Cx D G p s m #[.ref b] meth c RL code 7) (hX : va_X b L xs s s.heap) (hbl : b < s.heap.size) (I : Iv D G s.heap H locs x mo o) (tp : tln D H x = (fI D H 11 mo 9).toInt ∧ BQ D H x mo ∧ RQ D H x ∧ VQ D H x mo) (hi : 0 ≤ i.toInt ∧ i.toInt + 6 ≤ L) (hL : L ≤ 3072) (hk : k ≤ 511) (hl : lv_has ls 7 [(0, .ref b), (1, .ref x), (2, .ref mo), (3, .ref o), (4, .int i)])
    (Fin : ∀ G' H' locs' ls', Iv D G' s.heap H' locs' x mo o → tln D H' x = (fI D H' 11 mo 9).toInt ∧ BQ D H' x mo ∧ RQ D H' x ∧ VQ D H' x mo → lv_has ls' 7 [(0, .ref b), (1, .ref x), (2, .ref mo), (3, .ref o), (4, .int i)] → W p l e room_1 s m #[.ref b] below meth c H' locs' (450 + 5 * k + 5) (30000 + 455 * k + 455) Q (F0 m 1653 ls' [])) : W p l e room_1 s m #[.ref b] below meth c H locs (450 + 5 * k) (30000 + 455 * k) Q (F0 m 767 ls []) := by
  have hx := C.1
  have hb := C.2.1
  have hbA : ¬ s.heap.size ≤ b := by omega
  have tp0 := tp
  obtain ⟨tp, bq0, rq0, vq0⟩ := tp
  obtain ⟨⟨V, K, ci0, mi0, pv0, pk0⟩, ⟨wf0, if0⟩, rp0⟩ := vq0
  refine lv_aload_n hx hb dL_law__767 rfl (lv_at hl 1 rfl) ?_
  refine callV_P (T := TX11) (As := []) C I.1 (fun q h1 _ => (I.2.2.2.2.1 q h1).2) (c_X11_towers l D G x I.2.1.1) kV_L_180 I.2.1.1 trivial dL_law__768 hl.1 rfl rfl (by decide) cd_X11_towers ⟨Nat.le_of_ble_eq_true rfl, Nat.le_of_ble_eq_true rfl, (by show 450 + 5 * k ≤ 601024; omega), (by show 30000 + 455 * k ≤ 7293034; omega), Nat.le_of_ble_eq_true rfl⟩ (fun v1 q1 => ?_)
  obtain ⟨r1, rfl, q1⟩ := q1
  refine lv_pop hx hb dL_law__771 rfl ?_
  refine lv_aload_n hx hb dL_law__772 rfl (lv_at hl 2 rfl) ?_
  refine l_E (T := TX12) (As := []) C I (c_X12_towers l D G mo I.2.1.2.1) kV_L_183 I.2.1.2.1 trivial (by decide +kernel) dL_law__773 hl.1 rfl rfl (by decide) cd_X12_towers ⟨Nat.le_of_ble_eq_true rfl, Nat.le_of_ble_eq_true rfl, (by show 450 + 5 * k ≤ 601024; omega), (by show 30000 + 455 * k ≤ 7293034; omega), Nat.le_of_ble_eq_true rfl⟩ (fun v2 H2 L2 I2 K2 q2 => ?_)
  have t2 : tln D H2 x = tln D H x := tlW I.1 I.2.1.1 K2 (by decide +kernel) (by decide +kernel)
  have m2 : (fI D H2 11 mo 9).toInt = (fI D H 11 mo 9).toInt := congrArg Int32.toInt (K2.fI I.2.1.2.1 rfl (by decide) (by decide +kernel))
  have bq2 : BQ D H2 x mo := bq0.keep I.1 I.2.1.1 I.2.1.2.1 (Keep.o K2 o) (by decide +kernel) (by decide +kernel)
  have rq2 : RQ D H2 x := rq0.keep I.1 I.2.1.1 (Keep.o K2 o) (by decide +kernel)
  have a9_2 : (fI D H2 10 x 9).toInt = (fI D H 10 x 9).toInt := ko_x (Keep.o K2 o) I.2.1.1 (by decide) (by decide +kernel)
  have a8_2 : (fI D H2 10 x 8).toInt = (fI D H 10 x 8).toInt := ko_x (Keep.o K2 o) I.2.1.1 (by decide) (by decide +kernel)
  have b4_2 : (fI D H2 11 mo 14).toInt = (fI D H 11 mo 14).toInt := ko_m (Keep.o K2 o) I.2.1.2.1 (by decide) (by decide +kernel)
  have b6_2 : (fI D H2 11 mo 6).toInt = (fI D H 11 mo 6).toInt := ko_m (Keep.o K2 o) I.2.1.2.1 (by decide) (by decide +kernel)
  have rp2 : RP6 D H2 x := rp0.keep I.1 I.2.1.1 (Keep.o K2 o) (by decide +kernel)
  have ci2 := ci0.keep I.1 I.2.1.1 K2 (by decide +kernel)
  have mi2 := mi0.keep I.1 I.2.1.2.1 K2 (by decide +kernel)
  obtain ⟨r2, rfl, q2⟩ := q2
  refine lv_pop hx hb dL_law__776 rfl ?_
  refine lv_goto (tgt := 1653) hx hb dL_law__777 (by decide) ?_
  exact W.widen (by show 450 + 5 * k ≤ 450 + 5 * k + 5; omega) (by show 30000 + 455 * k ≤ 30000 + 455 * k + 455; omega) (Fin _ _ _ _ I2 (⟨by unfold tln at *; omega, bq2, rq2, ⟨⟨V, K, ci2, mi2, pv0, fun h9 => pk0 (by omega)⟩, ⟨by omega, by omega⟩, rp2⟩⟩) (lv_sub hl [0, 1, 2, 3, 4] rfl))

set_option maxRecDepth 100000 in
set_option maxHeartbeats 4000000 in
theorem lc_17 {p : Program} {l : Launch} {e : Env} {s : State} {m : MethodId} {below : List Frame} {meth : Method} {c : Code} {b L : Nat} {xs : Nat → Int32} {D : DD} {G : Nat → Nat} {H : Heap} {locs : List Loc} {ls : Array Slot} {i : Int32} {k x mo o : Nat} {Q : State → Prop} (hl0 : l.stackTraces = false) (C : Cx D G p s m #[.ref b] meth c RL code 7) (hX : va_X b L xs s s.heap) (hbl : b < s.heap.size) (I : Iv D G s.heap H locs x mo o) (tp : tln D H x = (fI D H 11 mo 9).toInt ∧ BQ D H x mo ∧ RQ D H x ∧ VQ D H x mo) (hi : 0 ≤ i.toInt ∧ i.toInt + 6 ≤ L) (hL : L ≤ 3072) (hk : k ≤ 511) (hl : lv_has ls 7 [(0, .ref b), (1, .ref x), (2, .ref mo), (3, .ref o), (4, .int i)])
    (Fin : ∀ G' H' locs' ls', Iv D G' s.heap H' locs' x mo o → tln D H' x = (fI D H' 11 mo 9).toInt ∧ BQ D H' x mo ∧ RQ D H' x ∧ VQ D H' x mo → lv_has ls' 7 [(0, .ref b), (1, .ref x), (2, .ref mo), (3, .ref o), (4, .int i)] → W p l e room_1 s m #[.ref b] below meth c H' locs' (450 + 5 * k + 5) (30000 + 455 * k + 455) Q (F0 m 1653 ls' [])) : W p l e room_1 s m #[.ref b] below meth c H locs (450 + 5 * k) (30000 + 455 * k) Q (F0 m 780 ls []) := by
  have hx := C.1
  have hb := C.2.1
  have hbA : ¬ s.heap.size ≤ b := by omega
  have tp0 := tp
  obtain ⟨tp, bq0, rq0, vq0⟩ := tp
  obtain ⟨⟨V, K, ci0, mi0, pv0, pk0⟩, ⟨wf0, if0⟩, rp0⟩ := vq0
  refine lv_aload_n hx hb dL_law__780 rfl (lv_at hl 1 rfl) ?_
  refine lv_aload_n hx hb dL_law__781 rfl (lv_at hl 0 rfl) ?_
  refine lv_iload hx hb dL_law__782 (lv_at hl 4 rfl) ?_
  refine lv_iconst (v := 1) hx hb dL_law__784 (by decide) ?_
  refine lv_iadd hx hb dL_law__785 ?_
  refine lv_topi (fun v1 ev1 => ?_)
  have kv1 : (1 : Int32).toInt = 1 := by decide
  have fv1 : v1.toInt = i.toInt + 1 := by rw [ev1]; exact i_addc kv1 (by omega) (by omega)
  refine va_sld (A := fun q => s.heap.size ≤ q) hx hb hX hbl hbA I.S (i_vin (by omega) (by omega)) dL_law__786 ?_
  refine lv_topi (fun v2 ev2 => ?_)
  refine lv_aload_n hx hb dL_law__787 rfl (lv_at hl 0 rfl) ?_
  refine lv_iload hx hb dL_law__788 (lv_at hl 4 rfl) ?_
  refine lv_iconst (v := 2) hx hb dL_law__790 (by decide) ?_
  refine lv_iadd hx hb dL_law__791 ?_
  refine lv_topi (fun v3 ev3 => ?_)
  have kv3 : (2 : Int32).toInt = 2 := by decide
  have fv3 : v3.toInt = i.toInt + 2 := by rw [ev3]; exact i_addc kv3 (by omega) (by omega)
  refine va_sld (A := fun q => s.heap.size ≤ q) hx hb hX hbl hbA I.S (i_vin (by omega) (by omega)) dL_law__792 ?_
  refine lv_topi (fun v4 ev4 => ?_)
  refine lv_if_eq (tgt := 800) hx hb dL_law__793 (by decide) (fun c9 => ?_) (fun c9 => ?_)
  · skip
    refine lv_iconst (v := 0) hx hb dL_law__800 (by decide) ?_
    refine lv_aload_n hx hb dL_law__801 rfl (lv_at hl 3 rfl) ?_
    have k0_5 : (0 : Int32).toInt = 0 := by decide
    refine l_W (As := [.ref x, .int v2, .int (0 : Int32), .ref o]) hl0 C I (c_L_plan l D G x v2 (0 : Int32) o I.2.1.1 (by omega) I.2.1.2.2) kw_184 trivial (by decide +kernel) (by decide +kernel) dL_law__802 hl.1 cdL_plan ⟨Nat.le_of_ble_eq_true rfl, Nat.le_of_ble_eq_true rfl, (by show 450 + 5 * k + 1 ≤ 601024; omega), (by show 30000 + 455 * k + 6 ≤ 7293034; omega), Nat.le_of_ble_eq_true rfl⟩ (fun r5 G5 H5 L5 I5 C m5 t5 K5 => ?_)
    have m5 := congrArg Int32.toInt m5
    have a9_5 : (fI D H5 10 x 9).toInt = (fI D H 10 x 9).toInt := ko_x K5 I.2.1.1 (by decide) (by decide +kernel)
    have a8_5 : (fI D H5 10 x 8).toInt = (fI D H 10 x 8).toInt := ko_x K5 I.2.1.1 (by decide) (by decide +kernel)
    have b4_5 : (fI D H5 11 mo 14).toInt = (fI D H 11 mo 14).toInt := ko_m K5 I.2.1.2.1 (by decide) (by decide +kernel)
    have b6_5 : (fI D H5 11 mo 6).toInt = (fI D H 11 mo 6).toInt := ko_m K5 I.2.1.2.1 (by decide) (by decide +kernel)
    have rp5 : RP6 D H5 x := rp0.keep I.1 I.2.1.1 K5 (by decide +kernel)
    have ci5 := ci0.keepO I.1 I.2.1.1 I.2.1.2.2 I.2.2.1.lt K5
    have mi5 := mi0.keepO I.1 I.2.1.2.1 I.2.1.2.2 I.2.2.1.lt K5
    have bq5 : BQ D H5 x mo := bq0.keep I.1 I.2.1.1 I.2.1.2.1 K5 (by decide +kernel) (by decide +kernel)
    have rq5 : RQ D H5 x := rq0.keep I.1 I.2.1.1 K5 (by decide +kernel)
    have t5 : tln D H5 x = tln D H x := t5
    refine lv_istore (lv' := [(5, .int r5), (0, .ref b), (1, .ref x), (2, .ref mo), (3, .ref o), (4, .int i)]) hx hb dL_law__805 hl (by decide) rfl (fun ls hl => ?_)
    refine lv_aload_n hx hb dL_law__807 rfl (lv_at hl 3 rfl) ?_
    refine lv_aload_n hx hb dL_law__808 rfl (lv_at hl 1 rfl) ?_
    refine lv_iload hx hb dL_law__809 (lv_at hl 5 rfl) ?_
    refine lv_iconst (v := 1) hx hb dL_law__811 (by decide) ?_
    refine lv_iadd hx hb dL_law__812 ?_
    refine lv_topi (fun v6 ev6 => ?_)
    have kv6 : (1 : Int32).toInt = 1 := by decide
    have fv6 : v6.toInt = i.toInt + 1 := by rw [ev6]; exact i_addc kv6 (by omega) (by omega)
    refine va_sld (A := fun q => s.heap.size ≤ q) hx hb hX hbl hbA I5.S (i_vin (by omega) (by omega)) dL_law__813 ?_
    refine lv_topi (fun v7 ev7 => ?_)
    refine lv_aload_n hx hb dL_law__814 rfl (lv_at hl 1 rfl) ?_
    refine lv_iload hx hb dL_law__815 (lv_at hl 5 rfl) ?_
    refine lv_iconst (v := 2) hx hb dL_law__817 (by decide) ?_
    refine lv_iadd hx hb dL_law__818 ?_
    refine lv_topi (fun v8 ev8 => ?_)
    have kv8 : (2 : Int32).toInt = 2 := by decide
    have fv8 : v8.toInt = i.toInt + 2 := by rw [ev8]; exact i_addc kv8 (by omega) (by omega)
    refine va_sld (A := fun q => s.heap.size ≤ q) hx hb hX hbl hbA I5.S (i_vin (by omega) (by omega)) dL_law__819 ?_
    refine lv_topi (fun v9 ev9 => ?_)
    refine lv_if_eq (tgt := 827) hx hb dL_law__820 (by decide) (fun c9 => ?_) (fun c9 => ?_)
    · skip
      refine lv_iconst (v := 0) hx hb dL_law__827 (by decide) ?_
      have k0_10 : (0 : Int32).toInt = 0 := by decide
      refine l_E (T := TX12) (As := [.int v7, .int (0 : Int32)]) C I5 (c_X12_plan l D G5 mo v7 (0 : Int32) I5.2.1.2.1 (by omega)) kV_L_186 I5.2.1.2.1 trivial (by decide +kernel) dL_law__828 hl.1 rfl rfl (by decide) cd_X12_plan ⟨Nat.le_of_ble_eq_true rfl, Nat.le_of_ble_eq_true rfl, (by show 450 + 5 * k + 1 ≤ 601024; omega), (by show 30000 + 455 * k + 6 ≤ 7293034; omega), Nat.le_of_ble_eq_true rfl⟩ (fun v10 H10 L10 I10 K10 q10 => ?_)
      have t10 : tln D H10 x = tln D H5 x := tlW I5.1 I5.2.1.1 K10 (by decide +kernel) (by decide +kernel)
      have m10 : (fI D H10 11 mo 9).toInt = (fI D H5 11 mo 9).toInt := congrArg Int32.toInt (K10.fI I5.2.1.2.1 rfl (by decide) (by decide +kernel))
      have bq10 : BQ D H10 x mo := bq5.keep I5.1 I5.2.1.1 I5.2.1.2.1 (Keep.o K10 o) (by decide +kernel) (by decide +kernel)
      have rq10 : RQ D H10 x := rq5.keep I5.1 I5.2.1.1 (Keep.o K10 o) (by decide +kernel)
      have a9_10 : (fI D H10 10 x 9).toInt = (fI D H5 10 x 9).toInt := ko_x (Keep.o K10 o) I5.2.1.1 (by decide) (by decide +kernel)
      have a8_10 : (fI D H10 10 x 8).toInt = (fI D H5 10 x 8).toInt := ko_x (Keep.o K10 o) I5.2.1.1 (by decide) (by decide +kernel)
      have b4_10 : (fI D H10 11 mo 14).toInt = (fI D H5 11 mo 14).toInt := ko_m (Keep.o K10 o) I5.2.1.2.1 (by decide) (by decide +kernel)
      have b6_10 : (fI D H10 11 mo 6).toInt = (fI D H5 11 mo 6).toInt := ko_m (Keep.o K10 o) I5.2.1.2.1 (by decide) (by decide +kernel)
      have rp10 : RP6 D H10 x := rp5.keep I5.1 I5.2.1.1 (Keep.o K10 o) (by decide +kernel)
      have ci10 := ci5.keep I5.1 I5.2.1.1 K10 (by decide +kernel)
      have mi10 := mi5.keep I5.1 I5.2.1.2.1 K10 (by decide +kernel)
      obtain ⟨r10, rfl, q10⟩ := q10
      refine lv_istore (lv' := [(6, .int r10), (5, .int r5), (0, .ref b), (1, .ref x), (2, .ref mo), (3, .ref o), (4, .int i)]) hx hb dL_law__831 hl (by decide) rfl (fun ls hl => ?_)
      refine lv_goto (tgt := 1653) hx hb dL_law__833 (by decide) ?_
      exact W.widen (by show 450 + 5 * k + 1 ≤ 450 + 5 * k + 5; omega) (by show 30000 + 455 * k + 6 ≤ 30000 + 455 * k + 455; omega) (Fin _ _ _ _ I10 (⟨by unfold tln at *; omega, bq10, rq10, ⟨⟨V, K, ci10, mi10, pv0, fun h9 => pk0 (by omega)⟩, ⟨by omega, by omega⟩, rp10⟩⟩) (lv_sub hl [2, 3, 4, 5, 6] rfl))
    · skip
      refine lv_iconst (v := 1) hx hb dL_law__823 (by decide) ?_
      refine lv_goto (tgt := 828) hx hb dL_law__824 (by decide) ?_
      have k1_11 : (1 : Int32).toInt = 1 := by decide
      refine l_E (T := TX12) (As := [.int v7, .int (1 : Int32)]) C I5 (c_X12_plan l D G5 mo v7 (1 : Int32) I5.2.1.2.1 (by omega)) kV_L_186 I5.2.1.2.1 trivial (by decide +kernel) dL_law__828 hl.1 rfl rfl (by decide) cd_X12_plan ⟨Nat.le_of_ble_eq_true rfl, Nat.le_of_ble_eq_true rfl, (by show 450 + 5 * k + 1 ≤ 601024; omega), (by show 30000 + 455 * k + 6 ≤ 7293034; omega), Nat.le_of_ble_eq_true rfl⟩ (fun v11 H11 L11 I11 K11 q11 => ?_)
      have t11 : tln D H11 x = tln D H5 x := tlW I5.1 I5.2.1.1 K11 (by decide +kernel) (by decide +kernel)
      have m11 : (fI D H11 11 mo 9).toInt = (fI D H5 11 mo 9).toInt := congrArg Int32.toInt (K11.fI I5.2.1.2.1 rfl (by decide) (by decide +kernel))
      have bq11 : BQ D H11 x mo := bq5.keep I5.1 I5.2.1.1 I5.2.1.2.1 (Keep.o K11 o) (by decide +kernel) (by decide +kernel)
      have rq11 : RQ D H11 x := rq5.keep I5.1 I5.2.1.1 (Keep.o K11 o) (by decide +kernel)
      have a9_11 : (fI D H11 10 x 9).toInt = (fI D H5 10 x 9).toInt := ko_x (Keep.o K11 o) I5.2.1.1 (by decide) (by decide +kernel)
      have a8_11 : (fI D H11 10 x 8).toInt = (fI D H5 10 x 8).toInt := ko_x (Keep.o K11 o) I5.2.1.1 (by decide) (by decide +kernel)
      have b4_11 : (fI D H11 11 mo 14).toInt = (fI D H5 11 mo 14).toInt := ko_m (Keep.o K11 o) I5.2.1.2.1 (by decide) (by decide +kernel)
      have b6_11 : (fI D H11 11 mo 6).toInt = (fI D H5 11 mo 6).toInt := ko_m (Keep.o K11 o) I5.2.1.2.1 (by decide) (by decide +kernel)
      have rp11 : RP6 D H11 x := rp5.keep I5.1 I5.2.1.1 (Keep.o K11 o) (by decide +kernel)
      have ci11 := ci5.keep I5.1 I5.2.1.1 K11 (by decide +kernel)
      have mi11 := mi5.keep I5.1 I5.2.1.2.1 K11 (by decide +kernel)
      obtain ⟨r11, rfl, q11⟩ := q11
      refine lv_istore (lv' := [(6, .int r11), (5, .int r5), (0, .ref b), (1, .ref x), (2, .ref mo), (3, .ref o), (4, .int i)]) hx hb dL_law__831 hl (by decide) rfl (fun ls hl => ?_)
      refine lv_goto (tgt := 1653) hx hb dL_law__833 (by decide) ?_
      exact W.widen (by show 450 + 5 * k + 1 ≤ 450 + 5 * k + 5; omega) (by show 30000 + 455 * k + 6 ≤ 30000 + 455 * k + 455; omega) (Fin _ _ _ _ I11 (⟨by unfold tln at *; omega, bq11, rq11, ⟨⟨V, K, ci11, mi11, pv0, fun h9 => pk0 (by omega)⟩, ⟨by omega, by omega⟩, rp11⟩⟩) (lv_sub hl [2, 3, 4, 5, 6] rfl))
  · skip
    refine lv_iconst (v := 1) hx hb dL_law__796 (by decide) ?_
    refine lv_goto (tgt := 801) hx hb dL_law__797 (by decide) ?_
    refine lv_aload_n hx hb dL_law__801 rfl (lv_at hl 3 rfl) ?_
    have k1_12 : (1 : Int32).toInt = 1 := by decide
    refine l_W (As := [.ref x, .int v2, .int (1 : Int32), .ref o]) hl0 C I (c_L_plan l D G x v2 (1 : Int32) o I.2.1.1 (by omega) I.2.1.2.2) kw_184 trivial (by decide +kernel) (by decide +kernel) dL_law__802 hl.1 cdL_plan ⟨Nat.le_of_ble_eq_true rfl, Nat.le_of_ble_eq_true rfl, (by show 450 + 5 * k + 1 ≤ 601024; omega), (by show 30000 + 455 * k + 6 ≤ 7293034; omega), Nat.le_of_ble_eq_true rfl⟩ (fun r12 G12 H12 L12 I12 C m12 t12 K12 => ?_)
    have m12 := congrArg Int32.toInt m12
    have a9_12 : (fI D H12 10 x 9).toInt = (fI D H 10 x 9).toInt := ko_x K12 I.2.1.1 (by decide) (by decide +kernel)
    have a8_12 : (fI D H12 10 x 8).toInt = (fI D H 10 x 8).toInt := ko_x K12 I.2.1.1 (by decide) (by decide +kernel)
    have b4_12 : (fI D H12 11 mo 14).toInt = (fI D H 11 mo 14).toInt := ko_m K12 I.2.1.2.1 (by decide) (by decide +kernel)
    have b6_12 : (fI D H12 11 mo 6).toInt = (fI D H 11 mo 6).toInt := ko_m K12 I.2.1.2.1 (by decide) (by decide +kernel)
    have rp12 : RP6 D H12 x := rp0.keep I.1 I.2.1.1 K12 (by decide +kernel)
    have ci12 := ci0.keepO I.1 I.2.1.1 I.2.1.2.2 I.2.2.1.lt K12
    have mi12 := mi0.keepO I.1 I.2.1.2.1 I.2.1.2.2 I.2.2.1.lt K12
    have bq12 : BQ D H12 x mo := bq0.keep I.1 I.2.1.1 I.2.1.2.1 K12 (by decide +kernel) (by decide +kernel)
    have rq12 : RQ D H12 x := rq0.keep I.1 I.2.1.1 K12 (by decide +kernel)
    have t12 : tln D H12 x = tln D H x := t12
    refine lv_istore (lv' := [(5, .int r12), (0, .ref b), (1, .ref x), (2, .ref mo), (3, .ref o), (4, .int i)]) hx hb dL_law__805 hl (by decide) rfl (fun ls hl => ?_)
    refine lv_aload_n hx hb dL_law__807 rfl (lv_at hl 3 rfl) ?_
    refine lv_aload_n hx hb dL_law__808 rfl (lv_at hl 1 rfl) ?_
    refine lv_iload hx hb dL_law__809 (lv_at hl 5 rfl) ?_
    refine lv_iconst (v := 1) hx hb dL_law__811 (by decide) ?_
    refine lv_iadd hx hb dL_law__812 ?_
    refine lv_topi (fun v13 ev13 => ?_)
    have kv13 : (1 : Int32).toInt = 1 := by decide
    have fv13 : v13.toInt = i.toInt + 1 := by rw [ev13]; exact i_addc kv13 (by omega) (by omega)
    refine va_sld (A := fun q => s.heap.size ≤ q) hx hb hX hbl hbA I12.S (i_vin (by omega) (by omega)) dL_law__813 ?_
    refine lv_topi (fun v14 ev14 => ?_)
    refine lv_aload_n hx hb dL_law__814 rfl (lv_at hl 1 rfl) ?_
    refine lv_iload hx hb dL_law__815 (lv_at hl 5 rfl) ?_
    refine lv_iconst (v := 2) hx hb dL_law__817 (by decide) ?_
    refine lv_iadd hx hb dL_law__818 ?_
    refine lv_topi (fun v15 ev15 => ?_)
    have kv15 : (2 : Int32).toInt = 2 := by decide
    have fv15 : v15.toInt = i.toInt + 2 := by rw [ev15]; exact i_addc kv15 (by omega) (by omega)
    refine va_sld (A := fun q => s.heap.size ≤ q) hx hb hX hbl hbA I12.S (i_vin (by omega) (by omega)) dL_law__819 ?_
    refine lv_topi (fun v16 ev16 => ?_)
    refine lv_if_eq (tgt := 827) hx hb dL_law__820 (by decide) (fun c9 => ?_) (fun c9 => ?_)
    · skip
      refine lv_iconst (v := 0) hx hb dL_law__827 (by decide) ?_
      have k0_17 : (0 : Int32).toInt = 0 := by decide
      refine l_E (T := TX12) (As := [.int v14, .int (0 : Int32)]) C I12 (c_X12_plan l D G12 mo v14 (0 : Int32) I12.2.1.2.1 (by omega)) kV_L_186 I12.2.1.2.1 trivial (by decide +kernel) dL_law__828 hl.1 rfl rfl (by decide) cd_X12_plan ⟨Nat.le_of_ble_eq_true rfl, Nat.le_of_ble_eq_true rfl, (by show 450 + 5 * k + 1 ≤ 601024; omega), (by show 30000 + 455 * k + 6 ≤ 7293034; omega), Nat.le_of_ble_eq_true rfl⟩ (fun v17 H17 L17 I17 K17 q17 => ?_)
      have t17 : tln D H17 x = tln D H12 x := tlW I12.1 I12.2.1.1 K17 (by decide +kernel) (by decide +kernel)
      have m17 : (fI D H17 11 mo 9).toInt = (fI D H12 11 mo 9).toInt := congrArg Int32.toInt (K17.fI I12.2.1.2.1 rfl (by decide) (by decide +kernel))
      have bq17 : BQ D H17 x mo := bq12.keep I12.1 I12.2.1.1 I12.2.1.2.1 (Keep.o K17 o) (by decide +kernel) (by decide +kernel)
      have rq17 : RQ D H17 x := rq12.keep I12.1 I12.2.1.1 (Keep.o K17 o) (by decide +kernel)
      have a9_17 : (fI D H17 10 x 9).toInt = (fI D H12 10 x 9).toInt := ko_x (Keep.o K17 o) I12.2.1.1 (by decide) (by decide +kernel)
      have a8_17 : (fI D H17 10 x 8).toInt = (fI D H12 10 x 8).toInt := ko_x (Keep.o K17 o) I12.2.1.1 (by decide) (by decide +kernel)
      have b4_17 : (fI D H17 11 mo 14).toInt = (fI D H12 11 mo 14).toInt := ko_m (Keep.o K17 o) I12.2.1.2.1 (by decide) (by decide +kernel)
      have b6_17 : (fI D H17 11 mo 6).toInt = (fI D H12 11 mo 6).toInt := ko_m (Keep.o K17 o) I12.2.1.2.1 (by decide) (by decide +kernel)
      have rp17 : RP6 D H17 x := rp12.keep I12.1 I12.2.1.1 (Keep.o K17 o) (by decide +kernel)
      have ci17 := ci12.keep I12.1 I12.2.1.1 K17 (by decide +kernel)
      have mi17 := mi12.keep I12.1 I12.2.1.2.1 K17 (by decide +kernel)
      obtain ⟨r17, rfl, q17⟩ := q17
      refine lv_istore (lv' := [(6, .int r17), (5, .int r12), (0, .ref b), (1, .ref x), (2, .ref mo), (3, .ref o), (4, .int i)]) hx hb dL_law__831 hl (by decide) rfl (fun ls hl => ?_)
      refine lv_goto (tgt := 1653) hx hb dL_law__833 (by decide) ?_
      exact W.widen (by show 450 + 5 * k + 1 ≤ 450 + 5 * k + 5; omega) (by show 30000 + 455 * k + 6 ≤ 30000 + 455 * k + 455; omega) (Fin _ _ _ _ I17 (⟨by unfold tln at *; omega, bq17, rq17, ⟨⟨V, K, ci17, mi17, pv0, fun h9 => pk0 (by omega)⟩, ⟨by omega, by omega⟩, rp17⟩⟩) (lv_sub hl [2, 3, 4, 5, 6] rfl))
    · skip
      refine lv_iconst (v := 1) hx hb dL_law__823 (by decide) ?_
      refine lv_goto (tgt := 828) hx hb dL_law__824 (by decide) ?_
      have k1_18 : (1 : Int32).toInt = 1 := by decide
      refine l_E (T := TX12) (As := [.int v14, .int (1 : Int32)]) C I12 (c_X12_plan l D G12 mo v14 (1 : Int32) I12.2.1.2.1 (by omega)) kV_L_186 I12.2.1.2.1 trivial (by decide +kernel) dL_law__828 hl.1 rfl rfl (by decide) cd_X12_plan ⟨Nat.le_of_ble_eq_true rfl, Nat.le_of_ble_eq_true rfl, (by show 450 + 5 * k + 1 ≤ 601024; omega), (by show 30000 + 455 * k + 6 ≤ 7293034; omega), Nat.le_of_ble_eq_true rfl⟩ (fun v18 H18 L18 I18 K18 q18 => ?_)
      have t18 : tln D H18 x = tln D H12 x := tlW I12.1 I12.2.1.1 K18 (by decide +kernel) (by decide +kernel)
      have m18 : (fI D H18 11 mo 9).toInt = (fI D H12 11 mo 9).toInt := congrArg Int32.toInt (K18.fI I12.2.1.2.1 rfl (by decide) (by decide +kernel))
      have bq18 : BQ D H18 x mo := bq12.keep I12.1 I12.2.1.1 I12.2.1.2.1 (Keep.o K18 o) (by decide +kernel) (by decide +kernel)
      have rq18 : RQ D H18 x := rq12.keep I12.1 I12.2.1.1 (Keep.o K18 o) (by decide +kernel)
      have a9_18 : (fI D H18 10 x 9).toInt = (fI D H12 10 x 9).toInt := ko_x (Keep.o K18 o) I12.2.1.1 (by decide) (by decide +kernel)
      have a8_18 : (fI D H18 10 x 8).toInt = (fI D H12 10 x 8).toInt := ko_x (Keep.o K18 o) I12.2.1.1 (by decide) (by decide +kernel)
      have b4_18 : (fI D H18 11 mo 14).toInt = (fI D H12 11 mo 14).toInt := ko_m (Keep.o K18 o) I12.2.1.2.1 (by decide) (by decide +kernel)
      have b6_18 : (fI D H18 11 mo 6).toInt = (fI D H12 11 mo 6).toInt := ko_m (Keep.o K18 o) I12.2.1.2.1 (by decide) (by decide +kernel)
      have rp18 : RP6 D H18 x := rp12.keep I12.1 I12.2.1.1 (Keep.o K18 o) (by decide +kernel)
      have ci18 := ci12.keep I12.1 I12.2.1.1 K18 (by decide +kernel)
      have mi18 := mi12.keep I12.1 I12.2.1.2.1 K18 (by decide +kernel)
      obtain ⟨r18, rfl, q18⟩ := q18
      refine lv_istore (lv' := [(6, .int r18), (5, .int r12), (0, .ref b), (1, .ref x), (2, .ref mo), (3, .ref o), (4, .int i)]) hx hb dL_law__831 hl (by decide) rfl (fun ls hl => ?_)
      refine lv_goto (tgt := 1653) hx hb dL_law__833 (by decide) ?_
      exact W.widen (by show 450 + 5 * k + 1 ≤ 450 + 5 * k + 5; omega) (by show 30000 + 455 * k + 6 ≤ 30000 + 455 * k + 455; omega) (Fin _ _ _ _ I18 (⟨by unfold tln at *; omega, bq18, rq18, ⟨⟨V, K, ci18, mi18, pv0, fun h9 => pk0 (by omega)⟩, ⟨by omega, by omega⟩, rp18⟩⟩) (lv_sub hl [2, 3, 4, 5, 6] rfl))

set_option maxRecDepth 100000 in
set_option maxHeartbeats 4000000 in
theorem lc_18 {p : Program} {l : Launch} {e : Env} {s : State} {m : MethodId} {below : List Frame} {meth : Method} {c : Code} {b L : Nat} {xs : Nat → Int32} {D : DD} {G : Nat → Nat} {H : Heap} {locs : List Loc} {ls : Array Slot} {i : Int32} {k x mo o : Nat} {Q : State → Prop} (hl0 : l.stackTraces = false) (C : Cx D G p s m #[.ref b] meth c RL code 7) (hX : va_X b L xs s s.heap) (hbl : b < s.heap.size) (I : Iv D G s.heap H locs x mo o) (tp : tln D H x = (fI D H 11 mo 9).toInt ∧ BQ D H x mo ∧ RQ D H x ∧ VQ D H x mo) (hi : 0 ≤ i.toInt ∧ i.toInt + 6 ≤ L) (hL : L ≤ 3072) (hk : k ≤ 511) (hl : lv_has ls 7 [(0, .ref b), (1, .ref x), (2, .ref mo), (3, .ref o), (4, .int i)])
    (Fin : ∀ G' H' locs' ls', Iv D G' s.heap H' locs' x mo o → tln D H' x = (fI D H' 11 mo 9).toInt ∧ BQ D H' x mo ∧ RQ D H' x ∧ VQ D H' x mo → lv_has ls' 7 [(0, .ref b), (1, .ref x), (2, .ref mo), (3, .ref o), (4, .int i)] → W p l e room_1 s m #[.ref b] below meth c H' locs' (450 + 5 * k + 5) (30000 + 455 * k + 455) Q (F0 m 1653 ls' [])) : W p l e room_1 s m #[.ref b] below meth c H locs (450 + 5 * k) (30000 + 455 * k) Q (F0 m 836 ls []) := by
  have hx := C.1
  have hb := C.2.1
  have hbA : ¬ s.heap.size ≤ b := by omega
  have tp0 := tp
  obtain ⟨tp, bq0, rq0, vq0⟩ := tp
  obtain ⟨⟨V, K, ci0, mi0, pv0, pk0⟩, ⟨wf0, if0⟩, rp0⟩ := vq0
  refine lv_aload_n hx hb dL_law__836 rfl (lv_at hl 1 rfl) ?_
  refine lv_aload_n hx hb dL_law__837 rfl (lv_at hl 0 rfl) ?_
  refine lv_iload hx hb dL_law__838 (lv_at hl 4 rfl) ?_
  refine lv_iconst (v := 1) hx hb dL_law__840 (by decide) ?_
  refine lv_iadd hx hb dL_law__841 ?_
  refine lv_topi (fun v1 ev1 => ?_)
  have kv1 : (1 : Int32).toInt = 1 := by decide
  have fv1 : v1.toInt = i.toInt + 1 := by rw [ev1]; exact i_addc kv1 (by omega) (by omega)
  refine va_sld (A := fun q => s.heap.size ≤ q) hx hb hX hbl hbA I.S (i_vin (by omega) (by omega)) dL_law__842 ?_
  refine lv_topi (fun v2 ev2 => ?_)
  refine lv_aload_n hx hb dL_law__843 rfl (lv_at hl 3 rfl) ?_
  refine l_W (As := [.ref x, .int v2, .ref o]) hl0 C I (c_L_brings l D G x v2 o I.2.1.1 I.2.1.2.2) kw_187 trivial (by decide +kernel) (by decide +kernel) dL_law__844 hl.1 cdL_brings ⟨Nat.le_of_ble_eq_true rfl, Nat.le_of_ble_eq_true rfl, (by show 450 + 5 * k + 1 ≤ 601024; omega), (by show 30000 + 455 * k + 6 ≤ 7293034; omega), Nat.le_of_ble_eq_true rfl⟩ (fun r3 G3 H3 L3 I3 C m3 t3 K3 => ?_)
  have m3 := congrArg Int32.toInt m3
  have a9_3 : (fI D H3 10 x 9).toInt = (fI D H 10 x 9).toInt := ko_x K3 I.2.1.1 (by decide) (by decide +kernel)
  have a8_3 : (fI D H3 10 x 8).toInt = (fI D H 10 x 8).toInt := ko_x K3 I.2.1.1 (by decide) (by decide +kernel)
  have b4_3 : (fI D H3 11 mo 14).toInt = (fI D H 11 mo 14).toInt := ko_m K3 I.2.1.2.1 (by decide) (by decide +kernel)
  have b6_3 : (fI D H3 11 mo 6).toInt = (fI D H 11 mo 6).toInt := ko_m K3 I.2.1.2.1 (by decide) (by decide +kernel)
  have rp3 : RP6 D H3 x := rp0.keep I.1 I.2.1.1 K3 (by decide +kernel)
  have ci3 := ci0.keepO I.1 I.2.1.1 I.2.1.2.2 I.2.2.1.lt K3
  have mi3 := mi0.keepO I.1 I.2.1.2.1 I.2.1.2.2 I.2.2.1.lt K3
  have bq3 : BQ D H3 x mo := bq0.keep I.1 I.2.1.1 I.2.1.2.1 K3 (by decide +kernel) (by decide +kernel)
  have rq3 : RQ D H3 x := rq0.keep I.1 I.2.1.1 K3 (by decide +kernel)
  have t3 : tln D H3 x = tln D H x := t3
  refine lv_istore (lv' := [(5, .int r3), (0, .ref b), (1, .ref x), (2, .ref mo), (3, .ref o), (4, .int i)]) hx hb dL_law__847 hl (by decide) rfl (fun ls hl => ?_)
  refine lv_aload_n hx hb dL_law__849 rfl (lv_at hl 3 rfl) ?_
  refine lv_aload_n hx hb dL_law__850 rfl (lv_at hl 1 rfl) ?_
  refine lv_iload hx hb dL_law__851 (lv_at hl 5 rfl) ?_
  refine lv_iconst (v := 1) hx hb dL_law__853 (by decide) ?_
  refine lv_iadd hx hb dL_law__854 ?_
  refine lv_topi (fun v4 ev4 => ?_)
  have kv4 : (1 : Int32).toInt = 1 := by decide
  have fv4 : v4.toInt = i.toInt + 1 := by rw [ev4]; exact i_addc kv4 (by omega) (by omega)
  refine va_sld (A := fun q => s.heap.size ≤ q) hx hb hX hbl hbA I3.S (i_vin (by omega) (by omega)) dL_law__855 ?_
  refine lv_topi (fun v5 ev5 => ?_)
  refine l_E (T := TX12) (As := [.int v5]) C I3 (c_X12_brings l D G3 mo v5 I3.2.1.2.1) kV_L_189 I3.2.1.2.1 trivial (by decide +kernel) dL_law__856 hl.1 rfl rfl (by decide) cd_X12_brings ⟨Nat.le_of_ble_eq_true rfl, Nat.le_of_ble_eq_true rfl, (by show 450 + 5 * k + 1 ≤ 601024; omega), (by show 30000 + 455 * k + 6 ≤ 7293034; omega), Nat.le_of_ble_eq_true rfl⟩ (fun v6 H6 L6 I6 K6 q6 => ?_)
  have t6 : tln D H6 x = tln D H3 x := tlW I3.1 I3.2.1.1 K6 (by decide +kernel) (by decide +kernel)
  have m6 : (fI D H6 11 mo 9).toInt = (fI D H3 11 mo 9).toInt := congrArg Int32.toInt (K6.fI I3.2.1.2.1 rfl (by decide) (by decide +kernel))
  have bq6 : BQ D H6 x mo := bq3.keep I3.1 I3.2.1.1 I3.2.1.2.1 (Keep.o K6 o) (by decide +kernel) (by decide +kernel)
  have rq6 : RQ D H6 x := rq3.keep I3.1 I3.2.1.1 (Keep.o K6 o) (by decide +kernel)
  have a9_6 : (fI D H6 10 x 9).toInt = (fI D H3 10 x 9).toInt := ko_x (Keep.o K6 o) I3.2.1.1 (by decide) (by decide +kernel)
  have a8_6 : (fI D H6 10 x 8).toInt = (fI D H3 10 x 8).toInt := ko_x (Keep.o K6 o) I3.2.1.1 (by decide) (by decide +kernel)
  have b4_6 : (fI D H6 11 mo 14).toInt = (fI D H3 11 mo 14).toInt := ko_m (Keep.o K6 o) I3.2.1.2.1 (by decide) (by decide +kernel)
  have b6_6 : (fI D H6 11 mo 6).toInt = (fI D H3 11 mo 6).toInt := ko_m (Keep.o K6 o) I3.2.1.2.1 (by decide) (by decide +kernel)
  have rp6 : RP6 D H6 x := rp3.keep I3.1 I3.2.1.1 (Keep.o K6 o) (by decide +kernel)
  have ci6 := ci3.keep I3.1 I3.2.1.1 K6 (by decide +kernel)
  have mi6 := mi3.keep I3.1 I3.2.1.2.1 K6 (by decide +kernel)
  obtain ⟨r6, rfl, q6⟩ := q6
  refine lv_istore (lv' := [(6, .int r6), (5, .int r3), (0, .ref b), (1, .ref x), (2, .ref mo), (3, .ref o), (4, .int i)]) hx hb dL_law__859 hl (by decide) rfl (fun ls hl => ?_)
  refine lv_goto (tgt := 1653) hx hb dL_law__861 (by decide) ?_
  exact W.widen (by show 450 + 5 * k + 1 ≤ 450 + 5 * k + 5; omega) (by show 30000 + 455 * k + 6 ≤ 30000 + 455 * k + 455; omega) (Fin _ _ _ _ I6 (⟨by unfold tln at *; omega, bq6, rq6, ⟨⟨V, K, ci6, mi6, pv0, fun h9 => pk0 (by omega)⟩, ⟨by omega, by omega⟩, rp6⟩⟩) (lv_sub hl [2, 3, 4, 5, 6] rfl))

set_option maxRecDepth 100000 in
set_option maxHeartbeats 4000000 in
theorem lc_19 {p : Program} {l : Launch} {e : Env} {s : State} {m : MethodId} {below : List Frame} {meth : Method} {c : Code} {b L : Nat} {xs : Nat → Int32} {D : DD} {G : Nat → Nat} {H : Heap} {locs : List Loc} {ls : Array Slot} {i : Int32} {k x mo o : Nat} {Q : State → Prop} (hl0 : l.stackTraces = false) (C : Cx D G p s m #[.ref b] meth c RL code 7) (hX : va_X b L xs s s.heap) (hbl : b < s.heap.size) (I : Iv D G s.heap H locs x mo o) (tp : tln D H x = (fI D H 11 mo 9).toInt ∧ BQ D H x mo ∧ RQ D H x ∧ VQ D H x mo) (hi : 0 ≤ i.toInt ∧ i.toInt + 6 ≤ L) (hL : L ≤ 3072) (hk : k ≤ 511) (hl : lv_has ls 7 [(0, .ref b), (1, .ref x), (2, .ref mo), (3, .ref o), (4, .int i)])
    (Fin : ∀ G' H' locs' ls', Iv D G' s.heap H' locs' x mo o → tln D H' x = (fI D H' 11 mo 9).toInt ∧ BQ D H' x mo ∧ RQ D H' x ∧ VQ D H' x mo → lv_has ls' 7 [(0, .ref b), (1, .ref x), (2, .ref mo), (3, .ref o), (4, .int i)] → W p l e room_1 s m #[.ref b] below meth c H' locs' (450 + 5 * k + 5) (30000 + 455 * k + 455) Q (F0 m 1653 ls' [])) : W p l e room_1 s m #[.ref b] below meth c H locs (450 + 5 * k) (30000 + 455 * k) Q (F0 m 864 ls []) := by
  have hx := C.1
  have hb := C.2.1
  have hbA : ¬ s.heap.size ≤ b := by omega
  have tp0 := tp
  obtain ⟨tp, bq0, rq0, vq0⟩ := tp
  obtain ⟨⟨V, K, ci0, mi0, pv0, pk0⟩, ⟨wf0, if0⟩, rp0⟩ := vq0
  refine lv_aload_n hx hb dL_law__864 rfl (lv_at hl 1 rfl) ?_
  refine l_E (T := TX11) (As := []) C I (c_X11_dear l D G x I.2.1.1) kV_L_190 I.2.1.1 trivial (by decide +kernel) dL_law__865 hl.1 rfl rfl (by decide) cd_X11_dear ⟨Nat.le_of_ble_eq_true rfl, Nat.le_of_ble_eq_true rfl, (by show 450 + 5 * k ≤ 601024; omega), (by show 30000 + 455 * k ≤ 7293034; omega), Nat.le_of_ble_eq_true rfl⟩ (fun v1 H1 L1 I1 K1 q1 => ?_)
  have m1 : (fI D H1 11 mo 9).toInt = (fI D H 11 mo 9).toInt := congrArg Int32.toInt (K1.fI I.2.1.2.1 rfl (by decide) (by decide +kernel))
  have t1 : tln D H1 x = tln D H x := tlW I.1 I.2.1.1 K1 (by decide +kernel) (by decide +kernel)
  have bq1 : BQ D H1 x mo := bq0.keep I.1 I.2.1.1 I.2.1.2.1 (Keep.o K1 o) (by decide +kernel) (by decide +kernel)
  have rq1 : RQ D H1 x := rq0.keep I.1 I.2.1.1 (Keep.o K1 o) (by decide +kernel)
  have a9_1 : (fI D H1 10 x 9).toInt = (fI D H 10 x 9).toInt := ko_x (Keep.o K1 o) I.2.1.1 (by decide) (by decide +kernel)
  have a8_1 : (fI D H1 10 x 8).toInt = (fI D H 10 x 8).toInt := ko_x (Keep.o K1 o) I.2.1.1 (by decide) (by decide +kernel)
  have b4_1 : (fI D H1 11 mo 14).toInt = (fI D H 11 mo 14).toInt := ko_m (Keep.o K1 o) I.2.1.2.1 (by decide) (by decide +kernel)
  have b6_1 : (fI D H1 11 mo 6).toInt = (fI D H 11 mo 6).toInt := ko_m (Keep.o K1 o) I.2.1.2.1 (by decide) (by decide +kernel)
  have rp1 : RP6 D H1 x := rp0.keep I.1 I.2.1.1 (Keep.o K1 o) (by decide +kernel)
  have ci1 := ci0.keep I.1 I.2.1.1 K1 (by decide +kernel)
  have mi1 := mi0.keep I.1 I.2.1.2.1 K1 (by decide +kernel)
  obtain ⟨r1, rfl, q1⟩ := q1
  refine lv_pop hx hb dL_law__868 rfl ?_
  refine lv_aload_n hx hb dL_law__869 rfl (lv_at hl 2 rfl) ?_
  refine l_E (T := TX12) (As := []) C I1 (c_X12_dear l D G mo I1.2.1.2.1) kV_L_193 I1.2.1.2.1 trivial (by decide +kernel) dL_law__870 hl.1 rfl rfl (by decide) cd_X12_dear ⟨Nat.le_of_ble_eq_true rfl, Nat.le_of_ble_eq_true rfl, (by show 450 + 5 * k ≤ 601024; omega), (by show 30000 + 455 * k ≤ 7293034; omega), Nat.le_of_ble_eq_true rfl⟩ (fun v2 H2 L2 I2 K2 q2 => ?_)
  have t2 : tln D H2 x = tln D H1 x := tlW I1.1 I1.2.1.1 K2 (by decide +kernel) (by decide +kernel)
  have m2 : (fI D H2 11 mo 9).toInt = (fI D H1 11 mo 9).toInt := congrArg Int32.toInt (K2.fI I1.2.1.2.1 rfl (by decide) (by decide +kernel))
  have bq2 : BQ D H2 x mo := bq1.keep I1.1 I1.2.1.1 I1.2.1.2.1 (Keep.o K2 o) (by decide +kernel) (by decide +kernel)
  have rq2 : RQ D H2 x := rq1.keep I1.1 I1.2.1.1 (Keep.o K2 o) (by decide +kernel)
  have a9_2 : (fI D H2 10 x 9).toInt = (fI D H1 10 x 9).toInt := ko_x (Keep.o K2 o) I1.2.1.1 (by decide) (by decide +kernel)
  have a8_2 : (fI D H2 10 x 8).toInt = (fI D H1 10 x 8).toInt := ko_x (Keep.o K2 o) I1.2.1.1 (by decide) (by decide +kernel)
  have b4_2 : (fI D H2 11 mo 14).toInt = (fI D H1 11 mo 14).toInt := ko_m (Keep.o K2 o) I1.2.1.2.1 (by decide) (by decide +kernel)
  have b6_2 : (fI D H2 11 mo 6).toInt = (fI D H1 11 mo 6).toInt := ko_m (Keep.o K2 o) I1.2.1.2.1 (by decide) (by decide +kernel)
  have rp2 : RP6 D H2 x := rp1.keep I1.1 I1.2.1.1 (Keep.o K2 o) (by decide +kernel)
  have ci2 := ci1.keep I1.1 I1.2.1.1 K2 (by decide +kernel)
  have mi2 := mi1.keep I1.1 I1.2.1.2.1 K2 (by decide +kernel)
  obtain ⟨r2, rfl, q2⟩ := q2
  refine lv_pop hx hb dL_law__873 rfl ?_
  refine lv_goto (tgt := 1653) hx hb dL_law__874 (by decide) ?_
  exact W.widen (by show 450 + 5 * k ≤ 450 + 5 * k + 5; omega) (by show 30000 + 455 * k ≤ 30000 + 455 * k + 455; omega) (Fin _ _ _ _ I2 (⟨by unfold tln at *; omega, bq2, rq2, ⟨⟨V, K, ci2, mi2, pv0, fun h9 => pk0 (by omega)⟩, ⟨by omega, by omega⟩, rp2⟩⟩) (lv_sub hl [0, 1, 2, 3, 4] rfl))

set_option maxRecDepth 100000 in
set_option maxHeartbeats 4000000 in
theorem lc_20 {p : Program} {l : Launch} {e : Env} {s : State} {m : MethodId} {below : List Frame} {meth : Method} {c : Code} {b L : Nat} {xs : Nat → Int32} {D : DD} {G : Nat → Nat} {H : Heap} {locs : List Loc} {ls : Array Slot} {i : Int32} {k x mo o : Nat} {Q : State → Prop} (hl0 : l.stackTraces = false) (C : Cx D G p s m #[.ref b] meth c RL code 7) (hX : va_X b L xs s s.heap) (hbl : b < s.heap.size) (I : Iv D G s.heap H locs x mo o) (tp : tln D H x = (fI D H 11 mo 9).toInt ∧ BQ D H x mo ∧ RQ D H x ∧ VQ D H x mo) (hi : 0 ≤ i.toInt ∧ i.toInt + 6 ≤ L) (hL : L ≤ 3072) (hk : k ≤ 511) (hl : lv_has ls 7 [(0, .ref b), (1, .ref x), (2, .ref mo), (3, .ref o), (4, .int i)])
    (Fin : ∀ G' H' locs' ls', Iv D G' s.heap H' locs' x mo o → tln D H' x = (fI D H' 11 mo 9).toInt ∧ BQ D H' x mo ∧ RQ D H' x ∧ VQ D H' x mo → lv_has ls' 7 [(0, .ref b), (1, .ref x), (2, .ref mo), (3, .ref o), (4, .int i)] → W p l e room_1 s m #[.ref b] below meth c H' locs' (450 + 5 * k + 5) (30000 + 455 * k + 455) Q (F0 m 1653 ls' [])) : W p l e room_1 s m #[.ref b] below meth c H locs (450 + 5 * k) (30000 + 455 * k) Q (F0 m 877 ls []) := by
  have hx := C.1
  have hb := C.2.1
  have hbA : ¬ s.heap.size ≤ b := by omega
  have tp0 := tp
  obtain ⟨tp, bq0, rq0, vq0⟩ := tp
  obtain ⟨⟨V, K, ci0, mi0, pv0, pk0⟩, ⟨wf0, if0⟩, rp0⟩ := vq0
  refine lv_aload_n hx hb dL_law__877 rfl (lv_at hl 1 rfl) ?_
  refine lv_aload_n hx hb dL_law__878 rfl (lv_at hl 0 rfl) ?_
  refine lv_iload hx hb dL_law__879 (lv_at hl 4 rfl) ?_
  refine lv_iconst (v := 1) hx hb dL_law__881 (by decide) ?_
  refine lv_iadd hx hb dL_law__882 ?_
  refine lv_topi (fun v1 ev1 => ?_)
  have kv1 : (1 : Int32).toInt = 1 := by decide
  have fv1 : v1.toInt = i.toInt + 1 := by rw [ev1]; exact i_addc kv1 (by omega) (by omega)
  refine va_sld (A := fun q => s.heap.size ≤ q) hx hb hX hbl hbA I.S (i_vin (by omega) (by omega)) dL_law__883 ?_
  refine lv_topi (fun v2 ev2 => ?_)
  refine lv_aload_n hx hb dL_law__884 rfl (lv_at hl 3 rfl) ?_
  refine l_W (As := [.ref x, .int v2, .ref o]) hl0 C I (c_L_round l D G x v2 o I.2.1.1 I.2.1.2.2) kw_194 trivial (by decide +kernel) (by decide +kernel) dL_law__885 hl.1 cdL_round ⟨Nat.le_of_ble_eq_true rfl, Nat.le_of_ble_eq_true rfl, (by show 450 + 5 * k + 1 ≤ 601024; omega), (by show 30000 + 455 * k + 6 ≤ 7293034; omega), Nat.le_of_ble_eq_true rfl⟩ (fun r3 G3 H3 L3 I3 C m3 t3 K3 => ?_)
  have m3 := congrArg Int32.toInt m3
  have a9_3 : (fI D H3 10 x 9).toInt = (fI D H 10 x 9).toInt := ko_x K3 I.2.1.1 (by decide) (by decide +kernel)
  have a8_3 : (fI D H3 10 x 8).toInt = (fI D H 10 x 8).toInt := ko_x K3 I.2.1.1 (by decide) (by decide +kernel)
  have b4_3 : (fI D H3 11 mo 14).toInt = (fI D H 11 mo 14).toInt := ko_m K3 I.2.1.2.1 (by decide) (by decide +kernel)
  have b6_3 : (fI D H3 11 mo 6).toInt = (fI D H 11 mo 6).toInt := ko_m K3 I.2.1.2.1 (by decide) (by decide +kernel)
  have rp3 : RP6 D H3 x := rp0.keep I.1 I.2.1.1 K3 (by decide +kernel)
  have ci3 := ci0.keepO I.1 I.2.1.1 I.2.1.2.2 I.2.2.1.lt K3
  have mi3 := mi0.keepO I.1 I.2.1.2.1 I.2.1.2.2 I.2.2.1.lt K3
  have bq3 : BQ D H3 x mo := bq0.keep I.1 I.2.1.1 I.2.1.2.1 K3 (by decide +kernel) (by decide +kernel)
  have rq3 : RQ D H3 x := rq0.keep I.1 I.2.1.1 K3 (by decide +kernel)
  have t3 : tln D H3 x = tln D H x := t3
  refine lv_istore (lv' := [(5, .int r3), (0, .ref b), (1, .ref x), (2, .ref mo), (3, .ref o), (4, .int i)]) hx hb dL_law__888 hl (by decide) rfl (fun ls hl => ?_)
  refine lv_aload_n hx hb dL_law__890 rfl (lv_at hl 3 rfl) ?_
  refine lv_aload_n hx hb dL_law__891 rfl (lv_at hl 1 rfl) ?_
  refine lv_iload hx hb dL_law__892 (lv_at hl 5 rfl) ?_
  refine lv_iconst (v := 1) hx hb dL_law__894 (by decide) ?_
  refine lv_iadd hx hb dL_law__895 ?_
  refine lv_topi (fun v4 ev4 => ?_)
  have kv4 : (1 : Int32).toInt = 1 := by decide
  have fv4 : v4.toInt = i.toInt + 1 := by rw [ev4]; exact i_addc kv4 (by omega) (by omega)
  refine va_sld (A := fun q => s.heap.size ≤ q) hx hb hX hbl hbA I3.S (i_vin (by omega) (by omega)) dL_law__896 ?_
  refine lv_topi (fun v5 ev5 => ?_)
  refine l_E (T := TX12) (As := [.int v5]) C I3 (c_X12_round l D G3 mo v5 I3.2.1.2.1) kV_L_196 I3.2.1.2.1 trivial (by decide +kernel) dL_law__897 hl.1 rfl rfl (by decide) cd_X12_round ⟨Nat.le_of_ble_eq_true rfl, Nat.le_of_ble_eq_true rfl, (by show 450 + 5 * k + 1 ≤ 601024; omega), (by show 30000 + 455 * k + 6 ≤ 7293034; omega), Nat.le_of_ble_eq_true rfl⟩ (fun v6 H6 L6 I6 K6 q6 => ?_)
  have t6 : tln D H6 x = tln D H3 x := tlW I3.1 I3.2.1.1 K6 (by decide +kernel) (by decide +kernel)
  have m6 : (fI D H6 11 mo 9).toInt = (fI D H3 11 mo 9).toInt := congrArg Int32.toInt (K6.fI I3.2.1.2.1 rfl (by decide) (by decide +kernel))
  have bq6 : BQ D H6 x mo := bq3.keep I3.1 I3.2.1.1 I3.2.1.2.1 (Keep.o K6 o) (by decide +kernel) (by decide +kernel)
  have rq6 : RQ D H6 x := rq3.keep I3.1 I3.2.1.1 (Keep.o K6 o) (by decide +kernel)
  have a9_6 : (fI D H6 10 x 9).toInt = (fI D H3 10 x 9).toInt := ko_x (Keep.o K6 o) I3.2.1.1 (by decide) (by decide +kernel)
  have a8_6 : (fI D H6 10 x 8).toInt = (fI D H3 10 x 8).toInt := ko_x (Keep.o K6 o) I3.2.1.1 (by decide) (by decide +kernel)
  have b4_6 : (fI D H6 11 mo 14).toInt = (fI D H3 11 mo 14).toInt := ko_m (Keep.o K6 o) I3.2.1.2.1 (by decide) (by decide +kernel)
  have b6_6 : (fI D H6 11 mo 6).toInt = (fI D H3 11 mo 6).toInt := ko_m (Keep.o K6 o) I3.2.1.2.1 (by decide) (by decide +kernel)
  have rp6 : RP6 D H6 x := rp3.keep I3.1 I3.2.1.1 (Keep.o K6 o) (by decide +kernel)
  have ci6 := ci3.keep I3.1 I3.2.1.1 K6 (by decide +kernel)
  have mi6 := mi3.keep I3.1 I3.2.1.2.1 K6 (by decide +kernel)
  obtain ⟨r6, rfl, q6⟩ := q6
  refine lv_istore (lv' := [(6, .int r6), (5, .int r3), (0, .ref b), (1, .ref x), (2, .ref mo), (3, .ref o), (4, .int i)]) hx hb dL_law__900 hl (by decide) rfl (fun ls hl => ?_)
  refine lv_goto (tgt := 1653) hx hb dL_law__902 (by decide) ?_
  exact W.widen (by show 450 + 5 * k + 1 ≤ 450 + 5 * k + 5; omega) (by show 30000 + 455 * k + 6 ≤ 30000 + 455 * k + 455; omega) (Fin _ _ _ _ I6 (⟨by unfold tln at *; omega, bq6, rq6, ⟨⟨V, K, ci6, mi6, pv0, fun h9 => pk0 (by omega)⟩, ⟨by omega, by omega⟩, rp6⟩⟩) (lv_sub hl [2, 3, 4, 5, 6] rfl))

set_option maxRecDepth 100000 in
set_option maxHeartbeats 4000000 in
theorem lc_21 {p : Program} {l : Launch} {e : Env} {s : State} {m : MethodId} {below : List Frame} {meth : Method} {c : Code} {b L : Nat} {xs : Nat → Int32} {D : DD} {G : Nat → Nat} {H : Heap} {locs : List Loc} {ls : Array Slot} {i : Int32} {k x mo o : Nat} {Q : State → Prop} (hl0 : l.stackTraces = false) (C : Cx D G p s m #[.ref b] meth c RL code 7) (hX : va_X b L xs s s.heap) (hbl : b < s.heap.size) (I : Iv D G s.heap H locs x mo o) (tp : tln D H x = (fI D H 11 mo 9).toInt ∧ BQ D H x mo ∧ RQ D H x ∧ VQ D H x mo) (hi : 0 ≤ i.toInt ∧ i.toInt + 6 ≤ L) (hL : L ≤ 3072) (hk : k ≤ 511) (hl : lv_has ls 7 [(0, .ref b), (1, .ref x), (2, .ref mo), (3, .ref o), (4, .int i)])
    (Fin : ∀ G' H' locs' ls', Iv D G' s.heap H' locs' x mo o → tln D H' x = (fI D H' 11 mo 9).toInt ∧ BQ D H' x mo ∧ RQ D H' x ∧ VQ D H' x mo → lv_has ls' 7 [(0, .ref b), (1, .ref x), (2, .ref mo), (3, .ref o), (4, .int i)] → W p l e room_1 s m #[.ref b] below meth c H' locs' (450 + 5 * k + 5) (30000 + 455 * k + 455) Q (F0 m 1653 ls' [])) : W p l e room_1 s m #[.ref b] below meth c H locs (450 + 5 * k) (30000 + 455 * k) Q (F0 m 905 ls []) := by
  have hx := C.1
  have hb := C.2.1
  have hbA : ¬ s.heap.size ≤ b := by omega
  have tp0 := tp
  obtain ⟨tp, bq0, rq0, vq0⟩ := tp
  obtain ⟨⟨V, K, ci0, mi0, pv0, pk0⟩, ⟨wf0, if0⟩, rp0⟩ := vq0
  refine lv_aload_n hx hb dL_law__905 rfl (lv_at hl 1 rfl) ?_
  refine lv_aload_n hx hb dL_law__906 rfl (lv_at hl 0 rfl) ?_
  refine lv_iload hx hb dL_law__907 (lv_at hl 4 rfl) ?_
  refine lv_iconst (v := 1) hx hb dL_law__909 (by decide) ?_
  refine lv_iadd hx hb dL_law__910 ?_
  refine lv_topi (fun v1 ev1 => ?_)
  have kv1 : (1 : Int32).toInt = 1 := by decide
  have fv1 : v1.toInt = i.toInt + 1 := by rw [ev1]; exact i_addc kv1 (by omega) (by omega)
  refine va_sld (A := fun q => s.heap.size ≤ q) hx hb hX hbl hbA I.S (i_vin (by omega) (by omega)) dL_law__911 ?_
  refine lv_topi (fun v2 ev2 => ?_)
  refine lv_aload_n hx hb dL_law__912 rfl (lv_at hl 0 rfl) ?_
  refine lv_iload hx hb dL_law__913 (lv_at hl 4 rfl) ?_
  refine lv_iconst (v := 2) hx hb dL_law__915 (by decide) ?_
  refine lv_iadd hx hb dL_law__916 ?_
  refine lv_topi (fun v3 ev3 => ?_)
  have kv3 : (2 : Int32).toInt = 2 := by decide
  have fv3 : v3.toInt = i.toInt + 2 := by rw [ev3]; exact i_addc kv3 (by omega) (by omega)
  refine va_sld (A := fun q => s.heap.size ≤ q) hx hb hX hbl hbA I.S (i_vin (by omega) (by omega)) dL_law__917 ?_
  refine lv_topi (fun v4 ev4 => ?_)
  refine lv_if_eq (tgt := 925) hx hb dL_law__918 (by decide) (fun c9 => ?_) (fun c9 => ?_)
  · skip
    refine lv_iconst (v := 0) hx hb dL_law__925 (by decide) ?_
    refine lv_aload_n hx hb dL_law__926 rfl (lv_at hl 3 rfl) ?_
    have k0_5 : (0 : Int32).toInt = 0 := by decide
    refine l_W (As := [.ref x, .int v2, .int (0 : Int32), .ref o]) hl0 C I (c_L_smokes l D G x v2 (0 : Int32) o I.2.1.1 (by omega) I.2.1.2.2) kw_197 trivial (by decide +kernel) (by decide +kernel) dL_law__927 hl.1 cdL_smokes ⟨Nat.le_of_ble_eq_true rfl, Nat.le_of_ble_eq_true rfl, (by show 450 + 5 * k + 2 ≤ 601024; omega), (by show 30000 + 455 * k + 12 ≤ 7293034; omega), Nat.le_of_ble_eq_true rfl⟩ (fun r5 G5 H5 L5 I5 C m5 t5 K5 => ?_)
    have m5 := congrArg Int32.toInt m5
    have a9_5 : (fI D H5 10 x 9).toInt = (fI D H 10 x 9).toInt := ko_x K5 I.2.1.1 (by decide) (by decide +kernel)
    have a8_5 : (fI D H5 10 x 8).toInt = (fI D H 10 x 8).toInt := ko_x K5 I.2.1.1 (by decide) (by decide +kernel)
    have b4_5 : (fI D H5 11 mo 14).toInt = (fI D H 11 mo 14).toInt := ko_m K5 I.2.1.2.1 (by decide) (by decide +kernel)
    have b6_5 : (fI D H5 11 mo 6).toInt = (fI D H 11 mo 6).toInt := ko_m K5 I.2.1.2.1 (by decide) (by decide +kernel)
    have rp5 : RP6 D H5 x := rp0.keep I.1 I.2.1.1 K5 (by decide +kernel)
    have ci5 := ci0.keepO I.1 I.2.1.1 I.2.1.2.2 I.2.2.1.lt K5
    have mi5 := mi0.keepO I.1 I.2.1.2.1 I.2.1.2.2 I.2.2.1.lt K5
    have bq5 : BQ D H5 x mo := bq0.keep I.1 I.2.1.1 I.2.1.2.1 K5 (by decide +kernel) (by decide +kernel)
    have rq5 : RQ D H5 x := rq0.keep I.1 I.2.1.1 K5 (by decide +kernel)
    have t5 : tln D H5 x = 0 := t5
    refine lv_istore (lv' := [(5, .int r5), (0, .ref b), (1, .ref x), (2, .ref mo), (3, .ref o), (4, .int i)]) hx hb dL_law__930 hl (by decide) rfl (fun ls hl => ?_)
    refine lv_aload_n hx hb dL_law__932 rfl (lv_at hl 3 rfl) ?_
    refine lv_aload_n hx hb dL_law__933 rfl (lv_at hl 1 rfl) ?_
    refine lv_iload hx hb dL_law__934 (lv_at hl 5 rfl) ?_
    refine lv_iconst (v := 1) hx hb dL_law__936 (by decide) ?_
    refine lv_iadd hx hb dL_law__937 ?_
    refine lv_topi (fun v6 ev6 => ?_)
    have kv6 : (1 : Int32).toInt = 1 := by decide
    have fv6 : v6.toInt = i.toInt + 1 := by rw [ev6]; exact i_addc kv6 (by omega) (by omega)
    refine va_sld (A := fun q => s.heap.size ≤ q) hx hb hX hbl hbA I5.S (i_vin (by omega) (by omega)) dL_law__938 ?_
    refine lv_topi (fun v7 ev7 => ?_)
    refine lv_aload_n hx hb dL_law__939 rfl (lv_at hl 1 rfl) ?_
    refine lv_iload hx hb dL_law__940 (lv_at hl 5 rfl) ?_
    refine lv_iconst (v := 2) hx hb dL_law__942 (by decide) ?_
    refine lv_iadd hx hb dL_law__943 ?_
    refine lv_topi (fun v8 ev8 => ?_)
    have kv8 : (2 : Int32).toInt = 2 := by decide
    have fv8 : v8.toInt = i.toInt + 2 := by rw [ev8]; exact i_addc kv8 (by omega) (by omega)
    refine va_sld (A := fun q => s.heap.size ≤ q) hx hb hX hbl hbA I5.S (i_vin (by omega) (by omega)) dL_law__944 ?_
    refine lv_topi (fun v9 ev9 => ?_)
    refine lv_if_eq (tgt := 952) hx hb dL_law__945 (by decide) (fun c9 => ?_) (fun c9 => ?_)
    · skip
      refine lv_iconst (v := 0) hx hb dL_law__952 (by decide) ?_
      have k0_10 : (0 : Int32).toInt = 0 := by decide
      refine l_E (T := TX12) (As := [.int v7, .int (0 : Int32)]) C I5 (c_X12_smokes l D G5 mo v7 (0 : Int32) I5.2.1.2.1 (by omega)) kV_L_199 I5.2.1.2.1 trivial (by decide +kernel) dL_law__953 hl.1 rfl rfl (by decide) cd_X12_smokes ⟨Nat.le_of_ble_eq_true rfl, Nat.le_of_ble_eq_true rfl, (by show 450 + 5 * k + 2 ≤ 601024; omega), (by show 30000 + 455 * k + 12 ≤ 7293034; omega), Nat.le_of_ble_eq_true rfl⟩ (fun v10 H10 L10 I10 K10 q10 => ?_)
      have t10 : tln D H10 x = tln D H5 x := tlW I5.1 I5.2.1.1 K10 (by decide +kernel) (by decide +kernel)
      have bq10 : BQ D H10 x mo := bq5.keep I5.1 I5.2.1.1 I5.2.1.2.1 (Keep.o K10 o) (by decide +kernel) (by decide +kernel)
      have rq10 : RQ D H10 x := rq5.keep I5.1 I5.2.1.1 (Keep.o K10 o) (by decide +kernel)
      have a9_10 : (fI D H10 10 x 9).toInt = (fI D H5 10 x 9).toInt := ko_x (Keep.o K10 o) I5.2.1.1 (by decide) (by decide +kernel)
      have a8_10 : (fI D H10 10 x 8).toInt = (fI D H5 10 x 8).toInt := ko_x (Keep.o K10 o) I5.2.1.1 (by decide) (by decide +kernel)
      have b4_10 : (fI D H10 11 mo 14).toInt = (fI D H5 11 mo 14).toInt := ko_m (Keep.o K10 o) I5.2.1.2.1 (by decide) (by decide +kernel)
      have b6_10 : (fI D H10 11 mo 6).toInt = (fI D H5 11 mo 6).toInt := ko_m (Keep.o K10 o) I5.2.1.2.1 (by decide) (by decide +kernel)
      have rp10 : RP6 D H10 x := rp5.keep I5.1 I5.2.1.1 (Keep.o K10 o) (by decide +kernel)
      have ci10 := ci5.keep I5.1 I5.2.1.1 K10 (by decide +kernel)
      have mi10 := mi5.keep I5.1 I5.2.1.2.1 K10 (by decide +kernel)
      obtain ⟨r10, rfl, q10⟩ := q10
      refine lv_istore (lv' := [(6, .int r10), (5, .int r5), (0, .ref b), (1, .ref x), (2, .ref mo), (3, .ref o), (4, .int i)]) hx hb dL_law__956 hl (by decide) rfl (fun ls hl => ?_)
      refine lv_goto (tgt := 1653) hx hb dL_law__958 (by decide) ?_
      exact W.widen (by show 450 + 5 * k + 2 ≤ 450 + 5 * k + 5; omega) (by show 30000 + 455 * k + 12 ≤ 30000 + 455 * k + 455; omega) (Fin _ _ _ _ I10 (⟨by unfold tln at *; omega, bq10, rq10, ⟨⟨V, K, ci10, mi10, pv0, fun h9 => pk0 (by omega)⟩, ⟨by omega, by omega⟩, rp10⟩⟩) (lv_sub hl [2, 3, 4, 5, 6] rfl))
    · skip
      refine lv_iconst (v := 1) hx hb dL_law__948 (by decide) ?_
      refine lv_goto (tgt := 953) hx hb dL_law__949 (by decide) ?_
      have k1_11 : (1 : Int32).toInt = 1 := by decide
      refine l_E (T := TX12) (As := [.int v7, .int (1 : Int32)]) C I5 (c_X12_smokes l D G5 mo v7 (1 : Int32) I5.2.1.2.1 (by omega)) kV_L_199 I5.2.1.2.1 trivial (by decide +kernel) dL_law__953 hl.1 rfl rfl (by decide) cd_X12_smokes ⟨Nat.le_of_ble_eq_true rfl, Nat.le_of_ble_eq_true rfl, (by show 450 + 5 * k + 2 ≤ 601024; omega), (by show 30000 + 455 * k + 12 ≤ 7293034; omega), Nat.le_of_ble_eq_true rfl⟩ (fun v11 H11 L11 I11 K11 q11 => ?_)
      have t11 : tln D H11 x = tln D H5 x := tlW I5.1 I5.2.1.1 K11 (by decide +kernel) (by decide +kernel)
      have bq11 : BQ D H11 x mo := bq5.keep I5.1 I5.2.1.1 I5.2.1.2.1 (Keep.o K11 o) (by decide +kernel) (by decide +kernel)
      have rq11 : RQ D H11 x := rq5.keep I5.1 I5.2.1.1 (Keep.o K11 o) (by decide +kernel)
      have a9_11 : (fI D H11 10 x 9).toInt = (fI D H5 10 x 9).toInt := ko_x (Keep.o K11 o) I5.2.1.1 (by decide) (by decide +kernel)
      have a8_11 : (fI D H11 10 x 8).toInt = (fI D H5 10 x 8).toInt := ko_x (Keep.o K11 o) I5.2.1.1 (by decide) (by decide +kernel)
      have b4_11 : (fI D H11 11 mo 14).toInt = (fI D H5 11 mo 14).toInt := ko_m (Keep.o K11 o) I5.2.1.2.1 (by decide) (by decide +kernel)
      have b6_11 : (fI D H11 11 mo 6).toInt = (fI D H5 11 mo 6).toInt := ko_m (Keep.o K11 o) I5.2.1.2.1 (by decide) (by decide +kernel)
      have rp11 : RP6 D H11 x := rp5.keep I5.1 I5.2.1.1 (Keep.o K11 o) (by decide +kernel)
      have ci11 := ci5.keep I5.1 I5.2.1.1 K11 (by decide +kernel)
      have mi11 := mi5.keep I5.1 I5.2.1.2.1 K11 (by decide +kernel)
      obtain ⟨r11, rfl, q11⟩ := q11
      refine lv_istore (lv' := [(6, .int r11), (5, .int r5), (0, .ref b), (1, .ref x), (2, .ref mo), (3, .ref o), (4, .int i)]) hx hb dL_law__956 hl (by decide) rfl (fun ls hl => ?_)
      refine lv_goto (tgt := 1653) hx hb dL_law__958 (by decide) ?_
      exact W.widen (by show 450 + 5 * k + 2 ≤ 450 + 5 * k + 5; omega) (by show 30000 + 455 * k + 12 ≤ 30000 + 455 * k + 455; omega) (Fin _ _ _ _ I11 (⟨by unfold tln at *; omega, bq11, rq11, ⟨⟨V, K, ci11, mi11, pv0, fun h9 => pk0 (by omega)⟩, ⟨by omega, by omega⟩, rp11⟩⟩) (lv_sub hl [2, 3, 4, 5, 6] rfl))
  · skip
    refine lv_iconst (v := 1) hx hb dL_law__921 (by decide) ?_
    refine lv_goto (tgt := 926) hx hb dL_law__922 (by decide) ?_
    refine lv_aload_n hx hb dL_law__926 rfl (lv_at hl 3 rfl) ?_
    have k1_12 : (1 : Int32).toInt = 1 := by decide
    refine l_W (As := [.ref x, .int v2, .int (1 : Int32), .ref o]) hl0 C I (c_L_smokes l D G x v2 (1 : Int32) o I.2.1.1 (by omega) I.2.1.2.2) kw_197 trivial (by decide +kernel) (by decide +kernel) dL_law__927 hl.1 cdL_smokes ⟨Nat.le_of_ble_eq_true rfl, Nat.le_of_ble_eq_true rfl, (by show 450 + 5 * k + 2 ≤ 601024; omega), (by show 30000 + 455 * k + 12 ≤ 7293034; omega), Nat.le_of_ble_eq_true rfl⟩ (fun r12 G12 H12 L12 I12 C m12 t12 K12 => ?_)
    have m12 := congrArg Int32.toInt m12
    have a9_12 : (fI D H12 10 x 9).toInt = (fI D H 10 x 9).toInt := ko_x K12 I.2.1.1 (by decide) (by decide +kernel)
    have a8_12 : (fI D H12 10 x 8).toInt = (fI D H 10 x 8).toInt := ko_x K12 I.2.1.1 (by decide) (by decide +kernel)
    have b4_12 : (fI D H12 11 mo 14).toInt = (fI D H 11 mo 14).toInt := ko_m K12 I.2.1.2.1 (by decide) (by decide +kernel)
    have b6_12 : (fI D H12 11 mo 6).toInt = (fI D H 11 mo 6).toInt := ko_m K12 I.2.1.2.1 (by decide) (by decide +kernel)
    have rp12 : RP6 D H12 x := rp0.keep I.1 I.2.1.1 K12 (by decide +kernel)
    have ci12 := ci0.keepO I.1 I.2.1.1 I.2.1.2.2 I.2.2.1.lt K12
    have mi12 := mi0.keepO I.1 I.2.1.2.1 I.2.1.2.2 I.2.2.1.lt K12
    have bq12 : BQ D H12 x mo := bq0.keep I.1 I.2.1.1 I.2.1.2.1 K12 (by decide +kernel) (by decide +kernel)
    have rq12 : RQ D H12 x := rq0.keep I.1 I.2.1.1 K12 (by decide +kernel)
    have t12 : tln D H12 x = 0 := t12
    refine lv_istore (lv' := [(5, .int r12), (0, .ref b), (1, .ref x), (2, .ref mo), (3, .ref o), (4, .int i)]) hx hb dL_law__930 hl (by decide) rfl (fun ls hl => ?_)
    refine lv_aload_n hx hb dL_law__932 rfl (lv_at hl 3 rfl) ?_
    refine lv_aload_n hx hb dL_law__933 rfl (lv_at hl 1 rfl) ?_
    refine lv_iload hx hb dL_law__934 (lv_at hl 5 rfl) ?_
    refine lv_iconst (v := 1) hx hb dL_law__936 (by decide) ?_
    refine lv_iadd hx hb dL_law__937 ?_
    refine lv_topi (fun v13 ev13 => ?_)
    have kv13 : (1 : Int32).toInt = 1 := by decide
    have fv13 : v13.toInt = i.toInt + 1 := by rw [ev13]; exact i_addc kv13 (by omega) (by omega)
    refine va_sld (A := fun q => s.heap.size ≤ q) hx hb hX hbl hbA I12.S (i_vin (by omega) (by omega)) dL_law__938 ?_
    refine lv_topi (fun v14 ev14 => ?_)
    refine lv_aload_n hx hb dL_law__939 rfl (lv_at hl 1 rfl) ?_
    refine lv_iload hx hb dL_law__940 (lv_at hl 5 rfl) ?_
    refine lv_iconst (v := 2) hx hb dL_law__942 (by decide) ?_
    refine lv_iadd hx hb dL_law__943 ?_
    refine lv_topi (fun v15 ev15 => ?_)
    have kv15 : (2 : Int32).toInt = 2 := by decide
    have fv15 : v15.toInt = i.toInt + 2 := by rw [ev15]; exact i_addc kv15 (by omega) (by omega)
    refine va_sld (A := fun q => s.heap.size ≤ q) hx hb hX hbl hbA I12.S (i_vin (by omega) (by omega)) dL_law__944 ?_
    refine lv_topi (fun v16 ev16 => ?_)
    refine lv_if_eq (tgt := 952) hx hb dL_law__945 (by decide) (fun c9 => ?_) (fun c9 => ?_)
    · skip
      refine lv_iconst (v := 0) hx hb dL_law__952 (by decide) ?_
      have k0_17 : (0 : Int32).toInt = 0 := by decide
      refine l_E (T := TX12) (As := [.int v14, .int (0 : Int32)]) C I12 (c_X12_smokes l D G12 mo v14 (0 : Int32) I12.2.1.2.1 (by omega)) kV_L_199 I12.2.1.2.1 trivial (by decide +kernel) dL_law__953 hl.1 rfl rfl (by decide) cd_X12_smokes ⟨Nat.le_of_ble_eq_true rfl, Nat.le_of_ble_eq_true rfl, (by show 450 + 5 * k + 2 ≤ 601024; omega), (by show 30000 + 455 * k + 12 ≤ 7293034; omega), Nat.le_of_ble_eq_true rfl⟩ (fun v17 H17 L17 I17 K17 q17 => ?_)
      have t17 : tln D H17 x = tln D H12 x := tlW I12.1 I12.2.1.1 K17 (by decide +kernel) (by decide +kernel)
      have bq17 : BQ D H17 x mo := bq12.keep I12.1 I12.2.1.1 I12.2.1.2.1 (Keep.o K17 o) (by decide +kernel) (by decide +kernel)
      have rq17 : RQ D H17 x := rq12.keep I12.1 I12.2.1.1 (Keep.o K17 o) (by decide +kernel)
      have a9_17 : (fI D H17 10 x 9).toInt = (fI D H12 10 x 9).toInt := ko_x (Keep.o K17 o) I12.2.1.1 (by decide) (by decide +kernel)
      have a8_17 : (fI D H17 10 x 8).toInt = (fI D H12 10 x 8).toInt := ko_x (Keep.o K17 o) I12.2.1.1 (by decide) (by decide +kernel)
      have b4_17 : (fI D H17 11 mo 14).toInt = (fI D H12 11 mo 14).toInt := ko_m (Keep.o K17 o) I12.2.1.2.1 (by decide) (by decide +kernel)
      have b6_17 : (fI D H17 11 mo 6).toInt = (fI D H12 11 mo 6).toInt := ko_m (Keep.o K17 o) I12.2.1.2.1 (by decide) (by decide +kernel)
      have rp17 : RP6 D H17 x := rp12.keep I12.1 I12.2.1.1 (Keep.o K17 o) (by decide +kernel)
      have ci17 := ci12.keep I12.1 I12.2.1.1 K17 (by decide +kernel)
      have mi17 := mi12.keep I12.1 I12.2.1.2.1 K17 (by decide +kernel)
      obtain ⟨r17, rfl, q17⟩ := q17
      refine lv_istore (lv' := [(6, .int r17), (5, .int r12), (0, .ref b), (1, .ref x), (2, .ref mo), (3, .ref o), (4, .int i)]) hx hb dL_law__956 hl (by decide) rfl (fun ls hl => ?_)
      refine lv_goto (tgt := 1653) hx hb dL_law__958 (by decide) ?_
      exact W.widen (by show 450 + 5 * k + 2 ≤ 450 + 5 * k + 5; omega) (by show 30000 + 455 * k + 12 ≤ 30000 + 455 * k + 455; omega) (Fin _ _ _ _ I17 (⟨by unfold tln at *; omega, bq17, rq17, ⟨⟨V, K, ci17, mi17, pv0, fun h9 => pk0 (by omega)⟩, ⟨by omega, by omega⟩, rp17⟩⟩) (lv_sub hl [2, 3, 4, 5, 6] rfl))
    · skip
      refine lv_iconst (v := 1) hx hb dL_law__948 (by decide) ?_
      refine lv_goto (tgt := 953) hx hb dL_law__949 (by decide) ?_
      have k1_18 : (1 : Int32).toInt = 1 := by decide
      refine l_E (T := TX12) (As := [.int v14, .int (1 : Int32)]) C I12 (c_X12_smokes l D G12 mo v14 (1 : Int32) I12.2.1.2.1 (by omega)) kV_L_199 I12.2.1.2.1 trivial (by decide +kernel) dL_law__953 hl.1 rfl rfl (by decide) cd_X12_smokes ⟨Nat.le_of_ble_eq_true rfl, Nat.le_of_ble_eq_true rfl, (by show 450 + 5 * k + 2 ≤ 601024; omega), (by show 30000 + 455 * k + 12 ≤ 7293034; omega), Nat.le_of_ble_eq_true rfl⟩ (fun v18 H18 L18 I18 K18 q18 => ?_)
      have t18 : tln D H18 x = tln D H12 x := tlW I12.1 I12.2.1.1 K18 (by decide +kernel) (by decide +kernel)
      have bq18 : BQ D H18 x mo := bq12.keep I12.1 I12.2.1.1 I12.2.1.2.1 (Keep.o K18 o) (by decide +kernel) (by decide +kernel)
      have rq18 : RQ D H18 x := rq12.keep I12.1 I12.2.1.1 (Keep.o K18 o) (by decide +kernel)
      have a9_18 : (fI D H18 10 x 9).toInt = (fI D H12 10 x 9).toInt := ko_x (Keep.o K18 o) I12.2.1.1 (by decide) (by decide +kernel)
      have a8_18 : (fI D H18 10 x 8).toInt = (fI D H12 10 x 8).toInt := ko_x (Keep.o K18 o) I12.2.1.1 (by decide) (by decide +kernel)
      have b4_18 : (fI D H18 11 mo 14).toInt = (fI D H12 11 mo 14).toInt := ko_m (Keep.o K18 o) I12.2.1.2.1 (by decide) (by decide +kernel)
      have b6_18 : (fI D H18 11 mo 6).toInt = (fI D H12 11 mo 6).toInt := ko_m (Keep.o K18 o) I12.2.1.2.1 (by decide) (by decide +kernel)
      have rp18 : RP6 D H18 x := rp12.keep I12.1 I12.2.1.1 (Keep.o K18 o) (by decide +kernel)
      have ci18 := ci12.keep I12.1 I12.2.1.1 K18 (by decide +kernel)
      have mi18 := mi12.keep I12.1 I12.2.1.2.1 K18 (by decide +kernel)
      obtain ⟨r18, rfl, q18⟩ := q18
      refine lv_istore (lv' := [(6, .int r18), (5, .int r12), (0, .ref b), (1, .ref x), (2, .ref mo), (3, .ref o), (4, .int i)]) hx hb dL_law__956 hl (by decide) rfl (fun ls hl => ?_)
      refine lv_goto (tgt := 1653) hx hb dL_law__958 (by decide) ?_
      exact W.widen (by show 450 + 5 * k + 2 ≤ 450 + 5 * k + 5; omega) (by show 30000 + 455 * k + 12 ≤ 30000 + 455 * k + 455; omega) (Fin _ _ _ _ I18 (⟨by unfold tln at *; omega, bq18, rq18, ⟨⟨V, K, ci18, mi18, pv0, fun h9 => pk0 (by omega)⟩, ⟨by omega, by omega⟩, rp18⟩⟩) (lv_sub hl [2, 3, 4, 5, 6] rfl))

set_option maxRecDepth 100000 in
set_option maxHeartbeats 4000000 in
theorem lc_22 {p : Program} {l : Launch} {e : Env} {s : State} {m : MethodId} {below : List Frame} {meth : Method} {c : Code} {b L : Nat} {xs : Nat → Int32} {D : DD} {G : Nat → Nat} {H : Heap} {locs : List Loc} {ls : Array Slot} {i : Int32} {k x mo o : Nat} {Q : State → Prop} (hl0 : l.stackTraces = false) (C : Cx D G p s m #[.ref b] meth c RL code 7) (hX : va_X b L xs s s.heap) (hbl : b < s.heap.size) (I : Iv D G s.heap H locs x mo o) (tp : tln D H x = (fI D H 11 mo 9).toInt ∧ BQ D H x mo ∧ RQ D H x ∧ VQ D H x mo) (hi : 0 ≤ i.toInt ∧ i.toInt + 6 ≤ L) (hL : L ≤ 3072) (hk : k ≤ 511) (hl : lv_has ls 7 [(0, .ref b), (1, .ref x), (2, .ref mo), (3, .ref o), (4, .int i)])
    (Fin : ∀ G' H' locs' ls', Iv D G' s.heap H' locs' x mo o → tln D H' x = (fI D H' 11 mo 9).toInt ∧ BQ D H' x mo ∧ RQ D H' x ∧ VQ D H' x mo → lv_has ls' 7 [(0, .ref b), (1, .ref x), (2, .ref mo), (3, .ref o), (4, .int i)] → W p l e room_1 s m #[.ref b] below meth c H' locs' (450 + 5 * k + 5) (30000 + 455 * k + 455) Q (F0 m 1653 ls' [])) : W p l e room_1 s m #[.ref b] below meth c H locs (450 + 5 * k) (30000 + 455 * k) Q (F0 m 961 ls []) := by
  have hx := C.1
  have hb := C.2.1
  have hbA : ¬ s.heap.size ≤ b := by omega
  have tp0 := tp
  obtain ⟨tp, bq0, rq0, vq0⟩ := tp
  obtain ⟨⟨V, K, ci0, mi0, pv0, pk0⟩, ⟨wf0, if0⟩, rp0⟩ := vq0
  refine lv_aload_n hx hb dL_law__961 rfl (lv_at hl 1 rfl) ?_
  refine lv_aload_n hx hb dL_law__962 rfl (lv_at hl 0 rfl) ?_
  refine lv_iload hx hb dL_law__963 (lv_at hl 4 rfl) ?_
  refine lv_iconst (v := 1) hx hb dL_law__965 (by decide) ?_
  refine lv_iadd hx hb dL_law__966 ?_
  refine lv_topi (fun v1 ev1 => ?_)
  have kv1 : (1 : Int32).toInt = 1 := by decide
  have fv1 : v1.toInt = i.toInt + 1 := by rw [ev1]; exact i_addc kv1 (by omega) (by omega)
  refine va_sld (A := fun q => s.heap.size ≤ q) hx hb hX hbl hbA I.S (i_vin (by omega) (by omega)) dL_law__967 ?_
  refine lv_topi (fun v2 ev2 => ?_)
  refine lv_aload_n hx hb dL_law__968 rfl (lv_at hl 3 rfl) ?_
  refine l_W (As := [.ref x, .int v2, .ref o]) hl0 C I (c_L_look l D G x v2 o I.2.1.1 I.2.1.2.2) kw_200 trivial (by decide +kernel) (by decide +kernel) dL_law__969 hl.1 cdL_look ⟨Nat.le_of_ble_eq_true rfl, Nat.le_of_ble_eq_true rfl, (by show 450 + 5 * k + 2 ≤ 601024; omega), (by show 30000 + 455 * k + 12 ≤ 7293034; omega), Nat.le_of_ble_eq_true rfl⟩ (fun r3 G3 H3 L3 I3 C m3 t3 K3 => ?_)
  have m3 := congrArg Int32.toInt m3
  have a9_3 : (fI D H3 10 x 9).toInt = (fI D H 10 x 9).toInt := ko_x K3 I.2.1.1 (by decide) (by decide +kernel)
  have a8_3 : (fI D H3 10 x 8).toInt = (fI D H 10 x 8).toInt := ko_x K3 I.2.1.1 (by decide) (by decide +kernel)
  have b4_3 : (fI D H3 11 mo 14).toInt = (fI D H 11 mo 14).toInt := ko_m K3 I.2.1.2.1 (by decide) (by decide +kernel)
  have b6_3 : (fI D H3 11 mo 6).toInt = (fI D H 11 mo 6).toInt := ko_m K3 I.2.1.2.1 (by decide) (by decide +kernel)
  have rp3 : RP6 D H3 x := rp0.keep I.1 I.2.1.1 K3 (by decide +kernel)
  have ci3 := ci0.keepO I.1 I.2.1.1 I.2.1.2.2 I.2.2.1.lt K3
  have mi3 := mi0.keepO I.1 I.2.1.2.1 I.2.1.2.2 I.2.2.1.lt K3
  have bq3 : BQ D H3 x mo := bq0.keep I.1 I.2.1.1 I.2.1.2.1 K3 (by decide +kernel) (by decide +kernel)
  have rq3 : RQ D H3 x := rq0.keep I.1 I.2.1.1 K3 (by decide +kernel)
  have t3 : tln D H3 x = 0 := t3
  refine lv_istore (lv' := [(5, .int r3), (0, .ref b), (1, .ref x), (2, .ref mo), (3, .ref o), (4, .int i)]) hx hb dL_law__972 hl (by decide) rfl (fun ls hl => ?_)
  refine lv_aload_n hx hb dL_law__974 rfl (lv_at hl 3 rfl) ?_
  refine lv_aload_n hx hb dL_law__975 rfl (lv_at hl 1 rfl) ?_
  refine lv_iload hx hb dL_law__976 (lv_at hl 5 rfl) ?_
  refine lv_iconst (v := 1) hx hb dL_law__978 (by decide) ?_
  refine lv_iadd hx hb dL_law__979 ?_
  refine lv_topi (fun v4 ev4 => ?_)
  have kv4 : (1 : Int32).toInt = 1 := by decide
  have fv4 : v4.toInt = i.toInt + 1 := by rw [ev4]; exact i_addc kv4 (by omega) (by omega)
  refine va_sld (A := fun q => s.heap.size ≤ q) hx hb hX hbl hbA I3.S (i_vin (by omega) (by omega)) dL_law__980 ?_
  refine lv_topi (fun v5 ev5 => ?_)
  refine l_E (T := TX12) (As := [.int v5]) C I3 (c_X12_look l D G3 mo v5 I3.2.1.2.1) kV_L_202 I3.2.1.2.1 trivial (by decide +kernel) dL_law__981 hl.1 rfl rfl (by decide) cd_X12_look ⟨Nat.le_of_ble_eq_true rfl, Nat.le_of_ble_eq_true rfl, (by show 450 + 5 * k + 2 ≤ 601024; omega), (by show 30000 + 455 * k + 12 ≤ 7293034; omega), Nat.le_of_ble_eq_true rfl⟩ (fun v6 H6 L6 I6 K6 q6 => ?_)
  have t6 : tln D H6 x = tln D H3 x := tlW I3.1 I3.2.1.1 K6 (by decide +kernel) (by decide +kernel)
  have bq6 : BQ D H6 x mo := bq3.keep I3.1 I3.2.1.1 I3.2.1.2.1 (Keep.o K6 o) (by decide +kernel) (by decide +kernel)
  have rq6 : RQ D H6 x := rq3.keep I3.1 I3.2.1.1 (Keep.o K6 o) (by decide +kernel)
  have a9_6 : (fI D H6 10 x 9).toInt = (fI D H3 10 x 9).toInt := ko_x (Keep.o K6 o) I3.2.1.1 (by decide) (by decide +kernel)
  have a8_6 : (fI D H6 10 x 8).toInt = (fI D H3 10 x 8).toInt := ko_x (Keep.o K6 o) I3.2.1.1 (by decide) (by decide +kernel)
  have b4_6 : (fI D H6 11 mo 14).toInt = (fI D H3 11 mo 14).toInt := ko_m (Keep.o K6 o) I3.2.1.2.1 (by decide) (by decide +kernel)
  have b6_6 : (fI D H6 11 mo 6).toInt = (fI D H3 11 mo 6).toInt := ko_m (Keep.o K6 o) I3.2.1.2.1 (by decide) (by decide +kernel)
  have rp6 : RP6 D H6 x := rp3.keep I3.1 I3.2.1.1 (Keep.o K6 o) (by decide +kernel)
  have ci6 := ci3.keep I3.1 I3.2.1.1 K6 (by decide +kernel)
  have mi6 := mi3.keep I3.1 I3.2.1.2.1 K6 (by decide +kernel)
  obtain ⟨r6, rfl, q6⟩ := q6
  refine lv_istore (lv' := [(6, .int r6), (5, .int r3), (0, .ref b), (1, .ref x), (2, .ref mo), (3, .ref o), (4, .int i)]) hx hb dL_law__984 hl (by decide) rfl (fun ls hl => ?_)
  refine lv_goto (tgt := 1653) hx hb dL_law__986 (by decide) ?_
  exact W.widen (by show 450 + 5 * k + 2 ≤ 450 + 5 * k + 5; omega) (by show 30000 + 455 * k + 12 ≤ 30000 + 455 * k + 455; omega) (Fin _ _ _ _ I6 (⟨by unfold tln at *; omega, bq6, rq6, ⟨⟨V, K, ci6, mi6, pv0, fun h9 => pk0 (by omega)⟩, ⟨by omega, by omega⟩, rp6⟩⟩) (lv_sub hl [2, 3, 4, 5, 6] rfl))

set_option maxRecDepth 100000 in
set_option maxHeartbeats 4000000 in
theorem lc_23 {p : Program} {l : Launch} {e : Env} {s : State} {m : MethodId} {below : List Frame} {meth : Method} {c : Code} {b L : Nat} {xs : Nat → Int32} {D : DD} {G : Nat → Nat} {H : Heap} {locs : List Loc} {ls : Array Slot} {i : Int32} {k x mo o : Nat} {Q : State → Prop} (hl0 : l.stackTraces = false) (C : Cx D G p s m #[.ref b] meth c RL code 7) (hX : va_X b L xs s s.heap) (hbl : b < s.heap.size) (I : Iv D G s.heap H locs x mo o) (tp : tln D H x = (fI D H 11 mo 9).toInt ∧ BQ D H x mo ∧ RQ D H x ∧ VQ D H x mo) (hi : 0 ≤ i.toInt ∧ i.toInt + 6 ≤ L) (hL : L ≤ 3072) (hk : k ≤ 511) (hl : lv_has ls 7 [(0, .ref b), (1, .ref x), (2, .ref mo), (3, .ref o), (4, .int i)])
    (Fin : ∀ G' H' locs' ls', Iv D G' s.heap H' locs' x mo o → tln D H' x = (fI D H' 11 mo 9).toInt ∧ BQ D H' x mo ∧ RQ D H' x ∧ VQ D H' x mo → lv_has ls' 7 [(0, .ref b), (1, .ref x), (2, .ref mo), (3, .ref o), (4, .int i)] → W p l e room_1 s m #[.ref b] below meth c H' locs' (450 + 5 * k + 5) (30000 + 455 * k + 455) Q (F0 m 1653 ls' [])) : W p l e room_1 s m #[.ref b] below meth c H locs (450 + 5 * k) (30000 + 455 * k) Q (F0 m 989 ls []) := by
  have hx := C.1
  have hb := C.2.1
  have hbA : ¬ s.heap.size ≤ b := by omega
  have tp0 := tp
  obtain ⟨tp, bq0, rq0, vq0⟩ := tp
  obtain ⟨⟨V, K, ci0, mi0, pv0, pk0⟩, ⟨wf0, if0⟩, rp0⟩ := vq0
  refine lv_aload_n hx hb dL_law__989 rfl (lv_at hl 1 rfl) ?_
  refine lv_aload_n hx hb dL_law__990 rfl (lv_at hl 0 rfl) ?_
  refine lv_iload hx hb dL_law__991 (lv_at hl 4 rfl) ?_
  refine lv_iconst (v := 1) hx hb dL_law__993 (by decide) ?_
  refine lv_iadd hx hb dL_law__994 ?_
  refine lv_topi (fun v1 ev1 => ?_)
  have kv1 : (1 : Int32).toInt = 1 := by decide
  have fv1 : v1.toInt = i.toInt + 1 := by rw [ev1]; exact i_addc kv1 (by omega) (by omega)
  refine va_sld (A := fun q => s.heap.size ≤ q) hx hb hX hbl hbA I.S (i_vin (by omega) (by omega)) dL_law__995 ?_
  refine lv_topi (fun v2 ev2 => ?_)
  refine lv_aload_n hx hb dL_law__996 rfl (lv_at hl 3 rfl) ?_
  refine l_W (As := [.ref x, .int v2, .ref o]) hl0 C I (c_L_window l D G x v2 o I.2.1.1 I.2.1.2.2) kw_203 trivial (by decide +kernel) (by decide +kernel) dL_law__997 hl.1 cdL_window ⟨Nat.le_of_ble_eq_true rfl, Nat.le_of_ble_eq_true rfl, (by show 450 + 5 * k + 1 ≤ 601024; omega), (by show 30000 + 455 * k + 6 ≤ 7293034; omega), Nat.le_of_ble_eq_true rfl⟩ (fun r3 G3 H3 L3 I3 C m3 t3 K3 => ?_)
  have m3 := congrArg Int32.toInt m3
  have a9_3 : (fI D H3 10 x 9).toInt = (fI D H 10 x 9).toInt := ko_x K3 I.2.1.1 (by decide) (by decide +kernel)
  have a8_3 : (fI D H3 10 x 8).toInt = (fI D H 10 x 8).toInt := ko_x K3 I.2.1.1 (by decide) (by decide +kernel)
  have b4_3 : (fI D H3 11 mo 14).toInt = (fI D H 11 mo 14).toInt := ko_m K3 I.2.1.2.1 (by decide) (by decide +kernel)
  have b6_3 : (fI D H3 11 mo 6).toInt = (fI D H 11 mo 6).toInt := ko_m K3 I.2.1.2.1 (by decide) (by decide +kernel)
  have rp3 : RP6 D H3 x := rp0.keep I.1 I.2.1.1 K3 (by decide +kernel)
  have ci3 := ci0.keepO I.1 I.2.1.1 I.2.1.2.2 I.2.2.1.lt K3
  have mi3 := mi0.keepO I.1 I.2.1.2.1 I.2.1.2.2 I.2.2.1.lt K3
  have bq3 : BQ D H3 x mo := bq0.keep I.1 I.2.1.1 I.2.1.2.1 K3 (by decide +kernel) (by decide +kernel)
  have rq3 : RQ D H3 x := rq0.keep I.1 I.2.1.1 K3 (by decide +kernel)
  have t3 : tln D H3 x = tln D H x := t3
  refine lv_istore (lv' := [(5, .int r3), (0, .ref b), (1, .ref x), (2, .ref mo), (3, .ref o), (4, .int i)]) hx hb dL_law__1000 hl (by decide) rfl (fun ls hl => ?_)
  refine lv_aload_n hx hb dL_law__1002 rfl (lv_at hl 3 rfl) ?_
  refine lv_aload_n hx hb dL_law__1003 rfl (lv_at hl 1 rfl) ?_
  refine lv_iload hx hb dL_law__1004 (lv_at hl 5 rfl) ?_
  refine lv_iconst (v := 1) hx hb dL_law__1006 (by decide) ?_
  refine lv_iadd hx hb dL_law__1007 ?_
  refine lv_topi (fun v4 ev4 => ?_)
  have kv4 : (1 : Int32).toInt = 1 := by decide
  have fv4 : v4.toInt = i.toInt + 1 := by rw [ev4]; exact i_addc kv4 (by omega) (by omega)
  refine va_sld (A := fun q => s.heap.size ≤ q) hx hb hX hbl hbA I3.S (i_vin (by omega) (by omega)) dL_law__1008 ?_
  refine lv_topi (fun v5 ev5 => ?_)
  refine l_E (T := TX12) (As := [.int v5]) C I3 (c_X12_window l D G3 mo v5 I3.2.1.2.1) kV_L_205 I3.2.1.2.1 trivial (by decide +kernel) dL_law__1009 hl.1 rfl rfl (by decide) cd_X12_window ⟨Nat.le_of_ble_eq_true rfl, Nat.le_of_ble_eq_true rfl, (by show 450 + 5 * k + 1 ≤ 601024; omega), (by show 30000 + 455 * k + 6 ≤ 7293034; omega), Nat.le_of_ble_eq_true rfl⟩ (fun v6 H6 L6 I6 K6 q6 => ?_)
  have t6 : tln D H6 x = tln D H3 x := tlW I3.1 I3.2.1.1 K6 (by decide +kernel) (by decide +kernel)
  have m6 : (fI D H6 11 mo 9).toInt = (fI D H3 11 mo 9).toInt := congrArg Int32.toInt (K6.fI I3.2.1.2.1 rfl (by decide) (by decide +kernel))
  have bq6 : BQ D H6 x mo := bq3.keep I3.1 I3.2.1.1 I3.2.1.2.1 (Keep.o K6 o) (by decide +kernel) (by decide +kernel)
  have rq6 : RQ D H6 x := rq3.keep I3.1 I3.2.1.1 (Keep.o K6 o) (by decide +kernel)
  have a9_6 : (fI D H6 10 x 9).toInt = (fI D H3 10 x 9).toInt := ko_x (Keep.o K6 o) I3.2.1.1 (by decide) (by decide +kernel)
  have a8_6 : (fI D H6 10 x 8).toInt = (fI D H3 10 x 8).toInt := ko_x (Keep.o K6 o) I3.2.1.1 (by decide) (by decide +kernel)
  have b4_6 : (fI D H6 11 mo 14).toInt = (fI D H3 11 mo 14).toInt := ko_m (Keep.o K6 o) I3.2.1.2.1 (by decide) (by decide +kernel)
  have b6_6 : (fI D H6 11 mo 6).toInt = (fI D H3 11 mo 6).toInt := ko_m (Keep.o K6 o) I3.2.1.2.1 (by decide) (by decide +kernel)
  have rp6 : RP6 D H6 x := rp3.keep I3.1 I3.2.1.1 (Keep.o K6 o) (by decide +kernel)
  have ci6 := ci3.keep I3.1 I3.2.1.1 K6 (by decide +kernel)
  have mi6 := mi3.keep I3.1 I3.2.1.2.1 K6 (by decide +kernel)
  obtain ⟨r6, rfl, q6⟩ := q6
  refine lv_istore (lv' := [(6, .int r6), (5, .int r3), (0, .ref b), (1, .ref x), (2, .ref mo), (3, .ref o), (4, .int i)]) hx hb dL_law__1012 hl (by decide) rfl (fun ls hl => ?_)
  refine lv_goto (tgt := 1653) hx hb dL_law__1014 (by decide) ?_
  exact W.widen (by show 450 + 5 * k + 1 ≤ 450 + 5 * k + 5; omega) (by show 30000 + 455 * k + 6 ≤ 30000 + 455 * k + 455; omega) (Fin _ _ _ _ I6 (⟨by unfold tln at *; omega, bq6, rq6, ⟨⟨V, K, ci6, mi6, pv0, fun h9 => pk0 (by omega)⟩, ⟨by omega, by omega⟩, rp6⟩⟩) (lv_sub hl [2, 3, 4, 5, 6] rfl))
